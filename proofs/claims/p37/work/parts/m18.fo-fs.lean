section
/-! BOTH SIDES: years in thought, what rests on them -/
theorem F_ys_e {V : Nat → (Nat → Int) → Int} {S : q_M} (h : q_ivS S) : ∀ k : Nat, F_ys V S k = G_ys V S k ∧ q_ivS (G_ys V S k) ∧ F_n (G_ys V S k) = F_n S
  | 0 => ⟨rfl, h, rfl⟩
  | k + 1 => by
    have ih := F_ys_e (V := V) h k
    have e := F_year_e (V := V) ih.2.1
    rw [F_ys, G_ys, ih.1, e.1]
    exact ⟨rfl, e.2.1, e.2.2.trans ih.2.2⟩
theorem F_till_e {V : Nat → (Nat → Int) → Int} {S : q_M} {p : Nat} {b : Int} (h : q_ivS S) : ∀ j y : Nat, F_till V S p b j y = G_till V S p b j y
  | 0, y => by rw [F_till, G_till, (F_ys_e h y).1]
  | j + 1, y => by rw [F_till, G_till, (F_ys_e h y).1, F_till_e h j (y + 1)]
theorem F_fo_e {V : Nat → (Nat → Int) → Int} {S : q_M} {p : Nat} {C C2 : Nat → Int} (h : q_ivS S) : ∀ j i : Nat, (∀ k, k < i + j → C k = C2 k) → F_fo V S p C j i = G_fo V S p C2 j i
  | 0, _, _ => rfl
  | j + 1, i, hC => by
    rw [F_fo, G_fo, (F_ys_e h (i + 1)).1, hC i (by omega), F_fo_e h j (i + 1) (fun k hk => hC k (by omega))]
    by_cases c : G_ys V S (i + 1) 2 p = C2 i
    · rw [if_pos c, if_pos c.symm]
    · rw [if_neg c, if_neg (fun z => c z.symm)]
theorem F_flm_e {V : Nat → (Nat → Int) → Int} {S : q_M} {p n : Nat} (h : q_ivS S) : F_flm V S p n = G_flm V S p n := by
  funext i
  unfold F_flm G_flm
  rw [(F_ys_e h (i + 1)).1]
theorem q_ivS_lay {S : q_M} {p : Nat} {wh : Int} (h : q_ivS S) (hp : p < F_n S) : q_ivS (F_lay S p wh) ∧ F_n (F_lay S p wh) = F_n S := by
  obtain ⟨h0, h1, h2, h3⟩ := h
  have e4 : F_lay S p wh 4 = F_u (S 4) p 5 := by
    show q_upd (q_upd S 2 p wh) 4 p 5 4 = _
    rw [q_upd_r, q_upd_o (by omega)]
  have eo : ∀ k, k ≠ 2 → k ≠ 4 → F_lay S p wh k = S k := fun k k1 k2 => by
    show q_upd (q_upd S 2 p wh) 4 p 5 k = _
    rw [q_upd_o k2, q_upd_o k1]
  have en : F_n (F_lay S p wh) = F_n S := by unfold F_n; rw [eo 9 (by omega) (by omega)]
  refine ⟨?_, en⟩
  unfold q_ivS
  rw [en, e4, eo 9 (by omega) (by omega), eo 6 (by omega) (by omega), eo 5 (by omega) (by omega)]
  refine ⟨h0, fun q hq => ?_, fun c hc => ?_, fun q c hq hc hqc => ?_⟩
  · unfold F_u
    split
    · omega
    · exact h1 q hq
  · have := h2 c hc
    rw [F_cnt_u _ hp, if_neg (show ¬(5 : Int) = c by omega)]
    split <;> omega
  · unfold F_u at hqc
    by_cases e : q = p
    · rw [if_pos e] at hqc
      omega
    · rw [if_neg e] at hqc
      rw [← h3 q c hq hc hqc]
      show q_upd (q_upd S 2 p wh) 4 p 5 2 q = _
      rw [q_upd_n (by omega), q_upd_n (by omega)]
theorem F_w1_e {V : Nat → (Nat → Int) → Int} {x : Int × q_M} (h : q_ivS x.2) (hx : 0 ≤ x.1) : F_w1 V x = G_w1 V x ∧ q_ivS (G_w1 V x).2 ∧ 0 ≤ (G_w1 V x).1 ∧ F_n (G_w1 V x).2 = F_n x.2 := by
  unfold F_w1 G_w1
  have p1 : 0 ≤ x.1 * 48271 % 2147483647 := Int.emod_nonneg _ (by decide)
  have p2 : 0 ≤ x.1 * 48271 % 2147483647 * 48271 % 2147483647 := Int.emod_nonneg _ (by decide)
  generalize x.1 * 48271 % 2147483647 * 48271 % 2147483647 = w2 at p2
  generalize x.1 * 48271 % 2147483647 = w1 at p1
  have hn : 0 ≤ x.2 9 0 ∧ x.2 9 0 ≤ 5 := h.1
  by_cases c : w1 % 5 < x.2 9 0
  · rw [if_pos c]
    have l := q_ivS_lay (wh := w2 % 100) h (show (w1 % 5).toNat < F_n x.2 by unfold F_n; omega)
    have e := F_year_e (V := V) l.1
    rw [e.1]
    exact ⟨rfl, e.2.1, p2, e.2.2.trans l.2⟩
  · rw [if_neg c]
    have e := F_year_e (V := V) h
    rw [e.1]
    exact ⟨rfl, e.2.1, p2, e.2.2⟩
theorem F_wth_e {V : Nat → (Nat → Int) → Int} {S : q_M} {seed : Int} (h : q_ivS S) (hs : 0 ≤ seed) : ∀ k : Nat, F_wth V S seed k = G_wth V S seed k ∧ q_ivS (G_wth V S seed k).2 ∧ 0 ≤ (G_wth V S seed k).1
  | 0 => ⟨rfl, h, by show 0 ≤ seed + 1; omega⟩
  | k + 1 => by
    have ih := F_wth_e (V := V) (seed := seed) h hs k
    have e := F_w1_e (V := V) ih.2.1 ih.2.2
    rw [F_wth, G_wth, ih.1, e.1]
    exact ⟨rfl, e.2.1, e.2.2.1⟩
theorem F_odd_e {V : Nat → (Nat → Int) → Int} {S : q_M} {seed most : Int} (h : q_ivS S) (hs : 0 ≤ seed) : ∀ k : Nat, F_odd V S seed most k = G_odd V S seed most k
  | 0 => rfl
  | k + 1 => by rw [F_odd, G_odd, F_odd_e h hs k, (F_wth_e h (show 0 ≤ seed + k by omega) 8).1]
theorem F_till_i {V : Nat → (Nat → Int) → Int} {S : q_M} {p : Nat} {b : Int} : ∀ j y : Nat, F_till V S p b j y = -1 ∨ ((y : Int) ≤ F_till V S p b j y ∧ F_till V S p b j y ≤ ((y + j : Nat) : Int))
  | 0, y => by
    rw [F_till]
    split
    · exact Or.inr ⟨Int.le_refl _, by omega⟩
    · exact Or.inl rfl
  | j + 1, y => by
    rw [F_till]
    split
    · exact Or.inr ⟨Int.le_refl _, by omega⟩
    · rcases F_till_i (V := V) (S := S) (p := p) (b := b) j (y + 1) with z | z
      · exact Or.inl z
      · exact Or.inr (by omega)
theorem F_till_lim {V : Nat → (Nat → Int) → Int} {S : q_M} {p : Nat} {b : Int} : ∀ (j J y : Nat), j ≤ J → F_till V S p b j y = (if F_till V S p b J y ≠ -1 ∧ F_till V S p b J y ≤ ((y + j : Nat) : Int) then F_till V S p b J y else -1)
  | 0, 0, y, _ => by
    have h := F_till_i (V := V) (S := S) (p := p) (b := b) 0 y
    by_cases c : F_till V S p b 0 y = -1
    · rw [if_neg (fun z => z.1 c), c]
    · rw [if_pos ⟨c, by omega⟩]
  | 0, J + 1, y, _ => by
    have h := F_till_i (V := V) (S := S) (p := p) (b := b) J (y + 1)
    rw [F_till, F_till]
    by_cases c : F_hit (F_ys V S y 4 p) b = true
    · rw [if_pos c, if_pos c, if_pos ⟨by omega, by omega⟩]
    · rw [if_neg c, if_neg c, if_neg (by omega)]
  | j + 1, 0, y, h => absurd h (by omega)
  | j + 1, J + 1, y, hj => by
    rw [F_till, F_till]
    by_cases c : F_hit (F_ys V S y 4 p) b = true
    · rw [if_pos c, if_pos c, if_pos ⟨by omega, by omega⟩]
    · rw [if_neg c, if_neg c, F_till_lim j J (y + 1) (by omega), show y + 1 + j = y + (j + 1) by omega]
theorem F_ct_e {V : Nat → (Nat → Int) → Int} {S : q_M} {p : Nat} (h : q_ivS S) (hp : p < F_n S) : ∀ k : Nat, ((F_ct V S p k).1 = -1 ∧ (F_ct V S p k).2 = 61 ∧ (G_ct V S p k).1 = -1 ∧ (G_ct V S p k).2 = -1) ∨ ((F_ct V S p k).1 ≠ -1 ∧ F_ct V S p k = G_ct V S p k ∧ 0 ≤ (G_ct V S p k).2 ∧ (G_ct V S p k).2 ≤ 60)
  | 0 => Or.inl ⟨rfl, rfl, rfl, rfl⟩
  | k + 1 => by
    have ih := F_ct_e (V := V) h hp k
    have l := q_ivS_lay (wh := (k : Int)) h hp
    have t := F_till_i (V := V) (S := F_lay S p k) (p := p) (b := -1) 60 0
    have te := F_till_e (V := V) (p := p) (b := -1) l.1 60 0
    rw [F_ct, G_ct, ← te]
    unfold F_ctY
    have lim : ∀ f : Int, 0 < f → f ≤ 61 → F_till V (F_lay S p k) p (-1) (f - 1).toNat 0 = (if F_till V (F_lay S p k) p (-1) 60 0 ≠ -1 ∧ F_till V (F_lay S p k) p (-1) 60 0 < f then F_till V (F_lay S p k) p (-1) 60 0 else -1) := by
      intro f h1 h2
      rw [F_till_lim (f - 1).toNat 60 0 (by omega)]
      by_cases c : F_till V (F_lay S p k) p (-1) 60 0 ≠ -1 ∧ F_till V (F_lay S p k) p (-1) 60 0 < f
      · rw [if_pos c, if_pos ⟨c.1, by omega⟩]
      · rw [if_neg c, if_neg (by omega)]
    generalize F_till V (F_lay S p k) p (-1) 60 0 = T at t lim
    rcases ih with ⟨a1, a2, a3, a4⟩ | ⟨a1, a2, a3, a4⟩
    · rw [a2, if_neg (show ¬(61 : Int) = 0 by decide), lim 61 (by decide) (by decide)]
      by_cases c : T = -1
      · rw [if_neg (show ¬(T ≠ -1 ∧ T < 61) from fun z => z.1 c), if_neg (show ¬(0 : Int) ≤ -1 by decide), if_neg (show ¬(T ≠ -1 ∧ ((G_ct V S p k).1 = -1 ∨ T < (G_ct V S p k).2)) from fun z => z.1 c)]
        exact Or.inl ⟨a1, a2, a3, a4⟩
      · rw [if_pos (show T ≠ -1 ∧ T < 61 by omega), if_pos (show 0 ≤ T by omega), if_pos (show T ≠ -1 ∧ ((G_ct V S p k).1 = -1 ∨ T < (G_ct V S p k).2) from ⟨c, Or.inl a3⟩)]
        exact Or.inr ⟨by show (k : Int) ≠ -1; omega, rfl, by show 0 ≤ T; omega, by show T ≤ 60; omega⟩
    · rw [a2] at a1 ⊢
      generalize G_ct V S p k = y at a1 a3 a4
      by_cases c0 : y.2 = 0
      · rw [if_pos c0, if_neg (show ¬(0 : Int) ≤ -1 by decide), if_neg (show ¬(T ≠ -1 ∧ (y.1 = -1 ∨ T < y.2)) by omega)]
        exact Or.inr ⟨a1, rfl, a3, a4⟩
      · rw [if_neg c0, lim y.2 (by omega) (by omega)]
        by_cases c : T ≠ -1 ∧ T < y.2
        · rw [if_pos c, if_pos (show 0 ≤ T by omega), if_pos ⟨c.1, Or.inr c.2⟩]
          exact Or.inr ⟨by show (k : Int) ≠ -1; omega, rfl, by show 0 ≤ T; omega, by show T ≤ 60; omega⟩
        · rw [if_neg c, if_neg (show ¬(0 : Int) ≤ -1 by decide), if_neg (show ¬(T ≠ -1 ∧ (y.1 = -1 ∨ T < y.2)) by omega)]
          exact Or.inr ⟨a1, rfl, a3, a4⟩
theorem A_cart_e {V : Nat → (Nat → Int) → Int} {S : q_M} {p wt : Int} (h : q_ivS S) : A_cart V S p wt = B_cart V S p wt := by
  unfold A_cart B_cart
  by_cases c1 : 0 ≤ p ∧ p < S 9 0
  · have c1b : 0 ≤ p ∧ p ≤ S 9 0 - 1 := by omega
    rw [if_neg (fun z => z c1), if_neg (show ¬¬(0 ≤ p ∧ p ≤ S 9 0 - 1) from fun z => z c1b)]
    by_cases c2 : wt < 0 ∨ 1 < wt
    · rw [if_pos c2, if_pos (show ¬(0 ≤ wt ∧ wt ≤ 1) by omega)]
    · rw [if_neg c2, if_neg (show ¬¬(0 ≤ wt ∧ wt ≤ 1) by omega)]
      rcases F_ct_e (V := V) h (show p.toNat < F_n S by unfold F_n; omega) 100 with ⟨a1, a2, a3, a4⟩ | ⟨a1, a2, a3, a4⟩
      · rw [if_pos a1, a3, a4, ite_self]
      · rw [if_neg a1, a2]
  · rw [if_pos c1, if_pos (show ¬(0 ≤ p ∧ p ≤ S 9 0 - 1) by omega)]
end
section
/-! THE MODEL: calls that change the world, just so -/
/-- two things that a run comes to -/
theorem q_S_and {md d id : Nat} {as : List q_V} {g : q_G} {M : q_M} {Q1 Q2 : Option q_V → q_G → q_M → Prop} (h1 : q_S md d id as g M Q1) (h2 : q_S md d id as g M Q2) : q_S md d id as g M (fun v g M => Q1 v g M ∧ Q2 v g M) := by
  obtain ⟨f, r, e1, q1⟩ := h1
  obtain ⟨f2, r2, e2, q2⟩ := h2
  have z1 := q_run_le e1 (Nat.le_max_left f f2)
  have z2 := q_run_le e2 (Nat.le_max_right f f2)
  rw [z1] at z2
  injection z2 with z2
  subst z2
  exact ⟨_, r, z1, q1, q2⟩
/-- what is known of the model's call, and what it answers -/
theorem q_S_mi {Vt : Nat → Nat → (Nat → Int) → Int} {d tm id : Nat} {as : List q_V} {g : q_G} {M : q_M} {Q Q2 : Option q_V → q_G → q_M → Prop} (h1 : q_S 1 d id as g M (fun v _ M2 => (∃ vi, v = some (qI vi)) ∧ q_MI Vt tm M2 ∧ q_mfr M M2)) (h2 : q_S 1 d id as g M Q2) (hq : ∀ v g M2, Q2 v g M2 → q_MI Vt tm M2 → q_mfr M M2 → Q v g M2) : q_S 1 d id as g M Q :=
  q_S_mono (q_S_and h1 h2) (fun v g M2 z => hq v g M2 z.2 z.1.2.1 z.1.2.2)
def F_bd (S : q_M) (b : Nat) (w v : Int) : q_M := if w = 0 then F_move S b v else if w = 1 then q_upd S 6 b v else if w = 2 then q_upd S 7 b v else q_upd S 8 b v
def m_mv (M : q_M) (b : Nat) (v : Int) (k : Nat) : q_M := fun a i => if a = 104 ∧ i % 3 = 0 ∧ i / 3 < k ∧ M 104 (i + 2) = b then v else q_upd M 103 (4 * b) v a i
theorem m_mv_n {M : q_M} {b a i k : Nat} {v : Int} (h : a ≠ 103 ∨ i ≠ 4 * b) (h2 : a ≠ 104 ∨ i % 3 ≠ 0) : m_mv M b v k a i = M a i := by
  unfold m_mv
  rw [if_neg (by omega), q_upd_n (by omega)]
theorem mW_mv {M : q_M} {b : Nat} {v : Int} (hb : b < 5) (h5 : M 100 0 ≤ 5) (hin : ∀ i, i < 5 → -1 ≤ M 104 (3 * i + 2) ∧ M 104 (3 * i + 2) ≤ 4) : mW (m_mv M b v (M 100 0).toNat) = F_move (mW M) b v := by
  have e0 : ∀ i, m_mv M b v (M 100 0).toNat 100 i = M 100 i := fun i => m_mv_n (by omega) (by omega)
  have e1 : ∀ i, m_mv M b v (M 100 0).toNat 101 i = M 101 i := fun i => m_mv_n (by omega) (by omega)
  have e2 : ∀ i, m_mv M b v (M 100 0).toNat 102 i = M 102 i := fun i => m_mv_n (by omega) (by omega)
  have e31 : ∀ i, m_mv M b v (M 100 0).toNat 104 (3 * i + 1) = M 104 (3 * i + 1) := fun i => m_mv_n (by omega) (by omega)
  have e32 : ∀ i, m_mv M b v (M 100 0).toNat 104 (3 * i + 2) = M 104 (3 * i + 2) := fun i => m_mv_n (by omega) (by omega)
  have e41 : ∀ i, m_mv M b v (M 100 0).toNat 103 (4 * i + 1) = M 103 (4 * i + 1) := fun i => m_mv_n (by omega) (by omega)
  have e42 : ∀ i, m_mv M b v (M 100 0).toNat 103 (4 * i + 2) = M 103 (4 * i + 2) := fun i => m_mv_n (by omega) (by omega)
  have e43 : ∀ i, m_mv M b v (M 100 0).toNat 103 (4 * i + 3) = M 103 (4 * i + 3) := fun i => m_mv_n (by omega) (by omega)
  have eI : mIn (m_mv M b v (M 100 0).toNat) = mIn M := by
    funext i
    unfold mIn
    rw [e32]
  have en : F_n (mW M) = (M 100 0).toNat := rfl
  funext f i
  unfold F_move
  by_cases f2 : f = 2
  · subst f2
    show (if i < (m_mv M b v (M 100 0).toNat 100 0).toNat then m_mv M b v (M 100 0).toNat 104 (3 * i) else 0) = _
    rw [e0, en]
    by_cases c : i < (M 100 0).toNat
    · rw [if_pos c, mW_4 c, q_upd_n (by omega), mW_2 c]
      have hi := hin i (by omega)
      have e : (mIn M i = (b : Int)) ↔ (M 104 (3 * i + 2) = b) := by
        unfold mIn
        split <;> omega
      unfold m_mv
      by_cases c2 : M 104 (3 * i + 2) = b
      · rw [if_pos ⟨rfl, by omega, by omega, c2⟩, if_pos ⟨rfl, c, e.mpr c2⟩]
      · rw [if_neg (fun z => c2 z.2.2.2), if_neg (fun z => c2 (e.mp z.2.2)), q_upd_n (by omega)]
    · rw [if_neg c, if_neg (fun z => c z.2.1), q_upd_n (by omega)]
      exact (if_neg c).symm
  · rw [if_neg (fun z => f2 z.1)]
    by_cases f5 : f = 5
    · subst f5
      show (if i < 5 then m_mv M b v (M 100 0).toNat 103 (4 * i) else 0) = _
      by_cases c : i = b
      · subst c
        rw [if_pos hb, q_upd_s]
        unfold m_mv
        rw [if_neg (by omega), q_upd_s]
      · rw [q_upd_n (by omega)]
        show _ = (if i < 5 then M 103 (4 * i) else 0)
        rw [m_mv_n (by omega) (by omega)]
    · rw [q_upd_n (by omega)]
      unfold mW
      split <;> first | exact absurd rfl f2 | exact absurd rfl f5 | simp only [e0, e1, e2, e31, e41, e42, e43, eI]
def B_bdC (S : q_M) (b w v : Int) : Int := if ¬(0 ≤ b ∧ b ≤ 4) then -5 else if ¬(0 ≤ w ∧ w ≤ 3) ∨ ¬((if w = 1 then F_cnt (S 4) b (F_n S) else 0) ≤ v ∧ v ≤ (if w = 1 then 5 else 99)) then -7 else F_site S b.toNat w
def B_bdk (S : q_M) (b w v : Int) : Prop := (0 ≤ b ∧ b ≤ 4) ∧ (0 ≤ w ∧ w ≤ 3) ∧ ((if w = 1 then F_cnt (S 4) b (F_n S) else 0) ≤ v ∧ v ≤ (if w = 1 then 5 else 99))
set_option maxHeartbeats 4000000 in
theorem mx_build {d tm : Nat} {Vt : Nat → Nat → (Nat → Int) → Int} {g : q_G} {M : q_M} {b w v : Int} {Q : Option q_V → q_G → q_M → Prop} (hI : q_MI Vt tm M) (hq0 : ¬B_bdk (mW M) b w v → Q (some (qI (B_bdC (mW M) b w v))) g M) (hq1 : B_bdk (mW M) b w v → ∀ M2 : q_M, mW M2 = F_bd (mW M) b.toNat w v → (∀ a i, a ≠ 103 → a ≠ 104 → M2 a i = M a i) → Q (some (qI (B_bdC (mW M) b w v))) g M2) : q_S 1 (d + 10) 119 [qR 6 100, qI b, qI w, qI v] g M Q := by
  have n0 := hI.1.1
  have hin := hI.1.2.2.2.2.2.2.1
  have ec : ∀ B : Nat, F_cnt (mW M 4) B (F_n (mW M)) = F_cnt (mIn M) B (M 100 0).toNat := fun B => F_cnt_cong _ (fun k hk => mW_4 hk)
  rw [s_X6_build]
  have n0a := n0.1
  have n0b := n0.2
  by_cases c1 : 0 ≤ b ∧ b ≤ 4
  · obtain ⟨B, rfl⟩ : ∃ B : Nat, b = B := ⟨b.toNat, by omega⟩
    have hB : B < 5 := by omega
    unfold B_bdC at hq0 hq1
    rw [if_neg (show ¬¬(0 ≤ (B : Int) ∧ (B : Int) ≤ 4) from fun z => z c1)] at hq0 hq1
    unfold B_bdk at hq0 hq1
    rw [ec] at hq0 hq1
    rw [Int.toNat_natCast] at hq0 hq1
    have e := F_ones_bits (f := mIn M) (b := B) (M 100 0).toNat (by omega)
    have hcl := F_cnt_le (mIn M) B (M 100 0).toNat
    generalize hcn : F_cnt (mIn M) B (M 100 0).toNat = cn at *
    have done : ∀ (W : Nat) (l4 : Int), w = W → W ≤ 3 → ((if w = 1 then cn else 0) ≤ v ∧ v ≤ (if w = 1 then 5 else 99)) → q_T 1 (d + 10) qP_X6_build 61 [] [qR 6 100, qI B, qI w, qI v, qI l4, qS 0, qS 0] [] g M Q := by
      intro W l4 hW h3 hv
      have t4 : (4 * (B : Int) + w).toNat = 4 * B + W := by omega
      have hk := hq1 ⟨c1, by omega, hv⟩
      rw [if_neg (show ¬(¬(0 ≤ w ∧ w ≤ 3) ∨ ¬((if w = 1 then cn else 0) ≤ v ∧ v ≤ (if w = 1 then 5 else 99))) from fun z => z.elim (fun z => z (by omega)) (fun z => z hv))] at hk
      rw [b_X6_build_61]
      simp (disch := omega) only [b_X6_build_0, x_loadI_1, y_if_ne_t, y_if_ne_f, b_X6_build_7, x_iconst, x_ret0, b_X6_build_10, x_loadI_2, y_ic_ne_t, y_ic_ne_f, b_X6_build_15, x_loadR_0, x_loadS_0, x_goto, b_X6_build_26, b_X6_build_27, x_storeI_4, y_if_eq_t, y_if_eq_f, b_X6_build_38, x_loadI_3, x_loadI_4, b_X6_build_46, b_X6_build_50, b_X6_build_52, b_X6_build_58, b_X6_build_61, f_6_3, x_imul, x_iadd, y_iald_35, y_iald_40, x_storeI_5, y_iast_35, y_iast_40, x_storeI_6, x_loadI_6, f_6_0, y_ic_ge_t, y_ic_ge_f, b_X6_build_96, b_X6_build_100, f_6_4, b_X6_build_115, b_X6_build_125, x_iinc_6, b_X6_build_131, x_loadI_5, q_isL_I, q_isL_R, q_isL_S, true_and, and_true, and_self, List.length_nil, List.length_cons, Nat.zero_add, x_K, x_Kn, Int.reduceToNat, Nat.reduceAdd, Nat.reduceMul, Nat.reduceLeDiff, Nat.reduceLT, Nat.zero_le, Int.reduceAdd, Int.reduceSub, Int.reduceMul, Int.reduceNeg, q_add_e, q_sub_e, q_mul_e, q_neg_e, q_upd_s, q_upd_n, zr_shr0, zr_shr1, zr_shr2, zr_shr3, zr_shr4, zr_and, zr_dyn8, zr_or, zr_shl, q_cpy_n, y_cpy26, t4]
      have fin : ∀ M2 : q_M, mW M2 = F_bd (mW M) B w v → (∀ a i, a ≠ 103 → a ≠ 104 → M2 a i = M a i) → Q (some (qI (M 103 (4 * B + W)))) g M2 := by
        intro M2 h1 h2
        have es : F_site (mW M) B w = M 103 (4 * B + W) := by
          unfold F_site
          rcases (show W = 0 ∨ W = 1 ∨ W = 2 ∨ W = 3 by omega) with e | e | e | e
          · rw [if_pos (by omega), mW_5 hB, e]; rfl
          · rw [if_neg (by omega), if_pos (by omega), mW_6 hB, e]
          · rw [if_neg (by omega), if_neg (by omega), if_pos (by omega), mW_7 hB, e]
          · rw [if_neg (by omega), if_neg (by omega), if_neg (by omega), if_pos (by omega), mW_8 hB, e]
        rw [← es]
        exact hk M2 h1 h2
      by_cases k0 : w = 0
      · have eW : W = 0 := by omega
        subst eW
        have loop : ∀ j p : Nat, p + j = (M 100 0).toNat → ∀ l4 : Int, q_T 1 (d + 10) qP_X6_build 87 [] [qR 6 100, qI B, qI w, qI v, qI l4, qI (M 103 (4 * B + 0)), qI p] [] g (m_mv M B v p) Q := by
          intro j
          induction j with
          | zero =>
            intro p hp l4
            have ep : p = (M 100 0).toNat := by omega
            have e0 : m_mv M B v p 100 0 = M 100 0 := m_mv_n (by omega) (by omega)
            rw [b_X6_build_87]
            simp (disch := omega) only [b_X6_build_0, x_loadI_1, y_if_ne_t, y_if_ne_f, b_X6_build_7, x_iconst, x_ret0, b_X6_build_10, x_loadI_2, y_ic_ne_t, y_ic_ne_f, b_X6_build_15, x_loadR_0, x_loadS_0, x_goto, b_X6_build_26, b_X6_build_27, x_storeI_4, y_if_eq_t, y_if_eq_f, b_X6_build_38, x_loadI_3, x_loadI_4, b_X6_build_46, b_X6_build_50, b_X6_build_52, b_X6_build_58, b_X6_build_61, f_6_3, x_imul, x_iadd, y_iald_35, y_iald_40, x_storeI_5, y_iast_35, y_iast_40, x_storeI_6, x_loadI_6, f_6_0, y_ic_ge_t, y_ic_ge_f, b_X6_build_96, b_X6_build_100, f_6_4, b_X6_build_115, b_X6_build_125, x_iinc_6, b_X6_build_131, x_loadI_5, q_isL_I, q_isL_R, q_isL_S, true_and, and_true, and_self, List.length_nil, List.length_cons, Nat.zero_add, x_K, x_Kn, Int.reduceToNat, Nat.reduceAdd, Nat.reduceMul, Nat.reduceLeDiff, Nat.reduceLT, Nat.zero_le, Int.reduceAdd, Int.reduceSub, Int.reduceMul, Int.reduceNeg, q_add_e, q_sub_e, q_mul_e, q_neg_e, q_upd_s, q_upd_n, zr_shr0, zr_shr1, zr_shr2, zr_shr3, zr_shr4, zr_and, zr_dyn8, zr_or, zr_shl, q_cpy_n, y_cpy26, e0]
            rw [ep]
            exact fin _ (by rw [mW_mv hB n0b hin]; unfold F_bd; rw [if_pos k0]) (fun a i h1 h2 => m_mv_n (by omega) (by omega))
          | succ j ih =>
            intro p hp l4
            have e0 : m_mv M B v p 100 0 = M 100 0 := m_mv_n (by omega) (by omega)
            have e2 : m_mv M B v p 104 (3 * p + 2) = M 104 (3 * p + 2) := m_mv_n (by omega) (by omega)
            have nxt := ih (p + 1) (by omega)
            rw [b_X6_build_87]
            by_cases k1 : M 104 (3 * p + 2) = B
            · have eM : q_upd (m_mv M B v p) 104 (3 * p) v = m_mv M B v (p + 1) := by
                funext a i
                by_cases z : a = 104 ∧ i = 3 * p
                · obtain ⟨rfl, rfl⟩ := z
                  rw [q_upd_s]
                  unfold m_mv
                  rw [if_pos ⟨rfl, by omega, by omega, k1⟩]
                · rw [q_upd_n (by omega)]
                  unfold m_mv
                  by_cases y : a = 104 ∧ i % 3 = 0 ∧ i / 3 < p ∧ M 104 (i + 2) = B
                  · rw [if_pos y, if_pos ⟨y.1, y.2.1, by omega, y.2.2.2⟩]
                  · rw [if_neg y, if_neg (fun x => y ⟨x.1, x.2.1, by omega, x.2.2.2⟩)]
              simp (disch := omega) only [b_X6_build_0, x_loadI_1, y_if_ne_t, y_if_ne_f, b_X6_build_7, x_iconst, x_ret0, b_X6_build_10, x_loadI_2, y_ic_ne_t, y_ic_ne_f, b_X6_build_15, x_loadR_0, x_loadS_0, x_goto, b_X6_build_26, b_X6_build_27, x_storeI_4, y_if_eq_t, y_if_eq_f, b_X6_build_38, x_loadI_3, x_loadI_4, b_X6_build_46, b_X6_build_50, b_X6_build_52, b_X6_build_58, b_X6_build_61, f_6_3, x_imul, x_iadd, y_iald_35, y_iald_40, x_storeI_5, y_iast_35, y_iast_40, x_storeI_6, x_loadI_6, f_6_0, y_ic_ge_t, y_ic_ge_f, b_X6_build_96, b_X6_build_100, f_6_4, b_X6_build_115, b_X6_build_125, x_iinc_6, b_X6_build_131, x_loadI_5, q_isL_I, q_isL_R, q_isL_S, true_and, and_true, and_self, List.length_nil, List.length_cons, Nat.zero_add, x_K, x_Kn, Int.reduceToNat, Nat.reduceAdd, Nat.reduceMul, Nat.reduceLeDiff, Nat.reduceLT, Nat.zero_le, Int.reduceAdd, Int.reduceSub, Int.reduceMul, Int.reduceNeg, q_add_e, q_sub_e, q_mul_e, q_neg_e, q_upd_s, q_upd_n, zr_shr0, zr_shr1, zr_shr2, zr_shr3, zr_shr4, zr_and, zr_dyn8, zr_or, zr_shl, q_cpy_n, y_cpy26, tn_30, tn_32, e0, e2]
              rw [eM]
              exact nxt _
            · have eM : m_mv M B v p = m_mv M B v (p + 1) := by
                funext a i
                unfold m_mv
                by_cases y : a = 104 ∧ i % 3 = 0 ∧ i / 3 < p ∧ M 104 (i + 2) = B
                · rw [if_pos y, if_pos ⟨y.1, y.2.1, by omega, y.2.2.2⟩]
                · rw [if_neg y, if_neg (fun x => y ⟨x.1, x.2.1, by
                    have x2 := x.2.2.1
                    by_cases q : i / 3 = p
                    · exfalso
                      have qi : i = 3 * p := by omega
                      rw [qi] at x
                      exact k1 x.2.2.2
                    · omega, x.2.2.2⟩)]
              simp (disch := omega) only [b_X6_build_0, x_loadI_1, y_if_ne_t, y_if_ne_f, b_X6_build_7, x_iconst, x_ret0, b_X6_build_10, x_loadI_2, y_ic_ne_t, y_ic_ne_f, b_X6_build_15, x_loadR_0, x_loadS_0, x_goto, b_X6_build_26, b_X6_build_27, x_storeI_4, y_if_eq_t, y_if_eq_f, b_X6_build_38, x_loadI_3, x_loadI_4, b_X6_build_46, b_X6_build_50, b_X6_build_52, b_X6_build_58, b_X6_build_61, f_6_3, x_imul, x_iadd, y_iald_35, y_iald_40, x_storeI_5, y_iast_35, y_iast_40, x_storeI_6, x_loadI_6, f_6_0, y_ic_ge_t, y_ic_ge_f, b_X6_build_96, b_X6_build_100, f_6_4, b_X6_build_115, b_X6_build_125, x_iinc_6, b_X6_build_131, x_loadI_5, q_isL_I, q_isL_R, q_isL_S, true_and, and_true, and_self, List.length_nil, List.length_cons, Nat.zero_add, x_K, x_Kn, Int.reduceToNat, Nat.reduceAdd, Nat.reduceMul, Nat.reduceLeDiff, Nat.reduceLT, Nat.zero_le, Int.reduceAdd, Int.reduceSub, Int.reduceMul, Int.reduceNeg, q_add_e, q_sub_e, q_mul_e, q_neg_e, q_upd_s, q_upd_n, zr_shr0, zr_shr1, zr_shr2, zr_shr3, zr_shr4, zr_and, zr_dyn8, zr_or, zr_shl, q_cpy_n, y_cpy26, tn_30, tn_32, e0, e2]
              rw [eM]
              exact nxt _
        have l0 := loop (M 100 0).toNat 0 (by omega) l4
        have eM0 : m_mv M B v 0 = q_upd M 103 (4 * B + 0) v := by
          funext a i
          unfold m_mv
          rw [if_neg (by omega), Nat.add_zero]
        rw [eM0] at l0
        exact l0
      · rw [b_X6_build_87]
        have fr : ∀ a i, a ≠ 103 → a ≠ 104 → q_upd M 103 (4 * B + W) v a i = M a i := fun a i h1 h2 => q_upd_n (by omega)
        have eM : mW (q_upd M 103 (4 * B + W) v) = F_bd (mW M) B w v := by
          unfold F_bd
          rcases (show W = 1 ∨ W = 2 ∨ W = 3 by omega) with e | e | e
          · rw [if_neg k0, if_pos (by omega), e, mW_up6 hB]
          · rw [if_neg k0, if_neg (by omega), if_pos (by omega), e, mW_up7 hB]
          · rw [if_neg k0, if_neg (by omega), if_neg (by omega), e, mW_up8 hB]
        by_cases z : M 100 0 = 0
        · simp (disch := omega) only [b_X6_build_0, x_loadI_1, y_if_ne_t, y_if_ne_f, b_X6_build_7, x_iconst, x_ret0, b_X6_build_10, x_loadI_2, y_ic_ne_t, y_ic_ne_f, b_X6_build_15, x_loadR_0, x_loadS_0, x_goto, b_X6_build_26, b_X6_build_27, x_storeI_4, y_if_eq_t, y_if_eq_f, b_X6_build_38, x_loadI_3, x_loadI_4, b_X6_build_46, b_X6_build_50, b_X6_build_52, b_X6_build_58, b_X6_build_61, f_6_3, x_imul, x_iadd, y_iald_35, y_iald_40, x_storeI_5, y_iast_35, y_iast_40, x_storeI_6, x_loadI_6, f_6_0, y_ic_ge_t, y_ic_ge_f, b_X6_build_96, b_X6_build_100, f_6_4, b_X6_build_115, b_X6_build_125, x_iinc_6, b_X6_build_131, x_loadI_5, q_isL_I, q_isL_R, q_isL_S, true_and, and_true, and_self, List.length_nil, List.length_cons, Nat.zero_add, x_K, x_Kn, Int.reduceToNat, Nat.reduceAdd, Nat.reduceMul, Nat.reduceLeDiff, Nat.reduceLT, Nat.zero_le, Int.reduceAdd, Int.reduceSub, Int.reduceMul, Int.reduceNeg, q_add_e, q_sub_e, q_mul_e, q_neg_e, q_upd_s, q_upd_n, zr_shr0, zr_shr1, zr_shr2, zr_shr3, zr_shr4, zr_and, zr_dyn8, zr_or, zr_shl, q_cpy_n, y_cpy26]
          exact fin _ eM fr
        · simp (disch := omega) only [b_X6_build_0, x_loadI_1, y_if_ne_t, y_if_ne_f, b_X6_build_7, x_iconst, x_ret0, b_X6_build_10, x_loadI_2, y_ic_ne_t, y_ic_ne_f, b_X6_build_15, x_loadR_0, x_loadS_0, x_goto, b_X6_build_26, b_X6_build_27, x_storeI_4, y_if_eq_t, y_if_eq_f, b_X6_build_38, x_loadI_3, x_loadI_4, b_X6_build_46, b_X6_build_50, b_X6_build_52, b_X6_build_58, b_X6_build_61, f_6_3, x_imul, x_iadd, y_iald_35, y_iald_40, x_storeI_5, y_iast_35, y_iast_40, x_storeI_6, x_loadI_6, f_6_0, y_ic_ge_t, y_ic_ge_f, b_X6_build_96, b_X6_build_100, f_6_4, b_X6_build_115, b_X6_build_125, x_iinc_6, b_X6_build_131, x_loadI_5, q_isL_I, q_isL_R, q_isL_S, true_and, and_true, and_self, List.length_nil, List.length_cons, Nat.zero_add, x_K, x_Kn, Int.reduceToNat, Nat.reduceAdd, Nat.reduceMul, Nat.reduceLeDiff, Nat.reduceLT, Nat.zero_le, Int.reduceAdd, Int.reduceSub, Int.reduceMul, Int.reduceNeg, q_add_e, q_sub_e, q_mul_e, q_neg_e, q_upd_s, q_upd_n, zr_shr0, zr_shr1, zr_shr2, zr_shr3, zr_shr4, zr_and, zr_dyn8, zr_or, zr_shl, q_cpy_n, y_cpy26]
          exact fin _ eM fr
    by_cases k1 : w = 1
    · subst k1
      by_cases c2 : cn ≤ v ∧ v ≤ 5
      · have dn := done 1 cn rfl (by omega) (by rw [if_pos rfl, if_pos rfl]; exact c2)
        simp (disch := omega) only [b_X6_build_0, x_loadI_1, y_if_ne_t, y_if_ne_f, b_X6_build_7, x_iconst, x_ret0, b_X6_build_10, x_loadI_2, y_ic_ne_t, y_ic_ne_f, b_X6_build_15, x_loadR_0, x_loadS_0, x_goto, b_X6_build_26, b_X6_build_27, x_storeI_4, y_if_eq_t, y_if_eq_f, b_X6_build_38, x_loadI_3, x_loadI_4, b_X6_build_46, b_X6_build_50, b_X6_build_52, b_X6_build_58, f_6_3, x_imul, x_iadd, y_iald_35, y_iald_40, x_storeI_5, y_iast_35, y_iast_40, x_storeI_6, x_loadI_6, f_6_0, y_ic_ge_t, y_ic_ge_f, b_X6_build_96, b_X6_build_100, f_6_4, b_X6_build_115, b_X6_build_125, x_iinc_6, b_X6_build_131, x_loadI_5, q_isL_I, q_isL_R, q_isL_S, true_and, and_true, and_self, List.length_nil, List.length_cons, Nat.zero_add, x_K, x_Kn, Int.reduceToNat, Nat.reduceAdd, Nat.reduceMul, Nat.reduceLeDiff, Nat.reduceLT, Nat.zero_le, Int.reduceAdd, Int.reduceSub, Int.reduceMul, Int.reduceNeg, q_add_e, q_sub_e, q_mul_e, q_neg_e, q_upd_s, q_upd_n, zr_shr0, zr_shr1, zr_shr2, zr_shr3, zr_shr4, zr_and, zr_dyn8, zr_or, zr_shl, q_cpy_n, y_cpy26, c_X6_isSite, mp_isSite, c1, c_X6_whoIn, mp_whoIn, c_X6_onesOf, mp_onesOf, e, c_X6_in, mp_in, c2, and_self, if_true, Int.reduceLE]
        exact dn
      · have h := hq0 (fun z => c2 (by have := z.2.2; rw [if_pos rfl, if_pos rfl] at this; exact this))
        rw [if_pos (Or.inr (fun z => c2 (by rw [if_pos rfl, if_pos rfl] at z; exact z)))] at h
        simp (disch := omega) only [b_X6_build_0, x_loadI_1, y_if_ne_t, y_if_ne_f, b_X6_build_7, x_iconst, x_ret0, b_X6_build_10, x_loadI_2, y_ic_ne_t, y_ic_ne_f, b_X6_build_15, x_loadR_0, x_loadS_0, x_goto, b_X6_build_26, b_X6_build_27, x_storeI_4, y_if_eq_t, y_if_eq_f, b_X6_build_38, x_loadI_3, x_loadI_4, b_X6_build_46, b_X6_build_50, b_X6_build_52, b_X6_build_58, f_6_3, x_imul, x_iadd, y_iald_35, y_iald_40, x_storeI_5, y_iast_35, y_iast_40, x_storeI_6, x_loadI_6, f_6_0, y_ic_ge_t, y_ic_ge_f, b_X6_build_96, b_X6_build_100, f_6_4, b_X6_build_115, b_X6_build_125, x_iinc_6, b_X6_build_131, x_loadI_5, q_isL_I, q_isL_R, q_isL_S, true_and, and_true, and_self, List.length_nil, List.length_cons, Nat.zero_add, x_K, x_Kn, Int.reduceToNat, Nat.reduceAdd, Nat.reduceMul, Nat.reduceLeDiff, Nat.reduceLT, Nat.zero_le, Int.reduceAdd, Int.reduceSub, Int.reduceMul, Int.reduceNeg, q_add_e, q_sub_e, q_mul_e, q_neg_e, q_upd_s, q_upd_n, zr_shr0, zr_shr1, zr_shr2, zr_shr3, zr_shr4, zr_and, zr_dyn8, zr_or, zr_shl, q_cpy_n, y_cpy26, c_X6_isSite, mp_isSite, c1, c_X6_whoIn, mp_whoIn, c_X6_onesOf, mp_onesOf, e, c_X6_in, mp_in, c2, and_self, if_true, Int.reduceLE, if_false]
        exact h
    · have e0 : (if w = 1 then cn else 0) = 0 := if_neg k1
      have e9 : (if w = 1 then (5 : Int) else 99) = 99 := if_neg k1
      by_cases k2 : 0 ≤ w ∧ w ≤ 3
      · by_cases c2 : 0 ≤ v ∧ v ≤ 99
        · have dn := done w.toNat 0 (by omega) (by omega) (by rw [e0, e9]; exact c2)
          simp (disch := omega) only [b_X6_build_0, x_loadI_1, y_if_ne_t, y_if_ne_f, b_X6_build_7, x_iconst, x_ret0, b_X6_build_10, x_loadI_2, y_ic_ne_t, y_ic_ne_f, b_X6_build_15, x_loadR_0, x_loadS_0, x_goto, b_X6_build_26, b_X6_build_27, x_storeI_4, y_if_eq_t, y_if_eq_f, b_X6_build_38, x_loadI_3, x_loadI_4, b_X6_build_46, b_X6_build_50, b_X6_build_52, b_X6_build_58, f_6_3, x_imul, x_iadd, y_iald_35, y_iald_40, x_storeI_5, y_iast_35, y_iast_40, x_storeI_6, x_loadI_6, f_6_0, y_ic_ge_t, y_ic_ge_f, b_X6_build_96, b_X6_build_100, f_6_4, b_X6_build_115, b_X6_build_125, x_iinc_6, b_X6_build_131, x_loadI_5, q_isL_I, q_isL_R, q_isL_S, true_and, and_true, and_self, List.length_nil, List.length_cons, Nat.zero_add, x_K, x_Kn, Int.reduceToNat, Nat.reduceAdd, Nat.reduceMul, Nat.reduceLeDiff, Nat.reduceLT, Nat.zero_le, Int.reduceAdd, Int.reduceSub, Int.reduceMul, Int.reduceNeg, q_add_e, q_sub_e, q_mul_e, q_neg_e, q_upd_s, q_upd_n, zr_shr0, zr_shr1, zr_shr2, zr_shr3, zr_shr4, zr_and, zr_dyn8, zr_or, zr_shl, q_cpy_n, y_cpy26, c_X6_isSite, mp_isSite, c1, c_X6_in, mp_in, k2, c2, and_self, if_true]
          exact dn
        · have h := hq0 (fun z => c2 (by have := z.2.2; rw [e0, e9] at this; exact this))
          rw [if_pos (Or.inr (fun z => c2 (by rw [e0, e9] at z; exact z)))] at h
          simp (disch := omega) only [b_X6_build_0, x_loadI_1, y_if_ne_t, y_if_ne_f, b_X6_build_7, x_iconst, x_ret0, b_X6_build_10, x_loadI_2, y_ic_ne_t, y_ic_ne_f, b_X6_build_15, x_loadR_0, x_loadS_0, x_goto, b_X6_build_26, b_X6_build_27, x_storeI_4, y_if_eq_t, y_if_eq_f, b_X6_build_38, x_loadI_3, x_loadI_4, b_X6_build_46, b_X6_build_50, b_X6_build_52, b_X6_build_58, f_6_3, x_imul, x_iadd, y_iald_35, y_iald_40, x_storeI_5, y_iast_35, y_iast_40, x_storeI_6, x_loadI_6, f_6_0, y_ic_ge_t, y_ic_ge_f, b_X6_build_96, b_X6_build_100, f_6_4, b_X6_build_115, b_X6_build_125, x_iinc_6, b_X6_build_131, x_loadI_5, q_isL_I, q_isL_R, q_isL_S, true_and, and_true, and_self, List.length_nil, List.length_cons, Nat.zero_add, x_K, x_Kn, Int.reduceToNat, Nat.reduceAdd, Nat.reduceMul, Nat.reduceLeDiff, Nat.reduceLT, Nat.zero_le, Int.reduceAdd, Int.reduceSub, Int.reduceMul, Int.reduceNeg, q_add_e, q_sub_e, q_mul_e, q_neg_e, q_upd_s, q_upd_n, zr_shr0, zr_shr1, zr_shr2, zr_shr3, zr_shr4, zr_and, zr_dyn8, zr_or, zr_shl, q_cpy_n, y_cpy26, c_X6_isSite, mp_isSite, c1, c_X6_in, mp_in, k2, c2, and_self, if_true, if_false]
          exact h
      · have h := hq0 (fun z => k2 z.2.1)
        rw [if_pos (Or.inl k2)] at h
        simp (disch := omega) only [b_X6_build_0, x_loadI_1, y_if_ne_t, y_if_ne_f, b_X6_build_7, x_iconst, x_ret0, b_X6_build_10, x_loadI_2, y_ic_ne_t, y_ic_ne_f, b_X6_build_15, x_loadR_0, x_loadS_0, x_goto, b_X6_build_26, b_X6_build_27, x_storeI_4, y_if_eq_t, y_if_eq_f, b_X6_build_38, x_loadI_3, x_loadI_4, b_X6_build_46, b_X6_build_50, b_X6_build_52, b_X6_build_58, f_6_3, x_imul, x_iadd, y_iald_35, y_iald_40, x_storeI_5, y_iast_35, y_iast_40, x_storeI_6, x_loadI_6, f_6_0, y_ic_ge_t, y_ic_ge_f, b_X6_build_96, b_X6_build_100, f_6_4, b_X6_build_115, b_X6_build_125, x_iinc_6, b_X6_build_131, x_loadI_5, q_isL_I, q_isL_R, q_isL_S, true_and, and_true, and_self, List.length_nil, List.length_cons, Nat.zero_add, x_K, x_Kn, Int.reduceToNat, Nat.reduceAdd, Nat.reduceMul, Nat.reduceLeDiff, Nat.reduceLT, Nat.zero_le, Int.reduceAdd, Int.reduceSub, Int.reduceMul, Int.reduceNeg, q_add_e, q_sub_e, q_mul_e, q_neg_e, q_upd_s, q_upd_n, zr_shr0, zr_shr1, zr_shr2, zr_shr3, zr_shr4, zr_and, zr_dyn8, zr_or, zr_shl, q_cpy_n, y_cpy26, c_X6_isSite, mp_isSite, c1, c_X6_in, mp_in, k2, and_self, if_true, if_false]
        exact h
  · have h := hq0 (fun z => c1 z.1)
    unfold B_bdC at h
    rw [if_pos c1] at h
    simp (disch := omega) only [b_X6_build_0, x_loadI_1, y_if_ne_t, y_if_ne_f, b_X6_build_7, x_iconst, x_ret0, b_X6_build_10, x_loadI_2, y_ic_ne_t, y_ic_ne_f, b_X6_build_15, x_loadR_0, x_loadS_0, x_goto, b_X6_build_26, b_X6_build_27, x_storeI_4, y_if_eq_t, y_if_eq_f, b_X6_build_38, x_loadI_3, x_loadI_4, b_X6_build_46, b_X6_build_50, b_X6_build_52, b_X6_build_58, b_X6_build_61, f_6_3, x_imul, x_iadd, y_iald_35, y_iald_40, x_storeI_5, y_iast_35, y_iast_40, x_storeI_6, x_loadI_6, f_6_0, y_ic_ge_t, y_ic_ge_f, b_X6_build_96, b_X6_build_100, f_6_4, b_X6_build_115, b_X6_build_125, x_iinc_6, b_X6_build_131, x_loadI_5, q_isL_I, q_isL_R, q_isL_S, true_and, and_true, and_self, List.length_nil, List.length_cons, Nat.zero_add, x_K, x_Kn, Int.reduceToNat, Nat.reduceAdd, Nat.reduceMul, Nat.reduceLeDiff, Nat.reduceLT, Nat.zero_le, Int.reduceAdd, Int.reduceSub, Int.reduceMul, Int.reduceNeg, q_add_e, q_sub_e, q_mul_e, q_neg_e, q_upd_s, q_upd_n, zr_shr0, zr_shr1, zr_shr2, zr_shr3, zr_shr4, zr_and, zr_dyn8, zr_or, zr_shl, q_cpy_n, y_cpy26, c_X6_isSite, mp_isSite, c1, if_false]
    exact h
theorem mW_add {M : q_M} {N : Nat} {km wh hv : Int} (hN : M 100 0 = N) : mW (q_upd (q_upd (q_upd (q_upd (q_upd (q_upd M 101 N (km / 10)) 102 N (km % 10)) 104 (3 * N) wh) 104 (3 * N + 1) hv) 104 (3 * N + 2) (-1)) 100 0 (N + 1)) = F_add (mW M) km wh hv := by
  have en : F_n (mW M) = N := by show (M 100 0).toNat = N; omega
  have e9 : mW M 9 0 = N := hN
  have tn : ((N : Int) + 1).toNat = N + 1 := by omega
  have tn2 : (N : Int).toNat = N := Int.toNat_natCast N
  unfold F_add
  rw [en, e9]
  funext f i
  rcases (show f = 0 ∨ f = 1 ∨ f = 2 ∨ f = 3 ∨ f = 4 ∨ f = 5 ∨ f = 6 ∨ f = 7 ∨ f = 8 ∨ f = 9 ∨ 10 ≤ f by omega) with e | e | e | e | e | e | e | e | e | e | e
  · subst e
    show (if i < (q_upd _ 100 0 _ 100 0).toNat then _ else 0) = _
    rw [q_upd_s, tn]
    by_cases c : i = N
    · subst c
      rw [if_pos (by omega)]
      simp (disch := omega) only [q_upd_n, q_upd_s]
    · simp (disch := omega) only [q_upd_n]
      show _ = (if i < (M 100 0).toNat then M 101 i else 0)
      rw [hN, tn2]
      by_cases k : i < N
      · rw [if_pos (by omega), if_pos k]
      · rw [if_neg (by omega), if_neg k]
  · subst e
    show (if i < (q_upd _ 100 0 _ 100 0).toNat then _ else 0) = _
    rw [q_upd_s, tn]
    by_cases c : i = N
    · subst c
      rw [if_pos (by omega)]
      simp (disch := omega) only [q_upd_n, q_upd_s]
    · simp (disch := omega) only [q_upd_n]
      show _ = (if i < (M 100 0).toNat then M 102 i else 0)
      rw [hN, tn2]
      by_cases k : i < N
      · rw [if_pos (by omega), if_pos k]
      · rw [if_neg (by omega), if_neg k]
  · subst e
    show (if i < (q_upd _ 100 0 _ 100 0).toNat then _ else 0) = _
    rw [q_upd_s, tn]
    by_cases c : i = N
    · subst c
      rw [if_pos (by omega)]
      simp (disch := omega) only [q_upd_n, q_upd_s]
    · simp (disch := omega) only [q_upd_n]
      show _ = (if i < (M 100 0).toNat then M 104 (3 * i) else 0)
      rw [hN, tn2]
      by_cases k : i < N
      · rw [if_pos (by omega), if_pos k]
      · rw [if_neg (by omega), if_neg k]
  · subst e
    show (if i < (q_upd _ 100 0 _ 100 0).toNat then _ else 0) = _
    rw [q_upd_s, tn]
    by_cases c : i = N
    · subst c
      rw [if_pos (by omega)]
      simp (disch := omega) only [q_upd_n, q_upd_s]
    · simp (disch := omega) only [q_upd_n]
      show _ = (if i < (M 100 0).toNat then M 104 (3 * i + 1) else 0)
      rw [hN, tn2]
      by_cases k : i < N
      · rw [if_pos (by omega), if_pos k]
      · rw [if_neg (by omega), if_neg k]
  · subst e
    show (if i < (q_upd _ 100 0 _ 100 0).toNat then mIn _ i else 0) = _
    rw [q_upd_s, tn]
    unfold mIn
    by_cases c : i = N
    · subst c
      rw [if_pos (by omega)]
      simp (disch := omega) only [q_upd_n, q_upd_s, if_true]
    · simp (disch := omega) only [q_upd_n]
      show _ = (if i < (M 100 0).toNat then mIn M i else 0)
      rw [hN, tn2]
      by_cases k : i < N
      · rw [if_pos (by omega), if_pos k]
        rfl
      · rw [if_neg (by omega), if_neg k]
  all_goals first
    | (subst e; simp (disch := omega) only [q_upd_n, mW]; done)
    | skip
  · subst e
    by_cases c : i = 0
    · subst c
      rw [q_upd_s, mW_90, q_upd_s]
    · simp (disch := omega) only [q_upd_n]
      show (if i = 0 then _ else if i = 1 then q_upd _ 100 0 _ 100 5 else 0) = (if i = 0 then M 100 0 else if i = 1 then M 100 5 else 0)
      rw [if_neg c, if_neg c]
      simp (disch := omega) only [q_upd_n]
  · simp (disch := omega) only [q_upd_n]
    unfold mW
    split <;> first | omega | rfl
end
section
/-! THE MODEL: stones, sheets, just so -/
def B_stn (S : q_M) (km wh hv : Int) : Int := if F_stB km wh hv = false then -2 else if S 9 0 = 5 then -4 else S 9 0
set_option maxHeartbeats 4000000 in
theorem mx_stone {Vt : Nat → Nat → (Nat → Int) → Int} {d tm : Nat} {g : q_G} {M : q_M} {km wh hv : Int} {Q : Option q_V → q_G → q_M → Prop} (hI : q_MI Vt tm M) (hq0 : ¬(F_stB km wh hv = true ∧ M 100 0 ≠ 5) → Q (some (qI (B_stn (mW M) km wh hv))) g M) (hq1 : F_stB km wh hv = true ∧ M 100 0 ≠ 5 → ∀ M2 : q_M, mW M2 = F_add (mW M) km wh hv → (∀ a i, a ≠ 101 → a ≠ 102 → a ≠ 104 → (a = 100 → i ≠ 0) → M2 a i = M a i) → (∀ i, i < (M 100 0).toNat → M2 101 i = M 101 i ∧ M2 102 i = M 102 i) → Q (some (qI (B_stn (mW M) km wh hv))) g M2) : q_S 1 (d + 10) 139 [qR 6 100, qI km, qI wh, qI hv] g M Q := by
  have n0 := hI.1.1
  rw [s_X6_stone]
  have n0a := n0.1
  have n0b := n0.2
  unfold B_stn at hq0 hq1
  rw [mW_90] at hq0 hq1
  unfold F_stB at hq0 hq1
  have bad : ¬(0 ≤ km ∧ km < 60 ∧ 0 ≤ wh ∧ wh < 100 ∧ 0 ≤ hv ∧ hv < 100) → Q (some (qI (-2))) g M := by
    intro z
    have h := hq0 (fun y => z (of_decide_eq_true y.1))
    rw [if_pos (decide_eq_false z)] at h
    exact h
  by_cases c1 : 0 ≤ km ∧ km ≤ 59
  · by_cases c2 : 0 ≤ wh ∧ wh ≤ 99
    · by_cases c3 : 0 ≤ hv ∧ hv ≤ 99
      · have cc : 0 ≤ km ∧ km < 60 ∧ 0 ≤ wh ∧ wh < 100 ∧ 0 ≤ hv ∧ hv < 100 := by omega
        rw [if_neg (show ¬decide (0 ≤ km ∧ km < 60 ∧ 0 ≤ wh ∧ wh < 100 ∧ 0 ≤ hv ∧ hv < 100) = false by rw [decide_eq_true cc]; decide)] at hq0 hq1
        by_cases c4 : M 100 0 = 5
        · have h := hq0 (fun y => y.2 c4)
          rw [if_pos c4] at h
          simp (disch := omega) only [b_X6_stone_0, x_loadI_1, x_iconst, y_if_eq_t, y_if_eq_f, b_X6_stone_10, x_loadI_2, b_X6_stone_20, x_loadI_3, y_if_ne_t, y_if_ne_f, b_X6_stone_30, x_ret0, b_X6_stone_33, x_loadR_0, x_loadS_0, f_6_0, y_ic_ne_t, y_ic_ne_f, b_X6_stone_41, b_X6_stone_44, f_6_1, y_idiv, y_iast_25, y_iast_35, f_6_2, y_irem, f_6_4, x_imul, x_iadd, x_dupI, x_dupR, p_6_0, x_isub, q_isL_I, q_isL_R, q_isL_S, true_and, and_true, and_self, List.length_nil, List.length_cons, Nat.zero_add, x_K, x_Kn, Int.reduceToNat, Nat.reduceAdd, Nat.reduceMul, Nat.reduceLeDiff, Nat.reduceLT, Nat.zero_le, Int.reduceAdd, Int.reduceSub, Int.reduceMul, Int.reduceNeg, q_add_e, q_sub_e, q_mul_e, q_neg_e, q_upd_s, q_upd_n, zr_shr0, zr_shr1, zr_shr2, zr_shr3, zr_shr4, zr_and, zr_dyn8, zr_or, zr_shl, q_cpy_n, y_cpy26, c_X6_in, mp_in, c1, c2, c3, and_self, if_true]
          exact h
        · have h := hq1 ⟨decide_eq_true cc, c4⟩
          rw [if_neg c4] at h
          obtain ⟨N, hN⟩ : ∃ N : Nat, M 100 0 = N := ⟨(M 100 0).toNat, by omega⟩
          have ed : q_div km 10 = km / 10 := q_div_e (by omega) (by omega) (by omega) (by omega)
          have er : q_rem km 10 = km % 10 := q_rem_e (by omega) (by omega) (by omega) (by omega)
          have fin := h _ (mW_add (km := km) (wh := wh) (hv := hv) hN) (fun a i h1 h2 h3 h4 => by
            have z : a ≠ 100 ∨ i ≠ 0 := by
              by_cases y : a = 100
              · exact Or.inr (h4 y)
              · exact Or.inl y
            rw [q_upd_n z, q_upd_n (by omega), q_upd_n (by omega), q_upd_n (by omega), q_upd_n (by omega), q_upd_n (by omega)]) (fun i hi => ⟨by simp (disch := omega) only [q_upd_n], by simp (disch := omega) only [q_upd_n]⟩)
          rw [hN] at fin
          simp (disch := omega) only [b_X6_stone_0, x_loadI_1, x_iconst, y_if_eq_t, y_if_eq_f, b_X6_stone_10, x_loadI_2, b_X6_stone_20, x_loadI_3, y_if_ne_t, y_if_ne_f, b_X6_stone_30, x_ret0, b_X6_stone_33, x_loadR_0, x_loadS_0, f_6_0, y_ic_ne_t, y_ic_ne_f, b_X6_stone_41, b_X6_stone_44, f_6_1, y_idiv, y_iast_25, y_iast_35, f_6_2, y_irem, f_6_4, x_imul, x_iadd, x_dupI, x_dupR, p_6_0, x_isub, q_isL_I, q_isL_R, q_isL_S, true_and, and_true, and_self, List.length_nil, List.length_cons, Nat.zero_add, x_K, x_Kn, Int.reduceToNat, Nat.reduceAdd, Nat.reduceMul, Nat.reduceLeDiff, Nat.reduceLT, Nat.zero_le, Int.reduceAdd, Int.reduceSub, Int.reduceMul, Int.reduceNeg, q_add_e, q_sub_e, q_mul_e, q_neg_e, q_upd_s, q_upd_n, zr_shr0, zr_shr1, zr_shr2, zr_shr3, zr_shr4, zr_and, zr_dyn8, zr_or, zr_shl, q_cpy_n, y_cpy26, c_X6_in, mp_in, c1, c2, c3, and_self, if_true, hN, ed, er, Int.toNat_natCast, tn_30, tn_31, tn_32]
          first
            | exact fin
            | (rw [show (N : Int) + 1 - 1 = N by omega]; exact fin)
      · simp (disch := omega) only [b_X6_stone_0, x_loadI_1, x_iconst, y_if_eq_t, y_if_eq_f, b_X6_stone_10, x_loadI_2, b_X6_stone_20, x_loadI_3, y_if_ne_t, y_if_ne_f, b_X6_stone_30, x_ret0, b_X6_stone_33, x_loadR_0, x_loadS_0, f_6_0, y_ic_ne_t, y_ic_ne_f, b_X6_stone_41, b_X6_stone_44, f_6_1, y_idiv, y_iast_25, y_iast_35, f_6_2, y_irem, f_6_4, x_imul, x_iadd, x_dupI, x_dupR, p_6_0, x_isub, q_isL_I, q_isL_R, q_isL_S, true_and, and_true, and_self, List.length_nil, List.length_cons, Nat.zero_add, x_K, x_Kn, Int.reduceToNat, Nat.reduceAdd, Nat.reduceMul, Nat.reduceLeDiff, Nat.reduceLT, Nat.zero_le, Int.reduceAdd, Int.reduceSub, Int.reduceMul, Int.reduceNeg, q_add_e, q_sub_e, q_mul_e, q_neg_e, q_upd_s, q_upd_n, zr_shr0, zr_shr1, zr_shr2, zr_shr3, zr_shr4, zr_and, zr_dyn8, zr_or, zr_shl, q_cpy_n, y_cpy26, c_X6_in, mp_in, c1, c2, c3, and_self, if_true, if_false]
        exact bad (by omega)
    · simp (disch := omega) only [b_X6_stone_0, x_loadI_1, x_iconst, y_if_eq_t, y_if_eq_f, b_X6_stone_10, x_loadI_2, b_X6_stone_20, x_loadI_3, y_if_ne_t, y_if_ne_f, b_X6_stone_30, x_ret0, b_X6_stone_33, x_loadR_0, x_loadS_0, f_6_0, y_ic_ne_t, y_ic_ne_f, b_X6_stone_41, b_X6_stone_44, f_6_1, y_idiv, y_iast_25, y_iast_35, f_6_2, y_irem, f_6_4, x_imul, x_iadd, x_dupI, x_dupR, p_6_0, x_isub, q_isL_I, q_isL_R, q_isL_S, true_and, and_true, and_self, List.length_nil, List.length_cons, Nat.zero_add, x_K, x_Kn, Int.reduceToNat, Nat.reduceAdd, Nat.reduceMul, Nat.reduceLeDiff, Nat.reduceLT, Nat.zero_le, Int.reduceAdd, Int.reduceSub, Int.reduceMul, Int.reduceNeg, q_add_e, q_sub_e, q_mul_e, q_neg_e, q_upd_s, q_upd_n, zr_shr0, zr_shr1, zr_shr2, zr_shr3, zr_shr4, zr_and, zr_dyn8, zr_or, zr_shl, q_cpy_n, y_cpy26, c_X6_in, mp_in, c1, c2, and_self, if_true, if_false]
      exact bad (by omega)
  · simp (disch := omega) only [b_X6_stone_0, x_loadI_1, x_iconst, y_if_eq_t, y_if_eq_f, b_X6_stone_10, x_loadI_2, b_X6_stone_20, x_loadI_3, y_if_ne_t, y_if_ne_f, b_X6_stone_30, x_ret0, b_X6_stone_33, x_loadR_0, x_loadS_0, f_6_0, y_ic_ne_t, y_ic_ne_f, b_X6_stone_41, b_X6_stone_44, f_6_1, y_idiv, y_iast_25, y_iast_35, f_6_2, y_irem, f_6_4, x_imul, x_iadd, x_dupI, x_dupR, p_6_0, x_isub, q_isL_I, q_isL_R, q_isL_S, true_and, and_true, and_self, List.length_nil, List.length_cons, Nat.zero_add, x_K, x_Kn, Int.reduceToNat, Nat.reduceAdd, Nat.reduceMul, Nat.reduceLeDiff, Nat.reduceLT, Nat.zero_le, Int.reduceAdd, Int.reduceSub, Int.reduceMul, Int.reduceNeg, q_add_e, q_sub_e, q_mul_e, q_neg_e, q_upd_s, q_upd_n, zr_shr0, zr_shr1, zr_shr2, zr_shr3, zr_shr4, zr_and, zr_dyn8, zr_or, zr_shl, q_cpy_n, y_cpy26, c_X6_in, mp_in, c1, if_false]
    exact bad (by omega)
def B_put (S : q_M) (p w v : Int) : Int := if ¬(0 ≤ p ∧ p ≤ S 9 0 - 1) then -5 else if ¬((0 ≤ w ∧ w ≤ 1) ∧ (0 ≤ v ∧ v ≤ 99)) then -7 else if w = 0 then S 2 p.toNat else S 3 p.toNat
def F_pt (S : q_M) (p : Nat) (w v : Int) : q_M := if w = 0 then F_lay S p v else q_upd S 3 p v
def B_ptk (S : q_M) (p w v : Int) : Prop := (0 ≤ p ∧ p ≤ S 9 0 - 1) ∧ (0 ≤ w ∧ w ≤ 1) ∧ (0 ≤ v ∧ v ≤ 99)
set_option maxHeartbeats 4000000 in
theorem mx_put {Vt : Nat → Nat → (Nat → Int) → Int} {d tm : Nat} {g : q_G} {M : q_M} {p w v : Int} {Q : Option q_V → q_G → q_M → Prop} (hI : q_MI Vt tm M) (hq0 : ¬B_ptk (mW M) p w v → Q (some (qI (B_put (mW M) p w v))) g M) (hq1 : B_ptk (mW M) p w v → ∀ M2 : q_M, mW M2 = F_pt (mW M) p.toNat w v → (∀ a i, a ≠ 104 → M2 a i = M a i) → Q (some (qI (B_put (mW M) p w v))) g M2) : q_S 1 (d + 10) 140 [qR 6 100, qI p, qI w, qI v] g M Q := by
  have n0 := hI.1.1
  rw [s_X6_put]
  unfold B_put at hq0 hq1
  unfold B_ptk at hq0 hq1
  rw [mW_90] at hq0 hq1
  by_cases c1 : 0 ≤ p ∧ p ≤ M 100 0 - 1
  · rw [if_neg (show ¬¬(0 ≤ p ∧ p ≤ M 100 0 - 1) from fun z => z c1)] at hq0 hq1
    obtain ⟨N, rfl⟩ : ∃ N : Nat, p = N := ⟨p.toNat, by omega⟩
    have hNn : N < (M 100 0).toNat := by omega
    by_cases c2 : 0 ≤ w ∧ w ≤ 1
    · by_cases c3 : 0 ≤ v ∧ v ≤ 99
      · have hin := hI.1.2.2.2.2.2.2.1 N (by omega)
        have h := hq1 ⟨c1, c2, c3⟩
        rw [if_neg (show ¬¬((0 ≤ w ∧ w ≤ 1) ∧ (0 ≤ v ∧ v ≤ 99)) from fun z => z ⟨c2, c3⟩), Int.toNat_natCast, mW_2 hNn, mW_3 hNn] at h
        rcases (show w = 0 ∨ w = 1 by omega) with k | k
        · subst k
          rw [if_pos rfl] at h
          have hM : mW (q_upd (q_upd M 104 (3 * N) v) 104 (3 * N + 2) (-1)) = F_pt (mW M) N 0 v := by
            unfold F_pt
            rw [if_pos rfl, mW_up4 (by rw [q_upd_n (by omega)]; exact hNn), mW_up2 hNn, if_pos rfl]
            rfl
          simp (disch := omega) only [b_X6_put_0, x_loadR_0, x_loadS_0, x_loadI_1, y_if_ne_t, y_if_ne_f, b_X6_put_8, x_iconst, x_ret0, b_X6_put_11, x_loadI_2, y_if_eq_t, y_if_eq_f, b_X6_put_20, x_loadI_3, b_X6_put_30, b_X6_put_33, f_6_4, x_imul, x_iadd, y_iald_35, x_storeI_4, y_iast_35, b_X6_put_69, x_goto, b_X6_put_73, b_X6_put_83, x_loadI_4, q_isL_I, q_isL_R, q_isL_S, true_and, and_true, and_self, List.length_nil, List.length_cons, Nat.zero_add, x_K, x_Kn, Int.reduceToNat, Nat.reduceAdd, Nat.reduceMul, Nat.reduceLeDiff, Nat.reduceLT, Nat.zero_le, Int.reduceAdd, Int.reduceSub, Int.reduceMul, Int.reduceNeg, q_add_e, q_sub_e, q_mul_e, q_neg_e, q_upd_s, q_upd_n, zr_shr0, zr_shr1, zr_shr2, zr_shr3, zr_shr4, zr_and, zr_dyn8, zr_or, zr_shl, q_cpy_n, y_cpy26, c_X6_isStone, mp_isStone, c1, c_X6_in, mp_in, c2, c3, and_self, if_true, Int.add_zero, tn_30, tn_32]
          exact h _ hM (fun a i ha => by rw [q_upd_n (by omega), q_upd_n (by omega)])
        · subst k
          rw [if_neg (by decide)] at h
          have hM : mW (q_upd (q_upd M 104 (3 * N + 1) v) 104 (3 * N + 2) (M 104 (3 * N + 2))) = F_pt (mW M) N 1 v := by
            unfold F_pt
            rw [if_neg (by decide), q_upd_id (q_upd_n (by omega)), mW_up3 hNn]
          simp (disch := omega) only [b_X6_put_0, x_loadR_0, x_loadS_0, x_loadI_1, y_if_ne_t, y_if_ne_f, b_X6_put_8, x_iconst, x_ret0, b_X6_put_11, x_loadI_2, y_if_eq_t, y_if_eq_f, b_X6_put_20, x_loadI_3, b_X6_put_30, b_X6_put_33, f_6_4, x_imul, x_iadd, y_iald_35, x_storeI_4, y_iast_35, b_X6_put_69, x_goto, b_X6_put_73, b_X6_put_83, x_loadI_4, q_isL_I, q_isL_R, q_isL_S, true_and, and_true, and_self, List.length_nil, List.length_cons, Nat.zero_add, x_K, x_Kn, Int.reduceToNat, Nat.reduceAdd, Nat.reduceMul, Nat.reduceLeDiff, Nat.reduceLT, Nat.zero_le, Int.reduceAdd, Int.reduceSub, Int.reduceMul, Int.reduceNeg, q_add_e, q_sub_e, q_mul_e, q_neg_e, q_upd_s, q_upd_n, zr_shr0, zr_shr1, zr_shr2, zr_shr3, zr_shr4, zr_and, zr_dyn8, zr_or, zr_shl, q_cpy_n, y_cpy26, c_X6_isStone, mp_isStone, c1, c_X6_in, mp_in, c2, c3, and_self, if_true, tn_31, tn_32]
          exact h _ hM (fun a i ha => by rw [q_upd_n (by omega), q_upd_n (by omega)])
      · have h := hq0 (fun z => c3 z.2.2)
        rw [if_pos (show ¬((0 ≤ w ∧ w ≤ 1) ∧ (0 ≤ v ∧ v ≤ 99)) from fun z => c3 z.2)] at h
        simp (disch := omega) only [b_X6_put_0, x_loadR_0, x_loadS_0, x_loadI_1, y_if_ne_t, y_if_ne_f, b_X6_put_8, x_iconst, x_ret0, b_X6_put_11, x_loadI_2, y_if_eq_t, y_if_eq_f, b_X6_put_20, x_loadI_3, b_X6_put_30, b_X6_put_33, f_6_4, x_imul, x_iadd, y_iald_35, x_storeI_4, y_iast_35, b_X6_put_69, x_goto, b_X6_put_73, b_X6_put_83, x_loadI_4, q_isL_I, q_isL_R, q_isL_S, true_and, and_true, and_self, List.length_nil, List.length_cons, Nat.zero_add, x_K, x_Kn, Int.reduceToNat, Nat.reduceAdd, Nat.reduceMul, Nat.reduceLeDiff, Nat.reduceLT, Nat.zero_le, Int.reduceAdd, Int.reduceSub, Int.reduceMul, Int.reduceNeg, q_add_e, q_sub_e, q_mul_e, q_neg_e, q_upd_s, q_upd_n, zr_shr0, zr_shr1, zr_shr2, zr_shr3, zr_shr4, zr_and, zr_dyn8, zr_or, zr_shl, q_cpy_n, y_cpy26, c_X6_isStone, mp_isStone, c1, c_X6_in, mp_in, c2, c3, and_self, if_true, if_false]
        exact h
    · have h := hq0 (fun z => c2 z.2.1)
      rw [if_pos (show ¬((0 ≤ w ∧ w ≤ 1) ∧ (0 ≤ v ∧ v ≤ 99)) from fun z => c2 z.1)] at h
      simp (disch := omega) only [b_X6_put_0, x_loadR_0, x_loadS_0, x_loadI_1, y_if_ne_t, y_if_ne_f, b_X6_put_8, x_iconst, x_ret0, b_X6_put_11, x_loadI_2, y_if_eq_t, y_if_eq_f, b_X6_put_20, x_loadI_3, b_X6_put_30, b_X6_put_33, f_6_4, x_imul, x_iadd, y_iald_35, x_storeI_4, y_iast_35, b_X6_put_69, x_goto, b_X6_put_73, b_X6_put_83, x_loadI_4, q_isL_I, q_isL_R, q_isL_S, true_and, and_true, and_self, List.length_nil, List.length_cons, Nat.zero_add, x_K, x_Kn, Int.reduceToNat, Nat.reduceAdd, Nat.reduceMul, Nat.reduceLeDiff, Nat.reduceLT, Nat.zero_le, Int.reduceAdd, Int.reduceSub, Int.reduceMul, Int.reduceNeg, q_add_e, q_sub_e, q_mul_e, q_neg_e, q_upd_s, q_upd_n, zr_shr0, zr_shr1, zr_shr2, zr_shr3, zr_shr4, zr_and, zr_dyn8, zr_or, zr_shl, q_cpy_n, y_cpy26, c_X6_isStone, mp_isStone, c1, c_X6_in, mp_in, c2, and_self, if_true, if_false]
      exact h
  · have h := hq0 (fun z => c1 z.1)
    rw [if_pos c1] at h
    simp (disch := omega) only [b_X6_put_0, x_loadR_0, x_loadS_0, x_loadI_1, y_if_ne_t, y_if_ne_f, b_X6_put_8, x_iconst, x_ret0, b_X6_put_11, x_loadI_2, y_if_eq_t, y_if_eq_f, b_X6_put_20, x_loadI_3, b_X6_put_30, b_X6_put_33, f_6_4, x_imul, x_iadd, y_iald_35, x_storeI_4, y_iast_35, b_X6_put_69, x_goto, b_X6_put_73, b_X6_put_83, x_loadI_4, q_isL_I, q_isL_R, q_isL_S, true_and, and_true, and_self, List.length_nil, List.length_cons, Nat.zero_add, x_K, x_Kn, Int.reduceToNat, Nat.reduceAdd, Nat.reduceMul, Nat.reduceLeDiff, Nat.reduceLT, Nat.zero_le, Int.reduceAdd, Int.reduceSub, Int.reduceMul, Int.reduceNeg, q_add_e, q_sub_e, q_mul_e, q_neg_e, q_upd_s, q_upd_n, zr_shr0, zr_shr1, zr_shr2, zr_shr3, zr_shr4, zr_and, zr_dyn8, zr_or, zr_shl, q_cpy_n, y_cpy26, c_X6_isStone, mp_isStone, c1, if_false]
    exact h
set_option maxHeartbeats 4000000 in
theorem mx_sheet {Vt : Nat → Nat → (Nat → Int) → Int} {d tm : Nat} {g : q_G} {M : q_M} {s so n : Int} {Q : Option q_V → q_G → q_M → Prop} (hI : q_MI Vt tm M) (hq0 : A_sheet s so n ≠ 1 → Q (some (qI (A_sheet s so n))) g M) (hq1 : A_sheet s so n = 1 → ∀ M2 : q_M, M2 110 s.toNat = so → M2 111 s.toNat = (if so = -1 then 0 else n) → (∀ i, i < 40 → M2 112 (40 * s.toNat + i) = 0) → (∀ a i, (a = 110 ∨ a = 111 → i ≠ s.toNat) → (a = 112 → i < 40 * s.toNat ∨ 40 * s.toNat + 40 ≤ i) → M2 a i = M a i) → Q (some (qI 1)) g M2) : q_S 1 (d + 11) 193 [qR 6 100, qI s, qI so, qI n] g M Q := by
  have n0 := hI.1.1
  rw [s_X6_sheet]
  by_cases c1 : 0 ≤ s ∧ s ≤ 3
  · obtain ⟨S, rfl⟩ : ∃ S : Nat, s = S := ⟨s.toNat, by omega⟩
    have loop : A_sheet S so n = 1 → ∀ j k : Nat, k + j = 40 → ∀ M1 : q_M, M1 110 S = so → M1 111 S = (if so = -1 then 0 else n) → (∀ i, i < k → M1 112 (40 * S + i) = 0) → (∀ a i, (a = 110 ∨ a = 111 → i ≠ S) → (a = 112 → i < 40 * S ∨ 40 * S + 40 ≤ i) → M1 a i = M a i) → q_T 1 (d + 11) qP_X6_sheet 70 [] [qR 6 100, qI S, qI so, qI n, qI k] [] g M1 Q := by
      intro hA j
      have hq := hq1 hA
      rw [Int.toNat_natCast] at hq
      induction j with
      | zero =>
        intro k hk M1 g0 g1 g2 g3
        rw [b_X6_sheet_70]
        simp (disch := omega) only [b_X6_sheet_0, x_loadI_1, x_iconst, y_if_eq_t, y_if_eq_f, b_X6_sheet_9, x_loadI_2, b_X6_sheet_18, y_ic_eq_t, y_ic_eq_f, b_X6_sheet_23, x_loadI_3, y_ic_le_t, y_ic_le_f, b_X6_sheet_29, x_ret0, b_X6_sheet_32, b_X6_sheet_37, y_if_ge_t, y_if_ge_f, b_X6_sheet_41, b_X6_sheet_44, x_loadR_0, x_loadS_0, f_6_15, y_iast_24, y_iast_180, f_6_16, y_ic_ne_t, y_ic_ne_f, b_X6_sheet_61, x_goto, b_X6_sheet_65, b_X6_sheet_66, x_storeI_4, x_loadI_4, y_ic_ge_t, y_ic_ge_f, b_X6_sheet_77, f_6_17, x_imul, x_iadd, x_iinc_4, b_X6_sheet_96, q_isL_I, q_isL_R, q_isL_S, true_and, and_true, and_self, List.length_nil, List.length_cons, Nat.zero_add, x_K, x_Kn, Int.reduceToNat, Nat.reduceAdd, Nat.reduceMul, Nat.reduceLeDiff, Nat.reduceLT, Nat.zero_le, Int.reduceAdd, Int.reduceSub, Int.reduceMul, Int.reduceNeg, q_add_e, q_sub_e, q_mul_e, q_neg_e, q_upd_s, q_upd_n, zr_shr0, zr_shr1, zr_shr2, zr_shr3, zr_shr4, zr_and, zr_dyn8, zr_or, zr_shl, q_cpy_n, y_cpy26]
        exact hq M1 g0 g1 (fun i hi => g2 i (by omega)) g3
      | succ j ih =>
        intro k hk M1 g0 g1 g2 g3
        rw [b_X6_sheet_70]
        simp (disch := omega) only [b_X6_sheet_0, x_loadI_1, x_iconst, y_if_eq_t, y_if_eq_f, b_X6_sheet_9, x_loadI_2, b_X6_sheet_18, y_ic_eq_t, y_ic_eq_f, b_X6_sheet_23, x_loadI_3, y_ic_le_t, y_ic_le_f, b_X6_sheet_29, x_ret0, b_X6_sheet_32, b_X6_sheet_37, y_if_ge_t, y_if_ge_f, b_X6_sheet_41, b_X6_sheet_44, x_loadR_0, x_loadS_0, f_6_15, y_iast_24, y_iast_180, f_6_16, y_ic_ne_t, y_ic_ne_f, b_X6_sheet_61, x_goto, b_X6_sheet_65, b_X6_sheet_66, x_storeI_4, x_loadI_4, y_ic_ge_t, y_ic_ge_f, b_X6_sheet_77, f_6_17, x_imul, x_iadd, x_iinc_4, b_X6_sheet_96, q_isL_I, q_isL_R, q_isL_S, true_and, and_true, and_self, List.length_nil, List.length_cons, Nat.zero_add, x_K, x_Kn, Int.reduceToNat, Nat.reduceAdd, Nat.reduceMul, Nat.reduceLeDiff, Nat.reduceLT, Nat.zero_le, Int.reduceAdd, Int.reduceSub, Int.reduceMul, Int.reduceNeg, q_add_e, q_sub_e, q_mul_e, q_neg_e, q_upd_s, q_upd_n, zr_shr0, zr_shr1, zr_shr2, zr_shr3, zr_shr4, zr_and, zr_dyn8, zr_or, zr_shl, q_cpy_n, y_cpy26, tn_c]
        refine ih (k + 1) (by omega) _ ((q_upd_n (by omega)).trans g0) ((q_upd_n (by omega)).trans g1) (fun i hi => ?_) (fun a i h1 h2 => ?_)
        · by_cases e : i = k
          · rw [e, q_upd_s]
          · rw [q_upd_n (by omega)]
            exact g2 i (by omega)
        · rw [q_upd_n (by
            by_cases z : a = 112
            · exact Or.inr (by have := h2 z; omega)
            · exact Or.inl z)]
          exact g3 a i h1 h2
    by_cases c2 : -1 ≤ so ∧ so ≤ 2
    · by_cases c3 : so = -1
      · have eA : A_sheet S so n = 1 := by unfold A_sheet; rw [if_neg (by omega), if_pos c3]
        have q1 : ∀ a i, (a = 110 ∨ a = 111 → i ≠ S) → (a = 112 → i < 40 * S ∨ 40 * S + 40 ≤ i) → q_upd (q_upd M 110 S so) 111 S 0 a i = M a i := fun a i h1 _ => by rw [q_upd_n (by omega), q_upd_n (by omega)]
        simp (disch := omega) only [b_X6_sheet_0, x_loadI_1, x_iconst, y_if_eq_t, y_if_eq_f, b_X6_sheet_9, x_loadI_2, b_X6_sheet_18, y_ic_eq_t, y_ic_eq_f, b_X6_sheet_23, x_loadI_3, y_ic_le_t, y_ic_le_f, b_X6_sheet_29, x_ret0, b_X6_sheet_32, b_X6_sheet_37, y_if_ge_t, y_if_ge_f, b_X6_sheet_41, b_X6_sheet_44, x_loadR_0, x_loadS_0, f_6_15, y_iast_24, y_iast_180, f_6_16, y_ic_ne_t, y_ic_ne_f, b_X6_sheet_61, x_goto, b_X6_sheet_65, b_X6_sheet_66, x_storeI_4, x_loadI_4, y_ic_ge_t, y_ic_ge_f, b_X6_sheet_77, f_6_17, x_imul, x_iadd, x_iinc_4, b_X6_sheet_96, q_isL_I, q_isL_R, q_isL_S, true_and, and_true, and_self, List.length_nil, List.length_cons, Nat.zero_add, x_K, x_Kn, Int.reduceToNat, Nat.reduceAdd, Nat.reduceMul, Nat.reduceLeDiff, Nat.reduceLT, Nat.zero_le, Int.reduceAdd, Int.reduceSub, Int.reduceMul, Int.reduceNeg, q_add_e, q_sub_e, q_mul_e, q_neg_e, q_upd_s, q_upd_n, zr_shr0, zr_shr1, zr_shr2, zr_shr3, zr_shr4, zr_and, zr_dyn8, zr_or, zr_shl, q_cpy_n, y_cpy26, c_X6_in, mp_in, c1, c2, and_self, if_true, Int.toNat_natCast]
        exact loop eA 40 0 rfl _ (by rw [q_upd_n (by omega), q_upd_s]) (by rw [q_upd_s, if_pos c3]) (fun i hi => absurd hi (by omega)) q1
      · by_cases c4 : 40 < n
        · have eA : A_sheet S so n = -2 := by unfold A_sheet; rw [if_neg (by omega), if_neg (by omega), if_pos c4]
          have hq := hq0 (by rw [eA]; decide)
          rw [eA] at hq
          simp (disch := omega) only [b_X6_sheet_0, x_loadI_1, x_iconst, y_if_eq_t, y_if_eq_f, b_X6_sheet_9, x_loadI_2, b_X6_sheet_18, y_ic_eq_t, y_ic_eq_f, b_X6_sheet_23, x_loadI_3, y_ic_le_t, y_ic_le_f, b_X6_sheet_29, x_ret0, b_X6_sheet_32, b_X6_sheet_37, y_if_ge_t, y_if_ge_f, b_X6_sheet_41, b_X6_sheet_44, x_loadR_0, x_loadS_0, f_6_15, y_iast_24, y_iast_180, f_6_16, y_ic_ne_t, y_ic_ne_f, b_X6_sheet_61, x_goto, b_X6_sheet_65, b_X6_sheet_66, x_storeI_4, x_loadI_4, y_ic_ge_t, y_ic_ge_f, b_X6_sheet_77, f_6_17, x_imul, x_iadd, x_iinc_4, b_X6_sheet_96, q_isL_I, q_isL_R, q_isL_S, true_and, and_true, and_self, List.length_nil, List.length_cons, Nat.zero_add, x_K, x_Kn, Int.reduceToNat, Nat.reduceAdd, Nat.reduceMul, Nat.reduceLeDiff, Nat.reduceLT, Nat.zero_le, Int.reduceAdd, Int.reduceSub, Int.reduceMul, Int.reduceNeg, q_add_e, q_sub_e, q_mul_e, q_neg_e, q_upd_s, q_upd_n, zr_shr0, zr_shr1, zr_shr2, zr_shr3, zr_shr4, zr_and, zr_dyn8, zr_or, zr_shl, q_cpy_n, y_cpy26, c_X6_in, mp_in, c1, c2, and_self, if_true]
          exact hq
        · by_cases c5 : n < 0
          · have eA : A_sheet S so n = -14 := by unfold A_sheet; rw [if_neg (by omega), if_neg (by omega), if_neg c4, if_pos c5]
            have hq := hq0 (by rw [eA]; decide)
            rw [eA] at hq
            simp (disch := omega) only [b_X6_sheet_0, x_loadI_1, x_iconst, y_if_eq_t, y_if_eq_f, b_X6_sheet_9, x_loadI_2, b_X6_sheet_18, y_ic_eq_t, y_ic_eq_f, b_X6_sheet_23, x_loadI_3, y_ic_le_t, y_ic_le_f, b_X6_sheet_29, x_ret0, b_X6_sheet_32, b_X6_sheet_37, y_if_ge_t, y_if_ge_f, b_X6_sheet_41, b_X6_sheet_44, x_loadR_0, x_loadS_0, f_6_15, y_iast_24, y_iast_180, f_6_16, y_ic_ne_t, y_ic_ne_f, b_X6_sheet_61, x_goto, b_X6_sheet_65, b_X6_sheet_66, x_storeI_4, x_loadI_4, y_ic_ge_t, y_ic_ge_f, b_X6_sheet_77, f_6_17, x_imul, x_iadd, x_iinc_4, b_X6_sheet_96, q_isL_I, q_isL_R, q_isL_S, true_and, and_true, and_self, List.length_nil, List.length_cons, Nat.zero_add, x_K, x_Kn, Int.reduceToNat, Nat.reduceAdd, Nat.reduceMul, Nat.reduceLeDiff, Nat.reduceLT, Nat.zero_le, Int.reduceAdd, Int.reduceSub, Int.reduceMul, Int.reduceNeg, q_add_e, q_sub_e, q_mul_e, q_neg_e, q_upd_s, q_upd_n, zr_shr0, zr_shr1, zr_shr2, zr_shr3, zr_shr4, zr_and, zr_dyn8, zr_or, zr_shl, q_cpy_n, y_cpy26, c_X6_in, mp_in, c1, c2, and_self, if_true]
            exact hq
          · have eA : A_sheet S so n = 1 := by unfold A_sheet; rw [if_neg (by omega), if_neg (by omega), if_neg c4, if_neg c5]
            have q1 : ∀ a i, (a = 110 ∨ a = 111 → i ≠ S) → (a = 112 → i < 40 * S ∨ 40 * S + 40 ≤ i) → q_upd (q_upd M 110 S so) 111 S n a i = M a i := fun a i h1 _ => by rw [q_upd_n (by omega), q_upd_n (by omega)]
            simp (disch := omega) only [b_X6_sheet_0, x_loadI_1, x_iconst, y_if_eq_t, y_if_eq_f, b_X6_sheet_9, x_loadI_2, b_X6_sheet_18, y_ic_eq_t, y_ic_eq_f, b_X6_sheet_23, x_loadI_3, y_ic_le_t, y_ic_le_f, b_X6_sheet_29, x_ret0, b_X6_sheet_32, b_X6_sheet_37, y_if_ge_t, y_if_ge_f, b_X6_sheet_41, b_X6_sheet_44, x_loadR_0, x_loadS_0, f_6_15, y_iast_24, y_iast_180, f_6_16, y_ic_ne_t, y_ic_ne_f, b_X6_sheet_61, x_goto, b_X6_sheet_65, b_X6_sheet_66, x_storeI_4, x_loadI_4, y_ic_ge_t, y_ic_ge_f, b_X6_sheet_77, f_6_17, x_imul, x_iadd, x_iinc_4, b_X6_sheet_96, q_isL_I, q_isL_R, q_isL_S, true_and, and_true, and_self, List.length_nil, List.length_cons, Nat.zero_add, x_K, x_Kn, Int.reduceToNat, Nat.reduceAdd, Nat.reduceMul, Nat.reduceLeDiff, Nat.reduceLT, Nat.zero_le, Int.reduceAdd, Int.reduceSub, Int.reduceMul, Int.reduceNeg, q_add_e, q_sub_e, q_mul_e, q_neg_e, q_upd_s, q_upd_n, zr_shr0, zr_shr1, zr_shr2, zr_shr3, zr_shr4, zr_and, zr_dyn8, zr_or, zr_shl, q_cpy_n, y_cpy26, c_X6_in, mp_in, c1, c2, and_self, if_true, Int.toNat_natCast]
            exact loop eA 40 0 rfl _ (by rw [q_upd_n (by omega), q_upd_s]) (by rw [q_upd_s, if_neg c3]) (fun i hi => absurd hi (by omega)) q1
    · have eA : A_sheet S so n = -2 := by unfold A_sheet; rw [if_pos (by omega)]
      have hq := hq0 (by rw [eA]; decide)
      rw [eA] at hq
      simp (disch := omega) only [b_X6_sheet_0, x_loadI_1, x_iconst, y_if_eq_t, y_if_eq_f, b_X6_sheet_9, x_loadI_2, b_X6_sheet_18, y_ic_eq_t, y_ic_eq_f, b_X6_sheet_23, x_loadI_3, y_ic_le_t, y_ic_le_f, b_X6_sheet_29, x_ret0, b_X6_sheet_32, b_X6_sheet_37, y_if_ge_t, y_if_ge_f, b_X6_sheet_41, b_X6_sheet_44, x_loadR_0, x_loadS_0, f_6_15, y_iast_24, y_iast_180, f_6_16, y_ic_ne_t, y_ic_ne_f, b_X6_sheet_61, x_goto, b_X6_sheet_65, b_X6_sheet_66, x_storeI_4, x_loadI_4, y_ic_ge_t, y_ic_ge_f, b_X6_sheet_77, f_6_17, x_imul, x_iadd, x_iinc_4, b_X6_sheet_96, q_isL_I, q_isL_R, q_isL_S, true_and, and_true, and_self, List.length_nil, List.length_cons, Nat.zero_add, x_K, x_Kn, Int.reduceToNat, Nat.reduceAdd, Nat.reduceMul, Nat.reduceLeDiff, Nat.reduceLT, Nat.zero_le, Int.reduceAdd, Int.reduceSub, Int.reduceMul, Int.reduceNeg, q_add_e, q_sub_e, q_mul_e, q_neg_e, q_upd_s, q_upd_n, zr_shr0, zr_shr1, zr_shr2, zr_shr3, zr_shr4, zr_and, zr_dyn8, zr_or, zr_shl, q_cpy_n, y_cpy26, c_X6_in, mp_in, c1, c2, and_self, if_true, if_false]
      exact hq
  · have eA : A_sheet s so n = -2 := by unfold A_sheet; rw [if_pos (by omega)]
    have hq := hq0 (by rw [eA]; decide)
    rw [eA] at hq
    simp (disch := omega) only [b_X6_sheet_0, x_loadI_1, x_iconst, y_if_eq_t, y_if_eq_f, b_X6_sheet_9, x_loadI_2, b_X6_sheet_18, y_ic_eq_t, y_ic_eq_f, b_X6_sheet_23, x_loadI_3, y_ic_le_t, y_ic_le_f, b_X6_sheet_29, x_ret0, b_X6_sheet_32, b_X6_sheet_37, y_if_ge_t, y_if_ge_f, b_X6_sheet_41, b_X6_sheet_44, x_loadR_0, x_loadS_0, f_6_15, y_iast_24, y_iast_180, f_6_16, y_ic_ne_t, y_ic_ne_f, b_X6_sheet_61, x_goto, b_X6_sheet_65, b_X6_sheet_66, x_storeI_4, x_loadI_4, y_ic_ge_t, y_ic_ge_f, b_X6_sheet_77, f_6_17, x_imul, x_iadd, x_iinc_4, b_X6_sheet_96, q_isL_I, q_isL_R, q_isL_S, true_and, and_true, and_self, List.length_nil, List.length_cons, Nat.zero_add, x_K, x_Kn, Int.reduceToNat, Nat.reduceAdd, Nat.reduceMul, Nat.reduceLeDiff, Nat.reduceLT, Nat.zero_le, Int.reduceAdd, Int.reduceSub, Int.reduceMul, Int.reduceNeg, q_add_e, q_sub_e, q_mul_e, q_neg_e, q_upd_s, q_upd_n, zr_shr0, zr_shr1, zr_shr2, zr_shr3, zr_shr4, zr_and, zr_dyn8, zr_or, zr_shl, q_cpy_n, y_cpy26, c_X6_in, mp_in, c1, if_false]
    exact hq
def B_cell (M : q_M) (s i : Int) : Int := if ¬(0 ≤ s ∧ s < 4) then -2 else if M 110 s.toNat = -1 then -11 else if i < 0 ∨ M 111 s.toNat ≤ i then -12 else 1
set_option maxHeartbeats 4000000 in
theorem mx_cell {Vt : Nat → Nat → (Nat → Int) → Int} {d tm : Nat} {g : q_G} {M : q_M} {s i v : Int} {Q : Option q_V → q_G → q_M → Prop} (hI : q_MI Vt tm M) (hq0 : B_cell M s i ≠ 1 → Q (some (qI (B_cell M s i))) g M) (hq1 : B_cell M s i = 1 → Q (some (qI 1)) g (q_upd M 112 (40 * s.toNat + i.toNat) (F_cvt (M 110 s.toNat) v))) : q_S 1 (d + 11) 194 [qR 6 100, qI s, qI i, qI v] g M Q := by
  have n0 := hI.1.1
  rw [s_X6_cell]
  by_cases c1 : 0 ≤ s ∧ s ≤ 3
  · obtain ⟨S, rfl⟩ : ∃ S : Nat, s = S := ⟨s.toNat, by omega⟩
    have hz := hI.2.2.2.1 S (by omega)
    by_cases c2 : M 110 S = -1
    · simp (disch := omega) only [b_X6_cell_0, x_loadI_1, x_iconst, y_if_ne_t, y_if_ne_f, b_X6_cell_9, x_ret0, b_X6_cell_12, x_loadR_0, x_loadS_0, f_6_15, y_iald_24, y_iald_180, y_ic_ne_t, y_ic_ne_f, b_X6_cell_22, b_X6_cell_25, x_loadI_2, f_6_16, x_isub, b_X6_cell_41, b_X6_cell_44, f_6_17, x_imul, x_iadd, b_X6_cell_63, x_loadI_3, x_i2b, x_goto, b_X6_cell_68, b_X6_cell_78, x_i2s, b_X6_cell_83, b_X6_cell_84, y_iast_24, y_iast_180, q_isL_I, q_isL_R, q_isL_S, true_and, and_true, and_self, List.length_nil, List.length_cons, Nat.zero_add, x_K, x_Kn, Int.reduceToNat, Nat.reduceAdd, Nat.reduceMul, Nat.reduceLeDiff, Nat.reduceLT, Nat.zero_le, Int.reduceAdd, Int.reduceSub, Int.reduceMul, Int.reduceNeg, q_add_e, q_sub_e, q_mul_e, q_neg_e, q_upd_s, q_upd_n, zr_shr0, zr_shr1, zr_shr2, zr_shr3, zr_shr4, zr_and, zr_dyn8, zr_or, zr_shl, q_cpy_n, y_cpy26, c_X6_in, mp_in, c1, and_self, if_true, Int.toNat_natCast]
      have eA : B_cell M S i = -11 := by unfold B_cell; rw [if_neg (show ¬¬(0 ≤ (S : Int) ∧ (S : Int) < 4) by omega), Int.toNat_natCast, if_pos c2]
      have h := hq0 (by rw [eA]; decide)
      rw [eA] at h
      exact h
    · by_cases c3 : 0 ≤ i ∧ i ≤ M 111 S - 1
      · obtain ⟨I, rfl⟩ : ∃ I : Nat, i = I := ⟨i.toNat, by omega⟩
        have eA : B_cell M S I = 1 := by unfold B_cell; rw [if_neg (show ¬¬(0 ≤ (S : Int) ∧ (S : Int) < 4) by omega), Int.toNat_natCast, if_neg c2, if_neg (by omega)]
        have h := hq1 eA
        rw [Int.toNat_natCast, Int.toNat_natCast] at h
        unfold F_cvt at h
        by_cases c4 : M 110 S = 0
        · simp (disch := omega) only [b_X6_cell_0, x_loadI_1, x_iconst, y_if_ne_t, y_if_ne_f, b_X6_cell_9, x_ret0, b_X6_cell_12, x_loadR_0, x_loadS_0, f_6_15, y_iald_24, y_iald_180, y_ic_ne_t, y_ic_ne_f, b_X6_cell_22, b_X6_cell_25, x_loadI_2, f_6_16, x_isub, b_X6_cell_41, b_X6_cell_44, f_6_17, x_imul, x_iadd, b_X6_cell_63, x_loadI_3, x_i2b, x_goto, b_X6_cell_68, b_X6_cell_78, x_i2s, b_X6_cell_83, b_X6_cell_84, y_iast_24, y_iast_180, q_isL_I, q_isL_R, q_isL_S, true_and, and_true, and_self, List.length_nil, List.length_cons, Nat.zero_add, x_K, x_Kn, Int.reduceToNat, Nat.reduceAdd, Nat.reduceMul, Nat.reduceLeDiff, Nat.reduceLT, Nat.zero_le, Int.reduceAdd, Int.reduceSub, Int.reduceMul, Int.reduceNeg, q_add_e, q_sub_e, q_mul_e, q_neg_e, q_upd_s, q_upd_n, zr_shr0, zr_shr1, zr_shr2, zr_shr3, zr_shr4, zr_and, zr_dyn8, zr_or, zr_shl, q_cpy_n, y_cpy26, c_X6_in, mp_in, c1, c3, and_self, if_true, Int.toNat_natCast, tn_c]
          rw [if_pos c4] at h
          exact h
        · by_cases c5 : M 110 S = 1
          · simp (disch := omega) only [b_X6_cell_0, x_loadI_1, x_iconst, y_if_ne_t, y_if_ne_f, b_X6_cell_9, x_ret0, b_X6_cell_12, x_loadR_0, x_loadS_0, f_6_15, y_iald_24, y_iald_180, y_ic_ne_t, y_ic_ne_f, b_X6_cell_22, b_X6_cell_25, x_loadI_2, f_6_16, x_isub, b_X6_cell_41, b_X6_cell_44, f_6_17, x_imul, x_iadd, b_X6_cell_63, x_loadI_3, x_i2b, x_goto, b_X6_cell_68, b_X6_cell_78, x_i2s, b_X6_cell_83, b_X6_cell_84, y_iast_24, y_iast_180, q_isL_I, q_isL_R, q_isL_S, true_and, and_true, and_self, List.length_nil, List.length_cons, Nat.zero_add, x_K, x_Kn, Int.reduceToNat, Nat.reduceAdd, Nat.reduceMul, Nat.reduceLeDiff, Nat.reduceLT, Nat.zero_le, Int.reduceAdd, Int.reduceSub, Int.reduceMul, Int.reduceNeg, q_add_e, q_sub_e, q_mul_e, q_neg_e, q_upd_s, q_upd_n, zr_shr0, zr_shr1, zr_shr2, zr_shr3, zr_shr4, zr_and, zr_dyn8, zr_or, zr_shl, q_cpy_n, y_cpy26, c_X6_in, mp_in, c1, c3, and_self, if_true, Int.toNat_natCast, tn_c]
            rw [if_neg c4, if_pos c5] at h
            exact h
          · simp (disch := omega) only [b_X6_cell_0, x_loadI_1, x_iconst, y_if_ne_t, y_if_ne_f, b_X6_cell_9, x_ret0, b_X6_cell_12, x_loadR_0, x_loadS_0, f_6_15, y_iald_24, y_iald_180, y_ic_ne_t, y_ic_ne_f, b_X6_cell_22, b_X6_cell_25, x_loadI_2, f_6_16, x_isub, b_X6_cell_41, b_X6_cell_44, f_6_17, x_imul, x_iadd, b_X6_cell_63, x_loadI_3, x_i2b, x_goto, b_X6_cell_68, b_X6_cell_78, x_i2s, b_X6_cell_83, b_X6_cell_84, y_iast_24, y_iast_180, q_isL_I, q_isL_R, q_isL_S, true_and, and_true, and_self, List.length_nil, List.length_cons, Nat.zero_add, x_K, x_Kn, Int.reduceToNat, Nat.reduceAdd, Nat.reduceMul, Nat.reduceLeDiff, Nat.reduceLT, Nat.zero_le, Int.reduceAdd, Int.reduceSub, Int.reduceMul, Int.reduceNeg, q_add_e, q_sub_e, q_mul_e, q_neg_e, q_upd_s, q_upd_n, zr_shr0, zr_shr1, zr_shr2, zr_shr3, zr_shr4, zr_and, zr_dyn8, zr_or, zr_shl, q_cpy_n, y_cpy26, c_X6_in, mp_in, c1, c3, and_self, if_true, Int.toNat_natCast, tn_c]
            rw [if_neg c4, if_neg c5] at h
            exact h
      · simp (disch := omega) only [b_X6_cell_0, x_loadI_1, x_iconst, y_if_ne_t, y_if_ne_f, b_X6_cell_9, x_ret0, b_X6_cell_12, x_loadR_0, x_loadS_0, f_6_15, y_iald_24, y_iald_180, y_ic_ne_t, y_ic_ne_f, b_X6_cell_22, b_X6_cell_25, x_loadI_2, f_6_16, x_isub, b_X6_cell_41, b_X6_cell_44, f_6_17, x_imul, x_iadd, b_X6_cell_63, x_loadI_3, x_i2b, x_goto, b_X6_cell_68, b_X6_cell_78, x_i2s, b_X6_cell_83, b_X6_cell_84, y_iast_24, y_iast_180, q_isL_I, q_isL_R, q_isL_S, true_and, and_true, and_self, List.length_nil, List.length_cons, Nat.zero_add, x_K, x_Kn, Int.reduceToNat, Nat.reduceAdd, Nat.reduceMul, Nat.reduceLeDiff, Nat.reduceLT, Nat.zero_le, Int.reduceAdd, Int.reduceSub, Int.reduceMul, Int.reduceNeg, q_add_e, q_sub_e, q_mul_e, q_neg_e, q_upd_s, q_upd_n, zr_shr0, zr_shr1, zr_shr2, zr_shr3, zr_shr4, zr_and, zr_dyn8, zr_or, zr_shl, q_cpy_n, y_cpy26, c_X6_in, mp_in, c1, c3, and_self, if_true, if_false, Int.toNat_natCast]
        have eA : B_cell M S i = -12 := by unfold B_cell; rw [if_neg (show ¬¬(0 ≤ (S : Int) ∧ (S : Int) < 4) by omega), Int.toNat_natCast, if_neg c2, if_pos (by omega)]
        have h := hq0 (by rw [eA]; decide)
        rw [eA] at h
        exact h
  · have eA : B_cell M s i = -2 := by unfold B_cell; rw [if_pos (by omega)]
    have h := hq0 (by rw [eA]; decide)
    rw [eA] at h
    simp (disch := omega) only [b_X6_cell_0, x_loadI_1, x_iconst, y_if_ne_t, y_if_ne_f, b_X6_cell_9, x_ret0, b_X6_cell_12, x_loadR_0, x_loadS_0, f_6_15, y_iald_24, y_iald_180, y_ic_ne_t, y_ic_ne_f, b_X6_cell_22, b_X6_cell_25, x_loadI_2, f_6_16, x_isub, b_X6_cell_41, b_X6_cell_44, f_6_17, x_imul, x_iadd, b_X6_cell_63, x_loadI_3, x_i2b, x_goto, b_X6_cell_68, b_X6_cell_78, x_i2s, b_X6_cell_83, b_X6_cell_84, y_iast_24, y_iast_180, q_isL_I, q_isL_R, q_isL_S, true_and, and_true, and_self, List.length_nil, List.length_cons, Nat.zero_add, x_K, x_Kn, Int.reduceToNat, Nat.reduceAdd, Nat.reduceMul, Nat.reduceLeDiff, Nat.reduceLT, Nat.zero_le, Int.reduceAdd, Int.reduceSub, Int.reduceMul, Int.reduceNeg, q_add_e, q_sub_e, q_mul_e, q_neg_e, q_upd_s, q_upd_n, zr_shr0, zr_shr1, zr_shr2, zr_shr3, zr_shr4, zr_and, zr_dyn8, zr_or, zr_shl, q_cpy_n, y_cpy26, c_X6_in, mp_in, c1, if_false]
    exact h
end
section
/-! THE MODEL: copies, stones by a sheet, images, just so -/
def B_copy (M : q_M) (s i o j n : Int) : Int :=
  if ¬((0 ≤ s ∧ s < 4) ∧ (0 ≤ o ∧ o < 4)) then -2
  else if M 110 s.toNat = -1 ∨ M 110 o.toNat = -1 then -11
  else if M 110 s.toNat ≠ M 110 o.toNat then -13
  else if n < 0 ∨ i < 0 ∨ j < 0 ∨ M 111 s.toNat - n < i ∨ M 111 o.toNat - n < j then -12 else n
set_option maxHeartbeats 4000000 in
theorem mx_copy {Vt : Nat → Nat → (Nat → Int) → Int} {d tm : Nat} {g : q_G} {M : q_M} {s i o j n : Int} {Q : Option q_V → q_G → q_M → Prop} (hI : q_MI Vt tm M) (hq0 : B_copy M s i o j n < 0 → Q (some (qI (B_copy M s i o j n))) g M) (hq1 : B_copy M s i o j n = n → 0 ≤ n → Q (some (qI n)) g (q_cpy M 112 (40 * s.toNat + i.toNat) 112 (40 * o.toNat + j.toNat) n.toNat)) : q_S 1 (d + 11) 195 [qR 6 100, qI s, qI i, qI o, qI j, qI n] g M Q := by
  have n0 := hI.1.1
  rw [s_X6_copy]
  unfold B_copy at hq0 hq1
  by_cases c1 : 0 ≤ s ∧ s ≤ 3
  · by_cases c2 : 0 ≤ o ∧ o ≤ 3
    · obtain ⟨S, rfl⟩ : ∃ S : Nat, s = S := ⟨s.toNat, by omega⟩
      obtain ⟨O, rfl⟩ : ∃ O : Nat, o = O := ⟨o.toNat, by omega⟩
      have hz := hI.2.2.2.1 S (by omega)
      have hz2 := hI.2.2.2.1 O (by omega)
      rw [if_neg (show ¬¬((0 ≤ (S : Int) ∧ (S : Int) < 4) ∧ (0 ≤ (O : Int) ∧ (O : Int) < 4)) by omega), Int.toNat_natCast, Int.toNat_natCast] at hq0 hq1
      have loop : ∀ (a b N : Nat), a + N ≤ 160 → b + N ≤ 160 → N ≤ 40 → n = N → Q (some (qI n)) g (q_cpy M 112 a 112 b N) → ∀ e k : Nat, k + e = N → ∀ (M1 : q_M) (l9 : q_V), q_isL l9 = false → (M1 = fun x y => if x = 112 ∧ (if a < b then b + N - k ≤ y ∧ y < b + N else b ≤ y ∧ y < b + k) then M 112 (a + (y - b)) else M x y) → q_T 1 (d + 11) qP_X6_copy 147 [] [qR 6 100, qI S, qI i, qI O, qI j, qI n, qI a, qI b, qI k, l9] [] g M1 Q := by
        intro a b N ha hb hN hnN hq e
        induction e with
        | zero =>
          intro k hk M1 l9 hl9 hM
          rw [b_X6_copy_147]
          simp (disch := omega) only [b_X6_copy_0, x_loadI_1, x_iconst, y_if_eq_t, y_if_eq_f, b_X6_copy_9, x_loadI_3, y_if_ne_t, y_if_ne_f, b_X6_copy_18, x_ret0, b_X6_copy_21, x_loadR_0, x_loadS_0, f_6_15, y_iald_24, y_iald_180, y_ic_eq_t, y_ic_eq_f, b_X6_copy_31, y_ic_ne_t, y_ic_ne_f, b_X6_copy_41, b_X6_copy_44, b_X6_copy_59, b_X6_copy_62, x_loadI_5, y_if_lt_t, y_if_lt_f, b_X6_copy_67, x_loadI_2, b_X6_copy_71, x_loadI_4, b_X6_copy_76, f_6_16, y_ic_gt_t, y_ic_gt_f, b_X6_copy_86, b_X6_copy_97, x_isub, b_X6_copy_110, y_ic_le_t, y_ic_le_f, b_X6_copy_124, b_X6_copy_127, x_imul, x_iadd, x_storeI_6, x_storeI_7, x_storeI_8, x_loadI_8, y_ic_ge_t, y_ic_ge_f, b_X6_copy_154, x_loadI_6, x_loadI_7, b_X6_copy_161, x_goto, b_X6_copy_171, b_X6_copy_173, x_storeI_9, f_6_17, x_loadI_9, y_iast_24, y_iast_180, x_iinc_8, b_X6_copy_201, q_isL_I, q_isL_R, q_isL_S, true_and, and_true, and_self, List.length_nil, List.length_cons, Nat.zero_add, x_K, x_Kn, Int.reduceToNat, Nat.reduceAdd, Nat.reduceMul, Nat.reduceLeDiff, Nat.reduceLT, Nat.zero_le, Int.reduceAdd, Int.reduceSub, Int.reduceMul, Int.reduceNeg, q_add_e, q_sub_e, q_mul_e, q_neg_e, q_upd_s, q_upd_n, zr_shr0, zr_shr1, zr_shr2, zr_shr3, zr_shr4, zr_and, zr_dyn8, zr_or, zr_shl, q_cpy_n, y_cpy26]
          have e1 : M1 = q_cpy M 112 a 112 b N := by
            rw [hM]
            funext x y
            unfold q_cpy
            by_cases c : x = 112 ∧ b ≤ y ∧ y < b + N
            · rw [if_pos c, if_pos ⟨c.1, by split <;> omega⟩]
            · rw [if_neg c, if_neg (fun z => c ⟨z.1, by have := z.2; split at this <;> omega⟩)]
          rw [e1]
          exact hq
        | succ e ih =>
          intro k hk M1 l9 hl9 hM
          rw [b_X6_copy_147]
          by_cases k1 : a < b
          · simp only [k1, if_true] at ih hM
            have hr : M1 112 (a + (N - 1 - k)) = M 112 (a + (N - 1 - k)) := by
              rw [hM]
              exact if_neg (by omega)
            have t1 : ((a : Int) + (n - 1 - (k : Int))).toNat = a + (N - 1 - k) := by omega
            have t2 : ((b : Int) + (n - 1 - (k : Int))).toNat = b + (N - 1 - k) := by omega
            simp (disch := omega) only [b_X6_copy_0, x_loadI_1, x_iconst, y_if_eq_t, y_if_eq_f, b_X6_copy_9, x_loadI_3, y_if_ne_t, y_if_ne_f, b_X6_copy_18, x_ret0, b_X6_copy_21, x_loadR_0, x_loadS_0, f_6_15, y_iald_24, y_iald_180, y_ic_eq_t, y_ic_eq_f, b_X6_copy_31, y_ic_ne_t, y_ic_ne_f, b_X6_copy_41, b_X6_copy_44, b_X6_copy_59, b_X6_copy_62, x_loadI_5, y_if_lt_t, y_if_lt_f, b_X6_copy_67, x_loadI_2, b_X6_copy_71, x_loadI_4, b_X6_copy_76, f_6_16, y_ic_gt_t, y_ic_gt_f, b_X6_copy_86, b_X6_copy_97, x_isub, b_X6_copy_110, y_ic_le_t, y_ic_le_f, b_X6_copy_124, b_X6_copy_127, x_imul, x_iadd, x_storeI_6, x_storeI_7, x_storeI_8, x_loadI_8, y_ic_ge_t, y_ic_ge_f, b_X6_copy_154, x_loadI_6, x_loadI_7, b_X6_copy_161, x_goto, b_X6_copy_171, b_X6_copy_173, x_storeI_9, f_6_17, x_loadI_9, y_iast_24, y_iast_180, x_iinc_8, b_X6_copy_201, q_isL_I, q_isL_R, q_isL_S, true_and, and_true, and_self, List.length_nil, List.length_cons, Nat.zero_add, x_K, x_Kn, Int.reduceToNat, Nat.reduceAdd, Nat.reduceMul, Nat.reduceLeDiff, Nat.reduceLT, Nat.zero_le, Int.reduceAdd, Int.reduceSub, Int.reduceMul, Int.reduceNeg, q_add_e, q_sub_e, q_mul_e, q_neg_e, q_upd_s, q_upd_n, zr_shr0, zr_shr1, zr_shr2, zr_shr3, zr_shr4, zr_and, zr_dyn8, zr_or, zr_shl, q_cpy_n, y_cpy26, hl9, t1, t2, hr]
            refine ih (k + 1) (by omega) _ _ rfl ?_
            funext x y
            by_cases c : x = 112 ∧ y = b + (N - 1 - k)
            · obtain ⟨rfl, rfl⟩ := c
              rw [q_upd_s, if_pos ⟨rfl, by omega, by omega⟩, show b + (N - 1 - k) - b = N - 1 - k by omega]
            · rw [q_upd_n (by omega), hM]
              dsimp only
              by_cases c2 : x = 112 ∧ b + N - k ≤ y ∧ y < b + N
              · rw [if_pos c2, if_pos ⟨c2.1, by omega, c2.2.2⟩]
              · rw [if_neg c2, if_neg (by omega)]
          · simp only [k1, if_false] at ih hM
            have hr : M1 112 (a + k) = M 112 (a + k) := by
              rw [hM]
              exact if_neg (by omega)
            have t1 : ((a : Int) + (k : Int)).toNat = a + k := by omega
            have t2 : ((b : Int) + (k : Int)).toNat = b + k := by omega
            simp (disch := omega) only [b_X6_copy_0, x_loadI_1, x_iconst, y_if_eq_t, y_if_eq_f, b_X6_copy_9, x_loadI_3, y_if_ne_t, y_if_ne_f, b_X6_copy_18, x_ret0, b_X6_copy_21, x_loadR_0, x_loadS_0, f_6_15, y_iald_24, y_iald_180, y_ic_eq_t, y_ic_eq_f, b_X6_copy_31, y_ic_ne_t, y_ic_ne_f, b_X6_copy_41, b_X6_copy_44, b_X6_copy_59, b_X6_copy_62, x_loadI_5, y_if_lt_t, y_if_lt_f, b_X6_copy_67, x_loadI_2, b_X6_copy_71, x_loadI_4, b_X6_copy_76, f_6_16, y_ic_gt_t, y_ic_gt_f, b_X6_copy_86, b_X6_copy_97, x_isub, b_X6_copy_110, y_ic_le_t, y_ic_le_f, b_X6_copy_124, b_X6_copy_127, x_imul, x_iadd, x_storeI_6, x_storeI_7, x_storeI_8, x_loadI_8, y_ic_ge_t, y_ic_ge_f, b_X6_copy_154, x_loadI_6, x_loadI_7, b_X6_copy_161, x_goto, b_X6_copy_171, b_X6_copy_173, x_storeI_9, f_6_17, x_loadI_9, y_iast_24, y_iast_180, x_iinc_8, b_X6_copy_201, q_isL_I, q_isL_R, q_isL_S, true_and, and_true, and_self, List.length_nil, List.length_cons, Nat.zero_add, x_K, x_Kn, Int.reduceToNat, Nat.reduceAdd, Nat.reduceMul, Nat.reduceLeDiff, Nat.reduceLT, Nat.zero_le, Int.reduceAdd, Int.reduceSub, Int.reduceMul, Int.reduceNeg, q_add_e, q_sub_e, q_mul_e, q_neg_e, q_upd_s, q_upd_n, zr_shr0, zr_shr1, zr_shr2, zr_shr3, zr_shr4, zr_and, zr_dyn8, zr_or, zr_shl, q_cpy_n, y_cpy26, hl9, t1, t2, hr]
            refine ih (k + 1) (by omega) _ _ rfl ?_
            funext x y
            by_cases c : x = 112 ∧ y = b + k
            · obtain ⟨rfl, rfl⟩ := c
              rw [q_upd_s, if_pos ⟨rfl, by omega, by omega⟩, show b + k - b = k by omega]
            · rw [q_upd_n (by omega), hM]
              dsimp only
              by_cases c2 : x = 112 ∧ b ≤ y ∧ y < b + k
              · rw [if_pos c2, if_pos ⟨c2.1, c2.2.1, by omega⟩]
              · rw [if_neg c2, if_neg (by omega)]
      simp (disch := omega) only [b_X6_copy_0, x_loadI_1, x_iconst, y_if_eq_t, y_if_eq_f, b_X6_copy_9, x_loadI_3, y_if_ne_t, y_if_ne_f, b_X6_copy_18, x_ret0, b_X6_copy_21, x_loadR_0, x_loadS_0, f_6_15, y_iald_24, y_iald_180, y_ic_eq_t, y_ic_eq_f, b_X6_copy_31, y_ic_ne_t, y_ic_ne_f, b_X6_copy_41, b_X6_copy_44, b_X6_copy_59, b_X6_copy_62, x_loadI_5, y_if_lt_t, y_if_lt_f, b_X6_copy_67, x_loadI_2, b_X6_copy_71, x_loadI_4, b_X6_copy_76, f_6_16, y_ic_gt_t, y_ic_gt_f, b_X6_copy_86, b_X6_copy_97, x_isub, b_X6_copy_110, y_ic_le_t, y_ic_le_f, b_X6_copy_124, b_X6_copy_127, x_imul, x_iadd, x_storeI_6, x_storeI_7, x_storeI_8, x_loadI_8, y_ic_ge_t, y_ic_ge_f, b_X6_copy_154, x_loadI_6, x_loadI_7, b_X6_copy_161, x_goto, b_X6_copy_171, b_X6_copy_173, x_storeI_9, f_6_17, x_loadI_9, y_iast_24, y_iast_180, x_iinc_8, b_X6_copy_201, q_isL_I, q_isL_R, q_isL_S, true_and, and_true, and_self, List.length_nil, List.length_cons, Nat.zero_add, x_K, x_Kn, Int.reduceToNat, Nat.reduceAdd, Nat.reduceMul, Nat.reduceLeDiff, Nat.reduceLT, Nat.zero_le, Int.reduceAdd, Int.reduceSub, Int.reduceMul, Int.reduceNeg, q_add_e, q_sub_e, q_mul_e, q_neg_e, q_upd_s, q_upd_n, zr_shr0, zr_shr1, zr_shr2, zr_shr3, zr_shr4, zr_and, zr_dyn8, zr_or, zr_shl, q_cpy_n, y_cpy26, c_X6_in, mp_in, c1, c2, and_self, if_true, Int.toNat_natCast]
      by_cases k1 : M 110 S = -1
      · rw [if_pos (Or.inl k1)] at hq0
        simp (disch := omega) only [b_X6_copy_0, x_loadI_1, x_iconst, y_if_eq_t, y_if_eq_f, b_X6_copy_9, x_loadI_3, y_if_ne_t, y_if_ne_f, b_X6_copy_18, x_ret0, b_X6_copy_21, x_loadR_0, x_loadS_0, f_6_15, y_iald_24, y_iald_180, y_ic_eq_t, y_ic_eq_f, b_X6_copy_31, y_ic_ne_t, y_ic_ne_f, b_X6_copy_41, b_X6_copy_44, b_X6_copy_59, b_X6_copy_62, x_loadI_5, y_if_lt_t, y_if_lt_f, b_X6_copy_67, x_loadI_2, b_X6_copy_71, x_loadI_4, b_X6_copy_76, f_6_16, y_ic_gt_t, y_ic_gt_f, b_X6_copy_86, b_X6_copy_97, x_isub, b_X6_copy_110, y_ic_le_t, y_ic_le_f, b_X6_copy_124, b_X6_copy_127, x_imul, x_iadd, x_storeI_6, x_storeI_7, x_storeI_8, x_loadI_8, y_ic_ge_t, y_ic_ge_f, b_X6_copy_154, x_loadI_6, x_loadI_7, b_X6_copy_161, x_goto, b_X6_copy_171, b_X6_copy_173, x_storeI_9, f_6_17, x_loadI_9, y_iast_24, y_iast_180, x_iinc_8, b_X6_copy_201, q_isL_I, q_isL_R, q_isL_S, true_and, and_true, and_self, List.length_nil, List.length_cons, Nat.zero_add, x_K, x_Kn, Int.reduceToNat, Nat.reduceAdd, Nat.reduceMul, Nat.reduceLeDiff, Nat.reduceLT, Nat.zero_le, Int.reduceAdd, Int.reduceSub, Int.reduceMul, Int.reduceNeg, q_add_e, q_sub_e, q_mul_e, q_neg_e, q_upd_s, q_upd_n, zr_shr0, zr_shr1, zr_shr2, zr_shr3, zr_shr4, zr_and, zr_dyn8, zr_or, zr_shl, q_cpy_n, y_cpy26, Int.toNat_natCast]
        exact hq0 (by decide)
      by_cases k2 : M 110 O = -1
      · rw [if_pos (Or.inr k2)] at hq0
        simp (disch := omega) only [b_X6_copy_0, x_loadI_1, x_iconst, y_if_eq_t, y_if_eq_f, b_X6_copy_9, x_loadI_3, y_if_ne_t, y_if_ne_f, b_X6_copy_18, x_ret0, b_X6_copy_21, x_loadR_0, x_loadS_0, f_6_15, y_iald_24, y_iald_180, y_ic_eq_t, y_ic_eq_f, b_X6_copy_31, y_ic_ne_t, y_ic_ne_f, b_X6_copy_41, b_X6_copy_44, b_X6_copy_59, b_X6_copy_62, x_loadI_5, y_if_lt_t, y_if_lt_f, b_X6_copy_67, x_loadI_2, b_X6_copy_71, x_loadI_4, b_X6_copy_76, f_6_16, y_ic_gt_t, y_ic_gt_f, b_X6_copy_86, b_X6_copy_97, x_isub, b_X6_copy_110, y_ic_le_t, y_ic_le_f, b_X6_copy_124, b_X6_copy_127, x_imul, x_iadd, x_storeI_6, x_storeI_7, x_storeI_8, x_loadI_8, y_ic_ge_t, y_ic_ge_f, b_X6_copy_154, x_loadI_6, x_loadI_7, b_X6_copy_161, x_goto, b_X6_copy_171, b_X6_copy_173, x_storeI_9, f_6_17, x_loadI_9, y_iast_24, y_iast_180, x_iinc_8, b_X6_copy_201, q_isL_I, q_isL_R, q_isL_S, true_and, and_true, and_self, List.length_nil, List.length_cons, Nat.zero_add, x_K, x_Kn, Int.reduceToNat, Nat.reduceAdd, Nat.reduceMul, Nat.reduceLeDiff, Nat.reduceLT, Nat.zero_le, Int.reduceAdd, Int.reduceSub, Int.reduceMul, Int.reduceNeg, q_add_e, q_sub_e, q_mul_e, q_neg_e, q_upd_s, q_upd_n, zr_shr0, zr_shr1, zr_shr2, zr_shr3, zr_shr4, zr_and, zr_dyn8, zr_or, zr_shl, q_cpy_n, y_cpy26, Int.toNat_natCast]
        exact hq0 (by decide)
      rw [if_neg (fun z => z.elim k1 k2)] at hq0 hq1
      by_cases k3 : M 110 S = M 110 O
      · rw [if_neg (fun z => z k3)] at hq0 hq1
        by_cases kk : n < 0 ∨ i < 0 ∨ j < 0 ∨ M 111 S - n < i ∨ M 111 O - n < j
        · rw [if_pos kk] at hq0
          have hq := hq0 (by decide)
          by_cases k4 : n < 0
          · simp (disch := omega) only [b_X6_copy_0, x_loadI_1, x_iconst, y_if_eq_t, y_if_eq_f, b_X6_copy_9, x_loadI_3, y_if_ne_t, y_if_ne_f, b_X6_copy_18, x_ret0, b_X6_copy_21, x_loadR_0, x_loadS_0, f_6_15, y_iald_24, y_iald_180, y_ic_eq_t, y_ic_eq_f, b_X6_copy_31, y_ic_ne_t, y_ic_ne_f, b_X6_copy_41, b_X6_copy_44, b_X6_copy_59, b_X6_copy_62, x_loadI_5, y_if_lt_t, y_if_lt_f, b_X6_copy_67, x_loadI_2, b_X6_copy_71, x_loadI_4, b_X6_copy_76, f_6_16, y_ic_gt_t, y_ic_gt_f, b_X6_copy_86, b_X6_copy_97, x_isub, b_X6_copy_110, y_ic_le_t, y_ic_le_f, b_X6_copy_124, b_X6_copy_127, x_imul, x_iadd, x_storeI_6, x_storeI_7, x_storeI_8, x_loadI_8, y_ic_ge_t, y_ic_ge_f, b_X6_copy_154, x_loadI_6, x_loadI_7, b_X6_copy_161, x_goto, b_X6_copy_171, b_X6_copy_173, x_storeI_9, f_6_17, x_loadI_9, y_iast_24, y_iast_180, x_iinc_8, b_X6_copy_201, q_isL_I, q_isL_R, q_isL_S, true_and, and_true, and_self, List.length_nil, List.length_cons, Nat.zero_add, x_K, x_Kn, Int.reduceToNat, Nat.reduceAdd, Nat.reduceMul, Nat.reduceLeDiff, Nat.reduceLT, Nat.zero_le, Int.reduceAdd, Int.reduceSub, Int.reduceMul, Int.reduceNeg, q_add_e, q_sub_e, q_mul_e, q_neg_e, q_upd_s, q_upd_n, zr_shr0, zr_shr1, zr_shr2, zr_shr3, zr_shr4, zr_and, zr_dyn8, zr_or, zr_shl, q_cpy_n, y_cpy26, Int.toNat_natCast]
            exact hq
          by_cases k5 : i < 0
          · simp (disch := omega) only [b_X6_copy_0, x_loadI_1, x_iconst, y_if_eq_t, y_if_eq_f, b_X6_copy_9, x_loadI_3, y_if_ne_t, y_if_ne_f, b_X6_copy_18, x_ret0, b_X6_copy_21, x_loadR_0, x_loadS_0, f_6_15, y_iald_24, y_iald_180, y_ic_eq_t, y_ic_eq_f, b_X6_copy_31, y_ic_ne_t, y_ic_ne_f, b_X6_copy_41, b_X6_copy_44, b_X6_copy_59, b_X6_copy_62, x_loadI_5, y_if_lt_t, y_if_lt_f, b_X6_copy_67, x_loadI_2, b_X6_copy_71, x_loadI_4, b_X6_copy_76, f_6_16, y_ic_gt_t, y_ic_gt_f, b_X6_copy_86, b_X6_copy_97, x_isub, b_X6_copy_110, y_ic_le_t, y_ic_le_f, b_X6_copy_124, b_X6_copy_127, x_imul, x_iadd, x_storeI_6, x_storeI_7, x_storeI_8, x_loadI_8, y_ic_ge_t, y_ic_ge_f, b_X6_copy_154, x_loadI_6, x_loadI_7, b_X6_copy_161, x_goto, b_X6_copy_171, b_X6_copy_173, x_storeI_9, f_6_17, x_loadI_9, y_iast_24, y_iast_180, x_iinc_8, b_X6_copy_201, q_isL_I, q_isL_R, q_isL_S, true_and, and_true, and_self, List.length_nil, List.length_cons, Nat.zero_add, x_K, x_Kn, Int.reduceToNat, Nat.reduceAdd, Nat.reduceMul, Nat.reduceLeDiff, Nat.reduceLT, Nat.zero_le, Int.reduceAdd, Int.reduceSub, Int.reduceMul, Int.reduceNeg, q_add_e, q_sub_e, q_mul_e, q_neg_e, q_upd_s, q_upd_n, zr_shr0, zr_shr1, zr_shr2, zr_shr3, zr_shr4, zr_and, zr_dyn8, zr_or, zr_shl, q_cpy_n, y_cpy26, Int.toNat_natCast]
            exact hq
          by_cases k6 : j < 0
          · simp (disch := omega) only [b_X6_copy_0, x_loadI_1, x_iconst, y_if_eq_t, y_if_eq_f, b_X6_copy_9, x_loadI_3, y_if_ne_t, y_if_ne_f, b_X6_copy_18, x_ret0, b_X6_copy_21, x_loadR_0, x_loadS_0, f_6_15, y_iald_24, y_iald_180, y_ic_eq_t, y_ic_eq_f, b_X6_copy_31, y_ic_ne_t, y_ic_ne_f, b_X6_copy_41, b_X6_copy_44, b_X6_copy_59, b_X6_copy_62, x_loadI_5, y_if_lt_t, y_if_lt_f, b_X6_copy_67, x_loadI_2, b_X6_copy_71, x_loadI_4, b_X6_copy_76, f_6_16, y_ic_gt_t, y_ic_gt_f, b_X6_copy_86, b_X6_copy_97, x_isub, b_X6_copy_110, y_ic_le_t, y_ic_le_f, b_X6_copy_124, b_X6_copy_127, x_imul, x_iadd, x_storeI_6, x_storeI_7, x_storeI_8, x_loadI_8, y_ic_ge_t, y_ic_ge_f, b_X6_copy_154, x_loadI_6, x_loadI_7, b_X6_copy_161, x_goto, b_X6_copy_171, b_X6_copy_173, x_storeI_9, f_6_17, x_loadI_9, y_iast_24, y_iast_180, x_iinc_8, b_X6_copy_201, q_isL_I, q_isL_R, q_isL_S, true_and, and_true, and_self, List.length_nil, List.length_cons, Nat.zero_add, x_K, x_Kn, Int.reduceToNat, Nat.reduceAdd, Nat.reduceMul, Nat.reduceLeDiff, Nat.reduceLT, Nat.zero_le, Int.reduceAdd, Int.reduceSub, Int.reduceMul, Int.reduceNeg, q_add_e, q_sub_e, q_mul_e, q_neg_e, q_upd_s, q_upd_n, zr_shr0, zr_shr1, zr_shr2, zr_shr3, zr_shr4, zr_and, zr_dyn8, zr_or, zr_shl, q_cpy_n, y_cpy26, Int.toNat_natCast]
            exact hq
          by_cases k7 : M 111 S < i
          · simp (disch := omega) only [b_X6_copy_0, x_loadI_1, x_iconst, y_if_eq_t, y_if_eq_f, b_X6_copy_9, x_loadI_3, y_if_ne_t, y_if_ne_f, b_X6_copy_18, x_ret0, b_X6_copy_21, x_loadR_0, x_loadS_0, f_6_15, y_iald_24, y_iald_180, y_ic_eq_t, y_ic_eq_f, b_X6_copy_31, y_ic_ne_t, y_ic_ne_f, b_X6_copy_41, b_X6_copy_44, b_X6_copy_59, b_X6_copy_62, x_loadI_5, y_if_lt_t, y_if_lt_f, b_X6_copy_67, x_loadI_2, b_X6_copy_71, x_loadI_4, b_X6_copy_76, f_6_16, y_ic_gt_t, y_ic_gt_f, b_X6_copy_86, b_X6_copy_97, x_isub, b_X6_copy_110, y_ic_le_t, y_ic_le_f, b_X6_copy_124, b_X6_copy_127, x_imul, x_iadd, x_storeI_6, x_storeI_7, x_storeI_8, x_loadI_8, y_ic_ge_t, y_ic_ge_f, b_X6_copy_154, x_loadI_6, x_loadI_7, b_X6_copy_161, x_goto, b_X6_copy_171, b_X6_copy_173, x_storeI_9, f_6_17, x_loadI_9, y_iast_24, y_iast_180, x_iinc_8, b_X6_copy_201, q_isL_I, q_isL_R, q_isL_S, true_and, and_true, and_self, List.length_nil, List.length_cons, Nat.zero_add, x_K, x_Kn, Int.reduceToNat, Nat.reduceAdd, Nat.reduceMul, Nat.reduceLeDiff, Nat.reduceLT, Nat.zero_le, Int.reduceAdd, Int.reduceSub, Int.reduceMul, Int.reduceNeg, q_add_e, q_sub_e, q_mul_e, q_neg_e, q_upd_s, q_upd_n, zr_shr0, zr_shr1, zr_shr2, zr_shr3, zr_shr4, zr_and, zr_dyn8, zr_or, zr_shl, q_cpy_n, y_cpy26, Int.toNat_natCast]
            exact hq
          by_cases k8 : M 111 O < j
          · simp (disch := omega) only [b_X6_copy_0, x_loadI_1, x_iconst, y_if_eq_t, y_if_eq_f, b_X6_copy_9, x_loadI_3, y_if_ne_t, y_if_ne_f, b_X6_copy_18, x_ret0, b_X6_copy_21, x_loadR_0, x_loadS_0, f_6_15, y_iald_24, y_iald_180, y_ic_eq_t, y_ic_eq_f, b_X6_copy_31, y_ic_ne_t, y_ic_ne_f, b_X6_copy_41, b_X6_copy_44, b_X6_copy_59, b_X6_copy_62, x_loadI_5, y_if_lt_t, y_if_lt_f, b_X6_copy_67, x_loadI_2, b_X6_copy_71, x_loadI_4, b_X6_copy_76, f_6_16, y_ic_gt_t, y_ic_gt_f, b_X6_copy_86, b_X6_copy_97, x_isub, b_X6_copy_110, y_ic_le_t, y_ic_le_f, b_X6_copy_124, b_X6_copy_127, x_imul, x_iadd, x_storeI_6, x_storeI_7, x_storeI_8, x_loadI_8, y_ic_ge_t, y_ic_ge_f, b_X6_copy_154, x_loadI_6, x_loadI_7, b_X6_copy_161, x_goto, b_X6_copy_171, b_X6_copy_173, x_storeI_9, f_6_17, x_loadI_9, y_iast_24, y_iast_180, x_iinc_8, b_X6_copy_201, q_isL_I, q_isL_R, q_isL_S, true_and, and_true, and_self, List.length_nil, List.length_cons, Nat.zero_add, x_K, x_Kn, Int.reduceToNat, Nat.reduceAdd, Nat.reduceMul, Nat.reduceLeDiff, Nat.reduceLT, Nat.zero_le, Int.reduceAdd, Int.reduceSub, Int.reduceMul, Int.reduceNeg, q_add_e, q_sub_e, q_mul_e, q_neg_e, q_upd_s, q_upd_n, zr_shr0, zr_shr1, zr_shr2, zr_shr3, zr_shr4, zr_and, zr_dyn8, zr_or, zr_shl, q_cpy_n, y_cpy26, Int.toNat_natCast]
            exact hq
          by_cases k9 : M 111 S - i < n
          · simp (disch := omega) only [b_X6_copy_0, x_loadI_1, x_iconst, y_if_eq_t, y_if_eq_f, b_X6_copy_9, x_loadI_3, y_if_ne_t, y_if_ne_f, b_X6_copy_18, x_ret0, b_X6_copy_21, x_loadR_0, x_loadS_0, f_6_15, y_iald_24, y_iald_180, y_ic_eq_t, y_ic_eq_f, b_X6_copy_31, y_ic_ne_t, y_ic_ne_f, b_X6_copy_41, b_X6_copy_44, b_X6_copy_59, b_X6_copy_62, x_loadI_5, y_if_lt_t, y_if_lt_f, b_X6_copy_67, x_loadI_2, b_X6_copy_71, x_loadI_4, b_X6_copy_76, f_6_16, y_ic_gt_t, y_ic_gt_f, b_X6_copy_86, b_X6_copy_97, x_isub, b_X6_copy_110, y_ic_le_t, y_ic_le_f, b_X6_copy_124, b_X6_copy_127, x_imul, x_iadd, x_storeI_6, x_storeI_7, x_storeI_8, x_loadI_8, y_ic_ge_t, y_ic_ge_f, b_X6_copy_154, x_loadI_6, x_loadI_7, b_X6_copy_161, x_goto, b_X6_copy_171, b_X6_copy_173, x_storeI_9, f_6_17, x_loadI_9, y_iast_24, y_iast_180, x_iinc_8, b_X6_copy_201, q_isL_I, q_isL_R, q_isL_S, true_and, and_true, and_self, List.length_nil, List.length_cons, Nat.zero_add, x_K, x_Kn, Int.reduceToNat, Nat.reduceAdd, Nat.reduceMul, Nat.reduceLeDiff, Nat.reduceLT, Nat.zero_le, Int.reduceAdd, Int.reduceSub, Int.reduceMul, Int.reduceNeg, q_add_e, q_sub_e, q_mul_e, q_neg_e, q_upd_s, q_upd_n, zr_shr0, zr_shr1, zr_shr2, zr_shr3, zr_shr4, zr_and, zr_dyn8, zr_or, zr_shl, q_cpy_n, y_cpy26, Int.toNat_natCast]
            exact hq
          by_cases k10 : M 111 O - j < n
          · simp (disch := omega) only [b_X6_copy_0, x_loadI_1, x_iconst, y_if_eq_t, y_if_eq_f, b_X6_copy_9, x_loadI_3, y_if_ne_t, y_if_ne_f, b_X6_copy_18, x_ret0, b_X6_copy_21, x_loadR_0, x_loadS_0, f_6_15, y_iald_24, y_iald_180, y_ic_eq_t, y_ic_eq_f, b_X6_copy_31, y_ic_ne_t, y_ic_ne_f, b_X6_copy_41, b_X6_copy_44, b_X6_copy_59, b_X6_copy_62, x_loadI_5, y_if_lt_t, y_if_lt_f, b_X6_copy_67, x_loadI_2, b_X6_copy_71, x_loadI_4, b_X6_copy_76, f_6_16, y_ic_gt_t, y_ic_gt_f, b_X6_copy_86, b_X6_copy_97, x_isub, b_X6_copy_110, y_ic_le_t, y_ic_le_f, b_X6_copy_124, b_X6_copy_127, x_imul, x_iadd, x_storeI_6, x_storeI_7, x_storeI_8, x_loadI_8, y_ic_ge_t, y_ic_ge_f, b_X6_copy_154, x_loadI_6, x_loadI_7, b_X6_copy_161, x_goto, b_X6_copy_171, b_X6_copy_173, x_storeI_9, f_6_17, x_loadI_9, y_iast_24, y_iast_180, x_iinc_8, b_X6_copy_201, q_isL_I, q_isL_R, q_isL_S, true_and, and_true, and_self, List.length_nil, List.length_cons, Nat.zero_add, x_K, x_Kn, Int.reduceToNat, Nat.reduceAdd, Nat.reduceMul, Nat.reduceLeDiff, Nat.reduceLT, Nat.zero_le, Int.reduceAdd, Int.reduceSub, Int.reduceMul, Int.reduceNeg, q_add_e, q_sub_e, q_mul_e, q_neg_e, q_upd_s, q_upd_n, zr_shr0, zr_shr1, zr_shr2, zr_shr3, zr_shr4, zr_and, zr_dyn8, zr_or, zr_shl, q_cpy_n, y_cpy26, Int.toNat_natCast]
            exact hq
          · exfalso
            omega
        · rw [if_neg kk] at hq1
          have hq := hq1 rfl (by omega)
          have l := loop (40 * S + i.toNat) (40 * O + j.toNat) n.toNat (by omega) (by omega) (by omega) (by omega) hq n.toNat 0 (by omega) M (qS 0) rfl (by
            funext x y
            rw [if_neg (by
              rintro ⟨_, z⟩
              split at z <;> omega)])
          have ea : (((40 * S + i.toNat : Nat)) : Int) = 40 * (S : Int) + i := by omega
          have eb : (((40 * O + j.toNat : Nat)) : Int) = 40 * (O : Int) + j := by omega
          rw [ea, eb] at l
          simp (disch := omega) only [b_X6_copy_0, x_loadI_1, x_iconst, y_if_eq_t, y_if_eq_f, b_X6_copy_9, x_loadI_3, y_if_ne_t, y_if_ne_f, b_X6_copy_18, x_ret0, b_X6_copy_21, x_loadR_0, x_loadS_0, f_6_15, y_iald_24, y_iald_180, y_ic_eq_t, y_ic_eq_f, b_X6_copy_31, y_ic_ne_t, y_ic_ne_f, b_X6_copy_41, b_X6_copy_44, b_X6_copy_59, b_X6_copy_62, x_loadI_5, y_if_lt_t, y_if_lt_f, b_X6_copy_67, x_loadI_2, b_X6_copy_71, x_loadI_4, b_X6_copy_76, f_6_16, y_ic_gt_t, y_ic_gt_f, b_X6_copy_86, b_X6_copy_97, x_isub, b_X6_copy_110, y_ic_le_t, y_ic_le_f, b_X6_copy_124, b_X6_copy_127, x_imul, x_iadd, x_storeI_6, x_storeI_7, x_storeI_8, x_loadI_8, y_ic_ge_t, y_ic_ge_f, b_X6_copy_154, x_loadI_6, x_loadI_7, b_X6_copy_161, x_goto, b_X6_copy_171, b_X6_copy_173, x_storeI_9, f_6_17, x_loadI_9, y_iast_24, y_iast_180, x_iinc_8, b_X6_copy_201, q_isL_I, q_isL_R, q_isL_S, true_and, and_true, and_self, List.length_nil, List.length_cons, Nat.zero_add, x_K, x_Kn, Int.reduceToNat, Nat.reduceAdd, Nat.reduceMul, Nat.reduceLeDiff, Nat.reduceLT, Nat.zero_le, Int.reduceAdd, Int.reduceSub, Int.reduceMul, Int.reduceNeg, q_add_e, q_sub_e, q_mul_e, q_neg_e, q_upd_s, q_upd_n, zr_shr0, zr_shr1, zr_shr2, zr_shr3, zr_shr4, zr_and, zr_dyn8, zr_or, zr_shl, q_cpy_n, y_cpy26, Int.toNat_natCast]
          exact l
      · rw [if_pos k3] at hq0
        simp (disch := omega) only [b_X6_copy_0, x_loadI_1, x_iconst, y_if_eq_t, y_if_eq_f, b_X6_copy_9, x_loadI_3, y_if_ne_t, y_if_ne_f, b_X6_copy_18, x_ret0, b_X6_copy_21, x_loadR_0, x_loadS_0, f_6_15, y_iald_24, y_iald_180, y_ic_eq_t, y_ic_eq_f, b_X6_copy_31, y_ic_ne_t, y_ic_ne_f, b_X6_copy_41, b_X6_copy_44, b_X6_copy_59, b_X6_copy_62, x_loadI_5, y_if_lt_t, y_if_lt_f, b_X6_copy_67, x_loadI_2, b_X6_copy_71, x_loadI_4, b_X6_copy_76, f_6_16, y_ic_gt_t, y_ic_gt_f, b_X6_copy_86, b_X6_copy_97, x_isub, b_X6_copy_110, y_ic_le_t, y_ic_le_f, b_X6_copy_124, b_X6_copy_127, x_imul, x_iadd, x_storeI_6, x_storeI_7, x_storeI_8, x_loadI_8, y_ic_ge_t, y_ic_ge_f, b_X6_copy_154, x_loadI_6, x_loadI_7, b_X6_copy_161, x_goto, b_X6_copy_171, b_X6_copy_173, x_storeI_9, f_6_17, x_loadI_9, y_iast_24, y_iast_180, x_iinc_8, b_X6_copy_201, q_isL_I, q_isL_R, q_isL_S, true_and, and_true, and_self, List.length_nil, List.length_cons, Nat.zero_add, x_K, x_Kn, Int.reduceToNat, Nat.reduceAdd, Nat.reduceMul, Nat.reduceLeDiff, Nat.reduceLT, Nat.zero_le, Int.reduceAdd, Int.reduceSub, Int.reduceMul, Int.reduceNeg, q_add_e, q_sub_e, q_mul_e, q_neg_e, q_upd_s, q_upd_n, zr_shr0, zr_shr1, zr_shr2, zr_shr3, zr_shr4, zr_and, zr_dyn8, zr_or, zr_shl, q_cpy_n, y_cpy26, Int.toNat_natCast]
        exact hq0 (by decide)
    · rw [if_pos (by omega)] at hq0
      simp (disch := omega) only [b_X6_copy_0, x_loadI_1, x_iconst, y_if_eq_t, y_if_eq_f, b_X6_copy_9, x_loadI_3, y_if_ne_t, y_if_ne_f, b_X6_copy_18, x_ret0, b_X6_copy_21, x_loadR_0, x_loadS_0, f_6_15, y_iald_24, y_iald_180, y_ic_eq_t, y_ic_eq_f, b_X6_copy_31, y_ic_ne_t, y_ic_ne_f, b_X6_copy_41, b_X6_copy_44, b_X6_copy_59, b_X6_copy_62, x_loadI_5, y_if_lt_t, y_if_lt_f, b_X6_copy_67, x_loadI_2, b_X6_copy_71, x_loadI_4, b_X6_copy_76, f_6_16, y_ic_gt_t, y_ic_gt_f, b_X6_copy_86, b_X6_copy_97, x_isub, b_X6_copy_110, y_ic_le_t, y_ic_le_f, b_X6_copy_124, b_X6_copy_127, x_imul, x_iadd, x_storeI_6, x_storeI_7, x_storeI_8, x_loadI_8, y_ic_ge_t, y_ic_ge_f, b_X6_copy_154, x_loadI_6, x_loadI_7, b_X6_copy_161, x_goto, b_X6_copy_171, b_X6_copy_173, x_storeI_9, f_6_17, x_loadI_9, y_iast_24, y_iast_180, x_iinc_8, b_X6_copy_201, q_isL_I, q_isL_R, q_isL_S, true_and, and_true, and_self, List.length_nil, List.length_cons, Nat.zero_add, x_K, x_Kn, Int.reduceToNat, Nat.reduceAdd, Nat.reduceMul, Nat.reduceLeDiff, Nat.reduceLT, Nat.zero_le, Int.reduceAdd, Int.reduceSub, Int.reduceMul, Int.reduceNeg, q_add_e, q_sub_e, q_mul_e, q_neg_e, q_upd_s, q_upd_n, zr_shr0, zr_shr1, zr_shr2, zr_shr3, zr_shr4, zr_and, zr_dyn8, zr_or, zr_shl, q_cpy_n, y_cpy26, c_X6_in, mp_in, c1, c2, and_self, if_true, if_false]
      exact hq0 (by decide)
  · rw [if_pos (by omega)] at hq0
    simp (disch := omega) only [b_X6_copy_0, x_loadI_1, x_iconst, y_if_eq_t, y_if_eq_f, b_X6_copy_9, x_loadI_3, y_if_ne_t, y_if_ne_f, b_X6_copy_18, x_ret0, b_X6_copy_21, x_loadR_0, x_loadS_0, f_6_15, y_iald_24, y_iald_180, y_ic_eq_t, y_ic_eq_f, b_X6_copy_31, y_ic_ne_t, y_ic_ne_f, b_X6_copy_41, b_X6_copy_44, b_X6_copy_59, b_X6_copy_62, x_loadI_5, y_if_lt_t, y_if_lt_f, b_X6_copy_67, x_loadI_2, b_X6_copy_71, x_loadI_4, b_X6_copy_76, f_6_16, y_ic_gt_t, y_ic_gt_f, b_X6_copy_86, b_X6_copy_97, x_isub, b_X6_copy_110, y_ic_le_t, y_ic_le_f, b_X6_copy_124, b_X6_copy_127, x_imul, x_iadd, x_storeI_6, x_storeI_7, x_storeI_8, x_loadI_8, y_ic_ge_t, y_ic_ge_f, b_X6_copy_154, x_loadI_6, x_loadI_7, b_X6_copy_161, x_goto, b_X6_copy_171, b_X6_copy_173, x_storeI_9, f_6_17, x_loadI_9, y_iast_24, y_iast_180, x_iinc_8, b_X6_copy_201, q_isL_I, q_isL_R, q_isL_S, true_and, and_true, and_self, List.length_nil, List.length_cons, Nat.zero_add, x_K, x_Kn, Int.reduceToNat, Nat.reduceAdd, Nat.reduceMul, Nat.reduceLeDiff, Nat.reduceLT, Nat.zero_le, Int.reduceAdd, Int.reduceSub, Int.reduceMul, Int.reduceNeg, q_add_e, q_sub_e, q_mul_e, q_neg_e, q_upd_s, q_upd_n, zr_shr0, zr_shr1, zr_shr2, zr_shr3, zr_shr4, zr_and, zr_dyn8, zr_or, zr_shl, q_cpy_n, y_cpy26, c_X6_in, mp_in, c1, if_false]
    exact hq0 (by decide)
/-- stones by a row of numbers, on a world -/
def F_sb (C : Nat → Int) (fr sz : Int) : Nat → Nat → Int → q_M → Int × q_M
  | 0, _, came, S => (came, S)
  | j + 1, k, came, S => if sz - 3 * k - 3 < fr then (-12, S)
    else if F_stB (C (fr + 3 * k).toNat) (C ((fr + 3 * k).toNat + 1)) (C ((fr + 3 * k).toNat + 2)) = true ∧ S 9 0 ≠ 5 then F_sb C fr sz j (k + 1) (came + 1) (F_add S (C (fr + 3 * k).toNat) (C ((fr + 3 * k).toNat + 1)) (C ((fr + 3 * k).toNat + 2)))
    else F_sb C fr sz j (k + 1) came S
theorem F_sb_c {C C2 : Nat → Int} {fr sz : Int} (hf : 0 ≤ fr) (h : ∀ i : Nat, (i : Int) < sz → C i = C2 i) : ∀ (j k : Nat) (came : Int) (S : q_M), F_sb C fr sz j k came S = F_sb C2 fr sz j k came S
  | 0, _, _, _ => rfl
  | j + 1, k, came, S => by
    rw [F_sb, F_sb]
    by_cases c : sz - 3 * k - 3 < fr
    · rw [if_pos c, if_pos c]
    · rw [if_neg c, if_neg c, h (fr + 3 * k).toNat (by omega), h ((fr + 3 * k).toNat + 1) (by omega), h ((fr + 3 * k).toNat + 2) (by omega), F_sb_c hf h j (k + 1) came S, F_sb_c hf h j (k + 1) (came + 1) _]
theorem q_sb_S {C : Nat → Int} {fr sz : Int} : ∀ (j k : Nat) (came : Int) (M : q_M), 0 ≤ M 12 5 → M 12 5 ≤ 5 → (q_sb C fr sz j k came M).1 = (F_sb C fr sz j k came (cW M 11)).1 ∧ cW (q_sb C fr sz j k came M).2 11 = (F_sb C fr sz j k came (cW M 11)).2
  | 0, _, _, _, _, _ => ⟨rfl, rfl⟩
  | j + 1, k, came, M, h0, h5 => by
    rw [q_sb, F_sb]
    have e9 : cW M 11 9 0 = M 12 5 := rfl
    rw [e9]
    by_cases c : sz - 3 * k - 3 < fr
    · rw [if_pos c, if_pos c]
      exact ⟨rfl, rfl⟩
    · rw [if_neg c, if_neg c]
      by_cases c2 : F_stB (C (fr + 3 * k).toNat) (C ((fr + 3 * k).toNat + 1)) (C ((fr + 3 * k).toNat + 2)) = true ∧ M 12 5 ≠ 5
      · rw [if_pos c2, if_pos c2]
        have ea := cW_adM (M := M) (w := 11) (km := C (fr + 3 * k).toNat) (wh := C ((fr + 3 * k).toNat + 1)) (hv := C ((fr + 3 * k).toNat + 2)) h0 (show M 12 5 < 5 by omega)
        have e5 : q_adM M 11 (C (fr + 3 * k).toNat) (C ((fr + 3 * k).toNat + 1)) (C ((fr + 3 * k).toNat + 2)) 12 5 = M 12 5 + 1 := q_upd_s
        have ih := q_sb_S (C := C) (fr := fr) (sz := sz) j (k + 1) (came + 1) (q_adM M 11 (C (fr + 3 * k).toNat) (C ((fr + 3 * k).toNat + 1)) (C ((fr + 3 * k).toNat + 2))) (by rw [e5]; omega) (by rw [e5]; omega)
        rw [ea] at ih
        exact ih
      · rw [if_neg c2, if_neg c2]
        exact q_sb_S j (k + 1) came M h0 h5
def B_sb (M : q_M) (s so fr n : Int) : Int × q_M :=
  if ¬((0 ≤ s ∧ s < 4) ∧ (0 ≤ so ∧ so ≤ 2) ∧ (0 ≤ n ∧ n ≤ 5)) then (-2, mW M)
  else if M 110 s.toNat = -1 then (-11, mW M)
  else if M 110 s.toNat ≠ so then (-13, mW M)
  else if 0 < n ∧ fr < 0 then (-12, mW M)
  else F_sb (fun x => M 112 (40 * s.toNat + x)) fr (M 111 s.toNat) n.toNat 0 0 (mW M)
/-- what stones that come change in the model -/
def q_mst (M M2 : q_M) : Prop := (∀ a i, a ≠ 101 → a ≠ 102 → a ≠ 104 → (a = 100 → i ≠ 0) → M2 a i = M a i) ∧ M 100 0 ≤ M2 100 0 ∧ ∀ i, i < (M 100 0).toNat → M2 101 i = M 101 i ∧ M2 102 i = M 102 i
theorem q_mst_rf {M : q_M} : q_mst M M := ⟨fun _ _ _ _ _ _ => rfl, Int.le_refl _, fun _ _ => ⟨rfl, rfl⟩⟩
theorem q_mst_tr {M M2 M3 : q_M} (h : q_mst M M2) (h2 : q_mst M2 M3) : q_mst M M3 := ⟨fun a i q1 q2 q3 q4 => (h2.1 a i q1 q2 q3 q4).trans (h.1 a i q1 q2 q3 q4), Int.le_trans h.2.1 h2.2.1, fun i hi => ⟨(h2.2.2 i (by have := h.2.1; omega)).1.trans (h.2.2 i hi).1, (h2.2.2 i (by have := h.2.1; omega)).2.trans (h.2.2 i hi).2⟩⟩
set_option maxHeartbeats 4000000 in
theorem mx_stonesBy {Vt : Nat → Nat → (Nat → Int) → Int} {d tm : Nat} {g : q_G} {M : q_M} {s so fr n : Int} {Q : Option q_V → q_G → q_M → Prop} (hI : q_MI Vt tm M) (hfr : -2147483648 ≤ fr ∧ fr ≤ 2147483647) (hq : ∀ M2 : q_M, mW M2 = (B_sb M s so fr n).2 → q_mst M M2 → Q (some (qI (B_sb M s so fr n).1)) g M2) : q_S 1 (d + 11) 196 [qR 6 100, qI s, qI so, qI fr, qI n] g M Q := by
  have n0 := hI.1.1
  rw [s_X6_stonesBy]
  have stop : ∀ v : Int, B_sb M s so fr n = (v, mW M) → Q (some (qI v)) g M := by
    intro v h
    have hh := hq M (by rw [h]) q_mst_rf
    rw [h] at hh
    exact hh
  by_cases c1 : 0 ≤ s ∧ s ≤ 3
  · obtain ⟨S, rfl⟩ : ∃ S : Nat, s = S := ⟨s.toNat, by omega⟩
    by_cases c2 : 0 ≤ so ∧ so ≤ 2
    · by_cases c3 : 0 ≤ n ∧ n ≤ 5
      · have e0 : B_sb M S so fr n = (if M 110 S = -1 then (-11, mW M) else if M 110 S ≠ so then (-13, mW M) else if 0 < n ∧ fr < 0 then (-12, mW M) else F_sb (fun x => M 112 (40 * S + x)) fr (M 111 S) n.toNat 0 0 (mW M)) := by
          unfold B_sb
          rw [if_neg (show ¬¬((0 ≤ (S : Int) ∧ (S : Int) < 4) ∧ (0 ≤ so ∧ so ≤ 2) ∧ (0 ≤ n ∧ n ≤ 5)) by omega), Int.toNat_natCast]
        have hzS := hI.2.2.2.1 S (by omega)
        have loop : 0 ≤ fr ∨ n = 0 → ∀ e k : Nat, (k : Int) + e = n → (k = 0 ∨ fr ≤ 40) → ∀ (came : Int) (M1 : q_M) (l7 l8 : q_V), q_isL l7 = false → q_isL l8 = false → 0 ≤ came → came ≤ k → q_MI Vt tm M1 → q_mst M M1 → (∀ M2 : q_M, mW M2 = (F_sb (fun x => M 112 (40 * S + x)) fr (M 111 S) e k came (mW M1)).2 → q_mst M M2 → Q (some (qI (F_sb (fun x => M 112 (40 * S + x)) fr (M 111 S) e k came (mW M1)).1)) g M2) → q_T 1 (d + 11) qP_X6_stonesBy 63 [] [qR 6 100, qI S, qI so, qI fr, qI n, qI came, qI k, l7, l8] [] g M1 Q := by
          intro hfn e
          induction e with
          | zero =>
            intro k hk hk2 came M1 l7 l8 hl7 hl8 hc0 hc1 h1 f1 hq
            rw [b_X6_stonesBy_63]
            simp (disch := omega) only [b_X6_stonesBy_0, x_loadI_1, x_iconst, y_if_eq_t, y_if_eq_f, b_X6_stonesBy_9, x_loadI_2, b_X6_stonesBy_18, x_loadI_4, y_if_ne_t, y_if_ne_f, b_X6_stonesBy_28, x_ret0, b_X6_stonesBy_31, x_loadR_0, x_loadS_0, f_6_15, y_iald_24, y_iald_180, y_ic_ne_t, y_ic_ne_f, b_X6_stonesBy_41, b_X6_stonesBy_44, y_ic_eq_t, y_ic_eq_f, b_X6_stonesBy_54, b_X6_stonesBy_57, x_storeI_5, x_storeI_6, x_loadI_6, y_ic_ge_t, y_ic_ge_f, b_X6_stonesBy_70, x_loadI_3, x_imul, x_iadd, x_storeI_7, y_if_lt_t, y_if_lt_f, b_X6_stonesBy_82, x_loadI_7, y_ic_lt_t, y_ic_lt_f, b_X6_stonesBy_88, f_6_16, x_isub, y_ic_le_t, y_ic_le_f, b_X6_stonesBy_101, b_X6_stonesBy_104, x_storeI_8, x_loadI_5, f_6_17, x_loadI_8, b_X6_stonesBy_147, x_goto, b_X6_stonesBy_151, b_X6_stonesBy_152, x_iinc_6, b_X6_stonesBy_161, q_isL_I, q_isL_R, q_isL_S, true_and, and_true, and_self, List.length_nil, List.length_cons, Nat.zero_add, x_K, x_Kn, Int.reduceToNat, Nat.reduceAdd, Nat.reduceMul, Nat.reduceLeDiff, Nat.reduceLT, Nat.zero_le, Int.reduceAdd, Int.reduceSub, Int.reduceMul, Int.reduceNeg, q_add_e, q_sub_e, q_mul_e, q_neg_e, q_upd_s, q_upd_n, zr_shr0, zr_shr1, zr_shr2, zr_shr3, zr_shr4, zr_and, zr_dyn8, zr_or, zr_shl, q_cpy_n, y_cpy26]
            exact hq M1 rfl f1
          | succ e ih =>
            intro k hk hk2 came M1 l7 l8 hl7 hl8 hc0 hc1 h1 f1 hq
            have hz := h1.2.2.2.1 S (by omega)
            have ez : M1 111 S = M 111 S := f1.1 111 S (by omega) (by omega) (by omega) (by omega)
            have ec : ∀ x, M1 112 x = M 112 x := fun x => f1.1 112 x (by omega) (by omega) (by omega) (by omega)
            rw [F_sb] at hq
            rw [b_X6_stonesBy_63]
            by_cases k3 : M 111 S - 3 * k - 3 < fr
            · rw [if_pos k3] at hq
              have hh := hq M1 rfl f1
              simp (disch := omega) only [b_X6_stonesBy_0, x_loadI_1, x_iconst, y_if_eq_t, y_if_eq_f, b_X6_stonesBy_9, x_loadI_2, b_X6_stonesBy_18, x_loadI_4, y_if_ne_t, y_if_ne_f, b_X6_stonesBy_28, x_ret0, b_X6_stonesBy_31, x_loadR_0, x_loadS_0, f_6_15, y_iald_24, y_iald_180, y_ic_ne_t, y_ic_ne_f, b_X6_stonesBy_41, b_X6_stonesBy_44, y_ic_eq_t, y_ic_eq_f, b_X6_stonesBy_54, b_X6_stonesBy_57, x_storeI_5, x_storeI_6, x_loadI_6, y_ic_ge_t, y_ic_ge_f, b_X6_stonesBy_70, x_loadI_3, x_imul, x_iadd, x_storeI_7, y_if_lt_t, y_if_lt_f, b_X6_stonesBy_82, x_loadI_7, y_ic_lt_t, y_ic_lt_f, b_X6_stonesBy_88, f_6_16, x_isub, y_ic_le_t, y_ic_le_f, b_X6_stonesBy_101, b_X6_stonesBy_104, x_storeI_8, x_loadI_5, f_6_17, x_loadI_8, b_X6_stonesBy_147, x_goto, b_X6_stonesBy_151, b_X6_stonesBy_152, x_iinc_6, b_X6_stonesBy_161, q_isL_I, q_isL_R, q_isL_S, true_and, and_true, and_self, List.length_nil, List.length_cons, Nat.zero_add, x_K, x_Kn, Int.reduceToNat, Nat.reduceAdd, Nat.reduceMul, Nat.reduceLeDiff, Nat.reduceLT, Nat.zero_le, Int.reduceAdd, Int.reduceSub, Int.reduceMul, Int.reduceNeg, q_add_e, q_sub_e, q_mul_e, q_neg_e, q_upd_s, q_upd_n, zr_shr0, zr_shr1, zr_shr2, zr_shr3, zr_shr4, zr_and, zr_dyn8, zr_or, zr_shl, q_cpy_n, y_cpy26, hl7, Int.toNat_natCast]
              exact hh
            · rw [if_neg k3] at hq
              have t0 : (40 * (S : Int) + (fr + 3 * (k : Int))).toNat = 40 * S + (fr + 3 * k).toNat := by omega
              have t1 : (40 * (S : Int) + (fr + 3 * (k : Int)) + 1).toNat = 40 * S + ((fr + 3 * k).toNat + 1) := by omega
              have t2 : (40 * (S : Int) + (fr + 3 * (k : Int)) + 2).toNat = 40 * S + ((fr + 3 * k).toNat + 2) := by omega
              generalize hA : M 112 (40 * S + (fr + 3 * k).toNat) = A at hq
              generalize hB : M 112 (40 * S + ((fr + 3 * k).toNat + 1)) = B at hq
              generalize hC : M 112 (40 * S + ((fr + 3 * k).toNat + 2)) = Cc at hq
              have e90 : mW M1 9 0 = M1 100 0 := rfl
              rw [e90] at hq
              have stn : ∀ (nx : Nat) (ops : List Instr) (ls st : List q_V), (∀ (v : Int) (M2 : q_M), q_MI Vt tm M2 → q_mst M1 M2 → (F_stB A B Cc = true ∧ M1 100 0 ≠ 5 → 0 ≤ v ∧ mW M2 = F_add (mW M1) A B Cc) → (¬(F_stB A B Cc = true ∧ M1 100 0 ≠ 5) → v < 0 ∧ M2 = M1) → q_T 1 (d + 11) qP_X6_stonesBy nx ops ls (qI v :: st) g M2 Q) → q_S 1 (d + 10) 139 [qR 6 100, qI A, qI B, qI Cc] g M1 (q_K 1 (d + 11) qP_X6_stonesBy nx ops ls st Q) := by
                intro nx ops ls st h
                have h0 := h1.1.1
                refine q_S_mono (q_S_and (mw_stone (d := d) (Q := fun v _ M2 => (∃ vi, v = some (qI vi)) ∧ q_MI Vt tm M2) h1 (fun v M2 q1 q2 => ⟨⟨v, rfl⟩, q1⟩)) (mx_stone (d := d) (Q := fun v g2 M2 => g2 = g ∧ ∃ vi, v = some (qI vi) ∧ q_mst M1 M2 ∧ (F_stB A B Cc = true ∧ M1 100 0 ≠ 5 → 0 ≤ vi ∧ mW M2 = F_add (mW M1) A B Cc) ∧ (¬(F_stB A B Cc = true ∧ M1 100 0 ≠ 5) → vi < 0 ∧ M2 = M1)) h1 (fun z => ⟨rfl, _, rfl, q_mst_rf, fun y => absurd y z, fun _ => ⟨?_, rfl⟩⟩) (fun z M2 y1 y2 y3 => ⟨rfl, _, rfl, ⟨y2, ?_, y3⟩, fun _ => ⟨?_, y1⟩, fun y => absurd z y⟩))) (fun v g2 M2 z => ?_)
                · unfold B_stn
                  rw [mW_90]
                  by_cases y : F_stB A B Cc = false
                  · rw [if_pos y]; decide
                  · rw [if_neg y]
                    have y2 : F_stB A B Cc = true := by
                      cases w : F_stB A B Cc with
                      | true => rfl
                      | false => exact absurd w y
                    have : M1 100 0 = 5 := Decidable.byContradiction (fun x => z ⟨y2, x⟩)
                    rw [if_pos this]
                    decide
                · have e1 : mW M2 9 0 = F_add (mW M1) A B Cc 9 0 := by rw [y1]
                  have e2 : F_add (mW M1) A B Cc 9 0 = M1 100 0 + 1 := q_upd_s
                  have e3 : mW M2 9 0 = M2 100 0 := rfl
                  omega
                · unfold B_stn
                  rw [mW_90, if_neg (by rw [z.1]; decide), if_neg z.2]
                  exact h0.1
                · obtain ⟨⟨_, z2⟩, z3, vi, z4, z5, z6, z7⟩ := z
                  subst z3
                  subst z4
                  exact h vi M2 z2 z5 z6 z7
              simp (disch := omega) only [b_X6_stonesBy_0, x_loadI_1, x_iconst, y_if_eq_t, y_if_eq_f, b_X6_stonesBy_9, x_loadI_2, b_X6_stonesBy_18, x_loadI_4, y_if_ne_t, y_if_ne_f, b_X6_stonesBy_28, x_ret0, b_X6_stonesBy_31, x_loadR_0, x_loadS_0, f_6_15, y_iald_24, y_iald_180, y_ic_ne_t, y_ic_ne_f, b_X6_stonesBy_41, b_X6_stonesBy_44, y_ic_eq_t, y_ic_eq_f, b_X6_stonesBy_54, b_X6_stonesBy_57, x_storeI_5, x_storeI_6, x_loadI_6, y_ic_ge_t, y_ic_ge_f, b_X6_stonesBy_70, x_loadI_3, x_imul, x_iadd, x_storeI_7, y_if_lt_t, y_if_lt_f, b_X6_stonesBy_82, x_loadI_7, y_ic_lt_t, y_ic_lt_f, b_X6_stonesBy_88, f_6_16, x_isub, y_ic_le_t, y_ic_le_f, b_X6_stonesBy_101, b_X6_stonesBy_104, x_storeI_8, x_loadI_5, f_6_17, x_loadI_8, b_X6_stonesBy_147, x_goto, b_X6_stonesBy_151, b_X6_stonesBy_152, x_iinc_6, b_X6_stonesBy_161, q_isL_I, q_isL_R, q_isL_S, true_and, and_true, and_self, List.length_nil, List.length_cons, Nat.zero_add, x_K, x_Kn, Int.reduceToNat, Nat.reduceAdd, Nat.reduceMul, Nat.reduceLeDiff, Nat.reduceLT, Nat.zero_le, Int.reduceAdd, Int.reduceSub, Int.reduceMul, Int.reduceNeg, q_add_e, q_sub_e, q_mul_e, q_neg_e, q_upd_s, q_upd_n, zr_shr0, zr_shr1, zr_shr2, zr_shr3, zr_shr4, zr_and, zr_dyn8, zr_or, zr_shl, q_cpy_n, y_cpy26, hl7, hl8, Int.toNat_natCast, c_X6_stone, ec, t0, t1, t2, hA, hB, hC]
              refine stn _ _ _ _ (fun v M2 h2 f2 y1 y2 => ?_)
              by_cases k4 : F_stB A B Cc = true ∧ M1 100 0 ≠ 5
              · rw [if_pos k4] at hq
                obtain ⟨z1, z2⟩ := y1 k4
                rw [← z2] at hq
                simp (disch := omega) only [b_X6_stonesBy_0, x_loadI_1, x_iconst, y_if_eq_t, y_if_eq_f, b_X6_stonesBy_9, x_loadI_2, b_X6_stonesBy_18, x_loadI_4, y_if_ne_t, y_if_ne_f, b_X6_stonesBy_28, x_ret0, b_X6_stonesBy_31, x_loadR_0, x_loadS_0, f_6_15, y_iald_24, y_iald_180, y_ic_ne_t, y_ic_ne_f, b_X6_stonesBy_41, b_X6_stonesBy_44, y_ic_eq_t, y_ic_eq_f, b_X6_stonesBy_54, b_X6_stonesBy_57, x_storeI_5, x_storeI_6, x_loadI_6, y_ic_ge_t, y_ic_ge_f, b_X6_stonesBy_70, x_loadI_3, x_imul, x_iadd, x_storeI_7, y_if_lt_t, y_if_lt_f, b_X6_stonesBy_82, x_loadI_7, y_ic_lt_t, y_ic_lt_f, b_X6_stonesBy_88, f_6_16, x_isub, y_ic_le_t, y_ic_le_f, b_X6_stonesBy_101, b_X6_stonesBy_104, x_storeI_8, x_loadI_5, f_6_17, x_loadI_8, b_X6_stonesBy_147, x_goto, b_X6_stonesBy_151, b_X6_stonesBy_152, x_iinc_6, b_X6_stonesBy_161, q_isL_I, q_isL_R, q_isL_S, true_and, and_true, and_self, List.length_nil, List.length_cons, Nat.zero_add, x_K, x_Kn, Int.reduceToNat, Nat.reduceAdd, Nat.reduceMul, Nat.reduceLeDiff, Nat.reduceLT, Nat.zero_le, Int.reduceAdd, Int.reduceSub, Int.reduceMul, Int.reduceNeg, q_add_e, q_sub_e, q_mul_e, q_neg_e, q_upd_s, q_upd_n, zr_shr0, zr_shr1, zr_shr2, zr_shr3, zr_shr4, zr_and, zr_dyn8, zr_or, zr_shl, q_cpy_n, y_cpy26]
                exact ih (k + 1) (by omega) (by omega) (came + 1) M2 _ _ rfl rfl (by omega) (by omega) h2 (q_mst_tr f1 f2) hq
              · rw [if_neg k4] at hq
                obtain ⟨z1, z2⟩ := y2 k4
                subst z2
                simp (disch := omega) only [b_X6_stonesBy_0, x_loadI_1, x_iconst, y_if_eq_t, y_if_eq_f, b_X6_stonesBy_9, x_loadI_2, b_X6_stonesBy_18, x_loadI_4, y_if_ne_t, y_if_ne_f, b_X6_stonesBy_28, x_ret0, b_X6_stonesBy_31, x_loadR_0, x_loadS_0, f_6_15, y_iald_24, y_iald_180, y_ic_ne_t, y_ic_ne_f, b_X6_stonesBy_41, b_X6_stonesBy_44, y_ic_eq_t, y_ic_eq_f, b_X6_stonesBy_54, b_X6_stonesBy_57, x_storeI_5, x_storeI_6, x_loadI_6, y_ic_ge_t, y_ic_ge_f, b_X6_stonesBy_70, x_loadI_3, x_imul, x_iadd, x_storeI_7, y_if_lt_t, y_if_lt_f, b_X6_stonesBy_82, x_loadI_7, y_ic_lt_t, y_ic_lt_f, b_X6_stonesBy_88, f_6_16, x_isub, y_ic_le_t, y_ic_le_f, b_X6_stonesBy_101, b_X6_stonesBy_104, x_storeI_8, x_loadI_5, f_6_17, x_loadI_8, b_X6_stonesBy_147, x_goto, b_X6_stonesBy_151, b_X6_stonesBy_152, x_iinc_6, b_X6_stonesBy_161, q_isL_I, q_isL_R, q_isL_S, true_and, and_true, and_self, List.length_nil, List.length_cons, Nat.zero_add, x_K, x_Kn, Int.reduceToNat, Nat.reduceAdd, Nat.reduceMul, Nat.reduceLeDiff, Nat.reduceLT, Nat.zero_le, Int.reduceAdd, Int.reduceSub, Int.reduceMul, Int.reduceNeg, q_add_e, q_sub_e, q_mul_e, q_neg_e, q_upd_s, q_upd_n, zr_shr0, zr_shr1, zr_shr2, zr_shr3, zr_shr4, zr_and, zr_dyn8, zr_or, zr_shl, q_cpy_n, y_cpy26]
                rw [Int.add_zero]
                refine ih (k + 1) (by omega) (by omega) came _ _ _ rfl rfl (by omega) (by omega) ?_ ?_ ?_
                · exact h2
                · exact f1
                · exact hq
        simp (disch := omega) only [b_X6_stonesBy_0, x_loadI_1, x_iconst, y_if_eq_t, y_if_eq_f, b_X6_stonesBy_9, x_loadI_2, b_X6_stonesBy_18, x_loadI_4, y_if_ne_t, y_if_ne_f, b_X6_stonesBy_28, x_ret0, b_X6_stonesBy_31, x_loadR_0, x_loadS_0, f_6_15, y_iald_24, y_iald_180, y_ic_ne_t, y_ic_ne_f, b_X6_stonesBy_41, b_X6_stonesBy_44, y_ic_eq_t, y_ic_eq_f, b_X6_stonesBy_54, b_X6_stonesBy_57, x_storeI_5, x_storeI_6, x_loadI_6, y_ic_ge_t, y_ic_ge_f, b_X6_stonesBy_70, x_loadI_3, x_imul, x_iadd, x_storeI_7, y_if_lt_t, y_if_lt_f, b_X6_stonesBy_82, x_loadI_7, y_ic_lt_t, y_ic_lt_f, b_X6_stonesBy_88, f_6_16, x_isub, y_ic_le_t, y_ic_le_f, b_X6_stonesBy_101, b_X6_stonesBy_104, x_storeI_8, x_loadI_5, f_6_17, x_loadI_8, b_X6_stonesBy_147, x_goto, b_X6_stonesBy_151, b_X6_stonesBy_152, x_iinc_6, b_X6_stonesBy_161, q_isL_I, q_isL_R, q_isL_S, true_and, and_true, and_self, List.length_nil, List.length_cons, Nat.zero_add, x_K, x_Kn, Int.reduceToNat, Nat.reduceAdd, Nat.reduceMul, Nat.reduceLeDiff, Nat.reduceLT, Nat.zero_le, Int.reduceAdd, Int.reduceSub, Int.reduceMul, Int.reduceNeg, q_add_e, q_sub_e, q_mul_e, q_neg_e, q_upd_s, q_upd_n, zr_shr0, zr_shr1, zr_shr2, zr_shr3, zr_shr4, zr_and, zr_dyn8, zr_or, zr_shl, q_cpy_n, y_cpy26, c_X6_in, mp_in, c1, c2, c3, and_self, if_true, Int.toNat_natCast]
        by_cases k1 : M 110 S = -1
        · rw [if_pos k1] at e0
          simp (disch := omega) only [b_X6_stonesBy_0, x_loadI_1, x_iconst, y_if_eq_t, y_if_eq_f, b_X6_stonesBy_9, x_loadI_2, b_X6_stonesBy_18, x_loadI_4, y_if_ne_t, y_if_ne_f, b_X6_stonesBy_28, x_ret0, b_X6_stonesBy_31, x_loadR_0, x_loadS_0, f_6_15, y_iald_24, y_iald_180, y_ic_ne_t, y_ic_ne_f, b_X6_stonesBy_41, b_X6_stonesBy_44, y_ic_eq_t, y_ic_eq_f, b_X6_stonesBy_54, b_X6_stonesBy_57, x_storeI_5, x_storeI_6, x_loadI_6, y_ic_ge_t, y_ic_ge_f, b_X6_stonesBy_70, x_loadI_3, x_imul, x_iadd, x_storeI_7, y_if_lt_t, y_if_lt_f, b_X6_stonesBy_82, x_loadI_7, y_ic_lt_t, y_ic_lt_f, b_X6_stonesBy_88, f_6_16, x_isub, y_ic_le_t, y_ic_le_f, b_X6_stonesBy_101, b_X6_stonesBy_104, x_storeI_8, x_loadI_5, f_6_17, x_loadI_8, b_X6_stonesBy_147, x_goto, b_X6_stonesBy_151, b_X6_stonesBy_152, x_iinc_6, b_X6_stonesBy_161, q_isL_I, q_isL_R, q_isL_S, true_and, and_true, and_self, List.length_nil, List.length_cons, Nat.zero_add, x_K, x_Kn, Int.reduceToNat, Nat.reduceAdd, Nat.reduceMul, Nat.reduceLeDiff, Nat.reduceLT, Nat.zero_le, Int.reduceAdd, Int.reduceSub, Int.reduceMul, Int.reduceNeg, q_add_e, q_sub_e, q_mul_e, q_neg_e, q_upd_s, q_upd_n, zr_shr0, zr_shr1, zr_shr2, zr_shr3, zr_shr4, zr_and, zr_dyn8, zr_or, zr_shl, q_cpy_n, y_cpy26, Int.toNat_natCast]
          exact stop _ e0
        rw [if_neg k1] at e0
        by_cases k2 : M 110 S = so
        · rw [if_neg (fun z => z k2)] at e0
          simp (disch := omega) only [b_X6_stonesBy_0, x_loadI_1, x_iconst, y_if_eq_t, y_if_eq_f, b_X6_stonesBy_9, x_loadI_2, b_X6_stonesBy_18, x_loadI_4, y_if_ne_t, y_if_ne_f, b_X6_stonesBy_28, x_ret0, b_X6_stonesBy_31, x_loadR_0, x_loadS_0, f_6_15, y_iald_24, y_iald_180, y_ic_ne_t, y_ic_ne_f, b_X6_stonesBy_41, b_X6_stonesBy_44, y_ic_eq_t, y_ic_eq_f, b_X6_stonesBy_54, b_X6_stonesBy_57, x_storeI_5, x_storeI_6, x_loadI_6, y_ic_ge_t, y_ic_ge_f, b_X6_stonesBy_70, x_loadI_3, x_imul, x_iadd, x_storeI_7, y_if_lt_t, y_if_lt_f, b_X6_stonesBy_82, x_loadI_7, y_ic_lt_t, y_ic_lt_f, b_X6_stonesBy_88, f_6_16, x_isub, y_ic_le_t, y_ic_le_f, b_X6_stonesBy_101, b_X6_stonesBy_104, x_storeI_8, x_loadI_5, f_6_17, x_loadI_8, b_X6_stonesBy_147, x_goto, b_X6_stonesBy_151, b_X6_stonesBy_152, x_iinc_6, b_X6_stonesBy_161, q_isL_I, q_isL_R, q_isL_S, true_and, and_true, and_self, List.length_nil, List.length_cons, Nat.zero_add, x_K, x_Kn, Int.reduceToNat, Nat.reduceAdd, Nat.reduceMul, Nat.reduceLeDiff, Nat.reduceLT, Nat.zero_le, Int.reduceAdd, Int.reduceSub, Int.reduceMul, Int.reduceNeg, q_add_e, q_sub_e, q_mul_e, q_neg_e, q_upd_s, q_upd_n, zr_shr0, zr_shr1, zr_shr2, zr_shr3, zr_shr4, zr_and, zr_dyn8, zr_or, zr_shl, q_cpy_n, y_cpy26, Int.toNat_natCast]
          by_cases k4 : 0 < n ∧ fr < 0
          · rw [if_pos k4] at e0
            have hs := stop _ e0
            rw [b_X6_stonesBy_63]
            simp (disch := omega) only [b_X6_stonesBy_0, x_loadI_1, x_iconst, y_if_eq_t, y_if_eq_f, b_X6_stonesBy_9, x_loadI_2, b_X6_stonesBy_18, x_loadI_4, y_if_ne_t, y_if_ne_f, b_X6_stonesBy_28, x_ret0, b_X6_stonesBy_31, x_loadR_0, x_loadS_0, f_6_15, y_iald_24, y_iald_180, y_ic_ne_t, y_ic_ne_f, b_X6_stonesBy_41, b_X6_stonesBy_44, y_ic_eq_t, y_ic_eq_f, b_X6_stonesBy_54, b_X6_stonesBy_57, x_storeI_5, x_storeI_6, x_loadI_6, y_ic_ge_t, y_ic_ge_f, b_X6_stonesBy_70, x_loadI_3, x_imul, x_iadd, x_storeI_7, y_if_lt_t, y_if_lt_f, b_X6_stonesBy_82, x_loadI_7, y_ic_lt_t, y_ic_lt_f, b_X6_stonesBy_88, f_6_16, x_isub, y_ic_le_t, y_ic_le_f, b_X6_stonesBy_101, b_X6_stonesBy_104, x_storeI_8, x_loadI_5, f_6_17, x_loadI_8, b_X6_stonesBy_147, x_goto, b_X6_stonesBy_151, b_X6_stonesBy_152, x_iinc_6, b_X6_stonesBy_161, q_isL_I, q_isL_R, q_isL_S, true_and, and_true, and_self, List.length_nil, List.length_cons, Nat.zero_add, x_K, x_Kn, Int.reduceToNat, Nat.reduceAdd, Nat.reduceMul, Nat.reduceLeDiff, Nat.reduceLT, Nat.zero_le, Int.reduceAdd, Int.reduceSub, Int.reduceMul, Int.reduceNeg, q_sub_e, q_mul_e, q_neg_e, q_upd_s, q_upd_n, zr_shr0, zr_shr1, zr_shr2, zr_shr3, zr_shr4, zr_and, zr_dyn8, zr_or, zr_shl, q_cpy_n, y_cpy26]
            exact hs
          · rw [if_neg k4] at e0
            rw [e0] at hq
            exact loop (by omega) n.toNat 0 (by omega) (Or.inl rfl) 0 M _ _ rfl rfl (by omega) (by omega) hI q_mst_rf hq
        · rw [if_pos k2] at e0
          simp (disch := omega) only [b_X6_stonesBy_0, x_loadI_1, x_iconst, y_if_eq_t, y_if_eq_f, b_X6_stonesBy_9, x_loadI_2, b_X6_stonesBy_18, x_loadI_4, y_if_ne_t, y_if_ne_f, b_X6_stonesBy_28, x_ret0, b_X6_stonesBy_31, x_loadR_0, x_loadS_0, f_6_15, y_iald_24, y_iald_180, y_ic_ne_t, y_ic_ne_f, b_X6_stonesBy_41, b_X6_stonesBy_44, y_ic_eq_t, y_ic_eq_f, b_X6_stonesBy_54, b_X6_stonesBy_57, x_storeI_5, x_storeI_6, x_loadI_6, y_ic_ge_t, y_ic_ge_f, b_X6_stonesBy_70, x_loadI_3, x_imul, x_iadd, x_storeI_7, y_if_lt_t, y_if_lt_f, b_X6_stonesBy_82, x_loadI_7, y_ic_lt_t, y_ic_lt_f, b_X6_stonesBy_88, f_6_16, x_isub, y_ic_le_t, y_ic_le_f, b_X6_stonesBy_101, b_X6_stonesBy_104, x_storeI_8, x_loadI_5, f_6_17, x_loadI_8, b_X6_stonesBy_147, x_goto, b_X6_stonesBy_151, b_X6_stonesBy_152, x_iinc_6, b_X6_stonesBy_161, q_isL_I, q_isL_R, q_isL_S, true_and, and_true, and_self, List.length_nil, List.length_cons, Nat.zero_add, x_K, x_Kn, Int.reduceToNat, Nat.reduceAdd, Nat.reduceMul, Nat.reduceLeDiff, Nat.reduceLT, Nat.zero_le, Int.reduceAdd, Int.reduceSub, Int.reduceMul, Int.reduceNeg, q_add_e, q_sub_e, q_mul_e, q_neg_e, q_upd_s, q_upd_n, zr_shr0, zr_shr1, zr_shr2, zr_shr3, zr_shr4, zr_and, zr_dyn8, zr_or, zr_shl, q_cpy_n, y_cpy26, Int.toNat_natCast]
          exact stop _ e0
      · have e0 : B_sb M S so fr n = (-2, mW M) := by unfold B_sb; rw [if_pos (by omega)]
        simp (disch := omega) only [b_X6_stonesBy_0, x_loadI_1, x_iconst, y_if_eq_t, y_if_eq_f, b_X6_stonesBy_9, x_loadI_2, b_X6_stonesBy_18, x_loadI_4, y_if_ne_t, y_if_ne_f, b_X6_stonesBy_28, x_ret0, b_X6_stonesBy_31, x_loadR_0, x_loadS_0, f_6_15, y_iald_24, y_iald_180, y_ic_ne_t, y_ic_ne_f, b_X6_stonesBy_41, b_X6_stonesBy_44, y_ic_eq_t, y_ic_eq_f, b_X6_stonesBy_54, b_X6_stonesBy_57, x_storeI_5, x_storeI_6, x_loadI_6, y_ic_ge_t, y_ic_ge_f, b_X6_stonesBy_70, x_loadI_3, x_imul, x_iadd, x_storeI_7, y_if_lt_t, y_if_lt_f, b_X6_stonesBy_82, x_loadI_7, y_ic_lt_t, y_ic_lt_f, b_X6_stonesBy_88, f_6_16, x_isub, y_ic_le_t, y_ic_le_f, b_X6_stonesBy_101, b_X6_stonesBy_104, x_storeI_8, x_loadI_5, f_6_17, x_loadI_8, b_X6_stonesBy_147, x_goto, b_X6_stonesBy_151, b_X6_stonesBy_152, x_iinc_6, b_X6_stonesBy_161, q_isL_I, q_isL_R, q_isL_S, true_and, and_true, and_self, List.length_nil, List.length_cons, Nat.zero_add, x_K, x_Kn, Int.reduceToNat, Nat.reduceAdd, Nat.reduceMul, Nat.reduceLeDiff, Nat.reduceLT, Nat.zero_le, Int.reduceAdd, Int.reduceSub, Int.reduceMul, Int.reduceNeg, q_add_e, q_sub_e, q_mul_e, q_neg_e, q_upd_s, q_upd_n, zr_shr0, zr_shr1, zr_shr2, zr_shr3, zr_shr4, zr_and, zr_dyn8, zr_or, zr_shl, q_cpy_n, y_cpy26, c_X6_in, mp_in, c1, c2, c3, and_self, if_true, if_false]
        exact stop _ e0
    · have e0 : B_sb M S so fr n = (-2, mW M) := by unfold B_sb; rw [if_pos (by omega)]
      simp (disch := omega) only [b_X6_stonesBy_0, x_loadI_1, x_iconst, y_if_eq_t, y_if_eq_f, b_X6_stonesBy_9, x_loadI_2, b_X6_stonesBy_18, x_loadI_4, y_if_ne_t, y_if_ne_f, b_X6_stonesBy_28, x_ret0, b_X6_stonesBy_31, x_loadR_0, x_loadS_0, f_6_15, y_iald_24, y_iald_180, y_ic_ne_t, y_ic_ne_f, b_X6_stonesBy_41, b_X6_stonesBy_44, y_ic_eq_t, y_ic_eq_f, b_X6_stonesBy_54, b_X6_stonesBy_57, x_storeI_5, x_storeI_6, x_loadI_6, y_ic_ge_t, y_ic_ge_f, b_X6_stonesBy_70, x_loadI_3, x_imul, x_iadd, x_storeI_7, y_if_lt_t, y_if_lt_f, b_X6_stonesBy_82, x_loadI_7, y_ic_lt_t, y_ic_lt_f, b_X6_stonesBy_88, f_6_16, x_isub, y_ic_le_t, y_ic_le_f, b_X6_stonesBy_101, b_X6_stonesBy_104, x_storeI_8, x_loadI_5, f_6_17, x_loadI_8, b_X6_stonesBy_147, x_goto, b_X6_stonesBy_151, b_X6_stonesBy_152, x_iinc_6, b_X6_stonesBy_161, q_isL_I, q_isL_R, q_isL_S, true_and, and_true, and_self, List.length_nil, List.length_cons, Nat.zero_add, x_K, x_Kn, Int.reduceToNat, Nat.reduceAdd, Nat.reduceMul, Nat.reduceLeDiff, Nat.reduceLT, Nat.zero_le, Int.reduceAdd, Int.reduceSub, Int.reduceMul, Int.reduceNeg, q_add_e, q_sub_e, q_mul_e, q_neg_e, q_upd_s, q_upd_n, zr_shr0, zr_shr1, zr_shr2, zr_shr3, zr_shr4, zr_and, zr_dyn8, zr_or, zr_shl, q_cpy_n, y_cpy26, c_X6_in, mp_in, c1, c2, and_self, if_true, if_false]
      exact stop _ e0
  · have e0 : B_sb M s so fr n = (-2, mW M) := by unfold B_sb; rw [if_pos (by omega)]
    simp (disch := omega) only [b_X6_stonesBy_0, x_loadI_1, x_iconst, y_if_eq_t, y_if_eq_f, b_X6_stonesBy_9, x_loadI_2, b_X6_stonesBy_18, x_loadI_4, y_if_ne_t, y_if_ne_f, b_X6_stonesBy_28, x_ret0, b_X6_stonesBy_31, x_loadR_0, x_loadS_0, f_6_15, y_iald_24, y_iald_180, y_ic_ne_t, y_ic_ne_f, b_X6_stonesBy_41, b_X6_stonesBy_44, y_ic_eq_t, y_ic_eq_f, b_X6_stonesBy_54, b_X6_stonesBy_57, x_storeI_5, x_storeI_6, x_loadI_6, y_ic_ge_t, y_ic_ge_f, b_X6_stonesBy_70, x_loadI_3, x_imul, x_iadd, x_storeI_7, y_if_lt_t, y_if_lt_f, b_X6_stonesBy_82, x_loadI_7, y_ic_lt_t, y_ic_lt_f, b_X6_stonesBy_88, f_6_16, x_isub, y_ic_le_t, y_ic_le_f, b_X6_stonesBy_101, b_X6_stonesBy_104, x_storeI_8, x_loadI_5, f_6_17, x_loadI_8, b_X6_stonesBy_147, x_goto, b_X6_stonesBy_151, b_X6_stonesBy_152, x_iinc_6, b_X6_stonesBy_161, q_isL_I, q_isL_R, q_isL_S, true_and, and_true, and_self, List.length_nil, List.length_cons, Nat.zero_add, x_K, x_Kn, Int.reduceToNat, Nat.reduceAdd, Nat.reduceMul, Nat.reduceLeDiff, Nat.reduceLT, Nat.zero_le, Int.reduceAdd, Int.reduceSub, Int.reduceMul, Int.reduceNeg, q_add_e, q_sub_e, q_mul_e, q_neg_e, q_upd_s, q_upd_n, zr_shr0, zr_shr1, zr_shr2, zr_shr3, zr_shr4, zr_and, zr_dyn8, zr_or, zr_shl, q_cpy_n, y_cpy26, c_X6_in, mp_in, c1, if_false]
    exact stop _ e0
set_option maxHeartbeats 4000000 in
theorem mx_image {Vt : Nat → Nat → (Nat → Int) → Int} {d tm : Nat} {g : q_G} {M : q_M} {Q : Option q_V → q_G → q_M → Prop} (hI : q_MI Vt tm M) (hq : ∀ M2 : q_M, (∀ a i, a ≠ 108 → a ≠ 109 → (a = 100 → i ≠ 12) → M2 a i = M a i) → (∀ i, i < 15 → M2 108 i = M 104 i) → (∀ i, i < 20 → M2 108 (15 + i) = M 103 i) → M2 109 0 = M 100 0 → M2 109 1 = M 100 5 → M2 109 2 = M 100 11 → M2 100 12 = 1 → Q (some (qI (M 100 0))) g M2) : q_S 1 (d + 11) 191 [qR 6 100] g M Q := by
  rw [s_X6_image]
  have loop2 : ∀ j k : Nat, k + j = 20 → ∀ (M1 : q_M), (∀ a i, a ≠ 108 → a ≠ 109 → (a = 100 → i ≠ 12) → M1 a i = M a i) → (∀ i, i < 15 → M1 108 i = M 104 i) → (∀ i, i < k → M1 108 (15 + i) = M 103 i) → M1 100 12 = 1 → q_T 1 (d + 11) qP_X6_image 33 [] [qR 6 100, qI k] [] g M1 Q := by
    intro j
    induction j with
    | zero =>
      intro k hk M1 hf h1 h2 h6
      rw [b_X6_image_33]
      have ek : (15 + (k : Int)).toNat = 15 + k := by omega
      simp (disch := omega) only [b_X6_image_0, x_loadR_0, x_loadS_0, x_iconst, p_6_12, x_storeI_1, x_loadI_1, y_ic_ge_t, y_ic_ge_f, b_X6_image_13, f_6_13, f_6_4, y_iald_23, y_iald_35, y_iald_40, y_iald_55, y_iast_23, y_iast_35, y_iast_40, y_iast_55, x_iinc_1, x_goto, b_X6_image_31, b_X6_image_39, x_iadd, f_6_3, b_X6_image_60, f_6_14, f_6_0, f_6_5, f_6_11, x_ret0, q_isL_I, q_isL_R, q_isL_S, true_and, and_true, and_self, List.length_nil, List.length_cons, Nat.zero_add, x_K, x_Kn, Int.reduceToNat, Nat.reduceAdd, Nat.reduceMul, Nat.reduceLeDiff, Nat.reduceLT, Nat.zero_le, Int.reduceAdd, Int.reduceSub, Int.reduceMul, Int.reduceNeg, q_add_e, q_sub_e, q_mul_e, q_neg_e, q_upd_s, q_upd_n, zr_shr0, zr_shr1, zr_shr2, zr_shr3, zr_shr4, zr_and, zr_dyn8, zr_or, zr_shl, q_cpy_n, y_cpy26, tn_c, q_upd_n]
      have e0 : M1 100 0 = M 100 0 := hf _ _ (by omega) (by omega) (by omega)
      rw [e0]
      refine hq _ (fun a i ha hb hc => ?_) (fun i hi => ?_) (fun i hi => ?_) ?_ ?_ ?_ ?_
      · rw [q_upd_n (by omega), q_upd_n (by omega), q_upd_n (by omega)]; exact hf a i ha hb hc
      · rw [q_upd_n (by omega), q_upd_n (by omega), q_upd_n (by omega)]; exact h1 i hi
      · rw [q_upd_n (by omega), q_upd_n (by omega), q_upd_n (by omega)]; exact h2 i (by omega)
      · rw [q_upd_n (by omega), q_upd_n (by omega), q_upd_s]
      · rw [q_upd_n (by omega), q_upd_s]; exact hf _ _ (by omega) (by omega) (by omega)
      · rw [q_upd_s]; exact hf _ _ (by omega) (by omega) (by omega)
      · rw [q_upd_n (by omega), q_upd_n (by omega), q_upd_n (by omega)]; exact h6
    | succ j ih =>
      intro k hk M1 hf h1 h2 h6
      rw [b_X6_image_33]
      have ek : (15 + (k : Int)).toNat = 15 + k := by omega
      simp (disch := omega) only [b_X6_image_0, x_loadR_0, x_loadS_0, x_iconst, p_6_12, x_storeI_1, x_loadI_1, y_ic_ge_t, y_ic_ge_f, b_X6_image_13, f_6_13, f_6_4, y_iald_23, y_iald_35, y_iald_40, y_iald_55, y_iast_23, y_iast_35, y_iast_40, y_iast_55, x_iinc_1, x_goto, b_X6_image_31, b_X6_image_39, x_iadd, f_6_3, b_X6_image_60, f_6_14, f_6_0, f_6_5, f_6_11, x_ret0, q_isL_I, q_isL_R, q_isL_S, true_and, and_true, and_self, List.length_nil, List.length_cons, Nat.zero_add, x_K, x_Kn, Int.reduceToNat, Nat.reduceAdd, Nat.reduceMul, Nat.reduceLeDiff, Nat.reduceLT, Nat.zero_le, Int.reduceAdd, Int.reduceSub, Int.reduceMul, Int.reduceNeg, q_add_e, q_sub_e, q_mul_e, q_neg_e, q_upd_s, q_upd_n, zr_shr0, zr_shr1, zr_shr2, zr_shr3, zr_shr4, zr_and, zr_dyn8, zr_or, zr_shl, q_cpy_n, y_cpy26, ek, Int.toNat_natCast]
      refine ih (k + 1) (by omega) _ (fun a i ha hb hc => ?_) (fun i hi => ?_) (fun i hi => ?_) ?_
      · rw [q_upd_n (by omega)]; exact hf a i ha hb hc
      · rw [q_upd_n (by omega)]; exact h1 i hi
      · by_cases e : i = k
        · subst e
          rw [q_upd_s]; exact hf _ _ (by omega) (by omega) (by omega)
        · rw [q_upd_n (by omega)]; exact h2 i (by omega)
      · rw [q_upd_n (by omega)]; exact h6
  have loop1 : ∀ j k : Nat, k + j = 15 → ∀ (M1 : q_M), (∀ a i, a ≠ 108 → a ≠ 109 → (a = 100 → i ≠ 12) → M1 a i = M a i) → (∀ i, i < k → M1 108 i = M 104 i) → M1 100 12 = 1 → q_T 1 (d + 11) qP_X6_image 7 [] [qR 6 100, qI k] [] g M1 Q := by
    intro j
    induction j with
    | zero =>
      intro k hk M1 hf h1 h6
      rw [b_X6_image_7]
      simp (disch := omega) only [b_X6_image_0, x_loadR_0, x_loadS_0, x_iconst, p_6_12, x_storeI_1, x_loadI_1, y_ic_ge_t, y_ic_ge_f, b_X6_image_13, f_6_13, f_6_4, y_iald_23, y_iald_35, y_iald_40, y_iald_55, y_iast_23, y_iast_35, y_iast_40, y_iast_55, x_iinc_1, x_goto, b_X6_image_31, b_X6_image_39, x_iadd, f_6_3, b_X6_image_60, f_6_14, f_6_0, f_6_5, f_6_11, x_ret0, q_isL_I, q_isL_R, q_isL_S, true_and, and_true, and_self, List.length_nil, List.length_cons, Nat.zero_add, x_K, x_Kn, Int.reduceToNat, Nat.reduceAdd, Nat.reduceMul, Nat.reduceLeDiff, Nat.reduceLT, Nat.zero_le, Int.reduceAdd, Int.reduceSub, Int.reduceMul, Int.reduceNeg, q_add_e, q_sub_e, q_mul_e, q_neg_e, q_upd_s, q_upd_n, zr_shr0, zr_shr1, zr_shr2, zr_shr3, zr_shr4, zr_and, zr_dyn8, zr_or, zr_shl, q_cpy_n, y_cpy26]
      exact loop2 20 0 rfl _ hf (fun i hi => h1 i (by omega)) (fun i hi => absurd hi (by omega)) h6
    | succ j ih =>
      intro k hk M1 hf h1 h6
      rw [b_X6_image_7]
      simp (disch := omega) only [b_X6_image_0, x_loadR_0, x_loadS_0, x_iconst, p_6_12, x_storeI_1, x_loadI_1, y_ic_ge_t, y_ic_ge_f, b_X6_image_13, f_6_13, f_6_4, y_iald_23, y_iald_35, y_iald_40, y_iald_55, y_iast_23, y_iast_35, y_iast_40, y_iast_55, x_iinc_1, x_goto, b_X6_image_31, b_X6_image_39, x_iadd, f_6_3, b_X6_image_60, f_6_14, f_6_0, f_6_5, f_6_11, x_ret0, q_isL_I, q_isL_R, q_isL_S, true_and, and_true, and_self, List.length_nil, List.length_cons, Nat.zero_add, x_K, x_Kn, Int.reduceToNat, Nat.reduceAdd, Nat.reduceMul, Nat.reduceLeDiff, Nat.reduceLT, Nat.zero_le, Int.reduceAdd, Int.reduceSub, Int.reduceMul, Int.reduceNeg, q_add_e, q_sub_e, q_mul_e, q_neg_e, q_upd_s, q_upd_n, zr_shr0, zr_shr1, zr_shr2, zr_shr3, zr_shr4, zr_and, zr_dyn8, zr_or, zr_shl, q_cpy_n, y_cpy26, Int.toNat_natCast]
      refine ih (k + 1) (by omega) _ (fun a i ha hb hc => ?_) (fun i hi => ?_) ?_
      · rw [q_upd_n (by omega)]; exact hf a i ha hb hc
      · by_cases e : i = k
        · subst e
          rw [q_upd_s]; exact hf _ _ (by omega) (by omega) (by omega)
        · rw [q_upd_n (by omega)]; exact h1 i (by omega)
      · rw [q_upd_n (by omega)]; exact h6
  simp (disch := omega) only [b_X6_image_0, x_loadR_0, x_loadS_0, x_iconst, p_6_12, x_storeI_1, x_loadI_1, y_ic_ge_t, y_ic_ge_f, b_X6_image_13, f_6_13, f_6_4, y_iald_23, y_iald_35, y_iald_40, y_iald_55, y_iast_23, y_iast_35, y_iast_40, y_iast_55, x_iinc_1, x_goto, b_X6_image_31, b_X6_image_39, x_iadd, f_6_3, b_X6_image_60, f_6_14, f_6_0, f_6_5, f_6_11, x_ret0, q_isL_I, q_isL_R, q_isL_S, true_and, and_true, and_self, List.length_nil, List.length_cons, Nat.zero_add, x_K, x_Kn, Int.reduceToNat, Nat.reduceAdd, Nat.reduceMul, Nat.reduceLeDiff, Nat.reduceLT, Nat.zero_le, Int.reduceAdd, Int.reduceSub, Int.reduceMul, Int.reduceNeg, q_add_e, q_sub_e, q_mul_e, q_neg_e, q_upd_s, q_upd_n, zr_shr0, zr_shr1, zr_shr2, zr_shr3, zr_shr4, zr_and, zr_dyn8, zr_or, zr_shl, q_cpy_n, y_cpy26]
  refine ⟨Or.inr trivial, ?_⟩
  exact loop1 15 0 rfl _ (fun a i ha hb hc => by rw [q_upd_n (by omega)]) (fun i hi => absurd hi (by omega)) q_upd_s
set_option maxHeartbeats 4000000 in
theorem mx_back {Vt : Nat → Nat → (Nat → Int) → Int} {d tm : Nat} {g : q_G} {M : q_M} {Q : Option q_V → q_G → q_M → Prop} (hI : q_MI Vt tm M) (hq0 : M 100 12 = 0 → Q (some (qI (-3))) g M) (hq : M 100 12 ≠ 0 → ∀ M2 : q_M, (∀ a i, a ≠ 103 → a ≠ 104 → (a = 100 → i ≠ 0 ∧ i ≠ 5 ∧ i ≠ 11) → M2 a i = M a i) → (∀ i, i < 15 → M2 104 i = M 108 i) → (∀ i, i < 20 → M2 103 i = M 108 (15 + i)) → M2 100 0 = M 109 0 → M2 100 5 = M 109 1 → M2 100 11 = M 109 2 → Q (some (qI (M 109 0))) g M2) : q_S 1 (d + 11) 192 [qR 6 100] g M Q := by
  rw [s_X6_back]
  by_cases c : M 100 12 = 0
  · simp (disch := omega) only [b_X6_back_0, x_loadR_0, x_loadS_0, f_6_12, y_if_ne_t, y_if_ne_f, b_X6_back_7, x_iconst, x_ret0, b_X6_back_10, x_storeI_1, x_loadI_1, y_ic_ge_t, y_ic_ge_f, b_X6_back_18, f_6_4, f_6_13, y_iald_23, y_iald_35, y_iald_40, y_iald_55, y_iast_23, y_iast_35, y_iast_40, y_iast_55, x_iinc_1, x_goto, b_X6_back_36, b_X6_back_44, f_6_3, x_iadd, b_X6_back_65, f_6_14, p_6_0, p_6_5, p_6_11, f_6_0, q_isL_I, q_isL_R, q_isL_S, true_and, and_true, and_self, List.length_nil, List.length_cons, Nat.zero_add, x_K, x_Kn, Int.reduceToNat, Nat.reduceAdd, Nat.reduceMul, Nat.reduceLeDiff, Nat.reduceLT, Nat.zero_le, Int.reduceAdd, Int.reduceSub, Int.reduceMul, Int.reduceNeg, q_add_e, q_sub_e, q_mul_e, q_neg_e, q_upd_s, q_upd_n, zr_shr0, zr_shr1, zr_shr2, zr_shr3, zr_shr4, zr_and, zr_dyn8, zr_or, zr_shl, q_cpy_n, y_cpy26]
    exact hq0 c
  have hq := hq c
  have loop2 : ∀ j k : Nat, k + j = 20 → ∀ (M1 : q_M), (∀ a i, a ≠ 103 → a ≠ 104 → M1 a i = M a i) → (∀ i, i < 15 → M1 104 i = M 108 i) → (∀ i, i < k → M1 103 i = M 108 (15 + i)) → q_T 1 (d + 11) qP_X6_back 38 [] [qR 6 100, qI k] [] g M1 Q := by
    intro j
    induction j with
    | zero =>
      intro k hk M1 hf h1 h2
      rw [b_X6_back_38]
      have ek : (15 + (k : Int)).toNat = 15 + k := by omega
      simp (disch := omega) only [b_X6_back_0, x_loadR_0, x_loadS_0, f_6_12, y_if_ne_t, y_if_ne_f, b_X6_back_7, x_iconst, x_ret0, b_X6_back_10, x_storeI_1, x_loadI_1, y_ic_ge_t, y_ic_ge_f, b_X6_back_18, f_6_4, f_6_13, y_iald_23, y_iald_35, y_iald_40, y_iald_55, y_iast_23, y_iast_35, y_iast_40, y_iast_55, x_iinc_1, x_goto, b_X6_back_36, b_X6_back_44, f_6_3, x_iadd, b_X6_back_65, f_6_14, p_6_0, p_6_5, p_6_11, f_6_0, q_isL_I, q_isL_R, q_isL_S, true_and, and_true, and_self, List.length_nil, List.length_cons, Nat.zero_add, x_K, x_Kn, Int.reduceToNat, Nat.reduceAdd, Nat.reduceMul, Nat.reduceLeDiff, Nat.reduceLT, Nat.zero_le, Int.reduceAdd, Int.reduceSub, Int.reduceMul, Int.reduceNeg, q_add_e, q_sub_e, q_mul_e, q_neg_e, q_upd_s, q_upd_n, zr_shr0, zr_shr1, zr_shr2, zr_shr3, zr_shr4, zr_and, zr_dyn8, zr_or, zr_shl, q_cpy_n, y_cpy26, tn_c, q_upd_n]
      have e0 : M1 109 0 = M 109 0 := hf _ _ (by omega) (by omega)
      rw [e0]
      refine hq _ (fun a i ha hb hc => ?_) (fun i hi => ?_) (fun i hi => ?_) ?_ ?_ ?_
      · rw [q_upd_n (by omega), q_upd_n (by omega), q_upd_n (by omega)]; exact hf a i ha hb
      · rw [q_upd_n (by omega), q_upd_n (by omega), q_upd_n (by omega)]; exact h1 i hi
      · rw [q_upd_n (by omega), q_upd_n (by omega), q_upd_n (by omega)]; exact h2 i (by omega)
      · rw [q_upd_n (by omega), q_upd_n (by omega), q_upd_s]
      · rw [q_upd_n (by omega), q_upd_s]; exact hf _ _ (by omega) (by omega)
      · rw [q_upd_s]; exact hf _ _ (by omega) (by omega)
    | succ j ih =>
      intro k hk M1 hf h1 h2
      rw [b_X6_back_38]
      have ek : (15 + (k : Int)).toNat = 15 + k := by omega
      simp (disch := omega) only [b_X6_back_0, x_loadR_0, x_loadS_0, f_6_12, y_if_ne_t, y_if_ne_f, b_X6_back_7, x_iconst, x_ret0, b_X6_back_10, x_storeI_1, x_loadI_1, y_ic_ge_t, y_ic_ge_f, b_X6_back_18, f_6_4, f_6_13, y_iald_23, y_iald_35, y_iald_40, y_iald_55, y_iast_23, y_iast_35, y_iast_40, y_iast_55, x_iinc_1, x_goto, b_X6_back_36, b_X6_back_44, f_6_3, x_iadd, b_X6_back_65, f_6_14, p_6_0, p_6_5, p_6_11, f_6_0, q_isL_I, q_isL_R, q_isL_S, true_and, and_true, and_self, List.length_nil, List.length_cons, Nat.zero_add, x_K, x_Kn, Int.reduceToNat, Nat.reduceAdd, Nat.reduceMul, Nat.reduceLeDiff, Nat.reduceLT, Nat.zero_le, Int.reduceAdd, Int.reduceSub, Int.reduceMul, Int.reduceNeg, q_add_e, q_sub_e, q_mul_e, q_neg_e, q_upd_s, q_upd_n, zr_shr0, zr_shr1, zr_shr2, zr_shr3, zr_shr4, zr_and, zr_dyn8, zr_or, zr_shl, q_cpy_n, y_cpy26, ek, Int.toNat_natCast]
      refine ih (k + 1) (by omega) _ (fun a i ha hb => ?_) (fun i hi => ?_) (fun i hi => ?_)
      · rw [q_upd_n (by omega)]; exact hf a i ha hb
      · rw [q_upd_n (by omega)]; exact h1 i hi
      · by_cases e : i = k
        · subst e
          rw [q_upd_s]; exact hf _ _ (by omega) (by omega)
        · rw [q_upd_n (by omega)]; exact h2 i (by omega)
  have loop1 : ∀ j k : Nat, k + j = 15 → ∀ (M1 : q_M), (∀ a i, a ≠ 103 → a ≠ 104 → M1 a i = M a i) → (∀ i, i < k → M1 104 i = M 108 i) → q_T 1 (d + 11) qP_X6_back 12 [] [qR 6 100, qI k] [] g M1 Q := by
    intro j
    induction j with
    | zero =>
      intro k hk M1 hf h1
      rw [b_X6_back_12]
      simp (disch := omega) only [b_X6_back_0, x_loadR_0, x_loadS_0, f_6_12, y_if_ne_t, y_if_ne_f, b_X6_back_7, x_iconst, x_ret0, b_X6_back_10, x_storeI_1, x_loadI_1, y_ic_ge_t, y_ic_ge_f, b_X6_back_18, f_6_4, f_6_13, y_iald_23, y_iald_35, y_iald_40, y_iald_55, y_iast_23, y_iast_35, y_iast_40, y_iast_55, x_iinc_1, x_goto, b_X6_back_36, b_X6_back_44, f_6_3, x_iadd, b_X6_back_65, f_6_14, p_6_0, p_6_5, p_6_11, f_6_0, q_isL_I, q_isL_R, q_isL_S, true_and, and_true, and_self, List.length_nil, List.length_cons, Nat.zero_add, x_K, x_Kn, Int.reduceToNat, Nat.reduceAdd, Nat.reduceMul, Nat.reduceLeDiff, Nat.reduceLT, Nat.zero_le, Int.reduceAdd, Int.reduceSub, Int.reduceMul, Int.reduceNeg, q_add_e, q_sub_e, q_mul_e, q_neg_e, q_upd_s, q_upd_n, zr_shr0, zr_shr1, zr_shr2, zr_shr3, zr_shr4, zr_and, zr_dyn8, zr_or, zr_shl, q_cpy_n, y_cpy26]
      exact loop2 20 0 rfl _ hf (fun i hi => h1 i (by omega)) (fun i hi => absurd hi (by omega))
    | succ j ih =>
      intro k hk M1 hf h1
      rw [b_X6_back_12]
      simp (disch := omega) only [b_X6_back_0, x_loadR_0, x_loadS_0, f_6_12, y_if_ne_t, y_if_ne_f, b_X6_back_7, x_iconst, x_ret0, b_X6_back_10, x_storeI_1, x_loadI_1, y_ic_ge_t, y_ic_ge_f, b_X6_back_18, f_6_4, f_6_13, y_iald_23, y_iald_35, y_iald_40, y_iald_55, y_iast_23, y_iast_35, y_iast_40, y_iast_55, x_iinc_1, x_goto, b_X6_back_36, b_X6_back_44, f_6_3, x_iadd, b_X6_back_65, f_6_14, p_6_0, p_6_5, p_6_11, f_6_0, q_isL_I, q_isL_R, q_isL_S, true_and, and_true, and_self, List.length_nil, List.length_cons, Nat.zero_add, x_K, x_Kn, Int.reduceToNat, Nat.reduceAdd, Nat.reduceMul, Nat.reduceLeDiff, Nat.reduceLT, Nat.zero_le, Int.reduceAdd, Int.reduceSub, Int.reduceMul, Int.reduceNeg, q_add_e, q_sub_e, q_mul_e, q_neg_e, q_upd_s, q_upd_n, zr_shr0, zr_shr1, zr_shr2, zr_shr3, zr_shr4, zr_and, zr_dyn8, zr_or, zr_shl, q_cpy_n, y_cpy26, Int.toNat_natCast]
      refine ih (k + 1) (by omega) _ (fun a i ha hb => ?_) (fun i hi => ?_)
      · rw [q_upd_n (by omega)]; exact hf a i ha hb
      · by_cases e : i = k
        · subst e
          rw [q_upd_s]; exact hf _ _ (by omega) (by omega)
        · rw [q_upd_n (by omega)]; exact h1 i (by omega)
  simp (disch := omega) only [b_X6_back_0, x_loadR_0, x_loadS_0, f_6_12, y_if_ne_t, y_if_ne_f, b_X6_back_7, x_iconst, x_ret0, b_X6_back_10, x_storeI_1, x_loadI_1, y_ic_ge_t, y_ic_ge_f, b_X6_back_18, f_6_4, f_6_13, y_iald_23, y_iald_35, y_iald_40, y_iald_55, y_iast_23, y_iast_35, y_iast_40, y_iast_55, x_iinc_1, x_goto, b_X6_back_36, b_X6_back_44, f_6_3, x_iadd, b_X6_back_65, f_6_14, p_6_0, p_6_5, p_6_11, f_6_0, q_isL_I, q_isL_R, q_isL_S, true_and, and_true, and_self, List.length_nil, List.length_cons, Nat.zero_add, x_K, x_Kn, Int.reduceToNat, Nat.reduceAdd, Nat.reduceMul, Nat.reduceLeDiff, Nat.reduceLT, Nat.zero_le, Int.reduceAdd, Int.reduceSub, Int.reduceMul, Int.reduceNeg, q_add_e, q_sub_e, q_mul_e, q_neg_e, q_upd_s, q_upd_n, zr_shr0, zr_shr1, zr_shr2, zr_shr3, zr_shr4, zr_and, zr_dyn8, zr_or, zr_shl, q_cpy_n, y_cpy26]
  exact loop1 15 0 rfl _ (fun a i ha hb => rfl) (fun i hi => absurd hi (by omega))
end
section
/-! BOTH SIDES: the relation of worlds, sheets, what is kept -/
/-- the world that the model's image keeps -/
def mK (M : q_M) : q_M := fun f i => match f with
  | 0 => if i < (M 109 0).toNat then M 101 i else 0
  | 1 => if i < (M 109 0).toNat then M 102 i else 0
  | 2 => if i < (M 109 0).toNat then M 108 (3 * i) else 0
  | 3 => if i < (M 109 0).toNat then M 108 (3 * i + 1) else 0
  | 4 => if i < (M 109 0).toNat then (if M 108 (3 * i + 2) = -1 then 5 else M 108 (3 * i + 2)) else 0
  | 5 => if i < 5 then M 108 (15 + 4 * i) else 0
  | 6 => if i < 5 then M 108 (15 + (4 * i + 1)) else 0
  | 7 => if i < 5 then M 108 (15 + (4 * i + 2)) else 0
  | 8 => if i < 5 then M 108 (15 + (4 * i + 3)) else 0
  | 9 => if i = 0 then M 109 0 else if i = 1 then M 109 1 else 0
  | _ => 0
def q_Rsh (M : q_M) : Prop := ∀ s, s < 4 → M (6 + (86 + 2 * s)) 1 = M 110 s ∧ M (6 + (86 + 2 * s)) 2 = M 111 s ∧ ∀ i, i < 40 → M (6 + (86 + 2 * s) + 1) i = M 112 (40 * s + i)
def q_Rkp (M : q_M) : Prop := M 0 6 ≠ 0 → cW M 65 = mK M ∧ q_ivS (mK M) ∧ M 109 0 ≤ M 100 0
def q_Rw (M : q_M) : Prop := cW M 11 = mW M ∧ q_ivS (mW M) ∧ q_Rsh M ∧ q_Rkp M
theorem mK_same {M M2 : q_M} (h0 : ∀ a i, (a = 108 ∨ a = 109) → M2 a i = M a i) (h1 : ∀ i, i < (M 109 0).toNat → M2 101 i = M 101 i ∧ M2 102 i = M 102 i) : mK M2 = mK M := by
  have e8 := fun i => h0 108 i (Or.inl rfl)
  have e9 := fun i => h0 109 i (Or.inr rfl)
  funext f i
  unfold mK
  split <;> simp only [e8, e9]
  · by_cases c : i < (M 109 0).toNat
    · rw [if_pos c, if_pos c, (h1 i c).1]
    · rw [if_neg c, if_neg c]
  · by_cases c : i < (M 109 0).toNat
    · rw [if_pos c, if_pos c, (h1 i c).2]
    · rw [if_neg c, if_neg c]
theorem q_Rsh_f {M M2 : q_M} (h : ∀ a i, ((92 ≤ a ∧ a < 100) ∨ (110 ≤ a ∧ a ≤ 112)) → M2 a i = M a i) (R : q_Rsh M) : q_Rsh M2 := by
  intro s hs
  obtain ⟨r1, r2, r3⟩ := R s hs
  exact ⟨by rw [h _ _ (by omega), h _ _ (by omega)]; exact r1, by rw [h _ _ (by omega), h _ _ (by omega)]; exact r2, fun i hi => by rw [h _ _ (by omega), h _ _ (by omega)]; exact r3 i hi⟩
theorem q_Rkp_f {M M2 : q_M} (h : ∀ a i, ((65 ≤ a ∧ a ≤ 90) ∨ (a = 0 ∧ i = 6) ∨ a = 108 ∨ a = 109) → M2 a i = M a i) (h1 : M 109 0 ≤ M 100 0 → M 109 0 ≤ M2 100 0 ∧ ∀ i, i < (M 109 0).toNat → M2 101 i = M 101 i ∧ M2 102 i = M 102 i) (R : q_Rkp M) : q_Rkp M2 := by
  intro h6
  rw [h 0 6 (by omega)] at h6
  obtain ⟨r1, r2, r3⟩ := R h6
  obtain ⟨z1, z2⟩ := h1 r3
  have ek := mK_same (fun a i ha => h a i (by omega)) z2
  rw [ek, cW_same (M := M) (fun a i ha => h a i (by omega)), h 109 0 (by omega)]
  exact ⟨r1, r2, z1⟩
/-- nothing of it is touched -/
theorem q_Rw_f {M M2 : q_M} (h : ∀ a i, ((11 ≤ a ∧ a ≤ 14) ∨ (30 ≤ a ∧ a ≤ 36) ∨ (65 ≤ a ∧ a < 100) ∨ (a = 0 ∧ i = 6) ∨ (a = 100 ∧ (i = 0 ∨ i = 5)) ∨ (101 ≤ a ∧ a ≤ 104) ∨ (108 ≤ a ∧ a ≤ 112)) → M2 a i = M a i) (R : q_Rw M) : q_Rw M2 := by
  obtain ⟨r1, r2, r3, r4⟩ := R
  have em : mW M2 = mW M := mW_same (fun a i ha => h a i (by omega))
  refine ⟨?_, by rw [em]; exact r2, q_Rsh_f (fun a i ha => h a i (by omega)) r3, q_Rkp_f (fun a i ha => h a i (by omega)) (fun z => ⟨by rw [h 100 0 (by omega)]; exact z, fun i _ => ⟨h _ _ (by omega), h _ _ (by omega)⟩⟩) r4⟩
  rw [em, cW_same (M := M) (fun a i ha => h a i (by omega))]
  exact r1
/-- the world has changed alike on both sides -/
theorem q_Rw_w {M M2 : q_M} (R : q_Rw M) (h1 : cW M2 11 = mW M2) (h2 : q_ivS (mW M2)) (h : ∀ a i, ((65 ≤ a ∧ a < 100) ∨ (a = 0 ∧ i = 6) ∨ (108 ≤ a ∧ a ≤ 112)) → M2 a i = M a i) (h3 : M 109 0 ≤ M 100 0 → M 109 0 ≤ M2 100 0 ∧ ∀ i, i < (M 109 0).toNat → M2 101 i = M 101 i ∧ M2 102 i = M 102 i) : q_Rw M2 :=
  ⟨h1, h2, q_Rsh_f (fun a i ha => h a i (by omega)) R.2.2.1, q_Rkp_f (fun a i ha => h a i (by omega)) h3 R.2.2.2⟩
/-! what stays of a world -/
theorem q_ivS_same {S S2 : q_M} (h : q_ivS S) (h4 : S2 4 = S 4) (h9 : S2 9 0 = S 9 0) (h6 : ∀ b : Nat, b < 5 → F_cnt (S 4) b (F_n S) ≤ S2 6 b) (h2 : S2 2 = S 2) (h5 : S2 5 = S 5) : q_ivS S2 := by
  obtain ⟨g0, g1, g2, g3⟩ := h
  have en : F_n S2 = F_n S := by unfold F_n; rw [h9]
  unfold q_ivS
  rw [en, h4, h9, h2, h5]
  exact ⟨g0, g1, h6, g3⟩
theorem q_ivS_bd {S : q_M} {b : Nat} {w v : Int} (h : q_ivS S) (hb : b < 5) (hk : w = 1 → F_cnt (S 4) b (F_n S) ≤ v) : q_ivS (F_bd S b w v) := by
  unfold F_bd
  by_cases c0 : w = 0
  · rw [if_pos c0]
    obtain ⟨g0, g1, g2, g3⟩ := h
    have eo : ∀ k, k ≠ 2 → k ≠ 5 → F_move S b v k = S k := fun k k1 k2 => by
      funext i
      unfold F_move
      rw [if_neg (fun z => k1 z.1), q_upd_n (by omega)]
    have en : F_n (F_move S b v) = F_n S := by unfold F_n; rw [eo 9 (by omega) (by omega)]
    unfold q_ivS
    rw [en, eo 4 (by omega) (by omega), eo 6 (by omega) (by omega), eo 9 (by omega) (by omega)]
    refine ⟨g0, g1, g2, fun p c hp hc hpc => ?_⟩
    have e5 : F_move S b v 5 c = (if c = b then v else S 5 c) := by
      unfold F_move
      rw [if_neg (by omega)]
      by_cases z : c = b
      · rw [if_pos z, z, q_upd_s]
      · rw [if_neg z, q_upd_n (by omega)]
    have e2 : F_move S b v 2 p = (if S 4 p = b then v else S 2 p) := by
      unfold F_move
      by_cases z : S 4 p = b
      · rw [if_pos ⟨rfl, hp, z⟩, if_pos z]
      · rw [if_neg (fun y => z y.2.2), if_neg z, q_upd_n (by omega)]
    rw [e5, e2]
    by_cases z : c = b
    · rw [if_pos z, if_pos (by rw [hpc, z])]
    · rw [if_neg z, if_neg (by rw [hpc]; omega)]
      exact g3 p c hp hc hpc
  · rw [if_neg c0]
    by_cases c1 : w = 1
    · rw [if_pos c1]
      refine q_ivS_same h (q_upd_o (by omega)) (q_upd_n (by omega)) (fun c hc => ?_) (q_upd_o (by omega)) (q_upd_o (by omega))
      by_cases z : c = b
      · rw [z, q_upd_s]
        exact hk c1
      · rw [q_upd_n (by omega)]
        exact h.2.2.1 c hc
    · rw [if_neg c1]
      split
      · exact q_ivS_same h (q_upd_o (by omega)) (q_upd_n (by omega)) (fun c hc => by rw [q_upd_n (by omega)]; exact h.2.2.1 c hc) (q_upd_o (by omega)) (q_upd_o (by omega))
      · exact q_ivS_same h (q_upd_o (by omega)) (q_upd_n (by omega)) (fun c hc => by rw [q_upd_n (by omega)]; exact h.2.2.1 c hc) (q_upd_o (by omega)) (q_upd_o (by omega))
theorem q_ivS_add {S : q_M} {km wh hv : Int} (h : q_ivS S) (h5 : S 9 0 ≠ 5) : q_ivS (F_add S km wh hv) := by
  obtain ⟨g0, g1, g2, g3⟩ := h
  have e9 : F_add S km wh hv 9 0 = S 9 0 + 1 := q_upd_s
  have e4 : F_add S km wh hv 4 = F_u (S 4) (F_n S) 5 := by
    unfold F_add
    rw [q_upd_o (by omega), q_upd_r, q_upd_o (by omega), q_upd_o (by omega), q_upd_o (by omega), q_upd_o (by omega)]
  have e6 : F_add S km wh hv 6 = S 6 := by
    unfold F_add
    rw [q_upd_o (by omega), q_upd_o (by omega), q_upd_o (by omega), q_upd_o (by omega), q_upd_o (by omega), q_upd_o (by omega)]
  have e5 : F_add S km wh hv 5 = S 5 := by
    unfold F_add
    rw [q_upd_o (by omega), q_upd_o (by omega), q_upd_o (by omega), q_upd_o (by omega), q_upd_o (by omega), q_upd_o (by omega)]
  have e2 : ∀ p, p ≠ F_n S → F_add S km wh hv 2 p = S 2 p := fun p hp => by
    unfold F_add
    simp (disch := omega) only [q_upd_n]
  have en : F_n (F_add S km wh hv) = F_n S + 1 := by unfold F_n; rw [e9]; omega
  unfold q_ivS
  rw [en, e9, e4, e6, e5]
  refine ⟨by omega, fun p hp => ?_, fun b hb => ?_, fun p b hp hb hpb => ?_⟩
  · unfold F_u
    split
    · omega
    · exact g1 p (by omega)
  · rw [F_cnt, F_u_s, if_neg (show ¬(5 : Int) = b by omega)]
    have := g2 b hb
    rw [F_cnt_cong (f' := S 4) (F_n S) (fun k hk => F_u_n (by omega))]
    omega
  · unfold F_u at hpb
    by_cases z : p = F_n S
    · rw [if_pos z] at hpb
      omega
    · rw [if_neg z] at hpb
      rw [e2 p z]
      exact g3 p b (by omega) hb hpb
theorem q_ivS_pt {S : q_M} {p : Nat} {w v : Int} (h : q_ivS S) (hp : p < F_n S) : q_ivS (F_pt S p w v) := by
  unfold F_pt
  split
  · exact (q_ivS_lay h hp).1
  · exact q_ivS_same h (q_upd_o (by omega)) (q_upd_n (by omega)) (fun c hc => by rw [q_upd_n (by omega)]; exact h.2.2.1 c hc) (q_upd_o (by omega)) (q_upd_o (by omega))
theorem q_ivS_sb {C : Nat → Int} {fr sz : Int} : ∀ (j k : Nat) (came : Int) (S : q_M), q_ivS S → q_ivS (F_sb C fr sz j k came S).2
  | 0, _, _, _, h => h
  | j + 1, k, came, S, h => by
    rw [F_sb]
    split
    · exact h
    · split
      · next c => exact q_ivS_sb j (k + 1) _ _ (q_ivS_add h c.2)
      · exact q_ivS_sb j (k + 1) _ _ h
end
