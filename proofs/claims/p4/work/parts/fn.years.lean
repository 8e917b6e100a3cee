/-! BOTH SIDES: a year -/
theorem q_upd_id {M : q_M} {a i : Nat} {x : Int} (h : M a i = x) : q_upd M a i x = M := by
  funext b j
  by_cases e : b = a ∧ j = i
  · obtain ⟨rfl, rfl⟩ := e
    rw [q_upd_s, h]
  · exact q_upd_n (by omega)
theorem q_upd_r {M : q_M} {a i : Nat} {x : Int} : q_upd M a i x a = F_u (M a) i x := by
  funext j
  unfold F_u
  by_cases e : j = i
  · rw [if_pos e, e, q_upd_s]
  · rw [if_neg e, q_upd_n (by omega)]
theorem q_upd_o {M : q_M} {a i b : Nat} {x : Int} (h : b ≠ a) : q_upd M a i x b = M b := funext (fun j => q_upd_n (by omega))
theorem F_cnt_u {f : Nat → Int} {p : Nat} {v b : Int} : ∀ n : Nat, p < n → F_cnt (F_u f p v) b n = F_cnt f b n - (if f p = b then 1 else 0) + (if v = b then 1 else 0)
  | 0, h => absurd h (Nat.not_lt_zero p)
  | n + 1, h => by
    rw [F_cnt, F_cnt]
    by_cases e : p = n
    · subst e
      have hc : ∀ m : Nat, m ≤ p → F_cnt (F_u f p v) b m = F_cnt f b m := by
        intro m
        induction m with
        | zero => intro _; rfl
        | succ m ih => intro hm; rw [F_cnt, F_cnt, ih (by omega), F_u_n (by omega)]
      rw [hc p (Nat.le_refl p), F_u_s]
      omega
    · rw [F_cnt_u n (by omega), F_u_n (f := f) (v := v) (show n ≠ p by omega)]
      omega
theorem F_cnt_pos {f : Nat → Int} {b : Int} {k : Nat} : ∀ n : Nat, k < n → f k = b → 1 ≤ F_cnt f b n
  | 0, h, _ => absurd h (Nat.not_lt_zero k)
  | n + 1, h, e => by
    rw [F_cnt]
    have h0 := F_cnt_le f b n
    by_cases z : k = n
    · subst z
      rw [if_pos e]
      omega
    · have := F_cnt_pos n (by omega) e
      split <;> omega
/-- what holds of a world: no building holds more than it has room for, who is in one lies there -/
def q_ivS (S : q_M) : Prop := (0 ≤ S 9 0 ∧ S 9 0 ≤ 5) ∧ (∀ p, p < F_n S → 0 ≤ S 4 p ∧ S 4 p ≤ 5) ∧ (∀ b : Nat, b < 5 → F_cnt (S 4) b (F_n S) ≤ S 6 b) ∧ (∀ p b : Nat, p < F_n S → b < 5 → S 4 p = b → S 2 p = S 5 b)
theorem F_takes_12 {f w : Nat → Int} {room b : Int} {n p : Nat} (hp : f p ≠ b) (h : F_cnt f b n ≤ room) : F_takes1 f w room b n p = F_takes f w room b n p := by
  unfold F_takes1 F_takes
  rw [if_neg hp]
  by_cases c1 : F_cnt f b n < room
  · rw [if_pos c1, if_pos c1]
  · rw [if_neg c1, if_neg c1]
    by_cases c2 : F_last f w b n = 5
    · rw [if_pos c2, if_pos c2]
    · rw [if_neg c2, if_neg c2]
      rcases F_last_in (f := f) (w := w) (b := b) n with z | z
      · exact absurd z c2
      · have hc := F_cnt_pos n z.1 z.2
        have : 0 < room := by omega
        simp only [this, true_and]
theorem F_S1_4 {V : Nat → (Nat → Int) → Int} {S : q_M} {p b : Nat} : F_S1 V S p b 4 = S 4 := q_upd_o (by omega)
theorem F_ivS_1 {V : Nat → (Nat → Int) → Int} {S : q_M} {p b : Nat} (h : q_ivS S) (hp : p < F_n S) (hin : S 4 p = 5) : q_ivS (F_S1 V S p b) := by
  obtain ⟨h0, h1, h2, h3⟩ := h
  have e4 : F_S1 V S p b 4 = S 4 := q_upd_o (by omega)
  have e9 : F_S1 V S p b 9 = S 9 := q_upd_o (by omega)
  have e6 : F_S1 V S p b 6 = S 6 := q_upd_o (by omega)
  have e5 : F_S1 V S p b 5 = S 5 := q_upd_o (by omega)
  have en : F_n (F_S1 V S p b) = F_n S := by unfold F_n; rw [e9]
  refine ⟨by rw [e9]; exact h0, by rw [en, e4]; exact h1, by rw [en, e4, e6]; exact h2, ?_⟩
  rw [en, e4, e5]
  intro q c hq hc hqc
  have : q ≠ p := fun z => by rw [z] at hqc; omega
  rw [← h3 q c hq hc hqc]
  exact q_upd_n (by omega)
theorem F_S2_e {V : Nat → (Nat → Int) → Int} {S : q_M} {p b : Nat} (h : q_ivS S) (hb : b < 5) (hp : p < F_n S) (hin : S 4 p = 5) : F_S2 V S p b = G_S2 V S p b := by
  unfold F_S2 G_S2
  by_cases c : F_out V S b = 5
  · rw [if_pos c, if_pos c]
  · rw [if_neg c, if_neg c]
    have hc := c
    unfold F_out F_cast at hc
    by_cases c1 : F_cnt (S 4) b (F_n S) < S 6 b
    · rw [if_pos c1] at hc
      exact absurd rfl hc
    · rw [if_neg c1] at hc
      have eo : F_out V S b = F_last (S 4) (fun q => F_wants V S q b) b (F_n S) := if_neg c1
      rcases F_last_in (f := S 4) (w := fun q => F_wants V S q b) (b := b) (F_n S) with z | z
      · exact absurd z hc
      · rw [← eo] at z
        rw [q_upd_id (a := 2)]
        have h3 := h.2.2.2 _ b z.1 hb z.2
        rw [q_upd_n (by omega), q_upd_n (by omega)]
        exact h3
theorem F_ivS_2 {V : Nat → (Nat → Int) → Int} {S : q_M} {p b : Nat} (h : q_ivS S) (hb : b < 5) (hp : p < F_n S) (hin : S 4 p = 5) (hat : S 2 p = S 5 b) (ht : G_tak V S p b = true) : q_ivS (G_S2 V S p b) := by
  obtain ⟨h0, h1, h2, h3⟩ := h
  unfold G_S2
  by_cases c : F_out V S b = 5
  · rw [if_pos c]
    have hc : F_cnt (S 4) b (F_n S) < S 6 b := by
      unfold G_tak F_takes at ht
      unfold F_out F_cast at c
      by_cases c1 : F_cnt (S 4) b (F_n S) < S 6 b
      · exact c1
      · rw [if_neg c1] at c
        rw [if_neg c1, if_pos c] at ht
        exact absurd ht (by decide)
    generalize (if S 8 b + 1 < 99 then S 8 b + 1 else 99) = y
    have e4 : q_upd (q_upd S 4 p b) 8 b y 4 = F_u (S 4) p b := by rw [q_upd_o (by omega), q_upd_r]
    have eo : ∀ k, k ≠ 4 → k ≠ 8 → q_upd (q_upd S 4 p b) 8 b y k = S k := fun k k1 k2 => by rw [q_upd_o k2, q_upd_o k1]
    have en : F_n (q_upd (q_upd S 4 p b) 8 b y) = F_n S := by unfold F_n; rw [eo 9 (by omega) (by omega)]
    unfold q_ivS
    rw [en, e4, eo 9 (by omega) (by omega), eo 6 (by omega) (by omega), eo 2 (by omega) (by omega), eo 5 (by omega) (by omega)]
    refine ⟨h0, fun q hq => ?_, fun c hc2 => ?_, fun q c hq hc2 hqc => ?_⟩
    · unfold F_u
      split
      · omega
      · exact h1 q hq
    · rw [F_cnt_u _ hp]
      have := h2 c hc2
      rw [hin]
      by_cases e : c = b
      · subst e
        rw [if_pos rfl, if_neg (by omega)]
        omega
      · rw [if_neg (show ¬(5 : Int) = c by omega), if_neg (show ¬(b : Int) = c by omega)]
        omega
    · unfold F_u at hqc
      by_cases e : q = p
      · rw [if_pos e] at hqc
        have : b = c := by omega
        rw [e, ← this]
        exact hat
      · rw [if_neg e] at hqc
        exact h3 q c hq hc2 hqc
  · rw [if_neg c]
    have hc := c
    unfold F_out F_cast at hc
    by_cases c1 : F_cnt (S 4) b (F_n S) < S 6 b
    · rw [if_pos c1] at hc
      exact absurd rfl hc
    · rw [if_neg c1] at hc
      have eo1 : F_out V S b = F_last (S 4) (fun q => F_wants V S q b) b (F_n S) := if_neg c1
      have hz : F_out V S b < F_n S ∧ S 4 (F_out V S b) = b := by
        rcases F_last_in (f := S 4) (w := fun q => F_wants V S q b) (b := b) (F_n S) with z | z
        · exact absurd z hc
        · rw [eo1]; exact z
      generalize F_out V S b = o at hz
      have hop : o ≠ p := fun z => by have := hz.2; rw [z, hin] at this; omega
      generalize (if S 8 b + 1 < 99 then S 8 b + 1 else 99) = y
      have e4 : q_upd (q_upd (q_upd S 4 o 5) 4 p b) 8 b y 4 = F_u (F_u (S 4) o 5) p b := by rw [q_upd_o (by omega), q_upd_r, q_upd_r]
      have eo : ∀ k, k ≠ 4 → k ≠ 8 → q_upd (q_upd (q_upd S 4 o 5) 4 p b) 8 b y k = S k := fun k k1 k2 => by rw [q_upd_o k2, q_upd_o k1, q_upd_o k1]
      have en : F_n (q_upd (q_upd (q_upd S 4 o 5) 4 p b) 8 b y) = F_n S := by unfold F_n; rw [eo 9 (by omega) (by omega)]
      unfold q_ivS
      rw [en, e4, eo 9 (by omega) (by omega), eo 6 (by omega) (by omega), eo 2 (by omega) (by omega), eo 5 (by omega) (by omega)]
      refine ⟨h0, fun q hq => ?_, fun c hc2 => ?_, fun q c hq hc2 hqc => ?_⟩
      · unfold F_u
        split
        · omega
        · split
          · omega
          · exact h1 q hq
      · rw [F_cnt_u _ hp, F_cnt_u _ hz.1, F_u_n (Ne.symm hop), hin, hz.2]
        have := h2 c hc2
        by_cases e : c = b
        · rw [e] at this ⊢
          rw [if_pos rfl, if_neg (show ¬(5 : Int) = b by omega)]
          omega
        · rw [if_neg (show ¬(5 : Int) = c by omega), if_neg (show ¬(b : Int) = c by omega)]
          omega
      · unfold F_u at hqc
        by_cases e : q = p
        · rw [if_pos e] at hqc
          have : b = c := by omega
          rw [e, ← this]
          exact hat
        · rw [if_neg e] at hqc
          by_cases e2 : q = o
          · rw [if_pos e2] at hqc
            omega
          · rw [if_neg e2] at hqc
            exact h3 q c hq hc2 hqc
theorem F_goto_e {V : Nat → (Nat → Int) → Int} {S : q_M} {p b : Nat} (h : q_ivS S) (hb : b < 5) (hp : p < F_n S) (hin : S 4 p = 5) : F_goto V S p b = G_goto V S p b ∧ q_ivS (G_goto V S p b).2 := by
  have h1 := F_ivS_1 (V := V) (b := b) h hp hin
  have en : F_n (F_S1 V S p b) = F_n S := by unfold F_n F_S1; rw [q_upd_n (by omega)]
  have i1 : F_S1 V S p b 4 p = 5 := by rw [F_S1_4]; exact hin
  have et : F_tak V (F_S1 V S p b) p b = G_tak V (F_S1 V S p b) p b := F_takes_12 (by rw [i1]; omega) (h1.2.2.1 b hb)
  unfold F_goto G_goto
  rw [et]
  by_cases c1 : F_mv V S p b = S 5 b
  · rw [if_pos c1, if_pos c1]
    by_cases c2 : G_tak V (F_S1 V S p b) p b = true
    · rw [if_pos c2, if_pos c2, F_S2_e h1 hb (by rw [en]; exact hp) i1]
      refine ⟨rfl, F_ivS_2 h1 hb (by rw [en]; exact hp) i1 ?_ c2⟩
      show q_upd S 2 p (F_mv V S p b) 2 p = q_upd S 2 p (F_mv V S p b) 5 b
      rw [q_upd_s, q_upd_n (by omega)]
      exact c1
    · rw [if_neg c2, if_neg c2]
      exact ⟨rfl, h1⟩
  · rw [if_neg c1, if_neg c1]
    exact ⟨rfl, h1⟩
theorem G_goto_n {V : Nat → (Nat → Int) → Int} {S : q_M} {p b : Nat} : F_n (G_goto V S p b).2 = F_n S := by
  unfold G_goto G_S2 F_S1 F_n
  split
  · split
    · split <;> simp (disch := omega) only [q_upd_n]
    · simp (disch := omega) only [q_upd_n]
  · simp (disch := omega) only [q_upd_n]
theorem q_or_00 : q_or 0 0 = 0 := by decide
theorem q_or_x0 {x y : Int} : q_or (q_or x y) 0 = q_or x y := by
  unfold q_or
  rw [Int32.ofInt_toInt]
  show ((_ ||| _) ||| (0 : Int32)).toInt = _
  rw [Int32.or_zero]
theorem F_yr_0 {V : Nat → (Nat → Int) → Int} {S : q_M} : ∀ k : Nat, q_or (F_yr V S k).1 0 = (F_yr V S k).1
  | 0 => q_or_00
  | k + 1 => by
    rw [F_yr]
    split
    · dsimp only
      split
      · exact q_or_x0
      · exact F_yr_0 k
    · exact F_yr_0 k
theorem F_yr_e {V : Nat → (Nat → Int) → Int} {S : q_M} (h : q_ivS S) : ∀ k : Nat, k ≤ F_n S → F_yr V S k = G_yr V S k ∧ q_ivS (G_yr V S k).2 ∧ F_n (G_yr V S k).2 = F_n S
  | 0, _ => ⟨rfl, h, rfl⟩
  | k + 1, hk => by
    have ih := F_yr_e (V := V) h k (by omega)
    have h0 := F_yr_0 (V := V) (S := S) k
    rw [F_yr, G_yr]
    rw [ih.1] at h0 ⊢
    by_cases c1 : (G_yr V S k).2 4 k = 5
    · rw [if_pos c1]
      unfold G_turn
      by_cases c2 : F_wish V (G_yr V S k).2 k = 5
      · rw [if_neg (fun z => z.2 c2), if_pos c2]
        refine ⟨?_, ih.2⟩
        show _ = (q_or (G_yr V S k).1 (if false = true then _ else 0), (G_yr V S k).2)
        rw [if_neg (by decide), h0]
      · have hw : F_wish V (G_yr V S k).2 k < 5 := by
          rcases F_best_1 (F_likes V (G_yr V S k).2 k) (fun _ => true) 5 with z | z
          · exact z
          · exact absurd z c2
        have g := F_goto_e (V := V) ih.2.1 hw (by rw [ih.2.2]; omega) c1
        rw [if_pos ⟨c1, c2⟩, if_neg c2, g.1]
        refine ⟨?_, g.2, by rw [G_goto_n]; exact ih.2.2⟩
        by_cases c3 : (G_goto V (G_yr V S k).2 k (F_wish V (G_yr V S k).2 k)).1 = true
        · rw [if_pos c3, if_pos c3]
        · rw [if_neg c3, if_neg c3, h0]
    · rw [if_neg c1, if_neg (fun z => c1 z.1)]
      exact ⟨rfl, ih.2⟩
theorem G_year_o {V : Nat → (Nat → Int) → Int} {S : q_M} {k : Nat} (h : k ≠ 9) : (G_year V S).2 k = (G_yr V S (F_n S)).2 k := q_upd_o h
theorem G_year_90 {V : Nat → (Nat → Int) → Int} {S : q_M} : (G_year V S).2 9 0 = (G_yr V S (F_n S)).2 9 0 := by
  show q_upd (G_yr V S (F_n S)).2 9 1 (S 9 1 + 1) 9 0 = _
  exact q_upd_n (by omega)
theorem F_year_e {V : Nat → (Nat → Int) → Int} {S : q_M} (h : q_ivS S) : F_year V S = G_year V S ∧ q_ivS (G_year V S).2 ∧ F_n (G_year V S).2 = F_n S := by
  have e := F_yr_e (V := V) h (F_n S) (Nat.le_refl _)
  have n2 : F_n (G_year V S).2 = F_n S := by
    unfold F_n
    rw [G_year_90]
    exact e.2.2
  refine ⟨by unfold F_year G_year; rw [e.1], ?_, n2⟩
  obtain ⟨h0, h1, h2, h3⟩ := e.2.1
  unfold q_ivS
  rw [n2, G_year_o (show 4 ≠ 9 by omega), G_year_o (show 6 ≠ 9 by omega), G_year_o (show 2 ≠ 9 by omega), G_year_o (show 5 ≠ 9 by omega), G_year_90]
  rw [e.2.2] at h1 h2 h3
  exact ⟨h0, h1, h2, h3⟩
