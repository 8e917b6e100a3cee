/-! WHO IS TAKEN, by what is read alone; a world with one cell set -/
theorem F_cnt_cong {f f' : Nat → Int} {b : Int} : ∀ n : Nat, (∀ k, k < n → f k = f' k) → F_cnt f b n = F_cnt f' b n
  | 0, _ => rfl
  | n + 1, h => by rw [F_cnt, F_cnt, F_cnt_cong n (fun k hk => h k (by omega)), h n (by omega)]
theorem F_last_in {f w : Nat → Int} {b : Int} : ∀ n : Nat, F_last f w b n = 5 ∨ (F_last f w b n < n ∧ f (F_last f w b n) = b)
  | 0 => Or.inl rfl
  | n + 1 => by
    rw [F_last]
    by_cases h : f n = b ∧ (F_last f w b n = 5 ∨ w n ≤ w (F_last f w b n))
    · rw [if_pos h]
      exact Or.inr ⟨Nat.lt_succ_self n, h.1⟩
    · rw [if_neg h]
      rcases F_last_in (f := f) (w := w) (b := b) n with h1 | h1
      · exact Or.inl h1
      · exact Or.inr ⟨Nat.lt_succ_of_lt h1.1, h1.2⟩
theorem F_last_cong {f f' w w' : Nat → Int} {b : Int} : ∀ n : Nat, (∀ k, k < n → f k = f' k) → (∀ k, k < n → f k = b → w k = w' k) → F_last f w b n = F_last f' w' b n
  | 0, _, _ => rfl
  | n + 1, h1, h2 => by
    have e := F_last_cong n (fun k hk => h1 k (by omega)) (fun k hk => h2 k (by omega))
    rw [F_last, F_last, ← e, ← h1 n (by omega)]
    by_cases c : f n = b
    · rcases F_last_in (f := f) (w := w) (b := b) n with h | h
      · rw [h]
        simp only [c, true_and, true_or, if_true]
      · rw [← h2 n (by omega) c, ← h2 (F_last f w b n) (by omega) h.2]
    · rw [if_neg (fun z => c z.1), if_neg (fun z => c z.1)]
theorem F_takes1_cong {f f' w w' : Nat → Int} {room b : Int} {n p : Nat} (hp : p < n) (h1 : ∀ k, k < n → f k = f' k) (h2 : ∀ k, k < n → (k = p ∨ f k = b) → w k = w' k) : F_takes1 f w room b n p = F_takes1 f' w' room b n p := by
  have e := F_last_cong (b := b) n h1 (fun k hk hb => h2 k hk (Or.inr hb))
  unfold F_takes1
  rw [← F_cnt_cong n h1, ← e, ← h1 p hp, ← h2 p hp (Or.inl rfl)]
  rcases F_last_in (f := f) (w := w) (b := b) n with h | h
  · simp only [h, if_true]
  · rw [← h2 _ h.1 (Or.inr h.2)]
theorem F_cast_cong {f f' w w' : Nat → Int} {room b : Int} {n : Nat} (h1 : ∀ k, k < n → f k = f' k) (h2 : ∀ k, k < n → f k = b → w k = w' k) : F_cast f w room b n = F_cast f' w' room b n := by
  unfold F_cast
  rw [F_cnt_cong n h1, F_last_cong n h1 h2]
theorem cW_up2 {M : q_M} {w p : Nat} {v : Int} (hp : p < (M (w + 1) 5).toNat) : cW (q_upd M (w + 24) p v) w = q_upd (cW M w) 2 p v := by
  funext f i
  by_cases hf : f = 2 ∧ i = p
  · obtain ⟨rfl, rfl⟩ := hf
    rw [q_upd_s, cW_2 (by rw [q_upd_n (by omega)]; exact hp), q_upd_s]
  · rw [q_upd_n (by omega)]
    unfold cW
    split <;> simp (disch := omega) only [q_upd_n]
theorem cW_up4 {M : q_M} {w p : Nat} {v : Int} (hp : p < (M (w + 1) 5).toNat) : cW (q_upd M (w + 3) p v) w = q_upd (cW M w) 4 p v := by
  funext f i
  by_cases hf : f = 4 ∧ i = p
  · obtain ⟨rfl, rfl⟩ := hf
    rw [q_upd_s, cW_4 (by rw [q_upd_n (by omega)]; exact hp), q_upd_s]
  · rw [q_upd_n (by omega)]
    unfold cW
    split <;> simp (disch := omega) only [q_upd_n]
theorem cW_up8 {M : q_M} {w b : Nat} {v : Int} (hb : b < 5) : cW (q_upd M (w + 21) b v) w = q_upd (cW M w) 8 b v := by
  funext f i
  by_cases hf : f = 8 ∧ i = b
  · obtain ⟨rfl, rfl⟩ := hf
    rw [q_upd_s, cW_8 hb, q_upd_s]
  · rw [q_upd_n (by omega)]
    unfold cW
    split <;> simp (disch := omega) only [q_upd_n]
theorem cW_up9 {M : q_M} {w : Nat} {v : Int} : cW (q_upd M w 9 v) w = q_upd (cW M w) 9 1 v := by
  funext f i
  by_cases hf : f = 9 ∧ i = 1
  · obtain ⟨rfl, rfl⟩ := hf
    rw [q_upd_s, cW_91, q_upd_s]
  · rw [q_upd_n (by omega)]
    unfold cW
    split <;> simp (disch := omega) only [q_upd_n]
/-- one goes towards its wish -/
def F_mv (V : Nat → (Nat → Int) → Int) (S : q_M) (p b : Nat) : Int :=
  if S 5 b - S 2 p < -F_goes V S p then S 2 p - F_goes V S p
  else if F_goes V S p < S 5 b - S 2 p then S 2 p + F_goes V S p
  else S 5 b
def F_S1 (V : Nat → (Nat → Int) → Int) (S : q_M) (p b : Nat) : q_M := q_upd S 2 p (F_mv V S p b)
def F_out (V : Nat → (Nat → Int) → Int) (S : q_M) (b : Nat) : Nat := F_cast (S 4) (fun q => F_wants V S q b) (S 6 b) b (F_n S)
def F_S2 (V : Nat → (Nat → Int) → Int) (S : q_M) (p b : Nat) : q_M :=
  q_upd (if F_out V S b = 5 then q_upd S 4 p b else q_upd (q_upd (q_upd S 4 (F_out V S b) 5) 4 p b) 2 (F_out V S b) (S 5 b)) 8 b (if S 8 b + 1 < 99 then S 8 b + 1 else 99)
def F_tak (V : Nat → (Nat → Int) → Int) (S : q_M) (p b : Nat) : Bool := F_takes1 (S 4) (fun q => F_wants V S q b) (S 6 b) b (F_n S) p
def F_goto (V : Nat → (Nat → Int) → Int) (S : q_M) (p b : Nat) : Bool × q_M :=
  if F_mv V S p b = S 5 b then (if F_tak V (F_S1 V S p b) p b = true then (true, F_S2 V (F_S1 V S p b) p b) else (false, F_S1 V S p b)) else (false, F_S1 V S p b)
/-- what goings change: the tables' cells, who is in what, what is built, where they lie -/
def q_yr (w ta : Nat) (M M2 : q_M) : Prop := ∀ a i, a ≠ w + 26 → a ≠ ta + 2 → (i < 5 → a ≠ w + 3 ∧ a ≠ w + 21 ∧ a ≠ w + 24 ∧ (a < w + 5 ∨ (w + 10 ≤ a ∧ a < w + 12) ∨ w + 17 ≤ a)) → M2 a i = M a i
theorem q_yr_rf {w ta : Nat} {M : q_M} : q_yr w ta M M := fun _ _ _ _ _ => rfl
theorem q_yr_tr {w ta : Nat} {M M2 M3 : q_M} (h : q_yr w ta M M2) (h2 : q_yr w ta M2 M3) : q_yr w ta M M3 := fun a i h3 h4 h5 => (h2 a i h3 h4 h5).trans (h a i h3 h4 h5)
theorem q_yr_of {w ta : Nat} {M M2 : q_M} (h : q_tel w ta M M2) : q_yr w ta M M2 := fun a i h1 h2 h3 => h a i h1 h2 (fun h4 => (h3 h4).2.2.2)
theorem q_yr_up {w ta a b : Nat} {v : Int} {M M2 : q_M} (h : q_yr w ta M M2) (ha : a = w + 3 ∨ a = w + 21 ∨ a = w + 24) (hb : b < 5) : q_yr w ta M (q_upd M2 a b v) := by
  intro x i h1 h2 h3
  rw [q_upd_n (by omega)]
  exact h x i h1 h2 h3
