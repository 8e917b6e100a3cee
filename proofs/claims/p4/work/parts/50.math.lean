/-! WHAT BOTH SIDES DO, in numbers. A world S: row 0 kinds, 1 mores, 2 at, 3 weights, 4 in (5: none), 5 places, 6 rooms, 7 vain, 8 built; S 9 0 stones, S 9 1 year. A law V: what a part says of six names. -/
def F_n (S : q_M) : Nat := (S 9 0).toNat
def F_nm (S : q_M) (p b : Nat) : Nat → Int := fun k => match k with
  | 0 => if b = 5 then 0 else if S 2 p - S 5 b < 0 then -(S 2 p - S 5 b) else S 2 p - S 5 b
  | 1 => S 7 b
  | 2 => S 8 b
  | 3 => S 3 p
  | 4 => S 9 1
  | 5 => S 1 p
  | _ => 0
def F_cl (lo x : Int) : Int := if x < lo then lo else if 99 < x then 99 else x
def F_says (V : Nat → (Nat → Int) → Int) (S : q_M) (part p b : Nat) : Int := F_cl (if part = 2 then 0 else -99) (V part (F_nm S p b))
def F_half (x : Int) : Int := if 0 ≤ x then x / 2 else -(-x / 2)
def F_likes (V : Nat → (Nat → Int) → Int) (S : q_M) (p b : Nat) : Int :=
  if S 0 p = 5 ∧ S 1 p < S 8 b then -1
  else if S 0 p = 1 ∨ S 0 p = 3 then (if S 1 p % 5 = b then 99 else F_half (F_says V S 0 p b))
  else if S 0 p = 4 ∧ 50 < S 7 b then -F_says V S 0 p b else F_says V S 0 p b
def F_wants (V : Nat → (Nat → Int) → Int) (S : q_M) (p b : Nat) : Int :=
  if S 0 p = 3 then -F_says V S 1 p b
  else if S 0 p = 2 ∨ (S 0 p = 4 ∧ S 9 1 % 2 = 0) then F_says V S 1 p b + 10 * S 1 p else F_says V S 1 p b
def F_goes (V : Nat → (Nat → Int) → Int) (S : q_M) (p : Nat) : Int :=
  if S 0 p = 5 then 1
  else if S 0 p = 1 then (if S 9 1 < 10 then 0 else F_says V S 2 p 5)
  else if S 0 p = 3 then (if S 9 1 < 10 then 0 else F_says V S 2 p 5) + S 1 p
  else if S 0 p = 2 ∨ S 0 p = 4 then F_half (F_says V S 2 p 5) else F_says V S 2 p 5
/-- the first of the most above 0, of buildings below k; 5: none -/
def F_best (L : Nat → Int) (ok : Nat → Bool) : Nat → Nat × Int
  | 0 => (5, 0)
  | k + 1 => if ok k = true ∧ (F_best L ok k).2 < L k then (k, L k) else F_best L ok k
def F_wish (V : Nat → (Nat → Int) → Int) (S : q_M) (p : Nat) : Nat := (F_best (F_likes V S p) (fun _ => true) 5).1
def F_cnt (f : Nat → Int) (b : Int) : Nat → Int
  | 0 => 0
  | n + 1 => F_cnt f b n + (if f n = b then 1 else 0)
def F_bits (f : Nat → Int) (b : Int) : Nat → Int
  | 0 => 0
  | n + 1 => q_or (F_bits f b n) (if f n = b then q_shl 1 n else 0)
def F_dig (f : Nat → Int) : Nat → Int
  | 0 => 0
  | n + 1 => 10 * F_dig f n + (if f n = 5 then 0 else f n + 1)
/-- of those below k in a building who is wanted least, of like ones the last; 5: nobody -/
def F_last (f : Nat → Int) (w : Nat → Int) (b : Int) : Nat → Nat
  | 0 => 5
  | k + 1 => if f k = b ∧ (F_last f w b k = 5 ∨ w k ≤ w (F_last f w b k)) then k else F_last f w b k
def F_takes (f : Nat → Int) (w : Nat → Int) (room b : Int) (n p : Nat) : Bool :=
  if F_cnt f b n < room then true
  else if F_last f w b n = 5 then false
  else decide (w (F_last f w b n) < w p ∨ (w p = w (F_last f w b n) ∧ p < F_last f w b n))
theorem F_cnt_le (f : Nat → Int) (b : Int) : ∀ n : Nat, 0 ≤ F_cnt f b n ∧ F_cnt f b n ≤ n
  | 0 => ⟨Int.le_refl 0, Int.le_refl 0⟩
  | n + 1 => by
    have h := F_cnt_le f b n
    rw [F_cnt]
    split <;> omega
theorem F_dig_le (f : Nat → Int) (hf : ∀ i, 0 ≤ f i ∧ f i ≤ 5) : ∀ n : Nat, n ≤ 5 → 0 ≤ F_dig f n ∧ F_dig f n ≤ 55555
  | 0, _ => by rw [F_dig]; omega
  | 1, _ => by
    have h0 := hf 0
    rw [F_dig, F_dig]
    split <;> omega
  | 2, _ => by
    have h0 := hf 0
    have h1 := hf 1
    rw [F_dig, F_dig, F_dig]
    split <;> split <;> omega
  | 3, _ => by
    have h0 := hf 0
    have h1 := hf 1
    have h2 := hf 2
    rw [F_dig, F_dig, F_dig, F_dig]
    (repeat' split) <;> omega
  | 4, _ => by
    have h0 := hf 0
    have h1 := hf 1
    have h2 := hf 2
    have h3 := hf 3
    rw [F_dig, F_dig, F_dig, F_dig, F_dig]
    (repeat' split) <;> omega
  | 5, _ => by
    have h0 := hf 0
    have h1 := hf 1
    have h2 := hf 2
    have h3 := hf 3
    have h4 := hf 4
    rw [F_dig, F_dig, F_dig, F_dig, F_dig, F_dig]
    (repeat' split) <;> omega
  | n + 6, h => absurd h (by omega)
/-- a run that ends so for every Q ends so alone -/
theorem q_S_eq {md d id : Nat} {as : List q_V} {g g' : q_G} {M M' : q_M} {v : Option q_V} (h : ∀ Q : Option q_V → q_G → q_M → Prop, Q v g' M' → q_S md d id as g M Q) (Q : Option q_V → q_G → q_M → Prop) : q_S md d id as g M Q = Q v g' M' := by
  apply propext
  constructor
  · rintro ⟨f, r, h1, h2⟩
    obtain ⟨f2, r2, h3, h4⟩ := h (fun v2 g2 M2 => (v2, g2, M2) = (v, g', M')) rfl
    have e1 := q_run_le h1 (Nat.le_max_left f f2)
    have e2 := q_run_le h3 (Nat.le_max_right f f2)
    rw [e1] at e2
    cases e2
    have e3 : r = (v, g', M') := h4
    rw [e3] at h2
    exact h2
  · exact h Q
