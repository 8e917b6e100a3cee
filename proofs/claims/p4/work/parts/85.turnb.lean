/-! WHO IS IN WHAT stays within its bounds -/
def q_f5 (f : Nat → Int) : Prop := ∀ i, 0 ≤ f i ∧ f i ≤ 5
theorem F_u_b {f : Nat → Int} {p : Nat} {v : Int} (h : q_f5 f) (h0 : 0 ≤ v) (h5 : v ≤ 5) : q_f5 (F_u f p v) := by
  intro i
  unfold F_u
  by_cases e : i = p
  · rw [if_pos e]
    exact ⟨h0, h5⟩
  · rw [if_neg e]
    exact h i
theorem F_ask_b {W : Nat → Nat → Int} {R : Nat → Int} {n p b : Nat} {x : (Nat → Int) × (Nat → Int)} (h : q_f5 x.1) (hb : b < 5) : q_f5 (F_ask W R n p b x).1 := by
  unfold F_ask
  split
  · split
    · exact F_u_b h (by omega) (by omega)
    · exact F_u_b (F_u_b h (by omega) (by omega)) (by omega) (by omega)
  · exact h
theorem F_rd_b {L W : Nat → Nat → Int} {R : Nat → Int} {n : Nat} {x : (Nat → Int) × (Nat → Int)} (h : q_f5 x.1) : ∀ p : Nat, q_f5 (F_rd L W R n x p).2.1
  | 0 => h
  | p + 1 => by
    have h1 := F_rd_b (L := L) (W := W) (R := R) (n := n) h p
    rw [F_rd]
    by_cases c : (F_rd L W R n x p).2.1 p = 5 ∧ F_dst L (F_rd L W R n x p).2 p ≠ 5
    · rw [if_pos c]
      rcases F_dst_le (L := L) (x := (F_rd L W R n x p).2) (p := p) with k | k
      · exact F_ask_b h1 k
      · exact absurd k c.2
    · rw [if_neg c]
      exact h1
theorem F_turn_b {L W : Nat → Nat → Int} {R : Nat → Int} {n : Nat} : ∀ (k : Nat) (x : (Nat → Int) × (Nat → Int)), q_f5 x.1 → q_f5 (F_turn L W R n k x).1
  | 0, _, h => h
  | k + 1, x, h => by
    rw [F_turn]
    split
    · exact F_turn_b k _ (F_rd_b h n)
    · exact F_rd_b h n
theorem F_fr_b {x : (Nat → Int) × (Nat → Int)} (h : q_f5 x.1) : q_f5 (F_fr x).1 := F_u_b (F_u_b (F_u_b (F_u_b (F_u_b h (by omega) (by omega)) (by omega) (by omega)) (by omega) (by omega)) (by omega) (by omega)) (by omega) (by omega)
theorem F_next_b : ∀ (p : Nat) (f : Nat → Int), q_f5 f → q_f5 (F_next f p).2
  | 0, _, h => h
  | p + 1, f, h => by
    have h1 := h p
    rw [F_next]
    split
    · exact F_u_b h (by omega) (by omega)
    · split
      · exact F_next_b p _ (F_u_b h (by omega) (by omega))
      · exact F_u_b h (by omega) (by omega)
