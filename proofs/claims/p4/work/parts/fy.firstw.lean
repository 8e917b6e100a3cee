/-! THE FIRST STATE: worlds and sheets alike -/
def q_sm0 (a b : Nat) : Bool := decide (a < q_T0.length) && decide (b < q_T0.length)
theorem q_sm0_e {B : q_M} {a b i j : Nat} (h : q_sm0 a b = true) (h2 : decide (q_rd q_T0 a i = q_rd q_T0 b j) = true) : q_lk q_T0 B a i = q_lk q_T0 B b j := by
  unfold q_sm0 at h
  rw [Bool.and_eq_true] at h
  rw [q_lk_rd (of_decide_eq_true h.1), q_lk_rd (of_decide_eq_true h.2)]
  exact of_decide_eq_true h2
def q_fsh : Bool := (List.range 4).all (fun s => q_sm0 (6 + (86 + 2 * s)) 110 && q_sm0 (6 + (86 + 2 * s)) 111 && q_sm0 (6 + (86 + 2 * s) + 1) 112 && decide (q_rd q_T0 (6 + (86 + 2 * s)) 1 = q_rd q_T0 110 s) && decide (q_rd q_T0 (6 + (86 + 2 * s)) 2 = q_rd q_T0 111 s) && (List.range 40).all (fun i => decide (q_rd q_T0 (6 + (86 + 2 * s) + 1) i = q_rd q_T0 112 (40 * s + i))))
theorem q_fsh_t : q_fsh = true := by decide +kernel
theorem q_first_Rsh {B : q_M} : q_Rsh (q_lk q_T0 B) := by
  intro s hs
  have h := q_fsh_t
  unfold q_fsh at h
  rw [List.all_eq_true] at h
  have k := h s (List.mem_range.mpr hs)
  simp only [Bool.and_eq_true] at k
  obtain ⟨⟨⟨⟨⟨k1, k2⟩, k3⟩, k4⟩, k5⟩, k6⟩ := k
  rw [List.all_eq_true] at k6
  exact ⟨q_sm0_e k1 k4, q_sm0_e k2 k5, fun i hi => q_sm0_e k3 (k6 i (List.mem_range.mpr hi))⟩
def q_fwd0 : Bool := q_sm0 30 103 && q_sm0 13 103 && q_sm0 31 103 && q_sm0 32 103 && (List.range 5).all (fun i => decide (q_rd q_T0 30 i = q_rd q_T0 103 (4 * i)) && decide (q_rd q_T0 13 i = q_rd q_T0 103 (4 * i + 1)) && decide (q_rd q_T0 31 i = q_rd q_T0 103 (4 * i + 2)) && decide (q_rd q_T0 32 i = q_rd q_T0 103 (4 * i + 3)))
theorem q_fwd0_t : q_fwd0 = true := by decide +kernel
theorem q_first_w5 {B : q_M} {i : Nat} (hi : i < 5) : q_lk q_T0 B 30 i = q_lk q_T0 B 103 (4 * i) ∧ q_lk q_T0 B 13 i = q_lk q_T0 B 103 (4 * i + 1) ∧ q_lk q_T0 B 31 i = q_lk q_T0 B 103 (4 * i + 2) ∧ q_lk q_T0 B 32 i = q_lk q_T0 B 103 (4 * i + 3) := by
  have h := q_fwd0_t
  unfold q_fwd0 at h
  simp only [Bool.and_eq_true] at h
  obtain ⟨⟨⟨⟨h1, h2⟩, h3⟩, h4⟩, h5⟩ := h
  rw [List.all_eq_true] at h5
  have k := h5 i (List.mem_range.mpr hi)
  simp only [Bool.and_eq_true] at k
  obtain ⟨⟨⟨k1, k2⟩, k3⟩, k4⟩ := k
  exact ⟨q_sm0_e h1 k1, q_sm0_e h2 k2, q_sm0_e h3 k3, q_sm0_e h4 k4⟩
theorem q_first_n {B : q_M} : q_lk q_T0 B 12 5 = 0 := rfl
theorem q_first_n2 {B : q_M} : q_lk q_T0 B 100 0 = 0 := rfl
theorem q_first_W {B : q_M} : cW (q_lk q_T0 B) 11 = mW (q_lk q_T0 B) := by
  have z1 : ∀ i, ¬i < (q_lk q_T0 B 12 5).toNat := fun i => by rw [q_first_n]; omega
  have z2 : ∀ i, ¬i < (q_lk q_T0 B 100 0).toNat := fun i => by rw [q_first_n2]; omega
  funext f i
  match f with
  | 0 =>
    show (if i < (q_lk q_T0 B 12 5).toNat then q_lk q_T0 B 33 i else 0) = (if i < (q_lk q_T0 B 100 0).toNat then q_lk q_T0 B 101 i else 0)
    rw [if_neg (z1 i), if_neg (z2 i)]
  | 1 =>
    show (if i < (q_lk q_T0 B 12 5).toNat then q_lk q_T0 B 34 i else 0) = (if i < (q_lk q_T0 B 100 0).toNat then q_lk q_T0 B 102 i else 0)
    rw [if_neg (z1 i), if_neg (z2 i)]
  | 2 =>
    show (if i < (q_lk q_T0 B 12 5).toNat then q_lk q_T0 B 35 i else 0) = (if i < (q_lk q_T0 B 100 0).toNat then q_lk q_T0 B 104 (3 * i) else 0)
    rw [if_neg (z1 i), if_neg (z2 i)]
  | 3 =>
    show (if i < (q_lk q_T0 B 12 5).toNat then q_lk q_T0 B 36 i else 0) = (if i < (q_lk q_T0 B 100 0).toNat then q_lk q_T0 B 104 (3 * i + 1) else 0)
    rw [if_neg (z1 i), if_neg (z2 i)]
  | 4 =>
    show (if i < (q_lk q_T0 B 12 5).toNat then q_lk q_T0 B 14 i else 0) = (if i < (q_lk q_T0 B 100 0).toNat then mIn (q_lk q_T0 B) i else 0)
    rw [if_neg (z1 i), if_neg (z2 i)]
  | 5 =>
    show (if i < 5 then q_lk q_T0 B 30 i else 0) = (if i < 5 then q_lk q_T0 B 103 (4 * i) else 0)
    by_cases c : i < 5
    · rw [if_pos c, if_pos c, (q_first_w5 c).1]
    · rw [if_neg c, if_neg c]
  | 6 =>
    show (if i < 5 then q_lk q_T0 B 13 i else 0) = (if i < 5 then q_lk q_T0 B 103 (4 * i + 1) else 0)
    by_cases c : i < 5
    · rw [if_pos c, if_pos c, (q_first_w5 c).2.1]
    · rw [if_neg c, if_neg c]
  | 7 =>
    show (if i < 5 then q_lk q_T0 B 31 i else 0) = (if i < 5 then q_lk q_T0 B 103 (4 * i + 2) else 0)
    by_cases c : i < 5
    · rw [if_pos c, if_pos c, (q_first_w5 c).2.2.1]
    · rw [if_neg c, if_neg c]
  | 8 =>
    show (if i < 5 then q_lk q_T0 B 32 i else 0) = (if i < 5 then q_lk q_T0 B 103 (4 * i + 3) else 0)
    by_cases c : i < 5
    · rw [if_pos c, if_pos c, (q_first_w5 c).2.2.2]
    · rw [if_neg c, if_neg c]
  | 9 =>
    show (if i = 0 then q_lk q_T0 B 12 5 else if i = 1 then q_lk q_T0 B 11 9 else 0) = (if i = 0 then q_lk q_T0 B 100 0 else if i = 1 then q_lk q_T0 B 100 5 else 0)
    rw [q_first_n, q_first_n2, show q_lk q_T0 B 11 9 = q_lk q_T0 B 100 5 from rfl]
  | n + 10 => rfl
theorem q_first_Rw {B : q_M} : q_Rw (q_lk q_T0 B) := by
  have en : F_n (mW (q_lk q_T0 B)) = 0 := by
    unfold F_n
    rw [mW_90, q_first_n2]
    rfl
  refine ⟨q_first_W, ⟨?_, ?_, ?_, ?_⟩, q_first_Rsh, fun h => absurd rfl h⟩
  · rw [mW_90, q_first_n2]
    omega
  · intro p hp
    rw [en] at hp
    omega
  · intro b hb
    rw [en]
    show 0 ≤ (if b < 5 then q_lk q_T0 B 103 (4 * b + 1) else 0)
    rw [if_pos hb]
    exact (q_first_MI.1.2.2.2.2.2.2.2.2.1 b hb).1
  · intro p b hp
    rw [en] at hp
    omega
