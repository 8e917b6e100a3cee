/-! THE TWO READERS: words -/
def q_wds : List (List Int) := [[108, 105, 107, 101, 115, 32, 32, 32], [119, 97, 110, 116, 115, 32, 32, 32], [103, 111, 101, 115, 32, 32, 32, 32], [102, 97, 114, 32, 32, 32, 32, 32], [118, 97, 105, 110, 32, 32, 32, 32], [98, 117, 105, 108, 116, 32, 32, 32], [119, 101, 105, 103, 104, 116, 32, 32], [121, 101, 97, 114, 32, 32, 32, 32], [109, 111, 114, 101, 32, 32, 32, 32], [111, 114, 32, 32, 32, 32, 32, 32], [97, 110, 100, 32, 32, 32, 32, 32], [110, 111, 116, 32, 32, 32, 32, 32]]
/-- the model's words, which of the class's they are -/
def W_c (w c : Nat) : Int := (q_wds.getD w []).getD c 0
def W_j (w : Nat) : Nat := [1, 2, 3, 7, 8, 9, 10, 11, 12, 4, 5, 6].getD w 0
def W_p (T : Nat → Int) (b a c : Nat) : Int := if b + c < a then T (b + c) else 32
def W_s (T : Nat → Int) (b a w : Nat) : Nat → Bool
  | 0 => decide (a ≤ b + 8)
  | k + 1 => W_s T b a w k && decide (W_c w k = W_p T b a k)
def W_f (T : Nat → Int) (b a : Nat) : Nat → Nat → Nat
  | 0, w => w
  | e + 1, w => if W_s T b a w 8 = true then w else W_f T b a e (w + 1)
theorem W_s_f {T : Nat → Int} {b a w : Nat} : ∀ m k : Nat, k ≤ m → W_s T b a w k = false → W_s T b a w m = false
  | 0, k, h, e => by
    have e2 : k = 0 := by omega
    subst e2
    exact e
  | m + 1, k, h, e => by
    by_cases c : k = m + 1
    · subst c
      exact e
    · rw [W_s, W_s_f m k (by omega) e]
      rfl
theorem W_s_i {T : Nat → Int} {b a w : Nat} : ∀ k : Nat, W_s T b a w k = true → a ≤ b + 8 ∧ ∀ c, c < k → W_c w c = W_p T b a c
  | 0, h => ⟨of_decide_eq_true h, fun c hc => absurd hc (Nat.not_lt_zero c)⟩
  | k + 1, h => by
    rw [W_s, Bool.and_eq_true] at h
    have ih := W_s_i k h.1
    refine ⟨ih.1, fun c hc => ?_⟩
    by_cases e : c = k
    · rw [e]
      exact of_decide_eq_true h.2
    · exact ih.2 c (by omega)
theorem W_s_of {T : Nat → Int} {b a w : Nat} (ha : a ≤ b + 8) : ∀ k : Nat, (∀ c, c < k → W_c w c = W_p T b a c) → W_s T b a w k = true
  | 0, _ => decide_eq_true ha
  | k + 1, h => by
    rw [W_s, W_s_of ha k (fun c hc => h c (by omega)), decide_eq_true (h k (by omega))]
    rfl
theorem F_sm_i {T : Nat → Int} {b j : Nat} : ∀ k : Nat, F_sm T b j k = true → ∀ c, c < k → T (b + c) = q_sch j c
  | 0, _, c, hc => absurd hc (Nat.not_lt_zero c)
  | k + 1, h, c, hc => by
    rw [F_sm, Bool.and_eq_true] at h
    by_cases e : c = k
    · rw [e]
      exact of_decide_eq_true h.2
    · exact F_sm_i k h.1 c (by omega)
theorem F_sm_of {T : Nat → Int} {b j : Nat} : ∀ k : Nat, (∀ c, c < k → T (b + c) = q_sch j c) → F_sm T b j k = true
  | 0, _ => rfl
  | k + 1, h => by
    rw [F_sm, F_sm_of k (fun c hc => h c (by omega)), decide_eq_true (h k (by omega))]
    rfl
theorem F_is_i {T : Nat → Int} {b a j : Nat} (h : F_is T b a j = true) : q_slen j = (a : Int) - b ∧ ∀ c, c < (q_slen j).toNat → T (b + c) = q_sch j c := by
  unfold F_is at h
  rw [Bool.and_eq_true] at h
  exact ⟨of_decide_eq_true h.1, F_sm_i _ h.2⟩
theorem F_is_of {T : Nat → Int} {b a j : Nat} (h1 : q_slen j = (a : Int) - b) (h2 : ∀ c, c < (q_slen j).toNat → T (b + c) = q_sch j c) : F_is T b a j = true := by
  unfold F_is
  rw [Bool.and_eq_true]
  exact ⟨decide_eq_true h1, F_sm_of _ h2⟩
set_option maxRecDepth 4000 in
theorem W_tab : ∀ w, w < 12 → (1 ≤ W_j w ∧ W_j w ≤ 12) ∧ (1 ≤ q_slen (W_j w) ∧ q_slen (W_j w) ≤ 6) ∧ ∀ c, c < 8 → W_c w c = (if (c : Int) < q_slen (W_j w) then q_sch (W_j w) c else 32) ∧ ((c : Int) < q_slen (W_j w) → 97 ≤ q_sch (W_j w) c) := by decide
def W_ne (j j2 : Nat) : Bool := decide (q_slen j ≠ q_slen j2) || (List.range 6).any (fun c => decide ((c : Int) < q_slen j) && decide (q_sch j c ≠ q_sch j2 c))
set_option maxRecDepth 4000 in
theorem W_exc : ∀ j, j < 13 → ∀ j2, j2 < 13 → j = 0 ∨ j2 = 0 ∨ j = j2 ∨ W_ne j j2 = true := by decide
theorem W_ne_i {j j2 : Nat} (h : W_ne j j2 = true) : q_slen j ≠ q_slen j2 ∨ ∃ c : Nat, (c : Int) < q_slen j ∧ q_sch j c ≠ q_sch j2 c := by
  unfold W_ne at h
  rw [Bool.or_eq_true] at h
  rcases h with h | h
  · exact Or.inl (of_decide_eq_true h)
  · obtain ⟨c, _, h⟩ := List.any_eq_true.mp h
    rw [Bool.and_eq_true] at h
    exact Or.inr ⟨c, of_decide_eq_true h.1, of_decide_eq_true h.2⟩
theorem W_is {T : Nat → Int} {b a w : Nat} (hw : w < 12) (hT : ∀ m, b ≤ m → m < a → 97 ≤ T m) : W_s T b a w 8 = F_is T b a (W_j w) := by
  obtain ⟨_, ⟨t1, t2⟩, t3⟩ := W_tab w hw
  generalize W_j w = j at *
  apply Bool.eq_iff_iff.mpr
  constructor
  · intro h
    obtain ⟨h1, h2⟩ := W_s_i 8 h
    have k1 := h2 (q_slen j).toNat (by omega)
    have k2 := h2 ((q_slen j).toNat - 1) (by omega)
    rw [(t3 _ (by omega)).1, if_neg (by omega)] at k1
    have k3 := t3 ((q_slen j).toNat - 1) (by omega)
    rw [k3.1, if_pos (by omega)] at k2
    have k4 := k3.2 (by omega)
    unfold W_p at k1 k2
    have e1 : a ≤ b + (q_slen j).toNat := by
      by_cases c : b + (q_slen j).toNat < a
      · rw [if_pos c] at k1
        have := hT (b + (q_slen j).toNat) (by omega) c
        omega
      · omega
    have e2 : b + ((q_slen j).toNat - 1) < a := by
      by_cases c : b + ((q_slen j).toNat - 1) < a
      · exact c
      · rw [if_neg c] at k2
        omega
    refine F_is_of (by omega) (fun c hc => ?_)
    have k5 := h2 c (by omega)
    rw [(t3 c (by omega)).1, if_pos (by omega)] at k5
    unfold W_p at k5
    rw [if_pos (by omega)] at k5
    exact k5.symm
  · intro h
    obtain ⟨h1, h2⟩ := F_is_i h
    refine W_s_of (by omega) 8 (fun c hc => ?_)
    rw [(t3 c hc).1]
    unfold W_p
    by_cases k : (c : Int) < q_slen j
    · rw [if_pos k, if_pos (by omega), h2 c (by omega)]
    · rw [if_neg k, if_neg (by omega)]
theorem F_is_ex {T : Nat → Int} {b a j j2 : Nat} (h1 : 1 ≤ j ∧ j < 13) (h2 : 1 ≤ j2 ∧ j2 < 13) (hne : j ≠ j2) (h : F_is T b a j = true) : F_is T b a j2 = false := by
  cases e : F_is T b a j2 with
  | false => rfl
  | true =>
    exfalso
    obtain ⟨k1, k2⟩ := F_is_i h
    obtain ⟨m1, m2⟩ := F_is_i e
    rcases W_exc j h1.2 j2 h2.2 with z | z | z | z
    · omega
    · omega
    · exact hne z
    · rcases W_ne_i z with z | ⟨c, c2, c3⟩
      · exact z (k1.trans m1.symm)
      · exact c3 ((k2 c (by omega)).symm.trans (m2 c (by omega)))
/-- the model's tokens -/
def Y_t (t : Int) : Int := if t = -2 then 0 else if t = -3 then 1 else if t = -4 then 2 else if t = -5 ∨ t = -6 ∨ t = -7 then 3 else if t = -8 then 4 else if t = -9 then 5 else if t = -10 then 6 else t
def Y_v (t v : Int) : Int := if t = -5 then 0 else if t = -6 then 1 else if t = -7 then 2 else v
def W_g (f : Nat → Bool) : Nat → Nat → Nat
  | 0, w => w
  | e + 1, w => if f w = true then w else W_g f e (w + 1)
theorem W_g_c {f g : Nat → Bool} : ∀ e w : Nat, (∀ x, w ≤ x → x < w + e → f x = g x) → W_g f e w = W_g g e w
  | 0, _, _ => rfl
  | e + 1, w, h => by
    rw [W_g, W_g, h w (Nat.le_refl w) (by omega), W_g_c e (w + 1) (fun x h1 h2 => h x (by omega) (by omega))]
theorem W_f_g {T : Nat → Int} {b a : Nat} : ∀ e w : Nat, W_f T b a e w = W_g (fun w => W_s T b a w 8) e w
  | 0, _ => rfl
  | e + 1, w => by rw [W_f, W_g, W_f_g e (w + 1)]
def R_mg (f : Nat → Bool) (j : Nat) (t v : Int) (a : Int × Int) : Int × Int := if f j = true then (t, v) else a
def R_g (f : Nat → Bool) : Int × Int := R_mg f 12 (-4) 5 (R_mg f 11 (-4) 4 (R_mg f 10 (-4) 3 (R_mg f 9 (-4) 2 (R_mg f 8 (-4) 1 (R_mg f 7 (-4) 0 (R_mg f 6 (-10) 0 (R_mg f 5 (-9) 0 (R_mg f 4 (-8) 0 (R_mg f 3 (-7) 0 (R_mg f 2 (-6) 0 (R_mg f 1 (-5) 0 (-1, 0))))))))))))
theorem R_g_c {f g : Nat → Bool} (h : ∀ x, 1 ≤ x → x < 13 → f x = g x) : R_g f = R_g g := by
  unfold R_g R_mg
  rw [h 1 (by decide) (by decide), h 2 (by decide) (by decide), h 3 (by decide) (by decide), h 4 (by decide) (by decide), h 5 (by decide) (by decide), h 6 (by decide) (by decide), h 7 (by decide) (by decide), h 8 (by decide) (by decide), h 9 (by decide) (by decide), h 10 (by decide) (by decide), h 11 (by decide) (by decide), h 12 (by decide) (by decide)]
theorem W_all : ∀ j, j < 13 → (if (W_g (fun w => decide (W_j w = j)) 12 0 : Int) < 3 then (3 : Int) else if (W_g (fun w => decide (W_j w = j)) 12 0 : Int) < 9 then 2 else if (W_g (fun w => decide (W_j w = j)) 12 0 : Int) = 12 then -1 else 4 + W_g (fun w => decide (W_j w = j)) 12 0 - 9) = Y_t (R_g (fun x => decide (x = j))).1 ∧ W_g (fun w => decide (W_j w = j)) 12 0 ≤ 12 ∧ ((-7 ≤ (R_g (fun x => decide (x = j))).1 ∧ (R_g (fun x => decide (x = j))).1 ≤ -4) → (if (W_g (fun w => decide (W_j w = j)) 12 0 : Int) < 3 then (W_g (fun w => decide (W_j w = j)) 12 0 : Int) else W_g (fun w => decide (W_j w = j)) 12 0 - 3) = Y_v (R_g (fun x => decide (x = j))).1 (R_g (fun x => decide (x = j))).2) := by decide
theorem W_wd {T : Nat → Int} {b a : Nat} (hT : ∀ m, b ≤ m → m < a → 97 ≤ T m) : (if (W_f T b a 12 0 : Int) < 3 then (3 : Int) else if (W_f T b a 12 0 : Int) < 9 then 2 else if (W_f T b a 12 0 : Int) = 12 then -1 else 4 + W_f T b a 12 0 - 9) = Y_t (R_wd T b a 0).1 ∧ W_f T b a 12 0 ≤ 12 ∧ ((-7 ≤ (R_wd T b a 0).1 ∧ (R_wd T b a 0).1 ≤ -4) → (if (W_f T b a 12 0 : Int) < 3 then (W_f T b a 12 0 : Int) else W_f T b a 12 0 - 3) = Y_v (R_wd T b a 0).1 (R_wd T b a 0).2) := by
  obtain ⟨j, hj, hf⟩ : ∃ j, j < 13 ∧ ∀ x, 1 ≤ x → x < 13 → F_is T b a x = decide (x = j) := by
    by_cases c : ∃ j, (1 ≤ j ∧ j < 13) ∧ F_is T b a j = true
    · obtain ⟨j, hj, ht⟩ := c
      refine ⟨j, hj.2, fun x h1 h2 => ?_⟩
      by_cases e : x = j
      · rw [e, ht, decide_eq_true rfl]
      · rw [F_is_ex hj ⟨h1, h2⟩ (fun q => e q.symm) ht, decide_eq_false e]
    · refine ⟨0, by decide, fun x h1 h2 => ?_⟩
      rw [decide_eq_false (by omega)]
      cases e : F_is T b a x with
      | false => rfl
      | true => exact absurd ⟨x, ⟨h1, h2⟩, e⟩ c
  have e1 : R_wd T b a 0 = R_g (fun x => decide (x = j)) := (show R_wd T b a 0 = R_g (F_is T b a) from rfl).trans (R_g_c hf)
  have e2 : W_f T b a 12 0 = W_g (fun w => decide (W_j w = j)) 12 0 := (W_f_g 12 0).trans (W_g_c 12 0 (fun x h1 h2 => by
    have t := W_tab x (by omega)
    show W_s T b a x 8 = decide (W_j x = j)
    rw [W_is (by omega) hT]
    exact hf _ t.1.1 (by omega)))
  rw [e1, e2]
  exact W_all j hj
