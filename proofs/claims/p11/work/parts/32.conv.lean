/-! FROM THE MODE IN WHICH ALL IS MADE TO THE ONE IN WHICH THE PLACES ARE KNOWN -/
def q_cvb (t : q_Tm) (a i : Nat) : Bool := decide (q_ty 0 (q_kd a) i = q_ty 1 (q_kd a) i) || (decide ((q_ty 0 (q_kd a) i).1 = 2) && (decide ((q_ty 1 (q_kd a) i).1 = 3) && (decide (q_rd t a i = ((a + (q_ty 1 (q_kd a) i).2.2 : Nat) : Int)) && (decide (a + (q_ty 1 (q_kd a) i).2.2 < 124) && decide (q_kd (a + (q_ty 1 (q_kd a) i).2.2) = (q_ty 1 (q_kd a) i).2.1)))))
def q_cv (t : q_Tm) : Bool := decide (t.length = 124) && (List.range 124).all fun a => (List.range (q_sz (q_kd a))).all fun i => q_cvb t a i
theorem q_cv_get {t : q_Tm} (h : q_cv t = true) {a i : Nat} (ha : a < 124) (hi : i < q_sz (q_kd a)) : q_ty 0 (q_kd a) i = q_ty 1 (q_kd a) i ∨ ((q_ty 0 (q_kd a) i).1 = 2 ∧ (q_ty 1 (q_kd a) i).1 = 3 ∧ q_rd t a i = ((a + (q_ty 1 (q_kd a) i).2.2 : Nat) : Int) ∧ a + (q_ty 1 (q_kd a) i).2.2 < 124 ∧ q_kd (a + (q_ty 1 (q_kd a) i).2.2) = (q_ty 1 (q_kd a) i).2.1) := by
  unfold q_cv at h
  rw [Bool.and_eq_true] at h
  have h1 := List.all_eq_true.mp h.2 a (List.mem_range.mpr ha)
  have h2 := List.all_eq_true.mp h1 i (List.mem_range.mpr hi)
  unfold q_cvb at h2
  rw [Bool.or_eq_true] at h2
  rcases h2 with h2 | h2
  · exact Or.inl (of_decide_eq_true h2)
  · rw [Bool.and_eq_true, Bool.and_eq_true, Bool.and_eq_true, Bool.and_eq_true] at h2
    exact Or.inr ⟨of_decide_eq_true h2.1, of_decide_eq_true h2.2.1, of_decide_eq_true h2.2.2.1, of_decide_eq_true h2.2.2.2.1, of_decide_eq_true h2.2.2.2.2⟩
theorem q_cv_rf {t : q_Tm} {B : q_M} {ad : Nat → Nat} (h : q_cv t = true) {a i : Nat} (ha : a < 124) (hi : i < q_sz (q_kd a)) : q_sv ad (q_ty 1 (q_kd a) i) a (q_lk t B a i) = q_sv ad (q_ty 0 (q_kd a) i) a (q_lk t B a i) ∧ ((q_ty 1 (q_kd a) i).1 = 2 ∨ (q_ty 1 (q_kd a) i).1 = 3 → q_rf ad (q_ty 1 (q_kd a) i) a (q_lk t B a i) = q_rf ad (q_ty 0 (q_kd a) i) a (q_lk t B a i)) := by
  have hlen : a < t.length := by
    unfold q_cv at h
    rw [Bool.and_eq_true] at h
    rw [of_decide_eq_true h.1]
    exact ha
  rcases q_cv_get h ha hi with e | ⟨h1, h2, h3, h4, h5⟩
  · rw [e]
    exact ⟨rfl, fun _ => rfl⟩
  · have e : q_rf ad (q_ty 1 (q_kd a) i) a (q_lk t B a i) = q_rf ad (q_ty 0 (q_kd a) i) a (q_lk t B a i) := by
      unfold q_rf
      rw [if_neg (by rw [h2]; decide), if_pos h1, q_lk_rd hlen, h3, if_neg (by omega), Int.toNat_natCast]
    refine ⟨?_, fun _ => e⟩
    unfold q_sv
    rw [if_pos (Or.inr h2), if_pos (Or.inl h1), e]
theorem q_cv_W {t : q_Tm} {B : q_M} {ad : Nat → Nat} {C : q_CI} (h : q_cv t = true) : q_W 1 ad C 124 (q_lk t B) = q_W 0 ad C 124 (q_lk t B) := by
  unfold q_W
  apply List.map_congr_left
  intro a ha
  have ha2 := List.mem_range.mp ha
  congr 1
  have hq : ∀ k, q_kd a = k → k = 7 ∨ k = 8 ∨ k = 9 → q_rfs 1 ad k a (q_lk t B) = q_rfs 0 ad k a (q_lk t B) := by
    intro k hk h7
    subst hk
    funext i
    unfold q_rfs
    by_cases hi : i < q_sz (q_kd a)
    · rw [if_pos hi, if_pos hi]
      exact (q_cv_rf h ha2 hi).2 (q_ty_arr 1 _ h7 i)
    · rw [if_neg hi, if_neg hi]
  unfold q_en
  by_cases h7 : q_kd a < 7
  · rw [if_pos h7, if_pos h7]
    congr 2
    apply List.map_congr_left
    intro i hi
    exact (q_cv_rf h ha2 (by rw [q_sz_lt h7]; exact List.mem_range.mp hi)).1
  · rw [if_neg h7, if_neg h7]
    by_cases e7 : q_kd a = 7
    · rw [if_pos e7, if_pos e7, hq 7 e7 (Or.inl rfl)]
    · rw [if_neg e7, if_neg e7]
      by_cases e8 : q_kd a = 8
      · rw [if_pos e8, if_pos e8, hq 8 e8 (Or.inr (Or.inl rfl))]
      · rw [if_neg e8, if_neg e8]
        by_cases e9 : q_kd a = 9
        · rw [if_pos e9, if_pos e9, hq 9 e9 (Or.inr (Or.inr rfl))]
        · rw [if_neg e9, if_neg e9]
theorem q_cv_ok {t : q_Tm} {B : q_M} (h : q_cv t = true) (h0 : q_ok 0 124 (q_lk t B)) : q_ok 1 124 (q_lk t B) := by
  refine ⟨h0.1, fun a i ha hi ht => ?_, fun a i ha hi ht => ?_, h0.2.2.2⟩
  · rcases q_cv_get h ha hi with e | ⟨-, h2, -⟩
    · rw [← e] at ht ⊢
      exact h0.2.1 a i ha hi ht
    · rw [h2] at ht
      cases ht
  · rcases q_cv_get h ha hi with e | ⟨-, -, -, h4, h5⟩
    · rw [← e] at ht
      exact absurd ht (q_ty_no3 (Or.inl rfl) i)
    · exact ⟨h4, h5⟩
set_option maxRecDepth 100000 in
theorem q_T0_cv : q_cv q_T0 = true := by decide +kernel
