/-! THE FIRST STATE: both sides say the same -/
def q_mwb : Bool := match q_T0[114]? with
  | some r => (List.range 12).all (fun w => (List.range 8).all (fun c => decide (q_rg r (8 * w + c) = W_c w c)))
  | none => false
theorem q_mwb_t : q_mwb = true := by decide +kernel
theorem q_first_mwd {B : q_M} : q_mwd (q_lk q_T0 B) := by
  intro w c hw hc
  have h := q_mwb_t
  unfold q_mwb at h
  unfold q_lk
  cases e : q_T0[114]? with
  | none => rw [e] at h; cases h
  | some r =>
    rw [e] at h
    simp only [List.all_eq_true, List.mem_range, decide_eq_true_eq] at h
    exact h w hw c hc
theorem q_rows_2 : decide (q_T0[2]? = q_T0[105]?) = true := by decide +kernel
theorem q_rows_s : (q_T0[105]?).isSome = true := by decide +kernel
theorem q_first_tape {B : q_M} : q_lk q_T0 B 2 = q_lk q_T0 B 105 := by
  funext i
  unfold q_lk
  rw [of_decide_eq_true q_rows_2]
  cases e : q_T0[105]? with
  | none => have h := q_rows_s; rw [e] at h; cases h
  | some r => rfl
theorem q_first_eq {B : q_M} : ∀ p, p < 3 → ∀ N, q_V1 (fun i => q_lk q_T0 B 106 (200 * 0 + i)) (fun i => q_lk q_T0 B 107 (4 * 0 + i)) p N = q_Vt (q_lk q_T0 B 7) (q_lk q_T0 B 9) 8 p N := by
  intro p hp N
  have c0 : q_lk q_T0 B 106 (200 * 0 + 0) = 100099 := rfl
  have c1 : q_lk q_T0 B 106 (200 * 0 + 1) = 0 := rfl
  have c2 : q_lk q_T0 B 106 (200 * 0 + 2) = 17 := rfl
  have c3 : q_lk q_T0 B 106 (200 * 0 + 3) = 3 := rfl
  have c4 : q_lk q_T0 B 106 (200 * 0 + 4) = 100009 := rfl
  match p, hp with
  | 0, _ =>
    refine (Y_law (O := fun i => q_lk q_T0 B 106 (200 * 0 + i)) (S := fun i => q_lk q_T0 B 107 (4 * 0 + i)) (p := 0) (b := 0) (c := 0) (k := 3) (D := fun i => if i = 0 then 0 else if i = 1 then 1 else if i = 2 then 2 else 1) q_first_cod m_9_0 rfl rfl (by omega) m_7_3 (fun j hj => ?_) ⟨rfl, fun i _ hi => ?_⟩ (fun i hi => by (repeat' split) <;> omega) rfl N).symm
    · match j, hj with
      | 0, _ => show q_lk q_T0 B 106 (200 * 0 + 0) = K_c (q_lk q_T0 B 7 0); rw [c0, m_7_0]; rfl
      | 1, _ => show q_lk q_T0 B 106 (200 * 0 + 1) = K_c (q_lk q_T0 B 7 1); rw [c1, m_7_1]; rfl
      | 2, _ => show q_lk q_T0 B 106 (200 * 0 + 2) = K_c (q_lk q_T0 B 7 2); rw [c2, m_7_2]; rfl
      | n + 3, h => omega
    · match i, hi with
      | 0, _ => exact Or.inl ⟨by show q_pu (q_lk q_T0 B 106 (200 * 0 + 0)); rw [c0]; unfold q_pu; omega, rfl⟩
      | 1, _ => exact Or.inl ⟨by show q_pu (q_lk q_T0 B 106 (200 * 0 + 1)); rw [c1]; unfold q_pu; omega, rfl⟩
      | 2, _ => exact Or.inr (Or.inr ⟨by show q_bi (q_lk q_T0 B 106 (200 * 0 + 2)); rw [c2]; unfold q_bi; omega, by decide, rfl⟩)
      | n + 3, h => omega
  | 1, _ =>
    refine (Y_law (O := fun i => q_lk q_T0 B 106 (200 * 0 + i)) (S := fun i => q_lk q_T0 B 107 (4 * 0 + i)) (p := 1) (b := 4) (c := 3) (k := 1) (D := fun i => i - 3) q_first_cod m_9_1 rfl rfl (by omega) m_7_5 (fun j hj => ?_) ⟨rfl, fun i h0 hi => ?_⟩ (fun i hi => by omega) rfl N).symm
    · have e : j = 0 := by omega
      subst e
      show q_lk q_T0 B 106 (200 * 0 + 3) = K_c (q_lk q_T0 B 7 4)
      rw [c3, m_7_4]
      rfl
    · have e : i = 3 := by omega
      subst e
      exact Or.inl ⟨by show q_pu (q_lk q_T0 B 106 (200 * 0 + 3)); rw [c3]; unfold q_pu; omega, rfl⟩
  | 2, _ =>
    refine (Y_law (O := fun i => q_lk q_T0 B 106 (200 * 0 + i)) (S := fun i => q_lk q_T0 B 107 (4 * 0 + i)) (p := 2) (b := 6) (c := 4) (k := 1) (D := fun i => i - 4) q_first_cod m_9_2 rfl rfl (by omega) m_7_7 (fun j hj => ?_) ⟨rfl, fun i h0 hi => ?_⟩ (fun i hi => by omega) rfl N).symm
    · have e : j = 0 := by omega
      subst e
      show q_lk q_T0 B 106 (200 * 0 + 4) = K_c (q_lk q_T0 B 7 6)
      rw [c4, m_7_6]
      rfl
    · have e : i = 4 := by omega
      subst e
      exact Or.inl ⟨by show q_pu (q_lk q_T0 B 106 (200 * 0 + 4)); rw [c4]; unfold q_pu; omega, rfl⟩
  | n + 3, h => omega
theorem q_first_MV {B : q_M} : q_MI (fun _ => q_Vt (q_lk q_T0 B 7) (q_lk q_T0 B 9) 8) 1 (q_lk q_T0 B) := q_MI_V q_first_MI (fun _ _ => q_lawV_of2 q_first_cod) (fun t ht p hp N => q_first_eq p hp N)
theorem q_first_Rtp {B : q_M} : q_Rtp (q_lk q_T0 B) := ⟨q_first_tape, rfl, q_first_mwd⟩
