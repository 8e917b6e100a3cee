/-! A WORLD with a room, a weight, vain or a place set -/
theorem cW_up3 {M : q_M} {w p : Nat} {v : Int} (hp : p < (M (w + 1) 5).toNat) : cW (q_upd M (w + 25) p v) w = q_upd (cW M w) 3 p v := by
  funext f i
  by_cases hf : f = 3 ∧ i = p
  · obtain ⟨rfl, rfl⟩ := hf
    rw [q_upd_s, cW_3 (by rw [q_upd_n (by omega)]; exact hp), q_upd_s]
  · rw [q_upd_n (by omega)]
    unfold cW
    split <;> simp (disch := omega) only [q_upd_n]
theorem cW_up6 {M : q_M} {w p : Nat} {v : Int} (hp : p < 5) : cW (q_upd M (w + 2) p v) w = q_upd (cW M w) 6 p v := by
  funext f i
  by_cases hf : f = 6 ∧ i = p
  · obtain ⟨rfl, rfl⟩ := hf
    rw [q_upd_s, cW_6 hp, q_upd_s]
  · rw [q_upd_n (by omega)]
    unfold cW
    split <;> simp (disch := omega) only [q_upd_n]
theorem cW_up7 {M : q_M} {w p : Nat} {v : Int} (hp : p < 5) : cW (q_upd M (w + 20) p v) w = q_upd (cW M w) 7 p v := by
  funext f i
  by_cases hf : f = 7 ∧ i = p
  · obtain ⟨rfl, rfl⟩ := hf
    rw [q_upd_s, cW_7 hp, q_upd_s]
  · rw [q_upd_n (by omega)]
    unfold cW
    split <;> simp (disch := omega) only [q_upd_n]
theorem cW_up5 {M : q_M} {w p : Nat} {v : Int} (hp : p < 5) : cW (q_upd M (w + 19) p v) w = q_upd (cW M w) 5 p v := by
  funext f i
  by_cases hf : f = 5 ∧ i = p
  · obtain ⟨rfl, rfl⟩ := hf
    rw [q_upd_s, cW_5 hp, q_upd_s]
  · rw [q_upd_n (by omega)]
    unfold cW
    split <;> simp (disch := omega) only [q_upd_n]
theorem q_wl_up2 {V : Nat → (Nat → Int) → Int} {w ta a i : Nat} {v : Int} {M : q_M} (hw : q_wl V M w ta) (h : (a = w + 25 ∧ 0 ≤ v ∧ v ≤ 99) ∨ (a = w + 2 ∧ 0 ≤ v ∧ v ≤ 6) ∨ (a = w + 20 ∧ i < 5 ∧ 0 ≤ v ∧ v ≤ 99) ∨ (a = w + 19 ∧ 0 ≤ v ∧ v ≤ 99)) : q_wl V (q_upd M a i v) w ta := by
  obtain ⟨⟨r0, r1, r2, r3, r4, r5, r6, r7, r8, r9, ra, rb, rc⟩, h2, h3, h4, h5, h6⟩ := hw
  refine ⟨⟨?_, ?_, q_upd_b r2 (by omega), q_upd_b r3 (by omega), q_upd_b r4 (by omega), q_upd_b r5 (by omega), q_upd_b r6 (by omega), q_upd_b r7 (by omega), q_upd_b r8 (by omega), q_upd_b r9 (by omega), q_upd_b ra (by omega), ?_, ?_⟩, h2, fun M' hM => h3 M' (fun x j hx => (hM x j hx).trans (q_upd_n (by omega))), (q_upd_n (by omega)).trans h4, h5, h6⟩
  · rw [q_upd_n (by omega)]
    exact r0
  · rw [q_upd_n (by omega)]
    exact r1
  · rw [q_upd_n (by omega)]
    exact rb
  · rw [q_upd_n (by omega)]
    exact rc
