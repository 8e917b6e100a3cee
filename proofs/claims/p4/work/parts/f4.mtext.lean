/-! THE MODEL'S READER: a text -/
def q_tfr (tm : Nat) (M M2 : q_M) : Prop := ∀ a i, (a = 106 → i < 200 * tm ∨ 200 * tm + 200 ≤ i) → (a = 107 → i < 4 * tm ∨ 4 * tm + 4 ≤ i) → (a = 100 → i ≠ 7 ∧ i ≠ 19 ∧ i ≠ 20 ∧ i ≠ 21 ∧ i ≠ 22 ∧ i ≠ 25 ∧ i ≠ 26 ∧ i ≠ 27) → a ≠ 115 → M2 a i = M a i
theorem q_tfr_rf {tm : Nat} {M : q_M} : q_tfr tm M M := fun _ _ _ _ _ _ => rfl
theorem q_tfr_tr {tm : Nat} {M M2 M3 : q_M} (h : q_tfr tm M M2) (h2 : q_tfr tm M2 M3) : q_tfr tm M M3 := fun a i q1 q2 q3 q4 => (h2 a i q1 q2 q3 q4).trans (h a i q1 q2 q3 q4)
theorem q_tfr_e {tm s : Nat} {M M2 : q_M} (h : q_efr tm s M M2) : q_tfr tm M M2 := fun a i q1 q2 q3 q4 => h a i (fun z => by have := q1 z; omega) (fun z => by have := q3 z; omega) q4
theorem q_tfr_n {tm : Nat} {M M2 : q_M} (h : q_nxf M M2) : q_tfr tm M M2 := fun a i q1 q2 q3 q4 => h a i (fun z => by have := q3 z; omega)
theorem q_tfr_up {tm a i : Nat} {v : Int} {M M2 : q_M} (h : q_tfr tm M M2) (hi : (a = 107 ∧ 4 * tm ≤ i ∧ i < 4 * tm + 4) ∨ (a = 100 ∧ (i = 7 ∨ i = 19 ∨ i = 27))) : q_tfr tm M (q_upd M2 a i v) := fun b j q1 q2 q3 q4 => (q_upd_n (by
  by_cases e : b = a
  · exact Or.inr (fun e2 => by subst e; subst e2; omega)
  · exact Or.inl e)).trans (h b j q1 q2 q3 q4)
theorem q_lawT_same {V : Nat → (Nat → Int) → Int} {r : Nat} {M M2 : q_M} (h : ∀ a i, ((a = 106 ∧ 200 * r ≤ i ∧ i < 200 * r + 200) ∨ (a = 107 ∧ 4 * r ≤ i ∧ i < 4 * r + 4)) → M2 a i = M a i) (hT : q_lawT V r M) : q_lawT V r M2 := fun M' h1 h2 => hT M' (fun a i ha => (h1 a i ha).trans (h a i ha)) h2
theorem q_MI_tfr {Vt : Nat → Nat → (Nat → Int) → Int} {tm : Nat} {M M2 : q_M} (hI : q_MI Vt tm M) (h : q_tfr tm M M2) (h7 : 0 ≤ M2 100 7 ∧ M2 100 7 ≤ 160) : q_MI Vt tm M2 := by
  obtain ⟨g1, g2, g3, g4, ⟨t1, t2, t3, t4⟩, g6, g7, g8, g9⟩ := hI
  exact ⟨q_mb_same (fun a i ha => h a i (by omega) (by omega) (by omega) (by omega)) g1, by rw [h 100 5 (by omega) (by omega) (by omega) (by omega)]; exact g2, fun b hb => by rw [h 103 _ (by omega) (by omega) (by omega) (by omega)]; exact g3 b hb, fun s hs => by rw [h 111 _ (by omega) (by omega) (by omega) (by omega)]; exact g4 s hs, ⟨t1, t2, (h 100 10 (by omega) (by omega) (by omega) (by omega)).trans t3, fun t ht => ⟨(t4 t ht).1, q_lawT_same (fun a i ha => h a i (by omega) (by omega) (by omega) (by omega)) (t4 t ht).2⟩⟩, by rw [h 100 11 (by omega) (by omega) (by omega) (by omega)]; exact g6, h7, q_img_same (fun a i ha => h a i (by omega) (by omega) (by omega) (by omega)) g8, by rw [h 100 12 (by omega) (by omega) (by omega) (by omega)]; exact g9⟩
def q_Vadd (Vt : Nat → Nat → (Nat → Int) → Int) (tm : Nat) (V : Nat → (Nat → Int) → Int) : Nat → Nat → (Nat → Int) → Int := fun t => if t = tm then V else Vt t
theorem q_MI_add {Vt : Nat → Nat → (Nat → Int) → Int} {tm : Nat} {M : q_M} (hI : q_MI Vt tm M) (ht : tm < 6) (hw : q_wfT (fun i => M 106 (200 * tm + i)) (fun i => M 107 (4 * tm + i))) : q_MI (q_Vadd Vt tm (q_V1 (fun i => M 106 (200 * tm + i)) (fun i => M 107 (4 * tm + i)))) (tm + 1) (q_upd M 100 10 ((tm : Int) + 1)) := by
  obtain ⟨g1, g2, g3, g4, ⟨t1, t2, t3, t4⟩, g6, g7, g8, g9⟩ := hI
  obtain ⟨i1, i2, i3, i4, i5, i6, i7, i8, i9, i10⟩ := g8
  refine ⟨q_mb_same (fun a i ha => q_upd_n (by omega)) g1, by rw [q_upd_n (by omega)]; exact g2, fun b hb => by rw [q_upd_n (by omega)]; exact g3 b hb, fun s hs => by rw [q_upd_n (by omega)]; exact g4 s hs, ⟨by omega, by omega, by rw [q_upd_s]; omega, fun t h => ?_⟩, by rw [q_upd_n (by omega)]; omega, by rw [q_upd_n (by omega)]; exact g7, q_img_same (M := M) (fun a i ha => q_upd_n (by omega)) ⟨i1, i2, i3, i4, i5, i6, i7, i8, i9, by omega⟩, by rw [q_upd_n (by omega)]; exact g9⟩
  by_cases e : t = tm
  · subst e
    rw [show q_Vadd Vt t (q_V1 (fun i => M 106 (200 * t + i)) (fun i => M 107 (4 * t + i))) t = q_V1 (fun i => M 106 (200 * t + i)) (fun i => M 107 (4 * t + i)) from if_pos rfl]
    exact ⟨q_lawV_1, q_lawT_same (fun a i ha => q_upd_n (by omega)) (q_lawT_of ht hw)⟩
  · rw [show q_Vadd Vt tm (q_V1 (fun i => M 106 (200 * tm + i)) (fun i => M 107 (4 * tm + i))) t = Vt t from if_neg e]
    have hx := t4 t (by omega)
    exact ⟨hx.1, q_lawT_same (fun a i ha => q_upd_n (by omega)) hx.2⟩
theorem q_wfP_c {C C' : Nat → Int} {s o : Nat} {D : Nat → Nat} (hw : q_wfP C s o D) (hc : ∀ i, i < o → C' i = C i) : q_wfP C' s o D := ⟨hw.1, fun i h1 h2 => by rw [hc i h2]; exact hw.2 i h1 h2⟩
