/-! THE CLASS: text keeps what stays -/
theorem q_zM_f {M : q_M} {z : q_Z} {s : Nat → Int} {a i : Nat} (h1 : a ≠ 1 ∨ i < 3) (h3 : a ≠ 3) (h4 : a ≠ 4) : q_zM M z s a i = M a i := by
  unfold q_zM
  by_cases e : a = 1
  · subst e
    rw [if_pos rfl, if_neg (by omega), if_neg (by omega), if_neg (by omega), if_neg (by omega), if_neg (by omega), if_neg (by omega)]
  · rw [if_neg e, if_neg h3, if_neg h4]
theorem q_ta_s {j : Nat} : q_ta (j + 1) = 125 + 4 * j := by
  unfold q_ta
  rw [if_neg (by omega)]
  omega
/-- what reading a text leaves as it is -/
def q_cfx (M M2 : q_M) : Prop := ∀ a i, ((100 ≤ a ∧ a < 124) ∨ 1000 ≤ a ∨ (11 ≤ a ∧ a < 100) ∨ (a = 0 ∧ i = 6) ∨ a = 2) → M2 a i = M a i
def q_Tadd (Vt : Nat → Nat → (Nat → Int) → Int) (tm : Nat) (V : Nat → (Nat → Int) → Int) : Nat → Nat → (Nat → Int) → Int := fun t => if t = tm then V else Vt t
set_option maxHeartbeats 4000000 in
theorem q_XI_text {Vt : Nat → Nat → (Nat → Int) → Int} {tm l sl n j : Nat} {M M2 : q_M} {z : q_Z} {s : Nat → Int} (C : q_XI Vt tm l sl M) (htm : tm < 6) (hj : tm = j + 1) (hz : q_zI n z) (hs : ∀ p, p < 3 → 0 ≤ s p ∧ s p ≤ 160) (h : q_mdM (q_zM M z s) M2 j tm z.1 z.2.2.2.2.2.2 s) : ∃ (K S : Nat → Int) (len : Nat), q_XI (q_Tadd Vt tm (q_Vt K S len)) (tm + 1) l (sl + z.1.toNat + 47) (q_upd (q_upd (q_upd M2 5 tm (q_ta tm : Nat)) 0 2 (tm + 1)) 1 1 0) ∧ q_cfx M (q_upd (q_upd (q_upd M2 5 tm (q_ta tm : Nat)) 0 2 (tm + 1)) 1 1 0) ∧ q_cod K len ∧ (∀ i, i < len → K i = z.2.2.2.2.2.2 i) ∧ (∀ p, S p = s p) ∧ (len : Int) = z.1 := by
  obtain ⟨m1, m2, m3, m4, m5, m6, m7, m8⟩ := h
  obtain ⟨T, hl, c, k1, k2, k3, k4⟩ := C
  obtain ⟨T1, T2, T3, T4⟩ := T
  have z1 := hz.1
  have eq5 : q_ta tm = 125 + 4 * j := by rw [hj]; exact q_ta_s
  have zc := hz.2.2.2.2.1
  have eta : q_ta tm = 121 + 4 * tm := by unfold q_ta; rw [if_neg (by omega)]
  have ej : 124 + 4 * j + 1 = q_ta tm := by omega
  generalize hM3 : q_upd (q_upd (q_upd M2 5 tm (q_ta tm : Nat)) 0 2 (tm + 1)) 1 1 0 = M3
  have f3 : ∀ a i, a ≠ 0 → a ≠ 1 → a ≠ 5 → M3 a i = M2 a i := fun a i h1 h2 h3 => by rw [← hM3, q_upd_n (by omega), q_upd_n (by omega), q_upd_n (by omega)]
  have fr : ∀ a i, (5 < a ∧ a < 120 + 4 * tm) ∨ 123 + 4 * tm < a → M3 a i = M a i := fun a i ha => by
    rw [f3 a i (by omega) (by omega) (by omega), m1 a i (by omega), q_zM_f (by omega) (by omega) (by omega)]
  have f5 : ∀ t, M3 5 t = if t = tm then (q_ta tm : Int) else M 5 t := fun t => by
    rw [← hM3, q_upd_n (by omega), q_upd_n (by omega)]
    by_cases e : t = tm
    · rw [if_pos e, e, q_upd_s]
    · rw [if_neg e, q_upd_n (by omega), m1 5 t (by omega), q_zM_f (by omega) (by omega) (by omega)]
  have f06 : M3 0 6 = M 0 6 := by rw [← hM3, q_upd_n (by omega), q_upd_n (by omega), q_upd_n (by omega), m1 0 6 (by omega), q_zM_f (by omega) (by omega) (by omega)]
  have hcod : q_cod (M3 (124 + 4 * j)) z.1.toNat := by
    intro i hi
    rw [f3 _ i (by omega) (by omega) (by omega), m2 i (by omega) (by omega)]
    exact zc i hi
  have hlen : M3 (124 + 4 * j) 1000 = (z.1.toNat : Nat) := by
    rw [f3 _ _ (by omega) (by omega) (by omega), m3]
    omega
  have g0 : ∀ i, M3 (125 + 4 * j) i = M2 (125 + 4 * j) i := fun i => f3 _ _ (by omega) (by omega) (by omega)
  have es : ∀ i, M3 (q_ta tm + 1) i = s i := fun i => by
    rw [show q_ta tm + 1 = 126 + 4 * j by omega, f3 _ _ (by omega) (by omega) (by omega)]
    exact m8 i
  have hlaw : q_lawC (q_Vt (M3 (124 + 4 * j)) (M3 (q_ta tm + 1)) z.1.toNat) (q_ta tm) M3 := by
    refine q_lawC_of2 (by omega) ?_ ?_ ?_ hlen (by omega) hcod (fun p hp => by rw [es p]; have := hs p hp; omega)
    · rw [eq5, g0]; exact m5
    · rw [eq5, g0, m6]; omega
    · rw [eq5, g0, m7]; omega
  refine ⟨M3 (124 + 4 * j), M3 (q_ta tm + 1), z.1.toNat, ⟨⟨by omega, by omega, by rw [← hM3, q_upd_n (by omega), q_upd_s]; omega, fun t ht => ?_⟩, by omega, ?_, ⟨q_rgW_c (fun a i h1 h2 => fr a i (by omega)) k1.1, by rw [fr 65 9 (by omega)]; exact k1.2⟩, fun q => ?_, ?_, by omega⟩, fun a i ha => ?_, hcod, fun i hi => ?_, es, by omega⟩
  · by_cases e : t = tm
    · subst e
      rw [f5, if_pos rfl, show q_Tadd Vt t (q_Vt (M3 (124 + 4 * j)) (M3 (q_ta t + 1)) z.1.toNat) t = q_Vt (M3 (124 + 4 * j)) (M3 (q_ta t + 1)) z.1.toNat from if_pos rfl]
      exact ⟨rfl, by rw [eq5, g0]; exact m4, q_lawV_of2 hcod, hlaw⟩
    · have hx := T4 t (by omega)
      have hb := q_ta_b (t := t) (by omega)
      have hb2 : q_ta t < 120 + 4 * tm - 1 := by unfold q_ta; split <;> omega
      rw [f5, if_neg e, show q_Tadd Vt tm (q_Vt (M3 (124 + 4 * j)) (M3 (q_ta tm + 1)) z.1.toNat) t = Vt t from if_neg e]
      exact ⟨hx.1, by rw [fr _ _ (by omega)]; exact hx.2.1, hx.2.2.1, q_lawC_c (fun a i ha => fr a i (by omega)) hx.2.2.2⟩
  · obtain ⟨c1, c2, c3, c4, c5, c6, c7⟩ := c
    have hb := q_ta_b (t := l) (by omega)
    have hb2 : q_ta l < 120 + 4 * tm - 1 := by unfold q_ta; split <;> omega
    rw [show q_Tadd Vt tm (q_Vt (M3 (124 + 4 * j)) (M3 (q_ta tm + 1)) z.1.toNat) l = Vt l from if_neg (by omega)]
    exact ⟨c1, q_wl_eq (fun a i ha => fr a i (by omega)) c2, q_rg5_eq (fun a i _ h1 h2 => fr a i (by omega)) c3, q_z5_eq (fun a h1 h2 => fr a 5 (by omega)) c4, q_z5_eq (fun a h1 h2 => fr a 5 (by omega)) c5, by rw [fr 11 9 (by omega)]; exact c6, fun s2 hs2 => by rw [fr _ _ (by omega)]; exact c7 s2 hs2⟩
  · rw [f06] at q
    obtain ⟨kl, h1, h2⟩ := k2 q
    exact ⟨kl, by omega, by rw [fr 65 10 (by omega)]; exact h2⟩
  · rw [← hM3, q_upd_s]
    omega
  · by_cases e : a = 0
    · have e2 : i = 6 := by omega
      subst e
      subst e2
      exact f06
    · by_cases e2 : a = 2
      · subst e2
        rw [← hM3, q_upd_n (by omega), q_upd_n (by omega), q_upd_n (by omega), m1 2 i (by omega), q_zM_f (by omega) (by omega) (by omega)]
      · exact fr a i (by omega)
  · rw [f3 _ i (by omega) (by omega) (by omega)]
    exact m2 i (by omega) (by omega)
theorem R_st_b {T : Nat → Int} {n : Nat} {z : q_Z} {s : Nat → Int} (h : q_zI n z) : ∀ p, p < 3 → 0 ≤ R_st T n z s p ∧ R_st T n z s p ≤ 160 := by
  intro p hp
  have h1 := (R_ex_I (T := T) (w := -5) h).1
  have i2 : q_zI n (R_z2 T n z) := R_pt_I h
  have h2 := (R_ex_I (T := T) (w := -6) i2).1
  have i3 : q_zI n (R_z3 T n z) := R_pt_I i2
  have h3 := (R_ex_I (T := T) (w := -7) i3).1
  unfold R_st
  rcases (show p = 0 ∨ p = 1 ∨ p = 2 by omega) with e | e | e
  · subst e
    rw [F_u_n (by omega), F_u_n (by omega), F_u_s]
    exact h1
  · subst e
    rw [F_u_n (by omega), F_u_s]
    exact h2
  · subst e
    rw [F_u_s]
    exact h3
