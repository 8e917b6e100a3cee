/-! THE CLASS'S ENTRIES: what they ask of the memory, what a question leaves -/
def q_tas (ta : Nat) : Prop := ta = 8 ∨ (125 ≤ ta ∧ ta ≤ 141 ∧ ta % 4 = 1)
/-- what questions change: the thought, the names' cells, the texts' stacks, the tables of now -/
def q_tq (M M2 : q_M) : Prop := ∀ a i, (a < 37 ∨ 65 ≤ a ∨ (5 ≤ i ∧ 40 ≤ a ∧ a < 64)) → a ≠ 10 → (a < 127 ∨ 143 < a ∨ a % 4 ≠ 3) → (i < 5 → a < 16 ∨ (20 < a ∧ a < 23) ∨ 27 < a) → M2 a i = M a i
theorem q_tq_rf {M : q_M} : q_tq M M := fun _ _ _ _ _ _ => rfl
theorem q_tq_tr {M M2 M3 : q_M} (h : q_tq M M2) (h2 : q_tq M2 M3) : q_tq M M3 := fun a i h3 h4 h5 h6 => (h2 a i h3 h4 h5 h6).trans (h a i h3 h4 h5 h6)
theorem q_tq_th {ta : Nat} {M M2 : q_M} (ht : q_tas ta) (h : q_th ta M M2) : q_tq M M2 := fun a i h1 h2 h3 _ => h a i (by omega) (by unfold q_tas at ht; omega)
theorem q_tq_tel {ta : Nat} {M M2 : q_M} (ht : q_tas ta) (h : q_tel 11 ta M M2) : q_tq M M2 := fun a i h1 h2 h3 h4 => h a i (by omega) (by unfold q_tas at ht; omega) (fun h5 => by have := h4 h5; omega)
theorem q_tq_fwd {ta : Nat} {M M2 : q_M} (ht : q_tas ta) (h : q_fwd 11 ta M M2) : q_tq M M2 := fun a i h1 h2 h3 h4 => h a i (by omega) (by unfold q_tas at ht; omega)
/-- the columns of what may be none are blank -/
def q_z5 (M : q_M) (w : Nat) : Prop := (∀ p, p < 5 → M (w + 1 + 3 + (1 + p)) 5 = 0) ∧ (∀ p, p < 5 → M (w + 1 + 10 + (1 + p)) 5 = 0)
def q_shB (M : q_M) : Prop := ∀ s, s < 4 → 0 ≤ M (6 + (86 + 2 * s)) 2 ∧ M (6 + (86 + 2 * s)) 2 ≤ 40
def q_ci (V : Nat → (Nat → Int) → Int) (M : q_M) (ta : Nat) : Prop := q_tas ta ∧ q_wl V M 11 ta ∧ q_rg5 M 38 ∧ q_z5 M 11 ∧ q_z5 M 38 ∧ M 11 9 ≤ 999 ∧ q_shB M
theorem q_z5_eq {M M2 : q_M} {w : Nat} (h : ∀ a, w + 5 ≤ a → a ≤ w + 16 → M2 a 5 = M a 5) (hz : q_z5 M w) : q_z5 M2 w := ⟨fun p hp => (h _ (by omega) (by omega)).trans (hz.1 p hp), fun p hp => (h _ (by omega) (by omega)).trans (hz.2 p hp)⟩
theorem q_ci_tq {V : Nat → (Nat → Int) → Int} {ta : Nat} {M M2 : q_M} (h : q_tq M M2) (C : q_ci V M ta) : q_ci V M2 ta := by
  obtain ⟨h1, h2, h3, h4, h5, h6, h7⟩ := C
  have ht := h1
  unfold q_tas at ht
  refine ⟨h1, ?_, q_rg5_eq (fun a i q1 q2 q3 => h a i (by omega) (by omega) (by omega) (by omega)) h3, q_z5_eq (fun a q1 q2 => h a 5 (by omega) (by omega) (by omega) (by omega)) h4, q_z5_eq (fun a q1 q2 => h a 5 (by omega) (by omega) (by omega) (by omega)) h5, ?_, ?_⟩
  · obtain ⟨w1, w2, w3, w4, w5, w6⟩ := h2
    have e : ∀ a i, ((11 ≤ a ∧ a ≤ 14) ∨ (30 ≤ a ∧ a ≤ 36)) → M2 a i = M a i := fun a i q1 => h a i (by omega) (by omega) (by omega) (by omega)
    refine ⟨?_, w2, fun M' hM => w3 M' (fun a i ha => (hM a i ha).trans (h a i (by omega) (by omega) (by omega) (by omega))), (e 11 10 (by omega)).trans w4, w5, w6⟩
    unfold q_rgW at w1 ⊢
    simp only [fun i => e 11 i (by omega), fun i => e (11 + 1) i (by omega), fun i => e (11 + 2) i (by omega), fun i => e (11 + 3) i (by omega), fun i => e (11 + 19) i (by omega), fun i => e (11 + 20) i (by omega), fun i => e (11 + 21) i (by omega), fun i => e (11 + 22) i (by omega), fun i => e (11 + 23) i (by omega), fun i => e (11 + 24) i (by omega), fun i => e (11 + 25) i (by omega)]
    exact w1
  · rw [h 11 9 (by omega) (by omega) (by omega) (by omega)]
    exact h6
  · intro s hs
    rw [h _ 2 (by omega) (by omega) (by omega) (by omega)]
    exact h7 s hs
theorem q_ci_cW {M M2 : q_M} (h : q_tq M M2) : cW M2 11 = cW M 11 := cW_same (fun a i ha => h a i (by omega) (by omega) (by omega) (by omega))
/-- a thought as now, at the text ta -/
def q_tk (V : Nat → (Nat → Int) → Int) (M M2 : q_M) (ta : Nat) : Prop := q_wl V M2 38 ta ∧ cW M2 38 = cW M 11 ∧ q_z5 M2 38 ∧ M2 38 9 = M 11 9 ∧ M2 (38 + 1) 5 = M 12 5 ∧ q_tq M M2
theorem q_tq_cpd {M M2 : q_M} (h : q_cpd 38 11 M M2) : q_tq M M2 := fun a i h1 _ _ _ => h.2.2.2.2 a i (by omega)
theorem q_tk_of {V : Nat → (Nat → Int) → Int} {ta : Nat} {M M1 M2 : q_M} (C : q_ci V M ta) (hf : q_tq M M1) (h : q_cpd 38 11 M1 M2) : q_tk V M M2 ta := by
  have C1 := q_ci_tq hf C
  have ht : ta = 8 ∨ 125 ≤ ta := by have := C.1; unfold q_tas at this; omega
  obtain ⟨a1, a2, a3⟩ := q_think ht C1.2.1 C1.2.2.1 h
  exact ⟨a1, a2.trans (q_ci_cW hf), q_z5_eq (fun a q1 q2 => h.2.2.2.2 a 5 (by omega)) C1.2.2.2.2.1, a3.trans (hf 11 9 (by omega) (by omega) (by omega) (by omega)), h.2.1.trans (hf 12 5 (by omega) (by omega) (by omega) (by omega)), q_tq_tr hf (q_tq_cpd h)⟩
/-- the copy of now to the thought, within a question -/
theorem sp_think {V : Nat → (Nat → Int) → Int} {d dd : Nat} {g : q_G} {M M1 : q_M} {ta : Nat} (C : q_ci V M ta) (hf : q_tq M M1) {P : q_P} {nx : Nat} {ops : List Instr} {ls st : List q_V} {Q : Option q_V → q_G → q_M → Prop} (h : ∀ M2 : q_M, q_tk V M M2 ta → q_T 1 dd P nx ops ls st g M2 Q) : q_S 1 (d + 1) 49 [qR 4 38, qR 4 11] g M1 (q_K 1 dd P nx ops ls st Q) := sp_copyFrom (by omega) (q_ci_tq hf C).2.1.2.2.2.1 C.2.1.2.2.2.2.1 (fun M2 h2 => h M2 (q_tk_of C hf h2))
theorem q_ci_n {V : Nat → (Nat → Int) → Int} {ta : Nat} {M : q_M} (C : q_ci V M ta) : 0 ≤ M 12 5 ∧ M 12 5 ≤ 5 := C.2.1.1.1
theorem q_ci_y {V : Nat → (Nat → Int) → Int} {ta : Nat} {M : q_M} (C : q_ci V M ta) : 0 ≤ M 11 9 ∧ M 11 9 ≤ 999 := ⟨C.2.1.1.2.1.1, C.2.2.2.2.2.1⟩
theorem q_ci_t {V : Nat → (Nat → Int) → Int} {ta : Nat} {M : q_M} (C : q_ci V M ta) : ta = 8 ∨ 125 ≤ ta := by have := C.1; unfold q_tas at this; omega
/-- a thought's stone of another kind, or with another more -/
theorem cW_up0 {M : q_M} {w p : Nat} {v : Int} (hp : p < (M (w + 1) 5).toNat) : cW (q_upd M (w + 22) p v) w = q_upd (cW M w) 0 p v := by
  funext f i
  by_cases hf : f = 0 ∧ i = p
  · obtain ⟨rfl, rfl⟩ := hf
    rw [q_upd_s, cW_0 (by rw [q_upd_n (by omega)]; exact hp), q_upd_s]
  · rw [q_upd_n (by omega)]
    unfold cW
    split <;> simp (disch := omega) only [q_upd_n]
theorem cW_up1 {M : q_M} {w p : Nat} {v : Int} (hp : p < (M (w + 1) 5).toNat) : cW (q_upd M (w + 23) p v) w = q_upd (cW M w) 1 p v := by
  funext f i
  by_cases hf : f = 1 ∧ i = p
  · obtain ⟨rfl, rfl⟩ := hf
    rw [q_upd_s, cW_1 (by rw [q_upd_n (by omega)]; exact hp), q_upd_s]
  · rw [q_upd_n (by omega)]
    unfold cW
    split <;> simp (disch := omega) only [q_upd_n]
theorem q_wl_up3 {V : Nat → (Nat → Int) → Int} {w ta a i : Nat} {v : Int} {M : q_M} (hw : q_wl V M w ta) (h : (a = w + 22 ∧ 0 ≤ v ∧ v ≤ 5) ∨ (a = w + 23 ∧ 0 ≤ v ∧ v ≤ 9)) : q_wl V (q_upd M a i v) w ta := by
  obtain ⟨⟨r0, r1, r2, r3, r4, r5, r6, r7, r8, r9, ra, rb, rc⟩, h2, h3, h4, h5, h6⟩ := hw
  refine ⟨⟨?_, ?_, q_upd_b r2 (by omega), q_upd_b r3 (by omega), q_upd_b r4 (by omega), q_upd_b r5 (by omega), q_upd_b r6 (by omega), q_upd_b r7 (by omega), q_upd_b r8 (by omega), q_upd_b r9 (by omega), q_upd_b ra (by omega), ?_, ?_⟩, h2, fun M' hM => h3 M' (fun x j hx => (hM x j hx).trans (q_upd_n (by omega))), (q_upd_n (by omega)).trans h4, h5, h6⟩
  · rw [q_upd_n (by omega)]
    exact r0
  · rw [q_upd_n (by omega)]
    exact r1
  · rw [q_upd_n (by omega)]
    exact rb
  · rw [q_upd_n (by omega)]
    exact rc
/-- a thought changed at one cell of its stones -/
theorem q_tq_up {a i : Nat} {v : Int} {M M2 : q_M} (h : q_tq M M2) (ha : 38 ≤ a) (ha2 : a < 65) (hi : i < 5 ∨ a < 40 ∨ a = 64) : q_tq M (q_upd M2 a i v) := by
  intro x j h1 h2 h3 h4
  rw [q_upd_n (by omega)]
  exact h x j h1 h2 h3 h4
