/-! THE FIRST STATE KEEPS BOTH SIDES' BOUNDS -/
def q_rbk (r : q_Row) (lo hi : Int) : Bool := r.1.all (fun x => decide (lo ≤ x ∧ x ≤ hi)) && decide (lo ≤ r.2.1 ∧ r.2.1 ≤ hi) && decide (lo ≤ r.2.2 ∧ r.2.2 ≤ hi)
def q_tbk (a : Nat) (lo hi : Int) : Bool := match q_T0[a]? with
  | some r => q_rbk r lo hi
  | none => false
theorem q_tb {a : Nat} {lo hi : Int} {B : q_M} (h : q_tbk a lo hi = true) (i : Nat) : lo ≤ q_lk q_T0 B a i ∧ q_lk q_T0 B a i ≤ hi := by
  unfold q_tbk at h
  unfold q_lk
  cases e : q_T0[a]? with
  | none => rw [e] at h; cases h
  | some r =>
    rw [e] at h
    simp only [q_rbk, Bool.and_eq_true, List.all_eq_true, decide_eq_true_eq] at h
    obtain ⟨⟨h1, h2⟩, h3⟩ := h
    show lo ≤ q_rg r i ∧ q_rg r i ≤ hi
    unfold q_rg
    split
    · exact h3
    · rw [List.getD_eq_getElem?_getD]
      cases e2 : r.1[i]? with
      | none => exact h2
      | some x => exact h1 x (List.mem_of_getElem? e2)
def q_rowsOk (w : Nat) : Bool := q_tbk (w + 22) 0 5 && q_tbk (w + 23) 0 9 && q_tbk (w + 24) 0 99 && q_tbk (w + 25) 0 99 && q_tbk (w + 3) 0 5 && q_tbk (w + 19) 0 99 && q_tbk (w + 2) 0 6 && q_tbk (w + 20) 0 99 && q_tbk (w + 21) 0 99
theorem q_rgW_0 {w : Nat} {B : q_M} (h : q_rowsOk w = true) (h5 : q_lk q_T0 B (w + 1) 5 = 0) (h9 : q_lk q_T0 B w 9 = 0) (h1 : q_lk q_T0 B (w + 20) 5 = 0) (h2 : q_lk q_T0 B (w + 21) 5 = 0) : q_rgW (q_lk q_T0 B) w := by
  simp only [q_rowsOk, Bool.and_eq_true] at h
  obtain ⟨⟨⟨⟨⟨⟨⟨⟨a1, a2⟩, a3⟩, a4⟩, a5⟩, a6⟩, a7⟩, a8⟩, a9⟩ := h
  exact ⟨by omega, by omega, q_tb a1, q_tb a2, q_tb a3, q_tb a4, q_tb a5, q_tb a6, q_tb a7, q_tb a8, q_tb a9, h1, h2⟩
theorem q_ok_11 : q_rowsOk 11 = true := by decide +kernel
theorem q_ok_38 : q_rowsOk 38 = true := by decide +kernel
theorem q_ok_65 : q_rowsOk 65 = true := by decide +kernel
section FS
variable {B : q_M}
theorem q_first_law : q_lawC (q_Vt (q_lk q_T0 B 7) (q_lk q_T0 B 9) 8) 8 (q_lk q_T0 B) := by
  refine q_lawC_of2 (ca := 7) (len := 8) rfl rfl rfl rfl rfl (by omega) (fun i hi => ?_) (fun p hp => ?_)
  · match i, hi with
    | 0, _ => rw [m_7_0]; decide
    | 1, _ => rw [m_7_1]; decide
    | 2, _ => rw [m_7_2]; decide
    | 3, _ => rw [m_7_3]; decide
    | 4, _ => rw [m_7_4]; decide
    | 5, _ => rw [m_7_5]; decide
    | 6, _ => rw [m_7_6]; decide
    | 7, _ => rw [m_7_7]; decide
    | n + 8, h => omega
  · match p, hp with
    | 0, _ => show 0 ≤ q_lk q_T0 B 9 0 ∧ q_lk q_T0 B 9 0 ≤ 100000; rw [m_9_0]; decide
    | 1, _ => show 0 ≤ q_lk q_T0 B 9 1 ∧ q_lk q_T0 B 9 1 ≤ 100000; rw [m_9_1]; decide
    | 2, _ => show 0 ≤ q_lk q_T0 B 9 2 ∧ q_lk q_T0 B 9 2 ≤ 100000; rw [m_9_2]; decide
    | n + 3, h => omega
theorem q_first_cod : q_cod (q_lk q_T0 B 7) 8 := by
  intro i hi
  match i, hi with
  | 0, _ => rw [m_7_0]; decide
  | 1, _ => rw [m_7_1]; decide
  | 2, _ => rw [m_7_2]; decide
  | 3, _ => rw [m_7_3]; decide
  | 4, _ => rw [m_7_4]; decide
  | 5, _ => rw [m_7_5]; decide
  | 6, _ => rw [m_7_6]; decide
  | 7, _ => rw [m_7_7]; decide
  | n + 8, h => omega
theorem q_first_z5 : q_z5 (q_lk q_T0 B) 11 ∧ q_z5 (q_lk q_T0 B) 38 := by
  refine ⟨⟨fun p hp => ?_, fun p hp => ?_⟩, ⟨fun p hp => ?_, fun p hp => ?_⟩⟩
  all_goals
    match p, hp with
    | 0, _ => rfl
    | 1, _ => rfl
    | 2, _ => rfl
    | 3, _ => rfl
    | 4, _ => rfl
    | n + 5, h => omega
theorem q_first_XI : q_XI (fun _ => q_Vt (q_lk q_T0 B 7) (q_lk q_T0 B 9) 8) 1 0 3394 (q_lk q_T0 B) := by
  have hV := q_lawV_of2 (s := q_lk q_T0 B 9) (q_first_cod (B := B))
  have r11 := q_rgW_0 (B := B) q_ok_11 rfl rfl rfl rfl
  have r38 := q_rgW_0 (B := B) q_ok_38 rfl rfl rfl rfl
  have r65 := q_rgW_0 (B := B) q_ok_65 rfl rfl rfl rfl
  refine ⟨⟨by omega, by omega, rfl, fun t ht => ?_⟩, by omega, ⟨Or.inl rfl, ⟨r11, hV, q_first_law, rfl, by decide, Or.inr (by decide)⟩, q_rg5_of r38, q_first_z5.1, q_first_z5.2, ?_, fun s hs => ?_⟩, ⟨r65, ?_⟩, fun h => absurd rfl h, ⟨?_, ?_⟩, by omega⟩
  · have e : t = 0 := by omega
    subst e
    exact ⟨rfl, rfl, hV, q_first_law⟩
  · rw [m_11_9]; omega
  · match s, hs with
    | 0, _ => show 0 ≤ q_lk q_T0 B 92 2 ∧ q_lk q_T0 B 92 2 ≤ 40; rw [show q_lk q_T0 B 92 2 = 0 from rfl]; decide
    | 1, _ => show 0 ≤ q_lk q_T0 B 94 2 ∧ q_lk q_T0 B 94 2 ≤ 40; rw [show q_lk q_T0 B 94 2 = 0 from rfl]; decide
    | 2, _ => show 0 ≤ q_lk q_T0 B 96 2 ∧ q_lk q_T0 B 96 2 ≤ 40; rw [show q_lk q_T0 B 96 2 = 0 from rfl]; decide
    | 3, _ => show 0 ≤ q_lk q_T0 B 98 2 ∧ q_lk q_T0 B 98 2 ≤ 40; rw [show q_lk q_T0 B 98 2 = 0 from rfl]; decide
    | n + 4, h => omega
  · rw [m_65_9]; omega
  · rw [m_1_1]; omega
  · rw [m_1_1]; omega
theorem q_first_wf : q_wfT (fun i => q_lk q_T0 B 106 (200 * 0 + i)) (fun i => q_lk q_T0 B 107 (4 * 0 + i)) := by
  intro p hp
  have c0 : q_lk q_T0 B 106 (200 * 0 + 0) = 100099 := rfl
  have c1 : q_lk q_T0 B 106 (200 * 0 + 1) = 0 := rfl
  have c2 : q_lk q_T0 B 106 (200 * 0 + 2) = 17 := rfl
  have c3 : q_lk q_T0 B 106 (200 * 0 + 3) = 3 := rfl
  have c4 : q_lk q_T0 B 106 (200 * 0 + 4) = 100009 := rfl
  match p, hp with
  | 0, _ =>
    refine ⟨0, 3, fun i => if i = 0 then 0 else if i = 1 then 1 else if i = 2 then 2 else 1, rfl, rfl, by omega, by omega, ⟨rfl, fun i _ hi => ?_⟩, rfl⟩
    match i, hi with
    | 0, _ => exact Or.inl ⟨by show q_pu (q_lk q_T0 B 106 (200 * 0 + 0)); rw [c0]; unfold q_pu; omega, rfl⟩
    | 1, _ => exact Or.inl ⟨by show q_pu (q_lk q_T0 B 106 (200 * 0 + 1)); rw [c1]; unfold q_pu; omega, rfl⟩
    | 2, _ => exact Or.inr (Or.inr ⟨by show q_bi (q_lk q_T0 B 106 (200 * 0 + 2)); rw [c2]; unfold q_bi; omega, by decide, rfl⟩)
    | n + 3, h => omega
  | 1, _ =>
    refine ⟨3, 4, fun i => i - 3, rfl, rfl, by omega, by omega, ⟨rfl, fun i h0 hi => ?_⟩, rfl⟩
    have e : i = 3 := by omega
    subst e
    exact Or.inl ⟨by show q_pu (q_lk q_T0 B 106 (200 * 0 + 3)); rw [c3]; unfold q_pu; omega, rfl⟩
  | 2, _ =>
    refine ⟨4, 5, fun i => i - 4, rfl, rfl, by omega, by omega, ⟨rfl, fun i h0 hi => ?_⟩, rfl⟩
    have e : i = 4 := by omega
    subst e
    exact Or.inl ⟨by show q_pu (q_lk q_T0 B 106 (200 * 0 + 4)); rw [c4]; unfold q_pu; omega, rfl⟩
  | n + 3, h => omega
end FS
theorem q_ok_m1 : (q_tbk 101 0 5 && q_tbk 102 0 9 && q_tbk 103 0 99 && q_tbk 104 0 4 && q_tbk 108 0 4 && q_tbk 109 0 0 && q_tbk 111 0 40) = true := by decide +kernel
theorem q_first_room {B : q_M} : ∀ i, i < 5 → q_lk q_T0 B 103 (4 * i + 1) = 1 := by
  intro i hi
  match i, hi with
  | 0, _ => rfl
  | 1, _ => rfl
  | 2, _ => rfl
  | 3, _ => rfl
  | 4, _ => rfl
  | n + 5, h => omega
theorem q_first_MI {B : q_M} : q_MI (fun _ => q_V1 (fun i => q_lk q_T0 B 106 (200 * 0 + i)) (fun i => q_lk q_T0 B 107 (4 * 0 + i))) 1 (q_lk q_T0 B) := by
  have h := q_ok_m1
  simp only [Bool.and_eq_true] at h
  obtain ⟨⟨⟨⟨⟨⟨h1, h2⟩, h3⟩, h4⟩, h8⟩, h9⟩, h11⟩ := h
  have b1 := q_tb (B := B) h1
  have b2 := q_tb (B := B) h2
  have b3 := q_tb (B := B) h3
  have b4 := q_tb (B := B) h4
  have b8 := q_tb (B := B) h8
  have b9 := q_tb (B := B) h9
  have b11 := q_tb (B := B) h11
  refine ⟨⟨by rw [m_100_0]; omega, by rw [m_100_5]; omega, fun i _ => b1 i, fun i _ => b2 i, fun i _ => ?_, fun i _ => ?_, fun i _ => ?_, fun i _ => b3 _, fun i hi => by rw [q_first_room i hi]; omega, fun i _ => b3 _, fun i _ => b3 _⟩, by rw [m_100_5]; omega, fun i hi => by rw [q_first_room i hi]; omega, fun s _ => b11 s, ⟨by omega, by omega, rfl, fun t ht => ?_⟩, by rw [m_100_11]; omega, by rw [m_100_7]; omega, ⟨fun i _ => ?_, fun i _ => ?_, fun i _ => ?_, fun i _ => ?_, fun i _ => ?_, fun i _ => ?_, fun i _ => ?_, ?_, ?_, ?_⟩, Or.inl rfl⟩
  · have := b4 (3 * i); omega
  · have := b4 (3 * i + 1); omega
  · have := b4 (3 * i + 2); omega
  · have e : t = 0 := by omega
    subst e
    exact ⟨q_lawV_1, q_lawT_of (by omega) q_first_wf⟩
  · have := b8 (3 * i); omega
  · have := b8 (3 * i + 1); omega
  · have := b8 (3 * i + 2); omega
  · have := b8 (15 + 4 * i); omega
  · have := b8 (15 + (4 * i + 1)); omega
  · have := b8 (15 + (4 * i + 2)); omega
  · have := b8 (15 + (4 * i + 3)); omega
  · have := b9 0; omega
  · have := b9 1; omega
  · have := b9 2; omega
