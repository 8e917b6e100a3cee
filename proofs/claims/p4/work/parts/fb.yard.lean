/-! THE TWO READERS: what the model holds back, on the class's tokens -/
abbrev q_Y : Type := List Int × Int × List Int
def Y_un (r : Int) : List Int → Int → List Int → q_Y
  | [], p, O => ([], p, O)
  | c :: H, p, O => if F_rank c < r then (c :: H, p, O) else Y_un r H (if c = 13 ∨ c = 19 then p - 1 else p) (O ++ [c])
def Y_u (r : Int) (S : q_Y) : q_Y := Y_un r S.1 S.2.1 S.2.2
def Y_sg (t : Int) : Int := if t = -8 then 11 else if t = -9 then 12 else if t = 60 then 14 else if t = 61 then 15 else if t = 43 then 16 else if t = 45 then 17 else if t = 42 then 18 else -1
def Y_tp (H : List Int) : Int := match H with
  | [] => -1
  | c :: _ => F_rank c
def Y_bt (c : Int) (S : q_Y) : Option q_Y := if F_rank c = 4 ∧ Y_tp (Y_u 5 S).1 = 4 then none else some (c :: (Y_u (if F_rank c = 4 then 5 else F_rank c) S).1, (Y_u (if F_rank c = 4 then 5 else F_rank c) S).2.1, (Y_u (if F_rank c = 4 then 5 else F_rank c) S).2.2)
/-- wants, may not; held, opens, out; at -/
abbrev q_Yc : Type := Bool × Bool × q_Y × Nat
/-- good, begun, at, out -/
abbrev q_Yr : Type := Bool × Nat × Nat × List Int
def Y_bd (T : Nat → Int) (n a : Nat) : q_Yc ⊕ q_Yr := .inr (false, L_i T n a, 0, [])
def Y_s1 (T : Nat → Int) (n : Nat) (my : Bool) (S : q_Y) (a : Nat) : q_Yc ⊕ q_Yr :=
  if L_t T n a = -3 ∨ L_t T n a = -4 then .inl (false, my, Y_u 7 (S.1, S.2.1, S.2.2 ++ [if L_t T n a = -3 then 100000 + L_v T n a else L_v T n a]), L_b T n a)
  else if L_t T n a = -10 ∧ my = true then (if S.2.1 = 5 then Y_bd T n a else .inl (true, my, (13 :: S.1, S.2.1 + 1, S.2.2), L_b T n a))
  else if L_t T n a = 45 then (if S.2.1 = 5 then Y_bd T n a else .inl (true, false, (19 :: S.1, S.2.1 + 1, S.2.2), L_b T n a))
  else if L_t T n a = 40 then (if S.2.1 = 5 then Y_bd T n a else .inl (true, true, (0 :: S.1, S.2.1 + 1, S.2.2), L_b T n a))
  else Y_bd T n a
def Y_s0 (T : Nat → Int) (n : Nat) (my : Bool) (S : q_Y) (a : Nat) : q_Yc ⊕ q_Yr :=
  if L_t T n a = 59 then (match (Y_u 1 S).1 with
    | [] => .inr (true, L_i T n a, L_b T n a, (Y_u 1 S).2.2)
    | _ :: _ => Y_bd T n a)
  else if L_t T n a = 41 then (match (Y_u 1 S).1 with
    | [] => Y_bd T n a
    | _ :: H => .inl (false, my, Y_u 7 (H, (Y_u 1 S).2.1 - 1, (Y_u 1 S).2.2), L_b T n a))
  else if Y_sg (L_t T n a) = -1 then Y_bd T n a
  else match Y_bt (Y_sg (L_t T n a)) S with
    | none => Y_bd T n a
    | some S2 => .inl (true, decide (Y_sg (L_t T n a) ≤ 12), S2, L_b T n a)
def Y_st (T : Nat → Int) (n : Nat) (c : q_Yc) : q_Yc ⊕ q_Yr := match c with
  | (true, my, S, a) => Y_s1 T n my S a
  | (false, my, S, a) => Y_s0 T n my S a
def Y_rd (T : Nat → Int) (n : Nat) : Nat → q_Yc → Option q_Yr
  | 0, _ => none
  | k + 1, c => match Y_st T n c with
    | .inl c2 => Y_rd T n k c2
    | .inr r => some r
def Y_ev (T : Nat → Int) (n : Nat) (c : q_Yc) (r : q_Yr) : Prop := ∃ k, Y_rd T n k c = some r
theorem Y_ev_go {T : Nat → Int} {n : Nat} {c c2 : q_Yc} {r : q_Yr} (h : Y_st T n c = .inl c2) (h2 : Y_ev T n c2 r) : Y_ev T n c r := by
  obtain ⟨k, hk⟩ := h2
  exact ⟨k + 1, by rw [Y_rd, h]; exact hk⟩
theorem Y_ev_in {T : Nat → Int} {n : Nat} {c : q_Yc} {r : q_Yr} (h : Y_st T n c = .inr r) : Y_ev T n c r := ⟨1, by rw [Y_rd, h]⟩
theorem Y_u_c {r s : Int} (h : r ≤ s) : ∀ (H : List Int) (p : Int) (O : List Int), Y_u r (Y_un s H p O) = Y_un r H p O
  | [], p, O => rfl
  | c :: H, p, O => by
    rw [Y_un]
    by_cases k : F_rank c < s
    · rw [if_pos k]
      rfl
    · rw [if_neg k, Y_un, if_neg (show ¬F_rank c < r by omega)]
      exact Y_u_c h H _ _
theorem Y_u_le {r s : Int} {S S2 : q_Y} (h : r ≤ s) (e : Y_u s S = Y_u s S2) : Y_u r S = Y_u r S2 := by
  have h1 := Y_u_c h S.1 S.2.1 S.2.2
  have h2 := Y_u_c h S2.1 S2.2.1 S2.2.2
  have e : Y_un s S.1 S.2.1 S.2.2 = Y_un s S2.1 S2.2.1 S2.2.2 := e
  rw [e] at h1
  exact h1.symm.trans h2
theorem Y_u_top {r : Int} {H : List Int} {p : Int} {O : List Int} (h : Y_tp H < r) : Y_u r (H, p, O) = (H, p, O) := by
  cases H with
  | nil => rfl
  | cons c H => exact if_pos h
theorem Y_u_pop {r c : Int} {H : List Int} {p : Int} {O : List Int} (h : r ≤ F_rank c) : Y_u r (c :: H, p, O) = Y_u r (H, if c = 13 ∨ c = 19 then p - 1 else p, O ++ [c]) := if_neg (by show ¬F_rank c < r; omega)
/-- how a level of the descent and the model's yard agree -/
def Y_lv (T : Nat → Int) (n b : Nat) (O0 : List Int) (o l hp : Int) (nm : Bool) (X : Int → q_Y → Prop) (f : q_Z → q_Z) : Prop :=
  ∀ (z : q_Z) (a : Nat) (m : Int) (H : List Int) (my : Bool), q_tok T n z a → a ≤ n → 0 ≤ m → (b : Int) ≤ z.1 → z.1 + m ≤ L_i T n a → Y_tp H < hp → (nm = true → my = true) → (nm = false → my = false ∨ L_t T n a ≠ -10) →
    (q_fs (f z) ∧ Y_ev T n (true, my, (H, o, O0 ++ K_o b z), a) (false, (f z).2.2.2.2.2.1.toNat, 0, [])) ∨
    (∃ (S : q_Y) (a2 : Nat) (my2 : Bool), q_tok T n (f z) a2 ∧ a < a2 ∧ a2 ≤ n ∧ z.1 ≤ (f z).1 ∧ (f z).1 + m ≤ L_i T n a2 ∧ (∀ i : Nat, (i : Int) < z.1 → (f z).2.2.2.2.2.2 i = z.2.2.2.2.2.2 i) ∧ Y_u l S = Y_u l (H, o, O0 ++ K_o b (f z)) ∧ X (L_t T n a2) S ∧ ∀ r, Y_ev T n (false, my2, S, a2) r → Y_ev T n (true, my, (H, o, O0 ++ K_o b z), a) r)
def X_te (t : Int) (_ : q_Y) : Prop := t ≠ 42
def X_su (t : Int) (_ : q_Y) : Prop := t ≠ 42 ∧ t ≠ 43 ∧ t ≠ 45
def X_no (t : Int) (S : q_Y) : Prop := t ≠ 42 ∧ t ≠ 43 ∧ t ≠ 45 ∧ (t = 60 ∨ t = 61 → Y_tp (Y_u 5 S).1 = 4)
def X_ei (t : Int) (S : q_Y) : Prop := X_no t S ∧ t ≠ -9 ∧ t ≠ -8
theorem F_rank_19 : F_rank 19 = 7 := rfl
theorem F_rank_13 : F_rank 13 = 3 := rfl
theorem F_rank_00 : F_rank 0 = 0 := rfl
/-- a token that an expression leaves is a fault but for ; and ) -/
theorem Y_bad {T : Nat → Int} {n a : Nat} {my : Bool} {S : q_Y} (hX : X_ei (L_t T n a) S) (h1 : L_t T n a ≠ 59) (h2 : L_t T n a ≠ 41) : Y_st T n (false, my, S, a) = Y_bd T n a := by
  obtain ⟨⟨x1, x2, x3, x4⟩, x5, x6⟩ := hX
  show Y_s0 T n my S a = _
  unfold Y_s0
  rw [if_neg h1, if_neg h2]
  by_cases c : L_t T n a = 60 ∨ L_t T n a = 61
  · have h := x4 c
    have hs : F_rank (Y_sg (L_t T n a)) = 4 := by
      rcases c with c | c <;> rw [c] <;> rfl
    have hs2 : Y_sg (L_t T n a) ≠ -1 := by
      rcases c with c | c <;> rw [c] <;> decide
    rw [if_neg hs2]
    unfold Y_bt
    rw [if_pos ⟨hs, h⟩]
  · rw [if_pos]
    unfold Y_sg
    rw [if_neg (by omega), if_neg (by omega), if_neg (by omega), if_neg (by omega), if_neg (by omega), if_neg (by omega), if_neg (by omega)]
set_option maxHeartbeats 1000000 in
theorem Y_on {T : Nat → Int} {n b : Nat} {O0 : List Int} {o : Int} {r0 : Bool} {on ei : q_Z → q_Z} (hn : n ≤ 160) (ho : r0 = true ↔ o = 5) (h1 : r0 = false → Y_lv T n b O0 (o + 1) 7 100 false (fun _ _ => True) on) (h2 : r0 = false → Y_lv T n b O0 (o + 1) 1 1 true X_ei ei) : Y_lv T n b O0 o 7 100 false (fun _ _ => True) (R_on T n r0 on ei) := by
  intro z a m H my tk ha hm hb hs _ _ hmy
  have L := L_ok (T := T) ha
  obtain ⟨l1, l2, l3, l4, l5, l6, l7, l8⟩ := L
  have M := L_ok (T := T) l4
  have hmy := hmy rfl
  unfold R_on
  rw [tk.1]
  by_cases c1 : L_t T n a = -3 ∨ L_t T n a = -4
  · rw [if_pos c1]
    have hv := tk.2.1 c1
    rw [hv]
    have lt := l5 (by omega)
    obtain ⟨e1, e2, e3, e4⟩ := R_em_tk (o := if L_t T n a = -3 then 1 else 2) (v := L_v T n a) tk hb (by omega) (by omega) (by split <;> omega)
    obtain ⟨f1, f2, f3⟩ := R_nx_tk e1
    refine Or.inr ⟨Y_u 7 (H, o, O0 ++ K_o b z ++ [if L_t T n a = -3 then 100000 + L_v T n a else L_v T n a]), L_b T n a, my, f1, by omega, l4, by omega, by omega, fun i hi => by rw [f3]; exact e3 i hi, ?_, trivial, fun r hr => ?_⟩
    · have ec : K_c (16 * L_v T n a + if L_t T n a = -3 then 1 else 2) = if L_t T n a = -3 then 100000 + L_v T n a else L_v T n a := by
        unfold K_c
        by_cases k : L_t T n a = -3
        · rw [if_pos k, if_pos k, if_pos (by omega)]
          omega
        · rw [if_neg k, if_neg k, if_neg (by omega), if_pos (by omega)]
          omega
      rw [K_same f2 f3, e4, ec, ← List.append_assoc]
      exact Y_u_c (Int.le_refl 7) _ _ _
    · refine Y_ev_go ?_ hr
      show Y_s1 T n my (H, o, O0 ++ K_o b z) a = _
      unfold Y_s1
      rw [if_pos c1]
  · rw [if_neg c1]
    by_cases c2 : ¬(L_t T n a = 40 ∨ L_t T n a = 45) ∨ r0 = true
    · rw [if_pos c2]
      obtain ⟨e1, e2⟩ := R_fl_tk tk
      refine Or.inl ⟨e1, Y_ev_in ?_⟩
      rw [e2]
      show Y_s1 T n my (H, o, O0 ++ K_o b z) a = _
      unfold Y_s1
      rw [if_neg c1, if_neg (by rintro ⟨q1, q2⟩; rcases hmy with q | q; · rw [q] at q2; exact absurd q2 (by decide)
                                · exact q q1)]
      by_cases k1 : L_t T n a = 45
      · have : o = 5 := by
          rcases c2 with q | q
          · exact absurd (Or.inr k1) q
          · exact ho.mp q
        rw [if_pos k1, if_pos this]
        rfl
      · rw [if_neg k1]
        by_cases k2 : L_t T n a = 40
        · have : o = 5 := by
            rcases c2 with q | q
            · exact absurd (Or.inl k2) q
            · exact ho.mp q
          rw [if_pos k2, if_pos this]
          rfl
        · rw [if_neg k2]
          rfl
    · rw [if_neg c2]
      have c3 : L_t T n a = 40 ∨ L_t T n a = 45 := Decidable.byContradiction (fun q => c2 (Or.inl q))
      have r1 : r0 = false := by
        cases r0 with
        | true => exact absurd (Or.inr rfl) c2
        | false => rfl
      have o5 : o ≠ 5 := fun q => c2 (Or.inr (ho.mpr q))
      have lt := l5 (by omega)
      obtain ⟨f1, f2, f3⟩ := R_nx_tk tk
      by_cases c4 : L_t T n a = 45
      · rw [if_pos c4]
        have st : Y_st T n (true, my, (H, o, O0 ++ K_o b z), a) = .inl (true, false, (19 :: H, o + 1, O0 ++ K_o b (R_nx T n z)), L_b T n a) := by
          show Y_s1 T n my (H, o, O0 ++ K_o b z) a = _
          unfold Y_s1
          rw [if_neg c1, if_neg (by omega), if_pos c4, if_neg o5, K_same f2 f3]
        rcases h1 r1 _ _ (m + 1) (19 :: H) false f1 l4 (by omega) (by rw [f2]; exact hb) (by rw [f2]; omega) (by show F_rank 19 < 100; decide) (fun q => absurd q (by decide)) (fun _ => Or.inl rfl) with ⟨g1, g2⟩ | ⟨S, a2, my2, g1, g2, g3, g4, g5, g6, g7, g8, g9⟩
        · obtain ⟨e1, e2⟩ := R_em_fs (o := 3) (v := 0) g1
          refine Or.inl ⟨e1, ?_⟩
          rw [e2]
          exact Y_ev_go st g2
        · have N := L_ok (T := T) g3
          rw [f2] at g4 g6
          obtain ⟨e1, e2, e3, e4⟩ := R_em_tk (b := b) (o := 3) (v := 0) g1 (by omega) (by omega) (by omega) (by omega)
          refine Or.inr ⟨S, a2, my2, e1, by omega, g3, by omega, by omega, fun i hi => ?_, ?_, trivial, fun r hr => Y_ev_go st (g9 r hr)⟩
          · rw [e3 i (by omega), g6 i hi, f3]
          · rw [g7, e4, ← List.append_assoc, Y_u_pop (by show (7 : Int) ≤ F_rank 19; decide), if_pos (Or.inr rfl), Int.add_sub_cancel]
            rfl
      · rw [if_neg c4]
        have c5 : L_t T n a = 40 := by omega
        have st : Y_st T n (true, my, (H, o, O0 ++ K_o b z), a) = .inl (true, true, (0 :: H, o + 1, O0 ++ K_o b (R_nx T n z)), L_b T n a) := by
          show Y_s1 T n my (H, o, O0 ++ K_o b z) a = _
          unfold Y_s1
          rw [if_neg c1, if_neg (by omega), if_neg c4, if_pos c5, if_neg o5, K_same f2 f3]
        rcases h2 r1 _ _ (m + 1) (0 :: H) true f1 l4 (by omega) (by rw [f2]; exact hb) (by rw [f2]; omega) (by show F_rank 0 < 1; decide) (fun _ => rfl) (fun q => absurd q (by decide)) with ⟨g1, g2⟩ | ⟨S, a2, my2, g1, g2, g3, g4, g5, g6, g7, g8, g9⟩
        · obtain ⟨e1, e2⟩ := R_ex_fs (T := T) (n := n) (w := 41) (by decide) g1
          refine Or.inl ⟨e1, ?_⟩
          rw [e2]
          exact Y_ev_go st g2
        · have N := L_ok (T := T) g3
          rw [f2] at g4 g6
          have g7 := g7.trans (Y_u_top (by show F_rank 0 < 1; decide))
          unfold R_ex
          rw [g1.1]
          by_cases k : L_t T n a2 = 41
          · rw [if_pos k]
            obtain ⟨e1, e2, e3⟩ := R_nx_tk g1
            have lt2 := N.2.2.2.2.1 (by omega)
            have N2 := L_ok (T := T) N.2.2.2.1
            refine Or.inr ⟨Y_u 7 (H, o, O0 ++ K_o b (ei (R_nx T n z))), L_b T n a2, my2, e1, by omega, N.2.2.2.1, by omega, by omega, fun i hi => ?_, ?_, trivial, fun r hr => Y_ev_go st (g9 r (Y_ev_go ?_ hr))⟩
            · rw [e3, g6 i hi, f3]
            · rw [K_same e2 e3]
              exact Y_u_c (Int.le_refl 7) _ _ _
            · show Y_s0 T n my2 S a2 = _
              unfold Y_s0
              rw [if_neg (by omega), if_pos k, g7]
              show Sum.inl (false, my2, Y_u 7 (H, o + 1 - 1, O0 ++ K_o b (ei (R_nx T n z))), L_b T n a2) = _
              rw [Int.add_sub_cancel]
          · rw [if_neg k]
            obtain ⟨e1, e2⟩ := R_fl_tk g1
            refine Or.inl ⟨e1, Y_ev_go st (g9 _ (Y_ev_in ?_))⟩
            rw [e2]
            by_cases k2 : L_t T n a2 = 59
            · show Y_s0 T n my2 S a2 = _
              unfold Y_s0
              rw [if_pos k2, g7]
              rfl
            · exact Y_bad g8 k2 k
