section
/-! THE TWO READERS: what the model holds back, on the class's tokens -/
abbrev q_Y : Type := List Int × Int × List Int
def Y_un (r : Int) : List Int → Int → List Int → q_Y
  | [], p, O => ([], p, O)
  | c :: H, p, O => if F_rank c < r then (c :: H, p, O) else Y_un r H (if c = 13 ∨ c = 19 then p - 1 else p) (O ++ [c])
def Y_u (r : Int) (S : q_Y) : q_Y := Y_un r S.1 S.2.1 S.2.2
def Y_sg (t : Int) : Int := if t = -8 then 11 else if t = -9 then 12 else if t = 60 then 14 else if t = 61 then 15 else if t = 43 then 16 else if t = 45 then 17 else if t = 42 then 18 else -1
def Y_tp (H : List Int) : Int := match H with
  | [] => -1
  | c :: _ => F_rank c
def Y_bt (c : Int) (S : q_Y) : Option q_Y := if F_rank c = 4 ∧ Y_tp (Y_u 5 S).1 = 4 then none else some (c :: (Y_u (if F_rank c = 4 then 5 else F_rank c) S).1, (Y_u (if F_rank c = 4 then 5 else F_rank c) S).2.1, (Y_u (if F_rank c = 4 then 5 else F_rank c) S).2.2)
/-- wants, may not; held, opens, out; at -/
abbrev q_Yc : Type := Bool × Bool × q_Y × Nat
/-- good, begun, at, out -/
abbrev q_Yr : Type := Bool × Nat × Nat × List Int
def Y_bd (T : Nat → Int) (n a : Nat) : q_Yc ⊕ q_Yr := .inr (false, L_i T n a, 0, [])
def Y_s1 (T : Nat → Int) (n : Nat) (my : Bool) (S : q_Y) (a : Nat) : q_Yc ⊕ q_Yr :=
  if L_t T n a = -3 ∨ L_t T n a = -4 then .inl (false, my, Y_u 7 (S.1, S.2.1, S.2.2 ++ [if L_t T n a = -3 then 100000 + L_v T n a else L_v T n a]), L_b T n a)
  else if L_t T n a = -10 ∧ my = true then (if S.2.1 = 5 then Y_bd T n a else .inl (true, my, (13 :: S.1, S.2.1 + 1, S.2.2), L_b T n a))
  else if L_t T n a = 45 then (if S.2.1 = 5 then Y_bd T n a else .inl (true, false, (19 :: S.1, S.2.1 + 1, S.2.2), L_b T n a))
  else if L_t T n a = 40 then (if S.2.1 = 5 then Y_bd T n a else .inl (true, true, (0 :: S.1, S.2.1 + 1, S.2.2), L_b T n a))
  else Y_bd T n a
def Y_s0 (T : Nat → Int) (n : Nat) (my : Bool) (S : q_Y) (a : Nat) : q_Yc ⊕ q_Yr :=
  if L_t T n a = 59 then (match (Y_u 1 S).1 with
    | [] => .inr (true, L_i T n a, L_b T n a, (Y_u 1 S).2.2)
    | _ :: _ => Y_bd T n a)
  else if L_t T n a = 41 then (match (Y_u 1 S).1 with
    | [] => Y_bd T n a
    | _ :: H => .inl (false, my, Y_u 7 (H, (Y_u 1 S).2.1 - 1, (Y_u 1 S).2.2), L_b T n a))
  else if Y_sg (L_t T n a) = -1 then Y_bd T n a
  else match Y_bt (Y_sg (L_t T n a)) S with
    | none => Y_bd T n a
    | some S2 => .inl (true, decide (Y_sg (L_t T n a) ≤ 12), S2, L_b T n a)
def Y_st (T : Nat → Int) (n : Nat) (c : q_Yc) : q_Yc ⊕ q_Yr := match c with
  | (true, my, S, a) => Y_s1 T n my S a
  | (false, my, S, a) => Y_s0 T n my S a
def Y_rd (T : Nat → Int) (n : Nat) : Nat → q_Yc → Option q_Yr
  | 0, _ => none
  | k + 1, c => match Y_st T n c with
    | .inl c2 => Y_rd T n k c2
    | .inr r => some r
def Y_ev (T : Nat → Int) (n : Nat) (c : q_Yc) (r : q_Yr) : Prop := ∃ k, Y_rd T n k c = some r
theorem Y_ev_go {T : Nat → Int} {n : Nat} {c c2 : q_Yc} {r : q_Yr} (h : Y_st T n c = .inl c2) (h2 : Y_ev T n c2 r) : Y_ev T n c r := by
  obtain ⟨k, hk⟩ := h2
  exact ⟨k + 1, by rw [Y_rd, h]; exact hk⟩
theorem Y_ev_in {T : Nat → Int} {n : Nat} {c : q_Yc} {r : q_Yr} (h : Y_st T n c = .inr r) : Y_ev T n c r := ⟨1, by rw [Y_rd, h]⟩
theorem Y_u_c {r s : Int} (h : r ≤ s) : ∀ (H : List Int) (p : Int) (O : List Int), Y_u r (Y_un s H p O) = Y_un r H p O
  | [], p, O => rfl
  | c :: H, p, O => by
    rw [Y_un]
    by_cases k : F_rank c < s
    · rw [if_pos k]
      rfl
    · rw [if_neg k, Y_un, if_neg (show ¬F_rank c < r by omega)]
      exact Y_u_c h H _ _
theorem Y_u_le {r s : Int} {S S2 : q_Y} (h : r ≤ s) (e : Y_u s S = Y_u s S2) : Y_u r S = Y_u r S2 := by
  have h1 := Y_u_c h S.1 S.2.1 S.2.2
  have h2 := Y_u_c h S2.1 S2.2.1 S2.2.2
  have e : Y_un s S.1 S.2.1 S.2.2 = Y_un s S2.1 S2.2.1 S2.2.2 := e
  rw [e] at h1
  exact h1.symm.trans h2
theorem Y_u_top {r : Int} {H : List Int} {p : Int} {O : List Int} (h : Y_tp H < r) : Y_u r (H, p, O) = (H, p, O) := by
  cases H with
  | nil => rfl
  | cons c H => exact if_pos h
theorem Y_u_pop {r c : Int} {H : List Int} {p : Int} {O : List Int} (h : r ≤ F_rank c) : Y_u r (c :: H, p, O) = Y_u r (H, if c = 13 ∨ c = 19 then p - 1 else p, O ++ [c]) := if_neg (by show ¬F_rank c < r; omega)
/-- how a level of the descent and the model's yard agree -/
def Y_lv (T : Nat → Int) (n b : Nat) (O0 : List Int) (o l hp : Int) (nm : Bool) (X : Int → q_Y → Prop) (f : q_Z → q_Z) : Prop :=
  ∀ (z : q_Z) (a : Nat) (m : Int) (H : List Int) (my : Bool), q_tok T n z a → a ≤ n → 0 ≤ m → (b : Int) ≤ z.1 → z.1 + m ≤ L_i T n a → Y_tp H < hp → (nm = true → my = true) → (nm = false → my = false ∨ L_t T n a ≠ -10) →
    (q_fs (f z) ∧ Y_ev T n (true, my, (H, o, O0 ++ K_o b z), a) (false, (f z).2.2.2.2.2.1.toNat, 0, [])) ∨
    (∃ (S : q_Y) (a2 : Nat) (my2 : Bool), q_tok T n (f z) a2 ∧ a < a2 ∧ a2 ≤ n ∧ z.1 ≤ (f z).1 ∧ (f z).1 + m ≤ L_i T n a2 ∧ (∀ i : Nat, (i : Int) < z.1 → (f z).2.2.2.2.2.2 i = z.2.2.2.2.2.2 i) ∧ Y_u l S = Y_u l (H, o, O0 ++ K_o b (f z)) ∧ X (L_t T n a2) S ∧ ∀ r, Y_ev T n (false, my2, S, a2) r → Y_ev T n (true, my, (H, o, O0 ++ K_o b z), a) r)
def X_te (t : Int) (_ : q_Y) : Prop := t ≠ 42
def X_su (t : Int) (_ : q_Y) : Prop := t ≠ 42 ∧ t ≠ 43 ∧ t ≠ 45
def X_no (t : Int) (S : q_Y) : Prop := t ≠ 42 ∧ t ≠ 43 ∧ t ≠ 45 ∧ (t = 60 ∨ t = 61 → Y_tp (Y_u 5 S).1 = 4)
def X_ei (t : Int) (S : q_Y) : Prop := X_no t S ∧ t ≠ -9 ∧ t ≠ -8
/-- a token that an expression leaves is a fault but for ; and ) -/
theorem Y_bad {T : Nat → Int} {n a : Nat} {my : Bool} {S : q_Y} (hX : X_ei (L_t T n a) S) (h1 : L_t T n a ≠ 59) (h2 : L_t T n a ≠ 41) : Y_st T n (false, my, S, a) = Y_bd T n a := by
  obtain ⟨⟨x1, x2, x3, x4⟩, x5, x6⟩ := hX
  show Y_s0 T n my S a = _
  unfold Y_s0
  rw [if_neg h1, if_neg h2]
  by_cases c : L_t T n a = 60 ∨ L_t T n a = 61
  · have h := x4 c
    have hs : F_rank (Y_sg (L_t T n a)) = 4 := by
      rcases c with c | c <;> rw [c] <;> rfl
    have hs2 : Y_sg (L_t T n a) ≠ -1 := by
      rcases c with c | c <;> rw [c] <;> decide
    rw [if_neg hs2]
    unfold Y_bt
    rw [if_pos ⟨hs, h⟩]
  · rw [if_pos]
    unfold Y_sg
    rw [if_neg (by omega), if_neg (by omega), if_neg (by omega), if_neg (by omega), if_neg (by omega), if_neg (by omega), if_neg (by omega)]
set_option maxHeartbeats 1000000 in
theorem Y_on {T : Nat → Int} {n b : Nat} {O0 : List Int} {o : Int} {r0 : Bool} {on ei : q_Z → q_Z} (hn : n ≤ 160) (ho : r0 = true ↔ o = 5) (h1 : r0 = false → Y_lv T n b O0 (o + 1) 7 100 false (fun _ _ => True) on) (h2 : r0 = false → Y_lv T n b O0 (o + 1) 1 1 true X_ei ei) : Y_lv T n b O0 o 7 100 false (fun _ _ => True) (R_on T n r0 on ei) := by
  intro z a m H my tk ha hm hb hs _ _ hmy
  have L := L_ok (T := T) ha
  obtain ⟨l1, l2, l3, l4, l5, l6, l7, l8⟩ := L
  have M := L_ok (T := T) l4
  have hmy := hmy rfl
  unfold R_on
  rw [tk.1]
  by_cases c1 : L_t T n a = -3 ∨ L_t T n a = -4
  · rw [if_pos c1]
    have hv := tk.2.1 c1
    rw [hv]
    have lt := l5 (by omega)
    obtain ⟨e1, e2, e3, e4⟩ := R_em_tk (o := if L_t T n a = -3 then 1 else 2) (v := L_v T n a) tk hb (by omega) (by omega) (by split <;> omega)
    obtain ⟨f1, f2, f3⟩ := R_nx_tk e1
    refine Or.inr ⟨Y_u 7 (H, o, O0 ++ K_o b z ++ [if L_t T n a = -3 then 100000 + L_v T n a else L_v T n a]), L_b T n a, my, f1, by omega, l4, by omega, by omega, fun i hi => by rw [f3]; exact e3 i hi, ?_, trivial, fun r hr => ?_⟩
    · have ec : K_c (16 * L_v T n a + if L_t T n a = -3 then 1 else 2) = if L_t T n a = -3 then 100000 + L_v T n a else L_v T n a := by
        unfold K_c
        by_cases k : L_t T n a = -3
        · rw [if_pos k, if_pos k, if_pos (by omega)]
          omega
        · rw [if_neg k, if_neg k, if_neg (by omega), if_pos (by omega)]
          omega
      rw [K_same f2 f3, e4, ec, ← List.append_assoc]
      exact Y_u_c (Int.le_refl 7) _ _ _
    · refine Y_ev_go ?_ hr
      show Y_s1 T n my (H, o, O0 ++ K_o b z) a = _
      unfold Y_s1
      rw [if_pos c1]
  · rw [if_neg c1]
    by_cases c2 : ¬(L_t T n a = 40 ∨ L_t T n a = 45) ∨ r0 = true
    · rw [if_pos c2]
      obtain ⟨e1, e2⟩ := R_fl_tk tk
      refine Or.inl ⟨e1, Y_ev_in ?_⟩
      rw [e2]
      show Y_s1 T n my (H, o, O0 ++ K_o b z) a = _
      unfold Y_s1
      rw [if_neg c1, if_neg (by rintro ⟨q1, q2⟩; rcases hmy with q | q; · rw [q] at q2; exact absurd q2 (by decide)
                                · exact q q1)]
      by_cases k1 : L_t T n a = 45
      · have : o = 5 := by
          rcases c2 with q | q
          · exact absurd (Or.inr k1) q
          · exact ho.mp q
        rw [if_pos k1, if_pos this]
        rfl
      · rw [if_neg k1]
        by_cases k2 : L_t T n a = 40
        · have : o = 5 := by
            rcases c2 with q | q
            · exact absurd (Or.inl k2) q
            · exact ho.mp q
          rw [if_pos k2, if_pos this]
          rfl
        · rw [if_neg k2]
          rfl
    · rw [if_neg c2]
      have c3 : L_t T n a = 40 ∨ L_t T n a = 45 := Decidable.byContradiction (fun q => c2 (Or.inl q))
      have r1 : r0 = false := by
        cases r0 with
        | true => exact absurd (Or.inr rfl) c2
        | false => rfl
      have o5 : o ≠ 5 := fun q => c2 (Or.inr (ho.mpr q))
      have lt := l5 (by omega)
      obtain ⟨f1, f2, f3⟩ := R_nx_tk tk
      by_cases c4 : L_t T n a = 45
      · rw [if_pos c4]
        have st : Y_st T n (true, my, (H, o, O0 ++ K_o b z), a) = .inl (true, false, (19 :: H, o + 1, O0 ++ K_o b (R_nx T n z)), L_b T n a) := by
          show Y_s1 T n my (H, o, O0 ++ K_o b z) a = _
          unfold Y_s1
          rw [if_neg c1, if_neg (by omega), if_pos c4, if_neg o5, K_same f2 f3]
        rcases h1 r1 _ _ (m + 1) (19 :: H) false f1 l4 (by omega) (by rw [f2]; exact hb) (by rw [f2]; omega) (by show F_rank 19 < 100; decide) (fun q => absurd q (by decide)) (fun _ => Or.inl rfl) with ⟨g1, g2⟩ | ⟨S, a2, my2, g1, g2, g3, g4, g5, g6, g7, g8, g9⟩
        · obtain ⟨e1, e2⟩ := R_em_fs (o := 3) (v := 0) g1
          refine Or.inl ⟨e1, ?_⟩
          rw [e2]
          exact Y_ev_go st g2
        · have N := L_ok (T := T) g3
          rw [f2] at g4 g6
          obtain ⟨e1, e2, e3, e4⟩ := R_em_tk (b := b) (o := 3) (v := 0) g1 (by omega) (by omega) (by omega) (by omega)
          refine Or.inr ⟨S, a2, my2, e1, by omega, g3, by omega, by omega, fun i hi => ?_, ?_, trivial, fun r hr => Y_ev_go st (g9 r hr)⟩
          · rw [e3 i (by omega), g6 i hi, f3]
          · rw [g7, e4, ← List.append_assoc, Y_u_pop (by show (7 : Int) ≤ F_rank 19; decide), if_pos (Or.inr rfl), Int.add_sub_cancel]
            rfl
      · rw [if_neg c4]
        have c5 : L_t T n a = 40 := by omega
        have st : Y_st T n (true, my, (H, o, O0 ++ K_o b z), a) = .inl (true, true, (0 :: H, o + 1, O0 ++ K_o b (R_nx T n z)), L_b T n a) := by
          show Y_s1 T n my (H, o, O0 ++ K_o b z) a = _
          unfold Y_s1
          rw [if_neg c1, if_neg (by omega), if_neg c4, if_pos c5, if_neg o5, K_same f2 f3]
        rcases h2 r1 _ _ (m + 1) (0 :: H) true f1 l4 (by omega) (by rw [f2]; exact hb) (by rw [f2]; omega) (by show F_rank 0 < 1; decide) (fun _ => rfl) (fun q => absurd q (by decide)) with ⟨g1, g2⟩ | ⟨S, a2, my2, g1, g2, g3, g4, g5, g6, g7, g8, g9⟩
        · obtain ⟨e1, e2⟩ := R_ex_fs (T := T) (n := n) (w := 41) (by decide) g1
          refine Or.inl ⟨e1, ?_⟩
          rw [e2]
          exact Y_ev_go st g2
        · have N := L_ok (T := T) g3
          rw [f2] at g4 g6
          have g7 := g7.trans (Y_u_top (by show F_rank 0 < 1; decide))
          unfold R_ex
          rw [g1.1]
          by_cases k : L_t T n a2 = 41
          · rw [if_pos k]
            obtain ⟨e1, e2, e3⟩ := R_nx_tk g1
            have lt2 := N.2.2.2.2.1 (by omega)
            have N2 := L_ok (T := T) N.2.2.2.1
            refine Or.inr ⟨Y_u 7 (H, o, O0 ++ K_o b (ei (R_nx T n z))), L_b T n a2, my2, e1, by omega, N.2.2.2.1, by omega, by omega, fun i hi => ?_, ?_, trivial, fun r hr => Y_ev_go st (g9 r (Y_ev_go ?_ hr))⟩
            · rw [e3, g6 i hi, f3]
            · rw [K_same e2 e3]
              exact Y_u_c (Int.le_refl 7) _ _ _
            · show Y_s0 T n my2 S a2 = _
              unfold Y_s0
              rw [if_neg (by omega), if_pos k, g7]
              show Sum.inl (false, my2, Y_u 7 (H, o + 1 - 1, O0 ++ K_o b (ei (R_nx T n z))), L_b T n a2) = _
              rw [Int.add_sub_cancel]
          · rw [if_neg k]
            obtain ⟨e1, e2⟩ := R_fl_tk g1
            refine Or.inl ⟨e1, Y_ev_go st (g9 _ (Y_ev_in ?_))⟩
            rw [e2]
            by_cases k2 : L_t T n a2 = 59
            · show Y_s0 T n my2 S a2 = _
              unfold Y_s0
              rw [if_pos k2, g7]
              rfl
            · exact Y_bad g8 k2 k
end
section
/-! THE TWO READERS: loops and levels -/
set_option maxHeartbeats 1000000 in
theorem Y_loop {T : Nat → Int} {n b : Nat} {O0 : List Int} {o lf hf l : Int} {nm : Bool} {X : Int → q_Y → Prop} {f : q_Z → q_Z} {g : Nat → q_Z → q_Z} {F : q_Z → q_Z} {P : Int → Prop} [DecidablePred P] {oc : Int → Int} (hn : n ≤ 160) (he : ∀ z, F z = g 160 (f z)) (hg0 : ∀ z, g 0 z = z) (hg : ∀ k z, g (k + 1) z = if P z.2.1 then g k (R_em (oc z.2.1) 0 (f (R_nx T n z))) else z)
    (hP : ∀ t, P t → (0 ≤ oc t ∧ oc t ≤ 15) ∧ F_rank (Y_sg t) = l ∧ K_c (oc t) = Y_sg t ∧ Y_sg t ≠ -1 ∧ t ≠ 59 ∧ t ≠ 41 ∧ (nm = true → Y_sg t ≤ 12) ∧ (nm = false → ¬Y_sg t ≤ 12)) (hl : l ≠ 4) (hlf : l ≤ lf) (hlh : l < hf) (hP1 : ¬P (-1)) (hP2 : ¬P (-2)) (hF : Y_lv T n b O0 o lf hf nm X f) :
    Y_lv T n b O0 o l l nm (fun t S => X t S ∧ ¬P t) F := by
  intro z a m H my tk ha hm hb hs ht hn1 hn2
  have fix : ∀ k z, q_fs z → g k z = z := by
    intro k z hz
    cases k with
    | zero => exact hg0 z
    | succ k => rw [hg, if_neg (by rw [hz.2]; exact hP1)]
  have inner : ∀ (k : Nat) (z1 : q_Z) (a1 : Nat) (S : q_Y) (my1 : Bool), n ≤ a1 + k → q_tok T n z1 a1 → a < a1 → a1 ≤ n → z.1 ≤ z1.1 → z1.1 + m ≤ L_i T n a1 → (∀ i : Nat, (i : Int) < z.1 → z1.2.2.2.2.2.2 i = z.2.2.2.2.2.2 i) → Y_u l S = Y_u l (H, o, O0 ++ K_o b z1) → X (L_t T n a1) S → (∀ r, Y_ev T n (false, my1, S, a1) r → Y_ev T n (true, my, (H, o, O0 ++ K_o b z), a) r) →
      ((q_fs (g k z1) ∧ Y_ev T n (true, my, (H, o, O0 ++ K_o b z), a) (false, (g k z1).2.2.2.2.2.1.toNat, 0, [])) ∨
      (∃ (S : q_Y) (a2 : Nat) (my2 : Bool), q_tok T n (g k z1) a2 ∧ a < a2 ∧ a2 ≤ n ∧ z.1 ≤ (g k z1).1 ∧ (g k z1).1 + m ≤ L_i T n a2 ∧ (∀ i : Nat, (i : Int) < z.1 → (g k z1).2.2.2.2.2.2 i = z.2.2.2.2.2.2 i) ∧ Y_u l S = Y_u l (H, o, O0 ++ K_o b (g k z1)) ∧ (X (L_t T n a2) S ∧ ¬P (L_t T n a2)) ∧ ∀ r, Y_ev T n (false, my2, S, a2) r → Y_ev T n (true, my, (H, o, O0 ++ K_o b z), a) r)) := by
    intro k
    induction k with
    | zero =>
      intro z1 a1 S my1 hk tk1 h1 h2 h3 h4 h5 h6 h7 h8
      have ea : a1 = n := by omega
      rw [hg0]
      refine Or.inr ⟨S, a1, my1, tk1, h1, h2, h3, h4, h5, h6, ⟨h7, ?_⟩, h8⟩
      rw [ea, L_end]
      exact hP2
    | succ k ih =>
      intro z1 a1 S my1 hk tk1 h1 h2 h3 h4 h5 h6 h7 h8
      have L := L_ok (T := T) h2
      obtain ⟨l1, l2, l3, l4, l5, l6, l7, l8⟩ := L
      have M := L_ok (T := T) l4
      rw [hg, tk1.1]
      by_cases c : P (L_t T n a1)
      · rw [if_pos c]
        obtain ⟨p1, p2, p3, p4, p5, p6, p7, p8⟩ := hP _ c
        have lt := l5 (fun q => hP2 (by rw [← q]; exact c))
        obtain ⟨f1, f2, f3⟩ := R_nx_tk tk1
        have h6 := h6.trans (Y_u_top ht)
        have st : Y_st T n (false, my1, S, a1) = .inl (true, decide (Y_sg (L_t T n a1) ≤ 12), (Y_sg (L_t T n a1) :: H, o, O0 ++ K_o b (R_nx T n z1)), L_b T n a1) := by
          show Y_s0 T n my1 S a1 = _
          unfold Y_s0
          rw [if_neg p5, if_neg p6, if_neg p4]
          unfold Y_bt
          rw [p2, if_neg (fun q => hl q.1), if_neg hl, h6, K_same f2 f3]
        rcases hF _ _ (m + 1) (Y_sg (L_t T n a1) :: H) (decide (Y_sg (L_t T n a1) ≤ 12)) f1 l4 (by omega) (by rw [f2]; omega) (by rw [f2]; omega) (by show F_rank (Y_sg (L_t T n a1)) < hf; omega) (fun q => decide_eq_true (p7 q)) (fun q => Or.inl (decide_eq_false (p8 q))) with ⟨g1, g2⟩ | ⟨S2, a2, my2, g1, g2, g3, g4, g5, g6, g7, g8, g9⟩
        · obtain ⟨e1, e2⟩ := R_em_fs (o := oc (L_t T n a1)) (v := 0) g1
          rw [fix k _ e1]
          refine Or.inl ⟨e1, ?_⟩
          rw [e2]
          exact h8 _ (Y_ev_go st g2)
        · have N := L_ok (T := T) g3
          rw [f2] at g4 g6
          obtain ⟨e1, e2, e3, e4⟩ := R_em_tk (b := b) (o := oc (L_t T n a1)) (v := 0) g1 (by omega) (by omega) (by omega) p1
          refine ih _ a2 S2 my2 (by omega) e1 (by omega) g3 (by omega) (by omega) (fun i hi => ?_) ?_ g8 (fun r hr => h8 r (Y_ev_go st (g9 r hr)))
          · rw [e3 i (by omega), g6 i (by omega), f3, h5 i hi]
          · rw [Y_u_le hlf g7, e4, ← List.append_assoc, Y_u_pop (by omega)]
            have ec : ¬(Y_sg (L_t T n a1) = 13 ∨ Y_sg (L_t T n a1) = 19) := by
              unfold Y_sg
              omega
            rw [if_neg ec, show 16 * (0 : Int) + oc (L_t T n a1) = oc (L_t T n a1) by omega, p3]
      · rw [if_neg c]
        exact Or.inr ⟨S, a1, my1, tk1, h1, h2, h3, h4, h5, h6, ⟨h7, c⟩, h8⟩
  rw [he]
  rcases hF z a m H my tk ha hm hb hs (by omega) hn1 hn2 with ⟨g1, g2⟩ | ⟨S, a2, my2, g1, g2, g3, g4, g5, g6, g7, g8, g9⟩
  · rw [fix 160 _ g1]
    exact Or.inl ⟨g1, g2⟩
  · exact inner 160 (f z) a2 S my2 (by omega) g1 g2 g3 g4 g5 g6 (Y_u_le hlf g7) g8 g9
theorem Y_lv_X {T : Nat → Int} {n b : Nat} {O0 : List Int} {o l hp : Int} {nm : Bool} {X X2 : Int → q_Y → Prop} {f : q_Z → q_Z} (hX : ∀ t S, X t S → X2 t S) (h : Y_lv T n b O0 o l hp nm X f) : Y_lv T n b O0 o l hp nm X2 f := by
  intro z a m H my tk ha hm hb hs ht hn1 hn2
  rcases h z a m H my tk ha hm hb hs ht hn1 hn2 with g | ⟨S, a2, my2, g1, g2, g3, g4, g5, g6, g7, g8, g9⟩
  · exact Or.inl g
  · exact Or.inr ⟨S, a2, my2, g1, g2, g3, g4, g5, g6, g7, hX _ _ g8, g9⟩
theorem Y_te {T : Nat → Int} {n b : Nat} {O0 : List Int} {o : Int} {f : q_Z → q_Z} (hn : n ≤ 160) (h : Y_lv T n b O0 o 7 100 false (fun _ _ => True) f) : Y_lv T n b O0 o 6 6 false X_te (R_te T n f) := by
  refine Y_lv_X (fun t S q => q.2) (Y_loop (g := R_lp T n 42 5 f) (P := fun t => t = 42) (oc := fun _ => 5) hn (fun _ => rfl) (fun _ => rfl) (fun k z => rfl) (fun t ht => ?_) (by decide) (by decide) (by decide) (by decide) (by decide) h)
  rw [ht]
  exact ⟨by decide, rfl, rfl, by decide, by decide, by decide, fun q => absurd q (by decide), fun _ => by decide⟩
theorem Y_su {T : Nat → Int} {n b : Nat} {O0 : List Int} {o : Int} {f : q_Z → q_Z} (hn : n ≤ 160) (h : Y_lv T n b O0 o 6 6 false X_te f) : Y_lv T n b O0 o 5 5 false X_su (R_su T n f) := by
  refine Y_lv_X (fun t S q => ⟨q.1, fun k => q.2 (Or.inl k), fun k => q.2 (Or.inr k)⟩) (Y_loop (g := R_ls T n f) (P := fun t => t = 43 ∨ t = 45) (oc := fun t => if t = 45 then 7 else 6) hn (fun _ => rfl) (fun _ => rfl) (fun k z => rfl) (fun t ht => ?_) (by decide) (by decide) (by decide) (by decide) (by decide) h)
  rcases ht with ht | ht
  · rw [ht]
    exact ⟨by decide, rfl, rfl, by decide, by decide, by decide, fun q => absurd q (by decide), fun _ => by decide⟩
  · rw [ht]
    exact ⟨by decide, rfl, rfl, by decide, by decide, by decide, fun q => absurd q (by decide), fun _ => by decide⟩
theorem Y_bo {T : Nat → Int} {n b : Nat} {O0 : List Int} {o : Int} {f : q_Z → q_Z} (hn : n ≤ 160) (h : Y_lv T n b O0 o 3 4 true X_no f) : Y_lv T n b O0 o 2 2 true (fun t S => X_no t S ∧ t ≠ -9) (R_bo T n f) := by
  refine Y_lv_X (fun t S q => q) (Y_loop (g := R_lp T n (-9) 10 f) (P := fun t => t = -9) (oc := fun _ => 10) hn (fun _ => rfl) (fun _ => rfl) (fun k z => rfl) (fun t ht => ?_) (by decide) (by decide) (by decide) (by decide) (by decide) h)
  rw [ht]
  exact ⟨by decide, rfl, rfl, by decide, by decide, by decide, fun _ => by decide, fun q => absurd q (by decide)⟩
theorem Y_ei {T : Nat → Int} {n b : Nat} {O0 : List Int} {o : Int} {f : q_Z → q_Z} (hn : n ≤ 160) (h : Y_lv T n b O0 o 2 2 true (fun t S => X_no t S ∧ t ≠ -9) f) : Y_lv T n b O0 o 1 1 true X_ei (R_ei T n f) := by
  refine Y_lv_X (fun t S q => ⟨q.1.1, q.1.2, q.2⟩) (Y_loop (g := R_lp T n (-8) 11 f) (P := fun t => t = -8) (oc := fun _ => 11) hn (fun _ => rfl) (fun _ => rfl) (fun k z => rfl) (fun t ht => ?_) (by decide) (by decide) (by decide) (by decide) (by decide) h)
  rw [ht]
  exact ⟨by decide, rfl, rfl, by decide, by decide, by decide, fun _ => by decide, fun q => absurd q (by decide)⟩
set_option maxHeartbeats 1000000 in
theorem Y_cp {T : Nat → Int} {n b : Nat} {O0 : List Int} {o : Int} {f F : q_Z → q_Z} (hn : n ≤ 160) (he : ∀ z, F z = R_cp T n f (f z)) (hF : Y_lv T n b O0 o 5 5 false X_su f) : Y_lv T n b O0 o 4 4 false X_no F := by
  intro z a m H my tk ha hm hb hs ht hn1 hn2
  rw [he]
  rcases hF z a m H my tk ha hm hb hs (by omega) hn1 hn2 with ⟨g1, g2⟩ | ⟨S, a1, my1, tk1, h1, h2, h3, h4, h5, h6, h7, h8⟩
  · have e : R_cp T n f (f z) = f z := if_neg (by rw [g1.2]; decide)
    rw [e]
    exact Or.inl ⟨g1, g2⟩
  · have L := L_ok (T := T) h2
    obtain ⟨l1, l2, l3, l4, l5, l6, l7, l8⟩ := L
    have M := L_ok (T := T) l4
    have k6 := h6.trans (Y_u_top (by omega : Y_tp H < 5))
    unfold R_cp
    rw [tk1.1]
    by_cases c : L_t T n a1 = 60 ∨ L_t T n a1 = 61
    · rw [if_pos c]
      obtain ⟨cs, hcs⟩ : ∃ cs, Y_sg (L_t T n a1) = cs := ⟨_, rfl⟩
      obtain ⟨oc, hoc⟩ : ∃ oc : Int, (if L_t T n a1 = 60 then (8 : Int) else 9) = oc := ⟨_, rfl⟩
      have hc : F_rank cs = 4 ∧ K_c oc = cs ∧ cs ≠ -1 ∧ ¬cs ≤ 12 ∧ cs ≠ 13 ∧ cs ≠ 19 ∧ 0 ≤ oc ∧ oc ≤ 15 := by
        subst hcs
        subst hoc
        rcases c with c | c <;> rw [c] <;> decide
      obtain ⟨p1, p2, p3, p4, p5, p6, p7, p8⟩ := hc
      rw [hoc]
      have lt := l5 (by omega)
      obtain ⟨f1, f2, f3⟩ := R_nx_tk tk1
      have st : Y_st T n (false, my1, S, a1) = .inl (true, false, (cs :: H, o, O0 ++ K_o b (R_nx T n (f z))), L_b T n a1) := by
        show Y_s0 T n my1 S a1 = _
        unfold Y_s0
        rw [if_neg (by omega), if_neg (by omega), hcs, if_neg p3]
        unfold Y_bt
        rw [p1, if_pos rfl, k6, if_neg (fun q => by have q2 : Y_tp H = 4 := q.2; omega), K_same f2 f3]
        show Sum.inl (true, decide (cs ≤ 12), _) = _
        rw [decide_eq_false p4]
      rcases hF _ _ (m + 1) (cs :: H) false f1 l4 (by omega) (by rw [f2]; omega) (by rw [f2]; omega) (by show F_rank cs < 5; omega) (fun q => absurd q (by decide)) (fun q => Or.inl rfl) with ⟨g1, g2⟩ | ⟨S2, a2, my2, g1, g2, g3, g4, g5, g6, g7, g8, g9⟩
      · obtain ⟨e1, e2⟩ := R_em_fs (o := oc) (v := 0) g1
        refine Or.inl ⟨e1, ?_⟩
        rw [e2]
        exact h8 _ (Y_ev_go st g2)
      · have N := L_ok (T := T) g3
        rw [f2] at g4 g6
        obtain ⟨e1, e2, e3, e4⟩ := R_em_tk (b := b) (o := oc) (v := 0) g1 (by omega) (by omega) (by omega) ⟨p7, p8⟩
        refine Or.inr ⟨S2, a2, my2, e1, by omega, g3, by omega, by omega, fun i hi => ?_, ?_, ⟨g8.1, g8.2.1, g8.2.2, fun _ => ?_⟩, fun r hr => h8 r (Y_ev_go st (g9 r hr))⟩
        · rw [e3 i (by omega), g6 i (by omega), f3, h5 i hi]
        · rw [Y_u_le (by decide : (4 : Int) ≤ 5) g7, e4, ← List.append_assoc, Y_u_pop (by omega), if_neg (by omega), show 16 * (0 : Int) + oc = oc by omega, p2]
        · rw [g7, Y_u_top (by show F_rank cs < 5; omega)]
          exact p1
    · rw [if_neg c]
      exact Or.inr ⟨S, a1, my1, tk1, h1, h2, h3, h4, h5, Y_u_le (by decide) h6, ⟨h7.1, h7.2.1, h7.2.2, fun q => absurd q c⟩, h8⟩
set_option maxHeartbeats 1000000 in
theorem Y_no {T : Nat → Int} {n b : Nat} {O0 : List Int} {o : Int} {r0 : Bool} {no su : q_Z → q_Z} (hn : n ≤ 160) (ho : r0 = true ↔ o = 5) (h1 : r0 = false → Y_lv T n b O0 (o + 1) 3 4 true X_no no) (h2 : ∀ F : q_Z → q_Z, (∀ z, F z = R_cp T n su (su z)) → Y_lv T n b O0 o 4 4 false X_no F) : Y_lv T n b O0 o 3 4 true X_no (R_no T n r0 no su) := by
  intro z a m H my tk ha hm hb hs ht hn1 _
  have L := L_ok (T := T) ha
  obtain ⟨l1, l2, l3, l4, l5, l6, l7, l8⟩ := L
  have M := L_ok (T := T) l4
  have emy := hn1 rfl
  subst emy
  unfold R_no
  rw [tk.1]
  by_cases c : L_t T n a = -10
  · rw [if_pos c]
    by_cases c0 : r0 = true
    · rw [if_pos c0]
      obtain ⟨e1, e2⟩ := R_fl_tk tk
      refine Or.inl ⟨e1, Y_ev_in ?_⟩
      rw [e2]
      show Y_s1 T n true (H, o, O0 ++ K_o b z) a = _
      unfold Y_s1
      rw [if_neg (by omega), if_pos ⟨c, rfl⟩, if_pos (ho.mp c0)]
      rfl
    · rw [if_neg c0]
      have o5 : o ≠ 5 := fun q => c0 (ho.mpr q)
      have lt := l5 (by omega)
      obtain ⟨f1, f2, f3⟩ := R_nx_tk tk
      have st : Y_st T n (true, true, (H, o, O0 ++ K_o b z), a) = .inl (true, true, (13 :: H, o + 1, O0 ++ K_o b (R_nx T n z)), L_b T n a) := by
        show Y_s1 T n true (H, o, O0 ++ K_o b z) a = _
        unfold Y_s1
        rw [if_neg (by omega), if_pos ⟨c, rfl⟩, if_neg o5, K_same f2 f3]
      have r1 : r0 = false := by
        cases r0 with
        | true => exact absurd rfl c0
        | false => rfl
      rcases h1 r1 _ _ (m + 1) (13 :: H) true f1 l4 (by omega) (by rw [f2]; exact hb) (by rw [f2]; omega) (by show F_rank 13 < 4; decide) (fun _ => rfl) (fun q => absurd q (by decide)) with ⟨g1, g2⟩ | ⟨S, a2, my2, g1, g2, g3, g4, g5, g6, g7, g8, g9⟩
      · obtain ⟨e1, e2⟩ := R_em_fs (o := 4) (v := 0) g1
        refine Or.inl ⟨e1, ?_⟩
        rw [e2]
        exact Y_ev_go st g2
      · have N := L_ok (T := T) g3
        rw [f2] at g4 g6
        obtain ⟨e1, e2, e3, e4⟩ := R_em_tk (b := b) (o := 4) (v := 0) g1 (by omega) (by omega) (by omega) (by omega)
        refine Or.inr ⟨S, a2, my2, e1, by omega, g3, by omega, by omega, fun i hi => ?_, ?_, g8, fun r hr => Y_ev_go st (g9 r hr)⟩
        · rw [e3 i (by omega), g6 i hi, f3]
        · rw [g7, e4, ← List.append_assoc, Y_u_pop (by show (3 : Int) ≤ F_rank 13; decide), if_pos (Or.inl rfl), Int.add_sub_cancel]
          rfl
  · rw [if_neg c]
    rcases h2 (fun z => R_cp T n su (su z)) (fun _ => rfl) z a m H true tk ha hm hb hs ht (fun q => absurd q (by decide)) (fun _ => Or.inr c) with g | ⟨S, a2, my2, g1, g2, g3, g4, g5, g6, g7, g8, g9⟩
    · exact Or.inl g
    · exact Or.inr ⟨S, a2, my2, g1, g2, g3, g4, g5, g6, Y_u_le (by decide) g7, g8, g9⟩
def q_Yp (T : Nat → Int) (n b : Nat) (O0 : List Int) (o : Int) (p : (q_Z → q_Z) × (q_Z → q_Z) × (q_Z → q_Z)) : Prop := Y_lv T n b O0 o 7 100 false (fun _ _ => True) p.1 ∧ Y_lv T n b O0 o 3 4 true X_no p.2.1 ∧ Y_lv T n b O0 o 1 1 true X_ei p.2.2
theorem Y_mk {T : Nat → Int} {n b : Nat} {O0 : List Int} {o : Int} {r0 : Bool} {p : (q_Z → q_Z) × (q_Z → q_Z) × (q_Z → q_Z)} (hn : n ≤ 160) (ho : r0 = true ↔ o = 5) (h : r0 = false → q_Yp T n b O0 (o + 1) p) : q_Yp T n b O0 o (R_mk T n r0 p) := by
  have h1 := Y_on (r0 := r0) (on := p.1) (ei := p.2.2) hn ho (fun q => (h q).1) (fun q => (h q).2.2)
  have h2 := Y_su hn (Y_te hn h1)
  have h3 := Y_no hn ho (fun q => (h q).2.1) (fun F he => Y_cp hn he h2)
  exact ⟨h1, h3, Y_ei hn (Y_bo hn h3)⟩
theorem Y_lvs {T : Nat → Int} {n b : Nat} {O0 : List Int} (hn : n ≤ 160) : ∀ r : Nat, r ≤ 5 → q_Yp T n b O0 (5 - r) (R_lv T n r)
  | 0, _ => Y_mk hn ⟨fun _ => rfl, fun _ => rfl⟩ (fun q => absurd q (by decide))
  | r + 1, hr => Y_mk hn ⟨fun q => absurd q (by decide), fun q => absurd q (by omega)⟩ (fun _ => by
    have h := Y_lvs (O0 := O0) (b := b) (T := T) hn r (by omega)
    rw [show (5 : Int) - (r + 1 : Nat) + 1 = 5 - r by omega]
    exact h)
end
section
/-! THE TWO READERS: a part, the whole -/
theorem R_nx_tk0 {T : Nat → Int} {n a : Nat} {z : q_Z} (h4 : z.2.2.2.2.1 = (a : Nat)) (h5 : z.2.2.2.2.2.1 = -1) : q_tok T n (R_nx T n z) a ∧ (R_nx T n z).1 = z.1 ∧ (R_nx T n z).2.2.2.2.2.2 = z.2.2.2.2.2.2 := by
  obtain ⟨cn, tok, val, fr, bh, ft, C⟩ := z
  simp only at h4 h5
  subst h4
  subst h5
  unfold R_nx
  simp only [Int.toNat_natCast]
  rw [if_neg (by omega)]
  have e := R_tk_any (T := T) (n := n) (i := F_wh F_blk T (n - a) a) (v := val) (v' := 0)
  refine ⟨⟨e.1, fun hz => e.2.1 (by rw [e.1]; exact hz), rfl, ?_, rfl⟩, rfl, rfl⟩
  show (((R_tk T n _ val).2.2 : Nat) : Int) = ((L_b T n a : Nat) : Int)
  rw [e.2.2]
  rfl
theorem R_on_fs {T : Nat → Int} {n : Nat} {r0 : Bool} {on ei : q_Z → q_Z} {z : q_Z} (h : q_fs z) : q_fs (R_on T n r0 on ei z) ∧ (R_on T n r0 on ei z).2.2.2.2.2.1 = z.2.2.2.2.2.1 := by
  unfold R_on
  rw [if_neg (by rw [h.2]; decide), if_pos (Or.inl (by rw [h.2]; decide))]
  exact R_fl_fs h
theorem R_lp_fs {T : Nat → Int} {n : Nat} {t o : Int} {f : q_Z → q_Z} {k : Nat} {z : q_Z} (ht : t ≠ -1) (h : q_fs z) : R_lp T n t o f k z = z := by
  cases k with
  | zero => rfl
  | succ k => rw [R_lp, if_neg (by rw [h.2]; exact fun q => ht q.symm)]
theorem R_ls_fs {T : Nat → Int} {n : Nat} {f : q_Z → q_Z} {k : Nat} {z : q_Z} (h : q_fs z) : R_ls T n f k z = z := by
  cases k with
  | zero => rfl
  | succ k => rw [R_ls, if_neg (by rw [h.2]; decide)]
def q_sk (f : q_Z → q_Z) : Prop := ∀ z, q_fs z → q_fs (f z) ∧ (f z).2.2.2.2.2.1 = z.2.2.2.2.2.1
theorem R_mk_fs {T : Nat → Int} {n : Nat} {r0 : Bool} {p : (q_Z → q_Z) × (q_Z → q_Z) × (q_Z → q_Z)} : q_sk (R_mk T n r0 p).2.2 := by
  intro z hz
  have h1 : q_sk (R_on T n r0 p.1 p.2.2) := fun z h => R_on_fs h
  have h2 : q_sk (R_te T n (R_on T n r0 p.1 p.2.2)) := fun z h => by
    unfold R_te
    rw [R_lp_fs (by decide) (h1 z h).1]
    exact h1 z h
  have h3 : q_sk (R_su T n (R_te T n (R_on T n r0 p.1 p.2.2))) := fun z h => by
    unfold R_su
    rw [R_ls_fs (h2 z h).1]
    exact h2 z h
  have h4 : q_sk (R_no T n r0 p.2.1 (R_su T n (R_te T n (R_on T n r0 p.1 p.2.2)))) := fun z h => by
    unfold R_no R_cp
    rw [if_neg (by rw [h.2]; decide), if_neg (by rw [(h3 z h).1.2]; decide)]
    exact h3 z h
  show q_fs (R_ei T n (R_bo T n (R_no T n r0 p.2.1 (R_su T n (R_te T n (R_on T n r0 p.1 p.2.2))))) z) ∧ _
  have h5 : q_sk (R_bo T n (R_no T n r0 p.2.1 (R_su T n (R_te T n (R_on T n r0 p.1 p.2.2))))) := fun z h => by
    unfold R_bo
    rw [R_lp_fs (by decide) (h4 z h).1]
    exact h4 z h
  show q_fs (R_ei T n _ z) ∧ (R_ei T n _ z).2.2.2.2.2.1 = _
  unfold R_ei
  rw [R_lp_fs (by decide) (h5 z hz).1]
  exact h5 z hz
theorem R_pt_fs {T : Nat → Int} {n : Nat} {key : Int} {z : q_Z} (hk : key ≠ -1) (h : q_fs z) : q_fs (R_pt T n key z) ∧ (R_pt T n key z).2.2.2.2.2.1 = z.2.2.2.2.2.1 := by
  have h1 := R_ex_fs (T := T) (n := n) hk h
  have h2 : q_fs ((R_lv T n 5).2.2 (R_ex T n key z)) ∧ ((R_lv T n 5).2.2 (R_ex T n key z)).2.2.2.2.2.1 = (R_ex T n key z).2.2.2.2.2.1 := R_mk_fs _ h1.1
  have h3 := R_ex_fs (T := T) (n := n) (w := 59) (by decide) h2.1
  have h4 := R_em_fs (o := 0) (v := 0) h3.1
  exact ⟨h4.1, h4.2.trans (h3.2.trans (h2.2.trans h1.2))⟩
/-- a part: its fault; or its code, in both readers -/
theorem Y_part {T : Nat → Int} {n a b : Nat} {key : Int} {z : q_Z} (O0 : List Int) (hn : n ≤ 160) (hk : -7 ≤ key ∧ key ≤ -5) (tk : q_tok T n z a) (ha : a ≤ n) (hb : z.1 = b) (hs : (b : Int) ≤ L_i T n a) :
    (q_fs (R_pt T n key z) ∧ ((L_t T n a ≠ key ∧ (R_pt T n key z).2.2.2.2.2.1.toNat = L_i T n a) ∨ (L_t T n a = key ∧ Y_ev T n (true, true, ([], 0, O0), L_b T n a) (false, (R_pt T n key z).2.2.2.2.2.1.toNat, 0, [])))) ∨
    (L_t T n a = key ∧ (R_ex T n key z).1 = b ∧ ∃ (k a2 i : Nat) (K : List Int), K.length = k ∧ (R_pt T n key z).1 = ((b + k + 1 : Nat) : Int) ∧ q_tok T n (R_pt T n key z) a2 ∧ a < a2 ∧ a2 ≤ n ∧ ((b + k + 1 : Nat) : Int) ≤ L_i T n a2 ∧ (∀ j, j < b → (R_pt T n key z).2.2.2.2.2.2 j = z.2.2.2.2.2.2 j) ∧ (R_pt T n key z).2.2.2.2.2.2 (b + k) = 0 ∧ (∀ j, j < k → K.getD j 0 = K_c ((R_pt T n key z).2.2.2.2.2.2 (b + j))) ∧ Y_ev T n (true, true, ([], 0, O0), L_b T n a) (true, i, a2, O0 ++ K)) := by
  have L := L_ok (T := T) ha
  obtain ⟨l1, l2, l3, l4, l5, l6, l7, l8⟩ := L
  have M := L_ok (T := T) l4
  by_cases c : L_t T n a = key
  · have lt := l5 (by omega)
    have ex : R_ex T n key z = R_nx T n z := if_pos (tk.1.trans c)
    obtain ⟨f1, f2, f3⟩ := R_nx_tk tk
    have K0 : K_o b (R_nx T n z) = [] := by
      unfold K_o
      rw [f2, hb, show ((b : Int).toNat - b) = 0 by omega]
      rfl
    have hp : R_pt T n key z = R_em 0 0 (R_ex T n 59 ((R_lv T n 5).2.2 (R_nx T n z))) := by
      unfold R_pt
      rw [ex]
    rw [hp]
    have lv := (Y_lvs (O0 := O0) (b := b) (T := T) hn 5 (Nat.le_refl 5)).2.2
    rw [show (5 : Int) - (5 : Nat) = 0 by omega] at lv
    rcases lv (R_nx T n z) (L_b T n a) 1 [] true f1 l4 (by omega) (by omega) (by omega) (by decide) (fun _ => rfl) (fun q => absurd q (by decide)) with ⟨g1, g2⟩ | ⟨S, a2, my2, g1, g2, g3, g4, g5, g6, g7, g8, g9⟩
    · have h3 := R_ex_fs (T := T) (n := n) (w := 59) (by decide) g1
      have h4 := R_em_fs (o := 0) (v := 0) h3.1
      refine Or.inl ⟨h4.1, Or.inr ⟨c, ?_⟩⟩
      rw [h4.2, h3.2]
      rw [K0, List.append_nil] at g2
      exact g2
    · rw [K0, List.append_nil] at g9
      have N := L_ok (T := T) g3
      by_cases c2 : L_t T n a2 = 59
      · have lt2 := N.2.2.2.2.1 (by omega)
        have N2 := L_ok (T := T) N.2.2.2.1
        have ex2 : R_ex T n 59 ((R_lv T n 5).2.2 (R_nx T n z)) = R_nx T n ((R_lv T n 5).2.2 (R_nx T n z)) := if_pos (g1.1.trans c2)
        rw [ex2]
        obtain ⟨e1, e2, e3⟩ := R_nx_tk g1
        obtain ⟨d1, d2, d3, d4⟩ := R_em_tk (b := b) (o := 0) (v := 0) e1 (by omega) (by omega) (by omega) (by omega)
        generalize (R_lv T n 5).2.2 (R_nx T n z) = w at *
        obtain ⟨k, hk1⟩ : ∃ k : Nat, w.1 = ((b + k : Nat) : Int) := ⟨w.1.toNat - b, by omega⟩
        have hlen : (K_o b w).length = k := by
          unfold K_o
          rw [List.length_map, List.length_range, hk1]
          omega
        refine Or.inr ⟨c, by rw [ex, f2]; exact hb, k, L_b T n a2, L_i T n a2, K_o b w, hlen, by rw [d2, e2]; omega, d1, by omega, N.2.2.2.1, by omega, fun j hj => ?_, ?_, fun j hj => ?_, g9 _ (Y_ev_in ?_)⟩
        · rw [d3 j (by omega), e3, g6 j (by omega), f3]
        · have hl : w.1 < 160 := by omega
          unfold R_em
          rw [if_pos (by rw [e2]; exact hl)]
          show F_u _ (R_nx T n w).1.toNat _ (b + k) = 0
          unfold F_u
          rw [if_pos (by rw [e2]; omega), q_code (by omega) (by omega) (by omega) (by omega)]
          rfl
        · rw [d3 (b + j) (by omega), e3]
          unfold K_o
          rw [List.getD_eq_getElem?_getD, List.getElem?_map, List.getElem?_range (by omega)]
          rfl
        · show Y_s0 T n my2 S a2 = _
          unfold Y_s0
          rw [if_pos c2, g7]
          rfl
      · have ex2 : R_ex T n 59 ((R_lv T n 5).2.2 (R_nx T n z)) = R_fl ((R_lv T n 5).2.2 (R_nx T n z)) := if_neg (fun q => c2 (g1.1.symm.trans q))
        rw [ex2]
        obtain ⟨e1, e2⟩ := R_fl_tk g1
        have h4 := R_em_fs (o := 0) (v := 0) e1
        refine Or.inl ⟨h4.1, Or.inr ⟨c, g9 _ (Y_ev_in ?_)⟩⟩
        rw [h4.2, e2]
        by_cases c3 : L_t T n a2 = 41
        · show Y_s0 T n my2 S a2 = _
          unfold Y_s0
          rw [if_neg c2, if_pos c3, g7]
          rfl
        · exact Y_bad g8 c2 c3
  · have ex : R_ex T n key z = R_fl z := if_neg (fun q => c (tk.1.symm.trans q))
    obtain ⟨e1, e2⟩ := R_fl_tk tk
    have h2 : q_fs ((R_lv T n 5).2.2 (R_fl z)) ∧ ((R_lv T n 5).2.2 (R_fl z)).2.2.2.2.2.1 = (R_fl z).2.2.2.2.2.1 := R_mk_fs _ e1
    have h3 := R_ex_fs (T := T) (n := n) (w := 59) (by decide) h2.1
    have h4 := R_em_fs (o := 0) (v := 0) h3.1
    have hp : R_pt T n key z = R_em 0 0 (R_ex T n 59 ((R_lv T n 5).2.2 (R_fl z))) := by
      unfold R_pt
      rw [ex]
    rw [hp]
    exact Or.inl ⟨h4.1, Or.inl ⟨c, by rw [h4.2, h3.2, h2.2, e2]; rfl⟩⟩
/-- the model's reading of a text, k parts still to come, from part p on: good, at, out, starts -/
def Y_tx (T : Nat → Int) (n : Nat) : Nat → Nat → Nat → List Int → (Nat → Nat) → Option Nat → List Int → (Nat → Nat) → Prop
  | 0, p, a, O, s, r, O2, s2 => if L_t T n a = -2 then r = none ∧ O2 = O ∧ s2 = (fun i => if i = p then O.length else s i) else r = some (L_i T n a)
  | k + 1, p, a, O, s, r, O2, s2 => if L_t T n a = -5 - p then (∃ f, Y_ev T n (true, true, ([], 0, O), L_b T n a) (false, f, 0, []) ∧ r = some f) ∨ (∃ i a2 O1, Y_ev T n (true, true, ([], 0, O), L_b T n a) (true, i, a2, O1) ∧ Y_tx T n k (p + 1) a2 O1 (fun i => if i = p then O.length else s i) r O2 s2) else r = some (L_i T n a)
/-- a part's code in the class (from b on) and in the model (from c on), k signs -/
def q_cdm (C : Nat → Int) (b : Nat) (O : List Int) (c k : Nat) : Prop := C (b + k) = 0 ∧ ∀ j, j < k → O.getD (c + j) 0 = K_c (C (b + j))
theorem Y_text {T : Nat → Int} {n : Nat} {z : q_Z} {st : Nat → Int} (hn : n ≤ 160) (tk : q_tok T n z 0) (hz : z.1 = 0) :
    (q_fs (R_z5 T n z) ∧ Y_tx T n 3 0 0 [] (fun _ => 0) (some (R_z5 T n z).2.2.2.2.2.1.toNat) [] (fun _ => 0)) ∨
    ((R_z5 T n z).2.2.2.2.2.1 = -1 ∧ ∃ (O : List Int) (s : Nat → Nat), Y_tx T n 3 0 0 [] (fun _ => 0) none O s ∧ s 0 = 0 ∧ s 3 = O.length ∧ ∀ p, p < 3 → ∃ b k : Nat, R_st T n z st p = (b : Nat) ∧ s (p + 1) = s p + k ∧ ((b + k : Nat) : Int) < (R_z5 T n z).1 ∧ q_cdm (R_z5 T n z).2.2.2.2.2.2 b O (s p) k) := by
  have t0 : R_z5 T n z = R_ex T n (-2) (R_pt T n (-7) (R_pt T n (-6) (R_pt T n (-5) z))) := rfl
  rcases Y_part (key := -5) [] hn (by omega) tk (Nat.zero_le n) (b := 0) hz (by omega) with ⟨g1, g2⟩ | ⟨x0, y0, k1, a1, i1, K1, x1, x2, x3, x4, x5, x6, x7, x8, x9, x10⟩
  · left
    have h2 := R_pt_fs (T := T) (n := n) (key := -6) (by decide) g1
    have h3 := R_pt_fs (T := T) (n := n) (key := -7) (by decide) h2.1
    have h4 := R_ex_fs (T := T) (n := n) (w := -2) (by decide) h3.1
    rw [t0]
    refine ⟨h4.1, ?_⟩
    rw [h4.2, h3.2, h2.2]
    unfold Y_tx
    rcases g2 with ⟨g2, g3⟩ | ⟨g2, g3⟩
    · rw [if_neg (by rw [show (-5 : Int) - (0 : Nat) = -5 by omega]; exact g2), g3]
    · rw [if_pos (by rw [g2]; rfl)]
      exact Or.inl ⟨_, g3, rfl⟩
  generalize hz1 : R_pt T n (-5) z = z1 at *
  rcases Y_part (key := -6) ([] ++ K1) hn (by omega) x3 x5 (b := 0 + k1 + 1) x2 x6 with ⟨g1, g2⟩ | ⟨u0, v0, k2, a2, i2, K2, u1, u2, u3, u4, u5, u6, u7, u8, u9, u10⟩
  · left
    have h3 := R_pt_fs (T := T) (n := n) (key := -7) (by decide) g1
    have h4 := R_ex_fs (T := T) (n := n) (w := -2) (by decide) h3.1
    rw [t0]
    refine ⟨h4.1, ?_⟩
    rw [h4.2, h3.2]
    unfold Y_tx
    rw [if_pos (by rw [x0]; rfl)]
    refine Or.inr ⟨i1, a1, _, x10, ?_⟩
    unfold Y_tx
    rcases g2 with ⟨g2, g3⟩ | ⟨g2, g3⟩
    · rw [if_neg (by rw [show (-5 : Int) - ((0 + 1 : Nat) : Int) = -6 by omega]; exact g2), g3]
    · rw [if_pos (by rw [g2]; rfl)]
      exact Or.inl ⟨_, g3, rfl⟩
  generalize hz2 : R_pt T n (-6) z1 = z2 at *
  rcases Y_part (key := -7) ([] ++ K1 ++ K2) hn (by omega) u3 u5 (b := 0 + k1 + 1 + k2 + 1) u2 u6 with ⟨g1, g2⟩ | ⟨w0, y3, k3, a3, i3, K3, w1, w2, w3, w4, w5, w6, w7, w8, w9, w10⟩
  · left
    have h4 := R_ex_fs (T := T) (n := n) (w := -2) (by decide) g1
    rw [t0]
    refine ⟨h4.1, ?_⟩
    rw [h4.2]
    unfold Y_tx
    rw [if_pos (by rw [x0]; rfl)]
    refine Or.inr ⟨i1, a1, _, x10, ?_⟩
    unfold Y_tx
    rw [if_pos (by rw [u0]; rfl)]
    refine Or.inr ⟨i2, a2, _, u10, ?_⟩
    unfold Y_tx
    rcases g2 with ⟨g2, g3⟩ | ⟨g2, g3⟩
    · rw [if_neg (by rw [show (-5 : Int) - ((0 + 1 + 1 : Nat) : Int) = -7 by omega]; exact g2), g3]
    · rw [if_pos (by rw [g2]; rfl)]
      exact Or.inl ⟨_, g3, rfl⟩
  have hrs : R_st T n z st = F_u (F_u (F_u st 0 (R_ex T n (-5) z).1) 1 (R_ex T n (-6) z1).1) 2 (R_ex T n (-7) z2).1 := by
    rw [← hz2, ← hz1]
    rfl
  generalize hz3 : R_pt T n (-7) z2 = z3 at *
  rw [t0]
  by_cases c : L_t T n a3 = -2
  · right
    have N := L_ok (T := T) w5
    have ex : R_ex T n (-2) z3 = R_nx T n z3 := if_pos (w3.1.trans c)
    rw [ex]
    obtain ⟨e1, e2, e3⟩ := R_nx_tk w3
    refine ⟨e1.2.2.2.2, [] ++ K1 ++ K2 ++ K3, fun i => if i = 3 then k1 + k2 + k3 else if i = 2 then k1 + k2 else if i = 1 then k1 else if i = 0 then 0 else 0, ?_, rfl, ?_, ?_⟩
    · unfold Y_tx
      rw [if_pos (by rw [x0]; rfl)]
      refine Or.inr ⟨i1, a1, _, x10, ?_⟩
      unfold Y_tx
      rw [if_pos (by rw [u0]; rfl)]
      refine Or.inr ⟨i2, a2, _, u10, ?_⟩
      unfold Y_tx
      rw [if_pos (by rw [w0]; rfl)]
      refine Or.inr ⟨i3, a3, _, w10, ?_⟩
      unfold Y_tx
      rw [if_pos c]
      refine ⟨rfl, rfl, ?_⟩
      funext i
      simp only [List.nil_append, List.length_append, x1, u1, w1, List.length_nil, Nat.zero_add]
    · simp only [List.nil_append, List.length_append, x1, u1, w1, if_true]
    · have g1 : ∀ j, j < k1 → ([] ++ K1 ++ K2 ++ K3).getD j 0 = K1.getD j 0 := fun j hj => by
        simp only [List.nil_append, List.getD_eq_getElem?_getD]
        rw [List.getElem?_append_left (by simp only [List.length_append]; omega), List.getElem?_append_left (by omega)]
      have g2 : ∀ j, j < k2 → ([] ++ K1 ++ K2 ++ K3).getD (k1 + j) 0 = K2.getD j 0 := fun j hj => by
        simp only [List.nil_append, List.getD_eq_getElem?_getD]
        rw [List.getElem?_append_left (by simp only [List.length_append]; omega), List.getElem?_append_right (by omega), x1, show k1 + j - k1 = j by omega]
      have g3 : ∀ j, j < k3 → ([] ++ K1 ++ K2 ++ K3).getD (k1 + k2 + j) 0 = K3.getD j 0 := fun j hj => by
        simp only [List.nil_append, List.getD_eq_getElem?_getD]
        rw [List.getElem?_append_right (by simp only [List.length_append]; omega), List.length_append, x1, u1, show k1 + k2 + j - (k1 + k2) = j by omega]
      intro p hp
      rw [e3, hrs]
      rcases (show p = 0 ∨ p = 1 ∨ p = 2 by omega) with rfl | rfl | rfl
      · refine ⟨0, k1, y0, by show k1 = 0 + k1; omega, by rw [e2, w2]; omega, ?_, fun j hj => ?_⟩
        · rw [w7 _ (by omega), u7 _ (by omega), x8]
        · show ([] ++ K1 ++ K2 ++ K3).getD (0 + j) 0 = _
          rw [w7 _ (by omega), u7 _ (by omega), Nat.zero_add, g1 j hj, x9 j hj, Nat.zero_add]
      · refine ⟨0 + k1 + 1, k2, v0, rfl, by rw [e2, w2]; omega, ?_, fun j hj => ?_⟩
        · rw [w7 _ (by omega), u8]
        · show ([] ++ K1 ++ K2 ++ K3).getD (k1 + j) 0 = _
          rw [w7 _ (by omega), g2 j hj, u9 j hj]
      · refine ⟨0 + k1 + 1 + k2 + 1, k3, y3, rfl, by rw [e2, w2]; omega, w8, fun j hj => ?_⟩
        show ([] ++ K1 ++ K2 ++ K3).getD (k1 + k2 + j) 0 = _
        rw [g3 j hj, w9 j hj]
  · left
    have ex : R_ex T n (-2) z3 = R_fl z3 := if_neg (fun q => c (w3.1.symm.trans q))
    rw [ex]
    obtain ⟨e1, e2⟩ := R_fl_tk w3
    refine ⟨e1, ?_⟩
    rw [e2]
    unfold Y_tx
    rw [if_pos (by rw [x0]; rfl)]
    refine Or.inr ⟨i1, a1, _, x10, ?_⟩
    unfold Y_tx
    rw [if_pos (by rw [u0]; rfl)]
    refine Or.inr ⟨i2, a2, _, u10, ?_⟩
    unfold Y_tx
    rw [if_pos (by rw [w0]; rfl)]
    refine Or.inr ⟨i3, a3, _, w10, ?_⟩
    unfold Y_tx
    rw [if_neg c]
    rfl
end
section
/-! THE TWO READERS: what is put out is well formed, and never deep -/
def Y_bi : List Int → Nat
  | [] => 0
  | c :: H => Y_bi H + (if c = 11 ∨ c = 12 ∨ (14 ≤ c ∧ c ≤ 18) then 1 else 0)
def Y_ze : List Int → Nat
  | [] => 0
  | c :: H => Y_ze H + (if c = 0 then 1 else 0)
def Y_op : List Int → Nat
  | [] => 0
  | c :: H => Y_op H + (if c = 0 ∨ c = 13 ∨ c = 19 then 1 else 0)
def q_hrk : List Int → Prop
  | [] => True
  | c :: H => q_hrk H ∧ (q_bi c → Y_tp H < F_rank c) ∧ (c = 13 → Y_tp H ≤ 3)
def q_hs (c : Int) : Prop := c = 0 ∨ q_una c ∨ q_bi c
def Y_lev (r : Int) : Nat := if r ≤ 0 then 0 else if r = 1 then 1 else if r ≤ 3 then 2 else if r = 4 then 3 else if r = 5 then 4 else 5
theorem Y_lev_5 {r : Int} : Y_lev r ≤ 5 := by
  unfold Y_lev
  (repeat' split) <;> omega
theorem Y_bi_le : ∀ H : List Int, q_hrk H → (∀ c, c ∈ H → q_hs c) → Y_bi H ≤ 5 * Y_ze H + Y_lev (Y_tp H)
  | [], _, _ => Nat.zero_le _
  | c :: H, h, hs => by
    have ih := Y_bi_le H h.1 (fun x hx => hs x (List.mem_cons_of_mem _ hx))
    have l5 := Y_lev_5 (r := Y_tp H)
    rcases hs c List.mem_cons_self with e | e | e
    · subst e
      rw [Y_bi, Y_ze, if_neg (by omega), if_pos rfl]
      omega
    · rcases e with e | e
      · subst e
        have h3 := h.2.2 rfl
        have : Y_lev (Y_tp H) ≤ 2 := by
          unfold Y_lev
          (repeat' split) <;> omega
        rw [Y_bi, Y_ze, if_neg (by omega), if_neg (by omega)]
        show _ ≤ 5 * (Y_ze H + 0) + 2
        omega
      · subst e
        rw [Y_bi, Y_ze, if_neg (by omega), if_neg (by omega)]
        show _ ≤ 5 * (Y_ze H + 0) + 5
        omega
    · have h2 := h.2.1 e
      have e0 : c = 11 ∨ c = 12 ∨ (14 ≤ c ∧ c ≤ 18) := e
      rw [Y_bi, Y_ze, if_pos e0, if_neg (by omega)]
      have : Y_lev (Y_tp H) + 1 ≤ Y_lev (F_rank c) := by
        have hr : F_rank c = 1 ∨ F_rank c = 2 ∨ F_rank c = 4 ∨ F_rank c = 5 ∨ F_rank c = 6 := by
          unfold F_rank
          omega
        unfold Y_lev
        rcases hr with q | q | q | q | q <;> rw [q] at h2 ⊢ <;> (repeat' split) <;> omega
      show _ ≤ 5 * (Y_ze H + 0) + Y_lev (F_rank c)
      omega
theorem Y_ze_op : ∀ H : List Int, Y_ze H ≤ Y_op H
  | [] => Nat.le_refl _
  | c :: H => by
    have ih := Y_ze_op H
    rw [Y_ze, Y_op]
    by_cases e : c = 0
    · rw [if_pos e, if_pos (Or.inl e)]
      omega
    · rw [if_neg e]
      omega
/-- what holds of the yard at any time; w: a number is wanted -/
def q_Yi (s a : Nat) (w : Nat) (S : q_Y) : Prop := S.2.1 = Y_op S.1 ∧ Y_op S.1 ≤ 5 ∧ q_hrk S.1 ∧ (∀ c, c ∈ S.1 → q_hs c) ∧ s ≤ S.2.2.length ∧ S.1.length + S.2.2.length ≤ a ∧ ∃ D : Nat → Nat, q_wfP (fun i => S.2.2.getD i 0) s S.2.2.length D ∧ (∀ i, i ≤ S.2.2.length → D i ≤ 31) ∧ D S.2.2.length + w = Y_bi S.1 + 1
theorem Y_gd {O : List Int} {c : Int} : (O ++ [c]).getD O.length 0 = c := by
  rw [List.getD_eq_getElem?_getD, List.getElem?_append_right (Nat.le_refl _), Nat.sub_self]
  rfl
theorem Y_gl {O : List Int} {c : Int} {i : Nat} (h : i < O.length) : (O ++ [c]).getD i 0 = O.getD i 0 := by
  rw [List.getD_eq_getElem?_getD, List.getElem?_append_left h, List.getD_eq_getElem?_getD]
theorem Y_wf_ext {O : List Int} {c : Int} {s n : Nat} {D : Nat → Nat} (hw : q_wfP (fun i => O.getD i 0) s O.length D) (hs : s ≤ O.length) (hb : ∀ i, i ≤ O.length → D i ≤ 31) (hn : n ≤ 31) (hst : (q_pu c ∧ n = D O.length + 1) ∨ (q_una c ∧ 1 ≤ D O.length ∧ n = D O.length) ∨ (q_bi c ∧ 2 ≤ D O.length ∧ n + 1 = D O.length)) : q_wfP (fun i => (O ++ [c]).getD i 0) s (O ++ [c]).length (F_un D (O.length + 1) n) ∧ (∀ i, i ≤ (O ++ [c]).length → F_un D (O.length + 1) n i ≤ 31) ∧ F_un D (O.length + 1) n (O ++ [c]).length = n := by
  have el : (O ++ [c]).length = O.length + 1 := by rw [List.length_append]; rfl
  rw [el]
  refine ⟨q_wfP_ext hw hs (fun i _ hi => Y_gl hi) (by rw [Y_gd]; exact hst), fun i hi => ?_, F_un_s⟩
  unfold F_un
  split
  · exact hn
  · exact hb i (by omega)
theorem Y_un_i {s a : Nat} {r : Int} (hr : 1 ≤ r) : ∀ (H : List Int) (p : Int) (O : List Int), q_Yi s a 0 (H, p, O) → q_Yi s a 0 (Y_un r H p O) ∧ Y_tp (Y_un r H p O).1 < r
  | [], p, O, h => ⟨h, by show (-1 : Int) < r; omega⟩
  | c :: H, p, O, h => by
    rw [Y_un]
    by_cases k : F_rank c < r
    · rw [if_pos k]
      exact ⟨h, k⟩
    · rw [if_neg k]
      obtain ⟨h1, h2, h3, h4, h5, h6, D, h7, h8, h9⟩ := h
      have hb := Y_bi_le (c :: H) h3 h4
      have hz := Y_ze_op (c :: H)
      have hl := Y_lev_5 (r := Y_tp (c :: H))
      simp only at h1 h2 h5 h6 h7 h8 h9
      rw [List.length_cons] at h6
      have hc : q_una c ∨ q_bi c := by
        rcases h4 c List.mem_cons_self with e | e
        · exfalso
          apply k
          rw [e]
          show (0 : Int) < r
          omega
        · exact e
      refine Y_un_i hr H _ _ ⟨?_, ?_, h3.1, fun x hx => h4 x (List.mem_cons_of_mem _ hx), ?_, ?_, ?_⟩
      · show (if c = 13 ∨ c = 19 then p - 1 else p) = Y_op H
        rw [h1, Y_op]
        by_cases e : c = 13 ∨ c = 19
        · rw [if_pos e, if_pos (by omega)]
          omega
        · rw [if_neg e, if_neg (by rintro (q | q); · rw [q] at hc; unfold q_una q_bi at hc; omega
                                   · exact e q)]
          omega
      · rw [Y_op] at h2
        show Y_op H ≤ 5
        omega
      · show s ≤ (O ++ [c]).length
        rw [List.length_append]
        have : s ≤ O.length := h5
        omega
      · show H.length + (O ++ [c]).length ≤ a
        rw [List.length_append]
        show H.length + (O.length + 1) ≤ a
        omega
      · show ∃ D : Nat → Nat, q_wfP (fun i => (O ++ [c]).getD i 0) s (O ++ [c]).length D ∧ (∀ i, i ≤ (O ++ [c]).length → D i ≤ 31) ∧ D (O ++ [c]).length + 0 = Y_bi H + 1
        rcases hc with hu | hbi
        · have e : ¬(c = 11 ∨ c = 12 ∨ (14 ≤ c ∧ c ≤ 18)) := by unfold q_una at hu; omega
          rw [Y_bi, if_neg e] at h9
          have w := Y_wf_ext (n := D O.length) h7 h5 h8 (h8 _ (Nat.le_refl _)) (Or.inr (Or.inl ⟨hu, by omega, rfl⟩))
          exact ⟨_, w.1, w.2.1, by rw [w.2.2]; omega⟩
        · have e : c = 11 ∨ c = 12 ∨ (14 ≤ c ∧ c ≤ 18) := hbi
          rw [Y_bi, if_pos e] at h9
          have h8' := h8 _ (Nat.le_refl _)
          have w := Y_wf_ext (n := D O.length - 1) h7 h5 h8 (by omega) (Or.inr (Or.inr ⟨hbi, by omega, by omega⟩))
          exact ⟨_, w.1, w.2.1, by rw [w.2.2]; omega⟩
theorem q_Yi_le {s a a2 w : Nat} {S : q_Y} (h : a ≤ a2) (hi : q_Yi s a w S) : q_Yi s a2 w S := ⟨hi.1, hi.2.1, hi.2.2.1, hi.2.2.2.1, hi.2.2.2.2.1, Nat.le_trans hi.2.2.2.2.2.1 h, hi.2.2.2.2.2.2⟩
/-- one more is held -/
theorem q_Yi_hold {s a w w2 : Nat} {S : q_Y} {c p : Int} (hi : q_Yi s a w S) (hc : (q_bi c ∧ w = 0 ∧ w2 = 1 ∧ Y_tp S.1 < F_rank c ∧ p = S.2.1) ∨ ((c = 0 ∨ c = 13 ∨ c = 19) ∧ w2 = w ∧ S.2.1 ≠ 5 ∧ (c = 13 → Y_tp S.1 ≤ 3) ∧ p = S.2.1 + 1)) : q_Yi s (a + 1) w2 (c :: S.1, p, S.2.2) := by
  obtain ⟨H, p0, O⟩ := S
  obtain ⟨h1, h2, h3, h4, h5, h6, D, h7, h8, h9⟩ := hi
  simp only at h1 h2 h3 h4 h5 h6 h7 h8 h9 hc
  refine ⟨?_, ?_, ⟨h3, fun q => ?_, fun q => ?_⟩, fun x hx => ?_, h5, by show (c :: H).length + O.length ≤ a + 1; rw [List.length_cons]; omega, D, h7, h8, ?_⟩
  · show p = Y_op (c :: H)
    rw [Y_op]
    rcases hc with ⟨k1, k2, k3, k4, k5⟩ | ⟨k1, k2, k3, k4, k5⟩
    · rw [if_neg (by unfold q_bi at k1; omega)]
      omega
    · rw [if_pos k1]
      omega
  · show Y_op (c :: H) ≤ 5
    rw [Y_op]
    rcases hc with ⟨k1, k2, k3, k4, k5⟩ | ⟨k1, k2, k3, k4, k5⟩
    · rw [if_neg (by unfold q_bi at k1; omega)]
      omega
    · rw [if_pos k1]
      omega
  · rcases hc with ⟨k1, k2, k3, k4, k5⟩ | ⟨k1, k2, k3, k4, k5⟩
    · exact k4
    · exfalso
      unfold q_bi at q
      omega
  · rcases hc with ⟨k1, k2, k3, k4, k5⟩ | ⟨k1, k2, k3, k4, k5⟩
    · exfalso
      unfold q_bi at k1
      omega
    · exact k4 q
  · rcases List.mem_cons.mp hx with e | e
    · rw [e]
      rcases hc with ⟨k1, _⟩ | ⟨k1, _⟩
      · exact Or.inr (Or.inr k1)
      · rcases k1 with k | k
        · exact Or.inl k
        · exact Or.inr (Or.inl k)
    · exact h4 x e
  · show D O.length + w2 = Y_bi (c :: H) + 1
    rw [Y_bi]
    rcases hc with ⟨k1, k2, k3, k4, k5⟩ | ⟨k1, k2, k3, k4, k5⟩
    · rw [if_pos (show c = 11 ∨ c = 12 ∨ (14 ≤ c ∧ c ≤ 18) from k1)]
      omega
    · rw [if_neg (by omega)]
      omega
/-- of a whole state -/
def q_Yic (s : Nat) (c : q_Yc) : Prop := q_Yi s c.2.2.2 (if c.1 = true then 1 else 0) c.2.2.1 ∧ (c.1 = true → c.2.1 = true → Y_tp c.2.2.1.1 ≤ 3)
/-- of an end -/
def q_Yir (n s : Nat) (r : q_Yr) : Prop := r.1 = true → s < r.2.2.2.length ∧ r.2.2.2.length ≤ r.2.2.1 ∧ r.2.2.1 ≤ n ∧ ∃ D : Nat → Nat, q_wfP (fun i => r.2.2.2.getD i 0) s r.2.2.2.length D ∧ (∀ i, i ≤ r.2.2.2.length → D i ≤ 31) ∧ D r.2.2.2.length = 1
theorem q_bi_ne {c : Int} (h : q_bi c) : c ≠ 13 ∧ c ≠ 19 ∧ c ≠ 0 ∧ 1 ≤ F_rank c := by
  unfold q_bi at h
  unfold F_rank
  omega
set_option maxHeartbeats 1000000 in
theorem Y_st_i {T : Nat → Int} {n s : Nat} {c : q_Yc} (ha : c.2.2.2 ≤ n) (h : q_Yic s c) : (∀ c2, Y_st T n c = .inl c2 → q_Yic s c2 ∧ c2.2.2.2 ≤ n) ∧ (∀ r, Y_st T n c = .inr r → q_Yir n s r) := by
  obtain ⟨w, my, ⟨H, p, O⟩, a⟩ := c
  have ha : a ≤ n := ha
  have L := L_ok (T := T) ha
  obtain ⟨l1, l2, l3, l4, l5, l6, l7, l8⟩ := L
  have bd : ∀ r, Y_bd T n a = .inr r → q_Yir n s r := by
    intro r hr
    unfold Y_bd at hr
    injection hr with hr
    rw [← hr]
    intro q
    have q : false = true := q
    exact absurd q (by decide)
  have bdl : ∀ c2, Y_bd T n a ≠ .inl c2 := fun c2 q => by unfold Y_bd at q; injection q
  obtain ⟨hi, hm⟩ := h
  cases w with
  | true =>
    have hi : q_Yi s a 1 (H, p, O) := hi
    have hm : my = true → Y_tp H ≤ 3 := hm rfl
    show (∀ c2, Y_s1 T n my (H, p, O) a = .inl c2 → _) ∧ (∀ r, Y_s1 T n my (H, p, O) a = .inr r → _)
    unfold Y_s1
    have opn : ∀ (c : Int) (my2 : Bool), L_t T n a ≠ -2 → p ≠ 5 → (c = 0 ∨ c = 13 ∨ c = 19) → (c = 13 → Y_tp H ≤ 3) → (my2 = true → F_rank c ≤ 3) → q_Yic s (true, my2, (c :: H, p + 1, O), L_b T n a) ∧ L_b T n a ≤ n := by
      intro c my2 ht hp hc h13 hmy
      have lt := l5 ht
      exact ⟨⟨q_Yi_le (a := a + 1) (by show a + 1 ≤ L_b T n a; omega) (q_Yi_hold (S := (H, p, O)) hi (Or.inr ⟨hc, rfl, hp, h13, rfl⟩)), fun _ => hmy⟩, l4⟩
    by_cases c1 : L_t T n a = -3 ∨ L_t T n a = -4
    · rw [if_pos c1]
      refine ⟨fun c2 hc => ?_, fun r hr => by injection hr⟩
      injection hc with hc
      rw [← hc]
      have lt := l5 (by omega)
      refine ⟨⟨?_, fun q => absurd (show false = true from q) (by decide)⟩, l4⟩
      have hv : q_pu (if L_t T n a = -3 then 100000 + L_v T n a else L_v T n a) := by
        unfold q_pu
        split <;> omega
      generalize (if L_t T n a = -3 then 100000 + L_v T n a else L_v T n a) = v at hv
      show q_Yi s (L_b T n a) 0 (Y_un 7 H p (O ++ [v]))
      refine (Y_un_i (by decide) H p (O ++ [v]) ?_).1
      obtain ⟨h1, h2, h3, h4, h5, h6, D, h7, h8, h9⟩ := hi
      simp only at h1 h2 h3 h4 h5 h6 h7 h8 h9
      have hb := Y_bi_le H h3 h4
      have hz := Y_ze_op H
      have hl := Y_lev_5 (r := Y_tp H)
      have w := Y_wf_ext (n := D O.length + 1) h7 h5 h8 (by omega) (Or.inl ⟨hv, rfl⟩)
      refine ⟨h1, h2, h3, h4, by rw [List.length_append]; omega, ?_, _, w.1, w.2.1, ?_⟩
      · show H.length + (O ++ [v]).length ≤ L_b T n a
        rw [List.length_append]
        show H.length + (O.length + 1) ≤ L_b T n a
        omega
      · show F_un D (O.length + 1) (D O.length + 1) (O ++ [v]).length + 0 = Y_bi H + 1
        rw [w.2.2]
        omega
    · rw [if_neg c1]
      by_cases k2 : L_t T n a = -10 ∧ my = true
      · rw [if_pos k2]
        by_cases c5 : p = 5
        · rw [if_pos c5]
          exact ⟨fun c2 q => absurd q (bdl c2), bd⟩
        · rw [if_neg c5]
          refine ⟨fun c2 hc => ?_, fun r hr => by injection hr⟩
          injection hc with hc
          rw [← hc]
          exact opn 13 my (by omega) c5 (Or.inr (Or.inl rfl)) (fun _ => hm k2.2) (fun _ => by decide)
      · rw [if_neg k2]
        by_cases c3 : L_t T n a = 45
        · rw [if_pos c3]
          by_cases c5 : p = 5
          · rw [if_pos c5]
            exact ⟨fun c2 q => absurd q (bdl c2), bd⟩
          · rw [if_neg c5]
            refine ⟨fun c2 hc => ?_, fun r hr => by injection hr⟩
            injection hc with hc
            rw [← hc]
            exact opn 19 false (by omega) c5 (Or.inr (Or.inr rfl)) (fun q => absurd q (by decide)) (fun q => absurd q (by decide))
        · rw [if_neg c3]
          by_cases c4 : L_t T n a = 40
          · rw [if_pos c4]
            by_cases c5 : p = 5
            · rw [if_pos c5]
              exact ⟨fun c2 q => absurd q (bdl c2), bd⟩
            · rw [if_neg c5]
              refine ⟨fun c2 hc => ?_, fun r hr => by injection hr⟩
              injection hc with hc
              rw [← hc]
              exact opn 0 true (by omega) c5 (Or.inl rfl) (fun q => absurd q (by decide)) (fun _ => by decide)
          · rw [if_neg c4]
            exact ⟨fun c2 q => absurd q (bdl c2), bd⟩
  | false =>
    have hi : q_Yi s a 0 (H, p, O) := hi
    show (∀ c2, Y_s0 T n my (H, p, O) a = .inl c2 → _) ∧ (∀ r, Y_s0 T n my (H, p, O) a = .inr r → _)
    unfold Y_s0
    have u1 := Y_un_i (r := 1) (by decide) H p O hi
    have e1 : Y_u 1 (H, p, O) = Y_un 1 H p O := rfl
    rw [e1]
    by_cases c1 : L_t T n a = 59
    · rw [if_pos c1]
      generalize Y_un 1 H p O = S at u1
      obtain ⟨H1, p1, O1⟩ := S
      cases H1 with
      | nil =>
        refine ⟨fun c2 hc => by injection hc, fun r hr => ?_⟩
        injection hr with hr
        rw [← hr]
        intro _
        obtain ⟨⟨h1, h2, h3, h4, h5, h6, D, h7, h8, h9⟩, _⟩ := u1
        simp only at h1 h2 h3 h4 h5 h6 h7 h8 h9
        have h9 : D O1.length = 1 := by
          rw [Y_bi] at h9
          omega
        refine ⟨?_, ?_, l4, D, h7, h8, h9⟩
        · show s < O1.length
          rcases Nat.lt_or_ge s O1.length with z | z
          · exact z
          · have e : s = O1.length := by omega
            rw [← e, h7.1] at h9
            omega
        · show O1.length ≤ L_b T n a
          have h6 : 0 + O1.length ≤ a := h6
          omega
      | cons c H1 => exact ⟨fun c2 q => absurd q (bdl c2), bd⟩
    · rw [if_neg c1]
      by_cases c2 : L_t T n a = 41
      · rw [if_pos c2]
        have lt := l5 (by omega)
        generalize Y_un 1 H p O = S at u1
        obtain ⟨H1, p1, O1⟩ := S
        cases H1 with
        | nil => exact ⟨fun c2 q => absurd q (bdl c2), bd⟩
        | cons c H1 =>
          refine ⟨fun c2 hc => ?_, fun r hr => by injection hr⟩
          injection hc with hc
          rw [← hc]
          refine ⟨⟨?_, fun q => absurd (show false = true from q) (by decide)⟩, l4⟩
          show q_Yi s (L_b T n a) 0 (Y_un 7 H1 (p1 - 1) O1)
          refine (Y_un_i (by decide) H1 _ O1 ?_).1
          obtain ⟨⟨h1, h2, h3, h4, h5, h6, D, h7, h8, h9⟩, ht⟩ := u1
          simp only at h1 h2 h3 h4 h5 h6 h7 h8 h9
          have ec : c = 0 := by
            have ht : F_rank c < 1 := ht
            unfold F_rank at ht
            omega
          subst ec
          rw [Y_op, if_pos (Or.inl rfl)] at h1 h2
          rw [Y_bi, if_neg (by omega)] at h9
          rw [List.length_cons] at h6
          refine ⟨?_, ?_, h3.1, fun x hx => h4 x (List.mem_cons_of_mem _ hx), h5, ?_, D, h7, h8, h9⟩
          · show p1 - 1 = Y_op H1
            omega
          · show Y_op H1 ≤ 5
            omega
          · show H1.length + O1.length ≤ L_b T n a
            omega
      · rw [if_neg c2]
        by_cases c3 : Y_sg (L_t T n a) = -1
        · rw [if_pos c3]
          exact ⟨fun c2 q => absurd q (bdl c2), bd⟩
        · rw [if_neg c3]
          have lt := l5 (fun q => c3 (by rw [q]; rfl))
          have hb : q_bi (Y_sg (L_t T n a)) := by
            unfold q_bi
            unfold Y_sg at c3 ⊢
            omega
          generalize Y_sg (L_t T n a) = cs at c3 hb
          obtain ⟨b1, b2, b3, b4⟩ := q_bi_ne hb
          unfold Y_bt
          by_cases c4 : F_rank cs = 4 ∧ Y_tp (Y_u 5 (H, p, O)).1 = 4
          · rw [if_pos c4]
            exact ⟨fun c2 q => absurd q (bdl c2), bd⟩
          · rw [if_neg c4]
            refine ⟨fun c2 hc => ?_, fun r hr => by injection hr⟩
            injection hc with hc
            rw [← hc]
            have hl : Y_tp (Y_u (if F_rank cs = 4 then 5 else F_rank cs) (H, p, O)).1 < F_rank cs ∧ q_Yi s a 0 (Y_u (if F_rank cs = 4 then 5 else F_rank cs) (H, p, O)) := by
              by_cases k : F_rank cs = 4
              · rw [if_pos k]
                have u5 := Y_un_i (r := 5) (by decide) H p O hi
                refine ⟨?_, u5.1⟩
                have h1 : Y_tp (Y_u 5 (H, p, O)).1 < 5 := u5.2
                have h2 : Y_tp (Y_u 5 (H, p, O)).1 ≠ 4 := fun q => c4 ⟨k, q⟩
                omega
              · rw [if_neg k]
                have u5 := Y_un_i b4 H p O hi
                exact ⟨u5.2, u5.1⟩
            refine ⟨⟨q_Yi_le (a := a + 1) (by show a + 1 ≤ L_b T n a; omega) (q_Yi_hold hl.2 (Or.inl ⟨hb, rfl, rfl, hl.1, rfl⟩)), fun _ q => ?_⟩, l4⟩
            have q : decide (cs ≤ 12) = true := q
            have q := of_decide_eq_true q
            show F_rank cs ≤ 3
            unfold q_bi at hb
            unfold F_rank
            omega
theorem Y_rd_i {T : Nat → Int} {n s : Nat} : ∀ (k : Nat) (c : q_Yc) (r : q_Yr), c.2.2.2 ≤ n → q_Yic s c → Y_rd T n k c = some r → q_Yir n s r := by
  intro k
  induction k with
  | zero =>
    intro c r _ _ h
    rw [Y_rd] at h
    exact absurd h (by simp)
  | succ k ih =>
    intro c r ha hi h
    have st := Y_st_i (T := T) ha hi
    rw [Y_rd] at h
    cases e : Y_st T n c with
    | inl c2 =>
      rw [e] at h
      have := st.1 c2 e
      exact ih c2 r this.2 this.1 h
    | inr r2 =>
      rw [e] at h
      injection h with h
      rw [← h]
      exact st.2 r2 e
theorem q_Yi_0 {O : List Int} {a : Nat} (h : O.length ≤ a) : q_Yic O.length (true, true, ([], 0, O), a) := by
  refine ⟨?_, fun _ _ => ?_⟩
  · show q_Yi O.length a 1 ([], 0, O)
    refine ⟨rfl, Nat.zero_le _, trivial, ?_, Nat.le_refl _, ?_, fun _ => 0, ⟨rfl, ?_⟩, fun _ _ => Nat.zero_le _, rfl⟩
    · intro c hc
      exact absurd hc List.not_mem_nil
    · show 0 + O.length ≤ a
      omega
    · intro i h1 h2
      have h2 : i < O.length := h2
      omega
  · show (-1 : Int) ≤ 3
    omega
/-- where a fault lies -/
theorem Y_st_f {T : Nat → Int} {n : Nat} {c : q_Yc} {r : q_Yr} (h : Y_st T n c = .inr r) : r.2.1 = L_i T n c.2.2.2 := by
  obtain ⟨w, my, ⟨H, p, O⟩, a⟩ := c
  have bd : ∀ r, Y_bd T n a = .inr r → r.2.1 = L_i T n a := by
    intro r hr
    unfold Y_bd at hr
    injection hr with hr
    rw [← hr]
  cases w with
  | true =>
    have h : Y_s1 T n my (H, p, O) a = .inr r := h
    unfold Y_s1 at h
    (repeat' split at h) <;> first | exact bd r h | (injection h)
  | false =>
    have h : Y_s0 T n my (H, p, O) a = .inr r := h
    unfold Y_s0 at h
    (repeat' split at h) <;> first | exact bd r h | (injection h; done) | (injection h with h; rw [← h])
end
section
/-! THE TWO READERS: both codes say the same -/
theorem q_oor01 {l r : Int} : (if l ≠ 0 ∨ r ≠ 0 then (1 : Int) else 0) = (if l = 0 ∧ r = 0 then 0 else 1) := by omega
theorem q_an01 {l r : Int} : (if l ≠ 0 ∧ r ≠ 0 then (1 : Int) else 0) = (if l = 0 ∨ r = 0 then 0 else 1) := by omega
set_option maxHeartbeats 2000000 in
theorem Y_val {C N O : Nat → Int} {b c k : Nat} {D : Nat → Nat} (hC : ∀ j, j < k → 0 ≤ C (b + j) ∧ C (b + j) < 160000 ∧ (C (b + j) % 16 = 2 → C (b + j) / 16 < 6)) (hE : C (b + k) = 0) (hO : ∀ j, j < k → O (c + j) = K_c (C (b + j))) (hD : q_wfP O c (c + k) D) (hB : ∀ i, i ≤ c + k → D i ≤ 31) (hD1 : D (c + k) = 1) :
    ∀ (j i : Nat), i + j = k → ∀ (jc kk : Nat) (st st2 : Nat → Int), j < jc → D (c + i) = kk → (∀ x, x < kk → st (x + 2) = st2 x) → F_val C N jc (b + i) (kk + 1) st = B_say O N j (c + i) kk st2 := by
  intro j
  induction j with
  | zero =>
    intro i hi jc kk st st2 hj hk hst
    have ei : i = k := by omega
    subst ei
    have ek : kk = 1 := by omega
    subst ek
    obtain ⟨jc, rfl⟩ : ∃ x, jc = x + 1 := ⟨jc - 1, by omega⟩
    rw [F_val, hE, if_pos (by decide), if_neg (by omega), B_say]
    exact hst 0 (by omega)
  | succ j ih =>
    intro i hi jc kk st st2 hj hk hst
    obtain ⟨jc, rfl⟩ : ∃ x, jc = x + 1 := ⟨jc - 1, by omega⟩
    have ho := hO i (by omega)
    have hc := hC i (by omega)
    have hd := hD.2 (c + i) (by omega) (by omega)
    have hb := hB (c + i) (by omega)
    have hb2 := hB (c + i + 1) (by omega)
    have ih2 := fun kk st st2 => ih (i + 1) (by omega) jc kk st st2 (by omega)
    rw [← Nat.add_assoc, ← Nat.add_assoc] at ih2
    rw [F_val, B_say]
    rw [ho] at hd ⊢
    generalize C (b + i) = x at ho hc hd ⊢
    have push : ∀ v : Int, D (c + i + 1) = kk + 1 → F_val C N jc (b + i + 1) (kk + 1 + 1) (F_u st (kk + 1 + 1) v) = B_say O N j (c + i + 1) (kk + 1) (F_u st2 kk v) := by
      intro v hv
      refine ih2 (kk + 1) _ _ hv (fun y hy => ?_)
      unfold F_u
      by_cases e : y = kk
      · rw [if_pos (by omega), if_pos e]
      · rw [if_neg (by omega), if_neg e]
        exact hst y (by omega)
    have one : ∀ v v2 : Int, v = v2 → 1 ≤ kk → D (c + i + 1) = kk → F_val C N jc (b + i + 1) (kk + 1) (F_u st (kk + 1) v) = B_say O N j (c + i + 1) kk (F_u st2 (kk - 1) v2) := by
      intro v v2 hvv h1 hv
      subst hvv
      refine ih2 kk _ _ hv (fun y hy => ?_)
      unfold F_u
      by_cases e : y = kk - 1
      · rw [if_pos (by omega), if_pos e]
      · rw [if_neg (by omega), if_neg e]
        exact hst y (by omega)
    have two : ∀ v v2 : Int, v = v2 → 2 ≤ kk → D (c + i + 1) + 1 = kk → F_val C N jc (b + i + 1) (kk + 1 - 1) (F_u st (kk + 1 - 1) v) = B_say O N j (c + i + 1) (kk - 1) (F_u st2 (kk - 2) v2) := by
      intro v v2 hvv h1 hv
      subst hvv
      have e1 : kk + 1 - 1 = kk - 1 + 1 := by omega
      rw [e1]
      refine ih2 (kk - 1) _ _ (by omega) (fun y hy => ?_)
      unfold F_u
      by_cases e : y = kk - 2
      · rw [if_pos (by omega), if_pos e]
      · rw [if_neg (by omega), if_neg e]
        exact hst y (by omega)
    have top1 : 1 ≤ kk → st (kk + 1) = st2 (kk - 1) := fun h => by
      have := hst (kk - 1) (by omega)
      rw [show kk - 1 + 2 = kk + 1 by omega] at this
      exact this
    have top2 : 2 ≤ kk → st (kk + 1 - 1) = st2 (kk - 2) := fun h => by
      have := hst (kk - 2) (by omega)
      rw [show kk - 2 + 2 = kk + 1 - 1 by omega] at this
      exact this
    clear ih ih2 hO hC hE hD hB hst
    rcases (show x % 16 = 1 ∨ x % 16 = 2 ∨ x % 16 = 3 ∨ x % 16 = 4 ∨ x % 16 = 5 ∨ x % 16 = 6 ∨ x % 16 = 7 ∨ x % 16 = 8 ∨ x % 16 = 9 ∨ x % 16 = 10 ∨ x % 16 = 11 ∨ (x % 16 = 0 ∨ 12 ≤ x % 16) by omega) with e | e | e | e | e | e | e | e | e | e | e | e
    · have ek : K_c x = 100000 + x / 16 := by unfold K_c; rw [if_pos e]
      rw [ek] at hd ⊢
      unfold q_pu q_una q_bi at hd
      rw [e, if_neg (by decide), if_pos rfl, if_neg (by omega), if_neg (by omega), if_pos (by omega), show 100000 + x / 16 - 100000 = x / 16 by omega]
      exact push _ (by omega)
    · have ek : K_c x = x / 16 := by unfold K_c; rw [e]; rfl
      have hv := hc.2.2 e
      rw [ek] at hd ⊢
      unfold q_pu q_una q_bi at hd
      rw [e, if_neg (by decide), if_neg (by decide), if_pos rfl, if_neg (by omega), if_pos (by omega), if_pos (by omega)]
      exact push _ (by omega)
    · have ek : K_c x = 19 := by unfold K_c; rw [e]; rfl
      rw [ek] at hd ⊢
      unfold q_pu q_una q_bi at hd
      rw [e, if_neg (by decide), if_neg (by decide), if_neg (by decide), if_pos rfl, if_neg (by omega), if_neg (by decide), if_neg (by decide), if_neg (by decide), if_pos rfl]
      exact one _ _ (by rw [top1 (by omega)]) (by omega) (by omega)
    · have ek : K_c x = 13 := by unfold K_c; rw [e]; rfl
      rw [ek] at hd ⊢
      unfold q_pu q_una q_bi at hd
      rw [e, if_neg (by decide), if_neg (by decide), if_neg (by decide), if_neg (by decide), if_pos rfl, if_neg (show ¬kk + 1 < 2 by omega), if_neg (show ¬(13 : Int) < 11 by decide), if_neg (show ¬(100000 : Int) ≤ 13 by decide), if_pos (show (13 : Int) = 13 from rfl)]
      exact one _ _ (by rw [top1 (by omega)]) (by omega) (by omega)
    · have ek : K_c x = 18 := by unfold K_c; rw [e]; rfl
      rw [ek] at hd ⊢
      unfold q_pu q_una q_bi at hd
      rw [e, if_neg (by decide), if_neg (by decide), if_neg (by decide), if_neg (by decide), if_neg (by decide), if_neg (by omega), if_neg (by decide), if_neg (by decide), if_neg (by decide), if_neg (by decide)]
      exact two _ _ (by rw [top1 (by omega), top2 (by omega)]; rfl) (by omega) (by omega)
    · have ek : K_c x = 16 := by unfold K_c; rw [e]; rfl
      rw [ek] at hd ⊢
      unfold q_pu q_una q_bi at hd
      rw [e, if_neg (by decide), if_neg (by decide), if_neg (by decide), if_neg (by decide), if_neg (by decide), if_neg (by omega), if_neg (by decide), if_neg (by decide), if_neg (by decide), if_neg (by decide)]
      exact two _ _ (by rw [top1 (by omega), top2 (by omega)]; rfl) (by omega) (by omega)
    · have ek : K_c x = 17 := by unfold K_c; rw [e]; rfl
      rw [ek] at hd ⊢
      unfold q_pu q_una q_bi at hd
      rw [e, if_neg (by decide), if_neg (by decide), if_neg (by decide), if_neg (by decide), if_neg (by decide), if_neg (by omega), if_neg (by decide), if_neg (by decide), if_neg (by decide), if_neg (by decide)]
      exact two _ _ (by rw [top1 (by omega), top2 (by omega)]; rfl) (by omega) (by omega)
    · have ek : K_c x = 14 := by unfold K_c; rw [e]; rfl
      rw [ek] at hd ⊢
      unfold q_pu q_una q_bi at hd
      rw [e, if_neg (by decide), if_neg (by decide), if_neg (by decide), if_neg (by decide), if_neg (by decide), if_neg (by omega), if_neg (by decide), if_neg (by decide), if_neg (by decide), if_neg (by decide)]
      exact two _ _ (by rw [top1 (by omega), top2 (by omega)]; rfl) (by omega) (by omega)
    · have ek : K_c x = 15 := by unfold K_c; rw [e]; rfl
      rw [ek] at hd ⊢
      unfold q_pu q_una q_bi at hd
      rw [e, if_neg (by decide), if_neg (by decide), if_neg (by decide), if_neg (by decide), if_neg (by decide), if_neg (by omega), if_neg (by decide), if_neg (by decide), if_neg (by decide), if_neg (by decide)]
      exact two _ _ (by rw [top1 (by omega), top2 (by omega)]; rfl) (by omega) (by omega)
    · have ek : K_c x = 12 := by unfold K_c; rw [e]; rfl
      rw [ek] at hd ⊢
      unfold q_pu q_una q_bi at hd
      rw [e, if_neg (by decide), if_neg (by decide), if_neg (by decide), if_neg (by decide), if_neg (by decide), if_neg (by omega), if_neg (by decide), if_neg (by decide), if_neg (by decide), if_neg (by decide)]
      exact two _ _ (by rw [top1 (by omega), top2 (by omega)]; exact q_an01) (by omega) (by omega)
    · have ek : K_c x = 11 := by unfold K_c; rw [e]; rfl
      rw [ek] at hd ⊢
      unfold q_pu q_una q_bi at hd
      rw [e, if_neg (by decide), if_neg (by decide), if_neg (by decide), if_neg (by decide), if_neg (by decide), if_neg (by omega), if_neg (by decide), if_neg (by decide), if_neg (by decide), if_neg (by decide)]
      exact two _ _ (by rw [top1 (by omega), top2 (by omega)]; exact q_oor01) (by omega) (by omega)
    · exfalso
      have ek : K_c x = -7 := by unfold K_c; (repeat' rw [if_neg (by omega)])
      rw [ek] at hd
      unfold q_pu q_una q_bi at hd
      omega
/-- a text's laws, by both codes -/
theorem Y_law {C st : Nat → Int} {O S : Nat → Int} {len p b c k : Nat} {D : Nat → Nat} (hC : q_cod C len) (h1 : st p = b) (h2 : S p = c) (h3 : S (p + 1) = ((c + k : Nat) : Int)) (h4 : b + k < len) (hE : C (b + k) = 0) (hO : ∀ j, j < k → O (c + j) = K_c (C (b + j))) (hD : q_wfP O c (c + k) D) (hB : ∀ i, i ≤ c + k → D i ≤ 31) (hD1 : D (c + k) = 1) (N : Nat → Int) : q_Vt C st len p N = q_V1 O S p N := by
  unfold q_Vt q_V1
  rw [h1, h2, h3, Int.toNat_natCast, Int.toNat_natCast, show (((c + k : Nat) : Int) - (c : Int)).toNat = k by omega]
  have h := Y_val (N := N) (fun j hj => hC (b + j) (by omega)) hE hO hD hB hD1 k 0 (by omega) (len - b) 0 (fun _ => 0) (fun _ => 0) (by omega) hD.1 (fun x hx => absurd hx (by omega))
  rw [Nat.add_zero, Nat.add_zero] at h
  exact h
end
section
/-! THE TWO READERS: words -/
def q_wds : List (List Int) := [[108, 105, 107, 101, 115, 32, 32, 32], [119, 97, 110, 116, 115, 32, 32, 32], [103, 111, 101, 115, 32, 32, 32, 32], [102, 97, 114, 32, 32, 32, 32, 32], [118, 97, 105, 110, 32, 32, 32, 32], [98, 117, 105, 108, 116, 32, 32, 32], [119, 101, 105, 103, 104, 116, 32, 32], [121, 101, 97, 114, 32, 32, 32, 32], [109, 111, 114, 101, 32, 32, 32, 32], [111, 114, 32, 32, 32, 32, 32, 32], [97, 110, 100, 32, 32, 32, 32, 32], [110, 111, 116, 32, 32, 32, 32, 32]]
/-- the model's words, which of the class's they are -/
def W_c (w c : Nat) : Int := (q_wds.getD w []).getD c 0
def W_j (w : Nat) : Nat := [1, 2, 3, 7, 8, 9, 10, 11, 12, 4, 5, 6].getD w 0
def W_p (T : Nat → Int) (b a c : Nat) : Int := if b + c < a then T (b + c) else 32
def W_s (T : Nat → Int) (b a w : Nat) : Nat → Bool
  | 0 => decide (a ≤ b + 8)
  | k + 1 => W_s T b a w k && decide (W_c w k = W_p T b a k)
def W_f (T : Nat → Int) (b a : Nat) : Nat → Nat → Nat
  | 0, w => w
  | e + 1, w => if W_s T b a w 8 = true then w else W_f T b a e (w + 1)
theorem W_s_f {T : Nat → Int} {b a w : Nat} : ∀ m k : Nat, k ≤ m → W_s T b a w k = false → W_s T b a w m = false
  | 0, k, h, e => by
    have e2 : k = 0 := by omega
    subst e2
    exact e
  | m + 1, k, h, e => by
    by_cases c : k = m + 1
    · subst c
      exact e
    · rw [W_s, W_s_f m k (by omega) e]
      rfl
theorem W_s_i {T : Nat → Int} {b a w : Nat} : ∀ k : Nat, W_s T b a w k = true → a ≤ b + 8 ∧ ∀ c, c < k → W_c w c = W_p T b a c
  | 0, h => ⟨of_decide_eq_true h, fun c hc => absurd hc (Nat.not_lt_zero c)⟩
  | k + 1, h => by
    rw [W_s, Bool.and_eq_true] at h
    have ih := W_s_i k h.1
    refine ⟨ih.1, fun c hc => ?_⟩
    by_cases e : c = k
    · rw [e]
      exact of_decide_eq_true h.2
    · exact ih.2 c (by omega)
theorem W_s_of {T : Nat → Int} {b a w : Nat} (ha : a ≤ b + 8) : ∀ k : Nat, (∀ c, c < k → W_c w c = W_p T b a c) → W_s T b a w k = true
  | 0, _ => decide_eq_true ha
  | k + 1, h => by
    rw [W_s, W_s_of ha k (fun c hc => h c (by omega)), decide_eq_true (h k (by omega))]
    rfl
theorem F_sm_i {T : Nat → Int} {b j : Nat} : ∀ k : Nat, F_sm T b j k = true → ∀ c, c < k → T (b + c) = q_sch j c
  | 0, _, c, hc => absurd hc (Nat.not_lt_zero c)
  | k + 1, h, c, hc => by
    rw [F_sm, Bool.and_eq_true] at h
    by_cases e : c = k
    · rw [e]
      exact of_decide_eq_true h.2
    · exact F_sm_i k h.1 c (by omega)
theorem F_sm_of {T : Nat → Int} {b j : Nat} : ∀ k : Nat, (∀ c, c < k → T (b + c) = q_sch j c) → F_sm T b j k = true
  | 0, _ => rfl
  | k + 1, h => by
    rw [F_sm, F_sm_of k (fun c hc => h c (by omega)), decide_eq_true (h k (by omega))]
    rfl
theorem F_is_i {T : Nat → Int} {b a j : Nat} (h : F_is T b a j = true) : q_slen j = (a : Int) - b ∧ ∀ c, c < (q_slen j).toNat → T (b + c) = q_sch j c := by
  unfold F_is at h
  rw [Bool.and_eq_true] at h
  exact ⟨of_decide_eq_true h.1, F_sm_i _ h.2⟩
theorem F_is_of {T : Nat → Int} {b a j : Nat} (h1 : q_slen j = (a : Int) - b) (h2 : ∀ c, c < (q_slen j).toNat → T (b + c) = q_sch j c) : F_is T b a j = true := by
  unfold F_is
  rw [Bool.and_eq_true]
  exact ⟨decide_eq_true h1, F_sm_of _ h2⟩
set_option maxRecDepth 4000 in
theorem W_tab : ∀ w, w < 12 → (1 ≤ W_j w ∧ W_j w ≤ 12) ∧ (1 ≤ q_slen (W_j w) ∧ q_slen (W_j w) ≤ 6) ∧ ∀ c, c < 8 → W_c w c = (if (c : Int) < q_slen (W_j w) then q_sch (W_j w) c else 32) ∧ ((c : Int) < q_slen (W_j w) → 97 ≤ q_sch (W_j w) c) := by decide
def W_ne (j j2 : Nat) : Bool := decide (q_slen j ≠ q_slen j2) || (List.range 6).any (fun c => decide ((c : Int) < q_slen j) && decide (q_sch j c ≠ q_sch j2 c))
set_option maxRecDepth 4000 in
theorem W_exc : ∀ j, j < 13 → ∀ j2, j2 < 13 → j = 0 ∨ j2 = 0 ∨ j = j2 ∨ W_ne j j2 = true := by decide
theorem W_ne_i {j j2 : Nat} (h : W_ne j j2 = true) : q_slen j ≠ q_slen j2 ∨ ∃ c : Nat, (c : Int) < q_slen j ∧ q_sch j c ≠ q_sch j2 c := by
  unfold W_ne at h
  rw [Bool.or_eq_true] at h
  rcases h with h | h
  · exact Or.inl (of_decide_eq_true h)
  · obtain ⟨c, _, h⟩ := List.any_eq_true.mp h
    rw [Bool.and_eq_true] at h
    exact Or.inr ⟨c, of_decide_eq_true h.1, of_decide_eq_true h.2⟩
theorem W_is {T : Nat → Int} {b a w : Nat} (hw : w < 12) (hT : ∀ m, b ≤ m → m < a → 97 ≤ T m) : W_s T b a w 8 = F_is T b a (W_j w) := by
  obtain ⟨_, ⟨t1, t2⟩, t3⟩ := W_tab w hw
  generalize W_j w = j at *
  apply Bool.eq_iff_iff.mpr
  constructor
  · intro h
    obtain ⟨h1, h2⟩ := W_s_i 8 h
    have k1 := h2 (q_slen j).toNat (by omega)
    have k2 := h2 ((q_slen j).toNat - 1) (by omega)
    rw [(t3 _ (by omega)).1, if_neg (by omega)] at k1
    have k3 := t3 ((q_slen j).toNat - 1) (by omega)
    rw [k3.1, if_pos (by omega)] at k2
    have k4 := k3.2 (by omega)
    unfold W_p at k1 k2
    have e1 : a ≤ b + (q_slen j).toNat := by
      by_cases c : b + (q_slen j).toNat < a
      · rw [if_pos c] at k1
        have := hT (b + (q_slen j).toNat) (by omega) c
        omega
      · omega
    have e2 : b + ((q_slen j).toNat - 1) < a := by
      by_cases c : b + ((q_slen j).toNat - 1) < a
      · exact c
      · rw [if_neg c] at k2
        omega
    refine F_is_of (by omega) (fun c hc => ?_)
    have k5 := h2 c (by omega)
    rw [(t3 c (by omega)).1, if_pos (by omega)] at k5
    unfold W_p at k5
    rw [if_pos (by omega)] at k5
    exact k5.symm
  · intro h
    obtain ⟨h1, h2⟩ := F_is_i h
    refine W_s_of (by omega) 8 (fun c hc => ?_)
    rw [(t3 c hc).1]
    unfold W_p
    by_cases k : (c : Int) < q_slen j
    · rw [if_pos k, if_pos (by omega), h2 c (by omega)]
    · rw [if_neg k, if_neg (by omega)]
theorem F_is_ex {T : Nat → Int} {b a j j2 : Nat} (h1 : 1 ≤ j ∧ j < 13) (h2 : 1 ≤ j2 ∧ j2 < 13) (hne : j ≠ j2) (h : F_is T b a j = true) : F_is T b a j2 = false := by
  cases e : F_is T b a j2 with
  | false => rfl
  | true =>
    exfalso
    obtain ⟨k1, k2⟩ := F_is_i h
    obtain ⟨m1, m2⟩ := F_is_i e
    rcases W_exc j h1.2 j2 h2.2 with z | z | z | z
    · omega
    · omega
    · exact hne z
    · rcases W_ne_i z with z | ⟨c, c2, c3⟩
      · exact z (k1.trans m1.symm)
      · exact c3 ((k2 c (by omega)).symm.trans (m2 c (by omega)))
/-- the model's tokens -/
def Y_t (t : Int) : Int := if t = -2 then 0 else if t = -3 then 1 else if t = -4 then 2 else if t = -5 ∨ t = -6 ∨ t = -7 then 3 else if t = -8 then 4 else if t = -9 then 5 else if t = -10 then 6 else t
def Y_v (t v : Int) : Int := if t = -5 then 0 else if t = -6 then 1 else if t = -7 then 2 else v
def W_g (f : Nat → Bool) : Nat → Nat → Nat
  | 0, w => w
  | e + 1, w => if f w = true then w else W_g f e (w + 1)
theorem W_g_c {f g : Nat → Bool} : ∀ e w : Nat, (∀ x, w ≤ x → x < w + e → f x = g x) → W_g f e w = W_g g e w
  | 0, _, _ => rfl
  | e + 1, w, h => by
    rw [W_g, W_g, h w (Nat.le_refl w) (by omega), W_g_c e (w + 1) (fun x h1 h2 => h x (by omega) (by omega))]
theorem W_f_g {T : Nat → Int} {b a : Nat} : ∀ e w : Nat, W_f T b a e w = W_g (fun w => W_s T b a w 8) e w
  | 0, _ => rfl
  | e + 1, w => by rw [W_f, W_g, W_f_g e (w + 1)]
def R_mg (f : Nat → Bool) (j : Nat) (t v : Int) (a : Int × Int) : Int × Int := if f j = true then (t, v) else a
def R_g (f : Nat → Bool) : Int × Int := R_mg f 12 (-4) 5 (R_mg f 11 (-4) 4 (R_mg f 10 (-4) 3 (R_mg f 9 (-4) 2 (R_mg f 8 (-4) 1 (R_mg f 7 (-4) 0 (R_mg f 6 (-10) 0 (R_mg f 5 (-9) 0 (R_mg f 4 (-8) 0 (R_mg f 3 (-7) 0 (R_mg f 2 (-6) 0 (R_mg f 1 (-5) 0 (-1, 0))))))))))))
theorem R_g_c {f g : Nat → Bool} (h : ∀ x, 1 ≤ x → x < 13 → f x = g x) : R_g f = R_g g := by
  unfold R_g R_mg
  rw [h 1 (by decide) (by decide), h 2 (by decide) (by decide), h 3 (by decide) (by decide), h 4 (by decide) (by decide), h 5 (by decide) (by decide), h 6 (by decide) (by decide), h 7 (by decide) (by decide), h 8 (by decide) (by decide), h 9 (by decide) (by decide), h 10 (by decide) (by decide), h 11 (by decide) (by decide), h 12 (by decide) (by decide)]
theorem W_all : ∀ j, j < 13 → (if (W_g (fun w => decide (W_j w = j)) 12 0 : Int) < 3 then (3 : Int) else if (W_g (fun w => decide (W_j w = j)) 12 0 : Int) < 9 then 2 else if (W_g (fun w => decide (W_j w = j)) 12 0 : Int) = 12 then -1 else 4 + W_g (fun w => decide (W_j w = j)) 12 0 - 9) = Y_t (R_g (fun x => decide (x = j))).1 ∧ W_g (fun w => decide (W_j w = j)) 12 0 ≤ 12 ∧ ((-7 ≤ (R_g (fun x => decide (x = j))).1 ∧ (R_g (fun x => decide (x = j))).1 ≤ -4) → (if (W_g (fun w => decide (W_j w = j)) 12 0 : Int) < 3 then (W_g (fun w => decide (W_j w = j)) 12 0 : Int) else W_g (fun w => decide (W_j w = j)) 12 0 - 3) = Y_v (R_g (fun x => decide (x = j))).1 (R_g (fun x => decide (x = j))).2) := by decide
theorem W_wd {T : Nat → Int} {b a : Nat} (hT : ∀ m, b ≤ m → m < a → 97 ≤ T m) : (if (W_f T b a 12 0 : Int) < 3 then (3 : Int) else if (W_f T b a 12 0 : Int) < 9 then 2 else if (W_f T b a 12 0 : Int) = 12 then -1 else 4 + W_f T b a 12 0 - 9) = Y_t (R_wd T b a 0).1 ∧ W_f T b a 12 0 ≤ 12 ∧ ((-7 ≤ (R_wd T b a 0).1 ∧ (R_wd T b a 0).1 ≤ -4) → (if (W_f T b a 12 0 : Int) < 3 then (W_f T b a 12 0 : Int) else W_f T b a 12 0 - 3) = Y_v (R_wd T b a 0).1 (R_wd T b a 0).2) := by
  obtain ⟨j, hj, hf⟩ : ∃ j, j < 13 ∧ ∀ x, 1 ≤ x → x < 13 → F_is T b a x = decide (x = j) := by
    by_cases c : ∃ j, (1 ≤ j ∧ j < 13) ∧ F_is T b a j = true
    · obtain ⟨j, hj, ht⟩ := c
      refine ⟨j, hj.2, fun x h1 h2 => ?_⟩
      by_cases e : x = j
      · rw [e, ht, decide_eq_true rfl]
      · rw [F_is_ex hj ⟨h1, h2⟩ (fun q => e q.symm) ht, decide_eq_false e]
    · refine ⟨0, by decide, fun x h1 h2 => ?_⟩
      rw [decide_eq_false (by omega)]
      cases e : F_is T b a x with
      | false => rfl
      | true => exact absurd ⟨x, ⟨h1, h2⟩, e⟩ c
  have e1 : R_wd T b a 0 = R_g (fun x => decide (x = j)) := (show R_wd T b a 0 = R_g (F_is T b a) from rfl).trans (R_g_c hf)
  have e2 : W_f T b a 12 0 = W_g (fun w => decide (W_j w = j)) 12 0 := (W_f_g 12 0).trans (W_g_c 12 0 (fun x h1 h2 => by
    have t := W_tab x (by omega)
    show W_s T b a x 8 = decide (W_j x = j)
    rw [W_is (by omega) hT]
    exact hf _ t.1.1 (by omega)))
  rw [e1, e2]
  exact W_all j hj
end
section
/-! THE MODEL'S READER: words, tokens, just so -/
/-- the model's words stand -/
def q_mwd (M : q_M) : Prop := ∀ w c : Nat, w < 12 → c < 8 → M 114 (8 * w + c) = W_c w c
set_option maxHeartbeats 4000000 in
theorem mp_wordFromX {d b a : Nat} {g : q_G} {M : q_M} {Q : Option q_V → q_G → q_M → Prop} (hw : q_mwd M) (hb : b ≤ a) (ha : a ≤ 160) (hq : Q (some (qI (W_f (M 105) b a 12 0 : Nat))) g M) : q_S 1 d 123 [qR 6 100, qI b, qI a] g M Q := by
  rw [s_X6_wordFrom]
  have loop : ∀ e w : Nat, w + e = 12 → ∀ l4 l5 : q_V, q_isL l4 = false → q_isL l5 = false → Q (some (qI (W_f (M 105) b a e w : Nat))) g M → q_T 1 d qP_X6_wordFrom 2 [] [qR 6 100, qI b, qI a, qI w, l4, l5] [] g M Q := by
    intro e
    induction e with
    | zero =>
      intro w hw l4 l5 h4 h5 hq
      have ew : w = 12 := by omega
      subst ew
      rw [b_X6_wordFrom_2]
      simp (disch := omega) only [b_X6_wordFrom_0, x_iconst, x_storeI_3, x_loadI_3, y_ic_ge_t, y_ic_ge_f, b_X6_wordFrom_8, x_loadI_2, x_loadI_1, x_isub, y_ic_gt_t, y_ic_gt_f, b_X6_wordFrom_16, x_goto, b_X6_wordFrom_20, b_X6_wordFrom_21, x_storeI_4, x_storeI_5, x_loadI_5, b_X6_wordFrom_33, x_loadI_4, y_if_eq_t, y_if_eq_f, b_X6_wordFrom_38, x_loadR_0, x_loadS_0, f_6_23, x_imul, x_iadd, y_iald_116, y_iald_180, b_X6_wordFrom_58, f_6_6, b_X6_wordFrom_70, b_X6_wordFrom_72, y_ic_ne_t, y_ic_ne_f, b_X6_wordFrom_75, b_X6_wordFrom_79, b_X6_wordFrom_80, x_iinc_5, b_X6_wordFrom_88, b_X6_wordFrom_93, x_ret0, b_X6_wordFrom_95, x_iinc_3, b_X6_wordFrom_101, q_isL_I, q_isL_R, q_isL_S, true_and, and_true, and_self, List.length_nil, List.length_cons, Nat.zero_add, x_K, x_Kn, Int.reduceToNat, Nat.reduceAdd, Nat.reduceMul, Nat.reduceLeDiff, Nat.reduceLT, Nat.zero_le, Int.reduceAdd, Int.reduceSub, Int.reduceMul, Int.reduceNeg, q_add_e, q_sub_e, q_mul_e, q_neg_e, q_upd_s, q_upd_n, zr_shr0, zr_shr1, zr_shr2, zr_shr3, zr_shr4, zr_and, zr_dyn8, zr_or, zr_shl, q_cpy_n, y_cpy26]
      exact hq
    | succ e ih =>
      intro w hw2 l4 l5 h4 h5 hq
      rw [W_f] at hq
      have bad : ∀ (k : Nat) (l4 l5 : q_V), q_isL l4 = false → q_isL l5 = false → k ≤ 8 → W_s (M 105) b a w k = false → q_T 1 d qP_X6_wordFrom 2 [] [qR 6 100, qI b, qI a, qI ((w : Int) + 1), l4, l5] [] g M Q := by
        intro k l4 l5 h4 h5 hk hs
        rw [W_s_f 8 k hk hs, if_neg (by decide)] at hq
        exact ih (w + 1) (by omega) l4 l5 h4 h5 hq
      have leave : ∀ j : Nat, j ≤ 8 → W_s (M 105) b a w j = false → ∀ y : Int, y = (j : Int) → q_T 1 d qP_X6_wordFrom 26 [] [qR 6 100, qI b, qI a, qI w, qI 0, qI y] [] g M Q := by
        intro j hj hs y hy
        subst hy
        rw [b_X6_wordFrom_26]
        by_cases e8 : j = 8
        · simp (disch := omega) only [b_X6_wordFrom_0, x_iconst, x_storeI_3, x_loadI_3, y_ic_ge_t, y_ic_ge_f, b_X6_wordFrom_8, x_loadI_2, x_loadI_1, x_isub, y_ic_gt_t, y_ic_gt_f, b_X6_wordFrom_16, x_goto, b_X6_wordFrom_20, b_X6_wordFrom_21, x_storeI_4, x_storeI_5, x_loadI_5, b_X6_wordFrom_33, x_loadI_4, y_if_eq_t, y_if_eq_f, b_X6_wordFrom_38, x_loadR_0, x_loadS_0, f_6_23, x_imul, x_iadd, y_iald_116, y_iald_180, b_X6_wordFrom_58, f_6_6, b_X6_wordFrom_70, b_X6_wordFrom_72, y_ic_ne_t, y_ic_ne_f, b_X6_wordFrom_75, b_X6_wordFrom_79, b_X6_wordFrom_80, x_iinc_5, b_X6_wordFrom_88, b_X6_wordFrom_93, x_ret0, b_X6_wordFrom_95, x_iinc_3, b_X6_wordFrom_101, q_isL_I, q_isL_R, q_isL_S, true_and, and_true, and_self, List.length_nil, List.length_cons, Nat.zero_add, x_K, x_Kn, Int.reduceToNat, Nat.reduceAdd, Nat.reduceMul, Nat.reduceLeDiff, Nat.reduceLT, Nat.zero_le, Int.reduceAdd, Int.reduceSub, Int.reduceMul, Int.reduceNeg, q_add_e, q_sub_e, q_mul_e, q_neg_e, q_upd_s, q_upd_n, zr_shr0, zr_shr1, zr_shr2, zr_shr3, zr_shr4, zr_and, zr_dyn8, zr_or, zr_shl, q_cpy_n, y_cpy26]
          exact bad j _ _ rfl rfl hj hs
        · simp (disch := omega) only [b_X6_wordFrom_0, x_iconst, x_storeI_3, x_loadI_3, y_ic_ge_t, y_ic_ge_f, b_X6_wordFrom_8, x_loadI_2, x_loadI_1, x_isub, y_ic_gt_t, y_ic_gt_f, b_X6_wordFrom_16, x_goto, b_X6_wordFrom_20, b_X6_wordFrom_21, x_storeI_4, x_storeI_5, x_loadI_5, b_X6_wordFrom_33, x_loadI_4, y_if_eq_t, y_if_eq_f, b_X6_wordFrom_38, x_loadR_0, x_loadS_0, f_6_23, x_imul, x_iadd, y_iald_116, y_iald_180, b_X6_wordFrom_58, f_6_6, b_X6_wordFrom_70, b_X6_wordFrom_72, y_ic_ne_t, y_ic_ne_f, b_X6_wordFrom_75, b_X6_wordFrom_79, b_X6_wordFrom_80, x_iinc_5, b_X6_wordFrom_88, b_X6_wordFrom_93, x_ret0, b_X6_wordFrom_95, x_iinc_3, b_X6_wordFrom_101, q_isL_I, q_isL_R, q_isL_S, true_and, and_true, and_self, List.length_nil, List.length_cons, Nat.zero_add, x_K, x_Kn, Int.reduceToNat, Nat.reduceAdd, Nat.reduceMul, Nat.reduceLeDiff, Nat.reduceLT, Nat.zero_le, Int.reduceAdd, Int.reduceSub, Int.reduceMul, Int.reduceNeg, q_add_e, q_sub_e, q_mul_e, q_neg_e, q_upd_s, q_upd_n, zr_shr0, zr_shr1, zr_shr2, zr_shr3, zr_shr4, zr_and, zr_dyn8, zr_or, zr_shl, q_cpy_n, y_cpy26]
          exact bad j _ _ rfl rfl hj hs
      have inner : ∀ f j : Nat, j + f = 8 → W_s (M 105) b a w j = true → q_T 1 d qP_X6_wordFrom 26 [] [qR 6 100, qI b, qI a, qI w, qI 1, qI j] [] g M Q := by
        intro f
        induction f with
        | zero =>
          intro j hj hs
          have ej : j = 8 := by omega
          subst ej
          rw [hs, if_pos rfl] at hq
          rw [b_X6_wordFrom_26]
          simp (disch := omega) only [b_X6_wordFrom_0, x_iconst, x_storeI_3, x_loadI_3, y_ic_ge_t, y_ic_ge_f, b_X6_wordFrom_8, x_loadI_2, x_loadI_1, x_isub, y_ic_gt_t, y_ic_gt_f, b_X6_wordFrom_16, x_goto, b_X6_wordFrom_20, b_X6_wordFrom_21, x_storeI_4, x_storeI_5, x_loadI_5, b_X6_wordFrom_33, x_loadI_4, y_if_eq_t, y_if_eq_f, b_X6_wordFrom_38, x_loadR_0, x_loadS_0, f_6_23, x_imul, x_iadd, y_iald_116, y_iald_180, b_X6_wordFrom_58, f_6_6, b_X6_wordFrom_70, b_X6_wordFrom_72, y_ic_ne_t, y_ic_ne_f, b_X6_wordFrom_75, b_X6_wordFrom_79, b_X6_wordFrom_80, x_iinc_5, b_X6_wordFrom_88, b_X6_wordFrom_93, x_ret0, b_X6_wordFrom_95, x_iinc_3, b_X6_wordFrom_101, q_isL_I, q_isL_R, q_isL_S, true_and, and_true, and_self, List.length_nil, List.length_cons, Nat.zero_add, x_K, x_Kn, Int.reduceToNat, Nat.reduceAdd, Nat.reduceMul, Nat.reduceLeDiff, Nat.reduceLT, Nat.zero_le, Int.reduceAdd, Int.reduceSub, Int.reduceMul, Int.reduceNeg, q_add_e, q_sub_e, q_mul_e, q_neg_e, q_upd_s, q_upd_n, zr_shr0, zr_shr1, zr_shr2, zr_shr3, zr_shr4, zr_and, zr_dyn8, zr_or, zr_shl, q_cpy_n, y_cpy26]
          exact hq
        | succ f ih2 =>
          intro j hj hs
          have hc := hw w j (by omega) (by omega)
          have t1 : (8 * (w : Int) + (j : Int)).toNat = 8 * w + j := by omega
          have t2 : ((b : Int) + (j : Int)).toNat = b + j := by omega
          have nxt : ∀ x : Int, x = W_p (M 105) b a j → (W_c w j = x → q_T 1 d qP_X6_wordFrom 26 [] [qR 6 100, qI b, qI a, qI w, qI 1, qI ((j : Int) + 1)] [] g M Q) ∧ (W_c w j ≠ x → W_s (M 105) b a w (j + 1) = false) := by
            intro x hx
            subst hx
            refine ⟨fun h => ?_, fun h => ?_⟩
            · exact ih2 (j + 1) (by omega) (by rw [W_s, hs, decide_eq_true h]; rfl)
            · rw [W_s, hs, decide_eq_false h]
              rfl
          rw [b_X6_wordFrom_26]
          by_cases c2 : b + j < a
          · have n := nxt (M 105 (b + j)) (by unfold W_p; rw [if_pos c2])
            simp (disch := omega) only [b_X6_wordFrom_0, x_iconst, x_storeI_3, x_loadI_3, y_ic_ge_t, y_ic_ge_f, b_X6_wordFrom_8, x_loadI_2, x_loadI_1, x_isub, y_ic_gt_t, y_ic_gt_f, b_X6_wordFrom_16, x_goto, b_X6_wordFrom_20, b_X6_wordFrom_21, x_storeI_4, x_storeI_5, x_loadI_5, b_X6_wordFrom_33, x_loadI_4, y_if_eq_t, y_if_eq_f, b_X6_wordFrom_38, x_loadR_0, x_loadS_0, f_6_23, x_imul, x_iadd, y_iald_116, y_iald_180, b_X6_wordFrom_58, f_6_6, b_X6_wordFrom_70, b_X6_wordFrom_72, y_ic_ne_t, y_ic_ne_f, b_X6_wordFrom_75, b_X6_wordFrom_79, b_X6_wordFrom_80, x_iinc_5, b_X6_wordFrom_88, b_X6_wordFrom_93, x_ret0, b_X6_wordFrom_95, x_iinc_3, b_X6_wordFrom_101, q_isL_I, q_isL_R, q_isL_S, true_and, and_true, and_self, List.length_nil, List.length_cons, Nat.zero_add, x_K, x_Kn, Int.reduceToNat, Nat.reduceAdd, Nat.reduceMul, Nat.reduceLeDiff, Nat.reduceLT, Nat.zero_le, Int.reduceAdd, Int.reduceSub, Int.reduceMul, Int.reduceNeg, q_add_e, q_sub_e, q_mul_e, q_neg_e, q_upd_s, q_upd_n, zr_shr0, zr_shr1, zr_shr2, zr_shr3, zr_shr4, zr_and, zr_dyn8, zr_or, zr_shl, q_cpy_n, y_cpy26, t1, t2, hc]
            refine y_ic_ne (fun h => ?_) (fun h => ?_)
            · simp (disch := omega) only [b_X6_wordFrom_0, x_iconst, x_storeI_3, x_loadI_3, y_ic_ge_t, y_ic_ge_f, b_X6_wordFrom_8, x_loadI_2, x_loadI_1, x_isub, y_ic_gt_t, y_ic_gt_f, b_X6_wordFrom_16, x_goto, b_X6_wordFrom_20, b_X6_wordFrom_21, x_storeI_4, x_storeI_5, x_loadI_5, b_X6_wordFrom_33, x_loadI_4, y_if_eq_t, y_if_eq_f, b_X6_wordFrom_38, x_loadR_0, x_loadS_0, f_6_23, x_imul, x_iadd, y_iald_116, y_iald_180, b_X6_wordFrom_58, f_6_6, b_X6_wordFrom_70, b_X6_wordFrom_72, y_ic_ne_t, y_ic_ne_f, b_X6_wordFrom_75, b_X6_wordFrom_79, b_X6_wordFrom_80, x_iinc_5, b_X6_wordFrom_88, b_X6_wordFrom_93, x_ret0, b_X6_wordFrom_95, x_iinc_3, b_X6_wordFrom_101, q_isL_I, q_isL_R, q_isL_S, true_and, and_true, and_self, List.length_nil, List.length_cons, Nat.zero_add, x_K, x_Kn, Int.reduceToNat, Nat.reduceAdd, Nat.reduceMul, Nat.reduceLeDiff, Nat.reduceLT, Nat.zero_le, Int.reduceAdd, Int.reduceSub, Int.reduceMul, Int.reduceNeg, q_add_e, q_sub_e, q_mul_e, q_neg_e, q_upd_s, q_upd_n, zr_shr0, zr_shr1, zr_shr2, zr_shr3, zr_shr4, zr_and, zr_dyn8, zr_or, zr_shl, q_cpy_n, y_cpy26]
              exact leave (j + 1) (by omega) (n.2 h) _ (by omega)
            · simp (disch := omega) only [b_X6_wordFrom_0, x_iconst, x_storeI_3, x_loadI_3, y_ic_ge_t, y_ic_ge_f, b_X6_wordFrom_8, x_loadI_2, x_loadI_1, x_isub, y_ic_gt_t, y_ic_gt_f, b_X6_wordFrom_16, x_goto, b_X6_wordFrom_20, b_X6_wordFrom_21, x_storeI_4, x_storeI_5, x_loadI_5, b_X6_wordFrom_33, x_loadI_4, y_if_eq_t, y_if_eq_f, b_X6_wordFrom_38, x_loadR_0, x_loadS_0, f_6_23, x_imul, x_iadd, y_iald_116, y_iald_180, b_X6_wordFrom_58, f_6_6, b_X6_wordFrom_70, b_X6_wordFrom_72, y_ic_ne_t, y_ic_ne_f, b_X6_wordFrom_75, b_X6_wordFrom_79, b_X6_wordFrom_80, x_iinc_5, b_X6_wordFrom_88, b_X6_wordFrom_93, x_ret0, b_X6_wordFrom_95, x_iinc_3, b_X6_wordFrom_101, q_isL_I, q_isL_R, q_isL_S, true_and, and_true, and_self, List.length_nil, List.length_cons, Nat.zero_add, x_K, x_Kn, Int.reduceToNat, Nat.reduceAdd, Nat.reduceMul, Nat.reduceLeDiff, Nat.reduceLT, Nat.zero_le, Int.reduceAdd, Int.reduceSub, Int.reduceMul, Int.reduceNeg, q_add_e, q_sub_e, q_mul_e, q_neg_e, q_upd_s, q_upd_n, zr_shr0, zr_shr1, zr_shr2, zr_shr3, zr_shr4, zr_and, zr_dyn8, zr_or, zr_shl, q_cpy_n, y_cpy26]
              exact n.1 (by omega)
          · have n := nxt 32 (by unfold W_p; rw [if_neg c2])
            simp (disch := omega) only [b_X6_wordFrom_0, x_iconst, x_storeI_3, x_loadI_3, y_ic_ge_t, y_ic_ge_f, b_X6_wordFrom_8, x_loadI_2, x_loadI_1, x_isub, y_ic_gt_t, y_ic_gt_f, b_X6_wordFrom_16, x_goto, b_X6_wordFrom_20, b_X6_wordFrom_21, x_storeI_4, x_storeI_5, x_loadI_5, b_X6_wordFrom_33, x_loadI_4, y_if_eq_t, y_if_eq_f, b_X6_wordFrom_38, x_loadR_0, x_loadS_0, f_6_23, x_imul, x_iadd, y_iald_116, y_iald_180, b_X6_wordFrom_58, f_6_6, b_X6_wordFrom_70, b_X6_wordFrom_72, y_ic_ne_t, y_ic_ne_f, b_X6_wordFrom_75, b_X6_wordFrom_79, b_X6_wordFrom_80, x_iinc_5, b_X6_wordFrom_88, b_X6_wordFrom_93, x_ret0, b_X6_wordFrom_95, x_iinc_3, b_X6_wordFrom_101, q_isL_I, q_isL_R, q_isL_S, true_and, and_true, and_self, List.length_nil, List.length_cons, Nat.zero_add, x_K, x_Kn, Int.reduceToNat, Nat.reduceAdd, Nat.reduceMul, Nat.reduceLeDiff, Nat.reduceLT, Nat.zero_le, Int.reduceAdd, Int.reduceSub, Int.reduceMul, Int.reduceNeg, q_add_e, q_sub_e, q_mul_e, q_neg_e, q_upd_s, q_upd_n, zr_shr0, zr_shr1, zr_shr2, zr_shr3, zr_shr4, zr_and, zr_dyn8, zr_or, zr_shl, q_cpy_n, y_cpy26, t1, hc]
            refine y_ic_ne (fun h => ?_) (fun h => ?_)
            · simp (disch := omega) only [b_X6_wordFrom_0, x_iconst, x_storeI_3, x_loadI_3, y_ic_ge_t, y_ic_ge_f, b_X6_wordFrom_8, x_loadI_2, x_loadI_1, x_isub, y_ic_gt_t, y_ic_gt_f, b_X6_wordFrom_16, x_goto, b_X6_wordFrom_20, b_X6_wordFrom_21, x_storeI_4, x_storeI_5, x_loadI_5, b_X6_wordFrom_33, x_loadI_4, y_if_eq_t, y_if_eq_f, b_X6_wordFrom_38, x_loadR_0, x_loadS_0, f_6_23, x_imul, x_iadd, y_iald_116, y_iald_180, b_X6_wordFrom_58, f_6_6, b_X6_wordFrom_70, b_X6_wordFrom_72, y_ic_ne_t, y_ic_ne_f, b_X6_wordFrom_75, b_X6_wordFrom_79, b_X6_wordFrom_80, x_iinc_5, b_X6_wordFrom_88, b_X6_wordFrom_93, x_ret0, b_X6_wordFrom_95, x_iinc_3, b_X6_wordFrom_101, q_isL_I, q_isL_R, q_isL_S, true_and, and_true, and_self, List.length_nil, List.length_cons, Nat.zero_add, x_K, x_Kn, Int.reduceToNat, Nat.reduceAdd, Nat.reduceMul, Nat.reduceLeDiff, Nat.reduceLT, Nat.zero_le, Int.reduceAdd, Int.reduceSub, Int.reduceMul, Int.reduceNeg, q_add_e, q_sub_e, q_mul_e, q_neg_e, q_upd_s, q_upd_n, zr_shr0, zr_shr1, zr_shr2, zr_shr3, zr_shr4, zr_and, zr_dyn8, zr_or, zr_shl, q_cpy_n, y_cpy26]
              exact leave (j + 1) (by omega) (n.2 h) _ (by omega)
            · simp (disch := omega) only [b_X6_wordFrom_0, x_iconst, x_storeI_3, x_loadI_3, y_ic_ge_t, y_ic_ge_f, b_X6_wordFrom_8, x_loadI_2, x_loadI_1, x_isub, y_ic_gt_t, y_ic_gt_f, b_X6_wordFrom_16, x_goto, b_X6_wordFrom_20, b_X6_wordFrom_21, x_storeI_4, x_storeI_5, x_loadI_5, b_X6_wordFrom_33, x_loadI_4, y_if_eq_t, y_if_eq_f, b_X6_wordFrom_38, x_loadR_0, x_loadS_0, f_6_23, x_imul, x_iadd, y_iald_116, y_iald_180, b_X6_wordFrom_58, f_6_6, b_X6_wordFrom_70, b_X6_wordFrom_72, y_ic_ne_t, y_ic_ne_f, b_X6_wordFrom_75, b_X6_wordFrom_79, b_X6_wordFrom_80, x_iinc_5, b_X6_wordFrom_88, b_X6_wordFrom_93, x_ret0, b_X6_wordFrom_95, x_iinc_3, b_X6_wordFrom_101, q_isL_I, q_isL_R, q_isL_S, true_and, and_true, and_self, List.length_nil, List.length_cons, Nat.zero_add, x_K, x_Kn, Int.reduceToNat, Nat.reduceAdd, Nat.reduceMul, Nat.reduceLeDiff, Nat.reduceLT, Nat.zero_le, Int.reduceAdd, Int.reduceSub, Int.reduceMul, Int.reduceNeg, q_add_e, q_sub_e, q_mul_e, q_neg_e, q_upd_s, q_upd_n, zr_shr0, zr_shr1, zr_shr2, zr_shr3, zr_shr4, zr_and, zr_dyn8, zr_or, zr_shl, q_cpy_n, y_cpy26]
              exact n.1 (by omega)
      rw [b_X6_wordFrom_2]
      by_cases c : (a : Int) - b ≤ 8
      · simp (disch := omega) only [b_X6_wordFrom_0, x_iconst, x_storeI_3, x_loadI_3, y_ic_ge_t, y_ic_ge_f, b_X6_wordFrom_8, x_loadI_2, x_loadI_1, x_isub, y_ic_gt_t, y_ic_gt_f, b_X6_wordFrom_16, x_goto, b_X6_wordFrom_20, b_X6_wordFrom_21, x_storeI_4, x_storeI_5, x_loadI_5, b_X6_wordFrom_33, x_loadI_4, y_if_eq_t, y_if_eq_f, b_X6_wordFrom_38, x_loadR_0, x_loadS_0, f_6_23, x_imul, x_iadd, y_iald_116, y_iald_180, b_X6_wordFrom_58, f_6_6, b_X6_wordFrom_70, b_X6_wordFrom_72, y_ic_ne_t, y_ic_ne_f, b_X6_wordFrom_75, b_X6_wordFrom_79, b_X6_wordFrom_80, x_iinc_5, b_X6_wordFrom_88, b_X6_wordFrom_93, x_ret0, b_X6_wordFrom_95, x_iinc_3, b_X6_wordFrom_101, q_isL_I, q_isL_R, q_isL_S, true_and, and_true, and_self, List.length_nil, List.length_cons, Nat.zero_add, x_K, x_Kn, Int.reduceToNat, Nat.reduceAdd, Nat.reduceMul, Nat.reduceLeDiff, Nat.reduceLT, Nat.zero_le, Int.reduceAdd, Int.reduceSub, Int.reduceMul, Int.reduceNeg, q_add_e, q_sub_e, q_mul_e, q_neg_e, q_upd_s, q_upd_n, zr_shr0, zr_shr1, zr_shr2, zr_shr3, zr_shr4, zr_and, zr_dyn8, zr_or, zr_shl, q_cpy_n, y_cpy26, h4, h5]
        exact inner 8 0 rfl (decide_eq_true (by omega))
      · simp (disch := omega) only [b_X6_wordFrom_0, x_iconst, x_storeI_3, x_loadI_3, y_ic_ge_t, y_ic_ge_f, b_X6_wordFrom_8, x_loadI_2, x_loadI_1, x_isub, y_ic_gt_t, y_ic_gt_f, b_X6_wordFrom_16, x_goto, b_X6_wordFrom_20, b_X6_wordFrom_21, x_storeI_4, x_storeI_5, x_loadI_5, b_X6_wordFrom_33, x_loadI_4, y_if_eq_t, y_if_eq_f, b_X6_wordFrom_38, x_loadR_0, x_loadS_0, f_6_23, x_imul, x_iadd, y_iald_116, y_iald_180, b_X6_wordFrom_58, f_6_6, b_X6_wordFrom_70, b_X6_wordFrom_72, y_ic_ne_t, y_ic_ne_f, b_X6_wordFrom_75, b_X6_wordFrom_79, b_X6_wordFrom_80, x_iinc_5, b_X6_wordFrom_88, b_X6_wordFrom_93, x_ret0, b_X6_wordFrom_95, x_iinc_3, b_X6_wordFrom_101, q_isL_I, q_isL_R, q_isL_S, true_and, and_true, and_self, List.length_nil, List.length_cons, Nat.zero_add, x_K, x_Kn, Int.reduceToNat, Nat.reduceAdd, Nat.reduceMul, Nat.reduceLeDiff, Nat.reduceLT, Nat.zero_le, Int.reduceAdd, Int.reduceSub, Int.reduceMul, Int.reduceNeg, q_add_e, q_sub_e, q_mul_e, q_neg_e, q_upd_s, q_upd_n, zr_shr0, zr_shr1, zr_shr2, zr_shr3, zr_shr4, zr_and, zr_dyn8, zr_or, zr_shl, q_cpy_n, y_cpy26, h4, h5]
        exact leave 0 (by omega) (decide_eq_false (by omega)) _ rfl
  simp (disch := omega) only [b_X6_wordFrom_0, x_iconst, x_storeI_3, x_loadI_3, y_ic_ge_t, y_ic_ge_f, b_X6_wordFrom_8, x_loadI_2, x_loadI_1, x_isub, y_ic_gt_t, y_ic_gt_f, b_X6_wordFrom_16, x_goto, b_X6_wordFrom_20, b_X6_wordFrom_21, x_storeI_4, x_storeI_5, x_loadI_5, b_X6_wordFrom_33, x_loadI_4, y_if_eq_t, y_if_eq_f, b_X6_wordFrom_38, x_loadR_0, x_loadS_0, f_6_23, x_imul, x_iadd, y_iald_116, y_iald_180, b_X6_wordFrom_58, f_6_6, b_X6_wordFrom_70, b_X6_wordFrom_72, y_ic_ne_t, y_ic_ne_f, b_X6_wordFrom_75, b_X6_wordFrom_79, b_X6_wordFrom_80, x_iinc_5, b_X6_wordFrom_88, b_X6_wordFrom_93, x_ret0, b_X6_wordFrom_95, x_iinc_3, b_X6_wordFrom_101, q_isL_I, q_isL_R, q_isL_S, true_and, and_true, and_self, List.length_nil, List.length_cons, Nat.zero_add, x_K, x_Kn, Int.reduceToNat, Nat.reduceAdd, Nat.reduceMul, Nat.reduceLeDiff, Nat.reduceLT, Nat.zero_le, Int.reduceAdd, Int.reduceSub, Int.reduceMul, Int.reduceNeg, q_add_e, q_sub_e, q_mul_e, q_neg_e, q_upd_s, q_upd_n, zr_shr0, zr_shr1, zr_shr2, zr_shr3, zr_shr4, zr_and, zr_dyn8, zr_or, zr_shl, q_cpy_n, y_cpy26]
  exact loop 12 0 rfl _ _ rfl rfl hq
set_option maxHeartbeats 16000000 in
theorem mp_nextX {d at0 n : Nat} {g : q_G} {M : q_M} {Q : Option q_V → q_G → q_M → Prop} (hwd : q_mwd M) (hn : M 100 7 = n) (hn2 : n ≤ 160) (h19 : M 100 19 = at0) (h0 : at0 ≤ n) (hq : ∀ (M2 : q_M), q_nxf M M2 → M2 100 19 = (L_b (M 105) n at0 : Nat) → M2 100 20 = (L_i (M 105) n at0 : Nat) → M2 100 21 = Y_t (L_t (M 105) n at0) → ((-7 ≤ L_t (M 105) n at0 ∧ L_t (M 105) n at0 ≤ -3) → M2 100 22 = Y_v (L_t (M 105) n at0) (L_v (M 105) n at0)) → Q none g M2) : q_S 1 (d + 1) 124 [qR 6 100] g M Q := by
  rw [s_X6_next]
  unfold L_b L_t L_v at hq
  have tok : ∀ k : Nat, k < n → L_i (M 105) n at0 = k → ∀ (M1 : q_M) (l1 l2 : q_V), q_isL l1 = false → q_isL l2 = false → q_nxf M M1 → M1 100 19 = k → M1 100 20 = k → M1 100 22 = 0 → q_T 1 (d + 1) qP_X6_next 82 [] [qR 6 100, l1, l2] [] g M1 Q := by
    intro k hkn hki M1 l1 l2 i1 i2 hf e19 e20 e22
    rw [hki] at hq
    have e7 : M1 100 7 = n := (hf 100 7 (by omega)).trans hn
    have eT : ∀ i, M1 105 i = M 105 i := fun i => hf 105 i (by omega)
    obtain ⟨c, hc⟩ : ∃ c : Int, M 105 k = c := ⟨_, rfl⟩
    have tail : ∀ (M2 : q_M) (j : Nat) (t v : Int), R_tk (M 105) n k 0 = (t, v, j) → q_nxf M M2 → M2 100 19 = j → M2 100 20 = k → M2 100 21 = Y_t t → ((-7 ≤ t ∧ t ≤ -3) → M2 100 22 = Y_v t v) → Q none g M2 := by
      intro M2 j t v hr q3 q4 q5 q6 q7
      rw [hr] at hq
      exact hq M2 q3 q4 q5 q6 q7
    have rk0 : ¬n ≤ k := by omega
    by_cases c1 : 97 ≤ c ∧ c ≤ 122
    · have hl : F_ltr (M 105 k) = true := decide_eq_true (by rw [hc]; exact c1)
      have wt : ∀ j : Nat, j = F_wh F_ltr (M 105) (n - (k + 1)) (k + 1) → ∀ (M2 : q_M) (l2 : q_V), q_isL l2 = false → q_nxf M M2 → M2 100 19 = j → M2 100 20 = k → q_T 1 (d + 1) qP_X6_next 146 [] [qR 6 100, qI c, l2] [] g M2 Q := by
        intro j hj M2 l2 i2 hf2 f19 f20
        have wl := F_wh_le (P := F_ltr) (T := M 105) (n - (k + 1)) (k + 1)
        have hle : ∀ m, k ≤ m → m < j → 97 ≤ M 105 m := by
          intro m h1 h2
          by_cases e : m = k
          · rw [e, hc]; exact c1.1
          · have := F_wh_P (P := F_ltr) (T := M 105) (n - (k + 1)) (k + 1) m (by omega) (by rw [← hj]; exact h2)
            exact (of_decide_eq_true this).1
        have hr : R_tk (M 105) n k 0 = ((R_wd (M 105) k j 0).1, (R_wd (M 105) k j 0).2, j) := by
          unfold R_tk
          rw [if_neg rk0, if_pos hl, ← hj]
        have ww := W_wd (T := M 105) (b := k) (a := j) hle
        have e5 : M2 105 = M 105 := funext (fun i => hf2 105 i (by omega))
        have hwd2 : q_mwd M2 := fun w c hw hc => (hf2 114 _ (by omega)).trans (hwd w c hw hc)
        rw [b_X6_next_146]
        simp (disch := omega) only [x_loadR_0, x_loadS_0, f_6_19, f_6_7, y_ic_ge_t, y_ic_ge_f, b_X6_next_11, f_6_6, y_iald_180, x_iconst, y_ic_eq_t, y_ic_eq_f, b_X6_next_25, y_ic_ne_t, y_ic_ne_f, b_X6_next_39, x_dupI, x_dupR, x_iadd, p_6_19, x_goto, b_X6_next_52, p_6_20, p_6_21, p_6_22, b_X6_next_81, x_vret, b_X6_next_82, x_storeI_1, x_loadI_1, y_if_eq_t, y_if_eq_f, b_X6_next_114, b_X6_next_133, f_6_20, x_storeI_2, x_loadI_2, b_X6_next_165, b_X6_next_169, b_X6_next_175, b_X6_next_179, b_X6_next_185, b_X6_next_189, x_isub, b_X6_next_195, b_X6_next_204, b_X6_next_208, b_X6_next_211, b_X6_next_217, b_X6_next_228, b_X6_next_241, b_X6_next_260, b_X6_next_266, f_6_22, x_imul, b_X6_next_289, b_X6_next_290, x_iinc_2, b_X6_next_309, y_ic_le_t, y_ic_le_f, b_X6_next_315, b_X6_next_319, b_X6_next_320, b_X6_next_326, b_X6_next_332, b_X6_next_338, b_X6_next_344, b_X6_next_350, b_X6_next_356, b_X6_next_362, b_X6_next_368, b_X6_next_374, b_X6_next_378, b_X6_next_379, b_X6_next_385, b_X6_next_389, b_X6_next_390, b_X6_next_403, q_isL_I, q_isL_R, q_isL_S, true_and, and_true, and_self, List.length_nil, List.length_cons, Nat.zero_add, x_K, x_Kn, Int.reduceToNat, Nat.reduceAdd, Nat.reduceMul, Nat.reduceLeDiff, Nat.reduceLT, Nat.zero_le, Int.reduceAdd, Int.reduceSub, Int.reduceMul, Int.reduceNeg, q_add_e, q_sub_e, q_mul_e, q_neg_e, q_upd_s, q_upd_n, zr_shr0, zr_shr1, zr_shr2, zr_shr3, zr_shr4, zr_and, zr_dyn8, zr_or, zr_shl, q_cpy_n, y_cpy26, f19, f20, c_X6_wordFrom, i2]
        refine mp_wordFromX hwd2 (by omega) (by omega) ?_
        rw [e5]
        generalize W_f (M 105) k j 12 0 = w at ww ⊢
        obtain ⟨w1, w2, w3⟩ := ww
        have fin : ∀ (M3 : q_M), q_nxf M M3 → M3 100 19 = j → M3 100 20 = k → M3 100 21 = (if (w : Int) < 3 then (3 : Int) else if (w : Int) < 9 then 2 else if (w : Int) = 12 then -1 else 4 + w - 9) → M3 100 22 = (if (w : Int) < 3 then (w : Int) else w - 3) → Q none g M3 := by
          intro M3 z1 z2 z3 z4 z5
          refine tail M3 j _ _ hr z1 z2 z3 (z4.trans w1) (fun z => ?_)
          have : (R_wd (M 105) k j 0).1 ≠ -3 := R_wd_t.2.2.2
          exact z5.trans (w3 (by omega))
        by_cases k1 : (w : Int) < 3
        · simp (disch := omega) only [x_loadR_0, x_loadS_0, f_6_19, f_6_7, y_ic_ge_t, y_ic_ge_f, b_X6_next_11, f_6_6, y_iald_180, x_iconst, y_ic_eq_t, y_ic_eq_f, b_X6_next_25, y_ic_ne_t, y_ic_ne_f, b_X6_next_39, x_dupI, x_dupR, x_iadd, p_6_19, x_goto, b_X6_next_52, p_6_20, p_6_21, p_6_22, b_X6_next_81, x_vret, b_X6_next_82, x_storeI_1, x_loadI_1, y_if_eq_t, y_if_eq_f, b_X6_next_114, b_X6_next_133, f_6_20, x_storeI_2, x_loadI_2, b_X6_next_165, b_X6_next_169, b_X6_next_175, b_X6_next_179, b_X6_next_185, b_X6_next_189, x_isub, b_X6_next_195, b_X6_next_204, b_X6_next_208, b_X6_next_211, b_X6_next_217, b_X6_next_228, b_X6_next_241, b_X6_next_260, b_X6_next_266, f_6_22, x_imul, b_X6_next_289, b_X6_next_290, x_iinc_2, b_X6_next_309, y_ic_le_t, y_ic_le_f, b_X6_next_315, b_X6_next_319, b_X6_next_320, b_X6_next_326, b_X6_next_332, b_X6_next_338, b_X6_next_344, b_X6_next_350, b_X6_next_356, b_X6_next_362, b_X6_next_368, b_X6_next_374, b_X6_next_378, b_X6_next_379, b_X6_next_385, b_X6_next_389, b_X6_next_390, b_X6_next_403, q_isL_I, q_isL_R, q_isL_S, true_and, and_true, and_self, List.length_nil, List.length_cons, Nat.zero_add, x_K, x_Kn, Int.reduceToNat, Nat.reduceAdd, Nat.reduceMul, Nat.reduceLeDiff, Nat.reduceLT, Nat.zero_le, Int.reduceAdd, Int.reduceSub, Int.reduceMul, Int.reduceNeg, q_add_e, q_sub_e, q_mul_e, q_neg_e, q_upd_s, q_upd_n, zr_shr0, zr_shr1, zr_shr2, zr_shr3, zr_shr4, zr_and, zr_dyn8, zr_or, zr_shl, q_cpy_n, y_cpy26]
          refine fin _ (q_nxf_up (q_nxf_up hf2 (by omega)) (by omega)) ?_ ?_ ?_ ?_
          · rw [q_upd_n (by omega), q_upd_n (by omega)]; exact f19
          · rw [q_upd_n (by omega), q_upd_n (by omega)]; exact f20
          · rw [q_upd_n (by omega), q_upd_s, if_pos k1]
          · rw [q_upd_s, if_pos k1]
        · by_cases k2 : (w : Int) < 9
          · simp (disch := omega) only [x_loadR_0, x_loadS_0, f_6_19, f_6_7, y_ic_ge_t, y_ic_ge_f, b_X6_next_11, f_6_6, y_iald_180, x_iconst, y_ic_eq_t, y_ic_eq_f, b_X6_next_25, y_ic_ne_t, y_ic_ne_f, b_X6_next_39, x_dupI, x_dupR, x_iadd, p_6_19, x_goto, b_X6_next_52, p_6_20, p_6_21, p_6_22, b_X6_next_81, x_vret, b_X6_next_82, x_storeI_1, x_loadI_1, y_if_eq_t, y_if_eq_f, b_X6_next_114, b_X6_next_133, f_6_20, x_storeI_2, x_loadI_2, b_X6_next_165, b_X6_next_169, b_X6_next_175, b_X6_next_179, b_X6_next_185, b_X6_next_189, x_isub, b_X6_next_195, b_X6_next_204, b_X6_next_208, b_X6_next_211, b_X6_next_217, b_X6_next_228, b_X6_next_241, b_X6_next_260, b_X6_next_266, f_6_22, x_imul, b_X6_next_289, b_X6_next_290, x_iinc_2, b_X6_next_309, y_ic_le_t, y_ic_le_f, b_X6_next_315, b_X6_next_319, b_X6_next_320, b_X6_next_326, b_X6_next_332, b_X6_next_338, b_X6_next_344, b_X6_next_350, b_X6_next_356, b_X6_next_362, b_X6_next_368, b_X6_next_374, b_X6_next_378, b_X6_next_379, b_X6_next_385, b_X6_next_389, b_X6_next_390, b_X6_next_403, q_isL_I, q_isL_R, q_isL_S, true_and, and_true, and_self, List.length_nil, List.length_cons, Nat.zero_add, x_K, x_Kn, Int.reduceToNat, Nat.reduceAdd, Nat.reduceMul, Nat.reduceLeDiff, Nat.reduceLT, Nat.zero_le, Int.reduceAdd, Int.reduceSub, Int.reduceMul, Int.reduceNeg, q_add_e, q_sub_e, q_mul_e, q_neg_e, q_upd_s, q_upd_n, zr_shr0, zr_shr1, zr_shr2, zr_shr3, zr_shr4, zr_and, zr_dyn8, zr_or, zr_shl, q_cpy_n, y_cpy26]
            refine fin _ (q_nxf_up (q_nxf_up hf2 (by omega)) (by omega)) ?_ ?_ ?_ ?_
            · rw [q_upd_n (by omega), q_upd_n (by omega)]; exact f19
            · rw [q_upd_n (by omega), q_upd_n (by omega)]; exact f20
            · rw [q_upd_n (by omega), q_upd_s, if_neg k1, if_pos k2]
            · rw [q_upd_s, if_neg k1]
          · by_cases k3 : (w : Int) = 12
            · simp (disch := omega) only [x_loadR_0, x_loadS_0, f_6_19, f_6_7, y_ic_ge_t, y_ic_ge_f, b_X6_next_11, f_6_6, y_iald_180, x_iconst, y_ic_eq_t, y_ic_eq_f, b_X6_next_25, y_ic_ne_t, y_ic_ne_f, b_X6_next_39, x_dupI, x_dupR, x_iadd, p_6_19, x_goto, b_X6_next_52, p_6_20, p_6_21, p_6_22, b_X6_next_81, x_vret, b_X6_next_82, x_storeI_1, x_loadI_1, y_if_eq_t, y_if_eq_f, b_X6_next_114, b_X6_next_133, f_6_20, x_storeI_2, x_loadI_2, b_X6_next_165, b_X6_next_169, b_X6_next_175, b_X6_next_179, b_X6_next_185, b_X6_next_189, x_isub, b_X6_next_195, b_X6_next_204, b_X6_next_208, b_X6_next_211, b_X6_next_217, b_X6_next_228, b_X6_next_241, b_X6_next_260, b_X6_next_266, f_6_22, x_imul, b_X6_next_289, b_X6_next_290, x_iinc_2, b_X6_next_309, y_ic_le_t, y_ic_le_f, b_X6_next_315, b_X6_next_319, b_X6_next_320, b_X6_next_326, b_X6_next_332, b_X6_next_338, b_X6_next_344, b_X6_next_350, b_X6_next_356, b_X6_next_362, b_X6_next_368, b_X6_next_374, b_X6_next_378, b_X6_next_379, b_X6_next_385, b_X6_next_389, b_X6_next_390, b_X6_next_403, q_isL_I, q_isL_R, q_isL_S, true_and, and_true, and_self, List.length_nil, List.length_cons, Nat.zero_add, x_K, x_Kn, Int.reduceToNat, Nat.reduceAdd, Nat.reduceMul, Nat.reduceLeDiff, Nat.reduceLT, Nat.zero_le, Int.reduceAdd, Int.reduceSub, Int.reduceMul, Int.reduceNeg, q_add_e, q_sub_e, q_mul_e, q_neg_e, q_upd_s, q_upd_n, zr_shr0, zr_shr1, zr_shr2, zr_shr3, zr_shr4, zr_and, zr_dyn8, zr_or, zr_shl, q_cpy_n, y_cpy26]
              refine fin _ (q_nxf_up (q_nxf_up hf2 (by omega)) (by omega)) ?_ ?_ ?_ ?_
              · rw [q_upd_n (by omega), q_upd_n (by omega)]; exact f19
              · rw [q_upd_n (by omega), q_upd_n (by omega)]; exact f20
              · rw [q_upd_n (by omega), q_upd_s, if_neg k1, if_neg k2, if_pos k3]
              · rw [q_upd_s, if_neg k1]
            · simp (disch := omega) only [x_loadR_0, x_loadS_0, f_6_19, f_6_7, y_ic_ge_t, y_ic_ge_f, b_X6_next_11, f_6_6, y_iald_180, x_iconst, y_ic_eq_t, y_ic_eq_f, b_X6_next_25, y_ic_ne_t, y_ic_ne_f, b_X6_next_39, x_dupI, x_dupR, x_iadd, p_6_19, x_goto, b_X6_next_52, p_6_20, p_6_21, p_6_22, b_X6_next_81, x_vret, b_X6_next_82, x_storeI_1, x_loadI_1, y_if_eq_t, y_if_eq_f, b_X6_next_114, b_X6_next_133, f_6_20, x_storeI_2, x_loadI_2, b_X6_next_165, b_X6_next_169, b_X6_next_175, b_X6_next_179, b_X6_next_185, b_X6_next_189, x_isub, b_X6_next_195, b_X6_next_204, b_X6_next_208, b_X6_next_211, b_X6_next_217, b_X6_next_228, b_X6_next_241, b_X6_next_260, b_X6_next_266, f_6_22, x_imul, b_X6_next_289, b_X6_next_290, x_iinc_2, b_X6_next_309, y_ic_le_t, y_ic_le_f, b_X6_next_315, b_X6_next_319, b_X6_next_320, b_X6_next_326, b_X6_next_332, b_X6_next_338, b_X6_next_344, b_X6_next_350, b_X6_next_356, b_X6_next_362, b_X6_next_368, b_X6_next_374, b_X6_next_378, b_X6_next_379, b_X6_next_385, b_X6_next_389, b_X6_next_390, b_X6_next_403, q_isL_I, q_isL_R, q_isL_S, true_and, and_true, and_self, List.length_nil, List.length_cons, Nat.zero_add, x_K, x_Kn, Int.reduceToNat, Nat.reduceAdd, Nat.reduceMul, Nat.reduceLeDiff, Nat.reduceLT, Nat.zero_le, Int.reduceAdd, Int.reduceSub, Int.reduceMul, Int.reduceNeg, q_add_e, q_sub_e, q_mul_e, q_neg_e, q_upd_s, q_upd_n, zr_shr0, zr_shr1, zr_shr2, zr_shr3, zr_shr4, zr_and, zr_dyn8, zr_or, zr_shl, q_cpy_n, y_cpy26]
              refine fin _ (q_nxf_up (q_nxf_up hf2 (by omega)) (by omega)) ?_ ?_ ?_ ?_
              · rw [q_upd_n (by omega), q_upd_n (by omega)]; exact f19
              · rw [q_upd_n (by omega), q_upd_n (by omega)]; exact f20
              · rw [q_upd_n (by omega), q_upd_s, if_neg k1, if_neg k2, if_neg k3]
              · rw [q_upd_s, if_neg k1]
      have wl : ∀ e j : Nat, j + e = n → F_wh F_ltr (M 105) e j = F_wh F_ltr (M 105) (n - (k + 1)) (k + 1) → ∀ (M2 : q_M) (l2 : q_V), q_isL l2 = false → q_nxf M M2 → M2 100 19 = j → M2 100 20 = k → q_T 1 (d + 1) qP_X6_next 103 [] [qR 6 100, qI c, l2] [] g M2 Q := by
        intro e
        induction e with
        | zero =>
          intro j hj hkj M2 l2 i2 hf2 f19 f20
          have f7 : M2 100 7 = n := (hf2 100 7 (by omega)).trans hn
          rw [b_X6_next_103]
          simp (disch := omega) only [x_loadR_0, x_loadS_0, f_6_19, f_6_7, y_ic_ge_t, y_ic_ge_f, b_X6_next_11, f_6_6, y_iald_180, x_iconst, y_ic_eq_t, y_ic_eq_f, b_X6_next_25, y_ic_ne_t, y_ic_ne_f, b_X6_next_39, x_dupI, x_dupR, x_iadd, p_6_19, x_goto, b_X6_next_52, p_6_20, p_6_21, p_6_22, b_X6_next_81, x_vret, b_X6_next_82, x_storeI_1, x_loadI_1, y_if_eq_t, y_if_eq_f, b_X6_next_114, b_X6_next_133, f_6_20, x_storeI_2, x_loadI_2, b_X6_next_165, b_X6_next_169, b_X6_next_175, b_X6_next_179, b_X6_next_185, b_X6_next_189, x_isub, b_X6_next_195, b_X6_next_204, b_X6_next_208, b_X6_next_211, b_X6_next_217, b_X6_next_228, b_X6_next_241, b_X6_next_260, b_X6_next_266, f_6_22, x_imul, b_X6_next_289, b_X6_next_290, x_iinc_2, b_X6_next_309, y_ic_le_t, y_ic_le_f, b_X6_next_315, b_X6_next_319, b_X6_next_320, b_X6_next_326, b_X6_next_332, b_X6_next_338, b_X6_next_344, b_X6_next_350, b_X6_next_356, b_X6_next_362, b_X6_next_368, b_X6_next_374, b_X6_next_378, b_X6_next_379, b_X6_next_385, b_X6_next_389, b_X6_next_390, b_X6_next_403, q_isL_I, q_isL_R, q_isL_S, true_and, and_true, and_self, List.length_nil, List.length_cons, Nat.zero_add, x_K, x_Kn, Int.reduceToNat, Nat.reduceAdd, Nat.reduceMul, Nat.reduceLeDiff, Nat.reduceLT, Nat.zero_le, Int.reduceAdd, Int.reduceSub, Int.reduceMul, Int.reduceNeg, q_add_e, q_sub_e, q_mul_e, q_neg_e, q_upd_s, q_upd_n, zr_shr0, zr_shr1, zr_shr2, zr_shr3, zr_shr4, zr_and, zr_dyn8, zr_or, zr_shl, q_cpy_n, y_cpy26, f19, f7]
          exact wt j hkj M2 l2 i2 hf2 f19 f20
        | succ e ih =>
          intro j hj hkj M2 l2 i2 hf2 f19 f20
          have f7 : M2 100 7 = n := (hf2 100 7 (by omega)).trans hn
          have fT : M2 105 j = M 105 j := hf2 105 j (by omega)
          rw [F_wh] at hkj
          rw [b_X6_next_103]
          by_cases k1 : 97 ≤ M 105 j ∧ M 105 j ≤ 122
          · rw [if_pos (show F_ltr (M 105 j) = true from decide_eq_true k1)] at hkj
            simp (disch := omega) only [x_loadR_0, x_loadS_0, f_6_19, f_6_7, y_ic_ge_t, y_ic_ge_f, b_X6_next_11, f_6_6, y_iald_180, x_iconst, y_ic_eq_t, y_ic_eq_f, b_X6_next_25, y_ic_ne_t, y_ic_ne_f, b_X6_next_39, x_dupI, x_dupR, x_iadd, p_6_19, x_goto, b_X6_next_52, p_6_20, p_6_21, p_6_22, b_X6_next_81, x_vret, b_X6_next_82, x_storeI_1, x_loadI_1, y_if_eq_t, y_if_eq_f, b_X6_next_114, b_X6_next_133, f_6_20, x_storeI_2, x_loadI_2, b_X6_next_165, b_X6_next_169, b_X6_next_175, b_X6_next_179, b_X6_next_185, b_X6_next_189, x_isub, b_X6_next_195, b_X6_next_204, b_X6_next_208, b_X6_next_211, b_X6_next_217, b_X6_next_228, b_X6_next_241, b_X6_next_260, b_X6_next_266, f_6_22, x_imul, b_X6_next_289, b_X6_next_290, x_iinc_2, b_X6_next_309, y_ic_le_t, y_ic_le_f, b_X6_next_315, b_X6_next_319, b_X6_next_320, b_X6_next_326, b_X6_next_332, b_X6_next_338, b_X6_next_344, b_X6_next_350, b_X6_next_356, b_X6_next_362, b_X6_next_368, b_X6_next_374, b_X6_next_378, b_X6_next_379, b_X6_next_385, b_X6_next_389, b_X6_next_390, b_X6_next_403, q_isL_I, q_isL_R, q_isL_S, true_and, and_true, and_self, List.length_nil, List.length_cons, Nat.zero_add, x_K, x_Kn, Int.reduceToNat, Nat.reduceAdd, Nat.reduceMul, Nat.reduceLeDiff, Nat.reduceLT, Nat.zero_le, Int.reduceAdd, Int.reduceSub, Int.reduceMul, Int.reduceNeg, q_add_e, q_sub_e, q_mul_e, q_neg_e, q_upd_s, q_upd_n, zr_shr0, zr_shr1, zr_shr2, zr_shr3, zr_shr4, zr_and, zr_dyn8, zr_or, zr_shl, q_cpy_n, y_cpy26, f19, f7, Int.toNat_natCast, fT, c_X6_in, mp_in, k1, and_self, if_true]
            refine ih (j + 1) (by omega) hkj _ l2 i2 (q_nxf_up hf2 (by omega)) ?_ ?_
            · rw [q_upd_s]; omega
            · rw [q_upd_n (by omega)]; exact f20
          · rw [if_neg (show ¬F_ltr (M 105 j) = true from fun z => k1 (of_decide_eq_true z))] at hkj
            simp (disch := omega) only [x_loadR_0, x_loadS_0, f_6_19, f_6_7, y_ic_ge_t, y_ic_ge_f, b_X6_next_11, f_6_6, y_iald_180, x_iconst, y_ic_eq_t, y_ic_eq_f, b_X6_next_25, y_ic_ne_t, y_ic_ne_f, b_X6_next_39, x_dupI, x_dupR, x_iadd, p_6_19, x_goto, b_X6_next_52, p_6_20, p_6_21, p_6_22, b_X6_next_81, x_vret, b_X6_next_82, x_storeI_1, x_loadI_1, y_if_eq_t, y_if_eq_f, b_X6_next_114, b_X6_next_133, f_6_20, x_storeI_2, x_loadI_2, b_X6_next_165, b_X6_next_169, b_X6_next_175, b_X6_next_179, b_X6_next_185, b_X6_next_189, x_isub, b_X6_next_195, b_X6_next_204, b_X6_next_208, b_X6_next_211, b_X6_next_217, b_X6_next_228, b_X6_next_241, b_X6_next_260, b_X6_next_266, f_6_22, x_imul, b_X6_next_289, b_X6_next_290, x_iinc_2, b_X6_next_309, y_ic_le_t, y_ic_le_f, b_X6_next_315, b_X6_next_319, b_X6_next_320, b_X6_next_326, b_X6_next_332, b_X6_next_338, b_X6_next_344, b_X6_next_350, b_X6_next_356, b_X6_next_362, b_X6_next_368, b_X6_next_374, b_X6_next_378, b_X6_next_379, b_X6_next_385, b_X6_next_389, b_X6_next_390, b_X6_next_403, q_isL_I, q_isL_R, q_isL_S, true_and, and_true, and_self, List.length_nil, List.length_cons, Nat.zero_add, x_K, x_Kn, Int.reduceToNat, Nat.reduceAdd, Nat.reduceMul, Nat.reduceLeDiff, Nat.reduceLT, Nat.zero_le, Int.reduceAdd, Int.reduceSub, Int.reduceMul, Int.reduceNeg, q_add_e, q_sub_e, q_mul_e, q_neg_e, q_upd_s, q_upd_n, zr_shr0, zr_shr1, zr_shr2, zr_shr3, zr_shr4, zr_and, zr_dyn8, zr_or, zr_shl, q_cpy_n, y_cpy26, f19, f7, Int.toNat_natCast, fT, c_X6_in, mp_in, k1, if_false]
            exact wt j hkj M2 l2 i2 hf2 f19 f20
      rw [b_X6_next_82]
      simp (disch := omega) only [x_loadR_0, x_loadS_0, f_6_19, f_6_7, y_ic_ge_t, y_ic_ge_f, b_X6_next_11, f_6_6, y_iald_180, x_iconst, y_ic_eq_t, y_ic_eq_f, b_X6_next_25, y_ic_ne_t, y_ic_ne_f, b_X6_next_39, x_dupI, x_dupR, x_iadd, p_6_19, x_goto, b_X6_next_52, p_6_20, p_6_21, p_6_22, b_X6_next_81, x_vret, b_X6_next_82, x_storeI_1, x_loadI_1, y_if_eq_t, y_if_eq_f, b_X6_next_114, b_X6_next_133, f_6_20, x_storeI_2, x_loadI_2, b_X6_next_165, b_X6_next_169, b_X6_next_175, b_X6_next_179, b_X6_next_185, b_X6_next_189, x_isub, b_X6_next_195, b_X6_next_204, b_X6_next_208, b_X6_next_211, b_X6_next_217, b_X6_next_228, b_X6_next_241, b_X6_next_260, b_X6_next_266, f_6_22, x_imul, b_X6_next_289, b_X6_next_290, x_iinc_2, b_X6_next_309, y_ic_le_t, y_ic_le_f, b_X6_next_315, b_X6_next_319, b_X6_next_320, b_X6_next_326, b_X6_next_332, b_X6_next_338, b_X6_next_344, b_X6_next_350, b_X6_next_356, b_X6_next_362, b_X6_next_368, b_X6_next_374, b_X6_next_378, b_X6_next_379, b_X6_next_385, b_X6_next_389, b_X6_next_390, b_X6_next_403, q_isL_I, q_isL_R, q_isL_S, true_and, and_true, and_self, List.length_nil, List.length_cons, Nat.zero_add, x_K, x_Kn, Int.reduceToNat, Nat.reduceAdd, Nat.reduceMul, Nat.reduceLeDiff, Nat.reduceLT, Nat.zero_le, Int.reduceAdd, Int.reduceSub, Int.reduceMul, Int.reduceNeg, q_add_e, q_sub_e, q_mul_e, q_neg_e, q_upd_s, q_upd_n, zr_shr0, zr_shr1, zr_shr2, zr_shr3, zr_shr4, zr_and, zr_dyn8, zr_or, zr_shl, q_cpy_n, y_cpy26, e19, Int.toNat_natCast, eT, hc, c_X6_in, mp_in, c1, and_self, if_true, i1]
      refine wl (n - k) k (by omega) ?_ M1 l2 i2 hf e19 e20
      obtain ⟨x, hx⟩ : ∃ x, n - k = x + 1 := ⟨n - k - 1, by omega⟩
      rw [hx, F_wh, if_pos hl, show n - (k + 1) = x by omega]
    · have hl : ¬F_ltr (M 105 k) = true := fun z => c1 (by have := of_decide_eq_true z; rw [hc] at this; exact this)
      by_cases c2 : 48 ≤ c ∧ c ≤ 57
      · have hd : F_dgt (M 105 k) = true := decide_eq_true (by rw [hc]; exact c2)
        have wl : ∀ e j : Nat, j + e = n → k ≤ j → F_wh F_dgt (M 105) e j = F_wh F_dgt (M 105) (n - k) k → ∀ (M2 : q_M), q_nxf M M2 → M2 100 19 = j → M2 100 20 = k → (j ≤ k + 4 → M2 100 22 = F_num (M 105) k (j - k)) → q_T 1 (d + 1) qP_X6_next 230 [] [qR 6 100, qI c, qI ((j : Int) - k)] [] g M2 Q := by
          intro e
          have dt : ∀ j : Nat, j ≤ n → k ≤ j → j = F_wh F_dgt (M 105) (n - k) k → ∀ (M2 : q_M), q_nxf M M2 → M2 100 19 = j → M2 100 20 = k → (j ≤ k + 4 → M2 100 22 = F_num (M 105) k (j - k)) → q_T 1 (d + 1) qP_X6_next 309 [] [qR 6 100, qI c, qI ((j : Int) - k)] [] g M2 Q := by
            intro j hj hkj hjw M2 hf2 f19 f20 f22
            have hr : R_tk (M 105) n k 0 = (if k + 4 < j then -1 else -3, F_num (M 105) k (j - k), j) := by
              unfold R_tk
              rw [if_neg rk0, if_neg hl, if_pos hd, ← hjw]
            rw [b_X6_next_309]
            by_cases k1 : (j : Int) - k ≤ 4
            · rw [if_neg (by omega)] at hr
              simp (disch := omega) only [x_loadR_0, x_loadS_0, f_6_19, f_6_7, y_ic_ge_t, y_ic_ge_f, b_X6_next_11, f_6_6, y_iald_180, x_iconst, y_ic_eq_t, y_ic_eq_f, b_X6_next_25, y_ic_ne_t, y_ic_ne_f, b_X6_next_39, x_dupI, x_dupR, x_iadd, p_6_19, x_goto, b_X6_next_52, p_6_20, p_6_21, p_6_22, b_X6_next_81, x_vret, b_X6_next_82, x_storeI_1, x_loadI_1, y_if_eq_t, y_if_eq_f, b_X6_next_114, b_X6_next_133, f_6_20, x_storeI_2, x_loadI_2, b_X6_next_165, b_X6_next_169, b_X6_next_175, b_X6_next_179, b_X6_next_185, b_X6_next_189, x_isub, b_X6_next_195, b_X6_next_204, b_X6_next_208, b_X6_next_211, b_X6_next_217, b_X6_next_228, b_X6_next_241, b_X6_next_260, b_X6_next_266, f_6_22, x_imul, b_X6_next_289, b_X6_next_290, x_iinc_2, b_X6_next_309, y_ic_le_t, y_ic_le_f, b_X6_next_315, b_X6_next_319, b_X6_next_320, b_X6_next_326, b_X6_next_332, b_X6_next_338, b_X6_next_344, b_X6_next_350, b_X6_next_356, b_X6_next_362, b_X6_next_368, b_X6_next_374, b_X6_next_378, b_X6_next_379, b_X6_next_385, b_X6_next_389, b_X6_next_390, b_X6_next_403, q_isL_I, q_isL_R, q_isL_S, true_and, and_true, and_self, List.length_nil, List.length_cons, Nat.zero_add, x_K, x_Kn, Int.reduceToNat, Nat.reduceAdd, Nat.reduceMul, Nat.reduceLeDiff, Nat.reduceLT, Nat.zero_le, Int.reduceAdd, Int.reduceSub, Int.reduceMul, Int.reduceNeg, q_add_e, q_sub_e, q_mul_e, q_neg_e, q_upd_s, q_upd_n, zr_shr0, zr_shr1, zr_shr2, zr_shr3, zr_shr4, zr_and, zr_dyn8, zr_or, zr_shl, q_cpy_n, y_cpy26]
              refine tail _ j _ _ hr (q_nxf_up hf2 (by omega)) ?_ ?_ ?_ (fun z => ?_)
              · rw [q_upd_n (by omega)]; exact f19
              · rw [q_upd_n (by omega)]; exact f20
              · rw [q_upd_s]; rfl
              · rw [q_upd_n (by omega)]; exact f22 (by omega)
            · rw [if_pos (by omega)] at hr
              simp (disch := omega) only [x_loadR_0, x_loadS_0, f_6_19, f_6_7, y_ic_ge_t, y_ic_ge_f, b_X6_next_11, f_6_6, y_iald_180, x_iconst, y_ic_eq_t, y_ic_eq_f, b_X6_next_25, y_ic_ne_t, y_ic_ne_f, b_X6_next_39, x_dupI, x_dupR, x_iadd, p_6_19, x_goto, b_X6_next_52, p_6_20, p_6_21, p_6_22, b_X6_next_81, x_vret, b_X6_next_82, x_storeI_1, x_loadI_1, y_if_eq_t, y_if_eq_f, b_X6_next_114, b_X6_next_133, f_6_20, x_storeI_2, x_loadI_2, b_X6_next_165, b_X6_next_169, b_X6_next_175, b_X6_next_179, b_X6_next_185, b_X6_next_189, x_isub, b_X6_next_195, b_X6_next_204, b_X6_next_208, b_X6_next_211, b_X6_next_217, b_X6_next_228, b_X6_next_241, b_X6_next_260, b_X6_next_266, f_6_22, x_imul, b_X6_next_289, b_X6_next_290, x_iinc_2, b_X6_next_309, y_ic_le_t, y_ic_le_f, b_X6_next_315, b_X6_next_319, b_X6_next_320, b_X6_next_326, b_X6_next_332, b_X6_next_338, b_X6_next_344, b_X6_next_350, b_X6_next_356, b_X6_next_362, b_X6_next_368, b_X6_next_374, b_X6_next_378, b_X6_next_379, b_X6_next_385, b_X6_next_389, b_X6_next_390, b_X6_next_403, q_isL_I, q_isL_R, q_isL_S, true_and, and_true, and_self, List.length_nil, List.length_cons, Nat.zero_add, x_K, x_Kn, Int.reduceToNat, Nat.reduceAdd, Nat.reduceMul, Nat.reduceLeDiff, Nat.reduceLT, Nat.zero_le, Int.reduceAdd, Int.reduceSub, Int.reduceMul, Int.reduceNeg, q_add_e, q_sub_e, q_mul_e, q_neg_e, q_upd_s, q_upd_n, zr_shr0, zr_shr1, zr_shr2, zr_shr3, zr_shr4, zr_and, zr_dyn8, zr_or, zr_shl, q_cpy_n, y_cpy26]
              refine tail _ j _ _ hr (q_nxf_up hf2 (by omega)) ?_ ?_ ?_ (fun z => absurd z (by omega))
              · rw [q_upd_n (by omega)]; exact f19
              · rw [q_upd_n (by omega)]; exact f20
              · rw [q_upd_s]; rfl
          induction e with
          | zero =>
            intro j hj hkj hjw M2 hf2 f19 f20 f22
            have f7 : M2 100 7 = n := (hf2 100 7 (by omega)).trans hn
            rw [b_X6_next_230]
            simp (disch := omega) only [x_loadR_0, x_loadS_0, f_6_19, f_6_7, y_ic_ge_t, y_ic_ge_f, b_X6_next_11, f_6_6, y_iald_180, x_iconst, y_ic_eq_t, y_ic_eq_f, b_X6_next_25, y_ic_ne_t, y_ic_ne_f, b_X6_next_39, x_dupI, x_dupR, x_iadd, p_6_19, x_goto, b_X6_next_52, p_6_20, p_6_21, p_6_22, b_X6_next_81, x_vret, b_X6_next_82, x_storeI_1, x_loadI_1, y_if_eq_t, y_if_eq_f, b_X6_next_114, b_X6_next_133, f_6_20, x_storeI_2, x_loadI_2, b_X6_next_165, b_X6_next_169, b_X6_next_175, b_X6_next_179, b_X6_next_185, b_X6_next_189, x_isub, b_X6_next_195, b_X6_next_204, b_X6_next_208, b_X6_next_211, b_X6_next_217, b_X6_next_228, b_X6_next_241, b_X6_next_260, b_X6_next_266, f_6_22, x_imul, b_X6_next_289, b_X6_next_290, x_iinc_2, y_ic_le_t, y_ic_le_f, b_X6_next_315, b_X6_next_319, b_X6_next_320, b_X6_next_326, b_X6_next_332, b_X6_next_338, b_X6_next_344, b_X6_next_350, b_X6_next_356, b_X6_next_362, b_X6_next_368, b_X6_next_374, b_X6_next_378, b_X6_next_379, b_X6_next_385, b_X6_next_389, b_X6_next_390, b_X6_next_403, q_isL_I, q_isL_R, q_isL_S, true_and, and_true, and_self, List.length_nil, List.length_cons, Nat.zero_add, x_K, x_Kn, Int.reduceToNat, Nat.reduceAdd, Nat.reduceMul, Nat.reduceLeDiff, Nat.reduceLT, Nat.zero_le, Int.reduceAdd, Int.reduceSub, Int.reduceMul, Int.reduceNeg, q_add_e, q_sub_e, q_mul_e, q_neg_e, q_upd_s, q_upd_n, zr_shr0, zr_shr1, zr_shr2, zr_shr3, zr_shr4, zr_and, zr_dyn8, zr_or, zr_shl, q_cpy_n, y_cpy26, f19, f7]
            exact dt j (by omega) hkj hjw M2 hf2 f19 f20 f22
          | succ e ih =>
            intro j hj hkj hjw M2 hf2 f19 f20 f22
            have f7 : M2 100 7 = n := (hf2 100 7 (by omega)).trans hn
            have fT : M2 105 j = M 105 j := hf2 105 j (by omega)
            have ej : (j : Int) - k + 1 = ((j + 1 : Nat) : Int) - k := by omega
            rw [F_wh] at hjw
            rw [b_X6_next_230]
            by_cases k1 : 48 ≤ M 105 j ∧ M 105 j ≤ 57
            · rw [if_pos (show F_dgt (M 105 j) = true from decide_eq_true k1)] at hjw
              by_cases k2 : (j : Int) - k < 4
              · have eF : F_num (M 105) k (j + 1 - k) = q_sub (q_add (q_mul 10 (F_num (M 105) k (j - k))) (M 105 j)) 48 := by
                  rw [show j + 1 - k = (j - k) + 1 by omega, F_num, show k + (j - k) = j by omega]
                simp (disch := omega) only [x_loadR_0, x_loadS_0, f_6_19, f_6_7, y_ic_ge_t, y_ic_ge_f, b_X6_next_11, f_6_6, y_iald_180, x_iconst, y_ic_eq_t, y_ic_eq_f, b_X6_next_25, y_ic_ne_t, y_ic_ne_f, b_X6_next_39, x_dupI, x_dupR, x_iadd, p_6_19, x_goto, b_X6_next_52, p_6_20, p_6_21, p_6_22, b_X6_next_81, x_vret, b_X6_next_82, x_storeI_1, x_loadI_1, y_if_eq_t, y_if_eq_f, b_X6_next_114, b_X6_next_133, f_6_20, x_storeI_2, x_loadI_2, b_X6_next_165, b_X6_next_169, b_X6_next_175, b_X6_next_179, b_X6_next_185, b_X6_next_189, x_isub, b_X6_next_195, b_X6_next_204, b_X6_next_208, b_X6_next_211, b_X6_next_217, b_X6_next_228, b_X6_next_241, b_X6_next_260, b_X6_next_266, f_6_22, x_imul, b_X6_next_289, b_X6_next_290, x_iinc_2, y_ic_le_t, y_ic_le_f, b_X6_next_315, b_X6_next_319, b_X6_next_320, b_X6_next_326, b_X6_next_332, b_X6_next_338, b_X6_next_344, b_X6_next_350, b_X6_next_356, b_X6_next_362, b_X6_next_368, b_X6_next_374, b_X6_next_378, b_X6_next_379, b_X6_next_385, b_X6_next_389, b_X6_next_390, b_X6_next_403, q_isL_I, q_isL_R, q_isL_S, true_and, and_true, and_self, List.length_nil, List.length_cons, Nat.zero_add, x_K, x_Kn, Int.reduceToNat, Nat.reduceAdd, Nat.reduceMul, Nat.reduceLeDiff, Nat.reduceLT, Nat.zero_le, Int.reduceAdd, Int.reduceSub, Int.reduceMul, Int.reduceNeg, q_neg_e, q_upd_s, q_upd_n, zr_shr0, zr_shr1, zr_shr2, zr_shr3, zr_shr4, zr_and, zr_dyn8, zr_or, zr_shl, q_cpy_n, y_cpy26, f19, f7, Int.toNat_natCast, fT, c_X6_in, mp_in, k1, and_self, if_true, f22]
                rw [q_add_e (x := (j : Int) - k) (y := 1) (by omega) (by omega), q_add_e (x := (j : Int)) (y := 1) (by omega) (by omega), ej]
                refine ih (j + 1) (by omega) (by omega) hjw _ (q_nxf_up (q_nxf_up hf2 (by omega)) (by omega)) ?_ ?_ (fun _ => ?_)
                · rw [q_upd_s]; omega
                · rw [q_upd_n (by omega), q_upd_n (by omega)]; exact f20
                · rw [q_upd_n (by omega), q_upd_s, eF]
              · simp (disch := omega) only [x_loadR_0, x_loadS_0, f_6_19, f_6_7, y_ic_ge_t, y_ic_ge_f, b_X6_next_11, f_6_6, y_iald_180, x_iconst, y_ic_eq_t, y_ic_eq_f, b_X6_next_25, y_ic_ne_t, y_ic_ne_f, b_X6_next_39, x_dupI, x_dupR, x_iadd, p_6_19, x_goto, b_X6_next_52, p_6_20, p_6_21, p_6_22, b_X6_next_81, x_vret, b_X6_next_82, x_storeI_1, x_loadI_1, y_if_eq_t, y_if_eq_f, b_X6_next_114, b_X6_next_133, f_6_20, x_storeI_2, x_loadI_2, b_X6_next_165, b_X6_next_169, b_X6_next_175, b_X6_next_179, b_X6_next_185, b_X6_next_189, x_isub, b_X6_next_195, b_X6_next_204, b_X6_next_208, b_X6_next_211, b_X6_next_217, b_X6_next_228, b_X6_next_241, b_X6_next_260, b_X6_next_266, f_6_22, x_imul, b_X6_next_289, b_X6_next_290, x_iinc_2, y_ic_le_t, y_ic_le_f, b_X6_next_315, b_X6_next_319, b_X6_next_320, b_X6_next_326, b_X6_next_332, b_X6_next_338, b_X6_next_344, b_X6_next_350, b_X6_next_356, b_X6_next_362, b_X6_next_368, b_X6_next_374, b_X6_next_378, b_X6_next_379, b_X6_next_385, b_X6_next_389, b_X6_next_390, b_X6_next_403, q_isL_I, q_isL_R, q_isL_S, true_and, and_true, and_self, List.length_nil, List.length_cons, Nat.zero_add, x_K, x_Kn, Int.reduceToNat, Nat.reduceAdd, Nat.reduceMul, Nat.reduceLeDiff, Nat.reduceLT, Nat.zero_le, Int.reduceAdd, Int.reduceSub, Int.reduceMul, Int.reduceNeg, q_add_e, q_sub_e, q_mul_e, q_neg_e, q_upd_s, q_upd_n, zr_shr0, zr_shr1, zr_shr2, zr_shr3, zr_shr4, zr_and, zr_dyn8, zr_or, zr_shl, q_cpy_n, y_cpy26, f19, f7, Int.toNat_natCast, fT, c_X6_in, mp_in, k1, and_self, if_true, ej]
                refine ih (j + 1) (by omega) (by omega) hjw _ (q_nxf_up (q_nxf_up hf2 (by omega)) (by omega)) ?_ ?_ (fun z => absurd z (by omega))
                · rw [q_upd_s]; omega
                · rw [q_upd_n (by omega), q_upd_n (by omega)]; exact f20
            · rw [if_neg (show ¬F_dgt (M 105 j) = true from fun z => k1 (of_decide_eq_true z))] at hjw
              simp (disch := omega) only [x_loadR_0, x_loadS_0, f_6_19, f_6_7, y_ic_ge_t, y_ic_ge_f, b_X6_next_11, f_6_6, y_iald_180, x_iconst, y_ic_eq_t, y_ic_eq_f, b_X6_next_25, y_ic_ne_t, y_ic_ne_f, b_X6_next_39, x_dupI, x_dupR, x_iadd, p_6_19, x_goto, b_X6_next_52, p_6_20, p_6_21, p_6_22, b_X6_next_81, x_vret, b_X6_next_82, x_storeI_1, x_loadI_1, y_if_eq_t, y_if_eq_f, b_X6_next_114, b_X6_next_133, f_6_20, x_storeI_2, x_loadI_2, b_X6_next_165, b_X6_next_169, b_X6_next_175, b_X6_next_179, b_X6_next_185, b_X6_next_189, x_isub, b_X6_next_195, b_X6_next_204, b_X6_next_208, b_X6_next_211, b_X6_next_217, b_X6_next_228, b_X6_next_241, b_X6_next_260, b_X6_next_266, f_6_22, x_imul, b_X6_next_289, b_X6_next_290, x_iinc_2, y_ic_le_t, y_ic_le_f, b_X6_next_315, b_X6_next_319, b_X6_next_320, b_X6_next_326, b_X6_next_332, b_X6_next_338, b_X6_next_344, b_X6_next_350, b_X6_next_356, b_X6_next_362, b_X6_next_368, b_X6_next_374, b_X6_next_378, b_X6_next_379, b_X6_next_385, b_X6_next_389, b_X6_next_390, b_X6_next_403, q_isL_I, q_isL_R, q_isL_S, true_and, and_true, and_self, List.length_nil, List.length_cons, Nat.zero_add, x_K, x_Kn, Int.reduceToNat, Nat.reduceAdd, Nat.reduceMul, Nat.reduceLeDiff, Nat.reduceLT, Nat.zero_le, Int.reduceAdd, Int.reduceSub, Int.reduceMul, Int.reduceNeg, q_add_e, q_sub_e, q_mul_e, q_neg_e, q_upd_s, q_upd_n, zr_shr0, zr_shr1, zr_shr2, zr_shr3, zr_shr4, zr_and, zr_dyn8, zr_or, zr_shl, q_cpy_n, y_cpy26, f19, f7, Int.toNat_natCast, fT, c_X6_in, mp_in, k1, if_false]
              exact dt j (by omega) hkj hjw M2 hf2 f19 f20 f22
        rw [b_X6_next_82]
        simp (disch := omega) only [x_loadR_0, x_loadS_0, f_6_19, f_6_7, y_ic_ge_t, y_ic_ge_f, b_X6_next_11, f_6_6, y_iald_180, x_iconst, y_ic_eq_t, y_ic_eq_f, b_X6_next_25, y_ic_ne_t, y_ic_ne_f, b_X6_next_39, x_dupI, x_dupR, x_iadd, p_6_19, x_goto, b_X6_next_52, p_6_20, p_6_21, p_6_22, b_X6_next_81, x_vret, b_X6_next_82, x_storeI_1, x_loadI_1, y_if_eq_t, y_if_eq_f, b_X6_next_114, b_X6_next_133, f_6_20, x_storeI_2, x_loadI_2, b_X6_next_165, b_X6_next_169, b_X6_next_175, b_X6_next_179, b_X6_next_185, b_X6_next_189, x_isub, b_X6_next_195, b_X6_next_204, b_X6_next_208, b_X6_next_211, b_X6_next_217, b_X6_next_228, b_X6_next_241, b_X6_next_260, b_X6_next_266, f_6_22, x_imul, b_X6_next_289, b_X6_next_290, x_iinc_2, b_X6_next_309, y_ic_le_t, y_ic_le_f, b_X6_next_315, b_X6_next_319, b_X6_next_320, b_X6_next_326, b_X6_next_332, b_X6_next_338, b_X6_next_344, b_X6_next_350, b_X6_next_356, b_X6_next_362, b_X6_next_368, b_X6_next_374, b_X6_next_378, b_X6_next_379, b_X6_next_385, b_X6_next_389, b_X6_next_390, b_X6_next_403, q_isL_I, q_isL_R, q_isL_S, true_and, and_true, and_self, List.length_nil, List.length_cons, Nat.zero_add, x_K, x_Kn, Int.reduceToNat, Nat.reduceAdd, Nat.reduceMul, Nat.reduceLeDiff, Nat.reduceLT, Nat.zero_le, Int.reduceAdd, Int.reduceSub, Int.reduceMul, Int.reduceNeg, q_add_e, q_sub_e, q_mul_e, q_neg_e, q_upd_s, q_upd_n, zr_shr0, zr_shr1, zr_shr2, zr_shr3, zr_shr4, zr_and, zr_dyn8, zr_or, zr_shl, q_cpy_n, y_cpy26, e19, Int.toNat_natCast, eT, hc, c_X6_in, mp_in, c1, c2, and_self, if_true, if_false, i1, i2]
        have w := wl (n - k) k (by omega) (by omega) rfl M1 hf e19 e20 (fun _ => by rw [e22, Nat.sub_self]; rfl)
        rw [show (k : Int) - k = 0 by omega] at w
        exact w
      · have hd : ¬F_dgt (M 105 k) = true := fun z => c2 (by have := of_decide_eq_true z; rw [hc] at this; exact this)
        have hr : R_tk (M 105) n k 0 = (if F_sgn c = true then c else -1, 0, k + 1) := by
          unfold R_tk
          rw [if_neg rk0, if_neg hl, if_neg hd, hc]
        have sy : ∀ x : Int, (if F_sgn c = true then 1 else 0) = x → q_T 1 (d + 1) qP_X6_next 379 [] [qR 6 100, qI c, l2] [qI x] g M1 Q := by
          intro x hx
          rw [b_X6_next_379]
          by_cases k1 : F_sgn c = true
          · rw [if_pos k1] at hr hx
            subst hx
            have hs := of_decide_eq_true k1
            simp (disch := omega) only [x_loadR_0, x_loadS_0, f_6_19, f_6_7, y_ic_ge_t, y_ic_ge_f, b_X6_next_11, f_6_6, y_iald_180, x_iconst, y_ic_eq_t, y_ic_eq_f, b_X6_next_25, y_ic_ne_t, y_ic_ne_f, b_X6_next_39, x_dupI, x_dupR, x_iadd, p_6_19, x_goto, b_X6_next_52, p_6_20, p_6_21, p_6_22, b_X6_next_81, x_vret, b_X6_next_82, x_storeI_1, x_loadI_1, y_if_eq_t, y_if_eq_f, b_X6_next_114, b_X6_next_133, b_X6_next_146, f_6_20, x_storeI_2, x_loadI_2, b_X6_next_165, b_X6_next_169, b_X6_next_175, b_X6_next_179, b_X6_next_185, b_X6_next_189, x_isub, b_X6_next_195, b_X6_next_204, b_X6_next_208, b_X6_next_211, b_X6_next_217, b_X6_next_228, b_X6_next_241, b_X6_next_260, b_X6_next_266, f_6_22, x_imul, b_X6_next_289, b_X6_next_290, x_iinc_2, b_X6_next_309, y_ic_le_t, y_ic_le_f, b_X6_next_315, b_X6_next_319, b_X6_next_320, b_X6_next_326, b_X6_next_332, b_X6_next_338, b_X6_next_344, b_X6_next_350, b_X6_next_356, b_X6_next_362, b_X6_next_368, b_X6_next_374, b_X6_next_378, b_X6_next_385, b_X6_next_389, b_X6_next_390, b_X6_next_403, q_isL_I, q_isL_R, q_isL_S, true_and, and_true, and_self, List.length_nil, List.length_cons, Nat.zero_add, x_K, x_Kn, Int.reduceToNat, Nat.reduceAdd, Nat.reduceMul, Nat.reduceLeDiff, Nat.reduceLT, Nat.zero_le, Int.reduceAdd, Int.reduceSub, Int.reduceMul, Int.reduceNeg, q_add_e, q_sub_e, q_mul_e, q_neg_e, q_upd_s, q_upd_n, zr_shr0, zr_shr1, zr_shr2, zr_shr3, zr_shr4, zr_and, zr_dyn8, zr_or, zr_shl, q_cpy_n, y_cpy26, i2, e19]
            refine tail _ (k + 1) c 0 hr (q_nxf_up (q_nxf_up hf (by omega)) (by omega)) ?_ ?_ ?_ (fun z => absurd z (by omega))
            · rw [q_upd_s]; omega
            · rw [q_upd_n (by omega), q_upd_n (by omega)]; exact e20
            · rw [q_upd_n (by omega), q_upd_s]
              unfold Y_t
              omega
          · rw [if_neg k1] at hr hx
            subst hx
            simp (disch := omega) only [x_loadR_0, x_loadS_0, f_6_19, f_6_7, y_ic_ge_t, y_ic_ge_f, b_X6_next_11, f_6_6, y_iald_180, x_iconst, y_ic_eq_t, y_ic_eq_f, b_X6_next_25, y_ic_ne_t, y_ic_ne_f, b_X6_next_39, x_dupI, x_dupR, x_iadd, p_6_19, x_goto, b_X6_next_52, p_6_20, p_6_21, p_6_22, b_X6_next_81, x_vret, b_X6_next_82, x_storeI_1, x_loadI_1, y_if_eq_t, y_if_eq_f, b_X6_next_114, b_X6_next_133, b_X6_next_146, f_6_20, x_storeI_2, x_loadI_2, b_X6_next_165, b_X6_next_169, b_X6_next_175, b_X6_next_179, b_X6_next_185, b_X6_next_189, x_isub, b_X6_next_195, b_X6_next_204, b_X6_next_208, b_X6_next_211, b_X6_next_217, b_X6_next_228, b_X6_next_241, b_X6_next_260, b_X6_next_266, f_6_22, x_imul, b_X6_next_289, b_X6_next_290, x_iinc_2, b_X6_next_309, y_ic_le_t, y_ic_le_f, b_X6_next_315, b_X6_next_319, b_X6_next_320, b_X6_next_326, b_X6_next_332, b_X6_next_338, b_X6_next_344, b_X6_next_350, b_X6_next_356, b_X6_next_362, b_X6_next_368, b_X6_next_374, b_X6_next_378, b_X6_next_385, b_X6_next_389, b_X6_next_390, b_X6_next_403, q_isL_I, q_isL_R, q_isL_S, true_and, and_true, and_self, List.length_nil, List.length_cons, Nat.zero_add, x_K, x_Kn, Int.reduceToNat, Nat.reduceAdd, Nat.reduceMul, Nat.reduceLeDiff, Nat.reduceLT, Nat.zero_le, Int.reduceAdd, Int.reduceSub, Int.reduceMul, Int.reduceNeg, q_add_e, q_sub_e, q_mul_e, q_neg_e, q_upd_s, q_upd_n, zr_shr0, zr_shr1, zr_shr2, zr_shr3, zr_shr4, zr_and, zr_dyn8, zr_or, zr_shl, q_cpy_n, y_cpy26, i2, e19]
            refine tail _ (k + 1) (-1) 0 hr (q_nxf_up (q_nxf_up hf (by omega)) (by omega)) ?_ ?_ ?_ (fun z => absurd z (by omega))
            · rw [q_upd_s]; omega
            · rw [q_upd_n (by omega), q_upd_n (by omega)]; exact e20
            · rw [q_upd_n (by omega), q_upd_s]; rfl
        have sy1 : (c = 40 ∨ c = 41 ∨ c = 59 ∨ c = 43 ∨ c = 45 ∨ c = 42 ∨ c = 60 ∨ c = 61) → q_T 1 (d + 1) qP_X6_next 379 [] [qR 6 100, qI c, l2] [qI 1] g M1 Q := fun h => sy 1 (if_pos (decide_eq_true h))
        have sy0 : ¬(c = 40 ∨ c = 41 ∨ c = 59 ∨ c = 43 ∨ c = 45 ∨ c = 42 ∨ c = 60 ∨ c = 61) → q_T 1 (d + 1) qP_X6_next 379 [] [qR 6 100, qI c, l2] [qI 0] g M1 Q := fun h => sy 0 (if_neg (fun z => h (of_decide_eq_true z)))
        rw [b_X6_next_82]
        simp (disch := omega) only [x_loadR_0, x_loadS_0, f_6_19, f_6_7, y_ic_ge_t, y_ic_ge_f, b_X6_next_11, f_6_6, y_iald_180, x_iconst, y_ic_eq_t, y_ic_eq_f, b_X6_next_25, y_ic_ne_t, y_ic_ne_f, b_X6_next_39, x_dupI, x_dupR, x_iadd, p_6_19, x_goto, b_X6_next_52, p_6_20, p_6_21, p_6_22, b_X6_next_81, x_vret, b_X6_next_82, x_storeI_1, x_loadI_1, y_if_eq_t, y_if_eq_f, b_X6_next_114, b_X6_next_133, b_X6_next_146, f_6_20, x_storeI_2, x_loadI_2, b_X6_next_165, b_X6_next_169, b_X6_next_175, b_X6_next_179, b_X6_next_185, b_X6_next_189, x_isub, b_X6_next_195, b_X6_next_204, b_X6_next_208, b_X6_next_211, b_X6_next_217, b_X6_next_228, b_X6_next_241, b_X6_next_260, b_X6_next_266, f_6_22, x_imul, b_X6_next_289, b_X6_next_290, x_iinc_2, b_X6_next_309, y_ic_le_t, y_ic_le_f, b_X6_next_315, b_X6_next_319, b_X6_next_320, b_X6_next_326, b_X6_next_332, b_X6_next_338, b_X6_next_344, b_X6_next_350, b_X6_next_356, b_X6_next_362, b_X6_next_368, b_X6_next_374, b_X6_next_378, b_X6_next_385, b_X6_next_389, b_X6_next_390, b_X6_next_403, q_isL_I, q_isL_R, q_isL_S, true_and, and_true, and_self, List.length_nil, List.length_cons, Nat.zero_add, x_K, x_Kn, Int.reduceToNat, Nat.reduceAdd, Nat.reduceMul, Nat.reduceLeDiff, Nat.reduceLT, Nat.zero_le, Int.reduceAdd, Int.reduceSub, Int.reduceMul, Int.reduceNeg, q_add_e, q_sub_e, q_mul_e, q_neg_e, q_upd_s, q_upd_n, zr_shr0, zr_shr1, zr_shr2, zr_shr3, zr_shr4, zr_and, zr_dyn8, zr_or, zr_shl, q_cpy_n, y_cpy26, e19, Int.toNat_natCast, eT, hc, c_X6_in, mp_in, c1, c2, if_false, i1]
        iterate 7
          refine y_ic_eq (fun h => ?_) (fun h => ?_)
          · simp (disch := omega) only [x_loadR_0, x_loadS_0, f_6_19, f_6_7, y_ic_ge_t, y_ic_ge_f, b_X6_next_11, f_6_6, y_iald_180, x_iconst, y_ic_eq_t, y_ic_eq_f, b_X6_next_25, y_ic_ne_t, y_ic_ne_f, b_X6_next_39, x_dupI, x_dupR, x_iadd, p_6_19, x_goto, b_X6_next_52, p_6_20, p_6_21, p_6_22, b_X6_next_81, x_vret, b_X6_next_82, x_storeI_1, x_loadI_1, y_if_eq_t, y_if_eq_f, b_X6_next_114, b_X6_next_133, b_X6_next_146, f_6_20, x_storeI_2, x_loadI_2, b_X6_next_165, b_X6_next_169, b_X6_next_175, b_X6_next_179, b_X6_next_185, b_X6_next_189, x_isub, b_X6_next_195, b_X6_next_204, b_X6_next_208, b_X6_next_211, b_X6_next_217, b_X6_next_228, b_X6_next_241, b_X6_next_260, b_X6_next_266, f_6_22, x_imul, b_X6_next_289, b_X6_next_290, x_iinc_2, b_X6_next_309, y_ic_le_t, y_ic_le_f, b_X6_next_315, b_X6_next_319, b_X6_next_320, b_X6_next_326, b_X6_next_332, b_X6_next_338, b_X6_next_344, b_X6_next_350, b_X6_next_356, b_X6_next_362, b_X6_next_368, b_X6_next_374, b_X6_next_378, b_X6_next_385, b_X6_next_389, b_X6_next_390, b_X6_next_403, q_isL_I, q_isL_R, q_isL_S, true_and, and_true, and_self, List.length_nil, List.length_cons, Nat.zero_add, x_K, x_Kn, Int.reduceToNat, Nat.reduceAdd, Nat.reduceMul, Nat.reduceLeDiff, Nat.reduceLT, Nat.zero_le, Int.reduceAdd, Int.reduceSub, Int.reduceMul, Int.reduceNeg, q_add_e, q_sub_e, q_mul_e, q_neg_e, q_upd_s, q_upd_n, zr_shr0, zr_shr1, zr_shr2, zr_shr3, zr_shr4, zr_and, zr_dyn8, zr_or, zr_shl, q_cpy_n, y_cpy26]
            exact sy1 (by omega)
          simp (disch := omega) only [x_loadR_0, x_loadS_0, f_6_19, f_6_7, y_ic_ge_t, y_ic_ge_f, b_X6_next_11, f_6_6, y_iald_180, x_iconst, y_ic_eq_t, y_ic_eq_f, b_X6_next_25, y_ic_ne_t, y_ic_ne_f, b_X6_next_39, x_dupI, x_dupR, x_iadd, p_6_19, x_goto, b_X6_next_52, p_6_20, p_6_21, p_6_22, b_X6_next_81, x_vret, b_X6_next_82, x_storeI_1, x_loadI_1, y_if_eq_t, y_if_eq_f, b_X6_next_114, b_X6_next_133, b_X6_next_146, f_6_20, x_storeI_2, x_loadI_2, b_X6_next_165, b_X6_next_169, b_X6_next_175, b_X6_next_179, b_X6_next_185, b_X6_next_189, x_isub, b_X6_next_195, b_X6_next_204, b_X6_next_208, b_X6_next_211, b_X6_next_217, b_X6_next_228, b_X6_next_241, b_X6_next_260, b_X6_next_266, f_6_22, x_imul, b_X6_next_289, b_X6_next_290, x_iinc_2, b_X6_next_309, y_ic_le_t, y_ic_le_f, b_X6_next_315, b_X6_next_319, b_X6_next_320, b_X6_next_326, b_X6_next_332, b_X6_next_338, b_X6_next_344, b_X6_next_350, b_X6_next_356, b_X6_next_362, b_X6_next_368, b_X6_next_374, b_X6_next_378, b_X6_next_385, b_X6_next_389, b_X6_next_390, b_X6_next_403, q_isL_I, q_isL_R, q_isL_S, true_and, and_true, and_self, List.length_nil, List.length_cons, Nat.zero_add, x_K, x_Kn, Int.reduceToNat, Nat.reduceAdd, Nat.reduceMul, Nat.reduceLeDiff, Nat.reduceLT, Nat.zero_le, Int.reduceAdd, Int.reduceSub, Int.reduceMul, Int.reduceNeg, q_add_e, q_sub_e, q_mul_e, q_neg_e, q_upd_s, q_upd_n, zr_shr0, zr_shr1, zr_shr2, zr_shr3, zr_shr4, zr_and, zr_dyn8, zr_or, zr_shl, q_cpy_n, y_cpy26]
        refine y_ic_ne (fun h => ?_) (fun h => ?_)
        · simp (disch := omega) only [x_loadR_0, x_loadS_0, f_6_19, f_6_7, y_ic_ge_t, y_ic_ge_f, b_X6_next_11, f_6_6, y_iald_180, x_iconst, y_ic_eq_t, y_ic_eq_f, b_X6_next_25, y_ic_ne_t, y_ic_ne_f, b_X6_next_39, x_dupI, x_dupR, x_iadd, p_6_19, x_goto, b_X6_next_52, p_6_20, p_6_21, p_6_22, b_X6_next_81, x_vret, b_X6_next_82, x_storeI_1, x_loadI_1, y_if_eq_t, y_if_eq_f, b_X6_next_114, b_X6_next_133, b_X6_next_146, f_6_20, x_storeI_2, x_loadI_2, b_X6_next_165, b_X6_next_169, b_X6_next_175, b_X6_next_179, b_X6_next_185, b_X6_next_189, x_isub, b_X6_next_195, b_X6_next_204, b_X6_next_208, b_X6_next_211, b_X6_next_217, b_X6_next_228, b_X6_next_241, b_X6_next_260, b_X6_next_266, f_6_22, x_imul, b_X6_next_289, b_X6_next_290, x_iinc_2, b_X6_next_309, y_ic_le_t, y_ic_le_f, b_X6_next_315, b_X6_next_319, b_X6_next_320, b_X6_next_326, b_X6_next_332, b_X6_next_338, b_X6_next_344, b_X6_next_350, b_X6_next_356, b_X6_next_362, b_X6_next_368, b_X6_next_374, b_X6_next_378, b_X6_next_385, b_X6_next_389, b_X6_next_390, b_X6_next_403, q_isL_I, q_isL_R, q_isL_S, true_and, and_true, and_self, List.length_nil, List.length_cons, Nat.zero_add, x_K, x_Kn, Int.reduceToNat, Nat.reduceAdd, Nat.reduceMul, Nat.reduceLeDiff, Nat.reduceLT, Nat.zero_le, Int.reduceAdd, Int.reduceSub, Int.reduceMul, Int.reduceNeg, q_add_e, q_sub_e, q_mul_e, q_neg_e, q_upd_s, q_upd_n, zr_shr0, zr_shr1, zr_shr2, zr_shr3, zr_shr4, zr_and, zr_dyn8, zr_or, zr_shl, q_cpy_n, y_cpy26]
          exact sy0 (by omega)
        · simp (disch := omega) only [x_loadR_0, x_loadS_0, f_6_19, f_6_7, y_ic_ge_t, y_ic_ge_f, b_X6_next_11, f_6_6, y_iald_180, x_iconst, y_ic_eq_t, y_ic_eq_f, b_X6_next_25, y_ic_ne_t, y_ic_ne_f, b_X6_next_39, x_dupI, x_dupR, x_iadd, p_6_19, x_goto, b_X6_next_52, p_6_20, p_6_21, p_6_22, b_X6_next_81, x_vret, b_X6_next_82, x_storeI_1, x_loadI_1, y_if_eq_t, y_if_eq_f, b_X6_next_114, b_X6_next_133, b_X6_next_146, f_6_20, x_storeI_2, x_loadI_2, b_X6_next_165, b_X6_next_169, b_X6_next_175, b_X6_next_179, b_X6_next_185, b_X6_next_189, x_isub, b_X6_next_195, b_X6_next_204, b_X6_next_208, b_X6_next_211, b_X6_next_217, b_X6_next_228, b_X6_next_241, b_X6_next_260, b_X6_next_266, f_6_22, x_imul, b_X6_next_289, b_X6_next_290, x_iinc_2, b_X6_next_309, y_ic_le_t, y_ic_le_f, b_X6_next_315, b_X6_next_319, b_X6_next_320, b_X6_next_326, b_X6_next_332, b_X6_next_338, b_X6_next_344, b_X6_next_350, b_X6_next_356, b_X6_next_362, b_X6_next_368, b_X6_next_374, b_X6_next_378, b_X6_next_385, b_X6_next_389, b_X6_next_390, b_X6_next_403, q_isL_I, q_isL_R, q_isL_S, true_and, and_true, and_self, List.length_nil, List.length_cons, Nat.zero_add, x_K, x_Kn, Int.reduceToNat, Nat.reduceAdd, Nat.reduceMul, Nat.reduceLeDiff, Nat.reduceLT, Nat.zero_le, Int.reduceAdd, Int.reduceSub, Int.reduceMul, Int.reduceNeg, q_add_e, q_sub_e, q_mul_e, q_neg_e, q_upd_s, q_upd_n, zr_shr0, zr_shr1, zr_shr2, zr_shr3, zr_shr4, zr_and, zr_dyn8, zr_or, zr_shl, q_cpy_n, y_cpy26]
          exact sy1 (by omega)
  have skip : ∀ e k : Nat, k + e = n → F_wh F_blk (M 105) e k = L_i (M 105) n at0 → ∀ (M1 : q_M) (l1 l2 : q_V), q_isL l1 = false → q_isL l2 = false → q_nxf M M1 → M1 100 19 = k → q_T 1 (d + 1) qP_X6_next 0 [] [qR 6 100, l1, l2] [] g M1 Q := by
    intro e
    have aft : ∀ k : Nat, k ≤ n → L_i (M 105) n at0 = k → ∀ (M1 : q_M) (l1 l2 : q_V), q_isL l1 = false → q_isL l2 = false → q_nxf M M1 → M1 100 19 = k → q_T 1 (d + 1) qP_X6_next 52 [] [qR 6 100, l1, l2] [] g M1 Q := by
      intro k hk hki M1 l1 l2 i1 i2 hf e19
      have e7 : M1 100 7 = n := (hf 100 7 (by omega)).trans hn
      have hf3 := q_nxf_up (v := 0) (q_nxf_up (v := 0) (q_nxf_up (v := k) hf (Or.inr (Or.inl rfl))) (Or.inr (Or.inr (Or.inl rfl)))) (Or.inr (Or.inr (Or.inr rfl)))
      rw [b_X6_next_52]
      by_cases c : k = n
      · have hr : R_tk (M 105) n (L_i (M 105) n at0) 0 = (-2, 0, k) := by
          unfold R_tk
          rw [hki, if_pos (by omega)]
        rw [hr] at hq
        simp (disch := omega) only [x_loadR_0, x_loadS_0, f_6_19, f_6_7, y_ic_ge_t, y_ic_ge_f, b_X6_next_11, f_6_6, y_iald_180, x_iconst, y_ic_eq_t, y_ic_eq_f, b_X6_next_25, y_ic_ne_t, y_ic_ne_f, b_X6_next_39, x_dupI, x_dupR, x_iadd, p_6_19, x_goto, p_6_20, p_6_21, p_6_22, b_X6_next_81, x_vret, x_storeI_1, x_loadI_1, y_if_eq_t, y_if_eq_f, b_X6_next_103, b_X6_next_114, b_X6_next_133, b_X6_next_146, f_6_20, x_storeI_2, x_loadI_2, b_X6_next_165, b_X6_next_169, b_X6_next_175, b_X6_next_179, b_X6_next_185, b_X6_next_189, x_isub, b_X6_next_195, b_X6_next_204, b_X6_next_208, b_X6_next_211, b_X6_next_217, b_X6_next_228, b_X6_next_230, b_X6_next_241, b_X6_next_260, b_X6_next_266, f_6_22, x_imul, b_X6_next_289, b_X6_next_290, x_iinc_2, b_X6_next_309, y_ic_le_t, y_ic_le_f, b_X6_next_315, b_X6_next_319, b_X6_next_320, b_X6_next_326, b_X6_next_332, b_X6_next_338, b_X6_next_344, b_X6_next_350, b_X6_next_356, b_X6_next_362, b_X6_next_368, b_X6_next_374, b_X6_next_378, b_X6_next_379, b_X6_next_385, b_X6_next_389, b_X6_next_390, b_X6_next_403, q_isL_I, q_isL_R, q_isL_S, true_and, and_true, and_self, List.length_nil, List.length_cons, Nat.zero_add, x_K, x_Kn, Int.reduceToNat, Nat.reduceAdd, Nat.reduceMul, Nat.reduceLeDiff, Nat.reduceLT, Nat.zero_le, Int.reduceAdd, Int.reduceSub, Int.reduceMul, Int.reduceNeg, q_add_e, q_sub_e, q_mul_e, q_neg_e, q_upd_s, q_upd_n, zr_shr0, zr_shr1, zr_shr2, zr_shr3, zr_shr4, zr_and, zr_dyn8, zr_or, zr_shl, q_cpy_n, y_cpy26, e19, e7]
        refine hq _ hf3 ?_ ?_ ?_ (fun z => absurd z (by show ¬((-7 : Int) ≤ -2 ∧ (-2 : Int) ≤ -3); omega))
        · rw [q_upd_n (by omega), q_upd_n (by omega), q_upd_n (by omega)]; exact e19
        · rw [q_upd_n (by omega), q_upd_n (by omega), q_upd_s, hki]
        · rw [q_upd_n (by omega), q_upd_s]; rfl
      · simp (disch := omega) only [x_loadR_0, x_loadS_0, f_6_19, f_6_7, y_ic_ge_t, y_ic_ge_f, b_X6_next_11, f_6_6, y_iald_180, x_iconst, y_ic_eq_t, y_ic_eq_f, b_X6_next_25, y_ic_ne_t, y_ic_ne_f, b_X6_next_39, x_dupI, x_dupR, x_iadd, p_6_19, x_goto, p_6_20, p_6_21, p_6_22, b_X6_next_81, x_vret, x_storeI_1, x_loadI_1, y_if_eq_t, y_if_eq_f, b_X6_next_103, b_X6_next_114, b_X6_next_133, b_X6_next_146, f_6_20, x_storeI_2, x_loadI_2, b_X6_next_165, b_X6_next_169, b_X6_next_175, b_X6_next_179, b_X6_next_185, b_X6_next_189, x_isub, b_X6_next_195, b_X6_next_204, b_X6_next_208, b_X6_next_211, b_X6_next_217, b_X6_next_228, b_X6_next_230, b_X6_next_241, b_X6_next_260, b_X6_next_266, f_6_22, x_imul, b_X6_next_289, b_X6_next_290, x_iinc_2, b_X6_next_309, y_ic_le_t, y_ic_le_f, b_X6_next_315, b_X6_next_319, b_X6_next_320, b_X6_next_326, b_X6_next_332, b_X6_next_338, b_X6_next_344, b_X6_next_350, b_X6_next_356, b_X6_next_362, b_X6_next_368, b_X6_next_374, b_X6_next_378, b_X6_next_379, b_X6_next_385, b_X6_next_389, b_X6_next_390, b_X6_next_403, q_isL_I, q_isL_R, q_isL_S, true_and, and_true, and_self, List.length_nil, List.length_cons, Nat.zero_add, x_K, x_Kn, Int.reduceToNat, Nat.reduceAdd, Nat.reduceMul, Nat.reduceLeDiff, Nat.reduceLT, Nat.zero_le, Int.reduceAdd, Int.reduceSub, Int.reduceMul, Int.reduceNeg, q_add_e, q_sub_e, q_mul_e, q_neg_e, q_upd_s, q_upd_n, zr_shr0, zr_shr1, zr_shr2, zr_shr3, zr_shr4, zr_and, zr_dyn8, zr_or, zr_shl, q_cpy_n, y_cpy26, e19, e7]
        refine tok k (by omega) hki _ l1 l2 i1 i2 hf3 ?_ ?_ ?_
        · rw [q_upd_n (by omega), q_upd_n (by omega), q_upd_n (by omega)]; exact e19
        · rw [q_upd_n (by omega), q_upd_n (by omega), q_upd_s]
        · rw [q_upd_s]
    induction e with
    | zero =>
      intro k hk hki M1 l1 l2 i1 i2 hf e19
      have e7 : M1 100 7 = n := (hf 100 7 (by omega)).trans hn
      rw [b_X6_next_0]
      simp (disch := omega) only [x_loadR_0, x_loadS_0, f_6_19, f_6_7, y_ic_ge_t, y_ic_ge_f, b_X6_next_11, f_6_6, y_iald_180, x_iconst, y_ic_eq_t, y_ic_eq_f, b_X6_next_25, y_ic_ne_t, y_ic_ne_f, b_X6_next_39, x_dupI, x_dupR, x_iadd, p_6_19, x_goto, p_6_20, p_6_21, p_6_22, b_X6_next_81, x_vret, x_storeI_1, x_loadI_1, y_if_eq_t, y_if_eq_f, b_X6_next_103, b_X6_next_114, b_X6_next_133, b_X6_next_146, f_6_20, x_storeI_2, x_loadI_2, b_X6_next_165, b_X6_next_169, b_X6_next_175, b_X6_next_179, b_X6_next_185, b_X6_next_189, x_isub, b_X6_next_195, b_X6_next_204, b_X6_next_208, b_X6_next_211, b_X6_next_217, b_X6_next_228, b_X6_next_230, b_X6_next_241, b_X6_next_260, b_X6_next_266, f_6_22, x_imul, b_X6_next_289, b_X6_next_290, x_iinc_2, b_X6_next_309, y_ic_le_t, y_ic_le_f, b_X6_next_315, b_X6_next_319, b_X6_next_320, b_X6_next_326, b_X6_next_332, b_X6_next_338, b_X6_next_344, b_X6_next_350, b_X6_next_356, b_X6_next_362, b_X6_next_368, b_X6_next_374, b_X6_next_378, b_X6_next_379, b_X6_next_385, b_X6_next_389, b_X6_next_390, b_X6_next_403, q_isL_I, q_isL_R, q_isL_S, true_and, and_true, and_self, List.length_nil, List.length_cons, Nat.zero_add, x_K, x_Kn, Int.reduceToNat, Nat.reduceAdd, Nat.reduceMul, Nat.reduceLeDiff, Nat.reduceLT, Nat.zero_le, Int.reduceAdd, Int.reduceSub, Int.reduceMul, Int.reduceNeg, q_add_e, q_sub_e, q_mul_e, q_neg_e, q_upd_s, q_upd_n, zr_shr0, zr_shr1, zr_shr2, zr_shr3, zr_shr4, zr_and, zr_dyn8, zr_or, zr_shl, q_cpy_n, y_cpy26, e19, e7]
      exact aft k (by omega) hki.symm M1 l1 l2 i1 i2 hf e19
    | succ e ih =>
      intro k hk hki M1 l1 l2 i1 i2 hf e19
      have e7 : M1 100 7 = n := (hf 100 7 (by omega)).trans hn
      have eT : M1 105 k = M 105 k := hf 105 k (by omega)
      rw [F_wh] at hki
      have adv := fun h => ih (k + 1) (by omega) h (q_upd M1 100 19 ((k : Int) + 1)) l1 l2 i1 i2 (q_nxf_up hf (Or.inl rfl)) (by rw [q_upd_s]; omega)
      rw [b_X6_next_0]
      simp (disch := omega) only [x_loadR_0, x_loadS_0, f_6_19, f_6_7, y_ic_ge_t, y_ic_ge_f, b_X6_next_11, f_6_6, y_iald_180, x_iconst, y_ic_eq_t, y_ic_eq_f, b_X6_next_25, y_ic_ne_t, y_ic_ne_f, b_X6_next_39, x_dupI, x_dupR, x_iadd, p_6_19, x_goto, p_6_20, p_6_21, p_6_22, b_X6_next_81, x_vret, x_storeI_1, x_loadI_1, y_if_eq_t, y_if_eq_f, b_X6_next_103, b_X6_next_114, b_X6_next_133, b_X6_next_146, f_6_20, x_storeI_2, x_loadI_2, b_X6_next_165, b_X6_next_169, b_X6_next_175, b_X6_next_179, b_X6_next_185, b_X6_next_189, x_isub, b_X6_next_195, b_X6_next_204, b_X6_next_208, b_X6_next_211, b_X6_next_217, b_X6_next_228, b_X6_next_230, b_X6_next_241, b_X6_next_260, b_X6_next_266, f_6_22, x_imul, b_X6_next_289, b_X6_next_290, x_iinc_2, b_X6_next_309, y_ic_le_t, y_ic_le_f, b_X6_next_315, b_X6_next_319, b_X6_next_320, b_X6_next_326, b_X6_next_332, b_X6_next_338, b_X6_next_344, b_X6_next_350, b_X6_next_356, b_X6_next_362, b_X6_next_368, b_X6_next_374, b_X6_next_378, b_X6_next_379, b_X6_next_385, b_X6_next_389, b_X6_next_390, b_X6_next_403, q_isL_I, q_isL_R, q_isL_S, true_and, and_true, and_self, List.length_nil, List.length_cons, Nat.zero_add, x_K, x_Kn, Int.reduceToNat, Nat.reduceAdd, Nat.reduceMul, Nat.reduceLeDiff, Nat.reduceLT, Nat.zero_le, Int.reduceAdd, Int.reduceSub, Int.reduceMul, Int.reduceNeg, q_add_e, q_sub_e, q_mul_e, q_neg_e, q_upd_s, q_upd_n, zr_shr0, zr_shr1, zr_shr2, zr_shr3, zr_shr4, zr_and, zr_dyn8, zr_or, zr_shl, q_cpy_n, y_cpy26, e19, e7, Int.toNat_natCast, eT]
      refine y_ic_eq (fun h => ?_) (fun h => ?_)
      · rw [if_pos (show F_blk (M 105 k) = true from decide_eq_true (Or.inl h))] at hki
        simp (disch := omega) only [x_loadR_0, x_loadS_0, f_6_19, f_6_7, y_ic_ge_t, y_ic_ge_f, b_X6_next_11, f_6_6, y_iald_180, x_iconst, y_ic_eq_t, y_ic_eq_f, b_X6_next_25, y_ic_ne_t, y_ic_ne_f, b_X6_next_39, x_dupI, x_dupR, x_iadd, p_6_19, x_goto, p_6_20, p_6_21, p_6_22, b_X6_next_81, x_vret, x_storeI_1, x_loadI_1, y_if_eq_t, y_if_eq_f, b_X6_next_103, b_X6_next_114, b_X6_next_133, b_X6_next_146, f_6_20, x_storeI_2, x_loadI_2, b_X6_next_165, b_X6_next_169, b_X6_next_175, b_X6_next_179, b_X6_next_185, b_X6_next_189, x_isub, b_X6_next_195, b_X6_next_204, b_X6_next_208, b_X6_next_211, b_X6_next_217, b_X6_next_228, b_X6_next_230, b_X6_next_241, b_X6_next_260, b_X6_next_266, f_6_22, x_imul, b_X6_next_289, b_X6_next_290, x_iinc_2, b_X6_next_309, y_ic_le_t, y_ic_le_f, b_X6_next_315, b_X6_next_319, b_X6_next_320, b_X6_next_326, b_X6_next_332, b_X6_next_338, b_X6_next_344, b_X6_next_350, b_X6_next_356, b_X6_next_362, b_X6_next_368, b_X6_next_374, b_X6_next_378, b_X6_next_379, b_X6_next_385, b_X6_next_389, b_X6_next_390, b_X6_next_403, q_isL_I, q_isL_R, q_isL_S, true_and, and_true, and_self, List.length_nil, List.length_cons, Nat.zero_add, x_K, x_Kn, Int.reduceToNat, Nat.reduceAdd, Nat.reduceMul, Nat.reduceLeDiff, Nat.reduceLT, Nat.zero_le, Int.reduceAdd, Int.reduceSub, Int.reduceMul, Int.reduceNeg, q_add_e, q_sub_e, q_mul_e, q_neg_e, q_upd_s, q_upd_n, zr_shr0, zr_shr1, zr_shr2, zr_shr3, zr_shr4, zr_and, zr_dyn8, zr_or, zr_shl, q_cpy_n, y_cpy26, e19]
        exact adv hki
      · simp (disch := omega) only [x_loadR_0, x_loadS_0, f_6_19, f_6_7, y_ic_ge_t, y_ic_ge_f, b_X6_next_11, f_6_6, y_iald_180, x_iconst, y_ic_eq_t, y_ic_eq_f, b_X6_next_25, y_ic_ne_t, y_ic_ne_f, b_X6_next_39, x_dupI, x_dupR, x_iadd, p_6_19, x_goto, p_6_20, p_6_21, p_6_22, b_X6_next_81, x_vret, x_storeI_1, x_loadI_1, y_if_eq_t, y_if_eq_f, b_X6_next_103, b_X6_next_114, b_X6_next_133, b_X6_next_146, f_6_20, x_storeI_2, x_loadI_2, b_X6_next_165, b_X6_next_169, b_X6_next_175, b_X6_next_179, b_X6_next_185, b_X6_next_189, x_isub, b_X6_next_195, b_X6_next_204, b_X6_next_208, b_X6_next_211, b_X6_next_217, b_X6_next_228, b_X6_next_230, b_X6_next_241, b_X6_next_260, b_X6_next_266, f_6_22, x_imul, b_X6_next_289, b_X6_next_290, x_iinc_2, b_X6_next_309, y_ic_le_t, y_ic_le_f, b_X6_next_315, b_X6_next_319, b_X6_next_320, b_X6_next_326, b_X6_next_332, b_X6_next_338, b_X6_next_344, b_X6_next_350, b_X6_next_356, b_X6_next_362, b_X6_next_368, b_X6_next_374, b_X6_next_378, b_X6_next_379, b_X6_next_385, b_X6_next_389, b_X6_next_390, b_X6_next_403, q_isL_I, q_isL_R, q_isL_S, true_and, and_true, and_self, List.length_nil, List.length_cons, Nat.zero_add, x_K, x_Kn, Int.reduceToNat, Nat.reduceAdd, Nat.reduceMul, Nat.reduceLeDiff, Nat.reduceLT, Nat.zero_le, Int.reduceAdd, Int.reduceSub, Int.reduceMul, Int.reduceNeg, q_add_e, q_sub_e, q_mul_e, q_neg_e, q_upd_s, q_upd_n, zr_shr0, zr_shr1, zr_shr2, zr_shr3, zr_shr4, zr_and, zr_dyn8, zr_or, zr_shl, q_cpy_n, y_cpy26, e19, Int.toNat_natCast, eT]
        refine y_ic_ne (fun h2 => ?_) (fun h2 => ?_)
        · rw [if_neg (show ¬F_blk (M 105 k) = true from fun z => by have := of_decide_eq_true z; omega)] at hki
          exact aft k (by omega) hki.symm M1 l1 l2 i1 i2 hf e19
        · rw [if_pos (show F_blk (M 105 k) = true from decide_eq_true (Or.inr (by omega)))] at hki
          simp (disch := omega) only [x_loadR_0, x_loadS_0, f_6_19, f_6_7, y_ic_ge_t, y_ic_ge_f, b_X6_next_11, f_6_6, y_iald_180, x_iconst, y_ic_eq_t, y_ic_eq_f, b_X6_next_25, y_ic_ne_t, y_ic_ne_f, b_X6_next_39, x_dupI, x_dupR, x_iadd, p_6_19, x_goto, p_6_20, p_6_21, p_6_22, b_X6_next_81, x_vret, x_storeI_1, x_loadI_1, y_if_eq_t, y_if_eq_f, b_X6_next_103, b_X6_next_114, b_X6_next_133, b_X6_next_146, f_6_20, x_storeI_2, x_loadI_2, b_X6_next_165, b_X6_next_169, b_X6_next_175, b_X6_next_179, b_X6_next_185, b_X6_next_189, x_isub, b_X6_next_195, b_X6_next_204, b_X6_next_208, b_X6_next_211, b_X6_next_217, b_X6_next_228, b_X6_next_230, b_X6_next_241, b_X6_next_260, b_X6_next_266, f_6_22, x_imul, b_X6_next_289, b_X6_next_290, x_iinc_2, b_X6_next_309, y_ic_le_t, y_ic_le_f, b_X6_next_315, b_X6_next_319, b_X6_next_320, b_X6_next_326, b_X6_next_332, b_X6_next_338, b_X6_next_344, b_X6_next_350, b_X6_next_356, b_X6_next_362, b_X6_next_368, b_X6_next_374, b_X6_next_378, b_X6_next_379, b_X6_next_385, b_X6_next_389, b_X6_next_390, b_X6_next_403, q_isL_I, q_isL_R, q_isL_S, true_and, and_true, and_self, List.length_nil, List.length_cons, Nat.zero_add, x_K, x_Kn, Int.reduceToNat, Nat.reduceAdd, Nat.reduceMul, Nat.reduceLeDiff, Nat.reduceLT, Nat.zero_le, Int.reduceAdd, Int.reduceSub, Int.reduceMul, Int.reduceNeg, q_add_e, q_sub_e, q_mul_e, q_neg_e, q_upd_s, q_upd_n, zr_shr0, zr_shr1, zr_shr2, zr_shr3, zr_shr4, zr_and, zr_dyn8, zr_or, zr_shl, q_cpy_n, y_cpy26, e19]
          exact adv hki
  exact skip (n - at0) at0 (by omega) rfl M _ _ rfl rfl (fun _ _ _ => rfl) h19
end
