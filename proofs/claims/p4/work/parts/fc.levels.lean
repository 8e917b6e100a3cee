/-! THE TWO READERS: loops and levels -/
set_option maxHeartbeats 1000000 in
theorem Y_loop {T : Nat → Int} {n b : Nat} {O0 : List Int} {o lf hf l : Int} {nm : Bool} {X : Int → q_Y → Prop} {f : q_Z → q_Z} {g : Nat → q_Z → q_Z} {F : q_Z → q_Z} {P : Int → Prop} [DecidablePred P] {oc : Int → Int} (hn : n ≤ 160) (he : ∀ z, F z = g 160 (f z)) (hg0 : ∀ z, g 0 z = z) (hg : ∀ k z, g (k + 1) z = if P z.2.1 then g k (R_em (oc z.2.1) 0 (f (R_nx T n z))) else z)
    (hP : ∀ t, P t → (0 ≤ oc t ∧ oc t ≤ 15) ∧ F_rank (Y_sg t) = l ∧ K_c (oc t) = Y_sg t ∧ Y_sg t ≠ -1 ∧ t ≠ 59 ∧ t ≠ 41 ∧ (nm = true → Y_sg t ≤ 12) ∧ (nm = false → ¬Y_sg t ≤ 12)) (hl : l ≠ 4) (hlf : l ≤ lf) (hlh : l < hf) (hP1 : ¬P (-1)) (hP2 : ¬P (-2)) (hF : Y_lv T n b O0 o lf hf nm X f) :
    Y_lv T n b O0 o l l nm (fun t S => X t S ∧ ¬P t) F := by
  intro z a m H my tk ha hm hb hs ht hn1 hn2
  have fix : ∀ k z, q_fs z → g k z = z := by
    intro k z hz
    cases k with
    | zero => exact hg0 z
    | succ k => rw [hg, if_neg (by rw [hz.2]; exact hP1)]
  have inner : ∀ (k : Nat) (z1 : q_Z) (a1 : Nat) (S : q_Y) (my1 : Bool), n ≤ a1 + k → q_tok T n z1 a1 → a < a1 → a1 ≤ n → z.1 ≤ z1.1 → z1.1 + m ≤ L_i T n a1 → (∀ i : Nat, (i : Int) < z.1 → z1.2.2.2.2.2.2 i = z.2.2.2.2.2.2 i) → Y_u l S = Y_u l (H, o, O0 ++ K_o b z1) → X (L_t T n a1) S → (∀ r, Y_ev T n (false, my1, S, a1) r → Y_ev T n (true, my, (H, o, O0 ++ K_o b z), a) r) →
      ((q_fs (g k z1) ∧ Y_ev T n (true, my, (H, o, O0 ++ K_o b z), a) (false, (g k z1).2.2.2.2.2.1.toNat, 0, [])) ∨
      (∃ (S : q_Y) (a2 : Nat) (my2 : Bool), q_tok T n (g k z1) a2 ∧ a < a2 ∧ a2 ≤ n ∧ z.1 ≤ (g k z1).1 ∧ (g k z1).1 + m ≤ L_i T n a2 ∧ (∀ i : Nat, (i : Int) < z.1 → (g k z1).2.2.2.2.2.2 i = z.2.2.2.2.2.2 i) ∧ Y_u l S = Y_u l (H, o, O0 ++ K_o b (g k z1)) ∧ (X (L_t T n a2) S ∧ ¬P (L_t T n a2)) ∧ ∀ r, Y_ev T n (false, my2, S, a2) r → Y_ev T n (true, my, (H, o, O0 ++ K_o b z), a) r)) := by
    intro k
    induction k with
    | zero =>
      intro z1 a1 S my1 hk tk1 h1 h2 h3 h4 h5 h6 h7 h8
      have ea : a1 = n := by omega
      rw [hg0]
      refine Or.inr ⟨S, a1, my1, tk1, h1, h2, h3, h4, h5, h6, ⟨h7, ?_⟩, h8⟩
      rw [ea, L_end]
      exact hP2
    | succ k ih =>
      intro z1 a1 S my1 hk tk1 h1 h2 h3 h4 h5 h6 h7 h8
      have L := L_ok (T := T) h2
      obtain ⟨l1, l2, l3, l4, l5, l6, l7, l8⟩ := L
      have M := L_ok (T := T) l4
      rw [hg, tk1.1]
      by_cases c : P (L_t T n a1)
      · rw [if_pos c]
        obtain ⟨p1, p2, p3, p4, p5, p6, p7, p8⟩ := hP _ c
        have lt := l5 (fun q => hP2 (by rw [← q]; exact c))
        obtain ⟨f1, f2, f3⟩ := R_nx_tk tk1
        have h6 := h6.trans (Y_u_top ht)
        have st : Y_st T n (false, my1, S, a1) = .inl (true, decide (Y_sg (L_t T n a1) ≤ 12), (Y_sg (L_t T n a1) :: H, o, O0 ++ K_o b (R_nx T n z1)), L_b T n a1) := by
          show Y_s0 T n my1 S a1 = _
          unfold Y_s0
          rw [if_neg p5, if_neg p6, if_neg p4]
          unfold Y_bt
          rw [p2, if_neg (fun q => hl q.1), if_neg hl, h6, K_same f2 f3]
        rcases hF _ _ (m + 1) (Y_sg (L_t T n a1) :: H) (decide (Y_sg (L_t T n a1) ≤ 12)) f1 l4 (by omega) (by rw [f2]; omega) (by rw [f2]; omega) (by show F_rank (Y_sg (L_t T n a1)) < hf; omega) (fun q => decide_eq_true (p7 q)) (fun q => Or.inl (decide_eq_false (p8 q))) with ⟨g1, g2⟩ | ⟨S2, a2, my2, g1, g2, g3, g4, g5, g6, g7, g8, g9⟩
        · obtain ⟨e1, e2⟩ := R_em_fs (o := oc (L_t T n a1)) (v := 0) g1
          rw [fix k _ e1]
          refine Or.inl ⟨e1, ?_⟩
          rw [e2]
          exact h8 _ (Y_ev_go st g2)
        · have N := L_ok (T := T) g3
          rw [f2] at g4 g6
          obtain ⟨e1, e2, e3, e4⟩ := R_em_tk (b := b) (o := oc (L_t T n a1)) (v := 0) g1 (by omega) (by omega) (by omega) p1
          refine ih _ a2 S2 my2 (by omega) e1 (by omega) g3 (by omega) (by omega) (fun i hi => ?_) ?_ g8 (fun r hr => h8 r (Y_ev_go st (g9 r hr)))
          · rw [e3 i (by omega), g6 i (by omega), f3, h5 i hi]
          · rw [Y_u_le hlf g7, e4, ← List.append_assoc, Y_u_pop (by omega)]
            have ec : ¬(Y_sg (L_t T n a1) = 13 ∨ Y_sg (L_t T n a1) = 19) := by
              unfold Y_sg
              omega
            rw [if_neg ec, show 16 * (0 : Int) + oc (L_t T n a1) = oc (L_t T n a1) by omega, p3]
      · rw [if_neg c]
        exact Or.inr ⟨S, a1, my1, tk1, h1, h2, h3, h4, h5, h6, ⟨h7, c⟩, h8⟩
  rw [he]
  rcases hF z a m H my tk ha hm hb hs (by omega) hn1 hn2 with ⟨g1, g2⟩ | ⟨S, a2, my2, g1, g2, g3, g4, g5, g6, g7, g8, g9⟩
  · rw [fix 160 _ g1]
    exact Or.inl ⟨g1, g2⟩
  · exact inner 160 (f z) a2 S my2 (by omega) g1 g2 g3 g4 g5 g6 (Y_u_le hlf g7) g8 g9
theorem Y_lv_X {T : Nat → Int} {n b : Nat} {O0 : List Int} {o l hp : Int} {nm : Bool} {X X2 : Int → q_Y → Prop} {f : q_Z → q_Z} (hX : ∀ t S, X t S → X2 t S) (h : Y_lv T n b O0 o l hp nm X f) : Y_lv T n b O0 o l hp nm X2 f := by
  intro z a m H my tk ha hm hb hs ht hn1 hn2
  rcases h z a m H my tk ha hm hb hs ht hn1 hn2 with g | ⟨S, a2, my2, g1, g2, g3, g4, g5, g6, g7, g8, g9⟩
  · exact Or.inl g
  · exact Or.inr ⟨S, a2, my2, g1, g2, g3, g4, g5, g6, g7, hX _ _ g8, g9⟩
theorem Y_te {T : Nat → Int} {n b : Nat} {O0 : List Int} {o : Int} {f : q_Z → q_Z} (hn : n ≤ 160) (h : Y_lv T n b O0 o 7 100 false (fun _ _ => True) f) : Y_lv T n b O0 o 6 6 false X_te (R_te T n f) := by
  refine Y_lv_X (fun t S q => q.2) (Y_loop (g := R_lp T n 42 5 f) (P := fun t => t = 42) (oc := fun _ => 5) hn (fun _ => rfl) (fun _ => rfl) (fun k z => rfl) (fun t ht => ?_) (by decide) (by decide) (by decide) (by decide) (by decide) h)
  rw [ht]
  exact ⟨by decide, rfl, rfl, by decide, by decide, by decide, fun q => absurd q (by decide), fun _ => by decide⟩
theorem Y_su {T : Nat → Int} {n b : Nat} {O0 : List Int} {o : Int} {f : q_Z → q_Z} (hn : n ≤ 160) (h : Y_lv T n b O0 o 6 6 false X_te f) : Y_lv T n b O0 o 5 5 false X_su (R_su T n f) := by
  refine Y_lv_X (fun t S q => ⟨q.1, fun k => q.2 (Or.inl k), fun k => q.2 (Or.inr k)⟩) (Y_loop (g := R_ls T n f) (P := fun t => t = 43 ∨ t = 45) (oc := fun t => if t = 45 then 7 else 6) hn (fun _ => rfl) (fun _ => rfl) (fun k z => rfl) (fun t ht => ?_) (by decide) (by decide) (by decide) (by decide) (by decide) h)
  rcases ht with ht | ht
  · rw [ht]
    exact ⟨by decide, rfl, rfl, by decide, by decide, by decide, fun q => absurd q (by decide), fun _ => by decide⟩
  · rw [ht]
    exact ⟨by decide, rfl, rfl, by decide, by decide, by decide, fun q => absurd q (by decide), fun _ => by decide⟩
theorem Y_bo {T : Nat → Int} {n b : Nat} {O0 : List Int} {o : Int} {f : q_Z → q_Z} (hn : n ≤ 160) (h : Y_lv T n b O0 o 3 4 true X_no f) : Y_lv T n b O0 o 2 2 true (fun t S => X_no t S ∧ t ≠ -9) (R_bo T n f) := by
  refine Y_lv_X (fun t S q => q) (Y_loop (g := R_lp T n (-9) 10 f) (P := fun t => t = -9) (oc := fun _ => 10) hn (fun _ => rfl) (fun _ => rfl) (fun k z => rfl) (fun t ht => ?_) (by decide) (by decide) (by decide) (by decide) (by decide) h)
  rw [ht]
  exact ⟨by decide, rfl, rfl, by decide, by decide, by decide, fun _ => by decide, fun q => absurd q (by decide)⟩
theorem Y_ei {T : Nat → Int} {n b : Nat} {O0 : List Int} {o : Int} {f : q_Z → q_Z} (hn : n ≤ 160) (h : Y_lv T n b O0 o 2 2 true (fun t S => X_no t S ∧ t ≠ -9) f) : Y_lv T n b O0 o 1 1 true X_ei (R_ei T n f) := by
  refine Y_lv_X (fun t S q => ⟨q.1.1, q.1.2, q.2⟩) (Y_loop (g := R_lp T n (-8) 11 f) (P := fun t => t = -8) (oc := fun _ => 11) hn (fun _ => rfl) (fun _ => rfl) (fun k z => rfl) (fun t ht => ?_) (by decide) (by decide) (by decide) (by decide) (by decide) h)
  rw [ht]
  exact ⟨by decide, rfl, rfl, by decide, by decide, by decide, fun _ => by decide, fun q => absurd q (by decide)⟩
set_option maxHeartbeats 1000000 in
theorem Y_cp {T : Nat → Int} {n b : Nat} {O0 : List Int} {o : Int} {f F : q_Z → q_Z} (hn : n ≤ 160) (he : ∀ z, F z = R_cp T n f (f z)) (hF : Y_lv T n b O0 o 5 5 false X_su f) : Y_lv T n b O0 o 4 4 false X_no F := by
  intro z a m H my tk ha hm hb hs ht hn1 hn2
  rw [he]
  rcases hF z a m H my tk ha hm hb hs (by omega) hn1 hn2 with ⟨g1, g2⟩ | ⟨S, a1, my1, tk1, h1, h2, h3, h4, h5, h6, h7, h8⟩
  · have e : R_cp T n f (f z) = f z := if_neg (by rw [g1.2]; decide)
    rw [e]
    exact Or.inl ⟨g1, g2⟩
  · have L := L_ok (T := T) h2
    obtain ⟨l1, l2, l3, l4, l5, l6, l7, l8⟩ := L
    have M := L_ok (T := T) l4
    have k6 := h6.trans (Y_u_top (by omega : Y_tp H < 5))
    unfold R_cp
    rw [tk1.1]
    by_cases c : L_t T n a1 = 60 ∨ L_t T n a1 = 61
    · rw [if_pos c]
      obtain ⟨cs, hcs⟩ : ∃ cs, Y_sg (L_t T n a1) = cs := ⟨_, rfl⟩
      obtain ⟨oc, hoc⟩ : ∃ oc : Int, (if L_t T n a1 = 60 then (8 : Int) else 9) = oc := ⟨_, rfl⟩
      have hc : F_rank cs = 4 ∧ K_c oc = cs ∧ cs ≠ -1 ∧ ¬cs ≤ 12 ∧ cs ≠ 13 ∧ cs ≠ 19 ∧ 0 ≤ oc ∧ oc ≤ 15 := by
        subst hcs
        subst hoc
        rcases c with c | c <;> rw [c] <;> decide
      obtain ⟨p1, p2, p3, p4, p5, p6, p7, p8⟩ := hc
      rw [hoc]
      have lt := l5 (by omega)
      obtain ⟨f1, f2, f3⟩ := R_nx_tk tk1
      have st : Y_st T n (false, my1, S, a1) = .inl (true, false, (cs :: H, o, O0 ++ K_o b (R_nx T n (f z))), L_b T n a1) := by
        show Y_s0 T n my1 S a1 = _
        unfold Y_s0
        rw [if_neg (by omega), if_neg (by omega), hcs, if_neg p3]
        unfold Y_bt
        rw [p1, if_pos rfl, k6, if_neg (fun q => by have q2 : Y_tp H = 4 := q.2; omega), K_same f2 f3]
        show Sum.inl (true, decide (cs ≤ 12), _) = _
        rw [decide_eq_false p4]
      rcases hF _ _ (m + 1) (cs :: H) false f1 l4 (by omega) (by rw [f2]; omega) (by rw [f2]; omega) (by show F_rank cs < 5; omega) (fun q => absurd q (by decide)) (fun q => Or.inl rfl) with ⟨g1, g2⟩ | ⟨S2, a2, my2, g1, g2, g3, g4, g5, g6, g7, g8, g9⟩
      · obtain ⟨e1, e2⟩ := R_em_fs (o := oc) (v := 0) g1
        refine Or.inl ⟨e1, ?_⟩
        rw [e2]
        exact h8 _ (Y_ev_go st g2)
      · have N := L_ok (T := T) g3
        rw [f2] at g4 g6
        obtain ⟨e1, e2, e3, e4⟩ := R_em_tk (b := b) (o := oc) (v := 0) g1 (by omega) (by omega) (by omega) ⟨p7, p8⟩
        refine Or.inr ⟨S2, a2, my2, e1, by omega, g3, by omega, by omega, fun i hi => ?_, ?_, ⟨g8.1, g8.2.1, g8.2.2, fun _ => ?_⟩, fun r hr => h8 r (Y_ev_go st (g9 r hr))⟩
        · rw [e3 i (by omega), g6 i (by omega), f3, h5 i hi]
        · rw [Y_u_le (by decide : (4 : Int) ≤ 5) g7, e4, ← List.append_assoc, Y_u_pop (by omega), if_neg (by omega), show 16 * (0 : Int) + oc = oc by omega, p2]
        · rw [g7, Y_u_top (by show F_rank cs < 5; omega)]
          exact p1
    · rw [if_neg c]
      exact Or.inr ⟨S, a1, my1, tk1, h1, h2, h3, h4, h5, Y_u_le (by decide) h6, ⟨h7.1, h7.2.1, h7.2.2, fun q => absurd q c⟩, h8⟩
set_option maxHeartbeats 1000000 in
theorem Y_no {T : Nat → Int} {n b : Nat} {O0 : List Int} {o : Int} {r0 : Bool} {no su : q_Z → q_Z} (hn : n ≤ 160) (ho : r0 = true ↔ o = 5) (h1 : r0 = false → Y_lv T n b O0 (o + 1) 3 4 true X_no no) (h2 : ∀ F : q_Z → q_Z, (∀ z, F z = R_cp T n su (su z)) → Y_lv T n b O0 o 4 4 false X_no F) : Y_lv T n b O0 o 3 4 true X_no (R_no T n r0 no su) := by
  intro z a m H my tk ha hm hb hs ht hn1 _
  have L := L_ok (T := T) ha
  obtain ⟨l1, l2, l3, l4, l5, l6, l7, l8⟩ := L
  have M := L_ok (T := T) l4
  have emy := hn1 rfl
  subst emy
  unfold R_no
  rw [tk.1]
  by_cases c : L_t T n a = -10
  · rw [if_pos c]
    by_cases c0 : r0 = true
    · rw [if_pos c0]
      obtain ⟨e1, e2⟩ := R_fl_tk tk
      refine Or.inl ⟨e1, Y_ev_in ?_⟩
      rw [e2]
      show Y_s1 T n true (H, o, O0 ++ K_o b z) a = _
      unfold Y_s1
      rw [if_neg (by omega), if_pos ⟨c, rfl⟩, if_pos (ho.mp c0)]
      rfl
    · rw [if_neg c0]
      have o5 : o ≠ 5 := fun q => c0 (ho.mpr q)
      have lt := l5 (by omega)
      obtain ⟨f1, f2, f3⟩ := R_nx_tk tk
      have st : Y_st T n (true, true, (H, o, O0 ++ K_o b z), a) = .inl (true, true, (13 :: H, o + 1, O0 ++ K_o b (R_nx T n z)), L_b T n a) := by
        show Y_s1 T n true (H, o, O0 ++ K_o b z) a = _
        unfold Y_s1
        rw [if_neg (by omega), if_pos ⟨c, rfl⟩, if_neg o5, K_same f2 f3]
      have r1 : r0 = false := by
        cases r0 with
        | true => exact absurd rfl c0
        | false => rfl
      rcases h1 r1 _ _ (m + 1) (13 :: H) true f1 l4 (by omega) (by rw [f2]; exact hb) (by rw [f2]; omega) (by show F_rank 13 < 4; decide) (fun _ => rfl) (fun q => absurd q (by decide)) with ⟨g1, g2⟩ | ⟨S, a2, my2, g1, g2, g3, g4, g5, g6, g7, g8, g9⟩
      · obtain ⟨e1, e2⟩ := R_em_fs (o := 4) (v := 0) g1
        refine Or.inl ⟨e1, ?_⟩
        rw [e2]
        exact Y_ev_go st g2
      · have N := L_ok (T := T) g3
        rw [f2] at g4 g6
        obtain ⟨e1, e2, e3, e4⟩ := R_em_tk (b := b) (o := 4) (v := 0) g1 (by omega) (by omega) (by omega) (by omega)
        refine Or.inr ⟨S, a2, my2, e1, by omega, g3, by omega, by omega, fun i hi => ?_, ?_, g8, fun r hr => Y_ev_go st (g9 r hr)⟩
        · rw [e3 i (by omega), g6 i hi, f3]
        · rw [g7, e4, ← List.append_assoc, Y_u_pop (by show (3 : Int) ≤ F_rank 13; decide), if_pos (Or.inl rfl), Int.add_sub_cancel]
          rfl
  · rw [if_neg c]
    rcases h2 (fun z => R_cp T n su (su z)) (fun _ => rfl) z a m H true tk ha hm hb hs ht (fun q => absurd q (by decide)) (fun _ => Or.inr c) with g | ⟨S, a2, my2, g1, g2, g3, g4, g5, g6, g7, g8, g9⟩
    · exact Or.inl g
    · exact Or.inr ⟨S, a2, my2, g1, g2, g3, g4, g5, g6, Y_u_le (by decide) g7, g8, g9⟩
def q_Yp (T : Nat → Int) (n b : Nat) (O0 : List Int) (o : Int) (p : (q_Z → q_Z) × (q_Z → q_Z) × (q_Z → q_Z)) : Prop := Y_lv T n b O0 o 7 100 false (fun _ _ => True) p.1 ∧ Y_lv T n b O0 o 3 4 true X_no p.2.1 ∧ Y_lv T n b O0 o 1 1 true X_ei p.2.2
theorem Y_mk {T : Nat → Int} {n b : Nat} {O0 : List Int} {o : Int} {r0 : Bool} {p : (q_Z → q_Z) × (q_Z → q_Z) × (q_Z → q_Z)} (hn : n ≤ 160) (ho : r0 = true ↔ o = 5) (h : r0 = false → q_Yp T n b O0 (o + 1) p) : q_Yp T n b O0 o (R_mk T n r0 p) := by
  have h1 := Y_on (r0 := r0) (on := p.1) (ei := p.2.2) hn ho (fun q => (h q).1) (fun q => (h q).2.2)
  have h2 := Y_su hn (Y_te hn h1)
  have h3 := Y_no hn ho (fun q => (h q).2.1) (fun F he => Y_cp hn he h2)
  exact ⟨h1, h3, Y_ei hn (Y_bo hn h3)⟩
theorem Y_lvs {T : Nat → Int} {n b : Nat} {O0 : List Int} (hn : n ≤ 160) : ∀ r : Nat, r ≤ 5 → q_Yp T n b O0 (5 - r) (R_lv T n r)
  | 0, _ => Y_mk hn ⟨fun _ => rfl, fun _ => rfl⟩ (fun q => absurd q (by decide))
  | r + 1, hr => Y_mk hn ⟨fun q => absurd q (by decide), fun q => absurd q (by omega)⟩ (fun _ => by
    have h := Y_lvs (O0 := O0) (b := b) (T := T) hn r (by omega)
    rw [show (5 : Int) - (r + 1 : Nat) + 1 = 5 - r by omega]
    exact h)
