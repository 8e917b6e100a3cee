/-! THE TWO READERS: what is put out is well formed, and never deep -/
def Y_bi : List Int → Nat
  | [] => 0
  | c :: H => Y_bi H + (if c = 11 ∨ c = 12 ∨ (14 ≤ c ∧ c ≤ 18) then 1 else 0)
def Y_ze : List Int → Nat
  | [] => 0
  | c :: H => Y_ze H + (if c = 0 then 1 else 0)
def Y_op : List Int → Nat
  | [] => 0
  | c :: H => Y_op H + (if c = 0 ∨ c = 13 ∨ c = 19 then 1 else 0)
def q_hrk : List Int → Prop
  | [] => True
  | c :: H => q_hrk H ∧ (q_bi c → Y_tp H < F_rank c) ∧ (c = 13 → Y_tp H ≤ 3)
def q_hs (c : Int) : Prop := c = 0 ∨ q_una c ∨ q_bi c
def Y_lev (r : Int) : Nat := if r ≤ 0 then 0 else if r = 1 then 1 else if r ≤ 3 then 2 else if r = 4 then 3 else if r = 5 then 4 else 5
theorem Y_lev_5 {r : Int} : Y_lev r ≤ 5 := by
  unfold Y_lev
  (repeat' split) <;> omega
theorem Y_bi_le : ∀ H : List Int, q_hrk H → (∀ c, c ∈ H → q_hs c) → Y_bi H ≤ 5 * Y_ze H + Y_lev (Y_tp H)
  | [], _, _ => Nat.zero_le _
  | c :: H, h, hs => by
    have ih := Y_bi_le H h.1 (fun x hx => hs x (List.mem_cons_of_mem _ hx))
    have l5 := Y_lev_5 (r := Y_tp H)
    rcases hs c List.mem_cons_self with e | e | e
    · subst e
      rw [Y_bi, Y_ze, if_neg (by omega), if_pos rfl]
      omega
    · rcases e with e | e
      · subst e
        have h3 := h.2.2 rfl
        have : Y_lev (Y_tp H) ≤ 2 := by
          unfold Y_lev
          (repeat' split) <;> omega
        rw [Y_bi, Y_ze, if_neg (by omega), if_neg (by omega)]
        show _ ≤ 5 * (Y_ze H + 0) + 2
        omega
      · subst e
        rw [Y_bi, Y_ze, if_neg (by omega), if_neg (by omega)]
        show _ ≤ 5 * (Y_ze H + 0) + 5
        omega
    · have h2 := h.2.1 e
      have e0 : c = 11 ∨ c = 12 ∨ (14 ≤ c ∧ c ≤ 18) := e
      rw [Y_bi, Y_ze, if_pos e0, if_neg (by omega)]
      have : Y_lev (Y_tp H) + 1 ≤ Y_lev (F_rank c) := by
        have hr : F_rank c = 1 ∨ F_rank c = 2 ∨ F_rank c = 4 ∨ F_rank c = 5 ∨ F_rank c = 6 := by
          unfold F_rank
          omega
        unfold Y_lev
        rcases hr with q | q | q | q | q <;> rw [q] at h2 ⊢ <;> (repeat' split) <;> omega
      show _ ≤ 5 * (Y_ze H + 0) + Y_lev (F_rank c)
      omega
theorem Y_ze_op : ∀ H : List Int, Y_ze H ≤ Y_op H
  | [] => Nat.le_refl _
  | c :: H => by
    have ih := Y_ze_op H
    rw [Y_ze, Y_op]
    by_cases e : c = 0
    · rw [if_pos e, if_pos (Or.inl e)]
      omega
    · rw [if_neg e]
      omega
/-- what holds of the yard at any time; w: a number is wanted -/
def q_Yi (s a : Nat) (w : Nat) (S : q_Y) : Prop := S.2.1 = Y_op S.1 ∧ Y_op S.1 ≤ 5 ∧ q_hrk S.1 ∧ (∀ c, c ∈ S.1 → q_hs c) ∧ s ≤ S.2.2.length ∧ S.1.length + S.2.2.length ≤ a ∧ ∃ D : Nat → Nat, q_wfP (fun i => S.2.2.getD i 0) s S.2.2.length D ∧ (∀ i, i ≤ S.2.2.length → D i ≤ 31) ∧ D S.2.2.length + w = Y_bi S.1 + 1
theorem Y_gd {O : List Int} {c : Int} : (O ++ [c]).getD O.length 0 = c := by
  rw [List.getD_eq_getElem?_getD, List.getElem?_append_right (Nat.le_refl _), Nat.sub_self]
  rfl
theorem Y_gl {O : List Int} {c : Int} {i : Nat} (h : i < O.length) : (O ++ [c]).getD i 0 = O.getD i 0 := by
  rw [List.getD_eq_getElem?_getD, List.getElem?_append_left h, List.getD_eq_getElem?_getD]
theorem Y_wf_ext {O : List Int} {c : Int} {s n : Nat} {D : Nat → Nat} (hw : q_wfP (fun i => O.getD i 0) s O.length D) (hs : s ≤ O.length) (hb : ∀ i, i ≤ O.length → D i ≤ 31) (hn : n ≤ 31) (hst : (q_pu c ∧ n = D O.length + 1) ∨ (q_una c ∧ 1 ≤ D O.length ∧ n = D O.length) ∨ (q_bi c ∧ 2 ≤ D O.length ∧ n + 1 = D O.length)) : q_wfP (fun i => (O ++ [c]).getD i 0) s (O ++ [c]).length (F_un D (O.length + 1) n) ∧ (∀ i, i ≤ (O ++ [c]).length → F_un D (O.length + 1) n i ≤ 31) ∧ F_un D (O.length + 1) n (O ++ [c]).length = n := by
  have el : (O ++ [c]).length = O.length + 1 := by rw [List.length_append]; rfl
  rw [el]
  refine ⟨q_wfP_ext hw hs (fun i _ hi => Y_gl hi) (by rw [Y_gd]; exact hst), fun i hi => ?_, F_un_s⟩
  unfold F_un
  split
  · exact hn
  · exact hb i (by omega)
theorem Y_un_i {s a : Nat} {r : Int} (hr : 1 ≤ r) : ∀ (H : List Int) (p : Int) (O : List Int), q_Yi s a 0 (H, p, O) → q_Yi s a 0 (Y_un r H p O) ∧ Y_tp (Y_un r H p O).1 < r
  | [], p, O, h => ⟨h, by show (-1 : Int) < r; omega⟩
  | c :: H, p, O, h => by
    rw [Y_un]
    by_cases k : F_rank c < r
    · rw [if_pos k]
      exact ⟨h, k⟩
    · rw [if_neg k]
      obtain ⟨h1, h2, h3, h4, h5, h6, D, h7, h8, h9⟩ := h
      have hb := Y_bi_le (c :: H) h3 h4
      have hz := Y_ze_op (c :: H)
      have hl := Y_lev_5 (r := Y_tp (c :: H))
      simp only at h1 h2 h5 h6 h7 h8 h9
      rw [List.length_cons] at h6
      have hc : q_una c ∨ q_bi c := by
        rcases h4 c List.mem_cons_self with e | e
        · exfalso
          apply k
          rw [e]
          show (0 : Int) < r
          omega
        · exact e
      refine Y_un_i hr H _ _ ⟨?_, ?_, h3.1, fun x hx => h4 x (List.mem_cons_of_mem _ hx), ?_, ?_, ?_⟩
      · show (if c = 13 ∨ c = 19 then p - 1 else p) = Y_op H
        rw [h1, Y_op]
        by_cases e : c = 13 ∨ c = 19
        · rw [if_pos e, if_pos (by omega)]
          omega
        · rw [if_neg e, if_neg (by rintro (q | q); · rw [q] at hc; unfold q_una q_bi at hc; omega
                                   · exact e q)]
          omega
      · rw [Y_op] at h2
        show Y_op H ≤ 5
        omega
      · show s ≤ (O ++ [c]).length
        rw [List.length_append]
        have : s ≤ O.length := h5
        omega
      · show H.length + (O ++ [c]).length ≤ a
        rw [List.length_append]
        show H.length + (O.length + 1) ≤ a
        omega
      · show ∃ D : Nat → Nat, q_wfP (fun i => (O ++ [c]).getD i 0) s (O ++ [c]).length D ∧ (∀ i, i ≤ (O ++ [c]).length → D i ≤ 31) ∧ D (O ++ [c]).length + 0 = Y_bi H + 1
        rcases hc with hu | hbi
        · have e : ¬(c = 11 ∨ c = 12 ∨ (14 ≤ c ∧ c ≤ 18)) := by unfold q_una at hu; omega
          rw [Y_bi, if_neg e] at h9
          have w := Y_wf_ext (n := D O.length) h7 h5 h8 (h8 _ (Nat.le_refl _)) (Or.inr (Or.inl ⟨hu, by omega, rfl⟩))
          exact ⟨_, w.1, w.2.1, by rw [w.2.2]; omega⟩
        · have e : c = 11 ∨ c = 12 ∨ (14 ≤ c ∧ c ≤ 18) := hbi
          rw [Y_bi, if_pos e] at h9
          have h8' := h8 _ (Nat.le_refl _)
          have w := Y_wf_ext (n := D O.length - 1) h7 h5 h8 (by omega) (Or.inr (Or.inr ⟨hbi, by omega, by omega⟩))
          exact ⟨_, w.1, w.2.1, by rw [w.2.2]; omega⟩
theorem q_Yi_le {s a a2 w : Nat} {S : q_Y} (h : a ≤ a2) (hi : q_Yi s a w S) : q_Yi s a2 w S := ⟨hi.1, hi.2.1, hi.2.2.1, hi.2.2.2.1, hi.2.2.2.2.1, Nat.le_trans hi.2.2.2.2.2.1 h, hi.2.2.2.2.2.2⟩
/-- one more is held -/
theorem q_Yi_hold {s a w w2 : Nat} {S : q_Y} {c p : Int} (hi : q_Yi s a w S) (hc : (q_bi c ∧ w = 0 ∧ w2 = 1 ∧ Y_tp S.1 < F_rank c ∧ p = S.2.1) ∨ ((c = 0 ∨ c = 13 ∨ c = 19) ∧ w2 = w ∧ S.2.1 ≠ 5 ∧ (c = 13 → Y_tp S.1 ≤ 3) ∧ p = S.2.1 + 1)) : q_Yi s (a + 1) w2 (c :: S.1, p, S.2.2) := by
  obtain ⟨H, p0, O⟩ := S
  obtain ⟨h1, h2, h3, h4, h5, h6, D, h7, h8, h9⟩ := hi
  simp only at h1 h2 h3 h4 h5 h6 h7 h8 h9 hc
  refine ⟨?_, ?_, ⟨h3, fun q => ?_, fun q => ?_⟩, fun x hx => ?_, h5, by show (c :: H).length + O.length ≤ a + 1; rw [List.length_cons]; omega, D, h7, h8, ?_⟩
  · show p = Y_op (c :: H)
    rw [Y_op]
    rcases hc with ⟨k1, k2, k3, k4, k5⟩ | ⟨k1, k2, k3, k4, k5⟩
    · rw [if_neg (by unfold q_bi at k1; omega)]
      omega
    · rw [if_pos k1]
      omega
  · show Y_op (c :: H) ≤ 5
    rw [Y_op]
    rcases hc with ⟨k1, k2, k3, k4, k5⟩ | ⟨k1, k2, k3, k4, k5⟩
    · rw [if_neg (by unfold q_bi at k1; omega)]
      omega
    · rw [if_pos k1]
      omega
  · rcases hc with ⟨k1, k2, k3, k4, k5⟩ | ⟨k1, k2, k3, k4, k5⟩
    · exact k4
    · exfalso
      unfold q_bi at q
      omega
  · rcases hc with ⟨k1, k2, k3, k4, k5⟩ | ⟨k1, k2, k3, k4, k5⟩
    · exfalso
      unfold q_bi at k1
      omega
    · exact k4 q
  · rcases List.mem_cons.mp hx with e | e
    · rw [e]
      rcases hc with ⟨k1, _⟩ | ⟨k1, _⟩
      · exact Or.inr (Or.inr k1)
      · rcases k1 with k | k
        · exact Or.inl k
        · exact Or.inr (Or.inl k)
    · exact h4 x e
  · show D O.length + w2 = Y_bi (c :: H) + 1
    rw [Y_bi]
    rcases hc with ⟨k1, k2, k3, k4, k5⟩ | ⟨k1, k2, k3, k4, k5⟩
    · rw [if_pos (show c = 11 ∨ c = 12 ∨ (14 ≤ c ∧ c ≤ 18) from k1)]
      omega
    · rw [if_neg (by omega)]
      omega
/-- of a whole state -/
def q_Yic (s : Nat) (c : q_Yc) : Prop := q_Yi s c.2.2.2 (if c.1 = true then 1 else 0) c.2.2.1 ∧ (c.1 = true → c.2.1 = true → Y_tp c.2.2.1.1 ≤ 3)
/-- of an end -/
def q_Yir (n s : Nat) (r : q_Yr) : Prop := r.1 = true → s < r.2.2.2.length ∧ r.2.2.2.length ≤ r.2.2.1 ∧ r.2.2.1 ≤ n ∧ ∃ D : Nat → Nat, q_wfP (fun i => r.2.2.2.getD i 0) s r.2.2.2.length D ∧ (∀ i, i ≤ r.2.2.2.length → D i ≤ 31) ∧ D r.2.2.2.length = 1
theorem q_bi_ne {c : Int} (h : q_bi c) : c ≠ 13 ∧ c ≠ 19 ∧ c ≠ 0 ∧ 1 ≤ F_rank c := by
  unfold q_bi at h
  unfold F_rank
  omega
set_option maxHeartbeats 1000000 in
theorem Y_st_i {T : Nat → Int} {n s : Nat} {c : q_Yc} (ha : c.2.2.2 ≤ n) (h : q_Yic s c) : (∀ c2, Y_st T n c = .inl c2 → q_Yic s c2 ∧ c2.2.2.2 ≤ n) ∧ (∀ r, Y_st T n c = .inr r → q_Yir n s r) := by
  obtain ⟨w, my, ⟨H, p, O⟩, a⟩ := c
  have ha : a ≤ n := ha
  have L := L_ok (T := T) ha
  obtain ⟨l1, l2, l3, l4, l5, l6, l7, l8⟩ := L
  have bd : ∀ r, Y_bd T n a = .inr r → q_Yir n s r := by
    intro r hr
    unfold Y_bd at hr
    injection hr with hr
    rw [← hr]
    intro q
    have q : false = true := q
    exact absurd q (by decide)
  have bdl : ∀ c2, Y_bd T n a ≠ .inl c2 := fun c2 q => by unfold Y_bd at q; injection q
  obtain ⟨hi, hm⟩ := h
  cases w with
  | true =>
    have hi : q_Yi s a 1 (H, p, O) := hi
    have hm : my = true → Y_tp H ≤ 3 := hm rfl
    show (∀ c2, Y_s1 T n my (H, p, O) a = .inl c2 → _) ∧ (∀ r, Y_s1 T n my (H, p, O) a = .inr r → _)
    unfold Y_s1
    have opn : ∀ (c : Int) (my2 : Bool), L_t T n a ≠ -2 → p ≠ 5 → (c = 0 ∨ c = 13 ∨ c = 19) → (c = 13 → Y_tp H ≤ 3) → (my2 = true → F_rank c ≤ 3) → q_Yic s (true, my2, (c :: H, p + 1, O), L_b T n a) ∧ L_b T n a ≤ n := by
      intro c my2 ht hp hc h13 hmy
      have lt := l5 ht
      exact ⟨⟨q_Yi_le (a := a + 1) (by show a + 1 ≤ L_b T n a; omega) (q_Yi_hold (S := (H, p, O)) hi (Or.inr ⟨hc, rfl, hp, h13, rfl⟩)), fun _ => hmy⟩, l4⟩
    by_cases c1 : L_t T n a = -3 ∨ L_t T n a = -4
    · rw [if_pos c1]
      refine ⟨fun c2 hc => ?_, fun r hr => by injection hr⟩
      injection hc with hc
      rw [← hc]
      have lt := l5 (by omega)
      refine ⟨⟨?_, fun q => absurd (show false = true from q) (by decide)⟩, l4⟩
      have hv : q_pu (if L_t T n a = -3 then 100000 + L_v T n a else L_v T n a) := by
        unfold q_pu
        split <;> omega
      generalize (if L_t T n a = -3 then 100000 + L_v T n a else L_v T n a) = v at hv
      show q_Yi s (L_b T n a) 0 (Y_un 7 H p (O ++ [v]))
      refine (Y_un_i (by decide) H p (O ++ [v]) ?_).1
      obtain ⟨h1, h2, h3, h4, h5, h6, D, h7, h8, h9⟩ := hi
      simp only at h1 h2 h3 h4 h5 h6 h7 h8 h9
      have hb := Y_bi_le H h3 h4
      have hz := Y_ze_op H
      have hl := Y_lev_5 (r := Y_tp H)
      have w := Y_wf_ext (n := D O.length + 1) h7 h5 h8 (by omega) (Or.inl ⟨hv, rfl⟩)
      refine ⟨h1, h2, h3, h4, by rw [List.length_append]; omega, ?_, _, w.1, w.2.1, ?_⟩
      · show H.length + (O ++ [v]).length ≤ L_b T n a
        rw [List.length_append]
        show H.length + (O.length + 1) ≤ L_b T n a
        omega
      · show F_un D (O.length + 1) (D O.length + 1) (O ++ [v]).length + 0 = Y_bi H + 1
        rw [w.2.2]
        omega
    · rw [if_neg c1]
      by_cases k2 : L_t T n a = -10 ∧ my = true
      · rw [if_pos k2]
        by_cases c5 : p = 5
        · rw [if_pos c5]
          exact ⟨fun c2 q => absurd q (bdl c2), bd⟩
        · rw [if_neg c5]
          refine ⟨fun c2 hc => ?_, fun r hr => by injection hr⟩
          injection hc with hc
          rw [← hc]
          exact opn 13 my (by omega) c5 (Or.inr (Or.inl rfl)) (fun _ => hm k2.2) (fun _ => by decide)
      · rw [if_neg k2]
        by_cases c3 : L_t T n a = 45
        · rw [if_pos c3]
          by_cases c5 : p = 5
          · rw [if_pos c5]
            exact ⟨fun c2 q => absurd q (bdl c2), bd⟩
          · rw [if_neg c5]
            refine ⟨fun c2 hc => ?_, fun r hr => by injection hr⟩
            injection hc with hc
            rw [← hc]
            exact opn 19 false (by omega) c5 (Or.inr (Or.inr rfl)) (fun q => absurd q (by decide)) (fun q => absurd q (by decide))
        · rw [if_neg c3]
          by_cases c4 : L_t T n a = 40
          · rw [if_pos c4]
            by_cases c5 : p = 5
            · rw [if_pos c5]
              exact ⟨fun c2 q => absurd q (bdl c2), bd⟩
            · rw [if_neg c5]
              refine ⟨fun c2 hc => ?_, fun r hr => by injection hr⟩
              injection hc with hc
              rw [← hc]
              exact opn 0 true (by omega) c5 (Or.inl rfl) (fun q => absurd q (by decide)) (fun _ => by decide)
          · rw [if_neg c4]
            exact ⟨fun c2 q => absurd q (bdl c2), bd⟩
  | false =>
    have hi : q_Yi s a 0 (H, p, O) := hi
    show (∀ c2, Y_s0 T n my (H, p, O) a = .inl c2 → _) ∧ (∀ r, Y_s0 T n my (H, p, O) a = .inr r → _)
    unfold Y_s0
    have u1 := Y_un_i (r := 1) (by decide) H p O hi
    have e1 : Y_u 1 (H, p, O) = Y_un 1 H p O := rfl
    rw [e1]
    by_cases c1 : L_t T n a = 59
    · rw [if_pos c1]
      generalize Y_un 1 H p O = S at u1
      obtain ⟨H1, p1, O1⟩ := S
      cases H1 with
      | nil =>
        refine ⟨fun c2 hc => by injection hc, fun r hr => ?_⟩
        injection hr with hr
        rw [← hr]
        intro _
        obtain ⟨⟨h1, h2, h3, h4, h5, h6, D, h7, h8, h9⟩, _⟩ := u1
        simp only at h1 h2 h3 h4 h5 h6 h7 h8 h9
        have h9 : D O1.length = 1 := by
          rw [Y_bi] at h9
          omega
        refine ⟨?_, ?_, l4, D, h7, h8, h9⟩
        · show s < O1.length
          rcases Nat.lt_or_ge s O1.length with z | z
          · exact z
          · have e : s = O1.length := by omega
            rw [← e, h7.1] at h9
            omega
        · show O1.length ≤ L_b T n a
          have h6 : 0 + O1.length ≤ a := h6
          omega
      | cons c H1 => exact ⟨fun c2 q => absurd q (bdl c2), bd⟩
    · rw [if_neg c1]
      by_cases c2 : L_t T n a = 41
      · rw [if_pos c2]
        have lt := l5 (by omega)
        generalize Y_un 1 H p O = S at u1
        obtain ⟨H1, p1, O1⟩ := S
        cases H1 with
        | nil => exact ⟨fun c2 q => absurd q (bdl c2), bd⟩
        | cons c H1 =>
          refine ⟨fun c2 hc => ?_, fun r hr => by injection hr⟩
          injection hc with hc
          rw [← hc]
          refine ⟨⟨?_, fun q => absurd (show false = true from q) (by decide)⟩, l4⟩
          show q_Yi s (L_b T n a) 0 (Y_un 7 H1 (p1 - 1) O1)
          refine (Y_un_i (by decide) H1 _ O1 ?_).1
          obtain ⟨⟨h1, h2, h3, h4, h5, h6, D, h7, h8, h9⟩, ht⟩ := u1
          simp only at h1 h2 h3 h4 h5 h6 h7 h8 h9
          have ec : c = 0 := by
            have ht : F_rank c < 1 := ht
            unfold F_rank at ht
            omega
          subst ec
          rw [Y_op, if_pos (Or.inl rfl)] at h1 h2
          rw [Y_bi, if_neg (by omega)] at h9
          rw [List.length_cons] at h6
          refine ⟨?_, ?_, h3.1, fun x hx => h4 x (List.mem_cons_of_mem _ hx), h5, ?_, D, h7, h8, h9⟩
          · show p1 - 1 = Y_op H1
            omega
          · show Y_op H1 ≤ 5
            omega
          · show H1.length + O1.length ≤ L_b T n a
            omega
      · rw [if_neg c2]
        by_cases c3 : Y_sg (L_t T n a) = -1
        · rw [if_pos c3]
          exact ⟨fun c2 q => absurd q (bdl c2), bd⟩
        · rw [if_neg c3]
          have lt := l5 (fun q => c3 (by rw [q]; rfl))
          have hb : q_bi (Y_sg (L_t T n a)) := by
            unfold q_bi
            unfold Y_sg at c3 ⊢
            omega
          generalize Y_sg (L_t T n a) = cs at c3 hb
          obtain ⟨b1, b2, b3, b4⟩ := q_bi_ne hb
          unfold Y_bt
          by_cases c4 : F_rank cs = 4 ∧ Y_tp (Y_u 5 (H, p, O)).1 = 4
          · rw [if_pos c4]
            exact ⟨fun c2 q => absurd q (bdl c2), bd⟩
          · rw [if_neg c4]
            refine ⟨fun c2 hc => ?_, fun r hr => by injection hr⟩
            injection hc with hc
            rw [← hc]
            have hl : Y_tp (Y_u (if F_rank cs = 4 then 5 else F_rank cs) (H, p, O)).1 < F_rank cs ∧ q_Yi s a 0 (Y_u (if F_rank cs = 4 then 5 else F_rank cs) (H, p, O)) := by
              by_cases k : F_rank cs = 4
              · rw [if_pos k]
                have u5 := Y_un_i (r := 5) (by decide) H p O hi
                refine ⟨?_, u5.1⟩
                have h1 : Y_tp (Y_u 5 (H, p, O)).1 < 5 := u5.2
                have h2 : Y_tp (Y_u 5 (H, p, O)).1 ≠ 4 := fun q => c4 ⟨k, q⟩
                omega
              · rw [if_neg k]
                have u5 := Y_un_i b4 H p O hi
                exact ⟨u5.2, u5.1⟩
            refine ⟨⟨q_Yi_le (a := a + 1) (by show a + 1 ≤ L_b T n a; omega) (q_Yi_hold hl.2 (Or.inl ⟨hb, rfl, rfl, hl.1, rfl⟩)), fun _ q => ?_⟩, l4⟩
            have q : decide (cs ≤ 12) = true := q
            have q := of_decide_eq_true q
            show F_rank cs ≤ 3
            unfold q_bi at hb
            unfold F_rank
            omega
theorem Y_rd_i {T : Nat → Int} {n s : Nat} : ∀ (k : Nat) (c : q_Yc) (r : q_Yr), c.2.2.2 ≤ n → q_Yic s c → Y_rd T n k c = some r → q_Yir n s r := by
  intro k
  induction k with
  | zero =>
    intro c r _ _ h
    rw [Y_rd] at h
    exact absurd h (by simp)
  | succ k ih =>
    intro c r ha hi h
    have st := Y_st_i (T := T) ha hi
    rw [Y_rd] at h
    cases e : Y_st T n c with
    | inl c2 =>
      rw [e] at h
      have := st.1 c2 e
      exact ih c2 r this.2 this.1 h
    | inr r2 =>
      rw [e] at h
      injection h with h
      rw [← h]
      exact st.2 r2 e
theorem q_Yi_0 {O : List Int} {a : Nat} (h : O.length ≤ a) : q_Yic O.length (true, true, ([], 0, O), a) := by
  refine ⟨?_, fun _ _ => ?_⟩
  · show q_Yi O.length a 1 ([], 0, O)
    refine ⟨rfl, Nat.zero_le _, trivial, ?_, Nat.le_refl _, ?_, fun _ => 0, ⟨rfl, ?_⟩, fun _ _ => Nat.zero_le _, rfl⟩
    · intro c hc
      exact absurd hc List.not_mem_nil
    · show 0 + O.length ≤ a
      omega
    · intro i h1 h2
      have h2 : i < O.length := h2
      omega
  · show (-1 : Int) ≤ 3
    omega
/-- where a fault lies -/
theorem Y_st_f {T : Nat → Int} {n : Nat} {c : q_Yc} {r : q_Yr} (h : Y_st T n c = .inr r) : r.2.1 = L_i T n c.2.2.2 := by
  obtain ⟨w, my, ⟨H, p, O⟩, a⟩ := c
  have bd : ∀ r, Y_bd T n a = .inr r → r.2.1 = L_i T n a := by
    intro r hr
    unfold Y_bd at hr
    injection hr with hr
    rw [← hr]
  cases w with
  | true =>
    have h : Y_s1 T n my (H, p, O) a = .inr r := h
    unfold Y_s1 at h
    (repeat' split at h) <;> first | exact bd r h | (injection h)
  | false =>
    have h : Y_s0 T n my (H, p, O) a = .inr r := h
    unfold Y_s0 at h
    (repeat' split at h) <;> first | exact bd r h | (injection h; done) | (injection h with h; rw [← h])
