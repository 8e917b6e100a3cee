/-! THE TWO READERS: a part, the whole -/
theorem R_nx_tk0 {T : Nat → Int} {n a : Nat} {z : q_Z} (h4 : z.2.2.2.2.1 = (a : Nat)) (h5 : z.2.2.2.2.2.1 = -1) : q_tok T n (R_nx T n z) a ∧ (R_nx T n z).1 = z.1 ∧ (R_nx T n z).2.2.2.2.2.2 = z.2.2.2.2.2.2 := by
  obtain ⟨cn, tok, val, fr, bh, ft, C⟩ := z
  simp only at h4 h5
  subst h4
  subst h5
  unfold R_nx
  simp only [Int.toNat_natCast]
  rw [if_neg (by omega)]
  have e := R_tk_any (T := T) (n := n) (i := F_wh F_blk T (n - a) a) (v := val) (v' := 0)
  refine ⟨⟨e.1, fun hz => e.2.1 (by rw [e.1]; exact hz), rfl, ?_, rfl⟩, rfl, rfl⟩
  show (((R_tk T n _ val).2.2 : Nat) : Int) = ((L_b T n a : Nat) : Int)
  rw [e.2.2]
  rfl
theorem R_on_fs {T : Nat → Int} {n : Nat} {r0 : Bool} {on ei : q_Z → q_Z} {z : q_Z} (h : q_fs z) : q_fs (R_on T n r0 on ei z) ∧ (R_on T n r0 on ei z).2.2.2.2.2.1 = z.2.2.2.2.2.1 := by
  unfold R_on
  rw [if_neg (by rw [h.2]; decide), if_pos (Or.inl (by rw [h.2]; decide))]
  exact R_fl_fs h
theorem R_lp_fs {T : Nat → Int} {n : Nat} {t o : Int} {f : q_Z → q_Z} {k : Nat} {z : q_Z} (ht : t ≠ -1) (h : q_fs z) : R_lp T n t o f k z = z := by
  cases k with
  | zero => rfl
  | succ k => rw [R_lp, if_neg (by rw [h.2]; exact fun q => ht q.symm)]
theorem R_ls_fs {T : Nat → Int} {n : Nat} {f : q_Z → q_Z} {k : Nat} {z : q_Z} (h : q_fs z) : R_ls T n f k z = z := by
  cases k with
  | zero => rfl
  | succ k => rw [R_ls, if_neg (by rw [h.2]; decide)]
def q_sk (f : q_Z → q_Z) : Prop := ∀ z, q_fs z → q_fs (f z) ∧ (f z).2.2.2.2.2.1 = z.2.2.2.2.2.1
theorem R_mk_fs {T : Nat → Int} {n : Nat} {r0 : Bool} {p : (q_Z → q_Z) × (q_Z → q_Z) × (q_Z → q_Z)} : q_sk (R_mk T n r0 p).2.2 := by
  intro z hz
  have h1 : q_sk (R_on T n r0 p.1 p.2.2) := fun z h => R_on_fs h
  have h2 : q_sk (R_te T n (R_on T n r0 p.1 p.2.2)) := fun z h => by
    unfold R_te
    rw [R_lp_fs (by decide) (h1 z h).1]
    exact h1 z h
  have h3 : q_sk (R_su T n (R_te T n (R_on T n r0 p.1 p.2.2))) := fun z h => by
    unfold R_su
    rw [R_ls_fs (h2 z h).1]
    exact h2 z h
  have h4 : q_sk (R_no T n r0 p.2.1 (R_su T n (R_te T n (R_on T n r0 p.1 p.2.2)))) := fun z h => by
    unfold R_no R_cp
    rw [if_neg (by rw [h.2]; decide), if_neg (by rw [(h3 z h).1.2]; decide)]
    exact h3 z h
  show q_fs (R_ei T n (R_bo T n (R_no T n r0 p.2.1 (R_su T n (R_te T n (R_on T n r0 p.1 p.2.2))))) z) ∧ _
  have h5 : q_sk (R_bo T n (R_no T n r0 p.2.1 (R_su T n (R_te T n (R_on T n r0 p.1 p.2.2))))) := fun z h => by
    unfold R_bo
    rw [R_lp_fs (by decide) (h4 z h).1]
    exact h4 z h
  show q_fs (R_ei T n _ z) ∧ (R_ei T n _ z).2.2.2.2.2.1 = _
  unfold R_ei
  rw [R_lp_fs (by decide) (h5 z hz).1]
  exact h5 z hz
theorem R_pt_fs {T : Nat → Int} {n : Nat} {key : Int} {z : q_Z} (hk : key ≠ -1) (h : q_fs z) : q_fs (R_pt T n key z) ∧ (R_pt T n key z).2.2.2.2.2.1 = z.2.2.2.2.2.1 := by
  have h1 := R_ex_fs (T := T) (n := n) hk h
  have h2 : q_fs ((R_lv T n 5).2.2 (R_ex T n key z)) ∧ ((R_lv T n 5).2.2 (R_ex T n key z)).2.2.2.2.2.1 = (R_ex T n key z).2.2.2.2.2.1 := R_mk_fs _ h1.1
  have h3 := R_ex_fs (T := T) (n := n) (w := 59) (by decide) h2.1
  have h4 := R_em_fs (o := 0) (v := 0) h3.1
  exact ⟨h4.1, h4.2.trans (h3.2.trans (h2.2.trans h1.2))⟩
/-- a part: its fault; or its code, in both readers -/
theorem Y_part {T : Nat → Int} {n a b : Nat} {key : Int} {z : q_Z} (O0 : List Int) (hn : n ≤ 160) (hk : -7 ≤ key ∧ key ≤ -5) (tk : q_tok T n z a) (ha : a ≤ n) (hb : z.1 = b) (hs : (b : Int) ≤ L_i T n a) :
    (q_fs (R_pt T n key z) ∧ ((L_t T n a ≠ key ∧ (R_pt T n key z).2.2.2.2.2.1.toNat = L_i T n a) ∨ (L_t T n a = key ∧ Y_ev T n (true, true, ([], 0, O0), L_b T n a) (false, (R_pt T n key z).2.2.2.2.2.1.toNat, 0, [])))) ∨
    (L_t T n a = key ∧ (R_ex T n key z).1 = b ∧ ∃ (k a2 i : Nat) (K : List Int), K.length = k ∧ (R_pt T n key z).1 = ((b + k + 1 : Nat) : Int) ∧ q_tok T n (R_pt T n key z) a2 ∧ a < a2 ∧ a2 ≤ n ∧ ((b + k + 1 : Nat) : Int) ≤ L_i T n a2 ∧ (∀ j, j < b → (R_pt T n key z).2.2.2.2.2.2 j = z.2.2.2.2.2.2 j) ∧ (R_pt T n key z).2.2.2.2.2.2 (b + k) = 0 ∧ (∀ j, j < k → K.getD j 0 = K_c ((R_pt T n key z).2.2.2.2.2.2 (b + j))) ∧ Y_ev T n (true, true, ([], 0, O0), L_b T n a) (true, i, a2, O0 ++ K)) := by
  have L := L_ok (T := T) ha
  obtain ⟨l1, l2, l3, l4, l5, l6, l7, l8⟩ := L
  have M := L_ok (T := T) l4
  by_cases c : L_t T n a = key
  · have lt := l5 (by omega)
    have ex : R_ex T n key z = R_nx T n z := if_pos (tk.1.trans c)
    obtain ⟨f1, f2, f3⟩ := R_nx_tk tk
    have K0 : K_o b (R_nx T n z) = [] := by
      unfold K_o
      rw [f2, hb, show ((b : Int).toNat - b) = 0 by omega]
      rfl
    have hp : R_pt T n key z = R_em 0 0 (R_ex T n 59 ((R_lv T n 5).2.2 (R_nx T n z))) := by
      unfold R_pt
      rw [ex]
    rw [hp]
    have lv := (Y_lvs (O0 := O0) (b := b) (T := T) hn 5 (Nat.le_refl 5)).2.2
    rw [show (5 : Int) - (5 : Nat) = 0 by omega] at lv
    rcases lv (R_nx T n z) (L_b T n a) 1 [] true f1 l4 (by omega) (by omega) (by omega) (by decide) (fun _ => rfl) (fun q => absurd q (by decide)) with ⟨g1, g2⟩ | ⟨S, a2, my2, g1, g2, g3, g4, g5, g6, g7, g8, g9⟩
    · have h3 := R_ex_fs (T := T) (n := n) (w := 59) (by decide) g1
      have h4 := R_em_fs (o := 0) (v := 0) h3.1
      refine Or.inl ⟨h4.1, Or.inr ⟨c, ?_⟩⟩
      rw [h4.2, h3.2]
      rw [K0, List.append_nil] at g2
      exact g2
    · rw [K0, List.append_nil] at g9
      have N := L_ok (T := T) g3
      by_cases c2 : L_t T n a2 = 59
      · have lt2 := N.2.2.2.2.1 (by omega)
        have N2 := L_ok (T := T) N.2.2.2.1
        have ex2 : R_ex T n 59 ((R_lv T n 5).2.2 (R_nx T n z)) = R_nx T n ((R_lv T n 5).2.2 (R_nx T n z)) := if_pos (g1.1.trans c2)
        rw [ex2]
        obtain ⟨e1, e2, e3⟩ := R_nx_tk g1
        obtain ⟨d1, d2, d3, d4⟩ := R_em_tk (b := b) (o := 0) (v := 0) e1 (by omega) (by omega) (by omega) (by omega)
        generalize (R_lv T n 5).2.2 (R_nx T n z) = w at *
        obtain ⟨k, hk1⟩ : ∃ k : Nat, w.1 = ((b + k : Nat) : Int) := ⟨w.1.toNat - b, by omega⟩
        have hlen : (K_o b w).length = k := by
          unfold K_o
          rw [List.length_map, List.length_range, hk1]
          omega
        refine Or.inr ⟨c, by rw [ex, f2]; exact hb, k, L_b T n a2, L_i T n a2, K_o b w, hlen, by rw [d2, e2]; omega, d1, by omega, N.2.2.2.1, by omega, fun j hj => ?_, ?_, fun j hj => ?_, g9 _ (Y_ev_in ?_)⟩
        · rw [d3 j (by omega), e3, g6 j (by omega), f3]
        · have hl : w.1 < 160 := by omega
          unfold R_em
          rw [if_pos (by rw [e2]; exact hl)]
          show F_u _ (R_nx T n w).1.toNat _ (b + k) = 0
          unfold F_u
          rw [if_pos (by rw [e2]; omega), q_code (by omega) (by omega) (by omega) (by omega)]
          rfl
        · rw [d3 (b + j) (by omega), e3]
          unfold K_o
          rw [List.getD_eq_getElem?_getD, List.getElem?_map, List.getElem?_range (by omega)]
          rfl
        · show Y_s0 T n my2 S a2 = _
          unfold Y_s0
          rw [if_pos c2, g7]
          rfl
      · have ex2 : R_ex T n 59 ((R_lv T n 5).2.2 (R_nx T n z)) = R_fl ((R_lv T n 5).2.2 (R_nx T n z)) := if_neg (fun q => c2 (g1.1.symm.trans q))
        rw [ex2]
        obtain ⟨e1, e2⟩ := R_fl_tk g1
        have h4 := R_em_fs (o := 0) (v := 0) e1
        refine Or.inl ⟨h4.1, Or.inr ⟨c, g9 _ (Y_ev_in ?_)⟩⟩
        rw [h4.2, e2]
        by_cases c3 : L_t T n a2 = 41
        · show Y_s0 T n my2 S a2 = _
          unfold Y_s0
          rw [if_neg c2, if_pos c3, g7]
          rfl
        · exact Y_bad g8 c2 c3
  · have ex : R_ex T n key z = R_fl z := if_neg (fun q => c (tk.1.symm.trans q))
    obtain ⟨e1, e2⟩ := R_fl_tk tk
    have h2 : q_fs ((R_lv T n 5).2.2 (R_fl z)) ∧ ((R_lv T n 5).2.2 (R_fl z)).2.2.2.2.2.1 = (R_fl z).2.2.2.2.2.1 := R_mk_fs _ e1
    have h3 := R_ex_fs (T := T) (n := n) (w := 59) (by decide) h2.1
    have h4 := R_em_fs (o := 0) (v := 0) h3.1
    have hp : R_pt T n key z = R_em 0 0 (R_ex T n 59 ((R_lv T n 5).2.2 (R_fl z))) := by
      unfold R_pt
      rw [ex]
    rw [hp]
    exact Or.inl ⟨h4.1, Or.inl ⟨c, by rw [h4.2, h3.2, h2.2, e2]; rfl⟩⟩
/-- the model's reading of a text, k parts still to come, from part p on: good, at, out, starts -/
def Y_tx (T : Nat → Int) (n : Nat) : Nat → Nat → Nat → List Int → (Nat → Nat) → Option Nat → List Int → (Nat → Nat) → Prop
  | 0, p, a, O, s, r, O2, s2 => if L_t T n a = -2 then r = none ∧ O2 = O ∧ s2 = (fun i => if i = p then O.length else s i) else r = some (L_i T n a)
  | k + 1, p, a, O, s, r, O2, s2 => if L_t T n a = -5 - p then (∃ f, Y_ev T n (true, true, ([], 0, O), L_b T n a) (false, f, 0, []) ∧ r = some f) ∨ (∃ i a2 O1, Y_ev T n (true, true, ([], 0, O), L_b T n a) (true, i, a2, O1) ∧ Y_tx T n k (p + 1) a2 O1 (fun i => if i = p then O.length else s i) r O2 s2) else r = some (L_i T n a)
/-- a part's code in the class (from b on) and in the model (from c on), k signs -/
def q_cdm (C : Nat → Int) (b : Nat) (O : List Int) (c k : Nat) : Prop := C (b + k) = 0 ∧ ∀ j, j < k → O.getD (c + j) 0 = K_c (C (b + j))
theorem Y_text {T : Nat → Int} {n : Nat} {z : q_Z} {st : Nat → Int} (hn : n ≤ 160) (tk : q_tok T n z 0) (hz : z.1 = 0) :
    (q_fs (R_z5 T n z) ∧ Y_tx T n 3 0 0 [] (fun _ => 0) (some (R_z5 T n z).2.2.2.2.2.1.toNat) [] (fun _ => 0)) ∨
    ((R_z5 T n z).2.2.2.2.2.1 = -1 ∧ ∃ (O : List Int) (s : Nat → Nat), Y_tx T n 3 0 0 [] (fun _ => 0) none O s ∧ s 0 = 0 ∧ s 3 = O.length ∧ ∀ p, p < 3 → ∃ b k : Nat, R_st T n z st p = (b : Nat) ∧ s (p + 1) = s p + k ∧ ((b + k : Nat) : Int) < (R_z5 T n z).1 ∧ q_cdm (R_z5 T n z).2.2.2.2.2.2 b O (s p) k) := by
  have t0 : R_z5 T n z = R_ex T n (-2) (R_pt T n (-7) (R_pt T n (-6) (R_pt T n (-5) z))) := rfl
  rcases Y_part (key := -5) [] hn (by omega) tk (Nat.zero_le n) (b := 0) hz (by omega) with ⟨g1, g2⟩ | ⟨x0, y0, k1, a1, i1, K1, x1, x2, x3, x4, x5, x6, x7, x8, x9, x10⟩
  · left
    have h2 := R_pt_fs (T := T) (n := n) (key := -6) (by decide) g1
    have h3 := R_pt_fs (T := T) (n := n) (key := -7) (by decide) h2.1
    have h4 := R_ex_fs (T := T) (n := n) (w := -2) (by decide) h3.1
    rw [t0]
    refine ⟨h4.1, ?_⟩
    rw [h4.2, h3.2, h2.2]
    unfold Y_tx
    rcases g2 with ⟨g2, g3⟩ | ⟨g2, g3⟩
    · rw [if_neg (by rw [show (-5 : Int) - (0 : Nat) = -5 by omega]; exact g2), g3]
    · rw [if_pos (by rw [g2]; rfl)]
      exact Or.inl ⟨_, g3, rfl⟩
  generalize hz1 : R_pt T n (-5) z = z1 at *
  rcases Y_part (key := -6) ([] ++ K1) hn (by omega) x3 x5 (b := 0 + k1 + 1) x2 x6 with ⟨g1, g2⟩ | ⟨u0, v0, k2, a2, i2, K2, u1, u2, u3, u4, u5, u6, u7, u8, u9, u10⟩
  · left
    have h3 := R_pt_fs (T := T) (n := n) (key := -7) (by decide) g1
    have h4 := R_ex_fs (T := T) (n := n) (w := -2) (by decide) h3.1
    rw [t0]
    refine ⟨h4.1, ?_⟩
    rw [h4.2, h3.2]
    unfold Y_tx
    rw [if_pos (by rw [x0]; rfl)]
    refine Or.inr ⟨i1, a1, _, x10, ?_⟩
    unfold Y_tx
    rcases g2 with ⟨g2, g3⟩ | ⟨g2, g3⟩
    · rw [if_neg (by rw [show (-5 : Int) - ((0 + 1 : Nat) : Int) = -6 by omega]; exact g2), g3]
    · rw [if_pos (by rw [g2]; rfl)]
      exact Or.inl ⟨_, g3, rfl⟩
  generalize hz2 : R_pt T n (-6) z1 = z2 at *
  rcases Y_part (key := -7) ([] ++ K1 ++ K2) hn (by omega) u3 u5 (b := 0 + k1 + 1 + k2 + 1) u2 u6 with ⟨g1, g2⟩ | ⟨w0, y3, k3, a3, i3, K3, w1, w2, w3, w4, w5, w6, w7, w8, w9, w10⟩
  · left
    have h4 := R_ex_fs (T := T) (n := n) (w := -2) (by decide) g1
    rw [t0]
    refine ⟨h4.1, ?_⟩
    rw [h4.2]
    unfold Y_tx
    rw [if_pos (by rw [x0]; rfl)]
    refine Or.inr ⟨i1, a1, _, x10, ?_⟩
    unfold Y_tx
    rw [if_pos (by rw [u0]; rfl)]
    refine Or.inr ⟨i2, a2, _, u10, ?_⟩
    unfold Y_tx
    rcases g2 with ⟨g2, g3⟩ | ⟨g2, g3⟩
    · rw [if_neg (by rw [show (-5 : Int) - ((0 + 1 + 1 : Nat) : Int) = -7 by omega]; exact g2), g3]
    · rw [if_pos (by rw [g2]; rfl)]
      exact Or.inl ⟨_, g3, rfl⟩
  have hrs : R_st T n z st = F_u (F_u (F_u st 0 (R_ex T n (-5) z).1) 1 (R_ex T n (-6) z1).1) 2 (R_ex T n (-7) z2).1 := by
    rw [← hz2, ← hz1]
    rfl
  generalize hz3 : R_pt T n (-7) z2 = z3 at *
  rw [t0]
  by_cases c : L_t T n a3 = -2
  · right
    have N := L_ok (T := T) w5
    have ex : R_ex T n (-2) z3 = R_nx T n z3 := if_pos (w3.1.trans c)
    rw [ex]
    obtain ⟨e1, e2, e3⟩ := R_nx_tk w3
    refine ⟨e1.2.2.2.2, [] ++ K1 ++ K2 ++ K3, fun i => if i = 3 then k1 + k2 + k3 else if i = 2 then k1 + k2 else if i = 1 then k1 else if i = 0 then 0 else 0, ?_, rfl, ?_, ?_⟩
    · unfold Y_tx
      rw [if_pos (by rw [x0]; rfl)]
      refine Or.inr ⟨i1, a1, _, x10, ?_⟩
      unfold Y_tx
      rw [if_pos (by rw [u0]; rfl)]
      refine Or.inr ⟨i2, a2, _, u10, ?_⟩
      unfold Y_tx
      rw [if_pos (by rw [w0]; rfl)]
      refine Or.inr ⟨i3, a3, _, w10, ?_⟩
      unfold Y_tx
      rw [if_pos c]
      refine ⟨rfl, rfl, ?_⟩
      funext i
      simp only [List.nil_append, List.length_append, x1, u1, w1, List.length_nil, Nat.zero_add]
    · simp only [List.nil_append, List.length_append, x1, u1, w1, if_true]
    · have g1 : ∀ j, j < k1 → ([] ++ K1 ++ K2 ++ K3).getD j 0 = K1.getD j 0 := fun j hj => by
        simp only [List.nil_append, List.getD_eq_getElem?_getD]
        rw [List.getElem?_append_left (by simp only [List.length_append]; omega), List.getElem?_append_left (by omega)]
      have g2 : ∀ j, j < k2 → ([] ++ K1 ++ K2 ++ K3).getD (k1 + j) 0 = K2.getD j 0 := fun j hj => by
        simp only [List.nil_append, List.getD_eq_getElem?_getD]
        rw [List.getElem?_append_left (by simp only [List.length_append]; omega), List.getElem?_append_right (by omega), x1, show k1 + j - k1 = j by omega]
      have g3 : ∀ j, j < k3 → ([] ++ K1 ++ K2 ++ K3).getD (k1 + k2 + j) 0 = K3.getD j 0 := fun j hj => by
        simp only [List.nil_append, List.getD_eq_getElem?_getD]
        rw [List.getElem?_append_right (by simp only [List.length_append]; omega), List.length_append, x1, u1, show k1 + k2 + j - (k1 + k2) = j by omega]
      intro p hp
      rw [e3, hrs]
      rcases (show p = 0 ∨ p = 1 ∨ p = 2 by omega) with rfl | rfl | rfl
      · refine ⟨0, k1, y0, by show k1 = 0 + k1; omega, by rw [e2, w2]; omega, ?_, fun j hj => ?_⟩
        · rw [w7 _ (by omega), u7 _ (by omega), x8]
        · show ([] ++ K1 ++ K2 ++ K3).getD (0 + j) 0 = _
          rw [w7 _ (by omega), u7 _ (by omega), Nat.zero_add, g1 j hj, x9 j hj, Nat.zero_add]
      · refine ⟨0 + k1 + 1, k2, v0, rfl, by rw [e2, w2]; omega, ?_, fun j hj => ?_⟩
        · rw [w7 _ (by omega), u8]
        · show ([] ++ K1 ++ K2 ++ K3).getD (k1 + j) 0 = _
          rw [w7 _ (by omega), g2 j hj, u9 j hj]
      · refine ⟨0 + k1 + 1 + k2 + 1, k3, y3, rfl, by rw [e2, w2]; omega, w8, fun j hj => ?_⟩
        show ([] ++ K1 ++ K2 ++ K3).getD (k1 + k2 + j) 0 = _
        rw [g3 j hj, w9 j hj]
  · left
    have ex : R_ex T n (-2) z3 = R_fl z3 := if_neg (fun q => c (w3.1.symm.trans q))
    rw [ex]
    obtain ⟨e1, e2⟩ := R_fl_tk w3
    refine ⟨e1, ?_⟩
    rw [e2]
    unfold Y_tx
    rw [if_pos (by rw [x0]; rfl)]
    refine Or.inr ⟨i1, a1, _, x10, ?_⟩
    unfold Y_tx
    rw [if_pos (by rw [u0]; rfl)]
    refine Or.inr ⟨i2, a2, _, u10, ?_⟩
    unfold Y_tx
    rw [if_pos (by rw [w0]; rfl)]
    refine Or.inr ⟨i3, a3, _, w10, ?_⟩
    unfold Y_tx
    rw [if_neg c]
    rfl
