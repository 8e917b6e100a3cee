/-! THE TWO READERS: tokens -/
def L_i (T : Nat → Int) (n a : Nat) : Nat := F_wh F_blk T (n - a) a
def L_t (T : Nat → Int) (n a : Nat) : Int := (R_tk T n (L_i T n a) 0).1
def L_v (T : Nat → Int) (n a : Nat) : Int := (R_tk T n (L_i T n a) 0).2.1
def L_b (T : Nat → Int) (n a : Nat) : Nat := (R_tk T n (L_i T n a) 0).2.2
theorem R_m_any {T : Nat → Int} {i b j : Nat} {t v : Int} {a a' : Int × Int} (h : a.1 = a'.1 ∧ (a.1 ≠ -1 → a.2 = a'.2)) : (R_m T i b j t v a).1 = (R_m T i b j t v a').1 ∧ ((R_m T i b j t v a).1 ≠ -1 → (R_m T i b j t v a).2 = (R_m T i b j t v a').2) := by
  unfold R_m
  split
  · exact ⟨rfl, fun _ => rfl⟩
  · exact h
theorem R_wd_any {T : Nat → Int} {i b : Nat} {v v' : Int} : (R_wd T i b v).1 = (R_wd T i b v').1 ∧ ((R_wd T i b v).1 ≠ -1 → (R_wd T i b v).2 = (R_wd T i b v').2) := by
  unfold R_wd
  exact R_m_any (R_m_any (R_m_any (R_m_any (R_m_any (R_m_any (R_m_any (R_m_any (R_m_any (R_m_any (R_m_any (R_m_any ⟨rfl, fun z => absurd rfl z⟩)))))))))))
theorem R_tk_any {T : Nat → Int} {n i : Nat} {v v' : Int} : (R_tk T n i v).1 = (R_tk T n i v').1 ∧ (((R_tk T n i v).1 = -3 ∨ (R_tk T n i v).1 = -4) → (R_tk T n i v).2.1 = (R_tk T n i v').2.1) ∧ (R_tk T n i v).2.2 = (R_tk T n i v').2.2 := by
  unfold R_tk
  by_cases c1 : n ≤ i
  · rw [if_pos c1, if_pos c1]
    exact ⟨rfl, fun z => absurd z (by show ¬((-2 : Int) = -3 ∨ (-2 : Int) = -4); omega), rfl⟩
  · rw [if_neg c1, if_neg c1]
    by_cases c2 : F_ltr (T i) = true
    · rw [if_pos c2, if_pos c2]
      have h := R_wd_any (T := T) (i := i) (b := F_wh F_ltr T (n - (i + 1)) (i + 1)) (v := v) (v' := v')
      refine ⟨h.1, fun z => h.2 ?_, rfl⟩
      have z : (R_wd T i (F_wh F_ltr T (n - (i + 1)) (i + 1)) v).1 = -3 ∨ (R_wd T i (F_wh F_ltr T (n - (i + 1)) (i + 1)) v).1 = -4 := z
      omega
    · rw [if_neg c2, if_neg c2]
      by_cases c3 : F_dgt (T i) = true
      · rw [if_pos c3, if_pos c3]
        exact ⟨rfl, fun _ => rfl, rfl⟩
      · rw [if_neg c3, if_neg c3]
        refine ⟨rfl, fun z => ?_, rfl⟩
        exfalso
        by_cases c4 : F_sgn (T i) = true
        · rw [if_pos c4] at z
          have h := of_decide_eq_true c4
          have z : T i = -3 ∨ T i = -4 := z
          omega
        · rw [if_neg c4] at z
          have z : (-1 : Int) = -3 ∨ (-1 : Int) = -4 := z
          omega
theorem R_wd_t {T : Nat → Int} {i b : Nat} {v : Int} : -10 ≤ (R_wd T i b v).1 ∧ (R_wd T i b v).1 ≤ -1 ∧ (R_wd T i b v).1 ≠ -2 ∧ (R_wd T i b v).1 ≠ -3 := by
  have st : ∀ {j : Nat} {t w : Int} {a : Int × Int}, (-10 ≤ t ∧ t ≤ -1 ∧ t ≠ -2 ∧ t ≠ -3) → (-10 ≤ a.1 ∧ a.1 ≤ -1 ∧ a.1 ≠ -2 ∧ a.1 ≠ -3) → (-10 ≤ (R_m T i b j t w a).1 ∧ (R_m T i b j t w a).1 ≤ -1 ∧ (R_m T i b j t w a).1 ≠ -2 ∧ (R_m T i b j t w a).1 ≠ -3) := by
    intro j t w a h1 h2
    unfold R_m
    split
    · exact h1
    · exact h2
  unfold R_wd
  refine st ?_ (st ?_ (st ?_ (st ?_ (st ?_ (st ?_ (st ?_ (st ?_ (st ?_ (st ?_ (st ?_ (st ?_ ?_)))))))))))
  all_goals simp
/-- which tokens there are; behind one more is read -/
theorem L_ok {T : Nat → Int} {n a : Nat} (ha : a ≤ n) : a ≤ L_i T n a ∧ L_i T n a ≤ n ∧ L_i T n a ≤ L_b T n a ∧ L_b T n a ≤ n ∧ (L_t T n a ≠ -2 → L_i T n a < L_b T n a) ∧ ((-10 ≤ L_t T n a ∧ L_t T n a ≤ -1) ∨ L_t T n a = 40 ∨ L_t T n a = 41 ∨ L_t T n a = 59 ∨ L_t T n a = 43 ∨ L_t T n a = 45 ∨ L_t T n a = 42 ∨ L_t T n a = 60 ∨ L_t T n a = 61) ∧ (L_t T n a = -3 → 0 ≤ L_v T n a ∧ L_v T n a ≤ 9999) ∧ (L_t T n a = -4 → 0 ≤ L_v T n a ∧ L_v T n a ≤ 5) := by
  have h1 := F_wh_le (P := F_blk) (T := T) (n - a) a
  have h2 : L_i T n a ≤ n := by unfold L_i; omega
  have h3 := R_tk_ok (T := T) (n := n) (i := L_i T n a) (v := 0) h2
  refine ⟨h1.1, h2, h3.2.1, h3.2.2, ?_, ?_, h3.1.1, h3.1.2⟩
  · unfold L_t L_b
    generalize L_i T n a = i
    unfold R_tk
    by_cases c1 : n ≤ i
    · rw [if_pos c1]
      intro z
      exact absurd rfl z
    · rw [if_neg c1]
      intro _
      by_cases c2 : F_ltr (T i) = true
      · rw [if_pos c2]
        have h := F_wh_le (P := F_ltr) (T := T) (n - (i + 1)) (i + 1)
        show i < F_wh F_ltr T (n - (i + 1)) (i + 1)
        omega
      · rw [if_neg c2]
        by_cases c3 : F_dgt (T i) = true
        · rw [if_pos c3]
          show i < F_wh F_dgt T (n - i) i
          obtain ⟨k, hk⟩ : ∃ k, n - i = k + 1 := ⟨n - i - 1, by omega⟩
          rw [hk, F_wh, if_pos c3]
          have h := F_wh_le (P := F_dgt) (T := T) k (i + 1)
          omega
        · rw [if_neg c3]
          show i < i + 1
          omega
  · unfold L_t
    generalize L_i T n a = i
    unfold R_tk
    by_cases c1 : n ≤ i
    · rw [if_pos c1]
      exact Or.inl ⟨by show (-10 : Int) ≤ -2; omega, by show (-2 : Int) ≤ -1; omega⟩
    · rw [if_neg c1]
      by_cases c2 : F_ltr (T i) = true
      · rw [if_pos c2]
        have h := R_wd_t (T := T) (i := i) (b := F_wh F_ltr T (n - (i + 1)) (i + 1)) (v := 0)
        exact Or.inl ⟨h.1, h.2.1⟩
      · rw [if_neg c2]
        by_cases c3 : F_dgt (T i) = true
        · rw [if_pos c3]
          refine Or.inl ?_
          show -10 ≤ (if _ then (-1 : Int) else -3) ∧ (if _ then (-1 : Int) else -3) ≤ -1
          split <;> omega
        · rw [if_neg c3]
          show (-10 ≤ (if F_sgn (T i) = true then T i else -1) ∧ (if F_sgn (T i) = true then T i else -1) ≤ -1) ∨ _
          by_cases c4 : F_sgn (T i) = true
          · have h := of_decide_eq_true c4
            simp only [c4, if_true]
            omega
          · simp only [c4]
            exact Or.inl (by show -10 ≤ (if false = true then T i else -1) ∧ (if false = true then T i else -1) ≤ (-1 : Int); rw [if_neg (by decide)]; omega)
theorem L_end {T : Nat → Int} {n : Nat} : L_t T n n = -2 := by
  unfold L_t L_i
  rw [Nat.sub_self, F_wh]
  unfold R_tk
  rw [if_pos (Nat.le_refl n)]
/-- the reader z holds the token behind a, without a fault -/
def q_tok (T : Nat → Int) (n : Nat) (z : q_Z) (a : Nat) : Prop := z.2.1 = L_t T n a ∧ ((L_t T n a = -3 ∨ L_t T n a = -4) → z.2.2.1 = L_v T n a) ∧ z.2.2.2.1 = L_i T n a ∧ z.2.2.2.2.1 = L_b T n a ∧ z.2.2.2.2.2.1 = -1
theorem R_nx_tk {T : Nat → Int} {n a : Nat} {z : q_Z} (h : q_tok T n z a) : q_tok T n (R_nx T n z) (L_b T n a) ∧ (R_nx T n z).1 = z.1 ∧ (R_nx T n z).2.2.2.2.2.2 = z.2.2.2.2.2.2 := by
  obtain ⟨cn, tok, val, fr, bh, ft, C⟩ := z
  obtain ⟨h1, h2, h3, h4, h5⟩ := h
  simp only at h1 h2 h3 h4 h5
  subst h4
  subst h5
  unfold R_nx
  simp only [Int.toNat_natCast]
  rw [if_neg (by omega)]
  have e := R_tk_any (T := T) (n := n) (i := F_wh F_blk T (n - L_b T n a) (L_b T n a)) (v := val) (v' := 0)
  refine ⟨⟨e.1, fun hz => e.2.1 (by rw [e.1]; exact hz), rfl, ?_, rfl⟩, rfl, rfl⟩
  show (((R_tk T n _ val).2.2 : Nat) : Int) = ((L_b T n (L_b T n a) : Nat) : Int)
  rw [e.2.2]
  rfl
/-- with a fault nothing is read any more -/
def q_fs (z : q_Z) : Prop := 0 ≤ z.2.2.2.2.2.1 ∧ z.2.1 = -1
theorem R_fl_fs {z : q_Z} (h : q_fs z) : q_fs (R_fl z) ∧ (R_fl z).2.2.2.2.2.1 = z.2.2.2.2.2.1 := by
  have e : (R_fl z).2.2.2.2.2.1 = z.2.2.2.2.2.1 := if_neg (by have := h.1; omega)
  exact ⟨⟨by rw [e]; exact h.1, rfl⟩, e⟩
theorem R_fl_tk {T : Nat → Int} {n a : Nat} {z : q_Z} (h : q_tok T n z a) : q_fs (R_fl z) ∧ (R_fl z).2.2.2.2.2.1 = L_i T n a := by
  have e : (R_fl z).2.2.2.2.2.1 = L_i T n a := by
    show (if z.2.2.2.2.2.1 < 0 then z.2.2.2.1 else z.2.2.2.2.2.1) = _
    rw [h.2.2.2.2, if_pos (by omega)]
    exact h.2.2.1
  exact ⟨⟨by rw [e]; omega, rfl⟩, e⟩
theorem R_em_fs {o v : Int} {z : q_Z} (h : q_fs z) : q_fs (R_em o v z) ∧ (R_em o v z).2.2.2.2.2.1 = z.2.2.2.2.2.1 := by
  unfold R_em
  split
  · exact ⟨h, rfl⟩
  · exact ⟨h, rfl⟩
theorem R_ex_fs {T : Nat → Int} {n : Nat} {w : Int} {z : q_Z} (hw : w ≠ -1) (h : q_fs z) : q_fs (R_ex T n w z) ∧ (R_ex T n w z).2.2.2.2.2.1 = z.2.2.2.2.2.1 := by
  unfold R_ex
  rw [if_neg (by rw [h.2]; omega)]
  exact R_fl_fs h
/-- what the class's code means to the model -/
def K_c (x : Int) : Int := if x % 16 = 1 then 100000 + x / 16 else if x % 16 = 2 then x / 16 else if x % 16 = 3 then 19 else if x % 16 = 4 then 13 else if x % 16 = 5 then 18 else if x % 16 = 6 then 16 else if x % 16 = 7 then 17 else if x % 16 = 8 then 14 else if x % 16 = 9 then 15 else if x % 16 = 10 then 12 else if x % 16 = 11 then 11 else -7
/-- the code from b on, as the model has it -/
def K_o (b : Nat) (z : q_Z) : List Int := (List.range (z.1.toNat - b)).map (fun i => K_c (z.2.2.2.2.2.2 (b + i)))
theorem K_same {b : Nat} {z z' : q_Z} (h1 : z'.1 = z.1) (h2 : z'.2.2.2.2.2.2 = z.2.2.2.2.2.2) : K_o b z' = K_o b z := by
  unfold K_o
  rw [h1, h2]
theorem R_em_tk {T : Nat → Int} {n a b : Nat} {z : q_Z} {o v : Int} (h : q_tok T n z a) (hb : (b : Int) ≤ z.1) (hc : z.1 < 160) (hv : 0 ≤ v ∧ v ≤ 9999) (ho : 0 ≤ o ∧ o ≤ 15) : q_tok T n (R_em o v z) a ∧ (R_em o v z).1 = z.1 + 1 ∧ (∀ i : Nat, (i : Int) < z.1 → (R_em o v z).2.2.2.2.2.2 i = z.2.2.2.2.2.2 i) ∧ K_o b (R_em o v z) = K_o b z ++ [K_c (16 * v + o)] := by
  obtain ⟨cn, tok, val, fr, bh, ft, C⟩ := z
  simp only at hb hc
  unfold R_em
  simp only
  rw [if_pos hc]
  refine ⟨h, rfl, fun i hi => ?_, ?_⟩
  · have hi : (i : Int) < cn := hi
    exact if_neg (by omega)
  · unfold K_o
    simp only
    obtain ⟨k, hk⟩ : ∃ k : Nat, cn = b + k := ⟨(cn - b).toNat, by omega⟩
    have e1 : (cn + 1).toNat - b = k + 1 := by omega
    have e2 : cn.toNat - b = k := by omega
    have e3 : cn.toNat = b + k := by omega
    rw [e1, e2, e3, List.range_succ, List.map_append]
    congr 1
    · apply List.map_congr_left
      intro i hi
      have hi := List.mem_range.mp hi
      show K_c (F_u C (b + k) _ (b + i)) = _
      unfold F_u
      rw [if_neg (by omega)]
    · show [K_c (F_u C (b + k) _ (b + k))] = _
      unfold F_u
      rw [if_pos rfl, q_code hv.1 (by omega) ho.1 (by omega)]
