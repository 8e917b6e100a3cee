section
/-! THE CLASS'S READER: reading by descent, in numbers; it stays in its bounds -/
def R_fl (z : q_Z) : q_Z := (z.1, -1, z.2.2.1, z.2.2.2.1, z.2.2.2.2.1, if z.2.2.2.2.2.1 < 0 then z.2.2.2.1 else z.2.2.2.2.2.1, z.2.2.2.2.2.2)
def R_ex (T : Nat → Int) (n : Nat) (w : Int) (z : q_Z) : q_Z := if z.2.1 = w then R_nx T n z else R_fl z
def R_em (o v : Int) (z : q_Z) : q_Z := if z.1 < 160 then (z.1 + 1, z.2.1, z.2.2.1, z.2.2.2.1, z.2.2.2.2.1, z.2.2.2.2.2.1, F_u z.2.2.2.2.2.2 z.1.toNat (q_or (q_shl v 4) o)) else z
def R_lp (T : Nat → Int) (n : Nat) (t o : Int) (f : q_Z → q_Z) : Nat → q_Z → q_Z
  | 0, z => z
  | k + 1, z => if z.2.1 = t then R_lp T n t o f k (R_em o 0 (f (R_nx T n z))) else z
def R_ls (T : Nat → Int) (n : Nat) (f : q_Z → q_Z) : Nat → q_Z → q_Z
  | 0, z => z
  | k + 1, z => if z.2.1 = 43 ∨ z.2.1 = 45 then R_ls T n f k (R_em (if z.2.1 = 45 then 7 else 6) 0 (f (R_nx T n z))) else z
def R_te (T : Nat → Int) (n : Nat) (f : q_Z → q_Z) (z : q_Z) : q_Z := R_lp T n 42 5 f 160 (f z)
def R_su (T : Nat → Int) (n : Nat) (f : q_Z → q_Z) (z : q_Z) : q_Z := R_ls T n f 160 (f z)
def R_cp (T : Nat → Int) (n : Nat) (f : q_Z → q_Z) (z : q_Z) : q_Z := if z.2.1 = 60 ∨ z.2.1 = 61 then R_em (if z.2.1 = 60 then 8 else 9) 0 (f (R_nx T n z)) else z
def R_no (T : Nat → Int) (n : Nat) (r0 : Bool) (no su : q_Z → q_Z) (z : q_Z) : q_Z := if z.2.1 = -10 then (if r0 = true then R_fl z else R_em 4 0 (no (R_nx T n z))) else R_cp T n su (su z)
def R_bo (T : Nat → Int) (n : Nat) (f : q_Z → q_Z) (z : q_Z) : q_Z := R_lp T n (-9) 10 f 160 (f z)
def R_ei (T : Nat → Int) (n : Nat) (f : q_Z → q_Z) (z : q_Z) : q_Z := R_lp T n (-8) 11 f 160 (f z)
def R_on (T : Nat → Int) (n : Nat) (r0 : Bool) (on ei : q_Z → q_Z) (z : q_Z) : q_Z :=
  if z.2.1 = -3 ∨ z.2.1 = -4 then R_nx T n (R_em (if z.2.1 = -3 then 1 else 2) z.2.2.1 z)
  else if ¬(z.2.1 = 40 ∨ z.2.1 = 45) ∨ r0 = true then R_fl z
  else if z.2.1 = 45 then R_em 3 0 (on (R_nx T n z)) else R_ex T n 41 (ei (R_nx T n z))
/-- one, not, either, while r more may be opened -/
def R_mk (T : Nat → Int) (n : Nat) (r0 : Bool) (p : (q_Z → q_Z) × (q_Z → q_Z) × (q_Z → q_Z)) : (q_Z → q_Z) × (q_Z → q_Z) × (q_Z → q_Z) :=
  (R_on T n r0 p.1 p.2.2, R_no T n r0 p.2.1 (R_su T n (R_te T n (R_on T n r0 p.1 p.2.2))), R_ei T n (R_bo T n (R_no T n r0 p.2.1 (R_su T n (R_te T n (R_on T n r0 p.1 p.2.2))))))
def R_lv (T : Nat → Int) (n : Nat) : Nat → (q_Z → q_Z) × (q_Z → q_Z) × (q_Z → q_Z)
  | 0 => R_mk T n true (id, id, id)
  | r + 1 => R_mk T n false (R_lv T n r)
/-- one part: its key, the code from here on -/
def R_pt (T : Nat → Int) (n : Nat) (key : Int) (z : q_Z) : q_Z := R_em 0 0 (R_ex T n 59 ((R_lv T n 5).2.2 (R_ex T n key z)))
/-- how a value may stand with a token -/
def q_tv (t v : Int) : Prop := (t = -3 → 0 ≤ v ∧ v ≤ 9999) ∧ (t = -4 → 0 ≤ v ∧ v ≤ 5)
def q_zI (n : Nat) (z : q_Z) : Prop := (0 ≤ z.1 ∧ z.1 ≤ 160) ∧ (0 ≤ z.2.2.2.1 ∧ z.2.2.2.1 ≤ n) ∧ (0 ≤ z.2.2.2.2.1 ∧ z.2.2.2.2.1 ≤ n) ∧ (-1 ≤ z.2.2.2.2.2.1 ∧ z.2.2.2.2.2.1 ≤ n) ∧ q_cod z.2.2.2.2.2.2 z.1.toNat ∧ q_tv z.2.1 z.2.2.1
theorem F_wh_P {P : Int → Bool} {T : Nat → Int} : ∀ j i m : Nat, i ≤ m → m < F_wh P T j i → P (T m) = true
  | 0, i, m, h1, h2 => by rw [F_wh] at h2; omega
  | j + 1, i, m, h1, h2 => by
    rw [F_wh] at h2
    by_cases c : P (T i) = true
    · rw [if_pos c] at h2
      by_cases e : m = i
      · rw [e]; exact c
      · exact F_wh_P j (i + 1) m (by omega) h2
    · rw [if_neg c] at h2
      omega
theorem F_num_le {T : Nat → Int} {i : Nat} (h : ∀ m, i ≤ m → m < i + 4 → 48 ≤ T m ∧ T m ≤ 57) : ∀ k : Nat, k ≤ 4 → 0 ≤ F_num T i k ∧ F_num T i k ≤ (if k = 0 then 0 else if k = 1 then 9 else if k = 2 then 99 else if k = 3 then 999 else 9999)
  | 0, _ => by rw [F_num]; exact ⟨Int.le_refl 0, Int.le_refl 0⟩
  | k + 1, hk => by
    have h1 := F_num_le h k (by omega)
    have h2 := h (i + k) (by omega) (by omega)
    rw [F_num]
    generalize F_num T i k = x at h1 ⊢
    generalize T (i + k) = y at h2 ⊢
    have hx : x ≤ 999 := by
      have := h1.2
      (repeat' split at this) <;> omega
    rw [q_mul_e (by omega) (by omega), q_add_e (by omega) (by omega), q_sub_e (by omega) (by omega)]
    rcases (show k = 0 ∨ k = 1 ∨ k = 2 ∨ k = 3 by omega) with rfl | rfl | rfl | rfl
    · have h3 : x ≤ 0 := h1.2
      exact ⟨by omega, by show _ ≤ (9 : Int); omega⟩
    · have h3 : x ≤ 9 := h1.2
      exact ⟨by omega, by show _ ≤ (99 : Int); omega⟩
    · have h3 : x ≤ 99 := h1.2
      exact ⟨by omega, by show _ ≤ (999 : Int); omega⟩
    · have h3 : x ≤ 999 := h1.2
      exact ⟨by omega, by show _ ≤ (9999 : Int); omega⟩
theorem F_num_9 {T : Nat → Int} {i k : Nat} (hk : k ≤ 4) (h : ∀ m, i ≤ m → m < i + k → 48 ≤ T m ∧ T m ≤ 57) : 0 ≤ F_num T i k ∧ F_num T i k ≤ 9999 := by
  have cong : ∀ (T T' : Nat → Int) (k : Nat), (∀ m, m < k → T (i + m) = T' (i + m)) → F_num T i k = F_num T' i k := by
    intro T T' k
    induction k with
    | zero => intro _; rfl
    | succ k ih =>
      intro h
      rw [F_num, F_num, ih (fun m hm => h m (by omega)), h k (by omega)]
  have e := cong T (fun m => if m < i + k then T m else 48) k (fun m hm => (if_pos (by omega)).symm)
  have h2 := F_num_le (T := fun m => if m < i + k then T m else 48) (i := i) (fun m h1 _ => by
    by_cases c : m < i + k
    · have := h m h1 c
      simp only [c, if_true]
      exact this
    · simp only [c, if_false]
      omega) k hk
  rw [e]
  refine ⟨h2.1, ?_⟩
  have := h2.2
  (repeat' split at this) <;> omega
theorem R_m_tv {T : Nat → Int} {i b j : Nat} {t v : Int} {a : Int × Int} (h : q_tv a.1 a.2) (h2 : q_tv t v) : q_tv (R_m T i b j t v a).1 (R_m T i b j t v a).2 := by
  unfold R_m
  split
  · exact h2
  · exact h
theorem q_tv_l {t v : Int} (h1 : t ≠ -3) (h2 : t = -4 → 0 ≤ v ∧ v ≤ 5) : q_tv t v := ⟨fun z => absurd z h1, h2⟩
theorem q_tv_1 {v : Int} : q_tv (-1) v := q_tv_l (by decide) (fun z => absurd z (by decide))
theorem q_tv_2 {v : Int} : q_tv (-2) v := q_tv_l (by decide) (fun z => absurd z (by decide))
theorem R_wd_tv {T : Nat → Int} {i b : Nat} {v : Int} : q_tv (R_wd T i b v).1 (R_wd T i b v).2 := by
  unfold R_wd
  exact R_m_tv (R_m_tv (R_m_tv (R_m_tv (R_m_tv (R_m_tv (R_m_tv (R_m_tv (R_m_tv (R_m_tv (R_m_tv (R_m_tv q_tv_1 (q_tv_l (by decide) (by intro z; exact absurd z (by decide)))) (q_tv_l (by decide) (by intro z; exact absurd z (by decide)))) (q_tv_l (by decide) (by intro z; exact absurd z (by decide)))) (q_tv_l (by decide) (by intro z; exact absurd z (by decide)))) (q_tv_l (by decide) (by intro z; exact absurd z (by decide)))) (q_tv_l (by decide) (by intro z; exact absurd z (by decide)))) (q_tv_l (by decide) (by intro _; decide))) (q_tv_l (by decide) (by intro _; decide))) (q_tv_l (by decide) (by intro _; decide))) (q_tv_l (by decide) (by intro _; decide))) (q_tv_l (by decide) (by intro _; decide))) (q_tv_l (by decide) (by intro _; decide))
theorem R_tk_ok {T : Nat → Int} {n i : Nat} {v : Int} (hi : i ≤ n) : q_tv (R_tk T n i v).1 (R_tk T n i v).2.1 ∧ i ≤ (R_tk T n i v).2.2 ∧ (R_tk T n i v).2.2 ≤ n := by
  unfold R_tk
  by_cases c1 : n ≤ i
  · rw [if_pos c1]
    exact ⟨q_tv_2, Nat.le_refl _, hi⟩
  · rw [if_neg c1]
    by_cases c2 : F_ltr (T i) = true
    · rw [if_pos c2]
      have h := F_wh_le (P := F_ltr) (T := T) (n - (i + 1)) (i + 1)
      exact ⟨R_wd_tv, by show i ≤ F_wh F_ltr T (n - (i + 1)) (i + 1); omega, by show F_wh F_ltr T (n - (i + 1)) (i + 1) ≤ n; omega⟩
    · rw [if_neg c2]
      by_cases c3 : F_dgt (T i) = true
      · rw [if_pos c3]
        have h := F_wh_le (P := F_dgt) (T := T) (n - i) i
        refine ⟨?_, h.1, by show F_wh F_dgt T (n - i) i ≤ n; omega⟩
        by_cases c4 : i + 4 < F_wh F_dgt T (n - i) i
        · rw [if_pos c4]
          exact q_tv_l (by show (-1 : Int) ≠ -3; decide) (by intro z; exact absurd z (by show (-1 : Int) ≠ -4; decide))
        · rw [if_neg c4]
          refine ⟨fun _ => F_num_9 (by omega) (fun m h1 h2 => of_decide_eq_true (F_wh_P (P := F_dgt) (n - i) i m h1 (by omega))), fun z => absurd z (by show (-3 : Int) ≠ -4; decide)⟩
      · rw [if_neg c3]
        refine ⟨?_, by show i ≤ i + 1; omega, by show i + 1 ≤ n; omega⟩
        by_cases c4 : F_sgn (T i) = true
        · rw [if_pos c4]
          have h := of_decide_eq_true c4
          exact q_tv_l (by show T i ≠ -3; omega) (by intro z; have z : T i = -4 := z; omega)
        · rw [if_neg c4]
          exact q_tv_l (by show (-1 : Int) ≠ -3; decide) (by intro z; exact absurd z (by show (-1 : Int) ≠ -4; decide))
theorem R_nx_I {T : Nat → Int} {n : Nat} {z : q_Z} (h : q_zI n z) : q_zI n (R_nx T n z) := by
  obtain ⟨cn, tok, val, fr, bh, ft, C⟩ := z
  obtain ⟨h1, h2, h3, h4, h5, h6⟩ := h
  simp only at h1 h2 h3 h4 h5 h6
  unfold R_nx
  simp only
  by_cases c : 0 ≤ ft
  · rw [if_pos c]
    exact ⟨h1, h2, h3, h4, h5, h6⟩
  · rw [if_neg c]
    have hw := F_wh_le (P := F_blk) (T := T) (n - bh.toNat) bh.toNat
    have hk := R_tk_ok (T := T) (n := n) (i := F_wh F_blk T (n - bh.toNat) bh.toNat) (v := val) (by omega)
    exact ⟨h1, ⟨by show 0 ≤ ((F_wh F_blk T (n - bh.toNat) bh.toNat : Nat) : Int); omega, by show ((F_wh F_blk T (n - bh.toNat) bh.toNat : Nat) : Int) ≤ n; omega⟩, ⟨by show (0 : Int) ≤ (((R_tk T n (F_wh F_blk T (n - bh.toNat) bh.toNat) val).2.2 : Nat) : Int); omega, by show (((R_tk T n (F_wh F_blk T (n - bh.toNat) bh.toNat) val).2.2 : Nat) : Int) ≤ n; omega⟩, h4, h5, hk.1⟩
theorem R_fl_I {n : Nat} {z : q_Z} (h : q_zI n z) : q_zI n (R_fl z) := by
  obtain ⟨h1, h2, h3, h4, h5, h6⟩ := h
  refine ⟨h1, h2, h3, ?_, h5, q_tv_l (by show (-1 : Int) ≠ -3; decide) (by intro z; exact absurd z (by show (-1 : Int) ≠ -4; decide))⟩
  show -1 ≤ (if z.2.2.2.2.2.1 < 0 then z.2.2.2.1 else z.2.2.2.2.2.1) ∧ (if z.2.2.2.2.2.1 < 0 then z.2.2.2.1 else z.2.2.2.2.2.1) ≤ n
  split <;> omega
theorem R_ex_I {T : Nat → Int} {n : Nat} {w : Int} {z : q_Z} (h : q_zI n z) : q_zI n (R_ex T n w z) := by
  unfold R_ex
  split
  · exact R_nx_I h
  · exact R_fl_I h
theorem R_em_I {n : Nat} {o v : Int} {z : q_Z} (h : q_zI n z) (ho : 0 ≤ o ∧ o ≤ 15) (hv : 0 ≤ v ∧ v ≤ 9999) (h2 : o = 2 → v ≤ 5) : q_zI n (R_em o v z) := by
  obtain ⟨h1, h2', h3, h4, h5, h6⟩ := h
  unfold R_em
  by_cases c : z.1 < 160
  · rw [if_pos c]
    refine ⟨⟨by show 0 ≤ z.1 + 1; omega, by show z.1 + 1 ≤ 160; omega⟩, h2', h3, h4, ?_, h6⟩
    intro i hi
    have hi : i < (z.1 + 1).toNat := hi
    show 0 ≤ F_u z.2.2.2.2.2.2 z.1.toNat (q_or (q_shl v 4) o) i ∧ F_u z.2.2.2.2.2.2 z.1.toNat (q_or (q_shl v 4) o) i < 160000 ∧ (F_u z.2.2.2.2.2.2 z.1.toNat (q_or (q_shl v 4) o) i % 16 = 2 → F_u z.2.2.2.2.2.2 z.1.toNat (q_or (q_shl v 4) o) i / 16 < 6)
    unfold F_u
    by_cases e : i = z.1.toNat
    · rw [if_pos e, q_code hv.1 (by omega) ho.1 (by omega)]
      refine ⟨by omega, by omega, fun q => ?_⟩
      omega
    · rw [if_neg e]
      exact h5 i (by omega)
  · rw [if_neg c]
    exact ⟨h1, h2', h3, h4, h5, h6⟩
theorem R_lp_I {T : Nat → Int} {n : Nat} {t o : Int} {f : q_Z → q_Z} (hf : ∀ z, q_zI n z → q_zI n (f z)) (ho : 0 ≤ o ∧ o ≤ 15) : ∀ (k : Nat) (z : q_Z), q_zI n z → q_zI n (R_lp T n t o f k z)
  | 0, _, h => h
  | k + 1, z, h => by
    rw [R_lp]
    split
    · exact R_lp_I hf ho k _ (R_em_I (hf _ (R_nx_I h)) ho (by omega) (by omega))
    · exact h
theorem R_ls_I {T : Nat → Int} {n : Nat} {f : q_Z → q_Z} (hf : ∀ z, q_zI n z → q_zI n (f z)) : ∀ (k : Nat) (z : q_Z), q_zI n z → q_zI n (R_ls T n f k z)
  | 0, _, h => h
  | k + 1, z, h => by
    rw [R_ls]
    split
    · exact R_ls_I hf k _ (R_em_I (hf _ (R_nx_I h)) (by split <;> omega) (by omega) (by omega))
    · exact h
theorem R_te_I {T : Nat → Int} {n : Nat} {f : q_Z → q_Z} (hf : ∀ z, q_zI n z → q_zI n (f z)) (z : q_Z) (h : q_zI n z) : q_zI n (R_te T n f z) := R_lp_I hf (by omega) 160 _ (hf z h)
theorem R_su_I {T : Nat → Int} {n : Nat} {f : q_Z → q_Z} (hf : ∀ z, q_zI n z → q_zI n (f z)) (z : q_Z) (h : q_zI n z) : q_zI n (R_su T n f z) := R_ls_I hf 160 _ (hf z h)
theorem R_bo_I {T : Nat → Int} {n : Nat} {f : q_Z → q_Z} (hf : ∀ z, q_zI n z → q_zI n (f z)) (z : q_Z) (h : q_zI n z) : q_zI n (R_bo T n f z) := R_lp_I hf (by omega) 160 _ (hf z h)
theorem R_ei_I {T : Nat → Int} {n : Nat} {f : q_Z → q_Z} (hf : ∀ z, q_zI n z → q_zI n (f z)) (z : q_Z) (h : q_zI n z) : q_zI n (R_ei T n f z) := R_lp_I hf (by omega) 160 _ (hf z h)
theorem R_cp_I {T : Nat → Int} {n : Nat} {f : q_Z → q_Z} (hf : ∀ z, q_zI n z → q_zI n (f z)) (z : q_Z) (h : q_zI n z) : q_zI n (R_cp T n f z) := by
  unfold R_cp
  split
  · exact R_em_I (hf _ (R_nx_I h)) (by split <;> omega) (by omega) (by omega)
  · exact h
theorem R_no_I {T : Nat → Int} {n : Nat} {r0 : Bool} {no su : q_Z → q_Z} (h1 : ∀ z, q_zI n z → q_zI n (no z)) (h2 : ∀ z, q_zI n z → q_zI n (su z)) (z : q_Z) (h : q_zI n z) : q_zI n (R_no T n r0 no su z) := by
  unfold R_no
  split
  · split
    · exact R_fl_I h
    · exact R_em_I (h1 _ (R_nx_I h)) (by omega) (by omega) (by omega)
  · exact R_cp_I h2 _ (h2 z h)
theorem R_on_I {T : Nat → Int} {n : Nat} {r0 : Bool} {on ei : q_Z → q_Z} (h1 : ∀ z, q_zI n z → q_zI n (on z)) (h2 : ∀ z, q_zI n z → q_zI n (ei z)) (z : q_Z) (h : q_zI n z) : q_zI n (R_on T n r0 on ei z) := by
  unfold R_on
  split
  · next c =>
    have h6 := h.2.2.2.2.2
    refine R_nx_I (R_em_I h (by split <;> omega) ?_ ?_)
    · rcases c with c | c
      · exact h6.1 c
      · have := h6.2 c
        omega
    · intro e
      rcases c with c | c
      · rw [if_pos c] at e
        exact absurd e (by decide)
      · exact (h6.2 c).2
  · split
    · exact R_fl_I h
    · split
      · exact R_em_I (h1 _ (R_nx_I h)) (by omega) (by omega) (by omega)
      · exact R_ex_I (h2 _ (R_nx_I h))
def q_pI (n : Nat) (p : (q_Z → q_Z) × (q_Z → q_Z) × (q_Z → q_Z)) : Prop := (∀ z, q_zI n z → q_zI n (p.1 z)) ∧ (∀ z, q_zI n z → q_zI n (p.2.1 z)) ∧ (∀ z, q_zI n z → q_zI n (p.2.2 z))
theorem R_mk_I {T : Nat → Int} {n : Nat} {r0 : Bool} {p : (q_Z → q_Z) × (q_Z → q_Z) × (q_Z → q_Z)} (h : q_pI n p) : q_pI n (R_mk T n r0 p) :=
  ⟨R_on_I h.1 h.2.2, R_no_I h.2.1 (R_su_I (R_te_I (R_on_I h.1 h.2.2))), R_ei_I (R_bo_I (R_no_I h.2.1 (R_su_I (R_te_I (R_on_I h.1 h.2.2)))))⟩
theorem R_lv_I {T : Nat → Int} {n : Nat} : ∀ r : Nat, q_pI n (R_lv T n r)
  | 0 => R_mk_I ⟨fun _ h => h, fun _ h => h, fun _ h => h⟩
  | r + 1 => R_mk_I (R_lv_I r)
theorem R_pt_I {T : Nat → Int} {n : Nat} {key : Int} {z : q_Z} (h : q_zI n z) : q_zI n (R_pt T n key z) := R_em_I (R_ex_I ((R_lv_I 5).2.2 _ (R_ex_I h))) (by omega) (by omega) (by omega)
end
section
/-! THE CLASS'S READER: reading by descent, by the machine -/
theorem rz_cn {M : q_M} {z : q_Z} {s : Nat → Int} : q_zM M z s 1 3 = z.1 := rfl
theorem rz_tok {M : q_M} {z : q_Z} {s : Nat → Int} : q_zM M z s 1 5 = z.2.1 := rfl
theorem rz_val {M : q_M} {z : q_Z} {s : Nat → Int} : q_zM M z s 1 6 = z.2.2.1 := rfl
theorem rz_ft {M : q_M} {z : q_Z} {s : Nat → Int} : q_zM M z s 1 9 = z.2.2.2.2.2.1 := rfl
theorem sp_fail {d : Nat} {g : q_G} {M : q_M} {z : q_Z} {s : Nat → Int} {Q : Option q_V → q_G → q_M → Prop} (hq : Q none g (q_zM M (R_fl z) s)) : q_S 1 d 27 [qR 1 1] g (q_zM M z s) Q := by
  obtain ⟨cn, tok, val, fr, bh, ft, C⟩ := z
  unfold R_fl at hq
  simp only at hq
  rw [s_X1_fail]
  by_cases c : ft < 0
  · rw [if_pos c] at hq
    simp (disch := omega) only [b_X1_fail_0, x_loadR_0, x_loadS_0, f_1_9, y_if_ge_t, y_if_ge_f, b_X1_fail_7, f_1_7, p_1_9, b_X1_fail_15, x_iconst, p_1_5, x_vret, q_isL_I, q_isL_R, q_isL_S, true_and, and_true, and_self, List.length_nil, List.length_cons, Nat.zero_add, x_K, x_Kn, Int.reduceToNat, Nat.reduceAdd, Nat.reduceMul, Nat.reduceLeDiff, Nat.reduceLT, Nat.zero_le, Int.reduceAdd, Int.reduceSub, Int.reduceMul, Int.reduceNeg, q_add_e, q_sub_e, q_mul_e, q_neg_e, q_upd_s, q_upd_n, zr_shr0, zr_shr1, zr_shr2, zr_shr3, zr_shr4, zr_and, zr_dyn8, zr_or, zr_shl, q_cpy_n, y_cpy26, rr_ft, rr_fr, ru_ft, ru_tok]
    exact hq
  · rw [if_neg c] at hq
    simp (disch := omega) only [b_X1_fail_0, x_loadR_0, x_loadS_0, f_1_9, y_if_ge_t, y_if_ge_f, b_X1_fail_7, f_1_7, p_1_9, b_X1_fail_15, x_iconst, p_1_5, x_vret, q_isL_I, q_isL_R, q_isL_S, true_and, and_true, and_self, List.length_nil, List.length_cons, Nat.zero_add, x_K, x_Kn, Int.reduceToNat, Nat.reduceAdd, Nat.reduceMul, Nat.reduceLeDiff, Nat.reduceLT, Nat.zero_le, Int.reduceAdd, Int.reduceSub, Int.reduceMul, Int.reduceNeg, q_add_e, q_sub_e, q_mul_e, q_neg_e, q_upd_s, q_upd_n, zr_shr0, zr_shr1, zr_shr2, zr_shr3, zr_shr4, zr_and, zr_dyn8, zr_or, zr_shl, q_cpy_n, y_cpy26, rr_ft, rr_fr, ru_ft, ru_tok]
    exact hq
theorem sp_expect {d n : Nat} {w : Int} {g : q_G} {M : q_M} {z : q_Z} {s : Nat → Int} {Q : Option q_V → q_G → q_M → Prop} (hn : M 1 1 = n) (hn2 : n ≤ 160) (hI : q_zI n z) (hq : Q none g (q_zM M (R_ex (M 2) n w z) s)) : q_S 1 (d + 8) 26 [qR 1 1, qI w] g (q_zM M z s) Q := by
  have nx : ∀ (nx : Nat) (ops : List Instr) (ls st : List q_V), q_T 1 (d + 8) qP_X1_expect nx ops ls st g (q_zM M (R_nx (M 2) n z) s) Q → q_S 1 (d + 7) 35 [qR 1 1] g (q_zM M z s) (q_K 1 (d + 8) qP_X1_expect nx ops ls st Q) := fun nx ops ls st h => sp_next hn hn2 hI.2.2.1.1 hI.2.2.1.2 h
  have fl : ∀ (nx : Nat) (ops : List Instr) (ls st : List q_V), q_T 1 (d + 8) qP_X1_expect nx ops ls st g (q_zM M (R_fl z) s) Q → q_S 1 (d + 7) 27 [qR 1 1] g (q_zM M z s) (q_K 1 (d + 8) qP_X1_expect nx ops ls st Q) := fun nx ops ls st h => sp_fail h
  unfold R_ex at hq
  rw [s_X1_expect]
  by_cases c : z.2.1 = w
  · rw [if_pos c] at hq
    simp (disch := omega) only [b_X1_expect_0, x_loadR_0, x_loadS_0, f_1_5, x_loadI_1, y_ic_ne_t, y_ic_ne_f, b_X1_expect_8, x_goto, b_X1_expect_15, b_X1_expect_19, x_vret, q_isL_I, q_isL_R, q_isL_S, true_and, and_true, and_self, List.length_nil, List.length_cons, Nat.zero_add, x_K, x_Kn, Int.reduceToNat, Nat.reduceAdd, Nat.reduceMul, Nat.reduceLeDiff, Nat.reduceLT, Nat.zero_le, Int.reduceAdd, Int.reduceSub, Int.reduceMul, Int.reduceNeg, q_add_e, q_sub_e, q_mul_e, q_neg_e, q_upd_s, q_upd_n, zr_shr0, zr_shr1, zr_shr2, zr_shr3, zr_shr4, zr_and, zr_dyn8, zr_or, zr_shl, q_cpy_n, y_cpy26, rz_tok, c_X1_next]
    refine nx _ _ _ _ ?_
    simp (disch := omega) only [b_X1_expect_0, x_loadR_0, x_loadS_0, f_1_5, x_loadI_1, y_ic_ne_t, y_ic_ne_f, b_X1_expect_8, x_goto, b_X1_expect_15, b_X1_expect_19, x_vret, q_isL_I, q_isL_R, q_isL_S, true_and, and_true, and_self, List.length_nil, List.length_cons, Nat.zero_add, x_K, x_Kn, Int.reduceToNat, Nat.reduceAdd, Nat.reduceMul, Nat.reduceLeDiff, Nat.reduceLT, Nat.zero_le, Int.reduceAdd, Int.reduceSub, Int.reduceMul, Int.reduceNeg, q_add_e, q_sub_e, q_mul_e, q_neg_e, q_upd_s, q_upd_n, zr_shr0, zr_shr1, zr_shr2, zr_shr3, zr_shr4, zr_and, zr_dyn8, zr_or, zr_shl, q_cpy_n, y_cpy26]
    exact hq
  · rw [if_neg c] at hq
    simp (disch := omega) only [b_X1_expect_0, x_loadR_0, x_loadS_0, f_1_5, x_loadI_1, y_ic_ne_t, y_ic_ne_f, b_X1_expect_8, x_goto, b_X1_expect_15, b_X1_expect_19, x_vret, q_isL_I, q_isL_R, q_isL_S, true_and, and_true, and_self, List.length_nil, List.length_cons, Nat.zero_add, x_K, x_Kn, Int.reduceToNat, Nat.reduceAdd, Nat.reduceMul, Nat.reduceLeDiff, Nat.reduceLT, Nat.zero_le, Int.reduceAdd, Int.reduceSub, Int.reduceMul, Int.reduceNeg, q_add_e, q_sub_e, q_mul_e, q_neg_e, q_upd_s, q_upd_n, zr_shr0, zr_shr1, zr_shr2, zr_shr3, zr_shr4, zr_and, zr_dyn8, zr_or, zr_shl, q_cpy_n, y_cpy26, rz_tok, c_X1_fail]
    refine fl _ _ _ _ ?_
    simp (disch := omega) only [b_X1_expect_0, x_loadR_0, x_loadS_0, f_1_5, x_loadI_1, y_ic_ne_t, y_ic_ne_f, b_X1_expect_8, x_goto, b_X1_expect_15, b_X1_expect_19, x_vret, q_isL_I, q_isL_R, q_isL_S, true_and, and_true, and_self, List.length_nil, List.length_cons, Nat.zero_add, x_K, x_Kn, Int.reduceToNat, Nat.reduceAdd, Nat.reduceMul, Nat.reduceLeDiff, Nat.reduceLT, Nat.zero_le, Int.reduceAdd, Int.reduceSub, Int.reduceMul, Int.reduceNeg, q_add_e, q_sub_e, q_mul_e, q_neg_e, q_upd_s, q_upd_n, zr_shr0, zr_shr1, zr_shr2, zr_shr3, zr_shr4, zr_and, zr_dyn8, zr_or, zr_shl, q_cpy_n, y_cpy26]
    exact hq
theorem sp_emit {d n : Nat} {o v : Int} {g : q_G} {M : q_M} {z : q_Z} {s : Nat → Int} {Q : Option q_V → q_G → q_M → Prop} (hI : q_zI n z) (hq : Q none g (q_zM M (R_em o v z) s)) : q_S 1 d 28 [qR 1 1, qI o, qI v] g (q_zM M z s) Q := by
  have h0 := hI.1
  obtain ⟨cn, tok, val, fr, bh, ft, C⟩ := z
  simp only at h0
  unfold R_em at hq
  simp only at hq
  rw [s_X1_emit]
  by_cases c : cn < 160
  · rw [if_pos c] at hq
    simp (disch := omega) only [b_X1_emit_0, x_loadR_0, x_loadS_0, f_1_3, f_1_2, x_alen_10, y_alen_180, y_ic_ge_t, y_ic_ge_f, b_X1_emit_12, x_loadI_2, x_iconst, x_ishl, x_loadI_1, x_ior, y_iast_180, x_dupI, x_dupR, x_iadd, p_1_3, b_X1_emit_36, x_vret, q_isL_I, q_isL_R, q_isL_S, true_and, and_true, and_self, List.length_nil, List.length_cons, Nat.zero_add, x_K, x_Kn, Int.reduceToNat, Nat.reduceAdd, Nat.reduceMul, Nat.reduceLeDiff, Nat.reduceLT, Nat.zero_le, Int.reduceAdd, Int.reduceSub, Int.reduceMul, Int.reduceNeg, q_add_e, q_sub_e, q_mul_e, q_neg_e, q_upd_s, q_upd_n, zr_shr0, zr_shr1, zr_shr2, zr_shr3, zr_shr4, zr_and, zr_dyn8, zr_or, zr_shl, q_cpy_n, y_cpy26, rr_cn, ru_C, ru_cn]
    exact hq
  · rw [if_neg c] at hq
    simp (disch := omega) only [b_X1_emit_0, x_loadR_0, x_loadS_0, f_1_3, f_1_2, x_alen_10, y_alen_180, y_ic_ge_t, y_ic_ge_f, b_X1_emit_12, x_loadI_2, x_iconst, x_ishl, x_loadI_1, x_ior, y_iast_180, x_dupI, x_dupR, x_iadd, p_1_3, b_X1_emit_36, x_vret, q_isL_I, q_isL_R, q_isL_S, true_and, and_true, and_self, List.length_nil, List.length_cons, Nat.zero_add, x_K, x_Kn, Int.reduceToNat, Nat.reduceAdd, Nat.reduceMul, Nat.reduceLeDiff, Nat.reduceLT, Nat.zero_le, Int.reduceAdd, Int.reduceSub, Int.reduceMul, Int.reduceNeg, q_add_e, q_sub_e, q_mul_e, q_neg_e, q_upd_s, q_upd_n, zr_shr0, zr_shr1, zr_shr2, zr_shr3, zr_shr4, zr_and, zr_dyn8, zr_or, zr_shl, q_cpy_n, y_cpy26, rr_cn]
    exact hq
set_option maxHeartbeats 4000000 in
theorem sp_term {D n : Nat} {o : Int} {g : q_G} {M : q_M} {f : q_Z → q_Z} (hn : M 1 1 = n) (hn2 : n ≤ 160) (hI : ∀ z, q_zI n z → q_zI n (f z)) (hf : ∀ (z : q_Z) (s : Nat → Int) (Q : Option q_V → q_G → q_M → Prop), q_zI n z → Q none g (q_zM M (f z) s) → q_S 1 (D + 8) 34 [qR 1 1, qI o] g (q_zM M z s) Q) (z : q_Z) (s : Nat → Int) (Q : Option q_V → q_G → q_M → Prop) (hz : q_zI n z) (hq : Q none g (q_zM M (R_te (M 2) n f z) s)) : q_S 1 (D + 9) 33 [qR 1 1, qI o] g (q_zM M z s) Q := by
  have fc : ∀ (z : q_Z) (nx : Nat) (ops : List Instr) (ls st : List q_V), q_zI n z → q_T 1 (D + 9) qP_X1_term nx ops ls st g (q_zM M (f z) s) Q → q_S 1 (D + 8) 34 [qR 1 1, qI o] g (q_zM M z s) (q_K 1 (D + 9) qP_X1_term nx ops ls st Q) := fun z nx ops ls st hz h => hf z s _ hz h
  have nc : ∀ (z : q_Z) (nx : Nat) (ops : List Instr) (ls st : List q_V), q_zI n z → q_T 1 (D + 9) qP_X1_term nx ops ls st g (q_zM M (R_nx (M 2) n z) s) Q → q_S 1 (D + 8) 35 [qR 1 1] g (q_zM M z s) (q_K 1 (D + 9) qP_X1_term nx ops ls st Q) := fun z nx ops ls st hz h => sp_next hn hn2 hz.2.2.1.1 hz.2.2.1.2 h
  have ec : ∀ (z : q_Z) (a b : Int) (nx : Nat) (ops : List Instr) (ls st : List q_V), q_zI n z → q_T 1 (D + 9) qP_X1_term nx ops ls st g (q_zM M (R_em a b z) s) Q → q_S 1 (D + 8) 28 [qR 1 1, qI a, qI b] g (q_zM M z s) (q_K 1 (D + 9) qP_X1_term nx ops ls st Q) := fun z a b nx ops ls st hz h => sp_emit hz h
  have loop : ∀ k i : Nat, i + k = 160 → ∀ z : q_Z, q_zI n z → Q none g (q_zM M (R_lp (M 2) n (42) 5 f k z) s) → q_T 1 (D + 9) qP_X1_term 7 [] [qR 1 1, qI o, qI i] [] g (q_zM M z s) Q := by
    intro k
    induction k with
    | zero =>
      intro i hi z hz hq
      rw [R_lp] at hq
      rw [b_X1_term_7]
      by_cases c : z.2.1 = 42
      · simp (disch := omega) only [b_X1_term_0, x_loadR_0, x_loadS_0, x_loadI_1, x_iconst, x_storeI_2, f_1_5, y_ic_ne_t, y_ic_ne_f, b_X1_term_16, x_loadI_2, y_ic_ge_t, y_ic_ge_f, b_X1_term_23, x_iinc_2, x_goto, b_X1_term_44, x_vret, q_isL_I, q_isL_R, q_isL_S, true_and, and_true, and_self, List.length_nil, List.length_cons, Nat.zero_add, x_K, x_Kn, Int.reduceToNat, Nat.reduceAdd, Nat.reduceMul, Nat.reduceLeDiff, Nat.reduceLT, Nat.zero_le, Int.reduceAdd, Int.reduceSub, Int.reduceMul, Int.reduceNeg, q_add_e, q_sub_e, q_mul_e, q_neg_e, q_upd_s, q_upd_n, zr_shr0, zr_shr1, zr_shr2, zr_shr3, zr_shr4, zr_and, zr_dyn8, zr_or, zr_shl, q_cpy_n, y_cpy26, rz_tok]
        exact hq
      · simp (disch := omega) only [b_X1_term_0, x_loadR_0, x_loadS_0, x_loadI_1, x_iconst, x_storeI_2, f_1_5, y_ic_ne_t, y_ic_ne_f, b_X1_term_16, x_loadI_2, y_ic_ge_t, y_ic_ge_f, b_X1_term_23, x_iinc_2, x_goto, b_X1_term_44, x_vret, q_isL_I, q_isL_R, q_isL_S, true_and, and_true, and_self, List.length_nil, List.length_cons, Nat.zero_add, x_K, x_Kn, Int.reduceToNat, Nat.reduceAdd, Nat.reduceMul, Nat.reduceLeDiff, Nat.reduceLT, Nat.zero_le, Int.reduceAdd, Int.reduceSub, Int.reduceMul, Int.reduceNeg, q_add_e, q_sub_e, q_mul_e, q_neg_e, q_upd_s, q_upd_n, zr_shr0, zr_shr1, zr_shr2, zr_shr3, zr_shr4, zr_and, zr_dyn8, zr_or, zr_shl, q_cpy_n, y_cpy26, rz_tok]
        exact hq
    | succ k ih =>
      intro i hi z hz hq
      rw [R_lp] at hq
      rw [b_X1_term_7]
      by_cases c : z.2.1 = 42
      · rw [if_pos c] at hq
        have z1 := R_nx_I (T := M 2) hz
        have z2 := hI _ z1
        simp (disch := omega) only [b_X1_term_0, x_loadR_0, x_loadS_0, x_loadI_1, x_iconst, x_storeI_2, f_1_5, y_ic_ne_t, y_ic_ne_f, b_X1_term_16, x_loadI_2, y_ic_ge_t, y_ic_ge_f, b_X1_term_23, x_iinc_2, x_goto, b_X1_term_44, x_vret, q_isL_I, q_isL_R, q_isL_S, true_and, and_true, and_self, List.length_nil, List.length_cons, Nat.zero_add, x_K, x_Kn, Int.reduceToNat, Nat.reduceAdd, Nat.reduceMul, Nat.reduceLeDiff, Nat.reduceLT, Nat.zero_le, Int.reduceAdd, Int.reduceSub, Int.reduceMul, Int.reduceNeg, q_add_e, q_sub_e, q_mul_e, q_neg_e, q_upd_s, q_upd_n, zr_shr0, zr_shr1, zr_shr2, zr_shr3, zr_shr4, zr_and, zr_dyn8, zr_or, zr_shl, q_cpy_n, y_cpy26, rz_tok, c_X1_next]
        refine nc z _ _ _ _ hz ?_
        simp (disch := omega) only [b_X1_term_0, x_loadR_0, x_loadS_0, x_loadI_1, x_iconst, x_storeI_2, f_1_5, y_ic_ne_t, y_ic_ne_f, b_X1_term_16, x_loadI_2, y_ic_ge_t, y_ic_ge_f, b_X1_term_23, x_iinc_2, x_goto, b_X1_term_44, x_vret, q_isL_I, q_isL_R, q_isL_S, true_and, and_true, and_self, List.length_nil, List.length_cons, Nat.zero_add, x_K, x_Kn, Int.reduceToNat, Nat.reduceAdd, Nat.reduceMul, Nat.reduceLeDiff, Nat.reduceLT, Nat.zero_le, Int.reduceAdd, Int.reduceSub, Int.reduceMul, Int.reduceNeg, q_add_e, q_sub_e, q_mul_e, q_neg_e, q_upd_s, q_upd_n, zr_shr0, zr_shr1, zr_shr2, zr_shr3, zr_shr4, zr_and, zr_dyn8, zr_or, zr_shl, q_cpy_n, y_cpy26, c_X1_one]
        refine fc _ _ _ _ _ z1 ?_
        simp (disch := omega) only [b_X1_term_0, x_loadR_0, x_loadS_0, x_loadI_1, x_iconst, x_storeI_2, f_1_5, y_ic_ne_t, y_ic_ne_f, b_X1_term_16, x_loadI_2, y_ic_ge_t, y_ic_ge_f, b_X1_term_23, x_iinc_2, x_goto, b_X1_term_44, x_vret, q_isL_I, q_isL_R, q_isL_S, true_and, and_true, and_self, List.length_nil, List.length_cons, Nat.zero_add, x_K, x_Kn, Int.reduceToNat, Nat.reduceAdd, Nat.reduceMul, Nat.reduceLeDiff, Nat.reduceLT, Nat.zero_le, Int.reduceAdd, Int.reduceSub, Int.reduceMul, Int.reduceNeg, q_add_e, q_sub_e, q_mul_e, q_neg_e, q_upd_s, q_upd_n, zr_shr0, zr_shr1, zr_shr2, zr_shr3, zr_shr4, zr_and, zr_dyn8, zr_or, zr_shl, q_cpy_n, y_cpy26, c_X1_emit]
        refine ec _ _ _ _ _ _ _ z2 ?_
        simp (disch := omega) only [b_X1_term_0, x_loadR_0, x_loadS_0, x_loadI_1, x_iconst, x_storeI_2, f_1_5, y_ic_ne_t, y_ic_ne_f, b_X1_term_16, x_loadI_2, y_ic_ge_t, y_ic_ge_f, b_X1_term_23, x_iinc_2, x_goto, b_X1_term_44, x_vret, q_isL_I, q_isL_R, q_isL_S, true_and, and_true, and_self, List.length_nil, List.length_cons, Nat.zero_add, x_K, x_Kn, Int.reduceToNat, Nat.reduceAdd, Nat.reduceMul, Nat.reduceLeDiff, Nat.reduceLT, Nat.zero_le, Int.reduceAdd, Int.reduceSub, Int.reduceMul, Int.reduceNeg, q_add_e, q_sub_e, q_mul_e, q_neg_e, q_upd_s, q_upd_n, zr_shr0, zr_shr1, zr_shr2, zr_shr3, zr_shr4, zr_and, zr_dyn8, zr_or, zr_shl, q_cpy_n, y_cpy26]
        exact ih (i + 1) (by omega) _ (R_em_I z2 (by omega) (by omega) (by omega)) hq
      · rw [if_neg c] at hq
        simp (disch := omega) only [b_X1_term_0, x_loadR_0, x_loadS_0, x_loadI_1, x_iconst, x_storeI_2, f_1_5, y_ic_ne_t, y_ic_ne_f, b_X1_term_16, x_loadI_2, y_ic_ge_t, y_ic_ge_f, b_X1_term_23, x_iinc_2, x_goto, b_X1_term_44, x_vret, q_isL_I, q_isL_R, q_isL_S, true_and, and_true, and_self, List.length_nil, List.length_cons, Nat.zero_add, x_K, x_Kn, Int.reduceToNat, Nat.reduceAdd, Nat.reduceMul, Nat.reduceLeDiff, Nat.reduceLT, Nat.zero_le, Int.reduceAdd, Int.reduceSub, Int.reduceMul, Int.reduceNeg, q_add_e, q_sub_e, q_mul_e, q_neg_e, q_upd_s, q_upd_n, zr_shr0, zr_shr1, zr_shr2, zr_shr3, zr_shr4, zr_and, zr_dyn8, zr_or, zr_shl, q_cpy_n, y_cpy26, rz_tok]
        exact hq
  rw [s_X1_term]
  simp (disch := omega) only [b_X1_term_0, x_loadR_0, x_loadS_0, x_loadI_1, x_iconst, x_storeI_2, f_1_5, y_ic_ne_t, y_ic_ne_f, b_X1_term_16, x_loadI_2, y_ic_ge_t, y_ic_ge_f, b_X1_term_23, x_iinc_2, x_goto, b_X1_term_44, x_vret, q_isL_I, q_isL_R, q_isL_S, true_and, and_true, and_self, List.length_nil, List.length_cons, Nat.zero_add, x_K, x_Kn, Int.reduceToNat, Nat.reduceAdd, Nat.reduceMul, Nat.reduceLeDiff, Nat.reduceLT, Nat.zero_le, Int.reduceAdd, Int.reduceSub, Int.reduceMul, Int.reduceNeg, q_add_e, q_sub_e, q_mul_e, q_neg_e, q_upd_s, q_upd_n, zr_shr0, zr_shr1, zr_shr2, zr_shr3, zr_shr4, zr_and, zr_dyn8, zr_or, zr_shl, q_cpy_n, y_cpy26, c_X1_one]
  refine fc z _ _ _ _ hz ?_
  simp (disch := omega) only [b_X1_term_0, x_loadR_0, x_loadS_0, x_loadI_1, x_iconst, x_storeI_2, f_1_5, y_ic_ne_t, y_ic_ne_f, b_X1_term_16, x_loadI_2, y_ic_ge_t, y_ic_ge_f, b_X1_term_23, x_iinc_2, x_goto, b_X1_term_44, x_vret, q_isL_I, q_isL_R, q_isL_S, true_and, and_true, and_self, List.length_nil, List.length_cons, Nat.zero_add, x_K, x_Kn, Int.reduceToNat, Nat.reduceAdd, Nat.reduceMul, Nat.reduceLeDiff, Nat.reduceLT, Nat.zero_le, Int.reduceAdd, Int.reduceSub, Int.reduceMul, Int.reduceNeg, q_add_e, q_sub_e, q_mul_e, q_neg_e, q_upd_s, q_upd_n, zr_shr0, zr_shr1, zr_shr2, zr_shr3, zr_shr4, zr_and, zr_dyn8, zr_or, zr_shl, q_cpy_n, y_cpy26]
  exact loop 160 0 rfl _ (hI z hz) hq
set_option maxHeartbeats 4000000 in
theorem sp_both {D n : Nat} {o : Int} {g : q_G} {M : q_M} {f : q_Z → q_Z} (hn : M 1 1 = n) (hn2 : n ≤ 160) (hI : ∀ z, q_zI n z → q_zI n (f z)) (hf : ∀ (z : q_Z) (s : Nat → Int) (Q : Option q_V → q_G → q_M → Prop), q_zI n z → Q none g (q_zM M (f z) s) → q_S 1 (D + 8) 31 [qR 1 1, qI o] g (q_zM M z s) Q) (z : q_Z) (s : Nat → Int) (Q : Option q_V → q_G → q_M → Prop) (hz : q_zI n z) (hq : Q none g (q_zM M (R_bo (M 2) n f z) s)) : q_S 1 (D + 9) 30 [qR 1 1, qI o] g (q_zM M z s) Q := by
  have fc : ∀ (z : q_Z) (nx : Nat) (ops : List Instr) (ls st : List q_V), q_zI n z → q_T 1 (D + 9) qP_X1_both nx ops ls st g (q_zM M (f z) s) Q → q_S 1 (D + 8) 31 [qR 1 1, qI o] g (q_zM M z s) (q_K 1 (D + 9) qP_X1_both nx ops ls st Q) := fun z nx ops ls st hz h => hf z s _ hz h
  have nc : ∀ (z : q_Z) (nx : Nat) (ops : List Instr) (ls st : List q_V), q_zI n z → q_T 1 (D + 9) qP_X1_both nx ops ls st g (q_zM M (R_nx (M 2) n z) s) Q → q_S 1 (D + 8) 35 [qR 1 1] g (q_zM M z s) (q_K 1 (D + 9) qP_X1_both nx ops ls st Q) := fun z nx ops ls st hz h => sp_next hn hn2 hz.2.2.1.1 hz.2.2.1.2 h
  have ec : ∀ (z : q_Z) (a b : Int) (nx : Nat) (ops : List Instr) (ls st : List q_V), q_zI n z → q_T 1 (D + 9) qP_X1_both nx ops ls st g (q_zM M (R_em a b z) s) Q → q_S 1 (D + 8) 28 [qR 1 1, qI a, qI b] g (q_zM M z s) (q_K 1 (D + 9) qP_X1_both nx ops ls st Q) := fun z a b nx ops ls st hz h => sp_emit hz h
  have loop : ∀ k i : Nat, i + k = 160 → ∀ z : q_Z, q_zI n z → Q none g (q_zM M (R_lp (M 2) n (-9) 10 f k z) s) → q_T 1 (D + 9) qP_X1_both 7 [] [qR 1 1, qI o, qI i] [] g (q_zM M z s) Q := by
    intro k
    induction k with
    | zero =>
      intro i hi z hz hq
      rw [R_lp] at hq
      rw [b_X1_both_7]
      by_cases c : z.2.1 = -9
      · simp (disch := omega) only [b_X1_both_0, x_loadR_0, x_loadS_0, x_loadI_1, x_iconst, x_storeI_2, f_1_5, y_ic_ne_t, y_ic_ne_f, b_X1_both_16, x_loadI_2, y_ic_ge_t, y_ic_ge_f, b_X1_both_23, x_iinc_2, x_goto, b_X1_both_45, x_vret, q_isL_I, q_isL_R, q_isL_S, true_and, and_true, and_self, List.length_nil, List.length_cons, Nat.zero_add, x_K, x_Kn, Int.reduceToNat, Nat.reduceAdd, Nat.reduceMul, Nat.reduceLeDiff, Nat.reduceLT, Nat.zero_le, Int.reduceAdd, Int.reduceSub, Int.reduceMul, Int.reduceNeg, q_add_e, q_sub_e, q_mul_e, q_neg_e, q_upd_s, q_upd_n, zr_shr0, zr_shr1, zr_shr2, zr_shr3, zr_shr4, zr_and, zr_dyn8, zr_or, zr_shl, q_cpy_n, y_cpy26, rz_tok]
        exact hq
      · simp (disch := omega) only [b_X1_both_0, x_loadR_0, x_loadS_0, x_loadI_1, x_iconst, x_storeI_2, f_1_5, y_ic_ne_t, y_ic_ne_f, b_X1_both_16, x_loadI_2, y_ic_ge_t, y_ic_ge_f, b_X1_both_23, x_iinc_2, x_goto, b_X1_both_45, x_vret, q_isL_I, q_isL_R, q_isL_S, true_and, and_true, and_self, List.length_nil, List.length_cons, Nat.zero_add, x_K, x_Kn, Int.reduceToNat, Nat.reduceAdd, Nat.reduceMul, Nat.reduceLeDiff, Nat.reduceLT, Nat.zero_le, Int.reduceAdd, Int.reduceSub, Int.reduceMul, Int.reduceNeg, q_add_e, q_sub_e, q_mul_e, q_neg_e, q_upd_s, q_upd_n, zr_shr0, zr_shr1, zr_shr2, zr_shr3, zr_shr4, zr_and, zr_dyn8, zr_or, zr_shl, q_cpy_n, y_cpy26, rz_tok]
        exact hq
    | succ k ih =>
      intro i hi z hz hq
      rw [R_lp] at hq
      rw [b_X1_both_7]
      by_cases c : z.2.1 = -9
      · rw [if_pos c] at hq
        have z1 := R_nx_I (T := M 2) hz
        have z2 := hI _ z1
        simp (disch := omega) only [b_X1_both_0, x_loadR_0, x_loadS_0, x_loadI_1, x_iconst, x_storeI_2, f_1_5, y_ic_ne_t, y_ic_ne_f, b_X1_both_16, x_loadI_2, y_ic_ge_t, y_ic_ge_f, b_X1_both_23, x_iinc_2, x_goto, b_X1_both_45, x_vret, q_isL_I, q_isL_R, q_isL_S, true_and, and_true, and_self, List.length_nil, List.length_cons, Nat.zero_add, x_K, x_Kn, Int.reduceToNat, Nat.reduceAdd, Nat.reduceMul, Nat.reduceLeDiff, Nat.reduceLT, Nat.zero_le, Int.reduceAdd, Int.reduceSub, Int.reduceMul, Int.reduceNeg, q_add_e, q_sub_e, q_mul_e, q_neg_e, q_upd_s, q_upd_n, zr_shr0, zr_shr1, zr_shr2, zr_shr3, zr_shr4, zr_and, zr_dyn8, zr_or, zr_shl, q_cpy_n, y_cpy26, rz_tok, c_X1_next]
        refine nc z _ _ _ _ hz ?_
        simp (disch := omega) only [b_X1_both_0, x_loadR_0, x_loadS_0, x_loadI_1, x_iconst, x_storeI_2, f_1_5, y_ic_ne_t, y_ic_ne_f, b_X1_both_16, x_loadI_2, y_ic_ge_t, y_ic_ge_f, b_X1_both_23, x_iinc_2, x_goto, b_X1_both_45, x_vret, q_isL_I, q_isL_R, q_isL_S, true_and, and_true, and_self, List.length_nil, List.length_cons, Nat.zero_add, x_K, x_Kn, Int.reduceToNat, Nat.reduceAdd, Nat.reduceMul, Nat.reduceLeDiff, Nat.reduceLT, Nat.zero_le, Int.reduceAdd, Int.reduceSub, Int.reduceMul, Int.reduceNeg, q_add_e, q_sub_e, q_mul_e, q_neg_e, q_upd_s, q_upd_n, zr_shr0, zr_shr1, zr_shr2, zr_shr3, zr_shr4, zr_and, zr_dyn8, zr_or, zr_shl, q_cpy_n, y_cpy26, c_X1_not]
        refine fc _ _ _ _ _ z1 ?_
        simp (disch := omega) only [b_X1_both_0, x_loadR_0, x_loadS_0, x_loadI_1, x_iconst, x_storeI_2, f_1_5, y_ic_ne_t, y_ic_ne_f, b_X1_both_16, x_loadI_2, y_ic_ge_t, y_ic_ge_f, b_X1_both_23, x_iinc_2, x_goto, b_X1_both_45, x_vret, q_isL_I, q_isL_R, q_isL_S, true_and, and_true, and_self, List.length_nil, List.length_cons, Nat.zero_add, x_K, x_Kn, Int.reduceToNat, Nat.reduceAdd, Nat.reduceMul, Nat.reduceLeDiff, Nat.reduceLT, Nat.zero_le, Int.reduceAdd, Int.reduceSub, Int.reduceMul, Int.reduceNeg, q_add_e, q_sub_e, q_mul_e, q_neg_e, q_upd_s, q_upd_n, zr_shr0, zr_shr1, zr_shr2, zr_shr3, zr_shr4, zr_and, zr_dyn8, zr_or, zr_shl, q_cpy_n, y_cpy26, c_X1_emit]
        refine ec _ _ _ _ _ _ _ z2 ?_
        simp (disch := omega) only [b_X1_both_0, x_loadR_0, x_loadS_0, x_loadI_1, x_iconst, x_storeI_2, f_1_5, y_ic_ne_t, y_ic_ne_f, b_X1_both_16, x_loadI_2, y_ic_ge_t, y_ic_ge_f, b_X1_both_23, x_iinc_2, x_goto, b_X1_both_45, x_vret, q_isL_I, q_isL_R, q_isL_S, true_and, and_true, and_self, List.length_nil, List.length_cons, Nat.zero_add, x_K, x_Kn, Int.reduceToNat, Nat.reduceAdd, Nat.reduceMul, Nat.reduceLeDiff, Nat.reduceLT, Nat.zero_le, Int.reduceAdd, Int.reduceSub, Int.reduceMul, Int.reduceNeg, q_add_e, q_sub_e, q_mul_e, q_neg_e, q_upd_s, q_upd_n, zr_shr0, zr_shr1, zr_shr2, zr_shr3, zr_shr4, zr_and, zr_dyn8, zr_or, zr_shl, q_cpy_n, y_cpy26]
        exact ih (i + 1) (by omega) _ (R_em_I z2 (by omega) (by omega) (by omega)) hq
      · rw [if_neg c] at hq
        simp (disch := omega) only [b_X1_both_0, x_loadR_0, x_loadS_0, x_loadI_1, x_iconst, x_storeI_2, f_1_5, y_ic_ne_t, y_ic_ne_f, b_X1_both_16, x_loadI_2, y_ic_ge_t, y_ic_ge_f, b_X1_both_23, x_iinc_2, x_goto, b_X1_both_45, x_vret, q_isL_I, q_isL_R, q_isL_S, true_and, and_true, and_self, List.length_nil, List.length_cons, Nat.zero_add, x_K, x_Kn, Int.reduceToNat, Nat.reduceAdd, Nat.reduceMul, Nat.reduceLeDiff, Nat.reduceLT, Nat.zero_le, Int.reduceAdd, Int.reduceSub, Int.reduceMul, Int.reduceNeg, q_add_e, q_sub_e, q_mul_e, q_neg_e, q_upd_s, q_upd_n, zr_shr0, zr_shr1, zr_shr2, zr_shr3, zr_shr4, zr_and, zr_dyn8, zr_or, zr_shl, q_cpy_n, y_cpy26, rz_tok]
        exact hq
  rw [s_X1_both]
  simp (disch := omega) only [b_X1_both_0, x_loadR_0, x_loadS_0, x_loadI_1, x_iconst, x_storeI_2, f_1_5, y_ic_ne_t, y_ic_ne_f, b_X1_both_16, x_loadI_2, y_ic_ge_t, y_ic_ge_f, b_X1_both_23, x_iinc_2, x_goto, b_X1_both_45, x_vret, q_isL_I, q_isL_R, q_isL_S, true_and, and_true, and_self, List.length_nil, List.length_cons, Nat.zero_add, x_K, x_Kn, Int.reduceToNat, Nat.reduceAdd, Nat.reduceMul, Nat.reduceLeDiff, Nat.reduceLT, Nat.zero_le, Int.reduceAdd, Int.reduceSub, Int.reduceMul, Int.reduceNeg, q_add_e, q_sub_e, q_mul_e, q_neg_e, q_upd_s, q_upd_n, zr_shr0, zr_shr1, zr_shr2, zr_shr3, zr_shr4, zr_and, zr_dyn8, zr_or, zr_shl, q_cpy_n, y_cpy26, c_X1_not]
  refine fc z _ _ _ _ hz ?_
  simp (disch := omega) only [b_X1_both_0, x_loadR_0, x_loadS_0, x_loadI_1, x_iconst, x_storeI_2, f_1_5, y_ic_ne_t, y_ic_ne_f, b_X1_both_16, x_loadI_2, y_ic_ge_t, y_ic_ge_f, b_X1_both_23, x_iinc_2, x_goto, b_X1_both_45, x_vret, q_isL_I, q_isL_R, q_isL_S, true_and, and_true, and_self, List.length_nil, List.length_cons, Nat.zero_add, x_K, x_Kn, Int.reduceToNat, Nat.reduceAdd, Nat.reduceMul, Nat.reduceLeDiff, Nat.reduceLT, Nat.zero_le, Int.reduceAdd, Int.reduceSub, Int.reduceMul, Int.reduceNeg, q_add_e, q_sub_e, q_mul_e, q_neg_e, q_upd_s, q_upd_n, zr_shr0, zr_shr1, zr_shr2, zr_shr3, zr_shr4, zr_and, zr_dyn8, zr_or, zr_shl, q_cpy_n, y_cpy26]
  exact loop 160 0 rfl _ (hI z hz) hq
set_option maxHeartbeats 4000000 in
theorem sp_either {D n : Nat} {o : Int} {g : q_G} {M : q_M} {f : q_Z → q_Z} (hn : M 1 1 = n) (hn2 : n ≤ 160) (hI : ∀ z, q_zI n z → q_zI n (f z)) (hf : ∀ (z : q_Z) (s : Nat → Int) (Q : Option q_V → q_G → q_M → Prop), q_zI n z → Q none g (q_zM M (f z) s) → q_S 1 (D + 8) 30 [qR 1 1, qI o] g (q_zM M z s) Q) (z : q_Z) (s : Nat → Int) (Q : Option q_V → q_G → q_M → Prop) (hz : q_zI n z) (hq : Q none g (q_zM M (R_ei (M 2) n f z) s)) : q_S 1 (D + 9) 29 [qR 1 1, qI o] g (q_zM M z s) Q := by
  have fc : ∀ (z : q_Z) (nx : Nat) (ops : List Instr) (ls st : List q_V), q_zI n z → q_T 1 (D + 9) qP_X1_either nx ops ls st g (q_zM M (f z) s) Q → q_S 1 (D + 8) 30 [qR 1 1, qI o] g (q_zM M z s) (q_K 1 (D + 9) qP_X1_either nx ops ls st Q) := fun z nx ops ls st hz h => hf z s _ hz h
  have nc : ∀ (z : q_Z) (nx : Nat) (ops : List Instr) (ls st : List q_V), q_zI n z → q_T 1 (D + 9) qP_X1_either nx ops ls st g (q_zM M (R_nx (M 2) n z) s) Q → q_S 1 (D + 8) 35 [qR 1 1] g (q_zM M z s) (q_K 1 (D + 9) qP_X1_either nx ops ls st Q) := fun z nx ops ls st hz h => sp_next hn hn2 hz.2.2.1.1 hz.2.2.1.2 h
  have ec : ∀ (z : q_Z) (a b : Int) (nx : Nat) (ops : List Instr) (ls st : List q_V), q_zI n z → q_T 1 (D + 9) qP_X1_either nx ops ls st g (q_zM M (R_em a b z) s) Q → q_S 1 (D + 8) 28 [qR 1 1, qI a, qI b] g (q_zM M z s) (q_K 1 (D + 9) qP_X1_either nx ops ls st Q) := fun z a b nx ops ls st hz h => sp_emit hz h
  have loop : ∀ k i : Nat, i + k = 160 → ∀ z : q_Z, q_zI n z → Q none g (q_zM M (R_lp (M 2) n (-8) 11 f k z) s) → q_T 1 (D + 9) qP_X1_either 7 [] [qR 1 1, qI o, qI i] [] g (q_zM M z s) Q := by
    intro k
    induction k with
    | zero =>
      intro i hi z hz hq
      rw [R_lp] at hq
      rw [b_X1_either_7]
      by_cases c : z.2.1 = -8
      · simp (disch := omega) only [b_X1_either_0, x_loadR_0, x_loadS_0, x_loadI_1, x_iconst, x_storeI_2, f_1_5, y_ic_ne_t, y_ic_ne_f, b_X1_either_16, x_loadI_2, y_ic_ge_t, y_ic_ge_f, b_X1_either_23, x_iinc_2, x_goto, b_X1_either_45, x_vret, q_isL_I, q_isL_R, q_isL_S, true_and, and_true, and_self, List.length_nil, List.length_cons, Nat.zero_add, x_K, x_Kn, Int.reduceToNat, Nat.reduceAdd, Nat.reduceMul, Nat.reduceLeDiff, Nat.reduceLT, Nat.zero_le, Int.reduceAdd, Int.reduceSub, Int.reduceMul, Int.reduceNeg, q_add_e, q_sub_e, q_mul_e, q_neg_e, q_upd_s, q_upd_n, zr_shr0, zr_shr1, zr_shr2, zr_shr3, zr_shr4, zr_and, zr_dyn8, zr_or, zr_shl, q_cpy_n, y_cpy26, rz_tok]
        exact hq
      · simp (disch := omega) only [b_X1_either_0, x_loadR_0, x_loadS_0, x_loadI_1, x_iconst, x_storeI_2, f_1_5, y_ic_ne_t, y_ic_ne_f, b_X1_either_16, x_loadI_2, y_ic_ge_t, y_ic_ge_f, b_X1_either_23, x_iinc_2, x_goto, b_X1_either_45, x_vret, q_isL_I, q_isL_R, q_isL_S, true_and, and_true, and_self, List.length_nil, List.length_cons, Nat.zero_add, x_K, x_Kn, Int.reduceToNat, Nat.reduceAdd, Nat.reduceMul, Nat.reduceLeDiff, Nat.reduceLT, Nat.zero_le, Int.reduceAdd, Int.reduceSub, Int.reduceMul, Int.reduceNeg, q_add_e, q_sub_e, q_mul_e, q_neg_e, q_upd_s, q_upd_n, zr_shr0, zr_shr1, zr_shr2, zr_shr3, zr_shr4, zr_and, zr_dyn8, zr_or, zr_shl, q_cpy_n, y_cpy26, rz_tok]
        exact hq
    | succ k ih =>
      intro i hi z hz hq
      rw [R_lp] at hq
      rw [b_X1_either_7]
      by_cases c : z.2.1 = -8
      · rw [if_pos c] at hq
        have z1 := R_nx_I (T := M 2) hz
        have z2 := hI _ z1
        simp (disch := omega) only [b_X1_either_0, x_loadR_0, x_loadS_0, x_loadI_1, x_iconst, x_storeI_2, f_1_5, y_ic_ne_t, y_ic_ne_f, b_X1_either_16, x_loadI_2, y_ic_ge_t, y_ic_ge_f, b_X1_either_23, x_iinc_2, x_goto, b_X1_either_45, x_vret, q_isL_I, q_isL_R, q_isL_S, true_and, and_true, and_self, List.length_nil, List.length_cons, Nat.zero_add, x_K, x_Kn, Int.reduceToNat, Nat.reduceAdd, Nat.reduceMul, Nat.reduceLeDiff, Nat.reduceLT, Nat.zero_le, Int.reduceAdd, Int.reduceSub, Int.reduceMul, Int.reduceNeg, q_add_e, q_sub_e, q_mul_e, q_neg_e, q_upd_s, q_upd_n, zr_shr0, zr_shr1, zr_shr2, zr_shr3, zr_shr4, zr_and, zr_dyn8, zr_or, zr_shl, q_cpy_n, y_cpy26, rz_tok, c_X1_next]
        refine nc z _ _ _ _ hz ?_
        simp (disch := omega) only [b_X1_either_0, x_loadR_0, x_loadS_0, x_loadI_1, x_iconst, x_storeI_2, f_1_5, y_ic_ne_t, y_ic_ne_f, b_X1_either_16, x_loadI_2, y_ic_ge_t, y_ic_ge_f, b_X1_either_23, x_iinc_2, x_goto, b_X1_either_45, x_vret, q_isL_I, q_isL_R, q_isL_S, true_and, and_true, and_self, List.length_nil, List.length_cons, Nat.zero_add, x_K, x_Kn, Int.reduceToNat, Nat.reduceAdd, Nat.reduceMul, Nat.reduceLeDiff, Nat.reduceLT, Nat.zero_le, Int.reduceAdd, Int.reduceSub, Int.reduceMul, Int.reduceNeg, q_add_e, q_sub_e, q_mul_e, q_neg_e, q_upd_s, q_upd_n, zr_shr0, zr_shr1, zr_shr2, zr_shr3, zr_shr4, zr_and, zr_dyn8, zr_or, zr_shl, q_cpy_n, y_cpy26, c_X1_both]
        refine fc _ _ _ _ _ z1 ?_
        simp (disch := omega) only [b_X1_either_0, x_loadR_0, x_loadS_0, x_loadI_1, x_iconst, x_storeI_2, f_1_5, y_ic_ne_t, y_ic_ne_f, b_X1_either_16, x_loadI_2, y_ic_ge_t, y_ic_ge_f, b_X1_either_23, x_iinc_2, x_goto, b_X1_either_45, x_vret, q_isL_I, q_isL_R, q_isL_S, true_and, and_true, and_self, List.length_nil, List.length_cons, Nat.zero_add, x_K, x_Kn, Int.reduceToNat, Nat.reduceAdd, Nat.reduceMul, Nat.reduceLeDiff, Nat.reduceLT, Nat.zero_le, Int.reduceAdd, Int.reduceSub, Int.reduceMul, Int.reduceNeg, q_add_e, q_sub_e, q_mul_e, q_neg_e, q_upd_s, q_upd_n, zr_shr0, zr_shr1, zr_shr2, zr_shr3, zr_shr4, zr_and, zr_dyn8, zr_or, zr_shl, q_cpy_n, y_cpy26, c_X1_emit]
        refine ec _ _ _ _ _ _ _ z2 ?_
        simp (disch := omega) only [b_X1_either_0, x_loadR_0, x_loadS_0, x_loadI_1, x_iconst, x_storeI_2, f_1_5, y_ic_ne_t, y_ic_ne_f, b_X1_either_16, x_loadI_2, y_ic_ge_t, y_ic_ge_f, b_X1_either_23, x_iinc_2, x_goto, b_X1_either_45, x_vret, q_isL_I, q_isL_R, q_isL_S, true_and, and_true, and_self, List.length_nil, List.length_cons, Nat.zero_add, x_K, x_Kn, Int.reduceToNat, Nat.reduceAdd, Nat.reduceMul, Nat.reduceLeDiff, Nat.reduceLT, Nat.zero_le, Int.reduceAdd, Int.reduceSub, Int.reduceMul, Int.reduceNeg, q_add_e, q_sub_e, q_mul_e, q_neg_e, q_upd_s, q_upd_n, zr_shr0, zr_shr1, zr_shr2, zr_shr3, zr_shr4, zr_and, zr_dyn8, zr_or, zr_shl, q_cpy_n, y_cpy26]
        exact ih (i + 1) (by omega) _ (R_em_I z2 (by omega) (by omega) (by omega)) hq
      · rw [if_neg c] at hq
        simp (disch := omega) only [b_X1_either_0, x_loadR_0, x_loadS_0, x_loadI_1, x_iconst, x_storeI_2, f_1_5, y_ic_ne_t, y_ic_ne_f, b_X1_either_16, x_loadI_2, y_ic_ge_t, y_ic_ge_f, b_X1_either_23, x_iinc_2, x_goto, b_X1_either_45, x_vret, q_isL_I, q_isL_R, q_isL_S, true_and, and_true, and_self, List.length_nil, List.length_cons, Nat.zero_add, x_K, x_Kn, Int.reduceToNat, Nat.reduceAdd, Nat.reduceMul, Nat.reduceLeDiff, Nat.reduceLT, Nat.zero_le, Int.reduceAdd, Int.reduceSub, Int.reduceMul, Int.reduceNeg, q_add_e, q_sub_e, q_mul_e, q_neg_e, q_upd_s, q_upd_n, zr_shr0, zr_shr1, zr_shr2, zr_shr3, zr_shr4, zr_and, zr_dyn8, zr_or, zr_shl, q_cpy_n, y_cpy26, rz_tok]
        exact hq
  rw [s_X1_either]
  simp (disch := omega) only [b_X1_either_0, x_loadR_0, x_loadS_0, x_loadI_1, x_iconst, x_storeI_2, f_1_5, y_ic_ne_t, y_ic_ne_f, b_X1_either_16, x_loadI_2, y_ic_ge_t, y_ic_ge_f, b_X1_either_23, x_iinc_2, x_goto, b_X1_either_45, x_vret, q_isL_I, q_isL_R, q_isL_S, true_and, and_true, and_self, List.length_nil, List.length_cons, Nat.zero_add, x_K, x_Kn, Int.reduceToNat, Nat.reduceAdd, Nat.reduceMul, Nat.reduceLeDiff, Nat.reduceLT, Nat.zero_le, Int.reduceAdd, Int.reduceSub, Int.reduceMul, Int.reduceNeg, q_add_e, q_sub_e, q_mul_e, q_neg_e, q_upd_s, q_upd_n, zr_shr0, zr_shr1, zr_shr2, zr_shr3, zr_shr4, zr_and, zr_dyn8, zr_or, zr_shl, q_cpy_n, y_cpy26, c_X1_both]
  refine fc z _ _ _ _ hz ?_
  simp (disch := omega) only [b_X1_either_0, x_loadR_0, x_loadS_0, x_loadI_1, x_iconst, x_storeI_2, f_1_5, y_ic_ne_t, y_ic_ne_f, b_X1_either_16, x_loadI_2, y_ic_ge_t, y_ic_ge_f, b_X1_either_23, x_iinc_2, x_goto, b_X1_either_45, x_vret, q_isL_I, q_isL_R, q_isL_S, true_and, and_true, and_self, List.length_nil, List.length_cons, Nat.zero_add, x_K, x_Kn, Int.reduceToNat, Nat.reduceAdd, Nat.reduceMul, Nat.reduceLeDiff, Nat.reduceLT, Nat.zero_le, Int.reduceAdd, Int.reduceSub, Int.reduceMul, Int.reduceNeg, q_add_e, q_sub_e, q_mul_e, q_neg_e, q_upd_s, q_upd_n, zr_shr0, zr_shr1, zr_shr2, zr_shr3, zr_shr4, zr_and, zr_dyn8, zr_or, zr_shl, q_cpy_n, y_cpy26]
  exact loop 160 0 rfl _ (hI z hz) hq
set_option maxHeartbeats 4000000 in
theorem sp_sum {D n : Nat} {o : Int} {g : q_G} {M : q_M} {f : q_Z → q_Z} (hn : M 1 1 = n) (hn2 : n ≤ 160) (hI : ∀ z, q_zI n z → q_zI n (f z)) (hf : ∀ (z : q_Z) (s : Nat → Int) (Q : Option q_V → q_G → q_M → Prop), q_zI n z → Q none g (q_zM M (f z) s) → q_S 1 (D + 8) 33 [qR 1 1, qI o] g (q_zM M z s) Q) (z : q_Z) (s : Nat → Int) (Q : Option q_V → q_G → q_M → Prop) (hz : q_zI n z) (hq : Q none g (q_zM M (R_su (M 2) n f z) s)) : q_S 1 (D + 9) 32 [qR 1 1, qI o] g (q_zM M z s) Q := by
  have fc : ∀ (z : q_Z) (nx : Nat) (ops : List Instr) (ls st : List q_V), q_zI n z → q_T 1 (D + 9) qP_X1_sum nx ops ls st g (q_zM M (f z) s) Q → q_S 1 (D + 8) 33 [qR 1 1, qI o] g (q_zM M z s) (q_K 1 (D + 9) qP_X1_sum nx ops ls st Q) := fun z nx ops ls st hz h => hf z s _ hz h
  have nc : ∀ (z : q_Z) (nx : Nat) (ops : List Instr) (ls st : List q_V), q_zI n z → q_T 1 (D + 9) qP_X1_sum nx ops ls st g (q_zM M (R_nx (M 2) n z) s) Q → q_S 1 (D + 8) 35 [qR 1 1] g (q_zM M z s) (q_K 1 (D + 9) qP_X1_sum nx ops ls st Q) := fun z nx ops ls st hz h => sp_next hn hn2 hz.2.2.1.1 hz.2.2.1.2 h
  have ec : ∀ (z : q_Z) (a b : Int) (nx : Nat) (ops : List Instr) (ls st : List q_V), q_zI n z → q_T 1 (D + 9) qP_X1_sum nx ops ls st g (q_zM M (R_em a b z) s) Q → q_S 1 (D + 8) 28 [qR 1 1, qI a, qI b] g (q_zM M z s) (q_K 1 (D + 9) qP_X1_sum nx ops ls st Q) := fun z a b nx ops ls st hz h => sp_emit hz h
  have loop : ∀ k i : Nat, i + k = 160 → ∀ (z : q_Z) (l3 : q_V), q_isL l3 = false → q_zI n z → Q none g (q_zM M (R_ls (M 2) n f k z) s) → q_T 1 (D + 9) qP_X1_sum 7 [] [qR 1 1, qI o, qI i, l3] [] g (q_zM M z s) Q := by
    intro k
    induction k with
    | zero =>
      intro i hi z l3 hl3 hz hq
      rw [R_ls] at hq
      rw [b_X1_sum_7]
      by_cases c : z.2.1 = 43
      · simp (disch := omega) only [b_X1_sum_0, x_loadR_0, x_loadS_0, x_loadI_1, x_iconst, x_storeI_2, f_1_5, y_ic_eq_t, y_ic_eq_f, b_X1_sum_16, y_ic_ne_t, y_ic_ne_f, b_X1_sum_25, x_loadI_2, y_ic_ge_t, y_ic_ge_f, b_X1_sum_32, b_X1_sum_41, x_goto, b_X1_sum_46, b_X1_sum_48, x_storeI_3, x_loadI_3, x_iinc_2, b_X1_sum_70, x_vret, q_isL_I, q_isL_R, q_isL_S, true_and, and_true, and_self, List.length_nil, List.length_cons, Nat.zero_add, x_K, x_Kn, Int.reduceToNat, Nat.reduceAdd, Nat.reduceMul, Nat.reduceLeDiff, Nat.reduceLT, Nat.zero_le, Int.reduceAdd, Int.reduceSub, Int.reduceMul, Int.reduceNeg, q_add_e, q_sub_e, q_mul_e, q_neg_e, q_upd_s, q_upd_n, zr_shr0, zr_shr1, zr_shr2, zr_shr3, zr_shr4, zr_and, zr_dyn8, zr_or, zr_shl, q_cpy_n, y_cpy26, rz_tok]
        exact hq
      · by_cases c2 : z.2.1 = 45
        · simp (disch := omega) only [b_X1_sum_0, x_loadR_0, x_loadS_0, x_loadI_1, x_iconst, x_storeI_2, f_1_5, y_ic_eq_t, y_ic_eq_f, b_X1_sum_16, y_ic_ne_t, y_ic_ne_f, b_X1_sum_25, x_loadI_2, y_ic_ge_t, y_ic_ge_f, b_X1_sum_32, b_X1_sum_41, x_goto, b_X1_sum_46, b_X1_sum_48, x_storeI_3, x_loadI_3, x_iinc_2, b_X1_sum_70, x_vret, q_isL_I, q_isL_R, q_isL_S, true_and, and_true, and_self, List.length_nil, List.length_cons, Nat.zero_add, x_K, x_Kn, Int.reduceToNat, Nat.reduceAdd, Nat.reduceMul, Nat.reduceLeDiff, Nat.reduceLT, Nat.zero_le, Int.reduceAdd, Int.reduceSub, Int.reduceMul, Int.reduceNeg, q_add_e, q_sub_e, q_mul_e, q_neg_e, q_upd_s, q_upd_n, zr_shr0, zr_shr1, zr_shr2, zr_shr3, zr_shr4, zr_and, zr_dyn8, zr_or, zr_shl, q_cpy_n, y_cpy26, rz_tok]
          exact hq
        · simp (disch := omega) only [b_X1_sum_0, x_loadR_0, x_loadS_0, x_loadI_1, x_iconst, x_storeI_2, f_1_5, y_ic_eq_t, y_ic_eq_f, b_X1_sum_16, y_ic_ne_t, y_ic_ne_f, b_X1_sum_25, x_loadI_2, y_ic_ge_t, y_ic_ge_f, b_X1_sum_32, b_X1_sum_41, x_goto, b_X1_sum_46, b_X1_sum_48, x_storeI_3, x_loadI_3, x_iinc_2, b_X1_sum_70, x_vret, q_isL_I, q_isL_R, q_isL_S, true_and, and_true, and_self, List.length_nil, List.length_cons, Nat.zero_add, x_K, x_Kn, Int.reduceToNat, Nat.reduceAdd, Nat.reduceMul, Nat.reduceLeDiff, Nat.reduceLT, Nat.zero_le, Int.reduceAdd, Int.reduceSub, Int.reduceMul, Int.reduceNeg, q_add_e, q_sub_e, q_mul_e, q_neg_e, q_upd_s, q_upd_n, zr_shr0, zr_shr1, zr_shr2, zr_shr3, zr_shr4, zr_and, zr_dyn8, zr_or, zr_shl, q_cpy_n, y_cpy26, rz_tok]
          exact hq
    | succ k ih =>
      intro i hi z l3 hl3 hz hq
      have z1 := R_nx_I (T := M 2) hz
      have z2 := hI _ z1
      rw [R_ls] at hq
      rw [b_X1_sum_7]
      by_cases c : z.2.1 = 43
      · rw [if_pos (Or.inl c), if_neg (by omega)] at hq
        simp (disch := omega) only [b_X1_sum_0, x_loadR_0, x_loadS_0, x_loadI_1, x_iconst, x_storeI_2, f_1_5, y_ic_eq_t, y_ic_eq_f, b_X1_sum_16, y_ic_ne_t, y_ic_ne_f, b_X1_sum_25, x_loadI_2, y_ic_ge_t, y_ic_ge_f, b_X1_sum_32, b_X1_sum_41, x_goto, b_X1_sum_46, b_X1_sum_48, x_storeI_3, x_loadI_3, x_iinc_2, b_X1_sum_70, x_vret, q_isL_I, q_isL_R, q_isL_S, true_and, and_true, and_self, List.length_nil, List.length_cons, Nat.zero_add, x_K, x_Kn, Int.reduceToNat, Nat.reduceAdd, Nat.reduceMul, Nat.reduceLeDiff, Nat.reduceLT, Nat.zero_le, Int.reduceAdd, Int.reduceSub, Int.reduceMul, Int.reduceNeg, q_add_e, q_sub_e, q_mul_e, q_neg_e, q_upd_s, q_upd_n, zr_shr0, zr_shr1, zr_shr2, zr_shr3, zr_shr4, zr_and, zr_dyn8, zr_or, zr_shl, q_cpy_n, y_cpy26, rz_tok, hl3, c_X1_next]
        refine nc z _ _ _ _ hz ?_
        simp (disch := omega) only [b_X1_sum_0, x_loadR_0, x_loadS_0, x_loadI_1, x_iconst, x_storeI_2, f_1_5, y_ic_eq_t, y_ic_eq_f, b_X1_sum_16, y_ic_ne_t, y_ic_ne_f, b_X1_sum_25, x_loadI_2, y_ic_ge_t, y_ic_ge_f, b_X1_sum_32, b_X1_sum_41, x_goto, b_X1_sum_46, b_X1_sum_48, x_storeI_3, x_loadI_3, x_iinc_2, b_X1_sum_70, x_vret, q_isL_I, q_isL_R, q_isL_S, true_and, and_true, and_self, List.length_nil, List.length_cons, Nat.zero_add, x_K, x_Kn, Int.reduceToNat, Nat.reduceAdd, Nat.reduceMul, Nat.reduceLeDiff, Nat.reduceLT, Nat.zero_le, Int.reduceAdd, Int.reduceSub, Int.reduceMul, Int.reduceNeg, q_add_e, q_sub_e, q_mul_e, q_neg_e, q_upd_s, q_upd_n, zr_shr0, zr_shr1, zr_shr2, zr_shr3, zr_shr4, zr_and, zr_dyn8, zr_or, zr_shl, q_cpy_n, y_cpy26, c_X1_term]
        refine fc _ _ _ _ _ z1 ?_
        simp (disch := omega) only [b_X1_sum_0, x_loadR_0, x_loadS_0, x_loadI_1, x_iconst, x_storeI_2, f_1_5, y_ic_eq_t, y_ic_eq_f, b_X1_sum_16, y_ic_ne_t, y_ic_ne_f, b_X1_sum_25, x_loadI_2, y_ic_ge_t, y_ic_ge_f, b_X1_sum_32, b_X1_sum_41, x_goto, b_X1_sum_46, b_X1_sum_48, x_storeI_3, x_loadI_3, x_iinc_2, b_X1_sum_70, x_vret, q_isL_I, q_isL_R, q_isL_S, true_and, and_true, and_self, List.length_nil, List.length_cons, Nat.zero_add, x_K, x_Kn, Int.reduceToNat, Nat.reduceAdd, Nat.reduceMul, Nat.reduceLeDiff, Nat.reduceLT, Nat.zero_le, Int.reduceAdd, Int.reduceSub, Int.reduceMul, Int.reduceNeg, q_add_e, q_sub_e, q_mul_e, q_neg_e, q_upd_s, q_upd_n, zr_shr0, zr_shr1, zr_shr2, zr_shr3, zr_shr4, zr_and, zr_dyn8, zr_or, zr_shl, q_cpy_n, y_cpy26, c_X1_emit]
        refine ec _ _ _ _ _ _ _ z2 ?_
        simp (disch := omega) only [b_X1_sum_0, x_loadR_0, x_loadS_0, x_loadI_1, x_iconst, x_storeI_2, f_1_5, y_ic_eq_t, y_ic_eq_f, b_X1_sum_16, y_ic_ne_t, y_ic_ne_f, b_X1_sum_25, x_loadI_2, y_ic_ge_t, y_ic_ge_f, b_X1_sum_32, b_X1_sum_41, x_goto, b_X1_sum_46, b_X1_sum_48, x_storeI_3, x_loadI_3, x_iinc_2, b_X1_sum_70, x_vret, q_isL_I, q_isL_R, q_isL_S, true_and, and_true, and_self, List.length_nil, List.length_cons, Nat.zero_add, x_K, x_Kn, Int.reduceToNat, Nat.reduceAdd, Nat.reduceMul, Nat.reduceLeDiff, Nat.reduceLT, Nat.zero_le, Int.reduceAdd, Int.reduceSub, Int.reduceMul, Int.reduceNeg, q_add_e, q_sub_e, q_mul_e, q_neg_e, q_upd_s, q_upd_n, zr_shr0, zr_shr1, zr_shr2, zr_shr3, zr_shr4, zr_and, zr_dyn8, zr_or, zr_shl, q_cpy_n, y_cpy26]
        exact ih (i + 1) (by omega) _ _ rfl (R_em_I z2 (by omega) (by omega) (by omega)) hq
      · by_cases c2 : z.2.1 = 45
        · rw [if_pos (Or.inr c2), if_pos c2] at hq
          simp (disch := omega) only [b_X1_sum_0, x_loadR_0, x_loadS_0, x_loadI_1, x_iconst, x_storeI_2, f_1_5, y_ic_eq_t, y_ic_eq_f, b_X1_sum_16, y_ic_ne_t, y_ic_ne_f, b_X1_sum_25, x_loadI_2, y_ic_ge_t, y_ic_ge_f, b_X1_sum_32, b_X1_sum_41, x_goto, b_X1_sum_46, b_X1_sum_48, x_storeI_3, x_loadI_3, x_iinc_2, b_X1_sum_70, x_vret, q_isL_I, q_isL_R, q_isL_S, true_and, and_true, and_self, List.length_nil, List.length_cons, Nat.zero_add, x_K, x_Kn, Int.reduceToNat, Nat.reduceAdd, Nat.reduceMul, Nat.reduceLeDiff, Nat.reduceLT, Nat.zero_le, Int.reduceAdd, Int.reduceSub, Int.reduceMul, Int.reduceNeg, q_add_e, q_sub_e, q_mul_e, q_neg_e, q_upd_s, q_upd_n, zr_shr0, zr_shr1, zr_shr2, zr_shr3, zr_shr4, zr_and, zr_dyn8, zr_or, zr_shl, q_cpy_n, y_cpy26, rz_tok, hl3, c_X1_next]
          refine nc z _ _ _ _ hz ?_
          simp (disch := omega) only [b_X1_sum_0, x_loadR_0, x_loadS_0, x_loadI_1, x_iconst, x_storeI_2, f_1_5, y_ic_eq_t, y_ic_eq_f, b_X1_sum_16, y_ic_ne_t, y_ic_ne_f, b_X1_sum_25, x_loadI_2, y_ic_ge_t, y_ic_ge_f, b_X1_sum_32, b_X1_sum_41, x_goto, b_X1_sum_46, b_X1_sum_48, x_storeI_3, x_loadI_3, x_iinc_2, b_X1_sum_70, x_vret, q_isL_I, q_isL_R, q_isL_S, true_and, and_true, and_self, List.length_nil, List.length_cons, Nat.zero_add, x_K, x_Kn, Int.reduceToNat, Nat.reduceAdd, Nat.reduceMul, Nat.reduceLeDiff, Nat.reduceLT, Nat.zero_le, Int.reduceAdd, Int.reduceSub, Int.reduceMul, Int.reduceNeg, q_add_e, q_sub_e, q_mul_e, q_neg_e, q_upd_s, q_upd_n, zr_shr0, zr_shr1, zr_shr2, zr_shr3, zr_shr4, zr_and, zr_dyn8, zr_or, zr_shl, q_cpy_n, y_cpy26, c_X1_term]
          refine fc _ _ _ _ _ z1 ?_
          simp (disch := omega) only [b_X1_sum_0, x_loadR_0, x_loadS_0, x_loadI_1, x_iconst, x_storeI_2, f_1_5, y_ic_eq_t, y_ic_eq_f, b_X1_sum_16, y_ic_ne_t, y_ic_ne_f, b_X1_sum_25, x_loadI_2, y_ic_ge_t, y_ic_ge_f, b_X1_sum_32, b_X1_sum_41, x_goto, b_X1_sum_46, b_X1_sum_48, x_storeI_3, x_loadI_3, x_iinc_2, b_X1_sum_70, x_vret, q_isL_I, q_isL_R, q_isL_S, true_and, and_true, and_self, List.length_nil, List.length_cons, Nat.zero_add, x_K, x_Kn, Int.reduceToNat, Nat.reduceAdd, Nat.reduceMul, Nat.reduceLeDiff, Nat.reduceLT, Nat.zero_le, Int.reduceAdd, Int.reduceSub, Int.reduceMul, Int.reduceNeg, q_add_e, q_sub_e, q_mul_e, q_neg_e, q_upd_s, q_upd_n, zr_shr0, zr_shr1, zr_shr2, zr_shr3, zr_shr4, zr_and, zr_dyn8, zr_or, zr_shl, q_cpy_n, y_cpy26, c_X1_emit]
          refine ec _ _ _ _ _ _ _ z2 ?_
          simp (disch := omega) only [b_X1_sum_0, x_loadR_0, x_loadS_0, x_loadI_1, x_iconst, x_storeI_2, f_1_5, y_ic_eq_t, y_ic_eq_f, b_X1_sum_16, y_ic_ne_t, y_ic_ne_f, b_X1_sum_25, x_loadI_2, y_ic_ge_t, y_ic_ge_f, b_X1_sum_32, b_X1_sum_41, x_goto, b_X1_sum_46, b_X1_sum_48, x_storeI_3, x_loadI_3, x_iinc_2, b_X1_sum_70, x_vret, q_isL_I, q_isL_R, q_isL_S, true_and, and_true, and_self, List.length_nil, List.length_cons, Nat.zero_add, x_K, x_Kn, Int.reduceToNat, Nat.reduceAdd, Nat.reduceMul, Nat.reduceLeDiff, Nat.reduceLT, Nat.zero_le, Int.reduceAdd, Int.reduceSub, Int.reduceMul, Int.reduceNeg, q_add_e, q_sub_e, q_mul_e, q_neg_e, q_upd_s, q_upd_n, zr_shr0, zr_shr1, zr_shr2, zr_shr3, zr_shr4, zr_and, zr_dyn8, zr_or, zr_shl, q_cpy_n, y_cpy26]
          exact ih (i + 1) (by omega) _ _ rfl (R_em_I z2 (by omega) (by omega) (by omega)) hq
        · rw [if_neg (fun q => q.elim c c2)] at hq
          simp (disch := omega) only [b_X1_sum_0, x_loadR_0, x_loadS_0, x_loadI_1, x_iconst, x_storeI_2, f_1_5, y_ic_eq_t, y_ic_eq_f, b_X1_sum_16, y_ic_ne_t, y_ic_ne_f, b_X1_sum_25, x_loadI_2, y_ic_ge_t, y_ic_ge_f, b_X1_sum_32, b_X1_sum_41, x_goto, b_X1_sum_46, b_X1_sum_48, x_storeI_3, x_loadI_3, x_iinc_2, b_X1_sum_70, x_vret, q_isL_I, q_isL_R, q_isL_S, true_and, and_true, and_self, List.length_nil, List.length_cons, Nat.zero_add, x_K, x_Kn, Int.reduceToNat, Nat.reduceAdd, Nat.reduceMul, Nat.reduceLeDiff, Nat.reduceLT, Nat.zero_le, Int.reduceAdd, Int.reduceSub, Int.reduceMul, Int.reduceNeg, q_add_e, q_sub_e, q_mul_e, q_neg_e, q_upd_s, q_upd_n, zr_shr0, zr_shr1, zr_shr2, zr_shr3, zr_shr4, zr_and, zr_dyn8, zr_or, zr_shl, q_cpy_n, y_cpy26, rz_tok]
          exact hq
  rw [s_X1_sum]
  simp (disch := omega) only [b_X1_sum_0, x_loadR_0, x_loadS_0, x_loadI_1, x_iconst, x_storeI_2, f_1_5, y_ic_eq_t, y_ic_eq_f, b_X1_sum_16, y_ic_ne_t, y_ic_ne_f, b_X1_sum_25, x_loadI_2, y_ic_ge_t, y_ic_ge_f, b_X1_sum_32, b_X1_sum_41, x_goto, b_X1_sum_46, b_X1_sum_48, x_storeI_3, x_loadI_3, x_iinc_2, b_X1_sum_70, x_vret, q_isL_I, q_isL_R, q_isL_S, true_and, and_true, and_self, List.length_nil, List.length_cons, Nat.zero_add, x_K, x_Kn, Int.reduceToNat, Nat.reduceAdd, Nat.reduceMul, Nat.reduceLeDiff, Nat.reduceLT, Nat.zero_le, Int.reduceAdd, Int.reduceSub, Int.reduceMul, Int.reduceNeg, q_add_e, q_sub_e, q_mul_e, q_neg_e, q_upd_s, q_upd_n, zr_shr0, zr_shr1, zr_shr2, zr_shr3, zr_shr4, zr_and, zr_dyn8, zr_or, zr_shl, q_cpy_n, y_cpy26, c_X1_term]
  refine fc z _ _ _ _ hz ?_
  simp (disch := omega) only [b_X1_sum_0, x_loadR_0, x_loadS_0, x_loadI_1, x_iconst, x_storeI_2, f_1_5, y_ic_eq_t, y_ic_eq_f, b_X1_sum_16, y_ic_ne_t, y_ic_ne_f, b_X1_sum_25, x_loadI_2, y_ic_ge_t, y_ic_ge_f, b_X1_sum_32, b_X1_sum_41, x_goto, b_X1_sum_46, b_X1_sum_48, x_storeI_3, x_loadI_3, x_iinc_2, b_X1_sum_70, x_vret, q_isL_I, q_isL_R, q_isL_S, true_and, and_true, and_self, List.length_nil, List.length_cons, Nat.zero_add, x_K, x_Kn, Int.reduceToNat, Nat.reduceAdd, Nat.reduceMul, Nat.reduceLeDiff, Nat.reduceLT, Nat.zero_le, Int.reduceAdd, Int.reduceSub, Int.reduceMul, Int.reduceNeg, q_add_e, q_sub_e, q_mul_e, q_neg_e, q_upd_s, q_upd_n, zr_shr0, zr_shr1, zr_shr2, zr_shr3, zr_shr4, zr_and, zr_dyn8, zr_or, zr_shl, q_cpy_n, y_cpy26]
  exact loop 160 0 rfl _ _ rfl (hI z hz) hq
end
section
/-! THE CLASS'S READER: not, one, all levels, a part, a text -/
theorem ruz_s {M : q_M} {z : q_Z} {s : Nat → Int} {p : Nat} {x : Int} : q_upd (q_zM M z s) 4 p x = q_zM M z (F_u s p x) := by
  obtain ⟨cn, tok, val, fr, bh, ft, C⟩ := z
  exact ru_s
set_option maxHeartbeats 4000000 in
theorem sp_not {D n : Nat} {o : Int} {r0 : Bool} {g : q_G} {M : q_M} {no su : q_Z → q_Z} (hn : M 1 1 = n) (hn2 : n ≤ 160) (ho : r0 = true ↔ 5 ≤ o) (ho0 : 0 ≤ o ∧ o ≤ 5) (hNI : ∀ z, q_zI n z → q_zI n (no z)) (hSI : ∀ z, q_zI n z → q_zI n (su z))
    (hno : o < 5 → ∀ (z : q_Z) (s : Nat → Int) (Q : Option q_V → q_G → q_M → Prop), q_zI n z → Q none g (q_zM M (no z) s) → q_S 1 (D + 11) 31 [qR 1 1, qI (o + 1)] g (q_zM M z s) Q)
    (hsu : ∀ (z : q_Z) (s : Nat → Int) (Q : Option q_V → q_G → q_M → Prop), q_zI n z → Q none g (q_zM M (su z) s) → q_S 1 (D + 11) 32 [qR 1 1, qI o] g (q_zM M z s) Q)
    (z : q_Z) (s : Nat → Int) (Q : Option q_V → q_G → q_M → Prop) (hz : q_zI n z) (hq : Q none g (q_zM M (R_no (M 2) n r0 no su z) s)) : q_S 1 (D + 12) 31 [qR 1 1, qI o] g (q_zM M z s) Q := by
  have nc : ∀ (z : q_Z) (nx : Nat) (ops : List Instr) (ls st : List q_V), q_zI n z → q_T 1 (D + 12) qP_X1_not nx ops ls st g (q_zM M (R_nx (M 2) n z) s) Q → q_S 1 (D + 11) 35 [qR 1 1] g (q_zM M z s) (q_K 1 (D + 12) qP_X1_not nx ops ls st Q) := fun z nx ops ls st hz h => sp_next hn hn2 hz.2.2.1.1 hz.2.2.1.2 h
  have ec : ∀ (z : q_Z) (a b : Int) (nx : Nat) (ops : List Instr) (ls st : List q_V), q_zI n z → q_T 1 (D + 12) qP_X1_not nx ops ls st g (q_zM M (R_em a b z) s) Q → q_S 1 (D + 11) 28 [qR 1 1, qI a, qI b] g (q_zM M z s) (q_K 1 (D + 12) qP_X1_not nx ops ls st Q) := fun z a b nx ops ls st hz h => sp_emit hz h
  have fl : ∀ (z : q_Z) (nx : Nat) (ops : List Instr) (ls st : List q_V), q_T 1 (D + 12) qP_X1_not nx ops ls st g (q_zM M (R_fl z) s) Q → q_S 1 (D + 11) 27 [qR 1 1] g (q_zM M z s) (q_K 1 (D + 12) qP_X1_not nx ops ls st Q) := fun z nx ops ls st h => sp_fail h
  have sc : ∀ (z : q_Z) (nx : Nat) (ops : List Instr) (ls st : List q_V), q_zI n z → q_T 1 (D + 12) qP_X1_not nx ops ls st g (q_zM M (su z) s) Q → q_S 1 (D + 11) 32 [qR 1 1, qI o] g (q_zM M z s) (q_K 1 (D + 12) qP_X1_not nx ops ls st Q) := fun z nx ops ls st hz h => hsu z s _ hz h
  rw [s_X1_not]
  unfold R_no at hq
  by_cases c : z.2.1 = -10
  · rw [if_pos c] at hq
    by_cases c2 : 5 ≤ o
    · rw [if_pos (ho.mpr c2)] at hq
      simp (disch := omega) only [b_X1_not_0, x_loadR_0, x_loadS_0, f_1_5, x_iconst, y_ic_ne_t, y_ic_ne_f, b_X1_not_9, x_loadI_1, y_ic_lt_t, y_ic_lt_f, b_X1_not_14, x_vret, b_X1_not_19, x_iadd, b_X1_not_37, y_ic_eq_t, y_ic_eq_f, b_X1_not_51, b_X1_not_60, b_X1_not_69, x_goto, b_X1_not_74, b_X1_not_76, x_storeI_2, x_loadI_2, b_X1_not_92, q_isL_I, q_isL_R, q_isL_S, true_and, and_true, and_self, List.length_nil, List.length_cons, Nat.zero_add, x_K, x_Kn, Int.reduceToNat, Nat.reduceAdd, Nat.reduceMul, Nat.reduceLeDiff, Nat.reduceLT, Nat.zero_le, Int.reduceAdd, Int.reduceSub, Int.reduceMul, Int.reduceNeg, q_add_e, q_sub_e, q_mul_e, q_neg_e, q_upd_s, q_upd_n, zr_shr0, zr_shr1, zr_shr2, zr_shr3, zr_shr4, zr_and, zr_dyn8, zr_or, zr_shl, q_cpy_n, y_cpy26, rz_tok, c_X1_fail]
      refine fl z _ _ _ _ ?_
      simp (disch := omega) only [b_X1_not_0, x_loadR_0, x_loadS_0, f_1_5, x_iconst, y_ic_ne_t, y_ic_ne_f, b_X1_not_9, x_loadI_1, y_ic_lt_t, y_ic_lt_f, b_X1_not_14, x_vret, b_X1_not_19, x_iadd, b_X1_not_37, y_ic_eq_t, y_ic_eq_f, b_X1_not_51, b_X1_not_60, b_X1_not_69, x_goto, b_X1_not_74, b_X1_not_76, x_storeI_2, x_loadI_2, b_X1_not_92, q_isL_I, q_isL_R, q_isL_S, true_and, and_true, and_self, List.length_nil, List.length_cons, Nat.zero_add, x_K, x_Kn, Int.reduceToNat, Nat.reduceAdd, Nat.reduceMul, Nat.reduceLeDiff, Nat.reduceLT, Nat.zero_le, Int.reduceAdd, Int.reduceSub, Int.reduceMul, Int.reduceNeg, q_add_e, q_sub_e, q_mul_e, q_neg_e, q_upd_s, q_upd_n, zr_shr0, zr_shr1, zr_shr2, zr_shr3, zr_shr4, zr_and, zr_dyn8, zr_or, zr_shl, q_cpy_n, y_cpy26]
      exact hq
    · rw [if_neg (fun q => c2 (ho.mp q))] at hq
      have z1 := R_nx_I (T := M 2) hz
      have z2 := hNI _ z1
      have cc : ∀ (z : q_Z) (nx : Nat) (ops : List Instr) (ls st : List q_V), q_zI n z → q_T 1 (D + 12) qP_X1_not nx ops ls st g (q_zM M (no z) s) Q → q_S 1 (D + 11) 31 [qR 1 1, qI (o + 1)] g (q_zM M z s) (q_K 1 (D + 12) qP_X1_not nx ops ls st Q) := fun z nx ops ls st hz h => hno (by omega) z s _ hz h
      simp (disch := omega) only [b_X1_not_0, x_loadR_0, x_loadS_0, f_1_5, x_iconst, y_ic_ne_t, y_ic_ne_f, b_X1_not_9, x_loadI_1, y_ic_lt_t, y_ic_lt_f, b_X1_not_14, x_vret, b_X1_not_19, x_iadd, b_X1_not_37, y_ic_eq_t, y_ic_eq_f, b_X1_not_51, b_X1_not_60, b_X1_not_69, x_goto, b_X1_not_74, b_X1_not_76, x_storeI_2, x_loadI_2, b_X1_not_92, q_isL_I, q_isL_R, q_isL_S, true_and, and_true, and_self, List.length_nil, List.length_cons, Nat.zero_add, x_K, x_Kn, Int.reduceToNat, Nat.reduceAdd, Nat.reduceMul, Nat.reduceLeDiff, Nat.reduceLT, Nat.zero_le, Int.reduceAdd, Int.reduceSub, Int.reduceMul, Int.reduceNeg, q_add_e, q_sub_e, q_mul_e, q_neg_e, q_upd_s, q_upd_n, zr_shr0, zr_shr1, zr_shr2, zr_shr3, zr_shr4, zr_and, zr_dyn8, zr_or, zr_shl, q_cpy_n, y_cpy26, rz_tok, c_X1_next]
      refine nc z _ _ _ _ hz ?_
      simp (disch := omega) only [b_X1_not_0, x_loadR_0, x_loadS_0, f_1_5, x_iconst, y_ic_ne_t, y_ic_ne_f, b_X1_not_9, x_loadI_1, y_ic_lt_t, y_ic_lt_f, b_X1_not_14, x_vret, b_X1_not_19, x_iadd, b_X1_not_37, y_ic_eq_t, y_ic_eq_f, b_X1_not_51, b_X1_not_60, b_X1_not_69, x_goto, b_X1_not_74, b_X1_not_76, x_storeI_2, x_loadI_2, b_X1_not_92, q_isL_I, q_isL_R, q_isL_S, true_and, and_true, and_self, List.length_nil, List.length_cons, Nat.zero_add, x_K, x_Kn, Int.reduceToNat, Nat.reduceAdd, Nat.reduceMul, Nat.reduceLeDiff, Nat.reduceLT, Nat.zero_le, Int.reduceAdd, Int.reduceSub, Int.reduceMul, Int.reduceNeg, q_add_e, q_sub_e, q_mul_e, q_neg_e, q_upd_s, q_upd_n, zr_shr0, zr_shr1, zr_shr2, zr_shr3, zr_shr4, zr_and, zr_dyn8, zr_or, zr_shl, q_cpy_n, y_cpy26, c_X1_not]
      refine cc _ _ _ _ _ z1 ?_
      simp (disch := omega) only [b_X1_not_0, x_loadR_0, x_loadS_0, f_1_5, x_iconst, y_ic_ne_t, y_ic_ne_f, b_X1_not_9, x_loadI_1, y_ic_lt_t, y_ic_lt_f, b_X1_not_14, x_vret, b_X1_not_19, x_iadd, b_X1_not_37, y_ic_eq_t, y_ic_eq_f, b_X1_not_51, b_X1_not_60, b_X1_not_69, x_goto, b_X1_not_74, b_X1_not_76, x_storeI_2, x_loadI_2, b_X1_not_92, q_isL_I, q_isL_R, q_isL_S, true_and, and_true, and_self, List.length_nil, List.length_cons, Nat.zero_add, x_K, x_Kn, Int.reduceToNat, Nat.reduceAdd, Nat.reduceMul, Nat.reduceLeDiff, Nat.reduceLT, Nat.zero_le, Int.reduceAdd, Int.reduceSub, Int.reduceMul, Int.reduceNeg, q_add_e, q_sub_e, q_mul_e, q_neg_e, q_upd_s, q_upd_n, zr_shr0, zr_shr1, zr_shr2, zr_shr3, zr_shr4, zr_and, zr_dyn8, zr_or, zr_shl, q_cpy_n, y_cpy26, c_X1_emit]
      refine ec _ _ _ _ _ _ _ z2 ?_
      simp (disch := omega) only [b_X1_not_0, x_loadR_0, x_loadS_0, f_1_5, x_iconst, y_ic_ne_t, y_ic_ne_f, b_X1_not_9, x_loadI_1, y_ic_lt_t, y_ic_lt_f, b_X1_not_14, x_vret, b_X1_not_19, x_iadd, b_X1_not_37, y_ic_eq_t, y_ic_eq_f, b_X1_not_51, b_X1_not_60, b_X1_not_69, x_goto, b_X1_not_74, b_X1_not_76, x_storeI_2, x_loadI_2, b_X1_not_92, q_isL_I, q_isL_R, q_isL_S, true_and, and_true, and_self, List.length_nil, List.length_cons, Nat.zero_add, x_K, x_Kn, Int.reduceToNat, Nat.reduceAdd, Nat.reduceMul, Nat.reduceLeDiff, Nat.reduceLT, Nat.zero_le, Int.reduceAdd, Int.reduceSub, Int.reduceMul, Int.reduceNeg, q_add_e, q_sub_e, q_mul_e, q_neg_e, q_upd_s, q_upd_n, zr_shr0, zr_shr1, zr_shr2, zr_shr3, zr_shr4, zr_and, zr_dyn8, zr_or, zr_shl, q_cpy_n, y_cpy26]
      exact hq
  · rw [if_neg c] at hq
    unfold R_cp at hq
    have y1 := hSI z hz
    simp (disch := omega) only [b_X1_not_0, x_loadR_0, x_loadS_0, f_1_5, x_iconst, y_ic_ne_t, y_ic_ne_f, b_X1_not_9, x_loadI_1, y_ic_lt_t, y_ic_lt_f, b_X1_not_14, x_vret, b_X1_not_19, x_iadd, b_X1_not_37, y_ic_eq_t, y_ic_eq_f, b_X1_not_51, b_X1_not_60, b_X1_not_69, x_goto, b_X1_not_74, b_X1_not_76, x_storeI_2, x_loadI_2, b_X1_not_92, q_isL_I, q_isL_R, q_isL_S, true_and, and_true, and_self, List.length_nil, List.length_cons, Nat.zero_add, x_K, x_Kn, Int.reduceToNat, Nat.reduceAdd, Nat.reduceMul, Nat.reduceLeDiff, Nat.reduceLT, Nat.zero_le, Int.reduceAdd, Int.reduceSub, Int.reduceMul, Int.reduceNeg, q_add_e, q_sub_e, q_mul_e, q_neg_e, q_upd_s, q_upd_n, zr_shr0, zr_shr1, zr_shr2, zr_shr3, zr_shr4, zr_and, zr_dyn8, zr_or, zr_shl, q_cpy_n, y_cpy26, rz_tok, c_X1_sum]
    refine sc z _ _ _ _ hz ?_
    have z1 := R_nx_I (T := M 2) y1
    have z2 := hSI _ z1
    by_cases c3 : (su z).2.1 = 60
    · rw [if_pos (Or.inl c3), if_pos c3] at hq
      simp (disch := omega) only [b_X1_not_0, x_loadR_0, x_loadS_0, f_1_5, x_iconst, y_ic_ne_t, y_ic_ne_f, b_X1_not_9, x_loadI_1, y_ic_lt_t, y_ic_lt_f, b_X1_not_14, x_vret, b_X1_not_19, x_iadd, b_X1_not_37, y_ic_eq_t, y_ic_eq_f, b_X1_not_51, b_X1_not_60, b_X1_not_69, x_goto, b_X1_not_74, b_X1_not_76, x_storeI_2, x_loadI_2, b_X1_not_92, q_isL_I, q_isL_R, q_isL_S, true_and, and_true, and_self, List.length_nil, List.length_cons, Nat.zero_add, x_K, x_Kn, Int.reduceToNat, Nat.reduceAdd, Nat.reduceMul, Nat.reduceLeDiff, Nat.reduceLT, Nat.zero_le, Int.reduceAdd, Int.reduceSub, Int.reduceMul, Int.reduceNeg, q_add_e, q_sub_e, q_mul_e, q_neg_e, q_upd_s, q_upd_n, zr_shr0, zr_shr1, zr_shr2, zr_shr3, zr_shr4, zr_and, zr_dyn8, zr_or, zr_shl, q_cpy_n, y_cpy26, rz_tok, c_X1_next]
      refine nc _ _ _ _ _ y1 ?_
      simp (disch := omega) only [b_X1_not_0, x_loadR_0, x_loadS_0, f_1_5, x_iconst, y_ic_ne_t, y_ic_ne_f, b_X1_not_9, x_loadI_1, y_ic_lt_t, y_ic_lt_f, b_X1_not_14, x_vret, b_X1_not_19, x_iadd, b_X1_not_37, y_ic_eq_t, y_ic_eq_f, b_X1_not_51, b_X1_not_60, b_X1_not_69, x_goto, b_X1_not_74, b_X1_not_76, x_storeI_2, x_loadI_2, b_X1_not_92, q_isL_I, q_isL_R, q_isL_S, true_and, and_true, and_self, List.length_nil, List.length_cons, Nat.zero_add, x_K, x_Kn, Int.reduceToNat, Nat.reduceAdd, Nat.reduceMul, Nat.reduceLeDiff, Nat.reduceLT, Nat.zero_le, Int.reduceAdd, Int.reduceSub, Int.reduceMul, Int.reduceNeg, q_add_e, q_sub_e, q_mul_e, q_neg_e, q_upd_s, q_upd_n, zr_shr0, zr_shr1, zr_shr2, zr_shr3, zr_shr4, zr_and, zr_dyn8, zr_or, zr_shl, q_cpy_n, y_cpy26, c_X1_sum]
      refine sc _ _ _ _ _ z1 ?_
      simp (disch := omega) only [b_X1_not_0, x_loadR_0, x_loadS_0, f_1_5, x_iconst, y_ic_ne_t, y_ic_ne_f, b_X1_not_9, x_loadI_1, y_ic_lt_t, y_ic_lt_f, b_X1_not_14, x_vret, b_X1_not_19, x_iadd, b_X1_not_37, y_ic_eq_t, y_ic_eq_f, b_X1_not_51, b_X1_not_60, b_X1_not_69, x_goto, b_X1_not_74, b_X1_not_76, x_storeI_2, x_loadI_2, b_X1_not_92, q_isL_I, q_isL_R, q_isL_S, true_and, and_true, and_self, List.length_nil, List.length_cons, Nat.zero_add, x_K, x_Kn, Int.reduceToNat, Nat.reduceAdd, Nat.reduceMul, Nat.reduceLeDiff, Nat.reduceLT, Nat.zero_le, Int.reduceAdd, Int.reduceSub, Int.reduceMul, Int.reduceNeg, q_add_e, q_sub_e, q_mul_e, q_neg_e, q_upd_s, q_upd_n, zr_shr0, zr_shr1, zr_shr2, zr_shr3, zr_shr4, zr_and, zr_dyn8, zr_or, zr_shl, q_cpy_n, y_cpy26, c_X1_emit]
      refine ec _ _ _ _ _ _ _ z2 ?_
      simp (disch := omega) only [b_X1_not_0, x_loadR_0, x_loadS_0, f_1_5, x_iconst, y_ic_ne_t, y_ic_ne_f, b_X1_not_9, x_loadI_1, y_ic_lt_t, y_ic_lt_f, b_X1_not_14, x_vret, b_X1_not_19, x_iadd, b_X1_not_37, y_ic_eq_t, y_ic_eq_f, b_X1_not_51, b_X1_not_60, b_X1_not_69, x_goto, b_X1_not_74, b_X1_not_76, x_storeI_2, x_loadI_2, b_X1_not_92, q_isL_I, q_isL_R, q_isL_S, true_and, and_true, and_self, List.length_nil, List.length_cons, Nat.zero_add, x_K, x_Kn, Int.reduceToNat, Nat.reduceAdd, Nat.reduceMul, Nat.reduceLeDiff, Nat.reduceLT, Nat.zero_le, Int.reduceAdd, Int.reduceSub, Int.reduceMul, Int.reduceNeg, q_add_e, q_sub_e, q_mul_e, q_neg_e, q_upd_s, q_upd_n, zr_shr0, zr_shr1, zr_shr2, zr_shr3, zr_shr4, zr_and, zr_dyn8, zr_or, zr_shl, q_cpy_n, y_cpy26]
      exact hq
    · by_cases c4 : (su z).2.1 = 61
      · rw [if_pos (Or.inr c4), if_neg c3] at hq
        simp (disch := omega) only [b_X1_not_0, x_loadR_0, x_loadS_0, f_1_5, x_iconst, y_ic_ne_t, y_ic_ne_f, b_X1_not_9, x_loadI_1, y_ic_lt_t, y_ic_lt_f, b_X1_not_14, x_vret, b_X1_not_19, x_iadd, b_X1_not_37, y_ic_eq_t, y_ic_eq_f, b_X1_not_51, b_X1_not_60, b_X1_not_69, x_goto, b_X1_not_74, b_X1_not_76, x_storeI_2, x_loadI_2, b_X1_not_92, q_isL_I, q_isL_R, q_isL_S, true_and, and_true, and_self, List.length_nil, List.length_cons, Nat.zero_add, x_K, x_Kn, Int.reduceToNat, Nat.reduceAdd, Nat.reduceMul, Nat.reduceLeDiff, Nat.reduceLT, Nat.zero_le, Int.reduceAdd, Int.reduceSub, Int.reduceMul, Int.reduceNeg, q_add_e, q_sub_e, q_mul_e, q_neg_e, q_upd_s, q_upd_n, zr_shr0, zr_shr1, zr_shr2, zr_shr3, zr_shr4, zr_and, zr_dyn8, zr_or, zr_shl, q_cpy_n, y_cpy26, rz_tok, c_X1_next]
        refine nc _ _ _ _ _ y1 ?_
        simp (disch := omega) only [b_X1_not_0, x_loadR_0, x_loadS_0, f_1_5, x_iconst, y_ic_ne_t, y_ic_ne_f, b_X1_not_9, x_loadI_1, y_ic_lt_t, y_ic_lt_f, b_X1_not_14, x_vret, b_X1_not_19, x_iadd, b_X1_not_37, y_ic_eq_t, y_ic_eq_f, b_X1_not_51, b_X1_not_60, b_X1_not_69, x_goto, b_X1_not_74, b_X1_not_76, x_storeI_2, x_loadI_2, b_X1_not_92, q_isL_I, q_isL_R, q_isL_S, true_and, and_true, and_self, List.length_nil, List.length_cons, Nat.zero_add, x_K, x_Kn, Int.reduceToNat, Nat.reduceAdd, Nat.reduceMul, Nat.reduceLeDiff, Nat.reduceLT, Nat.zero_le, Int.reduceAdd, Int.reduceSub, Int.reduceMul, Int.reduceNeg, q_add_e, q_sub_e, q_mul_e, q_neg_e, q_upd_s, q_upd_n, zr_shr0, zr_shr1, zr_shr2, zr_shr3, zr_shr4, zr_and, zr_dyn8, zr_or, zr_shl, q_cpy_n, y_cpy26, c_X1_sum]
        refine sc _ _ _ _ _ z1 ?_
        simp (disch := omega) only [b_X1_not_0, x_loadR_0, x_loadS_0, f_1_5, x_iconst, y_ic_ne_t, y_ic_ne_f, b_X1_not_9, x_loadI_1, y_ic_lt_t, y_ic_lt_f, b_X1_not_14, x_vret, b_X1_not_19, x_iadd, b_X1_not_37, y_ic_eq_t, y_ic_eq_f, b_X1_not_51, b_X1_not_60, b_X1_not_69, x_goto, b_X1_not_74, b_X1_not_76, x_storeI_2, x_loadI_2, b_X1_not_92, q_isL_I, q_isL_R, q_isL_S, true_and, and_true, and_self, List.length_nil, List.length_cons, Nat.zero_add, x_K, x_Kn, Int.reduceToNat, Nat.reduceAdd, Nat.reduceMul, Nat.reduceLeDiff, Nat.reduceLT, Nat.zero_le, Int.reduceAdd, Int.reduceSub, Int.reduceMul, Int.reduceNeg, q_add_e, q_sub_e, q_mul_e, q_neg_e, q_upd_s, q_upd_n, zr_shr0, zr_shr1, zr_shr2, zr_shr3, zr_shr4, zr_and, zr_dyn8, zr_or, zr_shl, q_cpy_n, y_cpy26, c_X1_emit]
        refine ec _ _ _ _ _ _ _ z2 ?_
        simp (disch := omega) only [b_X1_not_0, x_loadR_0, x_loadS_0, f_1_5, x_iconst, y_ic_ne_t, y_ic_ne_f, b_X1_not_9, x_loadI_1, y_ic_lt_t, y_ic_lt_f, b_X1_not_14, x_vret, b_X1_not_19, x_iadd, b_X1_not_37, y_ic_eq_t, y_ic_eq_f, b_X1_not_51, b_X1_not_60, b_X1_not_69, x_goto, b_X1_not_74, b_X1_not_76, x_storeI_2, x_loadI_2, b_X1_not_92, q_isL_I, q_isL_R, q_isL_S, true_and, and_true, and_self, List.length_nil, List.length_cons, Nat.zero_add, x_K, x_Kn, Int.reduceToNat, Nat.reduceAdd, Nat.reduceMul, Nat.reduceLeDiff, Nat.reduceLT, Nat.zero_le, Int.reduceAdd, Int.reduceSub, Int.reduceMul, Int.reduceNeg, q_add_e, q_sub_e, q_mul_e, q_neg_e, q_upd_s, q_upd_n, zr_shr0, zr_shr1, zr_shr2, zr_shr3, zr_shr4, zr_and, zr_dyn8, zr_or, zr_shl, q_cpy_n, y_cpy26]
        exact hq
      · rw [if_neg (fun q => q.elim c3 c4)] at hq
        simp (disch := omega) only [b_X1_not_0, x_loadR_0, x_loadS_0, f_1_5, x_iconst, y_ic_ne_t, y_ic_ne_f, b_X1_not_9, x_loadI_1, y_ic_lt_t, y_ic_lt_f, b_X1_not_14, x_vret, b_X1_not_19, x_iadd, b_X1_not_37, y_ic_eq_t, y_ic_eq_f, b_X1_not_51, b_X1_not_60, b_X1_not_69, x_goto, b_X1_not_74, b_X1_not_76, x_storeI_2, x_loadI_2, b_X1_not_92, q_isL_I, q_isL_R, q_isL_S, true_and, and_true, and_self, List.length_nil, List.length_cons, Nat.zero_add, x_K, x_Kn, Int.reduceToNat, Nat.reduceAdd, Nat.reduceMul, Nat.reduceLeDiff, Nat.reduceLT, Nat.zero_le, Int.reduceAdd, Int.reduceSub, Int.reduceMul, Int.reduceNeg, q_add_e, q_sub_e, q_mul_e, q_neg_e, q_upd_s, q_upd_n, zr_shr0, zr_shr1, zr_shr2, zr_shr3, zr_shr4, zr_and, zr_dyn8, zr_or, zr_shl, q_cpy_n, y_cpy26, rz_tok]
        exact hq
set_option maxHeartbeats 4000000 in
theorem sp_one {D n : Nat} {o : Int} {r0 : Bool} {g : q_G} {M : q_M} {on ei : q_Z → q_Z} (hn : M 1 1 = n) (hn2 : n ≤ 160) (ho : r0 = true ↔ 5 ≤ o) (ho0 : 0 ≤ o ∧ o ≤ 5) (hNI : ∀ z, q_zI n z → q_zI n (on z)) (hEI : ∀ z, q_zI n z → q_zI n (ei z))
    (hon : o < 5 → ∀ (z : q_Z) (s : Nat → Int) (Q : Option q_V → q_G → q_M → Prop), q_zI n z → Q none g (q_zM M (on z) s) → q_S 1 (D + 8) 34 [qR 1 1, qI (o + 1)] g (q_zM M z s) Q)
    (hei : o < 5 → ∀ (z : q_Z) (s : Nat → Int) (Q : Option q_V → q_G → q_M → Prop), q_zI n z → Q none g (q_zM M (ei z) s) → q_S 1 (D + 8) 29 [qR 1 1, qI (o + 1)] g (q_zM M z s) Q)
    (z : q_Z) (s : Nat → Int) (Q : Option q_V → q_G → q_M → Prop) (hz : q_zI n z) (hq : Q none g (q_zM M (R_on (M 2) n r0 on ei z) s)) : q_S 1 (D + 9) 34 [qR 1 1, qI o] g (q_zM M z s) Q := by
  have nc : ∀ (z : q_Z) (nx : Nat) (ops : List Instr) (ls st : List q_V), q_zI n z → q_T 1 (D + 9) qP_X1_one nx ops ls st g (q_zM M (R_nx (M 2) n z) s) Q → q_S 1 (D + 8) 35 [qR 1 1] g (q_zM M z s) (q_K 1 (D + 9) qP_X1_one nx ops ls st Q) := fun z nx ops ls st hz h => sp_next hn hn2 hz.2.2.1.1 hz.2.2.1.2 h
  have ec : ∀ (z : q_Z) (a b : Int) (nx : Nat) (ops : List Instr) (ls st : List q_V), q_zI n z → q_T 1 (D + 9) qP_X1_one nx ops ls st g (q_zM M (R_em a b z) s) Q → q_S 1 (D + 8) 28 [qR 1 1, qI a, qI b] g (q_zM M z s) (q_K 1 (D + 9) qP_X1_one nx ops ls st Q) := fun z a b nx ops ls st hz h => sp_emit hz h
  have fl : ∀ (z : q_Z) (nx : Nat) (ops : List Instr) (ls st : List q_V), q_T 1 (D + 9) qP_X1_one nx ops ls st g (q_zM M (R_fl z) s) Q → q_S 1 (D + 8) 27 [qR 1 1] g (q_zM M z s) (q_K 1 (D + 9) qP_X1_one nx ops ls st Q) := fun z nx ops ls st h => sp_fail h
  have xc : ∀ (z : q_Z) (w : Int) (nx : Nat) (ops : List Instr) (ls st : List q_V), q_zI n z → q_T 1 (D + 9) qP_X1_one nx ops ls st g (q_zM M (R_ex (M 2) n w z) s) Q → q_S 1 (D + 8) 26 [qR 1 1, qI w] g (q_zM M z s) (q_K 1 (D + 9) qP_X1_one nx ops ls st Q) := fun z w nx ops ls st hz h => sp_expect hn hn2 hz h
  rw [s_X1_one]
  unfold R_on at hq
  have h6 := hz.2.2.2.2.2
  by_cases c1 : z.2.1 = -3
  · rw [if_pos (Or.inl c1), if_pos c1] at hq
    have hv := h6.1 c1
    have z1 := R_em_I (o := 1) (v := z.2.2.1) hz (by omega) hv (by omega)
    simp (disch := omega) only [b_X1_one_0, x_loadR_0, x_loadS_0, f_1_5, x_iconst, y_ic_eq_t, y_ic_eq_f, b_X1_one_9, y_ic_ne_t, y_ic_ne_f, b_X1_one_18, b_X1_one_28, x_goto, b_X1_one_32, b_X1_one_33, f_1_6, x_vret, b_X1_one_45, b_X1_one_54, b_X1_one_63, x_loadI_1, y_ic_lt_t, y_ic_lt_f, b_X1_one_68, b_X1_one_73, b_X1_one_82, b_X1_one_86, b_X1_one_87, x_storeI_2, x_loadI_2, y_if_eq_t, y_if_eq_f, b_X1_one_96, x_iadd, b_X1_one_112, b_X1_one_125, q_isL_I, q_isL_R, q_isL_S, true_and, and_true, and_self, List.length_nil, List.length_cons, Nat.zero_add, x_K, x_Kn, Int.reduceToNat, Nat.reduceAdd, Nat.reduceMul, Nat.reduceLeDiff, Nat.reduceLT, Nat.zero_le, Int.reduceAdd, Int.reduceSub, Int.reduceMul, Int.reduceNeg, q_add_e, q_sub_e, q_mul_e, q_neg_e, q_upd_s, q_upd_n, zr_shr0, zr_shr1, zr_shr2, zr_shr3, zr_shr4, zr_and, zr_dyn8, zr_or, zr_shl, q_cpy_n, y_cpy26, rz_tok, rz_val, c_X1_emit]
    refine ec z _ _ _ _ _ _ hz ?_
    simp (disch := omega) only [b_X1_one_0, x_loadR_0, x_loadS_0, f_1_5, x_iconst, y_ic_eq_t, y_ic_eq_f, b_X1_one_9, y_ic_ne_t, y_ic_ne_f, b_X1_one_18, b_X1_one_28, x_goto, b_X1_one_32, b_X1_one_33, f_1_6, x_vret, b_X1_one_45, b_X1_one_54, b_X1_one_63, x_loadI_1, y_ic_lt_t, y_ic_lt_f, b_X1_one_68, b_X1_one_73, b_X1_one_82, b_X1_one_86, b_X1_one_87, x_storeI_2, x_loadI_2, y_if_eq_t, y_if_eq_f, b_X1_one_96, x_iadd, b_X1_one_112, b_X1_one_125, q_isL_I, q_isL_R, q_isL_S, true_and, and_true, and_self, List.length_nil, List.length_cons, Nat.zero_add, x_K, x_Kn, Int.reduceToNat, Nat.reduceAdd, Nat.reduceMul, Nat.reduceLeDiff, Nat.reduceLT, Nat.zero_le, Int.reduceAdd, Int.reduceSub, Int.reduceMul, Int.reduceNeg, q_add_e, q_sub_e, q_mul_e, q_neg_e, q_upd_s, q_upd_n, zr_shr0, zr_shr1, zr_shr2, zr_shr3, zr_shr4, zr_and, zr_dyn8, zr_or, zr_shl, q_cpy_n, y_cpy26, c_X1_next]
    refine nc _ _ _ _ _ z1 ?_
    simp (disch := omega) only [b_X1_one_0, x_loadR_0, x_loadS_0, f_1_5, x_iconst, y_ic_eq_t, y_ic_eq_f, b_X1_one_9, y_ic_ne_t, y_ic_ne_f, b_X1_one_18, b_X1_one_28, x_goto, b_X1_one_32, b_X1_one_33, f_1_6, x_vret, b_X1_one_45, b_X1_one_54, b_X1_one_63, x_loadI_1, y_ic_lt_t, y_ic_lt_f, b_X1_one_68, b_X1_one_73, b_X1_one_82, b_X1_one_86, b_X1_one_87, x_storeI_2, x_loadI_2, y_if_eq_t, y_if_eq_f, b_X1_one_96, x_iadd, b_X1_one_112, b_X1_one_125, q_isL_I, q_isL_R, q_isL_S, true_and, and_true, and_self, List.length_nil, List.length_cons, Nat.zero_add, x_K, x_Kn, Int.reduceToNat, Nat.reduceAdd, Nat.reduceMul, Nat.reduceLeDiff, Nat.reduceLT, Nat.zero_le, Int.reduceAdd, Int.reduceSub, Int.reduceMul, Int.reduceNeg, q_add_e, q_sub_e, q_mul_e, q_neg_e, q_upd_s, q_upd_n, zr_shr0, zr_shr1, zr_shr2, zr_shr3, zr_shr4, zr_and, zr_dyn8, zr_or, zr_shl, q_cpy_n, y_cpy26]
    exact hq
  by_cases c2 : z.2.1 = -4
  · rw [if_pos (Or.inr c2), if_neg c1] at hq
    have hv := h6.2 c2
    have z1 := R_em_I (o := 2) (v := z.2.2.1) hz (by omega) (by omega) (by omega)
    simp (disch := omega) only [b_X1_one_0, x_loadR_0, x_loadS_0, f_1_5, x_iconst, y_ic_eq_t, y_ic_eq_f, b_X1_one_9, y_ic_ne_t, y_ic_ne_f, b_X1_one_18, b_X1_one_28, x_goto, b_X1_one_32, b_X1_one_33, f_1_6, x_vret, b_X1_one_45, b_X1_one_54, b_X1_one_63, x_loadI_1, y_ic_lt_t, y_ic_lt_f, b_X1_one_68, b_X1_one_73, b_X1_one_82, b_X1_one_86, b_X1_one_87, x_storeI_2, x_loadI_2, y_if_eq_t, y_if_eq_f, b_X1_one_96, x_iadd, b_X1_one_112, b_X1_one_125, q_isL_I, q_isL_R, q_isL_S, true_and, and_true, and_self, List.length_nil, List.length_cons, Nat.zero_add, x_K, x_Kn, Int.reduceToNat, Nat.reduceAdd, Nat.reduceMul, Nat.reduceLeDiff, Nat.reduceLT, Nat.zero_le, Int.reduceAdd, Int.reduceSub, Int.reduceMul, Int.reduceNeg, q_add_e, q_sub_e, q_mul_e, q_neg_e, q_upd_s, q_upd_n, zr_shr0, zr_shr1, zr_shr2, zr_shr3, zr_shr4, zr_and, zr_dyn8, zr_or, zr_shl, q_cpy_n, y_cpy26, rz_tok, rz_val, c_X1_emit]
    refine ec z _ _ _ _ _ _ hz ?_
    simp (disch := omega) only [b_X1_one_0, x_loadR_0, x_loadS_0, f_1_5, x_iconst, y_ic_eq_t, y_ic_eq_f, b_X1_one_9, y_ic_ne_t, y_ic_ne_f, b_X1_one_18, b_X1_one_28, x_goto, b_X1_one_32, b_X1_one_33, f_1_6, x_vret, b_X1_one_45, b_X1_one_54, b_X1_one_63, x_loadI_1, y_ic_lt_t, y_ic_lt_f, b_X1_one_68, b_X1_one_73, b_X1_one_82, b_X1_one_86, b_X1_one_87, x_storeI_2, x_loadI_2, y_if_eq_t, y_if_eq_f, b_X1_one_96, x_iadd, b_X1_one_112, b_X1_one_125, q_isL_I, q_isL_R, q_isL_S, true_and, and_true, and_self, List.length_nil, List.length_cons, Nat.zero_add, x_K, x_Kn, Int.reduceToNat, Nat.reduceAdd, Nat.reduceMul, Nat.reduceLeDiff, Nat.reduceLT, Nat.zero_le, Int.reduceAdd, Int.reduceSub, Int.reduceMul, Int.reduceNeg, q_add_e, q_sub_e, q_mul_e, q_neg_e, q_upd_s, q_upd_n, zr_shr0, zr_shr1, zr_shr2, zr_shr3, zr_shr4, zr_and, zr_dyn8, zr_or, zr_shl, q_cpy_n, y_cpy26, c_X1_next]
    refine nc _ _ _ _ _ z1 ?_
    simp (disch := omega) only [b_X1_one_0, x_loadR_0, x_loadS_0, f_1_5, x_iconst, y_ic_eq_t, y_ic_eq_f, b_X1_one_9, y_ic_ne_t, y_ic_ne_f, b_X1_one_18, b_X1_one_28, x_goto, b_X1_one_32, b_X1_one_33, f_1_6, x_vret, b_X1_one_45, b_X1_one_54, b_X1_one_63, x_loadI_1, y_ic_lt_t, y_ic_lt_f, b_X1_one_68, b_X1_one_73, b_X1_one_82, b_X1_one_86, b_X1_one_87, x_storeI_2, x_loadI_2, y_if_eq_t, y_if_eq_f, b_X1_one_96, x_iadd, b_X1_one_112, b_X1_one_125, q_isL_I, q_isL_R, q_isL_S, true_and, and_true, and_self, List.length_nil, List.length_cons, Nat.zero_add, x_K, x_Kn, Int.reduceToNat, Nat.reduceAdd, Nat.reduceMul, Nat.reduceLeDiff, Nat.reduceLT, Nat.zero_le, Int.reduceAdd, Int.reduceSub, Int.reduceMul, Int.reduceNeg, q_add_e, q_sub_e, q_mul_e, q_neg_e, q_upd_s, q_upd_n, zr_shr0, zr_shr1, zr_shr2, zr_shr3, zr_shr4, zr_and, zr_dyn8, zr_or, zr_shl, q_cpy_n, y_cpy26]
    exact hq
  rw [if_neg (fun q => q.elim c1 c2)] at hq
  by_cases c5 : 5 ≤ o
  · rw [if_pos (Or.inr (ho.mpr c5))] at hq
    by_cases c3 : z.2.1 = 40
    · simp (disch := omega) only [b_X1_one_0, x_loadR_0, x_loadS_0, f_1_5, x_iconst, y_ic_eq_t, y_ic_eq_f, b_X1_one_9, y_ic_ne_t, y_ic_ne_f, b_X1_one_18, b_X1_one_28, x_goto, b_X1_one_32, b_X1_one_33, f_1_6, x_vret, b_X1_one_45, b_X1_one_54, b_X1_one_63, x_loadI_1, y_ic_lt_t, y_ic_lt_f, b_X1_one_68, b_X1_one_73, b_X1_one_82, b_X1_one_86, b_X1_one_87, x_storeI_2, x_loadI_2, y_if_eq_t, y_if_eq_f, b_X1_one_96, x_iadd, b_X1_one_112, b_X1_one_125, q_isL_I, q_isL_R, q_isL_S, true_and, and_true, and_self, List.length_nil, List.length_cons, Nat.zero_add, x_K, x_Kn, Int.reduceToNat, Nat.reduceAdd, Nat.reduceMul, Nat.reduceLeDiff, Nat.reduceLT, Nat.zero_le, Int.reduceAdd, Int.reduceSub, Int.reduceMul, Int.reduceNeg, q_add_e, q_sub_e, q_mul_e, q_neg_e, q_upd_s, q_upd_n, zr_shr0, zr_shr1, zr_shr2, zr_shr3, zr_shr4, zr_and, zr_dyn8, zr_or, zr_shl, q_cpy_n, y_cpy26, rz_tok, c_X1_fail]
      refine fl z _ _ _ _ ?_
      simp (disch := omega) only [b_X1_one_0, x_loadR_0, x_loadS_0, f_1_5, x_iconst, y_ic_eq_t, y_ic_eq_f, b_X1_one_9, y_ic_ne_t, y_ic_ne_f, b_X1_one_18, b_X1_one_28, x_goto, b_X1_one_32, b_X1_one_33, f_1_6, x_vret, b_X1_one_45, b_X1_one_54, b_X1_one_63, x_loadI_1, y_ic_lt_t, y_ic_lt_f, b_X1_one_68, b_X1_one_73, b_X1_one_82, b_X1_one_86, b_X1_one_87, x_storeI_2, x_loadI_2, y_if_eq_t, y_if_eq_f, b_X1_one_96, x_iadd, b_X1_one_112, b_X1_one_125, q_isL_I, q_isL_R, q_isL_S, true_and, and_true, and_self, List.length_nil, List.length_cons, Nat.zero_add, x_K, x_Kn, Int.reduceToNat, Nat.reduceAdd, Nat.reduceMul, Nat.reduceLeDiff, Nat.reduceLT, Nat.zero_le, Int.reduceAdd, Int.reduceSub, Int.reduceMul, Int.reduceNeg, q_add_e, q_sub_e, q_mul_e, q_neg_e, q_upd_s, q_upd_n, zr_shr0, zr_shr1, zr_shr2, zr_shr3, zr_shr4, zr_and, zr_dyn8, zr_or, zr_shl, q_cpy_n, y_cpy26]
      exact hq
    · by_cases c4 : z.2.1 = 45
      · simp (disch := omega) only [b_X1_one_0, x_loadR_0, x_loadS_0, f_1_5, x_iconst, y_ic_eq_t, y_ic_eq_f, b_X1_one_9, y_ic_ne_t, y_ic_ne_f, b_X1_one_18, b_X1_one_28, x_goto, b_X1_one_32, b_X1_one_33, f_1_6, x_vret, b_X1_one_45, b_X1_one_54, b_X1_one_63, x_loadI_1, y_ic_lt_t, y_ic_lt_f, b_X1_one_68, b_X1_one_73, b_X1_one_82, b_X1_one_86, b_X1_one_87, x_storeI_2, x_loadI_2, y_if_eq_t, y_if_eq_f, b_X1_one_96, x_iadd, b_X1_one_112, b_X1_one_125, q_isL_I, q_isL_R, q_isL_S, true_and, and_true, and_self, List.length_nil, List.length_cons, Nat.zero_add, x_K, x_Kn, Int.reduceToNat, Nat.reduceAdd, Nat.reduceMul, Nat.reduceLeDiff, Nat.reduceLT, Nat.zero_le, Int.reduceAdd, Int.reduceSub, Int.reduceMul, Int.reduceNeg, q_add_e, q_sub_e, q_mul_e, q_neg_e, q_upd_s, q_upd_n, zr_shr0, zr_shr1, zr_shr2, zr_shr3, zr_shr4, zr_and, zr_dyn8, zr_or, zr_shl, q_cpy_n, y_cpy26, rz_tok, c_X1_fail]
        refine fl z _ _ _ _ ?_
        simp (disch := omega) only [b_X1_one_0, x_loadR_0, x_loadS_0, f_1_5, x_iconst, y_ic_eq_t, y_ic_eq_f, b_X1_one_9, y_ic_ne_t, y_ic_ne_f, b_X1_one_18, b_X1_one_28, x_goto, b_X1_one_32, b_X1_one_33, f_1_6, x_vret, b_X1_one_45, b_X1_one_54, b_X1_one_63, x_loadI_1, y_ic_lt_t, y_ic_lt_f, b_X1_one_68, b_X1_one_73, b_X1_one_82, b_X1_one_86, b_X1_one_87, x_storeI_2, x_loadI_2, y_if_eq_t, y_if_eq_f, b_X1_one_96, x_iadd, b_X1_one_112, b_X1_one_125, q_isL_I, q_isL_R, q_isL_S, true_and, and_true, and_self, List.length_nil, List.length_cons, Nat.zero_add, x_K, x_Kn, Int.reduceToNat, Nat.reduceAdd, Nat.reduceMul, Nat.reduceLeDiff, Nat.reduceLT, Nat.zero_le, Int.reduceAdd, Int.reduceSub, Int.reduceMul, Int.reduceNeg, q_add_e, q_sub_e, q_mul_e, q_neg_e, q_upd_s, q_upd_n, zr_shr0, zr_shr1, zr_shr2, zr_shr3, zr_shr4, zr_and, zr_dyn8, zr_or, zr_shl, q_cpy_n, y_cpy26]
        exact hq
      · simp (disch := omega) only [b_X1_one_0, x_loadR_0, x_loadS_0, f_1_5, x_iconst, y_ic_eq_t, y_ic_eq_f, b_X1_one_9, y_ic_ne_t, y_ic_ne_f, b_X1_one_18, b_X1_one_28, x_goto, b_X1_one_32, b_X1_one_33, f_1_6, x_vret, b_X1_one_45, b_X1_one_54, b_X1_one_63, x_loadI_1, y_ic_lt_t, y_ic_lt_f, b_X1_one_68, b_X1_one_73, b_X1_one_82, b_X1_one_86, b_X1_one_87, x_storeI_2, x_loadI_2, y_if_eq_t, y_if_eq_f, b_X1_one_96, x_iadd, b_X1_one_112, b_X1_one_125, q_isL_I, q_isL_R, q_isL_S, true_and, and_true, and_self, List.length_nil, List.length_cons, Nat.zero_add, x_K, x_Kn, Int.reduceToNat, Nat.reduceAdd, Nat.reduceMul, Nat.reduceLeDiff, Nat.reduceLT, Nat.zero_le, Int.reduceAdd, Int.reduceSub, Int.reduceMul, Int.reduceNeg, q_add_e, q_sub_e, q_mul_e, q_neg_e, q_upd_s, q_upd_n, zr_shr0, zr_shr1, zr_shr2, zr_shr3, zr_shr4, zr_and, zr_dyn8, zr_or, zr_shl, q_cpy_n, y_cpy26, rz_tok, c_X1_fail]
        refine fl z _ _ _ _ ?_
        simp (disch := omega) only [b_X1_one_0, x_loadR_0, x_loadS_0, f_1_5, x_iconst, y_ic_eq_t, y_ic_eq_f, b_X1_one_9, y_ic_ne_t, y_ic_ne_f, b_X1_one_18, b_X1_one_28, x_goto, b_X1_one_32, b_X1_one_33, f_1_6, x_vret, b_X1_one_45, b_X1_one_54, b_X1_one_63, x_loadI_1, y_ic_lt_t, y_ic_lt_f, b_X1_one_68, b_X1_one_73, b_X1_one_82, b_X1_one_86, b_X1_one_87, x_storeI_2, x_loadI_2, y_if_eq_t, y_if_eq_f, b_X1_one_96, x_iadd, b_X1_one_112, b_X1_one_125, q_isL_I, q_isL_R, q_isL_S, true_and, and_true, and_self, List.length_nil, List.length_cons, Nat.zero_add, x_K, x_Kn, Int.reduceToNat, Nat.reduceAdd, Nat.reduceMul, Nat.reduceLeDiff, Nat.reduceLT, Nat.zero_le, Int.reduceAdd, Int.reduceSub, Int.reduceMul, Int.reduceNeg, q_add_e, q_sub_e, q_mul_e, q_neg_e, q_upd_s, q_upd_n, zr_shr0, zr_shr1, zr_shr2, zr_shr3, zr_shr4, zr_and, zr_dyn8, zr_or, zr_shl, q_cpy_n, y_cpy26]
        exact hq
  have z1 := R_nx_I (T := M 2) hz
  by_cases c4 : z.2.1 = 45
  · rw [if_neg (fun q => q.elim (fun q => q (Or.inr c4)) (fun q => c5 (ho.mp q))), if_pos c4] at hq
    have cc : ∀ (z : q_Z) (nx : Nat) (ops : List Instr) (ls st : List q_V), q_zI n z → q_T 1 (D + 9) qP_X1_one nx ops ls st g (q_zM M (on z) s) Q → q_S 1 (D + 8) 34 [qR 1 1, qI (o + 1)] g (q_zM M z s) (q_K 1 (D + 9) qP_X1_one nx ops ls st Q) := fun z nx ops ls st hz h => hon (by omega) z s _ hz h
    simp (disch := omega) only [b_X1_one_0, x_loadR_0, x_loadS_0, f_1_5, x_iconst, y_ic_eq_t, y_ic_eq_f, b_X1_one_9, y_ic_ne_t, y_ic_ne_f, b_X1_one_18, b_X1_one_28, x_goto, b_X1_one_32, b_X1_one_33, f_1_6, x_vret, b_X1_one_45, b_X1_one_54, b_X1_one_63, x_loadI_1, y_ic_lt_t, y_ic_lt_f, b_X1_one_68, b_X1_one_73, b_X1_one_82, b_X1_one_86, b_X1_one_87, x_storeI_2, x_loadI_2, y_if_eq_t, y_if_eq_f, b_X1_one_96, x_iadd, b_X1_one_112, b_X1_one_125, q_isL_I, q_isL_R, q_isL_S, true_and, and_true, and_self, List.length_nil, List.length_cons, Nat.zero_add, x_K, x_Kn, Int.reduceToNat, Nat.reduceAdd, Nat.reduceMul, Nat.reduceLeDiff, Nat.reduceLT, Nat.zero_le, Int.reduceAdd, Int.reduceSub, Int.reduceMul, Int.reduceNeg, q_add_e, q_sub_e, q_mul_e, q_neg_e, q_upd_s, q_upd_n, zr_shr0, zr_shr1, zr_shr2, zr_shr3, zr_shr4, zr_and, zr_dyn8, zr_or, zr_shl, q_cpy_n, y_cpy26, rz_tok, c_X1_next]
    refine nc z _ _ _ _ hz ?_
    simp (disch := omega) only [b_X1_one_0, x_loadR_0, x_loadS_0, f_1_5, x_iconst, y_ic_eq_t, y_ic_eq_f, b_X1_one_9, y_ic_ne_t, y_ic_ne_f, b_X1_one_18, b_X1_one_28, x_goto, b_X1_one_32, b_X1_one_33, f_1_6, x_vret, b_X1_one_45, b_X1_one_54, b_X1_one_63, x_loadI_1, y_ic_lt_t, y_ic_lt_f, b_X1_one_68, b_X1_one_73, b_X1_one_82, b_X1_one_86, b_X1_one_87, x_storeI_2, x_loadI_2, y_if_eq_t, y_if_eq_f, b_X1_one_96, x_iadd, b_X1_one_112, b_X1_one_125, q_isL_I, q_isL_R, q_isL_S, true_and, and_true, and_self, List.length_nil, List.length_cons, Nat.zero_add, x_K, x_Kn, Int.reduceToNat, Nat.reduceAdd, Nat.reduceMul, Nat.reduceLeDiff, Nat.reduceLT, Nat.zero_le, Int.reduceAdd, Int.reduceSub, Int.reduceMul, Int.reduceNeg, q_add_e, q_sub_e, q_mul_e, q_neg_e, q_upd_s, q_upd_n, zr_shr0, zr_shr1, zr_shr2, zr_shr3, zr_shr4, zr_and, zr_dyn8, zr_or, zr_shl, q_cpy_n, y_cpy26, c_X1_one]
    refine cc _ _ _ _ _ z1 ?_
    simp (disch := omega) only [b_X1_one_0, x_loadR_0, x_loadS_0, f_1_5, x_iconst, y_ic_eq_t, y_ic_eq_f, b_X1_one_9, y_ic_ne_t, y_ic_ne_f, b_X1_one_18, b_X1_one_28, x_goto, b_X1_one_32, b_X1_one_33, f_1_6, x_vret, b_X1_one_45, b_X1_one_54, b_X1_one_63, x_loadI_1, y_ic_lt_t, y_ic_lt_f, b_X1_one_68, b_X1_one_73, b_X1_one_82, b_X1_one_86, b_X1_one_87, x_storeI_2, x_loadI_2, y_if_eq_t, y_if_eq_f, b_X1_one_96, x_iadd, b_X1_one_112, b_X1_one_125, q_isL_I, q_isL_R, q_isL_S, true_and, and_true, and_self, List.length_nil, List.length_cons, Nat.zero_add, x_K, x_Kn, Int.reduceToNat, Nat.reduceAdd, Nat.reduceMul, Nat.reduceLeDiff, Nat.reduceLT, Nat.zero_le, Int.reduceAdd, Int.reduceSub, Int.reduceMul, Int.reduceNeg, q_add_e, q_sub_e, q_mul_e, q_neg_e, q_upd_s, q_upd_n, zr_shr0, zr_shr1, zr_shr2, zr_shr3, zr_shr4, zr_and, zr_dyn8, zr_or, zr_shl, q_cpy_n, y_cpy26, c_X1_emit]
    refine ec _ _ _ _ _ _ _ (hNI _ z1) ?_
    simp (disch := omega) only [b_X1_one_0, x_loadR_0, x_loadS_0, f_1_5, x_iconst, y_ic_eq_t, y_ic_eq_f, b_X1_one_9, y_ic_ne_t, y_ic_ne_f, b_X1_one_18, b_X1_one_28, x_goto, b_X1_one_32, b_X1_one_33, f_1_6, x_vret, b_X1_one_45, b_X1_one_54, b_X1_one_63, x_loadI_1, y_ic_lt_t, y_ic_lt_f, b_X1_one_68, b_X1_one_73, b_X1_one_82, b_X1_one_86, b_X1_one_87, x_storeI_2, x_loadI_2, y_if_eq_t, y_if_eq_f, b_X1_one_96, x_iadd, b_X1_one_112, b_X1_one_125, q_isL_I, q_isL_R, q_isL_S, true_and, and_true, and_self, List.length_nil, List.length_cons, Nat.zero_add, x_K, x_Kn, Int.reduceToNat, Nat.reduceAdd, Nat.reduceMul, Nat.reduceLeDiff, Nat.reduceLT, Nat.zero_le, Int.reduceAdd, Int.reduceSub, Int.reduceMul, Int.reduceNeg, q_add_e, q_sub_e, q_mul_e, q_neg_e, q_upd_s, q_upd_n, zr_shr0, zr_shr1, zr_shr2, zr_shr3, zr_shr4, zr_and, zr_dyn8, zr_or, zr_shl, q_cpy_n, y_cpy26]
    exact hq
  by_cases c3 : z.2.1 = 40
  · rw [if_neg (fun q => q.elim (fun q => q (Or.inl c3)) (fun q => c5 (ho.mp q))), if_neg c4] at hq
    have cc : ∀ (z : q_Z) (nx : Nat) (ops : List Instr) (ls st : List q_V), q_zI n z → q_T 1 (D + 9) qP_X1_one nx ops ls st g (q_zM M (ei z) s) Q → q_S 1 (D + 8) 29 [qR 1 1, qI (o + 1)] g (q_zM M z s) (q_K 1 (D + 9) qP_X1_one nx ops ls st Q) := fun z nx ops ls st hz h => hei (by omega) z s _ hz h
    simp (disch := omega) only [b_X1_one_0, x_loadR_0, x_loadS_0, f_1_5, x_iconst, y_ic_eq_t, y_ic_eq_f, b_X1_one_9, y_ic_ne_t, y_ic_ne_f, b_X1_one_18, b_X1_one_28, x_goto, b_X1_one_32, b_X1_one_33, f_1_6, x_vret, b_X1_one_45, b_X1_one_54, b_X1_one_63, x_loadI_1, y_ic_lt_t, y_ic_lt_f, b_X1_one_68, b_X1_one_73, b_X1_one_82, b_X1_one_86, b_X1_one_87, x_storeI_2, x_loadI_2, y_if_eq_t, y_if_eq_f, b_X1_one_96, x_iadd, b_X1_one_112, b_X1_one_125, q_isL_I, q_isL_R, q_isL_S, true_and, and_true, and_self, List.length_nil, List.length_cons, Nat.zero_add, x_K, x_Kn, Int.reduceToNat, Nat.reduceAdd, Nat.reduceMul, Nat.reduceLeDiff, Nat.reduceLT, Nat.zero_le, Int.reduceAdd, Int.reduceSub, Int.reduceMul, Int.reduceNeg, q_add_e, q_sub_e, q_mul_e, q_neg_e, q_upd_s, q_upd_n, zr_shr0, zr_shr1, zr_shr2, zr_shr3, zr_shr4, zr_and, zr_dyn8, zr_or, zr_shl, q_cpy_n, y_cpy26, rz_tok, c_X1_next]
    refine nc z _ _ _ _ hz ?_
    simp (disch := omega) only [b_X1_one_0, x_loadR_0, x_loadS_0, f_1_5, x_iconst, y_ic_eq_t, y_ic_eq_f, b_X1_one_9, y_ic_ne_t, y_ic_ne_f, b_X1_one_18, b_X1_one_28, x_goto, b_X1_one_32, b_X1_one_33, f_1_6, x_vret, b_X1_one_45, b_X1_one_54, b_X1_one_63, x_loadI_1, y_ic_lt_t, y_ic_lt_f, b_X1_one_68, b_X1_one_73, b_X1_one_82, b_X1_one_86, b_X1_one_87, x_storeI_2, x_loadI_2, y_if_eq_t, y_if_eq_f, b_X1_one_96, x_iadd, b_X1_one_112, b_X1_one_125, q_isL_I, q_isL_R, q_isL_S, true_and, and_true, and_self, List.length_nil, List.length_cons, Nat.zero_add, x_K, x_Kn, Int.reduceToNat, Nat.reduceAdd, Nat.reduceMul, Nat.reduceLeDiff, Nat.reduceLT, Nat.zero_le, Int.reduceAdd, Int.reduceSub, Int.reduceMul, Int.reduceNeg, q_add_e, q_sub_e, q_mul_e, q_neg_e, q_upd_s, q_upd_n, zr_shr0, zr_shr1, zr_shr2, zr_shr3, zr_shr4, zr_and, zr_dyn8, zr_or, zr_shl, q_cpy_n, y_cpy26, c_X1_either]
    refine cc _ _ _ _ _ z1 ?_
    simp (disch := omega) only [b_X1_one_0, x_loadR_0, x_loadS_0, f_1_5, x_iconst, y_ic_eq_t, y_ic_eq_f, b_X1_one_9, y_ic_ne_t, y_ic_ne_f, b_X1_one_18, b_X1_one_28, x_goto, b_X1_one_32, b_X1_one_33, f_1_6, x_vret, b_X1_one_45, b_X1_one_54, b_X1_one_63, x_loadI_1, y_ic_lt_t, y_ic_lt_f, b_X1_one_68, b_X1_one_73, b_X1_one_82, b_X1_one_86, b_X1_one_87, x_storeI_2, x_loadI_2, y_if_eq_t, y_if_eq_f, b_X1_one_96, x_iadd, b_X1_one_112, b_X1_one_125, q_isL_I, q_isL_R, q_isL_S, true_and, and_true, and_self, List.length_nil, List.length_cons, Nat.zero_add, x_K, x_Kn, Int.reduceToNat, Nat.reduceAdd, Nat.reduceMul, Nat.reduceLeDiff, Nat.reduceLT, Nat.zero_le, Int.reduceAdd, Int.reduceSub, Int.reduceMul, Int.reduceNeg, q_add_e, q_sub_e, q_mul_e, q_neg_e, q_upd_s, q_upd_n, zr_shr0, zr_shr1, zr_shr2, zr_shr3, zr_shr4, zr_and, zr_dyn8, zr_or, zr_shl, q_cpy_n, y_cpy26, c_X1_expect]
    refine xc _ _ _ _ _ _ (hEI _ z1) ?_
    simp (disch := omega) only [b_X1_one_0, x_loadR_0, x_loadS_0, f_1_5, x_iconst, y_ic_eq_t, y_ic_eq_f, b_X1_one_9, y_ic_ne_t, y_ic_ne_f, b_X1_one_18, b_X1_one_28, x_goto, b_X1_one_32, b_X1_one_33, f_1_6, x_vret, b_X1_one_45, b_X1_one_54, b_X1_one_63, x_loadI_1, y_ic_lt_t, y_ic_lt_f, b_X1_one_68, b_X1_one_73, b_X1_one_82, b_X1_one_86, b_X1_one_87, x_storeI_2, x_loadI_2, y_if_eq_t, y_if_eq_f, b_X1_one_96, x_iadd, b_X1_one_112, b_X1_one_125, q_isL_I, q_isL_R, q_isL_S, true_and, and_true, and_self, List.length_nil, List.length_cons, Nat.zero_add, x_K, x_Kn, Int.reduceToNat, Nat.reduceAdd, Nat.reduceMul, Nat.reduceLeDiff, Nat.reduceLT, Nat.zero_le, Int.reduceAdd, Int.reduceSub, Int.reduceMul, Int.reduceNeg, q_add_e, q_sub_e, q_mul_e, q_neg_e, q_upd_s, q_upd_n, zr_shr0, zr_shr1, zr_shr2, zr_shr3, zr_shr4, zr_and, zr_dyn8, zr_or, zr_shl, q_cpy_n, y_cpy26]
    exact hq
  · rw [if_pos (Or.inl (fun q => q.elim c3 c4))] at hq
    simp (disch := omega) only [b_X1_one_0, x_loadR_0, x_loadS_0, f_1_5, x_iconst, y_ic_eq_t, y_ic_eq_f, b_X1_one_9, y_ic_ne_t, y_ic_ne_f, b_X1_one_18, b_X1_one_28, x_goto, b_X1_one_32, b_X1_one_33, f_1_6, x_vret, b_X1_one_45, b_X1_one_54, b_X1_one_63, x_loadI_1, y_ic_lt_t, y_ic_lt_f, b_X1_one_68, b_X1_one_73, b_X1_one_82, b_X1_one_86, b_X1_one_87, x_storeI_2, x_loadI_2, y_if_eq_t, y_if_eq_f, b_X1_one_96, x_iadd, b_X1_one_112, b_X1_one_125, q_isL_I, q_isL_R, q_isL_S, true_and, and_true, and_self, List.length_nil, List.length_cons, Nat.zero_add, x_K, x_Kn, Int.reduceToNat, Nat.reduceAdd, Nat.reduceMul, Nat.reduceLeDiff, Nat.reduceLT, Nat.zero_le, Int.reduceAdd, Int.reduceSub, Int.reduceMul, Int.reduceNeg, q_add_e, q_sub_e, q_mul_e, q_neg_e, q_upd_s, q_upd_n, zr_shr0, zr_shr1, zr_shr2, zr_shr3, zr_shr4, zr_and, zr_dyn8, zr_or, zr_shl, q_cpy_n, y_cpy26, rz_tok, c_X1_fail]
    refine fl z _ _ _ _ ?_
    simp (disch := omega) only [b_X1_one_0, x_loadR_0, x_loadS_0, f_1_5, x_iconst, y_ic_eq_t, y_ic_eq_f, b_X1_one_9, y_ic_ne_t, y_ic_ne_f, b_X1_one_18, b_X1_one_28, x_goto, b_X1_one_32, b_X1_one_33, f_1_6, x_vret, b_X1_one_45, b_X1_one_54, b_X1_one_63, x_loadI_1, y_ic_lt_t, y_ic_lt_f, b_X1_one_68, b_X1_one_73, b_X1_one_82, b_X1_one_86, b_X1_one_87, x_storeI_2, x_loadI_2, y_if_eq_t, y_if_eq_f, b_X1_one_96, x_iadd, b_X1_one_112, b_X1_one_125, q_isL_I, q_isL_R, q_isL_S, true_and, and_true, and_self, List.length_nil, List.length_cons, Nat.zero_add, x_K, x_Kn, Int.reduceToNat, Nat.reduceAdd, Nat.reduceMul, Nat.reduceLeDiff, Nat.reduceLT, Nat.zero_le, Int.reduceAdd, Int.reduceSub, Int.reduceMul, Int.reduceNeg, q_add_e, q_sub_e, q_mul_e, q_neg_e, q_upd_s, q_upd_n, zr_shr0, zr_shr1, zr_shr2, zr_shr3, zr_shr4, zr_and, zr_dyn8, zr_or, zr_shl, q_cpy_n, y_cpy26]
    exact hq
/-- what the three of a level owe, at an open count o, from the depth D -/
def q_lvS (M : q_M) (g : q_G) (n D : Nat) (o : Int) (p : (q_Z → q_Z) × (q_Z → q_Z) × (q_Z → q_Z)) : Prop :=
  (∀ (z : q_Z) (s : Nat → Int) (Q : Option q_V → q_G → q_M → Prop), q_zI n z → Q none g (q_zM M (p.1 z) s) → q_S 1 (D + 9) 34 [qR 1 1, qI o] g (q_zM M z s) Q) ∧
  (∀ (z : q_Z) (s : Nat → Int) (Q : Option q_V → q_G → q_M → Prop), q_zI n z → Q none g (q_zM M (p.2.1 z) s) → q_S 1 (D + 12) 31 [qR 1 1, qI o] g (q_zM M z s) Q) ∧
  (∀ (z : q_Z) (s : Nat → Int) (Q : Option q_V → q_G → q_M → Prop), q_zI n z → Q none g (q_zM M (p.2.2 z) s) → q_S 1 (D + 14) 29 [qR 1 1, qI o] g (q_zM M z s) Q)
theorem sp_mk {D n : Nat} {o : Int} {r0 : Bool} {g : q_G} {M : q_M} {p : (q_Z → q_Z) × (q_Z → q_Z) × (q_Z → q_Z)} (hn : M 1 1 = n) (hn2 : n ≤ 160) (ho : r0 = true ↔ 5 ≤ o) (ho0 : 0 ≤ o ∧ o ≤ 5) (hp : q_pI n p)
    (h1 : o < 5 → ∀ (z : q_Z) (s : Nat → Int) (Q : Option q_V → q_G → q_M → Prop), q_zI n z → Q none g (q_zM M (p.1 z) s) → q_S 1 (D + 8) 34 [qR 1 1, qI (o + 1)] g (q_zM M z s) Q)
    (h2 : o < 5 → ∀ (z : q_Z) (s : Nat → Int) (Q : Option q_V → q_G → q_M → Prop), q_zI n z → Q none g (q_zM M (p.2.1 z) s) → q_S 1 (D + 11) 31 [qR 1 1, qI (o + 1)] g (q_zM M z s) Q)
    (h3 : o < 5 → ∀ (z : q_Z) (s : Nat → Int) (Q : Option q_V → q_G → q_M → Prop), q_zI n z → Q none g (q_zM M (p.2.2 z) s) → q_S 1 (D + 8) 29 [qR 1 1, qI (o + 1)] g (q_zM M z s) Q) : q_lvS M g n D o (R_mk (M 2) n r0 p) := by
  have hI := R_mk_I (T := M 2) (r0 := r0) hp
  have s1 := sp_one (D := D) (g := g) hn hn2 ho ho0 hp.1 hp.2.2 h1 h3
  have I1 : ∀ z, q_zI n z → q_zI n (R_on (M 2) n r0 p.1 p.2.2 z) := R_on_I hp.1 hp.2.2
  have s2 := sp_term (D := D + 1) (g := g) (o := o) hn hn2 I1 s1
  have I2 := R_te_I (T := M 2) I1
  have s3 := sp_sum (D := D + 2) (g := g) (o := o) hn hn2 I2 s2
  have I3 := R_su_I (T := M 2) I2
  have s4 := sp_not (D := D) (g := g) hn hn2 ho ho0 hp.2.1 I3 h2 s3
  have I4 : ∀ z, q_zI n z → q_zI n (R_no (M 2) n r0 p.2.1 (R_su (M 2) n (R_te (M 2) n (R_on (M 2) n r0 p.1 p.2.2))) z) := R_no_I hp.2.1 I3
  have s5 := sp_both (D := D + 4) (g := g) (o := o) hn hn2 I4 s4
  have I5 := R_bo_I (T := M 2) I4
  have s6 := sp_either (D := D + 5) (g := g) (o := o) hn hn2 I5 s5
  exact ⟨s1, s4, s6⟩
theorem sp_lv {n : Nat} {g : q_G} {M : q_M} (hn : M 1 1 = n) (hn2 : n ≤ 160) : ∀ (r : Nat) (d : Nat), r ≤ 5 → q_lvS M g n (d + 6 * r) (5 - r) (R_lv (M 2) n r)
  | 0, d, _ => by
    refine sp_mk (r0 := true) hn hn2 ⟨fun _ => by omega, fun _ => rfl⟩ (by omega) ⟨fun _ h => h, fun _ h => h, fun _ h => h⟩ (fun h => absurd h (by omega)) (fun h => absurd h (by omega)) (fun h => absurd h (by omega))
  | r + 1, d, hr => by
    have a := sp_lv (g := g) hn hn2 r (d + 5) (by omega)
    have b := sp_lv (g := g) hn hn2 r d (by omega)
    have e : (5 : Int) - (r + 1 : Nat) + 1 = 5 - r := by omega
    refine sp_mk (r0 := false) hn hn2 ⟨fun h => absurd h (by decide), fun h => absurd h (by omega)⟩ (by omega) (R_lv_I r) (fun _ => ?_) (fun _ => ?_) (fun _ => ?_)
    · have := a.1
      rw [show d + 5 + 6 * r + 9 = d + 6 * (r + 1) + 8 by omega, ← e] at this
      exact this
    · have := a.2.1
      rw [show d + 5 + 6 * r + 12 = d + 6 * (r + 1) + 11 by omega, ← e] at this
      exact this
    · have := b.2.2
      rw [show d + 6 * r + 14 = d + 6 * (r + 1) + 8 by omega, ← e] at this
      exact this
end
section
/-! THE CLASS'S READER: a part, the whole; a text made of it -/
theorem q_zM_self {M : q_M} : q_zM M (M 1 3, M 1 5, M 1 6, M 1 7, M 1 8, M 1 9, M 3) (M 4) = M := by
  funext a i
  unfold q_zM
  by_cases c : a = 1
  · rw [if_pos c, c]
    simp only
    by_cases k3 : i = 3
    · rw [if_pos k3, k3]
    rw [if_neg k3]
    by_cases k5 : i = 5
    · rw [if_pos k5, k5]
    rw [if_neg k5]
    by_cases k6 : i = 6
    · rw [if_pos k6, k6]
    rw [if_neg k6]
    by_cases k7 : i = 7
    · rw [if_pos k7, k7]
    rw [if_neg k7]
    by_cases k8 : i = 8
    · rw [if_pos k8, k8]
    rw [if_neg k8]
    by_cases k9 : i = 9
    · rw [if_pos k9, k9]
    rw [if_neg k9]
  · rw [if_neg c]
    by_cases c3 : a = 3
    · rw [if_pos c3, c3]
    rw [if_neg c3]
    by_cases c4 : a = 4
    · rw [if_pos c4, c4]
    rw [if_neg c4]
set_option maxHeartbeats 4000000 in
theorem sp_part {d n p : Nat} {key : Int} {g : q_G} {M : q_M} {z : q_Z} {s : Nat → Int} {Q : Option q_V → q_G → q_M → Prop} (hn : M 1 1 = n) (hn2 : n ≤ 160) (hp : p < 3) (hz : q_zI n z) (hq : Q none g (q_zM M (R_pt (M 2) n key z) (F_u s p (R_ex (M 2) n key z).1))) : q_S 1 (d + 45) 25 [qR 1 1, qI p, qI key] g (q_zM M z s) Q := by
  have z1 := R_ex_I (T := M 2) (w := key) hz
  have z2 := (R_lv_I (T := M 2) 5).2.2 _ z1
  have z3 := R_ex_I (T := M 2) (w := 59) z2
  have ex : ∀ (z : q_Z) (s : Nat → Int) (w : Int) (nx : Nat) (ops : List Instr) (ls st : List q_V), q_zI n z → q_T 1 (d + 45) qP_X1_part nx ops ls st g (q_zM M (R_ex (M 2) n w z) s) Q → q_S 1 (d + 44) 26 [qR 1 1, qI w] g (q_zM M z s) (q_K 1 (d + 45) qP_X1_part nx ops ls st Q) := fun z s w nx ops ls st hz h => sp_expect hn hn2 hz h
  have em : ∀ (z : q_Z) (s : Nat → Int) (a b : Int) (nx : Nat) (ops : List Instr) (ls st : List q_V), q_zI n z → q_T 1 (d + 45) qP_X1_part nx ops ls st g (q_zM M (R_em a b z) s) Q → q_S 1 (d + 44) 28 [qR 1 1, qI a, qI b] g (q_zM M z s) (q_K 1 (d + 45) qP_X1_part nx ops ls st Q) := fun z s a b nx ops ls st hz h => sp_emit hz h
  have ei : ∀ (z : q_Z) (s : Nat → Int) (nx : Nat) (ops : List Instr) (ls st : List q_V), q_zI n z → q_T 1 (d + 45) qP_X1_part nx ops ls st g (q_zM M ((R_lv (M 2) n 5).2.2 z) s) Q → q_S 1 (d + 44) 29 [qR 1 1, qI 0] g (q_zM M z s) (q_K 1 (d + 45) qP_X1_part nx ops ls st Q) := fun z s nx ops ls st hz h => (sp_lv (g := g) hn hn2 5 d (by omega)).2.2 z s _ hz h
  rw [s_X1_part]
  simp (disch := omega) only [b_X1_part_0, x_loadR_0, x_loadS_0, x_loadI_2, f_1_4, x_loadI_1, f_1_3, y_iast_23, x_iconst, x_vret, q_isL_I, q_isL_R, q_isL_S, true_and, and_true, and_self, List.length_nil, List.length_cons, Nat.zero_add, x_K, x_Kn, Int.reduceToNat, Nat.reduceAdd, Nat.reduceMul, Nat.reduceLeDiff, Nat.reduceLT, Nat.zero_le, Int.reduceAdd, Int.reduceSub, Int.reduceMul, Int.reduceNeg, q_add_e, q_sub_e, q_mul_e, q_neg_e, q_upd_s, q_upd_n, zr_shr0, zr_shr1, zr_shr2, zr_shr3, zr_shr4, zr_and, zr_dyn8, zr_or, zr_shl, q_cpy_n, y_cpy26, c_X1_expect]
  refine ex z s key _ _ _ _ hz ?_
  simp (disch := omega) only [b_X1_part_0, x_loadR_0, x_loadS_0, x_loadI_2, f_1_4, x_loadI_1, f_1_3, y_iast_23, x_iconst, x_vret, q_isL_I, q_isL_R, q_isL_S, true_and, and_true, and_self, List.length_nil, List.length_cons, Nat.zero_add, x_K, x_Kn, Int.reduceToNat, Nat.reduceAdd, Nat.reduceMul, Nat.reduceLeDiff, Nat.reduceLT, Nat.zero_le, Int.reduceAdd, Int.reduceSub, Int.reduceMul, Int.reduceNeg, q_add_e, q_sub_e, q_mul_e, q_neg_e, q_upd_s, q_upd_n, zr_shr0, zr_shr1, zr_shr2, zr_shr3, zr_shr4, zr_and, zr_dyn8, zr_or, zr_shl, q_cpy_n, y_cpy26, Int.toNat_natCast, rz_cn, ruz_s, c_X1_either]
  refine ei _ _ _ _ _ _ z1 ?_
  simp (disch := omega) only [b_X1_part_0, x_loadR_0, x_loadS_0, x_loadI_2, f_1_4, x_loadI_1, f_1_3, y_iast_23, x_iconst, x_vret, q_isL_I, q_isL_R, q_isL_S, true_and, and_true, and_self, List.length_nil, List.length_cons, Nat.zero_add, x_K, x_Kn, Int.reduceToNat, Nat.reduceAdd, Nat.reduceMul, Nat.reduceLeDiff, Nat.reduceLT, Nat.zero_le, Int.reduceAdd, Int.reduceSub, Int.reduceMul, Int.reduceNeg, q_add_e, q_sub_e, q_mul_e, q_neg_e, q_upd_s, q_upd_n, zr_shr0, zr_shr1, zr_shr2, zr_shr3, zr_shr4, zr_and, zr_dyn8, zr_or, zr_shl, q_cpy_n, y_cpy26, c_X1_expect]
  refine ex _ _ _ _ _ _ _ z2 ?_
  simp (disch := omega) only [b_X1_part_0, x_loadR_0, x_loadS_0, x_loadI_2, f_1_4, x_loadI_1, f_1_3, y_iast_23, x_iconst, x_vret, q_isL_I, q_isL_R, q_isL_S, true_and, and_true, and_self, List.length_nil, List.length_cons, Nat.zero_add, x_K, x_Kn, Int.reduceToNat, Nat.reduceAdd, Nat.reduceMul, Nat.reduceLeDiff, Nat.reduceLT, Nat.zero_le, Int.reduceAdd, Int.reduceSub, Int.reduceMul, Int.reduceNeg, q_add_e, q_sub_e, q_mul_e, q_neg_e, q_upd_s, q_upd_n, zr_shr0, zr_shr1, zr_shr2, zr_shr3, zr_shr4, zr_and, zr_dyn8, zr_or, zr_shl, q_cpy_n, y_cpy26, c_X1_emit]
  refine em _ _ _ _ _ _ _ _ z3 ?_
  simp (disch := omega) only [b_X1_part_0, x_loadR_0, x_loadS_0, x_loadI_2, f_1_4, x_loadI_1, f_1_3, y_iast_23, x_iconst, x_vret, q_isL_I, q_isL_R, q_isL_S, true_and, and_true, and_self, List.length_nil, List.length_cons, Nat.zero_add, x_K, x_Kn, Int.reduceToNat, Nat.reduceAdd, Nat.reduceMul, Nat.reduceLeDiff, Nat.reduceLT, Nat.zero_le, Int.reduceAdd, Int.reduceSub, Int.reduceMul, Int.reduceNeg, q_add_e, q_sub_e, q_mul_e, q_neg_e, q_upd_s, q_upd_n, zr_shr0, zr_shr1, zr_shr2, zr_shr3, zr_shr4, zr_and, zr_dyn8, zr_or, zr_shl, q_cpy_n, y_cpy26]
  exact hq
theorem R_nx_I0 {T : Nat → Int} {n : Nat} {tok val fr : Int} {C : Nat → Int} : q_zI n (R_nx T n (0, tok, val, fr, 0, -1, C)) := by
  unfold R_nx
  simp only
  rw [if_neg (by omega)]
  have hw := F_wh_le (P := F_blk) (T := T) (n - (0 : Int).toNat) (0 : Int).toNat
  have e0 : (0 : Int).toNat = 0 := rfl
  have hk := R_tk_ok (T := T) (n := n) (i := F_wh F_blk T (n - (0 : Int).toNat) (0 : Int).toNat) (v := val) (by omega)
  refine ⟨⟨by show (0 : Int) ≤ 0; omega, by show (0 : Int) ≤ 160; omega⟩, ⟨?_, ?_⟩, ⟨?_, ?_⟩, ⟨by show (-1 : Int) ≤ -1; omega, by show (-1 : Int) ≤ n; omega⟩, fun i hi => absurd hi (Nat.not_lt_zero i), hk.1⟩
  · show (0 : Int) ≤ ((F_wh F_blk T (n - (0 : Int).toNat) (0 : Int).toNat : Nat) : Int)
    omega
  · show ((F_wh F_blk T (n - (0 : Int).toNat) (0 : Int).toNat : Nat) : Int) ≤ n
    omega
  · show (0 : Int) ≤ (((R_tk T n (F_wh F_blk T (n - (0 : Int).toNat) (0 : Int).toNat) val).2.2 : Nat) : Int)
    omega
  · show (((R_tk T n (F_wh F_blk T (n - (0 : Int).toNat) (0 : Int).toNat) val).2.2 : Nat) : Int) ≤ n
    omega
/-- the whole: what the three parts and the end come to -/
def R_z2 (T : Nat → Int) (n : Nat) (z : q_Z) : q_Z := R_pt T n (-5) z
def R_z3 (T : Nat → Int) (n : Nat) (z : q_Z) : q_Z := R_pt T n (-6) (R_z2 T n z)
def R_z4 (T : Nat → Int) (n : Nat) (z : q_Z) : q_Z := R_pt T n (-7) (R_z3 T n z)
def R_z5 (T : Nat → Int) (n : Nat) (z : q_Z) : q_Z := R_ex T n (-2) (R_z4 T n z)
def R_st (T : Nat → Int) (n : Nat) (z : q_Z) (s : Nat → Int) : Nat → Int := F_u (F_u (F_u s 0 (R_ex T n (-5) z).1) 1 (R_ex T n (-6) (R_z2 T n z)).1) 2 (R_ex T n (-7) (R_z3 T n z)).1
/-- the first token of the tape, read over what the reader held -/
def R_z1 (M : q_M) (n : Nat) : q_Z := R_nx (M 2) n (0, M 1 5, M 1 6, M 1 7, 0, -1, M 3)
theorem R_z5_I {T : Nat → Int} {n : Nat} {z : q_Z} (h : q_zI n z) : q_zI n (R_z5 T n z) := R_ex_I (R_pt_I (R_pt_I (R_pt_I h)))
set_option maxHeartbeats 4000000 in
theorem sp_read {d n : Nat} {g : q_G} {M : q_M} {Q : Option q_V → q_G → q_M → Prop} (hn : M 1 1 = n) (hn2 : n ≤ 160) (hq : Q (some (qI (R_z5 (M 2) n (R_z1 M n)).2.2.2.2.2.1)) g (q_zM M (R_z5 (M 2) n (R_z1 M n)) (R_st (M 2) n (R_z1 M n) (M 4)))) : q_S 1 (d + 46) 23 [qR 1 1] g M Q := by
  have pt : ∀ (z : q_Z) (s : Nat → Int) (p : Nat) (key : Int) (nx : Nat) (ops : List Instr) (ls st : List q_V), p < 3 → q_zI n z → q_T 1 (d + 46) qP_X1_read nx ops ls st g (q_zM M (R_pt (M 2) n key z) (F_u s p (R_ex (M 2) n key z).1)) Q → q_S 1 (d + 45) 25 [qR 1 1, qI p, qI key] g (q_zM M z s) (q_K 1 (d + 46) qP_X1_read nx ops ls st Q) := fun z s p key nx ops ls st hp hz h => sp_part hn hn2 hp hz h
  have ex : ∀ (z : q_Z) (s : Nat → Int) (w : Int) (nx : Nat) (ops : List Instr) (ls st : List q_V), q_zI n z → q_T 1 (d + 46) qP_X1_read nx ops ls st g (q_zM M (R_ex (M 2) n w z) s) Q → q_S 1 (d + 45) 26 [qR 1 1, qI w] g (q_zM M z s) (q_K 1 (d + 46) qP_X1_read nx ops ls st Q) := fun z s w nx ops ls st hz h => sp_expect hn hn2 hz h
  have nc : ∀ (nx : Nat) (ops : List Instr) (ls st : List q_V), q_T 1 (d + 46) qP_X1_read nx ops ls st g (q_zM M (R_z1 M n) (M 4)) Q → q_S 1 (d + 45) 35 [qR 1 1] g (q_zM M (0, M 1 5, M 1 6, M 1 7, 0, -1, M 3) (M 4)) (q_K 1 (d + 46) qP_X1_read nx ops ls st Q) := fun nx ops ls st h => sp_next hn hn2 (by show (0 : Int) ≤ 0; omega) (by show (0 : Int) ≤ n; omega) h
  have i1 : q_zI n (R_z1 M n) := R_nx_I0
  have i2 := R_pt_I (T := M 2) (key := -5) i1
  have i3 := R_pt_I (T := M 2) (key := -6) i2
  have i4 := R_pt_I (T := M 2) (key := -7) i3
  have e0 : q_upd (q_upd (q_upd M 1 3 0) 1 9 (-1)) 1 8 0 = q_zM M (0, M 1 5, M 1 6, M 1 7, 0, -1, M 3) (M 4) := by
    conv => lhs; rw [← q_zM_self (M := M)]
    rw [ru_cn, ru_ft, ru_bh]
  rw [s_X1_read]
  simp (disch := omega) only [b_X1_read_0, x_loadR_0, x_loadS_0, x_iconst, p_1_3, p_1_9, p_1_8, f_1_9, x_ret0, q_isL_I, q_isL_R, q_isL_S, true_and, and_true, and_self, List.length_nil, List.length_cons, Nat.zero_add, x_K, x_Kn, Int.reduceToNat, Nat.reduceAdd, Nat.reduceMul, Nat.reduceLeDiff, Nat.reduceLT, Nat.zero_le, Int.reduceAdd, Int.reduceSub, Int.reduceMul, Int.reduceNeg, q_add_e, q_sub_e, q_mul_e, q_neg_e, q_upd_s, q_upd_n, zr_shr0, zr_shr1, zr_shr2, zr_shr3, zr_shr4, zr_and, zr_dyn8, zr_or, zr_shl, q_cpy_n, y_cpy26, e0, c_X1_next]
  refine nc _ _ _ _ ?_
  simp (disch := omega) only [b_X1_read_0, x_loadR_0, x_loadS_0, x_iconst, p_1_3, p_1_9, p_1_8, f_1_9, x_ret0, q_isL_I, q_isL_R, q_isL_S, true_and, and_true, and_self, List.length_nil, List.length_cons, Nat.zero_add, x_K, x_Kn, Int.reduceToNat, Nat.reduceAdd, Nat.reduceMul, Nat.reduceLeDiff, Nat.reduceLT, Nat.zero_le, Int.reduceAdd, Int.reduceSub, Int.reduceMul, Int.reduceNeg, q_add_e, q_sub_e, q_mul_e, q_neg_e, q_upd_s, q_upd_n, zr_shr0, zr_shr1, zr_shr2, zr_shr3, zr_shr4, zr_and, zr_dyn8, zr_or, zr_shl, q_cpy_n, y_cpy26, c_X1_part]
  refine pt _ _ 0 (-5) _ _ _ _ (by omega) i1 ?_
  simp (disch := omega) only [b_X1_read_0, x_loadR_0, x_loadS_0, x_iconst, p_1_3, p_1_9, p_1_8, f_1_9, x_ret0, q_isL_I, q_isL_R, q_isL_S, true_and, and_true, and_self, List.length_nil, List.length_cons, Nat.zero_add, x_K, x_Kn, Int.reduceToNat, Nat.reduceAdd, Nat.reduceMul, Nat.reduceLeDiff, Nat.reduceLT, Nat.zero_le, Int.reduceAdd, Int.reduceSub, Int.reduceMul, Int.reduceNeg, q_add_e, q_sub_e, q_mul_e, q_neg_e, q_upd_s, q_upd_n, zr_shr0, zr_shr1, zr_shr2, zr_shr3, zr_shr4, zr_and, zr_dyn8, zr_or, zr_shl, q_cpy_n, y_cpy26, c_X1_part]
  refine pt _ _ 1 (-6) _ _ _ _ (by omega) i2 ?_
  simp (disch := omega) only [b_X1_read_0, x_loadR_0, x_loadS_0, x_iconst, p_1_3, p_1_9, p_1_8, f_1_9, x_ret0, q_isL_I, q_isL_R, q_isL_S, true_and, and_true, and_self, List.length_nil, List.length_cons, Nat.zero_add, x_K, x_Kn, Int.reduceToNat, Nat.reduceAdd, Nat.reduceMul, Nat.reduceLeDiff, Nat.reduceLT, Nat.zero_le, Int.reduceAdd, Int.reduceSub, Int.reduceMul, Int.reduceNeg, q_add_e, q_sub_e, q_mul_e, q_neg_e, q_upd_s, q_upd_n, zr_shr0, zr_shr1, zr_shr2, zr_shr3, zr_shr4, zr_and, zr_dyn8, zr_or, zr_shl, q_cpy_n, y_cpy26, c_X1_part]
  refine pt _ _ 2 (-7) _ _ _ _ (by omega) i3 ?_
  simp (disch := omega) only [b_X1_read_0, x_loadR_0, x_loadS_0, x_iconst, p_1_3, p_1_9, p_1_8, f_1_9, x_ret0, q_isL_I, q_isL_R, q_isL_S, true_and, and_true, and_self, List.length_nil, List.length_cons, Nat.zero_add, x_K, x_Kn, Int.reduceToNat, Nat.reduceAdd, Nat.reduceMul, Nat.reduceLeDiff, Nat.reduceLT, Nat.zero_le, Int.reduceAdd, Int.reduceSub, Int.reduceMul, Int.reduceNeg, q_add_e, q_sub_e, q_mul_e, q_neg_e, q_upd_s, q_upd_n, zr_shr0, zr_shr1, zr_shr2, zr_shr3, zr_shr4, zr_and, zr_dyn8, zr_or, zr_shl, q_cpy_n, y_cpy26, c_X1_expect]
  refine ex _ _ _ _ _ _ _ i4 ?_
  simp (disch := omega) only [b_X1_read_0, x_loadR_0, x_loadS_0, x_iconst, p_1_3, p_1_9, p_1_8, f_1_9, x_ret0, q_isL_I, q_isL_R, q_isL_S, true_and, and_true, and_self, List.length_nil, List.length_cons, Nat.zero_add, x_K, x_Kn, Int.reduceToNat, Nat.reduceAdd, Nat.reduceMul, Nat.reduceLeDiff, Nat.reduceLT, Nat.zero_le, Int.reduceAdd, Int.reduceSub, Int.reduceMul, Int.reduceNeg, q_add_e, q_sub_e, q_mul_e, q_neg_e, q_upd_s, q_upd_n, zr_shr0, zr_shr1, zr_shr2, zr_shr3, zr_shr4, zr_and, zr_dyn8, zr_or, zr_shl, q_cpy_n, y_cpy26, rz_ft]
  exact hq
end
section
/-! THE CLASS'S READER: a text made -/
theorem q_kd0 {j : Nat} : q_kd (124 + 4 * j) = 10 := by
  unfold q_kd
  rw [if_neg (by omega), if_pos (by omega)]
theorem q_kd1 {j : Nat} : q_kd (124 + 4 * j + 1) = 3 := by
  unfold q_kd
  rw [if_neg (by omega), if_neg (by omega), if_pos (by omega)]
theorem q_kd2 {j : Nat} : q_kd (124 + 4 * j + 1 + 1) = 23 := by
  unfold q_kd
  rw [if_neg (by omega), if_neg (by omega), if_neg (by omega), if_pos (by omega)]
theorem q_kd3 {j : Nat} : q_kd (124 + 4 * j + 1 + 1 + 1) = 60 := by
  unfold q_kd
  rw [if_neg (by omega), if_neg (by omega), if_neg (by omega), if_neg (by omega)]
section MADE
variable {d : Nat} {P : q_P} {nx : Nat} {ops : List Instr} {ls st : List q_V} {M : q_M} {Q : Option q_V → q_G → q_M → Prop} {c sl : Nat}
theorem x_na10 {v : Jvm.ClassFile.ArrayType} {n : Int} (h : q_kd c = 10) (h0 : 0 ≤ n) (h1 : n ≤ 1000) : q_T 1 d P nx (.newarray v :: ops) ls (qI n :: st) (c, sl) M Q = q_T 1 d P nx ops ls (qR 10 c :: st) (c + 1, sl + n.toNat) (q_sM M c (fun i => if i = 1000 then n else 0)) Q := by
  refine q_T_next ?_
  show (if q_isA (q_kd c) = true ∧ 0 ≤ n ∧ n ≤ 100000 ∧ (if q_kd c = 10 then n ≤ 1000 else n = (q_kd c : Int) - 20) then q_go nx ops ls (qR (q_kd c) c :: st) (c + 1, sl + n.toNat) (fun b i => if b = c then (if i = 1000 ∧ q_kd c = 10 then n else 0) else M b i) else none) = _
  rw [h, if_pos ⟨rfl, h0, by omega, by rw [if_pos rfl]; exact h1⟩]
  have e : (fun b i => if b = c then (if i = 1000 ∧ 10 = 10 then n else 0) else M b i) = q_sM M c (fun i => if i = 1000 then n else 0) := by
    funext b i
    unfold q_sM
    simp
  rw [e]
theorem x_na60 {v : Jvm.ClassFile.ArrayType} (h : q_kd c = 60) : q_T 1 d P nx (.newarray v :: ops) ls (qI 40 :: st) (c, sl) M Q = q_T 1 d P nx ops ls (qR 60 c :: st) (c + 1, sl + 40) (q_sM M c (fun _ => 0)) Q := by
  refine q_T_next ?_
  show (if q_isA (q_kd c) = true ∧ (0 : Int) ≤ 40 ∧ (40 : Int) ≤ 100000 ∧ (if q_kd c = 10 then (40 : Int) ≤ 1000 else (40 : Int) = (q_kd c : Int) - 20) then q_go nx ops ls (qR (q_kd c) c :: st) (c + 1, sl + (40 : Int).toNat) (fun b i => if b = c then (if i = 1000 ∧ q_kd c = 10 then (40 : Int) else 0) else M b i) else none) = _
  rw [h, if_pos ⟨rfl, by omega, by omega, by rw [if_neg (by decide)]; decide⟩]
  have e : (fun b i => if b = c then (if i = 1000 ∧ 60 = 10 then (40 : Int) else 0) else M b i) = q_sM M c (fun _ => 0) := by
    funext b i
    unfold q_sM
    simp
  rw [e]
  rfl
theorem x_new3 (h : q_kd c = 3) : q_T 1 d P nx (.new 3 :: ops) ls st (c, sl) M Q = q_T 1 d P nx ops ls (qR 3 c :: st) (c + 1, sl + 4) (q_sM M c (fun i => if (q_ty 1 3 i).1 = 2 then -1 else 0)) Q := by
  refine q_T_next ?_
  show (if 3 < 7 ∧ q_kd c = 3 ∧ (1 = 0 ∨ 3 = 3) then q_go nx ops ls (qR 3 c :: st) (c + 1, sl + q_nf 3) (fun b i => if b = c then (if (q_ty 1 3 i).1 = 2 then -1 else 0) else M b i) else none) = _
  rw [if_pos ⟨by decide, h, Or.inr rfl⟩]
  rfl
theorem x_cln {a : Nat} (h : q_kd c = 23) : q_T 1 d P nx (.swap :: ops) ls (qR 23 a :: st) (c, sl) M Q = (st.length ≤ 6 ∧ q_T 1 d P nx ops ls (qR 23 c :: st) (c + 1, sl + 3) (q_sM M c (M a)) Q) := by
  refine q_T_if ?_
  show (if 20 ≤ 23 ∧ q_kd c = 23 ∧ st.length ≤ 6 then q_go nx ops ls (qR 23 c :: st) (c + 1, sl + (23 - 20)) (fun b i => if b = c then M a i else M b i) else none) = _
  rw [h]
  by_cases k : st.length ≤ 6
  · rw [if_pos ⟨by decide, rfl, k⟩, if_pos k]
    rfl
  · rw [if_neg (fun z => k z.2.2), if_neg k]
theorem x_cst {g : q_G} {a : Nat} : q_T 1 d P nx (.nop :: ops) ls (qR 23 a :: st) g M Q = q_T 1 d P nx ops ls (qR 23 a :: st) g M Q := q_T_next rfl
theorem p_3_1 {g : q_G} {a b : Nat} : q_T 1 d P nx (.putfield 301 :: ops) ls (qR 10 b :: qR 3 a :: st) g M Q = (b < 2147483648 ∧ q_T 1 d P nx ops ls st g (q_upd M a 1 b) Q) := q_put_ref (c := 301) (by decide) (by decide) (by decide)
theorem p_3_2 {g : q_G} {a b : Nat} : q_T 1 d P nx (.putfield 302 :: ops) ls (qR 23 b :: qR 3 a :: st) g M Q = (b < 2147483648 ∧ q_T 1 d P nx ops ls st g (q_upd M a 2 b) Q) := q_put_ref (c := 302) (by decide) (by decide) (by decide)
theorem p_3_3 {g : q_G} {a b : Nat} : q_T 1 d P nx (.putfield 303 :: ops) ls (qR 60 b :: qR 3 a :: st) g M Q = (b < 2147483648 ∧ q_T 1 d P nx ops ls st g (q_upd M a 3 b) Q) := q_put_ref (c := 303) (by decide) (by decide) (by decide)
theorem x_aast8 {g : q_G} {a b : Nat} {j : Int} (h0 : 0 ≤ j) (h1 : j < 6) (h2 : b < 2147483648) : q_T 1 d P nx (.aastore :: ops) ls (qR 3 b :: qI j :: qR 8 a :: st) g M Q = q_T 1 d P nx ops ls st g (q_upd M a j.toNat b) Q := by
  refine q_T_next ?_
  show (if (8 = 8 ∨ 8 = 9) ∧ 0 ≤ j ∧ j < q_len 8 a M ∧ (q_ty 1 8 j.toNat).1 = 2 ∧ (q_ty 1 8 j.toNat).2.1 = 3 ∧ b < 2147483648 then q_go nx ops ls st g (q_upd M a j.toNat b) else none) = _
  rw [if_pos ⟨Or.inl rfl, h0, h1, rfl, rfl, h2⟩]
end MADE
theorem sp_textInit {d c sl w ca sa : Nat} {x : Int} {M : q_M} {Q : Option q_V → q_G → q_M → Prop} (h : q_kd c = 60) (hc : c < 100000) (hca : ca < 100000) (hsa : sa < 100000) (hq : Q none (c + 1, sl + 40) (q_upd (q_upd (q_upd (q_upd (q_sM M c (fun _ => 0)) w 3 c) w 0 x) w 1 ca) w 2 sa)) : q_S 1 d 46 [qR 3 w, qI x, qR 10 ca, qR 23 sa] (c, sl) M Q := by
  have e1 : c < 2147483648 := by omega
  have e2 : ca < 2147483648 := by omega
  have e3 : sa < 2147483648 := by omega
  rw [s_X3_init]
  simp (disch := omega) only [b_X3_init_0, x_loadR_0, x_loadS_0, x_objInit, x_iconst, p_3_3, x_loadI_1, p_3_0, x_loadR_2, x_loadS_2, p_3_1, x_loadR_3, x_loadS_3, p_3_2, x_vret, q_isL_I, q_isL_R, q_isL_S, true_and, and_true, and_self, List.length_nil, List.length_cons, Nat.zero_add, x_K, x_Kn, Int.reduceToNat, Nat.reduceAdd, Nat.reduceMul, Nat.reduceLeDiff, Nat.reduceLT, Nat.zero_le, Int.reduceAdd, Int.reduceSub, Int.reduceMul, Int.reduceNeg, q_add_e, q_sub_e, q_mul_e, q_neg_e, q_upd_s, q_upd_n, zr_shr0, zr_shr1, zr_shr2, zr_shr3, zr_shr4, zr_and, zr_dyn8, zr_or, zr_shl, q_cpy_n, y_cpy26, x_na60, h, p_3_1, p_3_2, p_3_3, e1, e2, e3, Nat.zero_le]
  exact hq
/-- a text's cells, made at 124 + 4 j of the code C, so long, and the starts s -/
def q_mdM (M M2 : q_M) (j : Nat) (number len : Int) (C s : Nat → Int) : Prop :=
  (∀ a i, (a < 124 + 4 * j ∨ 127 + 4 * j < a) → M2 a i = M a i) ∧ (∀ i : Nat, (i : Int) < len → i < 160 → M2 (124 + 4 * j) i = C i) ∧ M2 (124 + 4 * j) 1000 = len ∧ M2 (125 + 4 * j) 0 = number ∧ M2 (125 + 4 * j) 1 = ((124 + 4 * j : Nat) : Int) ∧ M2 (125 + 4 * j) 2 = ((126 + 4 * j : Nat) : Int) ∧ M2 (125 + 4 * j) 3 = ((127 + 4 * j : Nat) : Int) ∧ (∀ i, M2 (126 + 4 * j) i = s i)
set_option maxHeartbeats 4000000 in
theorem sp_made {d j sl : Nat} {number : Int} {M : q_M} {Q : Option q_V → q_G → q_M → Prop} (hj : j < 100) (h0 : 0 ≤ M 1 3) (h1 : M 1 3 ≤ 160) (hq : ∀ M2 : q_M, q_mdM M M2 j number (M 1 3) (M 3) (M 4) → Q (some (qR 3 (125 + 4 * j))) (124 + 4 * (j + 1), sl + (M 1 3).toNat + 47) M2) : q_S 1 (d + 1) 24 [qR 1 1, qI number] (124 + 4 * j, sl) M Q := by
  have k0 := q_kd0 (j := j)
  have k1 := q_kd1 (j := j)
  have k2 := q_kd2 (j := j)
  have k3 := q_kd3 (j := j)
  have hl : ∀ (n : Int) (X : q_M), q_len 10 (124 + 4 * j) (q_sM X (124 + 4 * j) (fun i => if i = 1000 then n else 0)) = n := fun n X => by
    show q_sM X (124 + 4 * j) (fun i => if i = 1000 then n else 0) (124 + 4 * j) 1000 = n
    rw [q_sM_s, if_pos rfl]
  have hl2 : ∀ X : q_M, q_len 180 3 X = 160 := fun _ => rfl
  have hA : q_isA 180 = true := rfl
  have hB : q_isA 10 = true := rfl
  have r3 : ∀ (f : Nat → Int), q_sM M (124 + 4 * j) f 1 3 = M 1 3 := fun f => q_sM_n (by omega)
  have hb : 0 ≤ M 1 3 ∧ M 1 3 ≤ 160 ∧ 0 + M 1 3 ≤ 160 ∧ 0 + M 1 3 ≤ M 1 3 := by omega
  rw [s_X1_made]
  simp (disch := omega) only [b_X1_made_0, x_loadR_0, x_loadS_0, f_1_3, x_storeR_2, f_1_2, x_iconst, x_loadR_2, x_loadS_2, x_dupI, x_dupR, x_loadI_1, f_1_4, x_aret, q_isL_I, q_isL_R, q_isL_S, true_and, and_true, and_self, List.length_nil, List.length_cons, Nat.zero_add, x_K, x_Kn, Int.reduceToNat, Nat.reduceAdd, Nat.reduceMul, Nat.reduceLeDiff, Nat.reduceLT, Nat.zero_le, Int.reduceAdd, Int.reduceSub, Int.reduceMul, Int.reduceNeg, q_add_e, q_sub_e, q_mul_e, q_neg_e, q_upd_s, q_upd_n, zr_shr0, zr_shr1, zr_shr2, zr_shr3, zr_shr4, zr_and, zr_dyn8, zr_or, zr_shl, q_cpy_n, x_na10, k0, x_cpy, hl, hl2, hA, hB, r3, hb, Int.le_refl, Nat.zero_le, x_new3, k1, x_cln, k2, x_cst, c_X3_init]
  refine sp_textInit (c := 124 + 4 * j + 1 + 1 + 1) k3 (by omega) (by omega) (by omega) ?_
  simp (disch := omega) only [b_X1_made_0, x_loadR_0, x_loadS_0, f_1_3, x_storeR_2, f_1_2, x_iconst, x_loadR_2, x_loadS_2, y_cpy26, x_dupI, x_dupR, x_loadI_1, f_1_4, x_aret, q_isL_I, q_isL_R, q_isL_S, true_and, and_true, and_self, List.length_nil, List.length_cons, Nat.zero_add, x_K, x_Kn, Int.reduceToNat, Nat.reduceAdd, Nat.reduceMul, Nat.reduceLeDiff, Nat.reduceLT, Nat.zero_le, Int.reduceAdd, Int.reduceSub, Int.reduceMul, Int.reduceNeg, q_add_e, q_sub_e, q_mul_e, q_neg_e, q_upd_s, q_upd_n, zr_shr0, zr_shr1, zr_shr2, zr_shr3, zr_shr4, zr_and, zr_dyn8, zr_or, zr_shl, q_cpy_n, y_cpy26]
  have e1 : sl + (M 1 3).toNat + 4 + 3 + 40 = sl + (M 1 3).toNat + 47 := by omega
  have e2 : 124 + 4 * j + 1 + 1 + 1 + 1 = 124 + 4 * (j + 1) := by omega
  have e3 : 124 + 4 * j + 1 = 125 + 4 * j := by omega
  rw [e1, e2, e3]
  refine hq _ ⟨?_, ?_, ?_, ?_, ?_, ?_, ?_, ?_⟩
  · intro a i ha
    simp (disch := omega) only [q_upd_n, q_sM_n, q_cpy_n]
  · intro i hi hi2
    simp (disch := omega) only [q_upd_n, q_sM_n, q_cpy_i, Nat.sub_zero, Nat.zero_add]
  · simp (disch := omega) only [q_upd_n, q_sM_n, q_cpy_n, q_sM_s, if_true]
  · simp (disch := omega) only [q_upd_n, q_upd_s]
  · simp (disch := omega) only [q_upd_n, q_upd_s]
  · simp (disch := omega) only [q_upd_n, q_upd_s]
    omega
  · simp (disch := omega) only [q_upd_n, q_upd_s]
    omega
  · intro i
    have e4 : 126 + 4 * j = 125 + 4 * j + 1 := by omega
    rw [e4]
    simp (disch := omega) only [q_upd_n, q_sM_n, q_sM_s, q_cpy_n]
end
section
/-! THE CLASS'S ENTRIES: text -/
theorem sp_clear {d : Nat} {g : q_G} {M : q_M} {Q : Option q_V → q_G → q_M → Prop} (hq : Q none g (q_upd M 1 1 0)) : q_S 1 d 21 [qR 1 1] g M Q := by
  rw [s_X1_clear]
  simp (disch := omega) only [b_X1_clear_0, x_loadR_0, x_loadS_0, x_iconst, p_1_1, x_vret, q_isL_I, q_isL_R, q_isL_S, true_and, and_true, and_self, List.length_nil, List.length_cons, Nat.zero_add, x_K, x_Kn, Int.reduceToNat, Nat.reduceAdd, Nat.reduceMul, Nat.reduceLeDiff, Nat.reduceLT, Nat.zero_le, Int.reduceAdd, Int.reduceSub, Int.reduceMul, Int.reduceNeg, q_add_e, q_sub_e, q_mul_e, q_neg_e, q_upd_s, q_upd_n, zr_shr0, zr_shr1, zr_shr2, zr_shr3, zr_shr4, zr_and, zr_dyn8, zr_or, zr_shl, q_cpy_n, y_cpy26]
  exact hq
theorem sp_textF {d : Nat} {g : q_G} {M : q_M} {Q : Option q_V → q_G → q_M → Prop} (h : 6 ≤ M 0 2) (hq : Q (some (qI (-4))) g M) : q_S 1 d 67 [qR 5 0] g M Q := by
  rw [s_X5_text]
  simp (disch := omega) only [b_X5_text_0, x_loadR_0, x_loadS_0, f_5_2, x_iconst, y_ic_lt_t, y_ic_lt_f, b_X5_text_9, x_ret0, b_X5_text_12, f_5_0, x_storeI_1, x_loadI_1, x_isub, x_storeI_2, y_if_ge_t, y_if_ge_f, b_X5_text_29, f_5_1, x_dupI, x_dupR, x_iadd, p_5_2, b_X5_text_64, x_loadI_2, q_isL_I, q_isL_R, q_isL_S, true_and, and_true, and_self, List.length_nil, List.length_cons, Nat.zero_add, x_K, x_Kn, Int.reduceToNat, Nat.reduceAdd, Nat.reduceMul, Nat.reduceLeDiff, Nat.reduceLT, Nat.zero_le, Int.reduceAdd, Int.reduceSub, Int.reduceMul, Int.reduceNeg, q_add_e, q_sub_e, q_mul_e, q_neg_e, q_upd_s, q_upd_n, zr_shr0, zr_shr1, zr_shr2, zr_shr3, zr_shr4, zr_and, zr_dyn8, zr_or, zr_shl, q_cpy_n, y_cpy26]
  exact hq
set_option maxHeartbeats 4000000 in
theorem sp_text {d n tm sl : Nat} {M : q_M} {Q : Option q_V → q_G → q_M → Prop} (hn : M 1 1 = n) (hn2 : n ≤ 160) (htm : M 0 2 = tm) (h1 : 1 ≤ tm) (h6 : tm < 6)
    (hq1 : 0 ≤ (R_z5 (M 2) n (R_z1 M n)).2.2.2.2.2.1 → Q (some (qI (-100 - (R_z5 (M 2) n (R_z1 M n)).2.2.2.2.2.1))) (124 + 4 * (tm - 1), sl) (q_upd (q_zM M (R_z5 (M 2) n (R_z1 M n)) (R_st (M 2) n (R_z1 M n) (M 4))) 1 1 0))
    (hq2 : (R_z5 (M 2) n (R_z1 M n)).2.2.2.2.2.1 < 0 → ∀ M2 : q_M, q_mdM (q_zM M (R_z5 (M 2) n (R_z1 M n)) (R_st (M 2) n (R_z1 M n) (M 4))) M2 (tm - 1) tm (R_z5 (M 2) n (R_z1 M n)).1 (R_z5 (M 2) n (R_z1 M n)).2.2.2.2.2.2 (R_st (M 2) n (R_z1 M n) (M 4)) → Q (some (qI tm)) (124 + 4 * tm, sl + (R_z5 (M 2) n (R_z1 M n)).1.toNat + 47) (q_upd (q_upd (q_upd M2 5 tm (q_ta tm : Nat)) 0 2 (tm + 1)) 1 1 0)) : q_S 1 (d + 47) 67 [qR 5 0] (124 + 4 * (tm - 1), sl) M Q := by
  have rd : ∀ (nx : Nat) (ops : List Instr) (ls st : List q_V), q_T 1 (d + 47) qP_X5_text nx ops ls (qI (R_z5 (M 2) n (R_z1 M n)).2.2.2.2.2.1 :: st) (124 + 4 * (tm - 1), sl) (q_zM M (R_z5 (M 2) n (R_z1 M n)) (R_st (M 2) n (R_z1 M n) (M 4))) Q → q_S 1 (d + 46) 23 [qR 1 1] (124 + 4 * (tm - 1), sl) M (q_K 1 (d + 47) qP_X5_text nx ops ls st Q) := fun nx ops ls st h => sp_read hn hn2 h
  have hI := R_z5_I (T := M 2) (n := n) (z := R_z1 M n) R_nx_I0
  generalize R_z5 (M 2) n (R_z1 M n) = z at rd hI hq1 hq2
  generalize R_st (M 2) n (R_z1 M n) (M 4) = s at rd hq1 hq2
  have hft := hI.2.2.2.1
  have r02 : q_zM M z s 0 2 = tm := htm
  rw [s_X5_text]
  simp (disch := omega) only [b_X5_text_0, x_loadR_0, x_loadS_0, f_5_2, x_iconst, y_ic_lt_t, y_ic_lt_f, b_X5_text_9, x_ret0, b_X5_text_12, f_5_0, x_storeI_1, x_loadI_1, x_isub, x_storeI_2, y_if_ge_t, y_if_ge_f, b_X5_text_29, f_5_1, x_dupI, x_dupR, x_iadd, p_5_2, b_X5_text_64, x_loadI_2, q_isL_I, q_isL_R, q_isL_S, true_and, and_true, and_self, List.length_nil, List.length_cons, Nat.zero_add, x_K, x_Kn, Int.reduceToNat, Nat.reduceAdd, Nat.reduceMul, Nat.reduceLeDiff, Nat.reduceLT, Nat.zero_le, Int.reduceAdd, Int.reduceSub, Int.reduceMul, Int.reduceNeg, q_add_e, q_sub_e, q_mul_e, q_neg_e, q_upd_s, q_upd_n, zr_shr0, zr_shr1, zr_shr2, zr_shr3, zr_shr4, zr_and, zr_dyn8, zr_or, zr_shl, q_cpy_n, y_cpy26, c_X1_read]
  refine rd _ _ _ _ ?_
  have cl : ∀ (M2 : q_M) (g : q_G) (nx : Nat) (ops : List Instr) (ls st : List q_V), q_T 1 (d + 47) qP_X5_text nx ops ls st g (q_upd M2 1 1 0) Q → q_S 1 (d + 46) 21 [qR 1 1] g M2 (q_K 1 (d + 47) qP_X5_text nx ops ls st Q) := fun M2 g nx ops ls st h => sp_clear h
  by_cases c : z.2.2.2.2.2.1 < 0
  · have hm := hq2 c
    have e2 : q_ta tm = 125 + 4 * (tm - 1) := by
      unfold q_ta
      rw [if_neg (by omega)]
      omega
    rw [e2] at hm
    have md : ∀ (nx : Nat) (ops : List Instr) (ls st : List q_V), (∀ M2 : q_M, q_mdM (q_zM M z s) M2 (tm - 1) tm z.1 z.2.2.2.2.2.2 s → q_T 1 (d + 47) qP_X5_text nx ops ls (qR 3 (125 + 4 * (tm - 1)) :: st) (124 + 4 * (tm - 1 + 1), sl + z.1.toNat + 47) M2 Q) → q_S 1 (d + 46) 24 [qR 1 1, qI tm] (124 + 4 * (tm - 1), sl) (q_zM M z s) (q_K 1 (d + 47) qP_X5_text nx ops ls st Q) := fun nx ops ls st h => sp_made (by omega) hI.1.1 hI.1.2 h
    simp (disch := omega) only [b_X5_text_0, x_loadR_0, x_loadS_0, f_5_2, x_iconst, y_ic_lt_t, y_ic_lt_f, b_X5_text_9, x_ret0, b_X5_text_12, f_5_0, x_storeI_1, x_loadI_1, x_isub, x_storeI_2, y_if_ge_t, y_if_ge_f, b_X5_text_29, f_5_1, x_dupI, x_dupR, x_iadd, p_5_2, b_X5_text_64, x_loadI_2, q_isL_I, q_isL_R, q_isL_S, true_and, and_true, and_self, List.length_nil, List.length_cons, Nat.zero_add, x_K, x_Kn, Int.reduceToNat, Nat.reduceAdd, Nat.reduceMul, Nat.reduceLeDiff, Nat.reduceLT, Nat.zero_le, Int.reduceAdd, Int.reduceSub, Int.reduceMul, Int.reduceNeg, q_add_e, q_sub_e, q_mul_e, q_neg_e, q_upd_s, q_upd_n, zr_shr0, zr_shr1, zr_shr2, zr_shr3, zr_shr4, zr_and, zr_dyn8, zr_or, zr_shl, q_cpy_n, y_cpy26, r02, c_X1_made]
    refine md _ _ _ _ (fun M2 h2 => ?_)
    have s02 : M2 0 2 = tm := (h2.1 0 2 (by omega)).trans r02
    simp (disch := omega) only [b_X5_text_0, x_loadR_0, x_loadS_0, f_5_2, x_iconst, y_ic_lt_t, y_ic_lt_f, b_X5_text_9, x_ret0, b_X5_text_12, f_5_0, x_storeI_1, x_loadI_1, x_isub, x_storeI_2, y_if_ge_t, y_if_ge_f, b_X5_text_29, f_5_1, x_dupI, x_dupR, x_iadd, p_5_2, b_X5_text_64, x_loadI_2, q_isL_I, q_isL_R, q_isL_S, true_and, and_true, and_self, List.length_nil, List.length_cons, Nat.zero_add, x_K, x_Kn, Int.reduceToNat, Nat.reduceAdd, Nat.reduceMul, Nat.reduceLeDiff, Nat.reduceLT, Nat.zero_le, Int.reduceAdd, Int.reduceSub, Int.reduceMul, Int.reduceNeg, q_add_e, q_sub_e, q_mul_e, q_neg_e, q_upd_s, q_upd_n, zr_shr0, zr_shr1, zr_shr2, zr_shr3, zr_shr4, zr_and, zr_dyn8, zr_or, zr_shl, q_cpy_n, y_cpy26, x_aast8, s02, Int.toNat_natCast, c_X1_clear]
    refine cl _ _ _ _ _ _ ?_
    simp (disch := omega) only [b_X5_text_0, x_loadR_0, x_loadS_0, f_5_2, x_iconst, y_ic_lt_t, y_ic_lt_f, b_X5_text_9, x_ret0, b_X5_text_12, f_5_0, x_storeI_1, x_loadI_1, x_isub, x_storeI_2, y_if_ge_t, y_if_ge_f, b_X5_text_29, f_5_1, x_dupI, x_dupR, x_iadd, p_5_2, b_X5_text_64, x_loadI_2, q_isL_I, q_isL_R, q_isL_S, true_and, and_true, and_self, List.length_nil, List.length_cons, Nat.zero_add, x_K, x_Kn, Int.reduceToNat, Nat.reduceAdd, Nat.reduceMul, Nat.reduceLeDiff, Nat.reduceLT, Nat.zero_le, Int.reduceAdd, Int.reduceSub, Int.reduceMul, Int.reduceNeg, q_add_e, q_sub_e, q_mul_e, q_neg_e, q_upd_s, q_upd_n, zr_shr0, zr_shr1, zr_shr2, zr_shr3, zr_shr4, zr_and, zr_dyn8, zr_or, zr_shl, q_cpy_n, y_cpy26]
    rw [show tm - 1 + 1 = tm by omega]
    exact hm M2 h2
  · have hm := hq1 (by omega)
    simp (disch := omega) only [b_X5_text_0, x_loadR_0, x_loadS_0, f_5_2, x_iconst, y_ic_lt_t, y_ic_lt_f, b_X5_text_9, x_ret0, b_X5_text_12, f_5_0, x_storeI_1, x_loadI_1, x_isub, x_storeI_2, y_if_ge_t, y_if_ge_f, b_X5_text_29, f_5_1, x_dupI, x_dupR, x_iadd, p_5_2, b_X5_text_64, x_loadI_2, q_isL_I, q_isL_R, q_isL_S, true_and, and_true, and_self, List.length_nil, List.length_cons, Nat.zero_add, x_K, x_Kn, Int.reduceToNat, Nat.reduceAdd, Nat.reduceMul, Nat.reduceLeDiff, Nat.reduceLT, Nat.zero_le, Int.reduceAdd, Int.reduceSub, Int.reduceMul, Int.reduceNeg, q_add_e, q_sub_e, q_mul_e, q_neg_e, q_upd_s, q_upd_n, zr_shr0, zr_shr1, zr_shr2, zr_shr3, zr_shr4, zr_and, zr_dyn8, zr_or, zr_shl, q_cpy_n, y_cpy26, c_X1_clear]
    refine cl _ _ _ _ _ _ ?_
    simp (disch := omega) only [b_X5_text_0, x_loadR_0, x_loadS_0, f_5_2, x_iconst, y_ic_lt_t, y_ic_lt_f, b_X5_text_9, x_ret0, b_X5_text_12, f_5_0, x_storeI_1, x_loadI_1, x_isub, x_storeI_2, y_if_ge_t, y_if_ge_f, b_X5_text_29, f_5_1, x_dupI, x_dupR, x_iadd, p_5_2, b_X5_text_64, x_loadI_2, q_isL_I, q_isL_R, q_isL_S, true_and, and_true, and_self, List.length_nil, List.length_cons, Nat.zero_add, x_K, x_Kn, Int.reduceToNat, Nat.reduceAdd, Nat.reduceMul, Nat.reduceLeDiff, Nat.reduceLT, Nat.zero_le, Int.reduceAdd, Int.reduceSub, Int.reduceMul, Int.reduceNeg, q_add_e, q_sub_e, q_mul_e, q_neg_e, q_upd_s, q_upd_n, zr_shr0, zr_shr1, zr_shr2, zr_shr3, zr_shr4, zr_and, zr_dyn8, zr_or, zr_shl, q_cpy_n, y_cpy26]
    exact hm
end
section
/-! THE MODEL, at 100: its small methods, its world in numbers -/
theorem mp_in {d : Nat} {g : q_G} {M : q_M} {v lo hi : Int} (Q : Option q_V → q_G → q_M → Prop) : q_S 1 d 110 [qI v, qI lo, qI hi] g M Q = Q (some (qI (if lo ≤ v ∧ v ≤ hi then 1 else 0))) g M := by
  rw [s_X6_in]
  by_cases h1 : lo ≤ v
  · by_cases h2 : v ≤ hi
    · rw [if_pos ⟨h1, h2⟩]
      simp (disch := omega) only [b_X6_in_0, x_loadI_0, x_loadI_1, y_ic_lt_t, y_ic_lt_f, b_X6_in_5, x_loadI_2, y_ic_gt_t, y_ic_gt_f, b_X6_in_10, x_iconst, x_goto, b_X6_in_14, b_X6_in_15, x_ret1_0, x_ret1_1, q_isL_I, q_isL_R, q_isL_S, true_and, and_true, and_self, List.length_nil, List.length_cons, Nat.zero_add, x_K, x_Kn, Int.reduceToNat, Nat.reduceAdd, Nat.reduceMul, Nat.reduceLeDiff, Nat.reduceLT, Nat.zero_le, Int.reduceAdd, Int.reduceSub, Int.reduceMul, Int.reduceNeg, q_add_e, q_sub_e, q_mul_e, q_neg_e, q_upd_s, q_upd_n, zr_shr0, zr_shr1, zr_shr2, zr_shr3, zr_shr4, zr_and, zr_dyn8, zr_or, zr_shl, q_cpy_n, y_cpy26]
    · rw [if_neg (fun z => h2 z.2)]
      simp (disch := omega) only [b_X6_in_0, x_loadI_0, x_loadI_1, y_ic_lt_t, y_ic_lt_f, b_X6_in_5, x_loadI_2, y_ic_gt_t, y_ic_gt_f, b_X6_in_10, x_iconst, x_goto, b_X6_in_14, b_X6_in_15, x_ret1_0, x_ret1_1, q_isL_I, q_isL_R, q_isL_S, true_and, and_true, and_self, List.length_nil, List.length_cons, Nat.zero_add, x_K, x_Kn, Int.reduceToNat, Nat.reduceAdd, Nat.reduceMul, Nat.reduceLeDiff, Nat.reduceLT, Nat.zero_le, Int.reduceAdd, Int.reduceSub, Int.reduceMul, Int.reduceNeg, q_add_e, q_sub_e, q_mul_e, q_neg_e, q_upd_s, q_upd_n, zr_shr0, zr_shr1, zr_shr2, zr_shr3, zr_shr4, zr_and, zr_dyn8, zr_or, zr_shl, q_cpy_n, y_cpy26]
  · rw [if_neg (fun z => h1 z.1)]
    simp (disch := omega) only [b_X6_in_0, x_loadI_0, x_loadI_1, y_ic_lt_t, y_ic_lt_f, b_X6_in_5, x_loadI_2, y_ic_gt_t, y_ic_gt_f, b_X6_in_10, x_iconst, x_goto, b_X6_in_14, b_X6_in_15, x_ret1_0, x_ret1_1, q_isL_I, q_isL_R, q_isL_S, true_and, and_true, and_self, List.length_nil, List.length_cons, Nat.zero_add, x_K, x_Kn, Int.reduceToNat, Nat.reduceAdd, Nat.reduceMul, Nat.reduceLeDiff, Nat.reduceLT, Nat.zero_le, Int.reduceAdd, Int.reduceSub, Int.reduceMul, Int.reduceNeg, q_add_e, q_sub_e, q_mul_e, q_neg_e, q_upd_s, q_upd_n, zr_shr0, zr_shr1, zr_shr2, zr_shr3, zr_shr4, zr_and, zr_dyn8, zr_or, zr_shl, q_cpy_n, y_cpy26]
theorem mp_within {d : Nat} {g : q_G} {M : q_M} {v lo hi : Int} (Q : Option q_V → q_G → q_M → Prop) : q_S 1 d 111 [qI v, qI lo, qI hi] g M Q = Q (some (qI (if v < lo then lo else if hi < v then hi else v))) g M := by
  rw [s_X6_within]
  by_cases h1 : v < lo
  · rw [if_pos h1]
    simp (disch := omega) only [b_X6_within_0, x_loadI_0, x_loadI_1, y_ic_ge_t, y_ic_ge_f, b_X6_within_5, x_goto, b_X6_within_9, x_loadI_2, y_ic_le_t, y_ic_le_f, b_X6_within_14, b_X6_within_18, b_X6_within_19, x_ret0, q_isL_I, q_isL_R, q_isL_S, true_and, and_true, and_self, List.length_nil, List.length_cons, Nat.zero_add, x_K, x_Kn, Int.reduceToNat, Nat.reduceAdd, Nat.reduceMul, Nat.reduceLeDiff, Nat.reduceLT, Nat.zero_le, Int.reduceAdd, Int.reduceSub, Int.reduceMul, Int.reduceNeg, q_add_e, q_sub_e, q_mul_e, q_neg_e, q_upd_s, q_upd_n, zr_shr0, zr_shr1, zr_shr2, zr_shr3, zr_shr4, zr_and, zr_dyn8, zr_or, zr_shl, q_cpy_n, y_cpy26]
  · rw [if_neg h1]
    by_cases h2 : hi < v
    · rw [if_pos h2]
      simp (disch := omega) only [b_X6_within_0, x_loadI_0, x_loadI_1, y_ic_ge_t, y_ic_ge_f, b_X6_within_5, x_goto, b_X6_within_9, x_loadI_2, y_ic_le_t, y_ic_le_f, b_X6_within_14, b_X6_within_18, b_X6_within_19, x_ret0, q_isL_I, q_isL_R, q_isL_S, true_and, and_true, and_self, List.length_nil, List.length_cons, Nat.zero_add, x_K, x_Kn, Int.reduceToNat, Nat.reduceAdd, Nat.reduceMul, Nat.reduceLeDiff, Nat.reduceLT, Nat.zero_le, Int.reduceAdd, Int.reduceSub, Int.reduceMul, Int.reduceNeg, q_add_e, q_sub_e, q_mul_e, q_neg_e, q_upd_s, q_upd_n, zr_shr0, zr_shr1, zr_shr2, zr_shr3, zr_shr4, zr_and, zr_dyn8, zr_or, zr_shl, q_cpy_n, y_cpy26]
    · rw [if_neg h2]
      simp (disch := omega) only [b_X6_within_0, x_loadI_0, x_loadI_1, y_ic_ge_t, y_ic_ge_f, b_X6_within_5, x_goto, b_X6_within_9, x_loadI_2, y_ic_le_t, y_ic_le_f, b_X6_within_14, b_X6_within_18, b_X6_within_19, x_ret0, q_isL_I, q_isL_R, q_isL_S, true_and, and_true, and_self, List.length_nil, List.length_cons, Nat.zero_add, x_K, x_Kn, Int.reduceToNat, Nat.reduceAdd, Nat.reduceMul, Nat.reduceLeDiff, Nat.reduceLT, Nat.zero_le, Int.reduceAdd, Int.reduceSub, Int.reduceMul, Int.reduceNeg, q_add_e, q_sub_e, q_mul_e, q_neg_e, q_upd_s, q_upd_n, zr_shr0, zr_shr1, zr_shr2, zr_shr3, zr_shr4, zr_and, zr_dyn8, zr_or, zr_shl, q_cpy_n, y_cpy26]
theorem mp_isStone {d : Nat} {g : q_G} {M : q_M} {p : Int} (h0 : 0 ≤ M 100 0) (h5 : M 100 0 ≤ 5) (Q : Option q_V → q_G → q_M → Prop) : q_S 1 (d + 1) 112 [qR 6 100, qI p] g M Q = Q (some (qI (if 0 ≤ p ∧ p ≤ M 100 0 - 1 then 1 else 0))) g M := by
  refine q_S_eq (fun Q hq => ?_) Q
  rw [s_X6_isStone]
  by_cases h : 0 ≤ p ∧ p ≤ M 100 0 - 1
  · rw [if_pos h] at hq
    simp (disch := omega) only [b_X6_isStone_0, x_loadI_1, x_iconst, x_loadR_0, x_loadS_0, f_6_0, x_isub, x_ret1_0, x_ret1_1, q_isL_I, q_isL_R, q_isL_S, true_and, and_true, and_self, List.length_nil, List.length_cons, Nat.zero_add, x_K, x_Kn, Int.reduceToNat, Nat.reduceAdd, Nat.reduceMul, Nat.reduceLeDiff, Nat.reduceLT, Nat.zero_le, Int.reduceAdd, Int.reduceSub, Int.reduceMul, Int.reduceNeg, q_add_e, q_sub_e, q_mul_e, q_neg_e, q_upd_s, q_upd_n, zr_shr0, zr_shr1, zr_shr2, zr_shr3, zr_shr4, zr_and, zr_dyn8, zr_or, zr_shl, q_cpy_n, y_cpy26, c_X6_in, mp_in, h, and_self, if_true]
    exact hq
  · rw [if_neg h] at hq
    simp (disch := omega) only [b_X6_isStone_0, x_loadI_1, x_iconst, x_loadR_0, x_loadS_0, f_6_0, x_isub, x_ret1_0, x_ret1_1, q_isL_I, q_isL_R, q_isL_S, true_and, and_true, and_self, List.length_nil, List.length_cons, Nat.zero_add, x_K, x_Kn, Int.reduceToNat, Nat.reduceAdd, Nat.reduceMul, Nat.reduceLeDiff, Nat.reduceLT, Nat.zero_le, Int.reduceAdd, Int.reduceSub, Int.reduceMul, Int.reduceNeg, q_add_e, q_sub_e, q_mul_e, q_neg_e, q_upd_s, q_upd_n, zr_shr0, zr_shr1, zr_shr2, zr_shr3, zr_shr4, zr_and, zr_dyn8, zr_or, zr_shl, q_cpy_n, y_cpy26, c_X6_in, mp_in, h, if_false]
    exact hq
theorem mp_isSite {d : Nat} {g : q_G} {M : q_M} {p : Int} (Q : Option q_V → q_G → q_M → Prop) : q_S 1 (d + 1) 113 [qI p] g M Q = Q (some (qI (if 0 ≤ p ∧ p ≤ 4 then 1 else 0))) g M := by
  refine q_S_eq (fun Q hq => ?_) Q
  rw [s_X6_isSite]
  by_cases h : 0 ≤ p ∧ p ≤ 4
  · rw [if_pos h] at hq
    simp (disch := omega) only [b_X6_isSite_0, x_loadI_0, x_iconst, x_ret1_0, x_ret1_1, q_isL_I, q_isL_R, q_isL_S, true_and, and_true, and_self, List.length_nil, List.length_cons, Nat.zero_add, x_K, x_Kn, Int.reduceToNat, Nat.reduceAdd, Nat.reduceMul, Nat.reduceLeDiff, Nat.reduceLT, Nat.zero_le, Int.reduceAdd, Int.reduceSub, Int.reduceMul, Int.reduceNeg, q_add_e, q_sub_e, q_mul_e, q_neg_e, q_upd_s, q_upd_n, zr_shr0, zr_shr1, zr_shr2, zr_shr3, zr_shr4, zr_and, zr_dyn8, zr_or, zr_shl, q_cpy_n, y_cpy26, c_X6_in, mp_in, h, and_self, if_true]
    exact hq
  · rw [if_neg h] at hq
    simp (disch := omega) only [b_X6_isSite_0, x_loadI_0, x_iconst, x_ret1_0, x_ret1_1, q_isL_I, q_isL_R, q_isL_S, true_and, and_true, and_self, List.length_nil, List.length_cons, Nat.zero_add, x_K, x_Kn, Int.reduceToNat, Nat.reduceAdd, Nat.reduceMul, Nat.reduceLeDiff, Nat.reduceLT, Nat.zero_le, Int.reduceAdd, Int.reduceSub, Int.reduceMul, Int.reduceNeg, q_add_e, q_sub_e, q_mul_e, q_neg_e, q_upd_s, q_upd_n, zr_shr0, zr_shr1, zr_shr2, zr_shr3, zr_shr4, zr_and, zr_dyn8, zr_or, zr_shl, q_cpy_n, y_cpy26, c_X6_in, mp_in, h, if_false]
    exact hq
theorem tn_30 {i : Nat} : (3 * (i : Int)).toNat = 3 * i := by omega
theorem tn_31 {i : Nat} : (3 * (i : Int) + 1).toNat = 3 * i + 1 := by omega
theorem tn_32 {i : Nat} : (3 * (i : Int) + 2).toNat = 3 * i + 2 := by omega
theorem tn_40 {i : Nat} : (4 * (i : Int)).toNat = 4 * i := by omega
theorem tn_41 {i : Nat} : (4 * (i : Int) + 1).toNat = 4 * i + 1 := by omega
theorem tn_42 {i : Nat} : (4 * (i : Int) + 2).toNat = 4 * i + 2 := by omega
theorem tn_43 {i : Nat} : (4 * (i : Int) + 3).toNat = 4 * i + 3 := by omega
theorem tn_5 {i j : Nat} : (5 * (i : Int) + (j : Int)).toNat = 5 * i + j := by omega
/-- in which building a stone of the model is: 5 none -/
def mIn (M : q_M) : Nat → Int := fun i => if M 104 (3 * i + 2) = -1 then 5 else M 104 (3 * i + 2)
def mW (M : q_M) : q_M := fun f i => match f with
  | 0 => if i < (M 100 0).toNat then M 101 i else 0
  | 1 => if i < (M 100 0).toNat then M 102 i else 0
  | 2 => if i < (M 100 0).toNat then M 104 (3 * i) else 0
  | 3 => if i < (M 100 0).toNat then M 104 (3 * i + 1) else 0
  | 4 => if i < (M 100 0).toNat then mIn M i else 0
  | 5 => if i < 5 then M 103 (4 * i) else 0
  | 6 => if i < 5 then M 103 (4 * i + 1) else 0
  | 7 => if i < 5 then M 103 (4 * i + 2) else 0
  | 8 => if i < 5 then M 103 (4 * i + 3) else 0
  | 9 => if i = 0 then M 100 0 else if i = 1 then M 100 5 else 0
  | _ => 0
theorem mW_0 {M : q_M} {i : Nat} (h : i < (M 100 0).toNat) : mW M 0 i = M 101 i := if_pos h
theorem mW_1 {M : q_M} {i : Nat} (h : i < (M 100 0).toNat) : mW M 1 i = M 102 i := if_pos h
theorem mW_2 {M : q_M} {i : Nat} (h : i < (M 100 0).toNat) : mW M 2 i = M 104 (3 * i) := if_pos h
theorem mW_3 {M : q_M} {i : Nat} (h : i < (M 100 0).toNat) : mW M 3 i = M 104 (3 * i + 1) := if_pos h
theorem mW_4 {M : q_M} {i : Nat} (h : i < (M 100 0).toNat) : mW M 4 i = mIn M i := if_pos h
theorem mW_5 {M : q_M} {i : Nat} (h : i < 5) : mW M 5 i = M 103 (4 * i) := if_pos h
theorem mW_6 {M : q_M} {i : Nat} (h : i < 5) : mW M 6 i = M 103 (4 * i + 1) := if_pos h
theorem mW_7 {M : q_M} {i : Nat} (h : i < 5) : mW M 7 i = M 103 (4 * i + 2) := if_pos h
theorem mW_8 {M : q_M} {i : Nat} (h : i < 5) : mW M 8 i = M 103 (4 * i + 3) := if_pos h
theorem mW_90 {M : q_M} : mW M 9 0 = M 100 0 := rfl
theorem mW_91 {M : q_M} : mW M 9 1 = M 100 5 := rfl
theorem mW_same {M M2 : q_M} (h : ∀ a i, ((a = 100 ∧ (i = 0 ∨ i = 5)) ∨ (101 ≤ a ∧ a ≤ 104)) → M2 a i = M a i) : mW M2 = mW M := by
  have e0 := h 100 0 (by omega)
  have e5 := h 100 5 (by omega)
  have e1 := fun i => h 101 i (by omega)
  have e2 := fun i => h 102 i (by omega)
  have e3 := fun i => h 103 i (by omega)
  have e4 := fun i => h 104 i (by omega)
  funext f i
  unfold mW mIn
  split <;> simp only [e0, e5, e1, e2, e3, e4]
/-- the model's numbers are in their bounds -/
def q_mb (M : q_M) : Prop := (0 ≤ M 100 0 ∧ M 100 0 ≤ 5) ∧ (0 ≤ M 100 5 ∧ M 100 5 ≤ 2000) ∧ (∀ i, i < 5 → 0 ≤ M 101 i ∧ M 101 i ≤ 5) ∧ (∀ i, i < 5 → 0 ≤ M 102 i ∧ M 102 i ≤ 9) ∧
  (∀ i, i < 5 → 0 ≤ M 104 (3 * i) ∧ M 104 (3 * i) ≤ 99) ∧ (∀ i, i < 5 → 0 ≤ M 104 (3 * i + 1) ∧ M 104 (3 * i + 1) ≤ 99) ∧ (∀ i, i < 5 → -1 ≤ M 104 (3 * i + 2) ∧ M 104 (3 * i + 2) ≤ 4) ∧
  (∀ i, i < 5 → 0 ≤ M 103 (4 * i) ∧ M 103 (4 * i) ≤ 99) ∧ (∀ i, i < 5 → 0 ≤ M 103 (4 * i + 1) ∧ M 103 (4 * i + 1) ≤ 6) ∧ (∀ i, i < 5 → 0 ≤ M 103 (4 * i + 2) ∧ M 103 (4 * i + 2) ≤ 99) ∧ (∀ i, i < 5 → 0 ≤ M 103 (4 * i + 3) ∧ M 103 (4 * i + 3) ≤ 99)
theorem q_mb_same {M M2 : q_M} (h : ∀ a i, ((a = 100 ∧ (i = 0 ∨ i = 5)) ∨ (101 ≤ a ∧ a ≤ 104)) → M2 a i = M a i) (hb : q_mb M) : q_mb M2 := by
  unfold q_mb at hb ⊢
  simp only [h 100 0 (by omega), h 100 5 (by omega), fun i => h 101 i (by omega), fun i => h 102 i (by omega), fun i => h 103 i (by omega), fun i => h 104 i (by omega)]
  exact hb
/-- the model's law: V is what the rule's text says -/
def q_lawN (V : Nat → (Nat → Int) → Int) (M : q_M) : Prop := ∀ M' : q_M, (∀ a i, (a = 106 ∨ a = 107) → M' a i = M a i) → M' 100 11 = M 100 11 → ∀ (d : Nat) (g : q_G) (Q : Option q_V → q_G → q_M → Prop) (part : Nat), part < 3 → (∀ M2 : q_M, (∀ a i, a ≠ 116 → M2 a i = M' a i) → Q (some (qI (V part (M' 117)))) g M2) → q_S 1 (d + 1) 135 [qR 6 100, qI part] g M' Q
def q_ml (V : Nat → (Nat → Int) → Int) (M : q_M) : Prop := q_mb M ∧ q_lawV V ∧ q_lawN V M
/-- what telling changes in the model: names and stack -/
def q_mf (M M2 : q_M) : Prop := ∀ a i, a ≠ 116 → a ≠ 117 → M2 a i = M a i
theorem q_mf_rf {M : q_M} : q_mf M M := fun _ _ _ _ => rfl
theorem q_mf_tr {M M2 M3 : q_M} (h : q_mf M M2) (h2 : q_mf M2 M3) : q_mf M M3 := fun a i h3 h4 => (h2 a i h3 h4).trans (h a i h3 h4)
theorem q_ml_same {V : Nat → (Nat → Int) → Int} {M M2 : q_M} (h : ∀ a i, ((a = 100 ∧ (i = 0 ∨ i = 5 ∨ i = 11)) ∨ (101 ≤ a ∧ a ≤ 104) ∨ a = 106 ∨ a = 107) → M2 a i = M a i) (hm : q_ml V M) : q_ml V M2 :=
  ⟨q_mb_same (fun a i ha => h a i (by omega)) hm.1, hm.2.1, fun M' h1 h2 => hm.2.2 M' (fun a i ha => (h1 a i ha).trans (h a i (by omega))) (h2.trans (h 100 11 (by omega)))⟩
theorem q_mf_ml {V : Nat → (Nat → Int) → Int} {M M2 : q_M} (h : q_mf M M2) (hm : q_ml V M) : q_ml V M2 := q_ml_same (fun a i ha => h a i (by omega) (by omega)) hm
theorem q_mf_mW {M M2 : q_M} (h : q_mf M M2) : mW M2 = mW M := mW_same (fun a i ha => h a i (by omega) (by omega))
end
