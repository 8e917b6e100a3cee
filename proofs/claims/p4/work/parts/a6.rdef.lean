/-! THE CLASS'S READER: reading by descent, in numbers; it stays in its bounds -/
def R_fl (z : q_Z) : q_Z := (z.1, -1, z.2.2.1, z.2.2.2.1, z.2.2.2.2.1, if z.2.2.2.2.2.1 < 0 then z.2.2.2.1 else z.2.2.2.2.2.1, z.2.2.2.2.2.2)
def R_ex (T : Nat → Int) (n : Nat) (w : Int) (z : q_Z) : q_Z := if z.2.1 = w then R_nx T n z else R_fl z
def R_em (o v : Int) (z : q_Z) : q_Z := if z.1 < 160 then (z.1 + 1, z.2.1, z.2.2.1, z.2.2.2.1, z.2.2.2.2.1, z.2.2.2.2.2.1, F_u z.2.2.2.2.2.2 z.1.toNat (q_or (q_shl v 4) o)) else z
def R_lp (T : Nat → Int) (n : Nat) (t o : Int) (f : q_Z → q_Z) : Nat → q_Z → q_Z
  | 0, z => z
  | k + 1, z => if z.2.1 = t then R_lp T n t o f k (R_em o 0 (f (R_nx T n z))) else z
def R_ls (T : Nat → Int) (n : Nat) (f : q_Z → q_Z) : Nat → q_Z → q_Z
  | 0, z => z
  | k + 1, z => if z.2.1 = 43 ∨ z.2.1 = 45 then R_ls T n f k (R_em (if z.2.1 = 45 then 7 else 6) 0 (f (R_nx T n z))) else z
def R_te (T : Nat → Int) (n : Nat) (f : q_Z → q_Z) (z : q_Z) : q_Z := R_lp T n 42 5 f 160 (f z)
def R_su (T : Nat → Int) (n : Nat) (f : q_Z → q_Z) (z : q_Z) : q_Z := R_ls T n f 160 (f z)
def R_cp (T : Nat → Int) (n : Nat) (f : q_Z → q_Z) (z : q_Z) : q_Z := if z.2.1 = 60 ∨ z.2.1 = 61 then R_em (if z.2.1 = 60 then 8 else 9) 0 (f (R_nx T n z)) else z
def R_no (T : Nat → Int) (n : Nat) (r0 : Bool) (no su : q_Z → q_Z) (z : q_Z) : q_Z := if z.2.1 = -10 then (if r0 = true then R_fl z else R_em 4 0 (no (R_nx T n z))) else R_cp T n su (su z)
def R_bo (T : Nat → Int) (n : Nat) (f : q_Z → q_Z) (z : q_Z) : q_Z := R_lp T n (-9) 10 f 160 (f z)
def R_ei (T : Nat → Int) (n : Nat) (f : q_Z → q_Z) (z : q_Z) : q_Z := R_lp T n (-8) 11 f 160 (f z)
def R_on (T : Nat → Int) (n : Nat) (r0 : Bool) (on ei : q_Z → q_Z) (z : q_Z) : q_Z :=
  if z.2.1 = -3 ∨ z.2.1 = -4 then R_nx T n (R_em (if z.2.1 = -3 then 1 else 2) z.2.2.1 z)
  else if ¬(z.2.1 = 40 ∨ z.2.1 = 45) ∨ r0 = true then R_fl z
  else if z.2.1 = 45 then R_em 3 0 (on (R_nx T n z)) else R_ex T n 41 (ei (R_nx T n z))
/-- one, not, either, while r more may be opened -/
def R_mk (T : Nat → Int) (n : Nat) (r0 : Bool) (p : (q_Z → q_Z) × (q_Z → q_Z) × (q_Z → q_Z)) : (q_Z → q_Z) × (q_Z → q_Z) × (q_Z → q_Z) :=
  (R_on T n r0 p.1 p.2.2, R_no T n r0 p.2.1 (R_su T n (R_te T n (R_on T n r0 p.1 p.2.2))), R_ei T n (R_bo T n (R_no T n r0 p.2.1 (R_su T n (R_te T n (R_on T n r0 p.1 p.2.2))))))
def R_lv (T : Nat → Int) (n : Nat) : Nat → (q_Z → q_Z) × (q_Z → q_Z) × (q_Z → q_Z)
  | 0 => R_mk T n true (id, id, id)
  | r + 1 => R_mk T n false (R_lv T n r)
/-- one part: its key, the code from here on -/
def R_pt (T : Nat → Int) (n : Nat) (key : Int) (z : q_Z) : q_Z := R_em 0 0 (R_ex T n 59 ((R_lv T n 5).2.2 (R_ex T n key z)))
/-- how a value may stand with a token -/
def q_tv (t v : Int) : Prop := (t = -3 → 0 ≤ v ∧ v ≤ 9999) ∧ (t = -4 → 0 ≤ v ∧ v ≤ 5)
def q_zI (n : Nat) (z : q_Z) : Prop := (0 ≤ z.1 ∧ z.1 ≤ 160) ∧ (0 ≤ z.2.2.2.1 ∧ z.2.2.2.1 ≤ n) ∧ (0 ≤ z.2.2.2.2.1 ∧ z.2.2.2.2.1 ≤ n) ∧ (-1 ≤ z.2.2.2.2.2.1 ∧ z.2.2.2.2.2.1 ≤ n) ∧ q_cod z.2.2.2.2.2.2 z.1.toNat ∧ q_tv z.2.1 z.2.2.1
theorem F_wh_P {P : Int → Bool} {T : Nat → Int} : ∀ j i m : Nat, i ≤ m → m < F_wh P T j i → P (T m) = true
  | 0, i, m, h1, h2 => by rw [F_wh] at h2; omega
  | j + 1, i, m, h1, h2 => by
    rw [F_wh] at h2
    by_cases c : P (T i) = true
    · rw [if_pos c] at h2
      by_cases e : m = i
      · rw [e]; exact c
      · exact F_wh_P j (i + 1) m (by omega) h2
    · rw [if_neg c] at h2
      omega
theorem F_num_le {T : Nat → Int} {i : Nat} (h : ∀ m, i ≤ m → m < i + 4 → 48 ≤ T m ∧ T m ≤ 57) : ∀ k : Nat, k ≤ 4 → 0 ≤ F_num T i k ∧ F_num T i k ≤ (if k = 0 then 0 else if k = 1 then 9 else if k = 2 then 99 else if k = 3 then 999 else 9999)
  | 0, _ => by rw [F_num]; exact ⟨Int.le_refl 0, Int.le_refl 0⟩
  | k + 1, hk => by
    have h1 := F_num_le h k (by omega)
    have h2 := h (i + k) (by omega) (by omega)
    rw [F_num]
    generalize F_num T i k = x at h1 ⊢
    generalize T (i + k) = y at h2 ⊢
    have hx : x ≤ 999 := by
      have := h1.2
      (repeat' split at this) <;> omega
    rw [q_mul_e (by omega) (by omega), q_add_e (by omega) (by omega), q_sub_e (by omega) (by omega)]
    rcases (show k = 0 ∨ k = 1 ∨ k = 2 ∨ k = 3 by omega) with rfl | rfl | rfl | rfl
    · have h3 : x ≤ 0 := h1.2
      exact ⟨by omega, by show _ ≤ (9 : Int); omega⟩
    · have h3 : x ≤ 9 := h1.2
      exact ⟨by omega, by show _ ≤ (99 : Int); omega⟩
    · have h3 : x ≤ 99 := h1.2
      exact ⟨by omega, by show _ ≤ (999 : Int); omega⟩
    · have h3 : x ≤ 999 := h1.2
      exact ⟨by omega, by show _ ≤ (9999 : Int); omega⟩
theorem F_num_9 {T : Nat → Int} {i k : Nat} (hk : k ≤ 4) (h : ∀ m, i ≤ m → m < i + k → 48 ≤ T m ∧ T m ≤ 57) : 0 ≤ F_num T i k ∧ F_num T i k ≤ 9999 := by
  have cong : ∀ (T T' : Nat → Int) (k : Nat), (∀ m, m < k → T (i + m) = T' (i + m)) → F_num T i k = F_num T' i k := by
    intro T T' k
    induction k with
    | zero => intro _; rfl
    | succ k ih =>
      intro h
      rw [F_num, F_num, ih (fun m hm => h m (by omega)), h k (by omega)]
  have e := cong T (fun m => if m < i + k then T m else 48) k (fun m hm => (if_pos (by omega)).symm)
  have h2 := F_num_le (T := fun m => if m < i + k then T m else 48) (i := i) (fun m h1 _ => by
    by_cases c : m < i + k
    · have := h m h1 c
      simp only [c, if_true]
      exact this
    · simp only [c, if_false]
      omega) k hk
  rw [e]
  refine ⟨h2.1, ?_⟩
  have := h2.2
  (repeat' split at this) <;> omega
theorem R_m_tv {T : Nat → Int} {i b j : Nat} {t v : Int} {a : Int × Int} (h : q_tv a.1 a.2) (h2 : q_tv t v) : q_tv (R_m T i b j t v a).1 (R_m T i b j t v a).2 := by
  unfold R_m
  split
  · exact h2
  · exact h
theorem q_tv_l {t v : Int} (h1 : t ≠ -3) (h2 : t = -4 → 0 ≤ v ∧ v ≤ 5) : q_tv t v := ⟨fun z => absurd z h1, h2⟩
theorem q_tv_1 {v : Int} : q_tv (-1) v := q_tv_l (by decide) (fun z => absurd z (by decide))
theorem q_tv_2 {v : Int} : q_tv (-2) v := q_tv_l (by decide) (fun z => absurd z (by decide))
theorem R_wd_tv {T : Nat → Int} {i b : Nat} {v : Int} : q_tv (R_wd T i b v).1 (R_wd T i b v).2 := by
  unfold R_wd
  exact R_m_tv (R_m_tv (R_m_tv (R_m_tv (R_m_tv (R_m_tv (R_m_tv (R_m_tv (R_m_tv (R_m_tv (R_m_tv (R_m_tv q_tv_1 (q_tv_l (by decide) (by intro z; exact absurd z (by decide)))) (q_tv_l (by decide) (by intro z; exact absurd z (by decide)))) (q_tv_l (by decide) (by intro z; exact absurd z (by decide)))) (q_tv_l (by decide) (by intro z; exact absurd z (by decide)))) (q_tv_l (by decide) (by intro z; exact absurd z (by decide)))) (q_tv_l (by decide) (by intro z; exact absurd z (by decide)))) (q_tv_l (by decide) (by intro _; decide))) (q_tv_l (by decide) (by intro _; decide))) (q_tv_l (by decide) (by intro _; decide))) (q_tv_l (by decide) (by intro _; decide))) (q_tv_l (by decide) (by intro _; decide))) (q_tv_l (by decide) (by intro _; decide))
theorem R_tk_ok {T : Nat → Int} {n i : Nat} {v : Int} (hi : i ≤ n) : q_tv (R_tk T n i v).1 (R_tk T n i v).2.1 ∧ i ≤ (R_tk T n i v).2.2 ∧ (R_tk T n i v).2.2 ≤ n := by
  unfold R_tk
  by_cases c1 : n ≤ i
  · rw [if_pos c1]
    exact ⟨q_tv_2, Nat.le_refl _, hi⟩
  · rw [if_neg c1]
    by_cases c2 : F_ltr (T i) = true
    · rw [if_pos c2]
      have h := F_wh_le (P := F_ltr) (T := T) (n - (i + 1)) (i + 1)
      exact ⟨R_wd_tv, by show i ≤ F_wh F_ltr T (n - (i + 1)) (i + 1); omega, by show F_wh F_ltr T (n - (i + 1)) (i + 1) ≤ n; omega⟩
    · rw [if_neg c2]
      by_cases c3 : F_dgt (T i) = true
      · rw [if_pos c3]
        have h := F_wh_le (P := F_dgt) (T := T) (n - i) i
        refine ⟨?_, h.1, by show F_wh F_dgt T (n - i) i ≤ n; omega⟩
        by_cases c4 : i + 4 < F_wh F_dgt T (n - i) i
        · rw [if_pos c4]
          exact q_tv_l (by show (-1 : Int) ≠ -3; decide) (by intro z; exact absurd z (by show (-1 : Int) ≠ -4; decide))
        · rw [if_neg c4]
          refine ⟨fun _ => F_num_9 (by omega) (fun m h1 h2 => of_decide_eq_true (F_wh_P (P := F_dgt) (n - i) i m h1 (by omega))), fun z => absurd z (by show (-3 : Int) ≠ -4; decide)⟩
      · rw [if_neg c3]
        refine ⟨?_, by show i ≤ i + 1; omega, by show i + 1 ≤ n; omega⟩
        by_cases c4 : F_sgn (T i) = true
        · rw [if_pos c4]
          have h := of_decide_eq_true c4
          exact q_tv_l (by show T i ≠ -3; omega) (by intro z; have z : T i = -4 := z; omega)
        · rw [if_neg c4]
          exact q_tv_l (by show (-1 : Int) ≠ -3; decide) (by intro z; exact absurd z (by show (-1 : Int) ≠ -4; decide))
theorem R_nx_I {T : Nat → Int} {n : Nat} {z : q_Z} (h : q_zI n z) : q_zI n (R_nx T n z) := by
  obtain ⟨cn, tok, val, fr, bh, ft, C⟩ := z
  obtain ⟨h1, h2, h3, h4, h5, h6⟩ := h
  simp only at h1 h2 h3 h4 h5 h6
  unfold R_nx
  simp only
  by_cases c : 0 ≤ ft
  · rw [if_pos c]
    exact ⟨h1, h2, h3, h4, h5, h6⟩
  · rw [if_neg c]
    have hw := F_wh_le (P := F_blk) (T := T) (n - bh.toNat) bh.toNat
    have hk := R_tk_ok (T := T) (n := n) (i := F_wh F_blk T (n - bh.toNat) bh.toNat) (v := val) (by omega)
    exact ⟨h1, ⟨by show 0 ≤ ((F_wh F_blk T (n - bh.toNat) bh.toNat : Nat) : Int); omega, by show ((F_wh F_blk T (n - bh.toNat) bh.toNat : Nat) : Int) ≤ n; omega⟩, ⟨by show (0 : Int) ≤ (((R_tk T n (F_wh F_blk T (n - bh.toNat) bh.toNat) val).2.2 : Nat) : Int); omega, by show (((R_tk T n (F_wh F_blk T (n - bh.toNat) bh.toNat) val).2.2 : Nat) : Int) ≤ n; omega⟩, h4, h5, hk.1⟩
theorem R_fl_I {n : Nat} {z : q_Z} (h : q_zI n z) : q_zI n (R_fl z) := by
  obtain ⟨h1, h2, h3, h4, h5, h6⟩ := h
  refine ⟨h1, h2, h3, ?_, h5, q_tv_l (by show (-1 : Int) ≠ -3; decide) (by intro z; exact absurd z (by show (-1 : Int) ≠ -4; decide))⟩
  show -1 ≤ (if z.2.2.2.2.2.1 < 0 then z.2.2.2.1 else z.2.2.2.2.2.1) ∧ (if z.2.2.2.2.2.1 < 0 then z.2.2.2.1 else z.2.2.2.2.2.1) ≤ n
  split <;> omega
theorem R_ex_I {T : Nat → Int} {n : Nat} {w : Int} {z : q_Z} (h : q_zI n z) : q_zI n (R_ex T n w z) := by
  unfold R_ex
  split
  · exact R_nx_I h
  · exact R_fl_I h
theorem R_em_I {n : Nat} {o v : Int} {z : q_Z} (h : q_zI n z) (ho : 0 ≤ o ∧ o ≤ 15) (hv : 0 ≤ v ∧ v ≤ 9999) (h2 : o = 2 → v ≤ 5) : q_zI n (R_em o v z) := by
  obtain ⟨h1, h2', h3, h4, h5, h6⟩ := h
  unfold R_em
  by_cases c : z.1 < 160
  · rw [if_pos c]
    refine ⟨⟨by show 0 ≤ z.1 + 1; omega, by show z.1 + 1 ≤ 160; omega⟩, h2', h3, h4, ?_, h6⟩
    intro i hi
    have hi : i < (z.1 + 1).toNat := hi
    show 0 ≤ F_u z.2.2.2.2.2.2 z.1.toNat (q_or (q_shl v 4) o) i ∧ F_u z.2.2.2.2.2.2 z.1.toNat (q_or (q_shl v 4) o) i < 160000 ∧ (F_u z.2.2.2.2.2.2 z.1.toNat (q_or (q_shl v 4) o) i % 16 = 2 → F_u z.2.2.2.2.2.2 z.1.toNat (q_or (q_shl v 4) o) i / 16 < 6)
    unfold F_u
    by_cases e : i = z.1.toNat
    · rw [if_pos e, q_code hv.1 (by omega) ho.1 (by omega)]
      refine ⟨by omega, by omega, fun q => ?_⟩
      omega
    · rw [if_neg e]
      exact h5 i (by omega)
  · rw [if_neg c]
    exact ⟨h1, h2', h3, h4, h5, h6⟩
theorem R_lp_I {T : Nat → Int} {n : Nat} {t o : Int} {f : q_Z → q_Z} (hf : ∀ z, q_zI n z → q_zI n (f z)) (ho : 0 ≤ o ∧ o ≤ 15) : ∀ (k : Nat) (z : q_Z), q_zI n z → q_zI n (R_lp T n t o f k z)
  | 0, _, h => h
  | k + 1, z, h => by
    rw [R_lp]
    split
    · exact R_lp_I hf ho k _ (R_em_I (hf _ (R_nx_I h)) ho (by omega) (by omega))
    · exact h
theorem R_ls_I {T : Nat → Int} {n : Nat} {f : q_Z → q_Z} (hf : ∀ z, q_zI n z → q_zI n (f z)) : ∀ (k : Nat) (z : q_Z), q_zI n z → q_zI n (R_ls T n f k z)
  | 0, _, h => h
  | k + 1, z, h => by
    rw [R_ls]
    split
    · exact R_ls_I hf k _ (R_em_I (hf _ (R_nx_I h)) (by split <;> omega) (by omega) (by omega))
    · exact h
theorem R_te_I {T : Nat → Int} {n : Nat} {f : q_Z → q_Z} (hf : ∀ z, q_zI n z → q_zI n (f z)) (z : q_Z) (h : q_zI n z) : q_zI n (R_te T n f z) := R_lp_I hf (by omega) 160 _ (hf z h)
theorem R_su_I {T : Nat → Int} {n : Nat} {f : q_Z → q_Z} (hf : ∀ z, q_zI n z → q_zI n (f z)) (z : q_Z) (h : q_zI n z) : q_zI n (R_su T n f z) := R_ls_I hf 160 _ (hf z h)
theorem R_bo_I {T : Nat → Int} {n : Nat} {f : q_Z → q_Z} (hf : ∀ z, q_zI n z → q_zI n (f z)) (z : q_Z) (h : q_zI n z) : q_zI n (R_bo T n f z) := R_lp_I hf (by omega) 160 _ (hf z h)
theorem R_ei_I {T : Nat → Int} {n : Nat} {f : q_Z → q_Z} (hf : ∀ z, q_zI n z → q_zI n (f z)) (z : q_Z) (h : q_zI n z) : q_zI n (R_ei T n f z) := R_lp_I hf (by omega) 160 _ (hf z h)
theorem R_cp_I {T : Nat → Int} {n : Nat} {f : q_Z → q_Z} (hf : ∀ z, q_zI n z → q_zI n (f z)) (z : q_Z) (h : q_zI n z) : q_zI n (R_cp T n f z) := by
  unfold R_cp
  split
  · exact R_em_I (hf _ (R_nx_I h)) (by split <;> omega) (by omega) (by omega)
  · exact h
theorem R_no_I {T : Nat → Int} {n : Nat} {r0 : Bool} {no su : q_Z → q_Z} (h1 : ∀ z, q_zI n z → q_zI n (no z)) (h2 : ∀ z, q_zI n z → q_zI n (su z)) (z : q_Z) (h : q_zI n z) : q_zI n (R_no T n r0 no su z) := by
  unfold R_no
  split
  · split
    · exact R_fl_I h
    · exact R_em_I (h1 _ (R_nx_I h)) (by omega) (by omega) (by omega)
  · exact R_cp_I h2 _ (h2 z h)
theorem R_on_I {T : Nat → Int} {n : Nat} {r0 : Bool} {on ei : q_Z → q_Z} (h1 : ∀ z, q_zI n z → q_zI n (on z)) (h2 : ∀ z, q_zI n z → q_zI n (ei z)) (z : q_Z) (h : q_zI n z) : q_zI n (R_on T n r0 on ei z) := by
  unfold R_on
  split
  · next c =>
    have h6 := h.2.2.2.2.2
    refine R_nx_I (R_em_I h (by split <;> omega) ?_ ?_)
    · rcases c with c | c
      · exact h6.1 c
      · have := h6.2 c
        omega
    · intro e
      rcases c with c | c
      · rw [if_pos c] at e
        exact absurd e (by decide)
      · exact (h6.2 c).2
  · split
    · exact R_fl_I h
    · split
      · exact R_em_I (h1 _ (R_nx_I h)) (by omega) (by omega) (by omega)
      · exact R_ex_I (h2 _ (R_nx_I h))
def q_pI (n : Nat) (p : (q_Z → q_Z) × (q_Z → q_Z) × (q_Z → q_Z)) : Prop := (∀ z, q_zI n z → q_zI n (p.1 z)) ∧ (∀ z, q_zI n z → q_zI n (p.2.1 z)) ∧ (∀ z, q_zI n z → q_zI n (p.2.2 z))
theorem R_mk_I {T : Nat → Int} {n : Nat} {r0 : Bool} {p : (q_Z → q_Z) × (q_Z → q_Z) × (q_Z → q_Z)} (h : q_pI n p) : q_pI n (R_mk T n r0 p) :=
  ⟨R_on_I h.1 h.2.2, R_no_I h.2.1 (R_su_I (R_te_I (R_on_I h.1 h.2.2))), R_ei_I (R_bo_I (R_no_I h.2.1 (R_su_I (R_te_I (R_on_I h.1 h.2.2)))))⟩
theorem R_lv_I {T : Nat → Int} {n : Nat} : ∀ r : Nat, q_pI n (R_lv T n r)
  | 0 => R_mk_I ⟨fun _ h => h, fun _ h => h, fun _ h => h⟩
  | r + 1 => R_mk_I (R_lv_I r)
theorem R_pt_I {T : Nat → Int} {n : Nat} {key : Int} {z : q_Z} (h : q_zI n z) : q_zI n (R_pt T n key z) := R_em_I (R_ex_I ((R_lv_I 5).2.2 _ (R_ex_I h))) (by omega) (by omega) (by omega)
