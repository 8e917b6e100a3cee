/-! THE CLASS'S READER: its memory. z: how many codes, token, value, from, behind, fault, the code; s: the starts -/
abbrev q_Z : Type := Int × Int × Int × Int × Int × Int × (Nat → Int)
def q_zM (M : q_M) (z : q_Z) (s : Nat → Int) : q_M := fun a i =>
  if a = 1 then (if i = 3 then z.1 else if i = 5 then z.2.1 else if i = 6 then z.2.2.1 else if i = 7 then z.2.2.2.1 else if i = 8 then z.2.2.2.2.1 else if i = 9 then z.2.2.2.2.2.1 else M 1 i)
  else if a = 3 then z.2.2.2.2.2.2 i else if a = 4 then s i else M a i
section RM
variable {M : q_M} {cn tok val fr bh ft : Int} {C s : Nat → Int}
theorem rr_cn : q_zM M (cn, tok, val, fr, bh, ft, C) s 1 3 = cn := rfl
theorem rr_tok : q_zM M (cn, tok, val, fr, bh, ft, C) s 1 5 = tok := rfl
theorem rr_val : q_zM M (cn, tok, val, fr, bh, ft, C) s 1 6 = val := rfl
theorem rr_fr : q_zM M (cn, tok, val, fr, bh, ft, C) s 1 7 = fr := rfl
theorem rr_bh : q_zM M (cn, tok, val, fr, bh, ft, C) s 1 8 = bh := rfl
theorem rr_ft : q_zM M (cn, tok, val, fr, bh, ft, C) s 1 9 = ft := rfl
theorem rr_size : q_zM M (cn, tok, val, fr, bh, ft, C) s 1 1 = M 1 1 := rfl
theorem rr_tape : q_zM M (cn, tok, val, fr, bh, ft, C) s 2 = M 2 := rfl
theorem rr_C {i : Nat} : q_zM M (cn, tok, val, fr, bh, ft, C) s 3 i = C i := rfl
theorem rr_s {i : Nat} : q_zM M (cn, tok, val, fr, bh, ft, C) s 4 i = s i := rfl
theorem ru_cn {x : Int} : q_upd (q_zM M (cn, tok, val, fr, bh, ft, C) s) 1 3 x = q_zM M (x, tok, val, fr, bh, ft, C) s := by
  funext a i
  by_cases c : a = 1 ∧ i = 3
  · obtain ⟨rfl, rfl⟩ := c
    rw [q_upd_s]
    rfl
  · rw [q_upd_n (by omega)]
    unfold q_zM
    by_cases c1 : a = 1
    · have c2 : i ≠ 3 := fun z => c ⟨c1, z⟩
      rw [if_pos c1, if_pos c1]
      simp only [c2, if_false]
    · rw [if_neg c1, if_neg c1]
theorem ru_tok {x : Int} : q_upd (q_zM M (cn, tok, val, fr, bh, ft, C) s) 1 5 x = q_zM M (cn, x, val, fr, bh, ft, C) s := by
  funext a i
  by_cases c : a = 1 ∧ i = 5
  · obtain ⟨rfl, rfl⟩ := c
    rw [q_upd_s]
    rfl
  · rw [q_upd_n (by omega)]
    unfold q_zM
    by_cases c1 : a = 1
    · have c2 : i ≠ 5 := fun z => c ⟨c1, z⟩
      rw [if_pos c1, if_pos c1]
      simp only [c2, if_false]
    · rw [if_neg c1, if_neg c1]
theorem ru_val {x : Int} : q_upd (q_zM M (cn, tok, val, fr, bh, ft, C) s) 1 6 x = q_zM M (cn, tok, x, fr, bh, ft, C) s := by
  funext a i
  by_cases c : a = 1 ∧ i = 6
  · obtain ⟨rfl, rfl⟩ := c
    rw [q_upd_s]
    rfl
  · rw [q_upd_n (by omega)]
    unfold q_zM
    by_cases c1 : a = 1
    · have c2 : i ≠ 6 := fun z => c ⟨c1, z⟩
      rw [if_pos c1, if_pos c1]
      simp only [c2, if_false]
    · rw [if_neg c1, if_neg c1]
theorem ru_fr {x : Int} : q_upd (q_zM M (cn, tok, val, fr, bh, ft, C) s) 1 7 x = q_zM M (cn, tok, val, x, bh, ft, C) s := by
  funext a i
  by_cases c : a = 1 ∧ i = 7
  · obtain ⟨rfl, rfl⟩ := c
    rw [q_upd_s]
    rfl
  · rw [q_upd_n (by omega)]
    unfold q_zM
    by_cases c1 : a = 1
    · have c2 : i ≠ 7 := fun z => c ⟨c1, z⟩
      rw [if_pos c1, if_pos c1]
      simp only [c2, if_false]
    · rw [if_neg c1, if_neg c1]
theorem ru_bh {x : Int} : q_upd (q_zM M (cn, tok, val, fr, bh, ft, C) s) 1 8 x = q_zM M (cn, tok, val, fr, x, ft, C) s := by
  funext a i
  by_cases c : a = 1 ∧ i = 8
  · obtain ⟨rfl, rfl⟩ := c
    rw [q_upd_s]
    rfl
  · rw [q_upd_n (by omega)]
    unfold q_zM
    by_cases c1 : a = 1
    · have c2 : i ≠ 8 := fun z => c ⟨c1, z⟩
      rw [if_pos c1, if_pos c1]
      simp only [c2, if_false]
    · rw [if_neg c1, if_neg c1]
theorem ru_ft {x : Int} : q_upd (q_zM M (cn, tok, val, fr, bh, ft, C) s) 1 9 x = q_zM M (cn, tok, val, fr, bh, x, C) s := by
  funext a i
  by_cases c : a = 1 ∧ i = 9
  · obtain ⟨rfl, rfl⟩ := c
    rw [q_upd_s]
    rfl
  · rw [q_upd_n (by omega)]
    unfold q_zM
    by_cases c1 : a = 1
    · have c2 : i ≠ 9 := fun z => c ⟨c1, z⟩
      rw [if_pos c1, if_pos c1]
      simp only [c2, if_false]
    · rw [if_neg c1, if_neg c1]
theorem ru_C {p : Nat} {x : Int} : q_upd (q_zM M (cn, tok, val, fr, bh, ft, C) s) 3 p x = q_zM M (cn, tok, val, fr, bh, ft, F_u C p x) s := by
  funext a i
  by_cases c : a = 3 ∧ i = p
  · obtain ⟨rfl, rfl⟩ := c
    rw [q_upd_s]
    exact (if_pos rfl).symm
  · rw [q_upd_n (by omega)]
    unfold q_zM F_u
    by_cases c1 : a = 1
    · rw [if_pos c1, if_pos c1]
    · rw [if_neg c1, if_neg c1]
      by_cases c2 : a = 3
      · rw [if_pos c2, if_pos c2]
        exact (if_neg (fun z => c ⟨c2, z⟩)).symm
      · rw [if_neg c2, if_neg c2]
theorem ru_s {p : Nat} {x : Int} : q_upd (q_zM M (cn, tok, val, fr, bh, ft, C) s) 4 p x = q_zM M (cn, tok, val, fr, bh, ft, C) (F_u s p x) := by
  funext a i
  by_cases c : a = 4 ∧ i = p
  · obtain ⟨rfl, rfl⟩ := c
    rw [q_upd_s]
    exact (if_pos rfl).symm
  · rw [q_upd_n (by omega)]
    unfold q_zM F_u
    by_cases c1 : a = 1
    · rw [if_pos c1, if_pos c1]
    · rw [if_neg c1, if_neg c1]
      by_cases c2 : a = 3
      · rw [if_pos c2, if_pos c2]
      · rw [if_neg c2, if_neg c2]
        by_cases c3 : a = 4
        · rw [if_pos c3, if_pos c3]
          exact (if_neg (fun z => c ⟨c3, z⟩)).symm
        · rw [if_neg c3, if_neg c3]
end RM
/-! what it reads, in numbers: a tape T of n bytes -/
def F_ltr (v : Int) : Bool := decide (97 ≤ v ∧ v ≤ 122)
def F_dgt (v : Int) : Bool := decide (48 ≤ v ∧ v ≤ 57)
def F_sgn (v : Int) : Bool := decide (v = 40 ∨ v = 41 ∨ v = 59 ∨ v = 43 ∨ v = 45 ∨ v = 42 ∨ v = 60 ∨ v = 61)
def F_blk (v : Int) : Bool := decide (v = 32 ∨ v = 10)
/-- the first place from i on that P doesn't hold at, j at most further -/
def F_wh (P : Int → Bool) (T : Nat → Int) : Nat → Nat → Nat
  | 0, i => i
  | j + 1, i => if P (T i) = true then F_wh P T j (i + 1) else i
theorem F_wh_le {P : Int → Bool} {T : Nat → Int} : ∀ j i : Nat, i ≤ F_wh P T j i ∧ F_wh P T j i ≤ i + j
  | 0, i => ⟨Nat.le_refl i, Nat.le_refl i⟩
  | j + 1, i => by
    have h := F_wh_le (P := P) (T := T) j (i + 1)
    rw [F_wh]
    split <;> omega
def F_num (T : Nat → Int) (i : Nat) : Nat → Int
  | 0 => 0
  | k + 1 => q_sub (q_add (q_mul 10 (F_num T i k)) (T (i + k))) 48
def F_sm (T : Nat → Int) (i j : Nat) : Nat → Bool
  | 0 => true
  | k + 1 => F_sm T i j k && decide (T (i + k) = q_sch j k)
/-- whether the word j stands from i to b -/
def F_is (T : Nat → Int) (i b j : Nat) : Bool := decide (q_slen j = (b : Int) - i) && F_sm T i j (q_slen j).toNat
def R_m (T : Nat → Int) (i b : Nat) (j : Nat) (t v : Int) (a : Int × Int) : Int × Int := if F_is T i b j = true then (t, v) else a
/-- what a word means -/
def R_wd (T : Nat → Int) (i b : Nat) (v : Int) : Int × Int := R_m T i b 12 (-4) 5 (R_m T i b 11 (-4) 4 (R_m T i b 10 (-4) 3 (R_m T i b 9 (-4) 2 (R_m T i b 8 (-4) 1 (R_m T i b 7 (-4) 0 (R_m T i b 6 (-10) 0 (R_m T i b 5 (-9) 0 (R_m T i b 4 (-8) 0 (R_m T i b 3 (-7) 0 (R_m T i b 2 (-6) 0 (R_m T i b 1 (-5) 0 (-1, v))))))))))))
/-- the token that begins at i (which is no blank), read over an old value: token, value, behind -/
def R_tk (T : Nat → Int) (n i : Nat) (v : Int) : Int × Int × Nat :=
  if n ≤ i then (-2, v, i)
  else if F_ltr (T i) = true then ((R_wd T i (F_wh F_ltr T (n - (i + 1)) (i + 1)) v).1, (R_wd T i (F_wh F_ltr T (n - (i + 1)) (i + 1)) v).2, F_wh F_ltr T (n - (i + 1)) (i + 1))
  else if F_dgt (T i) = true then (if i + 4 < F_wh F_dgt T (n - i) i then -1 else -3, F_num T i (F_wh F_dgt T (n - i) i - i), F_wh F_dgt T (n - i) i)
  else (if F_sgn (T i) = true then T i else -1, v, i + 1)
def R_nx (T : Nat → Int) (n : Nat) (z : q_Z) : q_Z := match z with
  | (cn, tok, val, fr, bh, ft, C) => if 0 ≤ ft then (cn, tok, val, fr, bh, ft, C)
    else (cn, (R_tk T n (F_wh F_blk T (n - bh.toNat) bh.toNat) val).1, (R_tk T n (F_wh F_blk T (n - bh.toNat) bh.toNat) val).2.1, (F_wh F_blk T (n - bh.toNat) bh.toNat : Nat), ((R_tk T n (F_wh F_blk T (n - bh.toNat) bh.toNat) val).2.2 : Nat), ft, C)
