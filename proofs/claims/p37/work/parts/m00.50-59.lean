section
/-! WHAT BOTH SIDES DO, in numbers. A world S: row 0 kinds, 1 mores, 2 at, 3 weights, 4 in (5: none), 5 places, 6 rooms, 7 vain, 8 built; S 9 0 stones, S 9 1 year. A law V: what a part says of six names. -/
def F_n (S : q_M) : Nat := (S 9 0).toNat
def F_nm (S : q_M) (p b : Nat) : Nat → Int := fun k => match k with
  | 0 => if b = 5 then 0 else if S 2 p - S 5 b < 0 then -(S 2 p - S 5 b) else S 2 p - S 5 b
  | 1 => S 7 b
  | 2 => S 8 b
  | 3 => S 3 p
  | 4 => S 9 1
  | 5 => S 1 p
  | _ => 0
def F_cl (lo x : Int) : Int := if x < lo then lo else if 99 < x then 99 else x
def F_says (V : Nat → (Nat → Int) → Int) (S : q_M) (part p b : Nat) : Int := F_cl (if part = 2 then 0 else -99) (V part (F_nm S p b))
def F_half (x : Int) : Int := if 0 ≤ x then x / 2 else -(-x / 2)
def F_likes (V : Nat → (Nat → Int) → Int) (S : q_M) (p b : Nat) : Int :=
  if S 0 p = 5 ∧ S 1 p < S 8 b then -1
  else if S 0 p = 1 ∨ S 0 p = 3 then (if S 1 p % 5 = b then 99 else F_half (F_says V S 0 p b))
  else if S 0 p = 4 ∧ 50 < S 7 b then -F_says V S 0 p b else F_says V S 0 p b
def F_wants (V : Nat → (Nat → Int) → Int) (S : q_M) (p b : Nat) : Int :=
  if S 0 p = 3 then -F_says V S 1 p b
  else if S 0 p = 2 ∨ (S 0 p = 4 ∧ S 9 1 % 2 = 0) then F_says V S 1 p b + 10 * S 1 p else F_says V S 1 p b
def F_goes (V : Nat → (Nat → Int) → Int) (S : q_M) (p : Nat) : Int :=
  if S 0 p = 5 then 1
  else if S 0 p = 1 then (if S 9 1 < 10 then 0 else F_says V S 2 p 5)
  else if S 0 p = 3 then (if S 9 1 < 10 then 0 else F_says V S 2 p 5) + S 1 p
  else if S 0 p = 2 ∨ S 0 p = 4 then F_half (F_says V S 2 p 5) else F_says V S 2 p 5
/-- the first of the most above 0, of buildings below k; 5: none -/
def F_best (L : Nat → Int) (ok : Nat → Bool) : Nat → Nat × Int
  | 0 => (5, 0)
  | k + 1 => if ok k = true ∧ (F_best L ok k).2 < L k then (k, L k) else F_best L ok k
def F_wish (V : Nat → (Nat → Int) → Int) (S : q_M) (p : Nat) : Nat := (F_best (F_likes V S p) (fun _ => true) 5).1
def F_cnt (f : Nat → Int) (b : Int) : Nat → Int
  | 0 => 0
  | n + 1 => F_cnt f b n + (if f n = b then 1 else 0)
def F_bits (f : Nat → Int) (b : Int) : Nat → Int
  | 0 => 0
  | n + 1 => q_or (F_bits f b n) (if f n = b then q_shl 1 n else 0)
def F_dig (f : Nat → Int) : Nat → Int
  | 0 => 0
  | n + 1 => 10 * F_dig f n + (if f n = 5 then 0 else f n + 1)
/-- of those below k in a building who is wanted least, of like ones the last; 5: nobody -/
def F_last (f : Nat → Int) (w : Nat → Int) (b : Int) : Nat → Nat
  | 0 => 5
  | k + 1 => if f k = b ∧ (F_last f w b k = 5 ∨ w k ≤ w (F_last f w b k)) then k else F_last f w b k
def F_takes (f : Nat → Int) (w : Nat → Int) (room b : Int) (n p : Nat) : Bool :=
  if F_cnt f b n < room then true
  else if F_last f w b n = 5 then false
  else decide (w (F_last f w b n) < w p ∨ (w p = w (F_last f w b n) ∧ p < F_last f w b n))
theorem F_cnt_le (f : Nat → Int) (b : Int) : ∀ n : Nat, 0 ≤ F_cnt f b n ∧ F_cnt f b n ≤ n
  | 0 => ⟨Int.le_refl 0, Int.le_refl 0⟩
  | n + 1 => by
    have h := F_cnt_le f b n
    rw [F_cnt]
    split <;> omega
theorem F_dig_le (f : Nat → Int) (hf : ∀ i, 0 ≤ f i ∧ f i ≤ 5) : ∀ n : Nat, n ≤ 5 → 0 ≤ F_dig f n ∧ F_dig f n ≤ 55555
  | 0, _ => by rw [F_dig]; omega
  | 1, _ => by
    have h0 := hf 0
    rw [F_dig, F_dig]
    split <;> omega
  | 2, _ => by
    have h0 := hf 0
    have h1 := hf 1
    rw [F_dig, F_dig, F_dig]
    split <;> split <;> omega
  | 3, _ => by
    have h0 := hf 0
    have h1 := hf 1
    have h2 := hf 2
    rw [F_dig, F_dig, F_dig, F_dig]
    (repeat' split) <;> omega
  | 4, _ => by
    have h0 := hf 0
    have h1 := hf 1
    have h2 := hf 2
    have h3 := hf 3
    rw [F_dig, F_dig, F_dig, F_dig, F_dig]
    (repeat' split) <;> omega
  | 5, _ => by
    have h0 := hf 0
    have h1 := hf 1
    have h2 := hf 2
    have h3 := hf 3
    have h4 := hf 4
    rw [F_dig, F_dig, F_dig, F_dig, F_dig, F_dig]
    (repeat' split) <;> omega
  | n + 6, h => absurd h (by omega)
/-- a run that ends so for every Q ends so alone -/
theorem q_S_eq {md d id : Nat} {as : List q_V} {g g' : q_G} {M M' : q_M} {v : Option q_V} (h : ∀ Q : Option q_V → q_G → q_M → Prop, Q v g' M' → q_S md d id as g M Q) (Q : Option q_V → q_G → q_M → Prop) : q_S md d id as g M Q = Q v g' M' := by
  apply propext
  constructor
  · rintro ⟨f, r, h1, h2⟩
    obtain ⟨f2, r2, h3, h4⟩ := h (fun v2 g2 M2 => (v2, g2, M2) = (v, g', M')) rfl
    have e1 := q_run_le h1 (Nat.le_max_left f f2)
    have e2 := q_run_le h3 (Nat.le_max_right f f2)
    rw [e1] at e2
    cases e2
    have e3 : r = (v, g', M') := h4
    rw [e3] at h2
    exact h2
  · exact h Q
end
section
/-! THE CLASS'S CHOICE, at any place c: its rooms c + 1, who is in what c + 2, how they like c + 4 + p, are wanted c + 11 + p, sent c + 17 -/
theorem sp_housed {d : Nat} {g : q_G} {M : q_M} {c : Nat} {b : Int} (h0 : 0 ≤ M c 5) (h5 : M c 5 ≤ 5) (Q : Option q_V → q_G → q_M → Prop) : q_S 1 d 4 [qR 0 c, qI b] g M Q = Q (some (qI (F_cnt (M (c + 2)) b (M c 5).toNat))) g M := by
  refine q_S_eq (fun Q hq => ?_) Q
  rw [s_X0_housed]
  have loop : ∀ k p : Nat, p + k = (M c 5).toNat → q_T 1 d qP_X0_housed 4 [] [qR 0 c, qI b, qI (F_cnt (M (c + 2)) b p), qI p] [] g M Q := by
    intro k
    induction k with
    | zero =>
      intro p hp
      have e : p = (M c 5).toNat := by omega
      subst e
      rw [b_X0_housed_4]
      simp (disch := omega) only [b_X0_housed_0, x_iconst, x_storeI_2, x_storeI_3, x_loadI_3, x_loadR_0, x_loadS_0, f_0_5, y_ic_ge_t, y_ic_ge_f, b_X0_housed_12, x_loadI_2, f_0_1, y_iald_26, x_loadI_1, y_ic_ne_t, y_ic_ne_f, b_X0_housed_23, x_goto, b_X0_housed_27, b_X0_housed_28, x_iadd, x_iinc_3, b_X0_housed_36, x_ret0, q_isL_I, q_isL_R, q_isL_S, true_and, and_true, and_self, List.length_nil, List.length_cons, Nat.zero_add, x_K, x_Kn, Int.reduceToNat, Nat.reduceAdd, Nat.reduceMul, Nat.reduceLeDiff, Nat.reduceLT, Nat.zero_le, Int.reduceAdd, Int.reduceSub, Int.reduceMul, Int.reduceNeg, q_add_e, q_sub_e, q_mul_e, q_neg_e, q_upd_s, q_upd_n, zr_shr0, zr_shr1, zr_shr2, zr_shr3, zr_shr4, zr_and, zr_dyn8, zr_or, zr_shl, q_cpy_n, y_cpy26]
      exact hq
    | succ k ih =>
      intro p hp
      have hc := F_cnt_le (M (c + 2)) b p
      have h9 := ih (p + 1) (by omega)
      rw [F_cnt] at h9
      rw [b_X0_housed_4]
      by_cases he : M (c + 2) p = b
      · rw [if_pos he] at h9
        simp (disch := omega) only [b_X0_housed_0, x_iconst, x_storeI_2, x_storeI_3, x_loadI_3, x_loadR_0, x_loadS_0, f_0_5, y_ic_ge_t, y_ic_ge_f, b_X0_housed_12, x_loadI_2, f_0_1, y_iald_26, x_loadI_1, y_ic_ne_t, y_ic_ne_f, b_X0_housed_23, x_goto, b_X0_housed_27, b_X0_housed_28, x_iadd, x_iinc_3, b_X0_housed_36, x_ret0, q_isL_I, q_isL_R, q_isL_S, true_and, and_true, and_self, List.length_nil, List.length_cons, Nat.zero_add, x_K, x_Kn, Int.reduceToNat, Nat.reduceAdd, Nat.reduceMul, Nat.reduceLeDiff, Nat.reduceLT, Nat.zero_le, Int.reduceAdd, Int.reduceSub, Int.reduceMul, Int.reduceNeg, q_add_e, q_sub_e, q_mul_e, q_neg_e, q_upd_s, q_upd_n, zr_shr0, zr_shr1, zr_shr2, zr_shr3, zr_shr4, zr_and, zr_dyn8, zr_or, zr_shl, q_cpy_n, y_cpy26, Int.toNat_natCast]
        exact h9
      · rw [if_neg he] at h9
        simp (disch := omega) only [b_X0_housed_0, x_iconst, x_storeI_2, x_storeI_3, x_loadI_3, x_loadR_0, x_loadS_0, f_0_5, y_ic_ge_t, y_ic_ge_f, b_X0_housed_12, x_loadI_2, f_0_1, y_iald_26, x_loadI_1, y_ic_ne_t, y_ic_ne_f, b_X0_housed_23, x_goto, b_X0_housed_27, b_X0_housed_28, x_iadd, x_iinc_3, b_X0_housed_36, x_ret0, q_isL_I, q_isL_R, q_isL_S, true_and, and_true, and_self, List.length_nil, List.length_cons, Nat.zero_add, x_K, x_Kn, Int.reduceToNat, Nat.reduceAdd, Nat.reduceMul, Nat.reduceLeDiff, Nat.reduceLT, Nat.zero_le, Int.reduceAdd, Int.reduceSub, Int.reduceMul, Int.reduceNeg, q_add_e, q_sub_e, q_mul_e, q_neg_e, q_upd_s, q_upd_n, zr_shr0, zr_shr1, zr_shr2, zr_shr3, zr_shr4, zr_and, zr_dyn8, zr_or, zr_shl, q_cpy_n, y_cpy26, Int.toNat_natCast]
        exact h9
  simp (disch := omega) only [b_X0_housed_0, x_iconst, x_storeI_2, x_storeI_3, x_loadI_3, x_loadR_0, x_loadS_0, f_0_5, y_ic_ge_t, y_ic_ge_f, b_X0_housed_12, x_loadI_2, f_0_1, y_iald_26, x_loadI_1, y_ic_ne_t, y_ic_ne_f, b_X0_housed_23, x_goto, b_X0_housed_27, b_X0_housed_28, x_iadd, x_iinc_3, b_X0_housed_36, x_ret0, q_isL_I, q_isL_R, q_isL_S, true_and, and_true, and_self, List.length_nil, List.length_cons, Nat.zero_add, x_K, x_Kn, Int.reduceToNat, Nat.reduceAdd, Nat.reduceMul, Nat.reduceLeDiff, Nat.reduceLT, Nat.zero_le, Int.reduceAdd, Int.reduceSub, Int.reduceMul, Int.reduceNeg, q_add_e, q_sub_e, q_mul_e, q_neg_e, q_upd_s, q_upd_n, zr_shr0, zr_shr1, zr_shr2, zr_shr3, zr_shr4, zr_and, zr_dyn8, zr_or, zr_shl, q_cpy_n, y_cpy26]
  exact loop (M c 5).toNat 0 (by omega)
theorem sp_inNone {d : Nat} {g : q_G} {M : q_M} {c : Nat} (h0 : 0 ≤ M c 5) (h5 : M c 5 ≤ 5) (Q : Option q_V → q_G → q_M → Prop) : q_S 1 (d + 1) 3 [qR 0 c] g M Q = Q (some (qI (F_cnt (M (c + 2)) 5 (M c 5).toNat))) g M := by
  rw [s_X0_inNone]
  simp (disch := omega) only [b_X0_inNone_0, x_loadR_0, x_loadS_0, x_iconst, x_ret0, q_isL_I, q_isL_R, q_isL_S, true_and, and_true, and_self, List.length_nil, List.length_cons, Nat.zero_add, x_K, x_Kn, Int.reduceToNat, Nat.reduceAdd, Nat.reduceMul, Nat.reduceLeDiff, Nat.reduceLT, Nat.zero_le, Int.reduceAdd, Int.reduceSub, Int.reduceMul, Int.reduceNeg, q_add_e, q_sub_e, q_mul_e, q_neg_e, q_upd_s, q_upd_n, zr_shr0, zr_shr1, zr_shr2, zr_shr3, zr_shr4, zr_and, zr_dyn8, zr_or, zr_shl, q_cpy_n, y_cpy26, c_X0_housed, sp_housed]
theorem sp_housedBits {d : Nat} {g : q_G} {M : q_M} {c : Nat} {b : Int} (h0 : 0 ≤ M c 5) (h5 : M c 5 ≤ 5) (Q : Option q_V → q_G → q_M → Prop) : q_S 1 d 5 [qR 0 c, qI b] g M Q = Q (some (qI (F_bits (M (c + 2)) b (M c 5).toNat))) g M := by
  refine q_S_eq (fun Q hq => ?_) Q
  rw [s_X0_housedBits]
  have loop : ∀ k p : Nat, p + k = (M c 5).toNat → q_T 1 d qP_X0_housedBits 4 [] [qR 0 c, qI b, qI (F_bits (M (c + 2)) b p), qI p] [] g M Q := by
    intro k
    induction k with
    | zero =>
      intro p hp
      have e : p = (M c 5).toNat := by omega
      subst e
      rw [b_X0_housedBits_4]
      simp (disch := omega) only [b_X0_housedBits_0, x_iconst, x_storeI_2, x_storeI_3, x_loadI_3, x_loadR_0, x_loadS_0, f_0_5, y_ic_ge_t, y_ic_ge_f, b_X0_housedBits_12, x_loadI_2, f_0_1, y_iald_26, x_loadI_1, y_ic_ne_t, y_ic_ne_f, b_X0_housedBits_23, x_ishl, x_goto, b_X0_housedBits_29, b_X0_housedBits_30, x_ior, x_iinc_3, b_X0_housedBits_38, x_ret0, q_isL_I, q_isL_R, q_isL_S, true_and, and_true, and_self, List.length_nil, List.length_cons, Nat.zero_add, x_K, x_Kn, Int.reduceToNat, Nat.reduceAdd, Nat.reduceMul, Nat.reduceLeDiff, Nat.reduceLT, Nat.zero_le, Int.reduceAdd, Int.reduceSub, Int.reduceMul, Int.reduceNeg, q_add_e, q_sub_e, q_mul_e, q_neg_e, q_upd_s, q_upd_n, zr_shr0, zr_shr1, zr_shr2, zr_shr3, zr_shr4, zr_and, zr_dyn8, zr_or, zr_shl, q_cpy_n, y_cpy26]
      exact hq
    | succ k ih =>
      intro p hp
      have h9 := ih (p + 1) (by omega)
      rw [F_bits] at h9
      rw [b_X0_housedBits_4]
      by_cases he : M (c + 2) p = b
      · rw [if_pos he] at h9
        simp (disch := omega) only [b_X0_housedBits_0, x_iconst, x_storeI_2, x_storeI_3, x_loadI_3, x_loadR_0, x_loadS_0, f_0_5, y_ic_ge_t, y_ic_ge_f, b_X0_housedBits_12, x_loadI_2, f_0_1, y_iald_26, x_loadI_1, y_ic_ne_t, y_ic_ne_f, b_X0_housedBits_23, x_ishl, x_goto, b_X0_housedBits_29, b_X0_housedBits_30, x_ior, x_iinc_3, b_X0_housedBits_38, x_ret0, q_isL_I, q_isL_R, q_isL_S, true_and, and_true, and_self, List.length_nil, List.length_cons, Nat.zero_add, x_K, x_Kn, Int.reduceToNat, Nat.reduceAdd, Nat.reduceMul, Nat.reduceLeDiff, Nat.reduceLT, Nat.zero_le, Int.reduceAdd, Int.reduceSub, Int.reduceMul, Int.reduceNeg, q_add_e, q_sub_e, q_mul_e, q_neg_e, q_upd_s, q_upd_n, zr_shr0, zr_shr1, zr_shr2, zr_shr3, zr_shr4, zr_and, zr_dyn8, zr_or, zr_shl, q_cpy_n, y_cpy26, Int.toNat_natCast]
        exact h9
      · rw [if_neg he] at h9
        simp (disch := omega) only [b_X0_housedBits_0, x_iconst, x_storeI_2, x_storeI_3, x_loadI_3, x_loadR_0, x_loadS_0, f_0_5, y_ic_ge_t, y_ic_ge_f, b_X0_housedBits_12, x_loadI_2, f_0_1, y_iald_26, x_loadI_1, y_ic_ne_t, y_ic_ne_f, b_X0_housedBits_23, x_ishl, x_goto, b_X0_housedBits_29, b_X0_housedBits_30, x_ior, x_iinc_3, b_X0_housedBits_38, x_ret0, q_isL_I, q_isL_R, q_isL_S, true_and, and_true, and_self, List.length_nil, List.length_cons, Nat.zero_add, x_K, x_Kn, Int.reduceToNat, Nat.reduceAdd, Nat.reduceMul, Nat.reduceLeDiff, Nat.reduceLT, Nat.zero_le, Int.reduceAdd, Int.reduceSub, Int.reduceMul, Int.reduceNeg, q_add_e, q_sub_e, q_mul_e, q_neg_e, q_upd_s, q_upd_n, zr_shr0, zr_shr1, zr_shr2, zr_shr3, zr_shr4, zr_and, zr_dyn8, zr_or, zr_shl, q_cpy_n, y_cpy26, Int.toNat_natCast]
        exact h9
  simp (disch := omega) only [b_X0_housedBits_0, x_iconst, x_storeI_2, x_storeI_3, x_loadI_3, x_loadR_0, x_loadS_0, f_0_5, y_ic_ge_t, y_ic_ge_f, b_X0_housedBits_12, x_loadI_2, f_0_1, y_iald_26, x_loadI_1, y_ic_ne_t, y_ic_ne_f, b_X0_housedBits_23, x_ishl, x_goto, b_X0_housedBits_29, b_X0_housedBits_30, x_ior, x_iinc_3, b_X0_housedBits_38, x_ret0, q_isL_I, q_isL_R, q_isL_S, true_and, and_true, and_self, List.length_nil, List.length_cons, Nat.zero_add, x_K, x_Kn, Int.reduceToNat, Nat.reduceAdd, Nat.reduceMul, Nat.reduceLeDiff, Nat.reduceLT, Nat.zero_le, Int.reduceAdd, Int.reduceSub, Int.reduceMul, Int.reduceNeg, q_add_e, q_sub_e, q_mul_e, q_neg_e, q_upd_s, q_upd_n, zr_shr0, zr_shr1, zr_shr2, zr_shr3, zr_shr4, zr_and, zr_dyn8, zr_or, zr_shl, q_cpy_n, y_cpy26]
  exact loop (M c 5).toNat 0 (by omega)
theorem sp_digits {d : Nat} {g : q_G} {M : q_M} {c : Nat} (h0 : 0 ≤ M c 5) (h5 : M c 5 ≤ 5) (hf : ∀ i, 0 ≤ M (c + 2) i ∧ M (c + 2) i ≤ 5) (Q : Option q_V → q_G → q_M → Prop) : q_S 1 d 6 [qR 0 c] g M Q = Q (some (qI (F_dig (M (c + 2)) (M c 5).toNat))) g M := by
  refine q_S_eq (fun Q hq => ?_) Q
  rw [s_X0_digits]
  have loop : ∀ k p : Nat, p + k = (M c 5).toNat → q_T 1 d qP_X0_digits 4 [] [qR 0 c, qI (F_dig (M (c + 2)) p), qI p] [] g M Q := by
    intro k
    induction k with
    | zero =>
      intro p hp
      have e : p = (M c 5).toNat := by omega
      subst e
      rw [b_X0_digits_4]
      simp (disch := omega) only [b_X0_digits_0, x_iconst, x_storeI_1, x_storeI_2, x_loadI_2, x_loadR_0, x_loadS_0, f_0_5, y_ic_ge_t, y_ic_ge_f, b_X0_digits_12, x_loadI_1, x_imul, f_0_1, y_iald_26, y_ic_ne_t, y_ic_ne_f, b_X0_digits_26, x_goto, b_X0_digits_30, x_iadd, b_X0_digits_38, x_iinc_2, b_X0_digits_46, x_ret0, q_isL_I, q_isL_R, q_isL_S, true_and, and_true, and_self, List.length_nil, List.length_cons, Nat.zero_add, x_K, x_Kn, Int.reduceToNat, Nat.reduceAdd, Nat.reduceMul, Nat.reduceLeDiff, Nat.reduceLT, Nat.zero_le, Int.reduceAdd, Int.reduceSub, Int.reduceMul, Int.reduceNeg, q_add_e, q_sub_e, q_mul_e, q_neg_e, q_upd_s, q_upd_n, zr_shr0, zr_shr1, zr_shr2, zr_shr3, zr_shr4, zr_and, zr_dyn8, zr_or, zr_shl, q_cpy_n, y_cpy26]
      exact hq
    | succ k ih =>
      intro p hp
      have hc := F_dig_le (M (c + 2)) hf p (by omega)
      have hp9 := hf p
      have h9 := ih (p + 1) (by omega)
      rw [F_dig] at h9
      rw [b_X0_digits_4]
      by_cases he : M (c + 2) p = 5
      · rw [if_pos he] at h9
        simp (disch := omega) only [b_X0_digits_0, x_iconst, x_storeI_1, x_storeI_2, x_loadI_2, x_loadR_0, x_loadS_0, f_0_5, y_ic_ge_t, y_ic_ge_f, b_X0_digits_12, x_loadI_1, x_imul, f_0_1, y_iald_26, y_ic_ne_t, y_ic_ne_f, b_X0_digits_26, x_goto, b_X0_digits_30, x_iadd, b_X0_digits_38, x_iinc_2, b_X0_digits_46, x_ret0, q_isL_I, q_isL_R, q_isL_S, true_and, and_true, and_self, List.length_nil, List.length_cons, Nat.zero_add, x_K, x_Kn, Int.reduceToNat, Nat.reduceAdd, Nat.reduceMul, Nat.reduceLeDiff, Nat.reduceLT, Nat.zero_le, Int.reduceAdd, Int.reduceSub, Int.reduceMul, Int.reduceNeg, q_add_e, q_sub_e, q_mul_e, q_neg_e, q_upd_s, q_upd_n, zr_shr0, zr_shr1, zr_shr2, zr_shr3, zr_shr4, zr_and, zr_dyn8, zr_or, zr_shl, q_cpy_n, y_cpy26, Int.toNat_natCast]
        exact h9
      · rw [if_neg he] at h9
        simp (disch := omega) only [b_X0_digits_0, x_iconst, x_storeI_1, x_storeI_2, x_loadI_2, x_loadR_0, x_loadS_0, f_0_5, y_ic_ge_t, y_ic_ge_f, b_X0_digits_12, x_loadI_1, x_imul, f_0_1, y_iald_26, y_ic_ne_t, y_ic_ne_f, b_X0_digits_26, x_goto, b_X0_digits_30, x_iadd, b_X0_digits_38, x_iinc_2, b_X0_digits_46, x_ret0, q_isL_I, q_isL_R, q_isL_S, true_and, and_true, and_self, List.length_nil, List.length_cons, Nat.zero_add, x_K, x_Kn, Int.reduceToNat, Nat.reduceAdd, Nat.reduceMul, Nat.reduceLeDiff, Nat.reduceLT, Nat.zero_le, Int.reduceAdd, Int.reduceSub, Int.reduceMul, Int.reduceNeg, q_add_e, q_sub_e, q_mul_e, q_neg_e, q_upd_s, q_upd_n, zr_shr0, zr_shr1, zr_shr2, zr_shr3, zr_shr4, zr_and, zr_dyn8, zr_or, zr_shl, q_cpy_n, y_cpy26, Int.toNat_natCast]
        exact h9
  simp (disch := omega) only [b_X0_digits_0, x_iconst, x_storeI_1, x_storeI_2, x_loadI_2, x_loadR_0, x_loadS_0, f_0_5, y_ic_ge_t, y_ic_ge_f, b_X0_digits_12, x_loadI_1, x_imul, f_0_1, y_iald_26, y_ic_ne_t, y_ic_ne_f, b_X0_digits_26, x_goto, b_X0_digits_30, x_iadd, b_X0_digits_38, x_iinc_2, b_X0_digits_46, x_ret0, q_isL_I, q_isL_R, q_isL_S, true_and, and_true, and_self, List.length_nil, List.length_cons, Nat.zero_add, x_K, x_Kn, Int.reduceToNat, Nat.reduceAdd, Nat.reduceMul, Nat.reduceLeDiff, Nat.reduceLT, Nat.zero_le, Int.reduceAdd, Int.reduceSub, Int.reduceMul, Int.reduceNeg, q_add_e, q_sub_e, q_mul_e, q_neg_e, q_upd_s, q_upd_n, zr_shr0, zr_shr1, zr_shr2, zr_shr3, zr_shr4, zr_and, zr_dyn8, zr_or, zr_shl, q_cpy_n, y_cpy26]
  exact loop (M c 5).toNat 0 (by omega)
/-! how much one likes its building, or is wanted: rows L p of buildings -/
def F_sum (L : Nat → Nat → Int) (f : Nat → Int) : Nat → Int
  | 0 => 0
  | n + 1 => F_sum L f n + L n (f n).toNat
end
section
/-! THE CLASS'S CHOICE: who would rather be where, and be taken -/
theorem sp_ratherBeIn {d : Nat} {g : q_G} {M : q_M} {c : Nat} {p b o : Int} (hp0 : 0 ≤ p) (hp : p < 6) (hb0 : 0 ≤ b) (hb : b < 6) (ho0 : 0 ≤ o) (ho : o < 6) (Q : Option q_V → q_G → q_M → Prop) : q_S 1 d 9 [qR 0 c, qI p, qI b, qI o] g M Q = Q (some (qI (if 0 < M (c + 3 + (1 + p.toNat)) b.toNat ∧ (M (c + 3 + (1 + p.toNat)) o.toNat < M (c + 3 + (1 + p.toNat)) b.toNat ∨ (M (c + 3 + (1 + p.toNat)) b.toNat = M (c + 3 + (1 + p.toNat)) o.toNat ∧ b < o)) then 1 else 0))) g M := by
  refine q_S_eq (fun Q hq => ?_) Q
  rw [s_X0_ratherBeIn]
  repeat' (first
    | (rw [if_pos (by omega)] at hq; exact hq)
    | (rw [if_neg (by omega)] at hq; exact hq)
    | simp (disch := omega) only [b_X0_ratherBeIn_0, x_loadR_0, x_loadS_0, f_0_2, x_loadI_1, y_aald7, x_loadI_2, y_iald_26, x_storeI_4, x_loadI_3, x_storeI_5, x_loadI_4, y_if_le_t, y_if_le_f, b_X0_ratherBeIn_25, x_loadI_5, y_ic_gt_t, y_ic_gt_f, b_X0_ratherBeIn_32, y_ic_ne_t, y_ic_ne_f, b_X0_ratherBeIn_39, y_ic_ge_t, y_ic_ge_f, b_X0_ratherBeIn_44, x_iconst, x_goto, b_X0_ratherBeIn_48, b_X0_ratherBeIn_49, x_ret1_0, x_ret1_1, q_isL_I, q_isL_R, q_isL_S, true_and, and_true, and_self, List.length_nil, List.length_cons, Nat.zero_add, x_K, x_Kn, Int.reduceToNat, Nat.reduceAdd, Nat.reduceMul, Nat.reduceLeDiff, Nat.reduceLT, Nat.zero_le, Int.reduceAdd, Int.reduceSub, Int.reduceMul, Int.reduceNeg, q_add_e, q_sub_e, q_mul_e, q_neg_e, q_upd_s, q_upd_n, zr_shr0, zr_shr1, zr_shr2, zr_shr3, zr_shr4, zr_and, zr_dyn8, zr_or, zr_shl, q_cpy_n, y_cpy26]
    | refine y_ic_lt (fun h => ?_) (fun h => ?_)
    | refine y_ic_ge (fun h => ?_) (fun h => ?_)
    | refine y_ic_gt (fun h => ?_) (fun h => ?_)
    | refine y_ic_le (fun h => ?_) (fun h => ?_)
    | refine y_ic_eq (fun h => ?_) (fun h => ?_)
    | refine y_ic_ne (fun h => ?_) (fun h => ?_)
    | refine y_if_lt (fun h => ?_) (fun h => ?_)
    | refine y_if_ge (fun h => ?_) (fun h => ?_)
    | refine y_if_gt (fun h => ?_) (fun h => ?_)
    | refine y_if_le (fun h => ?_) (fun h => ?_)
    | refine y_if_eq (fun h => ?_) (fun h => ?_)
    | refine y_if_ne (fun h => ?_) (fun h => ?_))
theorem sp_ratherHave {d : Nat} {g : q_G} {M : q_M} {c : Nat} {b p o : Int} (hp0 : 0 ≤ p) (hp : p < 6) (hb0 : 0 ≤ b) (hb : b < 6) (ho0 : 0 ≤ o) (ho : o < 6) (Q : Option q_V → q_G → q_M → Prop) : q_S 1 d 11 [qR 0 c, qI b, qI p, qI o] g M Q = Q (some (qI (if M (c + 10 + (1 + o.toNat)) b.toNat < M (c + 10 + (1 + p.toNat)) b.toNat ∨ (M (c + 10 + (1 + p.toNat)) b.toNat = M (c + 10 + (1 + o.toNat)) b.toNat ∧ p < o) then 1 else 0))) g M := by
  refine q_S_eq (fun Q hq => ?_) Q
  rw [s_X0_ratherHave]
  repeat' (first
    | (rw [if_pos (by omega)] at hq; exact hq)
    | (rw [if_neg (by omega)] at hq; exact hq)
    | simp (disch := omega) only [b_X0_ratherHave_0, x_loadR_0, x_loadS_0, f_0_3, x_loadI_2, y_aald7, x_loadI_1, y_iald_26, x_loadI_3, y_ic_gt_t, y_ic_gt_f, b_X0_ratherHave_19, y_ic_ne_t, y_ic_ne_f, b_X0_ratherHave_38, y_ic_ge_t, y_ic_ge_f, b_X0_ratherHave_43, x_iconst, x_goto, b_X0_ratherHave_47, b_X0_ratherHave_48, x_ret1_0, x_ret1_1, q_isL_I, q_isL_R, q_isL_S, true_and, and_true, and_self, List.length_nil, List.length_cons, Nat.zero_add, x_K, x_Kn, Int.reduceToNat, Nat.reduceAdd, Nat.reduceMul, Nat.reduceLeDiff, Nat.reduceLT, Nat.zero_le, Int.reduceAdd, Int.reduceSub, Int.reduceMul, Int.reduceNeg, q_add_e, q_sub_e, q_mul_e, q_neg_e, q_upd_s, q_upd_n, zr_shr0, zr_shr1, zr_shr2, zr_shr3, zr_shr4, zr_and, zr_dyn8, zr_or, zr_shl, q_cpy_n, y_cpy26]
    | refine y_ic_lt (fun h => ?_) (fun h => ?_)
    | refine y_ic_ge (fun h => ?_) (fun h => ?_)
    | refine y_ic_gt (fun h => ?_) (fun h => ?_)
    | refine y_ic_le (fun h => ?_) (fun h => ?_)
    | refine y_ic_eq (fun h => ?_) (fun h => ?_)
    | refine y_ic_ne (fun h => ?_) (fun h => ?_)
    | refine y_if_lt (fun h => ?_) (fun h => ?_)
    | refine y_if_ge (fun h => ?_) (fun h => ?_)
    | refine y_if_gt (fun h => ?_) (fun h => ?_)
    | refine y_if_le (fun h => ?_) (fun h => ?_)
    | refine y_if_eq (fun h => ?_) (fun h => ?_)
    | refine y_if_ne (fun h => ?_) (fun h => ?_))
theorem F_best_1 (L : Nat → Int) (ok : Nat → Bool) : ∀ k : Nat, (F_best L ok k).1 < k ∨ (F_best L ok k).1 = 5
  | 0 => Or.inr rfl
  | k + 1 => by
    rw [F_best]
    split
    · exact Or.inl (Nat.lt_succ_self k)
    · rcases F_best_1 L ok k with h | h
      · exact Or.inl (Nat.lt_succ_of_lt h)
      · exact Or.inr h
theorem F_best_2 {L : Nat → Int} {ok : Nat → Bool} (h5 : L 5 = 0) : ∀ k : Nat, (F_best L ok k).2 = L (F_best L ok k).1 ∧ 0 ≤ (F_best L ok k).2
  | 0 => ⟨h5.symm, Int.le_refl 0⟩
  | k + 1 => by
    have h := F_best_2 (ok := ok) h5 k
    rw [F_best]
    split
    · next hc => exact ⟨rfl, by have := hc.2; show 0 ≤ L k; omega⟩
    · exact h
theorem sp_dearest {d : Nat} {g : q_G} {M : q_M} {c : Nat} {p but : Int} (hp0 : 0 ≤ p) (hp : p < 6) (hL5 : M (c + 3 + (1 + p.toNat)) 5 = 0) (Q : Option q_V → q_G → q_M → Prop) : q_S 1 (d + 1) 10 [qR 0 c, qI p, qI but] g M Q = Q (some (qI (F_best (M (c + 3 + (1 + p.toNat))) (fun k => decide (q_and (q_shr but k) 1 = 0)) 5).1)) g M := by
  refine q_S_eq (fun Q hq => ?_) Q
  rw [s_X0_dearest]
  generalize hF : (fun k : Nat => decide (q_and (q_shr but k) 1 = 0)) = ok at hq
  have loop : ∀ k b : Nat, b + k = 5 → q_T 1 (d + 1) qP_X0_dearest 5 [] [qR 0 c, qI p, qI but, qI ((F_best (M (c + 3 + (1 + p.toNat))) ok b).1 : Nat), qI b] [] g M Q := by
    intro k
    induction k with
    | zero =>
      intro b hb
      have e : b = 5 := by omega
      subst e
      rw [b_X0_dearest_5]
      simp (disch := omega) only [b_X0_dearest_0, x_iconst, x_storeI_3, x_storeI_4, x_loadI_4, y_ic_ge_t, y_ic_ge_f, b_X0_dearest_11, x_loadI_2, x_ishr, x_iand, y_if_ne_t, y_if_ne_f, b_X0_dearest_20, x_loadR_0, x_loadS_0, x_loadI_1, x_loadI_3, c_X0_ratherBeIn, y_if_eq_t, y_if_eq_f, b_X0_dearest_31, b_X0_dearest_34, x_iinc_4, x_goto, b_X0_dearest_40, x_ret0, f_0_2, y_aald7, y_iald_26, x_storeI_5, y_if_le_t, y_if_le_f, x_loadI_5, y_ic_gt_t, y_ic_gt_f, y_ic_ne_t, y_ic_ne_f, x_ret1_0, x_ret1_1, q_isL_I, q_isL_R, q_isL_S, true_and, and_true, and_self, List.length_nil, List.length_cons, Nat.zero_add, x_K, x_Kn, Int.reduceToNat, Nat.reduceAdd, Nat.reduceMul, Nat.reduceLeDiff, Nat.reduceLT, Nat.zero_le, Int.reduceAdd, Int.reduceSub, Int.reduceMul, Int.reduceNeg, q_add_e, q_sub_e, q_mul_e, q_neg_e, q_upd_s, q_upd_n, zr_shr0, zr_shr1, zr_shr2, zr_shr3, zr_shr4, zr_and, zr_dyn8, zr_or, zr_shl, q_cpy_n, y_cpy26]
      exact hq
    | succ k ih =>
      intro b hb
      have h1 := F_best_1 (M (c + 3 + (1 + p.toNat))) ok b
      have h2 := F_best_2 (ok := ok) hL5 b
      have h3 : (F_best (M (c + 3 + (1 + p.toNat))) ok b).1 = 5 → (F_best (M (c + 3 + (1 + p.toNat))) ok b).2 = 0 := fun e => by rw [h2.1, e]; exact hL5
      have h9 := ih (b + 1) (by omega)
      rw [F_best] at h9
      have hok : ok b = decide (q_and (q_shr but b) 1 = 0) := by rw [← hF]
      rw [b_X0_dearest_5]
      generalize F_best (M (c + 3 + (1 + p.toNat))) ok b = F at h1 h2 h3 h9 ⊢
      by_cases ho : q_and (q_shr but b) 1 = 0
      · rw [hok, decide_eq_true ho] at h9
        by_cases hl : F.2 < M (c + 3 + (1 + p.toNat)) b
        · rw [if_pos ⟨rfl, hl⟩] at h9
          simp (disch := omega) only [b_X0_dearest_0, x_iconst, x_storeI_3, x_storeI_4, x_loadI_4, y_ic_ge_t, y_ic_ge_f, b_X0_dearest_11, x_loadI_2, x_ishr, x_iand, y_if_ne_t, y_if_ne_f, b_X0_dearest_20, x_loadR_0, x_loadS_0, x_loadI_1, x_loadI_3, c_X0_ratherBeIn, y_if_eq_t, y_if_eq_f, b_X0_dearest_31, b_X0_dearest_34, x_iinc_4, x_goto, b_X0_dearest_40, x_ret0, f_0_2, y_aald7, y_iald_26, x_storeI_5, y_if_le_t, y_if_le_f, x_loadI_5, y_ic_gt_t, y_ic_gt_f, y_ic_ne_t, y_ic_ne_f, x_ret1_0, x_ret1_1, q_isL_I, q_isL_R, q_isL_S, true_and, and_true, and_self, List.length_nil, List.length_cons, Nat.zero_add, x_K, x_Kn, Int.reduceToNat, Nat.reduceAdd, Nat.reduceMul, Nat.reduceLeDiff, Nat.reduceLT, Nat.zero_le, Int.reduceAdd, Int.reduceSub, Int.reduceMul, Int.reduceNeg, q_add_e, q_sub_e, q_mul_e, q_neg_e, q_upd_s, q_upd_n, zr_shr0, zr_shr1, zr_shr2, zr_shr3, zr_shr4, zr_and, zr_dyn8, zr_or, zr_shl, q_cpy_n, y_cpy26, Int.toNat_natCast, sp_ratherBeIn, ho]
          exact h9
        · rw [if_neg (fun z => hl z.2)] at h9
          simp (disch := omega) only [b_X0_dearest_0, x_iconst, x_storeI_3, x_storeI_4, x_loadI_4, y_ic_ge_t, y_ic_ge_f, b_X0_dearest_11, x_loadI_2, x_ishr, x_iand, y_if_ne_t, y_if_ne_f, b_X0_dearest_20, x_loadR_0, x_loadS_0, x_loadI_1, x_loadI_3, c_X0_ratherBeIn, y_if_eq_t, y_if_eq_f, b_X0_dearest_31, b_X0_dearest_34, x_iinc_4, x_goto, b_X0_dearest_40, x_ret0, f_0_2, y_aald7, y_iald_26, x_storeI_5, y_if_le_t, y_if_le_f, x_loadI_5, y_ic_gt_t, y_ic_gt_f, y_ic_ne_t, y_ic_ne_f, x_ret1_0, x_ret1_1, q_isL_I, q_isL_R, q_isL_S, true_and, and_true, and_self, List.length_nil, List.length_cons, Nat.zero_add, x_K, x_Kn, Int.reduceToNat, Nat.reduceAdd, Nat.reduceMul, Nat.reduceLeDiff, Nat.reduceLT, Nat.zero_le, Int.reduceAdd, Int.reduceSub, Int.reduceMul, Int.reduceNeg, q_add_e, q_sub_e, q_mul_e, q_neg_e, q_upd_s, q_upd_n, zr_shr0, zr_shr1, zr_shr2, zr_shr3, zr_shr4, zr_and, zr_dyn8, zr_or, zr_shl, q_cpy_n, y_cpy26, Int.toNat_natCast, sp_ratherBeIn, ho]
          exact h9
      · rw [hok, decide_eq_false ho, if_neg (fun z => by cases z.1)] at h9
        simp (disch := omega) only [b_X0_dearest_0, x_iconst, x_storeI_3, x_storeI_4, x_loadI_4, y_ic_ge_t, y_ic_ge_f, b_X0_dearest_11, x_loadI_2, x_ishr, x_iand, y_if_ne_t, y_if_ne_f, b_X0_dearest_20, x_loadR_0, x_loadS_0, x_loadI_1, x_loadI_3, c_X0_ratherBeIn, y_if_eq_t, y_if_eq_f, b_X0_dearest_31, b_X0_dearest_34, x_iinc_4, x_goto, b_X0_dearest_40, x_ret0, f_0_2, y_aald7, y_iald_26, x_storeI_5, y_if_le_t, y_if_le_f, x_loadI_5, y_ic_gt_t, y_ic_gt_f, y_ic_ne_t, y_ic_ne_f, x_ret1_0, x_ret1_1, q_isL_I, q_isL_R, q_isL_S, true_and, and_true, and_self, List.length_nil, List.length_cons, Nat.zero_add, x_K, x_Kn, Int.reduceToNat, Nat.reduceAdd, Nat.reduceMul, Nat.reduceLeDiff, Nat.reduceLT, Nat.zero_le, Int.reduceAdd, Int.reduceSub, Int.reduceMul, Int.reduceNeg, q_add_e, q_sub_e, q_mul_e, q_neg_e, q_upd_s, q_upd_n, zr_shr0, zr_shr1, zr_shr2, zr_shr3, zr_shr4, zr_and, zr_dyn8, zr_or, zr_shl, q_cpy_n, y_cpy26, Int.toNat_natCast]
        exact h9
  simp (disch := omega) only [b_X0_dearest_0, x_iconst, x_storeI_3, x_storeI_4, x_loadI_4, y_ic_ge_t, y_ic_ge_f, b_X0_dearest_11, x_loadI_2, x_ishr, x_iand, y_if_ne_t, y_if_ne_f, b_X0_dearest_20, x_loadR_0, x_loadS_0, x_loadI_1, x_loadI_3, c_X0_ratherBeIn, y_if_eq_t, y_if_eq_f, b_X0_dearest_31, b_X0_dearest_34, x_iinc_4, x_goto, b_X0_dearest_40, x_ret0, f_0_2, y_aald7, y_iald_26, x_storeI_5, y_if_le_t, y_if_le_f, x_loadI_5, y_ic_gt_t, y_ic_gt_f, y_ic_ne_t, y_ic_ne_f, x_ret1_0, x_ret1_1, q_isL_I, q_isL_R, q_isL_S, true_and, and_true, and_self, List.length_nil, List.length_cons, Nat.zero_add, x_K, x_Kn, Int.reduceToNat, Nat.reduceAdd, Nat.reduceMul, Nat.reduceLeDiff, Nat.reduceLT, Nat.zero_le, Int.reduceAdd, Int.reduceSub, Int.reduceMul, Int.reduceNeg, q_add_e, q_sub_e, q_mul_e, q_neg_e, q_upd_s, q_upd_n, zr_shr0, zr_shr1, zr_shr2, zr_shr3, zr_shr4, zr_and, zr_dyn8, zr_or, zr_shl, q_cpy_n, y_cpy26]
  exact loop 5 0 (by omega)
theorem F_last_1 (f w : Nat → Int) (b : Int) : ∀ k : Nat, F_last f w b k < k ∨ F_last f w b k = 5
  | 0 => Or.inr rfl
  | k + 1 => by
    rw [F_last]
    split
    · exact Or.inl (Nat.lt_succ_self k)
    · rcases F_last_1 f w b k with h | h
      · exact Or.inl (Nat.lt_succ_of_lt h)
      · exact Or.inr h
theorem sp_last {d : Nat} {g : q_G} {M : q_M} {c : Nat} {b : Int} (h0 : 0 ≤ M c 5) (h5 : M c 5 ≤ 5) (hb0 : 0 ≤ b) (hb : b < 6) (Q : Option q_V → q_G → q_M → Prop) : q_S 1 (d + 1) 12 [qR 0 c, qI b] g M Q = Q (some (qI (F_last (M (c + 2)) (fun q => M (c + 10 + (1 + q)) b.toNat) b (M c 5).toNat))) g M := by
  refine q_S_eq (fun Q hq => ?_) Q
  rw [s_X0_last]
  have loop : ∀ k p : Nat, p + k = (M c 5).toNat → q_T 1 (d + 1) qP_X0_last 4 [] [qR 0 c, qI b, qI (F_last (M (c + 2)) (fun q => M (c + 10 + (1 + q)) b.toNat) b p : Nat), qI p] [] g M Q := by
    intro k
    induction k with
    | zero =>
      intro p hp
      have e : p = (M c 5).toNat := by omega
      subst e
      rw [b_X0_last_4]
      simp (disch := omega) only [b_X0_last_0, x_iconst, x_storeI_2, x_storeI_3, x_loadI_3, x_loadR_0, x_loadS_0, f_0_5, y_ic_ge_t, y_ic_ge_f, b_X0_last_12, f_0_1, y_iald_26, x_loadI_1, y_ic_ne_t, y_ic_ne_f, b_X0_last_22, x_loadI_2, y_ic_eq_t, y_ic_eq_f, b_X0_last_27, c_X0_ratherHave, y_if_eq_t, y_if_eq_f, b_X0_last_37, b_X0_last_39, x_iinc_3, x_goto, b_X0_last_45, x_ret0, f_0_3, y_aald7, y_ic_gt_t, y_ic_gt_f, x_ret1_0, x_ret1_1, q_isL_I, q_isL_R, q_isL_S, true_and, and_true, and_self, List.length_nil, List.length_cons, Nat.zero_add, x_K, x_Kn, Int.reduceToNat, Nat.reduceAdd, Nat.reduceMul, Nat.reduceLeDiff, Nat.reduceLT, Nat.zero_le, Int.reduceAdd, Int.reduceSub, Int.reduceMul, Int.reduceNeg, q_add_e, q_sub_e, q_mul_e, q_neg_e, q_upd_s, q_upd_n, zr_shr0, zr_shr1, zr_shr2, zr_shr3, zr_shr4, zr_and, zr_dyn8, zr_or, zr_shl, q_cpy_n, y_cpy26]
      exact hq
    | succ k ih =>
      intro p hp
      have h1 := F_last_1 (M (c + 2)) (fun q => M (c + 10 + (1 + q)) b.toNat) b p
      have h9 := ih (p + 1) (by omega)
      rw [F_last] at h9
      rw [b_X0_last_4]
      generalize F_last (M (c + 2)) (fun q => M (c + 10 + (1 + q)) b.toNat) b p = F at h1 h9 ⊢
      by_cases he : M (c + 2) p = b
      · by_cases h6 : F = 5
        · rw [if_pos ⟨he, Or.inl h6⟩] at h9
          simp (disch := omega) only [b_X0_last_0, x_iconst, x_storeI_2, x_storeI_3, x_loadI_3, x_loadR_0, x_loadS_0, f_0_5, y_ic_ge_t, y_ic_ge_f, b_X0_last_12, f_0_1, y_iald_26, x_loadI_1, y_ic_ne_t, y_ic_ne_f, b_X0_last_22, x_loadI_2, y_ic_eq_t, y_ic_eq_f, b_X0_last_27, c_X0_ratherHave, y_if_eq_t, y_if_eq_f, b_X0_last_37, b_X0_last_39, x_iinc_3, x_goto, b_X0_last_45, x_ret0, f_0_3, y_aald7, y_ic_gt_t, y_ic_gt_f, x_ret1_0, x_ret1_1, q_isL_I, q_isL_R, q_isL_S, true_and, and_true, and_self, List.length_nil, List.length_cons, Nat.zero_add, x_K, x_Kn, Int.reduceToNat, Nat.reduceAdd, Nat.reduceMul, Nat.reduceLeDiff, Nat.reduceLT, Nat.zero_le, Int.reduceAdd, Int.reduceSub, Int.reduceMul, Int.reduceNeg, q_add_e, q_sub_e, q_mul_e, q_neg_e, q_upd_s, q_upd_n, zr_shr0, zr_shr1, zr_shr2, zr_shr3, zr_shr4, zr_and, zr_dyn8, zr_or, zr_shl, q_cpy_n, y_cpy26, Int.toNat_natCast]
          exact h9
        · by_cases hw : M (c + 10 + (1 + p)) b.toNat ≤ M (c + 10 + (1 + F)) b.toNat
          · rw [if_pos ⟨he, Or.inr hw⟩] at h9
            simp (disch := omega) only [b_X0_last_0, x_iconst, x_storeI_2, x_storeI_3, x_loadI_3, x_loadR_0, x_loadS_0, f_0_5, y_ic_ge_t, y_ic_ge_f, b_X0_last_12, f_0_1, y_iald_26, x_loadI_1, y_ic_ne_t, y_ic_ne_f, b_X0_last_22, x_loadI_2, y_ic_eq_t, y_ic_eq_f, b_X0_last_27, c_X0_ratherHave, y_if_eq_t, y_if_eq_f, b_X0_last_37, b_X0_last_39, x_iinc_3, x_goto, b_X0_last_45, x_ret0, f_0_3, y_aald7, y_ic_gt_t, y_ic_gt_f, x_ret1_0, x_ret1_1, q_isL_I, q_isL_R, q_isL_S, true_and, and_true, and_self, List.length_nil, List.length_cons, Nat.zero_add, x_K, x_Kn, Int.reduceToNat, Nat.reduceAdd, Nat.reduceMul, Nat.reduceLeDiff, Nat.reduceLT, Nat.zero_le, Int.reduceAdd, Int.reduceSub, Int.reduceMul, Int.reduceNeg, q_add_e, q_sub_e, q_mul_e, q_neg_e, q_upd_s, q_upd_n, zr_shr0, zr_shr1, zr_shr2, zr_shr3, zr_shr4, zr_and, zr_dyn8, zr_or, zr_shl, q_cpy_n, y_cpy26, Int.toNat_natCast, sp_ratherHave]
            exact h9
          · rw [if_neg (fun z => by rcases z.2 with z | z; exact h6 z; exact hw z)] at h9
            simp (disch := omega) only [b_X0_last_0, x_iconst, x_storeI_2, x_storeI_3, x_loadI_3, x_loadR_0, x_loadS_0, f_0_5, y_ic_ge_t, y_ic_ge_f, b_X0_last_12, f_0_1, y_iald_26, x_loadI_1, y_ic_ne_t, y_ic_ne_f, b_X0_last_22, x_loadI_2, y_ic_eq_t, y_ic_eq_f, b_X0_last_27, c_X0_ratherHave, y_if_eq_t, y_if_eq_f, b_X0_last_37, b_X0_last_39, x_iinc_3, x_goto, b_X0_last_45, x_ret0, f_0_3, y_aald7, y_ic_gt_t, y_ic_gt_f, x_ret1_0, x_ret1_1, q_isL_I, q_isL_R, q_isL_S, true_and, and_true, and_self, List.length_nil, List.length_cons, Nat.zero_add, x_K, x_Kn, Int.reduceToNat, Nat.reduceAdd, Nat.reduceMul, Nat.reduceLeDiff, Nat.reduceLT, Nat.zero_le, Int.reduceAdd, Int.reduceSub, Int.reduceMul, Int.reduceNeg, q_add_e, q_sub_e, q_mul_e, q_neg_e, q_upd_s, q_upd_n, zr_shr0, zr_shr1, zr_shr2, zr_shr3, zr_shr4, zr_and, zr_dyn8, zr_or, zr_shl, q_cpy_n, y_cpy26, Int.toNat_natCast, sp_ratherHave]
            exact h9
      · rw [if_neg (fun z => he z.1)] at h9
        simp (disch := omega) only [b_X0_last_0, x_iconst, x_storeI_2, x_storeI_3, x_loadI_3, x_loadR_0, x_loadS_0, f_0_5, y_ic_ge_t, y_ic_ge_f, b_X0_last_12, f_0_1, y_iald_26, x_loadI_1, y_ic_ne_t, y_ic_ne_f, b_X0_last_22, x_loadI_2, y_ic_eq_t, y_ic_eq_f, b_X0_last_27, c_X0_ratherHave, y_if_eq_t, y_if_eq_f, b_X0_last_37, b_X0_last_39, x_iinc_3, x_goto, b_X0_last_45, x_ret0, f_0_3, y_aald7, y_ic_gt_t, y_ic_gt_f, x_ret1_0, x_ret1_1, q_isL_I, q_isL_R, q_isL_S, true_and, and_true, and_self, List.length_nil, List.length_cons, Nat.zero_add, x_K, x_Kn, Int.reduceToNat, Nat.reduceAdd, Nat.reduceMul, Nat.reduceLeDiff, Nat.reduceLT, Nat.zero_le, Int.reduceAdd, Int.reduceSub, Int.reduceMul, Int.reduceNeg, q_add_e, q_sub_e, q_mul_e, q_neg_e, q_upd_s, q_upd_n, zr_shr0, zr_shr1, zr_shr2, zr_shr3, zr_shr4, zr_and, zr_dyn8, zr_or, zr_shl, q_cpy_n, y_cpy26, Int.toNat_natCast]
        exact h9
  simp (disch := omega) only [b_X0_last_0, x_iconst, x_storeI_2, x_storeI_3, x_loadI_3, x_loadR_0, x_loadS_0, f_0_5, y_ic_ge_t, y_ic_ge_f, b_X0_last_12, f_0_1, y_iald_26, x_loadI_1, y_ic_ne_t, y_ic_ne_f, b_X0_last_22, x_loadI_2, y_ic_eq_t, y_ic_eq_f, b_X0_last_27, c_X0_ratherHave, y_if_eq_t, y_if_eq_f, b_X0_last_37, b_X0_last_39, x_iinc_3, x_goto, b_X0_last_45, x_ret0, f_0_3, y_aald7, y_ic_gt_t, y_ic_gt_f, x_ret1_0, x_ret1_1, q_isL_I, q_isL_R, q_isL_S, true_and, and_true, and_self, List.length_nil, List.length_cons, Nat.zero_add, x_K, x_Kn, Int.reduceToNat, Nat.reduceAdd, Nat.reduceMul, Nat.reduceLeDiff, Nat.reduceLT, Nat.zero_le, Int.reduceAdd, Int.reduceSub, Int.reduceMul, Int.reduceNeg, q_add_e, q_sub_e, q_mul_e, q_neg_e, q_upd_s, q_upd_n, zr_shr0, zr_shr1, zr_shr2, zr_shr3, zr_shr4, zr_and, zr_dyn8, zr_or, zr_shl, q_cpy_n, y_cpy26]
  exact loop (M c 5).toNat 0 (by omega)
end
section
/-! THE CLASS'S CHOICE: takes, comes in, asking in turn -/
/-- whether a building takes one that isn't in it: room, and over whom; the class asks for room first -/
def F_takes1 (f : Nat → Int) (w : Nat → Int) (room b : Int) (n p : Nat) : Bool :=
  if f p = b then false
  else if F_cnt f b n < room then true
  else if F_last f w b n = 5 then false
  else decide (0 < room ∧ (w (F_last f w b n) < w p ∨ (w p = w (F_last f w b n) ∧ p < F_last f w b n)))
theorem sp_takes {d : Nat} {g : q_G} {M : q_M} {c p : Nat} {b : Int} (h0 : 0 ≤ M c 5) (h5 : M c 5 ≤ 5) (hp : p < 6) (hb0 : 0 ≤ b) (hb : b < 6) (Q : Option q_V → q_G → q_M → Prop) : q_S 1 (d + 2) 13 [qR 0 c, qI p, qI b] g M Q = Q (some (qI (if F_takes1 (M (c + 2)) (fun q => M (c + 10 + (1 + q)) b.toNat) (M (c + 1) b.toNat) b (M c 5).toNat p = true then 1 else 0))) g M := by
  refine q_S_eq (fun Q hq => ?_) Q
  rw [s_X0_takes]
  unfold F_takes1 at hq
  have h1 := F_last_1 (M (c + 2)) (fun q => M (c + 10 + (1 + q)) b.toNat) b (M c 5).toNat
  by_cases e1 : M (c + 2) p = b
  · rw [if_pos e1, if_neg (by decide)] at hq
    simp (disch := omega) only [b_X0_takes_0, x_loadR_0, x_loadS_0, f_0_1, x_loadI_1, y_iald_26, x_loadI_2, y_ic_ne_t, y_ic_ne_f, b_X0_takes_10, x_iconst, x_ret1_0, x_ret1_1, b_X0_takes_12, c_X0_housed, f_0_0, y_ic_ge_t, y_ic_ge_f, b_X0_takes_26, b_X0_takes_28, c_X0_last, x_storeI_3, x_loadI_3, y_ic_eq_t, y_ic_eq_f, b_X0_takes_39, y_if_le_t, y_if_le_f, b_X0_takes_48, c_X0_ratherHave, y_if_eq_t, y_if_eq_f, b_X0_takes_58, x_goto, b_X0_takes_62, b_X0_takes_63, f_0_3, y_aald7, y_ic_gt_t, y_ic_gt_f, x_storeI_2, f_0_5, x_iinc_3, x_ret0, x_iadd, q_isL_I, q_isL_R, q_isL_S, true_and, and_true, and_self, List.length_nil, List.length_cons, Nat.zero_add, x_K, x_Kn, Int.reduceToNat, Nat.reduceAdd, Nat.reduceMul, Nat.reduceLeDiff, Nat.reduceLT, Nat.zero_le, Int.reduceAdd, Int.reduceSub, Int.reduceMul, Int.reduceNeg, q_add_e, q_sub_e, q_mul_e, q_neg_e, q_upd_s, q_upd_n, zr_shr0, zr_shr1, zr_shr2, zr_shr3, zr_shr4, zr_and, zr_dyn8, zr_or, zr_shl, q_cpy_n, y_cpy26, Int.toNat_natCast]
    exact hq
  · rw [if_neg e1] at hq
    by_cases e2 : F_cnt (M (c + 2)) b (M c 5).toNat < M (c + 1) b.toNat
    · rw [if_pos e2, if_pos rfl] at hq
      simp (disch := omega) only [b_X0_takes_0, x_loadR_0, x_loadS_0, f_0_1, x_loadI_1, y_iald_26, x_loadI_2, y_ic_ne_t, y_ic_ne_f, b_X0_takes_10, x_iconst, x_ret1_0, x_ret1_1, b_X0_takes_12, c_X0_housed, f_0_0, y_ic_ge_t, y_ic_ge_f, b_X0_takes_26, b_X0_takes_28, c_X0_last, x_storeI_3, x_loadI_3, y_ic_eq_t, y_ic_eq_f, b_X0_takes_39, y_if_le_t, y_if_le_f, b_X0_takes_48, c_X0_ratherHave, y_if_eq_t, y_if_eq_f, b_X0_takes_58, x_goto, b_X0_takes_62, b_X0_takes_63, f_0_3, y_aald7, y_ic_gt_t, y_ic_gt_f, x_storeI_2, f_0_5, x_iinc_3, x_ret0, x_iadd, q_isL_I, q_isL_R, q_isL_S, true_and, and_true, and_self, List.length_nil, List.length_cons, Nat.zero_add, x_K, x_Kn, Int.reduceToNat, Nat.reduceAdd, Nat.reduceMul, Nat.reduceLeDiff, Nat.reduceLT, Nat.zero_le, Int.reduceAdd, Int.reduceSub, Int.reduceMul, Int.reduceNeg, q_add_e, q_sub_e, q_mul_e, q_neg_e, q_upd_s, q_upd_n, zr_shr0, zr_shr1, zr_shr2, zr_shr3, zr_shr4, zr_and, zr_dyn8, zr_or, zr_shl, q_cpy_n, y_cpy26, Int.toNat_natCast, sp_housed]
      exact hq
    · rw [if_neg e2] at hq
      by_cases e3 : F_last (M (c + 2)) (fun q => M (c + 10 + (1 + q)) b.toNat) b (M c 5).toNat = 5
      · rw [if_pos e3, if_neg (by decide)] at hq
        simp (disch := omega) only [b_X0_takes_0, x_loadR_0, x_loadS_0, f_0_1, x_loadI_1, y_iald_26, x_loadI_2, y_ic_ne_t, y_ic_ne_f, b_X0_takes_10, x_iconst, x_ret1_0, x_ret1_1, b_X0_takes_12, c_X0_housed, f_0_0, y_ic_ge_t, y_ic_ge_f, b_X0_takes_26, b_X0_takes_28, c_X0_last, x_storeI_3, x_loadI_3, y_ic_eq_t, y_ic_eq_f, b_X0_takes_39, y_if_le_t, y_if_le_f, b_X0_takes_48, c_X0_ratherHave, y_if_eq_t, y_if_eq_f, b_X0_takes_58, x_goto, b_X0_takes_62, b_X0_takes_63, f_0_3, y_aald7, y_ic_gt_t, y_ic_gt_f, x_storeI_2, f_0_5, x_iinc_3, x_ret0, x_iadd, q_isL_I, q_isL_R, q_isL_S, true_and, and_true, and_self, List.length_nil, List.length_cons, Nat.zero_add, x_K, x_Kn, Int.reduceToNat, Nat.reduceAdd, Nat.reduceMul, Nat.reduceLeDiff, Nat.reduceLT, Nat.zero_le, Int.reduceAdd, Int.reduceSub, Int.reduceMul, Int.reduceNeg, q_add_e, q_sub_e, q_mul_e, q_neg_e, q_upd_s, q_upd_n, zr_shr0, zr_shr1, zr_shr2, zr_shr3, zr_shr4, zr_and, zr_dyn8, zr_or, zr_shl, q_cpy_n, y_cpy26, Int.toNat_natCast, sp_housed, sp_last]
        exact hq
      · rw [if_neg e3] at hq
        generalize hF : F_last (M (c + 2)) (fun q => M (c + 10 + (1 + q)) b.toNat) b (M c 5).toNat = F at h1 e3 hq
        by_cases e4 : 0 < M (c + 1) b.toNat
        · by_cases e5 : M (c + 10 + (1 + F)) b.toNat < M (c + 10 + (1 + p)) b.toNat ∨ (M (c + 10 + (1 + p)) b.toNat = M (c + 10 + (1 + F)) b.toNat ∧ p < F)
          · rw [if_pos (decide_eq_true ⟨e4, e5⟩)] at hq
            simp (disch := omega) only [b_X0_takes_0, x_loadR_0, x_loadS_0, f_0_1, x_loadI_1, y_iald_26, x_loadI_2, y_ic_ne_t, y_ic_ne_f, b_X0_takes_10, x_iconst, x_ret1_0, x_ret1_1, b_X0_takes_12, c_X0_housed, f_0_0, y_ic_ge_t, y_ic_ge_f, b_X0_takes_26, b_X0_takes_28, c_X0_last, x_storeI_3, x_loadI_3, y_ic_eq_t, y_ic_eq_f, b_X0_takes_39, y_if_le_t, y_if_le_f, b_X0_takes_48, c_X0_ratherHave, y_if_eq_t, y_if_eq_f, b_X0_takes_58, x_goto, b_X0_takes_62, b_X0_takes_63, f_0_3, y_aald7, y_ic_gt_t, y_ic_gt_f, x_storeI_2, f_0_5, x_iinc_3, x_ret0, x_iadd, q_isL_I, q_isL_R, q_isL_S, true_and, and_true, and_self, List.length_nil, List.length_cons, Nat.zero_add, x_K, x_Kn, Int.reduceToNat, Nat.reduceAdd, Nat.reduceMul, Nat.reduceLeDiff, Nat.reduceLT, Nat.zero_le, Int.reduceAdd, Int.reduceSub, Int.reduceMul, Int.reduceNeg, q_add_e, q_sub_e, q_mul_e, q_neg_e, q_upd_s, q_upd_n, zr_shr0, zr_shr1, zr_shr2, zr_shr3, zr_shr4, zr_and, zr_dyn8, zr_or, zr_shl, q_cpy_n, y_cpy26, Int.toNat_natCast, sp_housed, sp_last, sp_ratherHave, hF]
            exact hq
          · rw [if_neg (by rw [decide_eq_true_eq]; exact fun z => e5 z.2)] at hq
            simp (disch := omega) only [b_X0_takes_0, x_loadR_0, x_loadS_0, f_0_1, x_loadI_1, y_iald_26, x_loadI_2, y_ic_ne_t, y_ic_ne_f, b_X0_takes_10, x_iconst, x_ret1_0, x_ret1_1, b_X0_takes_12, c_X0_housed, f_0_0, y_ic_ge_t, y_ic_ge_f, b_X0_takes_26, b_X0_takes_28, c_X0_last, x_storeI_3, x_loadI_3, y_ic_eq_t, y_ic_eq_f, b_X0_takes_39, y_if_le_t, y_if_le_f, b_X0_takes_48, c_X0_ratherHave, y_if_eq_t, y_if_eq_f, b_X0_takes_58, x_goto, b_X0_takes_62, b_X0_takes_63, f_0_3, y_aald7, y_ic_gt_t, y_ic_gt_f, x_storeI_2, f_0_5, x_iinc_3, x_ret0, x_iadd, q_isL_I, q_isL_R, q_isL_S, true_and, and_true, and_self, List.length_nil, List.length_cons, Nat.zero_add, x_K, x_Kn, Int.reduceToNat, Nat.reduceAdd, Nat.reduceMul, Nat.reduceLeDiff, Nat.reduceLT, Nat.zero_le, Int.reduceAdd, Int.reduceSub, Int.reduceMul, Int.reduceNeg, q_add_e, q_sub_e, q_mul_e, q_neg_e, q_upd_s, q_upd_n, zr_shr0, zr_shr1, zr_shr2, zr_shr3, zr_shr4, zr_and, zr_dyn8, zr_or, zr_shl, q_cpy_n, y_cpy26, Int.toNat_natCast, sp_housed, sp_last, sp_ratherHave, hF]
            exact hq
        · rw [if_neg (by rw [decide_eq_true_eq]; exact fun z => e4 z.1)] at hq
          simp (disch := omega) only [b_X0_takes_0, x_loadR_0, x_loadS_0, f_0_1, x_loadI_1, y_iald_26, x_loadI_2, y_ic_ne_t, y_ic_ne_f, b_X0_takes_10, x_iconst, x_ret1_0, x_ret1_1, b_X0_takes_12, c_X0_housed, f_0_0, y_ic_ge_t, y_ic_ge_f, b_X0_takes_26, b_X0_takes_28, c_X0_last, x_storeI_3, x_loadI_3, y_ic_eq_t, y_ic_eq_f, b_X0_takes_39, y_if_le_t, y_if_le_f, b_X0_takes_48, c_X0_ratherHave, y_if_eq_t, y_if_eq_f, b_X0_takes_58, x_goto, b_X0_takes_62, b_X0_takes_63, f_0_3, y_aald7, y_ic_gt_t, y_ic_gt_f, x_storeI_2, f_0_5, x_iinc_3, x_ret0, x_iadd, q_isL_I, q_isL_R, q_isL_S, true_and, and_true, and_self, List.length_nil, List.length_cons, Nat.zero_add, x_K, x_Kn, Int.reduceToNat, Nat.reduceAdd, Nat.reduceMul, Nat.reduceLeDiff, Nat.reduceLT, Nat.zero_le, Int.reduceAdd, Int.reduceSub, Int.reduceMul, Int.reduceNeg, q_add_e, q_sub_e, q_mul_e, q_neg_e, q_upd_s, q_upd_n, zr_shr0, zr_shr1, zr_shr2, zr_shr3, zr_shr4, zr_and, zr_dyn8, zr_or, zr_shl, q_cpy_n, y_cpy26, Int.toNat_natCast, sp_housed, sp_last, sp_ratherHave, hF]
          exact hq
/-- who is cast out for one that comes in; 5: nobody -/
def F_cast (f : Nat → Int) (w : Nat → Int) (room b : Int) (n : Nat) : Nat := if F_cnt f b n < room then 5 else F_last f w b n
theorem sp_comeIn {d : Nat} {g : q_G} {M : q_M} {c p : Nat} {b : Int} (h0 : 0 ≤ M c 5) (h5 : M c 5 ≤ 5) (hp : p < 6) (hb0 : 0 ≤ b) (hb : b < 6) (Q : Option q_V → q_G → q_M → Prop) : q_S 1 (d + 2) 14 [qR 0 c, qI p, qI b] g M Q = Q (some (qI (F_cast (M (c + 2)) (fun q => M (c + 10 + (1 + q)) b.toNat) (M (c + 1) b.toNat) b (M c 5).toNat : Nat))) g (q_upd (if F_cast (M (c + 2)) (fun q => M (c + 10 + (1 + q)) b.toNat) (M (c + 1) b.toNat) b (M c 5).toNat = 5 then M else q_upd M (c + 2) (F_cast (M (c + 2)) (fun q => M (c + 10 + (1 + q)) b.toNat) (M (c + 1) b.toNat) b (M c 5).toNat) 5) (c + 2) p b) := by
  refine q_S_eq (fun Q hq => ?_) Q
  rw [s_X0_comeIn]
  unfold F_cast at hq
  have h1 := F_last_1 (M (c + 2)) (fun q => M (c + 10 + (1 + q)) b.toNat) b (M c 5).toNat
  by_cases e2 : F_cnt (M (c + 2)) b (M c 5).toNat < M (c + 1) b.toNat
  · rw [if_pos e2, if_pos rfl] at hq
    simp (disch := omega) only [b_X0_comeIn_0, x_loadR_0, x_loadS_0, x_loadI_2, c_X0_housed, f_0_0, y_iald_26, y_ic_ge_t, y_ic_ge_f, b_X0_comeIn_14, x_iconst, x_goto, b_X0_comeIn_18, c_X0_last, b_X0_comeIn_23, x_storeI_3, x_loadI_3, y_ic_eq_t, y_ic_eq_f, b_X0_comeIn_29, f_0_1, y_iast_26, b_X0_comeIn_36, x_loadI_1, x_ret0, x_storeI_2, f_0_5, y_ic_ne_t, y_ic_ne_f, c_X0_ratherHave, s_X0_ratherHave, y_if_eq_t, y_if_eq_f, x_iinc_3, x_iadd, q_isL_I, q_isL_R, q_isL_S, true_and, and_true, and_self, List.length_nil, List.length_cons, Nat.zero_add, x_K, x_Kn, Int.reduceToNat, Nat.reduceAdd, Nat.reduceMul, Nat.reduceLeDiff, Nat.reduceLT, Nat.zero_le, Int.reduceAdd, Int.reduceSub, Int.reduceMul, Int.reduceNeg, q_add_e, q_sub_e, q_mul_e, q_neg_e, q_upd_s, q_upd_n, zr_shr0, zr_shr1, zr_shr2, zr_shr3, zr_shr4, zr_and, zr_dyn8, zr_or, zr_shl, q_cpy_n, y_cpy26, Int.toNat_natCast, sp_housed]
    exact hq
  · rw [if_neg e2] at hq
    generalize hF : F_last (M (c + 2)) (fun q => M (c + 10 + (1 + q)) b.toNat) b (M c 5).toNat = F at h1 hq
    by_cases e3 : F = 5
    · subst e3
      rw [if_pos rfl] at hq
      simp (disch := omega) only [b_X0_comeIn_0, x_loadR_0, x_loadS_0, x_loadI_2, c_X0_housed, f_0_0, y_iald_26, y_ic_ge_t, y_ic_ge_f, b_X0_comeIn_14, x_iconst, x_goto, b_X0_comeIn_18, c_X0_last, b_X0_comeIn_23, x_storeI_3, x_loadI_3, y_ic_eq_t, y_ic_eq_f, b_X0_comeIn_29, f_0_1, y_iast_26, b_X0_comeIn_36, x_loadI_1, x_ret0, x_storeI_2, f_0_5, y_ic_ne_t, y_ic_ne_f, c_X0_ratherHave, s_X0_ratherHave, y_if_eq_t, y_if_eq_f, x_iinc_3, x_iadd, q_isL_I, q_isL_R, q_isL_S, true_and, and_true, and_self, List.length_nil, List.length_cons, Nat.zero_add, x_K, x_Kn, Int.reduceToNat, Nat.reduceAdd, Nat.reduceMul, Nat.reduceLeDiff, Nat.reduceLT, Nat.zero_le, Int.reduceAdd, Int.reduceSub, Int.reduceMul, Int.reduceNeg, q_add_e, q_sub_e, q_mul_e, q_neg_e, q_upd_s, q_upd_n, zr_shr0, zr_shr1, zr_shr2, zr_shr3, zr_shr4, zr_and, zr_dyn8, zr_or, zr_shl, q_cpy_n, y_cpy26, Int.toNat_natCast, sp_housed, sp_last, hF]
      exact hq
    · rw [if_neg e3] at hq
      simp (disch := omega) only [b_X0_comeIn_0, x_loadR_0, x_loadS_0, x_loadI_2, c_X0_housed, f_0_0, y_iald_26, y_ic_ge_t, y_ic_ge_f, b_X0_comeIn_14, x_iconst, x_goto, b_X0_comeIn_18, c_X0_last, b_X0_comeIn_23, x_storeI_3, x_loadI_3, y_ic_eq_t, y_ic_eq_f, b_X0_comeIn_29, f_0_1, y_iast_26, b_X0_comeIn_36, x_loadI_1, x_ret0, x_storeI_2, f_0_5, y_ic_ne_t, y_ic_ne_f, c_X0_ratherHave, s_X0_ratherHave, y_if_eq_t, y_if_eq_f, x_iinc_3, x_iadd, q_isL_I, q_isL_R, q_isL_S, true_and, and_true, and_self, List.length_nil, List.length_cons, Nat.zero_add, x_K, x_Kn, Int.reduceToNat, Nat.reduceAdd, Nat.reduceMul, Nat.reduceLeDiff, Nat.reduceLT, Nat.zero_le, Int.reduceAdd, Int.reduceSub, Int.reduceMul, Int.reduceNeg, q_add_e, q_sub_e, q_mul_e, q_neg_e, q_upd_s, q_upd_n, zr_shr0, zr_shr1, zr_shr2, zr_shr3, zr_shr4, zr_and, zr_dyn8, zr_or, zr_shl, q_cpy_n, y_cpy26, Int.toNat_natCast, sp_housed, sp_last, hF]
      exact hq
theorem sp_emptyAll {d : Nat} {g : q_G} {M : q_M} {c : Nat} (Q : Option q_V → q_G → q_M → Prop) : q_S 1 d 2 [qR 0 c] g M Q = Q none g (q_upd (q_upd (q_upd (q_upd (q_upd M (c + 2) 0 5) (c + 2) 1 5) (c + 2) 2 5) (c + 2) 3 5) (c + 2) 4 5) := by
  rw [s_X0_emptyAll]
  simp (disch := omega) only [b_X0_emptyAll_0, x_iconst, x_storeI_1, b_X0_emptyAll_2, x_loadI_1, y_ic_ge_t, y_ic_ge_f, b_X0_emptyAll_7, x_loadR_0, x_loadS_0, f_0_1, y_iast_26, x_iinc_1, x_goto, b_X0_emptyAll_20, x_vret, q_isL_I, q_isL_R, q_isL_S, true_and, and_true, and_self, List.length_nil, List.length_cons, Nat.zero_add, x_K, x_Kn, Int.reduceToNat, Nat.reduceAdd, Nat.reduceMul, Nat.reduceLeDiff, Nat.reduceLT, Nat.zero_le, Int.reduceAdd, Int.reduceSub, Int.reduceMul, Int.reduceNeg, q_add_e, q_sub_e, q_mul_e, q_neg_e, q_upd_s, q_upd_n, zr_shr0, zr_shr1, zr_shr2, zr_shr3, zr_shr4, zr_and, zr_dyn8, zr_or, zr_shl, q_cpy_n, y_cpy26]
end
section
/-! THE CLASS'S WORLD, at w: what a stone likes, how it is wanted, how far it goes -/
theorem sp_abs {md d : Nat} {g : q_G} {M : q_M} {x : Int} (Q : Option q_V → q_G → q_M → Prop) : q_S md d 206 [qI x] g M Q = Q (some (qI (if 0 ≤ x then x else q_neg x))) g M := by
  rw [s_J9_abs_0f7a4]
  by_cases h : 0 ≤ x
  · rw [if_pos h]
    simp (disch := omega) only [b_J9_abs_0f7a4_0, x_loadI_0, y_if_ge_t, y_if_ge_f, b_J9_abs_0f7a4_4, x_ineg, x_goto, b_J9_abs_0f7a4_9, b_J9_abs_0f7a4_10, x_ret0, q_isL_I, q_isL_R, q_isL_S, true_and, and_true, and_self, List.length_nil, List.length_cons, Nat.zero_add, x_K, x_Kn, Int.reduceToNat, Nat.reduceAdd, Nat.reduceMul, Nat.reduceLeDiff, Nat.reduceLT, Nat.zero_le, Int.reduceAdd, Int.reduceSub, Int.reduceMul, Int.reduceNeg, q_add_e, q_sub_e, q_mul_e, q_neg_e, q_upd_s, q_upd_n, zr_shr0, zr_shr1, zr_shr2, zr_shr3, zr_shr4, zr_and, zr_dyn8, zr_or, zr_shl, q_cpy_n, y_cpy26]
  · rw [if_neg h]
    simp (disch := omega) only [b_J9_abs_0f7a4_0, b_J9_abs_0f7a4_4, b_J9_abs_0f7a4_9, b_J9_abs_0f7a4_10, x_loadI_0, y_if_ge_f, x_ineg, x_goto, x_ret0, Int.reduceToNat]
theorem sp_max {md d : Nat} {g : q_G} {M : q_M} {x y : Int} (Q : Option q_V → q_G → q_M → Prop) : q_S md d 207 [qI x, qI y] g M Q = Q (some (qI (if x < y then y else x))) g M := by
  rw [s_J9_max_7cf53]
  by_cases h : x < y
  · rw [if_pos h]
    simp (disch := omega) only [b_J9_max_7cf53_0, x_loadI_0, x_loadI_1, y_ic_lt_t, y_ic_lt_f, b_J9_max_7cf53_5, x_goto, b_J9_max_7cf53_9, b_J9_max_7cf53_10, x_ret0, q_isL_I, q_isL_R, q_isL_S, true_and, and_true, and_self, List.length_nil, List.length_cons, Nat.zero_add, x_K, x_Kn, Int.reduceToNat, Nat.reduceAdd, Nat.reduceMul, Nat.reduceLeDiff, Nat.reduceLT, Nat.zero_le, Int.reduceAdd, Int.reduceSub, Int.reduceMul, Int.reduceNeg, q_add_e, q_sub_e, q_mul_e, q_neg_e, q_upd_s, q_upd_n, zr_shr0, zr_shr1, zr_shr2, zr_shr3, zr_shr4, zr_and, zr_dyn8, zr_or, zr_shl, q_cpy_n, y_cpy26]
  · rw [if_neg h]
    simp (disch := omega) only [b_J9_max_7cf53_0, x_loadI_0, x_loadI_1, y_ic_lt_t, y_ic_lt_f, b_J9_max_7cf53_5, x_goto, b_J9_max_7cf53_9, b_J9_max_7cf53_10, x_ret0, q_isL_I, q_isL_R, q_isL_S, true_and, and_true, and_self, List.length_nil, List.length_cons, Nat.zero_add, x_K, x_Kn, Int.reduceToNat, Nat.reduceAdd, Nat.reduceMul, Nat.reduceLeDiff, Nat.reduceLT, Nat.zero_le, Int.reduceAdd, Int.reduceSub, Int.reduceMul, Int.reduceNeg, q_add_e, q_sub_e, q_mul_e, q_neg_e, q_upd_s, q_upd_n, zr_shr0, zr_shr1, zr_shr2, zr_shr3, zr_shr4, zr_and, zr_dyn8, zr_or, zr_shl, q_cpy_n, y_cpy26]
theorem sp_min {md d : Nat} {g : q_G} {M : q_M} {x y : Int} (Q : Option q_V → q_G → q_M → Prop) : q_S md d 208 [qI x, qI y] g M Q = Q (some (qI (if y < x then y else x))) g M := by
  rw [s_J9_min_7cf53]
  by_cases h : y < x
  · rw [if_pos h]
    simp (disch := omega) only [b_J9_min_7cf53_0, x_loadI_0, x_loadI_1, y_ic_gt_t, y_ic_gt_f, b_J9_min_7cf53_5, x_goto, b_J9_min_7cf53_9, b_J9_min_7cf53_10, x_ret0, q_isL_I, q_isL_R, q_isL_S, true_and, and_true, and_self, List.length_nil, List.length_cons, Nat.zero_add, x_K, x_Kn, Int.reduceToNat, Nat.reduceAdd, Nat.reduceMul, Nat.reduceLeDiff, Nat.reduceLT, Nat.zero_le, Int.reduceAdd, Int.reduceSub, Int.reduceMul, Int.reduceNeg, q_add_e, q_sub_e, q_mul_e, q_neg_e, q_upd_s, q_upd_n, zr_shr0, zr_shr1, zr_shr2, zr_shr3, zr_shr4, zr_and, zr_dyn8, zr_or, zr_shl, q_cpy_n, y_cpy26]
  · rw [if_neg h]
    simp (disch := omega) only [b_J9_min_7cf53_0, x_loadI_0, x_loadI_1, y_ic_gt_t, y_ic_gt_f, b_J9_min_7cf53_5, x_goto, b_J9_min_7cf53_9, b_J9_min_7cf53_10, x_ret0, q_isL_I, q_isL_R, q_isL_S, true_and, and_true, and_self, List.length_nil, List.length_cons, Nat.zero_add, x_K, x_Kn, Int.reduceToNat, Nat.reduceAdd, Nat.reduceMul, Nat.reduceLeDiff, Nat.reduceLT, Nat.zero_le, Int.reduceAdd, Int.reduceSub, Int.reduceMul, Int.reduceNeg, q_add_e, q_sub_e, q_mul_e, q_neg_e, q_upd_s, q_upd_n, zr_shr0, zr_shr1, zr_shr2, zr_shr3, zr_shr4, zr_and, zr_dyn8, zr_or, zr_shl, q_cpy_n, y_cpy26]
def cW (M : q_M) (w : Nat) : q_M := fun f i => match f with
  | 0 => if i < (M (w + 1) 5).toNat then M (w + 22) i else 0
  | 1 => if i < (M (w + 1) 5).toNat then M (w + 23) i else 0
  | 2 => if i < (M (w + 1) 5).toNat then M (w + 24) i else 0
  | 3 => if i < (M (w + 1) 5).toNat then M (w + 25) i else 0
  | 4 => if i < (M (w + 1) 5).toNat then M (w + 3) i else 0
  | 5 => if i < 5 then M (w + 19) i else 0
  | 6 => if i < 5 then M (w + 2) i else 0
  | 7 => if i < 5 then M (w + 20) i else 0
  | 8 => if i < 5 then M (w + 21) i else 0
  | 9 => if i = 0 then M (w + 1) 5 else if i = 1 then M w 9 else 0
  | _ => 0
theorem cW_same {M M2 : q_M} {w : Nat} (h : ∀ a i, ((w ≤ a ∧ a ≤ w + 3) ∨ (w + 19 ≤ a ∧ a ≤ w + 25)) → M2 a i = M a i) : cW M2 w = cW M w := by
  have e1 := fun i => h (w + 1) i (by omega)
  have e2 := fun i => h (w + 2) i (by omega)
  have e3 := fun i => h (w + 3) i (by omega)
  have e4 := fun i => h (w + 19) i (by omega)
  have e5 := fun i => h (w + 20) i (by omega)
  have e6 := fun i => h (w + 21) i (by omega)
  have e7 := fun i => h (w + 22) i (by omega)
  have e8 := fun i => h (w + 23) i (by omega)
  have e9 := fun i => h (w + 24) i (by omega)
  have ea := fun i => h (w + 25) i (by omega)
  have eb := fun i => h w i (by omega)
  funext f i
  unfold cW
  split <;> simp only [e1, e2, e3, e4, e5, e6, e7, e8, e9, ea, eb]
/-- a world's numbers are in their bounds, and what may be none is blank -/
def q_rgW (M : q_M) (w : Nat) : Prop := (0 ≤ M (w + 1) 5 ∧ M (w + 1) 5 ≤ 5) ∧ (0 ≤ M w 9 ∧ M w 9 ≤ 2000) ∧ (∀ i, 0 ≤ M (w + 22) i ∧ M (w + 22) i ≤ 5) ∧ (∀ i, 0 ≤ M (w + 23) i ∧ M (w + 23) i ≤ 9) ∧ (∀ i, 0 ≤ M (w + 24) i ∧ M (w + 24) i ≤ 99) ∧ (∀ i, 0 ≤ M (w + 25) i ∧ M (w + 25) i ≤ 99) ∧ (∀ i, 0 ≤ M (w + 3) i ∧ M (w + 3) i ≤ 5) ∧
  (∀ i, 0 ≤ M (w + 19) i ∧ M (w + 19) i ≤ 99) ∧ (∀ i, 0 ≤ M (w + 2) i ∧ M (w + 2) i ≤ 6) ∧ (∀ i, 0 ≤ M (w + 20) i ∧ M (w + 20) i ≤ 99) ∧ (∀ i, 0 ≤ M (w + 21) i ∧ M (w + 21) i ≤ 99) ∧ M (w + 20) 5 = 0 ∧ M (w + 21) 5 = 0
/-- a law: V is what the text at ta says, as long as its own rows stay -/
def q_lawC (V : Nat → (Nat → Int) → Int) (ta : Nat) (M : q_M) : Prop := ∀ M' : q_M, (∀ a i, (a + 1 = ta ∨ a = ta ∨ a = ta + 1) → M' a i = M a i) → ∀ (d : Nat) (g : q_G) (Q : Option q_V → q_G → q_M → Prop) (part na : Nat), part < 3 → na ≠ ta + 2 → (∀ M2 : q_M, (∀ a i, a ≠ ta + 2 → M2 a i = M' a i) → Q (some (qI (V part (M' na)))) g M2) → q_S 1 d 47 [qR 3 ta, qI part, qR 26 na] g M' Q
def q_lawV (V : Nat → (Nat → Int) → Int) : Prop := ∀ part (f f' : Nat → Int), (∀ i, i < 6 → f i = f' i) → V part f = V part f'
/-- the world at w goes by the law V of the text at ta -/
def q_wl (V : Nat → (Nat → Int) → Int) (M : q_M) (w ta : Nat) : Prop := q_rgW M w ∧ q_lawV V ∧ q_lawC V ta M ∧ M w 10 = ta ∧ ta < 2147483648 ∧ (w + 27 < ta ∨ ta + 2 < w)
def q_fwd (w ta : Nat) (M M2 : q_M) : Prop := ∀ a i, a ≠ w + 26 → a ≠ ta + 2 → M2 a i = M a i
theorem q_fwd_rf {w ta : Nat} {M : q_M} : q_fwd w ta M M := fun _ _ _ _ => rfl
theorem q_fwd_cW {w ta : Nat} {M M2 : q_M} (h : q_fwd w ta M M2) (hd : w + 27 < ta ∨ ta + 2 < w) : cW M2 w = cW M w := cW_same (fun a i ha => h a i (by omega) (by omega))
theorem q_fwd_wl {V : Nat → (Nat → Int) → Int} {w ta : Nat} {M M2 : q_M} (h : q_fwd w ta M M2) (hw : q_wl V M w ta) : q_wl V M2 w ta := by
  obtain ⟨h1, h2, h3, h4, h5, h6⟩ := hw
  have e : ∀ a i, w ≤ a → a ≤ w + 25 → M2 a i = M a i := fun a i q1 q2 => h a i (by omega) (by omega)
  refine ⟨?_, h2, fun M' hM => h3 M' (fun a i ha => (hM a i ha).trans (h a i (by omega) (by omega))), (e w 10 (by omega) (by omega)).trans h4, h5, h6⟩
  unfold q_rgW at h1 ⊢
  simp only [fun i => e w i (by omega) (by omega), fun i => e (w + 1) i (by omega) (by omega), fun i => e (w + 2) i (by omega) (by omega), fun i => e (w + 3) i (by omega) (by omega), fun i => e (w + 19) i (by omega) (by omega), fun i => e (w + 20) i (by omega) (by omega), fun i => e (w + 21) i (by omega) (by omega), fun i => e (w + 22) i (by omega) (by omega), fun i => e (w + 23) i (by omega) (by omega), fun i => e (w + 24) i (by omega) (by omega), fun i => e (w + 25) i (by omega) (by omega)]
  exact h1
theorem q_dynT {k a : Nat} {M : q_M} {w i : Nat} (h : M w i = (a : Int)) : q_dyn k (M w i) = qR k a := q_dyn_of a h
theorem cW_0 {M : q_M} {w i : Nat} (h : i < (M (w + 1) 5).toNat) : cW M w 0 i = M (w + 22) i := if_pos h
theorem cW_1 {M : q_M} {w i : Nat} (h : i < (M (w + 1) 5).toNat) : cW M w 1 i = M (w + 23) i := if_pos h
theorem cW_2 {M : q_M} {w i : Nat} (h : i < (M (w + 1) 5).toNat) : cW M w 2 i = M (w + 24) i := if_pos h
theorem cW_3 {M : q_M} {w i : Nat} (h : i < (M (w + 1) 5).toNat) : cW M w 3 i = M (w + 25) i := if_pos h
theorem cW_4 {M : q_M} {w i : Nat} (h : i < (M (w + 1) 5).toNat) : cW M w 4 i = M (w + 3) i := if_pos h
theorem cW_5 {M : q_M} {w i : Nat} (h : i < 5) : cW M w 5 i = M (w + 19) i := if_pos h
theorem cW_6 {M : q_M} {w i : Nat} (h : i < 5) : cW M w 6 i = M (w + 2) i := if_pos h
theorem cW_7 {M : q_M} {w i : Nat} (h : i < 5) : cW M w 7 i = M (w + 20) i := if_pos h
theorem cW_8 {M : q_M} {w i : Nat} (h : i < 5) : cW M w 8 i = M (w + 21) i := if_pos h
theorem cW_90 {M : q_M} {w : Nat} : cW M w 9 0 = M (w + 1) 5 := rfl
theorem cW_91 {M : q_M} {w : Nat} : cW M w 9 1 = M w 9 := rfl
set_option maxHeartbeats 4000000 in
theorem sp_says {V : Nat → (Nat → Int) → Int} {d : Nat} {g : q_G} {M : q_M} {w ta part p b : Nat} {Q : Option q_V → q_G → q_M → Prop} (hw : q_wl V M w ta) (hpt : part < 3) (hp : p < (M (w + 1) 5).toNat) (hb : b < 6) (hq : ∀ M2 : q_M, q_fwd w ta M M2 → Q (some (qI (F_says V (cW M w) part p b))) g M2) : q_S 1 (d + 1) 53 [qR 4 w, qI part, qI p, qI b] g M Q := by
  obtain ⟨⟨r0, r1, r2, r3, r4, r5, r6, r7, r8, r9, ra, rb, rc⟩, hV, hl, hla, hta, hds⟩ := hw
  have hat := r4 p
  have hpl := r7 b
  have hy := q_dynT (k := 3) hla
  rw [s_X4_says]
  have fin : ∀ (M' : q_M), (∀ a i, a ≠ w + 26 → M' a i = M a i) → (∀ i, i < 6 → M' (w + 26) i = F_nm (cW M w) p b i) → ∀ lo : Int, lo = (if part = 2 then 0 else -99) → q_T 1 (d + 1) qP_X4_says 125 [.iload 4, .iconst (99), .aload 0, .getfield 410, .iload 1, .aload 0, .getfield 408, .invokestatic 47, .invokestatic 208, .invokestatic 207, .ret 0] [qR 4 w, qI part, qI p, qI b, qI lo] [] g M' Q := by
    intro M' h1 h2 lo hlo
    have h10 : M' w 10 = ta := (h1 w 10 (by omega)).trans hla
    have hy' := q_dynT (k := 3) h10
    simp (disch := omega) only [b_X4_says_0, x_loadR_0, x_loadS_0, f_4_8, x_iconst, x_loadI_3, y_ic_ne_t, y_ic_ne_f, b_X4_says_10, x_goto, b_X4_says_14, f_4_6, x_loadI_2, y_iald_26, f_4_1, x_isub, b_X4_says_30, y_iast_26, f_4_2, f_4_3, f_4_7, f_4_9, f_4_5, x_loadI_1, b_X4_says_94, b_X4_says_98, b_X4_says_100, x_storeI_4, x_loadI_4, f_4_10, x_ret0, q_isL_I, q_isL_R, q_isL_S, true_and, and_true, and_self, List.length_nil, List.length_cons, Nat.zero_add, x_K, x_Kn, Int.reduceToNat, Nat.reduceAdd, Nat.reduceMul, Nat.reduceLeDiff, Nat.reduceLT, Nat.zero_le, Int.reduceAdd, Int.reduceSub, Int.reduceMul, Int.reduceNeg, q_add_e, q_sub_e, q_mul_e, q_neg_e, q_upd_s, q_upd_n, zr_shr0, zr_shr1, zr_shr2, zr_shr3, zr_shr4, zr_and, zr_dyn8, zr_or, zr_shl, q_cpy_n, y_cpy26, c_X3_value, hy']
    refine hl M' (fun a i ha => h1 a i (by omega)) _ _ _ part (w + 26) hpt (by omega) (fun M2 hM2 => ?_)
    simp (disch := omega) only [b_X4_says_0, x_loadR_0, x_loadS_0, f_4_8, x_iconst, x_loadI_3, y_ic_ne_t, y_ic_ne_f, b_X4_says_10, x_goto, b_X4_says_14, f_4_6, x_loadI_2, y_iald_26, f_4_1, x_isub, b_X4_says_30, y_iast_26, f_4_2, f_4_3, f_4_7, f_4_9, f_4_5, x_loadI_1, b_X4_says_94, b_X4_says_98, b_X4_says_100, x_storeI_4, x_loadI_4, f_4_10, x_ret0, q_isL_I, q_isL_R, q_isL_S, true_and, and_true, and_self, List.length_nil, List.length_cons, Nat.zero_add, x_K, x_Kn, Int.reduceToNat, Nat.reduceAdd, Nat.reduceMul, Nat.reduceLeDiff, Nat.reduceLT, Nat.zero_le, Int.reduceAdd, Int.reduceSub, Int.reduceMul, Int.reduceNeg, q_add_e, q_sub_e, q_mul_e, q_neg_e, q_upd_s, q_upd_n, zr_shr0, zr_shr1, zr_shr2, zr_shr3, zr_shr4, zr_and, zr_dyn8, zr_or, zr_shl, q_cpy_n, y_cpy26, c_J9_min_7cf53, c_J9_max_7cf53, sp_min, sp_max]
    have e1 : V part (M' (w + 26)) = V part (F_nm (cW M w) p b) := hV part _ _ h2
    rw [e1]
    have h9 := hq M2 (fun a i q1 q2 => (hM2 a i q2).trans (h1 a i q1))
    unfold F_says F_cl at h9
    rw [← hlo] at h9
    generalize V part (F_nm (cW M w) p b) = x at h9 ⊢
    have e2 : (if lo < (if x < 99 then x else 99) then (if x < 99 then x else 99) else lo) = (if x < lo then lo else if 99 < x then 99 else x) := by
      have : lo = 0 ∨ lo = -99 := by rw [hlo]; split <;> omega
      (repeat' split) <;> omega
    rw [e2]
    exact h9
  have fin2 : ∀ far : Int, far = F_nm (cW M w) p b 0 → ∀ lo : Int, lo = (if part = 2 then 0 else -99) → q_T 1 (d + 1) qP_X4_says 125 [.iload 4, .iconst (99), .aload 0, .getfield 410, .iload 1, .aload 0, .getfield 408, .invokestatic 47, .invokestatic 208, .invokestatic 207, .ret 0] [qR 4 w, qI part, qI p, qI b, qI lo] [] g (q_upd (q_upd (q_upd (q_upd (q_upd (q_upd M (w + 26) 0 far) (w + 26) 1 (M (w + 20) b)) (w + 26) 2 (M (w + 21) b)) (w + 26) 3 (M (w + 25) p)) (w + 26) 4 (M w 9)) (w + 26) 5 (M (w + 23) p)) Q := by
    intro far hfar lo hlo
    refine fin _ (fun a i ha => by simp (disch := omega) only [q_upd_n]) (fun i hi => ?_) lo hlo
    have e7 : cW M w 7 b = M (w + 20) b := by
      by_cases h5 : b < 5
      · exact cW_7 h5
      · have e : b = 5 := by omega
        subst e
        exact rb.symm
    have e8 : cW M w 8 b = M (w + 21) b := by
      by_cases h5 : b < 5
      · exact cW_8 h5
      · have e : b = 5 := by omega
        subst e
        exact rc.symm
    rcases (show i = 0 ∨ i = 1 ∨ i = 2 ∨ i = 3 ∨ i = 4 ∨ i = 5 by omega) with rfl | rfl | rfl | rfl | rfl | rfl
    · simp (disch := omega) only [q_upd_n, q_upd_s]
      exact hfar
    · simp (disch := omega) only [q_upd_n, q_upd_s]
      exact e7.symm
    · simp (disch := omega) only [q_upd_n, q_upd_s]
      exact e8.symm
    · simp (disch := omega) only [q_upd_n, q_upd_s]
      exact (cW_3 hp).symm
    · simp (disch := omega) only [q_upd_n, q_upd_s]
      exact cW_91.symm
    · simp (disch := omega) only [q_upd_n, q_upd_s]
      exact (cW_1 hp).symm
  by_cases h5 : b = 5
  · have hfar : (0 : Int) = F_nm (cW M w) p b 0 := (if_pos h5).symm
    by_cases h2 : part = 2
    · simp (disch := omega) only [b_X4_says_0, x_loadR_0, x_loadS_0, f_4_8, x_iconst, x_loadI_3, y_ic_ne_t, y_ic_ne_f, b_X4_says_10, x_goto, b_X4_says_14, f_4_6, x_loadI_2, y_iald_26, f_4_1, x_isub, b_X4_says_30, y_iast_26, f_4_2, f_4_3, f_4_7, f_4_9, f_4_5, x_loadI_1, b_X4_says_94, b_X4_says_98, b_X4_says_100, x_storeI_4, f_4_10, x_ret0, q_isL_I, q_isL_R, q_isL_S, true_and, and_true, and_self, List.length_nil, List.length_cons, Nat.zero_add, x_K, x_Kn, Int.reduceToNat, Nat.reduceAdd, Nat.reduceMul, Nat.reduceLeDiff, Nat.reduceLT, Nat.zero_le, Int.reduceAdd, Int.reduceSub, Int.reduceMul, Int.reduceNeg, q_add_e, q_sub_e, q_mul_e, q_neg_e, q_upd_s, q_upd_n, zr_shr0, zr_shr1, zr_shr2, zr_shr3, zr_shr4, zr_and, zr_dyn8, zr_or, zr_shl, q_cpy_n, y_cpy26, Int.toNat_natCast]
      exact fin2 0 hfar 0 (by rw [if_pos h2])
    · simp (disch := omega) only [b_X4_says_0, x_loadR_0, x_loadS_0, f_4_8, x_iconst, x_loadI_3, y_ic_ne_t, y_ic_ne_f, b_X4_says_10, x_goto, b_X4_says_14, f_4_6, x_loadI_2, y_iald_26, f_4_1, x_isub, b_X4_says_30, y_iast_26, f_4_2, f_4_3, f_4_7, f_4_9, f_4_5, x_loadI_1, b_X4_says_94, b_X4_says_98, b_X4_says_100, x_storeI_4, f_4_10, x_ret0, q_isL_I, q_isL_R, q_isL_S, true_and, and_true, and_self, List.length_nil, List.length_cons, Nat.zero_add, x_K, x_Kn, Int.reduceToNat, Nat.reduceAdd, Nat.reduceMul, Nat.reduceLeDiff, Nat.reduceLT, Nat.zero_le, Int.reduceAdd, Int.reduceSub, Int.reduceMul, Int.reduceNeg, q_add_e, q_sub_e, q_mul_e, q_neg_e, q_upd_s, q_upd_n, zr_shr0, zr_shr1, zr_shr2, zr_shr3, zr_shr4, zr_and, zr_dyn8, zr_or, zr_shl, q_cpy_n, y_cpy26, Int.toNat_natCast]
      exact fin2 0 hfar (-99) (by rw [if_neg h2])
  · have hb5 : b < 5 := by omega
    have e1 : F_nm (cW M w) p b 0 = if M (w + 24) p - M (w + 19) b < 0 then -(M (w + 24) p - M (w + 19) b) else M (w + 24) p - M (w + 19) b := by
      show (if b = 5 then 0 else if cW M w 2 p - cW M w 5 b < 0 then -(cW M w 2 p - cW M w 5 b) else cW M w 2 p - cW M w 5 b) = _
      rw [if_neg h5, cW_2 hp, cW_5 hb5]
    by_cases hs : M (w + 24) p - M (w + 19) b < 0
    · rw [if_pos hs] at e1
      by_cases h2 : part = 2
      · simp (disch := omega) only [b_X4_says_0, x_loadR_0, x_loadS_0, f_4_8, x_iconst, x_loadI_3, y_ic_ne_t, y_ic_ne_f, b_X4_says_10, x_goto, b_X4_says_14, f_4_6, x_loadI_2, y_iald_26, f_4_1, x_isub, b_X4_says_30, y_iast_26, f_4_2, f_4_3, f_4_7, f_4_9, f_4_5, x_loadI_1, b_X4_says_94, b_X4_says_98, b_X4_says_100, x_storeI_4, f_4_10, x_ret0, q_isL_I, q_isL_R, q_isL_S, true_and, and_true, and_self, List.length_nil, List.length_cons, Nat.zero_add, x_K, x_Kn, Int.reduceToNat, Nat.reduceAdd, Nat.reduceMul, Nat.reduceLeDiff, Nat.reduceLT, Nat.zero_le, Int.reduceAdd, Int.reduceSub, Int.reduceMul, Int.reduceNeg, q_add_e, q_sub_e, q_mul_e, q_neg_e, q_upd_s, q_upd_n, zr_shr0, zr_shr1, zr_shr2, zr_shr3, zr_shr4, zr_and, zr_dyn8, zr_or, zr_shl, q_cpy_n, y_cpy26, Int.toNat_natCast, c_J9_abs_0f7a4, sp_abs, if_neg, if_pos]
        exact fin2 _ e1.symm 0 (by rw [if_pos h2])
      · simp (disch := omega) only [b_X4_says_0, x_loadR_0, x_loadS_0, f_4_8, x_iconst, x_loadI_3, y_ic_ne_t, y_ic_ne_f, b_X4_says_10, x_goto, b_X4_says_14, f_4_6, x_loadI_2, y_iald_26, f_4_1, x_isub, b_X4_says_30, y_iast_26, f_4_2, f_4_3, f_4_7, f_4_9, f_4_5, x_loadI_1, b_X4_says_94, b_X4_says_98, b_X4_says_100, x_storeI_4, f_4_10, x_ret0, q_isL_I, q_isL_R, q_isL_S, true_and, and_true, and_self, List.length_nil, List.length_cons, Nat.zero_add, x_K, x_Kn, Int.reduceToNat, Nat.reduceAdd, Nat.reduceMul, Nat.reduceLeDiff, Nat.reduceLT, Nat.zero_le, Int.reduceAdd, Int.reduceSub, Int.reduceMul, Int.reduceNeg, q_add_e, q_sub_e, q_mul_e, q_neg_e, q_upd_s, q_upd_n, zr_shr0, zr_shr1, zr_shr2, zr_shr3, zr_shr4, zr_and, zr_dyn8, zr_or, zr_shl, q_cpy_n, y_cpy26, Int.toNat_natCast, c_J9_abs_0f7a4, sp_abs, if_neg, if_pos]
        exact fin2 _ e1.symm (-99) (by rw [if_neg h2])
    · rw [if_neg hs] at e1
      by_cases h2 : part = 2
      · simp (disch := omega) only [b_X4_says_0, x_loadR_0, x_loadS_0, f_4_8, x_iconst, x_loadI_3, y_ic_ne_t, y_ic_ne_f, b_X4_says_10, x_goto, b_X4_says_14, f_4_6, x_loadI_2, y_iald_26, f_4_1, x_isub, b_X4_says_30, y_iast_26, f_4_2, f_4_3, f_4_7, f_4_9, f_4_5, x_loadI_1, b_X4_says_94, b_X4_says_98, b_X4_says_100, x_storeI_4, f_4_10, x_ret0, q_isL_I, q_isL_R, q_isL_S, true_and, and_true, and_self, List.length_nil, List.length_cons, Nat.zero_add, x_K, x_Kn, Int.reduceToNat, Nat.reduceAdd, Nat.reduceMul, Nat.reduceLeDiff, Nat.reduceLT, Nat.zero_le, Int.reduceAdd, Int.reduceSub, Int.reduceMul, Int.reduceNeg, q_add_e, q_sub_e, q_mul_e, q_neg_e, q_upd_s, q_upd_n, zr_shr0, zr_shr1, zr_shr2, zr_shr3, zr_shr4, zr_and, zr_dyn8, zr_or, zr_shl, q_cpy_n, y_cpy26, Int.toNat_natCast, c_J9_abs_0f7a4, sp_abs, if_neg, if_pos]
        exact fin2 _ e1.symm 0 (by rw [if_pos h2])
      · simp (disch := omega) only [b_X4_says_0, x_loadR_0, x_loadS_0, f_4_8, x_iconst, x_loadI_3, y_ic_ne_t, y_ic_ne_f, b_X4_says_10, x_goto, b_X4_says_14, f_4_6, x_loadI_2, y_iald_26, f_4_1, x_isub, b_X4_says_30, y_iast_26, f_4_2, f_4_3, f_4_7, f_4_9, f_4_5, x_loadI_1, b_X4_says_94, b_X4_says_98, b_X4_says_100, x_storeI_4, f_4_10, x_ret0, q_isL_I, q_isL_R, q_isL_S, true_and, and_true, and_self, List.length_nil, List.length_cons, Nat.zero_add, x_K, x_Kn, Int.reduceToNat, Nat.reduceAdd, Nat.reduceMul, Nat.reduceLeDiff, Nat.reduceLT, Nat.zero_le, Int.reduceAdd, Int.reduceSub, Int.reduceMul, Int.reduceNeg, q_add_e, q_sub_e, q_mul_e, q_neg_e, q_upd_s, q_upd_n, zr_shr0, zr_shr1, zr_shr2, zr_shr3, zr_shr4, zr_and, zr_dyn8, zr_or, zr_shl, q_cpy_n, y_cpy26, Int.toNat_natCast, c_J9_abs_0f7a4, sp_abs, if_neg, if_pos]
        exact fin2 _ e1.symm (-99) (by rw [if_neg h2])
end
section
/-! THE CLASS'S WORLD: likes, wants, goes -/
theorem q_half_b : ∀ k : Nat, k < 399 → q_div ((k : Int) - 199) 2 = F_half ((k : Int) - 199) := by decide +kernel
theorem q_half {x : Int} (h1 : -199 ≤ x) (h2 : x ≤ 199) : q_div x 2 = F_half x := by
  have h := q_half_b (x + 199).toNat (by omega)
  rw [show (((x + 199).toNat : Nat) : Int) - 199 = x by omega] at h
  exact h
theorem F_says_le {V : Nat → (Nat → Int) → Int} {S : q_M} {part p b : Nat} : -99 ≤ F_says V S part p b ∧ F_says V S part p b ≤ 99 ∧ (part = 2 → 0 ≤ F_says V S part p b) := by
  unfold F_says F_cl
  by_cases h : part = 2
  · rw [if_pos h]
    (repeat' split) <;> omega
  · rw [if_neg h]
    (repeat' split) <;> omega
theorem F_half_le {x : Int} (h1 : -99 ≤ x) (h2 : x ≤ 99) : -99 ≤ F_half x ∧ F_half x ≤ 99 ∧ (0 ≤ x → 0 ≤ F_half x) := by
  unfold F_half
  split <;> omega
theorem F_likes_le {V : Nat → (Nat → Int) → Int} {S : q_M} {p b : Nat} : -99 ≤ F_likes V S p b ∧ F_likes V S p b ≤ 99 := by
  have h := F_says_le (V := V) (S := S) (part := 0) (p := p) (b := b)
  have h2 := F_half_le h.1 h.2.1
  unfold F_likes
  (repeat' split) <;> omega
theorem F_wants_le {V : Nat → (Nat → Int) → Int} {S : q_M} {p b : Nat} (hm : 0 ≤ S 1 p ∧ S 1 p ≤ 9) : -99 ≤ F_wants V S p b ∧ F_wants V S p b ≤ 189 := by
  have h := F_says_le (V := V) (S := S) (part := 1) (p := p) (b := b)
  unfold F_wants
  (repeat' split) <;> omega
theorem F_goes_le {V : Nat → (Nat → Int) → Int} {S : q_M} {p : Nat} (hm : 0 ≤ S 1 p ∧ S 1 p ≤ 9) : 0 ≤ F_goes V S p ∧ F_goes V S p ≤ 108 := by
  have h := F_says_le (V := V) (S := S) (part := 2) (p := p) (b := 5)
  have h2 := F_half_le h.1 h.2.1
  have h3 := h.2.2 rfl
  unfold F_goes
  (repeat' split) <;> omega
set_option maxHeartbeats 4000000 in
theorem sp_likes {V : Nat → (Nat → Int) → Int} {d : Nat} {g : q_G} {M : q_M} {w ta p b : Nat} {Q : Option q_V → q_G → q_M → Prop} (hw : q_wl V M w ta) (hp : p < (M (w + 1) 5).toNat) (hb : b < 5) (hq : ∀ M2 : q_M, q_fwd w ta M M2 → Q (some (qI (F_likes V (cW M w) p b))) g M2) : q_S 1 (d + 2) 54 [qR 4 w, qI p, qI b] g M Q := by
  obtain ⟨⟨r0, r1, r2, r3, r4, r5, r6, r7, r8, r9, ra, rb, rc⟩, hV, hl, hla, hta, hds⟩ := id hw
  have hk0 := r2 p
  have hm0 := r3 p
  have hs := F_says_le (V := V) (S := cW M w) (part := 0) (p := p) (b := b)
  have hbu := ra b
  have hva := r9 b
  unfold F_likes at hq
  rw [cW_0 hp, cW_1 hp, cW_8 hb, cW_7 hb] at hq
  rw [s_X4_likes]
  have says : ∀ (nx : Nat) (ops : List Instr) (ls st : List q_V), (∀ M2 : q_M, q_fwd w ta M M2 → q_T 1 (d + 2) qP_X4_likes nx ops ls (qI (F_says V (cW M w) 0 p b) :: st) g M2 Q) → q_S 1 (d + 1) 53 [qR 4 w, qI 0, qI p, qI b] g M (q_K 1 (d + 2) qP_X4_likes nx ops ls st Q) := fun nx ops ls st h => sp_says (part := 0) hw (by omega) hp (by omega) h
  rcases (show M (w + 22) p = 0 ∨ M (w + 22) p = 1 ∨ M (w + 22) p = 2 ∨ M (w + 22) p = 3 ∨ M (w + 22) p = 4 ∨ M (w + 22) p = 5 by omega) with hk | hk | hk | hk | hk | hk
  · rw [hk] at hq
    rw [if_neg (fun z => absurd z.1 (by decide)), if_neg (by decide), if_neg (fun z => absurd z.1 (by decide))] at hq
    simp (disch := omega) only [b_X4_likes_0, x_loadR_0, x_loadS_0, f_4_4, x_loadI_1, y_iald_26, x_iconst, y_ic_ne_t, y_ic_ne_f, b_X4_likes_10, f_4_3, x_loadI_2, f_4_5, y_ic_le_t, y_ic_le_f, b_X4_likes_25, x_ret0, b_X4_likes_27, y_ic_eq_t, y_ic_eq_f, b_X4_likes_37, b_X4_likes_47, x_goto, b_X4_likes_51, b_X4_likes_52, x_storeI_3, x_loadI_3, y_if_eq_t, y_if_eq_f, b_X4_likes_57, y_irem, b_X4_likes_69, b_X4_likes_72, x_storeI_4, b_X4_likes_85, x_loadI_4, y_idiv, b_X4_likes_90, b_X4_likes_100, f_4_2, b_X4_likes_111, x_ineg, b_X4_likes_117, b_X4_likes_119, q_isL_I, q_isL_R, q_isL_S, true_and, and_true, and_self, List.length_nil, List.length_cons, Nat.zero_add, x_K, x_Kn, Int.reduceToNat, Nat.reduceAdd, Nat.reduceMul, Nat.reduceLeDiff, Nat.reduceLT, Nat.zero_le, Int.reduceAdd, Int.reduceSub, Int.reduceMul, Int.reduceNeg, q_add_e, q_sub_e, q_mul_e, q_neg_e, q_upd_s, q_upd_n, zr_shr0, zr_shr1, zr_shr2, zr_shr3, zr_shr4, zr_and, zr_dyn8, zr_or, zr_shl, q_cpy_n, y_cpy26, c_X4_says, Int.toNat_natCast, q_rem_e, hk]
    refine says _ _ _ _ (fun M2 hf => ?_)
    have f22 := (hf (w + 22) p (by omega) (by omega)).trans hk
    simp (disch := omega) only [b_X4_likes_0, x_loadR_0, x_loadS_0, f_4_4, x_loadI_1, y_iald_26, x_iconst, y_ic_ne_t, y_ic_ne_f, b_X4_likes_10, f_4_3, x_loadI_2, f_4_5, y_ic_le_t, y_ic_le_f, b_X4_likes_25, x_ret0, b_X4_likes_27, y_ic_eq_t, y_ic_eq_f, b_X4_likes_37, b_X4_likes_47, x_goto, b_X4_likes_51, b_X4_likes_52, x_storeI_3, x_loadI_3, y_if_eq_t, y_if_eq_f, b_X4_likes_57, y_irem, b_X4_likes_69, b_X4_likes_72, x_storeI_4, b_X4_likes_85, x_loadI_4, y_idiv, b_X4_likes_90, b_X4_likes_100, f_4_2, b_X4_likes_111, x_ineg, b_X4_likes_117, b_X4_likes_119, q_isL_I, q_isL_R, q_isL_S, true_and, and_true, and_self, List.length_nil, List.length_cons, Nat.zero_add, x_K, x_Kn, Int.reduceToNat, Nat.reduceAdd, Nat.reduceMul, Nat.reduceLeDiff, Nat.reduceLT, Nat.zero_le, Int.reduceAdd, Int.reduceSub, Int.reduceMul, Int.reduceNeg, q_add_e, q_sub_e, q_mul_e, q_neg_e, q_upd_s, q_upd_n, zr_shr0, zr_shr1, zr_shr2, zr_shr3, zr_shr4, zr_and, zr_dyn8, zr_or, zr_shl, q_cpy_n, y_cpy26, c_X4_says, Int.toNat_natCast, q_rem_e, f22]
    exact hq M2 hf
  · rw [hk] at hq
    rw [if_neg (fun z => absurd z.1 (by decide)), if_pos (by decide)] at hq
    by_cases c3 : M (w + 23) p % 5 = b
    · rw [if_pos c3] at hq
      simp (disch := omega) only [b_X4_likes_0, x_loadR_0, x_loadS_0, f_4_4, x_loadI_1, y_iald_26, x_iconst, y_ic_ne_t, y_ic_ne_f, b_X4_likes_10, f_4_3, x_loadI_2, f_4_5, y_ic_le_t, y_ic_le_f, b_X4_likes_25, x_ret0, b_X4_likes_27, y_ic_eq_t, y_ic_eq_f, b_X4_likes_37, b_X4_likes_47, x_goto, b_X4_likes_51, b_X4_likes_52, x_storeI_3, x_loadI_3, y_if_eq_t, y_if_eq_f, b_X4_likes_57, y_irem, b_X4_likes_69, b_X4_likes_72, x_storeI_4, b_X4_likes_85, x_loadI_4, y_idiv, b_X4_likes_90, b_X4_likes_100, f_4_2, b_X4_likes_111, x_ineg, b_X4_likes_117, b_X4_likes_119, q_isL_I, q_isL_R, q_isL_S, true_and, and_true, and_self, List.length_nil, List.length_cons, Nat.zero_add, x_K, x_Kn, Int.reduceToNat, Nat.reduceAdd, Nat.reduceMul, Nat.reduceLeDiff, Nat.reduceLT, Nat.zero_le, Int.reduceAdd, Int.reduceSub, Int.reduceMul, Int.reduceNeg, q_add_e, q_sub_e, q_mul_e, q_neg_e, q_upd_s, q_upd_n, zr_shr0, zr_shr1, zr_shr2, zr_shr3, zr_shr4, zr_and, zr_dyn8, zr_or, zr_shl, q_cpy_n, y_cpy26, c_X4_says, Int.toNat_natCast, q_rem_e, hk]
      exact hq M q_fwd_rf
    · rw [if_neg c3] at hq
      simp (disch := omega) only [b_X4_likes_0, x_loadR_0, x_loadS_0, f_4_4, x_loadI_1, y_iald_26, x_iconst, y_ic_ne_t, y_ic_ne_f, b_X4_likes_10, f_4_3, x_loadI_2, f_4_5, y_ic_le_t, y_ic_le_f, b_X4_likes_25, x_ret0, b_X4_likes_27, y_ic_eq_t, y_ic_eq_f, b_X4_likes_37, b_X4_likes_47, x_goto, b_X4_likes_51, b_X4_likes_52, x_storeI_3, x_loadI_3, y_if_eq_t, y_if_eq_f, b_X4_likes_57, y_irem, b_X4_likes_69, b_X4_likes_72, x_storeI_4, b_X4_likes_85, x_loadI_4, y_idiv, b_X4_likes_90, b_X4_likes_100, f_4_2, b_X4_likes_111, x_ineg, b_X4_likes_117, b_X4_likes_119, q_isL_I, q_isL_R, q_isL_S, true_and, and_true, and_self, List.length_nil, List.length_cons, Nat.zero_add, x_K, x_Kn, Int.reduceToNat, Nat.reduceAdd, Nat.reduceMul, Nat.reduceLeDiff, Nat.reduceLT, Nat.zero_le, Int.reduceAdd, Int.reduceSub, Int.reduceMul, Int.reduceNeg, q_add_e, q_sub_e, q_mul_e, q_neg_e, q_upd_s, q_upd_n, zr_shr0, zr_shr1, zr_shr2, zr_shr3, zr_shr4, zr_and, zr_dyn8, zr_or, zr_shl, q_cpy_n, y_cpy26, c_X4_says, Int.toNat_natCast, q_rem_e, hk]
      refine says _ _ _ _ (fun M2 hf => ?_)
      simp (disch := omega) only [b_X4_likes_0, x_loadR_0, x_loadS_0, f_4_4, x_loadI_1, y_iald_26, x_iconst, y_ic_ne_t, y_ic_ne_f, b_X4_likes_10, f_4_3, x_loadI_2, f_4_5, y_ic_le_t, y_ic_le_f, b_X4_likes_25, x_ret0, b_X4_likes_27, y_ic_eq_t, y_ic_eq_f, b_X4_likes_37, b_X4_likes_47, x_goto, b_X4_likes_51, b_X4_likes_52, x_storeI_3, x_loadI_3, y_if_eq_t, y_if_eq_f, b_X4_likes_57, y_irem, b_X4_likes_69, b_X4_likes_72, x_storeI_4, b_X4_likes_85, x_loadI_4, y_idiv, b_X4_likes_90, b_X4_likes_100, f_4_2, b_X4_likes_111, x_ineg, b_X4_likes_117, b_X4_likes_119, q_isL_I, q_isL_R, q_isL_S, true_and, and_true, and_self, List.length_nil, List.length_cons, Nat.zero_add, x_K, x_Kn, Int.reduceToNat, Nat.reduceAdd, Nat.reduceMul, Nat.reduceLeDiff, Nat.reduceLT, Nat.zero_le, Int.reduceAdd, Int.reduceSub, Int.reduceMul, Int.reduceNeg, q_add_e, q_sub_e, q_mul_e, q_neg_e, q_upd_s, q_upd_n, zr_shr0, zr_shr1, zr_shr2, zr_shr3, zr_shr4, zr_and, zr_dyn8, zr_or, zr_shl, q_cpy_n, y_cpy26, c_X4_says, Int.toNat_natCast, q_rem_e, q_half]
      exact hq M2 hf
  · rw [hk] at hq
    rw [if_neg (fun z => absurd z.1 (by decide)), if_neg (by decide), if_neg (fun z => absurd z.1 (by decide))] at hq
    simp (disch := omega) only [b_X4_likes_0, x_loadR_0, x_loadS_0, f_4_4, x_loadI_1, y_iald_26, x_iconst, y_ic_ne_t, y_ic_ne_f, b_X4_likes_10, f_4_3, x_loadI_2, f_4_5, y_ic_le_t, y_ic_le_f, b_X4_likes_25, x_ret0, b_X4_likes_27, y_ic_eq_t, y_ic_eq_f, b_X4_likes_37, b_X4_likes_47, x_goto, b_X4_likes_51, b_X4_likes_52, x_storeI_3, x_loadI_3, y_if_eq_t, y_if_eq_f, b_X4_likes_57, y_irem, b_X4_likes_69, b_X4_likes_72, x_storeI_4, b_X4_likes_85, x_loadI_4, y_idiv, b_X4_likes_90, b_X4_likes_100, f_4_2, b_X4_likes_111, x_ineg, b_X4_likes_117, b_X4_likes_119, q_isL_I, q_isL_R, q_isL_S, true_and, and_true, and_self, List.length_nil, List.length_cons, Nat.zero_add, x_K, x_Kn, Int.reduceToNat, Nat.reduceAdd, Nat.reduceMul, Nat.reduceLeDiff, Nat.reduceLT, Nat.zero_le, Int.reduceAdd, Int.reduceSub, Int.reduceMul, Int.reduceNeg, q_add_e, q_sub_e, q_mul_e, q_neg_e, q_upd_s, q_upd_n, zr_shr0, zr_shr1, zr_shr2, zr_shr3, zr_shr4, zr_and, zr_dyn8, zr_or, zr_shl, q_cpy_n, y_cpy26, c_X4_says, Int.toNat_natCast, q_rem_e, hk]
    refine says _ _ _ _ (fun M2 hf => ?_)
    have f22 := (hf (w + 22) p (by omega) (by omega)).trans hk
    simp (disch := omega) only [b_X4_likes_0, x_loadR_0, x_loadS_0, f_4_4, x_loadI_1, y_iald_26, x_iconst, y_ic_ne_t, y_ic_ne_f, b_X4_likes_10, f_4_3, x_loadI_2, f_4_5, y_ic_le_t, y_ic_le_f, b_X4_likes_25, x_ret0, b_X4_likes_27, y_ic_eq_t, y_ic_eq_f, b_X4_likes_37, b_X4_likes_47, x_goto, b_X4_likes_51, b_X4_likes_52, x_storeI_3, x_loadI_3, y_if_eq_t, y_if_eq_f, b_X4_likes_57, y_irem, b_X4_likes_69, b_X4_likes_72, x_storeI_4, b_X4_likes_85, x_loadI_4, y_idiv, b_X4_likes_90, b_X4_likes_100, f_4_2, b_X4_likes_111, x_ineg, b_X4_likes_117, b_X4_likes_119, q_isL_I, q_isL_R, q_isL_S, true_and, and_true, and_self, List.length_nil, List.length_cons, Nat.zero_add, x_K, x_Kn, Int.reduceToNat, Nat.reduceAdd, Nat.reduceMul, Nat.reduceLeDiff, Nat.reduceLT, Nat.zero_le, Int.reduceAdd, Int.reduceSub, Int.reduceMul, Int.reduceNeg, q_add_e, q_sub_e, q_mul_e, q_neg_e, q_upd_s, q_upd_n, zr_shr0, zr_shr1, zr_shr2, zr_shr3, zr_shr4, zr_and, zr_dyn8, zr_or, zr_shl, q_cpy_n, y_cpy26, c_X4_says, Int.toNat_natCast, q_rem_e, f22]
    exact hq M2 hf
  · rw [hk] at hq
    rw [if_neg (fun z => absurd z.1 (by decide)), if_pos (by decide)] at hq
    by_cases c3 : M (w + 23) p % 5 = b
    · rw [if_pos c3] at hq
      simp (disch := omega) only [b_X4_likes_0, x_loadR_0, x_loadS_0, f_4_4, x_loadI_1, y_iald_26, x_iconst, y_ic_ne_t, y_ic_ne_f, b_X4_likes_10, f_4_3, x_loadI_2, f_4_5, y_ic_le_t, y_ic_le_f, b_X4_likes_25, x_ret0, b_X4_likes_27, y_ic_eq_t, y_ic_eq_f, b_X4_likes_37, b_X4_likes_47, x_goto, b_X4_likes_51, b_X4_likes_52, x_storeI_3, x_loadI_3, y_if_eq_t, y_if_eq_f, b_X4_likes_57, y_irem, b_X4_likes_69, b_X4_likes_72, x_storeI_4, b_X4_likes_85, x_loadI_4, y_idiv, b_X4_likes_90, b_X4_likes_100, f_4_2, b_X4_likes_111, x_ineg, b_X4_likes_117, b_X4_likes_119, q_isL_I, q_isL_R, q_isL_S, true_and, and_true, and_self, List.length_nil, List.length_cons, Nat.zero_add, x_K, x_Kn, Int.reduceToNat, Nat.reduceAdd, Nat.reduceMul, Nat.reduceLeDiff, Nat.reduceLT, Nat.zero_le, Int.reduceAdd, Int.reduceSub, Int.reduceMul, Int.reduceNeg, q_add_e, q_sub_e, q_mul_e, q_neg_e, q_upd_s, q_upd_n, zr_shr0, zr_shr1, zr_shr2, zr_shr3, zr_shr4, zr_and, zr_dyn8, zr_or, zr_shl, q_cpy_n, y_cpy26, c_X4_says, Int.toNat_natCast, q_rem_e, hk]
      exact hq M q_fwd_rf
    · rw [if_neg c3] at hq
      simp (disch := omega) only [b_X4_likes_0, x_loadR_0, x_loadS_0, f_4_4, x_loadI_1, y_iald_26, x_iconst, y_ic_ne_t, y_ic_ne_f, b_X4_likes_10, f_4_3, x_loadI_2, f_4_5, y_ic_le_t, y_ic_le_f, b_X4_likes_25, x_ret0, b_X4_likes_27, y_ic_eq_t, y_ic_eq_f, b_X4_likes_37, b_X4_likes_47, x_goto, b_X4_likes_51, b_X4_likes_52, x_storeI_3, x_loadI_3, y_if_eq_t, y_if_eq_f, b_X4_likes_57, y_irem, b_X4_likes_69, b_X4_likes_72, x_storeI_4, b_X4_likes_85, x_loadI_4, y_idiv, b_X4_likes_90, b_X4_likes_100, f_4_2, b_X4_likes_111, x_ineg, b_X4_likes_117, b_X4_likes_119, q_isL_I, q_isL_R, q_isL_S, true_and, and_true, and_self, List.length_nil, List.length_cons, Nat.zero_add, x_K, x_Kn, Int.reduceToNat, Nat.reduceAdd, Nat.reduceMul, Nat.reduceLeDiff, Nat.reduceLT, Nat.zero_le, Int.reduceAdd, Int.reduceSub, Int.reduceMul, Int.reduceNeg, q_add_e, q_sub_e, q_mul_e, q_neg_e, q_upd_s, q_upd_n, zr_shr0, zr_shr1, zr_shr2, zr_shr3, zr_shr4, zr_and, zr_dyn8, zr_or, zr_shl, q_cpy_n, y_cpy26, c_X4_says, Int.toNat_natCast, q_rem_e, hk]
      refine says _ _ _ _ (fun M2 hf => ?_)
      simp (disch := omega) only [b_X4_likes_0, x_loadR_0, x_loadS_0, f_4_4, x_loadI_1, y_iald_26, x_iconst, y_ic_ne_t, y_ic_ne_f, b_X4_likes_10, f_4_3, x_loadI_2, f_4_5, y_ic_le_t, y_ic_le_f, b_X4_likes_25, x_ret0, b_X4_likes_27, y_ic_eq_t, y_ic_eq_f, b_X4_likes_37, b_X4_likes_47, x_goto, b_X4_likes_51, b_X4_likes_52, x_storeI_3, x_loadI_3, y_if_eq_t, y_if_eq_f, b_X4_likes_57, y_irem, b_X4_likes_69, b_X4_likes_72, x_storeI_4, b_X4_likes_85, x_loadI_4, y_idiv, b_X4_likes_90, b_X4_likes_100, f_4_2, b_X4_likes_111, x_ineg, b_X4_likes_117, b_X4_likes_119, q_isL_I, q_isL_R, q_isL_S, true_and, and_true, and_self, List.length_nil, List.length_cons, Nat.zero_add, x_K, x_Kn, Int.reduceToNat, Nat.reduceAdd, Nat.reduceMul, Nat.reduceLeDiff, Nat.reduceLT, Nat.zero_le, Int.reduceAdd, Int.reduceSub, Int.reduceMul, Int.reduceNeg, q_add_e, q_sub_e, q_mul_e, q_neg_e, q_upd_s, q_upd_n, zr_shr0, zr_shr1, zr_shr2, zr_shr3, zr_shr4, zr_and, zr_dyn8, zr_or, zr_shl, q_cpy_n, y_cpy26, c_X4_says, Int.toNat_natCast, q_rem_e, q_half]
      exact hq M2 hf
  · rw [hk] at hq
    rw [if_neg (fun z => absurd z.1 (by decide)), if_neg (by decide)] at hq
    simp (disch := omega) only [b_X4_likes_0, x_loadR_0, x_loadS_0, f_4_4, x_loadI_1, y_iald_26, x_iconst, y_ic_ne_t, y_ic_ne_f, b_X4_likes_10, f_4_3, x_loadI_2, f_4_5, y_ic_le_t, y_ic_le_f, b_X4_likes_25, x_ret0, b_X4_likes_27, y_ic_eq_t, y_ic_eq_f, b_X4_likes_37, b_X4_likes_47, x_goto, b_X4_likes_51, b_X4_likes_52, x_storeI_3, x_loadI_3, y_if_eq_t, y_if_eq_f, b_X4_likes_57, y_irem, b_X4_likes_69, b_X4_likes_72, x_storeI_4, b_X4_likes_85, x_loadI_4, y_idiv, b_X4_likes_90, b_X4_likes_100, f_4_2, b_X4_likes_111, x_ineg, b_X4_likes_117, b_X4_likes_119, q_isL_I, q_isL_R, q_isL_S, true_and, and_true, and_self, List.length_nil, List.length_cons, Nat.zero_add, x_K, x_Kn, Int.reduceToNat, Nat.reduceAdd, Nat.reduceMul, Nat.reduceLeDiff, Nat.reduceLT, Nat.zero_le, Int.reduceAdd, Int.reduceSub, Int.reduceMul, Int.reduceNeg, q_add_e, q_sub_e, q_mul_e, q_neg_e, q_upd_s, q_upd_n, zr_shr0, zr_shr1, zr_shr2, zr_shr3, zr_shr4, zr_and, zr_dyn8, zr_or, zr_shl, q_cpy_n, y_cpy26, c_X4_says, Int.toNat_natCast, q_rem_e, hk]
    refine says _ _ _ _ (fun M2 hf => ?_)
    have f22 := (hf (w + 22) p (by omega) (by omega)).trans hk
    have f20 := hf (w + 20) b (by omega) (by omega)
    by_cases c1 : 50 < M (w + 20) b
    · rw [if_pos ⟨rfl, c1⟩] at hq
      simp (disch := omega) only [b_X4_likes_0, x_loadR_0, x_loadS_0, f_4_4, x_loadI_1, y_iald_26, x_iconst, y_ic_ne_t, y_ic_ne_f, b_X4_likes_10, f_4_3, x_loadI_2, f_4_5, y_ic_le_t, y_ic_le_f, b_X4_likes_25, x_ret0, b_X4_likes_27, y_ic_eq_t, y_ic_eq_f, b_X4_likes_37, b_X4_likes_47, x_goto, b_X4_likes_51, b_X4_likes_52, x_storeI_3, x_loadI_3, y_if_eq_t, y_if_eq_f, b_X4_likes_57, y_irem, b_X4_likes_69, b_X4_likes_72, x_storeI_4, b_X4_likes_85, x_loadI_4, y_idiv, b_X4_likes_90, b_X4_likes_100, f_4_2, b_X4_likes_111, x_ineg, b_X4_likes_117, b_X4_likes_119, q_isL_I, q_isL_R, q_isL_S, true_and, and_true, and_self, List.length_nil, List.length_cons, Nat.zero_add, x_K, x_Kn, Int.reduceToNat, Nat.reduceAdd, Nat.reduceMul, Nat.reduceLeDiff, Nat.reduceLT, Nat.zero_le, Int.reduceAdd, Int.reduceSub, Int.reduceMul, Int.reduceNeg, q_add_e, q_sub_e, q_mul_e, q_neg_e, q_upd_s, q_upd_n, zr_shr0, zr_shr1, zr_shr2, zr_shr3, zr_shr4, zr_and, zr_dyn8, zr_or, zr_shl, q_cpy_n, y_cpy26, c_X4_says, Int.toNat_natCast, q_rem_e, f22, f20]
      exact hq M2 hf
    · rw [if_neg (fun z => c1 z.2)] at hq
      simp (disch := omega) only [b_X4_likes_0, x_loadR_0, x_loadS_0, f_4_4, x_loadI_1, y_iald_26, x_iconst, y_ic_ne_t, y_ic_ne_f, b_X4_likes_10, f_4_3, x_loadI_2, f_4_5, y_ic_le_t, y_ic_le_f, b_X4_likes_25, x_ret0, b_X4_likes_27, y_ic_eq_t, y_ic_eq_f, b_X4_likes_37, b_X4_likes_47, x_goto, b_X4_likes_51, b_X4_likes_52, x_storeI_3, x_loadI_3, y_if_eq_t, y_if_eq_f, b_X4_likes_57, y_irem, b_X4_likes_69, b_X4_likes_72, x_storeI_4, b_X4_likes_85, x_loadI_4, y_idiv, b_X4_likes_90, b_X4_likes_100, f_4_2, b_X4_likes_111, x_ineg, b_X4_likes_117, b_X4_likes_119, q_isL_I, q_isL_R, q_isL_S, true_and, and_true, and_self, List.length_nil, List.length_cons, Nat.zero_add, x_K, x_Kn, Int.reduceToNat, Nat.reduceAdd, Nat.reduceMul, Nat.reduceLeDiff, Nat.reduceLT, Nat.zero_le, Int.reduceAdd, Int.reduceSub, Int.reduceMul, Int.reduceNeg, q_add_e, q_sub_e, q_mul_e, q_neg_e, q_upd_s, q_upd_n, zr_shr0, zr_shr1, zr_shr2, zr_shr3, zr_shr4, zr_and, zr_dyn8, zr_or, zr_shl, q_cpy_n, y_cpy26, c_X4_says, Int.toNat_natCast, q_rem_e, f22, f20]
      exact hq M2 hf
  · rw [hk] at hq
    by_cases c1 : M (w + 23) p < M (w + 21) b
    · rw [if_pos ⟨rfl, c1⟩] at hq
      simp (disch := omega) only [b_X4_likes_0, x_loadR_0, x_loadS_0, f_4_4, x_loadI_1, y_iald_26, x_iconst, y_ic_ne_t, y_ic_ne_f, b_X4_likes_10, f_4_3, x_loadI_2, f_4_5, y_ic_le_t, y_ic_le_f, b_X4_likes_25, x_ret0, b_X4_likes_27, y_ic_eq_t, y_ic_eq_f, b_X4_likes_37, b_X4_likes_47, x_goto, b_X4_likes_51, b_X4_likes_52, x_storeI_3, x_loadI_3, y_if_eq_t, y_if_eq_f, b_X4_likes_57, y_irem, b_X4_likes_69, b_X4_likes_72, x_storeI_4, b_X4_likes_85, x_loadI_4, y_idiv, b_X4_likes_90, b_X4_likes_100, f_4_2, b_X4_likes_111, x_ineg, b_X4_likes_117, b_X4_likes_119, q_isL_I, q_isL_R, q_isL_S, true_and, and_true, and_self, List.length_nil, List.length_cons, Nat.zero_add, x_K, x_Kn, Int.reduceToNat, Nat.reduceAdd, Nat.reduceMul, Nat.reduceLeDiff, Nat.reduceLT, Nat.zero_le, Int.reduceAdd, Int.reduceSub, Int.reduceMul, Int.reduceNeg, q_add_e, q_sub_e, q_mul_e, q_neg_e, q_upd_s, q_upd_n, zr_shr0, zr_shr1, zr_shr2, zr_shr3, zr_shr4, zr_and, zr_dyn8, zr_or, zr_shl, q_cpy_n, y_cpy26, c_X4_says, Int.toNat_natCast, q_rem_e, hk]
      exact hq M q_fwd_rf
    · rw [if_neg (fun z => c1 z.2), if_neg (by decide), if_neg (fun z => absurd z.1 (by decide))] at hq
      simp (disch := omega) only [b_X4_likes_0, x_loadR_0, x_loadS_0, f_4_4, x_loadI_1, y_iald_26, x_iconst, y_ic_ne_t, y_ic_ne_f, b_X4_likes_10, f_4_3, x_loadI_2, f_4_5, y_ic_le_t, y_ic_le_f, b_X4_likes_25, x_ret0, b_X4_likes_27, y_ic_eq_t, y_ic_eq_f, b_X4_likes_37, b_X4_likes_47, x_goto, b_X4_likes_51, b_X4_likes_52, x_storeI_3, x_loadI_3, y_if_eq_t, y_if_eq_f, b_X4_likes_57, y_irem, b_X4_likes_69, b_X4_likes_72, x_storeI_4, b_X4_likes_85, x_loadI_4, y_idiv, b_X4_likes_90, b_X4_likes_100, f_4_2, b_X4_likes_111, x_ineg, b_X4_likes_117, b_X4_likes_119, q_isL_I, q_isL_R, q_isL_S, true_and, and_true, and_self, List.length_nil, List.length_cons, Nat.zero_add, x_K, x_Kn, Int.reduceToNat, Nat.reduceAdd, Nat.reduceMul, Nat.reduceLeDiff, Nat.reduceLT, Nat.zero_le, Int.reduceAdd, Int.reduceSub, Int.reduceMul, Int.reduceNeg, q_add_e, q_sub_e, q_mul_e, q_neg_e, q_upd_s, q_upd_n, zr_shr0, zr_shr1, zr_shr2, zr_shr3, zr_shr4, zr_and, zr_dyn8, zr_or, zr_shl, q_cpy_n, y_cpy26, c_X4_says, Int.toNat_natCast, q_rem_e, hk]
      refine says _ _ _ _ (fun M2 hf => ?_)
      have f22 := (hf (w + 22) p (by omega) (by omega)).trans hk
      simp (disch := omega) only [b_X4_likes_0, x_loadR_0, x_loadS_0, f_4_4, x_loadI_1, y_iald_26, x_iconst, y_ic_ne_t, y_ic_ne_f, b_X4_likes_10, f_4_3, x_loadI_2, f_4_5, y_ic_le_t, y_ic_le_f, b_X4_likes_25, x_ret0, b_X4_likes_27, y_ic_eq_t, y_ic_eq_f, b_X4_likes_37, b_X4_likes_47, x_goto, b_X4_likes_51, b_X4_likes_52, x_storeI_3, x_loadI_3, y_if_eq_t, y_if_eq_f, b_X4_likes_57, y_irem, b_X4_likes_69, b_X4_likes_72, x_storeI_4, b_X4_likes_85, x_loadI_4, y_idiv, b_X4_likes_90, b_X4_likes_100, f_4_2, b_X4_likes_111, x_ineg, b_X4_likes_117, b_X4_likes_119, q_isL_I, q_isL_R, q_isL_S, true_and, and_true, and_self, List.length_nil, List.length_cons, Nat.zero_add, x_K, x_Kn, Int.reduceToNat, Nat.reduceAdd, Nat.reduceMul, Nat.reduceLeDiff, Nat.reduceLT, Nat.zero_le, Int.reduceAdd, Int.reduceSub, Int.reduceMul, Int.reduceNeg, q_add_e, q_sub_e, q_mul_e, q_neg_e, q_upd_s, q_upd_n, zr_shr0, zr_shr1, zr_shr2, zr_shr3, zr_shr4, zr_and, zr_dyn8, zr_or, zr_shl, q_cpy_n, y_cpy26, c_X4_says, Int.toNat_natCast, q_rem_e, f22]
      exact hq M2 hf
set_option maxHeartbeats 4000000 in
theorem sp_wants {V : Nat → (Nat → Int) → Int} {d : Nat} {g : q_G} {M : q_M} {w ta p b : Nat} {Q : Option q_V → q_G → q_M → Prop} (hw : q_wl V M w ta) (hp : p < (M (w + 1) 5).toNat) (hb : b < 5) (hq : ∀ M2 : q_M, q_fwd w ta M M2 → Q (some (qI (F_wants V (cW M w) p b))) g M2) : q_S 1 (d + 2) 55 [qR 4 w, qI p, qI b] g M Q := by
  obtain ⟨⟨r0, r1, r2, r3, r4, r5, r6, r7, r8, r9, ra, rb, rc⟩, hV, hl, hla, hta, hds⟩ := id hw
  have hk0 := r2 p
  have hm0 := r3 p
  have hs := F_says_le (V := V) (S := cW M w) (part := 1) (p := p) (b := b)
  unfold F_wants at hq
  rw [cW_0 hp, cW_1 hp, cW_91] at hq
  rw [s_X4_wants]
  have says : ∀ (nx : Nat) (ops : List Instr) (ls st : List q_V), (∀ M2 : q_M, q_fwd w ta M M2 → q_T 1 (d + 2) qP_X4_wants nx ops ls (qI (F_says V (cW M w) 1 p b) :: st) g M2 Q) → q_S 1 (d + 1) 53 [qR 4 w, qI 1, qI p, qI b] g M (q_K 1 (d + 2) qP_X4_wants nx ops ls st Q) := fun nx ops ls st h => sp_says (part := 1) hw (by omega) hp (by omega) h
  simp (disch := omega) only [b_X4_wants_0, x_loadR_0, x_loadS_0, x_iconst, x_loadI_1, x_loadI_2, x_storeI_3, f_4_4, y_iald_26, y_ic_ne_t, y_ic_ne_f, b_X4_wants_18, x_loadI_3, x_ineg, x_ret0, b_X4_wants_21, y_ic_eq_t, y_ic_eq_f, b_X4_wants_31, b_X4_wants_41, f_4_9, y_irem, y_if_ne_t, y_if_ne_f, b_X4_wants_50, x_goto, b_X4_wants_54, b_X4_wants_55, x_storeI_4, x_loadI_4, y_if_eq_t, y_if_eq_f, b_X4_wants_62, f_4_5, x_imul, x_iadd, b_X4_wants_76, b_X4_wants_77, q_isL_I, q_isL_R, q_isL_S, true_and, and_true, and_self, List.length_nil, List.length_cons, Nat.zero_add, x_K, x_Kn, Int.reduceToNat, Nat.reduceAdd, Nat.reduceMul, Nat.reduceLeDiff, Nat.reduceLT, Nat.zero_le, Int.reduceAdd, Int.reduceSub, Int.reduceMul, Int.reduceNeg, q_add_e, q_sub_e, q_mul_e, q_neg_e, q_upd_s, q_upd_n, zr_shr0, zr_shr1, zr_shr2, zr_shr3, zr_shr4, zr_and, zr_dyn8, zr_or, zr_shl, q_cpy_n, y_cpy26, c_X4_says, Int.toNat_natCast]
  refine says _ _ _ _ (fun M2 hf => ?_)
  have f22 := hf (w + 22) p (by omega) (by omega)
  have f23 := hf (w + 23) p (by omega) (by omega)
  have f9 := hf w 9 (by omega) (by omega)
  rcases (show M (w + 22) p = 0 ∨ M (w + 22) p = 1 ∨ M (w + 22) p = 2 ∨ M (w + 22) p = 3 ∨ M (w + 22) p = 4 ∨ M (w + 22) p = 5 by omega) with hk | hk | hk | hk | hk | hk
  · rw [hk] at hq
    rw [if_neg (by decide), if_neg (by rintro (z | z); exact absurd z (by decide); exact absurd z.1 (by decide))] at hq
    simp (disch := omega) only [b_X4_wants_0, x_loadR_0, x_loadS_0, x_iconst, x_loadI_1, x_loadI_2, x_storeI_3, f_4_4, y_iald_26, y_ic_ne_t, y_ic_ne_f, b_X4_wants_18, x_loadI_3, x_ineg, x_ret0, b_X4_wants_21, y_ic_eq_t, y_ic_eq_f, b_X4_wants_31, b_X4_wants_41, f_4_9, y_irem, y_if_ne_t, y_if_ne_f, b_X4_wants_50, x_goto, b_X4_wants_54, b_X4_wants_55, x_storeI_4, x_loadI_4, y_if_eq_t, y_if_eq_f, b_X4_wants_62, f_4_5, x_imul, x_iadd, b_X4_wants_76, b_X4_wants_77, q_isL_I, q_isL_R, q_isL_S, true_and, and_true, and_self, List.length_nil, List.length_cons, Nat.zero_add, x_K, x_Kn, Int.reduceToNat, Nat.reduceAdd, Nat.reduceMul, Nat.reduceLeDiff, Nat.reduceLT, Nat.zero_le, Int.reduceAdd, Int.reduceSub, Int.reduceMul, Int.reduceNeg, q_add_e, q_sub_e, q_mul_e, q_neg_e, q_upd_s, q_upd_n, zr_shr0, zr_shr1, zr_shr2, zr_shr3, zr_shr4, zr_and, zr_dyn8, zr_or, zr_shl, q_cpy_n, y_cpy26, c_X4_says, Int.toNat_natCast, q_rem_e, f22, f23, f9, hk]
    exact hq M2 hf
  · rw [hk] at hq
    rw [if_neg (by decide), if_neg (by rintro (z | z); exact absurd z (by decide); exact absurd z.1 (by decide))] at hq
    simp (disch := omega) only [b_X4_wants_0, x_loadR_0, x_loadS_0, x_iconst, x_loadI_1, x_loadI_2, x_storeI_3, f_4_4, y_iald_26, y_ic_ne_t, y_ic_ne_f, b_X4_wants_18, x_loadI_3, x_ineg, x_ret0, b_X4_wants_21, y_ic_eq_t, y_ic_eq_f, b_X4_wants_31, b_X4_wants_41, f_4_9, y_irem, y_if_ne_t, y_if_ne_f, b_X4_wants_50, x_goto, b_X4_wants_54, b_X4_wants_55, x_storeI_4, x_loadI_4, y_if_eq_t, y_if_eq_f, b_X4_wants_62, f_4_5, x_imul, x_iadd, b_X4_wants_76, b_X4_wants_77, q_isL_I, q_isL_R, q_isL_S, true_and, and_true, and_self, List.length_nil, List.length_cons, Nat.zero_add, x_K, x_Kn, Int.reduceToNat, Nat.reduceAdd, Nat.reduceMul, Nat.reduceLeDiff, Nat.reduceLT, Nat.zero_le, Int.reduceAdd, Int.reduceSub, Int.reduceMul, Int.reduceNeg, q_add_e, q_sub_e, q_mul_e, q_neg_e, q_upd_s, q_upd_n, zr_shr0, zr_shr1, zr_shr2, zr_shr3, zr_shr4, zr_and, zr_dyn8, zr_or, zr_shl, q_cpy_n, y_cpy26, c_X4_says, Int.toNat_natCast, q_rem_e, f22, f23, f9, hk]
    exact hq M2 hf
  · rw [hk] at hq
    rw [if_neg (by decide), if_pos (Or.inl rfl)] at hq
    simp (disch := omega) only [b_X4_wants_0, x_loadR_0, x_loadS_0, x_iconst, x_loadI_1, x_loadI_2, x_storeI_3, f_4_4, y_iald_26, y_ic_ne_t, y_ic_ne_f, b_X4_wants_18, x_loadI_3, x_ineg, x_ret0, b_X4_wants_21, y_ic_eq_t, y_ic_eq_f, b_X4_wants_31, b_X4_wants_41, f_4_9, y_irem, y_if_ne_t, y_if_ne_f, b_X4_wants_50, x_goto, b_X4_wants_54, b_X4_wants_55, x_storeI_4, x_loadI_4, y_if_eq_t, y_if_eq_f, b_X4_wants_62, f_4_5, x_imul, x_iadd, b_X4_wants_76, b_X4_wants_77, q_isL_I, q_isL_R, q_isL_S, true_and, and_true, and_self, List.length_nil, List.length_cons, Nat.zero_add, x_K, x_Kn, Int.reduceToNat, Nat.reduceAdd, Nat.reduceMul, Nat.reduceLeDiff, Nat.reduceLT, Nat.zero_le, Int.reduceAdd, Int.reduceSub, Int.reduceMul, Int.reduceNeg, q_add_e, q_sub_e, q_mul_e, q_neg_e, q_upd_s, q_upd_n, zr_shr0, zr_shr1, zr_shr2, zr_shr3, zr_shr4, zr_and, zr_dyn8, zr_or, zr_shl, q_cpy_n, y_cpy26, c_X4_says, Int.toNat_natCast, q_rem_e, f22, f23, f9, hk]
    exact hq M2 hf
  · rw [hk] at hq
    rw [if_pos rfl] at hq
    simp (disch := omega) only [b_X4_wants_0, x_loadR_0, x_loadS_0, x_iconst, x_loadI_1, x_loadI_2, x_storeI_3, f_4_4, y_iald_26, y_ic_ne_t, y_ic_ne_f, b_X4_wants_18, x_loadI_3, x_ineg, x_ret0, b_X4_wants_21, y_ic_eq_t, y_ic_eq_f, b_X4_wants_31, b_X4_wants_41, f_4_9, y_irem, y_if_ne_t, y_if_ne_f, b_X4_wants_50, x_goto, b_X4_wants_54, b_X4_wants_55, x_storeI_4, x_loadI_4, y_if_eq_t, y_if_eq_f, b_X4_wants_62, f_4_5, x_imul, x_iadd, b_X4_wants_76, b_X4_wants_77, q_isL_I, q_isL_R, q_isL_S, true_and, and_true, and_self, List.length_nil, List.length_cons, Nat.zero_add, x_K, x_Kn, Int.reduceToNat, Nat.reduceAdd, Nat.reduceMul, Nat.reduceLeDiff, Nat.reduceLT, Nat.zero_le, Int.reduceAdd, Int.reduceSub, Int.reduceMul, Int.reduceNeg, q_add_e, q_sub_e, q_mul_e, q_neg_e, q_upd_s, q_upd_n, zr_shr0, zr_shr1, zr_shr2, zr_shr3, zr_shr4, zr_and, zr_dyn8, zr_or, zr_shl, q_cpy_n, y_cpy26, c_X4_says, Int.toNat_natCast, q_rem_e, f22, f23, f9, hk]
    exact hq M2 hf
  · rw [hk] at hq
    rw [if_neg (by decide)] at hq
    by_cases c1 : M w 9 % 2 = 0
    · rw [if_pos (Or.inr ⟨rfl, c1⟩)] at hq
      simp (disch := omega) only [b_X4_wants_0, x_loadR_0, x_loadS_0, x_iconst, x_loadI_1, x_loadI_2, x_storeI_3, f_4_4, y_iald_26, y_ic_ne_t, y_ic_ne_f, b_X4_wants_18, x_loadI_3, x_ineg, x_ret0, b_X4_wants_21, y_ic_eq_t, y_ic_eq_f, b_X4_wants_31, b_X4_wants_41, f_4_9, y_irem, y_if_ne_t, y_if_ne_f, b_X4_wants_50, x_goto, b_X4_wants_54, b_X4_wants_55, x_storeI_4, x_loadI_4, y_if_eq_t, y_if_eq_f, b_X4_wants_62, f_4_5, x_imul, x_iadd, b_X4_wants_76, b_X4_wants_77, q_isL_I, q_isL_R, q_isL_S, true_and, and_true, and_self, List.length_nil, List.length_cons, Nat.zero_add, x_K, x_Kn, Int.reduceToNat, Nat.reduceAdd, Nat.reduceMul, Nat.reduceLeDiff, Nat.reduceLT, Nat.zero_le, Int.reduceAdd, Int.reduceSub, Int.reduceMul, Int.reduceNeg, q_add_e, q_sub_e, q_mul_e, q_neg_e, q_upd_s, q_upd_n, zr_shr0, zr_shr1, zr_shr2, zr_shr3, zr_shr4, zr_and, zr_dyn8, zr_or, zr_shl, q_cpy_n, y_cpy26, c_X4_says, Int.toNat_natCast, q_rem_e, f22, f23, f9, hk]
      exact hq M2 hf
    · rw [if_neg (by rintro (z | z); exact absurd z (by decide); exact c1 z.2)] at hq
      simp (disch := omega) only [b_X4_wants_0, x_loadR_0, x_loadS_0, x_iconst, x_loadI_1, x_loadI_2, x_storeI_3, f_4_4, y_iald_26, y_ic_ne_t, y_ic_ne_f, b_X4_wants_18, x_loadI_3, x_ineg, x_ret0, b_X4_wants_21, y_ic_eq_t, y_ic_eq_f, b_X4_wants_31, b_X4_wants_41, f_4_9, y_irem, y_if_ne_t, y_if_ne_f, b_X4_wants_50, x_goto, b_X4_wants_54, b_X4_wants_55, x_storeI_4, x_loadI_4, y_if_eq_t, y_if_eq_f, b_X4_wants_62, f_4_5, x_imul, x_iadd, b_X4_wants_76, b_X4_wants_77, q_isL_I, q_isL_R, q_isL_S, true_and, and_true, and_self, List.length_nil, List.length_cons, Nat.zero_add, x_K, x_Kn, Int.reduceToNat, Nat.reduceAdd, Nat.reduceMul, Nat.reduceLeDiff, Nat.reduceLT, Nat.zero_le, Int.reduceAdd, Int.reduceSub, Int.reduceMul, Int.reduceNeg, q_add_e, q_sub_e, q_mul_e, q_neg_e, q_upd_s, q_upd_n, zr_shr0, zr_shr1, zr_shr2, zr_shr3, zr_shr4, zr_and, zr_dyn8, zr_or, zr_shl, q_cpy_n, y_cpy26, c_X4_says, Int.toNat_natCast, q_rem_e, f22, f23, f9, hk]
      exact hq M2 hf
  · rw [hk] at hq
    rw [if_neg (by decide), if_neg (by rintro (z | z); exact absurd z (by decide); exact absurd z.1 (by decide))] at hq
    simp (disch := omega) only [b_X4_wants_0, x_loadR_0, x_loadS_0, x_iconst, x_loadI_1, x_loadI_2, x_storeI_3, f_4_4, y_iald_26, y_ic_ne_t, y_ic_ne_f, b_X4_wants_18, x_loadI_3, x_ineg, x_ret0, b_X4_wants_21, y_ic_eq_t, y_ic_eq_f, b_X4_wants_31, b_X4_wants_41, f_4_9, y_irem, y_if_ne_t, y_if_ne_f, b_X4_wants_50, x_goto, b_X4_wants_54, b_X4_wants_55, x_storeI_4, x_loadI_4, y_if_eq_t, y_if_eq_f, b_X4_wants_62, f_4_5, x_imul, x_iadd, b_X4_wants_76, b_X4_wants_77, q_isL_I, q_isL_R, q_isL_S, true_and, and_true, and_self, List.length_nil, List.length_cons, Nat.zero_add, x_K, x_Kn, Int.reduceToNat, Nat.reduceAdd, Nat.reduceMul, Nat.reduceLeDiff, Nat.reduceLT, Nat.zero_le, Int.reduceAdd, Int.reduceSub, Int.reduceMul, Int.reduceNeg, q_add_e, q_sub_e, q_mul_e, q_neg_e, q_upd_s, q_upd_n, zr_shr0, zr_shr1, zr_shr2, zr_shr3, zr_shr4, zr_and, zr_dyn8, zr_or, zr_shl, q_cpy_n, y_cpy26, c_X4_says, Int.toNat_natCast, q_rem_e, f22, f23, f9, hk]
    exact hq M2 hf
set_option maxHeartbeats 4000000 in
theorem sp_goes {V : Nat → (Nat → Int) → Int} {d : Nat} {g : q_G} {M : q_M} {w ta p : Nat} {Q : Option q_V → q_G → q_M → Prop} (hw : q_wl V M w ta) (hp : p < (M (w + 1) 5).toNat) (hq : ∀ M2 : q_M, q_fwd w ta M M2 → Q (some (qI (F_goes V (cW M w) p))) g M2) : q_S 1 (d + 2) 56 [qR 4 w, qI p] g M Q := by
  obtain ⟨⟨r0, r1, r2, r3, r4, r5, r6, r7, r8, r9, ra, rb, rc⟩, hV, hl, hla, hta, hds⟩ := id hw
  have hk0 := r2 p
  have hm0 := r3 p
  have hs := F_says_le (V := V) (S := cW M w) (part := 2) (p := p) (b := 5)
  unfold F_goes at hq
  rw [cW_0 hp, cW_1 hp, cW_91] at hq
  rw [s_X4_goes]
  have says : ∀ (nx : Nat) (ops : List Instr) (ls st : List q_V), (∀ M2 : q_M, q_fwd w ta M M2 → q_T 1 (d + 2) qP_X4_goes nx ops ls (qI (F_says V (cW M w) 2 p 5) :: st) g M2 Q) → q_S 1 (d + 1) 53 [qR 4 w, qI 2, qI p, qI 5] g M (q_K 1 (d + 2) qP_X4_goes nx ops ls st Q) := fun nx ops ls st h => sp_says (part := 2) (b := 5) hw (by omega) hp (by omega) h
  rcases (show M (w + 22) p = 0 ∨ M (w + 22) p = 1 ∨ M (w + 22) p = 2 ∨ M (w + 22) p = 3 ∨ M (w + 22) p = 4 ∨ M (w + 22) p = 5 by omega) with hk | hk | hk | hk | hk | hk
  · rw [hk] at hq
    rw [if_neg (by decide), if_neg (by decide), if_neg (by decide), if_neg (by decide)] at hq
    simp (disch := omega) only [b_X4_goes_0, x_loadR_0, x_loadS_0, f_4_4, x_loadI_1, y_iald_26, x_iconst, y_ic_ne_t, y_ic_ne_f, b_X4_goes_10, x_ret0, b_X4_goes_12, y_ic_eq_t, y_ic_eq_f, b_X4_goes_22, b_X4_goes_32, x_goto, b_X4_goes_36, b_X4_goes_37, x_storeI_2, x_loadI_2, y_if_eq_t, y_if_eq_f, b_X4_goes_42, f_4_9, y_ic_ge_t, y_ic_ge_f, b_X4_goes_51, b_X4_goes_55, b_X4_goes_62, x_storeI_3, b_X4_goes_73, x_loadI_3, f_4_5, x_iadd, b_X4_goes_82, b_X4_goes_92, b_X4_goes_102, y_idiv, b_X4_goes_108, b_X4_goes_109, q_isL_I, q_isL_R, q_isL_S, true_and, and_true, and_self, List.length_nil, List.length_cons, Nat.zero_add, x_K, x_Kn, Int.reduceToNat, Nat.reduceAdd, Nat.reduceMul, Nat.reduceLeDiff, Nat.reduceLT, Nat.zero_le, Int.reduceAdd, Int.reduceSub, Int.reduceMul, Int.reduceNeg, q_add_e, q_sub_e, q_mul_e, q_neg_e, q_upd_s, q_upd_n, zr_shr0, zr_shr1, zr_shr2, zr_shr3, zr_shr4, zr_and, zr_dyn8, zr_or, zr_shl, q_cpy_n, y_cpy26, c_X4_says, Int.toNat_natCast, hk]
    refine says _ _ _ _ (fun M2 hf => ?_)
    have f22 := (hf (w + 22) p (by omega) (by omega)).trans hk
    have f23 := hf (w + 23) p (by omega) (by omega)
    simp (disch := omega) only [b_X4_goes_0, x_loadR_0, x_loadS_0, f_4_4, x_loadI_1, y_iald_26, x_iconst, y_ic_ne_t, y_ic_ne_f, b_X4_goes_10, x_ret0, b_X4_goes_12, y_ic_eq_t, y_ic_eq_f, b_X4_goes_22, b_X4_goes_32, x_goto, b_X4_goes_36, b_X4_goes_37, x_storeI_2, x_loadI_2, y_if_eq_t, y_if_eq_f, b_X4_goes_42, f_4_9, y_ic_ge_t, y_ic_ge_f, b_X4_goes_51, b_X4_goes_55, b_X4_goes_62, x_storeI_3, b_X4_goes_73, x_loadI_3, f_4_5, x_iadd, b_X4_goes_82, b_X4_goes_92, b_X4_goes_102, y_idiv, b_X4_goes_108, b_X4_goes_109, q_isL_I, q_isL_R, q_isL_S, true_and, and_true, and_self, List.length_nil, List.length_cons, Nat.zero_add, x_K, x_Kn, Int.reduceToNat, Nat.reduceAdd, Nat.reduceMul, Nat.reduceLeDiff, Nat.reduceLT, Nat.zero_le, Int.reduceAdd, Int.reduceSub, Int.reduceMul, Int.reduceNeg, q_add_e, q_sub_e, q_mul_e, q_neg_e, q_upd_s, q_upd_n, zr_shr0, zr_shr1, zr_shr2, zr_shr3, zr_shr4, zr_and, zr_dyn8, zr_or, zr_shl, q_cpy_n, y_cpy26, c_X4_says, Int.toNat_natCast, f22, f23, q_half]
    exact hq M2 hf
  · rw [hk] at hq
    rw [if_neg (by decide), if_pos rfl] at hq
    by_cases c1 : M w 9 < 10
    · rw [if_pos c1] at hq
      simp (disch := omega) only [b_X4_goes_0, x_loadR_0, x_loadS_0, f_4_4, x_loadI_1, y_iald_26, x_iconst, y_ic_ne_t, y_ic_ne_f, b_X4_goes_10, x_ret0, b_X4_goes_12, y_ic_eq_t, y_ic_eq_f, b_X4_goes_22, b_X4_goes_32, x_goto, b_X4_goes_36, b_X4_goes_37, x_storeI_2, x_loadI_2, y_if_eq_t, y_if_eq_f, b_X4_goes_42, f_4_9, y_ic_ge_t, y_ic_ge_f, b_X4_goes_51, b_X4_goes_55, b_X4_goes_62, x_storeI_3, b_X4_goes_73, x_loadI_3, f_4_5, x_iadd, b_X4_goes_82, b_X4_goes_92, b_X4_goes_102, y_idiv, b_X4_goes_108, b_X4_goes_109, q_isL_I, q_isL_R, q_isL_S, true_and, and_true, and_self, List.length_nil, List.length_cons, Nat.zero_add, x_K, x_Kn, Int.reduceToNat, Nat.reduceAdd, Nat.reduceMul, Nat.reduceLeDiff, Nat.reduceLT, Nat.zero_le, Int.reduceAdd, Int.reduceSub, Int.reduceMul, Int.reduceNeg, q_add_e, q_sub_e, q_mul_e, q_neg_e, q_upd_s, q_upd_n, zr_shr0, zr_shr1, zr_shr2, zr_shr3, zr_shr4, zr_and, zr_dyn8, zr_or, zr_shl, q_cpy_n, y_cpy26, c_X4_says, Int.toNat_natCast, hk]
      exact hq M q_fwd_rf
    · rw [if_neg c1] at hq
      simp (disch := omega) only [b_X4_goes_0, x_loadR_0, x_loadS_0, f_4_4, x_loadI_1, y_iald_26, x_iconst, y_ic_ne_t, y_ic_ne_f, b_X4_goes_10, x_ret0, b_X4_goes_12, y_ic_eq_t, y_ic_eq_f, b_X4_goes_22, b_X4_goes_32, x_goto, b_X4_goes_36, b_X4_goes_37, x_storeI_2, x_loadI_2, y_if_eq_t, y_if_eq_f, b_X4_goes_42, f_4_9, y_ic_ge_t, y_ic_ge_f, b_X4_goes_51, b_X4_goes_55, b_X4_goes_62, x_storeI_3, b_X4_goes_73, x_loadI_3, f_4_5, x_iadd, b_X4_goes_82, b_X4_goes_92, b_X4_goes_102, y_idiv, b_X4_goes_108, b_X4_goes_109, q_isL_I, q_isL_R, q_isL_S, true_and, and_true, and_self, List.length_nil, List.length_cons, Nat.zero_add, x_K, x_Kn, Int.reduceToNat, Nat.reduceAdd, Nat.reduceMul, Nat.reduceLeDiff, Nat.reduceLT, Nat.zero_le, Int.reduceAdd, Int.reduceSub, Int.reduceMul, Int.reduceNeg, q_add_e, q_sub_e, q_mul_e, q_neg_e, q_upd_s, q_upd_n, zr_shr0, zr_shr1, zr_shr2, zr_shr3, zr_shr4, zr_and, zr_dyn8, zr_or, zr_shl, q_cpy_n, y_cpy26, c_X4_says, Int.toNat_natCast, hk]
      refine says _ _ _ _ (fun M2 hf => ?_)
      have f22 := (hf (w + 22) p (by omega) (by omega)).trans hk
      have f23 := hf (w + 23) p (by omega) (by omega)
      simp (disch := omega) only [b_X4_goes_0, x_loadR_0, x_loadS_0, f_4_4, x_loadI_1, y_iald_26, x_iconst, y_ic_ne_t, y_ic_ne_f, b_X4_goes_10, x_ret0, b_X4_goes_12, y_ic_eq_t, y_ic_eq_f, b_X4_goes_22, b_X4_goes_32, x_goto, b_X4_goes_36, b_X4_goes_37, x_storeI_2, x_loadI_2, y_if_eq_t, y_if_eq_f, b_X4_goes_42, f_4_9, y_ic_ge_t, y_ic_ge_f, b_X4_goes_51, b_X4_goes_55, b_X4_goes_62, x_storeI_3, b_X4_goes_73, x_loadI_3, f_4_5, x_iadd, b_X4_goes_82, b_X4_goes_92, b_X4_goes_102, y_idiv, b_X4_goes_108, b_X4_goes_109, q_isL_I, q_isL_R, q_isL_S, true_and, and_true, and_self, List.length_nil, List.length_cons, Nat.zero_add, x_K, x_Kn, Int.reduceToNat, Nat.reduceAdd, Nat.reduceMul, Nat.reduceLeDiff, Nat.reduceLT, Nat.zero_le, Int.reduceAdd, Int.reduceSub, Int.reduceMul, Int.reduceNeg, q_add_e, q_sub_e, q_mul_e, q_neg_e, q_upd_s, q_upd_n, zr_shr0, zr_shr1, zr_shr2, zr_shr3, zr_shr4, zr_and, zr_dyn8, zr_or, zr_shl, q_cpy_n, y_cpy26, c_X4_says, Int.toNat_natCast, f22, f23, q_half]
      exact hq M2 hf
  · rw [hk] at hq
    rw [if_neg (by decide), if_neg (by decide), if_neg (by decide), if_pos (by decide)] at hq
    simp (disch := omega) only [b_X4_goes_0, x_loadR_0, x_loadS_0, f_4_4, x_loadI_1, y_iald_26, x_iconst, y_ic_ne_t, y_ic_ne_f, b_X4_goes_10, x_ret0, b_X4_goes_12, y_ic_eq_t, y_ic_eq_f, b_X4_goes_22, b_X4_goes_32, x_goto, b_X4_goes_36, b_X4_goes_37, x_storeI_2, x_loadI_2, y_if_eq_t, y_if_eq_f, b_X4_goes_42, f_4_9, y_ic_ge_t, y_ic_ge_f, b_X4_goes_51, b_X4_goes_55, b_X4_goes_62, x_storeI_3, b_X4_goes_73, x_loadI_3, f_4_5, x_iadd, b_X4_goes_82, b_X4_goes_92, b_X4_goes_102, y_idiv, b_X4_goes_108, b_X4_goes_109, q_isL_I, q_isL_R, q_isL_S, true_and, and_true, and_self, List.length_nil, List.length_cons, Nat.zero_add, x_K, x_Kn, Int.reduceToNat, Nat.reduceAdd, Nat.reduceMul, Nat.reduceLeDiff, Nat.reduceLT, Nat.zero_le, Int.reduceAdd, Int.reduceSub, Int.reduceMul, Int.reduceNeg, q_add_e, q_sub_e, q_mul_e, q_neg_e, q_upd_s, q_upd_n, zr_shr0, zr_shr1, zr_shr2, zr_shr3, zr_shr4, zr_and, zr_dyn8, zr_or, zr_shl, q_cpy_n, y_cpy26, c_X4_says, Int.toNat_natCast, hk]
    refine says _ _ _ _ (fun M2 hf => ?_)
    have f22 := (hf (w + 22) p (by omega) (by omega)).trans hk
    have f23 := hf (w + 23) p (by omega) (by omega)
    simp (disch := omega) only [b_X4_goes_0, x_loadR_0, x_loadS_0, f_4_4, x_loadI_1, y_iald_26, x_iconst, y_ic_ne_t, y_ic_ne_f, b_X4_goes_10, x_ret0, b_X4_goes_12, y_ic_eq_t, y_ic_eq_f, b_X4_goes_22, b_X4_goes_32, x_goto, b_X4_goes_36, b_X4_goes_37, x_storeI_2, x_loadI_2, y_if_eq_t, y_if_eq_f, b_X4_goes_42, f_4_9, y_ic_ge_t, y_ic_ge_f, b_X4_goes_51, b_X4_goes_55, b_X4_goes_62, x_storeI_3, b_X4_goes_73, x_loadI_3, f_4_5, x_iadd, b_X4_goes_82, b_X4_goes_92, b_X4_goes_102, y_idiv, b_X4_goes_108, b_X4_goes_109, q_isL_I, q_isL_R, q_isL_S, true_and, and_true, and_self, List.length_nil, List.length_cons, Nat.zero_add, x_K, x_Kn, Int.reduceToNat, Nat.reduceAdd, Nat.reduceMul, Nat.reduceLeDiff, Nat.reduceLT, Nat.zero_le, Int.reduceAdd, Int.reduceSub, Int.reduceMul, Int.reduceNeg, q_add_e, q_sub_e, q_mul_e, q_neg_e, q_upd_s, q_upd_n, zr_shr0, zr_shr1, zr_shr2, zr_shr3, zr_shr4, zr_and, zr_dyn8, zr_or, zr_shl, q_cpy_n, y_cpy26, c_X4_says, Int.toNat_natCast, f22, f23, q_half]
    exact hq M2 hf
  · rw [hk] at hq
    rw [if_neg (by decide), if_neg (by decide), if_pos rfl] at hq
    by_cases c1 : M w 9 < 10
    · rw [if_pos c1] at hq
      simp (disch := omega) only [b_X4_goes_0, x_loadR_0, x_loadS_0, f_4_4, x_loadI_1, y_iald_26, x_iconst, y_ic_ne_t, y_ic_ne_f, b_X4_goes_10, x_ret0, b_X4_goes_12, y_ic_eq_t, y_ic_eq_f, b_X4_goes_22, b_X4_goes_32, x_goto, b_X4_goes_36, b_X4_goes_37, x_storeI_2, x_loadI_2, y_if_eq_t, y_if_eq_f, b_X4_goes_42, f_4_9, y_ic_ge_t, y_ic_ge_f, b_X4_goes_51, b_X4_goes_55, b_X4_goes_62, x_storeI_3, b_X4_goes_73, x_loadI_3, f_4_5, x_iadd, b_X4_goes_82, b_X4_goes_92, b_X4_goes_102, y_idiv, b_X4_goes_108, b_X4_goes_109, q_isL_I, q_isL_R, q_isL_S, true_and, and_true, and_self, List.length_nil, List.length_cons, Nat.zero_add, x_K, x_Kn, Int.reduceToNat, Nat.reduceAdd, Nat.reduceMul, Nat.reduceLeDiff, Nat.reduceLT, Nat.zero_le, Int.reduceAdd, Int.reduceSub, Int.reduceMul, Int.reduceNeg, q_add_e, q_sub_e, q_mul_e, q_neg_e, q_upd_s, q_upd_n, zr_shr0, zr_shr1, zr_shr2, zr_shr3, zr_shr4, zr_and, zr_dyn8, zr_or, zr_shl, q_cpy_n, y_cpy26, c_X4_says, Int.toNat_natCast, hk]
      exact hq M q_fwd_rf
    · rw [if_neg c1] at hq
      simp (disch := omega) only [b_X4_goes_0, x_loadR_0, x_loadS_0, f_4_4, x_loadI_1, y_iald_26, x_iconst, y_ic_ne_t, y_ic_ne_f, b_X4_goes_10, x_ret0, b_X4_goes_12, y_ic_eq_t, y_ic_eq_f, b_X4_goes_22, b_X4_goes_32, x_goto, b_X4_goes_36, b_X4_goes_37, x_storeI_2, x_loadI_2, y_if_eq_t, y_if_eq_f, b_X4_goes_42, f_4_9, y_ic_ge_t, y_ic_ge_f, b_X4_goes_51, b_X4_goes_55, b_X4_goes_62, x_storeI_3, b_X4_goes_73, x_loadI_3, f_4_5, x_iadd, b_X4_goes_82, b_X4_goes_92, b_X4_goes_102, y_idiv, b_X4_goes_108, b_X4_goes_109, q_isL_I, q_isL_R, q_isL_S, true_and, and_true, and_self, List.length_nil, List.length_cons, Nat.zero_add, x_K, x_Kn, Int.reduceToNat, Nat.reduceAdd, Nat.reduceMul, Nat.reduceLeDiff, Nat.reduceLT, Nat.zero_le, Int.reduceAdd, Int.reduceSub, Int.reduceMul, Int.reduceNeg, q_add_e, q_sub_e, q_mul_e, q_neg_e, q_upd_s, q_upd_n, zr_shr0, zr_shr1, zr_shr2, zr_shr3, zr_shr4, zr_and, zr_dyn8, zr_or, zr_shl, q_cpy_n, y_cpy26, c_X4_says, Int.toNat_natCast, hk]
      refine says _ _ _ _ (fun M2 hf => ?_)
      have f22 := (hf (w + 22) p (by omega) (by omega)).trans hk
      have f23 := hf (w + 23) p (by omega) (by omega)
      simp (disch := omega) only [b_X4_goes_0, x_loadR_0, x_loadS_0, f_4_4, x_loadI_1, y_iald_26, x_iconst, y_ic_ne_t, y_ic_ne_f, b_X4_goes_10, x_ret0, b_X4_goes_12, y_ic_eq_t, y_ic_eq_f, b_X4_goes_22, b_X4_goes_32, x_goto, b_X4_goes_36, b_X4_goes_37, x_storeI_2, x_loadI_2, y_if_eq_t, y_if_eq_f, b_X4_goes_42, f_4_9, y_ic_ge_t, y_ic_ge_f, b_X4_goes_51, b_X4_goes_55, b_X4_goes_62, x_storeI_3, b_X4_goes_73, x_loadI_3, f_4_5, x_iadd, b_X4_goes_82, b_X4_goes_92, b_X4_goes_102, y_idiv, b_X4_goes_108, b_X4_goes_109, q_isL_I, q_isL_R, q_isL_S, true_and, and_true, and_self, List.length_nil, List.length_cons, Nat.zero_add, x_K, x_Kn, Int.reduceToNat, Nat.reduceAdd, Nat.reduceMul, Nat.reduceLeDiff, Nat.reduceLT, Nat.zero_le, Int.reduceAdd, Int.reduceSub, Int.reduceMul, Int.reduceNeg, q_add_e, q_sub_e, q_mul_e, q_neg_e, q_upd_s, q_upd_n, zr_shr0, zr_shr1, zr_shr2, zr_shr3, zr_shr4, zr_and, zr_dyn8, zr_or, zr_shl, q_cpy_n, y_cpy26, c_X4_says, Int.toNat_natCast, f22, f23, q_half]
      exact hq M2 hf
  · rw [hk] at hq
    rw [if_neg (by decide), if_neg (by decide), if_neg (by decide), if_pos (by decide)] at hq
    simp (disch := omega) only [b_X4_goes_0, x_loadR_0, x_loadS_0, f_4_4, x_loadI_1, y_iald_26, x_iconst, y_ic_ne_t, y_ic_ne_f, b_X4_goes_10, x_ret0, b_X4_goes_12, y_ic_eq_t, y_ic_eq_f, b_X4_goes_22, b_X4_goes_32, x_goto, b_X4_goes_36, b_X4_goes_37, x_storeI_2, x_loadI_2, y_if_eq_t, y_if_eq_f, b_X4_goes_42, f_4_9, y_ic_ge_t, y_ic_ge_f, b_X4_goes_51, b_X4_goes_55, b_X4_goes_62, x_storeI_3, b_X4_goes_73, x_loadI_3, f_4_5, x_iadd, b_X4_goes_82, b_X4_goes_92, b_X4_goes_102, y_idiv, b_X4_goes_108, b_X4_goes_109, q_isL_I, q_isL_R, q_isL_S, true_and, and_true, and_self, List.length_nil, List.length_cons, Nat.zero_add, x_K, x_Kn, Int.reduceToNat, Nat.reduceAdd, Nat.reduceMul, Nat.reduceLeDiff, Nat.reduceLT, Nat.zero_le, Int.reduceAdd, Int.reduceSub, Int.reduceMul, Int.reduceNeg, q_add_e, q_sub_e, q_mul_e, q_neg_e, q_upd_s, q_upd_n, zr_shr0, zr_shr1, zr_shr2, zr_shr3, zr_shr4, zr_and, zr_dyn8, zr_or, zr_shl, q_cpy_n, y_cpy26, c_X4_says, Int.toNat_natCast, hk]
    refine says _ _ _ _ (fun M2 hf => ?_)
    have f22 := (hf (w + 22) p (by omega) (by omega)).trans hk
    have f23 := hf (w + 23) p (by omega) (by omega)
    simp (disch := omega) only [b_X4_goes_0, x_loadR_0, x_loadS_0, f_4_4, x_loadI_1, y_iald_26, x_iconst, y_ic_ne_t, y_ic_ne_f, b_X4_goes_10, x_ret0, b_X4_goes_12, y_ic_eq_t, y_ic_eq_f, b_X4_goes_22, b_X4_goes_32, x_goto, b_X4_goes_36, b_X4_goes_37, x_storeI_2, x_loadI_2, y_if_eq_t, y_if_eq_f, b_X4_goes_42, f_4_9, y_ic_ge_t, y_ic_ge_f, b_X4_goes_51, b_X4_goes_55, b_X4_goes_62, x_storeI_3, b_X4_goes_73, x_loadI_3, f_4_5, x_iadd, b_X4_goes_82, b_X4_goes_92, b_X4_goes_102, y_idiv, b_X4_goes_108, b_X4_goes_109, q_isL_I, q_isL_R, q_isL_S, true_and, and_true, and_self, List.length_nil, List.length_cons, Nat.zero_add, x_K, x_Kn, Int.reduceToNat, Nat.reduceAdd, Nat.reduceMul, Nat.reduceLeDiff, Nat.reduceLT, Nat.zero_le, Int.reduceAdd, Int.reduceSub, Int.reduceMul, Int.reduceNeg, q_add_e, q_sub_e, q_mul_e, q_neg_e, q_upd_s, q_upd_n, zr_shr0, zr_shr1, zr_shr2, zr_shr3, zr_shr4, zr_and, zr_dyn8, zr_or, zr_shl, q_cpy_n, y_cpy26, c_X4_says, Int.toNat_natCast, f22, f23, q_half]
    exact hq M2 hf
  · rw [hk] at hq
    rw [if_pos rfl] at hq
    simp (disch := omega) only [b_X4_goes_0, x_loadR_0, x_loadS_0, f_4_4, x_loadI_1, y_iald_26, x_iconst, y_ic_ne_t, y_ic_ne_f, b_X4_goes_10, x_ret0, b_X4_goes_12, y_ic_eq_t, y_ic_eq_f, b_X4_goes_22, b_X4_goes_32, x_goto, b_X4_goes_36, b_X4_goes_37, x_storeI_2, x_loadI_2, y_if_eq_t, y_if_eq_f, b_X4_goes_42, f_4_9, y_ic_ge_t, y_ic_ge_f, b_X4_goes_51, b_X4_goes_55, b_X4_goes_62, x_storeI_3, b_X4_goes_73, x_loadI_3, f_4_5, x_iadd, b_X4_goes_82, b_X4_goes_92, b_X4_goes_102, y_idiv, b_X4_goes_108, b_X4_goes_109, q_isL_I, q_isL_R, q_isL_S, true_and, and_true, and_self, List.length_nil, List.length_cons, Nat.zero_add, x_K, x_Kn, Int.reduceToNat, Nat.reduceAdd, Nat.reduceMul, Nat.reduceLeDiff, Nat.reduceLT, Nat.zero_le, Int.reduceAdd, Int.reduceSub, Int.reduceMul, Int.reduceNeg, q_add_e, q_sub_e, q_mul_e, q_neg_e, q_upd_s, q_upd_n, zr_shr0, zr_shr1, zr_shr2, zr_shr3, zr_shr4, zr_and, zr_dyn8, zr_or, zr_shl, q_cpy_n, y_cpy26, c_X4_says, Int.toNat_natCast, hk]
    exact hq M q_fwd_rf
end
section
/-! THE CLASS'S WORLD: a wish, all told -/
/-- what telling changes: the names' cell, the text's stack, the tables' cells of stones and buildings -/
def q_tel (w ta : Nat) (M M2 : q_M) : Prop := ∀ a i, a ≠ w + 26 → a ≠ ta + 2 → (i < 5 → a < w + 5 ∨ (w + 10 ≤ a ∧ a < w + 12) ∨ w + 17 ≤ a) → M2 a i = M a i
theorem q_tel_rf {w ta : Nat} {M : q_M} : q_tel w ta M M := fun _ _ _ _ _ => rfl
theorem q_tel_of {w ta : Nat} {M M2 : q_M} (h : q_fwd w ta M M2) : q_tel w ta M M2 := fun a i h1 h2 _ => h a i h1 h2
theorem q_tel_tr {w ta : Nat} {M M2 M3 : q_M} (h : q_tel w ta M M2) (h2 : q_tel w ta M2 M3) : q_tel w ta M M3 := fun a i h3 h4 h5 => (h2 a i h3 h4 h5).trans (h a i h3 h4 h5)
theorem q_tel_cW {w ta : Nat} {M M2 : q_M} (h : q_tel w ta M M2) (hd : w + 27 < ta ∨ ta + 2 < w) : cW M2 w = cW M w := cW_same (fun a i ha => h a i (by omega) (by omega) (by omega))
theorem q_tel_wl {V : Nat → (Nat → Int) → Int} {w ta : Nat} {M M2 : q_M} (h : q_tel w ta M M2) (hw : q_wl V M w ta) : q_wl V M2 w ta := by
  obtain ⟨h1, h2, h3, h4, h5, h6⟩ := hw
  have e : ∀ a i, ((w ≤ a ∧ a ≤ w + 3) ∨ (w + 19 ≤ a ∧ a ≤ w + 25)) → M2 a i = M a i := fun a i q1 => h a i (by omega) (by omega) (by omega)
  refine ⟨?_, h2, fun M' hM => h3 M' (fun a i ha => (hM a i ha).trans (h a i (by omega) (by omega) (by omega))), (e w 10 (by omega)).trans h4, h5, h6⟩
  unfold q_rgW at h1 ⊢
  simp only [fun i => e w i (by omega), fun i => e (w + 1) i (by omega), fun i => e (w + 2) i (by omega), fun i => e (w + 3) i (by omega), fun i => e (w + 19) i (by omega), fun i => e (w + 20) i (by omega), fun i => e (w + 21) i (by omega), fun i => e (w + 22) i (by omega), fun i => e (w + 23) i (by omega), fun i => e (w + 24) i (by omega), fun i => e (w + 25) i (by omega)]
  exact h1
theorem q_tel_up {w ta a b : Nat} {v : Int} {M M2 : q_M} (h : q_tel w ta M M2) (ha : (w + 5 ≤ a ∧ a < w + 10) ∨ (w + 12 ≤ a ∧ a < w + 17)) (hb : b < 5) : q_tel w ta M (q_upd M2 a b v) := by
  intro x i h1 h2 h3
  rw [q_upd_n (by omega)]
  exact h x i h1 h2 h3
theorem F_best_cong {L L' : Nat → Int} {ok ok' : Nat → Bool} : ∀ n : Nat, (∀ k, k < n → L k = L' k) → (∀ k, k < n → ok k = ok' k) → F_best L ok n = F_best L' ok' n
  | 0, _, _ => rfl
  | n + 1, h1, h2 => by rw [F_best, F_best, F_best_cong n (fun k hk => h1 k (by omega)) (fun k hk => h2 k (by omega)), h1 n (by omega), h2 n (by omega)]
theorem q_sh0 : ∀ k : Nat, k < 5 → decide (q_and (q_shr 0 k) 1 = 0) = true := by decide +kernel
set_option maxHeartbeats 4000000 in
theorem sp_wish {V : Nat → (Nat → Int) → Int} {d : Nat} {g : q_G} {M : q_M} {w ta p : Nat} {Q : Option q_V → q_G → q_M → Prop} (hw : q_wl V M w ta) (hp : p < (M (w + 1) 5).toNat) (hz : M (w + 1 + 3 + (1 + p)) 5 = 0) (hq : ∀ M2 : q_M, q_tel w ta M M2 → Q (some (qI (F_wish V (cW M w) p : Nat))) g M2) : q_S 1 (d + 3) 58 [qR 4 w, qI p] g M Q := by
  have hn := hw.1.1
  have hds := hw.2.2.2.2.2
  rw [s_X4_wish]
  have loop : ∀ k b : Nat, b + k = 5 → ∀ M1 : q_M, q_tel w ta M M1 → (∀ j, j < b → M1 (w + 1 + 3 + (1 + p)) j = F_likes V (cW M w) p j) → q_T 1 (d + 3) qP_X4_wish 2 [] [qR 4 w, qI p, qI b] [] g M1 Q := by
    intro k
    induction k with
    | zero =>
      intro b hb M1 hf hl
      have e : b = 5 := by omega
      subst e
      have hz1 : M1 (w + 1 + 3 + (1 + ((p : Int)).toNat)) 5 = 0 := (hf _ 5 (by omega) (by omega) (by omega)).trans hz
      have hB : (F_best (M1 (w + 1 + 3 + (1 + ((p : Int)).toNat))) (fun k => decide (q_and (q_shr 0 k) 1 = 0)) 5) = F_best (F_likes V (cW M w) p) (fun _ => true) 5 := F_best_cong 5 hl q_sh0
      rw [b_X4_wish_2]
      simp (disch := omega) only [b_X4_wish_0, x_iconst, x_storeI_2, x_loadI_2, y_ic_ge_t, y_ic_ge_f, b_X4_wish_7, x_loadR_0, x_loadS_0, f_4_0, f_0_2, x_loadI_1, y_aald7, y_iast_26, x_iinc_2, x_goto, b_X4_wish_30, x_ret0, q_isL_I, q_isL_R, q_isL_S, true_and, and_true, and_self, List.length_nil, List.length_cons, Nat.zero_add, x_K, x_Kn, Int.reduceToNat, Nat.reduceAdd, Nat.reduceMul, Nat.reduceLeDiff, Nat.reduceLT, Nat.zero_le, Int.reduceAdd, Int.reduceSub, Int.reduceMul, Int.reduceNeg, q_add_e, q_sub_e, q_mul_e, q_neg_e, q_upd_s, q_upd_n, zr_shr0, zr_shr1, zr_shr2, zr_shr3, zr_shr4, zr_and, zr_dyn8, zr_or, zr_shl, q_cpy_n, y_cpy26, c_X0_dearest, sp_dearest, hB]
      exact hq M1 hf
    | succ k ih =>
      intro b hb M1 hf hl
      have hw1 := q_tel_wl hf hw
      have hc1 := q_tel_cW hf hds
      have hp1 : p < (M1 (w + 1) 5).toNat := by rw [hf (w + 1) 5 (by omega) (by omega) (by omega)]; exact hp
      have likes : ∀ (nx : Nat) (ops : List Instr) (ls st : List q_V), (∀ M2 : q_M, q_fwd w ta M1 M2 → q_T 1 (d + 3) qP_X4_wish nx ops ls (qI (F_likes V (cW M w) p b) :: st) g M2 Q) → q_S 1 (d + 2) 54 [qR 4 w, qI p, qI b] g M1 (q_K 1 (d + 3) qP_X4_wish nx ops ls st Q) := fun nx ops ls st h => sp_likes hw1 hp1 (by omega) (by rw [hc1]; exact h)
      rw [b_X4_wish_2]
      simp (disch := omega) only [b_X4_wish_0, x_iconst, x_storeI_2, x_loadI_2, y_ic_ge_t, y_ic_ge_f, b_X4_wish_7, x_loadR_0, x_loadS_0, f_4_0, f_0_2, x_loadI_1, y_aald7, y_iast_26, x_iinc_2, x_goto, b_X4_wish_30, x_ret0, q_isL_I, q_isL_R, q_isL_S, true_and, and_true, and_self, List.length_nil, List.length_cons, Nat.zero_add, x_K, x_Kn, Int.reduceToNat, Nat.reduceAdd, Nat.reduceMul, Nat.reduceLeDiff, Nat.reduceLT, Nat.zero_le, Int.reduceAdd, Int.reduceSub, Int.reduceMul, Int.reduceNeg, q_add_e, q_sub_e, q_mul_e, q_neg_e, q_upd_s, q_upd_n, zr_shr0, zr_shr1, zr_shr2, zr_shr3, zr_shr4, zr_and, zr_dyn8, zr_or, zr_shl, q_cpy_n, y_cpy26, c_X4_likes, Int.toNat_natCast]
      refine likes _ _ _ _ (fun M2 h2 => ?_)
      simp (disch := omega) only [b_X4_wish_0, x_iconst, x_storeI_2, x_loadI_2, y_ic_ge_t, y_ic_ge_f, b_X4_wish_7, x_loadR_0, x_loadS_0, f_4_0, f_0_2, x_loadI_1, y_aald7, y_iast_26, x_iinc_2, x_goto, b_X4_wish_30, x_ret0, q_isL_I, q_isL_R, q_isL_S, true_and, and_true, and_self, List.length_nil, List.length_cons, Nat.zero_add, x_K, x_Kn, Int.reduceToNat, Nat.reduceAdd, Nat.reduceMul, Nat.reduceLeDiff, Nat.reduceLT, Nat.zero_le, Int.reduceAdd, Int.reduceSub, Int.reduceMul, Int.reduceNeg, q_add_e, q_sub_e, q_mul_e, q_neg_e, q_upd_s, q_upd_n, zr_shr0, zr_shr1, zr_shr2, zr_shr3, zr_shr4, zr_and, zr_dyn8, zr_or, zr_shl, q_cpy_n, y_cpy26, c_X4_likes, Int.toNat_natCast]
      refine ih (b + 1) (by omega) _ (q_tel_up (q_tel_tr hf (q_tel_of h2)) (by omega) (by omega)) ?_
      intro j hj
      by_cases ej : j = b
      · subst ej
        rw [q_upd_s]
      · rw [q_upd_n (by omega), h2 _ _ (by omega) (by omega)]
        exact hl j (by omega)
  simp (disch := omega) only [b_X4_wish_0, x_iconst, x_storeI_2, x_loadI_2, y_ic_ge_t, y_ic_ge_f, b_X4_wish_7, x_loadR_0, x_loadS_0, f_4_0, f_0_2, x_loadI_1, y_aald7, y_iast_26, x_iinc_2, x_goto, b_X4_wish_30, x_ret0, q_isL_I, q_isL_R, q_isL_S, true_and, and_true, and_self, List.length_nil, List.length_cons, Nat.zero_add, x_K, x_Kn, Int.reduceToNat, Nat.reduceAdd, Nat.reduceMul, Nat.reduceLeDiff, Nat.reduceLT, Nat.zero_le, Int.reduceAdd, Int.reduceSub, Int.reduceMul, Int.reduceNeg, q_add_e, q_sub_e, q_mul_e, q_neg_e, q_upd_s, q_upd_n, zr_shr0, zr_shr1, zr_shr2, zr_shr3, zr_shr4, zr_and, zr_dyn8, zr_or, zr_shl, q_cpy_n, y_cpy26]
  exact loop 5 0 (by omega) M q_tel_rf (fun j hj => absurd hj (by omega))
end
section
/-! THE CLASS'S WORLD: all told -/
def q_tld (V : Nat → (Nat → Int) → Int) (w : Nat) (S M2 : q_M) (p b : Nat) : Prop := M2 (w + 1 + 3 + (1 + p)) b = F_likes V S p b ∧ M2 (w + 1 + 10 + (1 + p)) b = F_wants V S p b
set_option maxHeartbeats 4000000 in
theorem sp_tellAll {V : Nat → (Nat → Int) → Int} {d : Nat} {g : q_G} {M : q_M} {w ta : Nat} {Q : Option q_V → q_G → q_M → Prop} (hw : q_wl V M w ta) (hq : ∀ M2 : q_M, q_tel w ta M M2 → (∀ p b, p < (M (w + 1) 5).toNat → b < 5 → q_tld V w (cW M w) M2 p b) → Q none g M2) : q_S 1 (d + 3) 57 [qR 4 w] g M Q := by
  have hn := hw.1.1
  have hds := hw.2.2.2.2.2
  rw [s_X4_tellAll]
  have loop : ∀ j p : Nat, p + j = (M (w + 1) 5).toNat → ∀ (l : q_V) (M1 : q_M), q_tel w ta M M1 → (∀ p' b', p' < p → b' < 5 → q_tld V w (cW M w) M1 p' b') → q_isL l = false → q_T 1 (d + 3) qP_X4_tellAll 2 [] [qR 4 w, qI p, l] [] g M1 Q := by
    intro j
    induction j with
    | zero =>
      intro p hpj l M1 hf hl hll
      have e5 : M1 (w + 1) 5 = M (w + 1) 5 := hf (w + 1) 5 (by omega) (by omega) (by omega)
      have hpn : p = (M (w + 1) 5).toNat := by omega
      rw [b_X4_tellAll_2]
      simp (disch := omega) only [b_X4_tellAll_0, x_iconst, x_storeI_1, x_loadI_1, x_loadR_0, x_loadS_0, f_4_0, f_0_5, y_ic_ge_t, y_ic_ge_f, b_X4_tellAll_13, x_storeI_2, x_loadI_2, b_X4_tellAll_20, f_0_2, y_aald7, y_iast_26, f_0_3, x_iinc_2, x_goto, b_X4_tellAll_60, x_iinc_1, b_X4_tellAll_66, x_vret, q_isL_I, q_isL_R, q_isL_S, true_and, and_true, and_self, List.length_nil, List.length_cons, Nat.zero_add, x_K, x_Kn, Int.reduceToNat, Nat.reduceAdd, Nat.reduceMul, Nat.reduceLeDiff, Nat.reduceLT, Nat.zero_le, Int.reduceAdd, Int.reduceSub, Int.reduceMul, Int.reduceNeg, q_add_e, q_sub_e, q_mul_e, q_neg_e, q_upd_s, q_upd_n, zr_shr0, zr_shr1, zr_shr2, zr_shr3, zr_shr4, zr_and, zr_dyn8, zr_or, zr_shl, q_cpy_n, y_cpy26, e5]
      exact hq M1 hf (fun p' b' h1 h2 => hl p' b' (by omega) h2)
    | succ j ih =>
      intro p hpj l M1 hf hl hll
      have e5 : M1 (w + 1) 5 = M (w + 1) 5 := hf (w + 1) 5 (by omega) (by omega) (by omega)
      have inner : ∀ k b : Nat, b + k = 5 → ∀ M1 : q_M, q_tel w ta M M1 → (∀ p' b', p' < p → b' < 5 → q_tld V w (cW M w) M1 p' b') → (∀ b', b' < b → q_tld V w (cW M w) M1 p b') → q_T 1 (d + 3) qP_X4_tellAll 15 [] [qR 4 w, qI p, qI b] [] g M1 Q := by
        intro k
        induction k with
        | zero =>
          intro b hb M1 hf hl hl2
          have e : b = 5 := by omega
          subst e
          rw [b_X4_tellAll_15]
          simp (disch := omega) only [b_X4_tellAll_0, x_iconst, x_storeI_1, x_loadI_1, x_loadR_0, x_loadS_0, f_4_0, f_0_5, y_ic_ge_t, y_ic_ge_f, b_X4_tellAll_13, x_storeI_2, x_loadI_2, b_X4_tellAll_20, f_0_2, y_aald7, y_iast_26, f_0_3, x_iinc_2, x_goto, b_X4_tellAll_60, x_iinc_1, b_X4_tellAll_66, x_vret, q_isL_I, q_isL_R, q_isL_S, true_and, and_true, and_self, List.length_nil, List.length_cons, Nat.zero_add, x_K, x_Kn, Int.reduceToNat, Nat.reduceAdd, Nat.reduceMul, Nat.reduceLeDiff, Nat.reduceLT, Nat.zero_le, Int.reduceAdd, Int.reduceSub, Int.reduceMul, Int.reduceNeg, q_add_e, q_sub_e, q_mul_e, q_neg_e, q_upd_s, q_upd_n, zr_shr0, zr_shr1, zr_shr2, zr_shr3, zr_shr4, zr_and, zr_dyn8, zr_or, zr_shl, q_cpy_n, y_cpy26]
          refine ih (p + 1) (by omega) _ M1 hf ?_ rfl
          intro p' b' h1 h2
          by_cases e : p' = p
          · subst e
            exact hl2 b' h2
          · exact hl p' b' (by omega) h2
        | succ k ih2 =>
          intro b hb M1 hf hl hl2
          have hw1 := q_tel_wl hf hw
          have hc1 := q_tel_cW hf hds
          have hp1 : p < (M1 (w + 1) 5).toNat := by rw [hf (w + 1) 5 (by omega) (by omega) (by omega)]; omega
          have likes : ∀ (nx : Nat) (ops : List Instr) (ls st : List q_V), (∀ M2 : q_M, q_fwd w ta M1 M2 → q_T 1 (d + 3) qP_X4_tellAll nx ops ls (qI (F_likes V (cW M w) p b) :: st) g M2 Q) → q_S 1 (d + 2) 54 [qR 4 w, qI p, qI b] g M1 (q_K 1 (d + 3) qP_X4_tellAll nx ops ls st Q) := fun nx ops ls st h => sp_likes hw1 hp1 (by omega) (by rw [hc1]; exact h)
          rw [b_X4_tellAll_15]
          simp (disch := omega) only [b_X4_tellAll_0, x_iconst, x_storeI_1, x_loadI_1, x_loadR_0, x_loadS_0, f_4_0, f_0_5, y_ic_ge_t, y_ic_ge_f, b_X4_tellAll_13, x_storeI_2, x_loadI_2, b_X4_tellAll_20, f_0_2, y_aald7, y_iast_26, f_0_3, x_iinc_2, x_goto, b_X4_tellAll_60, x_iinc_1, b_X4_tellAll_66, x_vret, q_isL_I, q_isL_R, q_isL_S, true_and, and_true, and_self, List.length_nil, List.length_cons, Nat.zero_add, x_K, x_Kn, Int.reduceToNat, Nat.reduceAdd, Nat.reduceMul, Nat.reduceLeDiff, Nat.reduceLT, Nat.zero_le, Int.reduceAdd, Int.reduceSub, Int.reduceMul, Int.reduceNeg, q_add_e, q_sub_e, q_mul_e, q_neg_e, q_upd_s, q_upd_n, zr_shr0, zr_shr1, zr_shr2, zr_shr3, zr_shr4, zr_and, zr_dyn8, zr_or, zr_shl, q_cpy_n, y_cpy26, c_X4_likes, Int.toNat_natCast]
          refine likes _ _ _ _ (fun M2 h2 => ?_)
          have hf2 : q_tel w ta M (q_upd M2 (w + 1 + 3 + (1 + p)) b (F_likes V (cW M w) p b)) := q_tel_up (q_tel_tr hf (q_tel_of h2)) (by omega) (by omega)
          have hw2 := q_tel_wl hf2 hw
          have hc2 := q_tel_cW hf2 hds
          have hp2 : p < ((q_upd M2 (w + 1 + 3 + (1 + p)) b (F_likes V (cW M w) p b)) (w + 1) 5).toNat := by rw [hf2 (w + 1) 5 (by omega) (by omega) (by omega)]; omega
          have wants : ∀ (nx : Nat) (ops : List Instr) (ls st : List q_V), (∀ M3 : q_M, q_fwd w ta (q_upd M2 (w + 1 + 3 + (1 + p)) b (F_likes V (cW M w) p b)) M3 → q_T 1 (d + 3) qP_X4_tellAll nx ops ls (qI (F_wants V (cW M w) p b) :: st) g M3 Q) → q_S 1 (d + 2) 55 [qR 4 w, qI p, qI b] g (q_upd M2 (w + 1 + 3 + (1 + p)) b (F_likes V (cW M w) p b)) (q_K 1 (d + 3) qP_X4_tellAll nx ops ls st Q) := fun nx ops ls st h => sp_wants hw2 hp2 (by omega) (by rw [hc2]; exact h)
          simp (disch := omega) only [b_X4_tellAll_0, x_iconst, x_storeI_1, x_loadI_1, x_loadR_0, x_loadS_0, f_4_0, f_0_5, y_ic_ge_t, y_ic_ge_f, b_X4_tellAll_13, x_storeI_2, x_loadI_2, b_X4_tellAll_20, f_0_2, y_aald7, y_iast_26, f_0_3, x_iinc_2, x_goto, b_X4_tellAll_60, x_iinc_1, b_X4_tellAll_66, x_vret, q_isL_I, q_isL_R, q_isL_S, true_and, and_true, and_self, List.length_nil, List.length_cons, Nat.zero_add, x_K, x_Kn, Int.reduceToNat, Nat.reduceAdd, Nat.reduceMul, Nat.reduceLeDiff, Nat.reduceLT, Nat.zero_le, Int.reduceAdd, Int.reduceSub, Int.reduceMul, Int.reduceNeg, q_add_e, q_sub_e, q_mul_e, q_neg_e, q_upd_s, q_upd_n, zr_shr0, zr_shr1, zr_shr2, zr_shr3, zr_shr4, zr_and, zr_dyn8, zr_or, zr_shl, q_cpy_n, y_cpy26, c_X4_wants, Int.toNat_natCast]
          refine wants _ _ _ _ (fun M3 h3 => ?_)
          simp (disch := omega) only [b_X4_tellAll_0, x_iconst, x_storeI_1, x_loadI_1, x_loadR_0, x_loadS_0, f_4_0, f_0_5, y_ic_ge_t, y_ic_ge_f, b_X4_tellAll_13, x_storeI_2, x_loadI_2, b_X4_tellAll_20, f_0_2, y_aald7, y_iast_26, f_0_3, x_iinc_2, x_goto, b_X4_tellAll_60, x_iinc_1, b_X4_tellAll_66, x_vret, q_isL_I, q_isL_R, q_isL_S, true_and, and_true, and_self, List.length_nil, List.length_cons, Nat.zero_add, x_K, x_Kn, Int.reduceToNat, Nat.reduceAdd, Nat.reduceMul, Nat.reduceLeDiff, Nat.reduceLT, Nat.zero_le, Int.reduceAdd, Int.reduceSub, Int.reduceMul, Int.reduceNeg, q_add_e, q_sub_e, q_mul_e, q_neg_e, q_upd_s, q_upd_n, zr_shr0, zr_shr1, zr_shr2, zr_shr3, zr_shr4, zr_and, zr_dyn8, zr_or, zr_shl, q_cpy_n, y_cpy26, Int.toNat_natCast]
          have hold : ∀ p' b', (p' ≠ p ∨ b' ≠ b) → p' < 5 → q_tld V w (cW M w) M1 p' b' → q_tld V w (cW M w) (q_upd M3 (w + 1 + 10 + (1 + p)) b (F_wants V (cW M w) p b)) p' b' := by
            intro p' b' hne hp5 h
            refine ⟨?_, ?_⟩
            · rw [q_upd_n (by omega), h3 _ _ (by omega) (by omega), q_upd_n (by omega), h2 _ _ (by omega) (by omega)]
              exact h.1
            · rw [q_upd_n (by omega), h3 _ _ (by omega) (by omega), q_upd_n (by omega), h2 _ _ (by omega) (by omega)]
              exact h.2
          refine ih2 (b + 1) (by omega) _ (q_tel_up (q_tel_tr hf2 (q_tel_of h3)) (by omega) (by omega)) ?_ ?_
          · intro p' b' h1 h4
            exact hold p' b' (Or.inl (by omega)) (by omega) (hl p' b' h1 h4)
          · intro b' hb'
            by_cases ej : b' = b
            · subst ej
              refine ⟨?_, q_upd_s⟩
              rw [q_upd_n (by omega), h3 _ _ (by omega) (by omega), q_upd_s]
            · exact hold p b' (Or.inr ej) (by omega) (hl2 b' (by omega))
      rw [b_X4_tellAll_2]
      have hl3 : l = l := rfl
      simp (disch := omega) only [b_X4_tellAll_0, x_iconst, x_storeI_1, x_loadI_1, x_loadR_0, x_loadS_0, f_4_0, f_0_5, y_ic_ge_t, y_ic_ge_f, b_X4_tellAll_13, x_storeI_2, x_loadI_2, b_X4_tellAll_20, f_0_2, y_aald7, y_iast_26, f_0_3, x_iinc_2, x_goto, b_X4_tellAll_60, x_iinc_1, b_X4_tellAll_66, x_vret, q_isL_I, q_isL_R, q_isL_S, true_and, and_true, and_self, List.length_nil, List.length_cons, Nat.zero_add, x_K, x_Kn, Int.reduceToNat, Nat.reduceAdd, Nat.reduceMul, Nat.reduceLeDiff, Nat.reduceLT, Nat.zero_le, Int.reduceAdd, Int.reduceSub, Int.reduceMul, Int.reduceNeg, q_add_e, q_sub_e, q_mul_e, q_neg_e, q_upd_s, q_upd_n, zr_shr0, zr_shr1, zr_shr2, zr_shr3, zr_shr4, zr_and, zr_dyn8, zr_or, zr_shl, q_cpy_n, y_cpy26, e5, hll]
      exact inner 5 0 (by omega) M1 hf hl (fun b' h => absurd h (by omega))
  simp (disch := omega) only [b_X4_tellAll_0, x_iconst, x_storeI_1, x_loadI_1, x_loadR_0, x_loadS_0, f_4_0, f_0_5, y_ic_ge_t, y_ic_ge_f, b_X4_tellAll_13, x_storeI_2, x_loadI_2, b_X4_tellAll_20, f_0_2, y_aald7, y_iast_26, f_0_3, x_iinc_2, x_goto, b_X4_tellAll_60, x_iinc_1, b_X4_tellAll_66, x_vret, q_isL_I, q_isL_R, q_isL_S, true_and, and_true, and_self, List.length_nil, List.length_cons, Nat.zero_add, x_K, x_Kn, Int.reduceToNat, Nat.reduceAdd, Nat.reduceMul, Nat.reduceLeDiff, Nat.reduceLT, Nat.zero_le, Int.reduceAdd, Int.reduceSub, Int.reduceMul, Int.reduceNeg, q_add_e, q_sub_e, q_mul_e, q_neg_e, q_upd_s, q_upd_n, zr_shr0, zr_shr1, zr_shr2, zr_shr3, zr_shr4, zr_and, zr_dyn8, zr_or, zr_shl, q_cpy_n, y_cpy26]
  exact loop (M (w + 1) 5).toNat 0 (by omega) (qS 0) M q_tel_rf (fun p' b' h => absurd h (by omega)) rfl
end
section
/-! WHO IS TAKEN, by what is read alone; a world with one cell set -/
theorem F_cnt_cong {f f' : Nat → Int} {b : Int} : ∀ n : Nat, (∀ k, k < n → f k = f' k) → F_cnt f b n = F_cnt f' b n
  | 0, _ => rfl
  | n + 1, h => by rw [F_cnt, F_cnt, F_cnt_cong n (fun k hk => h k (by omega)), h n (by omega)]
theorem F_last_in {f w : Nat → Int} {b : Int} : ∀ n : Nat, F_last f w b n = 5 ∨ (F_last f w b n < n ∧ f (F_last f w b n) = b)
  | 0 => Or.inl rfl
  | n + 1 => by
    rw [F_last]
    by_cases h : f n = b ∧ (F_last f w b n = 5 ∨ w n ≤ w (F_last f w b n))
    · rw [if_pos h]
      exact Or.inr ⟨Nat.lt_succ_self n, h.1⟩
    · rw [if_neg h]
      rcases F_last_in (f := f) (w := w) (b := b) n with h1 | h1
      · exact Or.inl h1
      · exact Or.inr ⟨Nat.lt_succ_of_lt h1.1, h1.2⟩
theorem F_last_cong {f f' w w' : Nat → Int} {b : Int} : ∀ n : Nat, (∀ k, k < n → f k = f' k) → (∀ k, k < n → f k = b → w k = w' k) → F_last f w b n = F_last f' w' b n
  | 0, _, _ => rfl
  | n + 1, h1, h2 => by
    have e := F_last_cong n (fun k hk => h1 k (by omega)) (fun k hk => h2 k (by omega))
    rw [F_last, F_last, ← e, ← h1 n (by omega)]
    by_cases c : f n = b
    · rcases F_last_in (f := f) (w := w) (b := b) n with h | h
      · rw [h]
        simp only [c, true_and, true_or, if_true]
      · rw [← h2 n (by omega) c, ← h2 (F_last f w b n) (by omega) h.2]
    · rw [if_neg (fun z => c z.1), if_neg (fun z => c z.1)]
theorem F_takes1_cong {f f' w w' : Nat → Int} {room b : Int} {n p : Nat} (hp : p < n) (h1 : ∀ k, k < n → f k = f' k) (h2 : ∀ k, k < n → (k = p ∨ f k = b) → w k = w' k) : F_takes1 f w room b n p = F_takes1 f' w' room b n p := by
  have e := F_last_cong (b := b) n h1 (fun k hk hb => h2 k hk (Or.inr hb))
  unfold F_takes1
  rw [← F_cnt_cong n h1, ← e, ← h1 p hp, ← h2 p hp (Or.inl rfl)]
  rcases F_last_in (f := f) (w := w) (b := b) n with h | h
  · simp only [h, if_true]
  · rw [← h2 _ h.1 (Or.inr h.2)]
theorem F_cast_cong {f f' w w' : Nat → Int} {room b : Int} {n : Nat} (h1 : ∀ k, k < n → f k = f' k) (h2 : ∀ k, k < n → f k = b → w k = w' k) : F_cast f w room b n = F_cast f' w' room b n := by
  unfold F_cast
  rw [F_cnt_cong n h1, F_last_cong n h1 h2]
theorem cW_up2 {M : q_M} {w p : Nat} {v : Int} (hp : p < (M (w + 1) 5).toNat) : cW (q_upd M (w + 24) p v) w = q_upd (cW M w) 2 p v := by
  funext f i
  by_cases hf : f = 2 ∧ i = p
  · obtain ⟨rfl, rfl⟩ := hf
    rw [q_upd_s, cW_2 (by rw [q_upd_n (by omega)]; exact hp), q_upd_s]
  · rw [q_upd_n (by omega)]
    unfold cW
    split <;> simp (disch := omega) only [q_upd_n]
theorem cW_up4 {M : q_M} {w p : Nat} {v : Int} (hp : p < (M (w + 1) 5).toNat) : cW (q_upd M (w + 3) p v) w = q_upd (cW M w) 4 p v := by
  funext f i
  by_cases hf : f = 4 ∧ i = p
  · obtain ⟨rfl, rfl⟩ := hf
    rw [q_upd_s, cW_4 (by rw [q_upd_n (by omega)]; exact hp), q_upd_s]
  · rw [q_upd_n (by omega)]
    unfold cW
    split <;> simp (disch := omega) only [q_upd_n]
theorem cW_up8 {M : q_M} {w b : Nat} {v : Int} (hb : b < 5) : cW (q_upd M (w + 21) b v) w = q_upd (cW M w) 8 b v := by
  funext f i
  by_cases hf : f = 8 ∧ i = b
  · obtain ⟨rfl, rfl⟩ := hf
    rw [q_upd_s, cW_8 hb, q_upd_s]
  · rw [q_upd_n (by omega)]
    unfold cW
    split <;> simp (disch := omega) only [q_upd_n]
theorem cW_up9 {M : q_M} {w : Nat} {v : Int} : cW (q_upd M w 9 v) w = q_upd (cW M w) 9 1 v := by
  funext f i
  by_cases hf : f = 9 ∧ i = 1
  · obtain ⟨rfl, rfl⟩ := hf
    rw [q_upd_s, cW_91, q_upd_s]
  · rw [q_upd_n (by omega)]
    unfold cW
    split <;> simp (disch := omega) only [q_upd_n]
/-- one goes towards its wish -/
def F_mv (V : Nat → (Nat → Int) → Int) (S : q_M) (p b : Nat) : Int :=
  if S 5 b - S 2 p < -F_goes V S p then S 2 p - F_goes V S p
  else if F_goes V S p < S 5 b - S 2 p then S 2 p + F_goes V S p
  else S 5 b
def F_S1 (V : Nat → (Nat → Int) → Int) (S : q_M) (p b : Nat) : q_M := q_upd S 2 p (F_mv V S p b)
def F_out (V : Nat → (Nat → Int) → Int) (S : q_M) (b : Nat) : Nat := F_cast (S 4) (fun q => F_wants V S q b) (S 6 b) b (F_n S)
def F_S2 (V : Nat → (Nat → Int) → Int) (S : q_M) (p b : Nat) : q_M :=
  q_upd (if F_out V S b = 5 then q_upd S 4 p b else q_upd (q_upd (q_upd S 4 (F_out V S b) 5) 4 p b) 2 (F_out V S b) (S 5 b)) 8 b (if S 8 b + 1 < 99 then S 8 b + 1 else 99)
def F_tak (V : Nat → (Nat → Int) → Int) (S : q_M) (p b : Nat) : Bool := F_takes1 (S 4) (fun q => F_wants V S q b) (S 6 b) b (F_n S) p
def F_goto (V : Nat → (Nat → Int) → Int) (S : q_M) (p b : Nat) : Bool × q_M :=
  if F_mv V S p b = S 5 b then (if F_tak V (F_S1 V S p b) p b = true then (true, F_S2 V (F_S1 V S p b) p b) else (false, F_S1 V S p b)) else (false, F_S1 V S p b)
/-- what goings change: the tables' cells, who is in what, what is built, where they lie -/
def q_yr (w ta : Nat) (M M2 : q_M) : Prop := ∀ a i, a ≠ w + 26 → a ≠ ta + 2 → (i < 5 → a ≠ w + 3 ∧ a ≠ w + 21 ∧ a ≠ w + 24 ∧ (a < w + 5 ∨ (w + 10 ≤ a ∧ a < w + 12) ∨ w + 17 ≤ a)) → M2 a i = M a i
theorem q_yr_rf {w ta : Nat} {M : q_M} : q_yr w ta M M := fun _ _ _ _ _ => rfl
theorem q_yr_tr {w ta : Nat} {M M2 M3 : q_M} (h : q_yr w ta M M2) (h2 : q_yr w ta M2 M3) : q_yr w ta M M3 := fun a i h3 h4 h5 => (h2 a i h3 h4 h5).trans (h a i h3 h4 h5)
theorem q_yr_of {w ta : Nat} {M M2 : q_M} (h : q_tel w ta M M2) : q_yr w ta M M2 := fun a i h1 h2 h3 => h a i h1 h2 (fun h4 => (h3 h4).2.2.2)
theorem q_yr_up {w ta a b : Nat} {v : Int} {M M2 : q_M} (h : q_yr w ta M M2) (ha : a = w + 3 ∨ a = w + 21 ∨ a = w + 24) (hb : b < 5) : q_yr w ta M (q_upd M2 a b v) := by
  intro x i h1 h2 h3
  rw [q_upd_n (by omega)]
  exact h x i h1 h2 h3
end
section
/-! THE CLASS'S WORLD: one goes -/
theorem q_upd_b {M : q_M} {a i x : Nat} {v lo hi : Int} (h : ∀ j, lo ≤ M x j ∧ M x j ≤ hi) (hv : x = a → lo ≤ v ∧ v ≤ hi) : ∀ j, lo ≤ q_upd M a i v x j ∧ q_upd M a i v x j ≤ hi := by
  intro j
  by_cases e : x = a ∧ j = i
  · obtain ⟨rfl, rfl⟩ := e
    rw [q_upd_s]
    exact hv rfl
  · rw [q_upd_n (by omega)]
    exact h j
theorem q_wl_up {V : Nat → (Nat → Int) → Int} {w ta a i : Nat} {v : Int} {M : q_M} (hw : q_wl V M w ta) (h : (a = w + 24 ∧ 0 ≤ v ∧ v ≤ 99) ∨ (a = w + 3 ∧ 0 ≤ v ∧ v ≤ 5) ∨ (a = w + 21 ∧ i < 5 ∧ 0 ≤ v ∧ v ≤ 99) ∨ (a = w ∧ i = 9 ∧ 0 ≤ v ∧ v ≤ 2000)) : q_wl V (q_upd M a i v) w ta := by
  obtain ⟨⟨r0, r1, r2, r3, r4, r5, r6, r7, r8, r9, ra, rb, rc⟩, h2, h3, h4, h5, h6⟩ := hw
  refine ⟨⟨?_, ?_, q_upd_b r2 (by omega), q_upd_b r3 (by omega), q_upd_b r4 (by omega), q_upd_b r5 (by omega), q_upd_b r6 (by omega), q_upd_b r7 (by omega), q_upd_b r8 (by omega), q_upd_b r9 (by omega), q_upd_b ra (by omega), ?_, ?_⟩, h2, fun M' hM => h3 M' (fun x j hx => (hM x j hx).trans (q_upd_n (by omega))), (q_upd_n (by omega)).trans h4, h5, h6⟩
  · rw [q_upd_n (by omega)]
    exact r0
  · by_cases e : w = a ∧ 9 = i
    · obtain ⟨rfl, rfl⟩ := e
      rw [q_upd_s]
      omega
    · rw [q_upd_n (by omega)]
      exact r1
  · rw [q_upd_n (by omega)]
    exact rb
  · rw [q_upd_n (by omega)]
    exact rc
set_option maxHeartbeats 4000000 in
theorem sp_goToL {V : Nat → (Nat → Int) → Int} {d : Nat} {g : q_G} {M : q_M} {w ta p b : Nat} {st wy : Int} {Q : Option q_V → q_G → q_M → Prop} (hw : q_wl V M w ta) (hb : b < 5) (hq : ∀ M2 : q_M, q_tel w ta M M2 → (∀ k, k < (M (w + 1) 5).toNat → (k = p ∨ M (w + 3) k = b) → M2 (w + 1 + 10 + (1 + k)) b = F_wants V (cW M w) k b) → q_T 1 (d + 3) qP_X4_goTo 118 [] [qR 4 w, qI p, qI b, qI st, qI wy, qI (M (w + 1) 5)] [] g M2 Q) : q_T 1 (d + 3) qP_X4_goTo 58 [] [qR 4 w, qI p, qI b, qI st, qI wy, qS 0] [] g M Q := by
  have hn := hw.1.1
  have hds := hw.2.2.2.2.2
  have loop : ∀ j k : Nat, k + j = (M (w + 1) 5).toNat → ∀ (M1 : q_M), q_tel w ta M M1 → (∀ k', k' < k → (k' = p ∨ M (w + 3) k' = b) → M1 (w + 1 + 10 + (1 + k')) b = F_wants V (cW M w) k' b) → q_T 1 (d + 3) qP_X4_goTo 61 [] [qR 4 w, qI p, qI b, qI st, qI wy, qI k] [] g M1 Q := by
    intro j
    induction j with
    | zero =>
      intro k hk M1 hf hl
      have e5 : M1 (w + 1) 5 = M (w + 1) 5 := hf (w + 1) 5 (by omega) (by omega) (by omega)
      have hkn : (k : Int) = M (w + 1) 5 := by omega
      rw [b_X4_goTo_61]
      simp (disch := omega) only [b_X4_goTo_0, x_loadR_0, x_loadS_0, x_loadI_1, x_storeI_3, f_4_1, x_loadI_2, y_iald_26, f_4_6, x_isub, x_storeI_4, x_dup2, x_loadI_3, x_ineg, x_loadI_4, x_iadd, y_iast_26, y_ic_eq_t, y_ic_eq_f, b_X4_goTo_56, x_iconst, x_ret1_0, x_ret1_1, b_X4_goTo_58, x_storeI_5, x_loadI_5, f_4_0, f_0_5, y_ic_ge_t, y_ic_ge_f, b_X4_goTo_73, b_X4_goTo_79, f_0_1, y_ic_ne_t, y_ic_ne_f, b_X4_goTo_93, f_0_3, y_aald7, b_X4_goTo_112, x_iinc_5, x_goto, y_if_ne_t, y_if_ne_f, b_X4_goTo_130, b_X4_goTo_132, b_X4_goTo_149, b_X4_goTo_162, f_4_3, q_isL_I, q_isL_R, q_isL_S, true_and, and_true, and_self, List.length_nil, List.length_cons, Nat.zero_add, x_K, x_Kn, Int.reduceToNat, Nat.reduceAdd, Nat.reduceMul, Nat.reduceLeDiff, Nat.reduceLT, Nat.zero_le, Int.reduceAdd, Int.reduceSub, Int.reduceMul, Int.reduceNeg, q_add_e, q_sub_e, q_mul_e, q_neg_e, q_upd_s, q_upd_n, zr_shr0, zr_shr1, zr_shr2, zr_shr3, zr_shr4, zr_and, zr_dyn8, zr_or, zr_shl, q_cpy_n, y_cpy26, e5]
      rw [hkn]
      exact hq M1 hf (fun k' h1 h2 => hl k' (by omega) h2)
    | succ j ih =>
      intro k hk M1 hf hl
      have e5 : M1 (w + 1) 5 = M (w + 1) 5 := hf (w + 1) 5 (by omega) (by omega) (by omega)
      have e3 : M1 (w + 3) k = M (w + 3) k := hf (w + 3) k (by omega) (by omega) (by omega)
      have hw1 := q_tel_wl hf hw
      have hc1 := q_tel_cW hf hds
      have hp1 : k < (M1 (w + 1) 5).toNat := by omega
      have wants : ∀ (nx : Nat) (ops : List Instr) (ls st : List q_V), (∀ M2 : q_M, q_fwd w ta M1 M2 → q_T 1 (d + 3) qP_X4_goTo nx ops ls (qI (F_wants V (cW M w) k b) :: st) g M2 Q) → q_S 1 (d + 2) 55 [qR 4 w, qI k, qI b] g M1 (q_K 1 (d + 3) qP_X4_goTo nx ops ls st Q) := fun nx ops ls st h => sp_wants hw1 hp1 (by omega) (by rw [hc1]; exact h)
      have go : ∀ M2 : q_M, q_fwd w ta M1 M2 → q_T 1 (d + 3) qP_X4_goTo 61 [] [qR 4 w, qI p, qI b, qI st, qI wy, qI (k + 1 : Nat)] [] g (q_upd M2 (w + 1 + 10 + (1 + k)) b (F_wants V (cW M w) k b)) Q := by
        intro M2 h2
        refine ih (k + 1) (by omega) _ (q_tel_up (q_tel_tr hf (q_tel_of h2)) (by omega) (by omega)) ?_
        intro k' h3 h4
        by_cases ek : k' = k
        · subst ek
          exact q_upd_s
        · rw [q_upd_n (by omega), h2 _ _ (by omega) (by omega)]
          exact hl k' (by omega) h4
      rw [b_X4_goTo_61]
      by_cases c1 : k = p
      · have c2 : (k : Int) = p := by omega
        simp (disch := omega) only [b_X4_goTo_0, x_loadR_0, x_loadS_0, x_loadI_1, x_storeI_3, f_4_1, x_loadI_2, y_iald_26, f_4_6, x_isub, x_storeI_4, x_dup2, x_loadI_3, x_ineg, x_loadI_4, x_iadd, y_iast_26, y_ic_eq_t, y_ic_eq_f, b_X4_goTo_56, x_iconst, x_ret1_0, x_ret1_1, b_X4_goTo_58, x_storeI_5, x_loadI_5, f_4_0, f_0_5, y_ic_ge_t, y_ic_ge_f, b_X4_goTo_73, b_X4_goTo_79, f_0_1, y_ic_ne_t, y_ic_ne_f, b_X4_goTo_93, f_0_3, y_aald7, b_X4_goTo_112, x_iinc_5, x_goto, y_if_ne_t, y_if_ne_f, b_X4_goTo_130, b_X4_goTo_132, b_X4_goTo_149, b_X4_goTo_162, f_4_3, q_isL_I, q_isL_R, q_isL_S, true_and, and_true, and_self, List.length_nil, List.length_cons, Nat.zero_add, x_K, x_Kn, Int.reduceToNat, Nat.reduceAdd, Nat.reduceMul, Nat.reduceLeDiff, Nat.reduceLT, Nat.zero_le, Int.reduceAdd, Int.reduceSub, Int.reduceMul, Int.reduceNeg, q_add_e, q_sub_e, q_mul_e, q_neg_e, q_upd_s, q_upd_n, zr_shr0, zr_shr1, zr_shr2, zr_shr3, zr_shr4, zr_and, zr_dyn8, zr_or, zr_shl, q_cpy_n, y_cpy26, e5, c_X4_wants, Int.toNat_natCast]
        refine wants _ _ _ _ (fun M2 h2 => ?_)
        simp (disch := omega) only [b_X4_goTo_0, x_loadR_0, x_loadS_0, x_loadI_1, x_storeI_3, f_4_1, x_loadI_2, y_iald_26, f_4_6, x_isub, x_storeI_4, x_dup2, x_loadI_3, x_ineg, x_loadI_4, x_iadd, y_iast_26, y_ic_eq_t, y_ic_eq_f, b_X4_goTo_56, x_iconst, x_ret1_0, x_ret1_1, b_X4_goTo_58, x_storeI_5, x_loadI_5, f_4_0, f_0_5, y_ic_ge_t, y_ic_ge_f, b_X4_goTo_73, b_X4_goTo_79, f_0_1, y_ic_ne_t, y_ic_ne_f, b_X4_goTo_93, f_0_3, y_aald7, b_X4_goTo_112, x_iinc_5, x_goto, y_if_ne_t, y_if_ne_f, b_X4_goTo_130, b_X4_goTo_132, b_X4_goTo_149, b_X4_goTo_162, f_4_3, q_isL_I, q_isL_R, q_isL_S, true_and, and_true, and_self, List.length_nil, List.length_cons, Nat.zero_add, x_K, x_Kn, Int.reduceToNat, Nat.reduceAdd, Nat.reduceMul, Nat.reduceLeDiff, Nat.reduceLT, Nat.zero_le, Int.reduceAdd, Int.reduceSub, Int.reduceMul, Int.reduceNeg, q_add_e, q_sub_e, q_mul_e, q_neg_e, q_upd_s, q_upd_n, zr_shr0, zr_shr1, zr_shr2, zr_shr3, zr_shr4, zr_and, zr_dyn8, zr_or, zr_shl, q_cpy_n, y_cpy26, c_X4_wants, Int.toNat_natCast]
        exact go M2 h2
      · by_cases c3 : M (w + 3) k = b
        · simp (disch := omega) only [b_X4_goTo_0, x_loadR_0, x_loadS_0, x_loadI_1, x_storeI_3, f_4_1, x_loadI_2, y_iald_26, f_4_6, x_isub, x_storeI_4, x_dup2, x_loadI_3, x_ineg, x_loadI_4, x_iadd, y_iast_26, y_ic_eq_t, y_ic_eq_f, b_X4_goTo_56, x_iconst, x_ret1_0, x_ret1_1, b_X4_goTo_58, x_storeI_5, x_loadI_5, f_4_0, f_0_5, y_ic_ge_t, y_ic_ge_f, b_X4_goTo_73, b_X4_goTo_79, f_0_1, y_ic_ne_t, y_ic_ne_f, b_X4_goTo_93, f_0_3, y_aald7, b_X4_goTo_112, x_iinc_5, x_goto, y_if_ne_t, y_if_ne_f, b_X4_goTo_130, b_X4_goTo_132, b_X4_goTo_149, b_X4_goTo_162, f_4_3, q_isL_I, q_isL_R, q_isL_S, true_and, and_true, and_self, List.length_nil, List.length_cons, Nat.zero_add, x_K, x_Kn, Int.reduceToNat, Nat.reduceAdd, Nat.reduceMul, Nat.reduceLeDiff, Nat.reduceLT, Nat.zero_le, Int.reduceAdd, Int.reduceSub, Int.reduceMul, Int.reduceNeg, q_add_e, q_sub_e, q_mul_e, q_neg_e, q_upd_s, q_upd_n, zr_shr0, zr_shr1, zr_shr2, zr_shr3, zr_shr4, zr_and, zr_dyn8, zr_or, zr_shl, q_cpy_n, y_cpy26, e5, e3, c_X4_wants, Int.toNat_natCast]
          refine wants _ _ _ _ (fun M2 h2 => ?_)
          simp (disch := omega) only [b_X4_goTo_0, x_loadR_0, x_loadS_0, x_loadI_1, x_storeI_3, f_4_1, x_loadI_2, y_iald_26, f_4_6, x_isub, x_storeI_4, x_dup2, x_loadI_3, x_ineg, x_loadI_4, x_iadd, y_iast_26, y_ic_eq_t, y_ic_eq_f, b_X4_goTo_56, x_iconst, x_ret1_0, x_ret1_1, b_X4_goTo_58, x_storeI_5, x_loadI_5, f_4_0, f_0_5, y_ic_ge_t, y_ic_ge_f, b_X4_goTo_73, b_X4_goTo_79, f_0_1, y_ic_ne_t, y_ic_ne_f, b_X4_goTo_93, f_0_3, y_aald7, b_X4_goTo_112, x_iinc_5, x_goto, y_if_ne_t, y_if_ne_f, b_X4_goTo_130, b_X4_goTo_132, b_X4_goTo_149, b_X4_goTo_162, f_4_3, q_isL_I, q_isL_R, q_isL_S, true_and, and_true, and_self, List.length_nil, List.length_cons, Nat.zero_add, x_K, x_Kn, Int.reduceToNat, Nat.reduceAdd, Nat.reduceMul, Nat.reduceLeDiff, Nat.reduceLT, Nat.zero_le, Int.reduceAdd, Int.reduceSub, Int.reduceMul, Int.reduceNeg, q_add_e, q_sub_e, q_mul_e, q_neg_e, q_upd_s, q_upd_n, zr_shr0, zr_shr1, zr_shr2, zr_shr3, zr_shr4, zr_and, zr_dyn8, zr_or, zr_shl, q_cpy_n, y_cpy26, c_X4_wants, Int.toNat_natCast]
          exact go M2 h2
        · simp (disch := omega) only [b_X4_goTo_0, x_loadR_0, x_loadS_0, x_loadI_1, x_storeI_3, f_4_1, x_loadI_2, y_iald_26, f_4_6, x_isub, x_storeI_4, x_dup2, x_loadI_3, x_ineg, x_loadI_4, x_iadd, y_iast_26, y_ic_eq_t, y_ic_eq_f, b_X4_goTo_56, x_iconst, x_ret1_0, x_ret1_1, b_X4_goTo_58, x_storeI_5, x_loadI_5, f_4_0, f_0_5, y_ic_ge_t, y_ic_ge_f, b_X4_goTo_73, b_X4_goTo_79, f_0_1, y_ic_ne_t, y_ic_ne_f, b_X4_goTo_93, f_0_3, y_aald7, b_X4_goTo_112, x_iinc_5, x_goto, y_if_ne_t, y_if_ne_f, b_X4_goTo_130, b_X4_goTo_132, b_X4_goTo_149, b_X4_goTo_162, f_4_3, q_isL_I, q_isL_R, q_isL_S, true_and, and_true, and_self, List.length_nil, List.length_cons, Nat.zero_add, x_K, x_Kn, Int.reduceToNat, Nat.reduceAdd, Nat.reduceMul, Nat.reduceLeDiff, Nat.reduceLT, Nat.zero_le, Int.reduceAdd, Int.reduceSub, Int.reduceMul, Int.reduceNeg, q_add_e, q_sub_e, q_mul_e, q_neg_e, q_upd_s, q_upd_n, zr_shr0, zr_shr1, zr_shr2, zr_shr3, zr_shr4, zr_and, zr_dyn8, zr_or, zr_shl, q_cpy_n, y_cpy26, e5, e3, c_X4_wants, Int.toNat_natCast]
          refine ih (k + 1) (by omega) _ hf ?_
          intro k' h3 h4
          by_cases ek : k' = k
          · subst ek
            exact absurd h4 (by rintro (z | z); exact c1 z; exact c3 z)
          · exact hl k' (by omega) h4
  simp (disch := omega) only [b_X4_goTo_0, x_loadR_0, x_loadS_0, x_loadI_1, x_storeI_3, f_4_1, x_loadI_2, y_iald_26, f_4_6, x_isub, x_storeI_4, x_dup2, x_loadI_3, x_ineg, x_loadI_4, x_iadd, y_iast_26, y_ic_eq_t, y_ic_eq_f, b_X4_goTo_56, x_iconst, x_ret1_0, x_ret1_1, b_X4_goTo_58, x_storeI_5, x_loadI_5, f_4_0, f_0_5, y_ic_ge_t, y_ic_ge_f, b_X4_goTo_73, b_X4_goTo_79, f_0_1, y_ic_ne_t, y_ic_ne_f, b_X4_goTo_93, f_0_3, y_aald7, b_X4_goTo_112, x_iinc_5, x_goto, y_if_ne_t, y_if_ne_f, b_X4_goTo_130, b_X4_goTo_132, b_X4_goTo_149, b_X4_goTo_162, f_4_3, q_isL_I, q_isL_R, q_isL_S, true_and, and_true, and_self, List.length_nil, List.length_cons, Nat.zero_add, x_K, x_Kn, Int.reduceToNat, Nat.reduceAdd, Nat.reduceMul, Nat.reduceLeDiff, Nat.reduceLT, Nat.zero_le, Int.reduceAdd, Int.reduceSub, Int.reduceMul, Int.reduceNeg, q_add_e, q_sub_e, q_mul_e, q_neg_e, q_upd_s, q_upd_n, zr_shr0, zr_shr1, zr_shr2, zr_shr3, zr_shr4, zr_and, zr_dyn8, zr_or, zr_shl, q_cpy_n, y_cpy26]
  exact loop (M (w + 1) 5).toNat 0 (by omega) M q_tel_rf (fun k' h => absurd h (by omega))
end
