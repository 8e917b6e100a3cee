/-! THE MODEL: asking in turn; it ends -/
def G_ask (W : Nat → Nat → Int) (R : Nat → Int) (n p b : Nat) (x : (Nat → Int) × (Nat → Int)) : (Nat → Int) × (Nat → Int) :=
  if F_takes x.1 (fun q => W q b) (R b) b n p = true then
    (if F_askO W R n b x.1 = 5 then (F_u x.1 p b, x.2) else (F_u (F_u x.1 (F_askO W R n b x.1) 5) p b, F_u x.2 (F_askO W R n b x.1) (q_or (x.2 (F_askO W R n b x.1)) (q_shl 1 b))))
  else (x.1, F_u x.2 p (q_or (x.2 p) (q_shl 1 b)))
def G_rd (L W : Nat → Nat → Int) (R : Nat → Int) (n : Nat) (x : (Nat → Int) × (Nat → Int)) : Nat → Bool × ((Nat → Int) × (Nat → Int))
  | 0 => (false, x)
  | p + 1 =>
    if (G_rd L W R n x p).2.1 p = 5 ∧ F_dst L (G_rd L W R n x p).2 p ≠ 5 then (true, G_ask W R n p (F_dst L (G_rd L W R n x p).2 p) (G_rd L W R n x p).2)
    else G_rd L W R n x p
def G_trn (L W : Nat → Nat → Int) (R : Nat → Int) (n : Nat) : Nat → (Nat → Int) × (Nat → Int) → (Nat → Int) × (Nat → Int)
  | 0, x => x
  | k + 1, x => if (G_rd L W R n x n).1 = true then G_trn L W R n k (G_rd L W R n x n).2 else (G_rd L W R n x n).2
theorem q_bit : ∀ v : Nat, v < 32 → ∀ b : Nat, b < 5 → q_and (q_shr v b) 1 = 0 → F_ones (q_or v (q_shl 1 b)) = F_ones v + 1 ∧ 0 ≤ q_or v (q_shl 1 b) ∧ q_or v (q_shl 1 b) ≤ 31 := by decide +kernel
theorem q_bitc : ∀ v : Nat, v < 32 → ∀ b : Nat, b < 5 → ∀ c : Nat, c < 5 → c ≠ b → q_and (q_shr (q_or v (q_shl 1 b)) c) 1 = q_and (q_shr v c) 1 := by decide +kernel
theorem q_ones5 : ∀ v : Nat, v < 32 → 0 ≤ F_ones v ∧ F_ones v ≤ 5 := by decide +kernel
/-- how much may still be asked -/
def F_ph (f s : Nat → Int) : Nat → Int
  | 0 => 0
  | k + 1 => F_ph f s k + 6 * (5 - F_ones (s k)) + (if f k = 5 then 1 else 0)
theorem F_ph_cong {f f' s s' : Nat → Int} : ∀ n : Nat, (∀ k, k < n → f k = f' k) → (∀ k, k < n → s k = s' k) → F_ph f s n = F_ph f' s' n
  | 0, _, _ => rfl
  | n + 1, h1, h2 => by rw [F_ph, F_ph, F_ph_cong n (fun k hk => h1 k (by omega)) (fun k hk => h2 k (by omega)), h1 n (by omega), h2 n (by omega)]
theorem F_u_s {f : Nat → Int} {p : Nat} {v : Int} : F_u f p v p = v := if_pos rfl
theorem F_u_n {f : Nat → Int} {p i : Nat} {v : Int} (h : i ≠ p) : F_u f p v i = f i := if_neg h
theorem F_ph_f {f s : Nat → Int} {p : Nat} {v : Int} : ∀ n : Nat, p < n → F_ph (F_u f p v) s n = F_ph f s n - (if f p = 5 then 1 else 0) + (if v = 5 then 1 else 0)
  | 0, h => absurd h (Nat.not_lt_zero p)
  | n + 1, h => by
    rw [F_ph, F_ph]
    by_cases e : p = n
    · subst e
      rw [F_ph_cong p (f := F_u f p v) (f' := f) (s := s) (s' := s) (fun k hk => F_u_n (by omega)) (fun k hk => rfl), F_u_s]
      omega
    · rw [F_ph_f n (by omega), F_u_n (f := f) (v := v) (show n ≠ p by omega)]
      omega
theorem F_ph_s {f s : Nat → Int} {p : Nat} {v : Int} : ∀ n : Nat, p < n → F_ph f (F_u s p v) n = F_ph f s n + 6 * (F_ones (s p) - F_ones v)
  | 0, h => absurd h (Nat.not_lt_zero p)
  | n + 1, h => by
    rw [F_ph, F_ph]
    by_cases e : p = n
    · subst e
      rw [F_ph_cong p (f := f) (f' := f) (s := F_u s p v) (s' := s) (fun k hk => rfl) (fun k hk => F_u_n (by omega)), F_u_s]
      omega
    · rw [F_ph_s n (by omega), F_u_n (f := s) (v := v) (show n ≠ p by omega)]
      omega
/-- what holds while all ask -/
def q_iv (n : Nat) (x : (Nat → Int) × (Nat → Int)) : Prop := ∀ p, p < n → (0 ≤ x.1 p ∧ x.1 p ≤ 5) ∧ (0 ≤ x.2 p ∧ x.2 p ≤ 31) ∧ ∀ b : Nat, b < 5 → x.1 p = b → q_and (q_shr (x.2 p) b) 1 = 0
theorem F_ph_le {n : Nat} {x : (Nat → Int) × (Nat → Int)} (h : q_iv n x) : ∀ k : Nat, k ≤ n → 0 ≤ F_ph x.1 x.2 k ∧ F_ph x.1 x.2 k ≤ 31 * k
  | 0, _ => by rw [F_ph]; omega
  | k + 1, hk => by
    have h1 := F_ph_le h k (by omega)
    have h2 := (h k (by omega)).2.1
    have h3 := q_ones5 (x.2 k).toNat (by omega)
    rw [show (((x.2 k).toNat : Nat) : Int) = x.2 k by omega] at h3
    rw [F_ph]
    split <;> omega
theorem F_best_ok {L : Nat → Int} {ok : Nat → Bool} : ∀ k : Nat, (F_best L ok k).1 = 5 ∨ ok (F_best L ok k).1 = true
  | 0 => Or.inl rfl
  | k + 1 => by
    rw [F_best]
    by_cases c : ok k = true ∧ (F_best L ok k).2 < L k
    · rw [if_pos c]
      exact Or.inr c.1
    · rw [if_neg c]
      exact F_best_ok k
theorem q_bitI {v : Int} (h0 : 0 ≤ v) (h1 : v ≤ 31) {b : Nat} (hb : b < 5) (h : q_and (q_shr v b) 1 = 0) : F_ones (q_or v (q_shl 1 b)) = F_ones v + 1 ∧ (0 ≤ q_or v (q_shl 1 b) ∧ q_or v (q_shl 1 b) ≤ 31) ∧ ∀ c : Nat, c < 5 → c ≠ b → q_and (q_shr (q_or v (q_shl 1 b)) c) 1 = q_and (q_shr v c) 1 := by
  obtain ⟨V, rfl⟩ : ∃ V : Nat, v = V := ⟨v.toNat, by omega⟩
  have h2 := q_bit V (by omega) b hb h
  exact ⟨h2.1, h2.2, fun c hc hn => q_bitc V (by omega) b hb c hc hn⟩
theorem G_ask_iv {W : Nat → Nat → Int} {R : Nat → Int} {n p b : Nat} {x : (Nat → Int) × (Nat → Int)} (h : q_iv n x) (hp : p < n) (hn : n ≤ 5) (hb : b < 5) (h5 : x.1 p = 5) (hbit : q_and (q_shr (x.2 p) b) 1 = 0) : q_iv n (G_ask W R n p b x) ∧ F_ph (G_ask W R n p b x).1 (G_ask W R n p b x).2 n < F_ph x.1 x.2 n := by
  unfold G_ask
  by_cases c1 : F_takes x.1 (fun q => W q b) (R b) b n p = true
  · rw [if_pos c1]
    have ho : F_askO W R n b x.1 = 5 ∨ (F_askO W R n b x.1 < n ∧ x.1 (F_askO W R n b x.1) = b) := by
      unfold F_askO F_cast
      split
      · exact Or.inl rfl
      · exact F_last_in n
    generalize F_askO W R n b x.1 = O at ho ⊢
    by_cases c2 : O = 5
    · rw [if_pos c2]
      refine ⟨fun q hq => ?_, ?_⟩
      · have hq2 := h q hq
        by_cases e : q = p
        · subst e
          refine ⟨?_, hq2.2.1, fun b2 hb2 he => ?_⟩
          · show 0 ≤ F_u x.1 q b q ∧ F_u x.1 q b q ≤ 5
            rw [F_u_s]
            omega
          · have he : F_u x.1 q b q = b2 := he
            rw [F_u_s] at he
            have : b = b2 := by omega
            rw [← this]
            exact hbit
        · show (0 ≤ F_u x.1 p b q ∧ F_u x.1 p b q ≤ 5) ∧ (0 ≤ x.2 q ∧ x.2 q ≤ 31) ∧ ∀ b2 : Nat, b2 < 5 → F_u x.1 p b q = b2 → q_and (q_shr (x.2 q) b2) 1 = 0
          rw [F_u_n e]
          exact hq2
      · show F_ph (F_u x.1 p b) x.2 n < _
        rw [F_ph_f n hp, if_pos h5, if_neg (by omega)]
        omega
    · rw [if_neg c2]
      rcases ho with ho | ⟨hO, hOb⟩
      · exact absurd ho c2
      · have hOp : O ≠ p := fun z => by rw [z, h5] at hOb; omega
        have hO2 := h O hO
        have hOz := hO2.2.2 b hb hOb
        have bt := q_bitI hO2.2.1.1 hO2.2.1.2 hb hOz
        refine ⟨fun q hq => ?_, ?_⟩
        · have hq2 := h q hq
          show (0 ≤ F_u (F_u x.1 O 5) p b q ∧ F_u (F_u x.1 O 5) p b q ≤ 5) ∧ (0 ≤ F_u x.2 O (q_or (x.2 O) (q_shl 1 b)) q ∧ F_u x.2 O (q_or (x.2 O) (q_shl 1 b)) q ≤ 31) ∧ ∀ b2 : Nat, b2 < 5 → F_u (F_u x.1 O 5) p b q = b2 → q_and (q_shr (F_u x.2 O (q_or (x.2 O) (q_shl 1 b)) q) b2) 1 = 0
          by_cases e : q = p
          · subst e
            rw [F_u_s, F_u_n (show q ≠ O from fun z => hOp z.symm)]
            refine ⟨by omega, hq2.2.1, fun b2 hb2 he => ?_⟩
            have : b = b2 := by omega
            rw [← this]
            exact hbit
          · rw [F_u_n e]
            by_cases e2 : q = O
            · subst e2
              rw [F_u_s, F_u_s]
              exact ⟨by omega, bt.2.1, fun b2 hb2 he => absurd he (by omega)⟩
            · rw [F_u_n e2, F_u_n e2]
              exact hq2
        · show F_ph (F_u (F_u x.1 O 5) p b) (F_u x.2 O (q_or (x.2 O) (q_shl 1 b))) n < _
          rw [F_ph_f n hp, F_ph_f n hO, F_ph_s n hO, F_u_n (show p ≠ O from fun z => hOp z.symm), if_pos h5, if_neg (show ¬(b : Int) = 5 by omega), if_pos rfl, if_neg (show ¬x.1 O = 5 by omega), bt.1]
          omega
  · rw [if_neg c1]
    have hp2 := h p hp
    have bt := q_bitI hp2.2.1.1 hp2.2.1.2 hb hbit
    refine ⟨fun q hq => ?_, ?_⟩
    · have hq2 := h q hq
      show (0 ≤ x.1 q ∧ x.1 q ≤ 5) ∧ (0 ≤ F_u x.2 p (q_or (x.2 p) (q_shl 1 b)) q ∧ F_u x.2 p (q_or (x.2 p) (q_shl 1 b)) q ≤ 31) ∧ ∀ b2 : Nat, b2 < 5 → x.1 q = b2 → q_and (q_shr (F_u x.2 p (q_or (x.2 p) (q_shl 1 b)) q) b2) 1 = 0
      by_cases e : q = p
      · subst e
        rw [F_u_s]
        exact ⟨hq2.1, bt.2.1, fun b2 hb2 he => absurd he (by omega)⟩
      · rw [F_u_n e]
        exact hq2
    · show F_ph x.1 (F_u x.2 p (q_or (x.2 p) (q_shl 1 b))) n < _
      rw [F_ph_s n hp, bt.1]
      omega
theorem F_dst_bit {L : Nat → Nat → Int} {x : (Nat → Int) × (Nat → Int)} {p : Nat} (h : F_dst L x p ≠ 5) : q_and (q_shr (x.2 p) (F_dst L x p : Nat)) 1 = 0 := by
  rcases F_best_ok (L := L p) (ok := fun k => decide (q_and (q_shr (x.2 p) k) 1 = 0)) 5 with k | k
  · exact absurd k h
  · exact of_decide_eq_true k
theorem G_rd_iv {L W : Nat → Nat → Int} {R : Nat → Int} {n : Nat} {x : (Nat → Int) × (Nat → Int)} (hn : n ≤ 5) (h : q_iv n x) : ∀ p : Nat, p ≤ n → q_iv n (G_rd L W R n x p).2 ∧ F_ph (G_rd L W R n x p).2.1 (G_rd L W R n x p).2.2 n ≤ F_ph x.1 x.2 n ∧ ((G_rd L W R n x p).1 = true → F_ph (G_rd L W R n x p).2.1 (G_rd L W R n x p).2.2 n < F_ph x.1 x.2 n)
  | 0, _ => ⟨h, Int.le_refl _, fun z => by cases z⟩
  | p + 1, hp => by
    have h1 := G_rd_iv (L := L) (W := W) (R := R) hn h p (by omega)
    rw [G_rd]
    by_cases c : (G_rd L W R n x p).2.1 p = 5 ∧ F_dst L (G_rd L W R n x p).2 p ≠ 5
    · rw [if_pos c]
      have hd := F_dst_le (L := L) (x := (G_rd L W R n x p).2) (p := p)
      have h2 := G_ask_iv (W := W) (R := R) (p := p) (b := F_dst L (G_rd L W R n x p).2 p) h1.1 (by omega) hn (by have := c.2; omega) c.1 (F_dst_bit c.2)
      exact ⟨h2.1, by show F_ph (G_ask W R n p (F_dst L (G_rd L W R n x p).2 p) (G_rd L W R n x p).2).1 (G_ask W R n p (F_dst L (G_rd L W R n x p).2 p) (G_rd L W R n x p).2).2 n ≤ _; omega, fun _ => by show F_ph (G_ask W R n p (F_dst L (G_rd L W R n x p).2 p) (G_rd L W R n x p).2).1 (G_ask W R n p (F_dst L (G_rd L W R n x p).2 p) (G_rd L W R n x p).2).2 n < _; omega⟩
    · rw [if_neg c]
      exact h1
set_option maxHeartbeats 4000000 in
theorem mp_asksOne {d : Nat} {g : q_G} {M : q_M} {x : (Nat → Int) × (Nat → Int)} {p : Nat} (hp : p < (M 100 0).toNat) (h0 : 0 ≤ M 100 0) (h5 : M 100 0 ≤ 5) (hx : q_x5 (M 100 0).toNat x) (Q : Option q_V → q_G → q_M → Prop) : q_S 1 (d + 2) 169 [qR 6 100, qI p] g (q_yM M x) Q = (if F_dst (mL M) x p = 5 then Q (some (qI 0)) g (q_yM M x) else Q (some (qI 1)) g (q_yM M (G_ask (mWn M) (mR M) (M 100 0).toNat p (F_dst (mL M) x p) x))) := by
  have main : ∀ Q : Option q_V → q_G → q_M → Prop, (if F_dst (mL M) x p = 5 then Q (some (qI 0)) g (q_yM M x) else Q (some (qI 1)) g (q_yM M (G_ask (mWn M) (mR M) (M 100 0).toNat p (F_dst (mL M) x p) x))) → q_S 1 (d + 2) 169 [qR 6 100, qI p] g (q_yM M x) Q := by
    intro Q hq
    have hp5 : p < 5 := by omega
    have hdl := F_dst_le (L := mL M) (x := x) (p := p)
    have eD : (F_best (mL M p) (fun k => decide (q_and (q_shr (x.2 p) k) 1 = 0)) 5).1 = F_dst (mL M) x p := rfl
    have eR : ∀ i, q_yM M x 103 i = M 103 i := fun i => ry_n (by omega) (by omega)
    rw [s_X6_asksOne]
    generalize F_dst (mL M) x p = D at hq hdl eD
    rcases hdl with hD | hD
    · rw [if_neg (by omega)] at hq
      have em : m_no D = (D : Int) := if_neg (by omega)
      unfold G_ask at hq
      by_cases c1 : F_takes x.1 (fun q => mWn M q D) (mR M D) D (M 100 0).toNat p = true
      · rw [if_pos c1] at hq
        have hO : F_askO (mWn M) (mR M) (M 100 0).toNat D x.1 = if F_cnt x.1 D (M 100 0).toNat < mR M D then 5 else F_last x.1 (fun q => mWn M q D) D (M 100 0).toNat := rfl
        by_cases c2 : F_cnt x.1 D (M 100 0).toNat < mR M D
        · rw [if_pos c2] at hO
          rw [hO, if_pos rfl] at hq
          have c3 : F_cnt x.1 D (M 100 0).toNat < M 103 (4 * D + 1) := c2
          have uf : q_upd (q_yM M x) 121 p (D : Nat) = q_yM M (F_u x.1 p D, x.2) := uy_f hp5 (m_raw_n (by omega) (by omega))
          simp (disch := omega) only [b_X6_asksOne_0, x_loadR_0, x_loadS_0, x_loadI_1, x_storeI_2, x_loadI_2, x_iconst, y_ic_ne_t, y_ic_ne_f, b_X6_asksOne_11, x_ret1_0, x_ret1_1, b_X6_asksOne_13, y_if_ne_t, y_if_ne_f, b_X6_asksOne_22, f_6_34, x_dup2, y_iald_25, y_iald_40, x_ishl, x_ior, y_iast_25, y_iast_40, b_X6_asksOne_36, f_6_3, x_imul, x_iadd, y_ic_lt_t, y_ic_lt_f, b_X6_asksOne_54, x_storeI_3, f_6_33, x_loadI_3, b_X6_asksOne_84, q_isL_I, q_isL_R, q_isL_S, true_and, and_true, and_self, List.length_nil, List.length_cons, Nat.zero_add, x_K, x_Kn, Int.reduceToNat, Nat.reduceAdd, Nat.reduceMul, Nat.reduceLeDiff, Nat.reduceLT, Nat.zero_le, Int.reduceAdd, Int.reduceSub, Int.reduceMul, Int.reduceNeg, q_add_e, q_sub_e, q_mul_e, q_neg_e, q_upd_s, q_upd_n, zr_shr0, zr_shr1, zr_shr2, zr_shr3, zr_shr4, zr_and, zr_dyn8, zr_or, zr_shl, q_cpy_n, y_cpy26, c_X6_nextAsked, mp_nextAsked, eD, em, c_X6_wouldTake, mp_wouldTake, hx, c1, if_true, c_X6_sitting, mp_sitting, tn_41, eR, Int.toNat_natCast, uf]
          exact hq
        · rw [if_neg c2] at hO
          have h7 := F_last_1 x.1 (fun q => mWn M q D) D (M 100 0).toNat
          have c1b := c1
          unfold F_takes at c1b
          rw [if_neg c2] at c1b
          have c3 : ¬F_cnt x.1 D (M 100 0).toNat < M 103 (4 * D + 1) := c2
          rw [hO] at hq
          generalize hF : F_last x.1 (fun q => mWn M q D) D (M 100 0).toNat = F at h7 c1b hq
          by_cases c5 : F = 5
          · rw [if_pos c5] at c1b
            exact absurd c1b (by decide)
          · have hF5 : F < 5 := by omega
            rw [if_neg c5] at hq
            have eF : m_no F = (F : Int) := if_neg c5
            have iw : (if (F : Int) < 0 then (0 : Int) else if (4 : Int) < F then 4 else F) = F := by rw [if_neg (by omega), if_neg (by omega)]
            have u1 : q_upd (q_yM M x) 121 F (-1) = q_yM M (F_u x.1 F 5, x.2) := uy_f hF5 (if_pos rfl)
            have r1 : q_yM M (F_u x.1 F 5, x.2) 122 F = x.2 F := ry_s hF5
            have u2 : ∀ v, q_upd (q_yM M (F_u x.1 F 5, x.2)) 122 F v = q_yM M (F_u x.1 F 5, F_u x.2 F v) := fun v => uy_s hF5
            have u3 : ∀ s2 : Nat → Int, q_upd (q_yM M (F_u x.1 F 5, s2)) 121 p (D : Nat) = q_yM M (F_u (F_u x.1 F 5) p D, s2) := fun s2 => uy_f hp5 (m_raw_n (by omega) (by omega))
            simp (disch := omega) only [b_X6_asksOne_0, x_loadR_0, x_loadS_0, x_loadI_1, x_storeI_2, x_loadI_2, x_iconst, y_ic_ne_t, y_ic_ne_f, b_X6_asksOne_11, x_ret1_0, x_ret1_1, b_X6_asksOne_13, y_if_ne_t, y_if_ne_f, b_X6_asksOne_22, f_6_34, x_dup2, y_iald_25, y_iald_40, x_ishl, x_ior, y_iast_25, y_iast_40, b_X6_asksOne_36, f_6_3, x_imul, x_iadd, y_ic_lt_t, y_ic_lt_f, b_X6_asksOne_54, x_storeI_3, f_6_33, x_loadI_3, b_X6_asksOne_84, q_isL_I, q_isL_R, q_isL_S, true_and, and_true, and_self, List.length_nil, List.length_cons, Nat.zero_add, x_K, x_Kn, Int.reduceToNat, Nat.reduceAdd, Nat.reduceMul, Nat.reduceLeDiff, Nat.reduceLT, Nat.zero_le, Int.reduceAdd, Int.reduceSub, Int.reduceMul, Int.reduceNeg, q_add_e, q_sub_e, q_mul_e, q_neg_e, q_upd_s, q_upd_n, zr_shr0, zr_shr1, zr_shr2, zr_shr3, zr_shr4, zr_and, zr_dyn8, zr_or, zr_shl, q_cpy_n, y_cpy26, c_X6_nextAsked, mp_nextAsked, eD, em, c_X6_wouldTake, mp_wouldTake, hx, c1, if_true, c_X6_sitting, mp_sitting, tn_41, eR, Int.toNat_natCast, c_X6_lastSitting, mp_lastSitting, hF, eF, c_X6_within, mp_within, iw, u1, r1, u2, u3]
            exact hq
      · rw [if_neg c1] at hq
        have r1 : q_yM M x 122 p = x.2 p := ry_s hp5
        have u2 : ∀ v, q_upd (q_yM M x) 122 p v = q_yM M (x.1, F_u x.2 p v) := fun v => uy_s hp5
        simp (disch := omega) only [b_X6_asksOne_0, x_loadR_0, x_loadS_0, x_loadI_1, x_storeI_2, x_loadI_2, x_iconst, y_ic_ne_t, y_ic_ne_f, b_X6_asksOne_11, x_ret1_0, x_ret1_1, b_X6_asksOne_13, y_if_ne_t, y_if_ne_f, b_X6_asksOne_22, f_6_34, x_dup2, y_iald_25, y_iald_40, x_ishl, x_ior, y_iast_25, y_iast_40, b_X6_asksOne_36, f_6_3, x_imul, x_iadd, y_ic_lt_t, y_ic_lt_f, b_X6_asksOne_54, x_storeI_3, f_6_33, x_loadI_3, b_X6_asksOne_84, q_isL_I, q_isL_R, q_isL_S, true_and, and_true, and_self, List.length_nil, List.length_cons, Nat.zero_add, x_K, x_Kn, Int.reduceToNat, Nat.reduceAdd, Nat.reduceMul, Nat.reduceLeDiff, Nat.reduceLT, Nat.zero_le, Int.reduceAdd, Int.reduceSub, Int.reduceMul, Int.reduceNeg, q_add_e, q_sub_e, q_mul_e, q_neg_e, q_upd_s, q_upd_n, zr_shr0, zr_shr1, zr_shr2, zr_shr3, zr_shr4, zr_and, zr_dyn8, zr_or, zr_shl, q_cpy_n, y_cpy26, c_X6_nextAsked, mp_nextAsked, eD, em, c_X6_wouldTake, mp_wouldTake, hx, c1, Bool.false_eq_true, if_false, Int.toNat_natCast, r1, u2]
        exact hq
    · subst hD
      rw [if_pos rfl] at hq
      simp (disch := omega) only [b_X6_asksOne_0, x_loadR_0, x_loadS_0, x_loadI_1, x_storeI_2, x_loadI_2, x_iconst, y_ic_ne_t, y_ic_ne_f, b_X6_asksOne_11, x_ret1_0, x_ret1_1, b_X6_asksOne_13, y_if_ne_t, y_if_ne_f, b_X6_asksOne_22, f_6_34, x_dup2, y_iald_25, y_iald_40, x_ishl, x_ior, y_iast_25, y_iast_40, b_X6_asksOne_36, f_6_3, x_imul, x_iadd, y_ic_lt_t, y_ic_lt_f, b_X6_asksOne_54, x_storeI_3, f_6_33, x_loadI_3, b_X6_asksOne_84, q_isL_I, q_isL_R, q_isL_S, true_and, and_true, and_self, List.length_nil, List.length_cons, Nat.zero_add, x_K, x_Kn, Int.reduceToNat, Nat.reduceAdd, Nat.reduceMul, Nat.reduceLeDiff, Nat.reduceLT, Nat.zero_le, Int.reduceAdd, Int.reduceSub, Int.reduceMul, Int.reduceNeg, q_add_e, q_sub_e, q_mul_e, q_neg_e, q_upd_s, q_upd_n, zr_shr0, zr_shr1, zr_shr2, zr_shr3, zr_shr4, zr_and, zr_dyn8, zr_or, zr_shl, q_cpy_n, y_cpy26, c_X6_nextAsked, mp_nextAsked, eD, m_no, if_true]
      exact hq
  apply propext
  constructor
  · intro h
    by_cases c : F_dst (mL M) x p = 5
    · rw [if_pos c]
      rw [q_S_eq (fun Q2 hq2 => main Q2 (by rw [if_pos c]; exact hq2)) Q] at h
      exact h
    · rw [if_neg c]
      rw [q_S_eq (fun Q2 hq2 => main Q2 (by rw [if_neg c]; exact hq2)) Q] at h
      exact h
  · exact main Q
