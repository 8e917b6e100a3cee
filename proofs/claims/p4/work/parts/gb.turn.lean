/-! BOTH SIDES: peace, the court, just so -/
section CMP
variable {L L' : Nat → Nat → Int} {T T' : Nat → Nat → Bool} {f f' : Nat → Int}
theorem F_cB_e {p : Nat} (hL : ∀ b, b < 6 → L p b = L' p b) (hf : f p = f' p) (h5 : 0 ≤ f p ∧ f p ≤ 5) (hT : ∀ b : Nat, b < 5 → f p ≠ b → T p b = T' p b) : ∀ j b : Nat, b + j ≤ 5 → F_cB L T f p j b = F_cB L' T' f' p j b
  | 0, _, _ => rfl
  | j + 1, b, h => by
    rw [F_cB, F_cB, F_cB_e hL hf h5 hT j (b + 1) (by omega), ← hf]
    have er : F_rth (L' p) b (f p).toNat = F_rth (L p) b (f p).toNat := by
      unfold F_rth
      rw [hL b (by omega), hL (f p).toNat (by omega)]
    rw [er]
    by_cases c : F_rth (L p) b (f p).toNat = true
    · have hb : f p ≠ b := by
        intro e
        unfold F_rth at c
        have c := of_decide_eq_true c
        rw [e, Int.toNat_natCast] at c
        omega
      rw [hT b (by omega) hb]
    · rw [if_neg (fun z => c z.1), if_neg (fun z => c z.1)]
theorem F_cmp_e {n : Nat} (hL : ∀ p b, p < n → b < 6 → L p b = L' p b) (hf : ∀ p, p < n → f p = f' p) (h5 : ∀ p, p < n → 0 ≤ f p ∧ f p ≤ 5) (hT : ∀ p b : Nat, p < n → b < 5 → f p ≠ b → T p b = T' p b) : ∀ j p : Nat, p + j ≤ n → F_cmp L T f j p = F_cmp L' T' f' j p
  | 0, _, _ => rfl
  | j + 1, p, h => by
    have hp := h5 p (by omega)
    rw [F_cmp, F_cmp, F_cmp_e hL hf h5 hT j (p + 1) (by omega), ← hf p (by omega), F_cB_e (fun b hb => hL p b (by omega) hb) (hf p (by omega)) hp (fun b hb hn => hT p b (by omega) hb hn) 5 0 (by omega), hL p (f p).toNat (by omega) (by omega)]
theorem F_sum_e {N : Nat} (hL : ∀ p b, p < N → b < 6 → L p b = L' p b) (hf : ∀ p, p < N → f p = f' p) (h5 : ∀ p, p < N → 0 ≤ f p ∧ f p ≤ 5) : ∀ n : Nat, n ≤ N → F_sum L f n = F_sum L' f' n
  | 0, _ => rfl
  | n + 1, h => by
    have hp := h5 n (by omega)
    rw [F_sum, F_sum, F_sum_e hL hf h5 n (by omega), ← hf n (by omega), hL n (f n).toNat (by omega) (by omega)]
end CMP
def EL (V : Nat → (Nat → Int) → Int) (S : q_M) : Nat → Nat → Int := fun p b => if b < 5 then F_likes V S p b else 0
def EW (V : Nat → (Nat → Int) → Int) (S : q_M) : Nat → Nat → Int := fun p b => if b < 5 then F_wants V S p b else 0
def E_peace (V : Nat → (Nat → Int) → Int) (S : q_M) (wt : Int) : Int := if ¬(0 ≤ wt ∧ wt ≤ 2) then -100000 else if wt = 0 then F_cmp (EL V S) (G_T (EW V S) (S 6) (S 4) (F_n S)) (S 4) (F_n S) 0 else if wt = 1 then F_sum (EL V S) (S 4) (F_n S) else F_sum (EW V S) (S 4) (F_n S)
theorem E_peace_n {V : Nat → (Nat → Int) → Int} {S : q_M} {wt : Int} (h : ¬(0 ≤ wt ∧ wt ≤ 2)) : E_peace V S wt = -100000 := if_pos h
theorem cy_peace {Vt : Nat → Nat → (Nat → Int) → Int} {d tm l sl : Nat} {g : q_G} {M : q_M} {wt : Int} {Q : Option q_V → q_G → q_M → Prop} (C : q_XI Vt tm l sl M) (iv : q_ivS (cW M 11)) (hq : ∀ M2 : q_M, q_tq M M2 → Q (some (qI (E_peace (Vt l) (cW M 11) wt))) g M2) : q_S 1 (d + 50) 77 [qR 5 0, qI wt] g M Q := by
  have c := C.2.2.1
  have w := c.2.1
  have n5 := q_ci_n c
  have tas := c.1
  by_cases c1 : 0 ≤ wt ∧ wt ≤ 2
  · refine sp_peace (d := d + 46) w c.2.2.2.1.1 c.2.2.2.1.2 c1 (fun M2 h ht => q_ans (hq M2 (q_tq_tel tas h)) ?_)
    have ta5 := tas
    unfold q_tas at ta5
    have e5 : M2 12 5 = M 12 5 := h 12 5 (by omega) (by omega) (by omega)
    have en : F_n (cW M 11) = (M 12 5).toNat := rfl
    have eL : ∀ p b, p < (M 12 5).toNat → b < 6 → M2 (12 + 3 + (1 + p)) b = EL (Vt l) (cW M 11) p b := fun p b hp hb => by
      unfold EL
      by_cases cb : b < 5
      · rw [if_pos cb]
        exact (ht p b hp cb).1
      · have e : b = 5 := by omega
        subst e
        rw [if_neg cb, h _ 5 (by omega) (by omega) (by omega)]
        exact c.2.2.2.1.1 p (by omega)
    have eW : ∀ p b, p < (M 12 5).toNat → b < 6 → M2 (12 + 10 + (1 + p)) b = EW (Vt l) (cW M 11) p b := fun p b hp hb => by
      unfold EW
      by_cases cb : b < 5
      · rw [if_pos cb]
        exact (ht p b hp cb).2
      · have e : b = 5 := by omega
        subst e
        rw [if_neg cb, h _ 5 (by omega) (by omega) (by omega)]
        exact c.2.2.2.1.2 p (by omega)
    have e4 : ∀ k, k < (M 12 5).toNat → M2 (12 + 2) k = cW M 11 4 k := fun k hk => (h 14 k (by omega) (by omega) (by omega)).trans (if_pos hk).symm
    have f5 : ∀ k, k < (M 12 5).toNat → 0 ≤ M2 (12 + 2) k ∧ M2 (12 + 2) k ≤ 5 := fun k hk => by
      rw [e4 k hk]
      exact iv.2.1 k hk
    have e6 : ∀ b, b < 5 → M2 (12 + 1) b = cW M 11 6 b := fun b hb => (h 13 b (by omega) (by omega) (by omega)).trans (if_pos hb).symm
    unfold q_pcA E_peace
    rw [if_neg (show ¬¬(0 ≤ wt ∧ wt ≤ 2) from fun z => z c1), e5, en]
    by_cases k0 : wt = 0
    · rw [if_pos k0, if_pos k0]
      refine F_cmp_e (n := (M 12 5).toNat) eL e4 f5 (fun p b hp hb hn => ?_) _ 0 (by omega)
      unfold q_Tk G_T
      have cn : F_cnt (M2 (12 + 2)) b (M 12 5).toNat ≤ M2 (12 + 1) b := by
        rw [e6 b hb, F_cnt_cong _ e4]
        exact iv.2.2.1 b hb
      rw [e5, F_takes_12 hn cn, e6 b hb]
      exact F_takes_cong e4 (fun k hk => eW k b hk (by omega)) hp
    · rw [if_neg k0, if_neg k0]
      by_cases k1 : wt = 1
      · rw [if_pos k1, if_pos k1]
        exact F_sum_e (N := (M 12 5).toNat) eL e4 f5 _ (by omega)
      · rw [if_neg k1, if_neg k1]
        exact F_sum_e (N := (M 12 5).toNat) eW e4 f5 _ (by omega)
  · exact sp_peaceF (by omega) (q_ans (hq M q_tq_rf) (E_peace_n c1).symm)
/-- what the model's tables say -/
theorem m_td_e {V : Nat → (Nat → Int) → Int} {M M2 : q_M} (hb : q_mb M) (h : m_td V M M2) : M2 100 0 = M 100 0 ∧ (∀ p b, p < (M 100 0).toNat → b < 6 → mL M2 p b = EL V (mW M) p b) ∧ (∀ p b, p < (M 100 0).toNat → b < 6 → mWn M2 p b = EW V (mW M) p b) ∧ (∀ k, k < (M 100 0).toNat → (m_st M2).1 k = mW M 4 k) ∧ (∀ b, b < 5 → mR M2 b = mW M 6 b) ∧ (∀ k, k < (M 100 0).toNat → 0 ≤ (m_st M2).1 k ∧ (m_st M2).1 k ≤ 5) := by
  have n0 := hb.1
  obtain ⟨h1, h2, h3⟩ := h
  have e4 : ∀ k, k < (M 100 0).toNat → (m_st M2).1 k = mW M 4 k := fun k hk => by
    have b4 := hb.2.2.2.2.2.2.1 k (by omega)
    show m_raw (M2 121 k) = (if k < (M 100 0).toNat then mIn M k else 0)
    rw [if_pos hk, h3 k hk]
    unfold m_raw mIn
    (repeat' split) <;> omega
  refine ⟨h1 100 0 (by omega) (by omega), fun p b hp hb6 => ?_, fun p b hp hb6 => ?_, e4, fun b hb5 => ?_, fun k hk => ?_⟩
  · unfold mL EL
    by_cases cb : b < 5
    · rw [if_pos cb, if_pos cb]
      exact (h2 p b hp cb).1
    · rw [if_neg cb, if_neg cb]
  · unfold mWn EW
    by_cases cb : b < 5
    · rw [if_pos cb, if_pos cb]
      exact (h2 p b hp cb).2
    · rw [if_neg cb, if_neg cb]
  · show M2 103 (4 * b + 1) = (if b < 5 then M 103 (4 * b + 1) else 0)
    rw [if_pos hb5]
    exact h1 103 _ (by omega) (by omega)
  · have b4 := hb.2.2.2.2.2.2.1 k (by omega)
    rw [e4 k hk]
    show 0 ≤ (if k < (M 100 0).toNat then mIn M k else 0) ∧ (if k < (M 100 0).toNat then mIn M k else 0) ≤ 5
    rw [if_pos hk]
    unfold mIn
    split <;> omega
theorem mz_peace {Vt : Nat → Nat → (Nat → Int) → Int} {d tm : Nat} {g : q_G} {M : q_M} {wt : Int} {Q : Option q_V → q_G → q_M → Prop} (hI : q_MI Vt tm M) (hq : ∀ M2 : q_M, q_mq M M2 → Q (some (qI (E_peace (q_Vr Vt M) (mW M) wt))) g M2) : q_S 1 (d + 11) 167 [qR 6 100, qI wt] g M Q := by
  by_cases c : 0 ≤ wt ∧ wt ≤ 2
  · refine mp_peace (d := d + 6) (q_MI_mi hI).1 c (fun M2 h2 => q_ans (hq M2 h2.1) ?_)
    obtain ⟨e0, eL, eW, e4, e6, f5⟩ := m_td_e hI.1 h2
    have en : F_n (mW M) = (M 100 0).toNat := rfl
    unfold B_pcA E_peace
    rw [if_neg (show ¬¬(0 ≤ wt ∧ wt ≤ 2) from fun z => z c), e0, en]
    by_cases k0 : wt = 0
    · rw [if_pos k0, if_pos k0]
      refine F_cmp_e (n := (M 100 0).toNat) eL e4 f5 (fun p b hp hb hn => ?_) _ 0 (by omega)
      unfold G_T
      rw [e6 b hb]
      exact F_takes_cong e4 (fun k hk => eW k b hk (by omega)) hp
    · rw [if_neg k0, if_neg k0]
      by_cases k1 : wt = 1
      · rw [if_pos k1, if_pos k1]
        exact F_sum_e (N := (M 100 0).toNat) eL e4 f5 _ (by omega)
      · rw [if_neg k1, if_neg k1]
        exact F_sum_e (N := (M 100 0).toNat) eW e4 f5 _ (by omega)
  · exact mp_peaceF (d := d + 10) c (q_ans (hq M q_mq_rf) (E_peace_n c).symm)
/-! asking in turn -/
def q_smx (n : Nat) (x y : (Nat → Int) × (Nat → Int)) : Prop := ∀ i, i < n → x.1 i = y.1 i ∧ x.2 i = y.2 i
def q_Jn (n : Nat) (R : Nat → Int) (y : (Nat → Int) × (Nat → Int)) : Prop := (∀ b : Nat, b < 5 → F_cnt y.1 b n ≤ R b) ∧ (∀ i, i < n → 0 ≤ y.1 i ∧ y.1 i ≤ 5)
section TURN
variable {L L' W W' : Nat → Nat → Int} {R R' : Nat → Int} {n : Nat}
theorem F_ask_e {p b : Nat} {x y : (Nat → Int) × (Nat → Int)} (hn : n ≤ 5) (hp : p < n) (hb : b < 5) (h5 : y.1 p = 5) (hW : ∀ q c, q < n → c < 6 → W q c = W' q c) (hR : ∀ c, c < 5 → R c = R' c) (h : q_smx n x y) (J : q_Jn n R' y) : q_smx n (F_ask W R n p b x) (G_ask W' R' n p b y) ∧ q_Jn n R' (G_ask W' R' n p b y) := by
  have hx1 : ∀ k, k < n → x.1 k = y.1 k := fun k hk => (h k hk).1
  have eT : F_takes1 x.1 (fun q => W q b) (R b) b n p = F_takes y.1 (fun q => W' q b) (R' b) b n p := by
    rw [F_takes1_cong (f' := y.1) (w' := fun q => W' q b) hp hx1 (fun k hk _ => hW k b hk (by omega)), hR b hb]
    exact F_takes_12 (by rw [h5]; omega) (J.1 b hb)
  have eO : F_askO W R n b x.1 = F_askO W' R' n b y.1 := by
    unfold F_askO
    rw [F_cast_cong (f' := y.1) (w' := fun q => W' q b) hx1 (fun k hk _ => hW k b hk (by omega)), hR b hb]
  unfold F_ask G_ask
  rw [eT, eO]
  by_cases c : F_takes y.1 (fun q => W' q b) (R' b) b n p = true
  · rw [if_pos c, if_pos c]
    by_cases c2 : F_askO W' R' n b y.1 = 5
    · rw [if_pos c2, if_pos c2]
      have room : F_cnt y.1 b n < R' b := by
        unfold F_askO F_cast at c2
        unfold F_takes at c
        by_cases c3 : F_cnt y.1 b n < R' b
        · exact c3
        · rw [if_neg c3] at c2 c
          rw [if_pos c2] at c
          cases c
      refine ⟨fun i hi => ⟨?_, (h i hi).2⟩, fun k hk => ?_, fun i hi => ?_⟩
      · show F_u x.1 p b i = F_u y.1 p b i
        unfold F_u
        split
        · rfl
        · exact hx1 i hi
      · show F_cnt (F_u y.1 p b) k n ≤ R' k
        have j := J.1 k hk
        rw [F_cnt_u n hp, h5, if_neg (show ¬(5 : Int) = k by omega)]
        by_cases e : (b : Int) = k
        · have e2 : b = k := by omega
          subst e2
          rw [if_pos e]
          omega
        · rw [if_neg e]
          omega
      · show 0 ≤ F_u y.1 p b i ∧ F_u y.1 p b i ≤ 5
        unfold F_u
        split
        · omega
        · exact J.2 i hi
    · rw [if_neg c2, if_neg c2]
      have ho : F_askO W' R' n b y.1 < n ∧ y.1 (F_askO W' R' n b y.1) = b := by
        unfold F_askO F_cast at c2 ⊢
        by_cases c3 : F_cnt y.1 b n < R' b
        · rw [if_pos c3] at c2
          exact absurd rfl c2
        · rw [if_neg c3] at c2 ⊢
          rcases F_last_in (f := y.1) (w := fun q => W' q b) (b := b) n with z | z
          · exact absurd z c2
          · exact z
      generalize F_askO W' R' n b y.1 = o at ho
      have hop : p ≠ o := fun e => by
        have := ho.2
        rw [← e, h5] at this
        omega
      refine ⟨fun i hi => ⟨?_, ?_⟩, fun k hk => ?_, fun i hi => ?_⟩
      · show F_u (F_u x.1 o 5) p b i = F_u (F_u y.1 o 5) p b i
        unfold F_u
        split
        · rfl
        · split
          · rfl
          · exact hx1 i hi
      · show F_u x.2 o (q_or (x.2 o) (q_shl 1 b)) i = F_u y.2 o (q_or (y.2 o) (q_shl 1 b)) i
        unfold F_u
        split
        · rw [(h o ho.1).2]
        · exact (h i hi).2
      · show F_cnt (F_u (F_u y.1 o 5) p b) k n ≤ R' k
        have j := J.1 k hk
        have ep : F_u y.1 o 5 p = 5 := by
          unfold F_u
          rw [if_neg hop]
          exact h5
        rw [F_cnt_u n hp, F_cnt_u n ho.1, ep, ho.2, if_neg (show ¬(5 : Int) = k by omega)]
        omega
      · show 0 ≤ F_u (F_u y.1 o 5) p b i ∧ F_u (F_u y.1 o 5) p b i ≤ 5
        unfold F_u
        split
        · omega
        · split
          · omega
          · exact J.2 i hi
  · rw [if_neg c, if_neg c]
    refine ⟨fun i hi => ⟨hx1 i hi, ?_⟩, J⟩
    show F_u x.2 p (q_or (x.2 p) (q_shl 1 b)) i = F_u y.2 p (q_or (y.2 p) (q_shl 1 b)) i
    unfold F_u
    split
    · rw [(h p hp).2]
    · exact (h i hi).2
theorem F_dst_e {p : Nat} {x y : (Nat → Int) × (Nat → Int)} (hp : p < n) (hL : ∀ q c, q < n → c < 6 → L q c = L' q c) (h : q_smx n x y) : F_dst L x p = F_dst L' y p := by
  unfold F_dst
  rw [F_best_cong (L' := L' p) (ok' := fun k => decide (q_and (q_shr (y.2 p) k) 1 = 0)) 5 (fun k hk => hL p k hp (by omega)) (fun k _ => by rw [(h p hp).2])]
theorem F_rd_e {x y : (Nat → Int) × (Nat → Int)} (hn : n ≤ 5) (hL : ∀ q c, q < n → c < 6 → L q c = L' q c) (hW : ∀ q c, q < n → c < 6 → W q c = W' q c) (hR : ∀ c, c < 5 → R c = R' c) (h : q_smx n x y) (J : q_Jn n R' y) : ∀ p, p ≤ n → (F_rd L W R n x p).1 = (G_rd L' W' R' n y p).1 ∧ q_smx n (F_rd L W R n x p).2 (G_rd L' W' R' n y p).2 ∧ q_Jn n R' (G_rd L' W' R' n y p).2
  | 0, _ => ⟨rfl, h, J⟩
  | p + 1, hp => by
    obtain ⟨i1, i2, i3⟩ := F_rd_e hn hL hW hR h J p (by omega)
    rw [F_rd, G_rd, F_dst_e (by omega) hL i2, (i2 p (by omega)).1]
    by_cases c : (G_rd L' W' R' n y p).2.1 p = 5 ∧ F_dst L' (G_rd L' W' R' n y p).2 p ≠ 5
    · rw [if_pos c, if_pos c]
      rcases F_dst_le (L := L') (x := (G_rd L' W' R' n y p).2) (p := p) with k | k
      · have e := F_ask_e (p := p) (b := F_dst L' (G_rd L' W' R' n y p).2 p) hn (by omega) k c.1 hW hR i2 i3
        exact ⟨rfl, e.1, e.2⟩
      · exact absurd k c.2
    · rw [if_neg c, if_neg c]
      exact ⟨i1, i2, i3⟩
theorem F_turn_e (hn : n ≤ 5) (hL : ∀ q c, q < n → c < 6 → L q c = L' q c) (hW : ∀ q c, q < n → c < 6 → W q c = W' q c) (hR : ∀ c, c < 5 → R c = R' c) : ∀ (k : Nat) (x y : (Nat → Int) × (Nat → Int)), q_smx n x y → q_Jn n R' y → q_smx n (F_turn L W R n k x) (G_trn L' W' R' n k y) ∧ q_Jn n R' (G_trn L' W' R' n k y)
  | 0, _, _, h, J => ⟨h, J⟩
  | k + 1, x, y, h, J => by
    obtain ⟨i1, i2, i3⟩ := F_rd_e hn hL hW hR h J n (Nat.le_refl n)
    rw [F_turn, G_trn, i1]
    by_cases c : (G_rd L' W' R' n y n).1 = true
    · rw [if_pos c, if_pos c]
      exact F_turn_e hn hL hW hR k _ _ i2 i3
    · rw [if_neg c, if_neg c]
      exact ⟨i2, i3⟩
theorem G_ask_e {p b : Nat} {x y : (Nat → Int) × (Nat → Int)} (hn : n ≤ 5) (hp : p < n) (hb : b < 5) (h5 : y.1 p = 5) (hW : ∀ q c, q < n → c < 6 → W q c = W' q c) (hR : ∀ c, c < 5 → R c = R' c) (h : q_smx n x y) (J : q_Jn n R' y) : q_smx n (G_ask W R n p b x) (G_ask W' R' n p b y) ∧ q_Jn n R' (G_ask W' R' n p b y) := by
  have hx1 : ∀ k, k < n → x.1 k = y.1 k := fun k hk => (h k hk).1
  have eT : F_takes x.1 (fun q => W q b) (R b) b n p = F_takes y.1 (fun q => W' q b) (R' b) b n p := by
    rw [F_takes_cong (f' := y.1) (w' := fun q => W' q b) hx1 (fun k hk => hW k b hk (by omega)) hp, hR b hb]
  have eO : F_askO W R n b x.1 = F_askO W' R' n b y.1 := by
    unfold F_askO
    rw [F_cast_cong (f' := y.1) (w' := fun q => W' q b) hx1 (fun k hk _ => hW k b hk (by omega)), hR b hb]
  unfold G_ask
  rw [eT, eO]
  by_cases c : F_takes y.1 (fun q => W' q b) (R' b) b n p = true
  · rw [if_pos c, if_pos c]
    by_cases c2 : F_askO W' R' n b y.1 = 5
    · rw [if_pos c2, if_pos c2]
      have room : F_cnt y.1 b n < R' b := by
        unfold F_askO F_cast at c2
        unfold F_takes at c
        by_cases c3 : F_cnt y.1 b n < R' b
        · exact c3
        · rw [if_neg c3] at c2 c
          rw [if_pos c2] at c
          cases c
      refine ⟨fun i hi => ⟨?_, (h i hi).2⟩, fun k hk => ?_, fun i hi => ?_⟩
      · show F_u x.1 p b i = F_u y.1 p b i
        unfold F_u
        split
        · rfl
        · exact hx1 i hi
      · show F_cnt (F_u y.1 p b) k n ≤ R' k
        have j := J.1 k hk
        rw [F_cnt_u n hp, h5, if_neg (show ¬(5 : Int) = k by omega)]
        by_cases e : (b : Int) = k
        · have e2 : b = k := by omega
          subst e2
          rw [if_pos e]
          omega
        · rw [if_neg e]
          omega
      · show 0 ≤ F_u y.1 p b i ∧ F_u y.1 p b i ≤ 5
        unfold F_u
        split
        · omega
        · exact J.2 i hi
    · rw [if_neg c2, if_neg c2]
      have ho : F_askO W' R' n b y.1 < n ∧ y.1 (F_askO W' R' n b y.1) = b := by
        unfold F_askO F_cast at c2 ⊢
        by_cases c3 : F_cnt y.1 b n < R' b
        · rw [if_pos c3] at c2
          exact absurd rfl c2
        · rw [if_neg c3] at c2 ⊢
          rcases F_last_in (f := y.1) (w := fun q => W' q b) (b := b) n with z | z
          · exact absurd z c2
          · exact z
      generalize F_askO W' R' n b y.1 = o at ho
      have hop : p ≠ o := fun e => by
        have := ho.2
        rw [← e, h5] at this
        omega
      refine ⟨fun i hi => ⟨?_, ?_⟩, fun k hk => ?_, fun i hi => ?_⟩
      · show F_u (F_u x.1 o 5) p b i = F_u (F_u y.1 o 5) p b i
        unfold F_u
        split
        · rfl
        · split
          · rfl
          · exact hx1 i hi
      · show F_u x.2 o (q_or (x.2 o) (q_shl 1 b)) i = F_u y.2 o (q_or (y.2 o) (q_shl 1 b)) i
        unfold F_u
        split
        · rw [(h o ho.1).2]
        · exact (h i hi).2
      · show F_cnt (F_u (F_u y.1 o 5) p b) k n ≤ R' k
        have j := J.1 k hk
        have ep : F_u y.1 o 5 p = 5 := by
          unfold F_u
          rw [if_neg hop]
          exact h5
        rw [F_cnt_u n hp, F_cnt_u n ho.1, ep, ho.2, if_neg (show ¬(5 : Int) = k by omega)]
        omega
      · show 0 ≤ F_u (F_u y.1 o 5) p b i ∧ F_u (F_u y.1 o 5) p b i ≤ 5
        unfold F_u
        split
        · omega
        · split
          · omega
          · exact J.2 i hi
  · rw [if_neg c, if_neg c]
    refine ⟨fun i hi => ⟨hx1 i hi, ?_⟩, J⟩
    show F_u x.2 p (q_or (x.2 p) (q_shl 1 b)) i = F_u y.2 p (q_or (y.2 p) (q_shl 1 b)) i
    unfold F_u
    split
    · rw [(h p hp).2]
    · exact (h i hi).2
theorem G_rd_e {x y : (Nat → Int) × (Nat → Int)} (hn : n ≤ 5) (hL : ∀ q c, q < n → c < 6 → L q c = L' q c) (hW : ∀ q c, q < n → c < 6 → W q c = W' q c) (hR : ∀ c, c < 5 → R c = R' c) (h : q_smx n x y) (J : q_Jn n R' y) : ∀ p, p ≤ n → (G_rd L W R n x p).1 = (G_rd L' W' R' n y p).1 ∧ q_smx n (G_rd L W R n x p).2 (G_rd L' W' R' n y p).2 ∧ q_Jn n R' (G_rd L' W' R' n y p).2
  | 0, _ => ⟨rfl, h, J⟩
  | p + 1, hp => by
    obtain ⟨i1, i2, i3⟩ := G_rd_e hn hL hW hR h J p (by omega)
    rw [G_rd, G_rd, F_dst_e (by omega) hL i2, (i2 p (by omega)).1]
    by_cases c : (G_rd L' W' R' n y p).2.1 p = 5 ∧ F_dst L' (G_rd L' W' R' n y p).2 p ≠ 5
    · rw [if_pos c, if_pos c]
      rcases F_dst_le (L := L') (x := (G_rd L' W' R' n y p).2) (p := p) with k | k
      · have e := G_ask_e (p := p) (b := F_dst L' (G_rd L' W' R' n y p).2 p) hn (by omega) k c.1 hW hR i2 i3
        exact ⟨rfl, e.1, e.2⟩
      · exact absurd k c.2
    · rw [if_neg c, if_neg c]
      exact ⟨i1, i2, i3⟩
theorem G_trn_e (hn : n ≤ 5) (hL : ∀ q c, q < n → c < 6 → L q c = L' q c) (hW : ∀ q c, q < n → c < 6 → W q c = W' q c) (hR : ∀ c, c < 5 → R c = R' c) : ∀ (k : Nat) (x y : (Nat → Int) × (Nat → Int)), q_smx n x y → q_Jn n R' y → q_smx n (G_trn L W R n k x) (G_trn L' W' R' n k y) ∧ q_Jn n R' (G_trn L' W' R' n k y)
  | 0, _, _, h, J => ⟨h, J⟩
  | k + 1, x, y, h, J => by
    obtain ⟨i1, i2, i3⟩ := G_rd_e hn hL hW hR h J n (Nat.le_refl n)
    rw [G_trn, G_trn, i1]
    by_cases c : (G_rd L' W' R' n y n).1 = true
    · rw [if_pos c, if_pos c]
      exact G_trn_e hn hL hW hR k _ _ i2 i3
    · rw [if_neg c, if_neg c]
      exact ⟨i2, i3⟩
end TURN
def E_crx (V : Nat → (Nat → Int) → Int) (S : q_M) : (Nat → Int) × (Nat → Int) := G_trn (EL V S) (EW V S) (S 6) (F_n S) 1000 G_x0
def E_court (V : Nat → (Nat → Int) → Int) (S : q_M) (wt : Int) : Int := if ¬(0 ≤ wt ∧ wt ≤ 2) then -100000 else if wt = 0 then F_dig (E_crx V S).1 (F_n S) else if wt = 1 then F_sum (EL V S) (E_crx V S).1 (F_n S) else F_sum (EW V S) (E_crx V S).1 (F_n S)
theorem E_court_n {V : Nat → (Nat → Int) → Int} {S : q_M} {wt : Int} (h : ¬(0 ≤ wt ∧ wt ≤ 2)) : E_court V S wt = -100000 := if_pos h
theorem F_cnt_5 {b : Nat} (hb : b < 5) : ∀ n : Nat, F_cnt (fun _ => 5) b n = 0
  | 0 => rfl
  | n + 1 => by
    rw [F_cnt, F_cnt_5 hb n, if_neg (show ¬(5 : Int) = b by omega)]
    omega
theorem q_Jn_0 {n : Nat} {R : Nat → Int} (h : ∀ b : Nat, b < 5 → 0 ≤ R b) : q_Jn n R G_x0 := ⟨fun b hb => by
  show F_cnt (fun _ => 5) b n ≤ R b
  rw [F_cnt_5 hb]
  exact h b hb, fun i _ => by show (0 : Int) ≤ 5 ∧ (5 : Int) ≤ 5; omega⟩
theorem F_fr_e {n : Nat} {x : (Nat → Int) × (Nat → Int)} (hn : n ≤ 5) : q_smx n (F_fr x) G_x0 := by
  intro i hi
  unfold F_fr
  rcases (show i = 0 ∨ i = 1 ∨ i = 2 ∨ i = 3 ∨ i = 4 by omega) with e | e | e | e | e <;> subst e <;> exact ⟨rfl, rfl⟩
set_option maxHeartbeats 4000000 in
theorem cy_court {Vt : Nat → Nat → (Nat → Int) → Int} {d tm l sl : Nat} {g : q_G} {M : q_M} {wt : Int} {Q : Option q_V → q_G → q_M → Prop} (C : q_XI Vt tm l sl M) (iv : q_ivS (cW M 11)) (hq : ∀ M2 : q_M, q_tq M M2 → Q (some (qI (E_court (Vt l) (cW M 11) wt))) g M2) : q_S 1 (d + 50) 78 [qR 5 0, qI wt] g M Q := by
  have c := C.2.2.1
  have w := c.2.1
  have n5 := q_ci_n c
  have tas := c.1
  by_cases c1 : 0 ≤ wt ∧ wt ≤ 2
  · refine sp_court (d := d + 45) (q_ci_t c) w c.2.2.1 c.2.2.2.2.1.1 c.2.2.2.2.1.2 c1 (fun M2 M3 h h2 h3 h4 => ?_)
    have hn : M2 39 5 = M 12 5 := by
      have := congrFun (congrFun h2 9) 0
      rw [cW_90, cW_90] at this
      exact this
    have hx : q_tq M M3 := by
      rw [h4]
      exact q_tq_cM (q_tq_th tas h) (q_hi_tr F_fr_hi (F_turn_hi (by omega) 1000 _))
    have ht := q_tq_th tas h
    refine q_ans (hq M3 hx) ?_
    have en : F_n (cW M 11) = (M 12 5).toNat := rfl
    have en2 : (M2 39 5).toNat = F_n (cW M 11) := by rw [hn]; rfl
    have hn5 : F_n (cW M 11) ≤ 5 := by rw [en]; omega
    have eL : ∀ p b, p < F_n (cW M 11) → b < 6 → q_Lk M2 39 p b = EL (Vt l) (cW M 11) p b := fun p b hp hb => by
      unfold EL
      by_cases cb : b < 5
      · rw [if_pos cb]
        exact (h3 p b (show p < (M2 39 5).toNat by omega) cb).1
      · have e : b = 5 := by omega
        subst e
        rw [if_neg cb]
        exact (ht (39 + 3 + (1 + p)) 5 (by omega) (by omega) (by omega) (by omega)).trans (c.2.2.2.2.1.1 p (by omega))
    have eW : ∀ p b, p < F_n (cW M 11) → b < 6 → q_Wn M2 39 p b = EW (Vt l) (cW M 11) p b := fun p b hp hb => by
      unfold EW
      by_cases cb : b < 5
      · rw [if_pos cb]
        exact (h3 p b (show p < (M2 39 5).toNat by omega) cb).2
      · have e : b = 5 := by omega
        subst e
        rw [if_neg cb]
        exact (ht (39 + 10 + (1 + p)) 5 (by omega) (by omega) (by omega) (by omega)).trans (c.2.2.2.2.1.2 p (by omega))
    have eR : ∀ b, b < 5 → M2 (39 + 1) b = cW M 11 6 b := fun b hb => by
      rw [← h2]
      exact (if_pos hb).symm
    obtain ⟨k1, k2⟩ := F_turn_e (n := F_n (cW M 11)) hn5 eL eW eR 1000 (F_fr (M2 (39 + 2), M2 (39 + 17))) G_x0 (F_fr_e hn5) (q_Jn_0 (fun b hb => by have := iv.2.2.1 b hb; have := (F_cnt_le (cW M 11 4) b (F_n (cW M 11))).1; omega))
    rw [en2] at h4
    generalize hX : F_turn (q_Lk M2 39) (q_Wn M2 39) (M2 (39 + 1)) (F_n (cW M 11)) 1000 (F_fr (M2 (39 + 2), M2 (39 + 17))) = x at h4 k1
    have e1 : ∀ k, k < F_n (cW M 11) → x.1 k = (E_crx (Vt l) (cW M 11)).1 k := fun k hk => (k1 k hk).1
    have f5 : ∀ k, k < F_n (cW M 11) → 0 ≤ x.1 k ∧ x.1 k ≤ 5 := fun k hk => by
      rw [e1 k hk]
      exact k2.2 k hk
    have r2 : M3 (39 + 2) = x.1 := by rw [h4]; funext i; exact q_cM_f
    have r5 : (M3 39 5).toNat = F_n (cW M 11) := by rw [h4, q_cM_n (by omega) (by omega)]; exact en2
    have rL : ∀ p b, p < F_n (cW M 11) → b < 6 → M3 (39 + 3 + (1 + p)) b = EL (Vt l) (cW M 11) p b := fun p b hp hb => by
      rw [h4, q_cM_n (by omega) (by omega)]
      exact eL p b hp hb
    have rW : ∀ p b, p < F_n (cW M 11) → b < 6 → M3 (39 + 10 + (1 + p)) b = EW (Vt l) (cW M 11) p b := fun p b hp hb => by
      rw [h4, q_cM_n (by omega) (by omega)]
      exact eW p b hp hb
    unfold q_crA E_court
    rw [if_neg (show ¬¬(0 ≤ wt ∧ wt ≤ 2) from fun z => z c1), r2, r5]
    by_cases k0 : wt = 0
    · rw [if_pos k0, if_pos k0]
      exact F_dig_cong _ e1
    · rw [if_neg k0, if_neg k0]
      by_cases k1 : wt = 1
      · rw [if_pos k1, if_pos k1]
        exact F_sum_e (N := F_n (cW M 11)) rL e1 f5 _ (by omega)
      · rw [if_neg k1, if_neg k1]
        exact F_sum_e (N := F_n (cW M 11)) rW e1 f5 _ (by omega)
  · exact sp_courtF (by omega) (q_ans (hq M q_tq_rf) (E_court_n c1).symm)
theorem mz_court {Vt : Nat → Nat → (Nat → Int) → Int} {d tm : Nat} {g : q_G} {M : q_M} {wt : Int} {Q : Option q_V → q_G → q_M → Prop} (hI : q_MI Vt tm M) (iv : q_ivS (mW M)) (hq : ∀ M2 : q_M, q_mq M M2 → Q (some (qI (E_court (q_Vr Vt M) (mW M) wt))) g M2) : q_S 1 (d + 11) 171 [qR 6 100, qI wt] g M Q := by
  by_cases c : 0 ≤ wt ∧ wt ≤ 2
  · refine mp_court (d := d + 5) (q_MI_mi hI).1 c (fun M2 M3 h2 h3 => q_ans (hq M3 h3) ?_)
    obtain ⟨e0, eL, eW, e4, e6, f5⟩ := m_td_e hI.1 h2
    have n0 := hI.1.1
    have en : F_n (mW M) = (M 100 0).toNat := rfl
    obtain ⟨k1, k2⟩ := G_trn_e (n := (M 100 0).toNat) (by omega) eL eW e6 1000 G_x0 G_x0 (fun i _ => ⟨rfl, rfl⟩) (q_Jn_0 (fun b hb => by have := iv.2.2.1 b hb; have := (F_cnt_le (mW M 4) b (F_n (mW M))).1; omega))
    have e1 : ∀ k, k < (M 100 0).toNat → (G_trn (mL M2) (mWn M2) (mR M2) (M 100 0).toNat 1000 G_x0).1 k = (E_crx (q_Vr Vt M) (mW M)).1 k := fun k hk => (k1 k hk).1
    have f5 : ∀ k, k < (M 100 0).toNat → 0 ≤ (G_trn (mL M2) (mWn M2) (mR M2) (M 100 0).toNat 1000 G_x0).1 k ∧ (G_trn (mL M2) (mWn M2) (mR M2) (M 100 0).toNat 1000 G_x0).1 k ≤ 5 := fun k hk => by
      rw [e1 k hk]
      exact k2.2 k hk
    unfold B_crA E_court
    rw [if_neg (show ¬¬(0 ≤ wt ∧ wt ≤ 2) from fun z => z c), e0, en]
    by_cases k0 : wt = 0
    · rw [if_pos k0, if_pos k0]
      exact F_dig_cong _ e1
    · rw [if_neg k0, if_neg k0]
      by_cases k1 : wt = 1
      · rw [if_pos k1, if_pos k1]
        exact F_sum_e (N := (M 100 0).toNat) eL e1 f5 _ (by omega)
      · rw [if_neg k1, if_neg k1]
        exact F_sum_e (N := (M 100 0).toNat) eW e1 f5 _ (by omega)
  · exact mp_courtF (d := d + 10) c (q_ans (hq M q_mq_rf) (E_court_n c).symm)
