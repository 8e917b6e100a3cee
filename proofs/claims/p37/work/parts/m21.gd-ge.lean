section
/-! BOTH SIDES: all ways, just so -/
def F_dg (v : Int) : Nat := if v = 5 then 0 else (v + 1).toNat
def F_six (f : Nat → Int) : Nat → Nat
  | 0 => 0
  | n + 1 => 6 * F_six f n + F_dg (f n)
/-- the way of a number: the first stone's digit is the highest -/
def F_way (n m i : Nat) : Int := if m / 6 ^ (n - 1 - i) % 6 = 0 then 5 else ((m / 6 ^ (n - 1 - i) % 6 : Nat) : Int) - 1
theorem F_dg_lt {v : Int} (h : 0 ≤ v ∧ v ≤ 5) : F_dg v < 6 := by
  unfold F_dg
  split <;> omega
theorem F_six_cong {f f' : Nat → Int} : ∀ n : Nat, (∀ i, i < n → f i = f' i) → F_six f n = F_six f' n
  | 0, _ => rfl
  | n + 1, h => by rw [F_six, F_six, F_six_cong n (fun i hi => h i (by omega)), h n (by omega)]
theorem F_six_dg {f : Nat → Int} : ∀ n : Nat, (∀ i, i < n → 0 ≤ f i ∧ f i ≤ 5) → ∀ i, i < n → F_six f n / 6 ^ (n - 1 - i) % 6 = F_dg (f i)
  | 0, _, i, hi => absurd hi (Nat.not_lt_zero i)
  | n + 1, h, i, hi => by
    have hd := F_dg_lt (h n (by omega))
    rw [F_six]
    by_cases e : i = n
    · subst e
      rw [show i + 1 - 1 - i = 0 by omega, Nat.pow_zero, Nat.div_one]
      omega
    · have ih := F_six_dg n (fun j hj => h j (by omega)) i (by omega)
      rw [show n + 1 - 1 - i = (n - 1 - i) + 1 by omega, Nat.pow_succ, Nat.mul_comm (6 ^ (n - 1 - i)) 6, ← Nat.div_div_eq_div_mul, show (6 * F_six f n + F_dg (f n)) / 6 = F_six f n by omega]
      exact ih
theorem F_six_lt {f : Nat → Int} : ∀ n : Nat, (∀ i, i < n → 0 ≤ f i ∧ f i ≤ 5) → F_six f n < 6 ^ n
  | 0, _ => by rw [F_six]; omega
  | n + 1, h => by
    have h1 := F_six_lt n (fun i hi => h i (by omega))
    have h2 := F_dg_lt (h n (by omega))
    rw [F_six, Nat.pow_succ]
    omega
theorem F_way_e {f : Nat → Int} {n m i : Nat} (h : ∀ i, i < n → 0 ≤ f i ∧ f i ≤ 5) (hm : F_six f n = m) (hi : i < n) : f i = F_way n m i := by
  have k := F_six_dg n h i hi
  have b := h i hi
  unfold F_way
  rw [← hm, k]
  unfold F_dg
  by_cases c : f i = 5
  · rw [if_pos c, if_pos rfl]
    exact c
  · rw [if_neg c, if_neg (by omega)]
    omega
theorem F_way_b {n m i : Nat} : 0 ≤ F_way n m i ∧ F_way n m i ≤ 5 := by
  unfold F_way
  have := Nat.mod_lt (m / 6 ^ (n - 1 - i)) (show 0 < 6 by omega)
  split <;> omega
theorem F_next_ge : ∀ (p : Nat) (f : Nat → Int) (i : Nat), p ≤ i → (F_next f p).2 i = f i
  | 0, _, _, _ => rfl
  | p + 1, f, i, hi => by
    rw [F_next]
    split
    · exact F_u_n (by omega)
    · split
      · rw [F_next_ge p _ i (by omega)]
        exact F_u_n (by omega)
      · exact F_u_n (by omega)
theorem F_next_6 : ∀ (p : Nat) (f : Nat → Int), (∀ i, i < p → 0 ≤ f i ∧ f i ≤ 5) → ((F_next f p).1 = true → F_six (F_next f p).2 p = F_six f p + 1) ∧ ((F_next f p).1 = false → F_six f p + 1 = 6 ^ p) ∧ (∀ i, i < p → 0 ≤ (F_next f p).2 i ∧ (F_next f p).2 i ≤ 5)
  | 0, f, _ => ⟨fun h => (by cases h), fun _ => rfl, fun i hi => absurd hi (Nat.not_lt_zero i)⟩
  | p + 1, f, h => by
    have hp := h p (by omega)
    rw [F_next]
    by_cases c : f p = 5
    · rw [if_pos c]
      refine ⟨fun _ => ?_, fun z => (by cases z), fun i hi => ?_⟩
      · show F_six (F_u f p 0) (p + 1) = F_six f (p + 1) + 1
        rw [F_six, F_six, F_u_s, c, F_six_cong (f' := f) p (fun i hi => F_u_n (f := f) (v := 0) (by omega : i ≠ p))]
        rfl
      · show 0 ≤ F_u f p 0 i ∧ F_u f p 0 i ≤ 5
        unfold F_u
        split
        · omega
        · exact h i hi
    · rw [if_neg c]
      by_cases c2 : f p = 4
      · rw [if_pos c2]
        have hu : ∀ i, i < p → F_u f p 5 i = f i := fun i hi => F_u_n (by omega)
        obtain ⟨k1, k2, k3⟩ := F_next_6 p (F_u f p 5) (fun i hi => by rw [hu i hi]; exact h i (by omega))
        have e := F_six_cong p hu
        have eg : (F_next (F_u f p 5) p).2 p = 5 := by rw [F_next_ge p _ p (Nat.le_refl p)]; exact F_u_s
        have ed : F_dg (f p) = 5 := by rw [c2]; rfl
        refine ⟨fun z => ?_, fun z => ?_, fun i hi => ?_⟩
        · rw [F_six, F_six, k1 z, e, eg, ed]
          rfl
        · have := k2 z
          rw [F_six, ed, Nat.pow_succ]
          rw [e] at this
          omega
        · by_cases z : i = p
          · rw [z, eg]
            omega
          · exact k3 i (by omega)
      · rw [if_neg c2]
        refine ⟨fun _ => ?_, fun z => (by cases z), fun i hi => ?_⟩
        · show F_six (F_u f p (f p + 1)) (p + 1) = F_six f (p + 1) + 1
          rw [F_six, F_six, F_u_s, F_six_cong (f' := f) p (fun i hi => F_u_n (f := f) (v := f p + 1) (by omega : i ≠ p))]
          unfold F_dg
          rw [if_neg (by omega), if_neg c]
          omega
        · show 0 ≤ F_u f p (f p + 1) i ∧ F_u f p (f p + 1) i ≤ 5
          unfold F_u
          split
          · omega
          · exact h i hi
theorem F_fits_e {f f' R R' : Nat → Int} {n : Nat} (hf : ∀ i, i < n → f i = f' i) (hR : ∀ c, c < 5 → R c = R' c) : ∀ b : Nat, b ≤ 5 → F_fits f R n b = F_fits f' R' n b
  | 0, _ => rfl
  | b + 1, hb => by rw [F_fits, F_fits, F_fits_e hf hR b (by omega), F_cnt_cong n hf, hR b (by omega)]
theorem F_fits_le {f R : Nat → Int} {n : Nat} : ∀ b : Nat, F_fits f R n b = true → ∀ c : Nat, c < b → F_cnt f c n ≤ R c
  | 0, _, c, hc => absurd hc (Nat.not_lt_zero c)
  | b + 1, h, c, hc => by
    rw [F_fits, Bool.and_eq_true] at h
    by_cases e : c = b
    · rw [e]
      exact of_decide_eq_true h.2
    · exact F_fits_le b h.1 c (by omega)
theorem F_cB_ge {L : Nat → Nat → Int} {T : Nat → Nat → Bool} {f : Nat → Int} {p : Nat} : ∀ j b : Nat, F_cB L T f p j b = -1 ∨ 0 ≤ F_cB L T f p j b
  | 0, _ => Or.inl rfl
  | j + 1, b => by
    rw [F_cB]
    split
    · exact Or.inr (by omega)
    · exact F_cB_ge j (b + 1)
theorem F_cmp_ge {L : Nat → Nat → Int} {T : Nat → Nat → Bool} {f : Nat → Int} : ∀ j p : Nat, F_cmp L T f j p = -1 ∨ 0 ≤ F_cmp L T f j p
  | 0, _ => Or.inl rfl
  | j + 1, p => by
    rw [F_cmp]
    split
    · exact Or.inr (by omega)
    · split
      · exact F_cmp_ge j (p + 1)
      · next h =>
        rcases F_cB_ge (L := L) (T := T) (f := f) (p := p) 5 0 with k | k
        · exact absurd k h
        · exact Or.inr (by omega)
theorem F_dig_ge {f : Nat → Int} : ∀ n : Nat, (∀ i, i < n → 0 ≤ f i) → 0 ≤ F_dig f n
  | 0, _ => by rw [F_dig]; omega
  | n + 1, h => by
    have := F_dig_ge n (fun i hi => h i (by omega))
    have := h n (by omega)
    rw [F_dig]
    split <;> omega
/-- one way more; peace alone, or any -/
def G_wS (V : Nat → (Nat → Int) → Int) (S : q_M) (pe : Bool) (f : Nat → Int) (x : Int × Int × Int) : Int × Int × Int :=
  if F_fits f (S 6) (F_n S) 5 = true ∧ (pe = true → F_cmp (EL V S) (G_T (EW V S) (S 6) f (F_n S)) f (F_n S) 0 = -1) then (x.1 + 1, if x.2.1 = -1 ∨ x.2.2 < F_sum (EL V S) f (F_n S) then (F_dig f (F_n S), F_sum (EL V S) f (F_n S)) else x.2) else x
def G_w (V : Nat → (Nat → Int) → Int) (S : q_M) (pe : Bool) : Nat → Int × Int × Int
  | 0 => (0, -1, 0)
  | k + 1 => G_wS V S pe (F_way (F_n S) k) (G_w V S pe k)
def E_all (V : Nat → (Nat → Int) → Int) (S : q_M) (wt : Int) : Int := if ¬(0 ≤ wt ∧ wt ≤ 4) then -100000 else if wt = 0 then (G_w V S true (6 ^ F_n S)).1 else if wt = 1 then (G_w V S true (6 ^ F_n S)).2.1 else if wt = 2 then (G_w V S true (6 ^ F_n S)).2.2 else if wt = 3 then (G_w V S false (6 ^ F_n S)).2.1 else (G_w V S false (6 ^ F_n S)).2.2
theorem E_all_n {V : Nat → (Nat → Int) → Int} {S : q_M} {wt : Int} (h : ¬(0 ≤ wt ∧ wt ≤ 4)) : E_all V S wt = -100000 := if_pos h
theorem G_wS_i {V : Nat → (Nat → Int) → Int} {S : q_M} {pe : Bool} {f : Nat → Int} {x : Int × Int × Int} (hf : ∀ i, i < F_n S → 0 ≤ f i) (h : 0 ≤ x.1 ∧ (x.1 = 0 ↔ x.2.1 = -1)) : 0 ≤ (G_wS V S pe f x).1 ∧ ((G_wS V S pe f x).1 = 0 ↔ (G_wS V S pe f x).2.1 = -1) := by
  have hd := F_dig_ge (F_n S) hf
  unfold G_wS
  split
  · show 0 ≤ x.1 + 1 ∧ (x.1 + 1 = 0 ↔ (if x.2.1 = -1 ∨ x.2.2 < F_sum (EL V S) f (F_n S) then (F_dig f (F_n S), F_sum (EL V S) f (F_n S)) else x.2).1 = -1)
    split
    · show 0 ≤ x.1 + 1 ∧ (x.1 + 1 = 0 ↔ F_dig f (F_n S) = -1)
      omega
    · omega
  · exact h
theorem F_alS_e {V : Nat → (Nat → Int) → Int} {S : q_M} {L W : Nat → Nat → Int} {R f f' : Nat → Int} {pe : Bool} {x : Int × Int × Int} (hL : ∀ p c, p < F_n S → c < 6 → L p c = EL V S p c) (hW : ∀ p c, p < F_n S → c < 6 → W p c = EW V S p c) (hR : ∀ c, c < 5 → R c = S 6 c) (hf : ∀ i, i < F_n S → f i = f' i) (h5 : ∀ i, i < F_n S → 0 ≤ f i ∧ f i ≤ 5) (hx : x.1 = 0 ↔ x.2.1 = -1) : F_alS L W R (F_n S) pe f x = G_wS V S pe f' x := by
  unfold F_alS G_wS
  rw [F_fits_e hf hR 5 (Nat.le_refl 5), F_dig_cong _ hf, F_sum_e (N := F_n S) hL hf h5 _ (Nat.le_refl _)]
  by_cases c : F_fits f' (S 6) (F_n S) 5 = true
  · have cm : F_cmp L (fun p b => F_takes1 f (fun q => W q b) (R b) b (F_n S) p) f (F_n S) 0 = F_cmp (EL V S) (G_T (EW V S) (S 6) f' (F_n S)) f' (F_n S) 0 := by
      refine F_cmp_e (n := F_n S) hL hf h5 (fun p b hp hb hn => ?_) _ 0 (by omega)
      have cn : F_cnt f b (F_n S) ≤ R b := by
        rw [F_cnt_cong _ hf, hR b hb]
        exact F_fits_le 5 c b hb
      unfold G_T
      rw [F_takes_12 hn cn, hR b hb]
      exact F_takes_cong hf (fun k hk => hW k b hk (by omega)) hp
    rw [cm]
    have lt : (F_cmp (EL V S) (G_T (EW V S) (S 6) f' (F_n S)) f' (F_n S) 0 < 0) ↔ (F_cmp (EL V S) (G_T (EW V S) (S 6) f' (F_n S)) f' (F_n S) 0 = -1) := by
      rcases F_cmp_ge (L := EL V S) (T := G_T (EW V S) (S 6) f' (F_n S)) (f := f') (F_n S) 0 with k | k <;> omega
    simp only [lt, hx]
  · rw [if_neg (fun z => c z.1), if_neg (fun z => c z.1)]
theorem F_al_e {V : Nat → (Nat → Int) → Int} {S : q_M} {L W : Nat → Nat → Int} {R : Nat → Int} {pe : Bool} (hL : ∀ p c, p < F_n S → c < 6 → L p c = EL V S p c) (hW : ∀ p c, p < F_n S → c < 6 → W p c = EW V S p c) (hR : ∀ c, c < 5 → R c = S 6 c) : ∀ (k m : Nat) (f : Nat → Int), (∀ i, i < F_n S → 0 ≤ f i ∧ f i ≤ 5) → F_six f (F_n S) = m → 6 ^ F_n S ≤ m + k → m < 6 ^ F_n S → (0 ≤ (G_w V S pe m).1 ∧ ((G_w V S pe m).1 = 0 ↔ (G_w V S pe m).2.1 = -1)) → F_al L W R (F_n S) pe k f (G_w V S pe m) = G_w V S pe (6 ^ F_n S)
  | 0, m, f, _, _, hk, hm, _ => by omega
  | k + 1, m, f, h5, hs, hk, hm, hx => by
    have e : F_alS L W R (F_n S) pe f (G_w V S pe m) = G_w V S pe (m + 1) := by
      rw [G_w]
      exact F_alS_e hL hW hR (fun i hi => F_way_e h5 hs hi) h5 hx.2
    obtain ⟨k1, k2, k3⟩ := F_next_6 (F_n S) f h5
    rw [F_al, e]
    by_cases c : (F_next f (F_n S)).1 = true
    · rw [if_pos c]
      have e1 := k1 c
      have lt : m + 1 < 6 ^ F_n S := by
        rw [hs] at e1
        have := F_six_lt (F_n S) k3
        omega
      exact F_al_e hL hW hR k (m + 1) _ k3 (by rw [e1, hs]) (by omega) lt (by rw [G_w]; exact G_wS_i (fun i _ => F_way_b.1) hx)
    · rw [if_neg c]
      have := k2 (by
        cases z : (F_next f (F_n S)).1
        · rfl
        · exact absurd z c)
      rw [← this, hs]
set_option maxHeartbeats 4000000 in
theorem cy_all {Vt : Nat → Nat → (Nat → Int) → Int} {d tm l sl : Nat} {g : q_G} {M : q_M} {wt : Int} {Q : Option q_V → q_G → q_M → Prop} (C : q_XI Vt tm l sl M) (iv : q_ivS (cW M 11)) (hq : ∀ M2 : q_M, q_tq M M2 → Q (some (qI (E_all (Vt l) (cW M 11) wt))) g M2) : q_S 1 (d + 50) 79 [qR 5 0, qI wt] g M Q := by
  have c := C.2.2.1
  have n5 := q_ci_n c
  by_cases c1 : 0 ≤ wt ∧ wt ≤ 4
  · refine sp_all (d := d + 44) c c1 (fun M2 M3 h h3 => q_ans (hq M3 h3) ?_)
    obtain ⟨t1, t2, t3, t4, t5, t6, _⟩ := h
    have en : F_n (cW M 11) = (M 12 5).toNat := rfl
    have eL : ∀ p b, p < F_n (cW M 11) → b < 6 → q_Lk M2 39 p b = EL (Vt l) (cW M 11) p b := fun p b hp hb => by
      unfold EL
      by_cases cb : b < 5
      · rw [if_pos cb]
        exact (t6 p b hp cb).1
      · have e : b = 5 := by omega
        subst e
        rw [if_neg cb]
        exact t3.1 p (by omega)
    have eW : ∀ p b, p < F_n (cW M 11) → b < 6 → q_Wn M2 39 p b = EW (Vt l) (cW M 11) p b := fun p b hp hb => by
      unfold EW
      by_cases cb : b < 5
      · rw [if_pos cb]
        exact (t6 p b hp cb).2
      · have e : b = 5 := by omega
        subst e
        rw [if_neg cb]
        exact t3.2 p (by omega)
    have eR : ∀ b, b < 5 → M2 40 b = cW M 11 6 b := fun b hb => by
      rw [← t2]
      exact (if_pos hb).symm
    have e5 : (M2 39 5).toNat = F_n (cW M 11) := by rw [t4]; rfl
    have nle : F_n (cW M 11) ≤ 5 := by omega
    have f0 : ∀ i, i < F_n (cW M 11) → F_f0 (M2 41) i = 5 := fun i hi => by
      unfold F_f0
      rcases (show i = 0 ∨ i = 1 ∨ i = 2 ∨ i = 3 ∨ i = 4 by omega) with e | e | e | e | e <;> subst e <;> rfl
    have s0 : ∀ n : Nat, n ≤ F_n (cW M 11) → F_six (F_f0 (M2 41)) n = 0 := by
      intro n
      induction n with
      | zero => intro _; rfl
      | succ n ih =>
        intro hn
        rw [F_six, ih (by omega), f0 n (by omega)]
        rfl
    have p6 : 0 < 6 ^ F_n (cW M 11) := Nat.pow_pos (by omega)
    have p7 : 6 ^ F_n (cW M 11) ≤ 7776 := Nat.pow_le_pow_right (by omega) nle
    have k := fun pe : Bool => F_al_e (pe := pe) eL eW eR 7776 0 (F_f0 (M2 41)) (fun i hi => by rw [f0 i hi]; omega) (s0 _ (Nat.le_refl _)) (by omega) p6 ⟨Int.le_refl 0, ⟨fun _ => rfl, fun _ => rfl⟩⟩
    have k2 : ∀ pe : Bool, F_al (q_Lk M2 39) (q_Wn M2 39) (M2 40) (F_n (cW M 11)) pe 7776 (F_f0 (M2 41)) (0, -1, 0) = G_w (Vt l) (cW M 11) pe (6 ^ F_n (cW M 11)) := k
    unfold A_all E_all
    rw [if_neg (show ¬¬(0 ≤ wt ∧ wt ≤ 4) from fun z => z c1), e5, k2]
    rcases (show wt = 0 ∨ wt = 1 ∨ wt = 2 ∨ wt = 3 ∨ wt = 4 by omega) with z | z | z | z | z <;> subst z <;> rfl
  · exact sp_allF (by omega) (q_ans (hq M q_tq_rf) (E_all_n c1).symm)
end
section
/-! BOTH SIDES: all ways of the model, just so -/
theorem F_fits_no {f R : Nat → Int} {n b : Nat} (hb : b < 5) (h : R b < F_cnt f b n) : ¬F_fits f R n 5 = true := fun z => by
  have := F_fits_le 5 z b hb
  omega
set_option maxHeartbeats 4000000 in
theorem mp_sitsByE {d m : Nat} {g : q_G} {M : q_M} {x : (Nat → Int) × (Nat → Int)} {Q : Option q_V → q_G → q_M → Prop} (h0 : 0 ≤ M 100 0) (h5 : M 100 0 ≤ 5) (hn1 : m ≤ 100000) (hq : ∀ y : (Nat → Int) × (Nat → Int), (∀ i, i < (M 100 0).toNat → y.1 i = F_way (M 100 0).toNat m i) → Q (some (qI (if F_fits y.1 (mR M) (M 100 0).toNat 5 = true then 1 else 0))) g (q_yM M y)) : q_S 1 (d + 1) 172 [qR 6 100, qI m] g (q_yM M x) Q := by
  have e0 : ∀ y, q_yM M y 100 0 = M 100 0 := fun y => ry_n (by omega) (by omega)
  have eR : ∀ y i, q_yM M y 103 i = M 103 i := fun y i => ry_n (by omega) (by omega)
  rw [s_X6_sitsBy]
  have second : ∀ j b : Nat, b + j = 5 → ∀ (y : (Nat → Int) × (Nat → Int)) (left : Int), q_x5 (M 100 0).toNat y → (∀ i, i < (M 100 0).toNat → y.1 i = F_way (M 100 0).toNat m i) → F_fits y.1 (mR M) (M 100 0).toNat b = true → q_T 1 (d + 1) qP_X6_sitsBy 38 [] [qR 6 100, qI m, qI left, qI b] [] g (q_yM M y) Q := by
    intro j
    induction j with
    | zero =>
      intro b hb y left hy hw hf
      rw [b_X6_sitsBy_38]
      simp (disch := omega) only [b_X6_sitsBy_0, x_loadI_1, x_storeI_2, x_loadR_0, x_loadS_0, f_6_0, x_iconst, x_isub, x_storeI_3, x_loadI_3, y_if_lt_t, y_if_lt_f, b_X6_sitsBy_13, f_6_33, x_loadI_2, y_irem, y_iast_25, y_iast_40, y_idiv, x_iinc_3, x_goto, b_X6_sitsBy_36, y_ic_ge_t, y_ic_ge_f, b_X6_sitsBy_43, f_6_3, x_imul, x_iadd, y_iald_25, y_iald_40, y_ic_le_t, y_ic_le_f, b_X6_sitsBy_61, x_ret1_0, x_ret1_1, b_X6_sitsBy_63, b_X6_sitsBy_69, q_isL_I, q_isL_R, q_isL_S, true_and, and_true, and_self, List.length_nil, List.length_cons, Nat.zero_add, x_K, x_Kn, Int.reduceToNat, Nat.reduceAdd, Nat.reduceMul, Nat.reduceLeDiff, Nat.reduceLT, Nat.zero_le, Int.reduceAdd, Int.reduceSub, Int.reduceMul, Int.reduceNeg, q_add_e, q_sub_e, q_mul_e, q_neg_e, q_upd_s, q_upd_n, zr_shr0, zr_shr1, zr_shr2, zr_shr3, zr_shr4, zr_and, zr_dyn8, zr_or, zr_shl, q_cpy_n, y_cpy26]
      have e5 : b = 5 := by omega
      subst e5
      exact q_ans (hq y hw) (if_pos hf).symm
    | succ j ih =>
      intro b hb y left hy hw hf
      rw [b_X6_sitsBy_38]
      by_cases c : M 103 (4 * b + 1) < F_cnt y.1 b (M 100 0).toNat
      · simp (disch := omega) only [b_X6_sitsBy_0, x_loadI_1, x_storeI_2, x_loadR_0, x_loadS_0, f_6_0, x_iconst, x_isub, x_storeI_3, x_loadI_3, y_if_lt_t, y_if_lt_f, b_X6_sitsBy_13, f_6_33, x_loadI_2, y_irem, y_iast_25, y_iast_40, y_idiv, x_iinc_3, x_goto, b_X6_sitsBy_36, y_ic_ge_t, y_ic_ge_f, b_X6_sitsBy_43, f_6_3, x_imul, x_iadd, y_iald_25, y_iald_40, y_ic_le_t, y_ic_le_f, b_X6_sitsBy_61, x_ret1_0, x_ret1_1, b_X6_sitsBy_63, b_X6_sitsBy_69, q_isL_I, q_isL_R, q_isL_S, true_and, and_true, and_self, List.length_nil, List.length_cons, Nat.zero_add, x_K, x_Kn, Int.reduceToNat, Nat.reduceAdd, Nat.reduceMul, Nat.reduceLeDiff, Nat.reduceLT, Nat.zero_le, Int.reduceAdd, Int.reduceSub, Int.reduceMul, Int.reduceNeg, q_add_e, q_sub_e, q_mul_e, q_neg_e, q_upd_s, q_upd_n, zr_shr0, zr_shr1, zr_shr2, zr_shr3, zr_shr4, zr_and, zr_dyn8, zr_or, zr_shl, q_cpy_n, y_cpy26, c_X6_sitting, mp_sitting, hy, tn_41, eR]
        exact q_ans (hq y hw) (if_neg (F_fits_no (by omega) c)).symm
      · simp (disch := omega) only [b_X6_sitsBy_0, x_loadI_1, x_storeI_2, x_loadR_0, x_loadS_0, f_6_0, x_iconst, x_isub, x_storeI_3, x_loadI_3, y_if_lt_t, y_if_lt_f, b_X6_sitsBy_13, f_6_33, x_loadI_2, y_irem, y_iast_25, y_iast_40, y_idiv, x_iinc_3, x_goto, b_X6_sitsBy_36, y_ic_ge_t, y_ic_ge_f, b_X6_sitsBy_43, f_6_3, x_imul, x_iadd, y_iald_25, y_iald_40, y_ic_le_t, y_ic_le_f, b_X6_sitsBy_61, x_ret1_0, x_ret1_1, b_X6_sitsBy_63, b_X6_sitsBy_69, q_isL_I, q_isL_R, q_isL_S, true_and, and_true, and_self, List.length_nil, List.length_cons, Nat.zero_add, x_K, x_Kn, Int.reduceToNat, Nat.reduceAdd, Nat.reduceMul, Nat.reduceLeDiff, Nat.reduceLT, Nat.zero_le, Int.reduceAdd, Int.reduceSub, Int.reduceMul, Int.reduceNeg, q_add_e, q_sub_e, q_mul_e, q_neg_e, q_upd_s, q_upd_n, zr_shr0, zr_shr1, zr_shr2, zr_shr3, zr_shr4, zr_and, zr_dyn8, zr_or, zr_shl, q_cpy_n, y_cpy26, c_X6_sitting, mp_sitting, hy, tn_41, eR]
        exact ih (b + 1) (by omega) y left hy hw (by
          rw [F_fits, hf, Bool.true_and]
          exact decide_eq_true (by show _ ≤ M 103 (4 * b + 1); omega))
  have first : ∀ k : Nat, k ≤ (M 100 0).toNat → ∀ (y : (Nat → Int) × (Nat → Int)) (D : Nat), D = m / 6 ^ ((M 100 0).toNat - k) → (∀ i, k ≤ i → i < (M 100 0).toNat → y.1 i = F_way (M 100 0).toNat m i) → q_T 1 (d + 1) qP_X6_sitsBy 9 [] [qR 6 100, qI m, qI D, qI ((k : Int) - 1)] [] g (q_yM M y) Q := by
    intro k
    induction k with
    | zero =>
      intro hk y D hD hy
      rw [b_X6_sitsBy_9]
      simp (disch := omega) only [b_X6_sitsBy_0, x_loadI_1, x_storeI_2, x_loadR_0, x_loadS_0, f_6_0, x_iconst, x_isub, x_storeI_3, x_loadI_3, y_if_lt_t, y_if_lt_f, b_X6_sitsBy_13, f_6_33, x_loadI_2, y_irem, y_iast_25, y_iast_40, y_idiv, x_iinc_3, x_goto, b_X6_sitsBy_36, y_ic_ge_t, y_ic_ge_f, b_X6_sitsBy_43, f_6_3, x_imul, x_iadd, y_iald_25, y_iald_40, y_ic_le_t, y_ic_le_f, b_X6_sitsBy_61, x_ret1_0, x_ret1_1, b_X6_sitsBy_63, b_X6_sitsBy_69, q_isL_I, q_isL_R, q_isL_S, true_and, and_true, and_self, List.length_nil, List.length_cons, Nat.zero_add, x_K, x_Kn, Int.reduceToNat, Nat.reduceAdd, Nat.reduceMul, Nat.reduceLeDiff, Nat.reduceLT, Nat.zero_le, Int.reduceAdd, Int.reduceSub, Int.reduceMul, Int.reduceNeg, q_add_e, q_sub_e, q_mul_e, q_neg_e, q_upd_s, q_upd_n, zr_shr0, zr_shr1, zr_shr2, zr_shr3, zr_shr4, zr_and, zr_dyn8, zr_or, zr_shl, q_cpy_n, y_cpy26]
      exact second 5 0 rfl y D (fun i hi => by rw [hy i (Nat.zero_le i) hi]; exact F_way_b) (fun i hi => hy i (Nat.zero_le i) hi) rfl
    | succ k ih =>
      intro hk y D hD hy
      have hDm : D ≤ m := by rw [hD]; exact Nat.div_le_self _ _
      have hl0 : 0 ≤ (D : Int) := by omega
      have hl1 : (D : Int) ≤ 100000 := by omega
      have ek : ((k + 1 : Nat) : Int) - 1 = k := by omega
      have ek2 : (k : Int) + -1 = (k : Int) - 1 := by omega
      have er : q_rem D 6 = ((D % 6 : Nat) : Int) := (q_rem_e (by omega) (by omega) (by omega) (by omega)).trans (by omega)
      have ed : q_div D 6 = ((D / 6 : Nat) : Int) := (q_div_e (by omega) (by omega) (by omega) (by omega)).trans (by omega)
      have hm : 0 ≤ ((D % 6 : Nat) : Int) ∧ ((D % 6 : Nat) : Int) < 6 := by omega
      have hd : 0 ≤ ((D / 6 : Nat) : Int) ∧ ((D / 6 : Nat) : Int) ≤ 100000 := by omega
      have u1 : q_upd (q_yM M y) 121 k (((D % 6 : Nat) : Int) - 1) = q_yM M (F_u y.1 k (if D % 6 = 0 then 5 else ((D % 6 : Nat) : Int) - 1), y.2) := uy_f (by omega) (by
        by_cases c : D % 6 = 0
        · rw [if_pos c, c]
          rfl
        · rw [if_neg c]
          exact m_raw_n (by omega) (by omega))
      rw [ek, b_X6_sitsBy_9]
      simp (disch := omega) only [b_X6_sitsBy_0, x_loadI_1, x_storeI_2, x_loadR_0, x_loadS_0, f_6_0, x_iconst, x_isub, x_storeI_3, x_loadI_3, y_if_lt_t, y_if_lt_f, b_X6_sitsBy_13, f_6_33, x_loadI_2, y_irem, y_iast_25, y_iast_40, y_idiv, x_iinc_3, x_goto, b_X6_sitsBy_36, y_ic_ge_t, y_ic_ge_f, b_X6_sitsBy_43, f_6_3, x_imul, x_iadd, y_iald_25, y_iald_40, y_ic_le_t, y_ic_le_f, b_X6_sitsBy_61, x_ret1_0, x_ret1_1, b_X6_sitsBy_63, b_X6_sitsBy_69, q_isL_I, q_isL_R, q_isL_S, true_and, and_true, and_self, List.length_nil, List.length_cons, Nat.zero_add, x_K, x_Kn, Int.reduceToNat, Nat.reduceAdd, Nat.reduceMul, Nat.reduceLeDiff, Nat.reduceLT, Nat.zero_le, Int.reduceAdd, Int.reduceSub, Int.reduceMul, Int.reduceNeg, q_add_e, q_sub_e, q_mul_e, q_neg_e, q_upd_s, q_upd_n, zr_shr0, zr_shr1, zr_shr2, zr_shr3, zr_shr4, zr_and, zr_dyn8, zr_or, zr_shl, q_cpy_n, y_cpy26, er, ed, Int.toNat_natCast, u1, ek2]
      refine ih (by omega) _ _ ?_ (fun i hi1 hi2 => ?_)
      · rw [hD, Nat.div_div_eq_div_mul, ← Nat.pow_succ, show ((M 100 0).toNat - (k + 1)).succ = (M 100 0).toNat - k by omega]
      · show F_u y.1 k (if D % 6 = 0 then 5 else ((D % 6 : Nat) : Int) - 1) i = F_way (M 100 0).toNat m i
        by_cases e : i = k
        · rw [e, F_u_s]
          unfold F_way
          rw [show (M 100 0).toNat - 1 - k = (M 100 0).toNat - (k + 1) by omega, ← hD]
        · rw [F_u_n e]
          exact hy i (by omega) hi2
  have l := first (M 100 0).toNat (Nat.le_refl _) x m (by rw [Nat.sub_self, Nat.pow_zero, Nat.div_one]) (fun i h1 h2 => absurd h2 (by omega))
  rw [show (((M 100 0).toNat : Nat) : Int) = M 100 0 by omega] at l
  simp (disch := omega) only [b_X6_sitsBy_0, x_loadI_1, x_storeI_2, x_loadR_0, x_loadS_0, f_6_0, x_iconst, x_isub, x_storeI_3, x_loadI_3, y_if_lt_t, y_if_lt_f, b_X6_sitsBy_13, f_6_33, x_loadI_2, y_irem, y_iast_25, y_iast_40, y_idiv, x_iinc_3, x_goto, b_X6_sitsBy_36, y_ic_ge_t, y_ic_ge_f, b_X6_sitsBy_43, f_6_3, x_imul, x_iadd, y_iald_25, y_iald_40, y_ic_le_t, y_ic_le_f, b_X6_sitsBy_61, x_ret1_0, x_ret1_1, b_X6_sitsBy_63, b_X6_sitsBy_69, q_isL_I, q_isL_R, q_isL_S, true_and, and_true, and_self, List.length_nil, List.length_cons, Nat.zero_add, x_K, x_Kn, Int.reduceToNat, Nat.reduceAdd, Nat.reduceMul, Nat.reduceLeDiff, Nat.reduceLT, Nat.zero_le, Int.reduceAdd, Int.reduceSub, Int.reduceMul, Int.reduceNeg, q_add_e, q_sub_e, q_mul_e, q_neg_e, q_upd_s, q_upd_n, zr_shr0, zr_shr1, zr_shr2, zr_shr3, zr_shr4, zr_and, zr_dyn8, zr_or, zr_shl, q_cpy_n, y_cpy26, e0]
  exact l
/-- what the model's five cells say -/
def q_W5 (B : q_M) (p t : Int × Int × Int) : Prop := B 123 0 = p.1 ∧ B 123 1 = p.2.1 ∧ B 123 2 = p.2.2 ∧ B 123 3 = t.2.1 ∧ B 123 4 = t.2.2
theorem G_wS_c {V : Nat → (Nat → Int) → Int} {S : q_M} {pe : Bool} {f : Nat → Int} {x : Int × Int × Int} : (G_wS V S pe f x).1 = x.1 ∨ (G_wS V S pe f x).1 = x.1 + 1 := by
  unfold G_wS
  split
  · exact Or.inr rfl
  · exact Or.inl rfl
theorem G_w_c {V : Nat → (Nat → Int) → Int} {S : q_M} {pe : Bool} : ∀ k : Nat, 0 ≤ (G_w V S pe k).1 ∧ (G_w V S pe k).1 ≤ k
  | 0 => ⟨Int.le_refl 0, Int.le_refl 0⟩
  | k + 1 => by
    have := G_w_c (V := V) (S := S) (pe := pe) k
    rw [G_w]
    rcases G_wS_c (V := V) (S := S) (pe := pe) (f := F_way (F_n S) k) (x := G_w V S pe k) with h | h <;> omega
section W5
variable {V : Nat → (Nat → Int) → Int} {S : q_M} {k : Nat}
theorem G_w_no {pe : Bool} (h : ¬F_fits (F_way (F_n S) k) (S 6) (F_n S) 5 = true) : G_w V S pe (k + 1) = G_w V S pe k := by
  rw [G_w]
  unfold G_wS
  rw [if_neg (fun z => h z.1)]
theorem G_w_f (h : F_fits (F_way (F_n S) k) (S 6) (F_n S) 5 = true) : (G_w V S false (k + 1)).2 = (if (G_w V S false k).2.1 = -1 ∨ (G_w V S false k).2.2 < F_sum (EL V S) (F_way (F_n S) k) (F_n S) then (F_dig (F_way (F_n S) k) (F_n S), F_sum (EL V S) (F_way (F_n S) k) (F_n S)) else (G_w V S false k).2) := by
  rw [G_w]
  unfold G_wS
  rw [if_pos ⟨h, fun z => by cases z⟩]
theorem G_w_t (h : F_fits (F_way (F_n S) k) (S 6) (F_n S) 5 = true) (h2 : F_cmp (EL V S) (G_T (EW V S) (S 6) (F_way (F_n S) k) (F_n S)) (F_way (F_n S) k) (F_n S) 0 = -1) : G_w V S true (k + 1) = ((G_w V S true k).1 + 1, if (G_w V S true k).2.1 = -1 ∨ (G_w V S true k).2.2 < F_sum (EL V S) (F_way (F_n S) k) (F_n S) then (F_dig (F_way (F_n S) k) (F_n S), F_sum (EL V S) (F_way (F_n S) k) (F_n S)) else (G_w V S true k).2) := by
  rw [G_w]
  unfold G_wS
  rw [if_pos ⟨h, fun _ => h2⟩]
theorem G_w_n (h2 : ¬F_cmp (EL V S) (G_T (EW V S) (S 6) (F_way (F_n S) k) (F_n S)) (F_way (F_n S) k) (F_n S) 0 = -1) : G_w V S true (k + 1) = G_w V S true k := by
  rw [G_w]
  unfold G_wS
  rw [if_neg (fun z => h2 (z.2 rfl))]
end W5
set_option maxHeartbeats 8000000 in
theorem mp_waysE {V : Nat → (Nat → Int) → Int} {d : Nat} {g : q_G} {M : q_M} {Q : Option q_V → q_G → q_M → Prop} (hm : q_ml V M) (hq : ∀ M2 : q_M, q_mq M M2 → q_W5 M2 (G_w V (mW M) true (6 ^ F_n (mW M))) (G_w V (mW M) false (6 ^ F_n (mW M))) → Q none g M2) : q_S 1 (d + 5) 173 [qR 6 100] g M Q := by
  have n0 := hm.1.1
  have tell : ∀ (nx : Nat) (ops : List Instr) (ls st : List q_V), (∀ M2 : q_M, m_td V M M2 → q_T 1 (d + 5) qP_X6_tellsWays nx ops ls st g M2 Q) → q_S 1 (d + 4) 159 [qR 6 100] g M (q_K 1 (d + 5) qP_X6_tellsWays nx ops ls st Q) := fun nx ops ls st h => mp_tellsAll hm h
  rw [s_X6_tellsWays]
  simp (disch := omega) only [b_X6_tellsWays_0, x_loadR_0, x_loadS_0, x_iconst, x_storeI_1, x_storeI_2, x_loadI_2, f_6_0, y_ic_ge_t, y_ic_ge_f, b_X6_tellsWays_16, x_loadI_1, x_imul, x_iinc_2, x_goto, f_6_35, y_iast_25, b_X6_tellsWays_69, y_if_eq_t, y_if_eq_f, b_X6_tellsWays_77, x_storeI_3, y_iald_25, y_ic_eq_t, y_ic_eq_f, b_X6_tellsWays_93, x_loadI_3, y_ic_le_t, y_ic_le_f, b_X6_tellsWays_103, b_X6_tellsWays_120, y_ic_ne_t, y_ic_ne_f, b_X6_tellsWays_128, x_dup2, x_iadd, b_X6_tellsWays_148, b_X6_tellsWays_158, b_X6_tellsWays_162, b_X6_tellsWays_163, x_storeI_4, x_loadI_4, b_X6_tellsWays_175, b_X6_tellsWays_182, b_X6_tellsWays_188, b_X6_tellsWays_199, b_X6_tellsWays_203, b_X6_tellsWays_209, b_X6_tellsWays_210, b_X6_tellsWays_216, x_vret, q_isL_I, q_isL_R, q_isL_S, true_and, and_true, and_self, List.length_nil, List.length_cons, Nat.zero_add, x_K, x_Kn, Int.reduceToNat, Nat.reduceAdd, Nat.reduceMul, Nat.reduceLeDiff, Nat.reduceLT, Nat.zero_le, Int.reduceAdd, Int.reduceSub, Int.reduceMul, Int.reduceNeg, q_add_e, q_sub_e, q_mul_e, q_neg_e, q_upd_s, q_upd_n, zr_shr0, zr_shr1, zr_shr2, zr_shr3, zr_shr4, zr_and, zr_dyn8, zr_or, zr_shl, q_cpy_n, y_cpy26, c_X6_tellsAll]
  refine tell _ _ _ _ (fun M2 h2 => ?_)
  simp (disch := omega) only [b_X6_tellsWays_0, x_loadR_0, x_loadS_0, x_iconst, x_storeI_1, x_storeI_2, x_loadI_2, f_6_0, y_ic_ge_t, y_ic_ge_f, b_X6_tellsWays_16, x_loadI_1, x_imul, x_iinc_2, x_goto, f_6_35, y_iast_25, b_X6_tellsWays_69, y_if_eq_t, y_if_eq_f, b_X6_tellsWays_77, x_storeI_3, y_iald_25, y_ic_eq_t, y_ic_eq_f, b_X6_tellsWays_93, x_loadI_3, y_ic_le_t, y_ic_le_f, b_X6_tellsWays_103, b_X6_tellsWays_120, y_ic_ne_t, y_ic_ne_f, b_X6_tellsWays_128, x_dup2, x_iadd, b_X6_tellsWays_148, b_X6_tellsWays_158, b_X6_tellsWays_162, b_X6_tellsWays_163, x_storeI_4, x_loadI_4, b_X6_tellsWays_175, b_X6_tellsWays_182, b_X6_tellsWays_188, b_X6_tellsWays_199, b_X6_tellsWays_203, b_X6_tellsWays_209, b_X6_tellsWays_210, b_X6_tellsWays_216, x_vret, q_isL_I, q_isL_R, q_isL_S, true_and, and_true, and_self, List.length_nil, List.length_cons, Nat.zero_add, x_K, x_Kn, Int.reduceToNat, Nat.reduceAdd, Nat.reduceMul, Nat.reduceLeDiff, Nat.reduceLT, Nat.zero_le, Int.reduceAdd, Int.reduceSub, Int.reduceMul, Int.reduceNeg, q_add_e, q_sub_e, q_mul_e, q_neg_e, q_upd_s, q_upd_n, zr_shr0, zr_shr1, zr_shr2, zr_shr3, zr_shr4, zr_and, zr_dyn8, zr_or, zr_shl, q_cpy_n, y_cpy26]
  have e0 : M2 100 0 = M 100 0 := h2.1 100 0 (by omega) (by omega)
  have bL := m_td_L h2
  have bW := m_td_W hm h2
  obtain ⟨_, tL, tW, _, tR, _⟩ := m_td_e hm.1 h2
  have en : F_n (mW M) = (M 100 0).toNat := rfl
  have n5 : F_n (mW M) ≤ 5 := by omega
  have en2 : (M2 100 0).toNat = F_n (mW M) := by rw [e0]; rfl
  have main : ∀ N : Int, 0 ≤ N → N ≤ 100000 → N = ((6 ^ F_n (mW M) : Nat) : Int) → ∀ j k : Nat, (k : Int) + j = N → ∀ (B : q_M) (x : (Nat → Int) × (Nat → Int)) (l3 l4 : q_V), q_isL l3 = false → q_isL l4 = false → (∀ a i, a ≠ 123 → B a i = M2 a i) → q_W5 B (G_w V (mW M) true k) (G_w V (mW M) false k) → q_T 1 (d + 5) qP_X6_tellsWays 64 [] [qR 6 100, qI N, qI k, l3, l4] [] g (q_yM B x) Q := by
    intro N hN0 hN1 hN6 j
    induction j with
    | zero =>
      intro k hk B x l3 l4 hl3 hl4 hB hG
      rw [b_X6_tellsWays_64]
      simp (disch := omega) only [b_X6_tellsWays_0, x_loadR_0, x_loadS_0, x_iconst, x_storeI_1, x_storeI_2, b_X6_tellsWays_8, x_loadI_2, f_6_0, y_ic_ge_t, y_ic_ge_f, b_X6_tellsWays_16, x_loadI_1, x_imul, x_iinc_2, x_goto, b_X6_tellsWays_27, f_6_35, y_iast_25, b_X6_tellsWays_69, y_if_eq_t, y_if_eq_f, b_X6_tellsWays_77, x_storeI_3, y_iald_25, y_ic_eq_t, y_ic_eq_f, b_X6_tellsWays_93, x_loadI_3, y_ic_le_t, y_ic_le_f, b_X6_tellsWays_103, b_X6_tellsWays_120, y_ic_ne_t, y_ic_ne_f, b_X6_tellsWays_128, x_dup2, x_iadd, b_X6_tellsWays_148, b_X6_tellsWays_158, b_X6_tellsWays_162, b_X6_tellsWays_163, x_storeI_4, x_loadI_4, b_X6_tellsWays_175, b_X6_tellsWays_182, b_X6_tellsWays_188, b_X6_tellsWays_199, b_X6_tellsWays_203, b_X6_tellsWays_209, b_X6_tellsWays_210, b_X6_tellsWays_216, x_vret, q_isL_I, q_isL_R, q_isL_S, true_and, and_true, and_self, List.length_nil, List.length_cons, Nat.zero_add, x_K, x_Kn, Int.reduceToNat, Nat.reduceAdd, Nat.reduceMul, Nat.reduceLeDiff, Nat.reduceLT, Nat.zero_le, Int.reduceAdd, Int.reduceSub, Int.reduceMul, Int.reduceNeg, q_add_e, q_sub_e, q_mul_e, q_neg_e, q_upd_s, q_upd_n, zr_shr0, zr_shr1, zr_shr2, zr_shr3, zr_shr4, zr_and, zr_dyn8, zr_or, zr_shl, q_cpy_n, y_cpy26]
      have ek : k = 6 ^ F_n (mW M) := by omega
      rw [ek] at hG
      exact hq _ (q_mq_yM (fun a i q1 q2 => (hB a i (by omega)).trans (h2.1 a i q1 q2))) ⟨(ry_n (by omega) (by omega)).trans hG.1, (ry_n (by omega) (by omega)).trans hG.2.1, (ry_n (by omega) (by omega)).trans hG.2.2.1, (ry_n (by omega) (by omega)).trans hG.2.2.2.1, (ry_n (by omega) (by omega)).trans hG.2.2.2.2⟩
    | succ j ih =>
      intro k hk B x l3 l4 hl3 hl4 hB hG
      have eB0 : B 100 0 = M2 100 0 := hB 100 0 (by omega)
      have eL : mL B = mL M2 := by
        funext p b
        unfold mL
        rw [hB 119 _ (by omega)]
      have eW : mWn B = mWn M2 := by
        funext p b
        unfold mWn
        rw [hB 120 _ (by omega)]
      have nxt : ∀ (B2 : q_M) (y : (Nat → Int) × (Nat → Int)) (l3 l4 : q_V), q_isL l3 = false → q_isL l4 = false → (∀ a i, a ≠ 123 → B2 a i = M2 a i) → q_W5 B2 (G_w V (mW M) true (k + 1)) (G_w V (mW M) false (k + 1)) → q_T 1 (d + 5) qP_X6_tellsWays 210 [] [qR 6 100, qI N, qI k, l3, l4] [] g (q_yM B2 y) Q := by
        intro B2 y l3 l4 h3 h4 hB2 hG2
        rw [b_X6_tellsWays_210]
        simp (disch := omega) only [b_X6_tellsWays_0, x_loadR_0, x_loadS_0, x_iconst, x_storeI_1, x_storeI_2, b_X6_tellsWays_8, x_loadI_2, f_6_0, y_ic_ge_t, y_ic_ge_f, b_X6_tellsWays_16, x_loadI_1, x_imul, x_iinc_2, x_goto, b_X6_tellsWays_27, f_6_35, y_iast_25, b_X6_tellsWays_69, y_if_eq_t, y_if_eq_f, b_X6_tellsWays_77, x_storeI_3, y_iald_25, y_ic_eq_t, y_ic_eq_f, b_X6_tellsWays_93, x_loadI_3, y_ic_le_t, y_ic_le_f, b_X6_tellsWays_103, b_X6_tellsWays_120, y_ic_ne_t, y_ic_ne_f, b_X6_tellsWays_128, x_dup2, x_iadd, b_X6_tellsWays_148, b_X6_tellsWays_158, b_X6_tellsWays_162, b_X6_tellsWays_163, x_storeI_4, x_loadI_4, b_X6_tellsWays_175, b_X6_tellsWays_182, b_X6_tellsWays_188, b_X6_tellsWays_199, b_X6_tellsWays_203, b_X6_tellsWays_209, b_X6_tellsWays_216, x_vret, q_isL_I, q_isL_R, q_isL_S, true_and, and_true, and_self, List.length_nil, List.length_cons, Nat.zero_add, x_K, x_Kn, Int.reduceToNat, Nat.reduceAdd, Nat.reduceMul, Nat.reduceLeDiff, Nat.reduceLT, Nat.zero_le, Int.reduceAdd, Int.reduceSub, Int.reduceMul, Int.reduceNeg, q_add_e, q_sub_e, q_mul_e, q_neg_e, q_upd_s, q_upd_n, zr_shr0, zr_shr1, zr_shr2, zr_shr3, zr_shr4, zr_and, zr_dyn8, zr_or, zr_shl, q_cpy_n, y_cpy26]
        exact ih (k + 1) (by omega) B2 y l3 l4 h3 h4 hB2 hG2
      have sits : ∀ (nx : Nat) (ops : List Instr) (ls st : List q_V), (∀ y : (Nat → Int) × (Nat → Int), (∀ i, i < (B 100 0).toNat → y.1 i = F_way (B 100 0).toNat k i) → q_T 1 (d + 5) qP_X6_tellsWays nx ops ls (qI (if F_fits y.1 (mR B) (B 100 0).toNat 5 = true then 1 else 0) :: st) g (q_yM B y) Q) → q_S 1 (d + 4) 172 [qR 6 100, qI k] g (q_yM B x) (q_K 1 (d + 5) qP_X6_tellsWays nx ops ls st Q) := fun nx ops ls st h => mp_sitsByE (by omega) (by omega) (by omega) h
      rw [b_X6_tellsWays_64]
      simp (disch := omega) only [b_X6_tellsWays_0, x_loadR_0, x_loadS_0, x_iconst, x_storeI_1, x_storeI_2, b_X6_tellsWays_8, x_loadI_2, f_6_0, y_ic_ge_t, y_ic_ge_f, b_X6_tellsWays_16, x_loadI_1, x_imul, x_iinc_2, x_goto, b_X6_tellsWays_27, f_6_35, y_iast_25, b_X6_tellsWays_69, y_if_eq_t, y_if_eq_f, b_X6_tellsWays_77, x_storeI_3, y_iald_25, y_ic_eq_t, y_ic_eq_f, b_X6_tellsWays_93, x_loadI_3, y_ic_le_t, y_ic_le_f, b_X6_tellsWays_103, b_X6_tellsWays_120, y_ic_ne_t, y_ic_ne_f, b_X6_tellsWays_128, x_dup2, x_iadd, b_X6_tellsWays_148, b_X6_tellsWays_158, b_X6_tellsWays_162, b_X6_tellsWays_163, x_storeI_4, x_loadI_4, b_X6_tellsWays_175, b_X6_tellsWays_182, b_X6_tellsWays_188, b_X6_tellsWays_199, b_X6_tellsWays_203, b_X6_tellsWays_209, b_X6_tellsWays_216, x_vret, q_isL_I, q_isL_R, q_isL_S, true_and, and_true, and_self, List.length_nil, List.length_cons, Nat.zero_add, x_K, x_Kn, Int.reduceToNat, Nat.reduceAdd, Nat.reduceMul, Nat.reduceLeDiff, Nat.reduceLT, Nat.zero_le, Int.reduceAdd, Int.reduceSub, Int.reduceMul, Int.reduceNeg, q_add_e, q_sub_e, q_mul_e, q_neg_e, q_upd_s, q_upd_n, zr_shr0, zr_shr1, zr_shr2, zr_shr3, zr_shr4, zr_and, zr_dyn8, zr_or, zr_shl, q_cpy_n, y_cpy26, c_X6_sitsBy]
      refine sits _ _ _ _ (fun y hw => ?_)
      have eBn : (B 100 0).toNat = F_n (mW M) := by rw [eB0]; exact en2
      have hy : q_x5 (B 100 0).toNat y := fun i hi => by rw [hw i hi]; exact F_way_b
      rw [eBn] at hw
      have eR : ∀ c, c < 5 → mR B c = mW M 6 c := fun c hc => by
        have : mR B c = mR M2 c := hB 103 _ (by omega)
        rw [this]
        exact tR c hc
      have y5 : ∀ i, i < F_n (mW M) → 0 ≤ y.1 i ∧ y.1 i ≤ 5 := fun i hi => by rw [hw i hi]; exact F_way_b
      have eF : F_fits y.1 (mR B) (B 100 0).toNat 5 = F_fits (F_way (F_n (mW M)) k) (mW M 6) (F_n (mW M)) 5 := by
        rw [eBn]
        exact F_fits_e hw eR 5 (Nat.le_refl 5)
      have eS : F_sum (mL B) y.1 (B 100 0).toNat = F_sum (EL V (mW M)) (F_way (F_n (mW M)) k) (F_n (mW M)) := by
        rw [eBn, eL]
        exact F_sum_e (N := F_n (mW M)) tL hw y5 _ (Nat.le_refl _)
      have eD : F_dig y.1 (F_n (mW M)) = F_dig (F_way (F_n (mW M)) k) (F_n (mW M)) := F_dig_cong _ hw
      have kc := G_w_c (V := V) (S := mW M) (pe := true) k
      rw [eF]
      by_cases hv : F_fits (F_way (F_n (mW M)) k) (mW M 6) (F_n (mW M)) 5 = true
      rotate_left
      · rw [if_neg hv]
        simp (disch := omega) only [b_X6_tellsWays_0, x_loadR_0, x_loadS_0, x_iconst, x_storeI_1, x_storeI_2, b_X6_tellsWays_8, x_loadI_2, f_6_0, y_ic_ge_t, y_ic_ge_f, b_X6_tellsWays_16, x_loadI_1, x_imul, x_iinc_2, x_goto, b_X6_tellsWays_27, f_6_35, y_iast_25, b_X6_tellsWays_69, y_if_eq_t, y_if_eq_f, b_X6_tellsWays_77, x_storeI_3, y_iald_25, y_ic_eq_t, y_ic_eq_f, b_X6_tellsWays_93, x_loadI_3, y_ic_le_t, y_ic_le_f, b_X6_tellsWays_103, b_X6_tellsWays_120, y_ic_ne_t, y_ic_ne_f, b_X6_tellsWays_128, x_dup2, x_iadd, b_X6_tellsWays_148, b_X6_tellsWays_158, b_X6_tellsWays_162, b_X6_tellsWays_163, x_storeI_4, x_loadI_4, b_X6_tellsWays_175, b_X6_tellsWays_182, b_X6_tellsWays_188, b_X6_tellsWays_199, b_X6_tellsWays_203, b_X6_tellsWays_209, b_X6_tellsWays_216, x_vret, q_isL_I, q_isL_R, q_isL_S, true_and, and_true, and_self, List.length_nil, List.length_cons, Nat.zero_add, x_K, x_Kn, Int.reduceToNat, Nat.reduceAdd, Nat.reduceMul, Nat.reduceLeDiff, Nat.reduceLT, Nat.zero_le, Int.reduceAdd, Int.reduceSub, Int.reduceMul, Int.reduceNeg, q_add_e, q_sub_e, q_mul_e, q_neg_e, q_upd_s, q_upd_n, zr_shr0, zr_shr1, zr_shr2, zr_shr3, zr_shr4, zr_and, zr_dyn8, zr_or, zr_shl, q_cpy_n, y_cpy26]
        exact nxt B y l3 l4 hl3 hl4 hB (by rw [G_w_no hv, G_w_no hv]; exact hG)
      · rw [if_pos hv]
        have sm := fun (QQ : Option q_V → q_G → q_M → Prop) => mp_sumOf (d := d + 4) (g := g) (wt := 1) (M := B) (x := y) (by omega) (by omega) hy (by rw [eL, eB0]; exact bL) (by rw [eW, eB0]; exact bW) QQ
        have r123 : ∀ (B2 : q_M) i, q_yM B2 y 123 i = B2 123 i := fun B2 i => ry_n (by omega) (by omega)
        have uB : ∀ (B2 : q_M) i v, q_upd (q_yM B2 y) 123 i v = q_yM (q_upd B2 123 i v) y := fun B2 i v => q_yM_up (by omega) (by omega)
        -- behind the best of all
        have ag : ∀ (B2 : q_M) (s : Int) (l4 : q_V), q_isL l4 = false → (∀ a i, a ≠ 123 → B2 a i = M2 a i) → s = F_sum (EL V (mW M)) (F_way (F_n (mW M)) k) (F_n (mW M)) → q_W5 B2 (G_w V (mW M) true k) (G_w V (mW M) false (k + 1)) → q_T 1 (d + 5) qP_X6_tellsWays 120 [] [qR 6 100, qI N, qI k, qI s, l4] [] g (q_yM B2 y) Q := by
          intro B2 s l4 hl4 hB2 hs hG2
          have eB2 : B2 100 0 = M2 100 0 := hB2 100 0 (by omega)
          have hy2 : q_x5 (B2 100 0).toNat y := by rw [eB2, ← eB0]; exact hy
          rw [b_X6_tellsWays_120]
          simp (disch := omega) only [b_X6_tellsWays_0, x_loadR_0, x_loadS_0, x_iconst, x_storeI_1, x_storeI_2, b_X6_tellsWays_8, x_loadI_2, f_6_0, y_ic_ge_t, y_ic_ge_f, b_X6_tellsWays_16, x_loadI_1, x_imul, x_iinc_2, x_goto, b_X6_tellsWays_27, f_6_35, y_iast_25, b_X6_tellsWays_69, y_if_eq_t, y_if_eq_f, b_X6_tellsWays_77, x_storeI_3, y_iald_25, y_ic_eq_t, y_ic_eq_f, b_X6_tellsWays_93, x_loadI_3, y_ic_le_t, y_ic_le_f, b_X6_tellsWays_103, y_ic_ne_t, y_ic_ne_f, b_X6_tellsWays_128, x_dup2, x_iadd, b_X6_tellsWays_148, b_X6_tellsWays_158, b_X6_tellsWays_162, b_X6_tellsWays_163, x_storeI_4, x_loadI_4, b_X6_tellsWays_175, b_X6_tellsWays_182, b_X6_tellsWays_188, b_X6_tellsWays_199, b_X6_tellsWays_203, b_X6_tellsWays_209, b_X6_tellsWays_216, x_vret, q_isL_I, q_isL_R, q_isL_S, true_and, and_true, and_self, List.length_nil, List.length_cons, Nat.zero_add, x_K, x_Kn, Int.reduceToNat, Nat.reduceAdd, Nat.reduceMul, Nat.reduceLeDiff, Nat.reduceLT, Nat.zero_le, Int.reduceAdd, Int.reduceSub, Int.reduceMul, Int.reduceNeg, q_add_e, q_sub_e, q_mul_e, q_neg_e, q_upd_s, q_upd_n, zr_shr0, zr_shr1, zr_shr2, zr_shr3, zr_shr4, zr_and, zr_dyn8, zr_or, zr_shl, q_cpy_n, y_cpy26, c_X6_against, mp_against, hy2]
          have eC : F_cmp (mL B2) (G_T (mWn B2) (mR B2) y.1 (B2 100 0).toNat) y.1 (B2 100 0).toNat 0 = F_cmp (EL V (mW M)) (G_T (EW V (mW M)) (mW M 6) (F_way (F_n (mW M)) k) (F_n (mW M))) (F_way (F_n (mW M)) k) (F_n (mW M)) 0 := by
            have eL2 : mL B2 = mL M2 := by
              funext p b
              unfold mL
              rw [hB2 119 _ (by omega)]
            have eW2 : mWn B2 = mWn M2 := by
              funext p b
              unfold mWn
              rw [hB2 120 _ (by omega)]
            have eR2 : ∀ c, c < 5 → mR B2 c = mW M 6 c := fun c hc => by
              have : mR B2 c = mR M2 c := hB2 103 _ (by omega)
              rw [this]
              exact tR c hc
            rw [eB2, en2, eL2, eW2]
            refine F_cmp_e (n := F_n (mW M)) tL hw y5 (fun p b hp hb hn => ?_) _ 0 (by omega)
            unfold G_T
            rw [eR2 b hb]
            exact F_takes_cong hw (fun q hq => tW q b hq (by omega)) hp
          rw [eC]
          generalize ha : F_cmp (EL V (mW M)) (G_T (EW V (mW M)) (mW M 6) (F_way (F_n (mW M)) k) (F_n (mW M))) (F_way (F_n (mW M)) k) (F_n (mW M)) 0 = a
          have hg0 : q_add (B2 123 0) 1 = (G_w V (mW M) true k).1 + 1 := by rw [hG2.1]; exact q_add_e (by omega) (by omega)
          by_cases c1 : a = -1
          · have h163 : ∀ (B3 : q_M) (m : Int), ((m = 0 ∧ ¬((G_w V (mW M) true k).2.1 = -1 ∨ (G_w V (mW M) true k).2.2 < s)) ∨ (m = 1 ∧ ((G_w V (mW M) true k).2.1 = -1 ∨ (G_w V (mW M) true k).2.2 < s))) → (∀ a i, a ≠ 123 → B3 a i = M2 a i) → (B3 123 0 = (G_w V (mW M) true k).1 + 1 ∧ ∀ i, i ≠ 0 → B3 123 i = B2 123 i) → q_T 1 (d + 5) qP_X6_tellsWays 163 [] [qR 6 100, qI N, qI k, qI s, l4] [qI m] g (q_yM B3 y) Q := by
              intro B3 m hm hB3 hg3
              have eB3 : B3 100 0 = M2 100 0 := hB3 100 0 (by omega)
              have hy3 : q_x5 (B3 100 0).toNat y := by rw [eB3, ← eB0]; exact hy
              rw [b_X6_tellsWays_163]
              have eD3 : F_dig y.1 (B3 100 0).toNat = F_dig (F_way (F_n (mW M)) k) (F_n (mW M)) := by rw [eB3, en2]; exact eD
              have gt := G_w_t (V := V) hv (ha.trans c1)
              rw [← hs] at gt
              obtain ⟨g0, g1, g2, g3, g4⟩ := hG2
              rcases hm with ⟨hm, hc⟩ | ⟨hm, hc⟩
              · subst hm
                simp (disch := omega) only [b_X6_tellsWays_0, x_loadR_0, x_loadS_0, x_iconst, x_storeI_1, x_storeI_2, b_X6_tellsWays_8, x_loadI_2, f_6_0, y_ic_ge_t, y_ic_ge_f, b_X6_tellsWays_16, x_loadI_1, x_imul, x_iinc_2, x_goto, b_X6_tellsWays_27, f_6_35, y_iast_25, b_X6_tellsWays_69, y_if_eq_t, y_if_eq_f, b_X6_tellsWays_77, x_storeI_3, y_iald_25, y_ic_eq_t, y_ic_eq_f, b_X6_tellsWays_93, x_loadI_3, y_ic_le_t, y_ic_le_f, b_X6_tellsWays_103, y_ic_ne_t, y_ic_ne_f, b_X6_tellsWays_128, x_dup2, x_iadd, b_X6_tellsWays_148, b_X6_tellsWays_158, b_X6_tellsWays_162, x_storeI_4, x_loadI_4, b_X6_tellsWays_175, b_X6_tellsWays_182, b_X6_tellsWays_188, b_X6_tellsWays_199, b_X6_tellsWays_203, b_X6_tellsWays_209, b_X6_tellsWays_216, x_vret, q_isL_I, q_isL_R, q_isL_S, true_and, and_true, and_self, List.length_nil, List.length_cons, Nat.zero_add, x_K, x_Kn, Int.reduceToNat, Nat.reduceAdd, Nat.reduceMul, Nat.reduceLeDiff, Nat.reduceLT, Nat.zero_le, Int.reduceAdd, Int.reduceSub, Int.reduceMul, Int.reduceNeg, q_add_e, q_sub_e, q_mul_e, q_neg_e, q_upd_s, q_upd_n, zr_shr0, zr_shr1, zr_shr2, zr_shr3, zr_shr4, zr_and, zr_dyn8, zr_or, zr_shl, q_cpy_n, y_cpy26, hl4, r123, uB]
                exact nxt _ y _ _ rfl rfl (fun a i ha => (q_upd_n (by omega)).trans ((q_upd_n (by omega)).trans (hB3 a i ha))) (by
                  rw [gt, if_neg hc]
                  refine ⟨?_, ?_, ?_, ?_, ?_⟩ <;> simp (disch := omega) only [q_upd_s, q_upd_n, hg3.1, hg3.2, g1, g2, g3, g4])
              · subst hm
                simp (disch := omega) only [b_X6_tellsWays_0, x_loadR_0, x_loadS_0, x_iconst, x_storeI_1, x_storeI_2, b_X6_tellsWays_8, x_loadI_2, f_6_0, y_ic_ge_t, y_ic_ge_f, b_X6_tellsWays_16, x_loadI_1, x_imul, x_iinc_2, x_goto, b_X6_tellsWays_27, f_6_35, y_iast_25, b_X6_tellsWays_69, y_if_eq_t, y_if_eq_f, b_X6_tellsWays_77, x_storeI_3, y_iald_25, y_ic_eq_t, y_ic_eq_f, b_X6_tellsWays_93, x_loadI_3, y_ic_le_t, y_ic_le_f, b_X6_tellsWays_103, y_ic_ne_t, y_ic_ne_f, b_X6_tellsWays_128, x_dup2, x_iadd, b_X6_tellsWays_148, b_X6_tellsWays_158, b_X6_tellsWays_162, x_storeI_4, x_loadI_4, b_X6_tellsWays_175, b_X6_tellsWays_182, b_X6_tellsWays_188, b_X6_tellsWays_199, b_X6_tellsWays_203, b_X6_tellsWays_209, b_X6_tellsWays_216, x_vret, q_isL_I, q_isL_R, q_isL_S, true_and, and_true, and_self, List.length_nil, List.length_cons, Nat.zero_add, x_K, x_Kn, Int.reduceToNat, Nat.reduceAdd, Nat.reduceMul, Nat.reduceLeDiff, Nat.reduceLT, Nat.zero_le, Int.reduceAdd, Int.reduceSub, Int.reduceMul, Int.reduceNeg, q_add_e, q_sub_e, q_mul_e, q_neg_e, q_upd_s, q_upd_n, zr_shr0, zr_shr1, zr_shr2, zr_shr3, zr_shr4, zr_and, zr_dyn8, zr_or, zr_shl, q_cpy_n, y_cpy26, hl4, r123, uB, c_X6_sittingDigits, mp_sittingDigits, hy3]
                exact nxt _ y _ _ rfl rfl (fun a i ha => (q_upd_n (by omega)).trans ((q_upd_n (by omega)).trans (hB3 a i ha))) (by
                  rw [gt, if_pos hc]
                  refine ⟨?_, ?_, ?_, ?_, ?_⟩ <;> simp (disch := omega) only [q_upd_s, q_upd_n, hg3.1, hg3.2, g1, g2, g3, g4, eD3])
            have f1 : ∀ a i, a ≠ 123 → q_upd B2 123 0 (q_add (B2 123 0) 1) a i = M2 a i := fun a i ha => (q_upd_n (by omega)).trans (hB2 a i ha)
            have f2 : q_upd B2 123 0 (q_add (B2 123 0) 1) 123 0 = (G_w V (mW M) true k).1 + 1 ∧ ∀ i, i ≠ 0 → q_upd B2 123 0 (q_add (B2 123 0) 1) 123 i = B2 123 i := ⟨q_upd_s.trans hg0, fun i hi => q_upd_n (by omega)⟩
            have r1 : q_upd B2 123 0 (q_add (B2 123 0) 1) 123 1 = B2 123 1 := q_upd_n (by omega)
            have r2 : q_upd B2 123 0 (q_add (B2 123 0) 1) 123 2 = B2 123 2 := q_upd_n (by omega)
            by_cases c2 : B2 123 1 = -1
            · simp (disch := omega) only [b_X6_tellsWays_0, x_loadR_0, x_loadS_0, x_iconst, x_storeI_1, x_storeI_2, b_X6_tellsWays_8, x_loadI_2, f_6_0, y_ic_ge_t, y_ic_ge_f, b_X6_tellsWays_16, x_loadI_1, x_imul, x_iinc_2, x_goto, b_X6_tellsWays_27, f_6_35, y_iast_25, b_X6_tellsWays_69, y_if_eq_t, y_if_eq_f, b_X6_tellsWays_77, x_storeI_3, y_iald_25, y_ic_eq_t, y_ic_eq_f, b_X6_tellsWays_93, x_loadI_3, y_ic_le_t, y_ic_le_f, b_X6_tellsWays_103, y_ic_ne_t, y_ic_ne_f, b_X6_tellsWays_128, x_dup2, x_iadd, b_X6_tellsWays_148, b_X6_tellsWays_158, b_X6_tellsWays_162, x_storeI_4, x_loadI_4, b_X6_tellsWays_175, b_X6_tellsWays_182, b_X6_tellsWays_188, b_X6_tellsWays_199, b_X6_tellsWays_203, b_X6_tellsWays_209, b_X6_tellsWays_216, x_vret, q_isL_I, q_isL_R, q_isL_S, true_and, and_true, and_self, List.length_nil, List.length_cons, Nat.zero_add, x_K, x_Kn, Int.reduceToNat, Nat.reduceAdd, Nat.reduceMul, Nat.reduceLeDiff, Nat.reduceLT, Nat.zero_le, Int.reduceAdd, Int.reduceSub, Int.reduceMul, Int.reduceNeg, q_sub_e, q_mul_e, q_neg_e, q_upd_s, q_upd_n, zr_shr0, zr_shr1, zr_shr2, zr_shr3, zr_shr4, zr_and, zr_dyn8, zr_or, zr_shl, q_cpy_n, y_cpy26, r123, uB, r1, r2]
              exact h163 _ 1 (Or.inr ⟨rfl, Or.inl (by rw [← hG2.2.1]; exact c2)⟩) f1 f2
            · by_cases c3 : s ≤ B2 123 2
              · simp (disch := omega) only [b_X6_tellsWays_0, x_loadR_0, x_loadS_0, x_iconst, x_storeI_1, x_storeI_2, b_X6_tellsWays_8, x_loadI_2, f_6_0, y_ic_ge_t, y_ic_ge_f, b_X6_tellsWays_16, x_loadI_1, x_imul, x_iinc_2, x_goto, b_X6_tellsWays_27, f_6_35, y_iast_25, b_X6_tellsWays_69, y_if_eq_t, y_if_eq_f, b_X6_tellsWays_77, x_storeI_3, y_iald_25, y_ic_eq_t, y_ic_eq_f, b_X6_tellsWays_93, x_loadI_3, y_ic_le_t, y_ic_le_f, b_X6_tellsWays_103, y_ic_ne_t, y_ic_ne_f, b_X6_tellsWays_128, x_dup2, x_iadd, b_X6_tellsWays_148, b_X6_tellsWays_158, b_X6_tellsWays_162, x_storeI_4, x_loadI_4, b_X6_tellsWays_175, b_X6_tellsWays_182, b_X6_tellsWays_188, b_X6_tellsWays_199, b_X6_tellsWays_203, b_X6_tellsWays_209, b_X6_tellsWays_216, x_vret, q_isL_I, q_isL_R, q_isL_S, true_and, and_true, and_self, List.length_nil, List.length_cons, Nat.zero_add, x_K, x_Kn, Int.reduceToNat, Nat.reduceAdd, Nat.reduceMul, Nat.reduceLeDiff, Nat.reduceLT, Nat.zero_le, Int.reduceAdd, Int.reduceSub, Int.reduceMul, Int.reduceNeg, q_sub_e, q_mul_e, q_neg_e, q_upd_s, q_upd_n, zr_shr0, zr_shr1, zr_shr2, zr_shr3, zr_shr4, zr_and, zr_dyn8, zr_or, zr_shl, q_cpy_n, y_cpy26, r123, uB, r1, r2]
                exact h163 _ 0 (Or.inl ⟨rfl, by rw [← hG2.2.1, ← hG2.2.2.1]; omega⟩) f1 f2
              · simp (disch := omega) only [b_X6_tellsWays_0, x_loadR_0, x_loadS_0, x_iconst, x_storeI_1, x_storeI_2, b_X6_tellsWays_8, x_loadI_2, f_6_0, y_ic_ge_t, y_ic_ge_f, b_X6_tellsWays_16, x_loadI_1, x_imul, x_iinc_2, x_goto, b_X6_tellsWays_27, f_6_35, y_iast_25, b_X6_tellsWays_69, y_if_eq_t, y_if_eq_f, b_X6_tellsWays_77, x_storeI_3, y_iald_25, y_ic_eq_t, y_ic_eq_f, b_X6_tellsWays_93, x_loadI_3, y_ic_le_t, y_ic_le_f, b_X6_tellsWays_103, y_ic_ne_t, y_ic_ne_f, b_X6_tellsWays_128, x_dup2, x_iadd, b_X6_tellsWays_148, b_X6_tellsWays_158, b_X6_tellsWays_162, x_storeI_4, x_loadI_4, b_X6_tellsWays_175, b_X6_tellsWays_182, b_X6_tellsWays_188, b_X6_tellsWays_199, b_X6_tellsWays_203, b_X6_tellsWays_209, b_X6_tellsWays_216, x_vret, q_isL_I, q_isL_R, q_isL_S, true_and, and_true, and_self, List.length_nil, List.length_cons, Nat.zero_add, x_K, x_Kn, Int.reduceToNat, Nat.reduceAdd, Nat.reduceMul, Nat.reduceLeDiff, Nat.reduceLT, Nat.zero_le, Int.reduceAdd, Int.reduceSub, Int.reduceMul, Int.reduceNeg, q_sub_e, q_mul_e, q_neg_e, q_upd_s, q_upd_n, zr_shr0, zr_shr1, zr_shr2, zr_shr3, zr_shr4, zr_and, zr_dyn8, zr_or, zr_shl, q_cpy_n, y_cpy26, r123, uB, r1, r2]
                exact h163 _ 1 (Or.inr ⟨rfl, Or.inr (by rw [← hG2.2.2.1]; omega)⟩) f1 f2
          · simp (disch := omega) only [b_X6_tellsWays_0, x_loadR_0, x_loadS_0, x_iconst, x_storeI_1, x_storeI_2, b_X6_tellsWays_8, x_loadI_2, f_6_0, y_ic_ge_t, y_ic_ge_f, b_X6_tellsWays_16, x_loadI_1, x_imul, x_iinc_2, x_goto, b_X6_tellsWays_27, f_6_35, y_iast_25, b_X6_tellsWays_69, y_if_eq_t, y_if_eq_f, b_X6_tellsWays_77, x_storeI_3, y_iald_25, y_ic_eq_t, y_ic_eq_f, b_X6_tellsWays_93, x_loadI_3, y_ic_le_t, y_ic_le_f, b_X6_tellsWays_103, y_ic_ne_t, y_ic_ne_f, b_X6_tellsWays_128, x_dup2, x_iadd, b_X6_tellsWays_148, b_X6_tellsWays_158, b_X6_tellsWays_162, b_X6_tellsWays_163, x_storeI_4, x_loadI_4, b_X6_tellsWays_175, b_X6_tellsWays_182, b_X6_tellsWays_188, b_X6_tellsWays_199, b_X6_tellsWays_203, b_X6_tellsWays_209, b_X6_tellsWays_216, x_vret, q_isL_I, q_isL_R, q_isL_S, true_and, and_true, and_self, List.length_nil, List.length_cons, Nat.zero_add, x_K, x_Kn, Int.reduceToNat, Nat.reduceAdd, Nat.reduceMul, Nat.reduceLeDiff, Nat.reduceLT, Nat.zero_le, Int.reduceAdd, Int.reduceSub, Int.reduceMul, Int.reduceNeg, q_add_e, q_sub_e, q_mul_e, q_neg_e, q_upd_s, q_upd_n, zr_shr0, zr_shr1, zr_shr2, zr_shr3, zr_shr4, zr_and, zr_dyn8, zr_or, zr_shl, q_cpy_n, y_cpy26]
            exact nxt B2 y _ _ rfl hl4 hB2 (by rw [G_w_n (by rw [ha]; exact c1)]; exact hG2)
        simp (disch := omega) only [b_X6_tellsWays_0, x_loadR_0, x_loadS_0, x_iconst, x_storeI_1, x_storeI_2, b_X6_tellsWays_8, x_loadI_2, f_6_0, y_ic_ge_t, y_ic_ge_f, b_X6_tellsWays_16, x_loadI_1, x_imul, x_iinc_2, x_goto, b_X6_tellsWays_27, f_6_35, y_iast_25, b_X6_tellsWays_69, y_if_eq_t, y_if_eq_f, b_X6_tellsWays_77, x_storeI_3, y_iald_25, y_ic_eq_t, y_ic_eq_f, b_X6_tellsWays_93, x_loadI_3, y_ic_le_t, y_ic_le_f, b_X6_tellsWays_103, y_ic_ne_t, y_ic_ne_f, b_X6_tellsWays_128, x_dup2, x_iadd, b_X6_tellsWays_148, b_X6_tellsWays_158, b_X6_tellsWays_162, b_X6_tellsWays_163, x_storeI_4, x_loadI_4, b_X6_tellsWays_175, b_X6_tellsWays_182, b_X6_tellsWays_188, b_X6_tellsWays_199, b_X6_tellsWays_203, b_X6_tellsWays_209, b_X6_tellsWays_216, x_vret, q_isL_I, q_isL_R, q_isL_S, true_and, and_true, and_self, List.length_nil, List.length_cons, Nat.zero_add, x_K, x_Kn, Int.reduceToNat, Nat.reduceAdd, Nat.reduceMul, Nat.reduceLeDiff, Nat.reduceLT, Nat.zero_le, Int.reduceAdd, Int.reduceSub, Int.reduceMul, Int.reduceNeg, q_add_e, q_sub_e, q_mul_e, q_neg_e, q_upd_s, q_upd_n, zr_shr0, zr_shr1, zr_shr2, zr_shr3, zr_shr4, zr_and, zr_dyn8, zr_or, zr_shl, q_cpy_n, y_cpy26, c_X6_sumOf, sm, if_true, hl3]
        rw [eS]
        generalize hs : F_sum (EL V (mW M)) (F_way (F_n (mW M)) k) (F_n (mW M)) = s
        have gf := G_w_f (V := V) hv
        rw [hs] at gf
        have eDB : F_dig y.1 (B 100 0).toNat = F_dig (F_way (F_n (mW M)) k) (F_n (mW M)) := by rw [eBn]; exact eD
        obtain ⟨g0, g1, g2, g3, g4⟩ := hG
        by_cases c4 : B 123 3 = -1
        · simp (disch := omega) only [b_X6_tellsWays_0, x_loadR_0, x_loadS_0, x_iconst, x_storeI_1, x_storeI_2, b_X6_tellsWays_8, x_loadI_2, f_6_0, y_ic_ge_t, y_ic_ge_f, b_X6_tellsWays_16, x_loadI_1, x_imul, x_iinc_2, x_goto, b_X6_tellsWays_27, f_6_35, y_iast_25, b_X6_tellsWays_69, y_if_eq_t, y_if_eq_f, b_X6_tellsWays_77, x_storeI_3, y_iald_25, y_ic_eq_t, y_ic_eq_f, b_X6_tellsWays_93, x_loadI_3, y_ic_le_t, y_ic_le_f, b_X6_tellsWays_103, y_ic_ne_t, y_ic_ne_f, b_X6_tellsWays_128, x_dup2, x_iadd, b_X6_tellsWays_148, b_X6_tellsWays_158, b_X6_tellsWays_162, b_X6_tellsWays_163, x_storeI_4, x_loadI_4, b_X6_tellsWays_175, b_X6_tellsWays_182, b_X6_tellsWays_188, b_X6_tellsWays_199, b_X6_tellsWays_203, b_X6_tellsWays_209, b_X6_tellsWays_216, x_vret, q_isL_I, q_isL_R, q_isL_S, true_and, and_true, and_self, List.length_nil, List.length_cons, Nat.zero_add, x_K, x_Kn, Int.reduceToNat, Nat.reduceAdd, Nat.reduceMul, Nat.reduceLeDiff, Nat.reduceLT, Nat.zero_le, Int.reduceAdd, Int.reduceSub, Int.reduceMul, Int.reduceNeg, q_add_e, q_sub_e, q_mul_e, q_neg_e, q_upd_s, q_upd_n, zr_shr0, zr_shr1, zr_shr2, zr_shr3, zr_shr4, zr_and, zr_dyn8, zr_or, zr_shl, q_cpy_n, y_cpy26, r123, uB, c_X6_sittingDigits, mp_sittingDigits, hy]
          exact ag _ s l4 hl4 (fun a i ha => (q_upd_n (by omega)).trans ((q_upd_n (by omega)).trans (hB a i ha))) hs.symm (by
              unfold q_W5
              rw [gf, if_pos (by omega)]
              refine ⟨?_, ?_, ?_, ?_, ?_⟩ <;> simp (disch := omega) only [q_upd_s, q_upd_n, g0, g1, g2, eDB])
        · by_cases c5 : s ≤ B 123 4
          · simp (disch := omega) only [b_X6_tellsWays_0, x_loadR_0, x_loadS_0, x_iconst, x_storeI_1, x_storeI_2, b_X6_tellsWays_8, x_loadI_2, f_6_0, y_ic_ge_t, y_ic_ge_f, b_X6_tellsWays_16, x_loadI_1, x_imul, x_iinc_2, x_goto, b_X6_tellsWays_27, f_6_35, y_iast_25, b_X6_tellsWays_69, y_if_eq_t, y_if_eq_f, b_X6_tellsWays_77, x_storeI_3, y_iald_25, y_ic_eq_t, y_ic_eq_f, b_X6_tellsWays_93, x_loadI_3, y_ic_le_t, y_ic_le_f, b_X6_tellsWays_103, y_ic_ne_t, y_ic_ne_f, b_X6_tellsWays_128, x_dup2, x_iadd, b_X6_tellsWays_148, b_X6_tellsWays_158, b_X6_tellsWays_162, b_X6_tellsWays_163, x_storeI_4, x_loadI_4, b_X6_tellsWays_175, b_X6_tellsWays_182, b_X6_tellsWays_188, b_X6_tellsWays_199, b_X6_tellsWays_203, b_X6_tellsWays_209, b_X6_tellsWays_216, x_vret, q_isL_I, q_isL_R, q_isL_S, true_and, and_true, and_self, List.length_nil, List.length_cons, Nat.zero_add, x_K, x_Kn, Int.reduceToNat, Nat.reduceAdd, Nat.reduceMul, Nat.reduceLeDiff, Nat.reduceLT, Nat.zero_le, Int.reduceAdd, Int.reduceSub, Int.reduceMul, Int.reduceNeg, q_add_e, q_sub_e, q_mul_e, q_neg_e, q_upd_s, q_upd_n, zr_shr0, zr_shr1, zr_shr2, zr_shr3, zr_shr4, zr_and, zr_dyn8, zr_or, zr_shl, q_cpy_n, y_cpy26, r123, uB]
            exact ag B s l4 hl4 hB hs.symm (by
              unfold q_W5
              rw [gf, if_neg (by omega)]
              exact ⟨g0, g1, g2, g3, g4⟩)
          · simp (disch := omega) only [b_X6_tellsWays_0, x_loadR_0, x_loadS_0, x_iconst, x_storeI_1, x_storeI_2, b_X6_tellsWays_8, x_loadI_2, f_6_0, y_ic_ge_t, y_ic_ge_f, b_X6_tellsWays_16, x_loadI_1, x_imul, x_iinc_2, x_goto, b_X6_tellsWays_27, f_6_35, y_iast_25, b_X6_tellsWays_69, y_if_eq_t, y_if_eq_f, b_X6_tellsWays_77, x_storeI_3, y_iald_25, y_ic_eq_t, y_ic_eq_f, b_X6_tellsWays_93, x_loadI_3, y_ic_le_t, y_ic_le_f, b_X6_tellsWays_103, y_ic_ne_t, y_ic_ne_f, b_X6_tellsWays_128, x_dup2, x_iadd, b_X6_tellsWays_148, b_X6_tellsWays_158, b_X6_tellsWays_162, b_X6_tellsWays_163, x_storeI_4, x_loadI_4, b_X6_tellsWays_175, b_X6_tellsWays_182, b_X6_tellsWays_188, b_X6_tellsWays_199, b_X6_tellsWays_203, b_X6_tellsWays_209, b_X6_tellsWays_216, x_vret, q_isL_I, q_isL_R, q_isL_S, true_and, and_true, and_self, List.length_nil, List.length_cons, Nat.zero_add, x_K, x_Kn, Int.reduceToNat, Nat.reduceAdd, Nat.reduceMul, Nat.reduceLeDiff, Nat.reduceLT, Nat.zero_le, Int.reduceAdd, Int.reduceSub, Int.reduceMul, Int.reduceNeg, q_add_e, q_sub_e, q_mul_e, q_neg_e, q_upd_s, q_upd_n, zr_shr0, zr_shr1, zr_shr2, zr_shr3, zr_shr4, zr_and, zr_dyn8, zr_or, zr_shl, q_cpy_n, y_cpy26, r123, uB, c_X6_sittingDigits, mp_sittingDigits, hy]
            exact ag _ s l4 hl4 (fun a i ha => (q_upd_n (by omega)).trans ((q_upd_n (by omega)).trans (hB a i ha))) hs.symm (by
              unfold q_W5
              rw [gf, if_pos (by omega)]
              refine ⟨?_, ?_, ?_, ?_, ?_⟩ <;> simp (disch := omega) only [q_upd_s, q_upd_n, g0, g1, g2, eDB])
  have init : ∀ (N p : Int) (l3 l4 : q_V), q_isL l3 = false → q_isL l4 = false → 0 ≤ N → N ≤ 100000 → N = ((6 ^ F_n (mW M) : Nat) : Int) → q_T 1 (d + 5) qP_X6_tellsWays 27 [] [qR 6 100, qI N, qI p, l3, l4] [] g M2 Q := by
    intro N p l3 l4 hl3 hl4 hN0 hN1 hN6
    rw [b_X6_tellsWays_27]
    simp (disch := omega) only [b_X6_tellsWays_0, x_loadR_0, x_loadS_0, x_iconst, x_storeI_1, x_storeI_2, b_X6_tellsWays_8, x_loadI_2, f_6_0, y_ic_ge_t, y_ic_ge_f, b_X6_tellsWays_16, x_loadI_1, x_imul, x_iinc_2, x_goto, f_6_35, y_iast_25, b_X6_tellsWays_69, y_if_eq_t, y_if_eq_f, b_X6_tellsWays_77, x_storeI_3, y_iald_25, y_ic_eq_t, y_ic_eq_f, b_X6_tellsWays_93, x_loadI_3, y_ic_le_t, y_ic_le_f, b_X6_tellsWays_103, b_X6_tellsWays_120, y_ic_ne_t, y_ic_ne_f, b_X6_tellsWays_128, x_dup2, x_iadd, b_X6_tellsWays_148, b_X6_tellsWays_158, b_X6_tellsWays_162, b_X6_tellsWays_163, x_storeI_4, x_loadI_4, b_X6_tellsWays_175, b_X6_tellsWays_182, b_X6_tellsWays_188, b_X6_tellsWays_199, b_X6_tellsWays_203, b_X6_tellsWays_209, b_X6_tellsWays_210, b_X6_tellsWays_216, x_vret, q_isL_I, q_isL_R, q_isL_S, true_and, and_true, and_self, List.length_nil, List.length_cons, Nat.zero_add, x_K, x_Kn, Int.reduceToNat, Nat.reduceAdd, Nat.reduceMul, Nat.reduceLeDiff, Nat.reduceLT, Nat.zero_le, Int.reduceAdd, Int.reduceSub, Int.reduceMul, Int.reduceNeg, q_add_e, q_sub_e, q_mul_e, q_neg_e, q_upd_s, q_upd_n, zr_shr0, zr_shr1, zr_shr2, zr_shr3, zr_shr4, zr_and, zr_dyn8, zr_or, zr_shl, q_cpy_n, y_cpy26]
    have m := main N hN0 hN1 hN6 N.toNat 0 (by omega) (q_upd (q_upd (q_upd (q_upd (q_upd M2 123 0 0) 123 1 (-1)) 123 2 0) 123 3 (-1)) 123 4 0) (m_st M2) l3 l4 hl3 hl4 (fun a i ha => by rw [q_upd_n (by omega), q_upd_n (by omega), q_upd_n (by omega), q_upd_n (by omega), q_upd_n (by omega)]) ⟨show _ = (0 : Int) by simp (disch := omega) only [q_upd_s, q_upd_n], show _ = (-1 : Int) by simp (disch := omega) only [q_upd_s, q_upd_n], show _ = (0 : Int) by simp (disch := omega) only [q_upd_s, q_upd_n], show _ = (-1 : Int) by simp (disch := omega) only [q_upd_s, q_upd_n], show _ = (0 : Int) by simp (disch := omega) only [q_upd_s, q_upd_n]⟩
    rw [← q_yM_up (by omega) (by omega), ← q_yM_up (by omega) (by omega), ← q_yM_up (by omega) (by omega), ← q_yM_up (by omega) (by omega), ← q_yM_up (by omega) (by omega), q_yM_self] at m
    exact m
  rcases (show M2 100 0 = 0 ∨ M2 100 0 = 1 ∨ M2 100 0 = 2 ∨ M2 100 0 = 3 ∨ M2 100 0 = 4 ∨ M2 100 0 = 5 by omega) with k | k | k | k | k | k
  · simp (disch := omega) only [b_X6_tellsWays_0, x_loadR_0, x_loadS_0, x_iconst, x_storeI_1, x_storeI_2, b_X6_tellsWays_8, x_loadI_2, f_6_0, y_ic_ge_t, y_ic_ge_f, b_X6_tellsWays_16, x_loadI_1, x_imul, x_iinc_2, x_goto, f_6_35, y_iast_25, b_X6_tellsWays_69, y_if_eq_t, y_if_eq_f, b_X6_tellsWays_77, x_storeI_3, y_iald_25, y_ic_eq_t, y_ic_eq_f, b_X6_tellsWays_93, x_loadI_3, y_ic_le_t, y_ic_le_f, b_X6_tellsWays_103, b_X6_tellsWays_120, y_ic_ne_t, y_ic_ne_f, b_X6_tellsWays_128, x_dup2, x_iadd, b_X6_tellsWays_148, b_X6_tellsWays_158, b_X6_tellsWays_162, b_X6_tellsWays_163, x_storeI_4, x_loadI_4, b_X6_tellsWays_175, b_X6_tellsWays_182, b_X6_tellsWays_188, b_X6_tellsWays_199, b_X6_tellsWays_203, b_X6_tellsWays_209, b_X6_tellsWays_210, b_X6_tellsWays_216, x_vret, q_isL_I, q_isL_R, q_isL_S, true_and, and_true, and_self, List.length_nil, List.length_cons, Nat.zero_add, x_K, x_Kn, Int.reduceToNat, Nat.reduceAdd, Nat.reduceMul, Nat.reduceLeDiff, Nat.reduceLT, Nat.zero_le, Int.reduceAdd, Int.reduceSub, Int.reduceMul, Int.reduceNeg, q_add_e, q_sub_e, q_mul_e, q_neg_e, q_upd_s, q_upd_n, zr_shr0, zr_shr1, zr_shr2, zr_shr3, zr_shr4, zr_and, zr_dyn8, zr_or, zr_shl, q_cpy_n, y_cpy26, k]
    exact init _ _ _ _ rfl rfl (by omega) (by omega) (by rw [show F_n (mW M) = 0 by omega]; rfl)
  · simp (disch := omega) only [b_X6_tellsWays_0, x_loadR_0, x_loadS_0, x_iconst, x_storeI_1, x_storeI_2, b_X6_tellsWays_8, x_loadI_2, f_6_0, y_ic_ge_t, y_ic_ge_f, b_X6_tellsWays_16, x_loadI_1, x_imul, x_iinc_2, x_goto, f_6_35, y_iast_25, b_X6_tellsWays_69, y_if_eq_t, y_if_eq_f, b_X6_tellsWays_77, x_storeI_3, y_iald_25, y_ic_eq_t, y_ic_eq_f, b_X6_tellsWays_93, x_loadI_3, y_ic_le_t, y_ic_le_f, b_X6_tellsWays_103, b_X6_tellsWays_120, y_ic_ne_t, y_ic_ne_f, b_X6_tellsWays_128, x_dup2, x_iadd, b_X6_tellsWays_148, b_X6_tellsWays_158, b_X6_tellsWays_162, b_X6_tellsWays_163, x_storeI_4, x_loadI_4, b_X6_tellsWays_175, b_X6_tellsWays_182, b_X6_tellsWays_188, b_X6_tellsWays_199, b_X6_tellsWays_203, b_X6_tellsWays_209, b_X6_tellsWays_210, b_X6_tellsWays_216, x_vret, q_isL_I, q_isL_R, q_isL_S, true_and, and_true, and_self, List.length_nil, List.length_cons, Nat.zero_add, x_K, x_Kn, Int.reduceToNat, Nat.reduceAdd, Nat.reduceMul, Nat.reduceLeDiff, Nat.reduceLT, Nat.zero_le, Int.reduceAdd, Int.reduceSub, Int.reduceMul, Int.reduceNeg, q_add_e, q_sub_e, q_mul_e, q_neg_e, q_upd_s, q_upd_n, zr_shr0, zr_shr1, zr_shr2, zr_shr3, zr_shr4, zr_and, zr_dyn8, zr_or, zr_shl, q_cpy_n, y_cpy26, k]
    exact init _ _ _ _ rfl rfl (by omega) (by omega) (by rw [show F_n (mW M) = 1 by omega]; rfl)
  · simp (disch := omega) only [b_X6_tellsWays_0, x_loadR_0, x_loadS_0, x_iconst, x_storeI_1, x_storeI_2, b_X6_tellsWays_8, x_loadI_2, f_6_0, y_ic_ge_t, y_ic_ge_f, b_X6_tellsWays_16, x_loadI_1, x_imul, x_iinc_2, x_goto, f_6_35, y_iast_25, b_X6_tellsWays_69, y_if_eq_t, y_if_eq_f, b_X6_tellsWays_77, x_storeI_3, y_iald_25, y_ic_eq_t, y_ic_eq_f, b_X6_tellsWays_93, x_loadI_3, y_ic_le_t, y_ic_le_f, b_X6_tellsWays_103, b_X6_tellsWays_120, y_ic_ne_t, y_ic_ne_f, b_X6_tellsWays_128, x_dup2, x_iadd, b_X6_tellsWays_148, b_X6_tellsWays_158, b_X6_tellsWays_162, b_X6_tellsWays_163, x_storeI_4, x_loadI_4, b_X6_tellsWays_175, b_X6_tellsWays_182, b_X6_tellsWays_188, b_X6_tellsWays_199, b_X6_tellsWays_203, b_X6_tellsWays_209, b_X6_tellsWays_210, b_X6_tellsWays_216, x_vret, q_isL_I, q_isL_R, q_isL_S, true_and, and_true, and_self, List.length_nil, List.length_cons, Nat.zero_add, x_K, x_Kn, Int.reduceToNat, Nat.reduceAdd, Nat.reduceMul, Nat.reduceLeDiff, Nat.reduceLT, Nat.zero_le, Int.reduceAdd, Int.reduceSub, Int.reduceMul, Int.reduceNeg, q_add_e, q_sub_e, q_mul_e, q_neg_e, q_upd_s, q_upd_n, zr_shr0, zr_shr1, zr_shr2, zr_shr3, zr_shr4, zr_and, zr_dyn8, zr_or, zr_shl, q_cpy_n, y_cpy26, k]
    exact init _ _ _ _ rfl rfl (by omega) (by omega) (by rw [show F_n (mW M) = 2 by omega]; rfl)
  · simp (disch := omega) only [b_X6_tellsWays_0, x_loadR_0, x_loadS_0, x_iconst, x_storeI_1, x_storeI_2, b_X6_tellsWays_8, x_loadI_2, f_6_0, y_ic_ge_t, y_ic_ge_f, b_X6_tellsWays_16, x_loadI_1, x_imul, x_iinc_2, x_goto, f_6_35, y_iast_25, b_X6_tellsWays_69, y_if_eq_t, y_if_eq_f, b_X6_tellsWays_77, x_storeI_3, y_iald_25, y_ic_eq_t, y_ic_eq_f, b_X6_tellsWays_93, x_loadI_3, y_ic_le_t, y_ic_le_f, b_X6_tellsWays_103, b_X6_tellsWays_120, y_ic_ne_t, y_ic_ne_f, b_X6_tellsWays_128, x_dup2, x_iadd, b_X6_tellsWays_148, b_X6_tellsWays_158, b_X6_tellsWays_162, b_X6_tellsWays_163, x_storeI_4, x_loadI_4, b_X6_tellsWays_175, b_X6_tellsWays_182, b_X6_tellsWays_188, b_X6_tellsWays_199, b_X6_tellsWays_203, b_X6_tellsWays_209, b_X6_tellsWays_210, b_X6_tellsWays_216, x_vret, q_isL_I, q_isL_R, q_isL_S, true_and, and_true, and_self, List.length_nil, List.length_cons, Nat.zero_add, x_K, x_Kn, Int.reduceToNat, Nat.reduceAdd, Nat.reduceMul, Nat.reduceLeDiff, Nat.reduceLT, Nat.zero_le, Int.reduceAdd, Int.reduceSub, Int.reduceMul, Int.reduceNeg, q_add_e, q_sub_e, q_mul_e, q_neg_e, q_upd_s, q_upd_n, zr_shr0, zr_shr1, zr_shr2, zr_shr3, zr_shr4, zr_and, zr_dyn8, zr_or, zr_shl, q_cpy_n, y_cpy26, k]
    exact init _ _ _ _ rfl rfl (by omega) (by omega) (by rw [show F_n (mW M) = 3 by omega]; rfl)
  · simp (disch := omega) only [b_X6_tellsWays_0, x_loadR_0, x_loadS_0, x_iconst, x_storeI_1, x_storeI_2, b_X6_tellsWays_8, x_loadI_2, f_6_0, y_ic_ge_t, y_ic_ge_f, b_X6_tellsWays_16, x_loadI_1, x_imul, x_iinc_2, x_goto, f_6_35, y_iast_25, b_X6_tellsWays_69, y_if_eq_t, y_if_eq_f, b_X6_tellsWays_77, x_storeI_3, y_iald_25, y_ic_eq_t, y_ic_eq_f, b_X6_tellsWays_93, x_loadI_3, y_ic_le_t, y_ic_le_f, b_X6_tellsWays_103, b_X6_tellsWays_120, y_ic_ne_t, y_ic_ne_f, b_X6_tellsWays_128, x_dup2, x_iadd, b_X6_tellsWays_148, b_X6_tellsWays_158, b_X6_tellsWays_162, b_X6_tellsWays_163, x_storeI_4, x_loadI_4, b_X6_tellsWays_175, b_X6_tellsWays_182, b_X6_tellsWays_188, b_X6_tellsWays_199, b_X6_tellsWays_203, b_X6_tellsWays_209, b_X6_tellsWays_210, b_X6_tellsWays_216, x_vret, q_isL_I, q_isL_R, q_isL_S, true_and, and_true, and_self, List.length_nil, List.length_cons, Nat.zero_add, x_K, x_Kn, Int.reduceToNat, Nat.reduceAdd, Nat.reduceMul, Nat.reduceLeDiff, Nat.reduceLT, Nat.zero_le, Int.reduceAdd, Int.reduceSub, Int.reduceMul, Int.reduceNeg, q_add_e, q_sub_e, q_mul_e, q_neg_e, q_upd_s, q_upd_n, zr_shr0, zr_shr1, zr_shr2, zr_shr3, zr_shr4, zr_and, zr_dyn8, zr_or, zr_shl, q_cpy_n, y_cpy26, k]
    exact init _ _ _ _ rfl rfl (by omega) (by omega) (by rw [show F_n (mW M) = 4 by omega]; rfl)
  · simp (disch := omega) only [b_X6_tellsWays_0, x_loadR_0, x_loadS_0, x_iconst, x_storeI_1, x_storeI_2, b_X6_tellsWays_8, x_loadI_2, f_6_0, y_ic_ge_t, y_ic_ge_f, b_X6_tellsWays_16, x_loadI_1, x_imul, x_iinc_2, x_goto, f_6_35, y_iast_25, b_X6_tellsWays_69, y_if_eq_t, y_if_eq_f, b_X6_tellsWays_77, x_storeI_3, y_iald_25, y_ic_eq_t, y_ic_eq_f, b_X6_tellsWays_93, x_loadI_3, y_ic_le_t, y_ic_le_f, b_X6_tellsWays_103, b_X6_tellsWays_120, y_ic_ne_t, y_ic_ne_f, b_X6_tellsWays_128, x_dup2, x_iadd, b_X6_tellsWays_148, b_X6_tellsWays_158, b_X6_tellsWays_162, b_X6_tellsWays_163, x_storeI_4, x_loadI_4, b_X6_tellsWays_175, b_X6_tellsWays_182, b_X6_tellsWays_188, b_X6_tellsWays_199, b_X6_tellsWays_203, b_X6_tellsWays_209, b_X6_tellsWays_210, b_X6_tellsWays_216, x_vret, q_isL_I, q_isL_R, q_isL_S, true_and, and_true, and_self, List.length_nil, List.length_cons, Nat.zero_add, x_K, x_Kn, Int.reduceToNat, Nat.reduceAdd, Nat.reduceMul, Nat.reduceLeDiff, Nat.reduceLT, Nat.zero_le, Int.reduceAdd, Int.reduceSub, Int.reduceMul, Int.reduceNeg, q_add_e, q_sub_e, q_mul_e, q_neg_e, q_upd_s, q_upd_n, zr_shr0, zr_shr1, zr_shr2, zr_shr3, zr_shr4, zr_and, zr_dyn8, zr_or, zr_shl, q_cpy_n, y_cpy26, k]
    exact init _ _ _ _ rfl rfl (by omega) (by omega) (by rw [show F_n (mW M) = 5 by omega]; rfl)
set_option maxHeartbeats 4000000 in
theorem mp_allE {V : Nat → (Nat → Int) → Int} {d : Nat} {g : q_G} {M : q_M} {wt : Int} {Q : Option q_V → q_G → q_M → Prop} (hm : q_ml V M) (hq : ∀ M2 : q_M, q_mq M M2 → Q (some (qI (E_all V (mW M) wt))) g M2) : q_S 1 (d + 6) 174 [qR 6 100, qI wt] g M Q := by
  rw [s_X6_all]
  by_cases c : 0 ≤ wt ∧ wt ≤ 4
  · have ways : ∀ (nx : Nat) (ops : List Instr) (ls st : List q_V), (∀ M2 : q_M, q_mq M M2 → q_W5 M2 (G_w V (mW M) true (6 ^ F_n (mW M))) (G_w V (mW M) false (6 ^ F_n (mW M))) → q_T 1 (d + 6) qP_X6_all nx ops ls st g M2 Q) → q_S 1 (d + 5) 173 [qR 6 100] g M (q_K 1 (d + 6) qP_X6_all nx ops ls st Q) := fun nx ops ls st h => mp_waysE hm h
    simp (disch := omega) only [b_X6_all_0, x_loadI_1, x_iconst, y_if_ne_t, y_if_ne_f, b_X6_all_9, x_ret0, b_X6_all_12, x_loadR_0, x_loadS_0, f_6_35, y_iald_25, q_isL_I, q_isL_R, q_isL_S, true_and, and_true, and_self, List.length_nil, List.length_cons, Nat.zero_add, x_K, x_Kn, Int.reduceToNat, Nat.reduceAdd, Nat.reduceMul, Nat.reduceLeDiff, Nat.reduceLT, Nat.zero_le, Int.reduceAdd, Int.reduceSub, Int.reduceMul, Int.reduceNeg, q_add_e, q_sub_e, q_mul_e, q_neg_e, q_upd_s, q_upd_n, zr_shr0, zr_shr1, zr_shr2, zr_shr3, zr_shr4, zr_and, zr_dyn8, zr_or, zr_shl, q_cpy_n, y_cpy26, c_X6_in, mp_in, c, and_self, if_true, c_X6_tellsWays]
    refine ways _ _ _ _ (fun M2 h2 h3 => ?_)
    obtain ⟨g0, g1, g2, g3, g4⟩ := h3
    rcases (show wt = 0 ∨ wt = 1 ∨ wt = 2 ∨ wt = 3 ∨ wt = 4 by omega) with z | z | z | z | z
    · subst z
      simp (disch := omega) only [b_X6_all_0, x_loadI_1, x_iconst, y_if_ne_t, y_if_ne_f, b_X6_all_9, x_ret0, b_X6_all_12, x_loadR_0, x_loadS_0, f_6_35, y_iald_25, q_isL_I, q_isL_R, q_isL_S, true_and, and_true, and_self, List.length_nil, List.length_cons, Nat.zero_add, x_K, x_Kn, Int.reduceToNat, Nat.reduceAdd, Nat.reduceMul, Nat.reduceLeDiff, Nat.reduceLT, Nat.zero_le, Int.reduceAdd, Int.reduceSub, Int.reduceMul, Int.reduceNeg, q_add_e, q_sub_e, q_mul_e, q_neg_e, q_upd_s, q_upd_n, zr_shr0, zr_shr1, zr_shr2, zr_shr3, zr_shr4, zr_and, zr_dyn8, zr_or, zr_shl, q_cpy_n, y_cpy26]
      exact q_ans (hq M2 h2) g0
    · subst z
      simp (disch := omega) only [b_X6_all_0, x_loadI_1, x_iconst, y_if_ne_t, y_if_ne_f, b_X6_all_9, x_ret0, b_X6_all_12, x_loadR_0, x_loadS_0, f_6_35, y_iald_25, q_isL_I, q_isL_R, q_isL_S, true_and, and_true, and_self, List.length_nil, List.length_cons, Nat.zero_add, x_K, x_Kn, Int.reduceToNat, Nat.reduceAdd, Nat.reduceMul, Nat.reduceLeDiff, Nat.reduceLT, Nat.zero_le, Int.reduceAdd, Int.reduceSub, Int.reduceMul, Int.reduceNeg, q_add_e, q_sub_e, q_mul_e, q_neg_e, q_upd_s, q_upd_n, zr_shr0, zr_shr1, zr_shr2, zr_shr3, zr_shr4, zr_and, zr_dyn8, zr_or, zr_shl, q_cpy_n, y_cpy26]
      exact q_ans (hq M2 h2) g1
    · subst z
      simp (disch := omega) only [b_X6_all_0, x_loadI_1, x_iconst, y_if_ne_t, y_if_ne_f, b_X6_all_9, x_ret0, b_X6_all_12, x_loadR_0, x_loadS_0, f_6_35, y_iald_25, q_isL_I, q_isL_R, q_isL_S, true_and, and_true, and_self, List.length_nil, List.length_cons, Nat.zero_add, x_K, x_Kn, Int.reduceToNat, Nat.reduceAdd, Nat.reduceMul, Nat.reduceLeDiff, Nat.reduceLT, Nat.zero_le, Int.reduceAdd, Int.reduceSub, Int.reduceMul, Int.reduceNeg, q_add_e, q_sub_e, q_mul_e, q_neg_e, q_upd_s, q_upd_n, zr_shr0, zr_shr1, zr_shr2, zr_shr3, zr_shr4, zr_and, zr_dyn8, zr_or, zr_shl, q_cpy_n, y_cpy26]
      exact q_ans (hq M2 h2) g2
    · subst z
      simp (disch := omega) only [b_X6_all_0, x_loadI_1, x_iconst, y_if_ne_t, y_if_ne_f, b_X6_all_9, x_ret0, b_X6_all_12, x_loadR_0, x_loadS_0, f_6_35, y_iald_25, q_isL_I, q_isL_R, q_isL_S, true_and, and_true, and_self, List.length_nil, List.length_cons, Nat.zero_add, x_K, x_Kn, Int.reduceToNat, Nat.reduceAdd, Nat.reduceMul, Nat.reduceLeDiff, Nat.reduceLT, Nat.zero_le, Int.reduceAdd, Int.reduceSub, Int.reduceMul, Int.reduceNeg, q_add_e, q_sub_e, q_mul_e, q_neg_e, q_upd_s, q_upd_n, zr_shr0, zr_shr1, zr_shr2, zr_shr3, zr_shr4, zr_and, zr_dyn8, zr_or, zr_shl, q_cpy_n, y_cpy26]
      exact q_ans (hq M2 h2) g3
    · subst z
      simp (disch := omega) only [b_X6_all_0, x_loadI_1, x_iconst, y_if_ne_t, y_if_ne_f, b_X6_all_9, x_ret0, b_X6_all_12, x_loadR_0, x_loadS_0, f_6_35, y_iald_25, q_isL_I, q_isL_R, q_isL_S, true_and, and_true, and_self, List.length_nil, List.length_cons, Nat.zero_add, x_K, x_Kn, Int.reduceToNat, Nat.reduceAdd, Nat.reduceMul, Nat.reduceLeDiff, Nat.reduceLT, Nat.zero_le, Int.reduceAdd, Int.reduceSub, Int.reduceMul, Int.reduceNeg, q_add_e, q_sub_e, q_mul_e, q_neg_e, q_upd_s, q_upd_n, zr_shr0, zr_shr1, zr_shr2, zr_shr3, zr_shr4, zr_and, zr_dyn8, zr_or, zr_shl, q_cpy_n, y_cpy26]
      exact q_ans (hq M2 h2) g4
  · simp (disch := omega) only [b_X6_all_0, x_loadI_1, x_iconst, y_if_ne_t, y_if_ne_f, b_X6_all_9, x_ret0, b_X6_all_12, x_loadR_0, x_loadS_0, f_6_35, y_iald_25, q_isL_I, q_isL_R, q_isL_S, true_and, and_true, and_self, List.length_nil, List.length_cons, Nat.zero_add, x_K, x_Kn, Int.reduceToNat, Nat.reduceAdd, Nat.reduceMul, Nat.reduceLeDiff, Nat.reduceLT, Nat.zero_le, Int.reduceAdd, Int.reduceSub, Int.reduceMul, Int.reduceNeg, q_add_e, q_sub_e, q_mul_e, q_neg_e, q_upd_s, q_upd_n, zr_shr0, zr_shr1, zr_shr2, zr_shr3, zr_shr4, zr_and, zr_dyn8, zr_or, zr_shl, q_cpy_n, y_cpy26, c_X6_in, mp_in, c, if_false]
    exact q_ans (hq M q_mq_rf) (E_all_n c).symm
theorem mz_all {Vt : Nat → Nat → (Nat → Int) → Int} {d tm : Nat} {g : q_G} {M : q_M} {wt : Int} {Q : Option q_V → q_G → q_M → Prop} (hI : q_MI Vt tm M) (_ : q_ivS (mW M)) (hq : ∀ M2 : q_M, q_mq M M2 → Q (some (qI (E_all (q_Vr Vt M) (mW M) wt))) g M2) : q_S 1 (d + 11) 174 [qR 6 100, qI wt] g M Q :=
  mp_allE (d := d + 5) (q_MI_mi hI).1 hq
end
