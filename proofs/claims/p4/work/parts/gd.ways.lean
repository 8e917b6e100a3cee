/-! BOTH SIDES: all ways, just so -/
def F_dg (v : Int) : Nat := if v = 5 then 0 else (v + 1).toNat
def F_six (f : Nat → Int) : Nat → Nat
  | 0 => 0
  | n + 1 => 6 * F_six f n + F_dg (f n)
/-- the way of a number: the first stone's digit is the highest -/
def F_way (n m i : Nat) : Int := if m / 6 ^ (n - 1 - i) % 6 = 0 then 5 else ((m / 6 ^ (n - 1 - i) % 6 : Nat) : Int) - 1
theorem F_dg_5 : F_dg 5 = 0 := rfl
theorem F_dg_lt {v : Int} (h : 0 ≤ v ∧ v ≤ 5) : F_dg v < 6 := by
  unfold F_dg
  split <;> omega
theorem F_six_cong {f f' : Nat → Int} : ∀ n : Nat, (∀ i, i < n → f i = f' i) → F_six f n = F_six f' n
  | 0, _ => rfl
  | n + 1, h => by rw [F_six, F_six, F_six_cong n (fun i hi => h i (by omega)), h n (by omega)]
theorem F_six_dg {f : Nat → Int} : ∀ n : Nat, (∀ i, i < n → 0 ≤ f i ∧ f i ≤ 5) → ∀ i, i < n → F_six f n / 6 ^ (n - 1 - i) % 6 = F_dg (f i)
  | 0, _, i, hi => absurd hi (Nat.not_lt_zero i)
  | n + 1, h, i, hi => by
    have hd := F_dg_lt (h n (by omega))
    rw [F_six]
    by_cases e : i = n
    · subst e
      rw [show i + 1 - 1 - i = 0 by omega, Nat.pow_zero, Nat.div_one]
      omega
    · have ih := F_six_dg n (fun j hj => h j (by omega)) i (by omega)
      rw [show n + 1 - 1 - i = (n - 1 - i) + 1 by omega, Nat.pow_succ, Nat.mul_comm (6 ^ (n - 1 - i)) 6, ← Nat.div_div_eq_div_mul, show (6 * F_six f n + F_dg (f n)) / 6 = F_six f n by omega]
      exact ih
theorem F_six_lt {f : Nat → Int} : ∀ n : Nat, (∀ i, i < n → 0 ≤ f i ∧ f i ≤ 5) → F_six f n < 6 ^ n
  | 0, _ => by rw [F_six]; omega
  | n + 1, h => by
    have h1 := F_six_lt n (fun i hi => h i (by omega))
    have h2 := F_dg_lt (h n (by omega))
    rw [F_six, Nat.pow_succ]
    omega
theorem F_way_e {f : Nat → Int} {n m i : Nat} (h : ∀ i, i < n → 0 ≤ f i ∧ f i ≤ 5) (hm : F_six f n = m) (hi : i < n) : f i = F_way n m i := by
  have k := F_six_dg n h i hi
  have b := h i hi
  unfold F_way
  rw [← hm, k]
  unfold F_dg
  by_cases c : f i = 5
  · rw [if_pos c, if_pos rfl]
    exact c
  · rw [if_neg c, if_neg (by omega)]
    omega
theorem F_way_b {n m i : Nat} : 0 ≤ F_way n m i ∧ F_way n m i ≤ 5 := by
  unfold F_way
  have := Nat.mod_lt (m / 6 ^ (n - 1 - i)) (show 0 < 6 by omega)
  split <;> omega
theorem F_next_ge : ∀ (p : Nat) (f : Nat → Int) (i : Nat), p ≤ i → (F_next f p).2 i = f i
  | 0, _, _, _ => rfl
  | p + 1, f, i, hi => by
    rw [F_next]
    split
    · exact F_u_n (by omega)
    · split
      · rw [F_next_ge p _ i (by omega)]
        exact F_u_n (by omega)
      · exact F_u_n (by omega)
theorem F_next_6 : ∀ (p : Nat) (f : Nat → Int), (∀ i, i < p → 0 ≤ f i ∧ f i ≤ 5) → ((F_next f p).1 = true → F_six (F_next f p).2 p = F_six f p + 1) ∧ ((F_next f p).1 = false → F_six f p + 1 = 6 ^ p) ∧ (∀ i, i < p → 0 ≤ (F_next f p).2 i ∧ (F_next f p).2 i ≤ 5)
  | 0, f, _ => ⟨fun h => (by cases h), fun _ => rfl, fun i hi => absurd hi (Nat.not_lt_zero i)⟩
  | p + 1, f, h => by
    have hp := h p (by omega)
    rw [F_next]
    by_cases c : f p = 5
    · rw [if_pos c]
      refine ⟨fun _ => ?_, fun z => (by cases z), fun i hi => ?_⟩
      · show F_six (F_u f p 0) (p + 1) = F_six f (p + 1) + 1
        rw [F_six, F_six, F_u_s, c, F_six_cong (f' := f) p (fun i hi => F_u_n (f := f) (v := 0) (by omega : i ≠ p))]
        rfl
      · show 0 ≤ F_u f p 0 i ∧ F_u f p 0 i ≤ 5
        unfold F_u
        split
        · omega
        · exact h i hi
    · rw [if_neg c]
      by_cases c2 : f p = 4
      · rw [if_pos c2]
        have hu : ∀ i, i < p → F_u f p 5 i = f i := fun i hi => F_u_n (by omega)
        obtain ⟨k1, k2, k3⟩ := F_next_6 p (F_u f p 5) (fun i hi => by rw [hu i hi]; exact h i (by omega))
        have e := F_six_cong p hu
        have eg : (F_next (F_u f p 5) p).2 p = 5 := by rw [F_next_ge p _ p (Nat.le_refl p)]; exact F_u_s
        have ed : F_dg (f p) = 5 := by rw [c2]; rfl
        refine ⟨fun z => ?_, fun z => ?_, fun i hi => ?_⟩
        · rw [F_six, F_six, k1 z, e, eg, ed]
          rfl
        · have := k2 z
          rw [F_six, ed, Nat.pow_succ]
          rw [e] at this
          omega
        · by_cases z : i = p
          · rw [z, eg]
            omega
          · exact k3 i (by omega)
      · rw [if_neg c2]
        refine ⟨fun _ => ?_, fun z => (by cases z), fun i hi => ?_⟩
        · show F_six (F_u f p (f p + 1)) (p + 1) = F_six f (p + 1) + 1
          rw [F_six, F_six, F_u_s, F_six_cong (f' := f) p (fun i hi => F_u_n (f := f) (v := f p + 1) (by omega : i ≠ p))]
          unfold F_dg
          rw [if_neg (by omega), if_neg c]
          omega
        · show 0 ≤ F_u f p (f p + 1) i ∧ F_u f p (f p + 1) i ≤ 5
          unfold F_u
          split
          · omega
          · exact h i hi
theorem F_fits_e {f f' R R' : Nat → Int} {n : Nat} (hf : ∀ i, i < n → f i = f' i) (hR : ∀ c, c < 5 → R c = R' c) : ∀ b : Nat, b ≤ 5 → F_fits f R n b = F_fits f' R' n b
  | 0, _ => rfl
  | b + 1, hb => by rw [F_fits, F_fits, F_fits_e hf hR b (by omega), F_cnt_cong n hf, hR b (by omega)]
theorem F_fits_le {f R : Nat → Int} {n : Nat} : ∀ b : Nat, F_fits f R n b = true → ∀ c : Nat, c < b → F_cnt f c n ≤ R c
  | 0, _, c, hc => absurd hc (Nat.not_lt_zero c)
  | b + 1, h, c, hc => by
    rw [F_fits, Bool.and_eq_true] at h
    by_cases e : c = b
    · rw [e]
      exact of_decide_eq_true h.2
    · exact F_fits_le b h.1 c (by omega)
theorem F_cB_ge {L : Nat → Nat → Int} {T : Nat → Nat → Bool} {f : Nat → Int} {p : Nat} : ∀ j b : Nat, F_cB L T f p j b = -1 ∨ 0 ≤ F_cB L T f p j b
  | 0, _ => Or.inl rfl
  | j + 1, b => by
    rw [F_cB]
    split
    · exact Or.inr (by omega)
    · exact F_cB_ge j (b + 1)
theorem F_cmp_ge {L : Nat → Nat → Int} {T : Nat → Nat → Bool} {f : Nat → Int} : ∀ j p : Nat, F_cmp L T f j p = -1 ∨ 0 ≤ F_cmp L T f j p
  | 0, _ => Or.inl rfl
  | j + 1, p => by
    rw [F_cmp]
    split
    · exact Or.inr (by omega)
    · split
      · exact F_cmp_ge j (p + 1)
      · next h =>
        rcases F_cB_ge (L := L) (T := T) (f := f) (p := p) 5 0 with k | k
        · exact absurd k h
        · exact Or.inr (by omega)
theorem F_dig_ge {f : Nat → Int} : ∀ n : Nat, (∀ i, i < n → 0 ≤ f i) → 0 ≤ F_dig f n
  | 0, _ => by rw [F_dig]; omega
  | n + 1, h => by
    have := F_dig_ge n (fun i hi => h i (by omega))
    have := h n (by omega)
    rw [F_dig]
    split <;> omega
/-- one way more; peace alone, or any -/
def G_wS (V : Nat → (Nat → Int) → Int) (S : q_M) (pe : Bool) (f : Nat → Int) (x : Int × Int × Int) : Int × Int × Int :=
  if F_fits f (S 6) (F_n S) 5 = true ∧ (pe = true → F_cmp (EL V S) (G_T (EW V S) (S 6) f (F_n S)) f (F_n S) 0 = -1) then (x.1 + 1, if x.2.1 = -1 ∨ x.2.2 < F_sum (EL V S) f (F_n S) then (F_dig f (F_n S), F_sum (EL V S) f (F_n S)) else x.2) else x
def G_w (V : Nat → (Nat → Int) → Int) (S : q_M) (pe : Bool) : Nat → Int × Int × Int
  | 0 => (0, -1, 0)
  | k + 1 => G_wS V S pe (F_way (F_n S) k) (G_w V S pe k)
def E_all (V : Nat → (Nat → Int) → Int) (S : q_M) (wt : Int) : Int := if ¬(0 ≤ wt ∧ wt ≤ 4) then -100000 else if wt = 0 then (G_w V S true (6 ^ F_n S)).1 else if wt = 1 then (G_w V S true (6 ^ F_n S)).2.1 else if wt = 2 then (G_w V S true (6 ^ F_n S)).2.2 else if wt = 3 then (G_w V S false (6 ^ F_n S)).2.1 else (G_w V S false (6 ^ F_n S)).2.2
theorem E_all_n {V : Nat → (Nat → Int) → Int} {S : q_M} {wt : Int} (h : ¬(0 ≤ wt ∧ wt ≤ 4)) : E_all V S wt = -100000 := if_pos h
theorem G_wS_i {V : Nat → (Nat → Int) → Int} {S : q_M} {pe : Bool} {f : Nat → Int} {x : Int × Int × Int} (hf : ∀ i, i < F_n S → 0 ≤ f i) (h : 0 ≤ x.1 ∧ (x.1 = 0 ↔ x.2.1 = -1)) : 0 ≤ (G_wS V S pe f x).1 ∧ ((G_wS V S pe f x).1 = 0 ↔ (G_wS V S pe f x).2.1 = -1) := by
  have hd := F_dig_ge (F_n S) hf
  unfold G_wS
  split
  · show 0 ≤ x.1 + 1 ∧ (x.1 + 1 = 0 ↔ (if x.2.1 = -1 ∨ x.2.2 < F_sum (EL V S) f (F_n S) then (F_dig f (F_n S), F_sum (EL V S) f (F_n S)) else x.2).1 = -1)
    split
    · show 0 ≤ x.1 + 1 ∧ (x.1 + 1 = 0 ↔ F_dig f (F_n S) = -1)
      omega
    · omega
  · exact h
theorem F_alS_e {V : Nat → (Nat → Int) → Int} {S : q_M} {L W : Nat → Nat → Int} {R f f' : Nat → Int} {pe : Bool} {x : Int × Int × Int} (hL : ∀ p c, p < F_n S → c < 6 → L p c = EL V S p c) (hW : ∀ p c, p < F_n S → c < 6 → W p c = EW V S p c) (hR : ∀ c, c < 5 → R c = S 6 c) (hf : ∀ i, i < F_n S → f i = f' i) (h5 : ∀ i, i < F_n S → 0 ≤ f i ∧ f i ≤ 5) (hx : x.1 = 0 ↔ x.2.1 = -1) : F_alS L W R (F_n S) pe f x = G_wS V S pe f' x := by
  unfold F_alS G_wS
  rw [F_fits_e hf hR 5 (Nat.le_refl 5), F_dig_cong _ hf, F_sum_e (N := F_n S) hL hf h5 _ (Nat.le_refl _)]
  by_cases c : F_fits f' (S 6) (F_n S) 5 = true
  · have cm : F_cmp L (fun p b => F_takes1 f (fun q => W q b) (R b) b (F_n S) p) f (F_n S) 0 = F_cmp (EL V S) (G_T (EW V S) (S 6) f' (F_n S)) f' (F_n S) 0 := by
      refine F_cmp_e (n := F_n S) hL hf h5 (fun p b hp hb hn => ?_) _ 0 (by omega)
      have cn : F_cnt f b (F_n S) ≤ R b := by
        rw [F_cnt_cong _ hf, hR b hb]
        exact F_fits_le 5 c b hb
      unfold G_T
      rw [F_takes_12 hn cn, hR b hb]
      exact F_takes_cong hf (fun k hk => hW k b hk (by omega)) hp
    rw [cm]
    have lt : (F_cmp (EL V S) (G_T (EW V S) (S 6) f' (F_n S)) f' (F_n S) 0 < 0) ↔ (F_cmp (EL V S) (G_T (EW V S) (S 6) f' (F_n S)) f' (F_n S) 0 = -1) := by
      rcases F_cmp_ge (L := EL V S) (T := G_T (EW V S) (S 6) f' (F_n S)) (f := f') (F_n S) 0 with k | k <;> omega
    simp only [lt, hx]
  · rw [if_neg (fun z => c z.1), if_neg (fun z => c z.1)]
theorem F_al_e {V : Nat → (Nat → Int) → Int} {S : q_M} {L W : Nat → Nat → Int} {R : Nat → Int} {pe : Bool} (hL : ∀ p c, p < F_n S → c < 6 → L p c = EL V S p c) (hW : ∀ p c, p < F_n S → c < 6 → W p c = EW V S p c) (hR : ∀ c, c < 5 → R c = S 6 c) : ∀ (k m : Nat) (f : Nat → Int), (∀ i, i < F_n S → 0 ≤ f i ∧ f i ≤ 5) → F_six f (F_n S) = m → 6 ^ F_n S ≤ m + k → m < 6 ^ F_n S → (0 ≤ (G_w V S pe m).1 ∧ ((G_w V S pe m).1 = 0 ↔ (G_w V S pe m).2.1 = -1)) → F_al L W R (F_n S) pe k f (G_w V S pe m) = G_w V S pe (6 ^ F_n S)
  | 0, m, f, _, _, hk, hm, _ => by omega
  | k + 1, m, f, h5, hs, hk, hm, hx => by
    have e : F_alS L W R (F_n S) pe f (G_w V S pe m) = G_w V S pe (m + 1) := by
      rw [G_w]
      exact F_alS_e hL hW hR (fun i hi => F_way_e h5 hs hi) h5 hx.2
    obtain ⟨k1, k2, k3⟩ := F_next_6 (F_n S) f h5
    rw [F_al, e]
    by_cases c : (F_next f (F_n S)).1 = true
    · rw [if_pos c]
      have e1 := k1 c
      have lt : m + 1 < 6 ^ F_n S := by
        rw [hs] at e1
        have := F_six_lt (F_n S) k3
        omega
      exact F_al_e hL hW hR k (m + 1) _ k3 (by rw [e1, hs]) (by omega) lt (by rw [G_w]; exact G_wS_i (fun i _ => F_way_b.1) hx)
    · rw [if_neg c]
      have := k2 (by
        cases z : (F_next f (F_n S)).1
        · rfl
        · exact absurd z c)
      rw [← this, hs]
set_option maxHeartbeats 4000000 in
theorem cy_all {Vt : Nat → Nat → (Nat → Int) → Int} {d tm l sl : Nat} {g : q_G} {M : q_M} {wt : Int} {Q : Option q_V → q_G → q_M → Prop} (C : q_XI Vt tm l sl M) (iv : q_ivS (cW M 11)) (hq : ∀ M2 : q_M, q_tq M M2 → Q (some (qI (E_all (Vt l) (cW M 11) wt))) g M2) : q_S 1 (d + 50) 79 [qR 5 0, qI wt] g M Q := by
  have c := C.2.2.1
  have n5 := q_ci_n c
  by_cases c1 : 0 ≤ wt ∧ wt ≤ 4
  · refine sp_all (d := d + 44) c c1 (fun M2 M3 h h3 => q_ans (hq M3 h3) ?_)
    obtain ⟨t1, t2, t3, t4, t5, t6, _⟩ := h
    have en : F_n (cW M 11) = (M 12 5).toNat := rfl
    have eL : ∀ p b, p < F_n (cW M 11) → b < 6 → q_Lk M2 39 p b = EL (Vt l) (cW M 11) p b := fun p b hp hb => by
      unfold EL
      by_cases cb : b < 5
      · rw [if_pos cb]
        exact (t6 p b hp cb).1
      · have e : b = 5 := by omega
        subst e
        rw [if_neg cb]
        exact t3.1 p (by omega)
    have eW : ∀ p b, p < F_n (cW M 11) → b < 6 → q_Wn M2 39 p b = EW (Vt l) (cW M 11) p b := fun p b hp hb => by
      unfold EW
      by_cases cb : b < 5
      · rw [if_pos cb]
        exact (t6 p b hp cb).2
      · have e : b = 5 := by omega
        subst e
        rw [if_neg cb]
        exact t3.2 p (by omega)
    have eR : ∀ b, b < 5 → M2 40 b = cW M 11 6 b := fun b hb => by
      rw [← t2]
      exact (if_pos hb).symm
    have e5 : (M2 39 5).toNat = F_n (cW M 11) := by rw [t4]; rfl
    have nle : F_n (cW M 11) ≤ 5 := by omega
    have f0 : ∀ i, i < F_n (cW M 11) → F_f0 (M2 41) i = 5 := fun i hi => by
      unfold F_f0
      rcases (show i = 0 ∨ i = 1 ∨ i = 2 ∨ i = 3 ∨ i = 4 by omega) with e | e | e | e | e <;> subst e <;> rfl
    have s0 : ∀ n : Nat, n ≤ F_n (cW M 11) → F_six (F_f0 (M2 41)) n = 0 := by
      intro n
      induction n with
      | zero => intro _; rfl
      | succ n ih =>
        intro hn
        rw [F_six, ih (by omega), f0 n (by omega)]
        rfl
    have p6 : 0 < 6 ^ F_n (cW M 11) := Nat.pow_pos (by omega)
    have p7 : 6 ^ F_n (cW M 11) ≤ 7776 := Nat.pow_le_pow_right (by omega) nle
    have k := fun pe : Bool => F_al_e (pe := pe) eL eW eR 7776 0 (F_f0 (M2 41)) (fun i hi => by rw [f0 i hi]; omega) (s0 _ (Nat.le_refl _)) (by omega) p6 ⟨Int.le_refl 0, ⟨fun _ => rfl, fun _ => rfl⟩⟩
    have k2 : ∀ pe : Bool, F_al (q_Lk M2 39) (q_Wn M2 39) (M2 40) (F_n (cW M 11)) pe 7776 (F_f0 (M2 41)) (0, -1, 0) = G_w (Vt l) (cW M 11) pe (6 ^ F_n (cW M 11)) := k
    unfold A_all E_all
    rw [if_neg (show ¬¬(0 ≤ wt ∧ wt ≤ 4) from fun z => z c1), e5, k2]
    rcases (show wt = 0 ∨ wt = 1 ∨ wt = 2 ∨ wt = 3 ∨ wt = 4 by omega) with z | z | z | z | z <;> subst z <;> rfl
  · exact sp_allF (by omega) (q_ans (hq M q_tq_rf) (E_all_n c1).symm)
