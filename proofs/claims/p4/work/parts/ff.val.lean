/-! THE TWO READERS: both codes say the same -/
theorem q_oor01 {l r : Int} : (if l ≠ 0 ∨ r ≠ 0 then (1 : Int) else 0) = (if l = 0 ∧ r = 0 then 0 else 1) := by omega
theorem q_an01 {l r : Int} : (if l ≠ 0 ∧ r ≠ 0 then (1 : Int) else 0) = (if l = 0 ∨ r = 0 then 0 else 1) := by omega
set_option maxHeartbeats 2000000 in
theorem Y_val {C N O : Nat → Int} {b c k : Nat} {D : Nat → Nat} (hC : ∀ j, j < k → 0 ≤ C (b + j) ∧ C (b + j) < 160000 ∧ (C (b + j) % 16 = 2 → C (b + j) / 16 < 6)) (hE : C (b + k) = 0) (hO : ∀ j, j < k → O (c + j) = K_c (C (b + j))) (hD : q_wfP O c (c + k) D) (hB : ∀ i, i ≤ c + k → D i ≤ 31) (hD1 : D (c + k) = 1) :
    ∀ (j i : Nat), i + j = k → ∀ (jc kk : Nat) (st st2 : Nat → Int), j < jc → D (c + i) = kk → (∀ x, x < kk → st (x + 2) = st2 x) → F_val C N jc (b + i) (kk + 1) st = B_say O N j (c + i) kk st2 := by
  intro j
  induction j with
  | zero =>
    intro i hi jc kk st st2 hj hk hst
    have ei : i = k := by omega
    subst ei
    have ek : kk = 1 := by omega
    subst ek
    obtain ⟨jc, rfl⟩ : ∃ x, jc = x + 1 := ⟨jc - 1, by omega⟩
    rw [F_val, hE, if_pos (by decide), if_neg (by omega), B_say]
    exact hst 0 (by omega)
  | succ j ih =>
    intro i hi jc kk st st2 hj hk hst
    obtain ⟨jc, rfl⟩ : ∃ x, jc = x + 1 := ⟨jc - 1, by omega⟩
    have ho := hO i (by omega)
    have hc := hC i (by omega)
    have hd := hD.2 (c + i) (by omega) (by omega)
    have hb := hB (c + i) (by omega)
    have hb2 := hB (c + i + 1) (by omega)
    have ih2 := fun kk st st2 => ih (i + 1) (by omega) jc kk st st2 (by omega)
    rw [← Nat.add_assoc, ← Nat.add_assoc] at ih2
    rw [F_val, B_say]
    rw [ho] at hd ⊢
    generalize C (b + i) = x at ho hc hd ⊢
    have push : ∀ v : Int, D (c + i + 1) = kk + 1 → F_val C N jc (b + i + 1) (kk + 1 + 1) (F_u st (kk + 1 + 1) v) = B_say O N j (c + i + 1) (kk + 1) (F_u st2 kk v) := by
      intro v hv
      refine ih2 (kk + 1) _ _ hv (fun y hy => ?_)
      unfold F_u
      by_cases e : y = kk
      · rw [if_pos (by omega), if_pos e]
      · rw [if_neg (by omega), if_neg e]
        exact hst y (by omega)
    have one : ∀ v v2 : Int, v = v2 → 1 ≤ kk → D (c + i + 1) = kk → F_val C N jc (b + i + 1) (kk + 1) (F_u st (kk + 1) v) = B_say O N j (c + i + 1) kk (F_u st2 (kk - 1) v2) := by
      intro v v2 hvv h1 hv
      subst hvv
      refine ih2 kk _ _ hv (fun y hy => ?_)
      unfold F_u
      by_cases e : y = kk - 1
      · rw [if_pos (by omega), if_pos e]
      · rw [if_neg (by omega), if_neg e]
        exact hst y (by omega)
    have two : ∀ v v2 : Int, v = v2 → 2 ≤ kk → D (c + i + 1) + 1 = kk → F_val C N jc (b + i + 1) (kk + 1 - 1) (F_u st (kk + 1 - 1) v) = B_say O N j (c + i + 1) (kk - 1) (F_u st2 (kk - 2) v2) := by
      intro v v2 hvv h1 hv
      subst hvv
      have e1 : kk + 1 - 1 = kk - 1 + 1 := by omega
      rw [e1]
      refine ih2 (kk - 1) _ _ (by omega) (fun y hy => ?_)
      unfold F_u
      by_cases e : y = kk - 2
      · rw [if_pos (by omega), if_pos e]
      · rw [if_neg (by omega), if_neg e]
        exact hst y (by omega)
    have top1 : 1 ≤ kk → st (kk + 1) = st2 (kk - 1) := fun h => by
      have := hst (kk - 1) (by omega)
      rw [show kk - 1 + 2 = kk + 1 by omega] at this
      exact this
    have top2 : 2 ≤ kk → st (kk + 1 - 1) = st2 (kk - 2) := fun h => by
      have := hst (kk - 2) (by omega)
      rw [show kk - 2 + 2 = kk + 1 - 1 by omega] at this
      exact this
    clear ih ih2 hO hC hE hD hB hst
    rcases (show x % 16 = 1 ∨ x % 16 = 2 ∨ x % 16 = 3 ∨ x % 16 = 4 ∨ x % 16 = 5 ∨ x % 16 = 6 ∨ x % 16 = 7 ∨ x % 16 = 8 ∨ x % 16 = 9 ∨ x % 16 = 10 ∨ x % 16 = 11 ∨ (x % 16 = 0 ∨ 12 ≤ x % 16) by omega) with e | e | e | e | e | e | e | e | e | e | e | e
    · have ek : K_c x = 100000 + x / 16 := by unfold K_c; rw [if_pos e]
      rw [ek] at hd ⊢
      unfold q_pu q_una q_bi at hd
      rw [e, if_neg (by decide), if_pos rfl, if_neg (by omega), if_neg (by omega), if_pos (by omega), show 100000 + x / 16 - 100000 = x / 16 by omega]
      exact push _ (by omega)
    · have ek : K_c x = x / 16 := by unfold K_c; rw [e]; rfl
      have hv := hc.2.2 e
      rw [ek] at hd ⊢
      unfold q_pu q_una q_bi at hd
      rw [e, if_neg (by decide), if_neg (by decide), if_pos rfl, if_neg (by omega), if_pos (by omega), if_pos (by omega)]
      exact push _ (by omega)
    · have ek : K_c x = 19 := by unfold K_c; rw [e]; rfl
      rw [ek] at hd ⊢
      unfold q_pu q_una q_bi at hd
      rw [e, if_neg (by decide), if_neg (by decide), if_neg (by decide), if_pos rfl, if_neg (by omega), if_neg (by decide), if_neg (by decide), if_neg (by decide), if_pos rfl]
      exact one _ _ (by rw [top1 (by omega)]) (by omega) (by omega)
    · have ek : K_c x = 13 := by unfold K_c; rw [e]; rfl
      rw [ek] at hd ⊢
      unfold q_pu q_una q_bi at hd
      rw [e, if_neg (by decide), if_neg (by decide), if_neg (by decide), if_neg (by decide), if_pos rfl, if_neg (show ¬kk + 1 < 2 by omega), if_neg (show ¬(13 : Int) < 11 by decide), if_neg (show ¬(100000 : Int) ≤ 13 by decide), if_pos (show (13 : Int) = 13 from rfl)]
      exact one _ _ (by rw [top1 (by omega)]) (by omega) (by omega)
    · have ek : K_c x = 18 := by unfold K_c; rw [e]; rfl
      rw [ek] at hd ⊢
      unfold q_pu q_una q_bi at hd
      rw [e, if_neg (by decide), if_neg (by decide), if_neg (by decide), if_neg (by decide), if_neg (by decide), if_neg (by omega), if_neg (by decide), if_neg (by decide), if_neg (by decide), if_neg (by decide)]
      exact two _ _ (by rw [top1 (by omega), top2 (by omega)]; rfl) (by omega) (by omega)
    · have ek : K_c x = 16 := by unfold K_c; rw [e]; rfl
      rw [ek] at hd ⊢
      unfold q_pu q_una q_bi at hd
      rw [e, if_neg (by decide), if_neg (by decide), if_neg (by decide), if_neg (by decide), if_neg (by decide), if_neg (by omega), if_neg (by decide), if_neg (by decide), if_neg (by decide), if_neg (by decide)]
      exact two _ _ (by rw [top1 (by omega), top2 (by omega)]; rfl) (by omega) (by omega)
    · have ek : K_c x = 17 := by unfold K_c; rw [e]; rfl
      rw [ek] at hd ⊢
      unfold q_pu q_una q_bi at hd
      rw [e, if_neg (by decide), if_neg (by decide), if_neg (by decide), if_neg (by decide), if_neg (by decide), if_neg (by omega), if_neg (by decide), if_neg (by decide), if_neg (by decide), if_neg (by decide)]
      exact two _ _ (by rw [top1 (by omega), top2 (by omega)]; rfl) (by omega) (by omega)
    · have ek : K_c x = 14 := by unfold K_c; rw [e]; rfl
      rw [ek] at hd ⊢
      unfold q_pu q_una q_bi at hd
      rw [e, if_neg (by decide), if_neg (by decide), if_neg (by decide), if_neg (by decide), if_neg (by decide), if_neg (by omega), if_neg (by decide), if_neg (by decide), if_neg (by decide), if_neg (by decide)]
      exact two _ _ (by rw [top1 (by omega), top2 (by omega)]; rfl) (by omega) (by omega)
    · have ek : K_c x = 15 := by unfold K_c; rw [e]; rfl
      rw [ek] at hd ⊢
      unfold q_pu q_una q_bi at hd
      rw [e, if_neg (by decide), if_neg (by decide), if_neg (by decide), if_neg (by decide), if_neg (by decide), if_neg (by omega), if_neg (by decide), if_neg (by decide), if_neg (by decide), if_neg (by decide)]
      exact two _ _ (by rw [top1 (by omega), top2 (by omega)]; rfl) (by omega) (by omega)
    · have ek : K_c x = 12 := by unfold K_c; rw [e]; rfl
      rw [ek] at hd ⊢
      unfold q_pu q_una q_bi at hd
      rw [e, if_neg (by decide), if_neg (by decide), if_neg (by decide), if_neg (by decide), if_neg (by decide), if_neg (by omega), if_neg (by decide), if_neg (by decide), if_neg (by decide), if_neg (by decide)]
      exact two _ _ (by rw [top1 (by omega), top2 (by omega)]; exact q_an01) (by omega) (by omega)
    · have ek : K_c x = 11 := by unfold K_c; rw [e]; rfl
      rw [ek] at hd ⊢
      unfold q_pu q_una q_bi at hd
      rw [e, if_neg (by decide), if_neg (by decide), if_neg (by decide), if_neg (by decide), if_neg (by decide), if_neg (by omega), if_neg (by decide), if_neg (by decide), if_neg (by decide), if_neg (by decide)]
      exact two _ _ (by rw [top1 (by omega), top2 (by omega)]; exact q_oor01) (by omega) (by omega)
    · exfalso
      have ek : K_c x = -7 := by unfold K_c; (repeat' rw [if_neg (by omega)])
      rw [ek] at hd
      unfold q_pu q_una q_bi at hd
      omega
/-- a text's laws, by both codes -/
theorem Y_law {C st : Nat → Int} {O S : Nat → Int} {len p b c k : Nat} {D : Nat → Nat} (hC : q_cod C len) (h1 : st p = b) (h2 : S p = c) (h3 : S (p + 1) = ((c + k : Nat) : Int)) (h4 : b + k < len) (hE : C (b + k) = 0) (hO : ∀ j, j < k → O (c + j) = K_c (C (b + j))) (hD : q_wfP O c (c + k) D) (hB : ∀ i, i ≤ c + k → D i ≤ 31) (hD1 : D (c + k) = 1) (N : Nat → Int) : q_Vt C st len p N = q_V1 O S p N := by
  unfold q_Vt q_V1
  rw [h1, h2, h3, Int.toNat_natCast, Int.toNat_natCast, show (((c + k : Nat) : Int) - (c : Int)).toNat = k by omega]
  have h := Y_val (N := N) (fun j hj => hC (b + j) (by omega)) hE hO hD hB hD1 k 0 (by omega) (len - b) 0 (fun _ => 0) (fun _ => 0) (by omega) hD.1 (fun x hx => absurd hx (by omega))
  rw [Nat.add_zero, Nat.add_zero] at h
  exact h
