/-! THE CLASS'S ENTRIES: peace -/
theorem F_wants_le9 {V : Nat → (Nat → Int) → Int} {M : q_M} {w ta p b : Nat} (hw : q_wl V M w ta) (hp : p < (M (w + 1) 5).toNat) : -99 ≤ F_wants V (cW M w) p b ∧ F_wants V (cW M w) p b ≤ 189 := F_wants_le (by rw [cW_1 hp]; exact hw.1.2.2.2.1 p)
theorem q_tld_L {V : Nat → (Nat → Int) → Int} {M M2 : q_M} {w ta : Nat} (hf : q_tel w ta M M2) (hn : M (w + 1) 5 ≤ 5) (hd : w + 27 < ta ∨ ta + 2 < w) (hz : ∀ p, p < 5 → M (w + 1 + 3 + (1 + p)) 5 = 0) (ht : ∀ p b, p < (M (w + 1) 5).toNat → b < 5 → q_tld V w (cW M w) M2 p b) : ∀ p b, p < (M2 (w + 1) 5).toNat → b < 6 → -1000 ≤ M2 (w + 1 + 3 + (1 + p)) b ∧ M2 (w + 1 + 3 + (1 + p)) b ≤ 1000 := by
  intro p b hp hb
  have e5 : M2 (w + 1) 5 = M (w + 1) 5 := hf (w + 1) 5 (by omega) (by omega) (by omega)
  rw [e5] at hp
  by_cases c : b < 5
  · rw [(ht p b hp c).1]
    have h := F_likes_le (V := V) (S := cW M w) (p := p) (b := b)
    omega
  · have e : b = 5 := by omega
    subst e
    rw [hf _ 5 (by omega) (by omega) (by omega), hz p (by omega)]
    omega
theorem q_tld_W {V : Nat → (Nat → Int) → Int} {M M2 : q_M} {w ta : Nat} (hw : q_wl V M w ta) (hf : q_tel w ta M M2) (hz : ∀ p, p < 5 → M (w + 1 + 10 + (1 + p)) 5 = 0) (ht : ∀ p b, p < (M (w + 1) 5).toNat → b < 5 → q_tld V w (cW M w) M2 p b) : ∀ p b, p < (M2 (w + 1) 5).toNat → b < 6 → -1000 ≤ M2 (w + 1 + 10 + (1 + p)) b ∧ M2 (w + 1 + 10 + (1 + p)) b ≤ 1000 := by
  intro p b hp hb
  have hn := hw.1.1
  have hd := hw.2.2.2.2.2
  have e5 : M2 (w + 1) 5 = M (w + 1) 5 := hf (w + 1) 5 (by omega) (by omega) (by omega)
  rw [e5] at hp
  by_cases c : b < 5
  · rw [(ht p b hp c).2]
    have h := F_wants_le9 (b := b) hw hp
    omega
  · have e : b = 5 := by omega
    subst e
    rw [hf _ 5 (by omega) (by omega) (by omega), hz p (by omega)]
    omega
