/-! THE CLASS'S WORLD: a wish, all told -/
/-- what telling changes: the names' cell, the text's stack, the tables' cells of stones and buildings -/
def q_tel (w ta : Nat) (M M2 : q_M) : Prop := ∀ a i, a ≠ w + 26 → a ≠ ta + 2 → (i < 5 → a < w + 5 ∨ (w + 10 ≤ a ∧ a < w + 12) ∨ w + 17 ≤ a) → M2 a i = M a i
theorem q_tel_rf {w ta : Nat} {M : q_M} : q_tel w ta M M := fun _ _ _ _ _ => rfl
theorem q_tel_of {w ta : Nat} {M M2 : q_M} (h : q_fwd w ta M M2) : q_tel w ta M M2 := fun a i h1 h2 _ => h a i h1 h2
theorem q_tel_tr {w ta : Nat} {M M2 M3 : q_M} (h : q_tel w ta M M2) (h2 : q_tel w ta M2 M3) : q_tel w ta M M3 := fun a i h3 h4 h5 => (h2 a i h3 h4 h5).trans (h a i h3 h4 h5)
theorem q_tel_cW {w ta : Nat} {M M2 : q_M} (h : q_tel w ta M M2) (hd : w + 27 < ta ∨ ta + 2 < w) : cW M2 w = cW M w := cW_same (fun a i ha => h a i (by omega) (by omega) (by omega))
theorem q_tel_wl {V : Nat → (Nat → Int) → Int} {w ta : Nat} {M M2 : q_M} (h : q_tel w ta M M2) (hw : q_wl V M w ta) : q_wl V M2 w ta := by
  obtain ⟨h1, h2, h3, h4, h5, h6⟩ := hw
  have e : ∀ a i, ((w ≤ a ∧ a ≤ w + 3) ∨ (w + 19 ≤ a ∧ a ≤ w + 25)) → M2 a i = M a i := fun a i q1 => h a i (by omega) (by omega) (by omega)
  refine ⟨?_, h2, fun M' hM => h3 M' (fun a i ha => (hM a i ha).trans (h a i (by omega) (by omega) (by omega))), (e w 10 (by omega)).trans h4, h5, h6⟩
  unfold q_rgW at h1 ⊢
  simp only [fun i => e w i (by omega), fun i => e (w + 1) i (by omega), fun i => e (w + 2) i (by omega), fun i => e (w + 3) i (by omega), fun i => e (w + 19) i (by omega), fun i => e (w + 20) i (by omega), fun i => e (w + 21) i (by omega), fun i => e (w + 22) i (by omega), fun i => e (w + 23) i (by omega), fun i => e (w + 24) i (by omega), fun i => e (w + 25) i (by omega)]
  exact h1
theorem q_tel_up {w ta a b : Nat} {v : Int} {M M2 : q_M} (h : q_tel w ta M M2) (ha : (w + 5 ≤ a ∧ a < w + 10) ∨ (w + 12 ≤ a ∧ a < w + 17)) (hb : b < 5) : q_tel w ta M (q_upd M2 a b v) := by
  intro x i h1 h2 h3
  rw [q_upd_n (by omega)]
  exact h x i h1 h2 h3
theorem F_best_cong {L L' : Nat → Int} {ok ok' : Nat → Bool} : ∀ n : Nat, (∀ k, k < n → L k = L' k) → (∀ k, k < n → ok k = ok' k) → F_best L ok n = F_best L' ok' n
  | 0, _, _ => rfl
  | n + 1, h1, h2 => by rw [F_best, F_best, F_best_cong n (fun k hk => h1 k (by omega)) (fun k hk => h2 k (by omega)), h1 n (by omega), h2 n (by omega)]
theorem q_sh0 : ∀ k : Nat, k < 5 → decide (q_and (q_shr 0 k) 1 = 0) = true := by decide +kernel
set_option maxHeartbeats 4000000 in
theorem sp_wish {V : Nat → (Nat → Int) → Int} {d : Nat} {g : q_G} {M : q_M} {w ta p : Nat} {Q : Option q_V → q_G → q_M → Prop} (hw : q_wl V M w ta) (hp : p < (M (w + 1) 5).toNat) (hz : M (w + 1 + 3 + (1 + p)) 5 = 0) (hq : ∀ M2 : q_M, q_tel w ta M M2 → Q (some (qI (F_wish V (cW M w) p : Nat))) g M2) : q_S 1 (d + 3) 58 [qR 4 w, qI p] g M Q := by
  have hn := hw.1.1
  have hds := hw.2.2.2.2.2
  rw [s_X4_wish]
  have loop : ∀ k b : Nat, b + k = 5 → ∀ M1 : q_M, q_tel w ta M M1 → (∀ j, j < b → M1 (w + 1 + 3 + (1 + p)) j = F_likes V (cW M w) p j) → q_T 1 (d + 3) qP_X4_wish 2 [] [qR 4 w, qI p, qI b] [] g M1 Q := by
    intro k
    induction k with
    | zero =>
      intro b hb M1 hf hl
      have e : b = 5 := by omega
      subst e
      have hz1 : M1 (w + 1 + 3 + (1 + ((p : Int)).toNat)) 5 = 0 := (hf _ 5 (by omega) (by omega) (by omega)).trans hz
      have hB : (F_best (M1 (w + 1 + 3 + (1 + ((p : Int)).toNat))) (fun k => decide (q_and (q_shr 0 k) 1 = 0)) 5) = F_best (F_likes V (cW M w) p) (fun _ => true) 5 := F_best_cong 5 hl q_sh0
      rw [b_X4_wish_2]
      simp (disch := omega) only [b_X4_wish_0, x_iconst, x_storeI_2, x_loadI_2, y_ic_ge_t, y_ic_ge_f, b_X4_wish_7, x_loadR_0, x_loadS_0, f_4_0, f_0_2, x_loadI_1, y_aald7, y_iast_26, x_iinc_2, x_goto, b_X4_wish_30, x_ret0, q_isL_I, q_isL_R, q_isL_S, true_and, and_true, and_self, List.length_nil, List.length_cons, Nat.zero_add, x_K, x_Kn, Int.reduceToNat, Nat.reduceAdd, Nat.reduceMul, Nat.reduceLeDiff, Nat.reduceLT, Nat.zero_le, Int.reduceAdd, Int.reduceSub, Int.reduceMul, Int.reduceNeg, q_add_e, q_sub_e, q_mul_e, q_neg_e, q_upd_s, q_upd_n, zr_shr0, zr_shr1, zr_shr2, zr_shr3, zr_shr4, zr_and, zr_dyn8, zr_or, zr_shl, q_cpy_n, y_cpy26, c_X0_dearest, sp_dearest, hB]
      exact hq M1 hf
    | succ k ih =>
      intro b hb M1 hf hl
      have hw1 := q_tel_wl hf hw
      have hc1 := q_tel_cW hf hds
      have hp1 : p < (M1 (w + 1) 5).toNat := by rw [hf (w + 1) 5 (by omega) (by omega) (by omega)]; exact hp
      have likes : ∀ (nx : Nat) (ops : List Instr) (ls st : List q_V), (∀ M2 : q_M, q_fwd w ta M1 M2 → q_T 1 (d + 3) qP_X4_wish nx ops ls (qI (F_likes V (cW M w) p b) :: st) g M2 Q) → q_S 1 (d + 2) 54 [qR 4 w, qI p, qI b] g M1 (q_K 1 (d + 3) qP_X4_wish nx ops ls st Q) := fun nx ops ls st h => sp_likes hw1 hp1 (by omega) (by rw [hc1]; exact h)
      rw [b_X4_wish_2]
      simp (disch := omega) only [b_X4_wish_0, x_iconst, x_storeI_2, x_loadI_2, y_ic_ge_t, y_ic_ge_f, b_X4_wish_7, x_loadR_0, x_loadS_0, f_4_0, f_0_2, x_loadI_1, y_aald7, y_iast_26, x_iinc_2, x_goto, b_X4_wish_30, x_ret0, q_isL_I, q_isL_R, q_isL_S, true_and, and_true, and_self, List.length_nil, List.length_cons, Nat.zero_add, x_K, x_Kn, Int.reduceToNat, Nat.reduceAdd, Nat.reduceMul, Nat.reduceLeDiff, Nat.reduceLT, Nat.zero_le, Int.reduceAdd, Int.reduceSub, Int.reduceMul, Int.reduceNeg, q_add_e, q_sub_e, q_mul_e, q_neg_e, q_upd_s, q_upd_n, zr_shr0, zr_shr1, zr_shr2, zr_shr3, zr_shr4, zr_and, zr_dyn8, zr_or, zr_shl, q_cpy_n, y_cpy26, c_X4_likes, Int.toNat_natCast]
      refine likes _ _ _ _ (fun M2 h2 => ?_)
      simp (disch := omega) only [b_X4_wish_0, x_iconst, x_storeI_2, x_loadI_2, y_ic_ge_t, y_ic_ge_f, b_X4_wish_7, x_loadR_0, x_loadS_0, f_4_0, f_0_2, x_loadI_1, y_aald7, y_iast_26, x_iinc_2, x_goto, b_X4_wish_30, x_ret0, q_isL_I, q_isL_R, q_isL_S, true_and, and_true, and_self, List.length_nil, List.length_cons, Nat.zero_add, x_K, x_Kn, Int.reduceToNat, Nat.reduceAdd, Nat.reduceMul, Nat.reduceLeDiff, Nat.reduceLT, Nat.zero_le, Int.reduceAdd, Int.reduceSub, Int.reduceMul, Int.reduceNeg, q_add_e, q_sub_e, q_mul_e, q_neg_e, q_upd_s, q_upd_n, zr_shr0, zr_shr1, zr_shr2, zr_shr3, zr_shr4, zr_and, zr_dyn8, zr_or, zr_shl, q_cpy_n, y_cpy26, c_X4_likes, Int.toNat_natCast]
      refine ih (b + 1) (by omega) _ (q_tel_up (q_tel_tr hf (q_tel_of h2)) (by omega) (by omega)) ?_
      intro j hj
      by_cases ej : j = b
      · subst ej
        rw [q_upd_s]
      · rw [q_upd_n (by omega), h2 _ _ (by omega) (by omega)]
        exact hl j (by omega)
  simp (disch := omega) only [b_X4_wish_0, x_iconst, x_storeI_2, x_loadI_2, y_ic_ge_t, y_ic_ge_f, b_X4_wish_7, x_loadR_0, x_loadS_0, f_4_0, f_0_2, x_loadI_1, y_aald7, y_iast_26, x_iinc_2, x_goto, b_X4_wish_30, x_ret0, q_isL_I, q_isL_R, q_isL_S, true_and, and_true, and_self, List.length_nil, List.length_cons, Nat.zero_add, x_K, x_Kn, Int.reduceToNat, Nat.reduceAdd, Nat.reduceMul, Nat.reduceLeDiff, Nat.reduceLT, Nat.zero_le, Int.reduceAdd, Int.reduceSub, Int.reduceMul, Int.reduceNeg, q_add_e, q_sub_e, q_mul_e, q_neg_e, q_upd_s, q_upd_n, zr_shr0, zr_shr1, zr_shr2, zr_shr3, zr_shr4, zr_and, zr_dyn8, zr_or, zr_shl, q_cpy_n, y_cpy26]
  exact loop 5 0 (by omega) M q_tel_rf (fun j hj => absurd hj (by omega))
