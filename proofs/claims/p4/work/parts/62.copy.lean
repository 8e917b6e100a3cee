/-! THE CLASS'S WORLD: copied, one added, one laid, a building moved -/
/-- the world at w as the one at o was, all else as before -/
def q_cpd (w o : Nat) (M M2 : q_M) : Prop := (∀ k i, (k = 2 ∨ k = 3 ∨ (19 ≤ k ∧ k ≤ 25)) → i < 5 → M2 (w + k) i = M (o + k) i) ∧ M2 (w + 1) 5 = M (o + 1) 5 ∧ M2 w 9 = M o 9 ∧ M2 w 10 = M o 10 ∧ (∀ a i, ((a < w ∨ (w + 3 < a ∧ a < w + 19) ∨ w + 25 < a) ∨ (a = w ∧ i ≠ 9 ∧ i ≠ 10) ∨ (a = w + 1 ∧ i ≠ 5) ∨ (a ≠ w ∧ a ≠ w + 1 ∧ 5 ≤ i)) → M2 a i = M a i)
set_option maxRecDepth 100000 in
set_option maxHeartbeats 4000000 in
theorem sp_copyFrom {d : Nat} {g : q_G} {M : q_M} {w o ta : Nat} {Q : Option q_V → q_G → q_M → Prop} (hd : w + 27 ≤ o ∨ o + 27 ≤ w) (hla : M o 10 = ta) (hta : ta < 2147483648) (hq : ∀ M2 : q_M, q_cpd w o M M2 → Q none g M2) : q_S 1 (d + 1) 49 [qR 4 w, qR 4 o] g M Q := by
  have hy := q_dynT (k := 3) hla
  rw [s_X4_copyFrom]
  simp (disch := omega) only [b_X4_copyFrom_0, x_loadR_0, x_loadS_0, f_4_0, x_loadR_1, x_loadS_1, c_X0_copyFrom, s_X0_copyFrom, f_4_1, x_iconst, y_cpy26, f_4_2, f_4_3, f_4_4, f_4_5, f_4_6, b_X4_copyFrom_90, f_4_7, f_4_9, p_4_9, f_4_10, p_4_10, x_vret, b_X0_copyFrom_0, f_0_0, f_0_1, f_0_5, p_0_5, q_isL_I, q_isL_R, q_isL_S, true_and, and_true, and_self, List.length_nil, List.length_cons, Nat.zero_add, x_K, x_Kn, Int.reduceToNat, Nat.reduceAdd, Nat.reduceMul, Nat.reduceLeDiff, Nat.reduceLT, Nat.zero_le, Int.reduceAdd, Int.reduceSub, Int.reduceMul, Int.reduceNeg, q_add_e, q_sub_e, q_mul_e, q_neg_e, q_upd_s, q_upd_n, zr_shr0, zr_shr1, zr_shr2, zr_shr3, zr_shr4, zr_and, zr_dyn8, zr_or, zr_shl, q_cpy_n, y_cpy26, hy, true_and]
  refine ⟨hta, hq _ ⟨?_, ?_, ?_, ?_, ?_⟩⟩
  · intro k i hk hi
    rcases (show k = 2 ∨ k = 3 ∨ k = 19 ∨ k = 20 ∨ k = 21 ∨ k = 22 ∨ k = 23 ∨ k = 24 ∨ k = 25 by omega) with h | h | h | h | h | h | h | h | h <;> subst h <;> simp (disch := omega) only [q_upd_n, q_cpy_n, q_cpy_i, Nat.zero_add, Nat.sub_zero, Nat.add_assoc, Nat.reduceAdd]
  · simp (disch := omega) only [q_upd_n, q_upd_s, q_cpy_n]
  · simp (disch := omega) only [q_upd_n, q_upd_s, q_cpy_n]
  · simp (disch := omega) only [q_upd_n, q_upd_s, q_cpy_n, hla]
  · intro a i ha
    simp (disch := omega) only [q_upd_n, q_cpy_n]
theorem q_cpd_cW {w o : Nat} {M M2 : q_M} (hn : M (o + 1) 5 ≤ 5) (h : q_cpd w o M M2) : cW M2 w = cW M o := by
  obtain ⟨h1, h2, h3, h4, h5⟩ := h
  funext f i
  have st : ∀ k, (k = 2 ∨ k = 3 ∨ (19 ≤ k ∧ k ≤ 25)) → (if i < (M2 (w + 1) 5).toNat then M2 (w + k) i else 0) = (if i < (M (o + 1) 5).toNat then M (o + k) i else 0) := by
    intro k hk
    rw [h2]
    by_cases c : i < (M (o + 1) 5).toNat
    · rw [if_pos c, if_pos c]
      exact h1 k i hk (by omega)
    · rw [if_neg c, if_neg c]
  have bl : ∀ k, (k = 2 ∨ k = 3 ∨ (19 ≤ k ∧ k ≤ 25)) → (if i < 5 then M2 (w + k) i else 0) = (if i < 5 then M (o + k) i else 0) := by
    intro k hk
    by_cases c : i < 5
    · rw [if_pos c, if_pos c]
      exact h1 k i hk c
    · rw [if_neg c, if_neg c]
  unfold cW
  split
  · exact st 22 (by omega)
  · exact st 23 (by omega)
  · exact st 24 (by omega)
  · exact st 25 (by omega)
  · exact st 3 (by omega)
  · exact bl 19 (by omega)
  · exact bl 2 (by omega)
  · exact bl 20 (by omega)
  · exact bl 21 (by omega)
  · rw [h2, h3]
  · rfl
/-- what lies behind the fifth place stays within its bounds -/
def q_rg5 (M : q_M) (w : Nat) : Prop := (∀ i, 5 ≤ i → 0 ≤ M (w + 22) i ∧ M (w + 22) i ≤ 5) ∧ (∀ i, 5 ≤ i → 0 ≤ M (w + 23) i ∧ M (w + 23) i ≤ 9) ∧ (∀ i, 5 ≤ i → 0 ≤ M (w + 24) i ∧ M (w + 24) i ≤ 99) ∧ (∀ i, 5 ≤ i → 0 ≤ M (w + 25) i ∧ M (w + 25) i ≤ 99) ∧ (∀ i, 5 ≤ i → 0 ≤ M (w + 3) i ∧ M (w + 3) i ≤ 5) ∧
  (∀ i, 5 ≤ i → 0 ≤ M (w + 19) i ∧ M (w + 19) i ≤ 99) ∧ (∀ i, 5 ≤ i → 0 ≤ M (w + 2) i ∧ M (w + 2) i ≤ 6) ∧ (∀ i, 5 ≤ i → 0 ≤ M (w + 20) i ∧ M (w + 20) i ≤ 99) ∧ (∀ i, 5 ≤ i → 0 ≤ M (w + 21) i ∧ M (w + 21) i ≤ 99) ∧ M (w + 20) 5 = 0 ∧ M (w + 21) 5 = 0
theorem q_rg5_of {M : q_M} {w : Nat} (h : q_rgW M w) : q_rg5 M w := by
  obtain ⟨r0, r1, r2, r3, r4, r5, r6, r7, r8, r9, ra, rb, rc⟩ := h
  exact ⟨fun i _ => r2 i, fun i _ => r3 i, fun i _ => r4 i, fun i _ => r5 i, fun i _ => r6 i, fun i _ => r7 i, fun i _ => r8 i, fun i _ => r9 i, fun i _ => ra i, rb, rc⟩
theorem q_rg5_eq {M M2 : q_M} {w : Nat} (h : ∀ a i, 5 ≤ i → w + 2 ≤ a → a ≤ w + 25 → M2 a i = M a i) (hr : q_rg5 M w) : q_rg5 M2 w := by
  obtain ⟨r2, r3, r4, r5, r6, r7, r8, r9, ra, rb, rc⟩ := hr
  refine ⟨fun i hi => ?_, fun i hi => ?_, fun i hi => ?_, fun i hi => ?_, fun i hi => ?_, fun i hi => ?_, fun i hi => ?_, fun i hi => ?_, fun i hi => ?_, ?_, ?_⟩
  · rw [h _ i hi (by omega) (by omega)]; exact r2 i hi
  · rw [h _ i hi (by omega) (by omega)]; exact r3 i hi
  · rw [h _ i hi (by omega) (by omega)]; exact r4 i hi
  · rw [h _ i hi (by omega) (by omega)]; exact r5 i hi
  · rw [h _ i hi (by omega) (by omega)]; exact r6 i hi
  · rw [h _ i hi (by omega) (by omega)]; exact r7 i hi
  · rw [h _ i hi (by omega) (by omega)]; exact r8 i hi
  · rw [h _ i hi (by omega) (by omega)]; exact r9 i hi
  · rw [h _ i hi (by omega) (by omega)]; exact ra i hi
  · rw [h _ 5 (by omega) (by omega) (by omega)]; exact rb
  · rw [h _ 5 (by omega) (by omega) (by omega)]; exact rc
theorem q_cpd_wl {V : Nat → (Nat → Int) → Int} {w o ta : Nat} {M M2 : q_M} (hw : q_wl V M o ta) (hr : q_rg5 M w) (hd : w + 27 < ta ∨ ta + 2 < w) (h : q_cpd w o M M2) : q_wl V M2 w ta := by
  obtain ⟨h1, h2, h3, h4, h5⟩ := h
  obtain ⟨⟨r0, r1, r2, r3, r4, r5, r6, r7, r8, r9, ra, rb, rc⟩, hV, hl, hla, hta, hds⟩ := hw
  obtain ⟨z2, z3, z4, z5, z6, z7, z8, z9, za, zb, zc⟩ := hr
  have hb : ∀ (k : Nat) (lo hi : Int), (k = 2 ∨ k = 3 ∨ (19 ≤ k ∧ k ≤ 25)) → (∀ i, lo ≤ M (o + k) i ∧ M (o + k) i ≤ hi) → (∀ i, 5 ≤ i → lo ≤ M (w + k) i ∧ M (w + k) i ≤ hi) → ∀ i, lo ≤ M2 (w + k) i ∧ M2 (w + k) i ≤ hi := by
    intro k lo hi hk q1 q2 i
    by_cases c : i < 5
    · rw [h1 k i hk c]
      exact q1 i
    · rw [h5 (w + k) i (by omega)]
      exact q2 i (by omega)
  refine ⟨⟨by rw [h2]; exact r0, by rw [h3]; exact r1, hb 22 _ _ (by omega) r2 z2, hb 23 _ _ (by omega) r3 z3, hb 24 _ _ (by omega) r4 z4, hb 25 _ _ (by omega) r5 z5, hb 3 _ _ (by omega) r6 z6, hb 19 _ _ (by omega) r7 z7, hb 2 _ _ (by omega) r8 z8, hb 20 _ _ (by omega) r9 z9, hb 21 _ _ (by omega) ra za, by rw [h5 _ _ (by omega)]; exact zb, by rw [h5 _ _ (by omega)]; exact zc⟩, hV, fun M' hM => hl M' (fun a i ha => (hM a i ha).trans (h5 a i (by omega))), h4.trans hla, hta, hd⟩
/-- one more stone -/
def F_add (S : q_M) (km wh hv : Int) : q_M := q_upd (q_upd (q_upd (q_upd (q_upd (q_upd S 0 (F_n S) (km / 10)) 1 (F_n S) (km % 10)) 2 (F_n S) wh) 3 (F_n S) hv) 4 (F_n S) 5) 9 0 (S 9 0 + 1)
def q_adM (M : q_M) (w : Nat) (km wh hv : Int) : q_M := q_upd (q_upd (q_upd (q_upd (q_upd (q_upd M (w + 22) (M (w + 1) 5).toNat (km / 10)) (w + 23) (M (w + 1) 5).toNat (km % 10)) (w + 24) (M (w + 1) 5).toNat wh) (w + 25) (M (w + 1) 5).toNat hv) (w + 1 + 2) (M (w + 1) 5).toNat 5) (w + 1) 5 (M (w + 1) 5 + 1)
theorem sp_addF {d : Nat} {g : q_G} {M : q_M} {w : Nat} {km wh hv : Int} {Q : Option q_V → q_G → q_M → Prop} (h5 : M (w + 1) 5 = 5) (hq : Q (some (qI (-4))) g M) : q_S 1 d 50 [qR 4 w, qI km, qI wh, qI hv] g M Q := by
  rw [s_X4_add]
  simp (disch := omega) only [b_X4_add_0, x_loadR_0, x_loadS_0, f_4_0, f_0_5, x_storeI_4, x_loadI_4, x_iconst, y_ic_lt_t, y_ic_lt_f, b_X4_add_15, x_ret0, b_X4_add_18, f_4_4, x_loadI_1, y_idiv, y_iast_26, f_4_5, y_irem, f_4_6, x_loadI_2, f_4_7, x_loadI_3, f_0_1, x_iadd, p_0_5, q_isL_I, q_isL_R, q_isL_S, true_and, and_true, and_self, List.length_nil, List.length_cons, Nat.zero_add, x_K, x_Kn, Int.reduceToNat, Nat.reduceAdd, Nat.reduceMul, Nat.reduceLeDiff, Nat.reduceLT, Nat.zero_le, Int.reduceAdd, Int.reduceSub, Int.reduceMul, Int.reduceNeg, q_add_e, q_sub_e, q_mul_e, q_neg_e, q_upd_s, q_upd_n, zr_shr0, zr_shr1, zr_shr2, zr_shr3, zr_shr4, zr_and, zr_dyn8, zr_or, zr_shl, q_cpy_n, y_cpy26, h5]
  exact hq
theorem sp_add {d : Nat} {g : q_G} {M : q_M} {w : Nat} {km wh hv : Int} {Q : Option q_V → q_G → q_M → Prop} (h0 : 0 ≤ M (w + 1) 5) (h5 : M (w + 1) 5 < 5) (hk : 0 ≤ km) (hk2 : km ≤ 59) (hq : Q (some (qI (M (w + 1) 5))) g (q_adM M w km wh hv)) : q_S 1 d 50 [qR 4 w, qI km, qI wh, qI hv] g M Q := by
  unfold q_adM at hq
  rw [s_X4_add]
  simp (disch := omega) only [b_X4_add_0, x_loadR_0, x_loadS_0, f_4_0, f_0_5, x_storeI_4, x_loadI_4, x_iconst, y_ic_lt_t, y_ic_lt_f, b_X4_add_15, x_ret0, b_X4_add_18, f_4_4, x_loadI_1, y_idiv, y_iast_26, f_4_5, y_irem, f_4_6, x_loadI_2, f_4_7, x_loadI_3, f_0_1, x_iadd, p_0_5, q_isL_I, q_isL_R, q_isL_S, true_and, and_true, and_self, List.length_nil, List.length_cons, Nat.zero_add, x_K, x_Kn, Int.reduceToNat, Nat.reduceAdd, Nat.reduceMul, Nat.reduceLeDiff, Nat.reduceLT, Nat.zero_le, Int.reduceAdd, Int.reduceSub, Int.reduceMul, Int.reduceNeg, q_add_e, q_sub_e, q_mul_e, q_neg_e, q_upd_s, q_upd_n, zr_shr0, zr_shr1, zr_shr2, zr_shr3, zr_shr4, zr_and, zr_dyn8, zr_or, zr_shl, q_cpy_n, y_cpy26, q_div_e, q_rem_e]
  exact hq
