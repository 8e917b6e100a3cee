/-! THE CLASS'S READER: a text made -/
theorem q_kd0 {j : Nat} : q_kd (124 + 4 * j) = 10 := by
  unfold q_kd
  rw [if_neg (by omega), if_pos (by omega)]
theorem q_kd1 {j : Nat} : q_kd (124 + 4 * j + 1) = 3 := by
  unfold q_kd
  rw [if_neg (by omega), if_neg (by omega), if_pos (by omega)]
theorem q_kd2 {j : Nat} : q_kd (124 + 4 * j + 1 + 1) = 23 := by
  unfold q_kd
  rw [if_neg (by omega), if_neg (by omega), if_neg (by omega), if_pos (by omega)]
theorem q_kd3 {j : Nat} : q_kd (124 + 4 * j + 1 + 1 + 1) = 60 := by
  unfold q_kd
  rw [if_neg (by omega), if_neg (by omega), if_neg (by omega), if_neg (by omega)]
section MADE
variable {d : Nat} {P : q_P} {nx : Nat} {ops : List Instr} {ls st : List q_V} {M : q_M} {Q : Option q_V → q_G → q_M → Prop} {c sl : Nat}
theorem x_na10 {v : Jvm.ClassFile.ArrayType} {n : Int} (h : q_kd c = 10) (h0 : 0 ≤ n) (h1 : n ≤ 1000) : q_T 1 d P nx (.newarray v :: ops) ls (qI n :: st) (c, sl) M Q = q_T 1 d P nx ops ls (qR 10 c :: st) (c + 1, sl + n.toNat) (q_sM M c (fun i => if i = 1000 then n else 0)) Q := by
  refine q_T_next ?_
  show (if q_isA (q_kd c) = true ∧ 0 ≤ n ∧ n ≤ 100000 ∧ (if q_kd c = 10 then n ≤ 1000 else n = (q_kd c : Int) - 20) then q_go nx ops ls (qR (q_kd c) c :: st) (c + 1, sl + n.toNat) (fun b i => if b = c then (if i = 1000 ∧ q_kd c = 10 then n else 0) else M b i) else none) = _
  rw [h, if_pos ⟨rfl, h0, by omega, by rw [if_pos rfl]; exact h1⟩]
  have e : (fun b i => if b = c then (if i = 1000 ∧ 10 = 10 then n else 0) else M b i) = q_sM M c (fun i => if i = 1000 then n else 0) := by
    funext b i
    unfold q_sM
    simp
  rw [e]
theorem x_na60 {v : Jvm.ClassFile.ArrayType} (h : q_kd c = 60) : q_T 1 d P nx (.newarray v :: ops) ls (qI 40 :: st) (c, sl) M Q = q_T 1 d P nx ops ls (qR 60 c :: st) (c + 1, sl + 40) (q_sM M c (fun _ => 0)) Q := by
  refine q_T_next ?_
  show (if q_isA (q_kd c) = true ∧ (0 : Int) ≤ 40 ∧ (40 : Int) ≤ 100000 ∧ (if q_kd c = 10 then (40 : Int) ≤ 1000 else (40 : Int) = (q_kd c : Int) - 20) then q_go nx ops ls (qR (q_kd c) c :: st) (c + 1, sl + (40 : Int).toNat) (fun b i => if b = c then (if i = 1000 ∧ q_kd c = 10 then (40 : Int) else 0) else M b i) else none) = _
  rw [h, if_pos ⟨rfl, by omega, by omega, by rw [if_neg (by decide)]; decide⟩]
  have e : (fun b i => if b = c then (if i = 1000 ∧ 60 = 10 then (40 : Int) else 0) else M b i) = q_sM M c (fun _ => 0) := by
    funext b i
    unfold q_sM
    simp
  rw [e]
  rfl
theorem x_new3 (h : q_kd c = 3) : q_T 1 d P nx (.new 3 :: ops) ls st (c, sl) M Q = q_T 1 d P nx ops ls (qR 3 c :: st) (c + 1, sl + 4) (q_sM M c (fun i => if (q_ty 1 3 i).1 = 2 then -1 else 0)) Q := by
  refine q_T_next ?_
  show (if 3 < 7 ∧ q_kd c = 3 ∧ (1 = 0 ∨ 3 = 3) then q_go nx ops ls (qR 3 c :: st) (c + 1, sl + q_nf 3) (fun b i => if b = c then (if (q_ty 1 3 i).1 = 2 then -1 else 0) else M b i) else none) = _
  rw [if_pos ⟨by decide, h, Or.inr rfl⟩]
  rfl
theorem x_cln {a : Nat} (h : q_kd c = 23) : q_T 1 d P nx (.swap :: ops) ls (qR 23 a :: st) (c, sl) M Q = (st.length ≤ 6 ∧ q_T 1 d P nx ops ls (qR 23 c :: st) (c + 1, sl + 3) (q_sM M c (M a)) Q) := by
  refine q_T_if ?_
  show (if 20 ≤ 23 ∧ q_kd c = 23 ∧ st.length ≤ 6 then q_go nx ops ls (qR 23 c :: st) (c + 1, sl + (23 - 20)) (fun b i => if b = c then M a i else M b i) else none) = _
  rw [h]
  by_cases k : st.length ≤ 6
  · rw [if_pos ⟨by decide, rfl, k⟩, if_pos k]
    rfl
  · rw [if_neg (fun z => k z.2.2), if_neg k]
theorem x_cst {g : q_G} {a : Nat} : q_T 1 d P nx (.nop :: ops) ls (qR 23 a :: st) g M Q = q_T 1 d P nx ops ls (qR 23 a :: st) g M Q := q_T_next rfl
theorem p_3_1 {g : q_G} {a b : Nat} : q_T 1 d P nx (.putfield 301 :: ops) ls (qR 10 b :: qR 3 a :: st) g M Q = (b < 2147483648 ∧ q_T 1 d P nx ops ls st g (q_upd M a 1 b) Q) := q_put_ref (c := 301) (by decide) (by decide) (by decide)
theorem p_3_2 {g : q_G} {a b : Nat} : q_T 1 d P nx (.putfield 302 :: ops) ls (qR 23 b :: qR 3 a :: st) g M Q = (b < 2147483648 ∧ q_T 1 d P nx ops ls st g (q_upd M a 2 b) Q) := q_put_ref (c := 302) (by decide) (by decide) (by decide)
theorem p_3_3 {g : q_G} {a b : Nat} : q_T 1 d P nx (.putfield 303 :: ops) ls (qR 60 b :: qR 3 a :: st) g M Q = (b < 2147483648 ∧ q_T 1 d P nx ops ls st g (q_upd M a 3 b) Q) := q_put_ref (c := 303) (by decide) (by decide) (by decide)
theorem x_aast8 {g : q_G} {a b : Nat} {j : Int} (h0 : 0 ≤ j) (h1 : j < 6) (h2 : b < 2147483648) : q_T 1 d P nx (.aastore :: ops) ls (qR 3 b :: qI j :: qR 8 a :: st) g M Q = q_T 1 d P nx ops ls st g (q_upd M a j.toNat b) Q := by
  refine q_T_next ?_
  show (if (8 = 8 ∨ 8 = 9) ∧ 0 ≤ j ∧ j < q_len 8 a M ∧ (q_ty 1 8 j.toNat).1 = 2 ∧ (q_ty 1 8 j.toNat).2.1 = 3 ∧ b < 2147483648 then q_go nx ops ls st g (q_upd M a j.toNat b) else none) = _
  rw [if_pos ⟨Or.inl rfl, h0, h1, rfl, rfl, h2⟩]
end MADE
theorem sp_textInit {d c sl w ca sa : Nat} {x : Int} {M : q_M} {Q : Option q_V → q_G → q_M → Prop} (h : q_kd c = 60) (hc : c < 100000) (hca : ca < 100000) (hsa : sa < 100000) (hq : Q none (c + 1, sl + 40) (q_upd (q_upd (q_upd (q_upd (q_sM M c (fun _ => 0)) w 3 c) w 0 x) w 1 ca) w 2 sa)) : q_S 1 d 46 [qR 3 w, qI x, qR 10 ca, qR 23 sa] (c, sl) M Q := by
  have e1 : c < 2147483648 := by omega
  have e2 : ca < 2147483648 := by omega
  have e3 : sa < 2147483648 := by omega
  rw [s_X3_init]
  simp (disch := omega) only [b_X3_init_0, x_loadR_0, x_loadS_0, x_objInit, x_iconst, p_3_3, x_loadI_1, p_3_0, x_loadR_2, x_loadS_2, p_3_1, x_loadR_3, x_loadS_3, p_3_2, x_vret, q_isL_I, q_isL_R, q_isL_S, true_and, and_true, and_self, List.length_nil, List.length_cons, Nat.zero_add, x_K, x_Kn, Int.reduceToNat, Nat.reduceAdd, Nat.reduceMul, Nat.reduceLeDiff, Nat.reduceLT, Nat.zero_le, Int.reduceAdd, Int.reduceSub, Int.reduceMul, Int.reduceNeg, q_add_e, q_sub_e, q_mul_e, q_neg_e, q_upd_s, q_upd_n, zr_shr0, zr_shr1, zr_shr2, zr_shr3, zr_shr4, zr_and, zr_dyn8, zr_or, zr_shl, q_cpy_n, y_cpy26, x_na60, h, p_3_1, p_3_2, p_3_3, e1, e2, e3, Nat.zero_le]
  exact hq
/-- a text's cells, made at 124 + 4 j of the code C, so long, and the starts s -/
def q_mdM (M M2 : q_M) (j : Nat) (number len : Int) (C s : Nat → Int) : Prop :=
  (∀ a i, (a < 124 + 4 * j ∨ 127 + 4 * j < a) → M2 a i = M a i) ∧ (∀ i : Nat, (i : Int) < len → i < 160 → M2 (124 + 4 * j) i = C i) ∧ M2 (124 + 4 * j) 1000 = len ∧ M2 (125 + 4 * j) 0 = number ∧ M2 (125 + 4 * j) 1 = ((124 + 4 * j : Nat) : Int) ∧ M2 (125 + 4 * j) 2 = ((126 + 4 * j : Nat) : Int) ∧ M2 (125 + 4 * j) 3 = ((127 + 4 * j : Nat) : Int) ∧ (∀ i, M2 (126 + 4 * j) i = s i)
set_option maxHeartbeats 4000000 in
theorem sp_made {d j sl : Nat} {number : Int} {M : q_M} {Q : Option q_V → q_G → q_M → Prop} (hj : j < 100) (h0 : 0 ≤ M 1 3) (h1 : M 1 3 ≤ 160) (hq : ∀ M2 : q_M, q_mdM M M2 j number (M 1 3) (M 3) (M 4) → Q (some (qR 3 (125 + 4 * j))) (124 + 4 * (j + 1), sl + (M 1 3).toNat + 47) M2) : q_S 1 (d + 1) 24 [qR 1 1, qI number] (124 + 4 * j, sl) M Q := by
  have k0 := q_kd0 (j := j)
  have k1 := q_kd1 (j := j)
  have k2 := q_kd2 (j := j)
  have k3 := q_kd3 (j := j)
  have hl : ∀ (n : Int) (X : q_M), q_len 10 (124 + 4 * j) (q_sM X (124 + 4 * j) (fun i => if i = 1000 then n else 0)) = n := fun n X => by
    show q_sM X (124 + 4 * j) (fun i => if i = 1000 then n else 0) (124 + 4 * j) 1000 = n
    rw [q_sM_s, if_pos rfl]
  have hl2 : ∀ X : q_M, q_len 180 3 X = 160 := fun _ => rfl
  have hA : q_isA 180 = true := rfl
  have hB : q_isA 10 = true := rfl
  have r3 : ∀ (f : Nat → Int), q_sM M (124 + 4 * j) f 1 3 = M 1 3 := fun f => q_sM_n (by omega)
  have hb : 0 ≤ M 1 3 ∧ M 1 3 ≤ 160 ∧ 0 + M 1 3 ≤ 160 ∧ 0 + M 1 3 ≤ M 1 3 := by omega
  rw [s_X1_made]
  simp (disch := omega) only [b_X1_made_0, x_loadR_0, x_loadS_0, f_1_3, x_storeR_2, f_1_2, x_iconst, x_loadR_2, x_loadS_2, x_dupI, x_dupR, x_loadI_1, f_1_4, x_aret, q_isL_I, q_isL_R, q_isL_S, true_and, and_true, and_self, List.length_nil, List.length_cons, Nat.zero_add, x_K, x_Kn, Int.reduceToNat, Nat.reduceAdd, Nat.reduceMul, Nat.reduceLeDiff, Nat.reduceLT, Nat.zero_le, Int.reduceAdd, Int.reduceSub, Int.reduceMul, Int.reduceNeg, q_add_e, q_sub_e, q_mul_e, q_neg_e, q_upd_s, q_upd_n, zr_shr0, zr_shr1, zr_shr2, zr_shr3, zr_shr4, zr_and, zr_dyn8, zr_or, zr_shl, q_cpy_n, x_na10, k0, x_cpy, hl, hl2, hA, hB, r3, hb, Int.le_refl, Nat.zero_le, x_new3, k1, x_cln, k2, x_cst, c_X3_init]
  refine sp_textInit (c := 124 + 4 * j + 1 + 1 + 1) k3 (by omega) (by omega) (by omega) ?_
  simp (disch := omega) only [b_X1_made_0, x_loadR_0, x_loadS_0, f_1_3, x_storeR_2, f_1_2, x_iconst, x_loadR_2, x_loadS_2, y_cpy26, x_dupI, x_dupR, x_loadI_1, f_1_4, x_aret, q_isL_I, q_isL_R, q_isL_S, true_and, and_true, and_self, List.length_nil, List.length_cons, Nat.zero_add, x_K, x_Kn, Int.reduceToNat, Nat.reduceAdd, Nat.reduceMul, Nat.reduceLeDiff, Nat.reduceLT, Nat.zero_le, Int.reduceAdd, Int.reduceSub, Int.reduceMul, Int.reduceNeg, q_add_e, q_sub_e, q_mul_e, q_neg_e, q_upd_s, q_upd_n, zr_shr0, zr_shr1, zr_shr2, zr_shr3, zr_shr4, zr_and, zr_dyn8, zr_or, zr_shl, q_cpy_n, y_cpy26]
  have e1 : sl + (M 1 3).toNat + 4 + 3 + 40 = sl + (M 1 3).toNat + 47 := by omega
  have e2 : 124 + 4 * j + 1 + 1 + 1 + 1 = 124 + 4 * (j + 1) := by omega
  have e3 : 124 + 4 * j + 1 = 125 + 4 * j := by omega
  rw [e1, e2, e3]
  refine hq _ ⟨?_, ?_, ?_, ?_, ?_, ?_, ?_, ?_⟩
  · intro a i ha
    simp (disch := omega) only [q_upd_n, q_sM_n, q_cpy_n]
  · intro i hi hi2
    simp (disch := omega) only [q_upd_n, q_sM_n, q_cpy_i, Nat.sub_zero, Nat.zero_add]
  · simp (disch := omega) only [q_upd_n, q_sM_n, q_cpy_n, q_sM_s, if_true]
  · simp (disch := omega) only [q_upd_n, q_upd_s]
  · simp (disch := omega) only [q_upd_n, q_upd_s]
  · simp (disch := omega) only [q_upd_n, q_upd_s]
    omega
  · simp (disch := omega) only [q_upd_n, q_upd_s]
    omega
  · intro i
    have e4 : 126 + 4 * j = 125 + 4 * j + 1 := by omega
    rw [e4]
    simp (disch := omega) only [q_upd_n, q_sM_n, q_sM_s, q_cpy_n]
