/-! THE MODEL: a turn, a year -/
theorem F_takes_cong {f f' w w' : Nat → Int} {room b : Int} {n p : Nat} (h1 : ∀ k, k < n → f k = f' k) (h2 : ∀ k, k < n → w k = w' k) (hp : p < n) : F_takes f w room b n p = F_takes f' w' room b n p := by
  have e := F_last_cong (b := b) n h1 (fun k hk _ => h2 k hk)
  unfold F_takes
  rw [F_cnt_cong n h1, ← e]
  rcases F_last_in (f := f) (w := w) (b := b) n with h | h
  · simp only [h, if_true]
  · rw [← h2 _ h.1, ← h2 _ hp]
theorem mIn_cong {M : q_M} : ∀ k, k < (M 100 0).toNat → mIn M k = mW M 4 k := fun _ hk => (mW_4 hk).symm
def G_tak (V : Nat → (Nat → Int) → Int) (S : q_M) (p b : Nat) : Bool := F_takes (S 4) (fun q => F_wants V S q b) (S 6 b) b (F_n S) p
def G_S2 (V : Nat → (Nat → Int) → Int) (S : q_M) (p b : Nat) : q_M :=
  q_upd (if F_out V S b = 5 then q_upd S 4 p b else q_upd (q_upd S 4 (F_out V S b) 5) 4 p b) 8 b (if S 8 b + 1 < 99 then S 8 b + 1 else 99)
def G_goto (V : Nat → (Nat → Int) → Int) (S : q_M) (p b : Nat) : Bool × q_M :=
  if F_mv V S p b = S 5 b then (if G_tak V (F_S1 V S p b) p b = true then (true, G_S2 V (F_S1 V S p b) p b) else (false, F_S1 V S p b)) else (false, F_S1 V S p b)
def G_turn (V : Nat → (Nat → Int) → Int) (S : q_M) (p : Nat) : Bool × q_M := if F_wish V S p = 5 then (false, S) else G_goto V S p (F_wish V S p)
def G_yr (V : Nat → (Nat → Int) → Int) (S : q_M) : Nat → Int × q_M
  | 0 => (0, S)
  | p + 1 => if (G_yr V S p).2 4 p = 5 then (q_or (G_yr V S p).1 (if (G_turn V (G_yr V S p).2 p).1 = true then q_shl 1 p else 0), (G_turn V (G_yr V S p).2 p).2) else G_yr V S p
def G_year (V : Nat → (Nat → Int) → Int) (S : q_M) : Int × q_M := ((G_yr V S (F_n S)).1, q_upd (G_yr V S (F_n S)).2 9 1 (S 9 1 + 1))
/-- what goings change in the model -/
def q_my (M M2 : q_M) : Prop := ∀ a i, a ≠ 116 → a ≠ 117 → (a = 104 → 15 ≤ i) → (a = 103 → 20 ≤ i) → M2 a i = M a i
theorem q_my_rf {M : q_M} : q_my M M := fun _ _ _ _ _ _ => rfl
theorem q_my_tr {M M2 M3 : q_M} (h : q_my M M2) (h2 : q_my M2 M3) : q_my M M3 := fun a i h3 h4 h5 h6 => (h2 a i h3 h4 h5 h6).trans (h a i h3 h4 h5 h6)
theorem q_my_mf {M M2 : q_M} (h : q_mf M M2) : q_my M M2 := fun a i h1 h2 _ _ => h a i h1 h2
theorem q_my_up {M M2 : q_M} {a i : Nat} {v : Int} (h : q_my M M2) (ha : (a = 104 ∧ i < 15) ∨ (a = 103 ∧ i < 20)) : q_my M (q_upd M2 a i v) := by
  intro x j h1 h2 h3 h4
  rw [q_upd_n (by omega)]
  exact h x j h1 h2 h3 h4
set_option maxHeartbeats 8000000 in
theorem mp_turn {V : Nat → (Nat → Int) → Int} {d : Nat} {g : q_G} {M : q_M} {p : Nat} {Q : Option q_V → q_G → q_M → Prop} (hm : q_ml V M) (hp : p < (M 100 0).toNat) (hin : M 104 (3 * p + 2) = -1) (hq : ∀ M2 : q_M, q_ml V M2 → mW M2 = (G_turn V (mW M) p).2 → q_my M M2 → Q (some (qI (if (G_turn V (mW M) p).1 = true then 1 else 0))) g M2) : q_S 1 (d + 6) 150 [qR 6 100, qI p] g M Q := by
  have n0 := hm.1.1
  have hp5 : p < 5 := by omega
  rw [s_X6_turnOf]
  have wish : ∀ (nx : Nat) (ops : List Instr) (ls st : List q_V), (∀ M2 : q_M, q_mf M M2 → q_T 1 (d + 6) qP_X6_turnOf nx ops ls (qI (m_no (F_wish V (mW M) p)) :: st) g M2 Q) → q_S 1 (d + 5) 144 [qR 6 100, qI p] g M (q_K 1 (d + 6) qP_X6_turnOf nx ops ls st Q) := fun nx ops ls st h => mp_wish hm hp h
  simp (disch := omega) only [b_X6_turnOf_0, x_loadR_0, x_loadS_0, x_loadI_1, x_storeI_2, x_loadI_2, x_iconst, y_ic_ne_t, y_ic_ne_f, b_X6_turnOf_11, x_ret1_0, x_ret1_1, b_X6_turnOf_13, x_storeI_3, f_6_3, x_imul, y_iald_35, y_iald_40, f_6_4, x_isub, x_storeI_4, x_dup2, x_loadI_4, x_loadI_3, y_ic_le_t, y_ic_le_f, b_X6_turnOf_53, x_goto, b_X6_turnOf_57, x_ineg, y_ic_ge_t, y_ic_ge_f, b_X6_turnOf_64, b_X6_turnOf_69, b_X6_turnOf_71, x_iadd, y_iast_35, y_iast_40, b_X6_turnOf_92, y_if_ne_t, y_if_ne_f, b_X6_turnOf_101, b_X6_turnOf_103, y_if_eq_t, y_if_eq_f, b_X6_turnOf_111, x_storeI_5, x_loadI_5, b_X6_turnOf_135, q_isL_I, q_isL_R, q_isL_S, true_and, and_true, and_self, List.length_nil, List.length_cons, Nat.zero_add, x_K, x_Kn, Int.reduceToNat, Nat.reduceAdd, Nat.reduceMul, Nat.reduceLeDiff, Nat.reduceLT, Nat.zero_le, Int.reduceAdd, Int.reduceSub, Int.reduceMul, Int.reduceNeg, q_add_e, q_sub_e, q_mul_e, q_neg_e, q_upd_s, q_upd_n, zr_shr0, zr_shr1, zr_shr2, zr_shr3, zr_shr4, zr_and, zr_dyn8, zr_or, zr_shl, q_cpy_n, y_cpy26, c_X6_wishOf]
  refine wish _ _ _ _ (fun M1 h1 => ?_)
  have hwl := F_wish_le (V := V) (S := mW M) (p := p)
  unfold G_turn at hq
  generalize F_wish V (mW M) p = W at hq hwl ⊢
  rcases hwl with hW | hW
  · rw [if_neg (show ¬W = 5 by omega)] at hq
    have eW : m_no W = (W : Int) := if_neg (by omega)
    have goes : ∀ (nx : Nat) (ops : List Instr) (ls st : List q_V), (∀ M2 : q_M, q_mf M M2 → q_T 1 (d + 6) qP_X6_turnOf nx ops ls (qI (F_goes V (mW M) p) :: st) g M2 Q) → q_S 1 (d + 5) 143 [qR 6 100, qI p] g M1 (q_K 1 (d + 6) qP_X6_turnOf nx ops ls st Q) := fun nx ops ls st h => mp_goes (q_mf_ml h1 hm) (by rw [h1 100 0 (by omega) (by omega)]; exact hp) (fun M2 h2 => by rw [q_mf_mW h1]; exact h M2 (q_mf_tr h1 h2))
    simp (disch := omega) only [b_X6_turnOf_0, x_loadR_0, x_loadS_0, x_loadI_1, x_storeI_2, x_loadI_2, x_iconst, y_ic_ne_t, y_ic_ne_f, b_X6_turnOf_11, x_ret1_0, x_ret1_1, b_X6_turnOf_13, x_storeI_3, f_6_3, x_imul, y_iald_35, y_iald_40, f_6_4, x_isub, x_storeI_4, x_dup2, x_loadI_4, x_loadI_3, y_ic_le_t, y_ic_le_f, b_X6_turnOf_53, x_goto, b_X6_turnOf_57, x_ineg, y_ic_ge_t, y_ic_ge_f, b_X6_turnOf_64, b_X6_turnOf_69, b_X6_turnOf_71, x_iadd, y_iast_35, y_iast_40, b_X6_turnOf_92, y_if_ne_t, y_if_ne_f, b_X6_turnOf_101, b_X6_turnOf_103, y_if_eq_t, y_if_eq_f, b_X6_turnOf_111, x_storeI_5, x_loadI_5, b_X6_turnOf_135, q_isL_I, q_isL_R, q_isL_S, true_and, and_true, and_self, List.length_nil, List.length_cons, Nat.zero_add, x_K, x_Kn, Int.reduceToNat, Nat.reduceAdd, Nat.reduceMul, Nat.reduceLeDiff, Nat.reduceLT, Nat.zero_le, Int.reduceAdd, Int.reduceSub, Int.reduceMul, Int.reduceNeg, q_add_e, q_sub_e, q_mul_e, q_neg_e, q_upd_s, q_upd_n, zr_shr0, zr_shr1, zr_shr2, zr_shr3, zr_shr4, zr_and, zr_dyn8, zr_or, zr_shl, q_cpy_n, y_cpy26, eW, c_X6_goesOf]
    refine goes _ _ _ _ (fun M2 h2 => ?_)
    have m2 := q_mf_ml h2 hm
    have w2 := q_mf_mW h2
    have gl := F_goes_le (V := V) (S := mW M) (p := p) (by rw [mW_1 hp]; exact hm.1.2.2.2.1 p hp5)
    have ra := m2.1.2.2.2.2.1 p hp5
    have rb := m2.1.2.2.2.2.2.2.2.1 W hW
    have ea : mW M 2 p = M2 104 (3 * p) := by rw [← w2]; exact mW_2 (by rw [h2 100 0 (by omega) (by omega)]; exact hp)
    have eb : mW M 5 W = M2 103 (4 * W) := by rw [← w2]; exact mW_5 hW
    have emv : F_mv V (mW M) p W = if M2 103 (4 * W) - M2 104 (3 * p) < -F_goes V (mW M) p then M2 104 (3 * p) - F_goes V (mW M) p else if F_goes V (mW M) p < M2 103 (4 * W) - M2 104 (3 * p) then M2 104 (3 * p) + F_goes V (mW M) p else M2 103 (4 * W) := by
      unfold F_mv
      rw [ea, eb]
    have key : ∀ (de : Int) (l5 : q_V), q_isL l5 = false → M2 104 (3 * p) + de = F_mv V (mW M) p W → q_T 1 (d + 6) qP_X6_turnOf 71 [] [qR 6 100, qI p, qI W, qI (F_goes V (mW M) p), qI (M2 103 (4 * W) - M2 104 (3 * p)), l5] [qI de, qI (M2 104 (3 * p)), qI (3 * p), qR 35 104] g M2 Q := by
      intro de l5 hl5 hde
      have mvb : 0 ≤ F_mv V (mW M) p W ∧ F_mv V (mW M) p W ≤ 99 := by
        rw [emv]
        split
        · omega
        · split <;> omega
      unfold G_goto at hq
      have w3 : mW (q_upd M2 104 (3 * p) (F_mv V (mW M) p W)) = F_S1 V (mW M) p W := by
        rw [mW_up2 (by rw [h2 100 0 (by omega) (by omega)]; exact hp), w2]
        rfl
      have m3 : q_ml V (q_upd M2 104 (3 * p) (F_mv V (mW M) p W)) := q_ml_up m2 (q_ok2 mvb) (by omega) (by omega) (by omega)
      have y3 : q_my M (q_upd M2 104 (3 * p) (F_mv V (mW M) p W)) := q_my_up (q_my_mf h2) (by omega)
      have s3 : q_upd M2 104 (3 * p) (F_mv V (mW M) p W) 104 (3 * p) = F_mv V (mW M) p W := q_upd_s
      have b3 : q_upd M2 104 (3 * p) (F_mv V (mW M) p W) 103 (4 * W) = M2 103 (4 * W) := q_upd_n (by omega)
      generalize F_mv V (mW M) p W = mv at hq w3 m3 y3 s3 b3 mvb hde ⊢
      generalize hM3 : q_upd M2 104 (3 * p) mv = M3 at w3 m3 y3 s3 b3 ⊢
      rw [b_X6_turnOf_71]
      have n3 : M3 100 0 = M 100 0 := y3 100 0 (by omega) (by omega) (by omega) (by omega)
      by_cases c1 : mv = M2 103 (4 * W)
      · rw [if_pos (show mv = mW M 5 W by rw [eb]; exact c1)] at hq
        have takes : ∀ (nx : Nat) (ops : List Instr) (ls st : List q_V), (∀ M4 : q_M, q_mf M3 M4 → q_T 1 (d + 6) qP_X6_turnOf nx ops ls (qI (if G_tak V (mW M3) p W = true then 1 else 0) :: st) g M4 Q) → q_S 1 (d + 5) 149 [qR 6 100, qI W, qI p] g M3 (q_K 1 (d + 6) qP_X6_turnOf nx ops ls st Q) := fun nx ops ls st h => mp_takes m3 (by rw [n3]; exact hp) hW (fun M4 h4 => by
          have e : F_takes (mIn M3) (fun q => F_wants V (mW M3) q W) (M3 103 (4 * W + 1)) W (M3 100 0).toNat p = G_tak V (mW M3) p W := by
            unfold G_tak
            rw [show F_n (mW M3) = (M3 100 0).toNat from rfl, mW_6 hW]
            exact F_takes_cong mIn_cong (fun k _ => rfl) (by rw [n3]; exact hp)
          rw [e]
          exact h M4 h4)
        simp (disch := omega) only [b_X6_turnOf_0, x_loadR_0, x_loadS_0, x_loadI_1, x_storeI_2, x_loadI_2, x_iconst, y_ic_ne_t, y_ic_ne_f, b_X6_turnOf_11, x_ret1_0, x_ret1_1, b_X6_turnOf_13, x_storeI_3, f_6_3, x_imul, y_iald_35, y_iald_40, f_6_4, x_isub, x_storeI_4, x_dup2, x_loadI_4, x_loadI_3, y_ic_le_t, y_ic_le_f, b_X6_turnOf_53, x_goto, b_X6_turnOf_57, x_ineg, y_ic_ge_t, y_ic_ge_f, b_X6_turnOf_64, b_X6_turnOf_69, b_X6_turnOf_71, x_iadd, y_iast_35, y_iast_40, b_X6_turnOf_92, y_if_ne_t, y_if_ne_f, b_X6_turnOf_101, b_X6_turnOf_103, y_if_eq_t, y_if_eq_f, b_X6_turnOf_111, x_storeI_5, x_loadI_5, b_X6_turnOf_135, q_isL_I, q_isL_R, q_isL_S, true_and, and_true, and_self, List.length_nil, List.length_cons, Nat.zero_add, x_K, x_Kn, Int.reduceToNat, Nat.reduceAdd, Nat.reduceMul, Nat.reduceLeDiff, Nat.reduceLT, Nat.zero_le, Int.reduceAdd, Int.reduceSub, Int.reduceMul, Int.reduceNeg, q_add_e, q_sub_e, q_mul_e, q_neg_e, q_upd_s, q_upd_n, zr_shr0, zr_shr1, zr_shr2, zr_shr3, zr_shr4, zr_and, zr_dyn8, zr_or, zr_shl, q_cpy_n, y_cpy26, Int.toNat_natCast, tn_30, tn_40, hde, hM3, s3, b3, c_X6_doesTake]
        refine takes _ _ _ _ (fun M4 h4 => ?_)
        rw [w3]
        by_cases c2 : G_tak V (F_S1 V (mW M) p W) p W = true
        · rw [if_pos c2] at hq
          have m4 := q_mf_ml h4 m3
          have w4 : mW M4 = F_S1 V (mW M) p W := (q_mf_mW h4).trans w3
          have n4 : M4 100 0 = M 100 0 := (h4 100 0 (by omega) (by omega)).trans n3
          have y4 : q_my M M4 := q_my_tr y3 (q_my_mf h4)
          have eo : F_out V (F_S1 V (mW M) p W) W = if F_cnt (mIn M4) W (M4 100 0).toNat < M4 103 (4 * W + 1) then 5 else F_last (mIn M4) (fun q => F_wants V (mW M4) q W) W (M4 100 0).toNat := by
            rw [← w4]
            unfold F_out F_cast
            rw [show F_n (mW M4) = (M4 100 0).toNat from rfl, mW_6 hW, ← F_cnt_cong _ mIn_cong, ← F_last_cong _ mIn_cong (fun k _ _ => rfl)]
          have c3 : F_takes (mIn M4) (fun q => F_wants V (mW M4) q W) (M4 103 (4 * W + 1)) W (M4 100 0).toNat p = true := by
            rw [← c2, ← w4]
            unfold G_tak
            rw [show F_n (mW M4) = (M4 100 0).toNat from rfl, mW_6 hW]
            exact F_takes_cong mIn_cong (fun k _ => rfl) (by rw [n4]; exact hp)
          have fin : ∀ (M6 : q_M) (l5 : q_V), q_isL l5 = false → q_ml V M6 → mW M6 = (if F_out V (F_S1 V (mW M) p W) W = 5 then F_S1 V (mW M) p W else q_upd (F_S1 V (mW M) p W) 4 (F_out V (F_S1 V (mW M) p W) W) 5) → q_my M M6 → q_T 1 (d + 6) qP_X6_turnOf 135 [] [qR 6 100, qI p, qI W, qI (F_goes V (mW M) p), qI (M2 103 (4 * W) - M2 104 (3 * p)), l5] [] g M6 Q := by
            intro M6 l5 hl5 m6 w6 y6
            have rd := m6.1.2.2.2.2.2.2.2.2.2.2 W hW
            have n6 : M6 100 0 = M 100 0 := y6 100 0 (by omega) (by omega) (by omega) (by omega)
            have s8 : F_S1 V (mW M) p W 8 W = M6 103 (4 * W + 3) := by
              have h8 : mW M6 8 W = M6 103 (4 * W + 3) := mW_8 hW
              rw [← h8, w6]
              split
              · rfl
              · exact (q_upd_n (by omega)).symm
            have ev : (if M6 103 (4 * W + 3) + 1 < 0 then 0 else if 99 < M6 103 (4 * W + 3) + 1 then 99 else M6 103 (4 * W + 3) + 1) = if M6 103 (4 * W + 3) + 1 < 99 then M6 103 (4 * W + 3) + 1 else 99 := by (repeat' split) <;> omega
            have e8 : q_upd M6 104 (3 * p + 2) (W : Nat) 103 (4 * W + 3) = M6 103 (4 * W + 3) := q_upd_n (by omega)
            rw [b_X6_turnOf_135]
            simp (disch := omega) only [b_X6_turnOf_0, x_loadR_0, x_loadS_0, x_loadI_1, x_storeI_2, x_loadI_2, x_iconst, y_ic_ne_t, y_ic_ne_f, b_X6_turnOf_11, x_ret1_0, x_ret1_1, b_X6_turnOf_13, x_storeI_3, f_6_3, x_imul, y_iald_35, y_iald_40, f_6_4, x_isub, x_storeI_4, x_dup2, x_loadI_4, x_loadI_3, y_ic_le_t, y_ic_le_f, b_X6_turnOf_53, x_goto, b_X6_turnOf_57, x_ineg, y_ic_ge_t, y_ic_ge_f, b_X6_turnOf_64, b_X6_turnOf_69, b_X6_turnOf_71, x_iadd, y_iast_35, y_iast_40, b_X6_turnOf_92, y_if_ne_t, y_if_ne_f, b_X6_turnOf_101, b_X6_turnOf_103, y_if_eq_t, y_if_eq_f, b_X6_turnOf_111, x_storeI_5, x_loadI_5, q_isL_I, q_isL_R, q_isL_S, true_and, and_true, and_self, List.length_nil, List.length_cons, Nat.zero_add, x_K, x_Kn, Int.reduceToNat, Nat.reduceAdd, Nat.reduceMul, Nat.reduceLeDiff, Nat.reduceLT, Nat.zero_le, Int.reduceAdd, Int.reduceSub, Int.reduceMul, Int.reduceNeg, q_add_e, q_sub_e, q_mul_e, q_neg_e, q_upd_s, q_upd_n, zr_shr0, zr_shr1, zr_shr2, zr_shr3, zr_shr4, zr_and, zr_dyn8, zr_or, zr_shl, q_cpy_n, y_cpy26, Int.toNat_natCast, tn_32, tn_43, e8, c_X6_within, mp_within]
            rw [ev]
            refine hq _ (q_ml_up (q_ml_up m6 (q_ok4 (by omega)) (by omega) (by omega) (by omega)) (q_ok5 (by omega) (by split <;> omega)) (by omega) (by omega) (by omega)) ?_ (q_my_up (q_my_up y6 (by omega)) (by omega))
            rw [mW_up8 hW, mW_up4 (by rw [n6]; exact hp), if_neg (by omega), w6]
            unfold G_S2
            rw [s8]
            split
            · rfl
            · rfl
          by_cases c4 : F_cnt (mIn M4) W (M4 100 0).toNat < M4 103 (4 * W + 1)
          · rw [if_pos c4] at eo
            rw [eo, if_pos rfl] at fin
            have c5 : ¬M4 103 (4 * W + 1) ≤ F_cnt (mIn M4) W (M4 100 0).toNat := by omega
            simp (disch := omega) only [b_X6_turnOf_0, x_loadR_0, x_loadS_0, x_loadI_1, x_storeI_2, x_loadI_2, x_iconst, y_ic_ne_t, y_ic_ne_f, b_X6_turnOf_11, x_ret1_0, x_ret1_1, b_X6_turnOf_13, x_storeI_3, f_6_3, x_imul, y_iald_35, y_iald_40, f_6_4, x_isub, x_storeI_4, x_dup2, x_loadI_4, x_loadI_3, y_ic_le_t, y_ic_le_f, b_X6_turnOf_53, x_goto, b_X6_turnOf_57, x_ineg, y_ic_ge_t, y_ic_ge_f, b_X6_turnOf_64, b_X6_turnOf_69, b_X6_turnOf_71, x_iadd, y_iast_35, y_iast_40, b_X6_turnOf_92, y_if_ne_t, y_if_ne_f, b_X6_turnOf_101, b_X6_turnOf_103, y_if_eq_t, y_if_eq_f, b_X6_turnOf_111, x_storeI_5, x_loadI_5, q_isL_I, q_isL_R, q_isL_S, true_and, and_true, and_self, List.length_nil, List.length_cons, Nat.zero_add, x_K, x_Kn, Int.reduceToNat, Nat.reduceAdd, Nat.reduceMul, Nat.reduceLeDiff, Nat.reduceLT, Nat.zero_le, Int.reduceAdd, Int.reduceSub, Int.reduceMul, Int.reduceNeg, q_add_e, q_sub_e, q_mul_e, q_neg_e, q_upd_s, q_upd_n, zr_shr0, zr_shr1, zr_shr2, zr_shr3, zr_shr4, zr_and, zr_dyn8, zr_or, zr_shl, q_cpy_n, y_cpy26, c2, if_true, c_X6_isFullSite, mp_full, c5, if_false]
            exact fin M4 _ hl5 m4 w4 y4
          · rw [if_neg c4] at eo
            have c5 : M4 103 (4 * W + 1) ≤ F_cnt (mIn M4) W (M4 100 0).toNat := by omega
            have h7 := F_last_1 (mIn M4) (fun q => F_wants V (mW M4) q W) W (M4 100 0).toNat
            unfold F_takes at c3
            rw [if_neg c4] at c3
            have last : ∀ (nx : Nat) (ops : List Instr) (ls st : List q_V), (∀ M5 : q_M, q_mf M4 M5 → q_T 1 (d + 6) qP_X6_turnOf nx ops ls (qI (m_no (F_last (mIn M4) (fun q => F_wants V (mW M4) q W) W (M4 100 0).toNat)) :: st) g M5 Q) → q_S 1 (d + 5) 147 [qR 6 100, qI W] g M4 (q_K 1 (d + 6) qP_X6_turnOf nx ops ls st Q) := fun nx ops ls st h => mp_last m4 hW h
            simp (disch := omega) only [b_X6_turnOf_0, x_loadR_0, x_loadS_0, x_loadI_1, x_storeI_2, x_loadI_2, x_iconst, y_ic_ne_t, y_ic_ne_f, b_X6_turnOf_11, x_ret1_0, x_ret1_1, b_X6_turnOf_13, x_storeI_3, f_6_3, x_imul, y_iald_35, y_iald_40, f_6_4, x_isub, x_storeI_4, x_dup2, x_loadI_4, x_loadI_3, y_ic_le_t, y_ic_le_f, b_X6_turnOf_53, x_goto, b_X6_turnOf_57, x_ineg, y_ic_ge_t, y_ic_ge_f, b_X6_turnOf_64, b_X6_turnOf_69, b_X6_turnOf_71, x_iadd, y_iast_35, y_iast_40, b_X6_turnOf_92, y_if_ne_t, y_if_ne_f, b_X6_turnOf_101, b_X6_turnOf_103, y_if_eq_t, y_if_eq_f, b_X6_turnOf_111, x_storeI_5, x_loadI_5, q_isL_I, q_isL_R, q_isL_S, true_and, and_true, and_self, List.length_nil, List.length_cons, Nat.zero_add, x_K, x_Kn, Int.reduceToNat, Nat.reduceAdd, Nat.reduceMul, Nat.reduceLeDiff, Nat.reduceLT, Nat.zero_le, Int.reduceAdd, Int.reduceSub, Int.reduceMul, Int.reduceNeg, q_add_e, q_sub_e, q_mul_e, q_neg_e, q_upd_s, q_upd_n, zr_shr0, zr_shr1, zr_shr2, zr_shr3, zr_shr4, zr_and, zr_dyn8, zr_or, zr_shl, q_cpy_n, y_cpy26, c2, if_true, c_X6_isFullSite, mp_full, c5, c_X6_lastIn]
            refine last _ _ _ _ (fun M5 h5 => ?_)
            generalize F_last (mIn M4) (fun q => F_wants V (mW M4) q W) W (M4 100 0).toNat = F at c3 eo h7 ⊢
            by_cases c6 : F = 5
            · rw [if_pos c6] at c3
              exact absurd c3 (by decide)
            · have eF : m_no F = (F : Int) := if_neg c6
              have hF : F < 5 := by omega
              rw [eo, if_neg c6] at fin
              have iw : (if (F : Int) < 0 then (0 : Int) else if (4 : Int) < F then 4 else F) = F := by rw [if_neg (by omega), if_neg (by omega)]
              simp (disch := omega) only [b_X6_turnOf_0, x_loadR_0, x_loadS_0, x_loadI_1, x_storeI_2, x_loadI_2, x_iconst, y_ic_ne_t, y_ic_ne_f, b_X6_turnOf_11, x_ret1_0, x_ret1_1, b_X6_turnOf_13, x_storeI_3, f_6_3, x_imul, y_iald_35, y_iald_40, f_6_4, x_isub, x_storeI_4, x_dup2, x_loadI_4, x_loadI_3, y_ic_le_t, y_ic_le_f, b_X6_turnOf_53, x_goto, b_X6_turnOf_57, x_ineg, y_ic_ge_t, y_ic_ge_f, b_X6_turnOf_64, b_X6_turnOf_69, b_X6_turnOf_71, x_iadd, y_iast_35, y_iast_40, b_X6_turnOf_92, y_if_ne_t, y_if_ne_f, b_X6_turnOf_101, b_X6_turnOf_103, y_if_eq_t, y_if_eq_f, b_X6_turnOf_111, x_storeI_5, x_loadI_5, q_isL_I, q_isL_R, q_isL_S, true_and, and_true, and_self, List.length_nil, List.length_cons, Nat.zero_add, x_K, x_Kn, Int.reduceToNat, Nat.reduceAdd, Nat.reduceMul, Nat.reduceLeDiff, Nat.reduceLT, Nat.zero_le, Int.reduceAdd, Int.reduceSub, Int.reduceMul, Int.reduceNeg, q_add_e, q_sub_e, q_mul_e, q_neg_e, q_upd_s, q_upd_n, zr_shr0, zr_shr1, zr_shr2, zr_shr3, zr_shr4, zr_and, zr_dyn8, zr_or, zr_shl, q_cpy_n, y_cpy26, eF, c_X6_within, mp_within, iw, hl5, tn_32]
              have y5 : q_my M M5 := q_my_tr y4 (q_my_mf h5)
              have n5 : M5 100 0 = M 100 0 := y5 100 0 (by omega) (by omega) (by omega) (by omega)
              refine fin _ _ rfl (q_ml_up (q_mf_ml h5 m4) (q_ok4 (by omega)) (by omega) (by omega) (by omega)) ?_ (q_my_up y5 (by omega))
              rw [mW_up4 (by rw [n5, ← n4]; omega), if_pos rfl, q_mf_mW h5, w4]
        · rw [if_neg c2] at hq
          simp (disch := omega) only [b_X6_turnOf_0, x_loadR_0, x_loadS_0, x_loadI_1, x_storeI_2, x_loadI_2, x_iconst, y_ic_ne_t, y_ic_ne_f, b_X6_turnOf_11, x_ret1_0, x_ret1_1, b_X6_turnOf_13, x_storeI_3, f_6_3, x_imul, y_iald_35, y_iald_40, f_6_4, x_isub, x_storeI_4, x_dup2, x_loadI_4, x_loadI_3, y_ic_le_t, y_ic_le_f, b_X6_turnOf_53, x_goto, b_X6_turnOf_57, x_ineg, y_ic_ge_t, y_ic_ge_f, b_X6_turnOf_64, b_X6_turnOf_69, b_X6_turnOf_71, x_iadd, y_iast_35, y_iast_40, b_X6_turnOf_92, y_if_ne_t, y_if_ne_f, b_X6_turnOf_101, b_X6_turnOf_103, y_if_eq_t, y_if_eq_f, b_X6_turnOf_111, x_storeI_5, x_loadI_5, b_X6_turnOf_135, q_isL_I, q_isL_R, q_isL_S, true_and, and_true, and_self, List.length_nil, List.length_cons, Nat.zero_add, x_K, x_Kn, Int.reduceToNat, Nat.reduceAdd, Nat.reduceMul, Nat.reduceLeDiff, Nat.reduceLT, Nat.zero_le, Int.reduceAdd, Int.reduceSub, Int.reduceMul, Int.reduceNeg, q_add_e, q_sub_e, q_mul_e, q_neg_e, q_upd_s, q_upd_n, zr_shr0, zr_shr1, zr_shr2, zr_shr3, zr_shr4, zr_and, zr_dyn8, zr_or, zr_shl, q_cpy_n, y_cpy26, c2, Bool.false_eq_true, if_false]
          exact hq M4 (q_mf_ml h4 m3) ((q_mf_mW h4).trans w3) (q_my_tr y3 (q_my_mf h4))
      · rw [if_neg (show ¬mv = mW M 5 W by rw [eb]; exact c1)] at hq
        simp (disch := omega) only [b_X6_turnOf_0, x_loadR_0, x_loadS_0, x_loadI_1, x_storeI_2, x_loadI_2, x_iconst, y_ic_ne_t, y_ic_ne_f, b_X6_turnOf_11, x_ret1_0, x_ret1_1, b_X6_turnOf_13, x_storeI_3, f_6_3, x_imul, y_iald_35, y_iald_40, f_6_4, x_isub, x_storeI_4, x_dup2, x_loadI_4, x_loadI_3, y_ic_le_t, y_ic_le_f, b_X6_turnOf_53, x_goto, b_X6_turnOf_57, x_ineg, y_ic_ge_t, y_ic_ge_f, b_X6_turnOf_64, b_X6_turnOf_69, b_X6_turnOf_71, x_iadd, y_iast_35, y_iast_40, b_X6_turnOf_92, y_if_ne_t, y_if_ne_f, b_X6_turnOf_101, b_X6_turnOf_103, y_if_eq_t, y_if_eq_f, b_X6_turnOf_111, x_storeI_5, x_loadI_5, b_X6_turnOf_135, q_isL_I, q_isL_R, q_isL_S, true_and, and_true, and_self, List.length_nil, List.length_cons, Nat.zero_add, x_K, x_Kn, Int.reduceToNat, Nat.reduceAdd, Nat.reduceMul, Nat.reduceLeDiff, Nat.reduceLT, Nat.zero_le, Int.reduceAdd, Int.reduceSub, Int.reduceMul, Int.reduceNeg, q_add_e, q_sub_e, q_mul_e, q_neg_e, q_upd_s, q_upd_n, zr_shr0, zr_shr1, zr_shr2, zr_shr3, zr_shr4, zr_and, zr_dyn8, zr_or, zr_shl, q_cpy_n, y_cpy26, Int.toNat_natCast, tn_30, tn_40, hde, hM3, s3, b3]
        exact hq M3 m3 w3 y3
    rw [emv] at key
    by_cases c1 : F_goes V (mW M) p < M2 103 (4 * W) - M2 104 (3 * p)
    · rw [if_neg (by omega), if_pos c1] at key
      simp (disch := omega) only [b_X6_turnOf_0, x_loadR_0, x_loadS_0, x_loadI_1, x_storeI_2, x_loadI_2, x_iconst, y_ic_ne_t, y_ic_ne_f, b_X6_turnOf_11, x_ret1_0, x_ret1_1, b_X6_turnOf_13, x_storeI_3, f_6_3, x_imul, y_iald_35, y_iald_40, f_6_4, x_isub, x_storeI_4, x_dup2, x_loadI_4, x_loadI_3, y_ic_le_t, y_ic_le_f, b_X6_turnOf_53, x_goto, b_X6_turnOf_57, x_ineg, y_ic_ge_t, y_ic_ge_f, b_X6_turnOf_64, b_X6_turnOf_69, x_iadd, y_iast_35, y_iast_40, b_X6_turnOf_92, y_if_ne_t, y_if_ne_f, b_X6_turnOf_101, b_X6_turnOf_103, y_if_eq_t, y_if_eq_f, b_X6_turnOf_111, x_storeI_5, x_loadI_5, b_X6_turnOf_135, q_isL_I, q_isL_R, q_isL_S, true_and, and_true, and_self, List.length_nil, List.length_cons, Nat.zero_add, x_K, x_Kn, Int.reduceToNat, Nat.reduceAdd, Nat.reduceMul, Nat.reduceLeDiff, Nat.reduceLT, Nat.zero_le, Int.reduceAdd, Int.reduceSub, Int.reduceMul, Int.reduceNeg, q_add_e, q_sub_e, q_mul_e, q_neg_e, q_upd_s, q_upd_n, zr_shr0, zr_shr1, zr_shr2, zr_shr3, zr_shr4, zr_and, zr_dyn8, zr_or, zr_shl, q_cpy_n, y_cpy26, Int.toNat_natCast, tn_30, tn_40]
      exact key _ _ rfl rfl
    · by_cases c2 : M2 103 (4 * W) - M2 104 (3 * p) < -F_goes V (mW M) p
      · rw [if_pos c2] at key
        simp (disch := omega) only [b_X6_turnOf_0, x_loadR_0, x_loadS_0, x_loadI_1, x_storeI_2, x_loadI_2, x_iconst, y_ic_ne_t, y_ic_ne_f, b_X6_turnOf_11, x_ret1_0, x_ret1_1, b_X6_turnOf_13, x_storeI_3, f_6_3, x_imul, y_iald_35, y_iald_40, f_6_4, x_isub, x_storeI_4, x_dup2, x_loadI_4, x_loadI_3, y_ic_le_t, y_ic_le_f, b_X6_turnOf_53, x_goto, b_X6_turnOf_57, x_ineg, y_ic_ge_t, y_ic_ge_f, b_X6_turnOf_64, b_X6_turnOf_69, x_iadd, y_iast_35, y_iast_40, b_X6_turnOf_92, y_if_ne_t, y_if_ne_f, b_X6_turnOf_101, b_X6_turnOf_103, y_if_eq_t, y_if_eq_f, b_X6_turnOf_111, x_storeI_5, x_loadI_5, b_X6_turnOf_135, q_isL_I, q_isL_R, q_isL_S, true_and, and_true, and_self, List.length_nil, List.length_cons, Nat.zero_add, x_K, x_Kn, Int.reduceToNat, Nat.reduceAdd, Nat.reduceMul, Nat.reduceLeDiff, Nat.reduceLT, Nat.zero_le, Int.reduceAdd, Int.reduceSub, Int.reduceMul, Int.reduceNeg, q_add_e, q_sub_e, q_mul_e, q_neg_e, q_upd_s, q_upd_n, zr_shr0, zr_shr1, zr_shr2, zr_shr3, zr_shr4, zr_and, zr_dyn8, zr_or, zr_shl, q_cpy_n, y_cpy26, Int.toNat_natCast, tn_30, tn_40]
        exact key _ _ rfl (by omega)
      · rw [if_neg c2, if_neg c1] at key
        simp (disch := omega) only [b_X6_turnOf_0, x_loadR_0, x_loadS_0, x_loadI_1, x_storeI_2, x_loadI_2, x_iconst, y_ic_ne_t, y_ic_ne_f, b_X6_turnOf_11, x_ret1_0, x_ret1_1, b_X6_turnOf_13, x_storeI_3, f_6_3, x_imul, y_iald_35, y_iald_40, f_6_4, x_isub, x_storeI_4, x_dup2, x_loadI_4, x_loadI_3, y_ic_le_t, y_ic_le_f, b_X6_turnOf_53, x_goto, b_X6_turnOf_57, x_ineg, y_ic_ge_t, y_ic_ge_f, b_X6_turnOf_64, b_X6_turnOf_69, x_iadd, y_iast_35, y_iast_40, b_X6_turnOf_92, y_if_ne_t, y_if_ne_f, b_X6_turnOf_101, b_X6_turnOf_103, y_if_eq_t, y_if_eq_f, b_X6_turnOf_111, x_storeI_5, x_loadI_5, b_X6_turnOf_135, q_isL_I, q_isL_R, q_isL_S, true_and, and_true, and_self, List.length_nil, List.length_cons, Nat.zero_add, x_K, x_Kn, Int.reduceToNat, Nat.reduceAdd, Nat.reduceMul, Nat.reduceLeDiff, Nat.reduceLT, Nat.zero_le, Int.reduceAdd, Int.reduceSub, Int.reduceMul, Int.reduceNeg, q_add_e, q_sub_e, q_mul_e, q_neg_e, q_upd_s, q_upd_n, zr_shr0, zr_shr1, zr_shr2, zr_shr3, zr_shr4, zr_and, zr_dyn8, zr_or, zr_shl, q_cpy_n, y_cpy26, Int.toNat_natCast, tn_30, tn_40]
        exact key _ _ rfl (by omega)
  · subst hW
    rw [if_pos rfl] at hq
    simp (disch := omega) only [b_X6_turnOf_0, x_loadR_0, x_loadS_0, x_loadI_1, x_storeI_2, x_loadI_2, x_iconst, y_ic_ne_t, y_ic_ne_f, b_X6_turnOf_11, x_ret1_0, x_ret1_1, b_X6_turnOf_13, x_storeI_3, f_6_3, x_imul, y_iald_35, y_iald_40, f_6_4, x_isub, x_storeI_4, x_dup2, x_loadI_4, x_loadI_3, y_ic_le_t, y_ic_le_f, b_X6_turnOf_53, x_goto, b_X6_turnOf_57, x_ineg, y_ic_ge_t, y_ic_ge_f, b_X6_turnOf_64, b_X6_turnOf_69, b_X6_turnOf_71, x_iadd, y_iast_35, y_iast_40, b_X6_turnOf_92, y_if_ne_t, y_if_ne_f, b_X6_turnOf_101, b_X6_turnOf_103, y_if_eq_t, y_if_eq_f, b_X6_turnOf_111, x_storeI_5, x_loadI_5, b_X6_turnOf_135, q_isL_I, q_isL_R, q_isL_S, true_and, and_true, and_self, List.length_nil, List.length_cons, Nat.zero_add, x_K, x_Kn, Int.reduceToNat, Nat.reduceAdd, Nat.reduceMul, Nat.reduceLeDiff, Nat.reduceLT, Nat.zero_le, Int.reduceAdd, Int.reduceSub, Int.reduceMul, Int.reduceNeg, q_add_e, q_sub_e, q_mul_e, q_neg_e, q_upd_s, q_upd_n, zr_shr0, zr_shr1, zr_shr2, zr_shr3, zr_shr4, zr_and, zr_dyn8, zr_or, zr_shl, q_cpy_n, y_cpy26, m_no, if_true]
    exact hq M1 (q_mf_ml h1 hm) (q_mf_mW h1) (q_my_mf h1)
