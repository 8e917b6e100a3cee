/-! BOTH SIDES: the relation of worlds, sheets, what is kept -/
/-- the world that the model's image keeps -/
def mK (M : q_M) : q_M := fun f i => match f with
  | 0 => if i < (M 109 0).toNat then M 101 i else 0
  | 1 => if i < (M 109 0).toNat then M 102 i else 0
  | 2 => if i < (M 109 0).toNat then M 108 (3 * i) else 0
  | 3 => if i < (M 109 0).toNat then M 108 (3 * i + 1) else 0
  | 4 => if i < (M 109 0).toNat then (if M 108 (3 * i + 2) = -1 then 5 else M 108 (3 * i + 2)) else 0
  | 5 => if i < 5 then M 108 (15 + 4 * i) else 0
  | 6 => if i < 5 then M 108 (15 + (4 * i + 1)) else 0
  | 7 => if i < 5 then M 108 (15 + (4 * i + 2)) else 0
  | 8 => if i < 5 then M 108 (15 + (4 * i + 3)) else 0
  | 9 => if i = 0 then M 109 0 else if i = 1 then M 109 1 else 0
  | _ => 0
def q_Rsh (M : q_M) : Prop := ∀ s, s < 4 → M (6 + (86 + 2 * s)) 1 = M 110 s ∧ M (6 + (86 + 2 * s)) 2 = M 111 s ∧ ∀ i, i < 40 → M (6 + (86 + 2 * s) + 1) i = M 112 (40 * s + i)
def q_Rkp (M : q_M) : Prop := M 0 6 ≠ 0 → cW M 65 = mK M ∧ q_ivS (mK M) ∧ M 109 0 ≤ M 100 0
def q_Rw (M : q_M) : Prop := cW M 11 = mW M ∧ q_ivS (mW M) ∧ q_Rsh M ∧ q_Rkp M
theorem mK_same {M M2 : q_M} (h0 : ∀ a i, (a = 108 ∨ a = 109) → M2 a i = M a i) (h1 : ∀ i, i < (M 109 0).toNat → M2 101 i = M 101 i ∧ M2 102 i = M 102 i) : mK M2 = mK M := by
  have e8 := fun i => h0 108 i (Or.inl rfl)
  have e9 := fun i => h0 109 i (Or.inr rfl)
  funext f i
  unfold mK
  split <;> simp only [e8, e9]
  · by_cases c : i < (M 109 0).toNat
    · rw [if_pos c, if_pos c, (h1 i c).1]
    · rw [if_neg c, if_neg c]
  · by_cases c : i < (M 109 0).toNat
    · rw [if_pos c, if_pos c, (h1 i c).2]
    · rw [if_neg c, if_neg c]
theorem q_Rsh_f {M M2 : q_M} (h : ∀ a i, ((92 ≤ a ∧ a < 100) ∨ (110 ≤ a ∧ a ≤ 112)) → M2 a i = M a i) (R : q_Rsh M) : q_Rsh M2 := by
  intro s hs
  obtain ⟨r1, r2, r3⟩ := R s hs
  exact ⟨by rw [h _ _ (by omega), h _ _ (by omega)]; exact r1, by rw [h _ _ (by omega), h _ _ (by omega)]; exact r2, fun i hi => by rw [h _ _ (by omega), h _ _ (by omega)]; exact r3 i hi⟩
theorem q_Rkp_f {M M2 : q_M} (h : ∀ a i, ((65 ≤ a ∧ a ≤ 90) ∨ (a = 0 ∧ i = 6) ∨ a = 108 ∨ a = 109) → M2 a i = M a i) (h1 : M 109 0 ≤ M 100 0 → M 109 0 ≤ M2 100 0 ∧ ∀ i, i < (M 109 0).toNat → M2 101 i = M 101 i ∧ M2 102 i = M 102 i) (R : q_Rkp M) : q_Rkp M2 := by
  intro h6
  rw [h 0 6 (by omega)] at h6
  obtain ⟨r1, r2, r3⟩ := R h6
  obtain ⟨z1, z2⟩ := h1 r3
  have ek := mK_same (fun a i ha => h a i (by omega)) z2
  rw [ek, cW_same (M := M) (fun a i ha => h a i (by omega)), h 109 0 (by omega)]
  exact ⟨r1, r2, z1⟩
/-- nothing of it is touched -/
theorem q_Rw_f {M M2 : q_M} (h : ∀ a i, ((11 ≤ a ∧ a ≤ 14) ∨ (30 ≤ a ∧ a ≤ 36) ∨ (65 ≤ a ∧ a < 100) ∨ (a = 0 ∧ i = 6) ∨ (a = 100 ∧ (i = 0 ∨ i = 5)) ∨ (101 ≤ a ∧ a ≤ 104) ∨ (108 ≤ a ∧ a ≤ 112)) → M2 a i = M a i) (R : q_Rw M) : q_Rw M2 := by
  obtain ⟨r1, r2, r3, r4⟩ := R
  have em : mW M2 = mW M := mW_same (fun a i ha => h a i (by omega))
  refine ⟨?_, by rw [em]; exact r2, q_Rsh_f (fun a i ha => h a i (by omega)) r3, q_Rkp_f (fun a i ha => h a i (by omega)) (fun z => ⟨by rw [h 100 0 (by omega)]; exact z, fun i _ => ⟨h _ _ (by omega), h _ _ (by omega)⟩⟩) r4⟩
  rw [em, cW_same (M := M) (fun a i ha => h a i (by omega))]
  exact r1
/-- the world has changed alike on both sides -/
theorem q_Rw_w {M M2 : q_M} (R : q_Rw M) (h1 : cW M2 11 = mW M2) (h2 : q_ivS (mW M2)) (h : ∀ a i, ((65 ≤ a ∧ a < 100) ∨ (a = 0 ∧ i = 6) ∨ (108 ≤ a ∧ a ≤ 112)) → M2 a i = M a i) (h3 : M 109 0 ≤ M 100 0 → M 109 0 ≤ M2 100 0 ∧ ∀ i, i < (M 109 0).toNat → M2 101 i = M 101 i ∧ M2 102 i = M 102 i) : q_Rw M2 :=
  ⟨h1, h2, q_Rsh_f (fun a i ha => h a i (by omega)) R.2.2.1, q_Rkp_f (fun a i ha => h a i (by omega)) h3 R.2.2.2⟩
theorem F_cnt_le2 {f : Nat → Int} {b : Int} : ∀ n : Nat, 0 ≤ F_cnt f b n := fun n => (F_cnt_le f b n).1
/-! what stays of a world -/
theorem q_ivS_same {S S2 : q_M} (h : q_ivS S) (h4 : S2 4 = S 4) (h9 : S2 9 0 = S 9 0) (h6 : ∀ b : Nat, b < 5 → F_cnt (S 4) b (F_n S) ≤ S2 6 b) (h2 : S2 2 = S 2) (h5 : S2 5 = S 5) : q_ivS S2 := by
  obtain ⟨g0, g1, g2, g3⟩ := h
  have en : F_n S2 = F_n S := by unfold F_n; rw [h9]
  unfold q_ivS
  rw [en, h4, h9, h2, h5]
  exact ⟨g0, g1, h6, g3⟩
theorem q_ivS_bd {S : q_M} {b : Nat} {w v : Int} (h : q_ivS S) (hb : b < 5) (hk : w = 1 → F_cnt (S 4) b (F_n S) ≤ v) : q_ivS (F_bd S b w v) := by
  unfold F_bd
  by_cases c0 : w = 0
  · rw [if_pos c0]
    obtain ⟨g0, g1, g2, g3⟩ := h
    have eo : ∀ k, k ≠ 2 → k ≠ 5 → F_move S b v k = S k := fun k k1 k2 => by
      funext i
      unfold F_move
      rw [if_neg (fun z => k1 z.1), q_upd_n (by omega)]
    have en : F_n (F_move S b v) = F_n S := by unfold F_n; rw [eo 9 (by omega) (by omega)]
    unfold q_ivS
    rw [en, eo 4 (by omega) (by omega), eo 6 (by omega) (by omega), eo 9 (by omega) (by omega)]
    refine ⟨g0, g1, g2, fun p c hp hc hpc => ?_⟩
    have e5 : F_move S b v 5 c = (if c = b then v else S 5 c) := by
      unfold F_move
      rw [if_neg (by omega)]
      by_cases z : c = b
      · rw [if_pos z, z, q_upd_s]
      · rw [if_neg z, q_upd_n (by omega)]
    have e2 : F_move S b v 2 p = (if S 4 p = b then v else S 2 p) := by
      unfold F_move
      by_cases z : S 4 p = b
      · rw [if_pos ⟨rfl, hp, z⟩, if_pos z]
      · rw [if_neg (fun y => z y.2.2), if_neg z, q_upd_n (by omega)]
    rw [e5, e2]
    by_cases z : c = b
    · rw [if_pos z, if_pos (by rw [hpc, z])]
    · rw [if_neg z, if_neg (by rw [hpc]; omega)]
      exact g3 p c hp hc hpc
  · rw [if_neg c0]
    by_cases c1 : w = 1
    · rw [if_pos c1]
      refine q_ivS_same h (q_upd_o (by omega)) (q_upd_n (by omega)) (fun c hc => ?_) (q_upd_o (by omega)) (q_upd_o (by omega))
      by_cases z : c = b
      · rw [z, q_upd_s]
        exact hk c1
      · rw [q_upd_n (by omega)]
        exact h.2.2.1 c hc
    · rw [if_neg c1]
      split
      · exact q_ivS_same h (q_upd_o (by omega)) (q_upd_n (by omega)) (fun c hc => by rw [q_upd_n (by omega)]; exact h.2.2.1 c hc) (q_upd_o (by omega)) (q_upd_o (by omega))
      · exact q_ivS_same h (q_upd_o (by omega)) (q_upd_n (by omega)) (fun c hc => by rw [q_upd_n (by omega)]; exact h.2.2.1 c hc) (q_upd_o (by omega)) (q_upd_o (by omega))
theorem q_ivS_add {S : q_M} {km wh hv : Int} (h : q_ivS S) (h5 : S 9 0 ≠ 5) : q_ivS (F_add S km wh hv) := by
  obtain ⟨g0, g1, g2, g3⟩ := h
  have e9 : F_add S km wh hv 9 0 = S 9 0 + 1 := q_upd_s
  have e4 : F_add S km wh hv 4 = F_u (S 4) (F_n S) 5 := by
    unfold F_add
    rw [q_upd_o (by omega), q_upd_r, q_upd_o (by omega), q_upd_o (by omega), q_upd_o (by omega), q_upd_o (by omega)]
  have e6 : F_add S km wh hv 6 = S 6 := by
    unfold F_add
    rw [q_upd_o (by omega), q_upd_o (by omega), q_upd_o (by omega), q_upd_o (by omega), q_upd_o (by omega), q_upd_o (by omega)]
  have e5 : F_add S km wh hv 5 = S 5 := by
    unfold F_add
    rw [q_upd_o (by omega), q_upd_o (by omega), q_upd_o (by omega), q_upd_o (by omega), q_upd_o (by omega), q_upd_o (by omega)]
  have e2 : ∀ p, p ≠ F_n S → F_add S km wh hv 2 p = S 2 p := fun p hp => by
    unfold F_add
    simp (disch := omega) only [q_upd_n]
  have en : F_n (F_add S km wh hv) = F_n S + 1 := by unfold F_n; rw [e9]; omega
  unfold q_ivS
  rw [en, e9, e4, e6, e5]
  refine ⟨by omega, fun p hp => ?_, fun b hb => ?_, fun p b hp hb hpb => ?_⟩
  · unfold F_u
    split
    · omega
    · exact g1 p (by omega)
  · rw [F_cnt, F_u_s, if_neg (show ¬(5 : Int) = b by omega)]
    have := g2 b hb
    rw [F_cnt_cong (f' := S 4) (F_n S) (fun k hk => F_u_n (by omega))]
    omega
  · unfold F_u at hpb
    by_cases z : p = F_n S
    · rw [if_pos z] at hpb
      omega
    · rw [if_neg z] at hpb
      rw [e2 p z]
      exact g3 p b (by omega) hb hpb
theorem q_ivS_pt {S : q_M} {p : Nat} {w v : Int} (h : q_ivS S) (hp : p < F_n S) : q_ivS (F_pt S p w v) := by
  unfold F_pt
  split
  · exact (q_ivS_lay h hp).1
  · exact q_ivS_same h (q_upd_o (by omega)) (q_upd_n (by omega)) (fun c hc => by rw [q_upd_n (by omega)]; exact h.2.2.1 c hc) (q_upd_o (by omega)) (q_upd_o (by omega))
theorem q_ivS_sb {C : Nat → Int} {fr sz : Int} : ∀ (j k : Nat) (came : Int) (S : q_M), q_ivS S → q_ivS (F_sb C fr sz j k came S).2
  | 0, _, _, _, h => h
  | j + 1, k, came, S, h => by
    rw [F_sb]
    split
    · exact h
    · split
      · next c => exact q_ivS_sb j (k + 1) _ _ (q_ivS_add h c.2)
      · exact q_ivS_sb j (k + 1) _ _ h
