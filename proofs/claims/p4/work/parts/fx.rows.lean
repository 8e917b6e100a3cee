/-! BOTH SIDES: each call that changes something -/
theorem em_cfr {M M1 : q_M} (f1 : q_cfr M M1) : mW M1 = mW M := mW_same (fun a i ha => f1 a i (by omega))
theorem q_Rw_90 {M : q_M} (R : q_Rw M) : M 12 5 = M 100 0 := congrFun (congrFun R.1 9) 0
theorem q_Rw_91 {M : q_M} (R : q_Rw M) : M 11 9 = M 100 5 := congrFun (congrFun R.1 9) 1
theorem q_Lx_V {L tm sl l : Nat} {X : Nat → Int} {Vt : Nat → Nat → (Nat → Int) → Int} {M M1 : q_M} (h : q_Lx L X tm sl Vt l M) (e : M1 100 11 = M 100 11) : q_Vr Vt M1 = Vt l := by
  unfold q_Vr
  rw [e, h.2.2.1, Int.toNat_natCast]
theorem q_Lx_hz {L tm sl l : Nat} {X : Nat → Int} {Vt : Nat → Nat → (Nat → Int) → Int} {M : q_M} (h : q_Lx L X tm sl Vt l M) : ∀ t, t < 4 → M 111 t ≤ 40 := fun t ht => (h.2.1.2.2.2.1 t ht).2
theorem q_LI_film {L tm sl l : Nat} {X : Nat → Int} {Vt : Nat → Nat → (Nat → Int) → Int} {M M1 M2 : q_M} {s p n : Int} (h : q_Lx L X tm sl Vt l M) (R : q_Rw M) (C1 : q_XI Vt tm l sl M1) (f1 : q_cfr M M1) (t1 : q_tq (q_filmM (Vt l) M s p n) M1) (I2 : q_MI Vt tm M2) (f2 : q_mfr M1 M2) (t2 : q_mq (q_filmB (q_Vr Vt M1) M1 s p n) M2) : A_film M s p n = B_film M1 s p n ∧ q_LI L X tm sl M2 := by
  have eV := q_Lx_V h (f1 100 11 (by omega))
  rw [eV] at t2
  have e0 := q_Rw_90 R
  have n0 : M1 100 0 = M 100 0 := f1 100 0 (by omega)
  refine ⟨(AB_film e0).trans ?_, q_LI_s h R C1 f1 (fun a i ha => ?_) I2 f2 (fun a i ha => ?_) (q_Rsh_film R t1 t2 e0)⟩
  · unfold B_film
    rw [n0]
  · refine (t1 a i (by omega) (by omega) (by omega) (by omega)).trans ?_
    unfold q_filmM
    split
    · exact q_shM_n (by omega) (by omega)
    · rfl
  · refine (t2 a i (by omega) (by omega)).trans ?_
    unfold q_filmB
    split
    · exact q_flM_n (by omega) (by omega) (by omega)
    · rfl
theorem q_LI_cell {L tm sl l l2 : Nat} {X : Nat → Int} {Vt : Nat → Nat → (Nat → Int) → Int} {M M1 M2 : q_M} {s i v : Int} (h : q_Lx L X tm sl Vt l M) (R : q_Rw M) (e1 : M1 = q_cellM M s i v) (C1 : q_XI Vt tm l2 sl M1) (f1 : q_cfr M M1) (I2 : q_MI Vt tm M2) (f2 : q_mfr M1 M2) (e2 : M2 = (if B_cell M1 s i = 1 then q_upd M1 112 (40 * s.toNat + i.toNat) (F_cvt (M1 110 s.toNat) v) else M1)) : A_cell M s i = B_cell M1 s i ∧ q_LI L X tm sl M2 := by
  have hB : B_cell M1 s i = B_cell M s i := by
    unfold B_cell
    rw [f1 110 _ (by omega), f1 111 _ (by omega)]
  refine ⟨(AB_cell R.2.2.1).trans hB.symm, q_LI_s h R C1 f1 (fun a j ha => ?_) I2 f2 (fun a j ha => ?_) (q_Rsh_cell R.2.2.1 e1 e2 hB (q_Lx_hz h))⟩
  · rw [e1]
    unfold q_cellM
    split
    · exact q_upd_n (by omega)
    · rfl
  · rw [e2]
    split
    · exact q_upd_n (by omega)
    · rfl
theorem q_LI_copy {L tm sl l l2 : Nat} {X : Nat → Int} {Vt : Nat → Nat → (Nat → Int) → Int} {M M1 M2 : q_M} {s i o j n : Int} (h : q_Lx L X tm sl Vt l M) (R : q_Rw M) (e1 : M1 = q_copyM M s i o j n) (C1 : q_XI Vt tm l2 sl M1) (f1 : q_cfr M M1) (I2 : q_MI Vt tm M2) (f2 : q_mfr M1 M2) (e2 : M2 = (if 0 ≤ B_copy M1 s i o j n then q_cpy M1 112 (40 * s.toNat + i.toNat) 112 (40 * o.toNat + j.toNat) n.toNat else M1)) : A_copy M s i o j n = B_copy M1 s i o j n ∧ q_LI L X tm sl M2 := by
  have hB : B_copy M1 s i o j n = B_copy M s i o j n := by
    unfold B_copy
    simp only [show ∀ t, M1 110 t = M 110 t from fun t => f1 110 t (by omega), show ∀ t, M1 111 t = M 111 t from fun t => f1 111 t (by omega)]
  refine ⟨(AB_copy R.2.2.1).trans hB.symm, q_LI_s h R C1 f1 (fun a x ha => ?_) I2 f2 (fun a x ha => ?_) (q_Rsh_copy R.2.2.1 e1 e2 hB (q_Lx_hz h))⟩
  · rw [e1]
    unfold q_copyM q_cpy
    split
    · exact if_neg (by omega)
    · rfl
  · rw [e2]
    unfold q_cpy
    split
    · exact if_neg (by omega)
    · rfl
theorem q_LI_sheet {L tm sl l l2 : Nat} {X : Nat → Int} {Vt : Nat → Nat → (Nat → Int) → Int} {M M1 M2 : q_M} {s so n : Int} (h : q_Lx L X tm sl Vt l M) (R : q_Rw M) (e1 : M1 = q_sheetM M s so n) (C1 : q_XI Vt tm l2 sl M1) (f1 : q_cfr M M1) (I2 : q_MI Vt tm M2) (f2 : q_mfr M1 M2) (h0 : A_sheet s so n ≠ 1 → M2 = M1) (h1 : A_sheet s so n = 1 → M2 110 s.toNat = so ∧ M2 111 s.toNat = (if so = -1 then 0 else n) ∧ (∀ i, i < 40 → M2 112 (40 * s.toNat + i) = 0) ∧ ∀ a i, (a = 110 ∨ a = 111 → i ≠ s.toNat) → (a = 112 → i < 40 * s.toNat ∨ 40 * s.toNat + 40 ≤ i) → M2 a i = M1 a i) : q_LI L X tm sl M2 := by
  refine q_LI_s h R C1 f1 (fun a x ha => ?_) I2 f2 (fun a x ha => ?_) (q_Rsh_sheet R.2.2.1 e1 h0 (fun a x ha => f2 a x (by omega)) h1)
  · rw [e1]
    unfold q_sheetM
    split
    · exact q_shM_n (by omega) (by omega)
    · rfl
  · by_cases c : A_sheet s so n = 1
    · exact (h1 c).2.2.2 a x (by omega) (by omega)
    · rw [h0 c]
theorem q_LI_sb {L tm sl l l2 : Nat} {X : Nat → Int} {Vt : Nat → Nat → (Nat → Int) → Int} {M M1 M2 : q_M} {s so fr n : Int} (h : q_Lx L X tm sl Vt l M) (R : q_Rw M) (e1 : M1 = (q_stonesBy M s so fr n).2) (C1 : q_XI Vt tm l2 sl M1) (f1 : q_cfr M M1) (I2 : q_MI Vt tm M2) (f2 : q_mfr M1 M2) (e2 : mW M2 = (B_sb M1 s so fr n).2) (s2 : q_mws M1 M2) : (q_stonesBy M s so fr n).1 = (B_sb M1 s so fr n).1 ∧ q_LI L X tm sl M2 := by
  have hB : B_sb M1 s so fr n = B_sb M s so fr n := by
    unfold B_sb
    simp only [show ∀ t, M1 110 t = M 110 t from fun t => f1 110 t (by omega), show ∀ t, M1 111 t = M 111 t from fun t => f1 111 t (by omega), show ∀ t, M1 112 t = M 112 t from fun t => f1 112 t (by omega), em_cfr f1]
  have e0 := q_Rw_90 R
  have n0 := h.2.1.1.1
  have k := q_stonesBy_S (s := s) (so := so) (fr := fr) (n := n) R (by omega) (by omega) (q_Lx_hz h)
  rw [hB] at e2 ⊢
  rw [← e1] at k
  exact ⟨k.1, q_LI_w h R C1 f1 k.2 (fun a i ha hb => by rw [e1]; exact q_stonesBy_f (by omega)) I2 f2 e2 s2 (q_ivS_sbB R.2.1)⟩
theorem q_LI_bd {L tm sl l l2 : Nat} {X : Nat → Int} {Vt : Nat → Nat → (Nat → Int) → Int} {M M1 M2 : q_M} {b w v : Int} (h : q_Lx L X tm sl Vt l M) (R : q_Rw M) (C1 : q_XI Vt tm l2 sl M1) (f1 : q_cfr M M1) (e1 : cW M1 11 = F_bdX (cW M 11) b w v) (r1 : ∀ a i, 65 ≤ a → a < 100 → M1 a i = M a i) (I2 : q_MI Vt tm M2) (f2 : q_mfr M1 M2) (e2 : mW M2 = F_bdX (mW M1) b w v) (s2 : q_mws M1 M2) : B_bdC (cW M 11) b w v = B_bdC (mW M1) b w v ∧ q_LI L X tm sl M2 := by
  rw [em_cfr f1] at e2 ⊢
  rw [R.1] at e1 ⊢
  exact ⟨rfl, q_LI_w h R C1 f1 e1 r1 I2 f2 e2 s2 (q_ivS_bdX R.2.1)⟩
theorem q_LI_st {L tm sl l l2 : Nat} {X : Nat → Int} {Vt : Nat → Nat → (Nat → Int) → Int} {M M1 M2 : q_M} {b w v : Int} (h : q_Lx L X tm sl Vt l M) (R : q_Rw M) (C1 : q_XI Vt tm l2 sl M1) (f1 : q_cfr M M1) (e1 : cW M1 11 = F_stX (cW M 11) b w v) (r1 : ∀ a i, 65 ≤ a → a < 100 → M1 a i = M a i) (I2 : q_MI Vt tm M2) (f2 : q_mfr M1 M2) (e2 : mW M2 = F_stX (mW M1) b w v) (s2 : q_mws M1 M2) : B_stn (cW M 11) b w v = B_stn (mW M1) b w v ∧ q_LI L X tm sl M2 := by
  rw [em_cfr f1] at e2 ⊢
  rw [R.1] at e1 ⊢
  exact ⟨rfl, q_LI_w h R C1 f1 e1 r1 I2 f2 e2 s2 (q_ivS_stX R.2.1)⟩
theorem q_LI_pt {L tm sl l l2 : Nat} {X : Nat → Int} {Vt : Nat → Nat → (Nat → Int) → Int} {M M1 M2 : q_M} {b w v : Int} (h : q_Lx L X tm sl Vt l M) (R : q_Rw M) (C1 : q_XI Vt tm l2 sl M1) (f1 : q_cfr M M1) (e1 : cW M1 11 = F_ptX (cW M 11) b w v) (r1 : ∀ a i, 65 ≤ a → a < 100 → M1 a i = M a i) (I2 : q_MI Vt tm M2) (f2 : q_mfr M1 M2) (e2 : mW M2 = F_ptX (mW M1) b w v) (s2 : q_mws M1 M2) : B_put (cW M 11) b w v = B_put (mW M1) b w v ∧ q_LI L X tm sl M2 := by
  rw [em_cfr f1] at e2 ⊢
  rw [R.1] at e1 ⊢
  exact ⟨rfl, q_LI_w h R C1 f1 e1 r1 I2 f2 e2 s2 (q_ivS_ptX R.2.1)⟩
/-- a year on both sides -/
theorem q_LI_year {L tm sl l : Nat} {X : Nat → Int} {Vt : Nat → Nat → (Nat → Int) → Int} {M M1 M2 : q_M} (h : q_Lx L X tm sl Vt l M) (R : q_Rw M) (C1 : q_XI Vt tm l sl M1) (e1 : cW M1 11 = (F_year (Vt l) (cW M 11)).2) (t1 : ∀ a i, (a ≠ 11 ∨ i ≠ 9) → a ≠ 37 → a ≠ q_ta l + 2 → (i < 5 → a ≠ 14 ∧ a ≠ 32 ∧ a ≠ 35 ∧ (a < 16 ∨ (21 ≤ a ∧ a < 23) ∨ 28 ≤ a)) → M1 a i = M a i) (I2 : q_MI Vt tm M2) (e2 : mW M2 = (G_year (q_Vr Vt M1) (mW M1)).2) (z2 : q_mz M1 M2) : (F_year (Vt l) (cW M 11)).1 = (G_year (q_Vr Vt M1) (mW M1)).1 ∧ q_LI L X tm sl M2 := by
  have hta : q_tas (q_ta l) := h.1.2.2.1.1
  unfold q_tas at hta
  have f1 : ∀ a i, ((65 ≤ a ∧ a < 124) ∨ 1000 ≤ a ∨ a < 3 ∨ (a = 11 ∧ i = 10)) → M1 a i = M a i := fun a i ha => t1 a i (by omega) (by omega) (by omega) (by omega)
  have em : mW M1 = mW M := mW_same (fun a i ha => f1 a i (by omega))
  rw [q_Lx_V h (f1 100 11 (by omega)), em] at e2 ⊢
  rw [R.1] at e1 ⊢
  obtain ⟨y1, y2, y3⟩ := F_year_e (V := Vt l) R.2.1
  rw [y1] at e1 ⊢
  have g2 : ∀ a i, (a < 100 ∨ 124 ≤ a ∨ (105 ≤ a ∧ a ≤ 114) ∨ a = 101 ∨ a = 102 ∨ (a = 100 ∧ i ≠ 5)) → M2 a i = M1 a i := fun a i ha => z2 a i (by omega) (by omega) (by omega) (by omega) (by omega)
  refine ⟨rfl, q_Lx_of h (q_XI_mfw (fun a i ha => g2 a i (by omega)) C1) I2 (fun a i ha => (g2 a i (by omega)).trans (f1 a i (by omega))) (q_Rw_w R ?_ (by rw [e2]; exact y2) (fun a i ha => (g2 a i (by omega)).trans (f1 a i (by omega))) (fun z => ⟨?_, fun i hi => ⟨?_, ?_⟩⟩))⟩
  · rw [cW_same (M := M1) (fun a i ha => g2 a i (by omega)), e1, e2]
  · rw [g2 100 0 (by omega), f1 100 0 (by omega)]
    exact z
  · exact (g2 _ _ (by omega)).trans (f1 _ _ (by omega))
  · exact (g2 _ _ (by omega)).trans (f1 _ _ (by omega))
theorem q_LI_dawn {L tm sl l : Nat} {X : Nat → Int} {Vt : Nat → Nat → (Nat → Int) → Int} {M : q_M} {V : Int} (h : q_Lx L X tm sl Vt l M) (R : q_Rw M) (C2 : q_XI Vt tm l sl (q_upd (q_upd M 11 9 V) 100 5 V)) (I2 : q_MI Vt tm (q_upd (q_upd M 11 9 V) 100 5 V)) : q_LI L X tm sl (q_upd (q_upd M 11 9 V) 100 5 V) := by
  have f : ∀ a i, (a ≠ 11 ∨ i ≠ 9) → (a ≠ 100 ∨ i ≠ 5) → q_upd (q_upd M 11 9 V) 100 5 V a i = M a i := fun a i h1 h2 => by rw [q_upd_n h2, q_upd_n h1]
  have e1 : cW (q_upd (q_upd M 11 9 V) 100 5 V) 11 = q_upd (cW M 11) 9 1 V := by
    rw [cW_same (M := q_upd M 11 9 V) (fun a i ha => q_upd_n (by omega)), cW_up9]
  have e2 : mW (q_upd (q_upd M 11 9 V) 100 5 V) = q_upd (mW M) 9 1 V := by
    rw [mW_up9, mW_same (M := M) (fun a i ha => q_upd_n (by omega))]
  refine q_Lx_of h C2 I2 (fun a i ha => f a i (by omega) (by omega)) (q_Rw_w R (by rw [e1, e2, R.1]) ?_ (fun a i ha => f a i (by omega) (by omega)) (fun z => ⟨by rw [f 100 0 (by omega) (by omega)]; exact z, fun i _ => ⟨f _ _ (by omega) (by omega), f _ _ (by omega) (by omega)⟩⟩))
  rw [e2]
  exact q_ivS_same R.2.1 (q_upd_o (by omega)) (q_upd_n (by omega)) (fun b hb => by rw [q_upd_n (by omega)]; exact R.2.1.2.2.1 b hb) (q_upd_o (by omega)) (q_upd_o (by omega))
theorem cW_up10 {M : q_M} {w : Nat} {v : Int} : cW (q_upd M w 10 v) w = cW M w := by
  funext f i
  unfold cW
  split <;> simp (disch := omega) only [q_upd_n]
theorem q_Rw_force {M : q_M} {x V : Int} (R : q_Rw M) : q_Rw (q_upd (q_upd M 11 10 x) 100 11 V) := by
  have f : ∀ a i, (a ≠ 11 ∨ i ≠ 10) → (a ≠ 100 ∨ i ≠ 11) → q_upd (q_upd M 11 10 x) 100 11 V a i = M a i := fun a i h1 h2 => by rw [q_upd_n h2, q_upd_n h1]
  have e1 : cW (q_upd (q_upd M 11 10 x) 100 11 V) 11 = cW M 11 := by
    rw [cW_same (M := q_upd M 11 10 x) (fun a i ha => q_upd_n (by omega)), cW_up10]
  have e2 : mW (q_upd (q_upd M 11 10 x) 100 11 V) = mW M := mW_same (fun a i ha => f a i (by omega) (by omega))
  exact q_Rw_w R (by rw [e1, e2, R.1]) (by rw [e2]; exact R.2.1) (fun a i ha => f a i (by omega) (by omega)) (fun z => ⟨by rw [f 100 0 (by omega) (by omega)]; exact z, fun i _ => ⟨f _ _ (by omega) (by omega), f _ _ (by omega) (by omega)⟩⟩)
/-- an image on both sides -/
theorem q_LI_image {L tm sl l : Nat} {X : Nat → Int} {Vt : Nat → Nat → (Nat → Int) → Int} {M M1 M2 : q_M} (h : q_Lx L X tm sl Vt l M) (R : q_Rw M) (C1 : q_XI Vt tm l sl M1) (e1 : cW M1 65 = cW M 11) (k1 : M1 0 6 = 1) (u1 : M1 65 10 = M 11 10) (t1 : ∀ a i, ((a < 65 ∧ (a = 0 → i ≠ 6)) ∨ 90 < a) → M1 a i = M a i) (I2 : q_MI Vt tm M2) (t2 : ∀ a i, a ≠ 108 → a ≠ 109 → (a = 100 → i ≠ 12) → M2 a i = M1 a i) (w1 : ∀ i, i < 15 → M2 108 i = M1 104 i) (w2 : ∀ i, i < 20 → M2 108 (15 + i) = M1 103 i) (w3 : M2 109 0 = M1 100 0) (w4 : M2 109 1 = M1 100 5) (w5 : M2 109 2 = M1 100 11) (w6 : M2 100 12 = 1) : M 12 5 = M1 100 0 ∧ q_LI L X tm sl M2 := by
  have hL := h
  obtain ⟨h1, h2, h3, h4, h5, h6, h9, h10⟩ := h
  have em : mW M1 = mW M := mW_same (fun a i ha => t1 a i (by omega))
  have em2 : mW M2 = mW M := (mW_same (M := M1) (fun a i ha => t2 a i (by omega) (by omega) (by omega))).trans em
  have e0 := q_Rw_90 R
  have n0 := h2.1.1
  have l1 := q_XI_l h1
  have c1 : M1 100 0 = M 100 0 := t1 100 0 (by omega)
  have ek : mK M2 = mW M := by
    rw [← em]
    have en : (M2 109 0).toNat = (M1 100 0).toNat := by rw [w3]
    have v1 : ∀ i, i < (M1 100 0).toNat → i < 5 := fun i hi => by omega
    funext f i
    match f with
    | 0 =>
      show (if i < (M2 109 0).toNat then M2 101 i else 0) = (if i < (M1 100 0).toNat then M1 101 i else 0)
      rw [en]
      by_cases c : i < (M1 100 0).toNat
      · have := v1 i c
        rw [if_pos c, if_pos c, t2 101 i (by omega) (by omega) (by omega)]
      · rw [if_neg c, if_neg c]
    | 1 =>
      show (if i < (M2 109 0).toNat then M2 102 i else 0) = (if i < (M1 100 0).toNat then M1 102 i else 0)
      rw [en]
      by_cases c : i < (M1 100 0).toNat
      · have := v1 i c
        rw [if_pos c, if_pos c, t2 102 i (by omega) (by omega) (by omega)]
      · rw [if_neg c, if_neg c]
    | 2 =>
      show (if i < (M2 109 0).toNat then M2 108 (3 * i) else 0) = (if i < (M1 100 0).toNat then M1 104 (3 * i) else 0)
      rw [en]
      by_cases c : i < (M1 100 0).toNat
      · have := v1 i c
        rw [if_pos c, if_pos c, w1 _ (by omega)]
      · rw [if_neg c, if_neg c]
    | 3 =>
      show (if i < (M2 109 0).toNat then M2 108 (3 * i + 1) else 0) = (if i < (M1 100 0).toNat then M1 104 (3 * i + 1) else 0)
      rw [en]
      by_cases c : i < (M1 100 0).toNat
      · have := v1 i c
        rw [if_pos c, if_pos c, w1 _ (by omega)]
      · rw [if_neg c, if_neg c]
    | 4 =>
      show (if i < (M2 109 0).toNat then (if M2 108 (3 * i + 2) = -1 then 5 else M2 108 (3 * i + 2)) else 0) = (if i < (M1 100 0).toNat then (if M1 104 (3 * i + 2) = -1 then 5 else M1 104 (3 * i + 2)) else 0)
      rw [en]
      by_cases c : i < (M1 100 0).toNat
      · have := v1 i c
        rw [if_pos c, if_pos c, w1 _ (by omega)]
      · rw [if_neg c, if_neg c]
    | 5 =>
      show (if i < 5 then M2 108 (15 + 4 * i) else 0) = (if i < 5 then M1 103 (4 * i) else 0)
      by_cases c : i < 5
      · rw [if_pos c, if_pos c, w2 _ (by omega)]
      · rw [if_neg c, if_neg c]
    | 6 =>
      show (if i < 5 then M2 108 (15 + (4 * i + 1)) else 0) = (if i < 5 then M1 103 (4 * i + 1) else 0)
      by_cases c : i < 5
      · rw [if_pos c, if_pos c, w2 _ (by omega)]
      · rw [if_neg c, if_neg c]
    | 7 =>
      show (if i < 5 then M2 108 (15 + (4 * i + 2)) else 0) = (if i < 5 then M1 103 (4 * i + 2) else 0)
      by_cases c : i < 5
      · rw [if_pos c, if_pos c, w2 _ (by omega)]
      · rw [if_neg c, if_neg c]
    | 8 =>
      show (if i < 5 then M2 108 (15 + (4 * i + 3)) else 0) = (if i < 5 then M1 103 (4 * i + 3) else 0)
      by_cases c : i < 5
      · rw [if_pos c, if_pos c, w2 _ (by omega)]
      · rw [if_neg c, if_neg c]
    | 9 =>
      show (if i = 0 then M2 109 0 else if i = 1 then M2 109 1 else 0) = (if i = 0 then M1 100 0 else if i = 1 then M1 100 5 else 0)
      rw [w3, w4]
    | n + 10 => rfl
  have g : ∀ a i, (a < 65 ∧ (a = 0 → i ≠ 6)) ∨ (90 < a ∧ a ≠ 108 ∧ a ≠ 109 ∧ (a = 100 → i ≠ 12)) → M2 a i = M a i := fun a i ha => (t2 a i (by omega) (by omega) (by omega)).trans (t1 a i (by omega))
  refine ⟨by rw [c1]; exact e0, Vt, l, ⟨q_XI_mfw (fun a i ha => t2 a i (by omega) (by omega) (by omega)) C1, I2, (g 100 11 (by omega)).trans h3, (g _ _ (by omega)).trans h4, fun i => (g _ _ (by omega)).trans (h5 i), q_Rtp_f (fun a i ha => g a i (by omega)) h6, fun _ => ?_, ?_⟩, ?_, ?_, q_Rsh_f (fun a i ha => g a i (by omega)) R.2.2.1, fun _ => ⟨?_, ?_, ?_⟩⟩
  · rw [t2 65 10 (by omega) (by omega) (by omega), u1, l1, w5, t1 100 11 (by omega), h3, Int.toNat_natCast]
  · rw [t2 0 6 (by omega) (by omega) (by omega), k1, w6]
  · rw [cW_same (M := M) (fun a i ha => g a i (by omega)), em2]
    exact R.1
  · rw [em2]
    exact R.2.1
  · rw [cW_same (M := M1) (fun a i ha => t2 a i (by omega) (by omega) (by omega)), e1, ek]
    exact R.1
  · rw [ek]
    exact R.2.1
  · rw [w3, g 100 0 (by omega), c1]
    exact Int.le_refl _
/-- back to the image on both sides -/
theorem q_LI_back {L tm sl l kl : Nat} {X : Nat → Int} {Vt : Nat → Nat → (Nat → Int) → Int} {M M1 M2 : q_M} (h : q_Lx L X tm sl Vt l M) (R : q_Rw M) (k0 : M 0 6 ≠ 0) (C1 : q_XI Vt tm kl sl M1) (u1 : M 65 10 = q_ta kl) (e1 : cW M1 11 = cW M 65) (t1 : ∀ a i, (a < 11 ∨ (14 < a ∧ a < 30) ∨ 36 < a) → M1 a i = M a i) (I2 : q_MI Vt tm M2) (t2 : ∀ a i, a ≠ 103 → a ≠ 104 → (a = 100 → i ≠ 0 ∧ i ≠ 5 ∧ i ≠ 11) → M2 a i = M1 a i) (w1 : ∀ i, i < 15 → M2 104 i = M1 108 i) (w2 : ∀ i, i < 20 → M2 103 i = M1 108 (15 + i)) (w3 : M2 100 0 = M1 109 0) (w4 : M2 100 5 = M1 109 1) (w5 : M2 100 11 = M1 109 2) : M 66 5 = M1 109 0 ∧ q_LI L X tm sl M2 := by
  have hL := h
  obtain ⟨h1, h2, h3, h4, h5, h6, h9, h10⟩ := h
  obtain ⟨r1, r2, r3⟩ := R.2.2.2 k0
  have i9 := h2.2.2.2.2.2.2.2.1.2.2.2.2.2.2.2
  have g : ∀ a i, (a < 11 ∨ (14 < a ∧ a < 30) ∨ (36 < a ∧ a ≠ 103 ∧ a ≠ 104 ∧ (a = 100 → i ≠ 0 ∧ i ≠ 5 ∧ i ≠ 11))) → M2 a i = M a i := fun a i ha => (t2 a i (by omega) (by omega) (by omega)).trans (t1 a i (by omega))
  have s9 : ∀ i, M1 109 i = M 109 i := fun i => t1 109 i (by omega)
  have s8 : ∀ i, M1 108 i = M 108 i := fun i => t1 108 i (by omega)
  have ekm : mK M2 = mK M := mK_same (fun a i ha => g a i (by omega)) (fun i _ => ⟨g _ _ (by omega), g _ _ (by omega)⟩)
  have ek : mW M2 = mK M := by
    have en : (M2 100 0).toNat = (M 109 0).toNat := by rw [w3, s9]
    have v1 : ∀ i, i < (M 109 0).toNat → i < 5 := fun i hi => by omega
    funext f i
    match f with
    | 0 =>
      show (if i < (M2 100 0).toNat then M2 101 i else 0) = (if i < (M 109 0).toNat then M 101 i else 0)
      rw [en]
      by_cases c : i < (M 109 0).toNat
      · have := v1 i c
        rw [if_pos c, if_pos c, g 101 i (by omega)]
      · rw [if_neg c, if_neg c]
    | 1 =>
      show (if i < (M2 100 0).toNat then M2 102 i else 0) = (if i < (M 109 0).toNat then M 102 i else 0)
      rw [en]
      by_cases c : i < (M 109 0).toNat
      · have := v1 i c
        rw [if_pos c, if_pos c, g 102 i (by omega)]
      · rw [if_neg c, if_neg c]
    | 2 =>
      show (if i < (M2 100 0).toNat then M2 104 (3 * i) else 0) = (if i < (M 109 0).toNat then M 108 (3 * i) else 0)
      rw [en]
      by_cases c : i < (M 109 0).toNat
      · have := v1 i c
        rw [if_pos c, if_pos c, w1 _ (by omega), s8]
      · rw [if_neg c, if_neg c]
    | 3 =>
      show (if i < (M2 100 0).toNat then M2 104 (3 * i + 1) else 0) = (if i < (M 109 0).toNat then M 108 (3 * i + 1) else 0)
      rw [en]
      by_cases c : i < (M 109 0).toNat
      · have := v1 i c
        rw [if_pos c, if_pos c, w1 _ (by omega), s8]
      · rw [if_neg c, if_neg c]
    | 4 =>
      show (if i < (M2 100 0).toNat then (if M2 104 (3 * i + 2) = -1 then 5 else M2 104 (3 * i + 2)) else 0) = (if i < (M 109 0).toNat then (if M 108 (3 * i + 2) = -1 then 5 else M 108 (3 * i + 2)) else 0)
      rw [en]
      by_cases c : i < (M 109 0).toNat
      · have := v1 i c
        rw [if_pos c, if_pos c, w1 _ (by omega), s8]
      · rw [if_neg c, if_neg c]
    | 5 =>
      show (if i < 5 then M2 103 (4 * i) else 0) = (if i < 5 then M 108 (15 + 4 * i) else 0)
      by_cases c : i < 5
      · rw [if_pos c, if_pos c, w2 _ (by omega), s8]
      · rw [if_neg c, if_neg c]
    | 6 =>
      show (if i < 5 then M2 103 (4 * i + 1) else 0) = (if i < 5 then M 108 (15 + (4 * i + 1)) else 0)
      by_cases c : i < 5
      · rw [if_pos c, if_pos c, w2 _ (by omega), s8]
      · rw [if_neg c, if_neg c]
    | 7 =>
      show (if i < 5 then M2 103 (4 * i + 2) else 0) = (if i < 5 then M 108 (15 + (4 * i + 2)) else 0)
      by_cases c : i < 5
      · rw [if_pos c, if_pos c, w2 _ (by omega), s8]
      · rw [if_neg c, if_neg c]
    | 8 =>
      show (if i < 5 then M2 103 (4 * i + 3) else 0) = (if i < 5 then M 108 (15 + (4 * i + 3)) else 0)
      by_cases c : i < 5
      · rw [if_pos c, if_pos c, w2 _ (by omega), s8]
      · rw [if_neg c, if_neg c]
    | 9 =>
      show (if i = 0 then M2 100 0 else if i = 1 then M2 100 5 else 0) = (if i = 0 then M 109 0 else if i = 1 then M 109 1 else 0)
      rw [w3, w4, s9, s9]
    | n + 10 => rfl
  have el : kl = (M 109 2).toNat := q_ta_inj (by have := h9 k0; omega)
  refine ⟨by rw [s9]; exact congrFun (congrFun r1 9) 0, Vt, kl, ⟨q_XI_mfw (fun a i ha => t2 a i (by omega) (by omega) (by omega)) C1, I2, ?_, (g _ _ (by omega)).trans h4, fun i => (g _ _ (by omega)).trans (h5 i), q_Rtp_f (fun a i ha => g a i (by omega)) h6, ?_, ?_⟩, ?_, ?_, q_Rsh_f (fun a i ha => g a i (by omega)) R.2.2.1, fun _ => ⟨?_, ?_, ?_⟩⟩
  · rw [w5, s9, el]
    omega
  · rw [g 0 6 (by omega), g 65 10 (by omega), g 109 2 (by omega)]
    exact h9
  · rw [g 0 6 (by omega), g 100 12 (by omega)]
    exact h10
  · rw [cW_same (M := M1) (fun a i ha => t2 a i (by omega) (by omega) (by omega)), e1, ek]
    exact r1
  · rw [ek]
    exact r2
  · rw [cW_same (M := M) (fun a i ha => g a i (by omega)), ekm]
    exact r1
  · rw [ekm]
    exact r2
  · rw [w3, s9, g 109 0 (by omega)]
    exact Int.le_refl _
