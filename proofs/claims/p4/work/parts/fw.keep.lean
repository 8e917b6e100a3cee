/-! BOTH SIDES: all that stays over the calls -/
theorem q_MI_cfw {Vt : Nat → Nat → (Nat → Int) → Int} {tm : Nat} {M M2 : q_M} (h : q_cfw M M2) (hI : q_MI Vt tm M) : q_MI Vt tm M2 := q_MI_same (fun a i ha => by unfold q_rel at ha; exact h a i (by omega)) hI
theorem q_MI_cfr {Vt : Nat → Nat → (Nat → Int) → Int} {tm : Nat} {M M2 : q_M} (h : q_cfr M M2) (hI : q_MI Vt tm M) : q_MI Vt tm M2 := q_MI_same (fun a i ha => by unfold q_rel at ha; exact h a i (by omega)) hI
/-- both sides within their bounds, the script unread; the same texts, tapes, law, kept law -/
def q_Lx (L : Nat) (X : Nat → Int) (tm sl : Nat) (Vt : Nat → Nat → (Nat → Int) → Int) (l : Nat) (M : q_M) : Prop := q_XI Vt tm l sl M ∧ q_MI Vt tm M ∧ M 100 11 = l ∧ M 1000001 0 = L ∧ (∀ i, M 1000000 i = X i) ∧ q_Rtp M ∧ (M 0 6 ≠ 0 → M 65 10 = q_ta (M 109 2).toNat) ∧ (M 0 6 = 0 ↔ M 100 12 = 0)
theorem q_XI_l {Vt : Nat → Nat → (Nat → Int) → Int} {tm l sl : Nat} {M : q_M} (C : q_XI Vt tm l sl M) : M 11 10 = q_ta l := C.2.2.1.2.1.2.2.2.1
def q_LI (L : Nat) (X : Nat → Int) (tm sl : Nat) (M : q_M) : Prop := ∃ Vt l, q_Lx L X tm sl Vt l M ∧ q_Rw M
theorem q_Rtp_f {M M2 : q_M} (h : ∀ a i, ((a = 1 ∧ i = 1) ∨ a = 2 ∨ a = 105 ∨ a = 114 ∨ (a = 100 ∧ i = 7)) → M2 a i = M a i) (R : q_Rtp M) : q_Rtp M2 := by
  obtain ⟨h6, h7, h8⟩ := R
  refine ⟨?_, ?_, fun w c a b => (h 114 _ (by omega)).trans (h8 w c a b)⟩
  · rw [funext (fun i => h 2 i (by omega)), funext (fun i => h 105 i (by omega))]
    exact h6
  · rw [h 1 1 (by omega), h 100 7 (by omega)]
    exact h7
/-- frames of both sides together -/
theorem q_Lx_of {L tm sl l l2 : Nat} {X : Nat → Int} {Vt : Nat → Nat → (Nat → Int) → Int} {M M2 : q_M} (h : q_Lx L X tm sl Vt l M) (C : q_XI Vt tm l2 sl M2) (I : q_MI Vt tm M2) (hf : ∀ a i, ((a = 1 ∧ i = 1) ∨ a = 2 ∨ a = 105 ∨ a = 114 ∨ (a = 100 ∧ (i = 7 ∨ i = 11 ∨ i = 12)) ∨ (a = 109 ∧ i = 2) ∨ (a = 65 ∧ i = 10) ∨ (a = 11 ∧ i = 10) ∨ (a = 0 ∧ i = 6) ∨ 1000 ≤ a) → M2 a i = M a i) (R2 : q_Rw M2) : q_LI L X tm sl M2 := by
  obtain ⟨h1, h2, h3, h4, h5, h6, h9, h10⟩ := h
  have e1 := q_XI_l h1
  have e2 := q_XI_l C
  rw [hf 11 10 (by omega), e1] at e2
  have e3 : l = l2 := q_ta_inj (by omega)
  subst e3
  refine ⟨Vt, l, ⟨C, I, (hf 100 11 (by omega)).trans h3, (hf _ _ (by omega)).trans h4, fun i => (hf _ _ (by omega)).trans (h5 i), q_Rtp_f (fun a i ha => hf a i (by omega)) h6, ?_, ?_⟩, R2⟩
  · rw [hf 0 6 (by omega), hf 65 10 (by omega), hf 109 2 (by omega)]
    exact h9
  · rw [hf 0 6 (by omega), hf 100 12 (by omega)]
    exact h10
/-- a question on both sides -/
theorem q_LI_q {L tm sl l : Nat} {X : Nat → Int} {Vt : Nat → Nat → (Nat → Int) → Int} {M M1 M2 : q_M} (h : q_Lx L X tm sl Vt l M) (R : q_Rw M) (h1 : q_tq M M1) (h2 : q_mq M1 M2) : q_LI L X tm sl M2 := by
  have C1 := q_XI_tq h.1 h1
  have I1 : q_MI Vt tm M1 := q_MI_cfr (q_cfr_tq h1) h.2.1
  have hf : ∀ a i, ((a = 1 ∧ i = 1) ∨ a = 2 ∨ (11 ≤ a ∧ a ≤ 14) ∨ (30 ≤ a ∧ a ≤ 36) ∨ (65 ≤ a ∧ a < 116) ∨ (a = 0 ∧ i = 6) ∨ 1000 ≤ a) → (a = 100 → i ≠ 36) → M2 a i = M a i := fun a i ha hb => (h2 a i (by omega) hb).trans (h1 a i (by omega) (by omega) (by omega) (by omega))
  exact q_Lx_of h (q_XI_mfr (q_mfr_mq h2) C1) (q_MI_mq h2 I1) (fun a i ha => hf a i (by omega) (by omega)) (q_Rw_f (fun a i ha => hf a i (by omega) (by omega)) R)
/-- the world has changed alike -/
theorem q_LI_w {L tm sl l l2 : Nat} {X : Nat → Int} {Vt : Nat → Nat → (Nat → Int) → Int} {M M1 M2 S2 : q_M} (h : q_Lx L X tm sl Vt l M) (R : q_Rw M) (C1 : q_XI Vt tm l2 sl M1) (f1 : q_cfr M M1) (e1 : cW M1 11 = S2) (r1 : ∀ a i, 65 ≤ a → a < 100 → M1 a i = M a i) (I2 : q_MI Vt tm M2) (f2 : q_mfr M1 M2) (e2 : mW M2 = S2) (s2 : q_mws M1 M2) (hS : q_ivS S2) : q_LI L X tm sl M2 := by
  refine q_Lx_of h (q_XI_mfr f2 C1) I2 (fun a i ha => (f2 a i (by omega)).trans (f1 a i (by omega))) (q_Rw_w R ?_ (by rw [e2]; exact hS) (fun a i ha => ?_) (fun z => ⟨?_, fun i hi => ?_⟩))
  · rw [cW_same (M := M1) (fun a i ha => f2 a i (by omega)), e1, e2]
  · by_cases y : 108 ≤ a ∧ a ≤ 112
    · exact (s2.1 a i (by omega) (by omega) (by omega) (by omega) (by omega)).trans (f1 a i (by omega))
    · rw [f2 a i (by omega)]
      by_cases y2 : a = 0
      · exact f1 a i (by omega)
      · exact r1 a i (by omega) (by omega)
  · have := s2.2.1
    rw [f1 100 0 (by omega)] at this
    omega
  · have k := s2.2.2 i (by rw [f1 100 0 (by omega)]; omega)
    exact ⟨k.1.trans (f1 101 i (by omega)), k.2.trans (f1 102 i (by omega))⟩
/-- the sheets have changed alike -/
theorem q_LI_s {L tm sl l l2 : Nat} {X : Nat → Int} {Vt : Nat → Nat → (Nat → Int) → Int} {M M1 M2 : q_M} (h : q_Lx L X tm sl Vt l M) (R : q_Rw M) (C1 : q_XI Vt tm l2 sl M1) (f1 : q_cfr M M1) (r1 : ∀ a i, ((11 ≤ a ∧ a ≤ 14) ∨ (30 ≤ a ∧ a ≤ 36) ∨ (65 ≤ a ∧ a ≤ 90)) → M1 a i = M a i) (I2 : q_MI Vt tm M2) (f2 : q_mfr M1 M2) (s2 : ∀ a i, ((a = 100 ∧ (i = 0 ∨ i = 5)) ∨ (101 ≤ a ∧ a ≤ 104) ∨ a = 108 ∨ a = 109) → M2 a i = M1 a i) (hS : q_Rsh M2) : q_LI L X tm sl M2 := by
  refine q_Lx_of h (q_XI_mfr f2 C1) I2 (fun a i ha => (f2 a i (by omega)).trans (f1 a i (by omega))) ?_
  obtain ⟨R1, R2, R3, R4⟩ := R
  have em : mW M2 = mW M := mW_same (fun a i ha => (s2 a i (by omega)).trans (f1 a i (by omega)))
  refine ⟨?_, by rw [em]; exact R2, hS, q_Rkp_f (fun a i ha => ?_) (fun z => ⟨?_, fun i _ => ⟨?_, ?_⟩⟩) R4⟩
  · rw [em, cW_same (M := M1) (fun a i ha => f2 a i (by omega)), cW_same (M := M) (fun a i ha => r1 a i (by omega))]
    exact R1
  · by_cases y : a = 108 ∨ a = 109
    · exact (s2 a i (by omega)).trans (f1 a i (by omega))
    · rw [f2 a i (by omega)]
      by_cases y2 : a = 0
      · exact f1 a i (by omega)
      · exact r1 a i (by omega)
  · rw [s2 100 0 (by omega), f1 100 0 (by omega)]
    exact z
  · exact (s2 _ _ (by omega)).trans (f1 _ _ (by omega))
  · exact (s2 _ _ (by omega)).trans (f1 _ _ (by omega))
theorem q_ivS_bdX {S : q_M} {b w v : Int} (h : q_ivS S) : q_ivS (F_bdX S b w v) := by
  unfold F_bdX
  by_cases c : (0 ≤ b ∧ b ≤ 4) ∧ (0 ≤ w ∧ w ≤ 3) ∧ ((if w = 1 then F_cnt (S 4) b (F_n S) else 0) ≤ v ∧ v ≤ (if w = 1 then 5 else 99))
  · rw [if_pos c]
    have eb : ((b.toNat : Nat) : Int) = b := by omega
    refine q_ivS_bd (b := b.toNat) h (by omega) (fun k => ?_)
    have := c.2.2.1
    rw [if_pos k] at this
    rw [eb]
    exact this
  · rw [if_neg c]
    exact h
theorem q_ivS_stX {S : q_M} {km wh hv : Int} (h : q_ivS S) : q_ivS (F_stX S km wh hv) := by
  unfold F_stX
  split
  · next c => exact q_ivS_add h c.2
  · exact h
theorem q_ivS_ptX {S : q_M} {p w v : Int} (h : q_ivS S) : q_ivS (F_ptX S p w v) := by
  unfold F_ptX
  split
  · next c => exact q_ivS_pt h (by unfold F_n; omega)
  · exact h
/-- stones by a sheet: both sides -/
theorem q_stonesBy_S {M : q_M} {s so fr n : Int} (R : q_Rw M) (h0 : 0 ≤ M 12 5) (h5 : M 12 5 ≤ 5) (hz : ∀ t, t < 4 → M 111 t ≤ 40) : (q_stonesBy M s so fr n).1 = (B_sb M s so fr n).1 ∧ cW (q_stonesBy M s so fr n).2 11 = (B_sb M s so fr n).2 := by
  obtain ⟨R1, _, R3, _⟩ := R
  by_cases c1 : (0 ≤ s ∧ s < 4) ∧ (0 ≤ so ∧ so ≤ 2) ∧ (0 ≤ n ∧ n ≤ 5)
  · obtain ⟨r1, r2, r3⟩ := R3 s.toNat (by omega)
    have hzs := hz s.toNat (by omega)
    have eL : q_stonesBy M s so fr n = (if M 110 s.toNat = -1 then (-11, M) else if M 110 s.toNat ≠ so then (-13, M) else if 0 < n ∧ fr < 0 then (-12, M) else q_sb (M (6 + (86 + 2 * s.toNat) + 1)) fr (M 111 s.toNat) n.toNat 0 0 M) := by
      unfold q_stonesBy
      rw [if_neg (show ¬¬((0 ≤ s ∧ s < 4) ∧ (0 ≤ so ∧ so ≤ 2) ∧ (0 ≤ n ∧ n ≤ 5)) from fun z => z c1), r1, r2]
    have eR : B_sb M s so fr n = (if M 110 s.toNat = -1 then (-11, mW M) else if M 110 s.toNat ≠ so then (-13, mW M) else if 0 < n ∧ fr < 0 then (-12, mW M) else F_sb (fun x => M 112 (40 * s.toNat + x)) fr (M 111 s.toNat) n.toNat 0 0 (mW M)) := by
      unfold B_sb
      rw [if_neg (show ¬¬((0 ≤ s ∧ s < 4) ∧ (0 ≤ so ∧ so ≤ 2) ∧ (0 ≤ n ∧ n ≤ 5)) from fun z => z c1)]
    by_cases c2 : M 110 s.toNat = -1
    · rw [if_pos c2] at eL eR
      rw [eL, eR]
      exact ⟨rfl, R1⟩
    · rw [if_neg c2] at eL eR
      by_cases c3 : M 110 s.toNat ≠ so
      · rw [if_pos c3] at eL eR
        rw [eL, eR]
        exact ⟨rfl, R1⟩
      · rw [if_neg c3] at eL eR
        by_cases c4 : 0 < n ∧ fr < 0
        · rw [if_pos c4] at eL eR
          rw [eL, eR]
          exact ⟨rfl, R1⟩
        · rw [if_neg c4] at eL eR
          rw [eL, eR, ← R1]
          have k := q_sb_S (C := M (6 + (86 + 2 * s.toNat) + 1)) (fr := fr) (sz := M 111 s.toNat) n.toNat 0 0 M h0 h5
          by_cases c5 : 0 ≤ fr
          · rw [F_sb_c c5 (C2 := fun x => M 112 (40 * s.toNat + x)) (fun i hi => r3 i (by omega))] at k
            exact k
          · have e : n.toNat = 0 := by omega
            rw [e] at k ⊢
            exact k
  · have eL : q_stonesBy M s so fr n = (-2, M) := if_pos c1
    have eR : B_sb M s so fr n = (-2, mW M) := if_pos c1
    rw [eL, eR]
    exact ⟨rfl, R1⟩
theorem q_sb_f {C : Nat → Int} {fr sz : Int} : ∀ (j k : Nat) (came : Int) (M : q_M) (a i : Nat), (a < 12 ∨ (14 < a ∧ a < 33) ∨ 36 < a) → (q_sb C fr sz j k came M).2 a i = M a i
  | 0, _, _, _, _, _, _ => rfl
  | j + 1, k, came, M, a, i, ha => by
    rw [q_sb]
    split
    · rfl
    · split
      · rw [q_sb_f j (k + 1) _ _ a i ha]
        exact q_adM_f ha
      · exact q_sb_f j (k + 1) _ _ a i ha
theorem q_stonesBy_f {M : q_M} {s so fr n : Int} {a i : Nat} (ha : a < 12 ∨ (14 < a ∧ a < 33) ∨ 36 < a) : (q_stonesBy M s so fr n).2 a i = M a i := by
  unfold q_stonesBy
  split
  · rfl
  · split
    · rfl
    · split
      · rfl
      · split
        · rfl
        · exact q_sb_f _ _ _ _ a i ha
theorem q_ivS_sbB {M : q_M} {s so fr n : Int} (h : q_ivS (mW M)) : q_ivS (B_sb M s so fr n).2 := by
  unfold B_sb
  split
  · exact h
  · split
    · exact h
    · split
      · exact h
      · split
        · exact h
        · exact q_ivS_sb _ _ _ _ h
theorem AB_copy {M : q_M} {s i o j n : Int} (R : q_Rsh M) : A_copy M s i o j n = B_copy M s i o j n := by
  unfold A_copy B_copy
  by_cases c : (0 ≤ s ∧ s < 4) ∧ (0 ≤ o ∧ o < 4)
  · obtain ⟨r1, r2, _⟩ := R s.toNat (by omega)
    obtain ⟨r3, r4, _⟩ := R o.toNat (by omega)
    rw [r1, r2, r3, r4]
  · rw [if_pos c, if_pos c]
theorem B_copy_k {M : q_M} {s i o j n : Int} (h : 0 ≤ B_copy M s i o j n) : (0 ≤ s ∧ s < 4) ∧ (0 ≤ o ∧ o < 4) ∧ 0 ≤ n ∧ 0 ≤ i ∧ 0 ≤ j ∧ i ≤ M 111 s.toNat - n ∧ j ≤ M 111 o.toNat - n := by
  unfold B_copy at h
  split at h
  · omega
  · split at h
    · omega
    · split at h
      · omega
      · split at h
        · omega
        · omega
theorem q_Rsh_copy {M M1 M2 : q_M} {s i o j n : Int} (R : q_Rsh M) (e1 : M1 = q_copyM M s i o j n) (e2 : M2 = (if 0 ≤ B_copy M1 s i o j n then q_cpy M1 112 (40 * s.toNat + i.toNat) 112 (40 * o.toNat + j.toNat) n.toNat else M1)) (hB : B_copy M1 s i o j n = B_copy M s i o j n) (hz : ∀ t, t < 4 → M 111 t ≤ 40) : q_Rsh M2 := by
  have eA := AB_copy (s := s) (i := i) (o := o) (j := j) (n := n) R
  rw [hB] at e2
  by_cases c : 0 ≤ B_copy M s i o j n
  · have eM : M1 = q_cpy M (6 + (86 + 2 * s.toNat) + 1) i.toNat (6 + (86 + 2 * o.toNat) + 1) j.toNat n.toNat := by rw [e1]; unfold q_copyM; rw [eA, if_pos c]
    rw [if_pos c] at e2
    obtain ⟨k1, k2, k3, k4, k5, k6, k7⟩ := B_copy_k c
    have z1 := hz s.toNat (by omega)
    have z2 := hz o.toNat (by omega)
    obtain ⟨r1, r2, r3⟩ := R s.toNat (by omega)
    obtain ⟨r4, r5, r6⟩ := R o.toNat (by omega)
    have n1 : ∀ a x, a ≠ 6 + (86 + 2 * o.toNat) + 1 → M1 a x = M a x := fun a x ha => by rw [eM]; exact if_neg (fun z => ha z.1)
    have n2 : ∀ a x, a ≠ 112 → M2 a x = M1 a x := fun a x ha => by rw [e2]; exact if_neg (fun z => ha z.1)
    refine q_Rsh_one (S := o.toNat) R (fun a x q1 q2 q3 => ?_) (fun a x q1 q2 => ?_) (fun x q => ?_) ⟨?_, ?_, fun x hx => ?_⟩
    · rw [n2 a x (by omega), n1 a x q2]
    · rw [n2 a x (by omega), n1 a x (by omega)]
    · rw [e2]
      unfold q_cpy
      rw [if_neg (by omega), n1 _ _ (by omega)]
    · rw [n2 _ _ (by omega), n1 _ _ (by omega), n2 _ _ (by omega), n1 _ _ (by omega)]
      exact r4
    · rw [n2 _ _ (by omega), n1 _ _ (by omega), n2 _ _ (by omega), n1 _ _ (by omega)]
      exact r5
    · rw [n2 _ _ (by omega)]
      have g1 : M1 (6 + (86 + 2 * o.toNat) + 1) x = (if j.toNat ≤ x ∧ x < j.toNat + n.toNat then M (6 + (86 + 2 * s.toNat) + 1) (i.toNat + (x - j.toNat)) else M (6 + (86 + 2 * o.toNat) + 1) x) := by
        rw [eM]
        unfold q_cpy
        by_cases y : j.toNat ≤ x ∧ x < j.toNat + n.toNat
        · rw [if_pos ⟨rfl, y⟩, if_pos y]
        · rw [if_neg (fun z => y z.2), if_neg y]
      have g2 : M2 112 (40 * o.toNat + x) = (if j.toNat ≤ x ∧ x < j.toNat + n.toNat then M 112 (40 * s.toNat + (i.toNat + (x - j.toNat))) else M 112 (40 * o.toNat + x)) := by
        rw [e2]
        unfold q_cpy
        by_cases y : j.toNat ≤ x ∧ x < j.toNat + n.toNat
        · rw [if_pos ⟨rfl, by omega, by omega⟩, if_pos y, n1 _ _ (by omega), show 40 * s.toNat + i.toNat + (40 * o.toNat + x - (40 * o.toNat + j.toNat)) = 40 * s.toNat + (i.toNat + (x - j.toNat)) by omega]
        · rw [if_neg (by omega), if_neg y, n1 _ _ (by omega)]
      rw [g1, g2]
      split
      · exact r3 _ (by omega)
      · exact r6 x hx
  · have eM : M1 = M := by rw [e1]; unfold q_copyM; rw [eA, if_neg c]
    rw [e2, if_neg c, eM]
    exact R
theorem AB_film {M : q_M} {s p n : Int} (h : M 12 5 = M 100 0) : A_film M s p n = B_film M s p n := by
  unfold A_film B_film
  rw [h]
  by_cases c1 : 0 ≤ s ∧ s < 4
  · rw [if_neg (fun z => z c1), if_neg (show ¬¬(0 ≤ s ∧ s ≤ 3) by omega)]
    by_cases c2 : 0 ≤ p ∧ p < M 100 0
    · rw [if_neg (fun z => z c2), if_neg (show ¬¬(0 ≤ p ∧ p ≤ M 100 0 - 1) by omega)]
    · rw [if_pos c2, if_pos (show ¬(0 ≤ p ∧ p ≤ M 100 0 - 1) by omega)]
  · rw [if_pos c1, if_pos (show ¬(0 ≤ s ∧ s ≤ 3) by omega)]
theorem q_Rsh_film {V : Nat → (Nat → Int) → Int} {M M1 M2 : q_M} {s p n : Int} (R : q_Rw M) (h1 : q_tq (q_filmM V M s p n) M1) (h2 : q_mq (q_filmB V M1 s p n) M2) (e0 : M 12 5 = M 100 0) : q_Rsh M2 := by
  obtain ⟨R1, R2, R3, R4⟩ := R
  have f1 : ∀ a i, 92 ≤ a → a < 124 → M1 a i = q_filmM V M s p n a i := fun a i q1 q2 => h1 a i (by omega) (by omega) (by omega) (by omega)
  have f2 : ∀ a i, a < 116 → a ≠ 100 → M2 a i = q_filmB V M1 s p n a i := fun a i q1 q2 => h2 a i (by omega) (fun z => absurd z q2)
  have n0 : M1 100 0 = M 100 0 := by
    rw [f1 100 0 (by omega) (by omega)]
    unfold q_filmM
    split
    · exact q_shM_n (by omega) (by omega)
    · rfl
  by_cases c : (0 ≤ s ∧ s < 4) ∧ (0 ≤ p ∧ p < M 12 5) ∧ (0 ≤ n ∧ n ≤ 20)
  · have cB : (0 ≤ s ∧ s ≤ 3) ∧ (0 ≤ p ∧ p ≤ M1 100 0 - 1) ∧ (0 ≤ n ∧ n ≤ 20) := by omega
    have eM : q_filmM V M s p n = q_shM M (6 + (86 + 2 * s.toNat)) 0 n (F_flm V (cW M 11) p.toNat n.toNat) := if_pos c
    have eB : q_filmB V M1 s p n = q_flM M1 s.toNat n 40 (G_flm V (mW M1) p.toNat n.toNat) := if_pos cB
    have v := q_shM_v (M := M) (a := 6 + (86 + 2 * s.toNat)) (so := 0) (n := n) (f := F_flm V (cW M 11) p.toNat n.toNat)
    rw [← eM] at v
    have em : mW M1 = mW M := mW_same (fun a i ha => by
      rw [f1 a i (by omega) (by omega), eM]
      exact q_shM_n (by omega) (by omega))
    have eF : G_flm V (mW M1) p.toNat n.toNat = F_flm V (cW M 11) p.toNat n.toNat := by rw [em, R1, F_flm_e R2]
    have w110 : M2 110 s.toNat = 0 := by rw [f2 _ _ (by omega) (by omega), eB]; unfold q_flM; rw [if_pos ⟨rfl, rfl⟩]
    have w111 : M2 111 s.toNat = n := by rw [f2 _ _ (by omega) (by omega), eB]; unfold q_flM; rw [if_neg (by omega), if_pos ⟨rfl, rfl⟩]
    have w112 : ∀ i, i < 40 → M2 112 (40 * s.toNat + i) = F_flm V (cW M 11) p.toNat n.toNat i := fun i hi => by
      rw [f2 _ _ (by omega) (by omega), eB]
      unfold q_flM
      rw [if_neg (by omega), if_neg (by omega), if_pos ⟨rfl, by omega, by omega⟩, eF, show 40 * s.toNat + i - 40 * s.toNat = i by omega]
    have hx : ∀ a i, a < 100 → M2 a i = M1 a i := fun a i ha => by
      rw [f2 a i (by omega) (by omega), eB]
      exact q_flM_n (by omega) (by omega) (by omega)
    refine q_Rsh_one (S := s.toNat) R3 (fun a x q1 q2 q3 => ?_) (fun a x q1 q2 => ?_) (fun x q => ?_) ⟨?_, ?_, fun x hx2 => ?_⟩
    · rw [hx a x (by omega), f1 a x (by omega) (by omega), eM]
      exact q_shM_n q1 q2
    · rw [f2 a x (by omega) (by omega), eB]
      unfold q_flM
      rw [if_neg (fun z => q2 z.2), if_neg (fun z => q2 z.2), if_neg (by omega), f1 a x (by omega) (by omega), eM]
      exact q_shM_n (by omega) (by omega)
    · rw [f2 _ _ (by omega) (by omega), eB]
      unfold q_flM
      rw [if_neg (by omega), if_neg (by omega), if_neg (by omega), f1 _ _ (by omega) (by omega), eM]
      exact q_shM_n (by omega) (by omega)
    · rw [hx _ _ (by omega), f1 _ _ (by omega) (by omega), v.1, w110]
    · rw [hx _ _ (by omega), f1 _ _ (by omega) (by omega), v.2.1, w111]
    · rw [hx _ _ (by omega), f1 _ _ (by omega) (by omega), v.2.2 x hx2, w112 x hx2]
  · have eM : q_filmM V M s p n = M := if_neg c
    have eB : q_filmB V M1 s p n = M1 := if_neg (by omega)
    refine q_Rsh_f (M := M) (fun a i ha => ?_) R3
    rw [f2 a i (by omega) (by omega), eB, f1 a i (by omega) (by omega), eM]
