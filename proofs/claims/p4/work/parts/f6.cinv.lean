/-! THE CLASS: what stays over calls -/
/-- the model and the script stay, and the years of now and of what is kept -/
def q_cfr (M M2 : q_M) : Prop := ∀ a i, ((100 ≤ a ∧ a < 124) ∨ 1000 ≤ a ∨ (a = 11 ∧ (i = 9 ∨ i = 10)) ∨ (a = 65 ∧ (i = 9 ∨ i = 10)) ∨ (a = 0 ∧ i = 6) ∨ (a = 1 ∧ i = 1) ∨ a = 2) → M2 a i = M a i
/-- the tape, which law stands and is kept, stay -/
def q_cft (M M2 : q_M) : Prop := ∀ a i, ((a = 11 ∧ i = 10) ∨ (a = 65 ∧ i = 10) ∨ (a = 1 ∧ i = 1) ∨ a = 2) → M2 a i = M a i
def q_cfw (M M2 : q_M) : Prop := ∀ a i, ((100 ≤ a ∧ a < 124) ∨ 1000 ≤ a) → M2 a i = M a i
theorem q_cfr_rf {M : q_M} : q_cfr M M := fun _ _ _ => rfl
def q_XI (Vt : Nat → Nat → (Nat → Int) → Int) (tm l sl : Nat) (M : q_M) : Prop := q_txs Vt tm M ∧ l < tm ∧ q_ci (Vt l) M (q_ta l) ∧ (q_rgW M 65 ∧ M 65 9 ≤ 999) ∧ (M 0 6 ≠ 0 → ∃ kl, kl < tm ∧ M 65 10 = q_ta kl) ∧ (0 ≤ M 1 1 ∧ M 1 1 ≤ 160) ∧ sl ≤ 3394 + (tm - 1) * 207
theorem q_ta_b {t : Nat} (h : t < 6) : q_ta t = 8 ∨ (125 ≤ q_ta t ∧ q_ta t ≤ 141 ∧ q_ta t % 4 = 1) := q_ta_tas h
theorem q_rgW_c {M M2 : q_M} {w : Nat} (h : ∀ a i, w ≤ a → a ≤ w + 25 → M2 a i = M a i) (hr : q_rgW M w) : q_rgW M2 w := by
  unfold q_rgW at hr ⊢
  simp (disch := omega) only [h]
  exact hr
theorem q_lawC_c {V : Nat → (Nat → Int) → Int} {ta : Nat} {M M2 : q_M} (h : ∀ a i, (a + 1 = ta ∨ a = ta ∨ a = ta + 1) → M2 a i = M a i) (hl : q_lawC V ta M) : q_lawC V ta M2 := fun M' hM => hl M' (fun a i ha => (hM a i ha).trans (h a i ha))
theorem q_txs_c {Vt : Nat → Nat → (Nat → Int) → Int} {tm : Nat} {M M2 : q_M} (h : ∀ a i, ((a = 0 ∧ i = 2) ∨ a = 5 ∨ (7 ≤ a ∧ a ≤ 9) ∨ (124 ≤ a ∧ a % 4 ≠ 3)) → M2 a i = M a i) (T : q_txs Vt tm M) : q_txs Vt tm M2 := by
  obtain ⟨h1, h2, h3, h4⟩ := T
  refine ⟨h1, h2, (h 0 2 (by omega)).trans h3, fun t ht => ?_⟩
  obtain ⟨a1, a2, a3, a4⟩ := h4 t ht
  have hta := q_ta_b (t := t) (by omega)
  exact ⟨(h 5 t (by omega)).trans a1, (h _ 0 (by omega)).trans a2, a3, q_lawC_c (fun a i ha => h a i (by omega)) a4⟩
/-- the world now has changed, all else stands -/
theorem q_XI_now {Vt : Nat → Nat → (Nat → Int) → Int} {tm l l2 sl : Nat} {M M2 : q_M} (C : q_XI Vt tm l sl M) (hl2 : l2 < tm) (hf : ∀ a i, (a < 10 ∨ (37 < a ∧ a < 100) ∨ (124 ≤ a ∧ a % 4 ≠ 3)) → M2 a i = M a i) (hr : q_rgW M2 11) (hy : M2 11 9 ≤ 999) (hla : M2 11 10 = q_ta l2) (hz : q_z5 M2 11) : q_XI Vt tm l2 sl M2 := by
  obtain ⟨T, hl, ⟨c1, c2, c3, c4, c5, c6, c7⟩, k1, k2, k3, k4⟩ := C
  have hT6 := T.2.1
  have T2 := q_txs_c (M2 := M2) (fun a i ha => hf a i (by omega)) T
  have hb := q_ta_b (t := l2) (by omega)
  have hx := T2.2.2.2 l2 hl2
  exact ⟨T2, hl2, ⟨q_ta_tas (by omega), ⟨hr, hx.2.2.1, hx.2.2.2, hla, by omega, by omega⟩, q_rg5_eq (fun a i _ h1 h2 => hf a i (by omega)) c3, hz, q_z5_eq (fun a h1 h2 => hf a 5 (by omega)) c5, hy, fun s hs => by rw [hf _ _ (by omega)]; exact c7 s hs⟩, ⟨q_rgW_c (fun a i h1 h2 => hf a i (by omega)) k1.1, by rw [hf 65 9 (by omega)]; exact k1.2⟩, fun h => by rw [hf 0 6 (by omega)] at h; rw [hf 65 10 (by omega)]; exact k2 h, by rw [hf 1 1 (by omega)]; exact k3, k4⟩
/-- the world now within its bounds by q_wl -/
theorem q_XI_w {Vt : Nat → Nat → (Nat → Int) → Int} {V : Nat → (Nat → Int) → Int} {tm l sl ta : Nat} {M M2 : q_M} (C : q_XI Vt tm l sl M) (hf : ∀ a i, (a < 10 ∨ (37 < a ∧ a < 100) ∨ (124 ≤ a ∧ a % 4 ≠ 3)) → M2 a i = M a i) (hw : q_wl V M2 11 ta) (hta : ta = q_ta l) (hy : M2 11 9 ≤ 999) (hz : ∀ a, 16 ≤ a → a ≤ 27 → M2 a 5 = M a 5) : q_XI Vt tm l sl M2 :=
  q_XI_now C C.2.1 hf hw.1 hy (by rw [hw.2.2.2.1, hta]) (q_z5_eq (fun a h1 h2 => hz a (by omega) (by omega)) C.2.2.1.2.2.2.1)
theorem q_XI_mfw {Vt : Nat → Nat → (Nat → Int) → Int} {tm l sl : Nat} {M M2 : q_M} (h : q_mfw M M2) (C : q_XI Vt tm l sl M) : q_XI Vt tm l sl M2 := by
  have hf : ∀ a i, a < 100 → M2 a i = M a i := fun a i ha => h a i (by omega)
  exact q_XI_now C C.2.1 (fun a i ha => h a i (by omega)) (q_rgW_c (fun a i _ h2 => hf a i (by omega)) C.2.2.1.2.1.1) (by rw [hf 11 9 (by omega)]; exact C.2.2.1.2.2.2.2.2.1) (by rw [hf 11 10 (by omega)]; exact C.2.2.1.2.1.2.2.2.1) (q_z5_eq (fun a h1 h2 => hf a 5 (by omega)) C.2.2.1.2.2.2.1)
theorem q_XI_mfr {Vt : Nat → Nat → (Nat → Int) → Int} {tm l sl : Nat} {M M2 : q_M} (h : q_mfr M M2) (C : q_XI Vt tm l sl M) : q_XI Vt tm l sl M2 := q_XI_mfw (fun a i ha => h a i (by omega)) C
theorem q_XI_tq {Vt : Nat → Nat → (Nat → Int) → Int} {tm l sl : Nat} {M M2 : q_M} (C : q_XI Vt tm l sl M) (h : q_tq M M2) : q_XI Vt tm l sl M2 := by
  obtain ⟨T, hl, C3, k1, k2, k3, k4⟩ := C
  have hf : ∀ a i, 65 ≤ a → a < 100 → M2 a i = M a i := fun a i h1 h2 => h a i (by omega) (by omega) (by omega) (by omega)
  have hg : ∀ a i, a < 10 → M2 a i = M a i := fun a i h1 => h a i (by omega) (by omega) (by omega) (by omega)
  exact ⟨q_txs_tq h T, hl, q_ci_tq h C3, ⟨q_rgW_c (fun a i h1 h2 => hf a i (by omega) (by omega)) k1.1, by rw [hf 65 9 (by omega) (by omega)]; exact k1.2⟩, fun q => by rw [hg 0 6 (by omega)] at q; rw [hf 65 10 (by omega) (by omega)]; exact k2 q, by rw [hg 1 1 (by omega)]; exact k3, k4⟩
theorem q_cfr_tq {M M2 : q_M} (h : q_tq M M2) : q_cfr M M2 := fun a i ha => h a i (by omega) (by omega) (by omega) (by omega)
/-- the sheets have changed, or the tape -/
theorem q_XI_sh {Vt : Nat → Nat → (Nat → Int) → Int} {tm l sl : Nat} {M M2 : q_M} (C : q_XI Vt tm l sl M) (hf : ∀ a i, (a < 1 ∨ (4 < a ∧ a < 92) ∨ 124 ≤ a) → M2 a i = M a i) (h1 : 0 ≤ M2 1 1 ∧ M2 1 1 ≤ 160) (hs : q_shB M2) : q_XI Vt tm l sl M2 := by
  obtain ⟨T, hl, ⟨c1, c2, c3, c4, c5, c6, c7⟩, k1, k2, k3, k4⟩ := C
  have hT6 := T.2.1
  have hb := q_ta_b (t := l) (by omega)
  exact ⟨q_txs_c (fun a i ha => hf a i (by omega)) T, hl, ⟨c1, q_wl_eq (fun a i ha => hf a i (by omega)) c2, q_rg5_eq (fun a i _ h1 h2 => hf a i (by omega)) c3, q_z5_eq (fun a h1 h2 => hf a 5 (by omega)) c4, q_z5_eq (fun a h1 h2 => hf a 5 (by omega)) c5, by rw [hf 11 9 (by omega)]; exact c6, hs⟩, ⟨q_rgW_c (fun a i h1 h2 => hf a i (by omega)) k1.1, by rw [hf 65 9 (by omega)]; exact k1.2⟩, fun h => by rw [hf 0 6 (by omega)] at h; rw [hf 65 10 (by omega)]; exact k2 h, h1, k4⟩
/-- the kept world has changed -/
theorem q_XI_kp {Vt : Nat → Nat → (Nat → Int) → Int} {tm l sl : Nat} {M M2 : q_M} (C : q_XI Vt tm l sl M) (hf : ∀ a i, ((a < 65 ∧ (a = 0 → i ≠ 6)) ∨ (91 < a ∧ a < 100) ∨ 124 ≤ a) → M2 a i = M a i) (hr : q_rgW M2 65) (hy : M2 65 9 ≤ 999) (hk : ∃ kl, kl < tm ∧ M2 65 10 = q_ta kl) : q_XI Vt tm l sl M2 := by
  obtain ⟨T, hl, ⟨c1, c2, c3, c4, c5, c6, c7⟩, k1, k2, k3, k4⟩ := C
  have hT6 := T.2.1
  have hb := q_ta_b (t := l) (by omega)
  exact ⟨q_txs_c (fun a i ha => hf a i (by omega)) T, hl, ⟨c1, q_wl_eq (fun a i ha => hf a i (by omega)) c2, q_rg5_eq (fun a i _ h1 h2 => hf a i (by omega)) c3, q_z5_eq (fun a h1 h2 => hf a 5 (by omega)) c4, q_z5_eq (fun a h1 h2 => hf a 5 (by omega)) c5, by rw [hf 11 9 (by omega)]; exact c6, fun s hs => by rw [hf _ _ (by omega)]; exact c7 s hs⟩, ⟨hr, hy⟩, fun _ => hk, by rw [hf 1 1 (by omega)]; exact k3, k4⟩
