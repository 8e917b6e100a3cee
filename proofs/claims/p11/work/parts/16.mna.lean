/-! AN ARRAY OF SIX ROWS -/
theorem q_outer (c : ClassId) (N h0 : Nat) : ∀ i : Nat, Jvm.Free.Multi.outerC c N h0 i = arrV c N (fun j => va_rf (if j < i then some (h0 + 1 + j) else none))
  | 0 => by
    show ({ cls := c, slots := Array.replicate N .null, vm := .none } : Cell) = _
    rw [arrV_new]
    refine congrArg (arrV c N) (funext fun j => ?_)
    simp [va_rf]
  | i + 1 => by
    show (Jvm.Free.Multi.outerC c N h0 i).setSlot i (.ref (h0 + 1 + i)) = _
    rw [q_outer c N h0 i, arrV_store]
    refine congrArg (arrV c N) (funext fun j => ?_)
    by_cases e : j = i
    · subst e
      simp [updV, va_rf]
    · by_cases h : j < i
      · simp [updV, e, h, Nat.lt_succ_of_lt h]
      · simp [updV, e, h, show ¬ j < i + 1 by omega]
def q_adm (ad : Nat → Nat) (n z : Nat) : Nat → Nat := fun x => if x < n then ad x else z + (x - n)
def q_Mm (M : q_M) (n : Nat) : q_M := fun b i => if b = n then (if i < 6 then ((n + 1 + i : Nat) : Int) else -1) else if n < b ∧ b < n + 7 then 0 else M b i
section MNA
variable {p : Program} {l : Launch} {e : Env} {R : Room} {s : State} {m : MethodId} {args : Array Value} {below : List Frame} {meth : Method} {c : Code} {cc : ByteArray} {D : va_G} {C : q_CI} {b L : Nat} {xs : Nat → Int32} {adK adV : Nat → Nat} {sb md d ow nL : Nat} {rt : Option FieldType} {ini : Bool} {k0 k1 : Nat} {Qz : State → Prop} {nx : Nat} {ops : List Instr} {n0 : Nat}
  {ls st : List q_V} {g : q_G} {M : q_M} {ad : Nat → Nat} {H : Heap} {locs : List Loc} {lsr : Array Slot} {str : List Value} {cells slots pc len : Nat} {op : Instr} {c' : q_C}
theorem q_sd_mna {i dm : Nat} (hB : q_B p l e R s m args below meth c cc D C b L xs adK adV sb md d ow nL rt ini k0 k1 ls st g M ad H locs lsr str cells slots pc len (.multianewarray i dm)) (hrs : q_rs ow rt ini pc (.multianewarray i dm) len = some op)
    (hres : q_op md op nx ops ls st g M = some (.inl c')) (hK : q_Kt p l e R s m args below meth c D C b L xs adK adV sb md nL k0 k1 Qz nx ops g.1 ad pc len c') (hl9 : c'.2.2.2.2.1.1 ≤ 1000000 ∧ c'.2.2.2.2.1.1 ≤ k0 + R.cells ∧ c'.2.2.2.2.1.2 ≤ k1 + R.slots) : W p l e R s m args below meth c H locs cells slots Qz (F0 m pc lsr str) := by
  obtain ⟨⟨hl, ho, hi, hd2⟩, h2⟩ := q_if_inv hrs
  cases h2
  subst hl; subst hi; subst hd2
  have hE := hB.1.2.2.2.2.2.2.2.2.1
  have hdg := hB.2.2.2.2.2.2
  obtain ⟨y, st1, rfl, hres1⟩ := q_ii_inv hres
  obtain ⟨x, st2, rfl, hres2⟩ := q_ii_inv hres1
  obtain ⟨⟨hx6, hy6, hmd, k7, r1, r2, r3, r4, r5, r6, hlt⟩, hres3⟩ := q_if_inv hres2
  subst hmd
  obtain ⟨_, str1, e1, hv1, hs1⟩ := q_vrs_cons hB.2.2.2.1
  obtain ⟨_, str2, e2, hv2, hs2⟩ := q_vrs_cons hs1
  obtain ⟨Y, rfl, rfl⟩ := q_vr_i hv1
  obtain ⟨X, rfl, rfl⟩ := q_vr_i hv2
  subst e2; subst e1
  obtain ⟨nx', ops', ls', st', g', M'⟩ := c'
  obtain ⟨rfl, rfl, rfl, rfl, rfl, rfl⟩ := q_go_inj hres3
  have hl1 : g.1 + 7 ≤ 1000000 := hl9.1
  have hl2 : g.1 + 7 ≤ k0 + R.cells := hl9.2.1
  have hl3 : g.2 + 42 ≤ k1 + R.slots := hl9.2.2
  have hcc := hB.2.2.2.2.1
  have hss := hB.2.2.2.2.2.1
  have hNX : X.toNatClampNeg = 6 := by show X.toInt.toNat = 6; rw [hx6]; rfl
  have hNY : Y.toNatClampNeg = 6 := by show Y.toInt.toNat = 6; rw [hy6]; rfl
  have nn : ∀ z : Int32, z.toInt = 6 → ¬ z < 0 := fun z h q => by
    have := Int32.lt_iff_toInt_lt.mp q
    rw [show (0 : Int32).toInt = 0 from by decide] at this
    omega
  have hrk : ∀ j : Nat, j < 6 → q_kd (g.1 + 1 + j) = 26 := fun j hj => by
    rcases (show j = 0 ∨ j = 1 ∨ j = 2 ∨ j = 3 ∨ j = 4 ∨ j = 5 by omega) with rfl | rfl | rfl | rfl | rfl | rfl
    · exact r1
    · exact r2
    · exact r3
    · exact r4
    · exact r5
    · exact r6
  have hok0 := hB.2.1.2.2.1
  have hP0 := hB.2.1.1
  have hD0 := hB.2.1.2.1
  have hS0 := hB.2.1.2.2.2.2.2
  have hown : s.vm.findClass RX0 = some m.cls := by have := hB.1.2.2.2.2.2.1; rw [ho] at this; exact this
  have hcl : (Cond.classLink RX0 18 ("[" ++ (FieldType.array .int).toString)).before args s = true := hB.1.2.2.2.2.2.2.1 _ q_w_cM
  have hov : (Cond.arrayOver (.array .int)).before args s = true := over_moved (Vm.Alike.refl s.vm) hE.2.2.2.2.2.2.2.2.2.2.2.2
  intro T hT Xs
  obtain ⟨vm₁, cA, comp, -, fA, fC, -, -, X', step⟩ := Xs.multianewarray2F hB.1.1 hown hcl hov (hB.1.2.2.2.2.2.2.1 _ q_w_ac) (g := F0 m pc lsr (.int Y :: .int X :: str2)) rfl (by rw [hB.1.2.1]; exact hdg) rfl (nn X hx6) (nn Y hy6) (by rw [hNX]; decide) (by rw [hNY]; decide) (by rw [hNY]; decide) rfl rfl (by rw [hNX]; omega) (by rw [hNX, hNY]; omega)
  rw [hNX, hNY] at X' step
  have ecA : cA = C.2.1 := Option.some.inj (fA.symm.trans (hE.1.2 1 (C.2.1, .array .int) rfl).2)
  have ecC : comp = C.1 := Option.some.inj (fC.symm.trans (hE.1.2 0 (C.1, .int) rfl).2)
  subst ecA; subst ecC
  generalize hF : Jvm.Free.Multi.fill (T.setVm vm₁) C.2.1 C.1 6 6 (defaultValue .int) 6 = F at X' step
  have hTh : (T.setVm vm₁).heap = H := hT
  obtain ⟨f1, f2, -, -⟩ := Jvm.Free.Multi.fill_facts (T.setVm vm₁) C.2.1 C.1 6 6 (defaultValue .int) 6
  rw [hF, hTh] at f1 f2
  have hold : ∀ x : Nat, x < H.size → F.heap[x]? = H[x]? := fun x hx => by
    have := Jvm.Free.Multi.fill_old (T.setVm vm₁) C.2.1 C.1 6 6 (defaultValue .int) (a := x) (by rw [hTh]; exact hx) 6
    rw [hF, hTh] at this
    exact this
  have hrow : ∀ j : Nat, j < 6 → F.heap[H.size + 1 + j]? = some (vp_cell C.1 (6, .inl (fun _ => 0))) := fun j hj => by
    have := Jvm.Free.Multi.fill_inner (T.setVm vm₁) C.2.1 C.1 6 6 (defaultValue .int) 6 j hj
    rw [hF, hTh] at this
    rw [this, vp_cell_i, ← arrV_new]
    rfl
  rw [q_outer] at f2
  have hadl : ∀ x, x < g.1 → q_adm ad g.1 H.size x = ad x := fun x h => if_pos h
  have hadn : ∀ j, q_adm ad g.1 H.size (g.1 + j) = H.size + j := fun j => by
    show (if g.1 + j < g.1 then ad (g.1 + j) else H.size + (g.1 + j - g.1)) = _
    rw [if_neg (by omega)]
    omega
  have hMo : ∀ a i, a < g.1 → q_Mm M g.1 a i = M a i := fun a i h => by
    show (if a = g.1 then _ else if g.1 < a ∧ a < g.1 + 7 then 0 else M a i) = _
    rw [if_neg (by omega), if_neg (by omega)]
  have hM0 : ∀ i, i < 6 → q_Mm M g.1 g.1 i = ((g.1 + 1 + i : Nat) : Int) := fun i h => by
    show (if g.1 = g.1 then (if i < 6 then ((g.1 + 1 + i : Nat) : Int) else -1) else _) = _
    rw [if_pos rfl, if_pos h]
  have hM1 : ∀ a i, g.1 < a → a < g.1 + 7 → q_Mm M g.1 a i = 0 := fun a i h1 h2 => by
    show (if a = g.1 then _ else if g.1 < a ∧ a < g.1 + 7 then 0 else M a i) = _
    rw [if_neg (by omega), if_pos ⟨h1, h2⟩]
  have hok : q_ok 0 (g.1 + 7) (q_Mm M g.1) := by
    refine ⟨fun a i => ?_, fun a i ha hi ht => ?_, fun a i ha hi ht => absurd ht (q_ty_no3 (Or.inl rfl) i), fun a ha hk => ?_⟩
    · show -2147483648 ≤ (if a = g.1 then (if i < 6 then ((g.1 + 1 + i : Nat) : Int) else -1) else if g.1 < a ∧ a < g.1 + 7 then 0 else M a i) ∧ (if a = g.1 then (if i < 6 then ((g.1 + 1 + i : Nat) : Int) else -1) else if g.1 < a ∧ a < g.1 + 7 then 0 else M a i) < (2147483648 : Int)
      split
      · split <;> omega
      · split
        · omega
        · exact hok0.1 a i
    · rcases Nat.lt_trichotomy a g.1 with h | h | h
      · rw [hMo a i h]
        rcases hok0.2.1 a i h hi ht with q | ⟨q1, q2⟩
        · exact Or.inl q
        · exact Or.inr ⟨by omega, q2⟩
      · subst h
        rw [k7] at hi ht ⊢
        have hi6 : i < 6 := hi
        rw [hM0 i hi6]
        refine Or.inr ⟨by rw [Int.toNat_natCast]; omega, ?_⟩
        rw [Int.toNat_natCast]
        exact hrk i hi6
      · exfalso
        have e9 := hrk (a - g.1 - 1) (by omega)
        rw [show g.1 + 1 + (a - g.1 - 1) = a by omega] at e9
        rw [e9] at hi
        exact absurd hi (Nat.not_lt_zero i)
    · rcases Nat.lt_trichotomy a g.1 with h | h | h
      · rw [hMo a 1000 h]
        exact hok0.2.2.2 a h hk
      · subst h
        rw [k7] at hk
        cases hk
      · exfalso
        have e9 := hrk (a - g.1 - 1) (by omega)
        rw [show g.1 + 1 + (a - g.1 - 1) = a by omega] at e9
        rw [e9] at hk
        cases hk
  have hP : va_P D vwCl (q_W 0 (q_adm ad g.1 H.size) C (g.1 + 7) (q_Mm M g.1)) F.heap := fun k q hq => by
    by_cases hk : k < g.1 + 7
    · rw [q_W_get hk] at hq
      cases hq
      rcases Nat.lt_trichotomy k g.1 with h | h | h
      · rw [hadl k h, q_en_congr (M := M) (fun i => hMo k i h), q_en_ad hok0 hadl h]
        have h9 := hP0 k _ (q_W_get h)
        exact h9.kept (hold _ h9.lt)
      · subst h
        have ha0 := hadn 0
        rw [Nat.add_zero, Nat.add_zero] at ha0
        rw [ha0, q_en_q (Or.inl k7), k7]
        show F.heap[H.size]? = some (vp_cell C.2.1 (6, .inr (.inr (.inr (.inr (q_rfs 0 (q_adm ad g.1 H.size) 7 g.1 (q_Mm M g.1)))))))
        rw [f2, vp_cell_q]
        congr 2
        funext j
        congr 1
        unfold q_rfs
        by_cases hj : j < 6
        · rw [if_pos hj, if_pos (show j < q_sz 7 from hj), hM0 j hj]
          show _ = (if (2 : Nat) = 2 then (if ((g.1 + 1 + j : Nat) : Int) < 0 then none else some (q_adm ad g.1 H.size ((g.1 + 1 + j : Nat) : Int).toNat)) else _)
          rw [if_pos rfl, if_neg (by omega), Int.toNat_natCast, show g.1 + 1 + j = g.1 + (1 + j) by omega, hadn, Nat.add_assoc]
        · rw [if_neg hj, if_neg (show ¬ j < q_sz 7 from hj)]
      · have e9 := hrk (k - g.1 - 1) (by omega)
        rw [show g.1 + 1 + (k - g.1 - 1) = k by omega] at e9
        have h9 := hrow (k - g.1 - 1) (by omega)
        have ha := hadn (k - g.1)
        rw [show g.1 + (k - g.1) = k by omega] at ha
        rw [ha, q_en_arr (by rw [e9]; rfl), e9]
        show F.heap[H.size + (k - g.1)]? = some (vp_cell C.1 ((q_len 26 k (q_Mm M g.1)).toNat, .inl (q_af (q_len 26 k (q_Mm M g.1)).toNat (q_Mm M g.1 k))))
        rw [show H.size + (k - g.1) = H.size + 1 + (k - g.1 - 1) by omega, h9]
        have e6 : (q_len 26 k (q_Mm M g.1)).toNat = 6 := rfl
        rw [e6]
        congr 4
        funext i
        unfold q_af
        split
        · rw [hM1 k i h hk]; rfl
        · rfl
    · rw [q_W_none hk] at hq
      cases hq
  have hDn : va_D (q_A sb) (q_W 0 (q_adm ad g.1 H.size) C (g.1 + 7) (q_Mm M g.1)) := by
    have hsb : sb ≤ H.size := Nat.le_trans hE.2.2.2.1.2.2 hS0.1
    have hlt9 : ∀ i, i < g.1 → ad i < H.size := fun i h => (hP0 i _ (q_W_get h)).lt
    refine ⟨fun i j x y hi hj hxy => ?_, fun k q hq => ?_⟩
    · have hi7 : i < g.1 + 7 := by
        by_cases h : i < g.1 + 7
        · exact h
        · rw [q_W_none h] at hi; cases hi
      have hj7 : j < g.1 + 7 := by
        by_cases h : j < g.1 + 7
        · exact h
        · rw [q_W_none h] at hj; cases hj
      rw [q_W_get hi7] at hi
      rw [q_W_get hj7] at hj
      cases hi
      cases hj
      have hxy' : q_adm ad g.1 H.size i = q_adm ad g.1 H.size j := hxy
      by_cases h1 : i < g.1 <;> by_cases h2 : j < g.1
      · rw [hadl i h1, hadl j h2] at hxy'
        exact hD0.1 i j _ _ (q_W_get h1) (q_W_get h2) hxy'
      · have e9 := hadn (j - g.1)
        rw [show g.1 + (j - g.1) = j by omega] at e9
        rw [hadl i h1, e9] at hxy'
        have := hlt9 i h1
        omega
      · have e9 := hadn (i - g.1)
        rw [show g.1 + (i - g.1) = i by omega] at e9
        rw [hadl j h2, e9] at hxy'
        have := hlt9 j h2
        omega
      · have e9 := hadn (j - g.1)
        rw [show g.1 + (j - g.1) = j by omega] at e9
        have e8 := hadn (i - g.1)
        rw [show g.1 + (i - g.1) = i by omega] at e8
        rw [e8, e9] at hxy'
        omega
    · by_cases h : k < g.1 + 7
      · rw [q_W_get h] at hq
        cases hq
        show sb ≤ q_adm ad g.1 H.size k
        by_cases h1 : k < g.1
        · rw [hadl k h1]
          exact hD0.2 k _ (q_W_get h1)
        · have e8 := hadn (k - g.1)
          rw [show g.1 + (k - g.1) = k by omega] at e8
          rw [e8]
          omega
      · rw [q_W_none h] at hq
        cases hq
  have hscr : q_scr L xs (q_Mm M g.1) := by
    have h0 := hB.2.1.2.2.2.1
    have hz : ∀ a i, g.1 + 7 ≤ a → q_Mm M g.1 a i = M a i := fun a i h => by
      show (if a = g.1 then _ else if g.1 < a ∧ a < g.1 + 7 then 0 else M a i) = _
      rw [if_neg (by omega), if_neg (by omega)]
    exact ⟨by rw [hz _ _ (by omega)]; exact h0.1, fun j hj => by rw [hz _ _ hl1]; exact h0.2 j hj⟩
  obtain ⟨t, a1, b1⟩ := hK (q_adm ad g.1 H.size) F.heap locs lsr (.ref H.size :: str2) (cells + 1 + 6) (slots + 6 + 6 * 6) (pc + 4) ⟨hP, hDn, hok, hscr, hl1, ⟨by rw [f1]; have := hS0.1; omega, fun x h1 h2 => (hold x (Nat.lt_of_lt_of_le h1 hS0.1)).trans (hS0.2.1 x h1 h2), hS0.2.2⟩⟩ (q_lr_ext hB.2.2.1 (by show g.1 ≤ g.1 + 7; omega) hadl)
    ⟨⟨by show g.1 < g.1 + 7; omega, k7, by have := hadn 0; rw [Nat.add_zero, Nat.add_zero] at this; rw [this]⟩, q_vrs_ext (by show g.1 ≤ g.1 + 7; omega) hadl hs2⟩ (by show k0 + (cells + 1 + 6) = g.1 + 7; omega) (by show k1 + (slots + 6 + 6 * 6) = g.2 + 42; omega) hadl (Or.inl ⟨rfl, rfl, rfl⟩) F rfl X'
  refine ⟨t, step t ?_, b1⟩
  have e : T.heap.size = H.size := by rw [hT]
  rw [e]
  exact a1
end MNA
