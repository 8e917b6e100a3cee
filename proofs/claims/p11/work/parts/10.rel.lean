/-! THE PURE WORLD AND THE HEAP -/
abbrev q_CI : Type := ClassId × ClassId × ClassId × ClassId
def q_rf (ad : Nat → Nat) (t : Nat × Nat × Nat) (a : Nat) (x : Int) : Option Nat := if t.1 = 2 then (if x < 0 then none else some (ad x.toNat)) else some (ad (a + t.2.2))
def q_sv (ad : Nat → Nat) (t : Nat × Nat × Nat) (a : Nat) (x : Int) : Value := if t.1 = 2 ∨ t.1 = 3 then va_rf (q_rf ad t a x) else .int (Int32.ofInt x)
def q_sz (k : Nat) : Nat := if k < 7 then q_nf k else if k = 7 then 6 else if k = 8 then 6 else if k = 9 then 4 else 0
def q_rfs (md : Nat) (ad : Nat → Nat) (k a : Nat) (M : q_M) : Nat → Option Nat := fun i => if i < q_sz k then q_rf ad (q_ty md k i) a (M a i) else none
def q_af (n : Nat) (f : Nat → Int) : Nat → Int32 := fun i => if i < n then Int32.ofInt (f i) else 0
def q_en (md : Nat) (ad : Nat → Nat) (C : q_CI) (a : Nat) (M : q_M) : va_E :=
  if q_kd a < 7 then .inr (q_kd a, (List.range (q_nf (q_kd a))).map fun i => q_sv ad (q_ty md (q_kd a) i) a (M a i))
  else if q_kd a = 7 then .inl (C.2.1, 6, .inr (.inr (.inr (.inr (q_rfs md ad 7 a M)))))
  else if q_kd a = 8 then .inl (C.2.2.1, 6, .inr (.inr (.inr (.inr (q_rfs md ad 8 a M)))))
  else if q_kd a = 9 then .inl (C.2.2.2, 4, .inr (.inr (.inr (.inr (q_rfs md ad 9 a M)))))
  else .inl (C.1, (q_len (q_kd a) a M).toNat, .inl (q_af (q_len (q_kd a) a M).toNat (M a)))
def q_W (md : Nat) (ad : Nat → Nat) (C : q_CI) (n : Nat) (M : q_M) : va_W := (List.range n).map fun a => (ad a, q_en md ad C a M)
theorem q_W_get {md : Nat} {ad : Nat → Nat} {C : q_CI} {n a : Nat} {M : q_M} (h : a < n) : (q_W md ad C n M)[a]? = some (ad a, q_en md ad C a M) := by
  simp [q_W, h]
theorem q_W_none {md : Nat} {ad : Nat → Nat} {C : q_CI} {n a : Nat} {M : q_M} (h : ¬ a < n) : (q_W md ad C n M)[a]? = none := by
  simp [q_W]
  omega
theorem q_W_len {md : Nat} {ad : Nat → Nat} {C : q_CI} {n : Nat} {M : q_M} : (q_W md ad C n M).length = n := by simp [q_W]
theorem q_en_congr {md : Nat} {ad : Nat → Nat} {C : q_CI} {a : Nat} {M M' : q_M} (h : ∀ i, M' a i = M a i) : q_en md ad C a M' = q_en md ad C a M := by
  have h1 : M' a = M a := funext h
  unfold q_en q_rfs q_len
  rw [h1]
theorem q_W_set {md : Nat} {ad : Nat → Nat} {C : q_CI} {n a : Nat} {M M' : q_M} {e : va_E} (ha : a < n) (h : ∀ b i, b ≠ a → M' b i = M b i) (he : e = q_en md ad C a M') : (q_W md ad C n M).set a (ad a, e) = q_W md ad C n M' := by
  subst he
  apply List.ext_getElem?
  intro k
  by_cases hk : k = a
  · subst hk
    rw [List.getElem?_set_self (by rw [q_W_len]; exact ha), q_W_get ha]
  · rw [List.getElem?_set_ne (Ne.symm hk)]
    by_cases hn : k < n
    · rw [q_W_get hn, q_W_get hn, q_en_congr (fun i => h k i hk)]
    · rw [q_W_none hn, q_W_none hn]
def q_ok (md n : Nat) (M : q_M) : Prop :=
  (∀ a i, -2147483648 ≤ M a i ∧ M a i < 2147483648) ∧
  (∀ a i, a < n → i < q_sz (q_kd a) → (q_ty md (q_kd a) i).1 = 2 → M a i < 0 ∨ ((M a i).toNat < n ∧ q_kd (M a i).toNat = (q_ty md (q_kd a) i).2.1)) ∧
  (∀ a i, a < n → i < q_sz (q_kd a) → (q_ty md (q_kd a) i).1 = 3 → a + (q_ty md (q_kd a) i).2.2 < n ∧ q_kd (a + (q_ty md (q_kd a) i).2.2) = (q_ty md (q_kd a) i).2.1) ∧
  (∀ a, a < n → q_kd a = 10 → 0 ≤ M a 1000 ∧ M a 1000 ≤ 1000)
theorem q_rf_ad {md n : Nat} {M : q_M} {ad ad' : Nat → Nat} (h : q_ok md n M) (he : ∀ x, x < n → ad' x = ad x) {a i : Nat} (ha : a < n) (hi : i < q_sz (q_kd a)) (ht : (q_ty md (q_kd a) i).1 = 2 ∨ (q_ty md (q_kd a) i).1 = 3) :
    q_rf ad' (q_ty md (q_kd a) i) a (M a i) = q_rf ad (q_ty md (q_kd a) i) a (M a i) := by
  unfold q_rf
  by_cases h2 : (q_ty md (q_kd a) i).1 = 2
  · rw [if_pos h2, if_pos h2]
    by_cases hx : M a i < 0
    · rw [if_pos hx, if_pos hx]
    · rw [if_neg hx, if_neg hx]
      rcases h.2.1 a i ha hi h2 with q | q
      · exact absurd q hx
      · rw [he _ q.1]
  · rw [if_neg h2, if_neg h2]
    have h3 := ht.resolve_left h2
    rw [he _ (h.2.2.1 a i ha hi h3).1]
theorem q_sz_lt {k : Nat} (h : k < 7) : q_sz k = q_nf k := by rw [q_sz, if_pos h]
theorem q_ty_arr : ∀ md k : Nat, k = 7 ∨ k = 8 ∨ k = 9 → ∀ i, (q_ty md k i).1 = 2 ∨ (q_ty md k i).1 = 3 := by
  intro md k hk i
  unfold q_ty
  rcases hk with rfl | rfl | rfl <;> split <;> simp [q_ty0, q_ty1]
theorem q_rfs_ad {md n k : Nat} {M : q_M} {ad ad' : Nat → Nat} (h : q_ok md n M) (he : ∀ x, x < n → ad' x = ad x) {a : Nat} (ha : a < n) (hk : q_kd a = k) (h7 : k = 7 ∨ k = 8 ∨ k = 9) : q_rfs md ad' k a M = q_rfs md ad k a M := by
  subst hk
  funext i
  unfold q_rfs
  by_cases hi : i < q_sz (q_kd a)
  · rw [if_pos hi, if_pos hi]
    exact q_rf_ad h he ha hi (q_ty_arr md _ h7 i)
  · rw [if_neg hi, if_neg hi]
theorem q_en_ad {md n : Nat} {M : q_M} {ad ad' : Nat → Nat} {C : q_CI} (h : q_ok md n M) (he : ∀ x, x < n → ad' x = ad x) {a : Nat} (ha : a < n) : q_en md ad' C a M = q_en md ad C a M := by
  unfold q_en
  by_cases h7 : q_kd a < 7
  · rw [if_pos h7, if_pos h7]
    congr 2
    apply List.map_congr_left
    intro i hi
    have hi2 : i < q_sz (q_kd a) := by rw [q_sz_lt h7]; exact List.mem_range.mp hi
    unfold q_sv
    by_cases ht : (q_ty md (q_kd a) i).1 = 2 ∨ (q_ty md (q_kd a) i).1 = 3
    · rw [if_pos ht, if_pos ht, q_rf_ad h he ha hi2 ht]
    · rw [if_neg ht, if_neg ht]
  · rw [if_neg h7, if_neg h7]
    by_cases e7 : q_kd a = 7
    · rw [if_pos e7, if_pos e7, q_rfs_ad h he ha e7 (Or.inl rfl)]
    · rw [if_neg e7, if_neg e7]
      by_cases e8 : q_kd a = 8
      · rw [if_pos e8, if_pos e8, q_rfs_ad h he ha e8 (Or.inr (Or.inl rfl))]
      · rw [if_neg e8, if_neg e8]
        by_cases e9 : q_kd a = 9
        · rw [if_pos e9, if_pos e9, q_rfs_ad h he ha e9 (Or.inr (Or.inr rfl))]
        · rw [if_neg e9, if_neg e9]
theorem q_W_ad {md n : Nat} {M : q_M} {ad ad' : Nat → Nat} {C : q_CI} (h : q_ok md n M) (he : ∀ x, x < n → ad' x = ad x) : q_W md ad' C n M = q_W md ad C n M := by
  unfold q_W
  apply List.map_congr_left
  intro a ha
  have ha2 := List.mem_range.mp ha
  rw [he a ha2, q_en_ad h he ha2]
theorem q_W_succ {md n : Nat} {M M' : q_M} {ad ad' : Nat → Nat} {C : q_CI} (h : q_ok md n M) (he : ∀ x, x < n → ad' x = ad x) (hM : ∀ b i, b ≠ n → M' b i = M b i) : q_W md ad' C (n + 1) M' = q_W md ad C n M ++ [(ad' n, q_en md ad' C n M')] := by
  rw [← q_W_ad h he]
  unfold q_W
  rw [List.range_succ, List.map_append]
  congr 1
  apply List.map_congr_left
  intro a ha
  have ha2 := List.mem_range.mp ha
  rw [q_en_congr (fun i => hM a i (by omega))]
/-- the script, at its own address -/
def q_scr (L : Nat) (xs : Nat → Int32) (M : q_M) : Prop := M 1000001 0 = (L : Int) ∧ ∀ i, i < L → M 1000000 i = (xs i).toInt
/-- a value, as the machine has it -/
def q_vr (ad adK adV : Nat → Nat) (b n : Nat) (v : q_V) (r : Value) : Prop := match v with
  | .inl x => ∃ X : Int32, r = .int X ∧ X.toInt = x
  | .inr (.inl x) => ∃ X : Int64, r = .long X ∧ X.toInt = x
  | .inr (.inr (.inl (k, a))) => a < n ∧ q_kd a = k ∧ r = .ref (ad a)
  | .inr (.inr (.inr t)) => (t = 1 ∧ r = .null) ∨ (t = 2 ∧ r = .ref b) ∨ (t = 3 ∧ (r = .null ∨ ∃ q, r = .ref q)) ∨ (16 ≤ t ∧ t < 29 ∧ r = .ref (adK (t - 16))) ∨ (64 ≤ t ∧ t < 77 ∧ r = .ref (adV (t - 64)))
theorem q_vr_ext {ad ad' adK adV : Nat → Nat} {b n n' : Nat} {v : q_V} {r : Value} (h : q_vr ad adK adV b n v r) (hn : n ≤ n') (he : ∀ x, x < n → ad' x = ad x) : q_vr ad' adK adV b n' v r := by
  match v, h with
  | .inl x, h => exact h
  | .inr (.inl x), h => exact h
  | .inr (.inr (.inl (k, a))), h => exact ⟨Nat.lt_of_lt_of_le h.1 hn, h.2.1, by rw [he a h.1]; exact h.2.2⟩
  | .inr (.inr (.inr t)), h => exact h
def q_vrs (ad adK adV : Nat → Nat) (b n : Nat) (st : List q_V) (rs : List Value) : Prop := match st, rs with
  | [], [] => True
  | v :: st, r :: rs => q_vr ad adK adV b n v r ∧ q_vrs ad adK adV b n st rs
  | _, _ => False
theorem q_vrs_ext {ad ad' adK adV : Nat → Nat} {b n n' : Nat} (hn : n ≤ n') (he : ∀ x, x < n → ad' x = ad x) : ∀ {st : List q_V} {rs : List Value}, q_vrs ad adK adV b n st rs → q_vrs ad' adK adV b n' st rs
  | [], [], _ => trivial
  | v :: st, r :: rs, h => ⟨q_vr_ext h.1 hn he, q_vrs_ext hn he h.2⟩
  | [], _ :: _, h => h.elim
  | _ :: _, [], h => h.elim
theorem q_vrs_cons {ad adK adV : Nat → Nat} {b n : Nat} {v : q_V} {st : List q_V} {rs : List Value} (h : q_vrs ad adK adV b n (v :: st) rs) : ∃ r rs', rs = r :: rs' ∧ q_vr ad adK adV b n v r ∧ q_vrs ad adK adV b n st rs' := by
  cases rs with
  | nil => exact h.elim
  | cons r rs => exact ⟨r, rs, rfl, h⟩
theorem q_vr_cat {ad adK adV : Nat → Nat} {b n : Nat} {v : q_V} {r : Value} (h : q_vr ad adK adV b n v r) : (q_c1 v = true → r.category = 1) ∧ (q_isL v = true → r.category = 2) := by
  match v, h with
  | .inl x, ⟨X, h, _⟩ => subst h; exact ⟨fun _ => rfl, fun h => (by cases h)⟩
  | .inr (.inl x), ⟨X, h, _⟩ => subst h; exact ⟨fun h => (by cases h), fun _ => rfl⟩
  | .inr (.inr (.inl (k, a))), ⟨_, _, h⟩ => subst h; exact ⟨fun _ => rfl, fun h => (by cases h)⟩
  | .inr (.inr (.inr t)), h =>
    refine ⟨fun _ => ?_, fun h => (by cases h)⟩
    rcases h with ⟨-, rfl⟩ | ⟨-, rfl⟩ | ⟨-, rfl | ⟨q, rfl⟩⟩ | ⟨-, -, rfl⟩ | ⟨-, -, rfl⟩ <;> rfl
/-- the locals -/
def q_lr (ad adK adV : Nat → Nat) (b n nL : Nat) (ls : List q_V) (lsr : Array Slot) : Prop := ls.length = nL ∧ ∃ lv, lv_has lsr nL lv ∧ ∀ i v, ls[i]? = some v → q_set v = true → ∃ r, (i, r) ∈ lv ∧ q_vr ad adK adV b n v r
theorem q_lr_ext {ad ad' adK adV : Nat → Nat} {b n n' nL : Nat} {ls : List q_V} {lsr : Array Slot} (h : q_lr ad adK adV b n nL ls lsr) (hn : n ≤ n') (he : ∀ x, x < n → ad' x = ad x) : q_lr ad' adK adV b n' nL ls lsr := by
  obtain ⟨h1, lv, h2, h3⟩ := h
  exact ⟨h1, lv, h2, fun i v hi hs => by obtain ⟨r, q1, q2⟩ := h3 i v hi hs; exact ⟨r, q1, q_vr_ext q2 hn he⟩⟩
theorem q_lr_get {ad adK adV : Nat → Nat} {b n nL k : Nat} {ls : List q_V} {lsr : Array Slot} (h : q_lr ad adK adV b n nL ls lsr) (hs : q_set (ls.getD k (qS 0)) = true) : ∃ r, lsr[k]? = some (.val r) ∧ q_vr ad adK adV b n (ls.getD k (qS 0)) r := by
  obtain ⟨h1, lv, h2, h3⟩ := h
  cases hk : ls[k]? with
  | none => rw [List.getD_eq_getElem?_getD, hk] at hs; cases hs
  | some v =>
    have e : ls.getD k (qS 0) = v := by rw [List.getD_eq_getElem?_getD, hk]; rfl
    rw [e] at hs ⊢
    obtain ⟨r, q1, q2⟩ := h3 k v hk hs
    exact ⟨r, h2.2.2 (k, r) q1, q2⟩
theorem q_lr_set1 {ad adK adV : Nat → Nat} {b n nL k : Nat} {ls ls' : List q_V} {lsr' : Array Slot} {v : q_V} {r : Value} (hst : q_st1 ls k v = some ls') (hv : q_vr ad adK adV b n v r) {lv : List (Nat × Value)} (hlen : ls.length = nL)
    (h3 : ∀ i w, ls[i]? = some w → q_set w = true → ∃ r, (i, r) ∈ lv ∧ q_vr ad adK adV b n w r) (hl' : lv_has lsr' nL ((k, r) :: lv.filter (fun q => !(q.1 == k) && !(q.1 + 1 == k && q.2.category == 2)))) : q_lr ad adK adV b n nL ls' lsr' := by
  unfold q_st1 at hst
  split at hst
  · next hc =>
    cases hst
    simp only [Bool.and_eq_true, decide_eq_true_eq, Bool.not_eq_true'] at hc
    obtain ⟨⟨hk, hp⟩, h1⟩ := hc
    refine ⟨by simp [hlen], _, hl', fun i w hi hs => ?_⟩
    by_cases e : i = k
    · subst e
      rw [List.getElem?_set_self hk] at hi
      cases hi
      exact ⟨r, List.mem_cons_self, hv⟩
    · rw [List.getElem?_set_ne (Ne.symm e)] at hi
      obtain ⟨r2, q1, q2⟩ := h3 i w hi hs
      refine ⟨r2, List.mem_cons_of_mem _ (List.mem_filter.mpr ⟨q1, ?_⟩), q2⟩
      simp only [Bool.and_eq_true, Bool.not_eq_true', beq_eq_false_iff_ne, ne_eq, Bool.and_eq_false_iff]
      refine ⟨e, ?_⟩
      by_cases e2 : i + 1 = k
      · right
        have e3 : k - 1 = i := by omega
        rw [e3, List.getD_eq_getElem?_getD, hi] at hp
        have hp' : q_isL w = false := hp
        intro hcat
        match w, q2 with
        | .inl x, ⟨X, h, _⟩ => subst h; cases hcat
        | .inr (.inl x), _ => cases hp'
        | .inr (.inr (.inl (kk, a))), ⟨_, _, h⟩ => subst h; cases hcat
        | .inr (.inr (.inr t)), h => rcases h with ⟨-, rfl⟩ | ⟨-, rfl⟩ | ⟨-, rfl | ⟨q, rfl⟩⟩ | ⟨-, -, rfl⟩ | ⟨-, -, rfl⟩ <;> cases hcat
      · exact Or.inl e2
  · cases hst
theorem q_lr_set2 {ad adK adV : Nat → Nat} {b n nL k : Nat} {ls ls' : List q_V} {lsr' : Array Slot} {v : q_V} {r : Value} (hst : q_st2 ls k v = some ls') (hv : q_vr ad adK adV b n v r) {lv : List (Nat × Value)} (hlen : ls.length = nL)
    (h3 : ∀ i w, ls[i]? = some w → q_set w = true → ∃ r, (i, r) ∈ lv ∧ q_vr ad adK adV b n w r) (hl' : lv_has lsr' nL ((k, r) :: lv.filter (fun q => !(q.1 == k) && (!(q.1 == k + 1) && !(q.1 + 1 == k && q.2.category == 2))))) : q_lr ad adK adV b n nL ls' lsr' := by
  unfold q_st2 at hst
  split at hst
  · next hc =>
    cases hst
    simp only [Bool.and_eq_true, decide_eq_true_eq, Bool.not_eq_true'] at hc
    obtain ⟨⟨hk, hp⟩, h1⟩ := hc
    refine ⟨by simp [hlen], _, hl', fun i w hi hs => ?_⟩
    by_cases e1 : i = k + 1
    · subst e1
      rw [List.getElem?_set_self (by simpa using hk)] at hi
      cases hi
      cases hs
    · rw [List.getElem?_set_ne (Ne.symm e1)] at hi
      by_cases e : i = k
      · subst e
        rw [List.getElem?_set_self (by omega)] at hi
        cases hi
        exact ⟨r, List.mem_cons_self, hv⟩
      · rw [List.getElem?_set_ne (Ne.symm e)] at hi
        obtain ⟨r2, q1, q2⟩ := h3 i w hi hs
        refine ⟨r2, List.mem_cons_of_mem _ (List.mem_filter.mpr ⟨q1, ?_⟩), q2⟩
        simp only [Bool.and_eq_true, Bool.not_eq_true', beq_eq_false_iff_ne, ne_eq, Bool.and_eq_false_iff]
        refine ⟨e, e1, ?_⟩
        by_cases e2 : i + 1 = k
        · right
          have e3 : k - 1 = i := by omega
          rw [e3, List.getD_eq_getElem?_getD, hi] at hp
          have hp' : q_isL w = false := hp
          intro hcat
          match w, q2 with
          | .inl x, ⟨X, h, _⟩ => subst h; cases hcat
          | .inr (.inl x), _ => cases hp'
          | .inr (.inr (.inl (kk, a))), ⟨_, _, h⟩ => subst h; cases hcat
          | .inr (.inr (.inr t)), h => rcases h with ⟨-, rfl⟩ | ⟨-, rfl⟩ | ⟨-, rfl | ⟨q, rfl⟩⟩ | ⟨-, -, rfl⟩ | ⟨-, -, rfl⟩ <;> cases hcat
        · exact Or.inl e2
  · cases hst
