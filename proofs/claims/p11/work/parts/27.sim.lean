/-! OVER WRITTEN ROWS IT RUNS AS OVER A MEMORY -/
theorem q_lk_cpy {t : q_Tm} {B : q_M} {s sp d dp n : Nat} {l : List Int} {df e : Int} (hs : s < t.length) (hd : t[d]? = some (l, df, e)) (h1 : dp + n ≤ l.length) (h2 : dp + n ≤ 1000) :
    q_cpy (q_lk t B) s sp d dp n = q_lk (t.set d ((List.range l.length).map (fun i => if dp ≤ i ∧ i < dp + n then q_rd t s (sp + (i - dp)) else l.getD i df), df, e)) B := by
  have hlt : d < t.length := (List.getElem?_eq_some_iff.mp hd).1
  funext b i
  unfold q_cpy
  by_cases hb : b = d
  · subst hb
    have e1 : q_lk (t.set b ((List.range l.length).map (fun i => if dp ≤ i ∧ i < dp + n then q_rd t s (sp + (i - dp)) else l.getD i df), df, e)) B b i = q_rg ((List.range l.length).map (fun i => if dp ≤ i ∧ i < dp + n then q_rd t s (sp + (i - dp)) else l.getD i df), df, e) i := by
      unfold q_lk
      rw [List.getElem?_set_self hlt]
    rw [e1]
    have e2 : q_lk t B b i = q_rg (l, df, e) i := by
      unfold q_lk
      rw [hd]
    unfold q_rg at e2 ⊢
    by_cases hi : i = 1000
    · subst hi
      rw [if_neg (by omega), e2, if_pos rfl, if_pos rfl]
    · rw [if_neg hi] at e2 ⊢
      by_cases hl : i < l.length
      · have e3 : ((List.range l.length).map (fun i => if dp ≤ i ∧ i < dp + n then q_rd t s (sp + (i - dp)) else l.getD i df)).getD i df = if dp ≤ i ∧ i < dp + n then q_rd t s (sp + (i - dp)) else l.getD i df := by
          rw [List.getD_eq_getElem?_getD, List.getElem?_map, List.getElem?_range hl]
          rfl
        show _ = ((List.range l.length).map (fun i => if dp ≤ i ∧ i < dp + n then q_rd t s (sp + (i - dp)) else l.getD i df)).getD i df
        rw [e3]
        by_cases hc : dp ≤ i ∧ i < dp + n
        · rw [if_pos ⟨rfl, hc.1, hc.2⟩, if_pos hc, q_lk_rd hs]
        · rw [if_neg (fun h => hc h.2), if_neg hc, e2]
      · rw [if_neg (fun h => by omega), e2]
        show l.getD i df = ((List.range l.length).map (fun i => if dp ≤ i ∧ i < dp + n then q_rd t s (sp + (i - dp)) else l.getD i df)).getD i df
        rw [List.getD_eq_getElem?_getD, List.getD_eq_getElem?_getD, List.getElem?_eq_none_iff.mpr (by omega), List.getElem?_eq_none_iff.mpr (by rw [List.length_map, List.length_range]; omega)]
  · rw [if_neg (fun h => hb h.1)]
    unfold q_lk
    rw [List.getElem?_set_ne (Ne.symm hb)]
theorem q_ty_out : ∀ md k i : Nat, k < 7 → q_nf k ≤ i → (q_ty md k i).1 ≠ 2 := by
  intro md k i hk hi
  have h0 : (q_ty0 k i).1 ≠ 2 := by
    match k, hk, hi with
    | 0, _, hi =>
      obtain ⟨j, rfl⟩ := Nat.exists_eq_add_of_le' (show 6 ≤ i from hi)
      exact show (0 : Nat) ≠ 2 by decide
    | 1, _, hi =>
      obtain ⟨j, rfl⟩ := Nat.exists_eq_add_of_le' (show 10 ≤ i from hi)
      exact show (0 : Nat) ≠ 2 by decide
    | 2, _, hi =>
      obtain ⟨j, rfl⟩ := Nat.exists_eq_add_of_le' (show 3 ≤ i from hi)
      exact show (0 : Nat) ≠ 2 by decide
    | 3, _, hi =>
      obtain ⟨j, rfl⟩ := Nat.exists_eq_add_of_le' (show 4 ≤ i from hi)
      exact show (0 : Nat) ≠ 2 by decide
    | 4, _, hi =>
      obtain ⟨j, rfl⟩ := Nat.exists_eq_add_of_le' (show 11 ≤ i from hi)
      exact show (0 : Nat) ≠ 2 by decide
    | 5, _, hi =>
      obtain ⟨j, rfl⟩ := Nat.exists_eq_add_of_le' (show 8 ≤ i from hi)
      exact show (0 : Nat) ≠ 2 by decide
    | 6, _, hi =>
      obtain ⟨j, rfl⟩ := Nat.exists_eq_add_of_le' (show 37 ≤ i from hi)
      exact show (0 : Nat) ≠ 2 by decide
    | n + 7, hk, _ => exact absurd hk (by omega)
  have h1 : (q_ty1 k i).1 ≠ 2 := by
    match k, hk, hi with
    | 0, _, hi =>
      obtain ⟨j, rfl⟩ := Nat.exists_eq_add_of_le' (show 6 ≤ i from hi)
      exact show (0 : Nat) ≠ 2 by decide
    | 1, _, hi =>
      obtain ⟨j, rfl⟩ := Nat.exists_eq_add_of_le' (show 10 ≤ i from hi)
      exact show (0 : Nat) ≠ 2 by decide
    | 2, _, hi =>
      obtain ⟨j, rfl⟩ := Nat.exists_eq_add_of_le' (show 3 ≤ i from hi)
      exact show (0 : Nat) ≠ 2 by decide
    | 3, _, hi =>
      obtain ⟨j, rfl⟩ := Nat.exists_eq_add_of_le' (show 4 ≤ i from hi)
      exact show (0 : Nat) ≠ 2 by decide
    | 4, _, hi =>
      obtain ⟨j, rfl⟩ := Nat.exists_eq_add_of_le' (show 11 ≤ i from hi)
      exact show (0 : Nat) ≠ 2 by decide
    | 5, _, hi =>
      obtain ⟨j, rfl⟩ := Nat.exists_eq_add_of_le' (show 8 ≤ i from hi)
      exact show (0 : Nat) ≠ 2 by decide
    | 6, _, hi =>
      obtain ⟨j, rfl⟩ := Nat.exists_eq_add_of_le' (show 37 ≤ i from hi)
      exact show (0 : Nat) ≠ 2 by decide
    | n + 7, hk, _ => exact absurd hk (by omega)
  unfold q_ty
  split
  · exact h1
  · exact h0
theorem q_nf_1000 : ∀ k, k < 7 → q_nf k ≤ 1000 := by decide
theorem q_rowN_get {md k i : Nat} (hk : k < 7) : q_rg (q_rowN md k) i = if (q_ty md k i).1 = 2 then -1 else 0 := by
  unfold q_rg q_rowN
  by_cases hi : i = 1000
  · subst hi
    rw [if_pos rfl, if_neg (q_ty_out md k 1000 hk (q_nf_1000 k hk))]
  · rw [if_neg hi]
    by_cases hl : i < q_nf k
    · rw [List.getD_eq_getElem?_getD, List.getElem?_map, List.getElem?_range hl]
      rfl
    · rw [List.getD_eq_getElem?_getD, List.getElem?_eq_none_iff.mpr (by rw [List.length_map, List.length_range]; omega), if_neg (q_ty_out md k i hk (by omega))]
      rfl
theorem q_upd_put {t : q_Tm} {B : q_M} {a i : Nat} {x : Int} {nx : Nat} {ops : List Instr} {ls r : List q_V} {g : q_G} : q_sm B (q_go nx ops ls r g (q_upd (q_lk t B) a i x)) (match q_wr t a i x with
    | some t' => q_goT nx ops ls r g t'
    | none => none) := by
  cases h : q_wr t a i x with
  | none => trivial
  | some t' =>
    rw [q_lk_wr h]
    rfl
theorem q_sm_push {t u : q_Tm} {B : q_M} {F : q_M} {nx : Nat} {ops : List Instr} {ls st : List q_V} {g : q_G} (h1 : ∀ b i, b < t.length → F b i = q_lk t B b i) (h2 : ∀ b i r, t.length ≤ b → u[b - t.length]? = some r → F b i = q_rg r i) (h3 : ∀ b i, t.length + u.length ≤ b → F b i = B b i) : q_sm B (q_go nx ops ls st g F) (q_goT nx ops ls st g (t ++ u)) := by
  rw [q_lk_push h1 h2 h3]
  rfl
theorem q_sm_one {t : q_Tm} {row : q_Row} {B : q_M} {f : Nat → Int} {nx : Nat} {ops : List Instr} {ls st : List q_V} {g : q_G} {n : Nat} (hn : n = t.length) (hf : ∀ i, f i = q_rg row i) : q_sm B (q_go nx ops ls st g (fun b i => if b = n then f i else q_lk t B b i)) (q_goT nx ops ls st g (t ++ [row])) := by
  subst hn
  refine q_sm_push (fun b i h => if_neg (by omega)) (fun b i r h hr => ?_) (fun b i h => ?_)
  · have hb : b - t.length < 1 := (List.getElem?_eq_some_iff.mp hr).1
    have e : b = t.length := by omega
    subst e
    rw [Nat.sub_self] at hr
    cases hr
    show (if t.length = t.length then f i else _) = _
    rw [if_pos rfl, hf]
  · have h : t.length + 1 ≤ b := h
    show (if b = t.length then f i else q_lk t B b i) = _
    rw [if_neg (by omega), q_lk_out (by omega)]
theorem q_sm_mna {t : q_Tm} {B : q_M} {nx : Nat} {ops : List Instr} {ls st : List q_V} {g : q_G} {n : Nat} (hn : n = t.length) : q_sm B (q_go nx ops ls st g (fun b i => if b = n then (if i < 6 then ((n + 1 + i : Nat) : Int) else -1) else if n < b ∧ b < n + 7 then 0 else q_lk t B b i)) (q_goT nx ops ls st g (t ++ [((List.range 6).map (fun i => ((n + 1 + i : Nat) : Int)), -1, -1), (q_rep 6 0, 0, 0), (q_rep 6 0, 0, 0), (q_rep 6 0, 0, 0), (q_rep 6 0, 0, 0), (q_rep 6 0, 0, 0), (q_rep 6 0, 0, 0)])) := by
  subst hn
  have z : ∀ i, q_rg (q_rep 6 0, 0, 0) i = 0 := fun i => by
    unfold q_rg
    by_cases hi : i = 1000
    · rw [if_pos hi]
    · rw [if_neg hi]
      exact q_rep_get 0 6 i
  refine q_sm_push (fun b i h => ?_) (fun b i r h hr => ?_) (fun b i h => ?_)
  · show (if b = t.length then _ else if t.length < b ∧ b < t.length + 7 then 0 else q_lk t B b i) = _
    rw [if_neg (by omega), if_neg (by omega)]
  · obtain ⟨k, rfl⟩ : ∃ k, b = t.length + k := ⟨b - t.length, by omega⟩
    rw [Nat.add_sub_cancel_left] at hr
    have hk : k < 7 := (List.getElem?_eq_some_iff.mp hr).1
    rcases Nat.eq_zero_or_pos k with rfl | h0
    · cases hr
      show (if t.length + 0 = t.length then (if i < 6 then ((t.length + 1 + i : Nat) : Int) else -1) else _) = _
      rw [if_pos (Nat.add_zero _)]
      unfold q_rg
      by_cases hi : i = 1000
      · subst hi
        rw [if_neg (by decide), if_pos rfl]
      · rw [if_neg hi]
        by_cases h6 : i < 6
        · rw [if_pos h6, List.getD_eq_getElem?_getD, List.getElem?_map, List.getElem?_range h6]
          rfl
        · rw [if_neg h6, List.getD_eq_getElem?_getD, List.getElem?_eq_none_iff.mpr (by rw [List.length_map, List.length_range]; omega)]
          rfl
    · show (if t.length + k = t.length then _ else if t.length < t.length + k ∧ t.length + k < t.length + 7 then 0 else q_lk t B (t.length + k) i) = _
      rw [if_neg (by omega), if_pos (by omega)]
      have hr2 : r = (q_rep 6 0, 0, 0) := by
        match k, h0, hk, hr with
        | 1, _, _, hr => cases hr; rfl
        | 2, _, _, hr => cases hr; rfl
        | 3, _, _, hr => cases hr; rfl
        | 4, _, _, hr => cases hr; rfl
        | 5, _, _, hr => cases hr; rfl
        | 6, _, _, hr => cases hr; rfl
        | n + 7, _, hk, _ => exact absurd hk (by omega)
      rw [hr2, z]
  · have h : t.length + 7 ≤ b := h
    show (if b = t.length then _ else if t.length < b ∧ b < t.length + 7 then 0 else q_lk t B b i) = _
    rw [if_neg (by omega), if_neg (by omega), q_lk_out (by omega)]
set_option maxRecDepth 20000 in
set_option maxHeartbeats 4000000 in
theorem q_op_sm {md : Nat} {op : Instr} {nx : Nat} {ops : List Instr} {ls st : List q_V} {g : q_G} {B : q_M} {t : q_Tm} : q_sm B (q_op md op nx ops ls st g (q_lk t B)) (q_opT md op nx ops ls st g t) := by
  cases op
  case getfield c =>
    match st with
    | [] => exact trivial
    | .inl _ :: _ => exact trivial
    | .inr (.inl _) :: _ => exact trivial
    | .inr (.inr (.inl (k, a))) :: r =>
      show q_sm B (if _ then _ else _) (if _ then _ else _)
      by_cases hc : k = c / 100 ∧ c % 100 < q_nf k ∧ a < t.length
      · rw [if_pos hc, if_pos ⟨hc.1, hc.2.1⟩, q_lk_rd hc.2.2]
        rfl
      · rw [if_neg hc]
        trivial
    | .inr (.inr (.inr tt)) :: r =>
      show q_sm B (if _ then (if _ then _ else if _ then _ else _) else _) (if _ then (if _ then _ else if _ then _ else _) else _)
      split
      · split
        · rfl
        · split
          · rfl
          · trivial
      · trivial
  case putfield c =>
    match st with
    | [] => exact trivial
    | [v] => exact trivial
    | v :: .inl _ :: _ => exact trivial
    | v :: .inr (.inl _) :: _ => exact trivial
    | v :: .inr (.inr (.inr _)) :: _ => exact trivial
    | v :: .inr (.inr (.inl (k, a))) :: r =>
      show q_sm B (if k = c / 100 ∧ c % 100 < q_nf k then _ else none) (if k = c / 100 ∧ c % 100 < q_nf k then _ else none)
      by_cases hc : k = c / 100 ∧ c % 100 < q_nf k
      · rw [if_pos hc, if_pos hc]
        match v with
        | .inl x =>
          show q_sm B (if _ then _ else none) (if _ then _ else none)
          split
          · exact q_upd_put
          · trivial
        | .inr (.inl _) => exact trivial
        | .inr (.inr (.inr _)) => exact trivial
        | .inr (.inr (.inl (k', b))) =>
          show q_sm B (if _ then _ else none) (if _ then _ else none)
          split
          · exact q_upd_put
          · trivial
      · rw [if_neg hc, if_neg hc]
        trivial
  case iaload =>
    match st with
    | [] => exact trivial
    | .inr _ :: _ => exact trivial
    | [.inl _] => exact trivial
    | .inl _ :: .inl _ :: _ => exact trivial
    | .inl _ :: .inr (.inl _) :: _ => exact trivial
    | .inl _ :: .inr (.inr (.inr _)) :: _ => exact trivial
    | .inl j :: .inr (.inr (.inl (k, a))) :: r =>
      show q_sm B (if _ then _ else none) (if _ then _ else none)
      by_cases hc : q_isA k = true ∧ 0 ≤ j ∧ j < q_lenT k a t ∧ a < t.length
      · rw [if_pos hc, if_pos ⟨hc.1, hc.2.1, by rw [q_lenT_eq hc.2.2.2]; exact hc.2.2.1⟩, q_lk_rd hc.2.2.2]
        rfl
      · rw [if_neg hc]
        trivial
  case iastore =>
    match st with
    | [] => exact trivial
    | .inr _ :: _ => exact trivial
    | [.inl _] => exact trivial
    | .inl _ :: .inr _ :: _ => exact trivial
    | [.inl _, .inl _] => exact trivial
    | .inl _ :: .inl _ :: .inl _ :: _ => exact trivial
    | .inl _ :: .inl _ :: .inr (.inl _) :: _ => exact trivial
    | .inl _ :: .inl _ :: .inr (.inr (.inr _)) :: _ => exact trivial
    | .inl x :: .inl j :: .inr (.inr (.inl (k, a))) :: r =>
      show q_sm B (if _ then _ else none) (if _ then _ else none)
      by_cases hc : q_isA k = true ∧ 0 ≤ j ∧ j < q_lenT k a t ∧ a < t.length
      · rw [if_pos hc, if_pos ⟨hc.1, hc.2.1, by rw [q_lenT_eq hc.2.2.2]; exact hc.2.2.1⟩]
        exact q_upd_put
      · rw [if_neg hc]
        trivial
  case aaload =>
    match st with
    | [] => exact trivial
    | .inr _ :: _ => exact trivial
    | [.inl _] => exact trivial
    | .inl _ :: .inl _ :: _ => exact trivial
    | .inl _ :: .inr (.inl _) :: _ => exact trivial
    | .inl _ :: .inr (.inr (.inr _)) :: _ => exact trivial
    | .inl j :: .inr (.inr (.inl (k, a))) :: r =>
      show q_sm B (if _ then _ else none) (if _ then _ else none)
      by_cases hc : (k = 7 ∨ k = 8 ∨ k = 9) ∧ 0 ≤ j ∧ j < q_lenT k a t ∧ a < t.length
      · rw [if_pos hc, if_pos ⟨hc.1, hc.2.1, by rw [q_lenT_eq hc.2.2.2]; exact hc.2.2.1⟩, q_lk_rd hc.2.2.2]
        rfl
      · rw [if_neg hc]
        trivial
  case aastore =>
    match st with
    | [] => exact trivial
    | .inl _ :: _ => exact trivial
    | .inr (.inl _) :: _ => exact trivial
    | .inr (.inr (.inr _)) :: _ => exact trivial
    | [.inr (.inr (.inl (k', b)))] => exact trivial
    | .inr (.inr (.inl (k', b))) :: .inr _ :: _ => exact trivial
    | [.inr (.inr (.inl (k', b))), .inl _] => exact trivial
    | .inr (.inr (.inl (k', b))) :: .inl _ :: .inl _ :: _ => exact trivial
    | .inr (.inr (.inl (k', b))) :: .inl _ :: .inr (.inl _) :: _ => exact trivial
    | .inr (.inr (.inl (k', b))) :: .inl _ :: .inr (.inr (.inr _)) :: _ => exact trivial
    | .inr (.inr (.inl (k', b))) :: .inl j :: .inr (.inr (.inl (k, a))) :: r =>
      show q_sm B (if _ then _ else none) (if _ then _ else none)
      by_cases hc : (k = 8 ∨ k = 9) ∧ 0 ≤ j ∧ j < q_lenT k a t ∧ (q_ty md k j.toNat).1 = 2 ∧ (q_ty md k j.toNat).2.1 = k' ∧ b < 2147483648 ∧ a < t.length
      · have hc0 := hc
        obtain ⟨c1, c2, c3, c4, c5, c6, c7⟩ := hc
        rw [if_pos hc0, if_pos ⟨c1, c2, by rw [q_lenT_eq c7]; exact c3, c4, c5, c6⟩]
        exact q_upd_put
      · rw [if_neg hc]
        trivial
  case arraylength =>
    match st with
    | [] => exact trivial
    | .inl _ :: _ => exact trivial
    | .inr (.inl _) :: _ => exact trivial
    | .inr (.inr (.inl (k, a))) :: r =>
      show q_sm B (if _ then _ else none) (if _ then _ else none)
      by_cases hc : q_isA k = true ∧ a < t.length
      · rw [if_pos hc, if_pos hc.1, q_lenT_eq hc.2]
        rfl
      · rw [if_neg hc]
        trivial
    | .inr (.inr (.inr tt)) :: r =>
      show q_sm B (if _ then _ else if _ then _ else none) (if _ then _ else none)
      by_cases hc : tt ≠ 2 ∧ 64 ≤ tt ∧ tt < 77
      · rw [if_pos hc, if_neg hc.1, if_pos hc.2]
        rfl
      · rw [if_neg hc]
        trivial
  case new k =>
    show q_sm B (if _ then _ else none) (if _ then _ else none)
    by_cases hc : k < 7 ∧ q_kd g.1 = k ∧ (md = 0 ∨ k = 3) ∧ g.1 = t.length
    · rw [if_pos hc, if_pos ⟨hc.1, hc.2.1, hc.2.2.1⟩]
      exact q_sm_one hc.2.2.2 (fun i => (q_rowN_get hc.1).symm)
    · rw [if_neg hc]
      trivial
  case newarray ty =>
    match st with
    | [] => exact trivial
    | .inr _ :: _ => exact trivial
    | .inl n :: r =>
      show q_sm B (if _ then _ else none) (if _ then _ else none)
      by_cases hc : q_isA (q_kd g.1) = true ∧ 0 ≤ n ∧ n ≤ 100000 ∧ (if q_kd g.1 = 10 then n ≤ 1000 else n = (q_kd g.1 : Int) - 20) ∧ g.1 = t.length
      · rw [if_pos hc, if_pos ⟨hc.1, hc.2.1, hc.2.2.1, hc.2.2.2.1⟩]
        refine q_sm_one hc.2.2.2.2 (fun i => ?_)
        unfold q_rg
        by_cases hi : i = 1000
        · by_cases hk : q_kd g.1 = 10
          · rw [if_pos ⟨hi, hk⟩, if_pos hi, if_pos hk]
          · rw [if_neg (fun h => hk h.2), if_pos hi, if_neg hk]
        · rw [if_neg (fun h => hi h.1), if_neg hi]
          exact (q_rep_get 0 _ i).symm
      · rw [if_neg hc]
        trivial
  case anewarray k =>
    match st with
    | [] => exact trivial
    | .inr _ :: _ => exact trivial
    | .inl n :: r =>
      show q_sm B (if _ then _ else none) (if _ then _ else none)
      by_cases hc : (k = 8 ∨ k = 9) ∧ q_kd g.1 = k ∧ n = (if k = 8 then 6 else 4) ∧ md = 0 ∧ g.1 = t.length
      · have hc0 := hc
        obtain ⟨c1, c2, c3, c4, c5⟩ := hc
        rw [if_pos hc0, if_pos ⟨c1, c2, by rw [c3]; rcases c1 with rfl | rfl <;> rfl, c4⟩]
        refine q_sm_one c5 (fun i => ?_)
        unfold q_rg
        by_cases hi : i = 1000
        · rw [if_pos hi]
        · rw [if_neg hi]
          exact (q_rep_get (-1) _ i).symm
      · rw [if_neg hc]
        trivial
  case multianewarray i0 d0 =>
    match st with
    | [] => exact trivial
    | .inr _ :: _ => exact trivial
    | [.inl _] => exact trivial
    | .inl _ :: .inr _ :: _ => exact trivial
    | .inl y :: .inl x :: r =>
      show q_sm B (if _ then _ else none) (if _ then _ else none)
      by_cases hc : x = 6 ∧ y = 6 ∧ md = 0 ∧ q_kd g.1 = 7 ∧ q_kd (g.1 + 1) = 26 ∧ q_kd (g.1 + 2) = 26 ∧ q_kd (g.1 + 3) = 26 ∧ q_kd (g.1 + 4) = 26 ∧ q_kd (g.1 + 5) = 26 ∧ q_kd (g.1 + 6) = 26 ∧ g.1 < 1000000 ∧ g.1 = t.length
      · have hc0 := hc
        obtain ⟨c1, c2, c3, c4, c5, c6, c7, c8, c9, c10, c11, c12⟩ := hc
        rw [if_pos hc0, if_pos ⟨c1, c2, c3, c4, c5, c6, c7, c8, c9, c10, c11⟩]
        exact q_sm_mna c12
      · rw [if_neg hc]
        trivial
  case swap =>
    match st with
    | [] => exact trivial
    | .inl _ :: _ => exact trivial
    | .inr (.inl _) :: _ => exact trivial
    | .inr (.inr (.inr _)) :: _ => exact trivial
    | .inr (.inr (.inl (k, a))) :: r =>
      show q_sm B (if _ then _ else none) (if _ then _ else none)
      by_cases hc : 20 ≤ k ∧ q_kd g.1 = k ∧ r.length ≤ 6 ∧ g.1 = t.length
      · rw [if_pos hc, if_pos ⟨hc.1, hc.2.1, hc.2.2.1⟩]
        cases hr : t[a]? with
        | none => trivial
        | some row =>
          refine q_sm_one hc.2.2.2 (fun i => ?_)
          unfold q_lk
          rw [hr]
      · rw [if_neg hc]
        trivial
  case monitorexit =>
    match st with
    | .inl n :: .inl dp :: .inr (.inr (.inl (kd, d))) :: .inl sp :: .inr (.inr (.inl (ks, s))) :: r =>
      show q_sm B (if _ then _ else none) (if _ then _ else none)
      by_cases hc : q_isA ks = true ∧ q_isA kd = true ∧ 0 ≤ sp ∧ 0 ≤ dp ∧ 0 ≤ n ∧ sp + n ≤ q_lenT ks s t ∧ dp + n ≤ q_lenT kd d t ∧ r.length ≤ 3 ∧ s < t.length ∧ d < t.length
      · have hc0 := hc
        obtain ⟨c1, c2, c3, c4, c5, c6, c7, c8, c9, c10⟩ := hc
        rw [if_pos hc0, if_pos ⟨c1, c2, c3, c4, c5, by rw [q_lenT_eq c9]; exact c6, by rw [q_lenT_eq c10]; exact c7, c8⟩]
        cases hr : t[d]? with
        | none => trivial
        | some row =>
          obtain ⟨l, df, e⟩ := row
          show q_sm B _ (if _ then _ else none)
          by_cases h2 : dp.toNat + n.toNat ≤ l.length ∧ dp.toNat + n.toNat ≤ 1000
          · rw [if_pos h2, q_lk_cpy c9 hr h2.1 h2.2]
            rfl
          · rw [if_neg h2]
            trivial
      · rw [if_neg hc]
        trivial
    | [] => exact trivial
    | .inr _ :: _ => exact trivial
    | [.inl _] => exact trivial
    | .inl _ :: .inr _ :: _ => exact trivial
    | [.inl _, .inl _] => exact trivial
    | .inl _ :: .inl _ :: .inl _ :: _ => exact trivial
    | .inl _ :: .inl _ :: .inr (.inl _) :: _ => exact trivial
    | .inl _ :: .inl _ :: .inr (.inr (.inr _)) :: _ => exact trivial
    | [.inl _, .inl _, .inr (.inr (.inl _))] => exact trivial
    | .inl _ :: .inl _ :: .inr (.inr (.inl _)) :: .inr _ :: _ => exact trivial
    | [.inl _, .inl _, .inr (.inr (.inl _)), .inl _] => exact trivial
    | .inl _ :: .inl _ :: .inr (.inr (.inl _)) :: .inl _ :: .inl _ :: _ => exact trivial
    | .inl _ :: .inl _ :: .inr (.inr (.inl _)) :: .inl _ :: .inr (.inl _) :: _ => exact trivial
    | .inl _ :: .inl _ :: .inr (.inr (.inl _)) :: .inl _ :: .inr (.inr (.inr _)) :: _ => exact trivial
  case invokestatic id => exact q_sm_ite (fun _ => q_sm_call) (fun _ => trivial)
  case ret tg =>
    match st with
    | [] => exact trivial
    | [.inl x] => exact q_sm_ite (fun _ => q_sm_rt (t := t)) (fun _ => trivial)
    | .inr _ :: _ => exact trivial
    | .inl _ :: _ :: _ => exact trivial
  case lreturn =>
    match st with
    | [] => exact trivial
    | .inl _ :: _ => exact trivial
    | [.inr (.inl x)] => exact q_sm_rt (t := t)
    | .inr (.inl _) :: _ :: _ => exact trivial
    | .inr (.inr _) :: _ => exact trivial
  case areturn =>
    match st with
    | [] => exact trivial
    | .inl _ :: _ => exact trivial
    | .inr (.inl _) :: _ => exact trivial
    | [.inr (.inr (.inl (k, a)))] => exact q_sm_rt (t := t)
    | .inr (.inr (.inl _)) :: _ :: _ => exact trivial
    | .inr (.inr (.inr _)) :: _ => exact trivial
  case return_ =>
    match st with
    | [] => exact q_sm_rt (t := t)
    | _ :: _ => exact trivial
  case ifCond cd t0 =>
    cases ops with
    | cons _ _ => exact trivial
    | nil => exact q_sm_ii (fun _ _ => q_sm_go)
  case if_icmp cd t0 =>
    cases ops with
    | cons _ _ => exact trivial
    | nil => exact q_sm_ii (fun _ _ => q_sm_ii (fun _ _ => q_sm_go))
  case goto t0 =>
    cases ops with
    | cons _ _ => exact trivial
    | nil => exact q_sm_go (M := fun _ _ => 0)
  case tableswitch d0 lo hi offs =>
    cases ops with
    | cons _ _ => exact trivial
    | nil => exact q_sm_ii (fun _ _ => q_sm_go)
  case lookupswitch d0 ps =>
    cases ops with
    | cons _ _ => exact trivial
    | nil => exact q_sm_ii (fun _ _ => q_sm_go)
  case baload =>
    match st with
    | [] => exact trivial
    | .inr _ :: _ => exact trivial
    | [.inl _] => exact trivial
    | .inl _ :: .inl _ :: _ => exact trivial
    | .inl _ :: .inr (.inl _) :: _ => exact trivial
    | .inl _ :: .inr (.inr (.inl _)) :: _ => exact trivial
    | .inl _ :: .inr (.inr (.inr _)) :: _ => exact q_sm_ite (fun _ => q_sm_go) (fun _ => trivial)
  all_goals first
    | exact trivial
    | exact q_sm_go (M := fun _ _ => 0)
    | (change q_sm B _ (q_toT t (q_op md _ nx ops ls st g (fun _ _ => 0)))
       repeat' (first
    | exact trivial
    | exact q_sm_go (M := fun _ _ => 0)
    | refine q_sm_ii (fun _ _ => ?_)
    | refine q_sm_ll (fun _ _ => ?_)
    | refine q_sm_rr (fun _ _ _ => ?_)
    | refine q_sm_vv (fun _ _ => ?_)
    | refine q_sm_bind (fun _ => ?_)
    | refine q_sm_ite (fun _ => ?_) (fun _ => ?_)))
/-! A RUN OVER ROWS -/
def q_stepT (md : Nat) (P : q_P) (c : q_CT) : q_RT := match c with
  | (nx, [], ls, st, g, t) => (q_blk P nx).bind fun b => q_goT b.2 b.1 ls st g t
  | (nx, op :: ops, ls, st, g, t) => q_opT md op nx ops ls st g t
def q_putT (c : q_CT) (v : Option q_V) (g : q_G) (t : q_Tm) : q_CT := match c with
  | (nx, ops, ls, st, _, _) => (nx, ops, ls, q_push v st, g, t)
def q_runT : Nat → Nat → Nat → q_P → q_CT → Option (Option q_V × q_G × q_Tm)
  | 0, _, _, _, _ => none
  | f + 1, md, d, P, c => match q_stepT md P c with
    | none => none
    | some (.inl c') => q_runT f md d P c'
    | some (.inr (.inl v)) => some (v, c.2.2.2.2.1, c.2.2.2.2.2)
    | some (.inr (.inr (id, as, c'))) => match d with
      | 0 => none
      | d + 1 => match q_runT f md d (q_mP id) (0, [], q_ent id as, [], c'.2.2.2.2.1, c'.2.2.2.2.2) with
        | none => none
        | some (v, g, t) => q_runT f md (d + 1) P (q_putT c' v g t)
theorem q_step_sm {md : Nat} {P : q_P} {B : q_M} (c : q_CT) : q_sm B (q_step md P (q_un B c)) (q_stepT md P c) := by
  obtain ⟨nx, ops, ls, st, g, t⟩ := c
  cases ops with
  | nil =>
    show q_sm B ((q_blk P nx).bind fun b => q_go b.2 b.1 ls st g (q_lk t B)) ((q_blk P nx).bind fun b => q_goT b.2 b.1 ls st g t)
    cases q_blk P nx with
    | none => trivial
    | some b => rfl
  | cons op ops => exact q_op_sm
theorem q_runT_ok {md : Nat} {B : q_M} : ∀ (f : Nat) {d : Nat} {P : q_P} {c : q_CT} {r : Option q_V × q_G × q_Tm}, q_runT f md d P c = some r → q_run f md d P (q_un B c) = some (r.1, r.2.1, q_lk r.2.2 B) := by
  intro f
  induction f with
  | zero => intro d P c r h; rw [q_runT] at h; cases h
  | succ f ih =>
    intro d P c r h
    have hs := q_step_sm (md := md) (P := P) (B := B) c
    rw [q_runT] at h
    rw [q_run]
    split at h
    · cases h
    · next c' e =>
      rw [e] at hs
      have hs : q_step md P (q_un B c) = some (.inl (q_un B c')) := hs
      rw [hs]
      exact ih h
    · next v e =>
      rw [e] at hs
      have hs : q_step md P (q_un B c) = some (.inr (.inl v)) := hs
      rw [hs]
      cases h
      rfl
    · next id as c' e =>
      rw [e] at hs
      have hs : q_step md P (q_un B c) = some (.inr (.inr (id, as, q_un B c'))) := hs
      rw [hs]
      cases d with
      | zero => cases h
      | succ d =>
        simp only at h
        split at h
        · cases h
        · next v g t hr =>
          have h1 := ih hr
          have h2 := ih h
          simp only
          have h1 : q_run f md d (q_mP id) (0, [], q_ent id as, [], (q_un B c').2.2.2.2.1, (q_un B c').2.2.2.2.2) = some (v, g, q_lk t B) := h1
          rw [h1]
          exact h2
