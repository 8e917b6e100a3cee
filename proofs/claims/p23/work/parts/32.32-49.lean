section
/-! FROM THE MODE IN WHICH ALL IS MADE TO THE ONE IN WHICH THE PLACES ARE KNOWN -/
def q_cvb (t : q_Tm) (a i : Nat) : Bool := decide (q_ty 0 (q_kd a) i = q_ty 1 (q_kd a) i) || (decide ((q_ty 0 (q_kd a) i).1 = 2) && (decide ((q_ty 1 (q_kd a) i).1 = 3) && (decide (q_rd t a i = ((a + (q_ty 1 (q_kd a) i).2.2 : Nat) : Int)) && (decide (a + (q_ty 1 (q_kd a) i).2.2 < 124) && decide (q_kd (a + (q_ty 1 (q_kd a) i).2.2) = (q_ty 1 (q_kd a) i).2.1)))))
def q_cv (t : q_Tm) : Bool := decide (t.length = 124) && (List.range 124).all fun a => (List.range (q_sz (q_kd a))).all fun i => q_cvb t a i
theorem q_cv_get {t : q_Tm} (h : q_cv t = true) {a i : Nat} (ha : a < 124) (hi : i < q_sz (q_kd a)) : q_ty 0 (q_kd a) i = q_ty 1 (q_kd a) i ∨ ((q_ty 0 (q_kd a) i).1 = 2 ∧ (q_ty 1 (q_kd a) i).1 = 3 ∧ q_rd t a i = ((a + (q_ty 1 (q_kd a) i).2.2 : Nat) : Int) ∧ a + (q_ty 1 (q_kd a) i).2.2 < 124 ∧ q_kd (a + (q_ty 1 (q_kd a) i).2.2) = (q_ty 1 (q_kd a) i).2.1) := by
  unfold q_cv at h
  rw [Bool.and_eq_true] at h
  have h1 := List.all_eq_true.mp h.2 a (List.mem_range.mpr ha)
  have h2 := List.all_eq_true.mp h1 i (List.mem_range.mpr hi)
  unfold q_cvb at h2
  rw [Bool.or_eq_true] at h2
  rcases h2 with h2 | h2
  · exact Or.inl (of_decide_eq_true h2)
  · rw [Bool.and_eq_true, Bool.and_eq_true, Bool.and_eq_true, Bool.and_eq_true] at h2
    exact Or.inr ⟨of_decide_eq_true h2.1, of_decide_eq_true h2.2.1, of_decide_eq_true h2.2.2.1, of_decide_eq_true h2.2.2.2.1, of_decide_eq_true h2.2.2.2.2⟩
theorem q_cv_rf {t : q_Tm} {B : q_M} {ad : Nat → Nat} (h : q_cv t = true) {a i : Nat} (ha : a < 124) (hi : i < q_sz (q_kd a)) : q_sv ad (q_ty 1 (q_kd a) i) a (q_lk t B a i) = q_sv ad (q_ty 0 (q_kd a) i) a (q_lk t B a i) ∧ ((q_ty 1 (q_kd a) i).1 = 2 ∨ (q_ty 1 (q_kd a) i).1 = 3 → q_rf ad (q_ty 1 (q_kd a) i) a (q_lk t B a i) = q_rf ad (q_ty 0 (q_kd a) i) a (q_lk t B a i)) := by
  have hlen : a < t.length := by
    unfold q_cv at h
    rw [Bool.and_eq_true] at h
    rw [of_decide_eq_true h.1]
    exact ha
  rcases q_cv_get h ha hi with e | ⟨h1, h2, h3, h4, h5⟩
  · rw [e]
    exact ⟨rfl, fun _ => rfl⟩
  · have e : q_rf ad (q_ty 1 (q_kd a) i) a (q_lk t B a i) = q_rf ad (q_ty 0 (q_kd a) i) a (q_lk t B a i) := by
      unfold q_rf
      rw [if_neg (by rw [h2]; decide), if_pos h1, q_lk_rd hlen, h3, if_neg (by omega), Int.toNat_natCast]
    refine ⟨?_, fun _ => e⟩
    unfold q_sv
    rw [if_pos (Or.inr h2), if_pos (Or.inl h1), e]
theorem q_cv_W {t : q_Tm} {B : q_M} {ad : Nat → Nat} {C : q_CI} (h : q_cv t = true) : q_W 1 ad C 124 (q_lk t B) = q_W 0 ad C 124 (q_lk t B) := by
  unfold q_W
  apply List.map_congr_left
  intro a ha
  have ha2 := List.mem_range.mp ha
  congr 1
  have hq : ∀ k, q_kd a = k → k = 7 ∨ k = 8 ∨ k = 9 → q_rfs 1 ad k a (q_lk t B) = q_rfs 0 ad k a (q_lk t B) := by
    intro k hk h7
    subst hk
    funext i
    unfold q_rfs
    by_cases hi : i < q_sz (q_kd a)
    · rw [if_pos hi, if_pos hi]
      exact (q_cv_rf h ha2 hi).2 (q_ty_arr 1 _ h7 i)
    · rw [if_neg hi, if_neg hi]
  unfold q_en
  by_cases h7 : q_kd a < 7
  · rw [if_pos h7, if_pos h7]
    congr 2
    apply List.map_congr_left
    intro i hi
    exact (q_cv_rf h ha2 (by rw [q_sz_lt h7]; exact List.mem_range.mp hi)).1
  · rw [if_neg h7, if_neg h7]
    by_cases e7 : q_kd a = 7
    · rw [if_pos e7, if_pos e7, hq 7 e7 (Or.inl rfl)]
    · rw [if_neg e7, if_neg e7]
      by_cases e8 : q_kd a = 8
      · rw [if_pos e8, if_pos e8, hq 8 e8 (Or.inr (Or.inl rfl))]
      · rw [if_neg e8, if_neg e8]
        by_cases e9 : q_kd a = 9
        · rw [if_pos e9, if_pos e9, hq 9 e9 (Or.inr (Or.inr rfl))]
        · rw [if_neg e9, if_neg e9]
theorem q_cv_ok {t : q_Tm} {B : q_M} (h : q_cv t = true) (h0 : q_ok 0 124 (q_lk t B)) : q_ok 1 124 (q_lk t B) := by
  refine ⟨h0.1, fun a i ha hi ht => ?_, fun a i ha hi ht => ?_, h0.2.2.2⟩
  · rcases q_cv_get h ha hi with e | ⟨-, h2, -⟩
    · rw [← e] at ht ⊢
      exact h0.2.1 a i ha hi ht
    · rw [h2] at ht
      cases ht
  · rcases q_cv_get h ha hi with e | ⟨-, -, -, h4, h5⟩
    · rw [← e] at ht
      exact absurd ht (q_ty_no3 (Or.inl rfl) i)
    · exact ⟨h4, h5⟩
set_option maxRecDepth 100000 in
theorem q_T0_cv : q_cv q_T0 = true := by decide +kernel
end
section
/-! THE CLAIM OUT OF ONE WALK OF THE LAW'S BODY. Your part is whole_start (and what it stands on); all else here is the same for every law, but numbers. -/
def R_law : String := "StonesChooseLaw"
def lw_P (b : Addr) (xs : List Int32) (args : Array Value) (s : State) : Prop := args = #[.ref b] ∧ s.IntsAt b xs ∧ xs.length ≤ 3584 ∧ (Jvm.Cond.and given_1 narrow_1).before args s = true
def lw_Q (_ : Array Value) (s : State) (o : Outcome) (t : State) : Prop := o = .returned (some (.int 1)) ∧ Framed s o t [] 600000 7302250
def lw_Z (below : List Frame) (a : Array Value) (s : State) : State → Prop := fun t => ∃ o, t.status = .running ∧ Ended t below o ∧ lw_Q a s o t
/-- the law's own end, with 1 on the stack, nothing written that was there before, its room as the claim has it -/
theorem lw_ret {p : Program} {l : Launch} {e : Env} {s : State} {m : MethodId} {below : List Frame} {meth : Method} {c : Code} {b : Nat} (hx : p.tables.exec = Jvm.exec) (hb : c.code = code) (hr : meth.sig.returnType = ret) (hlocks : meth.locks = false) {pc : Nat} {H : Heap} {ls : Array Slot} (hdg : decode code pc = .ok (.ireturn, 1)) : W p l e room_1 s m #[Value.ref b] below meth c H [] 600000 7302250 (lw_Z below #[Value.ref b] s) (F0 m pc ls [.int 1]) := by
  intro T hT X
  obtain ⟨fs, hret, hrun, hended, hW, hframe⟩ := X.leave (v := some (.int 1)) (hlocks := hlocks) (fun h => by rw [hr] at h; cases h)
  have hmeth' : T.vm.method? m = some meth := X.method'
  refine ⟨T.setFrames fs, ?_, .returned (some (.int 1)), hrun, hended, rfl, ⟨_, rfl⟩, hW, hframe⟩
  jvm_step X.here [X.here.top, hx, hb, hdg, hmeth', hr, ret, narrow_b1]
  (try refine ⟨rfl, ?_⟩); (try refine ⟨rfl, ?_⟩)
  first | (intro acts; rw [hret _ acts rfl rfl rfl]) | rw [hret _ _ rfl rfl rfl]
  exact Steps.refl _
/-- what holds at the law's entry: the machine, the code, the tables' words (any of lw_tbl by 'hts w (by decide +kernel)'), the script of L ints xs at the cell b, what the Statement gives of the start (any of its parts by flat_of_before) -/
def lw_At (p : Program) (s : State) (m : MethodId) (meth : Method) (c : Code) (b L : Nat) (xs : Nat → Int32) : Prop :=
  p.tables.exec = Jvm.exec ∧ c.code = code ∧ meth.sig.returnType = ret ∧ c.maxLocals = 4 ∧ s.vm.findClass R_law = some m.cls ∧ (∀ w ∈ lw_tbl, w.before #[Value.ref b] s = true) ∧ va_X b L xs s s.heap ∧ b < s.heap.size ∧ meth.locks = false ∧ (Jvm.Cond.and given_1 narrow_1).before #[Value.ref b] s = true
end
section
/-! THE LAW OUT OF THE PURE MACHINE -/
def q_Bm (L : Nat) (xs : Nat → Int32) : q_M := fun a i => if a = 1000001 then (if i = 0 then (L : Int) else 0) else if a = 1000000 then (if i < L then (xs i).toInt else 0) else 0
theorem q_Bm_scr {L : Nat} {xs : Nat → Int32} : q_scr L xs (q_Bm L xs) := by
  refine ⟨?_, fun i hi => ?_⟩
  · unfold q_Bm
    rw [if_pos rfl, if_pos rfl]
  · unfold q_Bm
    rw [if_neg (by decide), if_pos rfl, if_pos hi]
theorem q_Bm_rng {L : Nat} {xs : Nat → Int32} (hL : L < 2147483648) (a i : Nat) : -2147483648 ≤ q_Bm L xs a i ∧ q_Bm L xs a i < 2147483648 := by
  have hx : -2147483648 ≤ (xs i).toInt ∧ (xs i).toInt < 2147483648 := ⟨Int32.le_toInt (xs i), Int32.toInt_lt (xs i)⟩
  unfold q_Bm
  split
  · split <;> omega
  · split
    · split
      · exact hx
      · omega
    · omega
theorem q_Bm_ok {L : Nat} {xs : Nat → Int32} (hL : L < 2147483648) : q_ok 0 0 (q_Bm L xs) := by
  refine ⟨q_Bm_rng hL, fun a i h => absurd h (Nat.not_lt_zero a), fun a i h => absurd h (Nat.not_lt_zero a), fun a h => absurd h (Nat.not_lt_zero a)⟩
/-- what the pure run of the law's loop owes -/
def q_Owed (L : Nat) (xs : Nat → Int32) : Prop := q_T 1 1000 qP_L_law 18 [] [qS 2, qR 5 0, qR 6 100, qI 0] [] (124, 3394) (q_lk q_T0 (q_Bm L xs)) (fun v g _ => v = some (qI 1) ∧ g.1 ≤ 600000 ∧ g.2 ≤ 7302250)
theorem q_law_locals (b : Nat) (ad adK adV : Nat → Nat) : q_lr ad adK adV b 0 4 [qS 2, qS 0, qS 0, qS 0] ((lg_sl [Value.ref b] ++ List.replicate (4 - (lg_sl [Value.ref b]).length) Slot.unset).toArray) := by
  refine ⟨rfl, [(0, .ref b)], lv_entry [Value.ref b] (n := 4) (Nat.le_of_ble_eq_true rfl), fun i v hi hv => ?_⟩
  match i, hi with
  | 0, hi => cases hi; exact ⟨.ref b, List.mem_cons_self, Or.inr (Or.inl ⟨rfl, rfl⟩)⟩
  | 1, hi => cases hi; cases hv
  | 2, hi => cases hi; cases hv
  | 3, hi => cases hi; cases hv
  | n + 4, hi => cases hi
set_option maxHeartbeats 2000000 in
theorem q_whole {p : Program} {e : Env} {s : State} {m : MethodId} {below : List Frame} {meth : Method} {c : Code} (l : Launch) {b L : Nat} {xs : Nat → Int32} (hL : L < 2147483648) (C0 : lw_At p s m meth c b L xs) (ho : q_Owed L xs) : W p l e room_1 s m #[Value.ref b] below meth c s.heap [] 0 0 (lw_Z below #[Value.ref b] s) (entryFrame m ([Value.ref b] : List Value).toArray 4) := by
  obtain ⟨hx, hb, hr, hml, hown, hts, hX, hbl, hlocks, hgv⟩ := C0
  obtain ⟨D, C, adK, adV, hE⟩ := q_env0 hts hX hbl hgv
  have hC : q_Cx p room_1 s m #[Value.ref b] meth c code D C b L xs adK adV s.heap.size 1000 10 4 (some .boolean) false := ⟨hx, hb, hml, hr, hlocks, hown, fun w hw => hts w (q_Lw_in w hw), (fun h => by cases h), hE, Nat.le_of_ble_eq_true rfl, Nat.le_of_ble_eq_true rfl⟩
  obtain ⟨f, k, hwk⟩ := q_start_ev
  obtain ⟨f2, r, hrun, hv, hg1, hg2⟩ := ho
  have hgr := q_run_grow _ hrun
  have hfit : ∀ g : q_G, g.1 ≤ 600000 → g.2 ≤ 7302250 → q_lim room_1 0 0 g := fun g h1 h2 => ⟨by omega, by show g.1 ≤ 0 + 600000; omega, by show g.2 ≤ 0 + 7302250; omega⟩
  rw [lg_entry_eq]
  refine q_wkT_ok (l := l) (B := q_Bm L xs) (k0 := 0) (k1 := 0) (n0 := 0) (ad0 := fun x => x) (ad := fun x => x) (ow := 10) (nL := 4) (rt := some .boolean) (ini := false) (cc := code) k hC q_ck_law hwk (hfit _ (by decide) (by decide)) ⟨⟨?_, ?_, q_Bm_ok hL, q_Bm_scr, Nat.zero_le _, va_S.rf⟩, q_law_locals b _ adK adV, trivial, rfl, rfl, rfl, Nat.le_refl _, fun _ h => absurd h (Nat.not_lt_zero _)⟩ ?_
  · intro k q h
    cases h
  · exact ⟨(fun i j p q h => by cases h), (fun k q h => by cases h)⟩
  · intro ad H locs lsr str cells slots pc hA
    obtain ⟨⟨hP, hD, hok, hscr, hn, hS⟩, hlr, hvr, hc, hsl, hck, hn0, had⟩ := hA
    have hW := q_cv_W (B := q_Bm L xs) (ad := ad) (C := C) q_T0_cv
    have hP : va_P D vwCl (q_W 0 ad C 124 (q_lk q_T0 (q_Bm L xs))) H := hP
    have hD : va_D (q_A s.heap.size) (q_W 0 ad C 124 (q_lk q_T0 (q_Bm L xs))) := hD
    rw [← hW] at hP hD
    refine q_sound l f2 (k0 := 0) (k1 := 0) (n0 := 0) (ad0 := fun x => x) (ow := 10) (nL := 4) (rt := some .boolean) (ini := false) (cc := code) hC q_ck_law hrun (hfit _ hg1 hg2) ⟨⟨hP, hD, q_cv_ok q_T0_cv hok, hscr, hn, hS⟩, hlr, hvr, hc, hsl, hck, hn0, fun _ h => absurd h (Nat.not_lt_zero _)⟩ ?_
    intro ad' H' locs' lsr' str' cells' slots' pc' len raw op st' hWo hvr' hc' hsl' had' hd hrs hrk
    rw [hv] at hrk
    have hc' : 0 + cells' = r.2.1.1 := hc'
    have hsl' : 0 + slots' = r.2.1.2 := hsl'
    rcases q_rs_sp hrs (q_rk_sp hrk) with rfl | rfl | rfl | rfl | ⟨i, rfl⟩ | ⟨i, rfl⟩ | ⟨i, rfl⟩
    · obtain ⟨hl, h2⟩ := q_if_inv hrs
      cases h2
      subst hl
      obtain ⟨x, rfl, hx1, -⟩ := hrk
      cases hx1
      obtain ⟨_, str1, rfl, hv1, hs1⟩ := q_vrs_cons hvr'
      obtain ⟨X, rfl, hX1⟩ := q_vr_i hv1
      have eX : X = 1 := Int32.toInt_inj.mp (by rw [← hX1]; decide)
      subst eX
      match str1, hs1 with
      | [], _ =>
        refine va_forget (fun q hq => hWo.2.2.2.2.2.2.2 q hq) ?_
        refine W.widen (k := 600000) (n := 7302250) (by omega) (by omega) ?_
        exact lw_ret hx hb hr hlocks hd
      | _ :: _, h => exact h.elim
    · obtain ⟨⟨-, h9⟩, h2⟩ := q_if_inv hrs
      cases h9
    · obtain ⟨⟨-, h9⟩, h2⟩ := q_if_inv hrs
      cases h9
    · obtain ⟨⟨-, h9⟩, h2⟩ := q_if_inv hrs
      cases h9
    · exact (q_rs_nrv hrs hrk).elim
    · exact (q_rs_nrs hrs hrk).elim
    · exact (q_rs_nrt hrs hrk).elim
end
section
/-! SYMBOLIC EXECUTION, where the sides are decided -/
section YOPS
variable {md d : Nat} {P : q_P} {nx : Nat} {ops : List Instr} {ls st : List q_V} {g : q_G} {M : q_M} {Q : Option q_V → q_G → q_M → Prop} {a : Nat} {j x y t : Int}
theorem y_ic_eq_t (h : x = y) : q_T md d P nx [.if_icmp .eq t] ls (qI y :: qI x :: st) g M Q = q_T md d P t.toNat [] ls st g M Q := q_T_next (show q_go (if q_cmp .eq x y = true then t.toNat else nx) [] ls st g M = _ by rw [if_pos (by simp only [q_cmp, decide_eq_true_eq]; omega)])
theorem y_ic_eq_f (h : x ≠ y) : q_T md d P nx [.if_icmp .eq t] ls (qI y :: qI x :: st) g M Q = q_T md d P nx [] ls st g M Q := q_T_next (show q_go (if q_cmp .eq x y = true then t.toNat else nx) [] ls st g M = _ by rw [if_neg (by simp only [q_cmp, decide_eq_true_eq]; omega)])
theorem y_ic_eq (h1 : x = y → q_T md d P t.toNat [] ls st g M Q) (h2 : x ≠ y → q_T md d P nx [] ls st g M Q) : q_T md d P nx [.if_icmp .eq t] ls (qI y :: qI x :: st) g M Q := by
  by_cases h : x = y
  · rw [y_ic_eq_t h]; exact h1 h
  · rw [y_ic_eq_f (by omega)]; exact h2 (by omega)
theorem y_if_eq_t (h : x = 0) : q_T md d P nx [.ifCond .eq t] ls (qI x :: st) g M Q = q_T md d P t.toNat [] ls st g M Q := q_T_next (show q_go (if q_cmp .eq x 0 = true then t.toNat else nx) [] ls st g M = _ by rw [if_pos (by simp only [q_cmp, decide_eq_true_eq]; omega)])
theorem y_if_eq_f (h : x ≠ 0) : q_T md d P nx [.ifCond .eq t] ls (qI x :: st) g M Q = q_T md d P nx [] ls st g M Q := q_T_next (show q_go (if q_cmp .eq x 0 = true then t.toNat else nx) [] ls st g M = _ by rw [if_neg (by simp only [q_cmp, decide_eq_true_eq]; omega)])
theorem y_if_eq (h1 : x = 0 → q_T md d P t.toNat [] ls st g M Q) (h2 : x ≠ 0 → q_T md d P nx [] ls st g M Q) : q_T md d P nx [.ifCond .eq t] ls (qI x :: st) g M Q := by
  by_cases h : x = 0
  · rw [y_if_eq_t h]; exact h1 h
  · rw [y_if_eq_f (by omega)]; exact h2 (by omega)
theorem y_ic_ne_t (h : x ≠ y) : q_T md d P nx [.if_icmp .ne t] ls (qI y :: qI x :: st) g M Q = q_T md d P t.toNat [] ls st g M Q := q_T_next (show q_go (if q_cmp .ne x y = true then t.toNat else nx) [] ls st g M = _ by rw [if_pos (by simp only [q_cmp, decide_eq_true_eq]; omega)])
theorem y_ic_ne_f (h : x = y) : q_T md d P nx [.if_icmp .ne t] ls (qI y :: qI x :: st) g M Q = q_T md d P nx [] ls st g M Q := q_T_next (show q_go (if q_cmp .ne x y = true then t.toNat else nx) [] ls st g M = _ by rw [if_neg (by simp only [q_cmp, decide_eq_true_eq]; omega)])
theorem y_ic_ne (h1 : x ≠ y → q_T md d P t.toNat [] ls st g M Q) (h2 : x = y → q_T md d P nx [] ls st g M Q) : q_T md d P nx [.if_icmp .ne t] ls (qI y :: qI x :: st) g M Q := by
  by_cases h : x ≠ y
  · rw [y_ic_ne_t h]; exact h1 h
  · rw [y_ic_ne_f (by omega)]; exact h2 (by omega)
theorem y_if_ne_t (h : x ≠ 0) : q_T md d P nx [.ifCond .ne t] ls (qI x :: st) g M Q = q_T md d P t.toNat [] ls st g M Q := q_T_next (show q_go (if q_cmp .ne x 0 = true then t.toNat else nx) [] ls st g M = _ by rw [if_pos (by simp only [q_cmp, decide_eq_true_eq]; omega)])
theorem y_if_ne_f (h : x = 0) : q_T md d P nx [.ifCond .ne t] ls (qI x :: st) g M Q = q_T md d P nx [] ls st g M Q := q_T_next (show q_go (if q_cmp .ne x 0 = true then t.toNat else nx) [] ls st g M = _ by rw [if_neg (by simp only [q_cmp, decide_eq_true_eq]; omega)])
theorem y_if_ne (h1 : x ≠ 0 → q_T md d P t.toNat [] ls st g M Q) (h2 : x = 0 → q_T md d P nx [] ls st g M Q) : q_T md d P nx [.ifCond .ne t] ls (qI x :: st) g M Q := by
  by_cases h : x ≠ 0
  · rw [y_if_ne_t h]; exact h1 h
  · rw [y_if_ne_f (by omega)]; exact h2 (by omega)
theorem y_ic_lt_t (h : x < y) : q_T md d P nx [.if_icmp .lt t] ls (qI y :: qI x :: st) g M Q = q_T md d P t.toNat [] ls st g M Q := q_T_next (show q_go (if q_cmp .lt x y = true then t.toNat else nx) [] ls st g M = _ by rw [if_pos (by simp only [q_cmp, decide_eq_true_eq]; omega)])
theorem y_ic_lt_f (h : y ≤ x) : q_T md d P nx [.if_icmp .lt t] ls (qI y :: qI x :: st) g M Q = q_T md d P nx [] ls st g M Q := q_T_next (show q_go (if q_cmp .lt x y = true then t.toNat else nx) [] ls st g M = _ by rw [if_neg (by simp only [q_cmp, decide_eq_true_eq]; omega)])
theorem y_ic_lt (h1 : x < y → q_T md d P t.toNat [] ls st g M Q) (h2 : y ≤ x → q_T md d P nx [] ls st g M Q) : q_T md d P nx [.if_icmp .lt t] ls (qI y :: qI x :: st) g M Q := by
  by_cases h : x < y
  · rw [y_ic_lt_t h]; exact h1 h
  · rw [y_ic_lt_f (by omega)]; exact h2 (by omega)
theorem y_if_lt_t (h : x < 0) : q_T md d P nx [.ifCond .lt t] ls (qI x :: st) g M Q = q_T md d P t.toNat [] ls st g M Q := q_T_next (show q_go (if q_cmp .lt x 0 = true then t.toNat else nx) [] ls st g M = _ by rw [if_pos (by simp only [q_cmp, decide_eq_true_eq]; omega)])
theorem y_if_lt_f (h : 0 ≤ x) : q_T md d P nx [.ifCond .lt t] ls (qI x :: st) g M Q = q_T md d P nx [] ls st g M Q := q_T_next (show q_go (if q_cmp .lt x 0 = true then t.toNat else nx) [] ls st g M = _ by rw [if_neg (by simp only [q_cmp, decide_eq_true_eq]; omega)])
theorem y_if_lt (h1 : x < 0 → q_T md d P t.toNat [] ls st g M Q) (h2 : 0 ≤ x → q_T md d P nx [] ls st g M Q) : q_T md d P nx [.ifCond .lt t] ls (qI x :: st) g M Q := by
  by_cases h : x < 0
  · rw [y_if_lt_t h]; exact h1 h
  · rw [y_if_lt_f (by omega)]; exact h2 (by omega)
theorem y_ic_ge_t (h : y ≤ x) : q_T md d P nx [.if_icmp .ge t] ls (qI y :: qI x :: st) g M Q = q_T md d P t.toNat [] ls st g M Q := q_T_next (show q_go (if q_cmp .ge x y = true then t.toNat else nx) [] ls st g M = _ by rw [if_pos (by simp only [q_cmp, decide_eq_true_eq]; omega)])
theorem y_ic_ge_f (h : x < y) : q_T md d P nx [.if_icmp .ge t] ls (qI y :: qI x :: st) g M Q = q_T md d P nx [] ls st g M Q := q_T_next (show q_go (if q_cmp .ge x y = true then t.toNat else nx) [] ls st g M = _ by rw [if_neg (by simp only [q_cmp, decide_eq_true_eq]; omega)])
theorem y_ic_ge (h1 : y ≤ x → q_T md d P t.toNat [] ls st g M Q) (h2 : x < y → q_T md d P nx [] ls st g M Q) : q_T md d P nx [.if_icmp .ge t] ls (qI y :: qI x :: st) g M Q := by
  by_cases h : y ≤ x
  · rw [y_ic_ge_t h]; exact h1 h
  · rw [y_ic_ge_f (by omega)]; exact h2 (by omega)
theorem y_if_ge_t (h : 0 ≤ x) : q_T md d P nx [.ifCond .ge t] ls (qI x :: st) g M Q = q_T md d P t.toNat [] ls st g M Q := q_T_next (show q_go (if q_cmp .ge x 0 = true then t.toNat else nx) [] ls st g M = _ by rw [if_pos (by simp only [q_cmp, decide_eq_true_eq]; omega)])
theorem y_if_ge_f (h : x < 0) : q_T md d P nx [.ifCond .ge t] ls (qI x :: st) g M Q = q_T md d P nx [] ls st g M Q := q_T_next (show q_go (if q_cmp .ge x 0 = true then t.toNat else nx) [] ls st g M = _ by rw [if_neg (by simp only [q_cmp, decide_eq_true_eq]; omega)])
theorem y_if_ge (h1 : 0 ≤ x → q_T md d P t.toNat [] ls st g M Q) (h2 : x < 0 → q_T md d P nx [] ls st g M Q) : q_T md d P nx [.ifCond .ge t] ls (qI x :: st) g M Q := by
  by_cases h : 0 ≤ x
  · rw [y_if_ge_t h]; exact h1 h
  · rw [y_if_ge_f (by omega)]; exact h2 (by omega)
theorem y_ic_gt_t (h : y < x) : q_T md d P nx [.if_icmp .gt t] ls (qI y :: qI x :: st) g M Q = q_T md d P t.toNat [] ls st g M Q := q_T_next (show q_go (if q_cmp .gt x y = true then t.toNat else nx) [] ls st g M = _ by rw [if_pos (by simp only [q_cmp, decide_eq_true_eq]; omega)])
theorem y_ic_gt_f (h : x ≤ y) : q_T md d P nx [.if_icmp .gt t] ls (qI y :: qI x :: st) g M Q = q_T md d P nx [] ls st g M Q := q_T_next (show q_go (if q_cmp .gt x y = true then t.toNat else nx) [] ls st g M = _ by rw [if_neg (by simp only [q_cmp, decide_eq_true_eq]; omega)])
theorem y_ic_gt (h1 : y < x → q_T md d P t.toNat [] ls st g M Q) (h2 : x ≤ y → q_T md d P nx [] ls st g M Q) : q_T md d P nx [.if_icmp .gt t] ls (qI y :: qI x :: st) g M Q := by
  by_cases h : y < x
  · rw [y_ic_gt_t h]; exact h1 h
  · rw [y_ic_gt_f (by omega)]; exact h2 (by omega)
theorem y_if_gt_t (h : 0 < x) : q_T md d P nx [.ifCond .gt t] ls (qI x :: st) g M Q = q_T md d P t.toNat [] ls st g M Q := q_T_next (show q_go (if q_cmp .gt x 0 = true then t.toNat else nx) [] ls st g M = _ by rw [if_pos (by simp only [q_cmp, decide_eq_true_eq]; omega)])
theorem y_if_gt_f (h : x ≤ 0) : q_T md d P nx [.ifCond .gt t] ls (qI x :: st) g M Q = q_T md d P nx [] ls st g M Q := q_T_next (show q_go (if q_cmp .gt x 0 = true then t.toNat else nx) [] ls st g M = _ by rw [if_neg (by simp only [q_cmp, decide_eq_true_eq]; omega)])
theorem y_if_gt (h1 : 0 < x → q_T md d P t.toNat [] ls st g M Q) (h2 : x ≤ 0 → q_T md d P nx [] ls st g M Q) : q_T md d P nx [.ifCond .gt t] ls (qI x :: st) g M Q := by
  by_cases h : 0 < x
  · rw [y_if_gt_t h]; exact h1 h
  · rw [y_if_gt_f (by omega)]; exact h2 (by omega)
theorem y_ic_le_t (h : x ≤ y) : q_T md d P nx [.if_icmp .le t] ls (qI y :: qI x :: st) g M Q = q_T md d P t.toNat [] ls st g M Q := q_T_next (show q_go (if q_cmp .le x y = true then t.toNat else nx) [] ls st g M = _ by rw [if_pos (by simp only [q_cmp, decide_eq_true_eq]; omega)])
theorem y_ic_le_f (h : y < x) : q_T md d P nx [.if_icmp .le t] ls (qI y :: qI x :: st) g M Q = q_T md d P nx [] ls st g M Q := q_T_next (show q_go (if q_cmp .le x y = true then t.toNat else nx) [] ls st g M = _ by rw [if_neg (by simp only [q_cmp, decide_eq_true_eq]; omega)])
theorem y_ic_le (h1 : x ≤ y → q_T md d P t.toNat [] ls st g M Q) (h2 : y < x → q_T md d P nx [] ls st g M Q) : q_T md d P nx [.if_icmp .le t] ls (qI y :: qI x :: st) g M Q := by
  by_cases h : x ≤ y
  · rw [y_ic_le_t h]; exact h1 h
  · rw [y_ic_le_f (by omega)]; exact h2 (by omega)
theorem y_if_le_t (h : x ≤ 0) : q_T md d P nx [.ifCond .le t] ls (qI x :: st) g M Q = q_T md d P t.toNat [] ls st g M Q := q_T_next (show q_go (if q_cmp .le x 0 = true then t.toNat else nx) [] ls st g M = _ by rw [if_pos (by simp only [q_cmp, decide_eq_true_eq]; omega)])
theorem y_if_le_f (h : 0 < x) : q_T md d P nx [.ifCond .le t] ls (qI x :: st) g M Q = q_T md d P nx [] ls st g M Q := q_T_next (show q_go (if q_cmp .le x 0 = true then t.toNat else nx) [] ls st g M = _ by rw [if_neg (by simp only [q_cmp, decide_eq_true_eq]; omega)])
theorem y_if_le (h1 : x ≤ 0 → q_T md d P t.toNat [] ls st g M Q) (h2 : 0 < x → q_T md d P nx [] ls st g M Q) : q_T md d P nx [.ifCond .le t] ls (qI x :: st) g M Q := by
  by_cases h : x ≤ 0
  · rw [y_if_le_t h]; exact h1 h
  · rw [y_if_le_f (by omega)]; exact h2 (by omega)
theorem y_iald_23 (h0 : 0 ≤ j) (h1 : j < 3) : q_T md d P nx (.iaload :: ops) ls (qI j :: qR 23 a :: st) g M Q = q_T md d P nx ops ls (qI (M a j.toNat) :: st) g M Q := by rw [x_iald_23]; simp only [h0, h1, true_and, and_self]
theorem y_iast_23 (h0 : 0 ≤ j) (h1 : j < 3) : q_T md d P nx (.iastore :: ops) ls (qI x :: qI j :: qR 23 a :: st) g M Q = q_T md d P nx ops ls st g (q_upd M a j.toNat x) Q := by rw [x_iast_23]; simp only [h0, h1, true_and, and_self]
theorem y_iald_24 (h0 : 0 ≤ j) (h1 : j < 4) : q_T md d P nx (.iaload :: ops) ls (qI j :: qR 24 a :: st) g M Q = q_T md d P nx ops ls (qI (M a j.toNat) :: st) g M Q := by rw [x_iald_24]; simp only [h0, h1, true_and, and_self]
theorem y_iast_24 (h0 : 0 ≤ j) (h1 : j < 4) : q_T md d P nx (.iastore :: ops) ls (qI x :: qI j :: qR 24 a :: st) g M Q = q_T md d P nx ops ls st g (q_upd M a j.toNat x) Q := by rw [x_iast_24]; simp only [h0, h1, true_and, and_self]
theorem y_iald_25 (h0 : 0 ≤ j) (h1 : j < 5) : q_T md d P nx (.iaload :: ops) ls (qI j :: qR 25 a :: st) g M Q = q_T md d P nx ops ls (qI (M a j.toNat) :: st) g M Q := by rw [x_iald_25]; simp only [h0, h1, true_and, and_self]
theorem y_iast_25 (h0 : 0 ≤ j) (h1 : j < 5) : q_T md d P nx (.iastore :: ops) ls (qI x :: qI j :: qR 25 a :: st) g M Q = q_T md d P nx ops ls st g (q_upd M a j.toNat x) Q := by rw [x_iast_25]; simp only [h0, h1, true_and, and_self]
theorem y_iald_26 (h0 : 0 ≤ j) (h1 : j < 6) : q_T md d P nx (.iaload :: ops) ls (qI j :: qR 26 a :: st) g M Q = q_T md d P nx ops ls (qI (M a j.toNat) :: st) g M Q := by rw [x_iald_26]; simp only [h0, h1, true_and, and_self]
theorem y_iast_26 (h0 : 0 ≤ j) (h1 : j < 6) : q_T md d P nx (.iastore :: ops) ls (qI x :: qI j :: qR 26 a :: st) g M Q = q_T md d P nx ops ls st g (q_upd M a j.toNat x) Q := by rw [x_iast_26]; simp only [h0, h1, true_and, and_self]
theorem y_iald_35 (h0 : 0 ≤ j) (h1 : j < 15) : q_T md d P nx (.iaload :: ops) ls (qI j :: qR 35 a :: st) g M Q = q_T md d P nx ops ls (qI (M a j.toNat) :: st) g M Q := by rw [x_iald_35]; simp only [h0, h1, true_and, and_self]
theorem y_iast_35 (h0 : 0 ≤ j) (h1 : j < 15) : q_T md d P nx (.iastore :: ops) ls (qI x :: qI j :: qR 35 a :: st) g M Q = q_T md d P nx ops ls st g (q_upd M a j.toNat x) Q := by rw [x_iast_35]; simp only [h0, h1, true_and, and_self]
theorem y_iald_40 (h0 : 0 ≤ j) (h1 : j < 20) : q_T md d P nx (.iaload :: ops) ls (qI j :: qR 40 a :: st) g M Q = q_T md d P nx ops ls (qI (M a j.toNat) :: st) g M Q := by rw [x_iald_40]; simp only [h0, h1, true_and, and_self]
theorem y_iast_40 (h0 : 0 ≤ j) (h1 : j < 20) : q_T md d P nx (.iastore :: ops) ls (qI x :: qI j :: qR 40 a :: st) g M Q = q_T md d P nx ops ls st g (q_upd M a j.toNat x) Q := by rw [x_iast_40]; simp only [h0, h1, true_and, and_self]
theorem y_iald_44 (h0 : 0 ≤ j) (h1 : j < 24) : q_T md d P nx (.iaload :: ops) ls (qI j :: qR 44 a :: st) g M Q = q_T md d P nx ops ls (qI (M a j.toNat) :: st) g M Q := by rw [x_iald_44]; simp only [h0, h1, true_and, and_self]
theorem y_iast_44 (h0 : 0 ≤ j) (h1 : j < 24) : q_T md d P nx (.iastore :: ops) ls (qI x :: qI j :: qR 44 a :: st) g M Q = q_T md d P nx ops ls st g (q_upd M a j.toNat x) Q := by rw [x_iast_44]; simp only [h0, h1, true_and, and_self]
theorem y_iald_45 (h0 : 0 ≤ j) (h1 : j < 25) : q_T md d P nx (.iaload :: ops) ls (qI j :: qR 45 a :: st) g M Q = q_T md d P nx ops ls (qI (M a j.toNat) :: st) g M Q := by rw [x_iald_45]; simp only [h0, h1, true_and, and_self]
theorem y_iast_45 (h0 : 0 ≤ j) (h1 : j < 25) : q_T md d P nx (.iastore :: ops) ls (qI x :: qI j :: qR 45 a :: st) g M Q = q_T md d P nx ops ls st g (q_upd M a j.toNat x) Q := by rw [x_iast_45]; simp only [h0, h1, true_and, and_self]
theorem y_iald_55 (h0 : 0 ≤ j) (h1 : j < 35) : q_T md d P nx (.iaload :: ops) ls (qI j :: qR 55 a :: st) g M Q = q_T md d P nx ops ls (qI (M a j.toNat) :: st) g M Q := by rw [x_iald_55]; simp only [h0, h1, true_and, and_self]
theorem y_iast_55 (h0 : 0 ≤ j) (h1 : j < 35) : q_T md d P nx (.iastore :: ops) ls (qI x :: qI j :: qR 55 a :: st) g M Q = q_T md d P nx ops ls st g (q_upd M a j.toNat x) Q := by rw [x_iast_55]; simp only [h0, h1, true_and, and_self]
theorem y_iald_56 (h0 : 0 ≤ j) (h1 : j < 36) : q_T md d P nx (.iaload :: ops) ls (qI j :: qR 56 a :: st) g M Q = q_T md d P nx ops ls (qI (M a j.toNat) :: st) g M Q := by rw [x_iald_56]; simp only [h0, h1, true_and, and_self]
theorem y_iast_56 (h0 : 0 ≤ j) (h1 : j < 36) : q_T md d P nx (.iastore :: ops) ls (qI x :: qI j :: qR 56 a :: st) g M Q = q_T md d P nx ops ls st g (q_upd M a j.toNat x) Q := by rw [x_iast_56]; simp only [h0, h1, true_and, and_self]
theorem y_iald_60 (h0 : 0 ≤ j) (h1 : j < 40) : q_T md d P nx (.iaload :: ops) ls (qI j :: qR 60 a :: st) g M Q = q_T md d P nx ops ls (qI (M a j.toNat) :: st) g M Q := by rw [x_iald_60]; simp only [h0, h1, true_and, and_self]
theorem y_iast_60 (h0 : 0 ≤ j) (h1 : j < 40) : q_T md d P nx (.iastore :: ops) ls (qI x :: qI j :: qR 60 a :: st) g M Q = q_T md d P nx ops ls st g (q_upd M a j.toNat x) Q := by rw [x_iast_60]; simp only [h0, h1, true_and, and_self]
theorem y_iald_116 (h0 : 0 ≤ j) (h1 : j < 96) : q_T md d P nx (.iaload :: ops) ls (qI j :: qR 116 a :: st) g M Q = q_T md d P nx ops ls (qI (M a j.toNat) :: st) g M Q := by rw [x_iald_116]; simp only [h0, h1, true_and, and_self]
theorem y_iast_116 (h0 : 0 ≤ j) (h1 : j < 96) : q_T md d P nx (.iastore :: ops) ls (qI x :: qI j :: qR 116 a :: st) g M Q = q_T md d P nx ops ls st g (q_upd M a j.toNat x) Q := by rw [x_iast_116]; simp only [h0, h1, true_and, and_self]
theorem y_iald_180 (h0 : 0 ≤ j) (h1 : j < 160) : q_T md d P nx (.iaload :: ops) ls (qI j :: qR 180 a :: st) g M Q = q_T md d P nx ops ls (qI (M a j.toNat) :: st) g M Q := by rw [x_iald_180]; simp only [h0, h1, true_and, and_self]
theorem y_iast_180 (h0 : 0 ≤ j) (h1 : j < 160) : q_T md d P nx (.iastore :: ops) ls (qI x :: qI j :: qR 180 a :: st) g M Q = q_T md d P nx ops ls st g (q_upd M a j.toNat x) Q := by rw [x_iast_180]; simp only [h0, h1, true_and, and_self]
theorem y_iald_220 (h0 : 0 ≤ j) (h1 : j < 200) : q_T md d P nx (.iaload :: ops) ls (qI j :: qR 220 a :: st) g M Q = q_T md d P nx ops ls (qI (M a j.toNat) :: st) g M Q := by rw [x_iald_220]; simp only [h0, h1, true_and, and_self]
theorem y_iast_220 (h0 : 0 ≤ j) (h1 : j < 200) : q_T md d P nx (.iastore :: ops) ls (qI x :: qI j :: qR 220 a :: st) g M Q = q_T md d P nx ops ls st g (q_upd M a j.toNat x) Q := by rw [x_iast_220]; simp only [h0, h1, true_and, and_self]
theorem y_iald_1220 (h0 : 0 ≤ j) (h1 : j < 1200) : q_T md d P nx (.iaload :: ops) ls (qI j :: qR 1220 a :: st) g M Q = q_T md d P nx ops ls (qI (M a j.toNat) :: st) g M Q := by rw [x_iald_1220]; simp only [h0, h1, true_and, and_self]
theorem y_iast_1220 (h0 : 0 ≤ j) (h1 : j < 1200) : q_T md d P nx (.iastore :: ops) ls (qI x :: qI j :: qR 1220 a :: st) g M Q = q_T md d P nx ops ls st g (q_upd M a j.toNat x) Q := by rw [x_iast_1220]; simp only [h0, h1, true_and, and_self]
theorem y_aald7 (h0 : 0 ≤ j) (h1 : j < 6) : q_T 1 d P nx (.aaload :: ops) ls (qI j :: qR 7 a :: st) g M Q = q_T 1 d P nx ops ls (qR 26 (a + (1 + j.toNat)) :: st) g M Q := by rw [x_aald7]; simp only [h0, h1, true_and, and_self]
theorem y_aald8 (h0 : 0 ≤ j) (h1 : j < 6) : q_T 1 d P nx (.aaload :: ops) ls (qI j :: qR 8 a :: st) g M Q = q_T 1 d P nx ops ls (q_dyn 3 (M a j.toNat) :: st) g M Q := by rw [x_aald8]; simp only [h0, h1, true_and, and_self]
theorem y_aald9 (h0 : 0 ≤ j) (h1 : j < 4) : q_T 1 d P nx (.aaload :: ops) ls (qI j :: qR 9 a :: st) g M Q = q_T 1 d P nx ops ls (qR 2 (a + (86 + 2 * j.toNat)) :: st) g M Q := by rw [x_aald9]; simp only [h0, h1, true_and, and_self]
theorem y_sald (h0 : 0 ≤ j) (h1 : j < M 1000001 0) : q_T md d P nx (.iaload :: ops) ls (qI j :: qS 2 :: st) g M Q = q_T md d P nx ops ls (qI (M 1000000 j.toNat) :: st) g M Q := by rw [x_sald]; simp only [h0, h1, true_and, and_self]
theorem y_tsw_o {dd lo hi : Int} {offs : Array Int} (h : x < lo ∨ hi < x) : q_T md d P nx [.tableswitch dd lo hi offs] ls (qI x :: st) g M Q = q_T md d P dd.toNat [] ls st g M Q := by rw [x_tsw, if_pos h]
theorem y_idiv (h : y ≠ 0) : q_T md d P nx (.idiv :: ops) ls (qI y :: qI x :: st) g M Q = q_T md d P nx ops ls (qI (q_div x y) :: st) g M Q := q_T_next (show (if y = 0 then none else _) = _ by rw [if_neg h])
theorem y_irem (h : y ≠ 0) : q_T md d P nx (.irem :: ops) ls (qI y :: qI x :: st) g M Q = q_T md d P nx ops ls (qI (q_rem x y) :: st) g M Q := q_T_next (show (if y = 0 then none else _) = _ by rw [if_neg h])
theorem y_ldiv (h : y ≠ 0) : q_T md d P nx (.ldiv :: ops) ls (qL y :: qL x :: st) g M Q = q_T md d P nx ops ls (qL (q_ldiv x y) :: st) g M Q := q_T_next (show (if y = 0 then none else _) = _ by rw [if_neg h])
theorem y_lrem (h : y ≠ 0) : q_T md d P nx (.lrem :: ops) ls (qL y :: qL x :: st) g M Q = q_T md d P nx ops ls (qL (q_lrem x y) :: st) g M Q := q_T_next (show (if y = 0 then none else _) = _ by rw [if_neg h])
end YOPS
theorem q_upd_s {M : q_M} {a i : Nat} {x : Int} : q_upd M a i x a i = x := if_pos ⟨rfl, rfl⟩
theorem q_upd_n {M : q_M} {a i b j : Nat} {x : Int} (h : b ≠ a ∨ j ≠ i) : q_upd M a i x b j = M b j := if_neg (fun q => by rcases h with h | h; exact h q.1; exact h q.2)
/-- the same from the model on -/
def q_same (M M2 : q_M) : Prop := ∀ a i, 100 ≤ a → M2 a i = M a i
theorem q_same_rf {M : q_M} : q_same M M := fun _ _ _ => rfl
theorem q_same_up {M M2 : q_M} {b j : Nat} {x : Int} (h : q_same M M2) (hb : b < 100) : q_same M (q_upd M2 b j x) := fun a i ha => by rw [q_upd_n (Or.inl (by omega))]; exact h a i ha
theorem q_same_cpy {M M2 : q_M} {s sp b dp n : Nat} (h : q_same M M2) (hb : b < 100) : q_same M (q_cpy M2 s sp b dp n) := fun a i ha => by unfold q_cpy; rw [if_neg (by omega)]; exact h a i ha
end
section
/-! FACTS OF THE FIRST STATE, AND THE SWITCHES -/
section FACTS
variable {B : q_M}
theorem m_0_0 : q_lk q_T0 B 0 0 = 1 := rfl
theorem m_0_1 : q_lk q_T0 B 0 1 = 5 := rfl
theorem m_0_2 : q_lk q_T0 B 0 2 = 1 := rfl
theorem m_0_3 : q_lk q_T0 B 0 3 = 11 := rfl
theorem m_0_4 : q_lk q_T0 B 0 4 = 38 := rfl
theorem m_0_5 : q_lk q_T0 B 0 5 = 65 := rfl
theorem m_0_6 : q_lk q_T0 B 0 6 = 0 := rfl
theorem m_0_7 : q_lk q_T0 B 0 7 = 6 := rfl
theorem m_1_0 : q_lk q_T0 B 1 0 = 2 := rfl
theorem m_1_1 : q_lk q_T0 B 1 1 = 0 := rfl
theorem m_1_2 : q_lk q_T0 B 1 2 = 3 := rfl
theorem m_1_3 : q_lk q_T0 B 1 3 = 8 := rfl
theorem m_1_4 : q_lk q_T0 B 1 4 = 4 := rfl
theorem m_1_5 : q_lk q_T0 B 1 5 = (-2) := rfl
theorem m_1_6 : q_lk q_T0 B 1 6 = 9 := rfl
theorem m_1_7 : q_lk q_T0 B 1 7 = 40 := rfl
theorem m_1_8 : q_lk q_T0 B 1 8 = 40 := rfl
theorem m_1_9 : q_lk q_T0 B 1 9 = (-1) := rfl
theorem m_4_0 : q_lk q_T0 B 4 0 = 0 := rfl
theorem m_4_1 : q_lk q_T0 B 4 1 = 4 := rfl
theorem m_4_2 : q_lk q_T0 B 4 2 = 6 := rfl
theorem m_5_0 : q_lk q_T0 B 5 0 = 8 := rfl
theorem m_5_1 : q_lk q_T0 B 5 1 = (-1) := rfl
theorem m_5_2 : q_lk q_T0 B 5 2 = (-1) := rfl
theorem m_5_3 : q_lk q_T0 B 5 3 = (-1) := rfl
theorem m_5_4 : q_lk q_T0 B 5 4 = (-1) := rfl
theorem m_5_5 : q_lk q_T0 B 5 5 = (-1) := rfl
theorem m_6_0 : q_lk q_T0 B 6 0 = 92 := rfl
theorem m_6_1 : q_lk q_T0 B 6 1 = 94 := rfl
theorem m_6_2 : q_lk q_T0 B 6 2 = 96 := rfl
theorem m_6_3 : q_lk q_T0 B 6 3 = 98 := rfl
theorem m_7_0 : q_lk q_T0 B 7 0 = 1585 := rfl
theorem m_7_1 : q_lk q_T0 B 7 1 = 2 := rfl
theorem m_7_2 : q_lk q_T0 B 7 2 = 7 := rfl
theorem m_7_3 : q_lk q_T0 B 7 3 = 0 := rfl
theorem m_7_4 : q_lk q_T0 B 7 4 = 50 := rfl
theorem m_7_5 : q_lk q_T0 B 7 5 = 0 := rfl
theorem m_7_6 : q_lk q_T0 B 7 6 = 145 := rfl
theorem m_7_7 : q_lk q_T0 B 7 7 = 0 := rfl
theorem m_8_0 : q_lk q_T0 B 8 0 = 0 := rfl
theorem m_8_1 : q_lk q_T0 B 8 1 = 7 := rfl
theorem m_8_2 : q_lk q_T0 B 8 2 = 9 := rfl
theorem m_8_3 : q_lk q_T0 B 8 3 = 10 := rfl
theorem m_9_0 : q_lk q_T0 B 9 0 = 0 := rfl
theorem m_9_1 : q_lk q_T0 B 9 1 = 4 := rfl
theorem m_9_2 : q_lk q_T0 B 9 2 = 6 := rfl
theorem m_10_0 : q_lk q_T0 B 10 0 = 0 := rfl
theorem m_10_1 : q_lk q_T0 B 10 1 = 0 := rfl
theorem m_10_2 : q_lk q_T0 B 10 2 = 0 := rfl
theorem m_10_3 : q_lk q_T0 B 10 3 = 0 := rfl
theorem m_10_4 : q_lk q_T0 B 10 4 = 0 := rfl
theorem m_10_5 : q_lk q_T0 B 10 5 = 0 := rfl
theorem m_10_6 : q_lk q_T0 B 10 6 = 0 := rfl
theorem m_10_7 : q_lk q_T0 B 10 7 = 0 := rfl
theorem m_10_8 : q_lk q_T0 B 10 8 = 0 := rfl
theorem m_10_9 : q_lk q_T0 B 10 9 = 0 := rfl
theorem m_10_10 : q_lk q_T0 B 10 10 = 0 := rfl
theorem m_10_11 : q_lk q_T0 B 10 11 = 0 := rfl
theorem m_10_12 : q_lk q_T0 B 10 12 = 0 := rfl
theorem m_10_13 : q_lk q_T0 B 10 13 = 0 := rfl
theorem m_10_14 : q_lk q_T0 B 10 14 = 0 := rfl
theorem m_10_15 : q_lk q_T0 B 10 15 = 0 := rfl
theorem m_10_16 : q_lk q_T0 B 10 16 = 0 := rfl
theorem m_10_17 : q_lk q_T0 B 10 17 = 0 := rfl
theorem m_10_18 : q_lk q_T0 B 10 18 = 0 := rfl
theorem m_10_19 : q_lk q_T0 B 10 19 = 0 := rfl
theorem m_10_20 : q_lk q_T0 B 10 20 = 0 := rfl
theorem m_10_21 : q_lk q_T0 B 10 21 = 0 := rfl
theorem m_10_22 : q_lk q_T0 B 10 22 = 0 := rfl
theorem m_10_23 : q_lk q_T0 B 10 23 = 0 := rfl
theorem m_10_24 : q_lk q_T0 B 10 24 = 0 := rfl
theorem m_10_25 : q_lk q_T0 B 10 25 = 0 := rfl
theorem m_10_26 : q_lk q_T0 B 10 26 = 0 := rfl
theorem m_10_27 : q_lk q_T0 B 10 27 = 0 := rfl
theorem m_10_28 : q_lk q_T0 B 10 28 = 0 := rfl
theorem m_10_29 : q_lk q_T0 B 10 29 = 0 := rfl
theorem m_10_30 : q_lk q_T0 B 10 30 = 0 := rfl
theorem m_10_31 : q_lk q_T0 B 10 31 = 0 := rfl
theorem m_10_32 : q_lk q_T0 B 10 32 = 0 := rfl
theorem m_10_33 : q_lk q_T0 B 10 33 = 0 := rfl
theorem m_10_34 : q_lk q_T0 B 10 34 = 0 := rfl
theorem m_10_35 : q_lk q_T0 B 10 35 = 0 := rfl
theorem m_10_36 : q_lk q_T0 B 10 36 = 0 := rfl
theorem m_10_37 : q_lk q_T0 B 10 37 = 0 := rfl
theorem m_10_38 : q_lk q_T0 B 10 38 = 0 := rfl
theorem m_10_39 : q_lk q_T0 B 10 39 = 0 := rfl
theorem m_11_0 : q_lk q_T0 B 11 0 = 12 := rfl
theorem m_11_1 : q_lk q_T0 B 11 1 = 30 := rfl
theorem m_11_2 : q_lk q_T0 B 11 2 = 31 := rfl
theorem m_11_3 : q_lk q_T0 B 11 3 = 32 := rfl
theorem m_11_4 : q_lk q_T0 B 11 4 = 33 := rfl
theorem m_11_5 : q_lk q_T0 B 11 5 = 34 := rfl
theorem m_11_6 : q_lk q_T0 B 11 6 = 35 := rfl
theorem m_11_7 : q_lk q_T0 B 11 7 = 36 := rfl
theorem m_11_8 : q_lk q_T0 B 11 8 = 37 := rfl
theorem m_11_9 : q_lk q_T0 B 11 9 = 0 := rfl
theorem m_11_10 : q_lk q_T0 B 11 10 = 8 := rfl
theorem m_12_0 : q_lk q_T0 B 12 0 = 13 := rfl
theorem m_12_1 : q_lk q_T0 B 12 1 = 14 := rfl
theorem m_12_2 : q_lk q_T0 B 12 2 = 15 := rfl
theorem m_12_3 : q_lk q_T0 B 12 3 = 22 := rfl
theorem m_12_4 : q_lk q_T0 B 12 4 = 29 := rfl
theorem m_12_5 : q_lk q_T0 B 12 5 = 0 := rfl
theorem m_13_0 : q_lk q_T0 B 13 0 = 1 := rfl
theorem m_13_1 : q_lk q_T0 B 13 1 = 1 := rfl
theorem m_13_2 : q_lk q_T0 B 13 2 = 1 := rfl
theorem m_13_3 : q_lk q_T0 B 13 3 = 1 := rfl
theorem m_13_4 : q_lk q_T0 B 13 4 = 1 := rfl
theorem m_13_5 : q_lk q_T0 B 13 5 = 0 := rfl
theorem m_14_0 : q_lk q_T0 B 14 0 = 0 := rfl
theorem m_14_1 : q_lk q_T0 B 14 1 = 0 := rfl
theorem m_14_2 : q_lk q_T0 B 14 2 = 0 := rfl
theorem m_14_3 : q_lk q_T0 B 14 3 = 0 := rfl
theorem m_14_4 : q_lk q_T0 B 14 4 = 0 := rfl
theorem m_14_5 : q_lk q_T0 B 14 5 = 0 := rfl
theorem m_15_0 : q_lk q_T0 B 15 0 = 16 := rfl
theorem m_15_1 : q_lk q_T0 B 15 1 = 17 := rfl
theorem m_15_2 : q_lk q_T0 B 15 2 = 18 := rfl
theorem m_15_3 : q_lk q_T0 B 15 3 = 19 := rfl
theorem m_15_4 : q_lk q_T0 B 15 4 = 20 := rfl
theorem m_15_5 : q_lk q_T0 B 15 5 = 21 := rfl
theorem m_16_0 : q_lk q_T0 B 16 0 = 0 := rfl
theorem m_16_1 : q_lk q_T0 B 16 1 = 0 := rfl
theorem m_16_2 : q_lk q_T0 B 16 2 = 0 := rfl
theorem m_16_3 : q_lk q_T0 B 16 3 = 0 := rfl
theorem m_16_4 : q_lk q_T0 B 16 4 = 0 := rfl
theorem m_16_5 : q_lk q_T0 B 16 5 = 0 := rfl
theorem m_17_0 : q_lk q_T0 B 17 0 = 0 := rfl
theorem m_17_1 : q_lk q_T0 B 17 1 = 0 := rfl
theorem m_17_2 : q_lk q_T0 B 17 2 = 0 := rfl
theorem m_17_3 : q_lk q_T0 B 17 3 = 0 := rfl
theorem m_17_4 : q_lk q_T0 B 17 4 = 0 := rfl
theorem m_17_5 : q_lk q_T0 B 17 5 = 0 := rfl
theorem m_18_0 : q_lk q_T0 B 18 0 = 0 := rfl
theorem m_18_1 : q_lk q_T0 B 18 1 = 0 := rfl
theorem m_18_2 : q_lk q_T0 B 18 2 = 0 := rfl
theorem m_18_3 : q_lk q_T0 B 18 3 = 0 := rfl
theorem m_18_4 : q_lk q_T0 B 18 4 = 0 := rfl
theorem m_18_5 : q_lk q_T0 B 18 5 = 0 := rfl
theorem m_19_0 : q_lk q_T0 B 19 0 = 0 := rfl
theorem m_19_1 : q_lk q_T0 B 19 1 = 0 := rfl
theorem m_19_2 : q_lk q_T0 B 19 2 = 0 := rfl
theorem m_19_3 : q_lk q_T0 B 19 3 = 0 := rfl
theorem m_19_4 : q_lk q_T0 B 19 4 = 0 := rfl
theorem m_19_5 : q_lk q_T0 B 19 5 = 0 := rfl
theorem m_20_0 : q_lk q_T0 B 20 0 = 0 := rfl
theorem m_20_1 : q_lk q_T0 B 20 1 = 0 := rfl
theorem m_20_2 : q_lk q_T0 B 20 2 = 0 := rfl
theorem m_20_3 : q_lk q_T0 B 20 3 = 0 := rfl
theorem m_20_4 : q_lk q_T0 B 20 4 = 0 := rfl
theorem m_20_5 : q_lk q_T0 B 20 5 = 0 := rfl
theorem m_21_0 : q_lk q_T0 B 21 0 = 0 := rfl
theorem m_21_1 : q_lk q_T0 B 21 1 = 0 := rfl
theorem m_21_2 : q_lk q_T0 B 21 2 = 0 := rfl
theorem m_21_3 : q_lk q_T0 B 21 3 = 0 := rfl
theorem m_21_4 : q_lk q_T0 B 21 4 = 0 := rfl
theorem m_21_5 : q_lk q_T0 B 21 5 = 0 := rfl
theorem m_22_0 : q_lk q_T0 B 22 0 = 23 := rfl
theorem m_22_1 : q_lk q_T0 B 22 1 = 24 := rfl
theorem m_22_2 : q_lk q_T0 B 22 2 = 25 := rfl
theorem m_22_3 : q_lk q_T0 B 22 3 = 26 := rfl
theorem m_22_4 : q_lk q_T0 B 22 4 = 27 := rfl
theorem m_22_5 : q_lk q_T0 B 22 5 = 28 := rfl
theorem m_23_0 : q_lk q_T0 B 23 0 = 0 := rfl
theorem m_23_1 : q_lk q_T0 B 23 1 = 0 := rfl
theorem m_23_2 : q_lk q_T0 B 23 2 = 0 := rfl
theorem m_23_3 : q_lk q_T0 B 23 3 = 0 := rfl
theorem m_23_4 : q_lk q_T0 B 23 4 = 0 := rfl
theorem m_23_5 : q_lk q_T0 B 23 5 = 0 := rfl
theorem m_24_0 : q_lk q_T0 B 24 0 = 0 := rfl
theorem m_24_1 : q_lk q_T0 B 24 1 = 0 := rfl
theorem m_24_2 : q_lk q_T0 B 24 2 = 0 := rfl
theorem m_24_3 : q_lk q_T0 B 24 3 = 0 := rfl
theorem m_24_4 : q_lk q_T0 B 24 4 = 0 := rfl
theorem m_24_5 : q_lk q_T0 B 24 5 = 0 := rfl
theorem m_25_0 : q_lk q_T0 B 25 0 = 0 := rfl
theorem m_25_1 : q_lk q_T0 B 25 1 = 0 := rfl
theorem m_25_2 : q_lk q_T0 B 25 2 = 0 := rfl
theorem m_25_3 : q_lk q_T0 B 25 3 = 0 := rfl
theorem m_25_4 : q_lk q_T0 B 25 4 = 0 := rfl
theorem m_25_5 : q_lk q_T0 B 25 5 = 0 := rfl
theorem m_26_0 : q_lk q_T0 B 26 0 = 0 := rfl
theorem m_26_1 : q_lk q_T0 B 26 1 = 0 := rfl
theorem m_26_2 : q_lk q_T0 B 26 2 = 0 := rfl
theorem m_26_3 : q_lk q_T0 B 26 3 = 0 := rfl
theorem m_26_4 : q_lk q_T0 B 26 4 = 0 := rfl
theorem m_26_5 : q_lk q_T0 B 26 5 = 0 := rfl
theorem m_27_0 : q_lk q_T0 B 27 0 = 0 := rfl
theorem m_27_1 : q_lk q_T0 B 27 1 = 0 := rfl
theorem m_27_2 : q_lk q_T0 B 27 2 = 0 := rfl
theorem m_27_3 : q_lk q_T0 B 27 3 = 0 := rfl
theorem m_27_4 : q_lk q_T0 B 27 4 = 0 := rfl
theorem m_27_5 : q_lk q_T0 B 27 5 = 0 := rfl
theorem m_28_0 : q_lk q_T0 B 28 0 = 0 := rfl
theorem m_28_1 : q_lk q_T0 B 28 1 = 0 := rfl
theorem m_28_2 : q_lk q_T0 B 28 2 = 0 := rfl
theorem m_28_3 : q_lk q_T0 B 28 3 = 0 := rfl
theorem m_28_4 : q_lk q_T0 B 28 4 = 0 := rfl
theorem m_28_5 : q_lk q_T0 B 28 5 = 0 := rfl
theorem m_29_0 : q_lk q_T0 B 29 0 = 0 := rfl
theorem m_29_1 : q_lk q_T0 B 29 1 = 0 := rfl
theorem m_29_2 : q_lk q_T0 B 29 2 = 0 := rfl
theorem m_29_3 : q_lk q_T0 B 29 3 = 0 := rfl
theorem m_29_4 : q_lk q_T0 B 29 4 = 0 := rfl
theorem m_29_5 : q_lk q_T0 B 29 5 = 0 := rfl
theorem m_30_0 : q_lk q_T0 B 30 0 = 0 := rfl
theorem m_30_1 : q_lk q_T0 B 30 1 = 20 := rfl
theorem m_30_2 : q_lk q_T0 B 30 2 = 40 := rfl
theorem m_30_3 : q_lk q_T0 B 30 3 = 60 := rfl
theorem m_30_4 : q_lk q_T0 B 30 4 = 80 := rfl
theorem m_30_5 : q_lk q_T0 B 30 5 = 0 := rfl
theorem m_31_0 : q_lk q_T0 B 31 0 = 0 := rfl
theorem m_31_1 : q_lk q_T0 B 31 1 = 0 := rfl
theorem m_31_2 : q_lk q_T0 B 31 2 = 0 := rfl
theorem m_31_3 : q_lk q_T0 B 31 3 = 0 := rfl
theorem m_31_4 : q_lk q_T0 B 31 4 = 0 := rfl
theorem m_31_5 : q_lk q_T0 B 31 5 = 0 := rfl
theorem m_32_0 : q_lk q_T0 B 32 0 = 0 := rfl
theorem m_32_1 : q_lk q_T0 B 32 1 = 0 := rfl
theorem m_32_2 : q_lk q_T0 B 32 2 = 0 := rfl
theorem m_32_3 : q_lk q_T0 B 32 3 = 0 := rfl
theorem m_32_4 : q_lk q_T0 B 32 4 = 0 := rfl
theorem m_32_5 : q_lk q_T0 B 32 5 = 0 := rfl
theorem m_33_0 : q_lk q_T0 B 33 0 = 0 := rfl
theorem m_33_1 : q_lk q_T0 B 33 1 = 0 := rfl
theorem m_33_2 : q_lk q_T0 B 33 2 = 0 := rfl
theorem m_33_3 : q_lk q_T0 B 33 3 = 0 := rfl
theorem m_33_4 : q_lk q_T0 B 33 4 = 0 := rfl
theorem m_33_5 : q_lk q_T0 B 33 5 = 0 := rfl
theorem m_34_0 : q_lk q_T0 B 34 0 = 0 := rfl
theorem m_34_1 : q_lk q_T0 B 34 1 = 0 := rfl
theorem m_34_2 : q_lk q_T0 B 34 2 = 0 := rfl
theorem m_34_3 : q_lk q_T0 B 34 3 = 0 := rfl
theorem m_34_4 : q_lk q_T0 B 34 4 = 0 := rfl
theorem m_34_5 : q_lk q_T0 B 34 5 = 0 := rfl
theorem m_35_0 : q_lk q_T0 B 35 0 = 0 := rfl
theorem m_35_1 : q_lk q_T0 B 35 1 = 0 := rfl
theorem m_35_2 : q_lk q_T0 B 35 2 = 0 := rfl
theorem m_35_3 : q_lk q_T0 B 35 3 = 0 := rfl
theorem m_35_4 : q_lk q_T0 B 35 4 = 0 := rfl
theorem m_35_5 : q_lk q_T0 B 35 5 = 0 := rfl
theorem m_36_0 : q_lk q_T0 B 36 0 = 0 := rfl
theorem m_36_1 : q_lk q_T0 B 36 1 = 0 := rfl
theorem m_36_2 : q_lk q_T0 B 36 2 = 0 := rfl
theorem m_36_3 : q_lk q_T0 B 36 3 = 0 := rfl
theorem m_36_4 : q_lk q_T0 B 36 4 = 0 := rfl
theorem m_36_5 : q_lk q_T0 B 36 5 = 0 := rfl
theorem m_37_0 : q_lk q_T0 B 37 0 = 0 := rfl
theorem m_37_1 : q_lk q_T0 B 37 1 = 0 := rfl
theorem m_37_2 : q_lk q_T0 B 37 2 = 0 := rfl
theorem m_37_3 : q_lk q_T0 B 37 3 = 0 := rfl
theorem m_37_4 : q_lk q_T0 B 37 4 = 0 := rfl
theorem m_37_5 : q_lk q_T0 B 37 5 = 0 := rfl
theorem m_38_0 : q_lk q_T0 B 38 0 = 39 := rfl
theorem m_38_1 : q_lk q_T0 B 38 1 = 57 := rfl
theorem m_38_2 : q_lk q_T0 B 38 2 = 58 := rfl
theorem m_38_3 : q_lk q_T0 B 38 3 = 59 := rfl
theorem m_38_4 : q_lk q_T0 B 38 4 = 60 := rfl
theorem m_38_5 : q_lk q_T0 B 38 5 = 61 := rfl
theorem m_38_6 : q_lk q_T0 B 38 6 = 62 := rfl
theorem m_38_7 : q_lk q_T0 B 38 7 = 63 := rfl
theorem m_38_8 : q_lk q_T0 B 38 8 = 64 := rfl
theorem m_38_9 : q_lk q_T0 B 38 9 = 0 := rfl
theorem m_38_10 : q_lk q_T0 B 38 10 = 8 := rfl
theorem m_39_0 : q_lk q_T0 B 39 0 = 40 := rfl
theorem m_39_1 : q_lk q_T0 B 39 1 = 41 := rfl
theorem m_39_2 : q_lk q_T0 B 39 2 = 42 := rfl
theorem m_39_3 : q_lk q_T0 B 39 3 = 49 := rfl
theorem m_39_4 : q_lk q_T0 B 39 4 = 56 := rfl
theorem m_39_5 : q_lk q_T0 B 39 5 = 0 := rfl
theorem m_40_0 : q_lk q_T0 B 40 0 = 1 := rfl
theorem m_40_1 : q_lk q_T0 B 40 1 = 1 := rfl
theorem m_40_2 : q_lk q_T0 B 40 2 = 1 := rfl
theorem m_40_3 : q_lk q_T0 B 40 3 = 1 := rfl
theorem m_40_4 : q_lk q_T0 B 40 4 = 1 := rfl
theorem m_40_5 : q_lk q_T0 B 40 5 = 0 := rfl
theorem m_41_0 : q_lk q_T0 B 41 0 = 0 := rfl
theorem m_41_1 : q_lk q_T0 B 41 1 = 0 := rfl
theorem m_41_2 : q_lk q_T0 B 41 2 = 0 := rfl
theorem m_41_3 : q_lk q_T0 B 41 3 = 0 := rfl
theorem m_41_4 : q_lk q_T0 B 41 4 = 0 := rfl
theorem m_41_5 : q_lk q_T0 B 41 5 = 0 := rfl
theorem m_42_0 : q_lk q_T0 B 42 0 = 43 := rfl
theorem m_42_1 : q_lk q_T0 B 42 1 = 44 := rfl
theorem m_42_2 : q_lk q_T0 B 42 2 = 45 := rfl
theorem m_42_3 : q_lk q_T0 B 42 3 = 46 := rfl
theorem m_42_4 : q_lk q_T0 B 42 4 = 47 := rfl
theorem m_42_5 : q_lk q_T0 B 42 5 = 48 := rfl
theorem m_43_0 : q_lk q_T0 B 43 0 = 0 := rfl
theorem m_43_1 : q_lk q_T0 B 43 1 = 0 := rfl
theorem m_43_2 : q_lk q_T0 B 43 2 = 0 := rfl
theorem m_43_3 : q_lk q_T0 B 43 3 = 0 := rfl
theorem m_43_4 : q_lk q_T0 B 43 4 = 0 := rfl
theorem m_43_5 : q_lk q_T0 B 43 5 = 0 := rfl
theorem m_44_0 : q_lk q_T0 B 44 0 = 0 := rfl
theorem m_44_1 : q_lk q_T0 B 44 1 = 0 := rfl
theorem m_44_2 : q_lk q_T0 B 44 2 = 0 := rfl
theorem m_44_3 : q_lk q_T0 B 44 3 = 0 := rfl
theorem m_44_4 : q_lk q_T0 B 44 4 = 0 := rfl
theorem m_44_5 : q_lk q_T0 B 44 5 = 0 := rfl
theorem m_45_0 : q_lk q_T0 B 45 0 = 0 := rfl
theorem m_45_1 : q_lk q_T0 B 45 1 = 0 := rfl
theorem m_45_2 : q_lk q_T0 B 45 2 = 0 := rfl
theorem m_45_3 : q_lk q_T0 B 45 3 = 0 := rfl
theorem m_45_4 : q_lk q_T0 B 45 4 = 0 := rfl
theorem m_45_5 : q_lk q_T0 B 45 5 = 0 := rfl
theorem m_46_0 : q_lk q_T0 B 46 0 = 0 := rfl
theorem m_46_1 : q_lk q_T0 B 46 1 = 0 := rfl
theorem m_46_2 : q_lk q_T0 B 46 2 = 0 := rfl
theorem m_46_3 : q_lk q_T0 B 46 3 = 0 := rfl
theorem m_46_4 : q_lk q_T0 B 46 4 = 0 := rfl
theorem m_46_5 : q_lk q_T0 B 46 5 = 0 := rfl
theorem m_47_0 : q_lk q_T0 B 47 0 = 0 := rfl
theorem m_47_1 : q_lk q_T0 B 47 1 = 0 := rfl
theorem m_47_2 : q_lk q_T0 B 47 2 = 0 := rfl
theorem m_47_3 : q_lk q_T0 B 47 3 = 0 := rfl
theorem m_47_4 : q_lk q_T0 B 47 4 = 0 := rfl
theorem m_47_5 : q_lk q_T0 B 47 5 = 0 := rfl
theorem m_48_0 : q_lk q_T0 B 48 0 = 0 := rfl
theorem m_48_1 : q_lk q_T0 B 48 1 = 0 := rfl
theorem m_48_2 : q_lk q_T0 B 48 2 = 0 := rfl
theorem m_48_3 : q_lk q_T0 B 48 3 = 0 := rfl
theorem m_48_4 : q_lk q_T0 B 48 4 = 0 := rfl
theorem m_48_5 : q_lk q_T0 B 48 5 = 0 := rfl
theorem m_49_0 : q_lk q_T0 B 49 0 = 50 := rfl
theorem m_49_1 : q_lk q_T0 B 49 1 = 51 := rfl
theorem m_49_2 : q_lk q_T0 B 49 2 = 52 := rfl
theorem m_49_3 : q_lk q_T0 B 49 3 = 53 := rfl
theorem m_49_4 : q_lk q_T0 B 49 4 = 54 := rfl
theorem m_49_5 : q_lk q_T0 B 49 5 = 55 := rfl
theorem m_50_0 : q_lk q_T0 B 50 0 = 0 := rfl
theorem m_50_1 : q_lk q_T0 B 50 1 = 0 := rfl
theorem m_50_2 : q_lk q_T0 B 50 2 = 0 := rfl
theorem m_50_3 : q_lk q_T0 B 50 3 = 0 := rfl
theorem m_50_4 : q_lk q_T0 B 50 4 = 0 := rfl
theorem m_50_5 : q_lk q_T0 B 50 5 = 0 := rfl
theorem m_51_0 : q_lk q_T0 B 51 0 = 0 := rfl
theorem m_51_1 : q_lk q_T0 B 51 1 = 0 := rfl
theorem m_51_2 : q_lk q_T0 B 51 2 = 0 := rfl
theorem m_51_3 : q_lk q_T0 B 51 3 = 0 := rfl
theorem m_51_4 : q_lk q_T0 B 51 4 = 0 := rfl
theorem m_51_5 : q_lk q_T0 B 51 5 = 0 := rfl
theorem m_52_0 : q_lk q_T0 B 52 0 = 0 := rfl
theorem m_52_1 : q_lk q_T0 B 52 1 = 0 := rfl
theorem m_52_2 : q_lk q_T0 B 52 2 = 0 := rfl
theorem m_52_3 : q_lk q_T0 B 52 3 = 0 := rfl
theorem m_52_4 : q_lk q_T0 B 52 4 = 0 := rfl
theorem m_52_5 : q_lk q_T0 B 52 5 = 0 := rfl
theorem m_53_0 : q_lk q_T0 B 53 0 = 0 := rfl
theorem m_53_1 : q_lk q_T0 B 53 1 = 0 := rfl
theorem m_53_2 : q_lk q_T0 B 53 2 = 0 := rfl
theorem m_53_3 : q_lk q_T0 B 53 3 = 0 := rfl
theorem m_53_4 : q_lk q_T0 B 53 4 = 0 := rfl
theorem m_53_5 : q_lk q_T0 B 53 5 = 0 := rfl
theorem m_54_0 : q_lk q_T0 B 54 0 = 0 := rfl
theorem m_54_1 : q_lk q_T0 B 54 1 = 0 := rfl
theorem m_54_2 : q_lk q_T0 B 54 2 = 0 := rfl
theorem m_54_3 : q_lk q_T0 B 54 3 = 0 := rfl
theorem m_54_4 : q_lk q_T0 B 54 4 = 0 := rfl
theorem m_54_5 : q_lk q_T0 B 54 5 = 0 := rfl
theorem m_55_0 : q_lk q_T0 B 55 0 = 0 := rfl
theorem m_55_1 : q_lk q_T0 B 55 1 = 0 := rfl
theorem m_55_2 : q_lk q_T0 B 55 2 = 0 := rfl
theorem m_55_3 : q_lk q_T0 B 55 3 = 0 := rfl
theorem m_55_4 : q_lk q_T0 B 55 4 = 0 := rfl
theorem m_55_5 : q_lk q_T0 B 55 5 = 0 := rfl
theorem m_56_0 : q_lk q_T0 B 56 0 = 0 := rfl
theorem m_56_1 : q_lk q_T0 B 56 1 = 0 := rfl
theorem m_56_2 : q_lk q_T0 B 56 2 = 0 := rfl
theorem m_56_3 : q_lk q_T0 B 56 3 = 0 := rfl
theorem m_56_4 : q_lk q_T0 B 56 4 = 0 := rfl
theorem m_56_5 : q_lk q_T0 B 56 5 = 0 := rfl
theorem m_57_0 : q_lk q_T0 B 57 0 = 0 := rfl
theorem m_57_1 : q_lk q_T0 B 57 1 = 20 := rfl
theorem m_57_2 : q_lk q_T0 B 57 2 = 40 := rfl
theorem m_57_3 : q_lk q_T0 B 57 3 = 60 := rfl
theorem m_57_4 : q_lk q_T0 B 57 4 = 80 := rfl
theorem m_57_5 : q_lk q_T0 B 57 5 = 0 := rfl
theorem m_58_0 : q_lk q_T0 B 58 0 = 0 := rfl
theorem m_58_1 : q_lk q_T0 B 58 1 = 0 := rfl
theorem m_58_2 : q_lk q_T0 B 58 2 = 0 := rfl
theorem m_58_3 : q_lk q_T0 B 58 3 = 0 := rfl
theorem m_58_4 : q_lk q_T0 B 58 4 = 0 := rfl
theorem m_58_5 : q_lk q_T0 B 58 5 = 0 := rfl
theorem m_59_0 : q_lk q_T0 B 59 0 = 0 := rfl
theorem m_59_1 : q_lk q_T0 B 59 1 = 0 := rfl
theorem m_59_2 : q_lk q_T0 B 59 2 = 0 := rfl
theorem m_59_3 : q_lk q_T0 B 59 3 = 0 := rfl
theorem m_59_4 : q_lk q_T0 B 59 4 = 0 := rfl
theorem m_59_5 : q_lk q_T0 B 59 5 = 0 := rfl
theorem m_60_0 : q_lk q_T0 B 60 0 = 0 := rfl
theorem m_60_1 : q_lk q_T0 B 60 1 = 0 := rfl
theorem m_60_2 : q_lk q_T0 B 60 2 = 0 := rfl
theorem m_60_3 : q_lk q_T0 B 60 3 = 0 := rfl
theorem m_60_4 : q_lk q_T0 B 60 4 = 0 := rfl
theorem m_60_5 : q_lk q_T0 B 60 5 = 0 := rfl
theorem m_61_0 : q_lk q_T0 B 61 0 = 0 := rfl
theorem m_61_1 : q_lk q_T0 B 61 1 = 0 := rfl
theorem m_61_2 : q_lk q_T0 B 61 2 = 0 := rfl
theorem m_61_3 : q_lk q_T0 B 61 3 = 0 := rfl
theorem m_61_4 : q_lk q_T0 B 61 4 = 0 := rfl
theorem m_61_5 : q_lk q_T0 B 61 5 = 0 := rfl
theorem m_62_0 : q_lk q_T0 B 62 0 = 0 := rfl
theorem m_62_1 : q_lk q_T0 B 62 1 = 0 := rfl
theorem m_62_2 : q_lk q_T0 B 62 2 = 0 := rfl
theorem m_62_3 : q_lk q_T0 B 62 3 = 0 := rfl
theorem m_62_4 : q_lk q_T0 B 62 4 = 0 := rfl
theorem m_62_5 : q_lk q_T0 B 62 5 = 0 := rfl
theorem m_63_0 : q_lk q_T0 B 63 0 = 0 := rfl
theorem m_63_1 : q_lk q_T0 B 63 1 = 0 := rfl
theorem m_63_2 : q_lk q_T0 B 63 2 = 0 := rfl
theorem m_63_3 : q_lk q_T0 B 63 3 = 0 := rfl
theorem m_63_4 : q_lk q_T0 B 63 4 = 0 := rfl
theorem m_63_5 : q_lk q_T0 B 63 5 = 0 := rfl
theorem m_64_0 : q_lk q_T0 B 64 0 = 0 := rfl
theorem m_64_1 : q_lk q_T0 B 64 1 = 0 := rfl
theorem m_64_2 : q_lk q_T0 B 64 2 = 0 := rfl
theorem m_64_3 : q_lk q_T0 B 64 3 = 0 := rfl
theorem m_64_4 : q_lk q_T0 B 64 4 = 0 := rfl
theorem m_64_5 : q_lk q_T0 B 64 5 = 0 := rfl
theorem m_65_0 : q_lk q_T0 B 65 0 = 66 := rfl
theorem m_65_1 : q_lk q_T0 B 65 1 = 84 := rfl
theorem m_65_2 : q_lk q_T0 B 65 2 = 85 := rfl
theorem m_65_3 : q_lk q_T0 B 65 3 = 86 := rfl
theorem m_65_4 : q_lk q_T0 B 65 4 = 87 := rfl
theorem m_65_5 : q_lk q_T0 B 65 5 = 88 := rfl
theorem m_65_6 : q_lk q_T0 B 65 6 = 89 := rfl
theorem m_65_7 : q_lk q_T0 B 65 7 = 90 := rfl
theorem m_65_8 : q_lk q_T0 B 65 8 = 91 := rfl
theorem m_65_9 : q_lk q_T0 B 65 9 = 0 := rfl
theorem m_65_10 : q_lk q_T0 B 65 10 = 8 := rfl
theorem m_66_0 : q_lk q_T0 B 66 0 = 67 := rfl
theorem m_66_1 : q_lk q_T0 B 66 1 = 68 := rfl
theorem m_66_2 : q_lk q_T0 B 66 2 = 69 := rfl
theorem m_66_3 : q_lk q_T0 B 66 3 = 76 := rfl
theorem m_66_4 : q_lk q_T0 B 66 4 = 83 := rfl
theorem m_66_5 : q_lk q_T0 B 66 5 = 0 := rfl
theorem m_67_0 : q_lk q_T0 B 67 0 = 1 := rfl
theorem m_67_1 : q_lk q_T0 B 67 1 = 1 := rfl
theorem m_67_2 : q_lk q_T0 B 67 2 = 1 := rfl
theorem m_67_3 : q_lk q_T0 B 67 3 = 1 := rfl
theorem m_67_4 : q_lk q_T0 B 67 4 = 1 := rfl
theorem m_67_5 : q_lk q_T0 B 67 5 = 0 := rfl
theorem m_68_0 : q_lk q_T0 B 68 0 = 0 := rfl
theorem m_68_1 : q_lk q_T0 B 68 1 = 0 := rfl
theorem m_68_2 : q_lk q_T0 B 68 2 = 0 := rfl
theorem m_68_3 : q_lk q_T0 B 68 3 = 0 := rfl
theorem m_68_4 : q_lk q_T0 B 68 4 = 0 := rfl
theorem m_68_5 : q_lk q_T0 B 68 5 = 0 := rfl
theorem m_69_0 : q_lk q_T0 B 69 0 = 70 := rfl
theorem m_69_1 : q_lk q_T0 B 69 1 = 71 := rfl
theorem m_69_2 : q_lk q_T0 B 69 2 = 72 := rfl
theorem m_69_3 : q_lk q_T0 B 69 3 = 73 := rfl
theorem m_69_4 : q_lk q_T0 B 69 4 = 74 := rfl
theorem m_69_5 : q_lk q_T0 B 69 5 = 75 := rfl
theorem m_70_0 : q_lk q_T0 B 70 0 = 0 := rfl
theorem m_70_1 : q_lk q_T0 B 70 1 = 0 := rfl
theorem m_70_2 : q_lk q_T0 B 70 2 = 0 := rfl
theorem m_70_3 : q_lk q_T0 B 70 3 = 0 := rfl
theorem m_70_4 : q_lk q_T0 B 70 4 = 0 := rfl
theorem m_70_5 : q_lk q_T0 B 70 5 = 0 := rfl
theorem m_71_0 : q_lk q_T0 B 71 0 = 0 := rfl
theorem m_71_1 : q_lk q_T0 B 71 1 = 0 := rfl
theorem m_71_2 : q_lk q_T0 B 71 2 = 0 := rfl
theorem m_71_3 : q_lk q_T0 B 71 3 = 0 := rfl
theorem m_71_4 : q_lk q_T0 B 71 4 = 0 := rfl
theorem m_71_5 : q_lk q_T0 B 71 5 = 0 := rfl
theorem m_72_0 : q_lk q_T0 B 72 0 = 0 := rfl
theorem m_72_1 : q_lk q_T0 B 72 1 = 0 := rfl
theorem m_72_2 : q_lk q_T0 B 72 2 = 0 := rfl
theorem m_72_3 : q_lk q_T0 B 72 3 = 0 := rfl
theorem m_72_4 : q_lk q_T0 B 72 4 = 0 := rfl
theorem m_72_5 : q_lk q_T0 B 72 5 = 0 := rfl
theorem m_73_0 : q_lk q_T0 B 73 0 = 0 := rfl
theorem m_73_1 : q_lk q_T0 B 73 1 = 0 := rfl
theorem m_73_2 : q_lk q_T0 B 73 2 = 0 := rfl
theorem m_73_3 : q_lk q_T0 B 73 3 = 0 := rfl
theorem m_73_4 : q_lk q_T0 B 73 4 = 0 := rfl
theorem m_73_5 : q_lk q_T0 B 73 5 = 0 := rfl
theorem m_74_0 : q_lk q_T0 B 74 0 = 0 := rfl
theorem m_74_1 : q_lk q_T0 B 74 1 = 0 := rfl
theorem m_74_2 : q_lk q_T0 B 74 2 = 0 := rfl
theorem m_74_3 : q_lk q_T0 B 74 3 = 0 := rfl
theorem m_74_4 : q_lk q_T0 B 74 4 = 0 := rfl
theorem m_74_5 : q_lk q_T0 B 74 5 = 0 := rfl
theorem m_75_0 : q_lk q_T0 B 75 0 = 0 := rfl
theorem m_75_1 : q_lk q_T0 B 75 1 = 0 := rfl
theorem m_75_2 : q_lk q_T0 B 75 2 = 0 := rfl
theorem m_75_3 : q_lk q_T0 B 75 3 = 0 := rfl
theorem m_75_4 : q_lk q_T0 B 75 4 = 0 := rfl
theorem m_75_5 : q_lk q_T0 B 75 5 = 0 := rfl
theorem m_76_0 : q_lk q_T0 B 76 0 = 77 := rfl
theorem m_76_1 : q_lk q_T0 B 76 1 = 78 := rfl
theorem m_76_2 : q_lk q_T0 B 76 2 = 79 := rfl
theorem m_76_3 : q_lk q_T0 B 76 3 = 80 := rfl
theorem m_76_4 : q_lk q_T0 B 76 4 = 81 := rfl
theorem m_76_5 : q_lk q_T0 B 76 5 = 82 := rfl
theorem m_77_0 : q_lk q_T0 B 77 0 = 0 := rfl
theorem m_77_1 : q_lk q_T0 B 77 1 = 0 := rfl
theorem m_77_2 : q_lk q_T0 B 77 2 = 0 := rfl
theorem m_77_3 : q_lk q_T0 B 77 3 = 0 := rfl
theorem m_77_4 : q_lk q_T0 B 77 4 = 0 := rfl
theorem m_77_5 : q_lk q_T0 B 77 5 = 0 := rfl
theorem m_78_0 : q_lk q_T0 B 78 0 = 0 := rfl
theorem m_78_1 : q_lk q_T0 B 78 1 = 0 := rfl
theorem m_78_2 : q_lk q_T0 B 78 2 = 0 := rfl
theorem m_78_3 : q_lk q_T0 B 78 3 = 0 := rfl
theorem m_78_4 : q_lk q_T0 B 78 4 = 0 := rfl
theorem m_78_5 : q_lk q_T0 B 78 5 = 0 := rfl
theorem m_79_0 : q_lk q_T0 B 79 0 = 0 := rfl
theorem m_79_1 : q_lk q_T0 B 79 1 = 0 := rfl
theorem m_79_2 : q_lk q_T0 B 79 2 = 0 := rfl
theorem m_79_3 : q_lk q_T0 B 79 3 = 0 := rfl
theorem m_79_4 : q_lk q_T0 B 79 4 = 0 := rfl
theorem m_79_5 : q_lk q_T0 B 79 5 = 0 := rfl
theorem m_80_0 : q_lk q_T0 B 80 0 = 0 := rfl
theorem m_80_1 : q_lk q_T0 B 80 1 = 0 := rfl
theorem m_80_2 : q_lk q_T0 B 80 2 = 0 := rfl
theorem m_80_3 : q_lk q_T0 B 80 3 = 0 := rfl
theorem m_80_4 : q_lk q_T0 B 80 4 = 0 := rfl
theorem m_80_5 : q_lk q_T0 B 80 5 = 0 := rfl
theorem m_81_0 : q_lk q_T0 B 81 0 = 0 := rfl
theorem m_81_1 : q_lk q_T0 B 81 1 = 0 := rfl
theorem m_81_2 : q_lk q_T0 B 81 2 = 0 := rfl
theorem m_81_3 : q_lk q_T0 B 81 3 = 0 := rfl
theorem m_81_4 : q_lk q_T0 B 81 4 = 0 := rfl
theorem m_81_5 : q_lk q_T0 B 81 5 = 0 := rfl
theorem m_82_0 : q_lk q_T0 B 82 0 = 0 := rfl
theorem m_82_1 : q_lk q_T0 B 82 1 = 0 := rfl
theorem m_82_2 : q_lk q_T0 B 82 2 = 0 := rfl
theorem m_82_3 : q_lk q_T0 B 82 3 = 0 := rfl
theorem m_82_4 : q_lk q_T0 B 82 4 = 0 := rfl
theorem m_82_5 : q_lk q_T0 B 82 5 = 0 := rfl
theorem m_83_0 : q_lk q_T0 B 83 0 = 0 := rfl
theorem m_83_1 : q_lk q_T0 B 83 1 = 0 := rfl
theorem m_83_2 : q_lk q_T0 B 83 2 = 0 := rfl
theorem m_83_3 : q_lk q_T0 B 83 3 = 0 := rfl
theorem m_83_4 : q_lk q_T0 B 83 4 = 0 := rfl
theorem m_83_5 : q_lk q_T0 B 83 5 = 0 := rfl
theorem m_84_0 : q_lk q_T0 B 84 0 = 0 := rfl
theorem m_84_1 : q_lk q_T0 B 84 1 = 20 := rfl
theorem m_84_2 : q_lk q_T0 B 84 2 = 40 := rfl
theorem m_84_3 : q_lk q_T0 B 84 3 = 60 := rfl
theorem m_84_4 : q_lk q_T0 B 84 4 = 80 := rfl
theorem m_84_5 : q_lk q_T0 B 84 5 = 0 := rfl
theorem m_85_0 : q_lk q_T0 B 85 0 = 0 := rfl
theorem m_85_1 : q_lk q_T0 B 85 1 = 0 := rfl
theorem m_85_2 : q_lk q_T0 B 85 2 = 0 := rfl
theorem m_85_3 : q_lk q_T0 B 85 3 = 0 := rfl
theorem m_85_4 : q_lk q_T0 B 85 4 = 0 := rfl
theorem m_85_5 : q_lk q_T0 B 85 5 = 0 := rfl
theorem m_86_0 : q_lk q_T0 B 86 0 = 0 := rfl
theorem m_86_1 : q_lk q_T0 B 86 1 = 0 := rfl
theorem m_86_2 : q_lk q_T0 B 86 2 = 0 := rfl
theorem m_86_3 : q_lk q_T0 B 86 3 = 0 := rfl
theorem m_86_4 : q_lk q_T0 B 86 4 = 0 := rfl
theorem m_86_5 : q_lk q_T0 B 86 5 = 0 := rfl
theorem m_87_0 : q_lk q_T0 B 87 0 = 0 := rfl
theorem m_87_1 : q_lk q_T0 B 87 1 = 0 := rfl
theorem m_87_2 : q_lk q_T0 B 87 2 = 0 := rfl
theorem m_87_3 : q_lk q_T0 B 87 3 = 0 := rfl
theorem m_87_4 : q_lk q_T0 B 87 4 = 0 := rfl
theorem m_87_5 : q_lk q_T0 B 87 5 = 0 := rfl
theorem m_88_0 : q_lk q_T0 B 88 0 = 0 := rfl
theorem m_88_1 : q_lk q_T0 B 88 1 = 0 := rfl
theorem m_88_2 : q_lk q_T0 B 88 2 = 0 := rfl
theorem m_88_3 : q_lk q_T0 B 88 3 = 0 := rfl
theorem m_88_4 : q_lk q_T0 B 88 4 = 0 := rfl
theorem m_88_5 : q_lk q_T0 B 88 5 = 0 := rfl
theorem m_89_0 : q_lk q_T0 B 89 0 = 0 := rfl
theorem m_89_1 : q_lk q_T0 B 89 1 = 0 := rfl
theorem m_89_2 : q_lk q_T0 B 89 2 = 0 := rfl
theorem m_89_3 : q_lk q_T0 B 89 3 = 0 := rfl
theorem m_89_4 : q_lk q_T0 B 89 4 = 0 := rfl
theorem m_89_5 : q_lk q_T0 B 89 5 = 0 := rfl
theorem m_90_0 : q_lk q_T0 B 90 0 = 0 := rfl
theorem m_90_1 : q_lk q_T0 B 90 1 = 0 := rfl
theorem m_90_2 : q_lk q_T0 B 90 2 = 0 := rfl
theorem m_90_3 : q_lk q_T0 B 90 3 = 0 := rfl
theorem m_90_4 : q_lk q_T0 B 90 4 = 0 := rfl
theorem m_90_5 : q_lk q_T0 B 90 5 = 0 := rfl
theorem m_91_0 : q_lk q_T0 B 91 0 = 0 := rfl
theorem m_91_1 : q_lk q_T0 B 91 1 = 0 := rfl
theorem m_91_2 : q_lk q_T0 B 91 2 = 0 := rfl
theorem m_91_3 : q_lk q_T0 B 91 3 = 0 := rfl
theorem m_91_4 : q_lk q_T0 B 91 4 = 0 := rfl
theorem m_91_5 : q_lk q_T0 B 91 5 = 0 := rfl
theorem m_92_0 : q_lk q_T0 B 92 0 = 93 := rfl
theorem m_92_1 : q_lk q_T0 B 92 1 = (-1) := rfl
theorem m_92_2 : q_lk q_T0 B 92 2 = 0 := rfl
theorem m_93_0 : q_lk q_T0 B 93 0 = 0 := rfl
theorem m_93_1 : q_lk q_T0 B 93 1 = 0 := rfl
theorem m_93_2 : q_lk q_T0 B 93 2 = 0 := rfl
theorem m_93_3 : q_lk q_T0 B 93 3 = 0 := rfl
theorem m_93_4 : q_lk q_T0 B 93 4 = 0 := rfl
theorem m_93_5 : q_lk q_T0 B 93 5 = 0 := rfl
theorem m_93_6 : q_lk q_T0 B 93 6 = 0 := rfl
theorem m_93_7 : q_lk q_T0 B 93 7 = 0 := rfl
theorem m_93_8 : q_lk q_T0 B 93 8 = 0 := rfl
theorem m_93_9 : q_lk q_T0 B 93 9 = 0 := rfl
theorem m_93_10 : q_lk q_T0 B 93 10 = 0 := rfl
theorem m_93_11 : q_lk q_T0 B 93 11 = 0 := rfl
theorem m_93_12 : q_lk q_T0 B 93 12 = 0 := rfl
theorem m_93_13 : q_lk q_T0 B 93 13 = 0 := rfl
theorem m_93_14 : q_lk q_T0 B 93 14 = 0 := rfl
theorem m_93_15 : q_lk q_T0 B 93 15 = 0 := rfl
theorem m_93_16 : q_lk q_T0 B 93 16 = 0 := rfl
theorem m_93_17 : q_lk q_T0 B 93 17 = 0 := rfl
theorem m_93_18 : q_lk q_T0 B 93 18 = 0 := rfl
theorem m_93_19 : q_lk q_T0 B 93 19 = 0 := rfl
theorem m_93_20 : q_lk q_T0 B 93 20 = 0 := rfl
theorem m_93_21 : q_lk q_T0 B 93 21 = 0 := rfl
theorem m_93_22 : q_lk q_T0 B 93 22 = 0 := rfl
theorem m_93_23 : q_lk q_T0 B 93 23 = 0 := rfl
theorem m_93_24 : q_lk q_T0 B 93 24 = 0 := rfl
theorem m_93_25 : q_lk q_T0 B 93 25 = 0 := rfl
theorem m_93_26 : q_lk q_T0 B 93 26 = 0 := rfl
theorem m_93_27 : q_lk q_T0 B 93 27 = 0 := rfl
theorem m_93_28 : q_lk q_T0 B 93 28 = 0 := rfl
theorem m_93_29 : q_lk q_T0 B 93 29 = 0 := rfl
theorem m_93_30 : q_lk q_T0 B 93 30 = 0 := rfl
theorem m_93_31 : q_lk q_T0 B 93 31 = 0 := rfl
theorem m_93_32 : q_lk q_T0 B 93 32 = 0 := rfl
theorem m_93_33 : q_lk q_T0 B 93 33 = 0 := rfl
theorem m_93_34 : q_lk q_T0 B 93 34 = 0 := rfl
theorem m_93_35 : q_lk q_T0 B 93 35 = 0 := rfl
theorem m_93_36 : q_lk q_T0 B 93 36 = 0 := rfl
theorem m_93_37 : q_lk q_T0 B 93 37 = 0 := rfl
theorem m_93_38 : q_lk q_T0 B 93 38 = 0 := rfl
theorem m_93_39 : q_lk q_T0 B 93 39 = 0 := rfl
theorem m_94_0 : q_lk q_T0 B 94 0 = 95 := rfl
theorem m_94_1 : q_lk q_T0 B 94 1 = (-1) := rfl
theorem m_94_2 : q_lk q_T0 B 94 2 = 0 := rfl
theorem m_95_0 : q_lk q_T0 B 95 0 = 0 := rfl
theorem m_95_1 : q_lk q_T0 B 95 1 = 0 := rfl
theorem m_95_2 : q_lk q_T0 B 95 2 = 0 := rfl
theorem m_95_3 : q_lk q_T0 B 95 3 = 0 := rfl
theorem m_95_4 : q_lk q_T0 B 95 4 = 0 := rfl
theorem m_95_5 : q_lk q_T0 B 95 5 = 0 := rfl
theorem m_95_6 : q_lk q_T0 B 95 6 = 0 := rfl
theorem m_95_7 : q_lk q_T0 B 95 7 = 0 := rfl
theorem m_95_8 : q_lk q_T0 B 95 8 = 0 := rfl
theorem m_95_9 : q_lk q_T0 B 95 9 = 0 := rfl
theorem m_95_10 : q_lk q_T0 B 95 10 = 0 := rfl
theorem m_95_11 : q_lk q_T0 B 95 11 = 0 := rfl
theorem m_95_12 : q_lk q_T0 B 95 12 = 0 := rfl
theorem m_95_13 : q_lk q_T0 B 95 13 = 0 := rfl
theorem m_95_14 : q_lk q_T0 B 95 14 = 0 := rfl
theorem m_95_15 : q_lk q_T0 B 95 15 = 0 := rfl
theorem m_95_16 : q_lk q_T0 B 95 16 = 0 := rfl
theorem m_95_17 : q_lk q_T0 B 95 17 = 0 := rfl
theorem m_95_18 : q_lk q_T0 B 95 18 = 0 := rfl
theorem m_95_19 : q_lk q_T0 B 95 19 = 0 := rfl
theorem m_95_20 : q_lk q_T0 B 95 20 = 0 := rfl
theorem m_95_21 : q_lk q_T0 B 95 21 = 0 := rfl
theorem m_95_22 : q_lk q_T0 B 95 22 = 0 := rfl
theorem m_95_23 : q_lk q_T0 B 95 23 = 0 := rfl
theorem m_95_24 : q_lk q_T0 B 95 24 = 0 := rfl
theorem m_95_25 : q_lk q_T0 B 95 25 = 0 := rfl
theorem m_95_26 : q_lk q_T0 B 95 26 = 0 := rfl
theorem m_95_27 : q_lk q_T0 B 95 27 = 0 := rfl
theorem m_95_28 : q_lk q_T0 B 95 28 = 0 := rfl
theorem m_95_29 : q_lk q_T0 B 95 29 = 0 := rfl
theorem m_95_30 : q_lk q_T0 B 95 30 = 0 := rfl
theorem m_95_31 : q_lk q_T0 B 95 31 = 0 := rfl
theorem m_95_32 : q_lk q_T0 B 95 32 = 0 := rfl
theorem m_95_33 : q_lk q_T0 B 95 33 = 0 := rfl
theorem m_95_34 : q_lk q_T0 B 95 34 = 0 := rfl
theorem m_95_35 : q_lk q_T0 B 95 35 = 0 := rfl
theorem m_95_36 : q_lk q_T0 B 95 36 = 0 := rfl
theorem m_95_37 : q_lk q_T0 B 95 37 = 0 := rfl
theorem m_95_38 : q_lk q_T0 B 95 38 = 0 := rfl
theorem m_95_39 : q_lk q_T0 B 95 39 = 0 := rfl
theorem m_96_0 : q_lk q_T0 B 96 0 = 97 := rfl
theorem m_96_1 : q_lk q_T0 B 96 1 = (-1) := rfl
theorem m_96_2 : q_lk q_T0 B 96 2 = 0 := rfl
theorem m_97_0 : q_lk q_T0 B 97 0 = 0 := rfl
theorem m_97_1 : q_lk q_T0 B 97 1 = 0 := rfl
theorem m_97_2 : q_lk q_T0 B 97 2 = 0 := rfl
theorem m_97_3 : q_lk q_T0 B 97 3 = 0 := rfl
theorem m_97_4 : q_lk q_T0 B 97 4 = 0 := rfl
theorem m_97_5 : q_lk q_T0 B 97 5 = 0 := rfl
theorem m_97_6 : q_lk q_T0 B 97 6 = 0 := rfl
theorem m_97_7 : q_lk q_T0 B 97 7 = 0 := rfl
theorem m_97_8 : q_lk q_T0 B 97 8 = 0 := rfl
theorem m_97_9 : q_lk q_T0 B 97 9 = 0 := rfl
theorem m_97_10 : q_lk q_T0 B 97 10 = 0 := rfl
theorem m_97_11 : q_lk q_T0 B 97 11 = 0 := rfl
theorem m_97_12 : q_lk q_T0 B 97 12 = 0 := rfl
theorem m_97_13 : q_lk q_T0 B 97 13 = 0 := rfl
theorem m_97_14 : q_lk q_T0 B 97 14 = 0 := rfl
theorem m_97_15 : q_lk q_T0 B 97 15 = 0 := rfl
theorem m_97_16 : q_lk q_T0 B 97 16 = 0 := rfl
theorem m_97_17 : q_lk q_T0 B 97 17 = 0 := rfl
theorem m_97_18 : q_lk q_T0 B 97 18 = 0 := rfl
theorem m_97_19 : q_lk q_T0 B 97 19 = 0 := rfl
theorem m_97_20 : q_lk q_T0 B 97 20 = 0 := rfl
theorem m_97_21 : q_lk q_T0 B 97 21 = 0 := rfl
theorem m_97_22 : q_lk q_T0 B 97 22 = 0 := rfl
theorem m_97_23 : q_lk q_T0 B 97 23 = 0 := rfl
theorem m_97_24 : q_lk q_T0 B 97 24 = 0 := rfl
theorem m_97_25 : q_lk q_T0 B 97 25 = 0 := rfl
theorem m_97_26 : q_lk q_T0 B 97 26 = 0 := rfl
theorem m_97_27 : q_lk q_T0 B 97 27 = 0 := rfl
theorem m_97_28 : q_lk q_T0 B 97 28 = 0 := rfl
theorem m_97_29 : q_lk q_T0 B 97 29 = 0 := rfl
theorem m_97_30 : q_lk q_T0 B 97 30 = 0 := rfl
theorem m_97_31 : q_lk q_T0 B 97 31 = 0 := rfl
theorem m_97_32 : q_lk q_T0 B 97 32 = 0 := rfl
theorem m_97_33 : q_lk q_T0 B 97 33 = 0 := rfl
theorem m_97_34 : q_lk q_T0 B 97 34 = 0 := rfl
theorem m_97_35 : q_lk q_T0 B 97 35 = 0 := rfl
theorem m_97_36 : q_lk q_T0 B 97 36 = 0 := rfl
theorem m_97_37 : q_lk q_T0 B 97 37 = 0 := rfl
theorem m_97_38 : q_lk q_T0 B 97 38 = 0 := rfl
theorem m_97_39 : q_lk q_T0 B 97 39 = 0 := rfl
theorem m_98_0 : q_lk q_T0 B 98 0 = 99 := rfl
theorem m_98_1 : q_lk q_T0 B 98 1 = (-1) := rfl
theorem m_98_2 : q_lk q_T0 B 98 2 = 0 := rfl
theorem m_99_0 : q_lk q_T0 B 99 0 = 0 := rfl
theorem m_99_1 : q_lk q_T0 B 99 1 = 0 := rfl
theorem m_99_2 : q_lk q_T0 B 99 2 = 0 := rfl
theorem m_99_3 : q_lk q_T0 B 99 3 = 0 := rfl
theorem m_99_4 : q_lk q_T0 B 99 4 = 0 := rfl
theorem m_99_5 : q_lk q_T0 B 99 5 = 0 := rfl
theorem m_99_6 : q_lk q_T0 B 99 6 = 0 := rfl
theorem m_99_7 : q_lk q_T0 B 99 7 = 0 := rfl
theorem m_99_8 : q_lk q_T0 B 99 8 = 0 := rfl
theorem m_99_9 : q_lk q_T0 B 99 9 = 0 := rfl
theorem m_99_10 : q_lk q_T0 B 99 10 = 0 := rfl
theorem m_99_11 : q_lk q_T0 B 99 11 = 0 := rfl
theorem m_99_12 : q_lk q_T0 B 99 12 = 0 := rfl
theorem m_99_13 : q_lk q_T0 B 99 13 = 0 := rfl
theorem m_99_14 : q_lk q_T0 B 99 14 = 0 := rfl
theorem m_99_15 : q_lk q_T0 B 99 15 = 0 := rfl
theorem m_99_16 : q_lk q_T0 B 99 16 = 0 := rfl
theorem m_99_17 : q_lk q_T0 B 99 17 = 0 := rfl
theorem m_99_18 : q_lk q_T0 B 99 18 = 0 := rfl
theorem m_99_19 : q_lk q_T0 B 99 19 = 0 := rfl
theorem m_99_20 : q_lk q_T0 B 99 20 = 0 := rfl
theorem m_99_21 : q_lk q_T0 B 99 21 = 0 := rfl
theorem m_99_22 : q_lk q_T0 B 99 22 = 0 := rfl
theorem m_99_23 : q_lk q_T0 B 99 23 = 0 := rfl
theorem m_99_24 : q_lk q_T0 B 99 24 = 0 := rfl
theorem m_99_25 : q_lk q_T0 B 99 25 = 0 := rfl
theorem m_99_26 : q_lk q_T0 B 99 26 = 0 := rfl
theorem m_99_27 : q_lk q_T0 B 99 27 = 0 := rfl
theorem m_99_28 : q_lk q_T0 B 99 28 = 0 := rfl
theorem m_99_29 : q_lk q_T0 B 99 29 = 0 := rfl
theorem m_99_30 : q_lk q_T0 B 99 30 = 0 := rfl
theorem m_99_31 : q_lk q_T0 B 99 31 = 0 := rfl
theorem m_99_32 : q_lk q_T0 B 99 32 = 0 := rfl
theorem m_99_33 : q_lk q_T0 B 99 33 = 0 := rfl
theorem m_99_34 : q_lk q_T0 B 99 34 = 0 := rfl
theorem m_99_35 : q_lk q_T0 B 99 35 = 0 := rfl
theorem m_99_36 : q_lk q_T0 B 99 36 = 0 := rfl
theorem m_99_37 : q_lk q_T0 B 99 37 = 0 := rfl
theorem m_99_38 : q_lk q_T0 B 99 38 = 0 := rfl
theorem m_99_39 : q_lk q_T0 B 99 39 = 0 := rfl
theorem m_100_0 : q_lk q_T0 B 100 0 = 0 := rfl
theorem m_100_1 : q_lk q_T0 B 100 1 = 101 := rfl
theorem m_100_2 : q_lk q_T0 B 100 2 = 102 := rfl
theorem m_100_3 : q_lk q_T0 B 100 3 = 103 := rfl
theorem m_100_4 : q_lk q_T0 B 100 4 = 104 := rfl
theorem m_100_5 : q_lk q_T0 B 100 5 = 0 := rfl
theorem m_100_6 : q_lk q_T0 B 100 6 = 105 := rfl
theorem m_100_7 : q_lk q_T0 B 100 7 = 0 := rfl
theorem m_100_8 : q_lk q_T0 B 100 8 = 106 := rfl
theorem m_100_9 : q_lk q_T0 B 100 9 = 107 := rfl
theorem m_100_10 : q_lk q_T0 B 100 10 = 1 := rfl
theorem m_100_11 : q_lk q_T0 B 100 11 = 0 := rfl
theorem m_100_12 : q_lk q_T0 B 100 12 = 0 := rfl
theorem m_100_13 : q_lk q_T0 B 100 13 = 108 := rfl
theorem m_100_14 : q_lk q_T0 B 100 14 = 109 := rfl
theorem m_100_15 : q_lk q_T0 B 100 15 = 110 := rfl
theorem m_100_16 : q_lk q_T0 B 100 16 = 111 := rfl
theorem m_100_17 : q_lk q_T0 B 100 17 = 112 := rfl
theorem m_100_18 : q_lk q_T0 B 100 18 = 113 := rfl
theorem m_100_19 : q_lk q_T0 B 100 19 = 40 := rfl
theorem m_100_20 : q_lk q_T0 B 100 20 = 40 := rfl
theorem m_100_21 : q_lk q_T0 B 100 21 = 0 := rfl
theorem m_100_22 : q_lk q_T0 B 100 22 = 0 := rfl
theorem m_100_23 : q_lk q_T0 B 100 23 = 114 := rfl
theorem m_100_24 : q_lk q_T0 B 100 24 = 115 := rfl
theorem m_100_25 : q_lk q_T0 B 100 25 = 0 := rfl
theorem m_100_26 : q_lk q_T0 B 100 26 = 0 := rfl
theorem m_100_27 : q_lk q_T0 B 100 27 = 5 := rfl
theorem m_100_28 : q_lk q_T0 B 100 28 = 116 := rfl
theorem m_100_29 : q_lk q_T0 B 100 29 = 117 := rfl
theorem m_100_30 : q_lk q_T0 B 100 30 = 118 := rfl
theorem m_100_31 : q_lk q_T0 B 100 31 = 119 := rfl
theorem m_100_32 : q_lk q_T0 B 100 32 = 120 := rfl
theorem m_100_33 : q_lk q_T0 B 100 33 = 121 := rfl
theorem m_100_34 : q_lk q_T0 B 100 34 = 122 := rfl
theorem m_100_35 : q_lk q_T0 B 100 35 = 123 := rfl
theorem m_100_36 : q_lk q_T0 B 100 36 = 0 := rfl
theorem m_101_0 : q_lk q_T0 B 101 0 = 0 := rfl
theorem m_101_1 : q_lk q_T0 B 101 1 = 0 := rfl
theorem m_101_2 : q_lk q_T0 B 101 2 = 0 := rfl
theorem m_101_3 : q_lk q_T0 B 101 3 = 0 := rfl
theorem m_101_4 : q_lk q_T0 B 101 4 = 0 := rfl
theorem m_102_0 : q_lk q_T0 B 102 0 = 0 := rfl
theorem m_102_1 : q_lk q_T0 B 102 1 = 0 := rfl
theorem m_102_2 : q_lk q_T0 B 102 2 = 0 := rfl
theorem m_102_3 : q_lk q_T0 B 102 3 = 0 := rfl
theorem m_102_4 : q_lk q_T0 B 102 4 = 0 := rfl
theorem m_103_0 : q_lk q_T0 B 103 0 = 0 := rfl
theorem m_103_1 : q_lk q_T0 B 103 1 = 1 := rfl
theorem m_103_2 : q_lk q_T0 B 103 2 = 0 := rfl
theorem m_103_3 : q_lk q_T0 B 103 3 = 0 := rfl
theorem m_103_4 : q_lk q_T0 B 103 4 = 20 := rfl
theorem m_103_5 : q_lk q_T0 B 103 5 = 1 := rfl
theorem m_103_6 : q_lk q_T0 B 103 6 = 0 := rfl
theorem m_103_7 : q_lk q_T0 B 103 7 = 0 := rfl
theorem m_103_8 : q_lk q_T0 B 103 8 = 40 := rfl
theorem m_103_9 : q_lk q_T0 B 103 9 = 1 := rfl
theorem m_103_10 : q_lk q_T0 B 103 10 = 0 := rfl
theorem m_103_11 : q_lk q_T0 B 103 11 = 0 := rfl
theorem m_103_12 : q_lk q_T0 B 103 12 = 60 := rfl
theorem m_103_13 : q_lk q_T0 B 103 13 = 1 := rfl
theorem m_103_14 : q_lk q_T0 B 103 14 = 0 := rfl
theorem m_103_15 : q_lk q_T0 B 103 15 = 0 := rfl
theorem m_103_16 : q_lk q_T0 B 103 16 = 80 := rfl
theorem m_103_17 : q_lk q_T0 B 103 17 = 1 := rfl
theorem m_103_18 : q_lk q_T0 B 103 18 = 0 := rfl
theorem m_103_19 : q_lk q_T0 B 103 19 = 0 := rfl
theorem m_104_0 : q_lk q_T0 B 104 0 = 0 := rfl
theorem m_104_1 : q_lk q_T0 B 104 1 = 0 := rfl
theorem m_104_2 : q_lk q_T0 B 104 2 = 0 := rfl
theorem m_104_3 : q_lk q_T0 B 104 3 = 0 := rfl
theorem m_104_4 : q_lk q_T0 B 104 4 = 0 := rfl
theorem m_104_5 : q_lk q_T0 B 104 5 = 0 := rfl
theorem m_104_6 : q_lk q_T0 B 104 6 = 0 := rfl
theorem m_104_7 : q_lk q_T0 B 104 7 = 0 := rfl
theorem m_104_8 : q_lk q_T0 B 104 8 = 0 := rfl
theorem m_104_9 : q_lk q_T0 B 104 9 = 0 := rfl
theorem m_104_10 : q_lk q_T0 B 104 10 = 0 := rfl
theorem m_104_11 : q_lk q_T0 B 104 11 = 0 := rfl
theorem m_104_12 : q_lk q_T0 B 104 12 = 0 := rfl
theorem m_104_13 : q_lk q_T0 B 104 13 = 0 := rfl
theorem m_104_14 : q_lk q_T0 B 104 14 = 0 := rfl
theorem m_107_0 : q_lk q_T0 B 107 0 = 0 := rfl
theorem m_107_1 : q_lk q_T0 B 107 1 = 3 := rfl
theorem m_107_2 : q_lk q_T0 B 107 2 = 4 := rfl
theorem m_107_3 : q_lk q_T0 B 107 3 = 5 := rfl
theorem m_107_4 : q_lk q_T0 B 107 4 = 0 := rfl
theorem m_107_5 : q_lk q_T0 B 107 5 = 0 := rfl
theorem m_107_6 : q_lk q_T0 B 107 6 = 0 := rfl
theorem m_107_7 : q_lk q_T0 B 107 7 = 0 := rfl
theorem m_107_8 : q_lk q_T0 B 107 8 = 0 := rfl
theorem m_107_9 : q_lk q_T0 B 107 9 = 0 := rfl
theorem m_107_10 : q_lk q_T0 B 107 10 = 0 := rfl
theorem m_107_11 : q_lk q_T0 B 107 11 = 0 := rfl
theorem m_107_12 : q_lk q_T0 B 107 12 = 0 := rfl
theorem m_107_13 : q_lk q_T0 B 107 13 = 0 := rfl
theorem m_107_14 : q_lk q_T0 B 107 14 = 0 := rfl
theorem m_107_15 : q_lk q_T0 B 107 15 = 0 := rfl
theorem m_107_16 : q_lk q_T0 B 107 16 = 0 := rfl
theorem m_107_17 : q_lk q_T0 B 107 17 = 0 := rfl
theorem m_107_18 : q_lk q_T0 B 107 18 = 0 := rfl
theorem m_107_19 : q_lk q_T0 B 107 19 = 0 := rfl
theorem m_107_20 : q_lk q_T0 B 107 20 = 0 := rfl
theorem m_107_21 : q_lk q_T0 B 107 21 = 0 := rfl
theorem m_107_22 : q_lk q_T0 B 107 22 = 0 := rfl
theorem m_107_23 : q_lk q_T0 B 107 23 = 0 := rfl
theorem m_108_0 : q_lk q_T0 B 108 0 = 0 := rfl
theorem m_108_1 : q_lk q_T0 B 108 1 = 0 := rfl
theorem m_108_2 : q_lk q_T0 B 108 2 = 0 := rfl
theorem m_108_3 : q_lk q_T0 B 108 3 = 0 := rfl
theorem m_108_4 : q_lk q_T0 B 108 4 = 0 := rfl
theorem m_108_5 : q_lk q_T0 B 108 5 = 0 := rfl
theorem m_108_6 : q_lk q_T0 B 108 6 = 0 := rfl
theorem m_108_7 : q_lk q_T0 B 108 7 = 0 := rfl
theorem m_108_8 : q_lk q_T0 B 108 8 = 0 := rfl
theorem m_108_9 : q_lk q_T0 B 108 9 = 0 := rfl
theorem m_108_10 : q_lk q_T0 B 108 10 = 0 := rfl
theorem m_108_11 : q_lk q_T0 B 108 11 = 0 := rfl
theorem m_108_12 : q_lk q_T0 B 108 12 = 0 := rfl
theorem m_108_13 : q_lk q_T0 B 108 13 = 0 := rfl
theorem m_108_14 : q_lk q_T0 B 108 14 = 0 := rfl
theorem m_108_15 : q_lk q_T0 B 108 15 = 0 := rfl
theorem m_108_16 : q_lk q_T0 B 108 16 = 0 := rfl
theorem m_108_17 : q_lk q_T0 B 108 17 = 0 := rfl
theorem m_108_18 : q_lk q_T0 B 108 18 = 0 := rfl
theorem m_108_19 : q_lk q_T0 B 108 19 = 0 := rfl
theorem m_108_20 : q_lk q_T0 B 108 20 = 0 := rfl
theorem m_108_21 : q_lk q_T0 B 108 21 = 0 := rfl
theorem m_108_22 : q_lk q_T0 B 108 22 = 0 := rfl
theorem m_108_23 : q_lk q_T0 B 108 23 = 0 := rfl
theorem m_108_24 : q_lk q_T0 B 108 24 = 0 := rfl
theorem m_108_25 : q_lk q_T0 B 108 25 = 0 := rfl
theorem m_108_26 : q_lk q_T0 B 108 26 = 0 := rfl
theorem m_108_27 : q_lk q_T0 B 108 27 = 0 := rfl
theorem m_108_28 : q_lk q_T0 B 108 28 = 0 := rfl
theorem m_108_29 : q_lk q_T0 B 108 29 = 0 := rfl
theorem m_108_30 : q_lk q_T0 B 108 30 = 0 := rfl
theorem m_108_31 : q_lk q_T0 B 108 31 = 0 := rfl
theorem m_108_32 : q_lk q_T0 B 108 32 = 0 := rfl
theorem m_108_33 : q_lk q_T0 B 108 33 = 0 := rfl
theorem m_108_34 : q_lk q_T0 B 108 34 = 0 := rfl
theorem m_109_0 : q_lk q_T0 B 109 0 = 0 := rfl
theorem m_109_1 : q_lk q_T0 B 109 1 = 0 := rfl
theorem m_109_2 : q_lk q_T0 B 109 2 = 0 := rfl
theorem m_110_0 : q_lk q_T0 B 110 0 = (-1) := rfl
theorem m_110_1 : q_lk q_T0 B 110 1 = (-1) := rfl
theorem m_110_2 : q_lk q_T0 B 110 2 = (-1) := rfl
theorem m_110_3 : q_lk q_T0 B 110 3 = (-1) := rfl
theorem m_111_0 : q_lk q_T0 B 111 0 = 0 := rfl
theorem m_111_1 : q_lk q_T0 B 111 1 = 0 := rfl
theorem m_111_2 : q_lk q_T0 B 111 2 = 0 := rfl
theorem m_111_3 : q_lk q_T0 B 111 3 = 0 := rfl
theorem m_113_0 : q_lk q_T0 B 113 0 = 108 := rfl
theorem m_113_1 : q_lk q_T0 B 113 1 = 105 := rfl
theorem m_113_2 : q_lk q_T0 B 113 2 = 107 := rfl
theorem m_113_3 : q_lk q_T0 B 113 3 = 101 := rfl
theorem m_113_4 : q_lk q_T0 B 113 4 = 115 := rfl
theorem m_113_5 : q_lk q_T0 B 113 5 = 32 := rfl
theorem m_113_6 : q_lk q_T0 B 113 6 = 57 := rfl
theorem m_113_7 : q_lk q_T0 B 113 7 = 57 := rfl
theorem m_113_8 : q_lk q_T0 B 113 8 = 32 := rfl
theorem m_113_9 : q_lk q_T0 B 113 9 = 45 := rfl
theorem m_113_10 : q_lk q_T0 B 113 10 = 32 := rfl
theorem m_113_11 : q_lk q_T0 B 113 11 = 102 := rfl
theorem m_113_12 : q_lk q_T0 B 113 12 = 97 := rfl
theorem m_113_13 : q_lk q_T0 B 113 13 = 114 := rfl
theorem m_113_14 : q_lk q_T0 B 113 14 = 32 := rfl
theorem m_113_15 : q_lk q_T0 B 113 15 = 59 := rfl
theorem m_113_16 : q_lk q_T0 B 113 16 = 32 := rfl
theorem m_113_17 : q_lk q_T0 B 113 17 = 119 := rfl
theorem m_113_18 : q_lk q_T0 B 113 18 = 97 := rfl
theorem m_113_19 : q_lk q_T0 B 113 19 = 110 := rfl
theorem m_113_20 : q_lk q_T0 B 113 20 = 116 := rfl
theorem m_113_21 : q_lk q_T0 B 113 21 = 115 := rfl
theorem m_113_22 : q_lk q_T0 B 113 22 = 32 := rfl
theorem m_113_23 : q_lk q_T0 B 113 23 = 119 := rfl
theorem m_113_24 : q_lk q_T0 B 113 24 = 101 := rfl
theorem m_113_25 : q_lk q_T0 B 113 25 = 105 := rfl
theorem m_113_26 : q_lk q_T0 B 113 26 = 103 := rfl
theorem m_113_27 : q_lk q_T0 B 113 27 = 104 := rfl
theorem m_113_28 : q_lk q_T0 B 113 28 = 116 := rfl
theorem m_113_29 : q_lk q_T0 B 113 29 = 32 := rfl
theorem m_113_30 : q_lk q_T0 B 113 30 = 59 := rfl
theorem m_113_31 : q_lk q_T0 B 113 31 = 32 := rfl
theorem m_113_32 : q_lk q_T0 B 113 32 = 103 := rfl
theorem m_113_33 : q_lk q_T0 B 113 33 = 111 := rfl
theorem m_113_34 : q_lk q_T0 B 113 34 = 101 := rfl
theorem m_113_35 : q_lk q_T0 B 113 35 = 115 := rfl
theorem m_113_36 : q_lk q_T0 B 113 36 = 32 := rfl
theorem m_113_37 : q_lk q_T0 B 113 37 = 57 := rfl
theorem m_113_38 : q_lk q_T0 B 113 38 = 32 := rfl
theorem m_113_39 : q_lk q_T0 B 113 39 = 59 := rfl
theorem m_117_0 : q_lk q_T0 B 117 0 = 0 := rfl
theorem m_117_1 : q_lk q_T0 B 117 1 = 0 := rfl
theorem m_117_2 : q_lk q_T0 B 117 2 = 0 := rfl
theorem m_117_3 : q_lk q_T0 B 117 3 = 0 := rfl
theorem m_117_4 : q_lk q_T0 B 117 4 = 0 := rfl
theorem m_117_5 : q_lk q_T0 B 117 5 = 0 := rfl
theorem m_118_0 : q_lk q_T0 B 118 0 = 0 := rfl
theorem m_118_1 : q_lk q_T0 B 118 1 = 0 := rfl
theorem m_118_2 : q_lk q_T0 B 118 2 = 0 := rfl
theorem m_118_3 : q_lk q_T0 B 118 3 = 0 := rfl
theorem m_118_4 : q_lk q_T0 B 118 4 = 0 := rfl
theorem m_118_5 : q_lk q_T0 B 118 5 = 0 := rfl
theorem m_118_6 : q_lk q_T0 B 118 6 = 0 := rfl
theorem m_118_7 : q_lk q_T0 B 118 7 = 0 := rfl
theorem m_118_8 : q_lk q_T0 B 118 8 = 0 := rfl
theorem m_118_9 : q_lk q_T0 B 118 9 = 0 := rfl
theorem m_118_10 : q_lk q_T0 B 118 10 = 0 := rfl
theorem m_118_11 : q_lk q_T0 B 118 11 = 0 := rfl
theorem m_118_12 : q_lk q_T0 B 118 12 = 0 := rfl
theorem m_118_13 : q_lk q_T0 B 118 13 = 0 := rfl
theorem m_118_14 : q_lk q_T0 B 118 14 = 0 := rfl
theorem m_118_15 : q_lk q_T0 B 118 15 = 0 := rfl
theorem m_118_16 : q_lk q_T0 B 118 16 = 0 := rfl
theorem m_118_17 : q_lk q_T0 B 118 17 = 0 := rfl
theorem m_118_18 : q_lk q_T0 B 118 18 = 0 := rfl
theorem m_118_19 : q_lk q_T0 B 118 19 = 0 := rfl
theorem m_118_20 : q_lk q_T0 B 118 20 = 0 := rfl
theorem m_118_21 : q_lk q_T0 B 118 21 = 0 := rfl
theorem m_118_22 : q_lk q_T0 B 118 22 = 0 := rfl
theorem m_118_23 : q_lk q_T0 B 118 23 = 0 := rfl
theorem m_118_24 : q_lk q_T0 B 118 24 = 0 := rfl
theorem m_118_25 : q_lk q_T0 B 118 25 = 0 := rfl
theorem m_118_26 : q_lk q_T0 B 118 26 = 0 := rfl
theorem m_118_27 : q_lk q_T0 B 118 27 = 0 := rfl
theorem m_118_28 : q_lk q_T0 B 118 28 = 0 := rfl
theorem m_118_29 : q_lk q_T0 B 118 29 = 0 := rfl
theorem m_118_30 : q_lk q_T0 B 118 30 = 0 := rfl
theorem m_118_31 : q_lk q_T0 B 118 31 = 0 := rfl
theorem m_118_32 : q_lk q_T0 B 118 32 = 0 := rfl
theorem m_118_33 : q_lk q_T0 B 118 33 = 0 := rfl
theorem m_118_34 : q_lk q_T0 B 118 34 = 0 := rfl
theorem m_118_35 : q_lk q_T0 B 118 35 = 0 := rfl
theorem m_119_0 : q_lk q_T0 B 119 0 = 0 := rfl
theorem m_119_1 : q_lk q_T0 B 119 1 = 0 := rfl
theorem m_119_2 : q_lk q_T0 B 119 2 = 0 := rfl
theorem m_119_3 : q_lk q_T0 B 119 3 = 0 := rfl
theorem m_119_4 : q_lk q_T0 B 119 4 = 0 := rfl
theorem m_119_5 : q_lk q_T0 B 119 5 = 0 := rfl
theorem m_119_6 : q_lk q_T0 B 119 6 = 0 := rfl
theorem m_119_7 : q_lk q_T0 B 119 7 = 0 := rfl
theorem m_119_8 : q_lk q_T0 B 119 8 = 0 := rfl
theorem m_119_9 : q_lk q_T0 B 119 9 = 0 := rfl
theorem m_119_10 : q_lk q_T0 B 119 10 = 0 := rfl
theorem m_119_11 : q_lk q_T0 B 119 11 = 0 := rfl
theorem m_119_12 : q_lk q_T0 B 119 12 = 0 := rfl
theorem m_119_13 : q_lk q_T0 B 119 13 = 0 := rfl
theorem m_119_14 : q_lk q_T0 B 119 14 = 0 := rfl
theorem m_119_15 : q_lk q_T0 B 119 15 = 0 := rfl
theorem m_119_16 : q_lk q_T0 B 119 16 = 0 := rfl
theorem m_119_17 : q_lk q_T0 B 119 17 = 0 := rfl
theorem m_119_18 : q_lk q_T0 B 119 18 = 0 := rfl
theorem m_119_19 : q_lk q_T0 B 119 19 = 0 := rfl
theorem m_119_20 : q_lk q_T0 B 119 20 = 0 := rfl
theorem m_119_21 : q_lk q_T0 B 119 21 = 0 := rfl
theorem m_119_22 : q_lk q_T0 B 119 22 = 0 := rfl
theorem m_119_23 : q_lk q_T0 B 119 23 = 0 := rfl
theorem m_119_24 : q_lk q_T0 B 119 24 = 0 := rfl
theorem m_120_0 : q_lk q_T0 B 120 0 = 0 := rfl
theorem m_120_1 : q_lk q_T0 B 120 1 = 0 := rfl
theorem m_120_2 : q_lk q_T0 B 120 2 = 0 := rfl
theorem m_120_3 : q_lk q_T0 B 120 3 = 0 := rfl
theorem m_120_4 : q_lk q_T0 B 120 4 = 0 := rfl
theorem m_120_5 : q_lk q_T0 B 120 5 = 0 := rfl
theorem m_120_6 : q_lk q_T0 B 120 6 = 0 := rfl
theorem m_120_7 : q_lk q_T0 B 120 7 = 0 := rfl
theorem m_120_8 : q_lk q_T0 B 120 8 = 0 := rfl
theorem m_120_9 : q_lk q_T0 B 120 9 = 0 := rfl
theorem m_120_10 : q_lk q_T0 B 120 10 = 0 := rfl
theorem m_120_11 : q_lk q_T0 B 120 11 = 0 := rfl
theorem m_120_12 : q_lk q_T0 B 120 12 = 0 := rfl
theorem m_120_13 : q_lk q_T0 B 120 13 = 0 := rfl
theorem m_120_14 : q_lk q_T0 B 120 14 = 0 := rfl
theorem m_120_15 : q_lk q_T0 B 120 15 = 0 := rfl
theorem m_120_16 : q_lk q_T0 B 120 16 = 0 := rfl
theorem m_120_17 : q_lk q_T0 B 120 17 = 0 := rfl
theorem m_120_18 : q_lk q_T0 B 120 18 = 0 := rfl
theorem m_120_19 : q_lk q_T0 B 120 19 = 0 := rfl
theorem m_120_20 : q_lk q_T0 B 120 20 = 0 := rfl
theorem m_120_21 : q_lk q_T0 B 120 21 = 0 := rfl
theorem m_120_22 : q_lk q_T0 B 120 22 = 0 := rfl
theorem m_120_23 : q_lk q_T0 B 120 23 = 0 := rfl
theorem m_120_24 : q_lk q_T0 B 120 24 = 0 := rfl
theorem m_121_0 : q_lk q_T0 B 121 0 = 0 := rfl
theorem m_121_1 : q_lk q_T0 B 121 1 = 0 := rfl
theorem m_121_2 : q_lk q_T0 B 121 2 = 0 := rfl
theorem m_121_3 : q_lk q_T0 B 121 3 = 0 := rfl
theorem m_121_4 : q_lk q_T0 B 121 4 = 0 := rfl
theorem m_122_0 : q_lk q_T0 B 122 0 = 0 := rfl
theorem m_122_1 : q_lk q_T0 B 122 1 = 0 := rfl
theorem m_122_2 : q_lk q_T0 B 122 2 = 0 := rfl
theorem m_122_3 : q_lk q_T0 B 122 3 = 0 := rfl
theorem m_122_4 : q_lk q_T0 B 122 4 = 0 := rfl
theorem m_123_0 : q_lk q_T0 B 123 0 = 0 := rfl
theorem m_123_1 : q_lk q_T0 B 123 1 = 0 := rfl
theorem m_123_2 : q_lk q_T0 B 123 2 = 0 := rfl
theorem m_123_3 : q_lk q_T0 B 123 3 = 0 := rfl
theorem m_123_4 : q_lk q_T0 B 123 4 = 0 := rfl
end FACTS
theorem q_same_get {M M2 : q_M} (h : q_same M M2) {a i : Nat} (ha : 100 ≤ a) : M2 a i = M a i := h a i ha
theorem q_out_rf {M : q_M} : ∀ a i, 124 ≤ a → M a i = M a i := fun _ _ _ => rfl
theorem q_out_up {M M2 : q_M} {b j : Nat} {x : Int} (h : ∀ a i, 124 ≤ a → M2 a i = M a i) (hb : b < 124) : ∀ a i, 124 ≤ a → q_upd M2 b j x a i = M a i := fun a i ha => by rw [q_upd_n (Or.inl (by omega))]; exact h a i ha
theorem zr_shr0 : q_shr 0 0 = 0 := by decide
theorem zr_shr1 : q_shr 0 1 = 0 := by decide
theorem zr_shr2 : q_shr 0 2 = 0 := by decide
theorem zr_shr3 : q_shr 0 3 = 0 := by decide
theorem zr_shr4 : q_shr 0 4 = 0 := by decide
theorem zr_and : q_and 0 1 = 0 := by decide
theorem zr_dyn8 : q_dyn 3 8 = qR 3 8 := rfl
theorem zr_or : q_or 0 0 = 0 := by decide
theorem zr_shl : q_shl 0 4 = 0 := by decide
theorem q_cpy_n {M : q_M} {s sp d dp n b i : Nat} (h : b ≠ d ∨ i < dp ∨ dp + n ≤ i) : q_cpy M s sp d dp n b i = M b i := if_neg (fun q => by rcases h with h | h | h; exact h q.1; exact absurd q.2.1 (by omega); exact absurd q.2.2 (by omega))
theorem q_cpy_i {M : q_M} {s sp d dp n i : Nat} (h1 : dp ≤ i) (h2 : i < dp + n) : q_cpy M s sp d dp n d i = M s (sp + (i - dp)) := if_pos ⟨rfl, h1, h2⟩
theorem y_alen_180 {md d : Nat} {P : q_P} {nx : Nat} {ops : List Instr} {ls st : List q_V} {g : q_G} {M : q_M} {Q : Option q_V → q_G → q_M → Prop} {a : Nat} : q_T md d P nx (.arraylength :: ops) ls (qR 180 a :: st) g M Q = q_T md d P nx ops ls (qI 160 :: st) g M Q := q_T_ifT (c := q_isA 180 = true) (by decide) rfl
theorem y_cpy26 {md d : Nat} {P : q_P} {nx : Nat} {ops : List Instr} {ls st : List q_V} {g : q_G} {M : q_M} {Q : Option q_V → q_G → q_M → Prop} {s dd : Nat} {sp dp n : Int} (h1 : 0 ≤ sp) (h2 : 0 ≤ dp) (h3 : 0 ≤ n) (h4 : sp + n ≤ 6) (h5 : dp + n ≤ 6) : q_T md d P nx (.monitorexit :: ops) ls (qI n :: qI dp :: qR 26 dd :: qI sp :: qR 26 s :: st) g M Q = (st.length ≤ 3 ∧ q_T md d P nx ops ls st g (q_cpy M s sp.toNat dd dp.toNat n.toNat) Q) := by rw [x_cpy]; exact propext ⟨fun q => ⟨q.1.2.2.2.2.2.2.2, q.2⟩, fun q => ⟨⟨rfl, rfl, h1, h2, h3, h4, h5, q.1⟩, q.2⟩⟩
section SWS
variable {md d : Nat} {P : q_P} {nx : Nat} {ls st : List q_V} {g : q_G} {M : q_M} {Q : Option q_V → q_G → q_M → Prop} {x : Int}
theorem tw_0_5 : q_T md d P nx [.tableswitch (308) (5) (10) #[224, 234, 244, 254, 271, 288]] ls (qI (5) :: st) g M Q = q_T md d P 224 [] ls st g M Q := x_tsw.trans rfl
theorem tw_0_6 : q_T md d P nx [.tableswitch (308) (5) (10) #[224, 234, 244, 254, 271, 288]] ls (qI (6) :: st) g M Q = q_T md d P 234 [] ls st g M Q := x_tsw.trans rfl
theorem tw_0_7 : q_T md d P nx [.tableswitch (308) (5) (10) #[224, 234, 244, 254, 271, 288]] ls (qI (7) :: st) g M Q = q_T md d P 244 [] ls st g M Q := x_tsw.trans rfl
theorem tw_0_8 : q_T md d P nx [.tableswitch (308) (5) (10) #[224, 234, 244, 254, 271, 288]] ls (qI (8) :: st) g M Q = q_T md d P 254 [] ls st g M Q := x_tsw.trans rfl
theorem tw_0_9 : q_T md d P nx [.tableswitch (308) (5) (10) #[224, 234, 244, 254, 271, 288]] ls (qI (9) :: st) g M Q = q_T md d P 271 [] ls st g M Q := x_tsw.trans rfl
theorem tw_0_10 : q_T md d P nx [.tableswitch (308) (5) (10) #[224, 234, 244, 254, 271, 288]] ls (qI (10) :: st) g M Q = q_T md d P 288 [] ls st g M Q := x_tsw.trans rfl
theorem tw_0_o (h : x < 5 ∨ 10 < x) : q_T md d P nx [.tableswitch (308) (5) (10) #[224, 234, 244, 254, 271, 288]] ls (qI x :: st) g M Q = q_T md d P 308 [] ls st g M Q := y_tsw_o h
theorem tw_1_0 : q_T md d P nx [.tableswitch (94) (0) (5) #[40, 51, 59, 70, 75, 86]] ls (qI (0) :: st) g M Q = q_T md d P 40 [] ls st g M Q := x_tsw.trans rfl
theorem tw_1_1 : q_T md d P nx [.tableswitch (94) (0) (5) #[40, 51, 59, 70, 75, 86]] ls (qI (1) :: st) g M Q = q_T md d P 51 [] ls st g M Q := x_tsw.trans rfl
theorem tw_1_2 : q_T md d P nx [.tableswitch (94) (0) (5) #[40, 51, 59, 70, 75, 86]] ls (qI (2) :: st) g M Q = q_T md d P 59 [] ls st g M Q := x_tsw.trans rfl
theorem tw_1_3 : q_T md d P nx [.tableswitch (94) (0) (5) #[40, 51, 59, 70, 75, 86]] ls (qI (3) :: st) g M Q = q_T md d P 70 [] ls st g M Q := x_tsw.trans rfl
theorem tw_1_4 : q_T md d P nx [.tableswitch (94) (0) (5) #[40, 51, 59, 70, 75, 86]] ls (qI (4) :: st) g M Q = q_T md d P 75 [] ls st g M Q := x_tsw.trans rfl
theorem tw_1_5 : q_T md d P nx [.tableswitch (94) (0) (5) #[40, 51, 59, 70, 75, 86]] ls (qI (5) :: st) g M Q = q_T md d P 86 [] ls st g M Q := x_tsw.trans rfl
theorem tw_1_o (h : x < 0 ∨ 5 < x) : q_T md d P nx [.tableswitch (94) (0) (5) #[40, 51, 59, 70, 75, 86]] ls (qI x :: st) g M Q = q_T md d P 94 [] ls st g M Q := y_tsw_o h
theorem tw_2_0 : q_T md d P nx [.tableswitch (137) (0) (2) #[96, 108, 124]] ls (qI (0) :: st) g M Q = q_T md d P 96 [] ls st g M Q := x_tsw.trans rfl
theorem tw_2_1 : q_T md d P nx [.tableswitch (137) (0) (2) #[96, 108, 124]] ls (qI (1) :: st) g M Q = q_T md d P 108 [] ls st g M Q := x_tsw.trans rfl
theorem tw_2_2 : q_T md d P nx [.tableswitch (137) (0) (2) #[96, 108, 124]] ls (qI (2) :: st) g M Q = q_T md d P 124 [] ls st g M Q := x_tsw.trans rfl
theorem tw_2_o (h : x < 0 ∨ 2 < x) : q_T md d P nx [.tableswitch (137) (0) (2) #[96, 108, 124]] ls (qI x :: st) g M Q = q_T md d P 137 [] ls st g M Q := y_tsw_o h
theorem tw_3_0 : q_T md d P nx [.tableswitch (99) (0) (4) #[44, 54, 67, 77, 87]] ls (qI (0) :: st) g M Q = q_T md d P 44 [] ls st g M Q := x_tsw.trans rfl
theorem tw_3_1 : q_T md d P nx [.tableswitch (99) (0) (4) #[44, 54, 67, 77, 87]] ls (qI (1) :: st) g M Q = q_T md d P 54 [] ls st g M Q := x_tsw.trans rfl
theorem tw_3_2 : q_T md d P nx [.tableswitch (99) (0) (4) #[44, 54, 67, 77, 87]] ls (qI (2) :: st) g M Q = q_T md d P 67 [] ls st g M Q := x_tsw.trans rfl
theorem tw_3_3 : q_T md d P nx [.tableswitch (99) (0) (4) #[44, 54, 67, 77, 87]] ls (qI (3) :: st) g M Q = q_T md d P 77 [] ls st g M Q := x_tsw.trans rfl
theorem tw_3_4 : q_T md d P nx [.tableswitch (99) (0) (4) #[44, 54, 67, 77, 87]] ls (qI (4) :: st) g M Q = q_T md d P 87 [] ls st g M Q := x_tsw.trans rfl
theorem tw_3_o (h : x < 0 ∨ 4 < x) : q_T md d P nx [.tableswitch (99) (0) (4) #[44, 54, 67, 77, 87]] ls (qI x :: st) g M Q = q_T md d P 99 [] ls st g M Q := y_tsw_o h
theorem tw_4_0 : q_T md d P nx [.tableswitch (133) (0) (6) #[56, 66, 76, 92, 102, 112, 124]] ls (qI (0) :: st) g M Q = q_T md d P 56 [] ls st g M Q := x_tsw.trans rfl
theorem tw_4_1 : q_T md d P nx [.tableswitch (133) (0) (6) #[56, 66, 76, 92, 102, 112, 124]] ls (qI (1) :: st) g M Q = q_T md d P 66 [] ls st g M Q := x_tsw.trans rfl
theorem tw_4_2 : q_T md d P nx [.tableswitch (133) (0) (6) #[56, 66, 76, 92, 102, 112, 124]] ls (qI (2) :: st) g M Q = q_T md d P 76 [] ls st g M Q := x_tsw.trans rfl
theorem tw_4_3 : q_T md d P nx [.tableswitch (133) (0) (6) #[56, 66, 76, 92, 102, 112, 124]] ls (qI (3) :: st) g M Q = q_T md d P 92 [] ls st g M Q := x_tsw.trans rfl
theorem tw_4_4 : q_T md d P nx [.tableswitch (133) (0) (6) #[56, 66, 76, 92, 102, 112, 124]] ls (qI (4) :: st) g M Q = q_T md d P 102 [] ls st g M Q := x_tsw.trans rfl
theorem tw_4_5 : q_T md d P nx [.tableswitch (133) (0) (6) #[56, 66, 76, 92, 102, 112, 124]] ls (qI (5) :: st) g M Q = q_T md d P 112 [] ls st g M Q := x_tsw.trans rfl
theorem tw_4_6 : q_T md d P nx [.tableswitch (133) (0) (6) #[56, 66, 76, 92, 102, 112, 124]] ls (qI (6) :: st) g M Q = q_T md d P 124 [] ls st g M Q := x_tsw.trans rfl
theorem tw_4_o (h : x < 0 ∨ 6 < x) : q_T md d P nx [.tableswitch (133) (0) (6) #[56, 66, 76, 92, 102, 112, 124]] ls (qI x :: st) g M Q = q_T md d P 133 [] ls st g M Q := y_tsw_o h
theorem tw_5_0 : q_T md d P nx [.lookupswitch (68) #[(0, 48), (1, 58)]] ls (qI (0) :: st) g M Q = q_T md d P 48 [] ls st g M Q := x_lsw.trans rfl
theorem tw_5_1 : q_T md d P nx [.lookupswitch (68) #[(0, 48), (1, 58)]] ls (qI (1) :: st) g M Q = q_T md d P 58 [] ls st g M Q := x_lsw.trans rfl
theorem tw_5_o (h : x ≠ 0 ∧ x ≠ 1) : q_T md d P nx [.lookupswitch (68) #[(0, 48), (1, 58)]] ls (qI x :: st) g M Q = q_T md d P 68 [] ls st g M Q := x_lsw.trans (by simp only [q_sw]; simp [h])
theorem tw_6_0 : q_T md d P nx [.lookupswitch (70) #[(0, 48), (1, 59)]] ls (qI (0) :: st) g M Q = q_T md d P 48 [] ls st g M Q := x_lsw.trans rfl
theorem tw_6_1 : q_T md d P nx [.lookupswitch (70) #[(0, 48), (1, 59)]] ls (qI (1) :: st) g M Q = q_T md d P 59 [] ls st g M Q := x_lsw.trans rfl
theorem tw_6_o (h : x ≠ 0 ∧ x ≠ 1) : q_T md d P nx [.lookupswitch (70) #[(0, 48), (1, 59)]] ls (qI x :: st) g M Q = q_T md d P 70 [] ls st g M Q := x_lsw.trans (by simp only [q_sw]; simp [h])
theorem tw_7_0 : q_T md d P nx [.lookupswitch (90) #[(0, 68), (1, 79)]] ls (qI (0) :: st) g M Q = q_T md d P 68 [] ls st g M Q := x_lsw.trans rfl
theorem tw_7_1 : q_T md d P nx [.lookupswitch (90) #[(0, 68), (1, 79)]] ls (qI (1) :: st) g M Q = q_T md d P 79 [] ls st g M Q := x_lsw.trans rfl
theorem tw_7_o (h : x ≠ 0 ∧ x ≠ 1) : q_T md d P nx [.lookupswitch (90) #[(0, 68), (1, 79)]] ls (qI x :: st) g M Q = q_T md d P 90 [] ls st g M Q := x_lsw.trans (by simp only [q_sw]; simp [h])
theorem tw_8_0 : q_T md d P nx [.tableswitch (70) (0) (5) #[40, 45, 50, 55, 60, 65]] ls (qI (0) :: st) g M Q = q_T md d P 40 [] ls st g M Q := x_tsw.trans rfl
theorem tw_8_1 : q_T md d P nx [.tableswitch (70) (0) (5) #[40, 45, 50, 55, 60, 65]] ls (qI (1) :: st) g M Q = q_T md d P 45 [] ls st g M Q := x_tsw.trans rfl
theorem tw_8_2 : q_T md d P nx [.tableswitch (70) (0) (5) #[40, 45, 50, 55, 60, 65]] ls (qI (2) :: st) g M Q = q_T md d P 50 [] ls st g M Q := x_tsw.trans rfl
theorem tw_8_3 : q_T md d P nx [.tableswitch (70) (0) (5) #[40, 45, 50, 55, 60, 65]] ls (qI (3) :: st) g M Q = q_T md d P 55 [] ls st g M Q := x_tsw.trans rfl
theorem tw_8_4 : q_T md d P nx [.tableswitch (70) (0) (5) #[40, 45, 50, 55, 60, 65]] ls (qI (4) :: st) g M Q = q_T md d P 60 [] ls st g M Q := x_tsw.trans rfl
theorem tw_8_5 : q_T md d P nx [.tableswitch (70) (0) (5) #[40, 45, 50, 55, 60, 65]] ls (qI (5) :: st) g M Q = q_T md d P 65 [] ls st g M Q := x_tsw.trans rfl
theorem tw_8_o (h : x < 0 ∨ 5 < x) : q_T md d P nx [.tableswitch (70) (0) (5) #[40, 45, 50, 55, 60, 65]] ls (qI x :: st) g M Q = q_T md d P 70 [] ls st g M Q := y_tsw_o h
theorem tw_9_11 : q_T md d P nx [.tableswitch (102) (11) (17) #[44, 58, 102, 72, 83, 94, 98]] ls (qI (11) :: st) g M Q = q_T md d P 44 [] ls st g M Q := x_tsw.trans rfl
theorem tw_9_12 : q_T md d P nx [.tableswitch (102) (11) (17) #[44, 58, 102, 72, 83, 94, 98]] ls (qI (12) :: st) g M Q = q_T md d P 58 [] ls st g M Q := x_tsw.trans rfl
theorem tw_9_13 : q_T md d P nx [.tableswitch (102) (11) (17) #[44, 58, 102, 72, 83, 94, 98]] ls (qI (13) :: st) g M Q = q_T md d P 102 [] ls st g M Q := x_tsw.trans rfl
theorem tw_9_14 : q_T md d P nx [.tableswitch (102) (11) (17) #[44, 58, 102, 72, 83, 94, 98]] ls (qI (14) :: st) g M Q = q_T md d P 72 [] ls st g M Q := x_tsw.trans rfl
theorem tw_9_15 : q_T md d P nx [.tableswitch (102) (11) (17) #[44, 58, 102, 72, 83, 94, 98]] ls (qI (15) :: st) g M Q = q_T md d P 83 [] ls st g M Q := x_tsw.trans rfl
theorem tw_9_16 : q_T md d P nx [.tableswitch (102) (11) (17) #[44, 58, 102, 72, 83, 94, 98]] ls (qI (16) :: st) g M Q = q_T md d P 94 [] ls st g M Q := x_tsw.trans rfl
theorem tw_9_17 : q_T md d P nx [.tableswitch (102) (11) (17) #[44, 58, 102, 72, 83, 94, 98]] ls (qI (17) :: st) g M Q = q_T md d P 98 [] ls st g M Q := x_tsw.trans rfl
theorem tw_9_o (h : x < 11 ∨ 17 < x) : q_T md d P nx [.tableswitch (102) (11) (17) #[44, 58, 102, 72, 83, 94, 98]] ls (qI x :: st) g M Q = q_T md d P 102 [] ls st g M Q := y_tsw_o h
theorem tw_10_1 : q_T md d P nx [.tableswitch (116) (1) (5) #[48, 116, 48, 69, 91]] ls (qI (1) :: st) g M Q = q_T md d P 48 [] ls st g M Q := x_tsw.trans rfl
theorem tw_10_2 : q_T md d P nx [.tableswitch (116) (1) (5) #[48, 116, 48, 69, 91]] ls (qI (2) :: st) g M Q = q_T md d P 116 [] ls st g M Q := x_tsw.trans rfl
theorem tw_10_3 : q_T md d P nx [.tableswitch (116) (1) (5) #[48, 116, 48, 69, 91]] ls (qI (3) :: st) g M Q = q_T md d P 48 [] ls st g M Q := x_tsw.trans rfl
theorem tw_10_4 : q_T md d P nx [.tableswitch (116) (1) (5) #[48, 116, 48, 69, 91]] ls (qI (4) :: st) g M Q = q_T md d P 69 [] ls st g M Q := x_tsw.trans rfl
theorem tw_10_5 : q_T md d P nx [.tableswitch (116) (1) (5) #[48, 116, 48, 69, 91]] ls (qI (5) :: st) g M Q = q_T md d P 91 [] ls st g M Q := x_tsw.trans rfl
theorem tw_10_o (h : x < 1 ∨ 5 < x) : q_T md d P nx [.tableswitch (116) (1) (5) #[48, 116, 48, 69, 91]] ls (qI x :: st) g M Q = q_T md d P 116 [] ls st g M Q := y_tsw_o h
theorem tw_11_2 : q_T md d P nx [.tableswitch (80) (2) (4) #[40, 52, 55]] ls (qI (2) :: st) g M Q = q_T md d P 40 [] ls st g M Q := x_tsw.trans rfl
theorem tw_11_3 : q_T md d P nx [.tableswitch (80) (2) (4) #[40, 52, 55]] ls (qI (3) :: st) g M Q = q_T md d P 52 [] ls st g M Q := x_tsw.trans rfl
theorem tw_11_4 : q_T md d P nx [.tableswitch (80) (2) (4) #[40, 52, 55]] ls (qI (4) :: st) g M Q = q_T md d P 55 [] ls st g M Q := x_tsw.trans rfl
theorem tw_11_o (h : x < 2 ∨ 4 < x) : q_T md d P nx [.tableswitch (80) (2) (4) #[40, 52, 55]] ls (qI x :: st) g M Q = q_T md d P 80 [] ls st g M Q := y_tsw_o h
theorem tw_12_1 : q_T md d P nx [.tableswitch (81) (1) (5) #[64, 66, 70, 66, 79]] ls (qI (1) :: st) g M Q = q_T md d P 64 [] ls st g M Q := x_tsw.trans rfl
theorem tw_12_2 : q_T md d P nx [.tableswitch (81) (1) (5) #[64, 66, 70, 66, 79]] ls (qI (2) :: st) g M Q = q_T md d P 66 [] ls st g M Q := x_tsw.trans rfl
theorem tw_12_3 : q_T md d P nx [.tableswitch (81) (1) (5) #[64, 66, 70, 66, 79]] ls (qI (3) :: st) g M Q = q_T md d P 70 [] ls st g M Q := x_tsw.trans rfl
theorem tw_12_4 : q_T md d P nx [.tableswitch (81) (1) (5) #[64, 66, 70, 66, 79]] ls (qI (4) :: st) g M Q = q_T md d P 66 [] ls st g M Q := x_tsw.trans rfl
theorem tw_12_5 : q_T md d P nx [.tableswitch (81) (1) (5) #[64, 66, 70, 66, 79]] ls (qI (5) :: st) g M Q = q_T md d P 79 [] ls st g M Q := x_tsw.trans rfl
theorem tw_12_o (h : x < 1 ∨ 5 < x) : q_T md d P nx [.tableswitch (81) (1) (5) #[64, 66, 70, 66, 79]] ls (qI x :: st) g M Q = q_T md d P 81 [] ls st g M Q := y_tsw_o h
theorem tw_13_0 : q_T md d P nx [.tableswitch (93) (0) (6) #[56, 56, 56, 67, 74, 81, 87]] ls (qI (0) :: st) g M Q = q_T md d P 56 [] ls st g M Q := x_tsw.trans rfl
theorem tw_13_1 : q_T md d P nx [.tableswitch (93) (0) (6) #[56, 56, 56, 67, 74, 81, 87]] ls (qI (1) :: st) g M Q = q_T md d P 56 [] ls st g M Q := x_tsw.trans rfl
theorem tw_13_2 : q_T md d P nx [.tableswitch (93) (0) (6) #[56, 56, 56, 67, 74, 81, 87]] ls (qI (2) :: st) g M Q = q_T md d P 56 [] ls st g M Q := x_tsw.trans rfl
theorem tw_13_3 : q_T md d P nx [.tableswitch (93) (0) (6) #[56, 56, 56, 67, 74, 81, 87]] ls (qI (3) :: st) g M Q = q_T md d P 67 [] ls st g M Q := x_tsw.trans rfl
theorem tw_13_4 : q_T md d P nx [.tableswitch (93) (0) (6) #[56, 56, 56, 67, 74, 81, 87]] ls (qI (4) :: st) g M Q = q_T md d P 74 [] ls st g M Q := x_tsw.trans rfl
theorem tw_13_5 : q_T md d P nx [.tableswitch (93) (0) (6) #[56, 56, 56, 67, 74, 81, 87]] ls (qI (5) :: st) g M Q = q_T md d P 81 [] ls st g M Q := x_tsw.trans rfl
theorem tw_13_6 : q_T md d P nx [.tableswitch (93) (0) (6) #[56, 56, 56, 67, 74, 81, 87]] ls (qI (6) :: st) g M Q = q_T md d P 87 [] ls st g M Q := x_tsw.trans rfl
theorem tw_13_o (h : x < 0 ∨ 6 < x) : q_T md d P nx [.tableswitch (93) (0) (6) #[56, 56, 56, 67, 74, 81, 87]] ls (qI x :: st) g M Q = q_T md d P 93 [] ls st g M Q := y_tsw_o h
end SWS
end
section
/-! NUMBERS OF THE MACHINE WITHIN THEIR BOUNDS -/
theorem q_lcmp_gt {x y : Int} (h : y < x) : q_lcmp x y = 1 := by
  unfold q_lcmp
  rw [if_neg (by omega), if_neg (by omega)]
theorem q_lcmp_eq {x y : Int} (h : x = y) : q_lcmp x y = 0 := by
  unfold q_lcmp
  rw [if_neg (by omega), if_pos h]
theorem q_i2l_e {x : Int} (h1 : -2147483648 ≤ x) (h2 : x ≤ 2147483647) : q_i2l x = x := by
  unfold q_i2l
  rw [Int32.toInt_toInt64, q_of h1 h2]
theorem q_norm64 (x : Int) : (Int64.ofInt x).toInt = x.bmod 18446744073709551616 := by
  first
    | exact Int64.toInt_ofInt ..
    | simp [Int64.toInt_ofInt]
theorem q_bmod64 {x : Int} (h1 : -9223372036854775808 ≤ x) (h2 : x ≤ 9223372036854775807) : x.bmod 18446744073709551616 = x := by
  rw [Int.bmod_def]
  split <;> omega
theorem q_ofL {x : Int} (h1 : -9223372036854775808 ≤ x) (h2 : x ≤ 9223372036854775807) : (Int64.ofInt x).toInt = x := by rw [q_norm64, q_bmod64 h1 h2]
theorem q_ladd_e {x y : Int} (h1 : -9223372036854775808 ≤ x + y) (h2 : x + y ≤ 9223372036854775807) : q_ladd x y = x + y := by
  rw [q_ladd, Int64.toInt_add, q_norm64, q_norm64]
  simp only [Int.bmod_add_bmod, Int.add_bmod_bmod]
  exact q_bmod64 h1 h2
theorem q_lmul_e {x y : Int} (h1 : -9223372036854775808 ≤ x * y) (h2 : x * y ≤ 9223372036854775807) : q_lmul x y = x * y := by
  rw [q_lmul, Int64.toInt_mul, q_norm64, q_norm64]
  simp only [Int.bmod_mul_bmod, Int.mul_bmod_bmod]
  exact q_bmod64 h1 h2
theorem q_ldiv_e {x y : Int} (h0 : 0 ≤ x) (h1 : x ≤ 9223372036854775807) (h2 : 0 < y) (h3 : y ≤ 9223372036854775807) : q_ldiv x y = x / y := by
  rw [q_ldiv, Int64.toInt_div, q_ofL (by omega) h1, q_ofL (by omega) h3, Int.tdiv_eq_ediv_of_nonneg h0]
  have a1 : 0 ≤ x / y := Int.ediv_nonneg h0 (by omega)
  have a2 : x / y ≤ x := Int.ediv_le_self _ h0
  exact q_bmod64 (by omega) (by omega)
theorem q_lrem_e {x y : Int} (h0 : 0 ≤ x) (h1 : x ≤ 9223372036854775807) (h2 : 0 < y) (h3 : y ≤ 9223372036854775807) : q_lrem x y = x % y := by
  have e := q_ldiv_e h0 h1 h2 h3
  unfold q_ldiv at e
  have a1 : 0 ≤ x % y := Int.emod_nonneg _ (by omega)
  have a2 : x % y < y := Int.emod_lt_of_pos _ h2
  have a3 : y * (x / y) + x % y = x := Int.mul_ediv_add_emod x y
  have a4 : x / y * y = y * (x / y) := Int.mul_comm _ _
  have a5 : 0 ≤ x / y := Int.ediv_nonneg h0 (by omega)
  have a6 : 0 ≤ y * (x / y) := Int.mul_nonneg (by omega) a5
  rw [q_lrem, Int64.toInt_sub, Int64.toInt_mul, e, q_ofL (by omega) h1, q_ofL (by omega) h3, q_bmod64 (x := x / y * y) (by omega) (by omega)]
  rw [q_bmod64 (by omega) (by omega)]
  omega
theorem q_l2i_e {x : Int} (h1 : -2147483648 ≤ x) (h2 : x ≤ 2147483647) : q_l2i x = x := by
  unfold q_l2i
  rw [Int64.toInt_toInt32, q_ofL (by omega) (by omega), q_bmod h1 h2]
theorem q_div_e {x y : Int} (h0 : 0 ≤ x) (h1 : x ≤ 2147483647) (h2 : 0 < y) (h3 : y ≤ 2147483647) : q_div x y = x / y := by
  rw [q_div, Int32.toInt_div, q_of (by omega) h1, q_of (by omega) h3, Int.tdiv_eq_ediv_of_nonneg h0]
  have a1 : 0 ≤ x / y := Int.ediv_nonneg h0 (by omega)
  have a2 : x / y ≤ x := Int.ediv_le_self _ h0
  exact q_bmod (by omega) (by omega)
theorem q_rem_e {x y : Int} (h0 : 0 ≤ x) (h1 : x ≤ 2147483647) (h2 : 0 < y) (h3 : y ≤ 2147483647) : q_rem x y = x % y := by
  have e := q_div_e h0 h1 h2 h3
  unfold q_div at e
  have a1 : 0 ≤ x % y := Int.emod_nonneg _ (by omega)
  have a2 : x % y < y := Int.emod_lt_of_pos _ h2
  have a3 : y * (x / y) + x % y = x := Int.mul_ediv_add_emod x y
  have a4 : x / y * y = y * (x / y) := Int.mul_comm _ _
  have a5 : 0 ≤ x / y := Int.ediv_nonneg h0 (by omega)
  have a6 : 0 ≤ y * (x / y) := Int.mul_nonneg (by omega) a5
  rw [q_rem, Int32.toInt_sub, Int32.toInt_mul, e, q_of (by omega) h1, q_of (by omega) h3, q_bmod (x := x / y * y) (by omega) (by omega)]
  rw [q_bmod (by omega) (by omega)]
  omega
end
