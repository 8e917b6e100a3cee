section
/-! FROM THE MODE IN WHICH ALL IS MADE TO THE ONE IN WHICH THE PLACES ARE KNOWN -/
def q_cvb (t : q_Tm) (a i : Nat) : Bool := decide (q_ty 0 (q_kd a) i = q_ty 1 (q_kd a) i) || (decide ((q_ty 0 (q_kd a) i).1 = 2) && (decide ((q_ty 1 (q_kd a) i).1 = 3) && (decide (q_rd t a i = ((a + (q_ty 1 (q_kd a) i).2.2 : Nat) : Int)) && (decide (a + (q_ty 1 (q_kd a) i).2.2 < 124) && decide (q_kd (a + (q_ty 1 (q_kd a) i).2.2) = (q_ty 1 (q_kd a) i).2.1)))))
def q_cv (t : q_Tm) : Bool := decide (t.length = 124) && (List.range 124).all fun a => (List.range (q_sz (q_kd a))).all fun i => q_cvb t a i
theorem q_cv_get {t : q_Tm} (h : q_cv t = true) {a i : Nat} (ha : a < 124) (hi : i < q_sz (q_kd a)) : q_ty 0 (q_kd a) i = q_ty 1 (q_kd a) i ∨ ((q_ty 0 (q_kd a) i).1 = 2 ∧ (q_ty 1 (q_kd a) i).1 = 3 ∧ q_rd t a i = ((a + (q_ty 1 (q_kd a) i).2.2 : Nat) : Int) ∧ a + (q_ty 1 (q_kd a) i).2.2 < 124 ∧ q_kd (a + (q_ty 1 (q_kd a) i).2.2) = (q_ty 1 (q_kd a) i).2.1) := by
  unfold q_cv at h
  rw [Bool.and_eq_true] at h
  have h1 := List.all_eq_true.mp h.2 a (List.mem_range.mpr ha)
  have h2 := List.all_eq_true.mp h1 i (List.mem_range.mpr hi)
  unfold q_cvb at h2
  rw [Bool.or_eq_true] at h2
  rcases h2 with h2 | h2
  · exact Or.inl (of_decide_eq_true h2)
  · rw [Bool.and_eq_true, Bool.and_eq_true, Bool.and_eq_true, Bool.and_eq_true] at h2
    exact Or.inr ⟨of_decide_eq_true h2.1, of_decide_eq_true h2.2.1, of_decide_eq_true h2.2.2.1, of_decide_eq_true h2.2.2.2.1, of_decide_eq_true h2.2.2.2.2⟩
theorem q_cv_rf {t : q_Tm} {B : q_M} {ad : Nat → Nat} (h : q_cv t = true) {a i : Nat} (ha : a < 124) (hi : i < q_sz (q_kd a)) : q_sv ad (q_ty 1 (q_kd a) i) a (q_lk t B a i) = q_sv ad (q_ty 0 (q_kd a) i) a (q_lk t B a i) ∧ ((q_ty 1 (q_kd a) i).1 = 2 ∨ (q_ty 1 (q_kd a) i).1 = 3 → q_rf ad (q_ty 1 (q_kd a) i) a (q_lk t B a i) = q_rf ad (q_ty 0 (q_kd a) i) a (q_lk t B a i)) := by
  have hlen : a < t.length := by
    unfold q_cv at h
    rw [Bool.and_eq_true] at h
    rw [of_decide_eq_true h.1]
    exact ha
  rcases q_cv_get h ha hi with e | ⟨h1, h2, h3, h4, h5⟩
  · rw [e]
    exact ⟨rfl, fun _ => rfl⟩
  · have e : q_rf ad (q_ty 1 (q_kd a) i) a (q_lk t B a i) = q_rf ad (q_ty 0 (q_kd a) i) a (q_lk t B a i) := by
      unfold q_rf
      rw [if_neg (by rw [h2]; decide), if_pos h1, q_lk_rd hlen, h3, if_neg (by omega), Int.toNat_natCast]
    refine ⟨?_, fun _ => e⟩
    unfold q_sv
    rw [if_pos (Or.inr h2), if_pos (Or.inl h1), e]
theorem q_cv_W {t : q_Tm} {B : q_M} {ad : Nat → Nat} {C : q_CI} (h : q_cv t = true) : q_W 1 ad C 124 (q_lk t B) = q_W 0 ad C 124 (q_lk t B) := by
  unfold q_W
  apply List.map_congr_left
  intro a ha
  have ha2 := List.mem_range.mp ha
  congr 1
  have hq : ∀ k, q_kd a = k → k = 7 ∨ k = 8 ∨ k = 9 → q_rfs 1 ad k a (q_lk t B) = q_rfs 0 ad k a (q_lk t B) := by
    intro k hk h7
    subst hk
    funext i
    unfold q_rfs
    by_cases hi : i < q_sz (q_kd a)
    · rw [if_pos hi, if_pos hi]
      exact (q_cv_rf h ha2 hi).2 (q_ty_arr 1 _ h7 i)
    · rw [if_neg hi, if_neg hi]
  unfold q_en
  by_cases h7 : q_kd a < 7
  · rw [if_pos h7, if_pos h7]
    congr 2
    apply List.map_congr_left
    intro i hi
    exact (q_cv_rf h ha2 (by rw [q_sz_lt h7]; exact List.mem_range.mp hi)).1
  · rw [if_neg h7, if_neg h7]
    by_cases e7 : q_kd a = 7
    · rw [if_pos e7, if_pos e7, hq 7 e7 (Or.inl rfl)]
    · rw [if_neg e7, if_neg e7]
      by_cases e8 : q_kd a = 8
      · rw [if_pos e8, if_pos e8, hq 8 e8 (Or.inr (Or.inl rfl))]
      · rw [if_neg e8, if_neg e8]
        by_cases e9 : q_kd a = 9
        · rw [if_pos e9, if_pos e9, hq 9 e9 (Or.inr (Or.inr rfl))]
        · rw [if_neg e9, if_neg e9]
theorem q_cv_ok {t : q_Tm} {B : q_M} (h : q_cv t = true) (h0 : q_ok 0 124 (q_lk t B)) : q_ok 1 124 (q_lk t B) := by
  refine ⟨h0.1, fun a i ha hi ht => ?_, fun a i ha hi ht => ?_, h0.2.2.2⟩
  · rcases q_cv_get h ha hi with e | ⟨-, h2, -⟩
    · rw [← e] at ht ⊢
      exact h0.2.1 a i ha hi ht
    · rw [h2] at ht
      cases ht
  · rcases q_cv_get h ha hi with e | ⟨-, -, -, h4, h5⟩
    · rw [← e] at ht
      exact absurd ht (q_ty_no3 (Or.inl rfl) i)
    · exact ⟨h4, h5⟩
set_option maxRecDepth 100000 in
theorem q_T0_cv : q_cv q_T0 = true := by decide +kernel
end
section
/-! THE CLAIM OUT OF ONE WALK OF THE LAW'S BODY. Your part is whole_start (and what it stands on); all else here is the same for every law, but numbers. -/
def R_law : String := "StonesChooseLaw"
def lw_P (b : Addr) (xs : List Int32) (args : Array Value) (s : State) : Prop := args = #[.ref b] ∧ s.IntsAt b xs ∧ xs.length ≤ 3584 ∧ (Jvm.Cond.and given_1 narrow_1).before args s = true
def lw_Q (_ : Array Value) (s : State) (o : Outcome) (t : State) : Prop := o = .returned (some (.int 1)) ∧ Framed s o t [] 600000 7302250
def lw_Z (below : List Frame) (a : Array Value) (s : State) : State → Prop := fun t => ∃ o, t.status = .running ∧ Ended t below o ∧ lw_Q a s o t
/-- the law's own end, with 1 on the stack, nothing written that was there before, its room as the claim has it -/
theorem lw_ret {p : Program} {l : Launch} {e : Env} {s : State} {m : MethodId} {below : List Frame} {meth : Method} {c : Code} {b : Nat} (hx : p.tables.exec = Jvm.exec) (hb : c.code = code) (hr : meth.sig.returnType = ret) (hlocks : meth.locks = false) {pc : Nat} {H : Heap} {ls : Array Slot} (hdg : decode code pc = .ok (.ireturn, 1)) : W p l e room_1 s m #[Value.ref b] below meth c H [] 600000 7302250 (lw_Z below #[Value.ref b] s) (F0 m pc ls [.int 1]) := by
  intro T hT X
  obtain ⟨fs, hret, hrun, hended, hW, hframe⟩ := X.leave (v := some (.int 1)) (hlocks := hlocks) (fun h => by rw [hr] at h; cases h)
  have hmeth' : T.vm.method? m = some meth := X.method'
  refine ⟨T.setFrames fs, ?_, .returned (some (.int 1)), hrun, hended, rfl, ⟨_, rfl⟩, hW, hframe⟩
  jvm_step X.here [X.here.top, hx, hb, hdg, hmeth', hr, ret, narrow_b1]
  (try refine ⟨rfl, ?_⟩); (try refine ⟨rfl, ?_⟩)
  first | (intro acts; rw [hret _ acts rfl rfl rfl]) | rw [hret _ _ rfl rfl rfl]
  exact Steps.refl _
/-- what holds at the law's entry: the machine, the code, the tables' words (any of lw_tbl by 'hts w (by decide +kernel)'), the script of L ints xs at the cell b, what the Statement gives of the start (any of its parts by flat_of_before) -/
def lw_At (p : Program) (s : State) (m : MethodId) (meth : Method) (c : Code) (b L : Nat) (xs : Nat → Int32) : Prop :=
  p.tables.exec = Jvm.exec ∧ c.code = code ∧ meth.sig.returnType = ret ∧ c.maxLocals = 4 ∧ s.vm.findClass R_law = some m.cls ∧ (∀ w ∈ lw_tbl, w.before #[Value.ref b] s = true) ∧ va_X b L xs s s.heap ∧ b < s.heap.size ∧ meth.locks = false ∧ (Jvm.Cond.and given_1 narrow_1).before #[Value.ref b] s = true
end
section
/-! THE LAW OUT OF THE PURE MACHINE -/
def q_Bm (L : Nat) (xs : Nat → Int32) : q_M := fun a i => if a = 1000001 then (if i = 0 then (L : Int) else 0) else if a = 1000000 then (if i < L then (xs i).toInt else 0) else 0
theorem q_Bm_scr {L : Nat} {xs : Nat → Int32} : q_scr L xs (q_Bm L xs) := by
  refine ⟨?_, fun i hi => ?_⟩
  · unfold q_Bm
    rw [if_pos rfl, if_pos rfl]
  · unfold q_Bm
    rw [if_neg (by decide), if_pos rfl, if_pos hi]
theorem q_Bm_rng {L : Nat} {xs : Nat → Int32} (hL : L < 2147483648) (a i : Nat) : -2147483648 ≤ q_Bm L xs a i ∧ q_Bm L xs a i < 2147483648 := by
  have hx : -2147483648 ≤ (xs i).toInt ∧ (xs i).toInt < 2147483648 := ⟨Int32.le_toInt (xs i), Int32.toInt_lt (xs i)⟩
  unfold q_Bm
  split
  · split <;> omega
  · split
    · split
      · exact hx
      · omega
    · omega
theorem q_Bm_ok {L : Nat} {xs : Nat → Int32} (hL : L < 2147483648) : q_ok 0 0 (q_Bm L xs) := by
  refine ⟨q_Bm_rng hL, fun a i h => absurd h (Nat.not_lt_zero a), fun a i h => absurd h (Nat.not_lt_zero a), fun a h => absurd h (Nat.not_lt_zero a)⟩
/-- what the pure run of the law's loop owes -/
def q_Owed (L : Nat) (xs : Nat → Int32) : Prop := q_T 1 1000 qP_L_law 18 [] [qS 2, qR 5 0, qR 6 100, qI 0] [] (124, 3394) (q_lk q_T0 (q_Bm L xs)) (fun v g _ => v = some (qI 1) ∧ g.1 ≤ 600000 ∧ g.2 ≤ 7302250)
theorem q_law_locals (b : Nat) (ad adK adV : Nat → Nat) : q_lr ad adK adV b 0 4 [qS 2, qS 0, qS 0, qS 0] ((lg_sl [Value.ref b] ++ List.replicate (4 - (lg_sl [Value.ref b]).length) Slot.unset).toArray) := by
  refine ⟨rfl, [(0, .ref b)], lv_entry [Value.ref b] (n := 4) (Nat.le_of_ble_eq_true rfl), fun i v hi hv => ?_⟩
  match i, hi with
  | 0, hi => cases hi; exact ⟨.ref b, List.mem_cons_self, Or.inr (Or.inl ⟨rfl, rfl⟩)⟩
  | 1, hi => cases hi; cases hv
  | 2, hi => cases hi; cases hv
  | 3, hi => cases hi; cases hv
  | n + 4, hi => cases hi
set_option maxHeartbeats 2000000 in
theorem q_whole {p : Program} {e : Env} {s : State} {m : MethodId} {below : List Frame} {meth : Method} {c : Code} (l : Launch) {b L : Nat} {xs : Nat → Int32} (hL : L < 2147483648) (C0 : lw_At p s m meth c b L xs) (ho : q_Owed L xs) : W p l e room_1 s m #[Value.ref b] below meth c s.heap [] 0 0 (lw_Z below #[Value.ref b] s) (entryFrame m ([Value.ref b] : List Value).toArray 4) := by
  obtain ⟨hx, hb, hr, hml, hown, hts, hX, hbl, hlocks, hgv⟩ := C0
  obtain ⟨D, C, adK, adV, hE⟩ := q_env0 hts hX hbl hgv
  have hC : q_Cx p room_1 s m #[Value.ref b] meth c code D C b L xs adK adV s.heap.size 1000 10 4 (some .boolean) false := ⟨hx, hb, hml, hr, hlocks, hown, fun w hw => hts w (q_Lw_in w hw), (fun h => by cases h), hE, Nat.le_of_ble_eq_true rfl, Nat.le_of_ble_eq_true rfl⟩
  obtain ⟨f, k, hwk⟩ := q_start_ev
  obtain ⟨f2, r, hrun, hv, hg1, hg2⟩ := ho
  have hgr := q_run_grow _ hrun
  have hfit : ∀ g : q_G, g.1 ≤ 600000 → g.2 ≤ 7302250 → q_lim room_1 0 0 g := fun g h1 h2 => ⟨by omega, by show g.1 ≤ 0 + 600000; omega, by show g.2 ≤ 0 + 7302250; omega⟩
  rw [lg_entry_eq]
  refine q_wkT_ok (l := l) (B := q_Bm L xs) (k0 := 0) (k1 := 0) (n0 := 0) (ad0 := fun x => x) (ad := fun x => x) (ow := 10) (nL := 4) (rt := some .boolean) (ini := false) (cc := code) k hC q_ck_law hwk (hfit _ (by decide) (by decide)) ⟨⟨?_, ?_, q_Bm_ok hL, q_Bm_scr, Nat.zero_le _, va_S.rf⟩, q_law_locals b _ adK adV, trivial, rfl, rfl, rfl, Nat.le_refl _, fun _ h => absurd h (Nat.not_lt_zero _)⟩ ?_
  · intro k q h
    cases h
  · exact ⟨(fun i j p q h => by cases h), (fun k q h => by cases h)⟩
  · intro ad H locs lsr str cells slots pc hA
    obtain ⟨⟨hP, hD, hok, hscr, hn, hS⟩, hlr, hvr, hc, hsl, hck, hn0, had⟩ := hA
    have hW := q_cv_W (B := q_Bm L xs) (ad := ad) (C := C) q_T0_cv
    have hP : va_P D vwCl (q_W 0 ad C 124 (q_lk q_T0 (q_Bm L xs))) H := hP
    have hD : va_D (q_A s.heap.size) (q_W 0 ad C 124 (q_lk q_T0 (q_Bm L xs))) := hD
    rw [← hW] at hP hD
    refine q_sound l f2 (k0 := 0) (k1 := 0) (n0 := 0) (ad0 := fun x => x) (ow := 10) (nL := 4) (rt := some .boolean) (ini := false) (cc := code) hC q_ck_law hrun (hfit _ hg1 hg2) ⟨⟨hP, hD, q_cv_ok q_T0_cv hok, hscr, hn, hS⟩, hlr, hvr, hc, hsl, hck, hn0, fun _ h => absurd h (Nat.not_lt_zero _)⟩ ?_
    intro ad' H' locs' lsr' str' cells' slots' pc' len raw op st' hWo hvr' hc' hsl' had' hd hrs hrk
    rw [hv] at hrk
    have hc' : 0 + cells' = r.2.1.1 := hc'
    have hsl' : 0 + slots' = r.2.1.2 := hsl'
    rcases q_rs_sp hrs (q_rk_sp hrk) with rfl | rfl | rfl | rfl | ⟨i, rfl⟩ | ⟨i, rfl⟩ | ⟨i, rfl⟩
    · obtain ⟨hl, h2⟩ := q_if_inv hrs
      cases h2
      subst hl
      obtain ⟨x, rfl, hx1, -⟩ := hrk
      cases hx1
      obtain ⟨_, str1, rfl, hv1, hs1⟩ := q_vrs_cons hvr'
      obtain ⟨X, rfl, hX1⟩ := q_vr_i hv1
      have eX : X = 1 := Int32.toInt_inj.mp (by rw [← hX1]; decide)
      subst eX
      match str1, hs1 with
      | [], _ =>
        refine va_forget (fun q hq => hWo.2.2.2.2.2.2.2 q hq) ?_
        refine W.widen (k := 600000) (n := 7302250) (by omega) (by omega) ?_
        exact lw_ret hx hb hr hlocks hd
      | _ :: _, h => exact h.elim
    · obtain ⟨⟨-, h9⟩, h2⟩ := q_if_inv hrs
      cases h9
    · obtain ⟨⟨-, h9⟩, h2⟩ := q_if_inv hrs
      cases h9
    · obtain ⟨⟨-, h9⟩, h2⟩ := q_if_inv hrs
      cases h9
    · exact (q_rs_nrv hrs hrk).elim
    · exact (q_rs_nrs hrs hrk).elim
    · exact (q_rs_nrt hrs hrk).elim
end
section
/-! SYMBOLIC EXECUTION, where the sides are decided -/
section YOPS
variable {md d : Nat} {P : q_P} {nx : Nat} {ops : List Instr} {ls st : List q_V} {g : q_G} {M : q_M} {Q : Option q_V → q_G → q_M → Prop} {a : Nat} {j x y t : Int}
theorem y_ic_eq_t (h : x = y) : q_T md d P nx [.if_icmp .eq t] ls (qI y :: qI x :: st) g M Q = q_T md d P t.toNat [] ls st g M Q := q_T_next (show q_go (if q_cmp .eq x y = true then t.toNat else nx) [] ls st g M = _ by rw [if_pos (by simp only [q_cmp, decide_eq_true_eq]; omega)])
theorem y_ic_eq_f (h : x ≠ y) : q_T md d P nx [.if_icmp .eq t] ls (qI y :: qI x :: st) g M Q = q_T md d P nx [] ls st g M Q := q_T_next (show q_go (if q_cmp .eq x y = true then t.toNat else nx) [] ls st g M = _ by rw [if_neg (by simp only [q_cmp, decide_eq_true_eq]; omega)])
theorem y_ic_eq (h1 : x = y → q_T md d P t.toNat [] ls st g M Q) (h2 : x ≠ y → q_T md d P nx [] ls st g M Q) : q_T md d P nx [.if_icmp .eq t] ls (qI y :: qI x :: st) g M Q := by
  by_cases h : x = y
  · rw [y_ic_eq_t h]; exact h1 h
  · rw [y_ic_eq_f (by omega)]; exact h2 (by omega)
theorem y_if_eq_t (h : x = 0) : q_T md d P nx [.ifCond .eq t] ls (qI x :: st) g M Q = q_T md d P t.toNat [] ls st g M Q := q_T_next (show q_go (if q_cmp .eq x 0 = true then t.toNat else nx) [] ls st g M = _ by rw [if_pos (by simp only [q_cmp, decide_eq_true_eq]; omega)])
theorem y_if_eq_f (h : x ≠ 0) : q_T md d P nx [.ifCond .eq t] ls (qI x :: st) g M Q = q_T md d P nx [] ls st g M Q := q_T_next (show q_go (if q_cmp .eq x 0 = true then t.toNat else nx) [] ls st g M = _ by rw [if_neg (by simp only [q_cmp, decide_eq_true_eq]; omega)])
theorem y_if_eq (h1 : x = 0 → q_T md d P t.toNat [] ls st g M Q) (h2 : x ≠ 0 → q_T md d P nx [] ls st g M Q) : q_T md d P nx [.ifCond .eq t] ls (qI x :: st) g M Q := by
  by_cases h : x = 0
  · rw [y_if_eq_t h]; exact h1 h
  · rw [y_if_eq_f (by omega)]; exact h2 (by omega)
theorem y_ic_ne_t (h : x ≠ y) : q_T md d P nx [.if_icmp .ne t] ls (qI y :: qI x :: st) g M Q = q_T md d P t.toNat [] ls st g M Q := q_T_next (show q_go (if q_cmp .ne x y = true then t.toNat else nx) [] ls st g M = _ by rw [if_pos (by simp only [q_cmp, decide_eq_true_eq]; omega)])
theorem y_ic_ne_f (h : x = y) : q_T md d P nx [.if_icmp .ne t] ls (qI y :: qI x :: st) g M Q = q_T md d P nx [] ls st g M Q := q_T_next (show q_go (if q_cmp .ne x y = true then t.toNat else nx) [] ls st g M = _ by rw [if_neg (by simp only [q_cmp, decide_eq_true_eq]; omega)])
theorem y_ic_ne (h1 : x ≠ y → q_T md d P t.toNat [] ls st g M Q) (h2 : x = y → q_T md d P nx [] ls st g M Q) : q_T md d P nx [.if_icmp .ne t] ls (qI y :: qI x :: st) g M Q := by
  by_cases h : x ≠ y
  · rw [y_ic_ne_t h]; exact h1 h
  · rw [y_ic_ne_f (by omega)]; exact h2 (by omega)
theorem y_if_ne_t (h : x ≠ 0) : q_T md d P nx [.ifCond .ne t] ls (qI x :: st) g M Q = q_T md d P t.toNat [] ls st g M Q := q_T_next (show q_go (if q_cmp .ne x 0 = true then t.toNat else nx) [] ls st g M = _ by rw [if_pos (by simp only [q_cmp, decide_eq_true_eq]; omega)])
theorem y_if_ne_f (h : x = 0) : q_T md d P nx [.ifCond .ne t] ls (qI x :: st) g M Q = q_T md d P nx [] ls st g M Q := q_T_next (show q_go (if q_cmp .ne x 0 = true then t.toNat else nx) [] ls st g M = _ by rw [if_neg (by simp only [q_cmp, decide_eq_true_eq]; omega)])
theorem y_if_ne (h1 : x ≠ 0 → q_T md d P t.toNat [] ls st g M Q) (h2 : x = 0 → q_T md d P nx [] ls st g M Q) : q_T md d P nx [.ifCond .ne t] ls (qI x :: st) g M Q := by
  by_cases h : x ≠ 0
  · rw [y_if_ne_t h]; exact h1 h
  · rw [y_if_ne_f (by omega)]; exact h2 (by omega)
theorem y_ic_lt_t (h : x < y) : q_T md d P nx [.if_icmp .lt t] ls (qI y :: qI x :: st) g M Q = q_T md d P t.toNat [] ls st g M Q := q_T_next (show q_go (if q_cmp .lt x y = true then t.toNat else nx) [] ls st g M = _ by rw [if_pos (by simp only [q_cmp, decide_eq_true_eq]; omega)])
theorem y_ic_lt_f (h : y ≤ x) : q_T md d P nx [.if_icmp .lt t] ls (qI y :: qI x :: st) g M Q = q_T md d P nx [] ls st g M Q := q_T_next (show q_go (if q_cmp .lt x y = true then t.toNat else nx) [] ls st g M = _ by rw [if_neg (by simp only [q_cmp, decide_eq_true_eq]; omega)])
theorem y_ic_lt (h1 : x < y → q_T md d P t.toNat [] ls st g M Q) (h2 : y ≤ x → q_T md d P nx [] ls st g M Q) : q_T md d P nx [.if_icmp .lt t] ls (qI y :: qI x :: st) g M Q := by
  by_cases h : x < y
  · rw [y_ic_lt_t h]; exact h1 h
  · rw [y_ic_lt_f (by omega)]; exact h2 (by omega)
theorem y_if_lt_t (h : x < 0) : q_T md d P nx [.ifCond .lt t] ls (qI x :: st) g M Q = q_T md d P t.toNat [] ls st g M Q := q_T_next (show q_go (if q_cmp .lt x 0 = true then t.toNat else nx) [] ls st g M = _ by rw [if_pos (by simp only [q_cmp, decide_eq_true_eq]; omega)])
theorem y_if_lt_f (h : 0 ≤ x) : q_T md d P nx [.ifCond .lt t] ls (qI x :: st) g M Q = q_T md d P nx [] ls st g M Q := q_T_next (show q_go (if q_cmp .lt x 0 = true then t.toNat else nx) [] ls st g M = _ by rw [if_neg (by simp only [q_cmp, decide_eq_true_eq]; omega)])
theorem y_if_lt (h1 : x < 0 → q_T md d P t.toNat [] ls st g M Q) (h2 : 0 ≤ x → q_T md d P nx [] ls st g M Q) : q_T md d P nx [.ifCond .lt t] ls (qI x :: st) g M Q := by
  by_cases h : x < 0
  · rw [y_if_lt_t h]; exact h1 h
  · rw [y_if_lt_f (by omega)]; exact h2 (by omega)
theorem y_ic_ge_t (h : y ≤ x) : q_T md d P nx [.if_icmp .ge t] ls (qI y :: qI x :: st) g M Q = q_T md d P t.toNat [] ls st g M Q := q_T_next (show q_go (if q_cmp .ge x y = true then t.toNat else nx) [] ls st g M = _ by rw [if_pos (by simp only [q_cmp, decide_eq_true_eq]; omega)])
theorem y_ic_ge_f (h : x < y) : q_T md d P nx [.if_icmp .ge t] ls (qI y :: qI x :: st) g M Q = q_T md d P nx [] ls st g M Q := q_T_next (show q_go (if q_cmp .ge x y = true then t.toNat else nx) [] ls st g M = _ by rw [if_neg (by simp only [q_cmp, decide_eq_true_eq]; omega)])
theorem y_ic_ge (h1 : y ≤ x → q_T md d P t.toNat [] ls st g M Q) (h2 : x < y → q_T md d P nx [] ls st g M Q) : q_T md d P nx [.if_icmp .ge t] ls (qI y :: qI x :: st) g M Q := by
  by_cases h : y ≤ x
  · rw [y_ic_ge_t h]; exact h1 h
  · rw [y_ic_ge_f (by omega)]; exact h2 (by omega)
theorem y_if_ge_t (h : 0 ≤ x) : q_T md d P nx [.ifCond .ge t] ls (qI x :: st) g M Q = q_T md d P t.toNat [] ls st g M Q := q_T_next (show q_go (if q_cmp .ge x 0 = true then t.toNat else nx) [] ls st g M = _ by rw [if_pos (by simp only [q_cmp, decide_eq_true_eq]; omega)])
theorem y_if_ge_f (h : x < 0) : q_T md d P nx [.ifCond .ge t] ls (qI x :: st) g M Q = q_T md d P nx [] ls st g M Q := q_T_next (show q_go (if q_cmp .ge x 0 = true then t.toNat else nx) [] ls st g M = _ by rw [if_neg (by simp only [q_cmp, decide_eq_true_eq]; omega)])
theorem y_if_ge (h1 : 0 ≤ x → q_T md d P t.toNat [] ls st g M Q) (h2 : x < 0 → q_T md d P nx [] ls st g M Q) : q_T md d P nx [.ifCond .ge t] ls (qI x :: st) g M Q := by
  by_cases h : 0 ≤ x
  · rw [y_if_ge_t h]; exact h1 h
  · rw [y_if_ge_f (by omega)]; exact h2 (by omega)
theorem y_ic_gt_t (h : y < x) : q_T md d P nx [.if_icmp .gt t] ls (qI y :: qI x :: st) g M Q = q_T md d P t.toNat [] ls st g M Q := q_T_next (show q_go (if q_cmp .gt x y = true then t.toNat else nx) [] ls st g M = _ by rw [if_pos (by simp only [q_cmp, decide_eq_true_eq]; omega)])
theorem y_ic_gt_f (h : x ≤ y) : q_T md d P nx [.if_icmp .gt t] ls (qI y :: qI x :: st) g M Q = q_T md d P nx [] ls st g M Q := q_T_next (show q_go (if q_cmp .gt x y = true then t.toNat else nx) [] ls st g M = _ by rw [if_neg (by simp only [q_cmp, decide_eq_true_eq]; omega)])
theorem y_ic_gt (h1 : y < x → q_T md d P t.toNat [] ls st g M Q) (h2 : x ≤ y → q_T md d P nx [] ls st g M Q) : q_T md d P nx [.if_icmp .gt t] ls (qI y :: qI x :: st) g M Q := by
  by_cases h : y < x
  · rw [y_ic_gt_t h]; exact h1 h
  · rw [y_ic_gt_f (by omega)]; exact h2 (by omega)
theorem y_if_gt_t (h : 0 < x) : q_T md d P nx [.ifCond .gt t] ls (qI x :: st) g M Q = q_T md d P t.toNat [] ls st g M Q := q_T_next (show q_go (if q_cmp .gt x 0 = true then t.toNat else nx) [] ls st g M = _ by rw [if_pos (by simp only [q_cmp, decide_eq_true_eq]; omega)])
theorem y_if_gt_f (h : x ≤ 0) : q_T md d P nx [.ifCond .gt t] ls (qI x :: st) g M Q = q_T md d P nx [] ls st g M Q := q_T_next (show q_go (if q_cmp .gt x 0 = true then t.toNat else nx) [] ls st g M = _ by rw [if_neg (by simp only [q_cmp, decide_eq_true_eq]; omega)])
theorem y_if_gt (h1 : 0 < x → q_T md d P t.toNat [] ls st g M Q) (h2 : x ≤ 0 → q_T md d P nx [] ls st g M Q) : q_T md d P nx [.ifCond .gt t] ls (qI x :: st) g M Q := by
  by_cases h : 0 < x
  · rw [y_if_gt_t h]; exact h1 h
  · rw [y_if_gt_f (by omega)]; exact h2 (by omega)
theorem y_ic_le_t (h : x ≤ y) : q_T md d P nx [.if_icmp .le t] ls (qI y :: qI x :: st) g M Q = q_T md d P t.toNat [] ls st g M Q := q_T_next (show q_go (if q_cmp .le x y = true then t.toNat else nx) [] ls st g M = _ by rw [if_pos (by simp only [q_cmp, decide_eq_true_eq]; omega)])
theorem y_ic_le_f (h : y < x) : q_T md d P nx [.if_icmp .le t] ls (qI y :: qI x :: st) g M Q = q_T md d P nx [] ls st g M Q := q_T_next (show q_go (if q_cmp .le x y = true then t.toNat else nx) [] ls st g M = _ by rw [if_neg (by simp only [q_cmp, decide_eq_true_eq]; omega)])
theorem y_ic_le (h1 : x ≤ y → q_T md d P t.toNat [] ls st g M Q) (h2 : y < x → q_T md d P nx [] ls st g M Q) : q_T md d P nx [.if_icmp .le t] ls (qI y :: qI x :: st) g M Q := by
  by_cases h : x ≤ y
  · rw [y_ic_le_t h]; exact h1 h
  · rw [y_ic_le_f (by omega)]; exact h2 (by omega)
theorem y_if_le_t (h : x ≤ 0) : q_T md d P nx [.ifCond .le t] ls (qI x :: st) g M Q = q_T md d P t.toNat [] ls st g M Q := q_T_next (show q_go (if q_cmp .le x 0 = true then t.toNat else nx) [] ls st g M = _ by rw [if_pos (by simp only [q_cmp, decide_eq_true_eq]; omega)])
theorem y_if_le_f (h : 0 < x) : q_T md d P nx [.ifCond .le t] ls (qI x :: st) g M Q = q_T md d P nx [] ls st g M Q := q_T_next (show q_go (if q_cmp .le x 0 = true then t.toNat else nx) [] ls st g M = _ by rw [if_neg (by simp only [q_cmp, decide_eq_true_eq]; omega)])
theorem y_if_le (h1 : x ≤ 0 → q_T md d P t.toNat [] ls st g M Q) (h2 : 0 < x → q_T md d P nx [] ls st g M Q) : q_T md d P nx [.ifCond .le t] ls (qI x :: st) g M Q := by
  by_cases h : x ≤ 0
  · rw [y_if_le_t h]; exact h1 h
  · rw [y_if_le_f (by omega)]; exact h2 (by omega)
theorem y_iald_23 (h0 : 0 ≤ j) (h1 : j < 3) : q_T md d P nx (.iaload :: ops) ls (qI j :: qR 23 a :: st) g M Q = q_T md d P nx ops ls (qI (M a j.toNat) :: st) g M Q := by rw [x_iald_23]; simp only [h0, h1, true_and, and_self]
theorem y_iast_23 (h0 : 0 ≤ j) (h1 : j < 3) : q_T md d P nx (.iastore :: ops) ls (qI x :: qI j :: qR 23 a :: st) g M Q = q_T md d P nx ops ls st g (q_upd M a j.toNat x) Q := by rw [x_iast_23]; simp only [h0, h1, true_and, and_self]
theorem y_iald_24 (h0 : 0 ≤ j) (h1 : j < 4) : q_T md d P nx (.iaload :: ops) ls (qI j :: qR 24 a :: st) g M Q = q_T md d P nx ops ls (qI (M a j.toNat) :: st) g M Q := by rw [x_iald_24]; simp only [h0, h1, true_and, and_self]
theorem y_iast_24 (h0 : 0 ≤ j) (h1 : j < 4) : q_T md d P nx (.iastore :: ops) ls (qI x :: qI j :: qR 24 a :: st) g M Q = q_T md d P nx ops ls st g (q_upd M a j.toNat x) Q := by rw [x_iast_24]; simp only [h0, h1, true_and, and_self]
theorem y_iald_25 (h0 : 0 ≤ j) (h1 : j < 5) : q_T md d P nx (.iaload :: ops) ls (qI j :: qR 25 a :: st) g M Q = q_T md d P nx ops ls (qI (M a j.toNat) :: st) g M Q := by rw [x_iald_25]; simp only [h0, h1, true_and, and_self]
theorem y_iast_25 (h0 : 0 ≤ j) (h1 : j < 5) : q_T md d P nx (.iastore :: ops) ls (qI x :: qI j :: qR 25 a :: st) g M Q = q_T md d P nx ops ls st g (q_upd M a j.toNat x) Q := by rw [x_iast_25]; simp only [h0, h1, true_and, and_self]
theorem y_iald_26 (h0 : 0 ≤ j) (h1 : j < 6) : q_T md d P nx (.iaload :: ops) ls (qI j :: qR 26 a :: st) g M Q = q_T md d P nx ops ls (qI (M a j.toNat) :: st) g M Q := by rw [x_iald_26]; simp only [h0, h1, true_and, and_self]
theorem y_iast_26 (h0 : 0 ≤ j) (h1 : j < 6) : q_T md d P nx (.iastore :: ops) ls (qI x :: qI j :: qR 26 a :: st) g M Q = q_T md d P nx ops ls st g (q_upd M a j.toNat x) Q := by rw [x_iast_26]; simp only [h0, h1, true_and, and_self]
theorem y_iald_35 (h0 : 0 ≤ j) (h1 : j < 15) : q_T md d P nx (.iaload :: ops) ls (qI j :: qR 35 a :: st) g M Q = q_T md d P nx ops ls (qI (M a j.toNat) :: st) g M Q := by rw [x_iald_35]; simp only [h0, h1, true_and, and_self]
theorem y_iast_35 (h0 : 0 ≤ j) (h1 : j < 15) : q_T md d P nx (.iastore :: ops) ls (qI x :: qI j :: qR 35 a :: st) g M Q = q_T md d P nx ops ls st g (q_upd M a j.toNat x) Q := by rw [x_iast_35]; simp only [h0, h1, true_and, and_self]
theorem y_iald_40 (h0 : 0 ≤ j) (h1 : j < 20) : q_T md d P nx (.iaload :: ops) ls (qI j :: qR 40 a :: st) g M Q = q_T md d P nx ops ls (qI (M a j.toNat) :: st) g M Q := by rw [x_iald_40]; simp only [h0, h1, true_and, and_self]
theorem y_iast_40 (h0 : 0 ≤ j) (h1 : j < 20) : q_T md d P nx (.iastore :: ops) ls (qI x :: qI j :: qR 40 a :: st) g M Q = q_T md d P nx ops ls st g (q_upd M a j.toNat x) Q := by rw [x_iast_40]; simp only [h0, h1, true_and, and_self]
theorem y_iald_44 (h0 : 0 ≤ j) (h1 : j < 24) : q_T md d P nx (.iaload :: ops) ls (qI j :: qR 44 a :: st) g M Q = q_T md d P nx ops ls (qI (M a j.toNat) :: st) g M Q := by rw [x_iald_44]; simp only [h0, h1, true_and, and_self]
theorem y_iast_44 (h0 : 0 ≤ j) (h1 : j < 24) : q_T md d P nx (.iastore :: ops) ls (qI x :: qI j :: qR 44 a :: st) g M Q = q_T md d P nx ops ls st g (q_upd M a j.toNat x) Q := by rw [x_iast_44]; simp only [h0, h1, true_and, and_self]
theorem y_iald_45 (h0 : 0 ≤ j) (h1 : j < 25) : q_T md d P nx (.iaload :: ops) ls (qI j :: qR 45 a :: st) g M Q = q_T md d P nx ops ls (qI (M a j.toNat) :: st) g M Q := by rw [x_iald_45]; simp only [h0, h1, true_and, and_self]
theorem y_iast_45 (h0 : 0 ≤ j) (h1 : j < 25) : q_T md d P nx (.iastore :: ops) ls (qI x :: qI j :: qR 45 a :: st) g M Q = q_T md d P nx ops ls st g (q_upd M a j.toNat x) Q := by rw [x_iast_45]; simp only [h0, h1, true_and, and_self]
theorem y_iald_55 (h0 : 0 ≤ j) (h1 : j < 35) : q_T md d P nx (.iaload :: ops) ls (qI j :: qR 55 a :: st) g M Q = q_T md d P nx ops ls (qI (M a j.toNat) :: st) g M Q := by rw [x_iald_55]; simp only [h0, h1, true_and, and_self]
theorem y_iast_55 (h0 : 0 ≤ j) (h1 : j < 35) : q_T md d P nx (.iastore :: ops) ls (qI x :: qI j :: qR 55 a :: st) g M Q = q_T md d P nx ops ls st g (q_upd M a j.toNat x) Q := by rw [x_iast_55]; simp only [h0, h1, true_and, and_self]
theorem y_iald_56 (h0 : 0 ≤ j) (h1 : j < 36) : q_T md d P nx (.iaload :: ops) ls (qI j :: qR 56 a :: st) g M Q = q_T md d P nx ops ls (qI (M a j.toNat) :: st) g M Q := by rw [x_iald_56]; simp only [h0, h1, true_and, and_self]
theorem y_iast_56 (h0 : 0 ≤ j) (h1 : j < 36) : q_T md d P nx (.iastore :: ops) ls (qI x :: qI j :: qR 56 a :: st) g M Q = q_T md d P nx ops ls st g (q_upd M a j.toNat x) Q := by rw [x_iast_56]; simp only [h0, h1, true_and, and_self]
theorem y_iald_60 (h0 : 0 ≤ j) (h1 : j < 40) : q_T md d P nx (.iaload :: ops) ls (qI j :: qR 60 a :: st) g M Q = q_T md d P nx ops ls (qI (M a j.toNat) :: st) g M Q := by rw [x_iald_60]; simp only [h0, h1, true_and, and_self]
theorem y_iast_60 (h0 : 0 ≤ j) (h1 : j < 40) : q_T md d P nx (.iastore :: ops) ls (qI x :: qI j :: qR 60 a :: st) g M Q = q_T md d P nx ops ls st g (q_upd M a j.toNat x) Q := by rw [x_iast_60]; simp only [h0, h1, true_and, and_self]
theorem y_iald_116 (h0 : 0 ≤ j) (h1 : j < 96) : q_T md d P nx (.iaload :: ops) ls (qI j :: qR 116 a :: st) g M Q = q_T md d P nx ops ls (qI (M a j.toNat) :: st) g M Q := by rw [x_iald_116]; simp only [h0, h1, true_and, and_self]
theorem y_iald_180 (h0 : 0 ≤ j) (h1 : j < 160) : q_T md d P nx (.iaload :: ops) ls (qI j :: qR 180 a :: st) g M Q = q_T md d P nx ops ls (qI (M a j.toNat) :: st) g M Q := by rw [x_iald_180]; simp only [h0, h1, true_and, and_self]
theorem y_iast_180 (h0 : 0 ≤ j) (h1 : j < 160) : q_T md d P nx (.iastore :: ops) ls (qI x :: qI j :: qR 180 a :: st) g M Q = q_T md d P nx ops ls st g (q_upd M a j.toNat x) Q := by rw [x_iast_180]; simp only [h0, h1, true_and, and_self]
theorem y_iald_220 (h0 : 0 ≤ j) (h1 : j < 200) : q_T md d P nx (.iaload :: ops) ls (qI j :: qR 220 a :: st) g M Q = q_T md d P nx ops ls (qI (M a j.toNat) :: st) g M Q := by rw [x_iald_220]; simp only [h0, h1, true_and, and_self]
theorem y_iast_220 (h0 : 0 ≤ j) (h1 : j < 200) : q_T md d P nx (.iastore :: ops) ls (qI x :: qI j :: qR 220 a :: st) g M Q = q_T md d P nx ops ls st g (q_upd M a j.toNat x) Q := by rw [x_iast_220]; simp only [h0, h1, true_and, and_self]
theorem y_iald_1220 (h0 : 0 ≤ j) (h1 : j < 1200) : q_T md d P nx (.iaload :: ops) ls (qI j :: qR 1220 a :: st) g M Q = q_T md d P nx ops ls (qI (M a j.toNat) :: st) g M Q := by rw [x_iald_1220]; simp only [h0, h1, true_and, and_self]
theorem y_iast_1220 (h0 : 0 ≤ j) (h1 : j < 1200) : q_T md d P nx (.iastore :: ops) ls (qI x :: qI j :: qR 1220 a :: st) g M Q = q_T md d P nx ops ls st g (q_upd M a j.toNat x) Q := by rw [x_iast_1220]; simp only [h0, h1, true_and, and_self]
theorem y_aald7 (h0 : 0 ≤ j) (h1 : j < 6) : q_T 1 d P nx (.aaload :: ops) ls (qI j :: qR 7 a :: st) g M Q = q_T 1 d P nx ops ls (qR 26 (a + (1 + j.toNat)) :: st) g M Q := by rw [x_aald7]; simp only [h0, h1, true_and, and_self]
theorem y_aald8 (h0 : 0 ≤ j) (h1 : j < 6) : q_T 1 d P nx (.aaload :: ops) ls (qI j :: qR 8 a :: st) g M Q = q_T 1 d P nx ops ls (q_dyn 3 (M a j.toNat) :: st) g M Q := by rw [x_aald8]; simp only [h0, h1, true_and, and_self]
theorem y_aald9 (h0 : 0 ≤ j) (h1 : j < 4) : q_T 1 d P nx (.aaload :: ops) ls (qI j :: qR 9 a :: st) g M Q = q_T 1 d P nx ops ls (qR 2 (a + (86 + 2 * j.toNat)) :: st) g M Q := by rw [x_aald9]; simp only [h0, h1, true_and, and_self]
theorem y_sald (h0 : 0 ≤ j) (h1 : j < M 1000001 0) : q_T md d P nx (.iaload :: ops) ls (qI j :: qS 2 :: st) g M Q = q_T md d P nx ops ls (qI (M 1000000 j.toNat) :: st) g M Q := by rw [x_sald]; simp only [h0, h1, true_and, and_self]
theorem y_tsw_o {dd lo hi : Int} {offs : Array Int} (h : x < lo ∨ hi < x) : q_T md d P nx [.tableswitch dd lo hi offs] ls (qI x :: st) g M Q = q_T md d P dd.toNat [] ls st g M Q := by rw [x_tsw, if_pos h]
theorem y_idiv (h : y ≠ 0) : q_T md d P nx (.idiv :: ops) ls (qI y :: qI x :: st) g M Q = q_T md d P nx ops ls (qI (q_div x y) :: st) g M Q := q_T_next (show (if y = 0 then none else _) = _ by rw [if_neg h])
theorem y_irem (h : y ≠ 0) : q_T md d P nx (.irem :: ops) ls (qI y :: qI x :: st) g M Q = q_T md d P nx ops ls (qI (q_rem x y) :: st) g M Q := q_T_next (show (if y = 0 then none else _) = _ by rw [if_neg h])
theorem y_ldiv (h : y ≠ 0) : q_T md d P nx (.ldiv :: ops) ls (qL y :: qL x :: st) g M Q = q_T md d P nx ops ls (qL (q_ldiv x y) :: st) g M Q := q_T_next (show (if y = 0 then none else _) = _ by rw [if_neg h])
theorem y_lrem (h : y ≠ 0) : q_T md d P nx (.lrem :: ops) ls (qL y :: qL x :: st) g M Q = q_T md d P nx ops ls (qL (q_lrem x y) :: st) g M Q := q_T_next (show (if y = 0 then none else _) = _ by rw [if_neg h])
end YOPS
theorem q_upd_s {M : q_M} {a i : Nat} {x : Int} : q_upd M a i x a i = x := if_pos ⟨rfl, rfl⟩
theorem q_upd_n {M : q_M} {a i b j : Nat} {x : Int} (h : b ≠ a ∨ j ≠ i) : q_upd M a i x b j = M b j := if_neg (fun q => by rcases h with h | h; exact h q.1; exact h q.2)
end
section
/-! FACTS OF THE FIRST STATE, AND THE SWITCHES -/
section FACTS
variable {B : q_M}
theorem m_1_1 : q_lk q_T0 B 1 1 = 0 := rfl
theorem m_7_0 : q_lk q_T0 B 7 0 = 1585 := rfl
theorem m_7_1 : q_lk q_T0 B 7 1 = 2 := rfl
theorem m_7_2 : q_lk q_T0 B 7 2 = 7 := rfl
theorem m_7_3 : q_lk q_T0 B 7 3 = 0 := rfl
theorem m_7_4 : q_lk q_T0 B 7 4 = 50 := rfl
theorem m_7_5 : q_lk q_T0 B 7 5 = 0 := rfl
theorem m_7_6 : q_lk q_T0 B 7 6 = 145 := rfl
theorem m_7_7 : q_lk q_T0 B 7 7 = 0 := rfl
theorem m_9_0 : q_lk q_T0 B 9 0 = 0 := rfl
theorem m_9_1 : q_lk q_T0 B 9 1 = 4 := rfl
theorem m_9_2 : q_lk q_T0 B 9 2 = 6 := rfl
theorem m_11_9 : q_lk q_T0 B 11 9 = 0 := rfl
theorem m_65_9 : q_lk q_T0 B 65 9 = 0 := rfl
theorem m_100_0 : q_lk q_T0 B 100 0 = 0 := rfl
theorem m_100_5 : q_lk q_T0 B 100 5 = 0 := rfl
theorem m_100_7 : q_lk q_T0 B 100 7 = 0 := rfl
theorem m_100_11 : q_lk q_T0 B 100 11 = 0 := rfl
end FACTS
theorem zr_shr0 : q_shr 0 0 = 0 := by decide
theorem zr_shr1 : q_shr 0 1 = 0 := by decide
theorem zr_shr2 : q_shr 0 2 = 0 := by decide
theorem zr_shr3 : q_shr 0 3 = 0 := by decide
theorem zr_shr4 : q_shr 0 4 = 0 := by decide
theorem zr_and : q_and 0 1 = 0 := by decide
theorem zr_dyn8 : q_dyn 3 8 = qR 3 8 := rfl
theorem zr_or : q_or 0 0 = 0 := by decide
theorem zr_shl : q_shl 0 4 = 0 := by decide
theorem q_cpy_n {M : q_M} {s sp d dp n b i : Nat} (h : b ≠ d ∨ i < dp ∨ dp + n ≤ i) : q_cpy M s sp d dp n b i = M b i := if_neg (fun q => by rcases h with h | h | h; exact h q.1; exact absurd q.2.1 (by omega); exact absurd q.2.2 (by omega))
theorem q_cpy_i {M : q_M} {s sp d dp n i : Nat} (h1 : dp ≤ i) (h2 : i < dp + n) : q_cpy M s sp d dp n d i = M s (sp + (i - dp)) := if_pos ⟨rfl, h1, h2⟩
theorem y_alen_180 {md d : Nat} {P : q_P} {nx : Nat} {ops : List Instr} {ls st : List q_V} {g : q_G} {M : q_M} {Q : Option q_V → q_G → q_M → Prop} {a : Nat} : q_T md d P nx (.arraylength :: ops) ls (qR 180 a :: st) g M Q = q_T md d P nx ops ls (qI 160 :: st) g M Q := q_T_ifT (c := q_isA 180 = true) (by decide) rfl
theorem y_cpy26 {md d : Nat} {P : q_P} {nx : Nat} {ops : List Instr} {ls st : List q_V} {g : q_G} {M : q_M} {Q : Option q_V → q_G → q_M → Prop} {s dd : Nat} {sp dp n : Int} (h1 : 0 ≤ sp) (h2 : 0 ≤ dp) (h3 : 0 ≤ n) (h4 : sp + n ≤ 6) (h5 : dp + n ≤ 6) : q_T md d P nx (.monitorexit :: ops) ls (qI n :: qI dp :: qR 26 dd :: qI sp :: qR 26 s :: st) g M Q = (st.length ≤ 3 ∧ q_T md d P nx ops ls st g (q_cpy M s sp.toNat dd dp.toNat n.toNat) Q) := by rw [x_cpy]; exact propext ⟨fun q => ⟨q.1.2.2.2.2.2.2.2, q.2⟩, fun q => ⟨⟨rfl, rfl, h1, h2, h3, h4, h5, q.1⟩, q.2⟩⟩
section SWS
variable {md d : Nat} {P : q_P} {nx : Nat} {ls st : List q_V} {g : q_G} {M : q_M} {Q : Option q_V → q_G → q_M → Prop} {x : Int}
theorem tw_0_5 : q_T md d P nx [.tableswitch (308) (5) (10) #[224, 234, 244, 254, 271, 288]] ls (qI (5) :: st) g M Q = q_T md d P 224 [] ls st g M Q := x_tsw.trans rfl
theorem tw_0_6 : q_T md d P nx [.tableswitch (308) (5) (10) #[224, 234, 244, 254, 271, 288]] ls (qI (6) :: st) g M Q = q_T md d P 234 [] ls st g M Q := x_tsw.trans rfl
theorem tw_0_7 : q_T md d P nx [.tableswitch (308) (5) (10) #[224, 234, 244, 254, 271, 288]] ls (qI (7) :: st) g M Q = q_T md d P 244 [] ls st g M Q := x_tsw.trans rfl
theorem tw_0_8 : q_T md d P nx [.tableswitch (308) (5) (10) #[224, 234, 244, 254, 271, 288]] ls (qI (8) :: st) g M Q = q_T md d P 254 [] ls st g M Q := x_tsw.trans rfl
theorem tw_0_9 : q_T md d P nx [.tableswitch (308) (5) (10) #[224, 234, 244, 254, 271, 288]] ls (qI (9) :: st) g M Q = q_T md d P 271 [] ls st g M Q := x_tsw.trans rfl
theorem tw_0_10 : q_T md d P nx [.tableswitch (308) (5) (10) #[224, 234, 244, 254, 271, 288]] ls (qI (10) :: st) g M Q = q_T md d P 288 [] ls st g M Q := x_tsw.trans rfl
theorem tw_0_o (h : x < 5 ∨ 10 < x) : q_T md d P nx [.tableswitch (308) (5) (10) #[224, 234, 244, 254, 271, 288]] ls (qI x :: st) g M Q = q_T md d P 308 [] ls st g M Q := y_tsw_o h
theorem tw_1_0 : q_T md d P nx [.tableswitch (94) (0) (5) #[40, 51, 59, 70, 75, 86]] ls (qI (0) :: st) g M Q = q_T md d P 40 [] ls st g M Q := x_tsw.trans rfl
theorem tw_1_1 : q_T md d P nx [.tableswitch (94) (0) (5) #[40, 51, 59, 70, 75, 86]] ls (qI (1) :: st) g M Q = q_T md d P 51 [] ls st g M Q := x_tsw.trans rfl
theorem tw_1_2 : q_T md d P nx [.tableswitch (94) (0) (5) #[40, 51, 59, 70, 75, 86]] ls (qI (2) :: st) g M Q = q_T md d P 59 [] ls st g M Q := x_tsw.trans rfl
theorem tw_1_3 : q_T md d P nx [.tableswitch (94) (0) (5) #[40, 51, 59, 70, 75, 86]] ls (qI (3) :: st) g M Q = q_T md d P 70 [] ls st g M Q := x_tsw.trans rfl
theorem tw_1_4 : q_T md d P nx [.tableswitch (94) (0) (5) #[40, 51, 59, 70, 75, 86]] ls (qI (4) :: st) g M Q = q_T md d P 75 [] ls st g M Q := x_tsw.trans rfl
theorem tw_1_5 : q_T md d P nx [.tableswitch (94) (0) (5) #[40, 51, 59, 70, 75, 86]] ls (qI (5) :: st) g M Q = q_T md d P 86 [] ls st g M Q := x_tsw.trans rfl
theorem tw_1_o (h : x < 0 ∨ 5 < x) : q_T md d P nx [.tableswitch (94) (0) (5) #[40, 51, 59, 70, 75, 86]] ls (qI x :: st) g M Q = q_T md d P 94 [] ls st g M Q := y_tsw_o h
theorem tw_2_0 : q_T md d P nx [.tableswitch (137) (0) (2) #[96, 108, 124]] ls (qI (0) :: st) g M Q = q_T md d P 96 [] ls st g M Q := x_tsw.trans rfl
theorem tw_2_1 : q_T md d P nx [.tableswitch (137) (0) (2) #[96, 108, 124]] ls (qI (1) :: st) g M Q = q_T md d P 108 [] ls st g M Q := x_tsw.trans rfl
theorem tw_2_2 : q_T md d P nx [.tableswitch (137) (0) (2) #[96, 108, 124]] ls (qI (2) :: st) g M Q = q_T md d P 124 [] ls st g M Q := x_tsw.trans rfl
theorem tw_2_o (h : x < 0 ∨ 2 < x) : q_T md d P nx [.tableswitch (137) (0) (2) #[96, 108, 124]] ls (qI x :: st) g M Q = q_T md d P 137 [] ls st g M Q := y_tsw_o h
theorem tw_3_0 : q_T md d P nx [.tableswitch (99) (0) (4) #[44, 54, 67, 77, 87]] ls (qI (0) :: st) g M Q = q_T md d P 44 [] ls st g M Q := x_tsw.trans rfl
theorem tw_3_1 : q_T md d P nx [.tableswitch (99) (0) (4) #[44, 54, 67, 77, 87]] ls (qI (1) :: st) g M Q = q_T md d P 54 [] ls st g M Q := x_tsw.trans rfl
theorem tw_3_2 : q_T md d P nx [.tableswitch (99) (0) (4) #[44, 54, 67, 77, 87]] ls (qI (2) :: st) g M Q = q_T md d P 67 [] ls st g M Q := x_tsw.trans rfl
theorem tw_3_3 : q_T md d P nx [.tableswitch (99) (0) (4) #[44, 54, 67, 77, 87]] ls (qI (3) :: st) g M Q = q_T md d P 77 [] ls st g M Q := x_tsw.trans rfl
theorem tw_3_4 : q_T md d P nx [.tableswitch (99) (0) (4) #[44, 54, 67, 77, 87]] ls (qI (4) :: st) g M Q = q_T md d P 87 [] ls st g M Q := x_tsw.trans rfl
theorem tw_3_o (h : x < 0 ∨ 4 < x) : q_T md d P nx [.tableswitch (99) (0) (4) #[44, 54, 67, 77, 87]] ls (qI x :: st) g M Q = q_T md d P 99 [] ls st g M Q := y_tsw_o h
theorem tw_4_0 : q_T md d P nx [.tableswitch (133) (0) (6) #[56, 66, 76, 92, 102, 112, 124]] ls (qI (0) :: st) g M Q = q_T md d P 56 [] ls st g M Q := x_tsw.trans rfl
theorem tw_4_1 : q_T md d P nx [.tableswitch (133) (0) (6) #[56, 66, 76, 92, 102, 112, 124]] ls (qI (1) :: st) g M Q = q_T md d P 66 [] ls st g M Q := x_tsw.trans rfl
theorem tw_4_2 : q_T md d P nx [.tableswitch (133) (0) (6) #[56, 66, 76, 92, 102, 112, 124]] ls (qI (2) :: st) g M Q = q_T md d P 76 [] ls st g M Q := x_tsw.trans rfl
theorem tw_4_3 : q_T md d P nx [.tableswitch (133) (0) (6) #[56, 66, 76, 92, 102, 112, 124]] ls (qI (3) :: st) g M Q = q_T md d P 92 [] ls st g M Q := x_tsw.trans rfl
theorem tw_4_4 : q_T md d P nx [.tableswitch (133) (0) (6) #[56, 66, 76, 92, 102, 112, 124]] ls (qI (4) :: st) g M Q = q_T md d P 102 [] ls st g M Q := x_tsw.trans rfl
theorem tw_4_5 : q_T md d P nx [.tableswitch (133) (0) (6) #[56, 66, 76, 92, 102, 112, 124]] ls (qI (5) :: st) g M Q = q_T md d P 112 [] ls st g M Q := x_tsw.trans rfl
theorem tw_4_6 : q_T md d P nx [.tableswitch (133) (0) (6) #[56, 66, 76, 92, 102, 112, 124]] ls (qI (6) :: st) g M Q = q_T md d P 124 [] ls st g M Q := x_tsw.trans rfl
theorem tw_4_o (h : x < 0 ∨ 6 < x) : q_T md d P nx [.tableswitch (133) (0) (6) #[56, 66, 76, 92, 102, 112, 124]] ls (qI x :: st) g M Q = q_T md d P 133 [] ls st g M Q := y_tsw_o h
theorem tw_5_0 : q_T md d P nx [.lookupswitch (68) #[(0, 48), (1, 58)]] ls (qI (0) :: st) g M Q = q_T md d P 48 [] ls st g M Q := x_lsw.trans rfl
theorem tw_5_1 : q_T md d P nx [.lookupswitch (68) #[(0, 48), (1, 58)]] ls (qI (1) :: st) g M Q = q_T md d P 58 [] ls st g M Q := x_lsw.trans rfl
theorem tw_5_o (h : x ≠ 0 ∧ x ≠ 1) : q_T md d P nx [.lookupswitch (68) #[(0, 48), (1, 58)]] ls (qI x :: st) g M Q = q_T md d P 68 [] ls st g M Q := x_lsw.trans (by simp only [q_sw]; simp [h])
theorem tw_6_0 : q_T md d P nx [.lookupswitch (70) #[(0, 48), (1, 59)]] ls (qI (0) :: st) g M Q = q_T md d P 48 [] ls st g M Q := x_lsw.trans rfl
theorem tw_6_1 : q_T md d P nx [.lookupswitch (70) #[(0, 48), (1, 59)]] ls (qI (1) :: st) g M Q = q_T md d P 59 [] ls st g M Q := x_lsw.trans rfl
theorem tw_6_o (h : x ≠ 0 ∧ x ≠ 1) : q_T md d P nx [.lookupswitch (70) #[(0, 48), (1, 59)]] ls (qI x :: st) g M Q = q_T md d P 70 [] ls st g M Q := x_lsw.trans (by simp only [q_sw]; simp [h])
theorem tw_7_0 : q_T md d P nx [.lookupswitch (90) #[(0, 68), (1, 79)]] ls (qI (0) :: st) g M Q = q_T md d P 68 [] ls st g M Q := x_lsw.trans rfl
theorem tw_7_1 : q_T md d P nx [.lookupswitch (90) #[(0, 68), (1, 79)]] ls (qI (1) :: st) g M Q = q_T md d P 79 [] ls st g M Q := x_lsw.trans rfl
theorem tw_7_o (h : x ≠ 0 ∧ x ≠ 1) : q_T md d P nx [.lookupswitch (90) #[(0, 68), (1, 79)]] ls (qI x :: st) g M Q = q_T md d P 90 [] ls st g M Q := x_lsw.trans (by simp only [q_sw]; simp [h])
theorem tw_8_0 : q_T md d P nx [.tableswitch (70) (0) (5) #[40, 45, 50, 55, 60, 65]] ls (qI (0) :: st) g M Q = q_T md d P 40 [] ls st g M Q := x_tsw.trans rfl
theorem tw_8_1 : q_T md d P nx [.tableswitch (70) (0) (5) #[40, 45, 50, 55, 60, 65]] ls (qI (1) :: st) g M Q = q_T md d P 45 [] ls st g M Q := x_tsw.trans rfl
theorem tw_8_2 : q_T md d P nx [.tableswitch (70) (0) (5) #[40, 45, 50, 55, 60, 65]] ls (qI (2) :: st) g M Q = q_T md d P 50 [] ls st g M Q := x_tsw.trans rfl
theorem tw_8_3 : q_T md d P nx [.tableswitch (70) (0) (5) #[40, 45, 50, 55, 60, 65]] ls (qI (3) :: st) g M Q = q_T md d P 55 [] ls st g M Q := x_tsw.trans rfl
theorem tw_8_4 : q_T md d P nx [.tableswitch (70) (0) (5) #[40, 45, 50, 55, 60, 65]] ls (qI (4) :: st) g M Q = q_T md d P 60 [] ls st g M Q := x_tsw.trans rfl
theorem tw_8_5 : q_T md d P nx [.tableswitch (70) (0) (5) #[40, 45, 50, 55, 60, 65]] ls (qI (5) :: st) g M Q = q_T md d P 65 [] ls st g M Q := x_tsw.trans rfl
theorem tw_8_o (h : x < 0 ∨ 5 < x) : q_T md d P nx [.tableswitch (70) (0) (5) #[40, 45, 50, 55, 60, 65]] ls (qI x :: st) g M Q = q_T md d P 70 [] ls st g M Q := y_tsw_o h
theorem tw_9_11 : q_T md d P nx [.tableswitch (102) (11) (17) #[44, 58, 102, 72, 83, 94, 98]] ls (qI (11) :: st) g M Q = q_T md d P 44 [] ls st g M Q := x_tsw.trans rfl
theorem tw_9_12 : q_T md d P nx [.tableswitch (102) (11) (17) #[44, 58, 102, 72, 83, 94, 98]] ls (qI (12) :: st) g M Q = q_T md d P 58 [] ls st g M Q := x_tsw.trans rfl
theorem tw_9_13 : q_T md d P nx [.tableswitch (102) (11) (17) #[44, 58, 102, 72, 83, 94, 98]] ls (qI (13) :: st) g M Q = q_T md d P 102 [] ls st g M Q := x_tsw.trans rfl
theorem tw_9_14 : q_T md d P nx [.tableswitch (102) (11) (17) #[44, 58, 102, 72, 83, 94, 98]] ls (qI (14) :: st) g M Q = q_T md d P 72 [] ls st g M Q := x_tsw.trans rfl
theorem tw_9_15 : q_T md d P nx [.tableswitch (102) (11) (17) #[44, 58, 102, 72, 83, 94, 98]] ls (qI (15) :: st) g M Q = q_T md d P 83 [] ls st g M Q := x_tsw.trans rfl
theorem tw_9_16 : q_T md d P nx [.tableswitch (102) (11) (17) #[44, 58, 102, 72, 83, 94, 98]] ls (qI (16) :: st) g M Q = q_T md d P 94 [] ls st g M Q := x_tsw.trans rfl
theorem tw_9_17 : q_T md d P nx [.tableswitch (102) (11) (17) #[44, 58, 102, 72, 83, 94, 98]] ls (qI (17) :: st) g M Q = q_T md d P 98 [] ls st g M Q := x_tsw.trans rfl
theorem tw_9_o (h : x < 11 ∨ 17 < x) : q_T md d P nx [.tableswitch (102) (11) (17) #[44, 58, 102, 72, 83, 94, 98]] ls (qI x :: st) g M Q = q_T md d P 102 [] ls st g M Q := y_tsw_o h
theorem tw_10_1 : q_T md d P nx [.tableswitch (116) (1) (5) #[48, 116, 48, 69, 91]] ls (qI (1) :: st) g M Q = q_T md d P 48 [] ls st g M Q := x_tsw.trans rfl
theorem tw_10_2 : q_T md d P nx [.tableswitch (116) (1) (5) #[48, 116, 48, 69, 91]] ls (qI (2) :: st) g M Q = q_T md d P 116 [] ls st g M Q := x_tsw.trans rfl
theorem tw_10_3 : q_T md d P nx [.tableswitch (116) (1) (5) #[48, 116, 48, 69, 91]] ls (qI (3) :: st) g M Q = q_T md d P 48 [] ls st g M Q := x_tsw.trans rfl
theorem tw_10_4 : q_T md d P nx [.tableswitch (116) (1) (5) #[48, 116, 48, 69, 91]] ls (qI (4) :: st) g M Q = q_T md d P 69 [] ls st g M Q := x_tsw.trans rfl
theorem tw_10_5 : q_T md d P nx [.tableswitch (116) (1) (5) #[48, 116, 48, 69, 91]] ls (qI (5) :: st) g M Q = q_T md d P 91 [] ls st g M Q := x_tsw.trans rfl
theorem tw_10_o (h : x < 1 ∨ 5 < x) : q_T md d P nx [.tableswitch (116) (1) (5) #[48, 116, 48, 69, 91]] ls (qI x :: st) g M Q = q_T md d P 116 [] ls st g M Q := y_tsw_o h
theorem tw_11_2 : q_T md d P nx [.tableswitch (80) (2) (4) #[40, 52, 55]] ls (qI (2) :: st) g M Q = q_T md d P 40 [] ls st g M Q := x_tsw.trans rfl
theorem tw_11_3 : q_T md d P nx [.tableswitch (80) (2) (4) #[40, 52, 55]] ls (qI (3) :: st) g M Q = q_T md d P 52 [] ls st g M Q := x_tsw.trans rfl
theorem tw_11_4 : q_T md d P nx [.tableswitch (80) (2) (4) #[40, 52, 55]] ls (qI (4) :: st) g M Q = q_T md d P 55 [] ls st g M Q := x_tsw.trans rfl
theorem tw_11_o (h : x < 2 ∨ 4 < x) : q_T md d P nx [.tableswitch (80) (2) (4) #[40, 52, 55]] ls (qI x :: st) g M Q = q_T md d P 80 [] ls st g M Q := y_tsw_o h
theorem tw_12_1 : q_T md d P nx [.tableswitch (81) (1) (5) #[64, 66, 70, 66, 79]] ls (qI (1) :: st) g M Q = q_T md d P 64 [] ls st g M Q := x_tsw.trans rfl
theorem tw_12_2 : q_T md d P nx [.tableswitch (81) (1) (5) #[64, 66, 70, 66, 79]] ls (qI (2) :: st) g M Q = q_T md d P 66 [] ls st g M Q := x_tsw.trans rfl
theorem tw_12_3 : q_T md d P nx [.tableswitch (81) (1) (5) #[64, 66, 70, 66, 79]] ls (qI (3) :: st) g M Q = q_T md d P 70 [] ls st g M Q := x_tsw.trans rfl
theorem tw_12_4 : q_T md d P nx [.tableswitch (81) (1) (5) #[64, 66, 70, 66, 79]] ls (qI (4) :: st) g M Q = q_T md d P 66 [] ls st g M Q := x_tsw.trans rfl
theorem tw_12_5 : q_T md d P nx [.tableswitch (81) (1) (5) #[64, 66, 70, 66, 79]] ls (qI (5) :: st) g M Q = q_T md d P 79 [] ls st g M Q := x_tsw.trans rfl
theorem tw_12_o (h : x < 1 ∨ 5 < x) : q_T md d P nx [.tableswitch (81) (1) (5) #[64, 66, 70, 66, 79]] ls (qI x :: st) g M Q = q_T md d P 81 [] ls st g M Q := y_tsw_o h
theorem tw_13_0 : q_T md d P nx [.tableswitch (93) (0) (6) #[56, 56, 56, 67, 74, 81, 87]] ls (qI (0) :: st) g M Q = q_T md d P 56 [] ls st g M Q := x_tsw.trans rfl
theorem tw_13_1 : q_T md d P nx [.tableswitch (93) (0) (6) #[56, 56, 56, 67, 74, 81, 87]] ls (qI (1) :: st) g M Q = q_T md d P 56 [] ls st g M Q := x_tsw.trans rfl
theorem tw_13_2 : q_T md d P nx [.tableswitch (93) (0) (6) #[56, 56, 56, 67, 74, 81, 87]] ls (qI (2) :: st) g M Q = q_T md d P 56 [] ls st g M Q := x_tsw.trans rfl
theorem tw_13_3 : q_T md d P nx [.tableswitch (93) (0) (6) #[56, 56, 56, 67, 74, 81, 87]] ls (qI (3) :: st) g M Q = q_T md d P 67 [] ls st g M Q := x_tsw.trans rfl
theorem tw_13_4 : q_T md d P nx [.tableswitch (93) (0) (6) #[56, 56, 56, 67, 74, 81, 87]] ls (qI (4) :: st) g M Q = q_T md d P 74 [] ls st g M Q := x_tsw.trans rfl
theorem tw_13_5 : q_T md d P nx [.tableswitch (93) (0) (6) #[56, 56, 56, 67, 74, 81, 87]] ls (qI (5) :: st) g M Q = q_T md d P 81 [] ls st g M Q := x_tsw.trans rfl
theorem tw_13_6 : q_T md d P nx [.tableswitch (93) (0) (6) #[56, 56, 56, 67, 74, 81, 87]] ls (qI (6) :: st) g M Q = q_T md d P 87 [] ls st g M Q := x_tsw.trans rfl
theorem tw_13_o (h : x < 0 ∨ 6 < x) : q_T md d P nx [.tableswitch (93) (0) (6) #[56, 56, 56, 67, 74, 81, 87]] ls (qI x :: st) g M Q = q_T md d P 93 [] ls st g M Q := y_tsw_o h
end SWS
end
section
/-! NUMBERS OF THE MACHINE WITHIN THEIR BOUNDS -/
theorem q_lcmp_gt {x y : Int} (h : y < x) : q_lcmp x y = 1 := by
  unfold q_lcmp
  rw [if_neg (by omega), if_neg (by omega)]
theorem q_lcmp_eq {x y : Int} (h : x = y) : q_lcmp x y = 0 := by
  unfold q_lcmp
  rw [if_neg (by omega), if_pos h]
theorem q_i2l_e {x : Int} (h1 : -2147483648 ≤ x) (h2 : x ≤ 2147483647) : q_i2l x = x := by
  unfold q_i2l
  rw [Int32.toInt_toInt64, q_of h1 h2]
theorem q_norm64 (x : Int) : (Int64.ofInt x).toInt = x.bmod 18446744073709551616 := by
  first
    | exact Int64.toInt_ofInt ..
    | simp [Int64.toInt_ofInt]
theorem q_bmod64 {x : Int} (h1 : -9223372036854775808 ≤ x) (h2 : x ≤ 9223372036854775807) : x.bmod 18446744073709551616 = x := by
  rw [Int.bmod_def]
  split <;> omega
theorem q_ofL {x : Int} (h1 : -9223372036854775808 ≤ x) (h2 : x ≤ 9223372036854775807) : (Int64.ofInt x).toInt = x := by rw [q_norm64, q_bmod64 h1 h2]
theorem q_ladd_e {x y : Int} (h1 : -9223372036854775808 ≤ x + y) (h2 : x + y ≤ 9223372036854775807) : q_ladd x y = x + y := by
  rw [q_ladd, Int64.toInt_add, q_norm64, q_norm64]
  simp only [Int.bmod_add_bmod, Int.add_bmod_bmod]
  exact q_bmod64 h1 h2
theorem q_lmul_e {x y : Int} (h1 : -9223372036854775808 ≤ x * y) (h2 : x * y ≤ 9223372036854775807) : q_lmul x y = x * y := by
  rw [q_lmul, Int64.toInt_mul, q_norm64, q_norm64]
  simp only [Int.bmod_mul_bmod, Int.mul_bmod_bmod]
  exact q_bmod64 h1 h2
theorem q_ldiv_e {x y : Int} (h0 : 0 ≤ x) (h1 : x ≤ 9223372036854775807) (h2 : 0 < y) (h3 : y ≤ 9223372036854775807) : q_ldiv x y = x / y := by
  rw [q_ldiv, Int64.toInt_div, q_ofL (by omega) h1, q_ofL (by omega) h3, Int.tdiv_eq_ediv_of_nonneg h0]
  have a1 : 0 ≤ x / y := Int.ediv_nonneg h0 (by omega)
  have a2 : x / y ≤ x := Int.ediv_le_self _ h0
  exact q_bmod64 (by omega) (by omega)
theorem q_lrem_e {x y : Int} (h0 : 0 ≤ x) (h1 : x ≤ 9223372036854775807) (h2 : 0 < y) (h3 : y ≤ 9223372036854775807) : q_lrem x y = x % y := by
  have e := q_ldiv_e h0 h1 h2 h3
  unfold q_ldiv at e
  have a1 : 0 ≤ x % y := Int.emod_nonneg _ (by omega)
  have a2 : x % y < y := Int.emod_lt_of_pos _ h2
  have a3 : y * (x / y) + x % y = x := Int.mul_ediv_add_emod x y
  have a4 : x / y * y = y * (x / y) := Int.mul_comm _ _
  have a5 : 0 ≤ x / y := Int.ediv_nonneg h0 (by omega)
  have a6 : 0 ≤ y * (x / y) := Int.mul_nonneg (by omega) a5
  rw [q_lrem, Int64.toInt_sub, Int64.toInt_mul, e, q_ofL (by omega) h1, q_ofL (by omega) h3, q_bmod64 (x := x / y * y) (by omega) (by omega)]
  rw [q_bmod64 (by omega) (by omega)]
  omega
theorem q_l2i_e {x : Int} (h1 : -2147483648 ≤ x) (h2 : x ≤ 2147483647) : q_l2i x = x := by
  unfold q_l2i
  rw [Int64.toInt_toInt32, q_ofL (by omega) (by omega), q_bmod h1 h2]
theorem q_div_e {x y : Int} (h0 : 0 ≤ x) (h1 : x ≤ 2147483647) (h2 : 0 < y) (h3 : y ≤ 2147483647) : q_div x y = x / y := by
  rw [q_div, Int32.toInt_div, q_of (by omega) h1, q_of (by omega) h3, Int.tdiv_eq_ediv_of_nonneg h0]
  have a1 : 0 ≤ x / y := Int.ediv_nonneg h0 (by omega)
  have a2 : x / y ≤ x := Int.ediv_le_self _ h0
  exact q_bmod (by omega) (by omega)
theorem q_rem_e {x y : Int} (h0 : 0 ≤ x) (h1 : x ≤ 2147483647) (h2 : 0 < y) (h3 : y ≤ 2147483647) : q_rem x y = x % y := by
  have e := q_div_e h0 h1 h2 h3
  unfold q_div at e
  have a1 : 0 ≤ x % y := Int.emod_nonneg _ (by omega)
  have a2 : x % y < y := Int.emod_lt_of_pos _ h2
  have a3 : y * (x / y) + x % y = x := Int.mul_ediv_add_emod x y
  have a4 : x / y * y = y * (x / y) := Int.mul_comm _ _
  have a5 : 0 ≤ x / y := Int.ediv_nonneg h0 (by omega)
  have a6 : 0 ≤ y * (x / y) := Int.mul_nonneg (by omega) a5
  rw [q_rem, Int32.toInt_sub, Int32.toInt_mul, e, q_of (by omega) h1, q_of (by omega) h3, q_bmod (x := x / y * y) (by omega) (by omega)]
  rw [q_bmod (by omega) (by omega)]
  omega
end
