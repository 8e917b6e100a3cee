/-! THE LAW OUT OF THE PURE MACHINE -/
def q_Bm (L : Nat) (xs : Nat → Int32) : q_M := fun a i => if a = 1000001 then (if i = 0 then (L : Int) else 0) else if a = 1000000 then (if i < L then (xs i).toInt else 0) else 0
theorem q_Bm_scr {L : Nat} {xs : Nat → Int32} : q_scr L xs (q_Bm L xs) := by
  refine ⟨?_, fun i hi => ?_⟩
  · unfold q_Bm
    rw [if_pos rfl, if_pos rfl]
  · unfold q_Bm
    rw [if_neg (by decide), if_pos rfl, if_pos hi]
theorem q_Bm_rng {L : Nat} {xs : Nat → Int32} (hL : L < 2147483648) (a i : Nat) : -2147483648 ≤ q_Bm L xs a i ∧ q_Bm L xs a i < 2147483648 := by
  have hx : -2147483648 ≤ (xs i).toInt ∧ (xs i).toInt < 2147483648 := ⟨Int32.le_toInt (xs i), Int32.toInt_lt (xs i)⟩
  unfold q_Bm
  split
  · split <;> omega
  · split
    · split
      · exact hx
      · omega
    · omega
theorem q_Bm_ok {L : Nat} {xs : Nat → Int32} (hL : L < 2147483648) : q_ok 0 0 (q_Bm L xs) := by
  refine ⟨q_Bm_rng hL, fun a i h => absurd h (Nat.not_lt_zero a), fun a i h => absurd h (Nat.not_lt_zero a), fun a h => absurd h (Nat.not_lt_zero a)⟩
/-- what the pure run of the law's loop owes -/
def q_Owed (L : Nat) (xs : Nat → Int32) : Prop := q_T 1 1000 qP_L_law 18 [] [qS 2, qR 5 0, qR 6 100, qI 0] [] (124, 3394) (q_lk q_T0 (q_Bm L xs)) (fun v g _ => v = some (qI 1) ∧ g.1 ≤ 600000 ∧ g.2 ≤ 7302250)
theorem q_law_locals (b : Nat) (ad adK adV : Nat → Nat) : q_lr ad adK adV b 0 4 [qS 2, qS 0, qS 0, qS 0] ((lg_sl [Value.ref b] ++ List.replicate (4 - (lg_sl [Value.ref b]).length) Slot.unset).toArray) := by
  refine ⟨rfl, [(0, .ref b)], lv_entry [Value.ref b] (n := 4) (Nat.le_of_ble_eq_true rfl), fun i v hi hv => ?_⟩
  match i, hi with
  | 0, hi => cases hi; exact ⟨.ref b, List.mem_cons_self, Or.inr (Or.inl ⟨rfl, rfl⟩)⟩
  | 1, hi => cases hi; cases hv
  | 2, hi => cases hi; cases hv
  | 3, hi => cases hi; cases hv
  | n + 4, hi => cases hi
set_option maxHeartbeats 2000000 in
theorem q_whole {p : Program} {e : Env} {s : State} {m : MethodId} {below : List Frame} {meth : Method} {c : Code} (l : Launch) {b L : Nat} {xs : Nat → Int32} (hL : L < 2147483648) (C0 : lw_At p s m meth c b L xs) (ho : q_Owed L xs) : W p l e room_1 s m #[Value.ref b] below meth c s.heap [] 0 0 (lw_Z below #[Value.ref b] s) (entryFrame m ([Value.ref b] : List Value).toArray 4) := by
  obtain ⟨hx, hb, hr, hml, hown, hts, hX, hbl, hlocks, hgv⟩ := C0
  obtain ⟨D, C, adK, adV, hE⟩ := q_env0 hts hX hbl hgv
  have hC : q_Cx p room_1 s m #[Value.ref b] meth c code D C b L xs adK adV s.heap.size 1000 10 4 (some .boolean) false := ⟨hx, hb, hml, hr, hlocks, hown, fun w hw => hts w (q_Lw_in w hw), (fun h => by cases h), hE, Nat.le_of_ble_eq_true rfl, Nat.le_of_ble_eq_true rfl⟩
  obtain ⟨f, k, hwk⟩ := q_start_ev
  obtain ⟨f2, r, hrun, hv, hg1, hg2⟩ := ho
  have hgr := q_run_grow _ hrun
  have hfit : ∀ g : q_G, g.1 ≤ 600000 → g.2 ≤ 7302250 → q_lim room_1 0 0 g := fun g h1 h2 => ⟨by omega, by show g.1 ≤ 0 + 600000; omega, by show g.2 ≤ 0 + 7302250; omega⟩
  rw [lg_entry_eq]
  refine q_wkT_ok (l := l) (B := q_Bm L xs) (k0 := 0) (k1 := 0) (n0 := 0) (ad0 := fun x => x) (ad := fun x => x) (ow := 10) (nL := 4) (rt := some .boolean) (ini := false) (cc := code) k hC q_ck_law hwk (hfit _ (by decide) (by decide)) ⟨⟨?_, ?_, q_Bm_ok hL, q_Bm_scr, Nat.zero_le _, va_S.rf⟩, q_law_locals b _ adK adV, trivial, rfl, rfl, rfl, Nat.le_refl _, fun _ h => absurd h (Nat.not_lt_zero _)⟩ ?_
  · intro k q h
    cases h
  · exact ⟨(fun i j p q h => by cases h), (fun k q h => by cases h)⟩
  · intro ad H locs lsr str cells slots pc hA
    obtain ⟨⟨hP, hD, hok, hscr, hn, hS⟩, hlr, hvr, hc, hsl, hck, hn0, had⟩ := hA
    have hW := q_cv_W (B := q_Bm L xs) (ad := ad) (C := C) q_T0_cv
    have hP : va_P D vwCl (q_W 0 ad C 124 (q_lk q_T0 (q_Bm L xs))) H := hP
    have hD : va_D (q_A s.heap.size) (q_W 0 ad C 124 (q_lk q_T0 (q_Bm L xs))) := hD
    rw [← hW] at hP hD
    refine q_sound l f2 (k0 := 0) (k1 := 0) (n0 := 0) (ad0 := fun x => x) (ow := 10) (nL := 4) (rt := some .boolean) (ini := false) (cc := code) hC q_ck_law hrun (hfit _ hg1 hg2) ⟨⟨hP, hD, q_cv_ok q_T0_cv hok, hscr, hn, hS⟩, hlr, hvr, hc, hsl, hck, hn0, fun _ h => absurd h (Nat.not_lt_zero _)⟩ ?_
    intro ad' H' locs' lsr' str' cells' slots' pc' len raw op st' hWo hvr' hc' hsl' had' hd hrs hrk
    rw [hv] at hrk
    have hc' : 0 + cells' = r.2.1.1 := hc'
    have hsl' : 0 + slots' = r.2.1.2 := hsl'
    rcases q_rs_sp hrs (q_rk_sp hrk) with rfl | rfl | rfl | rfl | ⟨i, rfl⟩ | ⟨i, rfl⟩ | ⟨i, rfl⟩
    · obtain ⟨hl, h2⟩ := q_if_inv hrs
      cases h2
      subst hl
      obtain ⟨x, rfl, hx1, -⟩ := hrk
      cases hx1
      obtain ⟨_, str1, rfl, hv1, hs1⟩ := q_vrs_cons hvr'
      obtain ⟨X, rfl, hX1⟩ := q_vr_i hv1
      have eX : X = 1 := Int32.toInt_inj.mp (by rw [← hX1]; decide)
      subst eX
      match str1, hs1 with
      | [], _ =>
        refine va_forget (fun q hq => hWo.2.2.2.2.2.2.2 q hq) ?_
        refine W.widen (k := 600000) (n := 7302250) (by omega) (by omega) ?_
        exact lw_ret hx hb hr hlocks hd
      | _ :: _, h => exact h.elim
    · obtain ⟨⟨-, h9⟩, h2⟩ := q_if_inv hrs
      cases h9
    · obtain ⟨⟨-, h9⟩, h2⟩ := q_if_inv hrs
      cases h9
    · obtain ⟨⟨-, h9⟩, h2⟩ := q_if_inv hrs
      cases h9
    · exact (q_rs_nrv hrs hrk).elim
    · exact (q_rs_nrs hrs hrk).elim
    · exact (q_rs_nrt hrs hrk).elim
