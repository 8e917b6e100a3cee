/-! A CALL OF THE PURE MACHINE, AND THE MACHINE'S -/
section CALL
variable {p : Program} {l : Launch} {e : Env} {R : Room} {s : State} {m : MethodId} {args : Array Value} {below : List Frame} {meth : Method} {c : Code} {cc : ByteArray} {D : va_G} {C : q_CI} {b L : Nat} {xs : Nat → Int32} {adK adV : Nat → Nat} {sb md d ow nL : Nat} {rt : Option FieldType} {ini : Bool} {k0 k1 n0 : Nat} {ad0 : Nat → Nat} {Qz : State → Prop}
  {ad : Nat → Nat} {H : Heap} {locs : List Loc} {lsr : Array Slot} {str : List Value} {cells slots pc : Nat} {P : q_P} {c0 c' : q_C} {nx : Nat} {op : Instr} {ops : List Instr} {ls st : List q_V} {g : q_G} {M : q_M}
def q_Mt (l : Launch) (D : va_G) (C : q_CI) (b L : Nat) (xs : Nat → Int32) (adK adV : Nat → Nat) (sb md d id : Nat) (ad : Nat → Nat) (as : List q_V) (rs : List Value) (g : q_G) (M : q_M) (v : Option q_V) (g2 : q_G) (M2 : q_M) : Prop :=
  Met l (q_mY id) (q_ws id) (q_rm d (g2.1 - g.1) (g2.2 - g.2)) (q_MPc D C b L xs adK adV sb md ad as rs g.1 M) (q_MQc D C b L xs adK adV sb md ad g.1 v g2.1 M2) (g2.1 - g.1) (g2.2 - g.2) (q_A sb)
theorem q_sd_call (hC : q_Cx p R s m args meth c cc D C b L xs adK adV sb (d + 1) ow nL rt ini)
    (hA : q_At D C b L xs adK adV sb md ow nL rt ini cc k0 k1 n0 ad0 s.heap ad H locs lsr str cells slots pc (nx, op :: ops, ls, st, g, M)) {id : Nat} {as : List q_V} (hcl : q_cal op nx ops ls st g M id as c') {v : Option q_V} {g2 : q_G} {M2 : q_M} (hg2 : g.1 ≤ g2.1 ∧ g.2 ≤ g2.2)
    (hM : id < 206 → ∀ rs : List Value, as.all q_set = true → (q_entL as).length ≤ q_mL id → q_Mt l D C b L xs adK adV sb md d id ad as rs g M v g2 M2)
    (hMath : 206 ≤ id → id < 209 → ∀ raw len, decode cc pc = .ok (raw, len) → q_rs ow rt ini pc raw len = some (.invokestatic id) → W p l e R s m args below meth c H locs cells slots Qz (F0 m pc lsr str))
    (hl9 : q_lim R k0 k1 g2)
    (hK : ∀ (ad' : Nat → Nat) (H' : Heap) (locs' : List Loc) (lsr' : Array Slot) (str' : List Value) (cells' slots' pc' : Nat), q_At D C b L xs adK adV sb md ow nL rt ini cc k0 k1 n0 ad0 s.heap ad' H' locs' lsr' str' cells' slots' pc' (q_put c' v g2 M2) → W p l e R s m args below meth c H' locs' cells' slots' Qz (F0 m pc' lsr' str')) :
    W p l e R s m args below meth c H locs cells slots Qz (F0 m pc lsr str) := by
  obtain ⟨rfl, hlen, hdr, hrcv, hset, hent, rfl, rfl⟩ := hcl
  obtain ⟨hWo, hlr, hvr, hc, hsl, hck, hn0, had⟩ := hA
  have hc : k0 + cells = g.1 := hc
  have hsl : k1 + slots = g.2 := hsl
  have hn0 : n0 ≤ g.1 := hn0
  have hvr : q_vrs ad adK adV b g.1 st str := hvr
  have hlr : q_lr ad adK adV b g.1 nL ls lsr := hlr
  have hWo : q_Wo D C L xs sb md ad g.1 M s.heap H locs := hWo
  obtain ⟨hl91, hl92, hl93⟩ := hl9
  obtain ⟨raw, len, hd, hor, hck2⟩ := q_chkB_cons hck
  rcases hor with hbad | hrs
  · cases hbad
  obtain ⟨hv1, hv2⟩ := q_vrs_cut (q_mN id) hvr
  have hv3 := q_vrs_rev hv1
  have hstr : str = (str.take (q_mN id)).reverse.reverse ++ str.drop (q_mN id) := by rw [List.reverse_reverse, List.take_append_drop]
  have hSum : ((str.drop (q_mN id)).map fun v => v.category).sum ≤ 8 := q_catw_sum (str.drop (q_mN id)) 4 (by rw [← q_vrs_len hv2]; exact hdr)
  have hrlen : (str.take (q_mN id)).reverse.length = q_mN id := by
    rw [List.length_reverse, List.length_take, ← q_vrs_len hvr]
    omega
  obtain ⟨hx, hb, hml, hr, hlk, hown, hts, hini, hE, hfr, hlo⟩ := hC
  have hS := hWo.2.2.2.2.2
  generalize hrsv : (str.take (q_mN id)).reverse = rs at hv3 hstr hrlen
  have hset' : (st.take (q_mN id)).reverse.all q_set = true := by rw [List.all_reverse]; exact hset
  have fin : len = 3 → ∀ (a : Array Value) (v' : Option Value) (st₀ t : State) (H1 : Heap) (locs1 : List Loc), t.heap = H1 → q_MQc D C b L xs adK adV sb md ad g.1 v g2.1 M2 a st₀ (.returned v') t → va_S (q_A sb) s.heap H1 locs1 →
      W p l e R s m args below meth c H1 locs1 (cells + (g2.1 - g.1)) (slots + (g2.2 - g.2)) Qz (F0 m (pc + 3) lsr (v'.toList ++ str.drop (q_mN id))) := by
    intro hl3 a v' st₀ t H1 locs1 ht hq hS1
    obtain ⟨ad', rv, e1, han, hex, hP, hD, hok, hscr, hn, -⟩ := hq
    cases e1
    rw [ht] at hP
    subst hl3
    have hst2 : q_vrs ad' adK adV b g2.1 (st.drop (q_mN id)) (str.drop (q_mN id)) := q_vrs_ext hg2.1 hex hv2
    refine hK ad' H1 locs1 lsr (v'.toList ++ str.drop (q_mN id)) _ _ (pc + 3) ⟨⟨hP, hD, hok, hscr, hn, hS1⟩, q_lr_ext hlr hg2.1 hex, ?_, ?_, ?_, hck2, Nat.le_trans hn0 hg2.1, fun x hx => (hex x (Nat.lt_of_lt_of_le hx hn0)).trans (had x hx)⟩
    · show q_vrs ad' adK adV b g2.1 (q_push v (st.drop (q_mN id))) (v'.toList ++ str.drop (q_mN id))
      match v, v', han with
      | none, none, _ => exact hst2
      | some v, some r, han => exact ⟨han, hst2⟩
    · show k0 + (cells + (g2.1 - g.1)) = g2.1
      omega
    · show k1 + (slots + (g2.2 - g.2)) = g2.2
      omega
  have hmoved : ∀ U : State, U.heap = H → s.WarmedH U.vm → q_MPc D C b L xs adK adV sb md ad (st.take (q_mN id)).reverse rs g.1 M rs.toArray U := by
    intro U hU hW
    refine ⟨rfl, hv3, q_Env_moved hE hW (fun a h1 h2 => by rw [hU]; exact hS.2.1 a h1 h2) (by rw [hU]; exact hS.1), by rw [hU]; exact hWo.1, hWo.2.1, hWo.2.2.1, hWo.2.2.2.1, hWo.2.2.2.2.1⟩
  have hcb : id < 209 → ∀ i, (ow, i, id) ∈ q_mtab → CallB R s args (q_cls ow) i (q_mY id) (q_mC id) (q_mL id) (q_mR id) (q_ws id) (q_rm d (g2.1 - g.1) (g2.2 - g.2)) (g2.1 - g.1) (g2.2 - g.2) (q_mN id - (if q_statL.contains id = true then 0 else 1)) := by
    intro hid i hi
    have hGd : GoodIn q_Lw (q_ws id) := q_goodLw (fun w hw => by
      rcases List.mem_cons.mp hw with rfl | h
      · exact q_wcA id hid
      · exact h)
    have hmo := q_mO_lt id hid
    have hmL := q_mL_le id hid
    exact callB_of _ hts hGd rfl rfl rfl (hts _ (by rw [q_clsA id hid]; exact q_ini_all _ hmo)) (hts _ (q_mtab_ok _ hi)) ⟨by rw [q_clsA id hid]; exact (q_cls_mh _ hmo).1, by rw [q_clsA id hid]; exact (q_cls_mh _ hmo).2, q_descA id hid⟩ ⟨hfr, by show 8 + (q_mL id + 11) + 64 * (d + 1) ≤ R.locals; omega⟩
  have hcells : cells + (g2.1 - g.1) ≤ R.cells ∧ slots + (g2.2 - g.2) ≤ R.slots := ⟨by omega, by omega⟩
  have hsize : lsr.size = nL := by obtain ⟨-, lv, h2, -⟩ := hlr; exact h2.1
  have hva : ∀ a st₀ v' t, q_MQc D C b L xs adK adV sb md ad g.1 v g2.1 M2 a st₀ (.returned v') t → va_F (q_A sb) st₀ t := fun a st₀ v' t h => by
    obtain ⟨_, _, -, -, -, -, -, -, -, -, h9⟩ := h
    exact h9
  have hstk : ∀ (a : Nat) (rs' : List Value), rs = .ref a :: rs' → str = rs'.reverse ++ .ref a :: str.drop (q_mN id) := fun a rs' h => by
    have h9 := hstr
    rw [h, List.reverse_cons, List.append_assoc, List.singleton_append] at h9
    exact h9
  have hln : ∀ (a : Nat) (rs' : List Value), rs = .ref a :: rs' → rs'.length = q_mN id - 1 := fun a rs' h => by
    have h9 := hrlen
    rw [h, List.length_cons] at h9
    omega
  rcases q_rs_sp hrs rfl with rfl | rfl | rfl | rfl | ⟨i, rfl⟩ | ⟨i, rfl⟩ | ⟨i, rfl⟩
  · obtain ⟨-, h2⟩ := q_if_inv hrs
    split at h2 <;> cases h2
  · obtain ⟨-, h2⟩ := q_if_inv hrs
    cases h2
  · obtain ⟨-, h2⟩ := q_if_inv hrs
    cases h2
  · obtain ⟨-, h2⟩ := q_if_inv hrs
    cases h2
  · obtain ⟨hl3, h2⟩ := q_if_inv hrs
    by_cases h53 : ow = 1 ∧ i = 53
    · rw [if_pos h53] at h2
      cases h2
    · rw [if_neg h53] at h2
      split at h2
      · next id' hlook =>
        obtain ⟨⟨hid, hs1, hs2⟩, h3⟩ := q_if_inv h2
        cases h3
        have hkv := q_mK_virt id hid hs1 hs2
        obtain ⟨a, rs', hrs', hcell⟩ := q_recv hE hWo hid hkv.1 hrcv hv3
        have hcb1 := hcb hid i (q_look_mem hlook)
        rw [if_neg (by rw [hs1]; decide)] at hcb1
        subst hl3
        exact q_sd_ret (va_runV (As := rs') (b := a) (rest := str.drop (q_mN id)) ⟨hx, hb, hml, hown, hts⟩ (hM (q_stat_206 id hid hs1) rs hset' hent) ⟨hcb1, hts _ (q_winA id hid hs1), hts _ (q_wseA id hid hs1 hs2)⟩ ⟨q_MPc_blind, hcell, fun U hU hW => by rw [← hrs']; exact hmoved U hU hW⟩ rfl (hln a rs' hrs') hsize (hstk a rs' hrs') (lv_room hSum) hd hcells) hS (hva _) (fin rfl _)
      · cases h2
  · obtain ⟨hl3, h2⟩ := q_if_inv hrs
    by_cases hot : q_otab.contains (ow, i) = true
    · rw [if_pos hot] at h2
      cases h2
    · rw [if_neg hot] at h2
      have nest : ∀ (i' : Nat), ow = 5 → i = i' → id ∈ q_ctorL → va_Nw (.methodLinkNest RX5 i' (q_mY id) RX5) s → W p l e R s m args below meth c H locs cells slots Qz (F0 m pc lsr str) := by
        intro i' how hii hid hnl
        subst how; subst hii; subst hl3
        obtain ⟨hid9, hs1, hk1, -, hk2⟩ := q_ctor_lt id hid
        obtain ⟨hnm, hret⟩ := q_ctor_name id hid
        obtain ⟨a, rs', hrs', hcell⟩ := q_recv hE hWo hid9 (Or.inr ⟨hk1, hk2⟩) hrcv hv3
        have hGd : GoodIn q_Lw (q_ws id) := q_goodLw (fun w hw => by
          rcases List.mem_cons.mp hw with rfl | h
          · exact q_wcA id hid9
          · exact h)
        have hmo := q_mO_lt id hid9
        have hmL := q_mL_le id hid9
        have hds := q_descA id hid9
        rw [if_neg (by rw [hs1]; decide)] at hds
        have hcn : va_CN R s args RX5 i (q_mY id) RX5 (q_mC id) (q_mL id) (q_mR id) (q_ws id) (q_rm d (g2.1 - g.1) (g2.2 - g.2)) (g2.1 - g.1) (g2.2 - g.2) (q_mN id - 1) :=
          va_cnB _ hts hGd rfl rfl rfl hnl (hts _ (by rw [q_clsA id hid9]; exact q_ini_all _ hmo)) ⟨by rw [q_clsA id hid9]; exact (q_cls_mh _ hmo).1, by rw [q_clsA id hid9]; exact (q_cls_mh _ hmo).2, hds⟩ ⟨hfr, by show 8 + (q_mL id + 11) + 64 * (d + 1) ≤ R.locals; omega⟩
        rw [hret] at hcn
        exact q_sd_ret (va_runIN (As := rs') (b := a) (rest := str.drop (q_mN id)) ⟨hx, hb, hml, hown, hts⟩ (hM (q_stat_206 id hid9 hs1) rs hset' hent) ⟨hcn, hnm, hts _ (q_winA id hid9 hs1)⟩ ⟨q_MPc_blind, fun U hU hW => by rw [← hrs']; exact hmoved U hU hW⟩ rfl (hln a rs' hrs') hsize (hstk a rs' hrs') (lv_room hSum) hd hcells) hS (hva _) (fin rfl _)
      split at h2
      · next h11 =>
        cases h2
        exact nest 11 h11.1 h11.2 (by decide) hE.2.2.2.2.2.2.2.1
      · split at h2
        · next h73 =>
          cases h2
          exact nest 73 h73.1 h73.2 (by decide) hE.2.2.2.2.2.2.2.2.1
        · split at h2
          · next id' hlook =>
            obtain ⟨⟨hid, hs2⟩, h3⟩ := q_if_inv h2
            cases h3
            have hid0 := q_ctor_facts id hs2
            obtain ⟨hid9, hs1, hk1, -, hk2⟩ := q_ctor_lt id hid0
            obtain ⟨hnm, hret⟩ := q_ctor_name id hid0
            obtain ⟨a, rs', hrs', hcell⟩ := q_recv hE hWo hid9 (Or.inr ⟨hk1, hk2⟩) hrcv hv3
            have hcb1 := hcb hid9 i (q_look_mem hlook)
            rw [if_neg (by rw [hs1]; decide), hret] at hcb1
            subst hl3
            exact q_sd_ret (va_runI (As := rs') (b := a) (rest := str.drop (q_mN id)) ⟨hx, hb, hml, hown, hts⟩ (hM (q_stat_206 id hid9 hs1) rs hset' hent) ⟨hcb1, hnm, hts _ (q_winA id hid9 hs1)⟩ ⟨q_MPc_blind, fun U hU hW => by rw [← hrs']; exact hmoved U hU hW⟩ rfl (hln a rs' hrs') hsize (hstk a rs' hrs') (lv_room hSum) hd hcells) hS (hva _) (fin rfl _)
          · cases h2
  · have hrs0 := hrs
    obtain ⟨hl3, h2⟩ := q_if_inv hrs
    by_cases hat : q_atab.contains (ow, i) = true
    · rw [if_pos hat] at h2
      cases h2
    · rw [if_neg hat] at h2
      split at h2
      · next id' hlook =>
        obtain ⟨⟨hid, hs1⟩, h3⟩ := q_if_inv h2
        cases h3
        rcases Nat.lt_or_ge id 206 with h206 | h206
        · have hcb1 := hcb hid i (q_look_mem hlook)
          rw [if_pos hs1, Nat.sub_zero] at hcb1
          subst hl3
          exact q_sd_ret (va_runS (As := rs) (rest := str.drop (q_mN id)) ⟨hx, hb, hml, hown, hts⟩ (hM h206 rs hset' hent) ⟨hcb1, hts _ (q_wstA id hid hs1)⟩ ⟨q_MPc_blind, fun U hU hW => hmoved U hU hW⟩ rfl hrlen hsize hstr (lv_room hSum) hd hcells) hS (hva _) (fin rfl _)
        · exact hMath h206 hid _ _ hd hrs0
      · cases h2
end CALL
