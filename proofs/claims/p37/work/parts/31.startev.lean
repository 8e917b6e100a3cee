/-! THE PIECES TOGETHER -/
theorem q_start_ev : ∃ f k, q_wkT f k 0 1000 qP_L_law (0, [], [qS 2, qS 0, qS 0, qS 0], [], (0, 0), []) = some (18, [], [qS 2, qR 5 0, qR 6 100, qI 0], [], (124, 3394), q_T0) := by
  have e43 : q_Ev 0 (18, [], [qS 2, qR 5 0, qR 6 100, qI 0], [], (124, 3394), q_T0) q_fs43 (1001 - q_fs43.length) (124, 3394) q_tt43 := by
    show q_Ev 0 _ [(999, 18, [], [qS 2, qR 5 0, qR 6 100, qI 0], [])] 1000 _ _
    rw [q_Ev_one]
    exact ⟨0, 0, rfl⟩
  have e42 := (q_ssn_ev _ (q_cfb_eq q_stg42) (show q_fs42.length ≤ 1000 by decide)).2 e43
  have e41 := (q_ssn_ev _ (q_cfb_eq q_stg41) (show q_fs41.length ≤ 1000 by decide)).2 e42
  have e40 := (q_ssn_ev _ (q_cfb_eq q_stg40) (show q_fs40.length ≤ 1000 by decide)).2 e41
  have e39 := (q_ssn_ev _ (q_cfb_eq q_stg39) (show q_fs39.length ≤ 1000 by decide)).2 e40
  have e38 := (q_ssn_ev _ (q_cfb_eq q_stg38) (show q_fs38.length ≤ 1000 by decide)).2 e39
  have e37 := (q_ssn_ev _ (q_cfb_eq q_stg37) (show q_fs37.length ≤ 1000 by decide)).2 e38
  have e36 := (q_ssn_ev _ (q_cfb_eq q_stg36) (show q_fs36.length ≤ 1000 by decide)).2 e37
  have e35 := (q_ssn_ev _ (q_cfb_eq q_stg35) (show q_fs35.length ≤ 1000 by decide)).2 e36
  have e34 := (q_ssn_ev _ (q_cfb_eq q_stg34) (show q_fs34.length ≤ 1000 by decide)).2 e35
  have e33 := (q_ssn_ev _ (q_cfb_eq q_stg33) (show q_fs33.length ≤ 1000 by decide)).2 e34
  have e32 := (q_ssn_ev _ (q_cfb_eq q_stg32) (show q_fs32.length ≤ 1000 by decide)).2 e33
  have e31 := (q_ssn_ev _ (q_cfb_eq q_stg31) (show q_fs31.length ≤ 1000 by decide)).2 e32
  have e30 := (q_ssn_ev _ (q_cfb_eq q_stg30) (show q_fs30.length ≤ 1000 by decide)).2 e31
  have e29 := (q_ssn_ev _ (q_cfb_eq q_stg29) (show q_fs29.length ≤ 1000 by decide)).2 e30
  have e28 := (q_ssn_ev _ (q_cfb_eq q_stg28) (show q_fs28.length ≤ 1000 by decide)).2 e29
  have e27 := (q_ssn_ev _ (q_cfb_eq q_stg27) (show q_fs27.length ≤ 1000 by decide)).2 e28
  have e26 := (q_ssn_ev _ (q_cfb_eq q_stg26) (show q_fs26.length ≤ 1000 by decide)).2 e27
  have e25 := (q_ssn_ev _ (q_cfb_eq q_stg25) (show q_fs25.length ≤ 1000 by decide)).2 e26
  have e24 := (q_ssn_ev _ (q_cfb_eq q_stg24) (show q_fs24.length ≤ 1000 by decide)).2 e25
  have e23 := (q_ssn_ev _ (q_cfb_eq q_stg23) (show q_fs23.length ≤ 1000 by decide)).2 e24
  have e22 := (q_ssn_ev _ (q_cfb_eq q_stg22) (show q_fs22.length ≤ 1000 by decide)).2 e23
  have e21 := (q_ssn_ev _ (q_cfb_eq q_stg21) (show q_fs21.length ≤ 1000 by decide)).2 e22
  have e20 := (q_ssn_ev _ (q_cfb_eq q_stg20) (show q_fs20.length ≤ 1000 by decide)).2 e21
  have e19 := (q_ssn_ev _ (q_cfb_eq q_stg19) (show q_fs19.length ≤ 1000 by decide)).2 e20
  have e18 := (q_ssn_ev _ (q_cfb_eq q_stg18) (show q_fs18.length ≤ 1000 by decide)).2 e19
  have e17 := (q_ssn_ev _ (q_cfb_eq q_stg17) (show q_fs17.length ≤ 1000 by decide)).2 e18
  have e16 := (q_ssn_ev _ (q_cfb_eq q_stg16) (show q_fs16.length ≤ 1000 by decide)).2 e17
  have e15 := (q_ssn_ev _ (q_cfb_eq q_stg15) (show q_fs15.length ≤ 1000 by decide)).2 e16
  have e14 := (q_ssn_ev _ (q_cfb_eq q_stg14) (show q_fs14.length ≤ 1000 by decide)).2 e15
  have e13 := (q_ssn_ev _ (q_cfb_eq q_stg13) (show q_fs13.length ≤ 1000 by decide)).2 e14
  have e12 := (q_ssn_ev _ (q_cfb_eq q_stg12) (show q_fs12.length ≤ 1000 by decide)).2 e13
  have e11 := (q_ssn_ev _ (q_cfb_eq q_stg11) (show q_fs11.length ≤ 1000 by decide)).2 e12
  have e10 := (q_ssn_ev _ (q_cfb_eq q_stg10) (show q_fs10.length ≤ 1000 by decide)).2 e11
  have e9 := (q_ssn_ev _ (q_cfb_eq q_stg9) (show q_fs9.length ≤ 1000 by decide)).2 e10
  have e8 := (q_ssn_ev _ (q_cfb_eq q_stg8) (show q_fs8.length ≤ 1000 by decide)).2 e9
  have e7 := (q_ssn_ev _ (q_cfb_eq q_stg7) (show q_fs7.length ≤ 1000 by decide)).2 e8
  have e6 := (q_ssn_ev _ (q_cfb_eq q_stg6) (show q_fs6.length ≤ 1000 by decide)).2 e7
  have e5 := (q_ssn_ev _ (q_cfb_eq q_stg5) (show q_fs5.length ≤ 1000 by decide)).2 e6
  have e4 := (q_ssn_ev _ (q_cfb_eq q_stg4) (show q_fs4.length ≤ 1000 by decide)).2 e5
  have e3 := (q_ssn_ev _ (q_cfb_eq q_stg3) (show q_fs3.length ≤ 1000 by decide)).2 e4
  have e2 := (q_ssn_ev _ (q_cfb_eq q_stg2) (show q_fs2.length ≤ 1000 by decide)).2 e3
  have e1 := (q_ssn_ev _ (q_cfb_eq q_stg1) (show q_fs1.length ≤ 1000 by decide)).2 e2
  have e0 := (q_ssn_ev _ (q_cfb_eq q_stg0) (show q_fs0.length ≤ 1000 by decide)).2 e1
  have e : q_Ev 0 (18, [], [qS 2, qR 5 0, qR 6 100, qI 0], [], (124, 3394), q_T0) [(999, 0, [], [qS 2, qS 0, qS 0, qS 0], [])] 1000 (0, 0) [] := e0
  rw [q_Ev_one] at e
  exact e
