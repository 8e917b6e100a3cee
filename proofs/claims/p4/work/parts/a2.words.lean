/-! THE CLASS'S READER: its words' letters -/
theorem q_ln_1 {d : Nat} {g : q_G} {M : q_M} {Q : Option q_V → q_G → q_M → Prop} (hq : Q (some (qI 5)) g M) : q_S 1 (d + 1) 199 [qS 17] g M Q := ⟨30, (some (qI 5), g, M), rfl, hq⟩
theorem q_ch_1_0 {d : Nat} {g : q_G} {M : q_M} {Q : Option q_V → q_G → q_M → Prop} (hq : Q (some (qI 108)) g M) : q_S 1 (d + 4) 200 [qS 17, qI 0] g M Q := ⟨60, (some (qI 108), g, M), rfl, hq⟩
theorem q_ch_1_1 {d : Nat} {g : q_G} {M : q_M} {Q : Option q_V → q_G → q_M → Prop} (hq : Q (some (qI 105)) g M) : q_S 1 (d + 4) 200 [qS 17, qI 1] g M Q := ⟨60, (some (qI 105), g, M), rfl, hq⟩
theorem q_ch_1_2 {d : Nat} {g : q_G} {M : q_M} {Q : Option q_V → q_G → q_M → Prop} (hq : Q (some (qI 107)) g M) : q_S 1 (d + 4) 200 [qS 17, qI 2] g M Q := ⟨60, (some (qI 107), g, M), rfl, hq⟩
theorem q_ch_1_3 {d : Nat} {g : q_G} {M : q_M} {Q : Option q_V → q_G → q_M → Prop} (hq : Q (some (qI 101)) g M) : q_S 1 (d + 4) 200 [qS 17, qI 3] g M Q := ⟨60, (some (qI 101), g, M), rfl, hq⟩
theorem q_ch_1_4 {d : Nat} {g : q_G} {M : q_M} {Q : Option q_V → q_G → q_M → Prop} (hq : Q (some (qI 115)) g M) : q_S 1 (d + 4) 200 [qS 17, qI 4] g M Q := ⟨60, (some (qI 115), g, M), rfl, hq⟩
theorem q_ln_2 {d : Nat} {g : q_G} {M : q_M} {Q : Option q_V → q_G → q_M → Prop} (hq : Q (some (qI 5)) g M) : q_S 1 (d + 1) 199 [qS 18] g M Q := ⟨30, (some (qI 5), g, M), rfl, hq⟩
theorem q_ch_2_0 {d : Nat} {g : q_G} {M : q_M} {Q : Option q_V → q_G → q_M → Prop} (hq : Q (some (qI 119)) g M) : q_S 1 (d + 4) 200 [qS 18, qI 0] g M Q := ⟨60, (some (qI 119), g, M), rfl, hq⟩
theorem q_ch_2_1 {d : Nat} {g : q_G} {M : q_M} {Q : Option q_V → q_G → q_M → Prop} (hq : Q (some (qI 97)) g M) : q_S 1 (d + 4) 200 [qS 18, qI 1] g M Q := ⟨60, (some (qI 97), g, M), rfl, hq⟩
theorem q_ch_2_2 {d : Nat} {g : q_G} {M : q_M} {Q : Option q_V → q_G → q_M → Prop} (hq : Q (some (qI 110)) g M) : q_S 1 (d + 4) 200 [qS 18, qI 2] g M Q := ⟨60, (some (qI 110), g, M), rfl, hq⟩
theorem q_ch_2_3 {d : Nat} {g : q_G} {M : q_M} {Q : Option q_V → q_G → q_M → Prop} (hq : Q (some (qI 116)) g M) : q_S 1 (d + 4) 200 [qS 18, qI 3] g M Q := ⟨60, (some (qI 116), g, M), rfl, hq⟩
theorem q_ch_2_4 {d : Nat} {g : q_G} {M : q_M} {Q : Option q_V → q_G → q_M → Prop} (hq : Q (some (qI 115)) g M) : q_S 1 (d + 4) 200 [qS 18, qI 4] g M Q := ⟨60, (some (qI 115), g, M), rfl, hq⟩
theorem q_ln_3 {d : Nat} {g : q_G} {M : q_M} {Q : Option q_V → q_G → q_M → Prop} (hq : Q (some (qI 4)) g M) : q_S 1 (d + 1) 199 [qS 19] g M Q := ⟨30, (some (qI 4), g, M), rfl, hq⟩
theorem q_ch_3_0 {d : Nat} {g : q_G} {M : q_M} {Q : Option q_V → q_G → q_M → Prop} (hq : Q (some (qI 103)) g M) : q_S 1 (d + 4) 200 [qS 19, qI 0] g M Q := ⟨60, (some (qI 103), g, M), rfl, hq⟩
theorem q_ch_3_1 {d : Nat} {g : q_G} {M : q_M} {Q : Option q_V → q_G → q_M → Prop} (hq : Q (some (qI 111)) g M) : q_S 1 (d + 4) 200 [qS 19, qI 1] g M Q := ⟨60, (some (qI 111), g, M), rfl, hq⟩
theorem q_ch_3_2 {d : Nat} {g : q_G} {M : q_M} {Q : Option q_V → q_G → q_M → Prop} (hq : Q (some (qI 101)) g M) : q_S 1 (d + 4) 200 [qS 19, qI 2] g M Q := ⟨60, (some (qI 101), g, M), rfl, hq⟩
theorem q_ch_3_3 {d : Nat} {g : q_G} {M : q_M} {Q : Option q_V → q_G → q_M → Prop} (hq : Q (some (qI 115)) g M) : q_S 1 (d + 4) 200 [qS 19, qI 3] g M Q := ⟨60, (some (qI 115), g, M), rfl, hq⟩
theorem q_ln_4 {d : Nat} {g : q_G} {M : q_M} {Q : Option q_V → q_G → q_M → Prop} (hq : Q (some (qI 2)) g M) : q_S 1 (d + 1) 199 [qS 20] g M Q := ⟨30, (some (qI 2), g, M), rfl, hq⟩
theorem q_ch_4_0 {d : Nat} {g : q_G} {M : q_M} {Q : Option q_V → q_G → q_M → Prop} (hq : Q (some (qI 111)) g M) : q_S 1 (d + 4) 200 [qS 20, qI 0] g M Q := ⟨60, (some (qI 111), g, M), rfl, hq⟩
theorem q_ch_4_1 {d : Nat} {g : q_G} {M : q_M} {Q : Option q_V → q_G → q_M → Prop} (hq : Q (some (qI 114)) g M) : q_S 1 (d + 4) 200 [qS 20, qI 1] g M Q := ⟨60, (some (qI 114), g, M), rfl, hq⟩
theorem q_ln_5 {d : Nat} {g : q_G} {M : q_M} {Q : Option q_V → q_G → q_M → Prop} (hq : Q (some (qI 3)) g M) : q_S 1 (d + 1) 199 [qS 21] g M Q := ⟨30, (some (qI 3), g, M), rfl, hq⟩
theorem q_ch_5_0 {d : Nat} {g : q_G} {M : q_M} {Q : Option q_V → q_G → q_M → Prop} (hq : Q (some (qI 97)) g M) : q_S 1 (d + 4) 200 [qS 21, qI 0] g M Q := ⟨60, (some (qI 97), g, M), rfl, hq⟩
theorem q_ch_5_1 {d : Nat} {g : q_G} {M : q_M} {Q : Option q_V → q_G → q_M → Prop} (hq : Q (some (qI 110)) g M) : q_S 1 (d + 4) 200 [qS 21, qI 1] g M Q := ⟨60, (some (qI 110), g, M), rfl, hq⟩
theorem q_ch_5_2 {d : Nat} {g : q_G} {M : q_M} {Q : Option q_V → q_G → q_M → Prop} (hq : Q (some (qI 100)) g M) : q_S 1 (d + 4) 200 [qS 21, qI 2] g M Q := ⟨60, (some (qI 100), g, M), rfl, hq⟩
theorem q_ln_6 {d : Nat} {g : q_G} {M : q_M} {Q : Option q_V → q_G → q_M → Prop} (hq : Q (some (qI 3)) g M) : q_S 1 (d + 1) 199 [qS 22] g M Q := ⟨30, (some (qI 3), g, M), rfl, hq⟩
theorem q_ch_6_0 {d : Nat} {g : q_G} {M : q_M} {Q : Option q_V → q_G → q_M → Prop} (hq : Q (some (qI 110)) g M) : q_S 1 (d + 4) 200 [qS 22, qI 0] g M Q := ⟨60, (some (qI 110), g, M), rfl, hq⟩
theorem q_ch_6_1 {d : Nat} {g : q_G} {M : q_M} {Q : Option q_V → q_G → q_M → Prop} (hq : Q (some (qI 111)) g M) : q_S 1 (d + 4) 200 [qS 22, qI 1] g M Q := ⟨60, (some (qI 111), g, M), rfl, hq⟩
theorem q_ch_6_2 {d : Nat} {g : q_G} {M : q_M} {Q : Option q_V → q_G → q_M → Prop} (hq : Q (some (qI 116)) g M) : q_S 1 (d + 4) 200 [qS 22, qI 2] g M Q := ⟨60, (some (qI 116), g, M), rfl, hq⟩
theorem q_ln_7 {d : Nat} {g : q_G} {M : q_M} {Q : Option q_V → q_G → q_M → Prop} (hq : Q (some (qI 3)) g M) : q_S 1 (d + 1) 199 [qS 23] g M Q := ⟨30, (some (qI 3), g, M), rfl, hq⟩
theorem q_ch_7_0 {d : Nat} {g : q_G} {M : q_M} {Q : Option q_V → q_G → q_M → Prop} (hq : Q (some (qI 102)) g M) : q_S 1 (d + 4) 200 [qS 23, qI 0] g M Q := ⟨60, (some (qI 102), g, M), rfl, hq⟩
theorem q_ch_7_1 {d : Nat} {g : q_G} {M : q_M} {Q : Option q_V → q_G → q_M → Prop} (hq : Q (some (qI 97)) g M) : q_S 1 (d + 4) 200 [qS 23, qI 1] g M Q := ⟨60, (some (qI 97), g, M), rfl, hq⟩
theorem q_ch_7_2 {d : Nat} {g : q_G} {M : q_M} {Q : Option q_V → q_G → q_M → Prop} (hq : Q (some (qI 114)) g M) : q_S 1 (d + 4) 200 [qS 23, qI 2] g M Q := ⟨60, (some (qI 114), g, M), rfl, hq⟩
theorem q_ln_8 {d : Nat} {g : q_G} {M : q_M} {Q : Option q_V → q_G → q_M → Prop} (hq : Q (some (qI 4)) g M) : q_S 1 (d + 1) 199 [qS 24] g M Q := ⟨30, (some (qI 4), g, M), rfl, hq⟩
theorem q_ch_8_0 {d : Nat} {g : q_G} {M : q_M} {Q : Option q_V → q_G → q_M → Prop} (hq : Q (some (qI 118)) g M) : q_S 1 (d + 4) 200 [qS 24, qI 0] g M Q := ⟨60, (some (qI 118), g, M), rfl, hq⟩
theorem q_ch_8_1 {d : Nat} {g : q_G} {M : q_M} {Q : Option q_V → q_G → q_M → Prop} (hq : Q (some (qI 97)) g M) : q_S 1 (d + 4) 200 [qS 24, qI 1] g M Q := ⟨60, (some (qI 97), g, M), rfl, hq⟩
theorem q_ch_8_2 {d : Nat} {g : q_G} {M : q_M} {Q : Option q_V → q_G → q_M → Prop} (hq : Q (some (qI 105)) g M) : q_S 1 (d + 4) 200 [qS 24, qI 2] g M Q := ⟨60, (some (qI 105), g, M), rfl, hq⟩
theorem q_ch_8_3 {d : Nat} {g : q_G} {M : q_M} {Q : Option q_V → q_G → q_M → Prop} (hq : Q (some (qI 110)) g M) : q_S 1 (d + 4) 200 [qS 24, qI 3] g M Q := ⟨60, (some (qI 110), g, M), rfl, hq⟩
theorem q_ln_9 {d : Nat} {g : q_G} {M : q_M} {Q : Option q_V → q_G → q_M → Prop} (hq : Q (some (qI 5)) g M) : q_S 1 (d + 1) 199 [qS 25] g M Q := ⟨30, (some (qI 5), g, M), rfl, hq⟩
theorem q_ch_9_0 {d : Nat} {g : q_G} {M : q_M} {Q : Option q_V → q_G → q_M → Prop} (hq : Q (some (qI 98)) g M) : q_S 1 (d + 4) 200 [qS 25, qI 0] g M Q := ⟨60, (some (qI 98), g, M), rfl, hq⟩
theorem q_ch_9_1 {d : Nat} {g : q_G} {M : q_M} {Q : Option q_V → q_G → q_M → Prop} (hq : Q (some (qI 117)) g M) : q_S 1 (d + 4) 200 [qS 25, qI 1] g M Q := ⟨60, (some (qI 117), g, M), rfl, hq⟩
theorem q_ch_9_2 {d : Nat} {g : q_G} {M : q_M} {Q : Option q_V → q_G → q_M → Prop} (hq : Q (some (qI 105)) g M) : q_S 1 (d + 4) 200 [qS 25, qI 2] g M Q := ⟨60, (some (qI 105), g, M), rfl, hq⟩
theorem q_ch_9_3 {d : Nat} {g : q_G} {M : q_M} {Q : Option q_V → q_G → q_M → Prop} (hq : Q (some (qI 108)) g M) : q_S 1 (d + 4) 200 [qS 25, qI 3] g M Q := ⟨60, (some (qI 108), g, M), rfl, hq⟩
theorem q_ch_9_4 {d : Nat} {g : q_G} {M : q_M} {Q : Option q_V → q_G → q_M → Prop} (hq : Q (some (qI 116)) g M) : q_S 1 (d + 4) 200 [qS 25, qI 4] g M Q := ⟨60, (some (qI 116), g, M), rfl, hq⟩
theorem q_ln_10 {d : Nat} {g : q_G} {M : q_M} {Q : Option q_V → q_G → q_M → Prop} (hq : Q (some (qI 6)) g M) : q_S 1 (d + 1) 199 [qS 26] g M Q := ⟨30, (some (qI 6), g, M), rfl, hq⟩
theorem q_ch_10_0 {d : Nat} {g : q_G} {M : q_M} {Q : Option q_V → q_G → q_M → Prop} (hq : Q (some (qI 119)) g M) : q_S 1 (d + 4) 200 [qS 26, qI 0] g M Q := ⟨60, (some (qI 119), g, M), rfl, hq⟩
theorem q_ch_10_1 {d : Nat} {g : q_G} {M : q_M} {Q : Option q_V → q_G → q_M → Prop} (hq : Q (some (qI 101)) g M) : q_S 1 (d + 4) 200 [qS 26, qI 1] g M Q := ⟨60, (some (qI 101), g, M), rfl, hq⟩
theorem q_ch_10_2 {d : Nat} {g : q_G} {M : q_M} {Q : Option q_V → q_G → q_M → Prop} (hq : Q (some (qI 105)) g M) : q_S 1 (d + 4) 200 [qS 26, qI 2] g M Q := ⟨60, (some (qI 105), g, M), rfl, hq⟩
theorem q_ch_10_3 {d : Nat} {g : q_G} {M : q_M} {Q : Option q_V → q_G → q_M → Prop} (hq : Q (some (qI 103)) g M) : q_S 1 (d + 4) 200 [qS 26, qI 3] g M Q := ⟨60, (some (qI 103), g, M), rfl, hq⟩
theorem q_ch_10_4 {d : Nat} {g : q_G} {M : q_M} {Q : Option q_V → q_G → q_M → Prop} (hq : Q (some (qI 104)) g M) : q_S 1 (d + 4) 200 [qS 26, qI 4] g M Q := ⟨60, (some (qI 104), g, M), rfl, hq⟩
theorem q_ch_10_5 {d : Nat} {g : q_G} {M : q_M} {Q : Option q_V → q_G → q_M → Prop} (hq : Q (some (qI 116)) g M) : q_S 1 (d + 4) 200 [qS 26, qI 5] g M Q := ⟨60, (some (qI 116), g, M), rfl, hq⟩
theorem q_ln_11 {d : Nat} {g : q_G} {M : q_M} {Q : Option q_V → q_G → q_M → Prop} (hq : Q (some (qI 4)) g M) : q_S 1 (d + 1) 199 [qS 27] g M Q := ⟨30, (some (qI 4), g, M), rfl, hq⟩
theorem q_ch_11_0 {d : Nat} {g : q_G} {M : q_M} {Q : Option q_V → q_G → q_M → Prop} (hq : Q (some (qI 121)) g M) : q_S 1 (d + 4) 200 [qS 27, qI 0] g M Q := ⟨60, (some (qI 121), g, M), rfl, hq⟩
theorem q_ch_11_1 {d : Nat} {g : q_G} {M : q_M} {Q : Option q_V → q_G → q_M → Prop} (hq : Q (some (qI 101)) g M) : q_S 1 (d + 4) 200 [qS 27, qI 1] g M Q := ⟨60, (some (qI 101), g, M), rfl, hq⟩
theorem q_ch_11_2 {d : Nat} {g : q_G} {M : q_M} {Q : Option q_V → q_G → q_M → Prop} (hq : Q (some (qI 97)) g M) : q_S 1 (d + 4) 200 [qS 27, qI 2] g M Q := ⟨60, (some (qI 97), g, M), rfl, hq⟩
theorem q_ch_11_3 {d : Nat} {g : q_G} {M : q_M} {Q : Option q_V → q_G → q_M → Prop} (hq : Q (some (qI 114)) g M) : q_S 1 (d + 4) 200 [qS 27, qI 3] g M Q := ⟨60, (some (qI 114), g, M), rfl, hq⟩
theorem q_ln_12 {d : Nat} {g : q_G} {M : q_M} {Q : Option q_V → q_G → q_M → Prop} (hq : Q (some (qI 4)) g M) : q_S 1 (d + 1) 199 [qS 28] g M Q := ⟨30, (some (qI 4), g, M), rfl, hq⟩
theorem q_ch_12_0 {d : Nat} {g : q_G} {M : q_M} {Q : Option q_V → q_G → q_M → Prop} (hq : Q (some (qI 109)) g M) : q_S 1 (d + 4) 200 [qS 28, qI 0] g M Q := ⟨60, (some (qI 109), g, M), rfl, hq⟩
theorem q_ch_12_1 {d : Nat} {g : q_G} {M : q_M} {Q : Option q_V → q_G → q_M → Prop} (hq : Q (some (qI 111)) g M) : q_S 1 (d + 4) 200 [qS 28, qI 1] g M Q := ⟨60, (some (qI 111), g, M), rfl, hq⟩
theorem q_ch_12_2 {d : Nat} {g : q_G} {M : q_M} {Q : Option q_V → q_G → q_M → Prop} (hq : Q (some (qI 114)) g M) : q_S 1 (d + 4) 200 [qS 28, qI 2] g M Q := ⟨60, (some (qI 114), g, M), rfl, hq⟩
theorem q_ch_12_3 {d : Nat} {g : q_G} {M : q_M} {Q : Option q_V → q_G → q_M → Prop} (hq : Q (some (qI 101)) g M) : q_S 1 (d + 4) 200 [qS 28, qI 3] g M Q := ⟨60, (some (qI 101), g, M), rfl, hq⟩
theorem q_slen_1 {j : Nat} (h1 : 1 ≤ j) (h2 : j < 13) : 2 ≤ q_slen j ∧ q_slen j ≤ 6 := by
  rcases (show j = 1 ∨ j = 2 ∨ j = 3 ∨ j = 4 ∨ j = 5 ∨ j = 6 ∨ j = 7 ∨ j = 8 ∨ j = 9 ∨ j = 10 ∨ j = 11 ∨ j = 12 by omega) with rfl | rfl | rfl | rfl | rfl | rfl | rfl | rfl | rfl | rfl | rfl | rfl <;> exact ⟨by decide, by decide⟩
theorem sp_length {d j : Nat} {g : q_G} {M : q_M} (h1 : 1 ≤ j) (h2 : j < 13) (Q : Option q_V → q_G → q_M → Prop) : q_S 1 (d + 1) 199 [qS (16 + j)] g M Q = Q (some (qI (q_slen j))) g M := by
  refine q_S_eq (fun Q hq => ?_) Q
  rcases (show j = 1 ∨ j = 2 ∨ j = 3 ∨ j = 4 ∨ j = 5 ∨ j = 6 ∨ j = 7 ∨ j = 8 ∨ j = 9 ∨ j = 10 ∨ j = 11 ∨ j = 12 by omega) with rfl | rfl | rfl | rfl | rfl | rfl | rfl | rfl | rfl | rfl | rfl | rfl
  · exact q_ln_1 hq
  · exact q_ln_2 hq
  · exact q_ln_3 hq
  · exact q_ln_4 hq
  · exact q_ln_5 hq
  · exact q_ln_6 hq
  · exact q_ln_7 hq
  · exact q_ln_8 hq
  · exact q_ln_9 hq
  · exact q_ln_10 hq
  · exact q_ln_11 hq
  · exact q_ln_12 hq
theorem sp_charAt {d j i : Nat} {g : q_G} {M : q_M} (h1 : 1 ≤ j) (h2 : j < 13) (hi : (i : Int) < q_slen j) (Q : Option q_V → q_G → q_M → Prop) : q_S 1 (d + 4) 200 [qS (16 + j), qI i] g M Q = Q (some (qI (q_sch j i))) g M := by
  refine q_S_eq (fun Q hq => ?_) Q
  rcases (show j = 1 ∨ j = 2 ∨ j = 3 ∨ j = 4 ∨ j = 5 ∨ j = 6 ∨ j = 7 ∨ j = 8 ∨ j = 9 ∨ j = 10 ∨ j = 11 ∨ j = 12 by omega) with rfl | rfl | rfl | rfl | rfl | rfl | rfl | rfl | rfl | rfl | rfl | rfl
  · have hi2 : (i : Int) < 5 := hi
    rcases (show i = 0 ∨ i = 1 ∨ i = 2 ∨ i = 3 ∨ i = 4 by omega) with rfl | rfl | rfl | rfl | rfl
    · exact q_ch_1_0 hq
    · exact q_ch_1_1 hq
    · exact q_ch_1_2 hq
    · exact q_ch_1_3 hq
    · exact q_ch_1_4 hq
  · have hi2 : (i : Int) < 5 := hi
    rcases (show i = 0 ∨ i = 1 ∨ i = 2 ∨ i = 3 ∨ i = 4 by omega) with rfl | rfl | rfl | rfl | rfl
    · exact q_ch_2_0 hq
    · exact q_ch_2_1 hq
    · exact q_ch_2_2 hq
    · exact q_ch_2_3 hq
    · exact q_ch_2_4 hq
  · have hi2 : (i : Int) < 4 := hi
    rcases (show i = 0 ∨ i = 1 ∨ i = 2 ∨ i = 3 by omega) with rfl | rfl | rfl | rfl
    · exact q_ch_3_0 hq
    · exact q_ch_3_1 hq
    · exact q_ch_3_2 hq
    · exact q_ch_3_3 hq
  · have hi2 : (i : Int) < 2 := hi
    rcases (show i = 0 ∨ i = 1 by omega) with rfl | rfl
    · exact q_ch_4_0 hq
    · exact q_ch_4_1 hq
  · have hi2 : (i : Int) < 3 := hi
    rcases (show i = 0 ∨ i = 1 ∨ i = 2 by omega) with rfl | rfl | rfl
    · exact q_ch_5_0 hq
    · exact q_ch_5_1 hq
    · exact q_ch_5_2 hq
  · have hi2 : (i : Int) < 3 := hi
    rcases (show i = 0 ∨ i = 1 ∨ i = 2 by omega) with rfl | rfl | rfl
    · exact q_ch_6_0 hq
    · exact q_ch_6_1 hq
    · exact q_ch_6_2 hq
  · have hi2 : (i : Int) < 3 := hi
    rcases (show i = 0 ∨ i = 1 ∨ i = 2 by omega) with rfl | rfl | rfl
    · exact q_ch_7_0 hq
    · exact q_ch_7_1 hq
    · exact q_ch_7_2 hq
  · have hi2 : (i : Int) < 4 := hi
    rcases (show i = 0 ∨ i = 1 ∨ i = 2 ∨ i = 3 by omega) with rfl | rfl | rfl | rfl
    · exact q_ch_8_0 hq
    · exact q_ch_8_1 hq
    · exact q_ch_8_2 hq
    · exact q_ch_8_3 hq
  · have hi2 : (i : Int) < 5 := hi
    rcases (show i = 0 ∨ i = 1 ∨ i = 2 ∨ i = 3 ∨ i = 4 by omega) with rfl | rfl | rfl | rfl | rfl
    · exact q_ch_9_0 hq
    · exact q_ch_9_1 hq
    · exact q_ch_9_2 hq
    · exact q_ch_9_3 hq
    · exact q_ch_9_4 hq
  · have hi2 : (i : Int) < 6 := hi
    rcases (show i = 0 ∨ i = 1 ∨ i = 2 ∨ i = 3 ∨ i = 4 ∨ i = 5 by omega) with rfl | rfl | rfl | rfl | rfl | rfl
    · exact q_ch_10_0 hq
    · exact q_ch_10_1 hq
    · exact q_ch_10_2 hq
    · exact q_ch_10_3 hq
    · exact q_ch_10_4 hq
    · exact q_ch_10_5 hq
  · have hi2 : (i : Int) < 4 := hi
    rcases (show i = 0 ∨ i = 1 ∨ i = 2 ∨ i = 3 by omega) with rfl | rfl | rfl | rfl
    · exact q_ch_11_0 hq
    · exact q_ch_11_1 hq
    · exact q_ch_11_2 hq
    · exact q_ch_11_3 hq
  · have hi2 : (i : Int) < 4 := hi
    rcases (show i = 0 ∨ i = 1 ∨ i = 2 ∨ i = 3 by omega) with rfl | rfl | rfl | rfl
    · exact q_ch_12_0 hq
    · exact q_ch_12_1 hq
    · exact q_ch_12_2 hq
    · exact q_ch_12_3 hq
