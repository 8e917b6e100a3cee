theorem q_tw1 {w : Cond} (j : Nat) (h : tables_1_1[j]? = some w) : w ∈ tables_1 := by
  show w ∈ tables_1_1 ++ (tables_1_2 ++ (tables_1_3 ++ (tables_1_4 ++ tables_1_5)))
  exact List.mem_append_left _ (List.mem_of_getElem? h)
theorem q_tw2 {w : Cond} (j : Nat) (h : tables_1_2[j]? = some w) : w ∈ tables_1 := by
  show w ∈ tables_1_1 ++ (tables_1_2 ++ (tables_1_3 ++ (tables_1_4 ++ tables_1_5)))
  exact List.mem_append_right _ (List.mem_append_left _ (List.mem_of_getElem? h))
theorem q_tw3 {w : Cond} (j : Nat) (h : tables_1_3[j]? = some w) : w ∈ tables_1 := by
  show w ∈ tables_1_1 ++ (tables_1_2 ++ (tables_1_3 ++ (tables_1_4 ++ tables_1_5)))
  exact List.mem_append_right _ (List.mem_append_right _ (List.mem_append_left _ (List.mem_of_getElem? h)))
theorem q_tw4 {w : Cond} (j : Nat) (h : tables_1_4[j]? = some w) : w ∈ tables_1 := by
  show w ∈ tables_1_1 ++ (tables_1_2 ++ (tables_1_3 ++ (tables_1_4 ++ tables_1_5)))
  exact List.mem_append_right _ (List.mem_append_right _ (List.mem_append_right _ (List.mem_append_left _ (List.mem_of_getElem? h))))
theorem q_tw5 {w : Cond} (j : Nat) (h : tables_1_5[j]? = some w) : w ∈ tables_1 := by
  show w ∈ tables_1_1 ++ (tables_1_2 ++ (tables_1_3 ++ (tables_1_4 ++ tables_1_5)))
  exact List.mem_append_right _ (List.mem_append_right _ (List.mem_append_right _ (List.mem_append_right _ (List.mem_of_getElem? h))))
-- ===== PART A: goes FIRST, ahead of the names: the tables' words, and 'selects' of the private methods out of them =====
/-- a private method of a class that the tables say can be made, by its rows of tables_1 -/
def lw_okq (q : MethodName × Nat) : Prop := (q.1.cls ≠ "java/lang/invoke/MethodHandle" ∧ q.1.cls ≠ "java/lang/invoke/VarHandle") ∧ Cond.instantiable q.1.cls q.2 ∈ tables_1 ∧ Cond.privateMethod q.1 ∈ tables_1 ∧ Cond.instanceMethod q.1 ∈ tables_1
set_option maxRecDepth 100000 in
theorem lw_p0 : lw_okq (⟨"StonesChoose$Reader", "next", "()V"⟩, 10) := ⟨⟨by decide +kernel, by decide +kernel⟩, q_tw1 23 rfl, q_tw1 123 rfl, q_tw1 124 rfl⟩
set_option maxRecDepth 100000 in
theorem lw_p1 : lw_okq (⟨"StonesChoose$Reader", "word", "()V"⟩, 10) := ⟨⟨by decide +kernel, by decide +kernel⟩, q_tw1 23 rfl, q_tw1 130 rfl, q_tw1 131 rfl⟩
set_option maxRecDepth 100000 in
theorem lw_p2 : lw_okq (⟨"StonesChoose$Reader", "mean", "(Ljava/lang/String;II)V"⟩, 10) := ⟨⟨by decide +kernel, by decide +kernel⟩, q_tw1 23 rfl, q_tw1 135 rfl, q_tw1 136 rfl⟩
set_option maxRecDepth 100000 in
theorem lw_p3 : lw_okq (⟨"StonesChoose$Reader", "number", "()V"⟩, 10) := ⟨⟨by decide +kernel, by decide +kernel⟩, q_tw1 23 rfl, q_tw1 155 rfl, q_tw1 156 rfl⟩
set_option maxRecDepth 100000 in
theorem lw_p4 : lw_okq (⟨"StonesChoose$Reader", "part", "(II)V"⟩, 10) := ⟨⟨by decide +kernel, by decide +kernel⟩, q_tw1 23 rfl, q_tw1 162 rfl, q_tw1 163 rfl⟩
set_option maxRecDepth 100000 in
theorem lw_p5 : lw_okq (⟨"StonesChoose$Reader", "expect", "(I)V"⟩, 10) := ⟨⟨by decide +kernel, by decide +kernel⟩, q_tw1 23 rfl, q_tw1 166 rfl, q_tw1 167 rfl⟩
set_option maxRecDepth 100000 in
theorem lw_p6 : lw_okq (⟨"StonesChoose$Reader", "fail", "()V"⟩, 10) := ⟨⟨by decide +kernel, by decide +kernel⟩, q_tw1 23 rfl, q_tw1 170 rfl, q_tw1 171 rfl⟩
set_option maxRecDepth 100000 in
theorem lw_p7 : lw_okq (⟨"StonesChoose$Reader", "either", "(I)V"⟩, 10) := ⟨⟨by decide +kernel, by decide +kernel⟩, q_tw1 23 rfl, q_tw1 174 rfl, q_tw1 175 rfl⟩
set_option maxRecDepth 100000 in
theorem lw_p8 : lw_okq (⟨"StonesChoose$Reader", "both", "(I)V"⟩, 10) := ⟨⟨by decide +kernel, by decide +kernel⟩, q_tw1 23 rfl, q_tw1 178 rfl, q_tw1 179 rfl⟩
set_option maxRecDepth 100000 in
theorem lw_p9 : lw_okq (⟨"StonesChoose$Reader", "not", "(I)V"⟩, 10) := ⟨⟨by decide +kernel, by decide +kernel⟩, q_tw1 23 rfl, q_tw1 182 rfl, q_tw1 183 rfl⟩
set_option maxRecDepth 100000 in
theorem lw_p10 : lw_okq (⟨"StonesChoose$Reader", "emit", "(II)V"⟩, 10) := ⟨⟨by decide +kernel, by decide +kernel⟩, q_tw1 23 rfl, q_tw1 186 rfl, q_tw1 187 rfl⟩
set_option maxRecDepth 100000 in
theorem lw_p11 : lw_okq (⟨"StonesChoose$Reader", "sum", "(I)V"⟩, 10) := ⟨⟨by decide +kernel, by decide +kernel⟩, q_tw1 23 rfl, q_tw1 190 rfl, q_tw1 191 rfl⟩
set_option maxRecDepth 100000 in
theorem lw_p12 : lw_okq (⟨"StonesChoose$Reader", "term", "(I)V"⟩, 10) := ⟨⟨by decide +kernel, by decide +kernel⟩, q_tw1 23 rfl, q_tw1 194 rfl, q_tw1 195 rfl⟩
set_option maxRecDepth 100000 in
theorem lw_p13 : lw_okq (⟨"StonesChoose$Reader", "one", "(I)V"⟩, 10) := ⟨⟨by decide +kernel, by decide +kernel⟩, q_tw1 23 rfl, q_tw1 198 rfl, q_tw1 199 rfl⟩
set_option maxRecDepth 100000 in
theorem lw_p14 : lw_okq (⟨"StonesChoose", "isStone", "(I)Z"⟩, 8) := ⟨⟨by decide +kernel, by decide +kernel⟩, q_tw1 15 rfl, q_tw2 184 rfl, q_tw2 185 rfl⟩
set_option maxRecDepth 100000 in
theorem lw_p15 : lw_okq (⟨"StonesChoose$World", "goTo", "(II)Z"⟩, 11) := ⟨⟨by decide +kernel, by decide +kernel⟩, q_tw2 1 rfl, q_tw3 27 rfl, q_tw3 28 rfl⟩
def lw_privs_1 : List (MethodName × Nat) := [(⟨"StonesChoose$Reader", "next", "()V"⟩, 10), (⟨"StonesChoose$Reader", "word", "()V"⟩, 10), (⟨"StonesChoose$Reader", "mean", "(Ljava/lang/String;II)V"⟩, 10), (⟨"StonesChoose$Reader", "number", "()V"⟩, 10), (⟨"StonesChoose$Reader", "part", "(II)V"⟩, 10), (⟨"StonesChoose$Reader", "expect", "(I)V"⟩, 10), (⟨"StonesChoose$Reader", "fail", "()V"⟩, 10), (⟨"StonesChoose$Reader", "either", "(I)V"⟩, 10), (⟨"StonesChoose$Reader", "both", "(I)V"⟩, 10), (⟨"StonesChoose$Reader", "not", "(I)V"⟩, 10), (⟨"StonesChoose$Reader", "emit", "(II)V"⟩, 10), (⟨"StonesChoose$Reader", "sum", "(I)V"⟩, 10), (⟨"StonesChoose$Reader", "term", "(I)V"⟩, 10), (⟨"StonesChoose$Reader", "one", "(I)V"⟩, 10), (⟨"StonesChoose", "isStone", "(I)Z"⟩, 8), (⟨"StonesChoose$World", "goTo", "(II)Z"⟩, 11)]
theorem lw_r1 : ∀ q ∈ lw_privs_1, lw_okq q := List.forall_mem_cons.mpr ⟨lw_p0, List.forall_mem_cons.mpr ⟨lw_p1, List.forall_mem_cons.mpr ⟨lw_p2, List.forall_mem_cons.mpr ⟨lw_p3, List.forall_mem_cons.mpr ⟨lw_p4, List.forall_mem_cons.mpr ⟨lw_p5, List.forall_mem_cons.mpr ⟨lw_p6, List.forall_mem_cons.mpr ⟨lw_p7, List.forall_mem_cons.mpr ⟨lw_p8, List.forall_mem_cons.mpr ⟨lw_p9, List.forall_mem_cons.mpr ⟨lw_p10, List.forall_mem_cons.mpr ⟨lw_p11, List.forall_mem_cons.mpr ⟨lw_p12, List.forall_mem_cons.mpr ⟨lw_p13, List.forall_mem_cons.mpr ⟨lw_p14, List.forall_mem_cons.mpr ⟨lw_p15, fun _ h => absurd h List.not_mem_nil⟩⟩⟩⟩⟩⟩⟩⟩⟩⟩⟩⟩⟩⟩⟩⟩
set_option maxRecDepth 100000 in
theorem lw_p16 : lw_okq (⟨"StonesChoose$Choice", "last", "(I)I"⟩, 6) := ⟨⟨by decide +kernel, by decide +kernel⟩, q_tw2 7 rfl, q_tw3 37 rfl, q_tw3 38 rfl⟩
set_option maxRecDepth 100000 in
theorem lw_p17 : lw_okq (⟨"StonesChoose$Choice", "ratherHave", "(III)Z"⟩, 6) := ⟨⟨by decide +kernel, by decide +kernel⟩, q_tw2 7 rfl, q_tw3 41 rfl, q_tw3 42 rfl⟩
set_option maxRecDepth 100000 in
theorem lw_p18 : lw_okq (⟨"StonesChoose", "yearsTillIn", "(III)I"⟩, 8) := ⟨⟨by decide +kernel, by decide +kernel⟩, q_tw1 15 rfl, q_tw3 71 rfl, q_tw3 72 rfl⟩
set_option maxRecDepth 100000 in
theorem lw_p19 : lw_okq (⟨"StonesChoose$Choice", "ask", "(II)V"⟩, 6) := ⟨⟨by decide +kernel, by decide +kernel⟩, q_tw2 7 rfl, q_tw3 110 rfl, q_tw3 111 rfl⟩
set_option maxRecDepth 100000 in
theorem lw_p20 : lw_okq (⟨"StonesChoose", "refusalOfTold", "(I)I"⟩, 8) := ⟨⟨by decide +kernel, by decide +kernel⟩, q_tw1 15 rfl, q_tw3 148 rfl, q_tw3 149 rfl⟩
set_option maxRecDepth 100000 in
theorem lw_p21 : lw_okq (⟨"StonesChoose", "firstOtherwise", "(II)I"⟩, 8) := ⟨⟨by decide +kernel, by decide +kernel⟩, q_tw1 15 rfl, q_tw3 159 rfl, q_tw3 160 rfl⟩
set_option maxRecDepth 100000 in
theorem lw_p22 : lw_okq (⟨"StonesChoose", "passWeather", "(I)V"⟩, 8) := ⟨⟨by decide +kernel, by decide +kernel⟩, q_tw1 15 rfl, q_tw3 196 rfl, q_tw3 197 rfl⟩
set_option maxRecDepth 100000 in
theorem lw_p23 : lw_okq (⟨"StonesChooseModel", "next", "()V"⟩, 37) := ⟨⟨by decide +kernel, by decide +kernel⟩, q_tw4 1 rfl, q_tw4 11 rfl, q_tw4 12 rfl⟩
set_option maxRecDepth 100000 in
theorem lw_p24 : lw_okq (⟨"StonesChooseModel", "wordFrom", "(II)I"⟩, 37) := ⟨⟨by decide +kernel, by decide +kernel⟩, q_tw4 1 rfl, q_tw4 18 rfl, q_tw4 19 rfl⟩
set_option maxRecDepth 100000 in
theorem lw_p25 : lw_okq (⟨"StonesChooseModel", "eRead", "()Z"⟩, 37) := ⟨⟨by decide +kernel, by decide +kernel⟩, q_tw4 1 rfl, q_tw4 22 rfl, q_tw4 23 rfl⟩
set_option maxRecDepth 100000 in
theorem lw_p26 : lw_okq (⟨"StonesChooseModel", "puts", "(I)V"⟩, 37) := ⟨⟨by decide +kernel, by decide +kernel⟩, q_tw4 1 rfl, q_tw4 27 rfl, q_tw4 28 rfl⟩
set_option maxRecDepth 100000 in
theorem lw_p27 : lw_okq (⟨"StonesChooseModel", "unwinds", "(I)V"⟩, 37) := ⟨⟨by decide +kernel, by decide +kernel⟩, q_tw4 1 rfl, q_tw4 31 rfl, q_tw4 32 rfl⟩
set_option maxRecDepth 100000 in
theorem lw_p28 : lw_okq (⟨"StonesChooseModel", "opensOne", "(I)Z"⟩, 37) := ⟨⟨by decide +kernel, by decide +kernel⟩, q_tw4 1 rfl, q_tw4 38 rfl, q_tw4 39 rfl⟩
set_option maxRecDepth 100000 in
theorem lw_p29 : lw_okq (⟨"StonesChooseModel", "holds", "(I)V"⟩, 37) := ⟨⟨by decide +kernel, by decide +kernel⟩, q_tw4 1 rfl, q_tw4 42 rfl, q_tw4 43 rfl⟩
set_option maxRecDepth 100000 in
theorem lw_p30 : lw_okq (⟨"StonesChooseModel", "signOf", "()I"⟩, 37) := ⟨⟨by decide +kernel, by decide +kernel⟩, q_tw4 1 rfl, q_tw4 46 rfl, q_tw4 47 rfl⟩
set_option maxRecDepth 100000 in
theorem lw_p31 : lw_okq (⟨"StonesChooseModel", "between", "(I)Z"⟩, 37) := ⟨⟨by decide +kernel, by decide +kernel⟩, q_tw4 1 rfl, q_tw4 50 rfl, q_tw4 51 rfl⟩
def lw_privs_2 : List (MethodName × Nat) := [(⟨"StonesChoose$Choice", "last", "(I)I"⟩, 6), (⟨"StonesChoose$Choice", "ratherHave", "(III)Z"⟩, 6), (⟨"StonesChoose", "yearsTillIn", "(III)I"⟩, 8), (⟨"StonesChoose$Choice", "ask", "(II)V"⟩, 6), (⟨"StonesChoose", "refusalOfTold", "(I)I"⟩, 8), (⟨"StonesChoose", "firstOtherwise", "(II)I"⟩, 8), (⟨"StonesChoose", "passWeather", "(I)V"⟩, 8), (⟨"StonesChooseModel", "next", "()V"⟩, 37), (⟨"StonesChooseModel", "wordFrom", "(II)I"⟩, 37), (⟨"StonesChooseModel", "eRead", "()Z"⟩, 37), (⟨"StonesChooseModel", "puts", "(I)V"⟩, 37), (⟨"StonesChooseModel", "unwinds", "(I)V"⟩, 37), (⟨"StonesChooseModel", "opensOne", "(I)Z"⟩, 37), (⟨"StonesChooseModel", "holds", "(I)V"⟩, 37), (⟨"StonesChooseModel", "signOf", "()I"⟩, 37), (⟨"StonesChooseModel", "between", "(I)Z"⟩, 37)]
theorem lw_r2 : ∀ q ∈ lw_privs_2, lw_okq q := List.forall_mem_cons.mpr ⟨lw_p16, List.forall_mem_cons.mpr ⟨lw_p17, List.forall_mem_cons.mpr ⟨lw_p18, List.forall_mem_cons.mpr ⟨lw_p19, List.forall_mem_cons.mpr ⟨lw_p20, List.forall_mem_cons.mpr ⟨lw_p21, List.forall_mem_cons.mpr ⟨lw_p22, List.forall_mem_cons.mpr ⟨lw_p23, List.forall_mem_cons.mpr ⟨lw_p24, List.forall_mem_cons.mpr ⟨lw_p25, List.forall_mem_cons.mpr ⟨lw_p26, List.forall_mem_cons.mpr ⟨lw_p27, List.forall_mem_cons.mpr ⟨lw_p28, List.forall_mem_cons.mpr ⟨lw_p29, List.forall_mem_cons.mpr ⟨lw_p30, List.forall_mem_cons.mpr ⟨lw_p31, fun _ h => absurd h List.not_mem_nil⟩⟩⟩⟩⟩⟩⟩⟩⟩⟩⟩⟩⟩⟩⟩⟩
set_option maxRecDepth 100000 in
theorem lw_p32 : lw_okq (⟨"StonesChooseModel", "outside", "()I"⟩, 37) := ⟨⟨by decide +kernel, by decide +kernel⟩, q_tw4 1 rfl, q_tw4 170 rfl, q_tw4 171 rfl⟩
set_option maxRecDepth 100000 in
theorem lw_p33 : lw_okq (⟨"StonesChooseModel", "whoIn", "(I)I"⟩, 37) := ⟨⟨by decide +kernel, by decide +kernel⟩, q_tw4 1 rfl, q_tw4 185 rfl, q_tw4 186 rfl⟩
set_option maxRecDepth 100000 in
theorem lw_p34 : lw_okq (⟨"StonesChooseModel", "isStone", "(I)Z"⟩, 37) := ⟨⟨by decide +kernel, by decide +kernel⟩, q_tw4 1 rfl, q_tw4 212 rfl, q_tw4 213 rfl⟩
set_option maxRecDepth 100000 in
theorem lw_p35 : lw_okq (⟨"StonesChooseModel", "asksOf", "(III)I"⟩, 37) := ⟨⟨by decide +kernel, by decide +kernel⟩, q_tw4 1 rfl, q_tw4 216 rfl, q_tw4 217 rfl⟩
set_option maxRecDepth 100000 in
theorem lw_p36 : lw_okq (⟨"StonesChooseModel", "says", "(I)I"⟩, 37) := ⟨⟨by decide +kernel, by decide +kernel⟩, q_tw4 1 rfl, q_tw4 220 rfl, q_tw4 221 rfl⟩
set_option maxRecDepth 100000 in
theorem lw_p37 : lw_okq (⟨"StonesChooseModel", "wishOf", "(I)I"⟩, 37) := ⟨⟨by decide +kernel, by decide +kernel⟩, q_tw4 1 rfl, q_tw5 2 rfl, q_tw5 3 rfl⟩
set_option maxRecDepth 100000 in
theorem lw_p38 : lw_okq (⟨"StonesChooseModel", "likesOf", "(II)I"⟩, 37) := ⟨⟨by decide +kernel, by decide +kernel⟩, q_tw4 1 rfl, q_tw5 6 rfl, q_tw5 7 rfl⟩
set_option maxRecDepth 100000 in
theorem lw_p39 : lw_okq (⟨"StonesChooseModel", "goesOf", "(I)I"⟩, 37) := ⟨⟨by decide +kernel, by decide +kernel⟩, q_tw4 1 rfl, q_tw5 10 rfl, q_tw5 11 rfl⟩
set_option maxRecDepth 100000 in
theorem lw_p40 : lw_okq (⟨"StonesChooseModel", "wantedOf", "(II)I"⟩, 37) := ⟨⟨by decide +kernel, by decide +kernel⟩, q_tw4 1 rfl, q_tw5 18 rfl, q_tw5 19 rfl⟩
set_option maxRecDepth 100000 in
theorem lw_p41 : lw_okq (⟨"StonesChooseModel", "yearOf", "()I"⟩, 37) := ⟨⟨by decide +kernel, by decide +kernel⟩, q_tw4 1 rfl, q_tw5 26 rfl, q_tw5 27 rfl⟩
set_option maxRecDepth 100000 in
theorem lw_p42 : lw_okq (⟨"StonesChooseModel", "turnOf", "(I)Z"⟩, 37) := ⟨⟨by decide +kernel, by decide +kernel⟩, q_tw4 1 rfl, q_tw5 30 rfl, q_tw5 31 rfl⟩
set_option maxRecDepth 100000 in
theorem lw_p43 : lw_okq (⟨"StonesChooseModel", "doesTake", "(II)Z"⟩, 37) := ⟨⟨by decide +kernel, by decide +kernel⟩, q_tw4 1 rfl, q_tw5 34 rfl, q_tw5 35 rfl⟩
set_option maxRecDepth 100000 in
theorem lw_p44 : lw_okq (⟨"StonesChooseModel", "isFullSite", "(I)Z"⟩, 37) := ⟨⟨by decide +kernel, by decide +kernel⟩, q_tw4 1 rfl, q_tw5 38 rfl, q_tw5 39 rfl⟩
set_option maxRecDepth 100000 in
theorem lw_p45 : lw_okq (⟨"StonesChooseModel", "lastIn", "(I)I"⟩, 37) := ⟨⟨by decide +kernel, by decide +kernel⟩, q_tw4 1 rfl, q_tw5 42 rfl, q_tw5 43 rfl⟩
set_option maxRecDepth 100000 in
theorem lw_p46 : lw_okq (⟨"StonesChooseModel", "keeps", "()V"⟩, 37) := ⟨⟨by decide +kernel, by decide +kernel⟩, q_tw4 1 rfl, q_tw5 50 rfl, q_tw5 51 rfl⟩
set_option maxRecDepth 100000 in
theorem lw_p47 : lw_okq (⟨"StonesChooseModel", "digitsNow", "()I"⟩, 37) := ⟨⟨by decide +kernel, by decide +kernel⟩, q_tw4 1 rfl, q_tw5 54 rfl, q_tw5 55 rfl⟩
def lw_privs_3 : List (MethodName × Nat) := [(⟨"StonesChooseModel", "outside", "()I"⟩, 37), (⟨"StonesChooseModel", "whoIn", "(I)I"⟩, 37), (⟨"StonesChooseModel", "isStone", "(I)Z"⟩, 37), (⟨"StonesChooseModel", "asksOf", "(III)I"⟩, 37), (⟨"StonesChooseModel", "says", "(I)I"⟩, 37), (⟨"StonesChooseModel", "wishOf", "(I)I"⟩, 37), (⟨"StonesChooseModel", "likesOf", "(II)I"⟩, 37), (⟨"StonesChooseModel", "goesOf", "(I)I"⟩, 37), (⟨"StonesChooseModel", "wantedOf", "(II)I"⟩, 37), (⟨"StonesChooseModel", "yearOf", "()I"⟩, 37), (⟨"StonesChooseModel", "turnOf", "(I)Z"⟩, 37), (⟨"StonesChooseModel", "doesTake", "(II)Z"⟩, 37), (⟨"StonesChooseModel", "isFullSite", "(I)Z"⟩, 37), (⟨"StonesChooseModel", "lastIn", "(I)I"⟩, 37), (⟨"StonesChooseModel", "keeps", "()V"⟩, 37), (⟨"StonesChooseModel", "digitsNow", "()I"⟩, 37)]
theorem lw_r3 : ∀ q ∈ lw_privs_3, lw_okq q := List.forall_mem_cons.mpr ⟨lw_p32, List.forall_mem_cons.mpr ⟨lw_p33, List.forall_mem_cons.mpr ⟨lw_p34, List.forall_mem_cons.mpr ⟨lw_p35, List.forall_mem_cons.mpr ⟨lw_p36, List.forall_mem_cons.mpr ⟨lw_p37, List.forall_mem_cons.mpr ⟨lw_p38, List.forall_mem_cons.mpr ⟨lw_p39, List.forall_mem_cons.mpr ⟨lw_p40, List.forall_mem_cons.mpr ⟨lw_p41, List.forall_mem_cons.mpr ⟨lw_p42, List.forall_mem_cons.mpr ⟨lw_p43, List.forall_mem_cons.mpr ⟨lw_p44, List.forall_mem_cons.mpr ⟨lw_p45, List.forall_mem_cons.mpr ⟨lw_p46, List.forall_mem_cons.mpr ⟨lw_p47, fun _ h => absurd h List.not_mem_nil⟩⟩⟩⟩⟩⟩⟩⟩⟩⟩⟩⟩⟩⟩⟩⟩
set_option maxRecDepth 100000 in
theorem lw_p48 : lw_okq (⟨"StonesChooseModel", "lays", "()V"⟩, 37) := ⟨⟨by decide +kernel, by decide +kernel⟩, q_tw4 1 rfl, q_tw5 58 rfl, q_tw5 59 rfl⟩
set_option maxRecDepth 100000 in
theorem lw_p49 : lw_okq (⟨"StonesChooseModel", "whenIn", "(II)I"⟩, 37) := ⟨⟨by decide +kernel, by decide +kernel⟩, q_tw4 1 rfl, q_tw5 66 rfl, q_tw5 67 rfl⟩
set_option maxRecDepth 100000 in
theorem lw_p50 : lw_okq (⟨"StonesChooseModel", "tellsAll", "()V"⟩, 37) := ⟨⟨by decide +kernel, by decide +kernel⟩, q_tw4 1 rfl, q_tw5 75 rfl, q_tw5 76 rfl⟩
set_option maxRecDepth 100000 in
theorem lw_p51 : lw_okq (⟨"StonesChooseModel", "against", "()I"⟩, 37) := ⟨⟨by decide +kernel, by decide +kernel⟩, q_tw4 1 rfl, q_tw5 79 rfl, q_tw5 80 rfl⟩
set_option maxRecDepth 100000 in
theorem lw_p52 : lw_okq (⟨"StonesChooseModel", "wouldRather", "(II)Z"⟩, 37) := ⟨⟨by decide +kernel, by decide +kernel⟩, q_tw4 1 rfl, q_tw5 83 rfl, q_tw5 84 rfl⟩
set_option maxRecDepth 100000 in
theorem lw_p53 : lw_okq (⟨"StonesChooseModel", "wouldTake", "(II)Z"⟩, 37) := ⟨⟨by decide +kernel, by decide +kernel⟩, q_tw4 1 rfl, q_tw5 87 rfl, q_tw5 88 rfl⟩
set_option maxRecDepth 100000 in
theorem lw_p54 : lw_okq (⟨"StonesChooseModel", "sitting", "(I)I"⟩, 37) := ⟨⟨by decide +kernel, by decide +kernel⟩, q_tw4 1 rfl, q_tw5 91 rfl, q_tw5 92 rfl⟩
set_option maxRecDepth 100000 in
theorem lw_p55 : lw_okq (⟨"StonesChooseModel", "lastSitting", "(I)I"⟩, 37) := ⟨⟨by decide +kernel, by decide +kernel⟩, q_tw4 1 rfl, q_tw5 95 rfl, q_tw5 96 rfl⟩
set_option maxRecDepth 100000 in
theorem lw_p56 : lw_okq (⟨"StonesChooseModel", "sumOf", "(I)I"⟩, 37) := ⟨⟨by decide +kernel, by decide +kernel⟩, q_tw4 1 rfl, q_tw5 99 rfl, q_tw5 100 rfl⟩
set_option maxRecDepth 100000 in
theorem lw_p57 : lw_okq (⟨"StonesChooseModel", "courts", "()V"⟩, 37) := ⟨⟨by decide +kernel, by decide +kernel⟩, q_tw4 1 rfl, q_tw5 107 rfl, q_tw5 108 rfl⟩
set_option maxRecDepth 100000 in
theorem lw_p58 : lw_okq (⟨"StonesChooseModel", "asksOne", "(I)Z"⟩, 37) := ⟨⟨by decide +kernel, by decide +kernel⟩, q_tw4 1 rfl, q_tw5 111 rfl, q_tw5 112 rfl⟩
set_option maxRecDepth 100000 in
theorem lw_p59 : lw_okq (⟨"StonesChooseModel", "nextAsked", "(I)I"⟩, 37) := ⟨⟨by decide +kernel, by decide +kernel⟩, q_tw4 1 rfl, q_tw5 115 rfl, q_tw5 116 rfl⟩
set_option maxRecDepth 100000 in
theorem lw_p60 : lw_okq (⟨"StonesChooseModel", "sittingDigits", "()I"⟩, 37) := ⟨⟨by decide +kernel, by decide +kernel⟩, q_tw4 1 rfl, q_tw5 119 rfl, q_tw5 120 rfl⟩
set_option maxRecDepth 100000 in
theorem lw_p61 : lw_okq (⟨"StonesChooseModel", "tellsWays", "()V"⟩, 37) := ⟨⟨by decide +kernel, by decide +kernel⟩, q_tw4 1 rfl, q_tw5 127 rfl, q_tw5 128 rfl⟩
set_option maxRecDepth 100000 in
theorem lw_p62 : lw_okq (⟨"StonesChooseModel", "sitsBy", "(I)Z"⟩, 37) := ⟨⟨by decide +kernel, by decide +kernel⟩, q_tw4 1 rfl, q_tw5 131 rfl, q_tw5 132 rfl⟩
set_option maxRecDepth 100000 in
theorem lw_p63 : lw_okq (⟨"StonesChooseModel", "toldWrong", "(II)I"⟩, 37) := ⟨⟨by decide +kernel, by decide +kernel⟩, q_tw4 1 rfl, q_tw5 155 rfl, q_tw5 156 rfl⟩
def lw_privs_4 : List (MethodName × Nat) := [(⟨"StonesChooseModel", "lays", "()V"⟩, 37), (⟨"StonesChooseModel", "whenIn", "(II)I"⟩, 37), (⟨"StonesChooseModel", "tellsAll", "()V"⟩, 37), (⟨"StonesChooseModel", "against", "()I"⟩, 37), (⟨"StonesChooseModel", "wouldRather", "(II)Z"⟩, 37), (⟨"StonesChooseModel", "wouldTake", "(II)Z"⟩, 37), (⟨"StonesChooseModel", "sitting", "(I)I"⟩, 37), (⟨"StonesChooseModel", "lastSitting", "(I)I"⟩, 37), (⟨"StonesChooseModel", "sumOf", "(I)I"⟩, 37), (⟨"StonesChooseModel", "courts", "()V"⟩, 37), (⟨"StonesChooseModel", "asksOne", "(I)Z"⟩, 37), (⟨"StonesChooseModel", "nextAsked", "(I)I"⟩, 37), (⟨"StonesChooseModel", "sittingDigits", "()I"⟩, 37), (⟨"StonesChooseModel", "tellsWays", "()V"⟩, 37), (⟨"StonesChooseModel", "sitsBy", "(I)Z"⟩, 37), (⟨"StonesChooseModel", "toldWrong", "(II)I"⟩, 37)]
theorem lw_r4 : ∀ q ∈ lw_privs_4, lw_okq q := List.forall_mem_cons.mpr ⟨lw_p48, List.forall_mem_cons.mpr ⟨lw_p49, List.forall_mem_cons.mpr ⟨lw_p50, List.forall_mem_cons.mpr ⟨lw_p51, List.forall_mem_cons.mpr ⟨lw_p52, List.forall_mem_cons.mpr ⟨lw_p53, List.forall_mem_cons.mpr ⟨lw_p54, List.forall_mem_cons.mpr ⟨lw_p55, List.forall_mem_cons.mpr ⟨lw_p56, List.forall_mem_cons.mpr ⟨lw_p57, List.forall_mem_cons.mpr ⟨lw_p58, List.forall_mem_cons.mpr ⟨lw_p59, List.forall_mem_cons.mpr ⟨lw_p60, List.forall_mem_cons.mpr ⟨lw_p61, List.forall_mem_cons.mpr ⟨lw_p62, List.forall_mem_cons.mpr ⟨lw_p63, fun _ h => absurd h List.not_mem_nil⟩⟩⟩⟩⟩⟩⟩⟩⟩⟩⟩⟩⟩⟩⟩⟩
set_option maxRecDepth 100000 in
theorem lw_p64 : lw_okq (⟨"StonesChooseModel", "sheetWrong", "(I)I"⟩, 37) := ⟨⟨by decide +kernel, by decide +kernel⟩, q_tw4 1 rfl, q_tw5 159 rfl, q_tw5 160 rfl⟩
set_option maxRecDepth 100000 in
theorem lw_p65 : lw_okq (⟨"StonesChooseModel", "unlike", "(II)I"⟩, 37) := ⟨⟨by decide +kernel, by decide +kernel⟩, q_tw4 1 rfl, q_tw5 163 rfl, q_tw5 164 rfl⟩
set_option maxRecDepth 100000 in
theorem lw_p66 : lw_okq (⟨"StonesChooseModel", "weather", "(I)I"⟩, 37) := ⟨⟨by decide +kernel, by decide +kernel⟩, q_tw4 1 rfl, q_tw5 192 rfl, q_tw5 193 rfl⟩
def lw_privs_5 : List (MethodName × Nat) := [(⟨"StonesChooseModel", "sheetWrong", "(I)I"⟩, 37), (⟨"StonesChooseModel", "unlike", "(II)I"⟩, 37), (⟨"StonesChooseModel", "weather", "(I)I"⟩, 37)]
theorem lw_r5 : ∀ q ∈ lw_privs_5, lw_okq q := List.forall_mem_cons.mpr ⟨lw_p64, List.forall_mem_cons.mpr ⟨lw_p65, List.forall_mem_cons.mpr ⟨lw_p66, fun _ h => absurd h List.not_mem_nil⟩⟩⟩
def lw_privs : List (MethodName × Nat) := lw_privs_1 ++ (lw_privs_2 ++ (lw_privs_3 ++ (lw_privs_4 ++ (lw_privs_5))))
def lw_tbl : List Cond := k2_sels lw_privs ++ tables_1
theorem lw_privs_ok : ∀ q ∈ lw_privs, lw_okq q := by
  show ∀ q ∈ lw_privs_1 ++ (lw_privs_2 ++ (lw_privs_3 ++ (lw_privs_4 ++ (lw_privs_5)))), lw_okq q
  exact List.forall_mem_append.mpr ⟨lw_r1, List.forall_mem_append.mpr ⟨lw_r2, List.forall_mem_append.mpr ⟨lw_r3, List.forall_mem_append.mpr ⟨lw_r4, lw_r5⟩⟩⟩⟩

def RX0 : String := "StonesChoose$Choice"
def TX0 : u_T := fun k => match k with
  | 0 => ("StonesChoose$Choice", "room", "[I", true)
  | 1 => ("StonesChoose$Choice", "in", "[I", true)
  | 2 => ("StonesChoose$Choice", "like", "[[I", true)
  | 3 => ("StonesChoose$Choice", "want", "[[I", true)
  | 4 => ("StonesChoose$Choice", "sent", "[I", true)
  | _ => ("StonesChoose$Choice", "stones", "I", false)
def tyX0 : Nat → FieldType := fun k => match k with
  | 0 => .array .int
  | 1 => .array .int
  | 2 => .array (.array .int)
  | 3 => .array (.array .int)
  | 4 => .array .int
  | _ => .int
theorem nmX0 : ∀ a, a < 6 → ∀ b, b < 6 → a ≠ b → (TX0 a).2.1 ≠ (TX0 b).2.1 := by decide +kernel
theorem tyX0_ok : ∀ k, k < 6 → parseFieldDescriptor (TX0 k).2.2.1 = some (tyX0 k) := by decide +kernel
abbrev cX0_init : ByteArray := prog_2_method_1_code
def yX0_init : MethodName := ⟨RX0, "<init>", "()V"⟩
abbrev cX0_copyFrom : ByteArray := prog_2_method_2_code
def yX0_copyFrom : MethodName := ⟨RX0, "copyFrom", "(LStonesChoose$Choice;)V"⟩
abbrev cX0_emptyAll : ByteArray := prog_2_method_3_code
def yX0_emptyAll : MethodName := ⟨RX0, "emptyAll", "()V"⟩
abbrev cX0_inNone : ByteArray := prog_2_method_4_code
def yX0_inNone : MethodName := ⟨RX0, "inNone", "()I"⟩
abbrev cX0_housed : ByteArray := prog_2_method_5_code
def yX0_housed : MethodName := ⟨RX0, "housed", "(I)I"⟩
abbrev cX0_housedBits : ByteArray := prog_2_method_6_code
def yX0_housedBits : MethodName := ⟨RX0, "housedBits", "(I)I"⟩
abbrev cX0_digits : ByteArray := prog_2_method_7_code
def yX0_digits : MethodName := ⟨RX0, "digits", "()I"⟩
abbrev cX0_liked : ByteArray := prog_2_method_8_code
def yX0_liked : MethodName := ⟨RX0, "liked", "()I"⟩
abbrev cX0_wanted : ByteArray := prog_2_method_9_code
def yX0_wanted : MethodName := ⟨RX0, "wanted", "()I"⟩
abbrev cX0_ratherBeIn : ByteArray := prog_2_method_10_code
def yX0_ratherBeIn : MethodName := ⟨RX0, "ratherBeIn", "(III)Z"⟩
abbrev cX0_dearest : ByteArray := prog_2_method_11_code
def yX0_dearest : MethodName := ⟨RX0, "dearest", "(II)I"⟩
abbrev cX0_ratherHave : ByteArray := prog_2_method_12_code
def yX0_ratherHave : MethodName := ⟨RX0, "ratherHave", "(III)Z"⟩
abbrev cX0_last : ByteArray := prog_2_method_13_code
def yX0_last : MethodName := ⟨RX0, "last", "(I)I"⟩
abbrev cX0_takes : ByteArray := prog_2_method_14_code
def yX0_takes : MethodName := ⟨RX0, "takes", "(II)Z"⟩
abbrev cX0_comeIn : ByteArray := prog_2_method_15_code
def yX0_comeIn : MethodName := ⟨RX0, "comeIn", "(II)I"⟩
abbrev cX0_askInTurn : ByteArray := prog_2_method_16_code
def yX0_askInTurn : MethodName := ⟨RX0, "askInTurn", "()V"⟩
abbrev cX0_ask : ByteArray := prog_2_method_17_code
def yX0_ask : MethodName := ⟨RX0, "ask", "(II)V"⟩
abbrev cX0_complaint : ByteArray := prog_2_method_18_code
def yX0_complaint : MethodName := ⟨RX0, "complaint", "()I"⟩
abbrev cX0_fits : ByteArray := prog_2_method_19_code
def yX0_fits : MethodName := ⟨RX0, "fits", "()Z"⟩
abbrev cX0_nextWay : ByteArray := prog_2_method_20_code
def yX0_nextWay : MethodName := ⟨RX0, "nextWay", "()Z"⟩
def RX1 : String := "StonesChoose$Reader"
def TX1 : u_T := fun k => match k with
  | 0 => ("StonesChoose$Reader", "tape", "[I", true)
  | 1 => ("StonesChoose$Reader", "size", "I", false)
  | 2 => ("StonesChoose$Reader", "code", "[I", true)
  | 3 => ("StonesChoose$Reader", "codes", "I", false)
  | 4 => ("StonesChoose$Reader", "starts", "[I", true)
  | 5 => ("StonesChoose$Reader", "token", "I", false)
  | 6 => ("StonesChoose$Reader", "value", "I", false)
  | 7 => ("StonesChoose$Reader", "from", "I", false)
  | 8 => ("StonesChoose$Reader", "behind", "I", false)
  | _ => ("StonesChoose$Reader", "fault", "I", false)
def tyX1 : Nat → FieldType := fun k => match k with
  | 0 => .array .int
  | 1 => .int
  | 2 => .array .int
  | 3 => .int
  | 4 => .array .int
  | 5 => .int
  | 6 => .int
  | 7 => .int
  | 8 => .int
  | _ => .int
theorem nmX1 : ∀ a, a < 10 → ∀ b, b < 10 → a ≠ b → (TX1 a).2.1 ≠ (TX1 b).2.1 := by decide +kernel
theorem tyX1_ok : ∀ k, k < 10 → parseFieldDescriptor (TX1 k).2.2.1 = some (tyX1 k) := by decide +kernel
abbrev cX1_init : ByteArray := prog_3_method_1_code
def yX1_init : MethodName := ⟨RX1, "<init>", "()V"⟩
abbrev cX1_clear : ByteArray := prog_3_method_2_code
def yX1_clear : MethodName := ⟨RX1, "clear", "()V"⟩
abbrev cX1_take : ByteArray := prog_3_method_3_code
def yX1_take : MethodName := ⟨RX1, "take", "(I)V"⟩
abbrev cX1_read : ByteArray := prog_3_method_4_code
def yX1_read : MethodName := ⟨RX1, "read", "()I"⟩
abbrev cX1_made : ByteArray := prog_3_method_5_code
def yX1_made : MethodName := ⟨RX1, "made", "(I)LStonesChoose$Text;"⟩
abbrev cX1_part : ByteArray := prog_3_method_6_code
def yX1_part : MethodName := ⟨RX1, "part", "(II)V"⟩
abbrev cX1_expect : ByteArray := prog_3_method_7_code
def yX1_expect : MethodName := ⟨RX1, "expect", "(I)V"⟩
abbrev cX1_fail : ByteArray := prog_3_method_8_code
def yX1_fail : MethodName := ⟨RX1, "fail", "()V"⟩
abbrev cX1_emit : ByteArray := prog_3_method_9_code
def yX1_emit : MethodName := ⟨RX1, "emit", "(II)V"⟩
abbrev cX1_either : ByteArray := prog_3_method_10_code
def yX1_either : MethodName := ⟨RX1, "either", "(I)V"⟩
abbrev cX1_both : ByteArray := prog_3_method_11_code
def yX1_both : MethodName := ⟨RX1, "both", "(I)V"⟩
abbrev cX1_not : ByteArray := prog_3_method_12_code
def yX1_not : MethodName := ⟨RX1, "not", "(I)V"⟩
abbrev cX1_sum : ByteArray := prog_3_method_13_code
def yX1_sum : MethodName := ⟨RX1, "sum", "(I)V"⟩
abbrev cX1_term : ByteArray := prog_3_method_14_code
def yX1_term : MethodName := ⟨RX1, "term", "(I)V"⟩
abbrev cX1_one : ByteArray := prog_3_method_15_code
def yX1_one : MethodName := ⟨RX1, "one", "(I)V"⟩
abbrev cX1_next : ByteArray := prog_3_method_16_code
def yX1_next : MethodName := ⟨RX1, "next", "()V"⟩
abbrev cX1_word : ByteArray := prog_3_method_17_code
def yX1_word : MethodName := ⟨RX1, "word", "()V"⟩
abbrev cX1_number : ByteArray := prog_3_method_18_code
def yX1_number : MethodName := ⟨RX1, "number", "()V"⟩
abbrev cX1_mean : ByteArray := prog_3_method_19_code
def yX1_mean : MethodName := ⟨RX1, "mean", "(Ljava/lang/String;II)V"⟩
abbrev cX1_isLetter : ByteArray := prog_3_method_20_code
def yX1_isLetter : MethodName := ⟨RX1, "isLetter", "(I)Z"⟩
abbrev cX1_isDigit : ByteArray := prog_3_method_21_code
def yX1_isDigit : MethodName := ⟨RX1, "isDigit", "(I)Z"⟩
abbrev cX1_isSign : ByteArray := prog_3_method_22_code
def yX1_isSign : MethodName := ⟨RX1, "isSign", "(I)Z"⟩
def RX2 : String := "StonesChoose$Sheet"
def TX2 : u_T := fun k => match k with
  | 0 => ("StonesChoose$Sheet", "cells", "[I", true)
  | 1 => ("StonesChoose$Sheet", "sort", "I", false)
  | _ => ("StonesChoose$Sheet", "size", "I", false)
def tyX2 : Nat → FieldType := fun k => match k with
  | 0 => .array .int
  | 1 => .int
  | _ => .int
theorem nmX2 : ∀ a, a < 3 → ∀ b, b < 3 → a ≠ b → (TX2 a).2.1 ≠ (TX2 b).2.1 := by decide +kernel
theorem tyX2_ok : ∀ k, k < 3 → parseFieldDescriptor (TX2 k).2.2.1 = some (tyX2 k) := by decide +kernel
abbrev cX2_init : ByteArray := prog_4_method_1_code
def yX2_init : MethodName := ⟨RX2, "<init>", "()V"⟩
abbrev cX2_isMissing : ByteArray := prog_4_method_2_code
def yX2_isMissing : MethodName := ⟨RX2, "isMissing", "()Z"⟩
abbrev cX2_become : ByteArray := prog_4_method_3_code
def yX2_become : MethodName := ⟨RX2, "become", "(II)V"⟩
abbrev cX2_write : ByteArray := prog_4_method_4_code
def yX2_write : MethodName := ⟨RX2, "write", "(II)V"⟩
def RX3 : String := "StonesChoose$Text"
def TX3 : u_T := fun k => match k with
  | 0 => ("StonesChoose$Text", "number", "I", true)
  | 1 => ("StonesChoose$Text", "code", "[I", true)
  | 2 => ("StonesChoose$Text", "starts", "[I", true)
  | _ => ("StonesChoose$Text", "stack", "[I", true)
def tyX3 : Nat → FieldType := fun k => match k with
  | 0 => .int
  | 1 => .array .int
  | 2 => .array .int
  | _ => .array .int
theorem nmX3 : ∀ a, a < 4 → ∀ b, b < 4 → a ≠ b → (TX3 a).2.1 ≠ (TX3 b).2.1 := by decide +kernel
theorem tyX3_ok : ∀ k, k < 4 → parseFieldDescriptor (TX3 k).2.2.1 = some (tyX3 k) := by decide +kernel
abbrev cX3_init : ByteArray := prog_5_method_1_code
def yX3_init : MethodName := ⟨RX3, "<init>", "(I[I[I)V"⟩
abbrev cX3_value : ByteArray := prog_5_method_2_code
def yX3_value : MethodName := ⟨RX3, "value", "(I[I)I"⟩
def RX4 : String := "StonesChoose$World"
def TX4 : u_T := fun k => match k with
  | 0 => ("StonesChoose$World", "choice", "LStonesChoose$Choice;", true)
  | 1 => ("StonesChoose$World", "place", "[I", true)
  | 2 => ("StonesChoose$World", "vain", "[I", true)
  | 3 => ("StonesChoose$World", "built", "[I", true)
  | 4 => ("StonesChoose$World", "kind", "[I", true)
  | 5 => ("StonesChoose$World", "more", "[I", true)
  | 6 => ("StonesChoose$World", "at", "[I", true)
  | 7 => ("StonesChoose$World", "weight", "[I", true)
  | 8 => ("StonesChoose$World", "names", "[I", true)
  | 9 => ("StonesChoose$World", "yearNow", "I", false)
  | _ => ("StonesChoose$World", "law", "LStonesChoose$Text;", false)
def tyX4 : Nat → FieldType := fun k => match k with
  | 0 => .object "StonesChoose$Choice"
  | 1 => .array .int
  | 2 => .array .int
  | 3 => .array .int
  | 4 => .array .int
  | 5 => .array .int
  | 6 => .array .int
  | 7 => .array .int
  | 8 => .array .int
  | 9 => .int
  | _ => .object "StonesChoose$Text"
theorem nmX4 : ∀ a, a < 11 → ∀ b, b < 11 → a ≠ b → (TX4 a).2.1 ≠ (TX4 b).2.1 := by decide +kernel
theorem tyX4_ok : ∀ k, k < 11 → parseFieldDescriptor (TX4 k).2.2.1 = some (tyX4 k) := by decide +kernel
abbrev cX4_init : ByteArray := prog_6_method_1_code
def yX4_init : MethodName := ⟨RX4, "<init>", "(LStonesChoose$Text;)V"⟩
abbrev cX4_copyFrom : ByteArray := prog_6_method_2_code
def yX4_copyFrom : MethodName := ⟨RX4, "copyFrom", "(LStonesChoose$World;)V"⟩
abbrev cX4_add : ByteArray := prog_6_method_3_code
def yX4_add : MethodName := ⟨RX4, "add", "(III)I"⟩
abbrev cX4_lay : ByteArray := prog_6_method_4_code
def yX4_lay : MethodName := ⟨RX4, "lay", "(II)V"⟩
abbrev cX4_move : ByteArray := prog_6_method_5_code
def yX4_move : MethodName := ⟨RX4, "move", "(II)V"⟩
abbrev cX4_says : ByteArray := prog_6_method_6_code
def yX4_says : MethodName := ⟨RX4, "says", "(III)I"⟩
abbrev cX4_likes : ByteArray := prog_6_method_7_code
def yX4_likes : MethodName := ⟨RX4, "likes", "(II)I"⟩
abbrev cX4_wants : ByteArray := prog_6_method_8_code
def yX4_wants : MethodName := ⟨RX4, "wants", "(II)I"⟩
abbrev cX4_goes : ByteArray := prog_6_method_9_code
def yX4_goes : MethodName := ⟨RX4, "goes", "(I)I"⟩
abbrev cX4_tellAll : ByteArray := prog_6_method_10_code
def yX4_tellAll : MethodName := ⟨RX4, "tellAll", "()V"⟩
abbrev cX4_wish : ByteArray := prog_6_method_11_code
def yX4_wish : MethodName := ⟨RX4, "wish", "(I)I"⟩
abbrev cX4_passYear : ByteArray := prog_6_method_12_code
def yX4_passYear : MethodName := ⟨RX4, "passYear", "()I"⟩
abbrev cX4_goTo : ByteArray := prog_6_method_13_code
def yX4_goTo : MethodName := ⟨RX4, "goTo", "(II)Z"⟩
def RX5 : String := "StonesChoose"
def TX5 : u_T := fun k => match k with
  | 0 => ("StonesChoose", "reader", "LStonesChoose$Reader;", true)
  | 1 => ("StonesChoose", "texts", "[LStonesChoose$Text;", true)
  | 2 => ("StonesChoose", "textsMade", "I", false)
  | 3 => ("StonesChoose", "now", "LStonesChoose$World;", true)
  | 4 => ("StonesChoose", "thought", "LStonesChoose$World;", true)
  | 5 => ("StonesChoose", "kept", "LStonesChoose$World;", true)
  | 6 => ("StonesChoose", "isKept", "Z", false)
  | _ => ("StonesChoose", "sheets", "[LStonesChoose$Sheet;", true)
def tyX5 : Nat → FieldType := fun k => match k with
  | 0 => .object "StonesChoose$Reader"
  | 1 => .array (.object "StonesChoose$Text")
  | 2 => .int
  | 3 => .object "StonesChoose$World"
  | 4 => .object "StonesChoose$World"
  | 5 => .object "StonesChoose$World"
  | 6 => .boolean
  | _ => .array (.object "StonesChoose$Sheet")
theorem nmX5 : ∀ a, a < 8 → ∀ b, b < 8 → a ≠ b → (TX5 a).2.1 ≠ (TX5 b).2.1 := by decide +kernel
theorem tyX5_ok : ∀ k, k < 8 → parseFieldDescriptor (TX5 k).2.2.1 = some (tyX5 k) := by decide +kernel
abbrev cX5_init : ByteArray := prog_1_method_1_code
def yX5_init : MethodName := ⟨RX5, "<init>", "()V"⟩
abbrev cX5_count : ByteArray := prog_1_method_2_code
def yX5_count : MethodName := ⟨RX5, "count", "(I)I"⟩
abbrev cX5_dawn : ByteArray := prog_1_method_3_code
def yX5_dawn : MethodName := ⟨RX5, "dawn", "(I)I"⟩
abbrev cX5_build : ByteArray := prog_1_method_4_code
def yX5_build : MethodName := ⟨RX5, "build", "(III)I"⟩
abbrev cX5_site : ByteArray := prog_1_method_5_code
def yX5_site : MethodName := ⟨RX5, "site", "(II)I"⟩
abbrev cX5_feed : ByteArray := prog_1_method_6_code
def yX5_feed : MethodName := ⟨RX5, "feed", "(IIIIII)I"⟩
abbrev cX5_text : ByteArray := prog_1_method_7_code
def yX5_text : MethodName := ⟨RX5, "text", "()I"⟩
abbrev cX5_force : ByteArray := prog_1_method_8_code
def yX5_force : MethodName := ⟨RX5, "force", "(I)I"⟩
abbrev cX5_asks : ByteArray := prog_1_method_9_code
def yX5_asks : MethodName := ⟨RX5, "asks", "(III)I"⟩
abbrev cX5_stone : ByteArray := prog_1_method_10_code
def yX5_stone : MethodName := ⟨RX5, "stone", "(III)I"⟩
abbrev cX5_put : ByteArray := prog_1_method_11_code
def yX5_put : MethodName := ⟨RX5, "put", "(III)I"⟩
abbrev cX5_told : ByteArray := prog_1_method_12_code
def yX5_told : MethodName := ⟨RX5, "told", "(II)I"⟩
abbrev cX5_love : ByteArray := prog_1_method_13_code
def yX5_love : MethodName := ⟨RX5, "love", "(III)I"⟩
abbrev cX5_year : ByteArray := prog_1_method_14_code
def yX5_year : MethodName := ⟨RX5, "year", "()I"⟩
abbrev cX5_run : ByteArray := prog_1_method_15_code
def yX5_run : MethodName := ⟨RX5, "run", "(II)I"⟩
abbrev cX5_when : ByteArray := prog_1_method_16_code
def yX5_when : MethodName := ⟨RX5, "when", "(II)I"⟩
abbrev cX5_peace : ByteArray := prog_1_method_17_code
def yX5_peace : MethodName := ⟨RX5, "peace", "(I)I"⟩
abbrev cX5_court : ByteArray := prog_1_method_18_code
def yX5_court : MethodName := ⟨RX5, "court", "(I)I"⟩
abbrev cX5_all : ByteArray := prog_1_method_19_code
def yX5_all : MethodName := ⟨RX5, "all", "(I)I"⟩
abbrev cX5_annex : ByteArray := prog_1_method_20_code
def yX5_annex : MethodName := ⟨RX5, "annex", "(I)I"⟩
abbrev cX5_cart : ByteArray := prog_1_method_21_code
def yX5_cart : MethodName := ⟨RX5, "cart", "(II)I"⟩
abbrev cX5_share : ByteArray := prog_1_method_22_code
def yX5_share : MethodName := ⟨RX5, "share", "(I)J"⟩
abbrev cX5_judge : ByteArray := prog_1_method_23_code
def yX5_judge : MethodName := ⟨RX5, "judge", "(II)I"⟩
abbrev cX5_kinds : ByteArray := prog_1_method_24_code
def yX5_kinds : MethodName := ⟨RX5, "kinds", "(III)I"⟩
abbrev cX5_states : ByteArray := prog_1_method_25_code
def yX5_states : MethodName := ⟨RX5, "states", "(IIII)I"⟩
abbrev cX5_whose : ByteArray := prog_1_method_26_code
def yX5_whose : MethodName := ⟨RX5, "whose", "(I)I"⟩
abbrev cX5_laws : ByteArray := prog_1_method_27_code
def yX5_laws : MethodName := ⟨RX5, "laws", "(II)I"⟩
abbrev cX5_film : ByteArray := prog_1_method_28_code
def yX5_film : MethodName := ⟨RX5, "film", "(III)I"⟩
abbrev cX5_drawn : ByteArray := prog_1_method_29_code
def yX5_drawn : MethodName := ⟨RX5, "drawn", "(II)I"⟩
abbrev cX5_odds : ByteArray := prog_1_method_30_code
def yX5_odds : MethodName := ⟨RX5, "odds", "(IIII)J"⟩
abbrev cX5_image : ByteArray := prog_1_method_31_code
def yX5_image : MethodName := ⟨RX5, "image", "()I"⟩
abbrev cX5_back : ByteArray := prog_1_method_32_code
def yX5_back : MethodName := ⟨RX5, "back", "()I"⟩
abbrev cX5_sheet : ByteArray := prog_1_method_33_code
def yX5_sheet : MethodName := ⟨RX5, "sheet", "(III)I"⟩
abbrev cX5_cell : ByteArray := prog_1_method_34_code
def yX5_cell : MethodName := ⟨RX5, "cell", "(III)I"⟩
abbrev cX5_copy : ByteArray := prog_1_method_35_code
def yX5_copy : MethodName := ⟨RX5, "copy", "(IIIII)I"⟩
abbrev cX5_stonesBy : ByteArray := prog_1_method_36_code
def yX5_stonesBy : MethodName := ⟨RX5, "stonesBy", "(IIII)I"⟩
abbrev cX5_taken : ByteArray := prog_1_method_37_code
def yX5_taken : MethodName := ⟨RX5, "taken", "(II)I"⟩
abbrev cX5_isStone : ByteArray := prog_1_method_38_code
def yX5_isStone : MethodName := ⟨RX5, "isStone", "(I)Z"⟩
abbrev cX5_isBuilding : ByteArray := prog_1_method_39_code
def yX5_isBuilding : MethodName := ⟨RX5, "isBuilding", "(I)Z"⟩
abbrev cX5_orNone : ByteArray := prog_1_method_40_code
def yX5_orNone : MethodName := ⟨RX5, "orNone", "(I)I"⟩
abbrev cX5_isSheet : ByteArray := prog_1_method_41_code
def yX5_isSheet : MethodName := ⟨RX5, "isSheet", "(I)Z"⟩
abbrev cX5_isByte : ByteArray := prog_1_method_42_code
def yX5_isByte : MethodName := ⟨RX5, "isByte", "(I)Z"⟩
abbrev cX5_isOfKind : ByteArray := prog_1_method_43_code
def yX5_isOfKind : MethodName := ⟨RX5, "isOfKind", "(II)Z"⟩
abbrev cX5_refusalOfTold : ByteArray := prog_1_method_44_code
def yX5_refusalOfTold : MethodName := ⟨RX5, "refusalOfTold", "(I)I"⟩
abbrev cX5_firstOtherwise : ByteArray := prog_1_method_45_code
def yX5_firstOtherwise : MethodName := ⟨RX5, "firstOtherwise", "(II)I"⟩
abbrev cX5_yearsTillIn : ByteArray := prog_1_method_46_code
def yX5_yearsTillIn : MethodName := ⟨RX5, "yearsTillIn", "(III)I"⟩
abbrev cX5_passWeather : ByteArray := prog_1_method_47_code
def yX5_passWeather : MethodName := ⟨RX5, "passWeather", "(I)V"⟩
abbrev cX5_inLowestTerms : ByteArray := prog_1_method_48_code
def yX5_inLowestTerms : MethodName := ⟨RX5, "inLowestTerms", "(III)J"⟩
def RX6 : String := "StonesChooseModel"
def TX6 : u_T := fun k => match k with
  | 0 => ("StonesChooseModel", "stones", "I", false)
  | 1 => ("StonesChooseModel", "kind", "[I", true)
  | 2 => ("StonesChooseModel", "moreOf", "[I", true)
  | 3 => ("StonesChooseModel", "sites", "[I", true)
  | 4 => ("StonesChooseModel", "rows", "[I", true)
  | 5 => ("StonesChooseModel", "years", "I", false)
  | 6 => ("StonesChooseModel", "tape", "[I", true)
  | 7 => ("StonesChooseModel", "taped", "I", false)
  | 8 => ("StonesChooseModel", "codes", "[I", true)
  | 9 => ("StonesChooseModel", "starts", "[I", true)
  | 10 => ("StonesChooseModel", "texts", "I", false)
  | 11 => ("StonesChooseModel", "rule", "I", false)
  | 12 => ("StonesChooseModel", "hasImage", "Z", false)
  | 13 => ("StonesChooseModel", "imageRows", "[I", true)
  | 14 => ("StonesChooseModel", "imageHeld", "[I", true)
  | 15 => ("StonesChooseModel", "sheetSort", "[I", true)
  | 16 => ("StonesChooseModel", "sheetSize", "[I", true)
  | 17 => ("StonesChooseModel", "cells", "[I", true)
  | 18 => ("StonesChooseModel", "law", "[I", true)
  | 19 => ("StonesChooseModel", "at", "I", false)
  | 20 => ("StonesChooseModel", "begun", "I", false)
  | 21 => ("StonesChooseModel", "token", "I", false)
  | 22 => ("StonesChooseModel", "value", "I", false)
  | 23 => ("StonesChooseModel", "words", "[I", true)
  | 24 => ("StonesChooseModel", "held", "[I", true)
  | 25 => ("StonesChooseModel", "heldMany", "I", false)
  | 26 => ("StonesChooseModel", "opens", "I", false)
  | 27 => ("StonesChooseModel", "out", "I", false)
  | 28 => ("StonesChooseModel", "stack", "[I", true)
  | 29 => ("StonesChooseModel", "named", "[I", true)
  | 30 => ("StonesChooseModel", "kept", "[I", true)
  | 31 => ("StonesChooseModel", "likes", "[I", true)
  | 32 => ("StonesChooseModel", "wants", "[I", true)
  | 33 => ("StonesChooseModel", "sits", "[I", true)
  | 34 => ("StonesChooseModel", "sent", "[I", true)
  | 35 => ("StonesChooseModel", "ways", "[I", true)
  | _ => ("StonesChooseModel", "outThen", "I", false)
def tyX6 : Nat → FieldType := fun k => match k with
  | 0 => .int
  | 1 => .array .int
  | 2 => .array .int
  | 3 => .array .int
  | 4 => .array .int
  | 5 => .int
  | 6 => .array .int
  | 7 => .int
  | 8 => .array .int
  | 9 => .array .int
  | 10 => .int
  | 11 => .int
  | 12 => .boolean
  | 13 => .array .int
  | 14 => .array .int
  | 15 => .array .int
  | 16 => .array .int
  | 17 => .array .int
  | 18 => .array .int
  | 19 => .int
  | 20 => .int
  | 21 => .int
  | 22 => .int
  | 23 => .array .int
  | 24 => .array .int
  | 25 => .int
  | 26 => .int
  | 27 => .int
  | 28 => .array .int
  | 29 => .array .int
  | 30 => .array .int
  | 31 => .array .int
  | 32 => .array .int
  | 33 => .array .int
  | 34 => .array .int
  | 35 => .array .int
  | _ => .int
theorem nmX6 : ∀ a, a < 37 → ∀ b, b < 37 → a ≠ b → (TX6 a).2.1 ≠ (TX6 b).2.1 := by decide +kernel
theorem tyX6_ok : ∀ k, k < 37 → parseFieldDescriptor (TX6 k).2.2.1 = some (tyX6 k) := by decide +kernel
abbrev cX6_init : ByteArray := prog_8_method_1_code
def yX6_init : MethodName := ⟨RX6, "<init>", "()V"⟩
abbrev cX6_in : ByteArray := prog_8_method_3_code
def yX6_in : MethodName := ⟨RX6, "in", "(III)Z"⟩
abbrev cX6_within : ByteArray := prog_8_method_4_code
def yX6_within : MethodName := ⟨RX6, "within", "(III)I"⟩
abbrev cX6_isStone : ByteArray := prog_8_method_5_code
def yX6_isStone : MethodName := ⟨RX6, "isStone", "(I)Z"⟩
abbrev cX6_isSite : ByteArray := prog_8_method_6_code
def yX6_isSite : MethodName := ⟨RX6, "isSite", "(I)Z"⟩
abbrev cX6_outside : ByteArray := prog_8_method_7_code
def yX6_outside : MethodName := ⟨RX6, "outside", "()I"⟩
abbrev cX6_whoIn : ByteArray := prog_8_method_8_code
def yX6_whoIn : MethodName := ⟨RX6, "whoIn", "(I)I"⟩
abbrev cX6_onesOf : ByteArray := prog_8_method_9_code
def yX6_onesOf : MethodName := ⟨RX6, "onesOf", "(I)I"⟩
abbrev cX6_count : ByteArray := prog_8_method_10_code
def yX6_count : MethodName := ⟨RX6, "count", "(I)I"⟩
abbrev cX6_dawn : ByteArray := prog_8_method_11_code
def yX6_dawn : MethodName := ⟨RX6, "dawn", "(I)I"⟩
abbrev cX6_build : ByteArray := prog_8_method_12_code
def yX6_build : MethodName := ⟨RX6, "build", "(III)I"⟩
abbrev cX6_site : ByteArray := prog_8_method_13_code
def yX6_site : MethodName := ⟨RX6, "site", "(II)I"⟩
abbrev cX6_isByte : ByteArray := prog_8_method_14_code
def yX6_isByte : MethodName := ⟨RX6, "isByte", "(I)Z"⟩
abbrev cX6_feed : ByteArray := prog_8_method_15_code
def yX6_feed : MethodName := ⟨RX6, "feed", "(IIIIII)I"⟩
abbrev cX6_wordFrom : ByteArray := prog_8_method_16_code
def yX6_wordFrom : MethodName := ⟨RX6, "wordFrom", "(II)I"⟩
abbrev cX6_next : ByteArray := prog_8_method_17_code
def yX6_next : MethodName := ⟨RX6, "next", "()V"⟩
abbrev cX6_rank : ByteArray := prog_8_method_18_code
def yX6_rank : MethodName := ⟨RX6, "rank", "(I)I"⟩
abbrev cX6_puts : ByteArray := prog_8_method_19_code
def yX6_puts : MethodName := ⟨RX6, "puts", "(I)V"⟩
abbrev cX6_unwinds : ByteArray := prog_8_method_20_code
def yX6_unwinds : MethodName := ⟨RX6, "unwinds", "(I)V"⟩
abbrev cX6_holds : ByteArray := prog_8_method_21_code
def yX6_holds : MethodName := ⟨RX6, "holds", "(I)V"⟩
abbrev cX6_opensOne : ByteArray := prog_8_method_22_code
def yX6_opensOne : MethodName := ⟨RX6, "opensOne", "(I)Z"⟩
abbrev cX6_between : ByteArray := prog_8_method_23_code
def yX6_between : MethodName := ⟨RX6, "between", "(I)Z"⟩
abbrev cX6_signOf : ByteArray := prog_8_method_24_code
def yX6_signOf : MethodName := ⟨RX6, "signOf", "()I"⟩
abbrev cX6_eRead : ByteArray := prog_8_method_25_code
def yX6_eRead : MethodName := ⟨RX6, "eRead", "()Z"⟩
abbrev cX6_text : ByteArray := prog_8_method_26_code
def yX6_text : MethodName := ⟨RX6, "text", "()I"⟩
abbrev cX6_two : ByteArray := prog_8_method_27_code
def yX6_two : MethodName := ⟨RX6, "two", "(III)I"⟩
abbrev cX6_says : ByteArray := prog_8_method_28_code
def yX6_says : MethodName := ⟨RX6, "says", "(I)I"⟩
abbrev cX6_force : ByteArray := prog_8_method_29_code
def yX6_force : MethodName := ⟨RX6, "force", "(I)I"⟩
abbrev cX6_asksOf : ByteArray := prog_8_method_30_code
def yX6_asksOf : MethodName := ⟨RX6, "asksOf", "(III)I"⟩
abbrev cX6_asks : ByteArray := prog_8_method_31_code
def yX6_asks : MethodName := ⟨RX6, "asks", "(III)I"⟩
abbrev cX6_stone : ByteArray := prog_8_method_32_code
def yX6_stone : MethodName := ⟨RX6, "stone", "(III)I"⟩
abbrev cX6_put : ByteArray := prog_8_method_33_code
def yX6_put : MethodName := ⟨RX6, "put", "(III)I"⟩
abbrev cX6_likesOf : ByteArray := prog_8_method_34_code
def yX6_likesOf : MethodName := ⟨RX6, "likesOf", "(II)I"⟩
abbrev cX6_wantedOf : ByteArray := prog_8_method_35_code
def yX6_wantedOf : MethodName := ⟨RX6, "wantedOf", "(II)I"⟩
abbrev cX6_goesOf : ByteArray := prog_8_method_36_code
def yX6_goesOf : MethodName := ⟨RX6, "goesOf", "(I)I"⟩
abbrev cX6_wishOf : ByteArray := prog_8_method_37_code
def yX6_wishOf : MethodName := ⟨RX6, "wishOf", "(I)I"⟩
abbrev cX6_told : ByteArray := prog_8_method_38_code
def yX6_told : MethodName := ⟨RX6, "told", "(II)I"⟩
abbrev cX6_love : ByteArray := prog_8_method_39_code
def yX6_love : MethodName := ⟨RX6, "love", "(III)I"⟩
abbrev cX6_lastIn : ByteArray := prog_8_method_40_code
def yX6_lastIn : MethodName := ⟨RX6, "lastIn", "(I)I"⟩
abbrev cX6_isFullSite : ByteArray := prog_8_method_41_code
def yX6_isFullSite : MethodName := ⟨RX6, "isFullSite", "(I)Z"⟩
abbrev cX6_doesTake : ByteArray := prog_8_method_42_code
def yX6_doesTake : MethodName := ⟨RX6, "doesTake", "(II)Z"⟩
abbrev cX6_turnOf : ByteArray := prog_8_method_43_code
def yX6_turnOf : MethodName := ⟨RX6, "turnOf", "(I)Z"⟩
abbrev cX6_yearOf : ByteArray := prog_8_method_44_code
def yX6_yearOf : MethodName := ⟨RX6, "yearOf", "()I"⟩
abbrev cX6_year : ByteArray := prog_8_method_45_code
def yX6_year : MethodName := ⟨RX6, "year", "()I"⟩
abbrev cX6_digitsNow : ByteArray := prog_8_method_46_code
def yX6_digitsNow : MethodName := ⟨RX6, "digitsNow", "()I"⟩
abbrev cX6_keeps : ByteArray := prog_8_method_47_code
def yX6_keeps : MethodName := ⟨RX6, "keeps", "()V"⟩
abbrev cX6_lays : ByteArray := prog_8_method_48_code
def yX6_lays : MethodName := ⟨RX6, "lays", "()V"⟩
abbrev cX6_run : ByteArray := prog_8_method_49_code
def yX6_run : MethodName := ⟨RX6, "run", "(II)I"⟩
abbrev cX6_whenIn : ByteArray := prog_8_method_50_code
def yX6_whenIn : MethodName := ⟨RX6, "whenIn", "(II)I"⟩
abbrev cX6_when : ByteArray := prog_8_method_51_code
def yX6_when : MethodName := ⟨RX6, "when", "(II)I"⟩
abbrev cX6_tellsAll : ByteArray := prog_8_method_52_code
def yX6_tellsAll : MethodName := ⟨RX6, "tellsAll", "()V"⟩
abbrev cX6_sitting : ByteArray := prog_8_method_53_code
def yX6_sitting : MethodName := ⟨RX6, "sitting", "(I)I"⟩
abbrev cX6_lastSitting : ByteArray := prog_8_method_54_code
def yX6_lastSitting : MethodName := ⟨RX6, "lastSitting", "(I)I"⟩
abbrev cX6_wouldTake : ByteArray := prog_8_method_55_code
def yX6_wouldTake : MethodName := ⟨RX6, "wouldTake", "(II)Z"⟩
abbrev cX6_wouldRather : ByteArray := prog_8_method_56_code
def yX6_wouldRather : MethodName := ⟨RX6, "wouldRather", "(II)Z"⟩
abbrev cX6_against : ByteArray := prog_8_method_57_code
def yX6_against : MethodName := ⟨RX6, "against", "()I"⟩
abbrev cX6_sumOf : ByteArray := prog_8_method_58_code
def yX6_sumOf : MethodName := ⟨RX6, "sumOf", "(I)I"⟩
abbrev cX6_sittingDigits : ByteArray := prog_8_method_59_code
def yX6_sittingDigits : MethodName := ⟨RX6, "sittingDigits", "()I"⟩
abbrev cX6_peace : ByteArray := prog_8_method_60_code
def yX6_peace : MethodName := ⟨RX6, "peace", "(I)I"⟩
abbrev cX6_nextAsked : ByteArray := prog_8_method_61_code
def yX6_nextAsked : MethodName := ⟨RX6, "nextAsked", "(I)I"⟩
abbrev cX6_asksOne : ByteArray := prog_8_method_62_code
def yX6_asksOne : MethodName := ⟨RX6, "asksOne", "(I)Z"⟩
abbrev cX6_courts : ByteArray := prog_8_method_63_code
def yX6_courts : MethodName := ⟨RX6, "courts", "()V"⟩
abbrev cX6_court : ByteArray := prog_8_method_64_code
def yX6_court : MethodName := ⟨RX6, "court", "(I)I"⟩
abbrev cX6_sitsBy : ByteArray := prog_8_method_65_code
def yX6_sitsBy : MethodName := ⟨RX6, "sitsBy", "(I)Z"⟩
abbrev cX6_tellsWays : ByteArray := prog_8_method_66_code
def yX6_tellsWays : MethodName := ⟨RX6, "tellsWays", "()V"⟩
abbrev cX6_all : ByteArray := prog_8_method_67_code
def yX6_all : MethodName := ⟨RX6, "all", "(I)I"⟩
abbrev cX6_annex : ByteArray := prog_8_method_68_code
def yX6_annex : MethodName := ⟨RX6, "annex", "(I)I"⟩
abbrev cX6_cart : ByteArray := prog_8_method_69_code
def yX6_cart : MethodName := ⟨RX6, "cart", "(II)I"⟩
abbrev cX6_lowest : ByteArray := prog_8_method_70_code
def yX6_lowest : MethodName := ⟨RX6, "lowest", "(JJI)J"⟩
abbrev cX6_share : ByteArray := prog_8_method_71_code
def yX6_share : MethodName := ⟨RX6, "share", "(I)J"⟩
abbrev cX6_sheetWrong : ByteArray := prog_8_method_72_code
def yX6_sheetWrong : MethodName := ⟨RX6, "sheetWrong", "(I)I"⟩
abbrev cX6_toldWrong : ByteArray := prog_8_method_73_code
def yX6_toldWrong : MethodName := ⟨RX6, "toldWrong", "(II)I"⟩
abbrev cX6_unlike : ByteArray := prog_8_method_74_code
def yX6_unlike : MethodName := ⟨RX6, "unlike", "(II)I"⟩
abbrev cX6_judge : ByteArray := prog_8_method_75_code
def yX6_judge : MethodName := ⟨RX6, "judge", "(II)I"⟩
abbrev cX6_kinds : ByteArray := prog_8_method_76_code
def yX6_kinds : MethodName := ⟨RX6, "kinds", "(III)I"⟩
abbrev cX6_states : ByteArray := prog_8_method_77_code
def yX6_states : MethodName := ⟨RX6, "states", "(IIII)I"⟩
abbrev cX6_whose : ByteArray := prog_8_method_78_code
def yX6_whose : MethodName := ⟨RX6, "whose", "(I)I"⟩
abbrev cX6_laws : ByteArray := prog_8_method_79_code
def yX6_laws : MethodName := ⟨RX6, "laws", "(II)I"⟩
abbrev cX6_film : ByteArray := prog_8_method_80_code
def yX6_film : MethodName := ⟨RX6, "film", "(III)I"⟩
abbrev cX6_weather : ByteArray := prog_8_method_81_code
def yX6_weather : MethodName := ⟨RX6, "weather", "(I)I"⟩
abbrev cX6_drawn : ByteArray := prog_8_method_82_code
def yX6_drawn : MethodName := ⟨RX6, "drawn", "(II)I"⟩
abbrev cX6_odds : ByteArray := prog_8_method_83_code
def yX6_odds : MethodName := ⟨RX6, "odds", "(IIII)J"⟩
abbrev cX6_image : ByteArray := prog_8_method_84_code
def yX6_image : MethodName := ⟨RX6, "image", "()I"⟩
abbrev cX6_back : ByteArray := prog_8_method_85_code
def yX6_back : MethodName := ⟨RX6, "back", "()I"⟩
abbrev cX6_sheet : ByteArray := prog_8_method_86_code
def yX6_sheet : MethodName := ⟨RX6, "sheet", "(III)I"⟩
abbrev cX6_cell : ByteArray := prog_8_method_87_code
def yX6_cell : MethodName := ⟨RX6, "cell", "(III)I"⟩
abbrev cX6_copy : ByteArray := prog_8_method_88_code
def yX6_copy : MethodName := ⟨RX6, "copy", "(IIIII)I"⟩
abbrev cX6_stonesBy : ByteArray := prog_8_method_89_code
def yX6_stonesBy : MethodName := ⟨RX6, "stonesBy", "(IIII)I"⟩
abbrev cX6_isUnder : ByteArray := prog_8_method_90_code
def yX6_isUnder : MethodName := ⟨RX6, "isUnder", "(II)Z"⟩
abbrev cX6_taken : ByteArray := prog_8_method_91_code
def yX6_taken : MethodName := ⟨RX6, "taken", "(II)I"⟩
def RJ9 : String := "java/lang/Math"
def RJ0 : String := "java/lang/String"
abbrev cJ0_length_8abf5 : ByteArray := prog_11_method_54_code
def yJ0_length_8abf5 : MethodName := ⟨RJ0, "length", "()I"⟩
abbrev cJ0_charAt_5068e : ByteArray := prog_11_method_56_code
def yJ0_charAt_5068e : MethodName := ⟨RJ0, "charAt", "(I)C"⟩
abbrev cJ0_coder_7d493 : ByteArray := prog_11_method_152_code
def yJ0_coder_7d493 : MethodName := ⟨RJ0, "coder", "()B"⟩
abbrev cJ0_isLatin1_aae02 : ByteArray := prog_11_method_154_code
def yJ0_isLatin1_aae02 : MethodName := ⟨RJ0, "isLatin1", "()Z"⟩
abbrev cJ0_checkIndex_df160 : ByteArray := prog_11_method_155_code
def yJ0_checkIndex_df160 : MethodName := ⟨RJ0, "checkIndex", "(II)V"⟩
def RJ1 : String := "java/lang/StringLatin1"
abbrev cJ1_charAt_3b067 : ByteArray := prog_12_method_2_code
def yJ1_charAt_3b067 : MethodName := ⟨RJ1, "charAt", "([BI)C"⟩
def RJ3 : String := "jdk/internal/util/Preconditions"
abbrev cJ3_checkIndex_8e157 : ByteArray := prog_15_method_11_code
def yJ3_checkIndex_8e157 : MethodName := ⟨RJ3, "checkIndex", "(IILjava/util/function/BiFunction;)I"⟩
def RL : String := "StonesChooseLaw"
abbrev vwCl : List vw_C := [(RX0, TX0, 6), (RX1, TX1, 10), (RX2, TX2, 3), (RX3, TX3, 4), (RX4, TX4, 11), (RX5, TX5, 8), (RX6, TX6, 37)]
/-! THE TABLES: what the words link, by the class that asks (0 .. 6 the classes, 7 String, 8 StringLatin1, 9 Preconditions, 10 the law, 11 Math) -/
def q_Lw : List Cond := lw_tbl.filter goodWord
set_option maxRecDepth 100000 in
theorem q_lw {w : Cond} (i : Nat) (h : lw_tbl[i]? = some w) (hg : goodWord w = true) : w ∈ q_Lw := List.mem_filter.mpr ⟨List.mem_of_getElem? h, hg⟩
theorem q_lx {w : Cond} (h : w ∈ tables_1) (hg : goodWord w = true) : w ∈ q_Lw := List.mem_filter.mpr ⟨List.mem_append_right _ h, hg⟩
set_option maxRecDepth 100000 in
theorem q_goodLw {ws : List Cond} (h : ∀ w ∈ ws, w ∈ q_Lw) : GoodIn q_Lw ws := fun w hw => ⟨h w hw, good_of_word (List.mem_filter.mp (h w hw)).2⟩
set_option maxRecDepth 100000 in
theorem q_Lw_in : ∀ w ∈ q_Lw, w ∈ lw_tbl := fun w h => (List.mem_filter.mp h).1
def q_cls (ow : Nat) : String := match ow with
  | 0 => RX0
  | 1 => RX1
  | 2 => RX2
  | 3 => RX3
  | 4 => RX4
  | 5 => RX5
  | 6 => RX6
  | 7 => RJ0
  | 8 => RJ1
  | 9 => RJ3
  | 10 => RL
  | _ => RJ9
def q_Tf (k : Nat) : u_T := match k with
  | 0 => TX0
  | 1 => TX1
  | 2 => TX2
  | 3 => TX3
  | 4 => TX4
  | 5 => TX5
  | _ => TX6
def q_tyf (k : Nat) : Nat → FieldType := match k with
  | 0 => tyX0
  | 1 => tyX1
  | 2 => tyX2
  | 3 => tyX3
  | 4 => tyX4
  | 5 => tyX5
  | _ => tyX6
def q_mY (id : Nat) : MethodName := if id < 104 then (if id < 52 then (if id < 26 then (if id < 13 then (if id < 6 then (if id < 3 then (if id < 1 then (yX0_init) else (if id < 2 then (yX0_copyFrom) else (yX0_emptyAll))) else (if id < 4 then (yX0_inNone) else (if id < 5 then (yX0_housed) else (yX0_housedBits)))) else (if id < 9 then (if id < 7 then (yX0_digits) else (if id < 8 then (yX0_liked) else (yX0_wanted))) else (if id < 11 then (if id < 10 then (yX0_ratherBeIn) else (yX0_dearest)) else (if id < 12 then (yX0_ratherHave) else (yX0_last))))) else (if id < 19 then (if id < 16 then (if id < 14 then (yX0_takes) else (if id < 15 then (yX0_comeIn) else (yX0_askInTurn))) else (if id < 17 then (yX0_ask) else (if id < 18 then (yX0_complaint) else (yX0_fits)))) else (if id < 22 then (if id < 20 then (yX0_nextWay) else (if id < 21 then (yX1_init) else (yX1_clear))) else (if id < 24 then (if id < 23 then (yX1_take) else (yX1_read)) else (if id < 25 then (yX1_made) else (yX1_part)))))) else (if id < 39 then (if id < 32 then (if id < 29 then (if id < 27 then (yX1_expect) else (if id < 28 then (yX1_fail) else (yX1_emit))) else (if id < 30 then (yX1_either) else (if id < 31 then (yX1_both) else (yX1_not)))) else (if id < 35 then (if id < 33 then (yX1_sum) else (if id < 34 then (yX1_term) else (yX1_one))) else (if id < 37 then (if id < 36 then (yX1_next) else (yX1_word)) else (if id < 38 then (yX1_number) else (yX1_mean))))) else (if id < 45 then (if id < 42 then (if id < 40 then (yX1_isLetter) else (if id < 41 then (yX1_isDigit) else (yX1_isSign))) else (if id < 43 then (yX2_init) else (if id < 44 then (yX2_isMissing) else (yX2_become)))) else (if id < 48 then (if id < 46 then (yX2_write) else (if id < 47 then (yX3_init) else (yX3_value))) else (if id < 50 then (if id < 49 then (yX4_init) else (yX4_copyFrom)) else (if id < 51 then (yX4_add) else (yX4_lay))))))) else (if id < 78 then (if id < 65 then (if id < 58 then (if id < 55 then (if id < 53 then (yX4_move) else (if id < 54 then (yX4_says) else (yX4_likes))) else (if id < 56 then (yX4_wants) else (if id < 57 then (yX4_goes) else (yX4_tellAll)))) else (if id < 61 then (if id < 59 then (yX4_wish) else (if id < 60 then (yX4_passYear) else (yX4_goTo))) else (if id < 63 then (if id < 62 then (yX5_init) else (yX5_count)) else (if id < 64 then (yX5_dawn) else (yX5_build))))) else (if id < 71 then (if id < 68 then (if id < 66 then (yX5_site) else (if id < 67 then (yX5_feed) else (yX5_text))) else (if id < 69 then (yX5_force) else (if id < 70 then (yX5_asks) else (yX5_stone)))) else (if id < 74 then (if id < 72 then (yX5_put) else (if id < 73 then (yX5_told) else (yX5_love))) else (if id < 76 then (if id < 75 then (yX5_year) else (yX5_run)) else (if id < 77 then (yX5_when) else (yX5_peace)))))) else (if id < 91 then (if id < 84 then (if id < 81 then (if id < 79 then (yX5_court) else (if id < 80 then (yX5_all) else (yX5_annex))) else (if id < 82 then (yX5_cart) else (if id < 83 then (yX5_share) else (yX5_judge)))) else (if id < 87 then (if id < 85 then (yX5_kinds) else (if id < 86 then (yX5_states) else (yX5_whose))) else (if id < 89 then (if id < 88 then (yX5_laws) else (yX5_film)) else (if id < 90 then (yX5_drawn) else (yX5_odds))))) else (if id < 97 then (if id < 94 then (if id < 92 then (yX5_image) else (if id < 93 then (yX5_back) else (yX5_sheet))) else (if id < 95 then (yX5_cell) else (if id < 96 then (yX5_copy) else (yX5_stonesBy)))) else (if id < 100 then (if id < 98 then (yX5_taken) else (if id < 99 then (yX5_isStone) else (yX5_isBuilding))) else (if id < 102 then (if id < 101 then (yX5_orNone) else (yX5_isSheet)) else (if id < 103 then (yX5_isByte) else (yX5_isOfKind)))))))) else (if id < 156 then (if id < 130 then (if id < 117 then (if id < 110 then (if id < 107 then (if id < 105 then (yX5_refusalOfTold) else (if id < 106 then (yX5_firstOtherwise) else (yX5_yearsTillIn))) else (if id < 108 then (yX5_passWeather) else (if id < 109 then (yX5_inLowestTerms) else (yX6_init)))) else (if id < 113 then (if id < 111 then (yX6_in) else (if id < 112 then (yX6_within) else (yX6_isStone))) else (if id < 115 then (if id < 114 then (yX6_isSite) else (yX6_outside)) else (if id < 116 then (yX6_whoIn) else (yX6_onesOf))))) else (if id < 123 then (if id < 120 then (if id < 118 then (yX6_count) else (if id < 119 then (yX6_dawn) else (yX6_build))) else (if id < 121 then (yX6_site) else (if id < 122 then (yX6_isByte) else (yX6_feed)))) else (if id < 126 then (if id < 124 then (yX6_wordFrom) else (if id < 125 then (yX6_next) else (yX6_rank))) else (if id < 128 then (if id < 127 then (yX6_puts) else (yX6_unwinds)) else (if id < 129 then (yX6_holds) else (yX6_opensOne)))))) else (if id < 143 then (if id < 136 then (if id < 133 then (if id < 131 then (yX6_between) else (if id < 132 then (yX6_signOf) else (yX6_eRead))) else (if id < 134 then (yX6_text) else (if id < 135 then (yX6_two) else (yX6_says)))) else (if id < 139 then (if id < 137 then (yX6_force) else (if id < 138 then (yX6_asksOf) else (yX6_asks))) else (if id < 141 then (if id < 140 then (yX6_stone) else (yX6_put)) else (if id < 142 then (yX6_likesOf) else (yX6_wantedOf))))) else (if id < 149 then (if id < 146 then (if id < 144 then (yX6_goesOf) else (if id < 145 then (yX6_wishOf) else (yX6_told))) else (if id < 147 then (yX6_love) else (if id < 148 then (yX6_lastIn) else (yX6_isFullSite)))) else (if id < 152 then (if id < 150 then (yX6_doesTake) else (if id < 151 then (yX6_turnOf) else (yX6_yearOf))) else (if id < 154 then (if id < 153 then (yX6_year) else (yX6_digitsNow)) else (if id < 155 then (yX6_keeps) else (yX6_lays))))))) else (if id < 182 then (if id < 169 then (if id < 162 then (if id < 159 then (if id < 157 then (yX6_run) else (if id < 158 then (yX6_whenIn) else (yX6_when))) else (if id < 160 then (yX6_tellsAll) else (if id < 161 then (yX6_sitting) else (yX6_lastSitting)))) else (if id < 165 then (if id < 163 then (yX6_wouldTake) else (if id < 164 then (yX6_wouldRather) else (yX6_against))) else (if id < 167 then (if id < 166 then (yX6_sumOf) else (yX6_sittingDigits)) else (if id < 168 then (yX6_peace) else (yX6_nextAsked))))) else (if id < 175 then (if id < 172 then (if id < 170 then (yX6_asksOne) else (if id < 171 then (yX6_courts) else (yX6_court))) else (if id < 173 then (yX6_sitsBy) else (if id < 174 then (yX6_tellsWays) else (yX6_all)))) else (if id < 178 then (if id < 176 then (yX6_annex) else (if id < 177 then (yX6_cart) else (yX6_lowest))) else (if id < 180 then (if id < 179 then (yX6_share) else (yX6_sheetWrong)) else (if id < 181 then (yX6_toldWrong) else (yX6_unlike)))))) else (if id < 195 then (if id < 188 then (if id < 185 then (if id < 183 then (yX6_judge) else (if id < 184 then (yX6_kinds) else (yX6_states))) else (if id < 186 then (yX6_whose) else (if id < 187 then (yX6_laws) else (yX6_film)))) else (if id < 191 then (if id < 189 then (yX6_weather) else (if id < 190 then (yX6_drawn) else (yX6_odds))) else (if id < 193 then (if id < 192 then (yX6_image) else (yX6_back)) else (if id < 194 then (yX6_sheet) else (yX6_cell))))) else (if id < 202 then (if id < 198 then (if id < 196 then (yX6_copy) else (if id < 197 then (yX6_stonesBy) else (yX6_isUnder))) else (if id < 200 then (if id < 199 then (yX6_taken) else (yJ0_length_8abf5)) else (if id < 201 then (yJ0_charAt_5068e) else (yJ0_coder_7d493)))) else (if id < 205 then (if id < 203 then (yJ0_isLatin1_aae02) else (if id < 204 then (yJ1_charAt_3b067) else (yJ0_checkIndex_df160))) else (if id < 207 then (if id < 206 then (yJ3_checkIndex_8e157) else (Lib.Math.abs.name)) else (if id < 208 then (Lib.Math.max.name) else (Lib.Math.min.name))))))))
def q_mC (id : Nat) : ByteArray := if id < 104 then (if id < 52 then (if id < 26 then (if id < 13 then (if id < 6 then (if id < 3 then (if id < 1 then (cX0_init) else (if id < 2 then (cX0_copyFrom) else (cX0_emptyAll))) else (if id < 4 then (cX0_inNone) else (if id < 5 then (cX0_housed) else (cX0_housedBits)))) else (if id < 9 then (if id < 7 then (cX0_digits) else (if id < 8 then (cX0_liked) else (cX0_wanted))) else (if id < 11 then (if id < 10 then (cX0_ratherBeIn) else (cX0_dearest)) else (if id < 12 then (cX0_ratherHave) else (cX0_last))))) else (if id < 19 then (if id < 16 then (if id < 14 then (cX0_takes) else (if id < 15 then (cX0_comeIn) else (cX0_askInTurn))) else (if id < 17 then (cX0_ask) else (if id < 18 then (cX0_complaint) else (cX0_fits)))) else (if id < 22 then (if id < 20 then (cX0_nextWay) else (if id < 21 then (cX1_init) else (cX1_clear))) else (if id < 24 then (if id < 23 then (cX1_take) else (cX1_read)) else (if id < 25 then (cX1_made) else (cX1_part)))))) else (if id < 39 then (if id < 32 then (if id < 29 then (if id < 27 then (cX1_expect) else (if id < 28 then (cX1_fail) else (cX1_emit))) else (if id < 30 then (cX1_either) else (if id < 31 then (cX1_both) else (cX1_not)))) else (if id < 35 then (if id < 33 then (cX1_sum) else (if id < 34 then (cX1_term) else (cX1_one))) else (if id < 37 then (if id < 36 then (cX1_next) else (cX1_word)) else (if id < 38 then (cX1_number) else (cX1_mean))))) else (if id < 45 then (if id < 42 then (if id < 40 then (cX1_isLetter) else (if id < 41 then (cX1_isDigit) else (cX1_isSign))) else (if id < 43 then (cX2_init) else (if id < 44 then (cX2_isMissing) else (cX2_become)))) else (if id < 48 then (if id < 46 then (cX2_write) else (if id < 47 then (cX3_init) else (cX3_value))) else (if id < 50 then (if id < 49 then (cX4_init) else (cX4_copyFrom)) else (if id < 51 then (cX4_add) else (cX4_lay))))))) else (if id < 78 then (if id < 65 then (if id < 58 then (if id < 55 then (if id < 53 then (cX4_move) else (if id < 54 then (cX4_says) else (cX4_likes))) else (if id < 56 then (cX4_wants) else (if id < 57 then (cX4_goes) else (cX4_tellAll)))) else (if id < 61 then (if id < 59 then (cX4_wish) else (if id < 60 then (cX4_passYear) else (cX4_goTo))) else (if id < 63 then (if id < 62 then (cX5_init) else (cX5_count)) else (if id < 64 then (cX5_dawn) else (cX5_build))))) else (if id < 71 then (if id < 68 then (if id < 66 then (cX5_site) else (if id < 67 then (cX5_feed) else (cX5_text))) else (if id < 69 then (cX5_force) else (if id < 70 then (cX5_asks) else (cX5_stone)))) else (if id < 74 then (if id < 72 then (cX5_put) else (if id < 73 then (cX5_told) else (cX5_love))) else (if id < 76 then (if id < 75 then (cX5_year) else (cX5_run)) else (if id < 77 then (cX5_when) else (cX5_peace)))))) else (if id < 91 then (if id < 84 then (if id < 81 then (if id < 79 then (cX5_court) else (if id < 80 then (cX5_all) else (cX5_annex))) else (if id < 82 then (cX5_cart) else (if id < 83 then (cX5_share) else (cX5_judge)))) else (if id < 87 then (if id < 85 then (cX5_kinds) else (if id < 86 then (cX5_states) else (cX5_whose))) else (if id < 89 then (if id < 88 then (cX5_laws) else (cX5_film)) else (if id < 90 then (cX5_drawn) else (cX5_odds))))) else (if id < 97 then (if id < 94 then (if id < 92 then (cX5_image) else (if id < 93 then (cX5_back) else (cX5_sheet))) else (if id < 95 then (cX5_cell) else (if id < 96 then (cX5_copy) else (cX5_stonesBy)))) else (if id < 100 then (if id < 98 then (cX5_taken) else (if id < 99 then (cX5_isStone) else (cX5_isBuilding))) else (if id < 102 then (if id < 101 then (cX5_orNone) else (cX5_isSheet)) else (if id < 103 then (cX5_isByte) else (cX5_isOfKind)))))))) else (if id < 156 then (if id < 130 then (if id < 117 then (if id < 110 then (if id < 107 then (if id < 105 then (cX5_refusalOfTold) else (if id < 106 then (cX5_firstOtherwise) else (cX5_yearsTillIn))) else (if id < 108 then (cX5_passWeather) else (if id < 109 then (cX5_inLowestTerms) else (cX6_init)))) else (if id < 113 then (if id < 111 then (cX6_in) else (if id < 112 then (cX6_within) else (cX6_isStone))) else (if id < 115 then (if id < 114 then (cX6_isSite) else (cX6_outside)) else (if id < 116 then (cX6_whoIn) else (cX6_onesOf))))) else (if id < 123 then (if id < 120 then (if id < 118 then (cX6_count) else (if id < 119 then (cX6_dawn) else (cX6_build))) else (if id < 121 then (cX6_site) else (if id < 122 then (cX6_isByte) else (cX6_feed)))) else (if id < 126 then (if id < 124 then (cX6_wordFrom) else (if id < 125 then (cX6_next) else (cX6_rank))) else (if id < 128 then (if id < 127 then (cX6_puts) else (cX6_unwinds)) else (if id < 129 then (cX6_holds) else (cX6_opensOne)))))) else (if id < 143 then (if id < 136 then (if id < 133 then (if id < 131 then (cX6_between) else (if id < 132 then (cX6_signOf) else (cX6_eRead))) else (if id < 134 then (cX6_text) else (if id < 135 then (cX6_two) else (cX6_says)))) else (if id < 139 then (if id < 137 then (cX6_force) else (if id < 138 then (cX6_asksOf) else (cX6_asks))) else (if id < 141 then (if id < 140 then (cX6_stone) else (cX6_put)) else (if id < 142 then (cX6_likesOf) else (cX6_wantedOf))))) else (if id < 149 then (if id < 146 then (if id < 144 then (cX6_goesOf) else (if id < 145 then (cX6_wishOf) else (cX6_told))) else (if id < 147 then (cX6_love) else (if id < 148 then (cX6_lastIn) else (cX6_isFullSite)))) else (if id < 152 then (if id < 150 then (cX6_doesTake) else (if id < 151 then (cX6_turnOf) else (cX6_yearOf))) else (if id < 154 then (if id < 153 then (cX6_year) else (cX6_digitsNow)) else (if id < 155 then (cX6_keeps) else (cX6_lays))))))) else (if id < 182 then (if id < 169 then (if id < 162 then (if id < 159 then (if id < 157 then (cX6_run) else (if id < 158 then (cX6_whenIn) else (cX6_when))) else (if id < 160 then (cX6_tellsAll) else (if id < 161 then (cX6_sitting) else (cX6_lastSitting)))) else (if id < 165 then (if id < 163 then (cX6_wouldTake) else (if id < 164 then (cX6_wouldRather) else (cX6_against))) else (if id < 167 then (if id < 166 then (cX6_sumOf) else (cX6_sittingDigits)) else (if id < 168 then (cX6_peace) else (cX6_nextAsked))))) else (if id < 175 then (if id < 172 then (if id < 170 then (cX6_asksOne) else (if id < 171 then (cX6_courts) else (cX6_court))) else (if id < 173 then (cX6_sitsBy) else (if id < 174 then (cX6_tellsWays) else (cX6_all)))) else (if id < 178 then (if id < 176 then (cX6_annex) else (if id < 177 then (cX6_cart) else (cX6_lowest))) else (if id < 180 then (if id < 179 then (cX6_share) else (cX6_sheetWrong)) else (if id < 181 then (cX6_toldWrong) else (cX6_unlike)))))) else (if id < 195 then (if id < 188 then (if id < 185 then (if id < 183 then (cX6_judge) else (if id < 184 then (cX6_kinds) else (cX6_states))) else (if id < 186 then (cX6_whose) else (if id < 187 then (cX6_laws) else (cX6_film)))) else (if id < 191 then (if id < 189 then (cX6_weather) else (if id < 190 then (cX6_drawn) else (cX6_odds))) else (if id < 193 then (if id < 192 then (cX6_image) else (cX6_back)) else (if id < 194 then (cX6_sheet) else (cX6_cell))))) else (if id < 202 then (if id < 198 then (if id < 196 then (cX6_copy) else (if id < 197 then (cX6_stonesBy) else (cX6_isUnder))) else (if id < 200 then (if id < 199 then (cX6_taken) else (cJ0_length_8abf5)) else (if id < 201 then (cJ0_charAt_5068e) else (cJ0_coder_7d493)))) else (if id < 205 then (if id < 203 then (cJ0_isLatin1_aae02) else (if id < 204 then (cJ1_charAt_3b067) else (cJ0_checkIndex_df160))) else (if id < 207 then (if id < 206 then (cJ3_checkIndex_8e157) else (Lib.Math.abs.code)) else (if id < 208 then (Lib.Math.max.code) else (Lib.Math.min.code))))))))
def q_mR (id : Nat) : Option FieldType := if id < 104 then (if id < 52 then (if id < 26 then (if id < 13 then (if id < 6 then (if id < 3 then (if id < 1 then (none) else (if id < 2 then (none) else (none))) else (if id < 4 then ((some .int)) else (if id < 5 then ((some .int)) else ((some .int))))) else (if id < 9 then (if id < 7 then ((some .int)) else (if id < 8 then ((some .int)) else ((some .int)))) else (if id < 11 then (if id < 10 then ((some .boolean)) else ((some .int))) else (if id < 12 then ((some .boolean)) else ((some .int)))))) else (if id < 19 then (if id < 16 then (if id < 14 then ((some .boolean)) else (if id < 15 then ((some .int)) else (none))) else (if id < 17 then (none) else (if id < 18 then ((some .int)) else ((some .boolean))))) else (if id < 22 then (if id < 20 then ((some .boolean)) else (if id < 21 then (none) else (none))) else (if id < 24 then (if id < 23 then (none) else ((some .int))) else (if id < 25 then ((some (.object "StonesChoose$Text"))) else (none)))))) else (if id < 39 then (if id < 32 then (if id < 29 then (if id < 27 then (none) else (if id < 28 then (none) else (none))) else (if id < 30 then (none) else (if id < 31 then (none) else (none)))) else (if id < 35 then (if id < 33 then (none) else (if id < 34 then (none) else (none))) else (if id < 37 then (if id < 36 then (none) else (none)) else (if id < 38 then (none) else (none))))) else (if id < 45 then (if id < 42 then (if id < 40 then ((some .boolean)) else (if id < 41 then ((some .boolean)) else ((some .boolean)))) else (if id < 43 then (none) else (if id < 44 then ((some .boolean)) else (none)))) else (if id < 48 then (if id < 46 then (none) else (if id < 47 then (none) else ((some .int)))) else (if id < 50 then (if id < 49 then (none) else (none)) else (if id < 51 then ((some .int)) else (none))))))) else (if id < 78 then (if id < 65 then (if id < 58 then (if id < 55 then (if id < 53 then (none) else (if id < 54 then ((some .int)) else ((some .int)))) else (if id < 56 then ((some .int)) else (if id < 57 then ((some .int)) else (none)))) else (if id < 61 then (if id < 59 then ((some .int)) else (if id < 60 then ((some .int)) else ((some .boolean)))) else (if id < 63 then (if id < 62 then (none) else ((some .int))) else (if id < 64 then ((some .int)) else ((some .int)))))) else (if id < 71 then (if id < 68 then (if id < 66 then ((some .int)) else (if id < 67 then ((some .int)) else ((some .int)))) else (if id < 69 then ((some .int)) else (if id < 70 then ((some .int)) else ((some .int))))) else (if id < 74 then (if id < 72 then ((some .int)) else (if id < 73 then ((some .int)) else ((some .int)))) else (if id < 76 then (if id < 75 then ((some .int)) else ((some .int))) else (if id < 77 then ((some .int)) else ((some .int))))))) else (if id < 91 then (if id < 84 then (if id < 81 then (if id < 79 then ((some .int)) else (if id < 80 then ((some .int)) else ((some .int)))) else (if id < 82 then ((some .int)) else (if id < 83 then ((some .long)) else ((some .int))))) else (if id < 87 then (if id < 85 then ((some .int)) else (if id < 86 then ((some .int)) else ((some .int)))) else (if id < 89 then (if id < 88 then ((some .int)) else ((some .int))) else (if id < 90 then ((some .int)) else ((some .long)))))) else (if id < 97 then (if id < 94 then (if id < 92 then ((some .int)) else (if id < 93 then ((some .int)) else ((some .int)))) else (if id < 95 then ((some .int)) else (if id < 96 then ((some .int)) else ((some .int))))) else (if id < 100 then (if id < 98 then ((some .int)) else (if id < 99 then ((some .boolean)) else ((some .boolean)))) else (if id < 102 then (if id < 101 then ((some .int)) else ((some .boolean))) else (if id < 103 then ((some .boolean)) else ((some .boolean))))))))) else (if id < 156 then (if id < 130 then (if id < 117 then (if id < 110 then (if id < 107 then (if id < 105 then ((some .int)) else (if id < 106 then ((some .int)) else ((some .int)))) else (if id < 108 then (none) else (if id < 109 then ((some .long)) else (none)))) else (if id < 113 then (if id < 111 then ((some .boolean)) else (if id < 112 then ((some .int)) else ((some .boolean)))) else (if id < 115 then (if id < 114 then ((some .boolean)) else ((some .int))) else (if id < 116 then ((some .int)) else ((some .int)))))) else (if id < 123 then (if id < 120 then (if id < 118 then ((some .int)) else (if id < 119 then ((some .int)) else ((some .int)))) else (if id < 121 then ((some .int)) else (if id < 122 then ((some .boolean)) else ((some .int))))) else (if id < 126 then (if id < 124 then ((some .int)) else (if id < 125 then (none) else ((some .int)))) else (if id < 128 then (if id < 127 then (none) else (none)) else (if id < 129 then (none) else ((some .boolean))))))) else (if id < 143 then (if id < 136 then (if id < 133 then (if id < 131 then ((some .boolean)) else (if id < 132 then ((some .int)) else ((some .boolean)))) else (if id < 134 then ((some .int)) else (if id < 135 then ((some .int)) else ((some .int))))) else (if id < 139 then (if id < 137 then ((some .int)) else (if id < 138 then ((some .int)) else ((some .int)))) else (if id < 141 then (if id < 140 then ((some .int)) else ((some .int))) else (if id < 142 then ((some .int)) else ((some .int)))))) else (if id < 149 then (if id < 146 then (if id < 144 then ((some .int)) else (if id < 145 then ((some .int)) else ((some .int)))) else (if id < 147 then ((some .int)) else (if id < 148 then ((some .int)) else ((some .boolean))))) else (if id < 152 then (if id < 150 then ((some .boolean)) else (if id < 151 then ((some .boolean)) else ((some .int)))) else (if id < 154 then (if id < 153 then ((some .int)) else ((some .int))) else (if id < 155 then (none) else (none))))))) else (if id < 182 then (if id < 169 then (if id < 162 then (if id < 159 then (if id < 157 then ((some .int)) else (if id < 158 then ((some .int)) else ((some .int)))) else (if id < 160 then (none) else (if id < 161 then ((some .int)) else ((some .int))))) else (if id < 165 then (if id < 163 then ((some .boolean)) else (if id < 164 then ((some .boolean)) else ((some .int)))) else (if id < 167 then (if id < 166 then ((some .int)) else ((some .int))) else (if id < 168 then ((some .int)) else ((some .int)))))) else (if id < 175 then (if id < 172 then (if id < 170 then ((some .boolean)) else (if id < 171 then (none) else ((some .int)))) else (if id < 173 then ((some .boolean)) else (if id < 174 then (none) else ((some .int))))) else (if id < 178 then (if id < 176 then ((some .int)) else (if id < 177 then ((some .int)) else ((some .long)))) else (if id < 180 then (if id < 179 then ((some .long)) else ((some .int))) else (if id < 181 then ((some .int)) else ((some .int))))))) else (if id < 195 then (if id < 188 then (if id < 185 then (if id < 183 then ((some .int)) else (if id < 184 then ((some .int)) else ((some .int)))) else (if id < 186 then ((some .int)) else (if id < 187 then ((some .int)) else ((some .int))))) else (if id < 191 then (if id < 189 then ((some .int)) else (if id < 190 then ((some .int)) else ((some .long)))) else (if id < 193 then (if id < 192 then ((some .int)) else ((some .int))) else (if id < 194 then ((some .int)) else ((some .int)))))) else (if id < 202 then (if id < 198 then (if id < 196 then ((some .int)) else (if id < 197 then ((some .int)) else ((some .boolean)))) else (if id < 200 then (if id < 199 then ((some .int)) else ((some .int))) else (if id < 201 then ((some .char)) else ((some .byte))))) else (if id < 205 then (if id < 203 then ((some .boolean)) else (if id < 204 then ((some .char)) else (none))) else (if id < 207 then (if id < 206 then ((some .int)) else ((some .int))) else (if id < 208 then ((some .int)) else ((some .int)))))))))
def q_mO (id : Nat) : Nat := if id < 104 then (if id < 52 then (if id < 26 then (if id < 13 then (if id < 6 then (if id < 3 then (if id < 1 then (0) else (if id < 2 then (0) else (0))) else (if id < 4 then (0) else (if id < 5 then (0) else (0)))) else (if id < 9 then (if id < 7 then (0) else (if id < 8 then (0) else (0))) else (if id < 11 then (if id < 10 then (0) else (0)) else (if id < 12 then (0) else (0))))) else (if id < 19 then (if id < 16 then (if id < 14 then (0) else (if id < 15 then (0) else (0))) else (if id < 17 then (0) else (if id < 18 then (0) else (0)))) else (if id < 22 then (if id < 20 then (0) else (if id < 21 then (1) else (1))) else (if id < 24 then (if id < 23 then (1) else (1)) else (if id < 25 then (1) else (1)))))) else (if id < 39 then (if id < 32 then (if id < 29 then (if id < 27 then (1) else (if id < 28 then (1) else (1))) else (if id < 30 then (1) else (if id < 31 then (1) else (1)))) else (if id < 35 then (if id < 33 then (1) else (if id < 34 then (1) else (1))) else (if id < 37 then (if id < 36 then (1) else (1)) else (if id < 38 then (1) else (1))))) else (if id < 45 then (if id < 42 then (if id < 40 then (1) else (if id < 41 then (1) else (1))) else (if id < 43 then (2) else (if id < 44 then (2) else (2)))) else (if id < 48 then (if id < 46 then (2) else (if id < 47 then (3) else (3))) else (if id < 50 then (if id < 49 then (4) else (4)) else (if id < 51 then (4) else (4))))))) else (if id < 78 then (if id < 65 then (if id < 58 then (if id < 55 then (if id < 53 then (4) else (if id < 54 then (4) else (4))) else (if id < 56 then (4) else (if id < 57 then (4) else (4)))) else (if id < 61 then (if id < 59 then (4) else (if id < 60 then (4) else (4))) else (if id < 63 then (if id < 62 then (5) else (5)) else (if id < 64 then (5) else (5))))) else (if id < 71 then (if id < 68 then (if id < 66 then (5) else (if id < 67 then (5) else (5))) else (if id < 69 then (5) else (if id < 70 then (5) else (5)))) else (if id < 74 then (if id < 72 then (5) else (if id < 73 then (5) else (5))) else (if id < 76 then (if id < 75 then (5) else (5)) else (if id < 77 then (5) else (5)))))) else (if id < 91 then (if id < 84 then (if id < 81 then (if id < 79 then (5) else (if id < 80 then (5) else (5))) else (if id < 82 then (5) else (if id < 83 then (5) else (5)))) else (if id < 87 then (if id < 85 then (5) else (if id < 86 then (5) else (5))) else (if id < 89 then (if id < 88 then (5) else (5)) else (if id < 90 then (5) else (5))))) else (if id < 97 then (if id < 94 then (if id < 92 then (5) else (if id < 93 then (5) else (5))) else (if id < 95 then (5) else (if id < 96 then (5) else (5)))) else (if id < 100 then (if id < 98 then (5) else (if id < 99 then (5) else (5))) else (if id < 102 then (if id < 101 then (5) else (5)) else (if id < 103 then (5) else (5)))))))) else (if id < 156 then (if id < 130 then (if id < 117 then (if id < 110 then (if id < 107 then (if id < 105 then (5) else (if id < 106 then (5) else (5))) else (if id < 108 then (5) else (if id < 109 then (5) else (6)))) else (if id < 113 then (if id < 111 then (6) else (if id < 112 then (6) else (6))) else (if id < 115 then (if id < 114 then (6) else (6)) else (if id < 116 then (6) else (6))))) else (if id < 123 then (if id < 120 then (if id < 118 then (6) else (if id < 119 then (6) else (6))) else (if id < 121 then (6) else (if id < 122 then (6) else (6)))) else (if id < 126 then (if id < 124 then (6) else (if id < 125 then (6) else (6))) else (if id < 128 then (if id < 127 then (6) else (6)) else (if id < 129 then (6) else (6)))))) else (if id < 143 then (if id < 136 then (if id < 133 then (if id < 131 then (6) else (if id < 132 then (6) else (6))) else (if id < 134 then (6) else (if id < 135 then (6) else (6)))) else (if id < 139 then (if id < 137 then (6) else (if id < 138 then (6) else (6))) else (if id < 141 then (if id < 140 then (6) else (6)) else (if id < 142 then (6) else (6))))) else (if id < 149 then (if id < 146 then (if id < 144 then (6) else (if id < 145 then (6) else (6))) else (if id < 147 then (6) else (if id < 148 then (6) else (6)))) else (if id < 152 then (if id < 150 then (6) else (if id < 151 then (6) else (6))) else (if id < 154 then (if id < 153 then (6) else (6)) else (if id < 155 then (6) else (6))))))) else (if id < 182 then (if id < 169 then (if id < 162 then (if id < 159 then (if id < 157 then (6) else (if id < 158 then (6) else (6))) else (if id < 160 then (6) else (if id < 161 then (6) else (6)))) else (if id < 165 then (if id < 163 then (6) else (if id < 164 then (6) else (6))) else (if id < 167 then (if id < 166 then (6) else (6)) else (if id < 168 then (6) else (6))))) else (if id < 175 then (if id < 172 then (if id < 170 then (6) else (if id < 171 then (6) else (6))) else (if id < 173 then (6) else (if id < 174 then (6) else (6)))) else (if id < 178 then (if id < 176 then (6) else (if id < 177 then (6) else (6))) else (if id < 180 then (if id < 179 then (6) else (6)) else (if id < 181 then (6) else (6)))))) else (if id < 195 then (if id < 188 then (if id < 185 then (if id < 183 then (6) else (if id < 184 then (6) else (6))) else (if id < 186 then (6) else (if id < 187 then (6) else (6)))) else (if id < 191 then (if id < 189 then (6) else (if id < 190 then (6) else (6))) else (if id < 193 then (if id < 192 then (6) else (6)) else (if id < 194 then (6) else (6))))) else (if id < 202 then (if id < 198 then (if id < 196 then (6) else (if id < 197 then (6) else (6))) else (if id < 200 then (if id < 199 then (6) else (7)) else (if id < 201 then (7) else (7)))) else (if id < 205 then (if id < 203 then (7) else (if id < 204 then (8) else (7))) else (if id < 207 then (if id < 206 then (9) else (11)) else (if id < 208 then (11) else (11))))))))
def q_fw (e : Nat × Nat × Nat) : Cond := .fieldLink (q_cls e.1) e.2.1 (q_cls (e.2.2 / 100)) (q_Tf (e.2.2 / 100) (e.2.2 % 100)).2.1 (q_Tf (e.2.2 / 100) (e.2.2 % 100)).2.2.1
def q_mw (e : Nat × Nat × Nat) : Cond := .methodLink (q_cls e.1) e.2.1 (q_mY e.2.2)
def q_ow (e : Nat × Nat) : Cond := .methodLink (q_cls e.1) e.2 Jvm.Lib.objectInit
def q_aw (e : Nat × Nat) : Cond := .methodLink (q_cls e.1) e.2 arraycopyName
def q_kw (e : Nat × Nat × Int) : Cond := .constant (q_cls e.1) e.2.1 (Int32.ofInt e.2.2)
def q_kl (e : Nat × Nat × Int) : Cond := .constantLong (q_cls e.1) e.2.1 (Int64.ofInt e.2.2)
def q_cw (e : Nat × Nat × Nat) : Cond := .classLink (q_cls e.1) e.2.1 (q_cls e.2.2)
def q_ftab : List (Nat × Nat × Nat) := [(0, 9, 0), (0, 15, 1), (0, 20, 2), (0, 23, 3), (0, 26, 4), (0, 35, 5), (1, 9, 100), (1, 15, 102), (1, 18, 104), (1, 21, 101), (1, 25, 103), (1, 28, 109), (1, 31, 108), (1, 67, 105), (1, 73, 107), (1, 91, 106), (2, 9, 200), (2, 15, 201), (2, 19, 202), (3, 9, 303), (3, 13, 300), (3, 17, 301), (3, 20, 302), (4, 12, 400), (4, 18, 401), (4, 22, 402), (4, 25, 403), (4, 28, 404), (4, 31, 405), (4, 34, 406), (4, 37, 407), (4, 40, 408), (4, 43, 410), (4, 57, 409), (4, 61, 5), (4, 64, 1), (4, 90, 2), (4, 97, 3), (5, 12, 500), (5, 18, 501), (5, 24, 507), (5, 54, 502), (5, 63, 503), (5, 67, 504), (5, 70, 505), (5, 74, 400), (5, 78, 5), (5, 83, 409), (5, 89, 410), (5, 93, 300), (5, 96, 101), (5, 115, 0), (5, 119, 402), (5, 122, 403), (5, 125, 401), (5, 144, 406), (5, 150, 407), (5, 153, 1), (5, 159, 404), (5, 162, 405), (5, 241, 506), (5, 248, 202), (5, 249, 201), (5, 252, 200), (6, 7, 601), (6, 13, 602), (6, 16, 603), (6, 19, 604), (6, 22, 606), (6, 25, 608), (6, 28, 609), (6, 31, 613), (6, 34, 614), (6, 37, 615), (6, 40, 616), (6, 43, 617), (6, 46, 618), (6, 49, 623), (6, 52, 624), (6, 55, 628), (6, 58, 629), (6, 61, 630), (6, 64, 631), (6, 67, 632), (6, 70, 633), (6, 73, 634), (6, 76, 635), (6, 79, 607), (6, 87, 600), (6, 94, 605), (6, 100, 610), (6, 103, 611), (6, 120, 619), (6, 123, 620), (6, 126, 621), (6, 129, 622), (6, 136, 627), (6, 139, 625), (6, 145, 626), (6, 294, 636), (6, 301, 612)]
set_option maxRecDepth 100000 in
theorem q_ftab_0 : q_fw (0, 9, 0) ∈ q_Lw := q_lx (q_tw2 14 rfl) rfl
set_option maxRecDepth 100000 in
theorem q_ftab_1 : q_fw (0, 15, 1) ∈ q_Lw := q_lx (q_tw2 16 rfl) rfl
set_option maxRecDepth 100000 in
theorem q_ftab_2 : q_fw (0, 20, 2) ∈ q_Lw := q_lx (q_tw2 19 rfl) rfl
set_option maxRecDepth 100000 in
theorem q_ftab_3 : q_fw (0, 23, 3) ∈ q_Lw := q_lx (q_tw2 21 rfl) rfl
set_option maxRecDepth 100000 in
theorem q_ftab_4 : q_fw (0, 26, 4) ∈ q_Lw := q_lx (q_tw2 23 rfl) rfl
set_option maxRecDepth 100000 in
theorem q_ftab_5 : q_fw (0, 35, 5) ∈ q_Lw := q_lx (q_tw2 24 rfl) rfl
set_option maxRecDepth 100000 in
theorem q_ftab_6 : q_fw (1, 9, 100) ∈ q_Lw := q_lx (q_tw1 28 rfl) rfl
set_option maxRecDepth 100000 in
theorem q_ftab_7 : q_fw (1, 15, 102) ∈ q_Lw := q_lx (q_tw1 31 rfl) rfl
set_option maxRecDepth 100000 in
theorem q_ftab_8 : q_fw (1, 18, 104) ∈ q_Lw := q_lx (q_tw1 33 rfl) rfl
set_option maxRecDepth 100000 in
theorem q_ftab_9 : q_fw (1, 21, 101) ∈ q_Lw := q_lx (q_tw1 29 rfl) rfl
set_option maxRecDepth 100000 in
theorem q_ftab_10 : q_fw (1, 25, 103) ∈ q_Lw := q_lx (q_tw1 32 rfl) rfl
set_option maxRecDepth 100000 in
theorem q_ftab_11 : q_fw (1, 28, 109) ∈ q_Lw := q_lx (q_tw1 38 rfl) rfl
set_option maxRecDepth 100000 in
theorem q_ftab_12 : q_fw (1, 31, 108) ∈ q_Lw := q_lx (q_tw1 37 rfl) rfl
set_option maxRecDepth 100000 in
theorem q_ftab_13 : q_fw (1, 67, 105) ∈ q_Lw := q_lx (q_tw1 34 rfl) rfl
set_option maxRecDepth 100000 in
theorem q_ftab_14 : q_fw (1, 73, 107) ∈ q_Lw := q_lx (q_tw1 36 rfl) rfl
set_option maxRecDepth 100000 in
theorem q_ftab_15 : q_fw (1, 91, 106) ∈ q_Lw := q_lx (q_tw1 35 rfl) rfl
set_option maxRecDepth 100000 in
theorem q_ftab_16 : q_fw (2, 9, 200) ∈ q_Lw := q_lx (q_tw2 89 rfl) rfl
set_option maxRecDepth 100000 in
theorem q_ftab_17 : q_fw (2, 15, 201) ∈ q_Lw := q_lx (q_tw2 91 rfl) rfl
set_option maxRecDepth 100000 in
theorem q_ftab_18 : q_fw (2, 19, 202) ∈ q_Lw := q_lx (q_tw2 93 rfl) rfl
set_option maxRecDepth 100000 in
theorem q_ftab_19 : q_fw (3, 9, 303) ∈ q_Lw := q_lx (q_tw1 225 rfl) rfl
set_option maxRecDepth 100000 in
theorem q_ftab_20 : q_fw (3, 13, 300) ∈ q_Lw := q_lx (q_tw1 221 rfl) rfl
set_option maxRecDepth 100000 in
theorem q_ftab_21 : q_fw (3, 17, 301) ∈ q_Lw := q_lx (q_tw1 223 rfl) rfl
set_option maxRecDepth 100000 in
theorem q_ftab_22 : q_fw (3, 20, 302) ∈ q_Lw := q_lx (q_tw1 224 rfl) rfl
set_option maxRecDepth 100000 in
theorem q_ftab_23 : q_fw (4, 12, 400) ∈ q_Lw := q_lx (q_tw2 40 rfl) rfl
set_option maxRecDepth 100000 in
theorem q_ftab_24 : q_fw (4, 18, 401) ∈ q_Lw := q_lx (q_tw2 42 rfl) rfl
set_option maxRecDepth 100000 in
theorem q_ftab_25 : q_fw (4, 22, 402) ∈ q_Lw := q_lx (q_tw2 44 rfl) rfl
set_option maxRecDepth 100000 in
theorem q_ftab_26 : q_fw (4, 25, 403) ∈ q_Lw := q_lx (q_tw2 46 rfl) rfl
set_option maxRecDepth 100000 in
theorem q_ftab_27 : q_fw (4, 28, 404) ∈ q_Lw := q_lx (q_tw2 48 rfl) rfl
set_option maxRecDepth 100000 in
theorem q_ftab_28 : q_fw (4, 31, 405) ∈ q_Lw := q_lx (q_tw2 50 rfl) rfl
set_option maxRecDepth 100000 in
theorem q_ftab_29 : q_fw (4, 34, 406) ∈ q_Lw := q_lx (q_tw2 52 rfl) rfl
set_option maxRecDepth 100000 in
theorem q_ftab_30 : q_fw (4, 37, 407) ∈ q_Lw := q_lx (q_tw2 54 rfl) rfl
set_option maxRecDepth 100000 in
theorem q_ftab_31 : q_fw (4, 40, 408) ∈ q_Lw := q_lx (q_tw2 56 rfl) rfl
set_option maxRecDepth 100000 in
theorem q_ftab_32 : q_fw (4, 43, 410) ∈ q_Lw := q_lx (q_tw2 59 rfl) rfl
set_option maxRecDepth 100000 in
theorem q_ftab_33 : q_fw (4, 57, 409) ∈ q_Lw := q_lx (q_tw2 58 rfl) rfl
set_option maxRecDepth 100000 in
theorem q_ftab_34 : q_fw (4, 61, 5) ∈ q_Lw := q_lx (q_tw2 26 rfl) rfl
set_option maxRecDepth 100000 in
theorem q_ftab_35 : q_fw (4, 64, 1) ∈ q_Lw := q_lx (q_tw2 17 rfl) rfl
set_option maxRecDepth 100000 in
theorem q_ftab_36 : q_fw (4, 90, 2) ∈ q_Lw := q_lx (q_tw2 20 rfl) rfl
set_option maxRecDepth 100000 in
theorem q_ftab_37 : q_fw (4, 97, 3) ∈ q_Lw := q_lx (q_tw2 22 rfl) rfl
set_option maxRecDepth 100000 in
theorem q_ftab_38 : q_fw (5, 12, 500) ∈ q_Lw := q_lx (q_tw2 102 rfl) rfl
set_option maxRecDepth 100000 in
theorem q_ftab_39 : q_fw (5, 18, 501) ∈ q_Lw := q_lx (q_tw2 103 rfl) rfl
set_option maxRecDepth 100000 in
theorem q_ftab_40 : q_fw (5, 24, 507) ∈ q_Lw := q_lx (q_tw2 109 rfl) rfl
set_option maxRecDepth 100000 in
theorem q_ftab_41 : q_fw (5, 54, 502) ∈ q_Lw := q_lx (q_tw2 104 rfl) rfl
set_option maxRecDepth 100000 in
theorem q_ftab_42 : q_fw (5, 63, 503) ∈ q_Lw := q_lx (q_tw2 105 rfl) rfl
set_option maxRecDepth 100000 in
theorem q_ftab_43 : q_fw (5, 67, 504) ∈ q_Lw := q_lx (q_tw2 106 rfl) rfl
set_option maxRecDepth 100000 in
theorem q_ftab_44 : q_fw (5, 70, 505) ∈ q_Lw := q_lx (q_tw2 107 rfl) rfl
set_option maxRecDepth 100000 in
theorem q_ftab_45 : q_fw (5, 74, 400) ∈ q_Lw := q_lx (q_tw2 41 rfl) rfl
set_option maxRecDepth 100000 in
theorem q_ftab_46 : q_fw (5, 78, 5) ∈ q_Lw := q_lx (q_tw2 25 rfl) rfl
set_option maxRecDepth 100000 in
theorem q_ftab_47 : q_fw (5, 83, 409) ∈ q_Lw := q_lx (q_tw2 57 rfl) rfl
set_option maxRecDepth 100000 in
theorem q_ftab_48 : q_fw (5, 89, 410) ∈ q_Lw := q_lx (q_tw2 60 rfl) rfl
set_option maxRecDepth 100000 in
theorem q_ftab_49 : q_fw (5, 93, 300) ∈ q_Lw := q_lx (q_tw1 222 rfl) rfl
set_option maxRecDepth 100000 in
theorem q_ftab_50 : q_fw (5, 96, 101) ∈ q_Lw := q_lx (q_tw1 30 rfl) rfl
set_option maxRecDepth 100000 in
theorem q_ftab_51 : q_fw (5, 115, 0) ∈ q_Lw := q_lx (q_tw2 15 rfl) rfl
set_option maxRecDepth 100000 in
theorem q_ftab_52 : q_fw (5, 119, 402) ∈ q_Lw := q_lx (q_tw2 45 rfl) rfl
set_option maxRecDepth 100000 in
theorem q_ftab_53 : q_fw (5, 122, 403) ∈ q_Lw := q_lx (q_tw2 47 rfl) rfl
set_option maxRecDepth 100000 in
theorem q_ftab_54 : q_fw (5, 125, 401) ∈ q_Lw := q_lx (q_tw2 43 rfl) rfl
set_option maxRecDepth 100000 in
theorem q_ftab_55 : q_fw (5, 144, 406) ∈ q_Lw := q_lx (q_tw2 53 rfl) rfl
set_option maxRecDepth 100000 in
theorem q_ftab_56 : q_fw (5, 150, 407) ∈ q_Lw := q_lx (q_tw2 55 rfl) rfl
set_option maxRecDepth 100000 in
theorem q_ftab_57 : q_fw (5, 153, 1) ∈ q_Lw := q_lx (q_tw2 18 rfl) rfl
set_option maxRecDepth 100000 in
theorem q_ftab_58 : q_fw (5, 159, 404) ∈ q_Lw := q_lx (q_tw2 49 rfl) rfl
set_option maxRecDepth 100000 in
theorem q_ftab_59 : q_fw (5, 162, 405) ∈ q_Lw := q_lx (q_tw2 51 rfl) rfl
set_option maxRecDepth 100000 in
theorem q_ftab_60 : q_fw (5, 241, 506) ∈ q_Lw := q_lx (q_tw2 108 rfl) rfl
set_option maxRecDepth 100000 in
theorem q_ftab_61 : q_fw (5, 248, 202) ∈ q_Lw := q_lx (q_tw2 94 rfl) rfl
set_option maxRecDepth 100000 in
theorem q_ftab_62 : q_fw (5, 249, 201) ∈ q_Lw := q_lx (q_tw2 92 rfl) rfl
set_option maxRecDepth 100000 in
theorem q_ftab_63 : q_fw (5, 252, 200) ∈ q_Lw := q_lx (q_tw2 90 rfl) rfl
set_option maxRecDepth 100000 in
theorem q_ftab_64 : q_fw (6, 7, 601) ∈ q_Lw := q_lx (q_tw4 54 rfl) rfl
set_option maxRecDepth 100000 in
theorem q_ftab_65 : q_fw (6, 13, 602) ∈ q_Lw := q_lx (q_tw4 55 rfl) rfl
set_option maxRecDepth 100000 in
theorem q_ftab_66 : q_fw (6, 16, 603) ∈ q_Lw := q_lx (q_tw4 56 rfl) rfl
set_option maxRecDepth 100000 in
theorem q_ftab_67 : q_fw (6, 19, 604) ∈ q_Lw := q_lx (q_tw4 57 rfl) rfl
set_option maxRecDepth 100000 in
theorem q_ftab_68 : q_fw (6, 22, 606) ∈ q_Lw := q_lx (q_tw4 59 rfl) rfl
set_option maxRecDepth 100000 in
theorem q_ftab_69 : q_fw (6, 25, 608) ∈ q_Lw := q_lx (q_tw4 61 rfl) rfl
set_option maxRecDepth 100000 in
theorem q_ftab_70 : q_fw (6, 28, 609) ∈ q_Lw := q_lx (q_tw4 62 rfl) rfl
set_option maxRecDepth 100000 in
theorem q_ftab_71 : q_fw (6, 31, 613) ∈ q_Lw := q_lx (q_tw4 66 rfl) rfl
set_option maxRecDepth 100000 in
theorem q_ftab_72 : q_fw (6, 34, 614) ∈ q_Lw := q_lx (q_tw4 67 rfl) rfl
set_option maxRecDepth 100000 in
theorem q_ftab_73 : q_fw (6, 37, 615) ∈ q_Lw := q_lx (q_tw4 68 rfl) rfl
set_option maxRecDepth 100000 in
theorem q_ftab_74 : q_fw (6, 40, 616) ∈ q_Lw := q_lx (q_tw4 69 rfl) rfl
set_option maxRecDepth 100000 in
theorem q_ftab_75 : q_fw (6, 43, 617) ∈ q_Lw := q_lx (q_tw4 70 rfl) rfl
set_option maxRecDepth 100000 in
theorem q_ftab_76 : q_fw (6, 46, 618) ∈ q_Lw := q_lx (q_tw4 71 rfl) rfl
set_option maxRecDepth 100000 in
theorem q_ftab_77 : q_fw (6, 49, 623) ∈ q_Lw := q_lx (q_tw4 76 rfl) rfl
set_option maxRecDepth 100000 in
theorem q_ftab_78 : q_fw (6, 52, 624) ∈ q_Lw := q_lx (q_tw4 77 rfl) rfl
set_option maxRecDepth 100000 in
theorem q_ftab_79 : q_fw (6, 55, 628) ∈ q_Lw := q_lx (q_tw4 81 rfl) rfl
set_option maxRecDepth 100000 in
theorem q_ftab_80 : q_fw (6, 58, 629) ∈ q_Lw := q_lx (q_tw4 82 rfl) rfl
set_option maxRecDepth 100000 in
theorem q_ftab_81 : q_fw (6, 61, 630) ∈ q_Lw := q_lx (q_tw4 83 rfl) rfl
set_option maxRecDepth 100000 in
theorem q_ftab_82 : q_fw (6, 64, 631) ∈ q_Lw := q_lx (q_tw4 84 rfl) rfl
set_option maxRecDepth 100000 in
theorem q_ftab_83 : q_fw (6, 67, 632) ∈ q_Lw := q_lx (q_tw4 85 rfl) rfl
set_option maxRecDepth 100000 in
theorem q_ftab_84 : q_fw (6, 70, 633) ∈ q_Lw := q_lx (q_tw4 86 rfl) rfl
set_option maxRecDepth 100000 in
theorem q_ftab_85 : q_fw (6, 73, 634) ∈ q_Lw := q_lx (q_tw4 87 rfl) rfl
set_option maxRecDepth 100000 in
theorem q_ftab_86 : q_fw (6, 76, 635) ∈ q_Lw := q_lx (q_tw4 88 rfl) rfl
set_option maxRecDepth 100000 in
theorem q_ftab_87 : q_fw (6, 79, 607) ∈ q_Lw := q_lx (q_tw4 60 rfl) rfl
set_option maxRecDepth 100000 in
theorem q_ftab_88 : q_fw (6, 87, 600) ∈ q_Lw := q_lx (q_tw4 53 rfl) rfl
set_option maxRecDepth 100000 in
theorem q_ftab_89 : q_fw (6, 94, 605) ∈ q_Lw := q_lx (q_tw4 58 rfl) rfl
set_option maxRecDepth 100000 in
theorem q_ftab_90 : q_fw (6, 100, 610) ∈ q_Lw := q_lx (q_tw4 63 rfl) rfl
set_option maxRecDepth 100000 in
theorem q_ftab_91 : q_fw (6, 103, 611) ∈ q_Lw := q_lx (q_tw4 64 rfl) rfl
set_option maxRecDepth 100000 in
theorem q_ftab_92 : q_fw (6, 120, 619) ∈ q_Lw := q_lx (q_tw4 72 rfl) rfl
set_option maxRecDepth 100000 in
theorem q_ftab_93 : q_fw (6, 123, 620) ∈ q_Lw := q_lx (q_tw4 73 rfl) rfl
set_option maxRecDepth 100000 in
theorem q_ftab_94 : q_fw (6, 126, 621) ∈ q_Lw := q_lx (q_tw4 74 rfl) rfl
set_option maxRecDepth 100000 in
theorem q_ftab_95 : q_fw (6, 129, 622) ∈ q_Lw := q_lx (q_tw4 75 rfl) rfl
set_option maxRecDepth 100000 in
theorem q_ftab_96 : q_fw (6, 136, 627) ∈ q_Lw := q_lx (q_tw4 80 rfl) rfl
set_option maxRecDepth 100000 in
theorem q_ftab_97 : q_fw (6, 139, 625) ∈ q_Lw := q_lx (q_tw4 78 rfl) rfl
set_option maxRecDepth 100000 in
theorem q_ftab_98 : q_fw (6, 145, 626) ∈ q_Lw := q_lx (q_tw4 79 rfl) rfl
set_option maxRecDepth 100000 in
theorem q_ftab_99 : q_fw (6, 294, 636) ∈ q_Lw := q_lx (q_tw4 89 rfl) rfl
set_option maxRecDepth 100000 in
theorem q_ftab_100 : q_fw (6, 301, 612) ∈ q_Lw := q_lx (q_tw4 65 rfl) rfl
set_option maxRecDepth 100000 in
theorem q_ftab_c0 : ∀ e ∈ ([(0, 9, 0), (0, 15, 1), (0, 20, 2), (0, 23, 3), (0, 26, 4), (0, 35, 5), (1, 9, 100), (1, 15, 102), (1, 18, 104), (1, 21, 101), (1, 25, 103), (1, 28, 109), (1, 31, 108), (1, 67, 105), (1, 73, 107), (1, 91, 106), (2, 9, 200), (2, 15, 201), (2, 19, 202), (3, 9, 303), (3, 13, 300), (3, 17, 301), (3, 20, 302), (4, 12, 400), (4, 18, 401), (4, 22, 402), (4, 25, 403), (4, 28, 404), (4, 31, 405), (4, 34, 406), (4, 37, 407), (4, 40, 408), (4, 43, 410), (4, 57, 409), (4, 61, 5), (4, 64, 1), (4, 90, 2), (4, 97, 3), (5, 12, 500), (5, 18, 501)] : List (Nat × Nat × Nat)), q_fw e ∈ q_Lw := List.forall_mem_cons.mpr ⟨q_ftab_0, List.forall_mem_cons.mpr ⟨q_ftab_1, List.forall_mem_cons.mpr ⟨q_ftab_2, List.forall_mem_cons.mpr ⟨q_ftab_3, List.forall_mem_cons.mpr ⟨q_ftab_4, List.forall_mem_cons.mpr ⟨q_ftab_5, List.forall_mem_cons.mpr ⟨q_ftab_6, List.forall_mem_cons.mpr ⟨q_ftab_7, List.forall_mem_cons.mpr ⟨q_ftab_8, List.forall_mem_cons.mpr ⟨q_ftab_9, List.forall_mem_cons.mpr ⟨q_ftab_10, List.forall_mem_cons.mpr ⟨q_ftab_11, List.forall_mem_cons.mpr ⟨q_ftab_12, List.forall_mem_cons.mpr ⟨q_ftab_13, List.forall_mem_cons.mpr ⟨q_ftab_14, List.forall_mem_cons.mpr ⟨q_ftab_15, List.forall_mem_cons.mpr ⟨q_ftab_16, List.forall_mem_cons.mpr ⟨q_ftab_17, List.forall_mem_cons.mpr ⟨q_ftab_18, List.forall_mem_cons.mpr ⟨q_ftab_19, List.forall_mem_cons.mpr ⟨q_ftab_20, List.forall_mem_cons.mpr ⟨q_ftab_21, List.forall_mem_cons.mpr ⟨q_ftab_22, List.forall_mem_cons.mpr ⟨q_ftab_23, List.forall_mem_cons.mpr ⟨q_ftab_24, List.forall_mem_cons.mpr ⟨q_ftab_25, List.forall_mem_cons.mpr ⟨q_ftab_26, List.forall_mem_cons.mpr ⟨q_ftab_27, List.forall_mem_cons.mpr ⟨q_ftab_28, List.forall_mem_cons.mpr ⟨q_ftab_29, List.forall_mem_cons.mpr ⟨q_ftab_30, List.forall_mem_cons.mpr ⟨q_ftab_31, List.forall_mem_cons.mpr ⟨q_ftab_32, List.forall_mem_cons.mpr ⟨q_ftab_33, List.forall_mem_cons.mpr ⟨q_ftab_34, List.forall_mem_cons.mpr ⟨q_ftab_35, List.forall_mem_cons.mpr ⟨q_ftab_36, List.forall_mem_cons.mpr ⟨q_ftab_37, List.forall_mem_cons.mpr ⟨q_ftab_38, List.forall_mem_cons.mpr ⟨q_ftab_39, fun _ h => absurd h List.not_mem_nil⟩⟩⟩⟩⟩⟩⟩⟩⟩⟩⟩⟩⟩⟩⟩⟩⟩⟩⟩⟩⟩⟩⟩⟩⟩⟩⟩⟩⟩⟩⟩⟩⟩⟩⟩⟩⟩⟩⟩⟩
set_option maxRecDepth 100000 in
theorem q_ftab_c1 : ∀ e ∈ ([(5, 24, 507), (5, 54, 502), (5, 63, 503), (5, 67, 504), (5, 70, 505), (5, 74, 400), (5, 78, 5), (5, 83, 409), (5, 89, 410), (5, 93, 300), (5, 96, 101), (5, 115, 0), (5, 119, 402), (5, 122, 403), (5, 125, 401), (5, 144, 406), (5, 150, 407), (5, 153, 1), (5, 159, 404), (5, 162, 405), (5, 241, 506), (5, 248, 202), (5, 249, 201), (5, 252, 200), (6, 7, 601), (6, 13, 602), (6, 16, 603), (6, 19, 604), (6, 22, 606), (6, 25, 608), (6, 28, 609), (6, 31, 613), (6, 34, 614), (6, 37, 615), (6, 40, 616), (6, 43, 617), (6, 46, 618), (6, 49, 623), (6, 52, 624), (6, 55, 628)] : List (Nat × Nat × Nat)), q_fw e ∈ q_Lw := List.forall_mem_cons.mpr ⟨q_ftab_40, List.forall_mem_cons.mpr ⟨q_ftab_41, List.forall_mem_cons.mpr ⟨q_ftab_42, List.forall_mem_cons.mpr ⟨q_ftab_43, List.forall_mem_cons.mpr ⟨q_ftab_44, List.forall_mem_cons.mpr ⟨q_ftab_45, List.forall_mem_cons.mpr ⟨q_ftab_46, List.forall_mem_cons.mpr ⟨q_ftab_47, List.forall_mem_cons.mpr ⟨q_ftab_48, List.forall_mem_cons.mpr ⟨q_ftab_49, List.forall_mem_cons.mpr ⟨q_ftab_50, List.forall_mem_cons.mpr ⟨q_ftab_51, List.forall_mem_cons.mpr ⟨q_ftab_52, List.forall_mem_cons.mpr ⟨q_ftab_53, List.forall_mem_cons.mpr ⟨q_ftab_54, List.forall_mem_cons.mpr ⟨q_ftab_55, List.forall_mem_cons.mpr ⟨q_ftab_56, List.forall_mem_cons.mpr ⟨q_ftab_57, List.forall_mem_cons.mpr ⟨q_ftab_58, List.forall_mem_cons.mpr ⟨q_ftab_59, List.forall_mem_cons.mpr ⟨q_ftab_60, List.forall_mem_cons.mpr ⟨q_ftab_61, List.forall_mem_cons.mpr ⟨q_ftab_62, List.forall_mem_cons.mpr ⟨q_ftab_63, List.forall_mem_cons.mpr ⟨q_ftab_64, List.forall_mem_cons.mpr ⟨q_ftab_65, List.forall_mem_cons.mpr ⟨q_ftab_66, List.forall_mem_cons.mpr ⟨q_ftab_67, List.forall_mem_cons.mpr ⟨q_ftab_68, List.forall_mem_cons.mpr ⟨q_ftab_69, List.forall_mem_cons.mpr ⟨q_ftab_70, List.forall_mem_cons.mpr ⟨q_ftab_71, List.forall_mem_cons.mpr ⟨q_ftab_72, List.forall_mem_cons.mpr ⟨q_ftab_73, List.forall_mem_cons.mpr ⟨q_ftab_74, List.forall_mem_cons.mpr ⟨q_ftab_75, List.forall_mem_cons.mpr ⟨q_ftab_76, List.forall_mem_cons.mpr ⟨q_ftab_77, List.forall_mem_cons.mpr ⟨q_ftab_78, List.forall_mem_cons.mpr ⟨q_ftab_79, fun _ h => absurd h List.not_mem_nil⟩⟩⟩⟩⟩⟩⟩⟩⟩⟩⟩⟩⟩⟩⟩⟩⟩⟩⟩⟩⟩⟩⟩⟩⟩⟩⟩⟩⟩⟩⟩⟩⟩⟩⟩⟩⟩⟩⟩⟩
set_option maxRecDepth 100000 in
theorem q_ftab_c2 : ∀ e ∈ ([(6, 58, 629), (6, 61, 630), (6, 64, 631), (6, 67, 632), (6, 70, 633), (6, 73, 634), (6, 76, 635), (6, 79, 607), (6, 87, 600), (6, 94, 605), (6, 100, 610), (6, 103, 611), (6, 120, 619), (6, 123, 620), (6, 126, 621), (6, 129, 622), (6, 136, 627), (6, 139, 625), (6, 145, 626), (6, 294, 636), (6, 301, 612)] : List (Nat × Nat × Nat)), q_fw e ∈ q_Lw := List.forall_mem_cons.mpr ⟨q_ftab_80, List.forall_mem_cons.mpr ⟨q_ftab_81, List.forall_mem_cons.mpr ⟨q_ftab_82, List.forall_mem_cons.mpr ⟨q_ftab_83, List.forall_mem_cons.mpr ⟨q_ftab_84, List.forall_mem_cons.mpr ⟨q_ftab_85, List.forall_mem_cons.mpr ⟨q_ftab_86, List.forall_mem_cons.mpr ⟨q_ftab_87, List.forall_mem_cons.mpr ⟨q_ftab_88, List.forall_mem_cons.mpr ⟨q_ftab_89, List.forall_mem_cons.mpr ⟨q_ftab_90, List.forall_mem_cons.mpr ⟨q_ftab_91, List.forall_mem_cons.mpr ⟨q_ftab_92, List.forall_mem_cons.mpr ⟨q_ftab_93, List.forall_mem_cons.mpr ⟨q_ftab_94, List.forall_mem_cons.mpr ⟨q_ftab_95, List.forall_mem_cons.mpr ⟨q_ftab_96, List.forall_mem_cons.mpr ⟨q_ftab_97, List.forall_mem_cons.mpr ⟨q_ftab_98, List.forall_mem_cons.mpr ⟨q_ftab_99, List.forall_mem_cons.mpr ⟨q_ftab_100, fun _ h => absurd h List.not_mem_nil⟩⟩⟩⟩⟩⟩⟩⟩⟩⟩⟩⟩⟩⟩⟩⟩⟩⟩⟩⟩⟩
set_option maxRecDepth 100000 in
theorem q_ftab_ok : ∀ e ∈ q_ftab, q_fw e ∈ q_Lw := (List.forall_mem_append.mpr ⟨q_ftab_c0, List.forall_mem_append.mpr ⟨q_ftab_c1, q_ftab_c2⟩⟩ : _)
def q_mtab : List (Nat × Nat × Nat) := [(0, 39, 4), (0, 43, 9), (0, 47, 11), (0, 50, 12), (0, 53, 2), (0, 56, 10), (0, 60, 16), (0, 64, 13), (0, 68, 14), (1, 34, 35), (1, 37, 25), (1, 41, 26), (1, 58, 46), (1, 61, 29), (1, 64, 28), (1, 70, 27), (1, 76, 30), (1, 79, 31), (1, 82, 32), (1, 85, 33), (1, 88, 34), (1, 94, 39), (1, 98, 36), (1, 101, 40), (1, 104, 37), (1, 107, 41), (1, 112, 38), (1, 137, 199), (1, 143, 200), (4, 11, 0), (4, 47, 1), (4, 67, 206), (4, 73, 47), (4, 79, 208), (4, 83, 207), (4, 86, 53), (4, 94, 54), (4, 100, 55), (4, 103, 10), (4, 106, 58), (4, 109, 60), (4, 113, 56), (4, 116, 13), (4, 119, 14), (5, 30, 199), (5, 36, 200), (5, 40, 22), (5, 44, 23), (5, 47, 24), (5, 51, 21), (5, 60, 48), (5, 86, 3), (5, 99, 99), (5, 103, 4), (5, 107, 65), (5, 111, 52), (5, 128, 5), (5, 131, 102), (5, 134, 98), (5, 137, 53), (5, 141, 50), (5, 147, 51), (5, 156, 100), (5, 165, 58), (5, 168, 56), (5, 171, 54), (5, 174, 55), (5, 177, 59), (5, 180, 49), (5, 184, 6), (5, 187, 106), (5, 191, 57), (5, 194, 17), (5, 197, 7), (5, 200, 8), (5, 203, 15), (5, 206, 2), (5, 209, 18), (5, 213, 19), (5, 218, 108), (5, 222, 104), (5, 225, 105), (5, 228, 101), (5, 231, 44), (5, 234, 45), (5, 238, 107), (5, 245, 43), (5, 261, 70), (5, 264, 103), (6, 83, 133), (6, 90, 110), (6, 97, 114), (6, 106, 113), (6, 110, 115), (6, 114, 116), (6, 117, 121), (6, 132, 123), (6, 142, 125), (6, 148, 126), (6, 152, 128), (6, 155, 127), (6, 158, 124), (6, 162, 129), (6, 165, 131), (6, 168, 130), (6, 171, 132), (6, 175, 134), (6, 179, 135), (6, 182, 111), (6, 185, 112), (6, 188, 137), (6, 191, 141), (6, 194, 144), (6, 197, 143), (6, 200, 142), (6, 203, 148), (6, 206, 147), (6, 209, 149), (6, 213, 150), (6, 216, 151), (6, 219, 154), (6, 222, 153), (6, 225, 155), (6, 228, 157), (6, 231, 160), (6, 234, 161), (6, 237, 163), (6, 240, 162), (6, 244, 159), (6, 247, 164), (6, 250, 165), (6, 253, 168), (6, 256, 169), (6, 259, 170), (6, 262, 166), (6, 265, 172), (6, 268, 173), (6, 271, 177), (6, 277, 179), (6, 280, 180), (6, 283, 181), (6, 298, 188), (6, 305, 139), (6, 308, 197), (7, 335, 201), (7, 492, 202), (7, 495, 203), (7, 1059, 205), (8, 9, 204), (10, 9, 61), (10, 12, 109), (10, 13, 62), (10, 17, 117), (10, 18, 63), (10, 21, 118), (10, 22, 64), (10, 26, 119), (10, 27, 65), (10, 31, 120), (10, 32, 66), (10, 36, 122), (10, 37, 67), (10, 41, 133), (10, 42, 68), (10, 45, 136), (10, 46, 69), (10, 49, 138), (10, 50, 70), (10, 53, 139), (10, 54, 71), (10, 57, 140), (10, 58, 72), (10, 61, 145), (10, 62, 73), (10, 65, 146), (10, 66, 74), (10, 69, 152), (10, 70, 75), (10, 73, 156), (10, 74, 76), (10, 77, 158), (10, 78, 77), (10, 81, 167), (10, 82, 78), (10, 85, 171), (10, 86, 79), (10, 89, 174), (10, 90, 80), (10, 93, 175), (10, 94, 81), (10, 97, 176), (10, 98, 82), (10, 102, 178), (10, 103, 83), (10, 106, 182), (10, 107, 84), (10, 110, 183), (10, 111, 85), (10, 115, 184), (10, 116, 86), (10, 119, 185), (10, 120, 87), (10, 123, 186), (10, 124, 88), (10, 127, 187), (10, 128, 89), (10, 131, 189), (10, 132, 90), (10, 136, 190), (10, 137, 91), (10, 140, 191), (10, 141, 92), (10, 144, 192), (10, 145, 93), (10, 148, 193), (10, 149, 94), (10, 152, 194), (10, 153, 95), (10, 157, 195), (10, 158, 96), (10, 161, 196), (10, 162, 97), (10, 165, 198)]
set_option maxRecDepth 100000 in
theorem q_mtab_0 : q_mw (0, 39, 4) ∈ q_Lw := q_lx (q_tw2 135 rfl) rfl
set_option maxRecDepth 100000 in
theorem q_mtab_1 : q_mw (0, 43, 9) ∈ q_Lw := q_lx (q_tw3 0 rfl) rfl
set_option maxRecDepth 100000 in
theorem q_mtab_2 : q_mw (0, 47, 11) ∈ q_Lw := q_lx (q_tw3 40 rfl) rfl
set_option maxRecDepth 100000 in
theorem q_mtab_3 : q_mw (0, 50, 12) ∈ q_Lw := q_lx (q_tw3 36 rfl) rfl
set_option maxRecDepth 100000 in
theorem q_mtab_4 : q_mw (0, 53, 2) ∈ q_Lw := q_lx (q_tw3 104 rfl) rfl
set_option maxRecDepth 100000 in
theorem q_mtab_5 : q_mw (0, 56, 10) ∈ q_Lw := q_lx (q_tw3 108 rfl) rfl
set_option maxRecDepth 100000 in
theorem q_mtab_6 : q_mw (0, 60, 16) ∈ q_Lw := q_lx (q_tw3 109 rfl) rfl
set_option maxRecDepth 100000 in
theorem q_mtab_7 : q_mw (0, 64, 13) ∈ q_Lw := q_lx (q_tw3 87 rfl) rfl
set_option maxRecDepth 100000 in
theorem q_mtab_8 : q_mw (0, 68, 14) ∈ q_Lw := q_lx (q_tw3 113 rfl) rfl
set_option maxRecDepth 100000 in
theorem q_mtab_9 : q_mw (1, 34, 35) ∈ q_Lw := q_lx (q_tw1 122 rfl) rfl
set_option maxRecDepth 100000 in
theorem q_mtab_10 : q_mw (1, 37, 25) ∈ q_Lw := q_lx (q_tw1 161 rfl) rfl
set_option maxRecDepth 100000 in
theorem q_mtab_11 : q_mw (1, 41, 26) ∈ q_Lw := q_lx (q_tw1 165 rfl) rfl
set_option maxRecDepth 100000 in
theorem q_mtab_12 : q_mw (1, 58, 46) ∈ q_Lw := q_lx (q_tw1 217 rfl) rfl
set_option maxRecDepth 100000 in
theorem q_mtab_13 : q_mw (1, 61, 29) ∈ q_Lw := q_lx (q_tw1 173 rfl) rfl
set_option maxRecDepth 100000 in
theorem q_mtab_14 : q_mw (1, 64, 28) ∈ q_Lw := q_lx (q_tw1 185 rfl) rfl
set_option maxRecDepth 100000 in
theorem q_mtab_15 : q_mw (1, 70, 27) ∈ q_Lw := q_lx (q_tw1 169 rfl) rfl
set_option maxRecDepth 100000 in
theorem q_mtab_16 : q_mw (1, 76, 30) ∈ q_Lw := q_lx (q_tw1 177 rfl) rfl
set_option maxRecDepth 100000 in
theorem q_mtab_17 : q_mw (1, 79, 31) ∈ q_Lw := q_lx (q_tw1 181 rfl) rfl
set_option maxRecDepth 100000 in
theorem q_mtab_18 : q_mw (1, 82, 32) ∈ q_Lw := q_lx (q_tw1 189 rfl) rfl
set_option maxRecDepth 100000 in
theorem q_mtab_19 : q_mw (1, 85, 33) ∈ q_Lw := q_lx (q_tw1 193 rfl) rfl
set_option maxRecDepth 100000 in
theorem q_mtab_20 : q_mw (1, 88, 34) ∈ q_Lw := q_lx (q_tw1 197 rfl) rfl
set_option maxRecDepth 100000 in
theorem q_mtab_21 : q_mw (1, 94, 39) ∈ q_Lw := q_lx (q_tw1 126 rfl) rfl
set_option maxRecDepth 100000 in
theorem q_mtab_22 : q_mw (1, 98, 36) ∈ q_Lw := q_lx (q_tw1 129 rfl) rfl
set_option maxRecDepth 100000 in
theorem q_mtab_23 : q_mw (1, 101, 40) ∈ q_Lw := q_lx (q_tw1 151 rfl) rfl
set_option maxRecDepth 100000 in
theorem q_mtab_24 : q_mw (1, 104, 37) ∈ q_Lw := q_lx (q_tw1 154 rfl) rfl
set_option maxRecDepth 100000 in
theorem q_mtab_25 : q_mw (1, 107, 41) ∈ q_Lw := q_lx (q_tw1 158 rfl) rfl
set_option maxRecDepth 100000 in
theorem q_mtab_26 : q_mw (1, 112, 38) ∈ q_Lw := q_lx (q_tw1 134 rfl) rfl
set_option maxRecDepth 100000 in
theorem q_mtab_27 : q_mw (1, 137, 199) ∈ q_Lw := q_lx (q_tw1 138 rfl) rfl
set_option maxRecDepth 100000 in
theorem q_mtab_28 : q_mw (1, 143, 200) ∈ q_Lw := q_lx (q_tw1 139 rfl) rfl
set_option maxRecDepth 100000 in
theorem q_mtab_29 : q_mw (4, 11, 0) ∈ q_Lw := q_lx (q_tw2 8 rfl) rfl
set_option maxRecDepth 100000 in
theorem q_mtab_30 : q_mw (4, 47, 1) ∈ q_Lw := q_lx (q_tw3 56 rfl) rfl
set_option maxRecDepth 100000 in
theorem q_mtab_31 : q_mw (4, 67, 206) ∈ q_Lw := q_lx (q_tw2 191 rfl) rfl
set_option maxRecDepth 100000 in
theorem q_mtab_32 : q_mw (4, 73, 47) ∈ q_Lw := q_lx (q_tw2 194 rfl) rfl
set_option maxRecDepth 100000 in
theorem q_mtab_33 : q_mw (4, 79, 208) ∈ q_Lw := q_lx (q_tw2 198 rfl) rfl
set_option maxRecDepth 100000 in
theorem q_mtab_34 : q_mw (4, 83, 207) ∈ q_Lw := q_lx (q_tw2 201 rfl) rfl
set_option maxRecDepth 100000 in
theorem q_mtab_35 : q_mw (4, 86, 53) ∈ q_Lw := q_lx (q_tw2 235 rfl) rfl
set_option maxRecDepth 100000 in
theorem q_mtab_36 : q_mw (4, 94, 54) ∈ q_Lw := q_lx (q_tw2 231 rfl) rfl
set_option maxRecDepth 100000 in
theorem q_mtab_37 : q_mw (4, 100, 55) ∈ q_Lw := q_lx (q_tw3 31 rfl) rfl
set_option maxRecDepth 100000 in
theorem q_mtab_38 : q_mw (4, 103, 10) ∈ q_Lw := q_lx (q_tw2 236 rfl) rfl
set_option maxRecDepth 100000 in
theorem q_mtab_39 : q_mw (4, 106, 58) ∈ q_Lw := q_lx (q_tw3 25 rfl) rfl
set_option maxRecDepth 100000 in
theorem q_mtab_40 : q_mw (4, 109, 60) ∈ q_Lw := q_lx (q_tw3 26 rfl) rfl
set_option maxRecDepth 100000 in
theorem q_mtab_41 : q_mw (4, 113, 56) ∈ q_Lw := q_lx (q_tw3 30 rfl) rfl
set_option maxRecDepth 100000 in
theorem q_mtab_42 : q_mw (4, 116, 13) ∈ q_Lw := q_lx (q_tw3 32 rfl) rfl
set_option maxRecDepth 100000 in
theorem q_mtab_43 : q_mw (4, 119, 14) ∈ q_Lw := q_lx (q_tw3 44 rfl) rfl
set_option maxRecDepth 100000 in
theorem q_mtab_44 : q_mw (5, 30, 199) ∈ q_Lw := q_lx (q_tw1 66 rfl) rfl
set_option maxRecDepth 100000 in
theorem q_mtab_45 : q_mw (5, 36, 200) ∈ q_Lw := q_lx (q_tw1 76 rfl) rfl
set_option maxRecDepth 100000 in
theorem q_mtab_46 : q_mw (5, 40, 22) ∈ q_Lw := q_lx (q_tw1 114 rfl) rfl
set_option maxRecDepth 100000 in
theorem q_mtab_47 : q_mw (5, 44, 23) ∈ q_Lw := q_lx (q_tw1 118 rfl) rfl
set_option maxRecDepth 100000 in
theorem q_mtab_48 : q_mw (5, 47, 24) ∈ q_Lw := q_lx (q_tw1 201 rfl) rfl
set_option maxRecDepth 100000 in
theorem q_mtab_49 : q_mw (5, 51, 21) ∈ q_Lw := q_lx (q_tw1 236 rfl) rfl
set_option maxRecDepth 100000 in
theorem q_mtab_50 : q_mw (5, 60, 48) ∈ q_Lw := q_lx (q_tw2 2 rfl) rfl
set_option maxRecDepth 100000 in
theorem q_mtab_51 : q_mw (5, 86, 3) ∈ q_Lw := q_lx (q_tw2 131 rfl) rfl
set_option maxRecDepth 100000 in
theorem q_mtab_52 : q_mw (5, 99, 99) ∈ q_Lw := q_lx (q_tw2 147 rfl) rfl
set_option maxRecDepth 100000 in
theorem q_mtab_53 : q_mw (5, 103, 4) ∈ q_Lw := q_lx (q_tw2 150 rfl) rfl
set_option maxRecDepth 100000 in
theorem q_mtab_54 : q_mw (5, 107, 65) ∈ q_Lw := q_lx (q_tw2 151 rfl) rfl
set_option maxRecDepth 100000 in
theorem q_mtab_55 : q_mw (5, 111, 52) ∈ q_Lw := q_lx (q_tw2 159 rfl) rfl
set_option maxRecDepth 100000 in
theorem q_mtab_56 : q_mw (5, 128, 5) ∈ q_Lw := q_lx (q_tw2 155 rfl) rfl
set_option maxRecDepth 100000 in
theorem q_mtab_57 : q_mw (5, 131, 102) ∈ q_Lw := q_lx (q_tw2 168 rfl) rfl
set_option maxRecDepth 100000 in
theorem q_mtab_58 : q_mw (5, 134, 98) ∈ q_Lw := q_lx (q_tw2 183 rfl) rfl
set_option maxRecDepth 100000 in
theorem q_mtab_59 : q_mw (5, 137, 53) ∈ q_Lw := q_lx (q_tw2 187 rfl) rfl
set_option maxRecDepth 100000 in
theorem q_mtab_60 : q_mw (5, 141, 50) ∈ q_Lw := q_lx (q_tw2 208 rfl) rfl
set_option maxRecDepth 100000 in
theorem q_mtab_61 : q_mw (5, 147, 51) ∈ q_Lw := q_lx (q_tw2 216 rfl) rfl
set_option maxRecDepth 100000 in
theorem q_mtab_62 : q_mw (5, 156, 100) ∈ q_Lw := q_lx (q_tw2 224 rfl) rfl
set_option maxRecDepth 100000 in
theorem q_mtab_63 : q_mw (5, 165, 58) ∈ q_Lw := q_lx (q_tw2 227 rfl) rfl
set_option maxRecDepth 100000 in
theorem q_mtab_64 : q_mw (5, 168, 56) ∈ q_Lw := q_lx (q_tw3 4 rfl) rfl
set_option maxRecDepth 100000 in
theorem q_mtab_65 : q_mw (5, 171, 54) ∈ q_Lw := q_lx (q_tw3 12 rfl) rfl
set_option maxRecDepth 100000 in
theorem q_mtab_66 : q_mw (5, 174, 55) ∈ q_Lw := q_lx (q_tw3 13 rfl) rfl
set_option maxRecDepth 100000 in
theorem q_mtab_67 : q_mw (5, 177, 59) ∈ q_Lw := q_lx (q_tw3 21 rfl) rfl
set_option maxRecDepth 100000 in
theorem q_mtab_68 : q_mw (5, 180, 49) ∈ q_Lw := q_lx (q_tw3 52 rfl) rfl
set_option maxRecDepth 100000 in
theorem q_mtab_69 : q_mw (5, 184, 6) ∈ q_Lw := q_lx (q_tw3 62 rfl) rfl
set_option maxRecDepth 100000 in
theorem q_mtab_70 : q_mw (5, 187, 106) ∈ q_Lw := q_lx (q_tw3 70 rfl) rfl
set_option maxRecDepth 100000 in
theorem q_mtab_71 : q_mw (5, 191, 57) ∈ q_Lw := q_lx (q_tw3 79 rfl) rfl
set_option maxRecDepth 100000 in
theorem q_mtab_72 : q_mw (5, 194, 17) ∈ q_Lw := q_lx (q_tw3 83 rfl) rfl
set_option maxRecDepth 100000 in
theorem q_mtab_73 : q_mw (5, 197, 7) ∈ q_Lw := q_lx (q_tw3 88 rfl) rfl
set_option maxRecDepth 100000 in
theorem q_mtab_74 : q_mw (5, 200, 8) ∈ q_Lw := q_lx (q_tw3 92 rfl) rfl
set_option maxRecDepth 100000 in
theorem q_mtab_75 : q_mw (5, 203, 15) ∈ q_Lw := q_lx (q_tw3 100 rfl) rfl
set_option maxRecDepth 100000 in
theorem q_mtab_76 : q_mw (5, 206, 2) ∈ q_Lw := q_lx (q_tw3 118 rfl) rfl
set_option maxRecDepth 100000 in
theorem q_mtab_77 : q_mw (5, 209, 18) ∈ q_Lw := q_lx (q_tw3 119 rfl) rfl
set_option maxRecDepth 100000 in
theorem q_mtab_78 : q_mw (5, 213, 19) ∈ q_Lw := q_lx (q_tw3 123 rfl) rfl
set_option maxRecDepth 100000 in
theorem q_mtab_79 : q_mw (5, 218, 108) ∈ q_Lw := q_lx (q_tw3 140 rfl) rfl
set_option maxRecDepth 100000 in
theorem q_mtab_80 : q_mw (5, 222, 104) ∈ q_Lw := q_lx (q_tw3 147 rfl) rfl
set_option maxRecDepth 100000 in
theorem q_mtab_81 : q_mw (5, 225, 105) ∈ q_Lw := q_lx (q_tw3 158 rfl) rfl
set_option maxRecDepth 100000 in
theorem q_mtab_82 : q_mw (5, 228, 101) ∈ q_Lw := q_lx (q_tw3 151 rfl) rfl
set_option maxRecDepth 100000 in
theorem q_mtab_83 : q_mw (5, 231, 44) ∈ q_Lw := q_lx (q_tw3 182 rfl) rfl
set_option maxRecDepth 100000 in
theorem q_mtab_84 : q_mw (5, 234, 45) ∈ q_Lw := q_lx (q_tw3 186 rfl) rfl
set_option maxRecDepth 100000 in
theorem q_mtab_85 : q_mw (5, 238, 107) ∈ q_Lw := q_lx (q_tw3 195 rfl) rfl
set_option maxRecDepth 100000 in
theorem q_mtab_86 : q_mw (5, 245, 43) ∈ q_Lw := q_lx (q_tw3 154 rfl) rfl
set_option maxRecDepth 100000 in
theorem q_mtab_87 : q_mw (5, 261, 70) ∈ q_Lw := q_lx (q_tw3 232 rfl) rfl
set_option maxRecDepth 100000 in
theorem q_mtab_88 : q_mw (5, 264, 103) ∈ q_Lw := q_lx (q_tw3 237 rfl) rfl
set_option maxRecDepth 100000 in
theorem q_mtab_89 : q_mw (6, 83, 133) ∈ q_Lw := q_lx (q_tw4 6 rfl) rfl
set_option maxRecDepth 100000 in
theorem q_mtab_90 : q_mw (6, 90, 110) ∈ q_Lw := q_lx (q_tw4 14 rfl) rfl
set_option maxRecDepth 100000 in
theorem q_mtab_91 : q_mw (6, 97, 114) ∈ q_Lw := q_lx (q_tw4 169 rfl) rfl
set_option maxRecDepth 100000 in
theorem q_mtab_92 : q_mw (6, 106, 113) ∈ q_Lw := q_lx (q_tw4 181 rfl) rfl
set_option maxRecDepth 100000 in
theorem q_mtab_93 : q_mw (6, 110, 115) ∈ q_Lw := q_lx (q_tw4 184 rfl) rfl
set_option maxRecDepth 100000 in
theorem q_mtab_94 : q_mw (6, 114, 116) ∈ q_Lw := q_lx (q_tw4 188 rfl) rfl
set_option maxRecDepth 100000 in
theorem q_mtab_95 : q_mw (6, 117, 121) ∈ q_Lw := q_lx (q_tw4 199 rfl) rfl
set_option maxRecDepth 100000 in
theorem q_mtab_96 : q_mw (6, 132, 123) ∈ q_Lw := q_lx (q_tw4 17 rfl) rfl
set_option maxRecDepth 100000 in
theorem q_mtab_97 : q_mw (6, 142, 125) ∈ q_Lw := q_lx (q_tw4 34 rfl) rfl
set_option maxRecDepth 100000 in
theorem q_mtab_98 : q_mw (6, 148, 126) ∈ q_Lw := q_lx (q_tw4 26 rfl) rfl
set_option maxRecDepth 100000 in
theorem q_mtab_99 : q_mw (6, 152, 128) ∈ q_Lw := q_lx (q_tw4 41 rfl) rfl
set_option maxRecDepth 100000 in
theorem q_mtab_100 : q_mw (6, 155, 127) ∈ q_Lw := q_lx (q_tw4 30 rfl) rfl
set_option maxRecDepth 100000 in
theorem q_mtab_101 : q_mw (6, 158, 124) ∈ q_Lw := q_lx (q_tw4 10 rfl) rfl
set_option maxRecDepth 100000 in
theorem q_mtab_102 : q_mw (6, 162, 129) ∈ q_Lw := q_lx (q_tw4 37 rfl) rfl
set_option maxRecDepth 100000 in
theorem q_mtab_103 : q_mw (6, 165, 131) ∈ q_Lw := q_lx (q_tw4 45 rfl) rfl
set_option maxRecDepth 100000 in
theorem q_mtab_104 : q_mw (6, 168, 130) ∈ q_Lw := q_lx (q_tw4 49 rfl) rfl
set_option maxRecDepth 100000 in
theorem q_mtab_105 : q_mw (6, 171, 132) ∈ q_Lw := q_lx (q_tw4 21 rfl) rfl
set_option maxRecDepth 100000 in
theorem q_mtab_106 : q_mw (6, 175, 134) ∈ q_Lw := q_lx (q_tw4 223 rfl) rfl
set_option maxRecDepth 100000 in
theorem q_mtab_107 : q_mw (6, 179, 135) ∈ q_Lw := q_lx (q_tw4 219 rfl) rfl
set_option maxRecDepth 100000 in
theorem q_mtab_108 : q_mw (6, 182, 111) ∈ q_Lw := q_lx (q_tw4 226 rfl) rfl
set_option maxRecDepth 100000 in
theorem q_mtab_109 : q_mw (6, 185, 112) ∈ q_Lw := q_lx (q_tw4 211 rfl) rfl
set_option maxRecDepth 100000 in
theorem q_mtab_110 : q_mw (6, 188, 137) ∈ q_Lw := q_lx (q_tw4 215 rfl) rfl
set_option maxRecDepth 100000 in
theorem q_mtab_111 : q_mw (6, 191, 141) ∈ q_Lw := q_lx (q_tw5 5 rfl) rfl
set_option maxRecDepth 100000 in
theorem q_mtab_112 : q_mw (6, 194, 144) ∈ q_Lw := q_lx (q_tw5 1 rfl) rfl
set_option maxRecDepth 100000 in
theorem q_mtab_113 : q_mw (6, 197, 143) ∈ q_Lw := q_lx (q_tw5 9 rfl) rfl
set_option maxRecDepth 100000 in
theorem q_mtab_114 : q_mw (6, 200, 142) ∈ q_Lw := q_lx (q_tw5 17 rfl) rfl
set_option maxRecDepth 100000 in
theorem q_mtab_115 : q_mw (6, 203, 148) ∈ q_Lw := q_lx (q_tw5 37 rfl) rfl
set_option maxRecDepth 100000 in
theorem q_mtab_116 : q_mw (6, 206, 147) ∈ q_Lw := q_lx (q_tw5 41 rfl) rfl
set_option maxRecDepth 100000 in
theorem q_mtab_117 : q_mw (6, 209, 149) ∈ q_Lw := q_lx (q_tw5 33 rfl) rfl
set_option maxRecDepth 100000 in
theorem q_mtab_118 : q_mw (6, 213, 150) ∈ q_Lw := q_lx (q_tw5 29 rfl) rfl
set_option maxRecDepth 100000 in
theorem q_mtab_119 : q_mw (6, 216, 151) ∈ q_Lw := q_lx (q_tw5 25 rfl) rfl
set_option maxRecDepth 100000 in
theorem q_mtab_120 : q_mw (6, 219, 154) ∈ q_Lw := q_lx (q_tw5 49 rfl) rfl
set_option maxRecDepth 100000 in
theorem q_mtab_121 : q_mw (6, 222, 153) ∈ q_Lw := q_lx (q_tw5 53 rfl) rfl
set_option maxRecDepth 100000 in
theorem q_mtab_122 : q_mw (6, 225, 155) ∈ q_Lw := q_lx (q_tw5 57 rfl) rfl
set_option maxRecDepth 100000 in
theorem q_mtab_123 : q_mw (6, 228, 157) ∈ q_Lw := q_lx (q_tw5 65 rfl) rfl
set_option maxRecDepth 100000 in
theorem q_mtab_124 : q_mw (6, 231, 160) ∈ q_Lw := q_lx (q_tw5 90 rfl) rfl
set_option maxRecDepth 100000 in
theorem q_mtab_125 : q_mw (6, 234, 161) ∈ q_Lw := q_lx (q_tw5 94 rfl) rfl
set_option maxRecDepth 100000 in
theorem q_mtab_126 : q_mw (6, 237, 163) ∈ q_Lw := q_lx (q_tw5 82 rfl) rfl
set_option maxRecDepth 100000 in
theorem q_mtab_127 : q_mw (6, 240, 162) ∈ q_Lw := q_lx (q_tw5 86 rfl) rfl
set_option maxRecDepth 100000 in
theorem q_mtab_128 : q_mw (6, 244, 159) ∈ q_Lw := q_lx (q_tw5 74 rfl) rfl
set_option maxRecDepth 100000 in
theorem q_mtab_129 : q_mw (6, 247, 164) ∈ q_Lw := q_lx (q_tw5 78 rfl) rfl
set_option maxRecDepth 100000 in
theorem q_mtab_130 : q_mw (6, 250, 165) ∈ q_Lw := q_lx (q_tw5 98 rfl) rfl
set_option maxRecDepth 100000 in
theorem q_mtab_131 : q_mw (6, 253, 168) ∈ q_Lw := q_lx (q_tw5 114 rfl) rfl
set_option maxRecDepth 100000 in
theorem q_mtab_132 : q_mw (6, 256, 169) ∈ q_Lw := q_lx (q_tw5 110 rfl) rfl
set_option maxRecDepth 100000 in
theorem q_mtab_133 : q_mw (6, 259, 170) ∈ q_Lw := q_lx (q_tw5 106 rfl) rfl
set_option maxRecDepth 100000 in
theorem q_mtab_134 : q_mw (6, 262, 166) ∈ q_Lw := q_lx (q_tw5 118 rfl) rfl
set_option maxRecDepth 100000 in
theorem q_mtab_135 : q_mw (6, 265, 172) ∈ q_Lw := q_lx (q_tw5 130 rfl) rfl
set_option maxRecDepth 100000 in
theorem q_mtab_136 : q_mw (6, 268, 173) ∈ q_Lw := q_lx (q_tw5 126 rfl) rfl
set_option maxRecDepth 100000 in
theorem q_mtab_137 : q_mw (6, 271, 177) ∈ q_Lw := q_lx (q_tw5 146 rfl) rfl
set_option maxRecDepth 100000 in
theorem q_mtab_138 : q_mw (6, 277, 179) ∈ q_Lw := q_lx (q_tw5 158 rfl) rfl
set_option maxRecDepth 100000 in
theorem q_mtab_139 : q_mw (6, 280, 180) ∈ q_Lw := q_lx (q_tw5 154 rfl) rfl
set_option maxRecDepth 100000 in
theorem q_mtab_140 : q_mw (6, 283, 181) ∈ q_Lw := q_lx (q_tw5 162 rfl) rfl
set_option maxRecDepth 100000 in
theorem q_mtab_141 : q_mw (6, 298, 188) ∈ q_Lw := q_lx (q_tw5 191 rfl) rfl
set_option maxRecDepth 100000 in
theorem q_mtab_142 : q_mw (6, 305, 139) ∈ q_Lw := q_lx (q_tw5 227 rfl) rfl
set_option maxRecDepth 100000 in
theorem q_mtab_143 : q_mw (6, 308, 197) ∈ q_Lw := q_lx (q_tw5 232 rfl) rfl
set_option maxRecDepth 100000 in
theorem q_mtab_144 : q_mw (7, 335, 201) ∈ q_Lw := q_lx (q_tw1 70 rfl) rfl
set_option maxRecDepth 100000 in
theorem q_mtab_145 : q_mw (7, 492, 202) ∈ q_Lw := q_lx (q_tw1 80 rfl) rfl
set_option maxRecDepth 100000 in
theorem q_mtab_146 : q_mw (7, 495, 203) ∈ q_Lw := q_lx (q_tw1 84 rfl) rfl
set_option maxRecDepth 100000 in
theorem q_mtab_147 : q_mw (7, 1059, 205) ∈ q_Lw := q_lx (q_tw1 92 rfl) rfl
set_option maxRecDepth 100000 in
theorem q_mtab_148 : q_mw (8, 9, 204) ∈ q_Lw := q_lx (q_tw1 87 rfl) rfl
set_option maxRecDepth 100000 in
theorem q_mtab_149 : q_mw (10, 9, 61) ∈ q_Lw := q_lx (q_tw1 16 rfl) rfl
set_option maxRecDepth 100000 in
theorem q_mtab_150 : q_mw (10, 12, 109) ∈ q_Lw := q_lx (q_tw4 2 rfl) rfl
set_option maxRecDepth 100000 in
theorem q_mtab_151 : q_mw (10, 13, 62) ∈ q_Lw := q_lx (q_tw2 127 rfl) rfl
set_option maxRecDepth 100000 in
theorem q_mtab_152 : q_mw (10, 17, 117) ∈ q_Lw := q_lx (q_tw4 165 rfl) rfl
set_option maxRecDepth 100000 in
theorem q_mtab_153 : q_mw (10, 18, 63) ∈ q_Lw := q_lx (q_tw2 139 rfl) rfl
set_option maxRecDepth 100000 in
theorem q_mtab_154 : q_mw (10, 21, 118) ∈ q_Lw := q_lx (q_tw4 173 rfl) rfl
set_option maxRecDepth 100000 in
theorem q_mtab_155 : q_mw (10, 22, 64) ∈ q_Lw := q_lx (q_tw2 143 rfl) rfl
set_option maxRecDepth 100000 in
theorem q_mtab_156 : q_mw (10, 26, 119) ∈ q_Lw := q_lx (q_tw4 177 rfl) rfl
set_option maxRecDepth 100000 in
theorem q_mtab_157 : q_mw (10, 27, 65) ∈ q_Lw := q_lx (q_tw2 163 rfl) rfl
set_option maxRecDepth 100000 in
theorem q_mtab_158 : q_mw (10, 31, 120) ∈ q_Lw := q_lx (q_tw4 191 rfl) rfl
set_option maxRecDepth 100000 in
theorem q_mtab_159 : q_mw (10, 32, 66) ∈ q_Lw := q_lx (q_tw2 164 rfl) rfl
set_option maxRecDepth 100000 in
theorem q_mtab_160 : q_mw (10, 36, 122) ∈ q_Lw := q_lx (q_tw4 195 rfl) rfl
set_option maxRecDepth 100000 in
theorem q_mtab_161 : q_mw (10, 37, 67) ∈ q_Lw := q_lx (q_tw2 171 rfl) rfl
set_option maxRecDepth 100000 in
theorem q_mtab_162 : q_mw (10, 41, 133) ∈ q_Lw := q_lx (q_tw4 202 rfl) rfl
set_option maxRecDepth 100000 in
theorem q_mtab_163 : q_mw (10, 42, 68) ∈ q_Lw := q_lx (q_tw2 175 rfl) rfl
set_option maxRecDepth 100000 in
theorem q_mtab_164 : q_mw (10, 45, 136) ∈ q_Lw := q_lx (q_tw4 203 rfl) rfl
set_option maxRecDepth 100000 in
theorem q_mtab_165 : q_mw (10, 46, 69) ∈ q_Lw := q_lx (q_tw2 179 rfl) rfl
set_option maxRecDepth 100000 in
theorem q_mtab_166 : q_mw (10, 49, 138) ∈ q_Lw := q_lx (q_tw4 207 rfl) rfl
set_option maxRecDepth 100000 in
theorem q_mtab_167 : q_mw (10, 50, 70) ∈ q_Lw := q_lx (q_tw2 204 rfl) rfl
set_option maxRecDepth 100000 in
theorem q_mtab_168 : q_mw (10, 53, 139) ∈ q_Lw := q_lx (q_tw4 229 rfl) rfl
set_option maxRecDepth 100000 in
theorem q_mtab_169 : q_mw (10, 54, 71) ∈ q_Lw := q_lx (q_tw2 212 rfl) rfl
set_option maxRecDepth 100000 in
theorem q_mtab_170 : q_mw (10, 57, 140) ∈ q_Lw := q_lx (q_tw4 233 rfl) rfl
set_option maxRecDepth 100000 in
theorem q_mtab_171 : q_mw (10, 58, 72) ∈ q_Lw := q_lx (q_tw2 220 rfl) rfl
set_option maxRecDepth 100000 in
theorem q_mtab_172 : q_mw (10, 61, 145) ∈ q_Lw := q_lx (q_tw4 237 rfl) rfl
set_option maxRecDepth 100000 in
theorem q_mtab_173 : q_mw (10, 62, 73) ∈ q_Lw := q_lx (q_tw3 8 rfl) rfl
set_option maxRecDepth 100000 in
theorem q_mtab_174 : q_mw (10, 65, 146) ∈ q_Lw := q_lx (q_tw5 13 rfl) rfl
set_option maxRecDepth 100000 in
theorem q_mtab_175 : q_mw (10, 66, 74) ∈ q_Lw := q_lx (q_tw3 17 rfl) rfl
set_option maxRecDepth 100000 in
theorem q_mtab_176 : q_mw (10, 69, 152) ∈ q_Lw := q_lx (q_tw5 21 rfl) rfl
set_option maxRecDepth 100000 in
theorem q_mtab_177 : q_mw (10, 70, 75) ∈ q_Lw := q_lx (q_tw3 48 rfl) rfl
set_option maxRecDepth 100000 in
theorem q_mtab_178 : q_mw (10, 73, 156) ∈ q_Lw := q_lx (q_tw5 45 rfl) rfl
set_option maxRecDepth 100000 in
theorem q_mtab_179 : q_mw (10, 74, 76) ∈ q_Lw := q_lx (q_tw3 66 rfl) rfl
set_option maxRecDepth 100000 in
theorem q_mtab_180 : q_mw (10, 77, 158) ∈ q_Lw := q_lx (q_tw5 61 rfl) rfl
set_option maxRecDepth 100000 in
theorem q_mtab_181 : q_mw (10, 78, 77) ∈ q_Lw := q_lx (q_tw3 74 rfl) rfl
set_option maxRecDepth 100000 in
theorem q_mtab_182 : q_mw (10, 81, 167) ∈ q_Lw := q_lx (q_tw5 69 rfl) rfl
set_option maxRecDepth 100000 in
theorem q_mtab_183 : q_mw (10, 82, 78) ∈ q_Lw := q_lx (q_tw3 96 rfl) rfl
set_option maxRecDepth 100000 in
theorem q_mtab_184 : q_mw (10, 85, 171) ∈ q_Lw := q_lx (q_tw5 102 rfl) rfl
set_option maxRecDepth 100000 in
theorem q_mtab_185 : q_mw (10, 86, 79) ∈ q_Lw := q_lx (q_tw3 114 rfl) rfl
set_option maxRecDepth 100000 in
theorem q_mtab_186 : q_mw (10, 89, 174) ∈ q_Lw := q_lx (q_tw5 122 rfl) rfl
set_option maxRecDepth 100000 in
theorem q_mtab_187 : q_mw (10, 90, 80) ∈ q_Lw := q_lx (q_tw3 127 rfl) rfl
set_option maxRecDepth 100000 in
theorem q_mtab_188 : q_mw (10, 93, 175) ∈ q_Lw := q_lx (q_tw5 134 rfl) rfl
set_option maxRecDepth 100000 in
theorem q_mtab_189 : q_mw (10, 94, 81) ∈ q_Lw := q_lx (q_tw3 131 rfl) rfl
set_option maxRecDepth 100000 in
theorem q_mtab_190 : q_mw (10, 97, 176) ∈ q_Lw := q_lx (q_tw5 138 rfl) rfl
set_option maxRecDepth 100000 in
theorem q_mtab_191 : q_mw (10, 98, 82) ∈ q_Lw := q_lx (q_tw3 135 rfl) rfl
set_option maxRecDepth 100000 in
theorem q_mtab_192 : q_mw (10, 102, 178) ∈ q_Lw := q_lx (q_tw5 142 rfl) rfl
set_option maxRecDepth 100000 in
theorem q_mtab_193 : q_mw (10, 103, 83) ∈ q_Lw := q_lx (q_tw3 143 rfl) rfl
set_option maxRecDepth 100000 in
theorem q_mtab_194 : q_mw (10, 106, 182) ∈ q_Lw := q_lx (q_tw5 150 rfl) rfl
set_option maxRecDepth 100000 in
theorem q_mtab_195 : q_mw (10, 107, 84) ∈ q_Lw := q_lx (q_tw3 162 rfl) rfl
set_option maxRecDepth 100000 in
theorem q_mtab_196 : q_mw (10, 110, 183) ∈ q_Lw := q_lx (q_tw5 166 rfl) rfl
set_option maxRecDepth 100000 in
theorem q_mtab_197 : q_mw (10, 111, 85) ∈ q_Lw := q_lx (q_tw3 166 rfl) rfl
set_option maxRecDepth 100000 in
theorem q_mtab_198 : q_mw (10, 115, 184) ∈ q_Lw := q_lx (q_tw5 170 rfl) rfl
set_option maxRecDepth 100000 in
theorem q_mtab_199 : q_mw (10, 116, 86) ∈ q_Lw := q_lx (q_tw3 170 rfl) rfl
set_option maxRecDepth 100000 in
theorem q_mtab_200 : q_mw (10, 119, 185) ∈ q_Lw := q_lx (q_tw5 174 rfl) rfl
set_option maxRecDepth 100000 in
theorem q_mtab_201 : q_mw (10, 120, 87) ∈ q_Lw := q_lx (q_tw3 174 rfl) rfl
set_option maxRecDepth 100000 in
theorem q_mtab_202 : q_mw (10, 123, 186) ∈ q_Lw := q_lx (q_tw5 178 rfl) rfl
set_option maxRecDepth 100000 in
theorem q_mtab_203 : q_mw (10, 124, 88) ∈ q_Lw := q_lx (q_tw3 178 rfl) rfl
set_option maxRecDepth 100000 in
theorem q_mtab_204 : q_mw (10, 127, 187) ∈ q_Lw := q_lx (q_tw5 182 rfl) rfl
set_option maxRecDepth 100000 in
theorem q_mtab_205 : q_mw (10, 128, 89) ∈ q_Lw := q_lx (q_tw3 190 rfl) rfl
set_option maxRecDepth 100000 in
theorem q_mtab_206 : q_mw (10, 131, 189) ∈ q_Lw := q_lx (q_tw5 186 rfl) rfl
set_option maxRecDepth 100000 in
theorem q_mtab_207 : q_mw (10, 132, 90) ∈ q_Lw := q_lx (q_tw3 203 rfl) rfl
set_option maxRecDepth 100000 in
theorem q_mtab_208 : q_mw (10, 136, 190) ∈ q_Lw := q_lx (q_tw5 199 rfl) rfl
set_option maxRecDepth 100000 in
theorem q_mtab_209 : q_mw (10, 137, 91) ∈ q_Lw := q_lx (q_tw3 207 rfl) rfl
set_option maxRecDepth 100000 in
theorem q_mtab_210 : q_mw (10, 140, 191) ∈ q_Lw := q_lx (q_tw5 203 rfl) rfl
set_option maxRecDepth 100000 in
theorem q_mtab_211 : q_mw (10, 141, 92) ∈ q_Lw := q_lx (q_tw3 211 rfl) rfl
set_option maxRecDepth 100000 in
theorem q_mtab_212 : q_mw (10, 144, 192) ∈ q_Lw := q_lx (q_tw5 207 rfl) rfl
set_option maxRecDepth 100000 in
theorem q_mtab_213 : q_mw (10, 145, 93) ∈ q_Lw := q_lx (q_tw3 215 rfl) rfl
set_option maxRecDepth 100000 in
theorem q_mtab_214 : q_mw (10, 148, 193) ∈ q_Lw := q_lx (q_tw5 211 rfl) rfl
set_option maxRecDepth 100000 in
theorem q_mtab_215 : q_mw (10, 149, 94) ∈ q_Lw := q_lx (q_tw3 219 rfl) rfl
set_option maxRecDepth 100000 in
theorem q_mtab_216 : q_mw (10, 152, 194) ∈ q_Lw := q_lx (q_tw5 215 rfl) rfl
set_option maxRecDepth 100000 in
theorem q_mtab_217 : q_mw (10, 153, 95) ∈ q_Lw := q_lx (q_tw3 223 rfl) rfl
set_option maxRecDepth 100000 in
theorem q_mtab_218 : q_mw (10, 157, 195) ∈ q_Lw := q_lx (q_tw5 219 rfl) rfl
set_option maxRecDepth 100000 in
theorem q_mtab_219 : q_mw (10, 158, 96) ∈ q_Lw := q_lx (q_tw3 228 rfl) rfl
set_option maxRecDepth 100000 in
theorem q_mtab_220 : q_mw (10, 161, 196) ∈ q_Lw := q_lx (q_tw5 223 rfl) rfl
set_option maxRecDepth 100000 in
theorem q_mtab_221 : q_mw (10, 162, 97) ∈ q_Lw := q_lx (q_tw3 233 rfl) rfl
set_option maxRecDepth 100000 in
theorem q_mtab_222 : q_mw (10, 165, 198) ∈ q_Lw := q_lx (q_tw5 228 rfl) rfl
set_option maxRecDepth 100000 in
theorem q_mtab_c0 : ∀ e ∈ ([(0, 39, 4), (0, 43, 9), (0, 47, 11), (0, 50, 12), (0, 53, 2), (0, 56, 10), (0, 60, 16), (0, 64, 13), (0, 68, 14), (1, 34, 35), (1, 37, 25), (1, 41, 26), (1, 58, 46), (1, 61, 29), (1, 64, 28), (1, 70, 27), (1, 76, 30), (1, 79, 31), (1, 82, 32), (1, 85, 33), (1, 88, 34), (1, 94, 39), (1, 98, 36), (1, 101, 40), (1, 104, 37), (1, 107, 41), (1, 112, 38), (1, 137, 199), (1, 143, 200), (4, 11, 0), (4, 47, 1), (4, 67, 206), (4, 73, 47), (4, 79, 208), (4, 83, 207), (4, 86, 53), (4, 94, 54), (4, 100, 55), (4, 103, 10), (4, 106, 58)] : List (Nat × Nat × Nat)), q_mw e ∈ q_Lw := List.forall_mem_cons.mpr ⟨q_mtab_0, List.forall_mem_cons.mpr ⟨q_mtab_1, List.forall_mem_cons.mpr ⟨q_mtab_2, List.forall_mem_cons.mpr ⟨q_mtab_3, List.forall_mem_cons.mpr ⟨q_mtab_4, List.forall_mem_cons.mpr ⟨q_mtab_5, List.forall_mem_cons.mpr ⟨q_mtab_6, List.forall_mem_cons.mpr ⟨q_mtab_7, List.forall_mem_cons.mpr ⟨q_mtab_8, List.forall_mem_cons.mpr ⟨q_mtab_9, List.forall_mem_cons.mpr ⟨q_mtab_10, List.forall_mem_cons.mpr ⟨q_mtab_11, List.forall_mem_cons.mpr ⟨q_mtab_12, List.forall_mem_cons.mpr ⟨q_mtab_13, List.forall_mem_cons.mpr ⟨q_mtab_14, List.forall_mem_cons.mpr ⟨q_mtab_15, List.forall_mem_cons.mpr ⟨q_mtab_16, List.forall_mem_cons.mpr ⟨q_mtab_17, List.forall_mem_cons.mpr ⟨q_mtab_18, List.forall_mem_cons.mpr ⟨q_mtab_19, List.forall_mem_cons.mpr ⟨q_mtab_20, List.forall_mem_cons.mpr ⟨q_mtab_21, List.forall_mem_cons.mpr ⟨q_mtab_22, List.forall_mem_cons.mpr ⟨q_mtab_23, List.forall_mem_cons.mpr ⟨q_mtab_24, List.forall_mem_cons.mpr ⟨q_mtab_25, List.forall_mem_cons.mpr ⟨q_mtab_26, List.forall_mem_cons.mpr ⟨q_mtab_27, List.forall_mem_cons.mpr ⟨q_mtab_28, List.forall_mem_cons.mpr ⟨q_mtab_29, List.forall_mem_cons.mpr ⟨q_mtab_30, List.forall_mem_cons.mpr ⟨q_mtab_31, List.forall_mem_cons.mpr ⟨q_mtab_32, List.forall_mem_cons.mpr ⟨q_mtab_33, List.forall_mem_cons.mpr ⟨q_mtab_34, List.forall_mem_cons.mpr ⟨q_mtab_35, List.forall_mem_cons.mpr ⟨q_mtab_36, List.forall_mem_cons.mpr ⟨q_mtab_37, List.forall_mem_cons.mpr ⟨q_mtab_38, List.forall_mem_cons.mpr ⟨q_mtab_39, fun _ h => absurd h List.not_mem_nil⟩⟩⟩⟩⟩⟩⟩⟩⟩⟩⟩⟩⟩⟩⟩⟩⟩⟩⟩⟩⟩⟩⟩⟩⟩⟩⟩⟩⟩⟩⟩⟩⟩⟩⟩⟩⟩⟩⟩⟩
set_option maxRecDepth 100000 in
theorem q_mtab_c1 : ∀ e ∈ ([(4, 109, 60), (4, 113, 56), (4, 116, 13), (4, 119, 14), (5, 30, 199), (5, 36, 200), (5, 40, 22), (5, 44, 23), (5, 47, 24), (5, 51, 21), (5, 60, 48), (5, 86, 3), (5, 99, 99), (5, 103, 4), (5, 107, 65), (5, 111, 52), (5, 128, 5), (5, 131, 102), (5, 134, 98), (5, 137, 53), (5, 141, 50), (5, 147, 51), (5, 156, 100), (5, 165, 58), (5, 168, 56), (5, 171, 54), (5, 174, 55), (5, 177, 59), (5, 180, 49), (5, 184, 6), (5, 187, 106), (5, 191, 57), (5, 194, 17), (5, 197, 7), (5, 200, 8), (5, 203, 15), (5, 206, 2), (5, 209, 18), (5, 213, 19), (5, 218, 108)] : List (Nat × Nat × Nat)), q_mw e ∈ q_Lw := List.forall_mem_cons.mpr ⟨q_mtab_40, List.forall_mem_cons.mpr ⟨q_mtab_41, List.forall_mem_cons.mpr ⟨q_mtab_42, List.forall_mem_cons.mpr ⟨q_mtab_43, List.forall_mem_cons.mpr ⟨q_mtab_44, List.forall_mem_cons.mpr ⟨q_mtab_45, List.forall_mem_cons.mpr ⟨q_mtab_46, List.forall_mem_cons.mpr ⟨q_mtab_47, List.forall_mem_cons.mpr ⟨q_mtab_48, List.forall_mem_cons.mpr ⟨q_mtab_49, List.forall_mem_cons.mpr ⟨q_mtab_50, List.forall_mem_cons.mpr ⟨q_mtab_51, List.forall_mem_cons.mpr ⟨q_mtab_52, List.forall_mem_cons.mpr ⟨q_mtab_53, List.forall_mem_cons.mpr ⟨q_mtab_54, List.forall_mem_cons.mpr ⟨q_mtab_55, List.forall_mem_cons.mpr ⟨q_mtab_56, List.forall_mem_cons.mpr ⟨q_mtab_57, List.forall_mem_cons.mpr ⟨q_mtab_58, List.forall_mem_cons.mpr ⟨q_mtab_59, List.forall_mem_cons.mpr ⟨q_mtab_60, List.forall_mem_cons.mpr ⟨q_mtab_61, List.forall_mem_cons.mpr ⟨q_mtab_62, List.forall_mem_cons.mpr ⟨q_mtab_63, List.forall_mem_cons.mpr ⟨q_mtab_64, List.forall_mem_cons.mpr ⟨q_mtab_65, List.forall_mem_cons.mpr ⟨q_mtab_66, List.forall_mem_cons.mpr ⟨q_mtab_67, List.forall_mem_cons.mpr ⟨q_mtab_68, List.forall_mem_cons.mpr ⟨q_mtab_69, List.forall_mem_cons.mpr ⟨q_mtab_70, List.forall_mem_cons.mpr ⟨q_mtab_71, List.forall_mem_cons.mpr ⟨q_mtab_72, List.forall_mem_cons.mpr ⟨q_mtab_73, List.forall_mem_cons.mpr ⟨q_mtab_74, List.forall_mem_cons.mpr ⟨q_mtab_75, List.forall_mem_cons.mpr ⟨q_mtab_76, List.forall_mem_cons.mpr ⟨q_mtab_77, List.forall_mem_cons.mpr ⟨q_mtab_78, List.forall_mem_cons.mpr ⟨q_mtab_79, fun _ h => absurd h List.not_mem_nil⟩⟩⟩⟩⟩⟩⟩⟩⟩⟩⟩⟩⟩⟩⟩⟩⟩⟩⟩⟩⟩⟩⟩⟩⟩⟩⟩⟩⟩⟩⟩⟩⟩⟩⟩⟩⟩⟩⟩⟩
set_option maxRecDepth 100000 in
theorem q_mtab_c2 : ∀ e ∈ ([(5, 222, 104), (5, 225, 105), (5, 228, 101), (5, 231, 44), (5, 234, 45), (5, 238, 107), (5, 245, 43), (5, 261, 70), (5, 264, 103), (6, 83, 133), (6, 90, 110), (6, 97, 114), (6, 106, 113), (6, 110, 115), (6, 114, 116), (6, 117, 121), (6, 132, 123), (6, 142, 125), (6, 148, 126), (6, 152, 128), (6, 155, 127), (6, 158, 124), (6, 162, 129), (6, 165, 131), (6, 168, 130), (6, 171, 132), (6, 175, 134), (6, 179, 135), (6, 182, 111), (6, 185, 112), (6, 188, 137), (6, 191, 141), (6, 194, 144), (6, 197, 143), (6, 200, 142), (6, 203, 148), (6, 206, 147), (6, 209, 149), (6, 213, 150), (6, 216, 151)] : List (Nat × Nat × Nat)), q_mw e ∈ q_Lw := List.forall_mem_cons.mpr ⟨q_mtab_80, List.forall_mem_cons.mpr ⟨q_mtab_81, List.forall_mem_cons.mpr ⟨q_mtab_82, List.forall_mem_cons.mpr ⟨q_mtab_83, List.forall_mem_cons.mpr ⟨q_mtab_84, List.forall_mem_cons.mpr ⟨q_mtab_85, List.forall_mem_cons.mpr ⟨q_mtab_86, List.forall_mem_cons.mpr ⟨q_mtab_87, List.forall_mem_cons.mpr ⟨q_mtab_88, List.forall_mem_cons.mpr ⟨q_mtab_89, List.forall_mem_cons.mpr ⟨q_mtab_90, List.forall_mem_cons.mpr ⟨q_mtab_91, List.forall_mem_cons.mpr ⟨q_mtab_92, List.forall_mem_cons.mpr ⟨q_mtab_93, List.forall_mem_cons.mpr ⟨q_mtab_94, List.forall_mem_cons.mpr ⟨q_mtab_95, List.forall_mem_cons.mpr ⟨q_mtab_96, List.forall_mem_cons.mpr ⟨q_mtab_97, List.forall_mem_cons.mpr ⟨q_mtab_98, List.forall_mem_cons.mpr ⟨q_mtab_99, List.forall_mem_cons.mpr ⟨q_mtab_100, List.forall_mem_cons.mpr ⟨q_mtab_101, List.forall_mem_cons.mpr ⟨q_mtab_102, List.forall_mem_cons.mpr ⟨q_mtab_103, List.forall_mem_cons.mpr ⟨q_mtab_104, List.forall_mem_cons.mpr ⟨q_mtab_105, List.forall_mem_cons.mpr ⟨q_mtab_106, List.forall_mem_cons.mpr ⟨q_mtab_107, List.forall_mem_cons.mpr ⟨q_mtab_108, List.forall_mem_cons.mpr ⟨q_mtab_109, List.forall_mem_cons.mpr ⟨q_mtab_110, List.forall_mem_cons.mpr ⟨q_mtab_111, List.forall_mem_cons.mpr ⟨q_mtab_112, List.forall_mem_cons.mpr ⟨q_mtab_113, List.forall_mem_cons.mpr ⟨q_mtab_114, List.forall_mem_cons.mpr ⟨q_mtab_115, List.forall_mem_cons.mpr ⟨q_mtab_116, List.forall_mem_cons.mpr ⟨q_mtab_117, List.forall_mem_cons.mpr ⟨q_mtab_118, List.forall_mem_cons.mpr ⟨q_mtab_119, fun _ h => absurd h List.not_mem_nil⟩⟩⟩⟩⟩⟩⟩⟩⟩⟩⟩⟩⟩⟩⟩⟩⟩⟩⟩⟩⟩⟩⟩⟩⟩⟩⟩⟩⟩⟩⟩⟩⟩⟩⟩⟩⟩⟩⟩⟩
set_option maxRecDepth 100000 in
theorem q_mtab_c3 : ∀ e ∈ ([(6, 219, 154), (6, 222, 153), (6, 225, 155), (6, 228, 157), (6, 231, 160), (6, 234, 161), (6, 237, 163), (6, 240, 162), (6, 244, 159), (6, 247, 164), (6, 250, 165), (6, 253, 168), (6, 256, 169), (6, 259, 170), (6, 262, 166), (6, 265, 172), (6, 268, 173), (6, 271, 177), (6, 277, 179), (6, 280, 180), (6, 283, 181), (6, 298, 188), (6, 305, 139), (6, 308, 197), (7, 335, 201), (7, 492, 202), (7, 495, 203), (7, 1059, 205), (8, 9, 204), (10, 9, 61), (10, 12, 109), (10, 13, 62), (10, 17, 117), (10, 18, 63), (10, 21, 118), (10, 22, 64), (10, 26, 119), (10, 27, 65), (10, 31, 120), (10, 32, 66)] : List (Nat × Nat × Nat)), q_mw e ∈ q_Lw := List.forall_mem_cons.mpr ⟨q_mtab_120, List.forall_mem_cons.mpr ⟨q_mtab_121, List.forall_mem_cons.mpr ⟨q_mtab_122, List.forall_mem_cons.mpr ⟨q_mtab_123, List.forall_mem_cons.mpr ⟨q_mtab_124, List.forall_mem_cons.mpr ⟨q_mtab_125, List.forall_mem_cons.mpr ⟨q_mtab_126, List.forall_mem_cons.mpr ⟨q_mtab_127, List.forall_mem_cons.mpr ⟨q_mtab_128, List.forall_mem_cons.mpr ⟨q_mtab_129, List.forall_mem_cons.mpr ⟨q_mtab_130, List.forall_mem_cons.mpr ⟨q_mtab_131, List.forall_mem_cons.mpr ⟨q_mtab_132, List.forall_mem_cons.mpr ⟨q_mtab_133, List.forall_mem_cons.mpr ⟨q_mtab_134, List.forall_mem_cons.mpr ⟨q_mtab_135, List.forall_mem_cons.mpr ⟨q_mtab_136, List.forall_mem_cons.mpr ⟨q_mtab_137, List.forall_mem_cons.mpr ⟨q_mtab_138, List.forall_mem_cons.mpr ⟨q_mtab_139, List.forall_mem_cons.mpr ⟨q_mtab_140, List.forall_mem_cons.mpr ⟨q_mtab_141, List.forall_mem_cons.mpr ⟨q_mtab_142, List.forall_mem_cons.mpr ⟨q_mtab_143, List.forall_mem_cons.mpr ⟨q_mtab_144, List.forall_mem_cons.mpr ⟨q_mtab_145, List.forall_mem_cons.mpr ⟨q_mtab_146, List.forall_mem_cons.mpr ⟨q_mtab_147, List.forall_mem_cons.mpr ⟨q_mtab_148, List.forall_mem_cons.mpr ⟨q_mtab_149, List.forall_mem_cons.mpr ⟨q_mtab_150, List.forall_mem_cons.mpr ⟨q_mtab_151, List.forall_mem_cons.mpr ⟨q_mtab_152, List.forall_mem_cons.mpr ⟨q_mtab_153, List.forall_mem_cons.mpr ⟨q_mtab_154, List.forall_mem_cons.mpr ⟨q_mtab_155, List.forall_mem_cons.mpr ⟨q_mtab_156, List.forall_mem_cons.mpr ⟨q_mtab_157, List.forall_mem_cons.mpr ⟨q_mtab_158, List.forall_mem_cons.mpr ⟨q_mtab_159, fun _ h => absurd h List.not_mem_nil⟩⟩⟩⟩⟩⟩⟩⟩⟩⟩⟩⟩⟩⟩⟩⟩⟩⟩⟩⟩⟩⟩⟩⟩⟩⟩⟩⟩⟩⟩⟩⟩⟩⟩⟩⟩⟩⟩⟩⟩
set_option maxRecDepth 100000 in
theorem q_mtab_c4 : ∀ e ∈ ([(10, 36, 122), (10, 37, 67), (10, 41, 133), (10, 42, 68), (10, 45, 136), (10, 46, 69), (10, 49, 138), (10, 50, 70), (10, 53, 139), (10, 54, 71), (10, 57, 140), (10, 58, 72), (10, 61, 145), (10, 62, 73), (10, 65, 146), (10, 66, 74), (10, 69, 152), (10, 70, 75), (10, 73, 156), (10, 74, 76), (10, 77, 158), (10, 78, 77), (10, 81, 167), (10, 82, 78), (10, 85, 171), (10, 86, 79), (10, 89, 174), (10, 90, 80), (10, 93, 175), (10, 94, 81), (10, 97, 176), (10, 98, 82), (10, 102, 178), (10, 103, 83), (10, 106, 182), (10, 107, 84), (10, 110, 183), (10, 111, 85), (10, 115, 184), (10, 116, 86)] : List (Nat × Nat × Nat)), q_mw e ∈ q_Lw := List.forall_mem_cons.mpr ⟨q_mtab_160, List.forall_mem_cons.mpr ⟨q_mtab_161, List.forall_mem_cons.mpr ⟨q_mtab_162, List.forall_mem_cons.mpr ⟨q_mtab_163, List.forall_mem_cons.mpr ⟨q_mtab_164, List.forall_mem_cons.mpr ⟨q_mtab_165, List.forall_mem_cons.mpr ⟨q_mtab_166, List.forall_mem_cons.mpr ⟨q_mtab_167, List.forall_mem_cons.mpr ⟨q_mtab_168, List.forall_mem_cons.mpr ⟨q_mtab_169, List.forall_mem_cons.mpr ⟨q_mtab_170, List.forall_mem_cons.mpr ⟨q_mtab_171, List.forall_mem_cons.mpr ⟨q_mtab_172, List.forall_mem_cons.mpr ⟨q_mtab_173, List.forall_mem_cons.mpr ⟨q_mtab_174, List.forall_mem_cons.mpr ⟨q_mtab_175, List.forall_mem_cons.mpr ⟨q_mtab_176, List.forall_mem_cons.mpr ⟨q_mtab_177, List.forall_mem_cons.mpr ⟨q_mtab_178, List.forall_mem_cons.mpr ⟨q_mtab_179, List.forall_mem_cons.mpr ⟨q_mtab_180, List.forall_mem_cons.mpr ⟨q_mtab_181, List.forall_mem_cons.mpr ⟨q_mtab_182, List.forall_mem_cons.mpr ⟨q_mtab_183, List.forall_mem_cons.mpr ⟨q_mtab_184, List.forall_mem_cons.mpr ⟨q_mtab_185, List.forall_mem_cons.mpr ⟨q_mtab_186, List.forall_mem_cons.mpr ⟨q_mtab_187, List.forall_mem_cons.mpr ⟨q_mtab_188, List.forall_mem_cons.mpr ⟨q_mtab_189, List.forall_mem_cons.mpr ⟨q_mtab_190, List.forall_mem_cons.mpr ⟨q_mtab_191, List.forall_mem_cons.mpr ⟨q_mtab_192, List.forall_mem_cons.mpr ⟨q_mtab_193, List.forall_mem_cons.mpr ⟨q_mtab_194, List.forall_mem_cons.mpr ⟨q_mtab_195, List.forall_mem_cons.mpr ⟨q_mtab_196, List.forall_mem_cons.mpr ⟨q_mtab_197, List.forall_mem_cons.mpr ⟨q_mtab_198, List.forall_mem_cons.mpr ⟨q_mtab_199, fun _ h => absurd h List.not_mem_nil⟩⟩⟩⟩⟩⟩⟩⟩⟩⟩⟩⟩⟩⟩⟩⟩⟩⟩⟩⟩⟩⟩⟩⟩⟩⟩⟩⟩⟩⟩⟩⟩⟩⟩⟩⟩⟩⟩⟩⟩
set_option maxRecDepth 100000 in
theorem q_mtab_c5 : ∀ e ∈ ([(10, 119, 185), (10, 120, 87), (10, 123, 186), (10, 124, 88), (10, 127, 187), (10, 128, 89), (10, 131, 189), (10, 132, 90), (10, 136, 190), (10, 137, 91), (10, 140, 191), (10, 141, 92), (10, 144, 192), (10, 145, 93), (10, 148, 193), (10, 149, 94), (10, 152, 194), (10, 153, 95), (10, 157, 195), (10, 158, 96), (10, 161, 196), (10, 162, 97), (10, 165, 198)] : List (Nat × Nat × Nat)), q_mw e ∈ q_Lw := List.forall_mem_cons.mpr ⟨q_mtab_200, List.forall_mem_cons.mpr ⟨q_mtab_201, List.forall_mem_cons.mpr ⟨q_mtab_202, List.forall_mem_cons.mpr ⟨q_mtab_203, List.forall_mem_cons.mpr ⟨q_mtab_204, List.forall_mem_cons.mpr ⟨q_mtab_205, List.forall_mem_cons.mpr ⟨q_mtab_206, List.forall_mem_cons.mpr ⟨q_mtab_207, List.forall_mem_cons.mpr ⟨q_mtab_208, List.forall_mem_cons.mpr ⟨q_mtab_209, List.forall_mem_cons.mpr ⟨q_mtab_210, List.forall_mem_cons.mpr ⟨q_mtab_211, List.forall_mem_cons.mpr ⟨q_mtab_212, List.forall_mem_cons.mpr ⟨q_mtab_213, List.forall_mem_cons.mpr ⟨q_mtab_214, List.forall_mem_cons.mpr ⟨q_mtab_215, List.forall_mem_cons.mpr ⟨q_mtab_216, List.forall_mem_cons.mpr ⟨q_mtab_217, List.forall_mem_cons.mpr ⟨q_mtab_218, List.forall_mem_cons.mpr ⟨q_mtab_219, List.forall_mem_cons.mpr ⟨q_mtab_220, List.forall_mem_cons.mpr ⟨q_mtab_221, List.forall_mem_cons.mpr ⟨q_mtab_222, fun _ h => absurd h List.not_mem_nil⟩⟩⟩⟩⟩⟩⟩⟩⟩⟩⟩⟩⟩⟩⟩⟩⟩⟩⟩⟩⟩⟩⟩
set_option maxRecDepth 100000 in
theorem q_mtab_ok : ∀ e ∈ q_mtab, q_mw e ∈ q_Lw := (List.forall_mem_append.mpr ⟨q_mtab_c0, List.forall_mem_append.mpr ⟨q_mtab_c1, List.forall_mem_append.mpr ⟨q_mtab_c2, List.forall_mem_append.mpr ⟨q_mtab_c3, List.forall_mem_append.mpr ⟨q_mtab_c4, q_mtab_c5⟩⟩⟩⟩⟩ : _)
def q_otab : List (Nat × Nat) := [(0, 3), (1, 3), (2, 3), (3, 1), (4, 3), (5, 3), (6, 1)]
set_option maxRecDepth 100000 in
theorem q_otab_0 : q_ow (0, 3) ∈ q_Lw := q_lx (q_tw2 11 rfl) rfl
set_option maxRecDepth 100000 in
theorem q_otab_1 : q_ow (1, 3) ∈ q_Lw := q_lx (q_tw1 27 rfl) rfl
set_option maxRecDepth 100000 in
theorem q_otab_2 : q_ow (2, 3) ∈ q_Lw := q_lx (q_tw2 88 rfl) rfl
set_option maxRecDepth 100000 in
theorem q_otab_3 : q_ow (3, 1) ∈ q_Lw := q_lx (q_tw1 220 rfl) rfl
set_option maxRecDepth 100000 in
theorem q_otab_4 : q_ow (4, 3) ∈ q_Lw := q_lx (q_tw2 5 rfl) rfl
set_option maxRecDepth 100000 in
theorem q_otab_5 : q_ow (5, 3) ∈ q_Lw := q_lx (q_tw1 19 rfl) rfl
set_option maxRecDepth 100000 in
theorem q_otab_6 : q_ow (6, 1) ∈ q_Lw := q_lx (q_tw4 5 rfl) rfl
set_option maxRecDepth 100000 in
theorem q_otab_c0 : ∀ e ∈ ([(0, 3), (1, 3), (2, 3), (3, 1), (4, 3), (5, 3), (6, 1)] : List (Nat × Nat)), q_ow e ∈ q_Lw := List.forall_mem_cons.mpr ⟨q_otab_0, List.forall_mem_cons.mpr ⟨q_otab_1, List.forall_mem_cons.mpr ⟨q_otab_2, List.forall_mem_cons.mpr ⟨q_otab_3, List.forall_mem_cons.mpr ⟨q_otab_4, List.forall_mem_cons.mpr ⟨q_otab_5, List.forall_mem_cons.mpr ⟨q_otab_6, fun _ h => absurd h List.not_mem_nil⟩⟩⟩⟩⟩⟩⟩
set_option maxRecDepth 100000 in
theorem q_otab_ok : ∀ e ∈ q_otab, q_ow e ∈ q_Lw := q_otab_c0
def q_atab : List (Nat × Nat) := [(0, 29), (1, 45), (4, 51), (5, 255)]
set_option maxRecDepth 100000 in
theorem q_atab_0 : q_aw (0, 29) ∈ q_Lw := q_lx (q_tw3 60 rfl) rfl
set_option maxRecDepth 100000 in
theorem q_atab_1 : q_aw (1, 45) ∈ q_Lw := q_lx (q_tw1 205 rfl) rfl
set_option maxRecDepth 100000 in
theorem q_atab_2 : q_aw (4, 51) ∈ q_Lw := q_lx (q_tw3 61 rfl) rfl
set_option maxRecDepth 100000 in
theorem q_atab_3 : q_aw (5, 255) ∈ q_Lw := q_lx (q_tw3 227 rfl) rfl
set_option maxRecDepth 100000 in
theorem q_atab_c0 : ∀ e ∈ ([(0, 29), (1, 45), (4, 51), (5, 255)] : List (Nat × Nat)), q_aw e ∈ q_Lw := List.forall_mem_cons.mpr ⟨q_atab_0, List.forall_mem_cons.mpr ⟨q_atab_1, List.forall_mem_cons.mpr ⟨q_atab_2, List.forall_mem_cons.mpr ⟨q_atab_3, fun _ h => absurd h List.not_mem_nil⟩⟩⟩⟩
set_option maxRecDepth 100000 in
theorem q_atab_ok : ∀ e ∈ q_atab, q_aw e ∈ q_Lw := q_atab_c0
def q_ktab : List (Nat × Nat × Int) := [(5, 190, (-100000)), (5, 237, 100000), (6, 161, 100000), (6, 243, (-100000)), (6, 297, 99999)]
set_option maxRecDepth 100000 in
theorem q_ktab_0 : q_kw (5, 190, (-100000)) ∈ q_Lw := q_lx (q_tw3 78 rfl) rfl
set_option maxRecDepth 100000 in
theorem q_ktab_1 : q_kw (5, 237, 100000) ∈ q_Lw := q_lx (q_tw3 194 rfl) rfl
set_option maxRecDepth 100000 in
theorem q_ktab_2 : q_kw (6, 161, 100000) ∈ q_Lw := q_lx (q_tw4 25 rfl) rfl
set_option maxRecDepth 100000 in
theorem q_ktab_3 : q_kw (6, 243, (-100000)) ∈ q_Lw := q_lx (q_tw5 73 rfl) rfl
set_option maxRecDepth 100000 in
theorem q_ktab_4 : q_kw (6, 297, 99999) ∈ q_Lw := q_lx (q_tw5 190 rfl) rfl
set_option maxRecDepth 100000 in
theorem q_ktab_c0 : ∀ e ∈ ([(5, 190, (-100000)), (5, 237, 100000), (6, 161, 100000), (6, 243, (-100000)), (6, 297, 99999)] : List (Nat × Nat × Int)), q_kw e ∈ q_Lw := List.forall_mem_cons.mpr ⟨q_ktab_0, List.forall_mem_cons.mpr ⟨q_ktab_1, List.forall_mem_cons.mpr ⟨q_ktab_2, List.forall_mem_cons.mpr ⟨q_ktab_3, List.forall_mem_cons.mpr ⟨q_ktab_4, fun _ h => absurd h List.not_mem_nil⟩⟩⟩⟩⟩
set_option maxRecDepth 100000 in
theorem q_ktab_ok : ∀ e ∈ q_ktab, q_kw e ∈ q_Lw := q_ktab_c0
def q_ltab : List (Nat × Nat × Int) := [(5, 216, (-4611686018427387904)), (5, 268, 48271), (5, 270, 2147483647), (5, 272, 5), (5, 274, 100), (6, 275, (-4611686018427387904)), (6, 286, 48271), (6, 288, 2147483647), (6, 290, 5), (6, 292, 100)]
set_option maxRecDepth 100000 in
theorem q_ltab_0 : q_kl (5, 216, (-4611686018427387904)) ∈ q_Lw := q_lx (q_tw3 139 rfl) rfl
set_option maxRecDepth 100000 in
theorem q_ltab_1 : q_kl (5, 268, 48271) ∈ q_Lw := q_lx (q_tw3 199 rfl) rfl
set_option maxRecDepth 100000 in
theorem q_ltab_2 : q_kl (5, 270, 2147483647) ∈ q_Lw := q_lx (q_tw3 200 rfl) rfl
set_option maxRecDepth 100000 in
theorem q_ltab_3 : q_kl (5, 272, 5) ∈ q_Lw := q_lx (q_tw3 201 rfl) rfl
set_option maxRecDepth 100000 in
theorem q_ltab_4 : q_kl (5, 274, 100) ∈ q_Lw := q_lx (q_tw3 202 rfl) rfl
set_option maxRecDepth 100000 in
theorem q_ltab_5 : q_kl (6, 275, (-4611686018427387904)) ∈ q_Lw := q_lx (q_tw5 149 rfl) rfl
set_option maxRecDepth 100000 in
theorem q_ltab_6 : q_kl (6, 286, 48271) ∈ q_Lw := q_lx (q_tw5 195 rfl) rfl
set_option maxRecDepth 100000 in
theorem q_ltab_7 : q_kl (6, 288, 2147483647) ∈ q_Lw := q_lx (q_tw5 196 rfl) rfl
set_option maxRecDepth 100000 in
theorem q_ltab_8 : q_kl (6, 290, 5) ∈ q_Lw := q_lx (q_tw5 197 rfl) rfl
set_option maxRecDepth 100000 in
theorem q_ltab_9 : q_kl (6, 292, 100) ∈ q_Lw := q_lx (q_tw5 198 rfl) rfl
set_option maxRecDepth 100000 in
theorem q_ltab_c0 : ∀ e ∈ ([(5, 216, (-4611686018427387904)), (5, 268, 48271), (5, 270, 2147483647), (5, 272, 5), (5, 274, 100), (6, 275, (-4611686018427387904)), (6, 286, 48271), (6, 288, 2147483647), (6, 290, 5), (6, 292, 100)] : List (Nat × Nat × Int)), q_kl e ∈ q_Lw := List.forall_mem_cons.mpr ⟨q_ltab_0, List.forall_mem_cons.mpr ⟨q_ltab_1, List.forall_mem_cons.mpr ⟨q_ltab_2, List.forall_mem_cons.mpr ⟨q_ltab_3, List.forall_mem_cons.mpr ⟨q_ltab_4, List.forall_mem_cons.mpr ⟨q_ltab_5, List.forall_mem_cons.mpr ⟨q_ltab_6, List.forall_mem_cons.mpr ⟨q_ltab_7, List.forall_mem_cons.mpr ⟨q_ltab_8, List.forall_mem_cons.mpr ⟨q_ltab_9, fun _ h => absurd h List.not_mem_nil⟩⟩⟩⟩⟩⟩⟩⟩⟩⟩
set_option maxRecDepth 100000 in
theorem q_ltab_ok : ∀ e ∈ q_ltab, q_kl e ∈ q_Lw := q_ltab_c0
def q_ctab : List (Nat × Nat × Nat) := [(1, 51, 3), (4, 9, 0), (5, 9, 1), (5, 22, 2), (5, 58, 4), (10, 7, 5), (10, 10, 6)]
set_option maxRecDepth 100000 in
theorem q_ctab_0 : q_cw (1, 51, 3) ∈ q_Lw := q_lx (q_tw1 208 rfl) rfl
set_option maxRecDepth 100000 in
theorem q_ctab_1 : q_cw (4, 9, 0) ∈ q_Lw := q_lx (q_tw2 6 rfl) rfl
set_option maxRecDepth 100000 in
theorem q_ctab_2 : q_cw (5, 9, 1) ∈ q_Lw := q_lx (q_tw1 22 rfl) rfl
set_option maxRecDepth 100000 in
theorem q_ctab_3 : q_cw (5, 22, 2) ∈ q_Lw := q_lx (q_tw1 63 rfl) rfl
set_option maxRecDepth 100000 in
theorem q_ctab_4 : q_cw (5, 58, 4) ∈ q_Lw := q_lx (q_tw2 0 rfl) rfl
set_option maxRecDepth 100000 in
theorem q_ctab_5 : q_cw (10, 7, 5) ∈ q_Lw := q_lx (q_tw1 14 rfl) rfl
set_option maxRecDepth 100000 in
theorem q_ctab_6 : q_cw (10, 10, 6) ∈ q_Lw := q_lx (q_tw4 0 rfl) rfl
set_option maxRecDepth 100000 in
theorem q_ctab_c0 : ∀ e ∈ ([(1, 51, 3), (4, 9, 0), (5, 9, 1), (5, 22, 2), (5, 58, 4), (10, 7, 5), (10, 10, 6)] : List (Nat × Nat × Nat)), q_cw e ∈ q_Lw := List.forall_mem_cons.mpr ⟨q_ctab_0, List.forall_mem_cons.mpr ⟨q_ctab_1, List.forall_mem_cons.mpr ⟨q_ctab_2, List.forall_mem_cons.mpr ⟨q_ctab_3, List.forall_mem_cons.mpr ⟨q_ctab_4, List.forall_mem_cons.mpr ⟨q_ctab_5, List.forall_mem_cons.mpr ⟨q_ctab_6, fun _ h => absurd h List.not_mem_nil⟩⟩⟩⟩⟩⟩⟩
set_option maxRecDepth 100000 in
theorem q_ctab_ok : ∀ e ∈ q_ctab, q_cw e ∈ q_Lw := q_ctab_c0
def q_stab : List (Nat × Nat × Nat) := [(1, 110, 1), (1, 116, 2), (1, 118, 3), (1, 120, 4), (1, 122, 5), (1, 124, 6), (1, 125, 7), (1, 127, 8), (1, 129, 9), (1, 131, 10), (1, 133, 11), (1, 135, 12), (5, 28, 0)]
set_option maxRecDepth 100000 in
theorem q_wc_0 : Cond.code (q_mY 0) (q_mC 0) 2 (q_mR 0) ∈ q_Lw := q_lx (q_tw2 10 rfl) rfl
set_option maxRecDepth 100000 in
theorem q_wc_1 : Cond.code (q_mY 1) (q_mC 1) 2 (q_mR 1) ∈ q_Lw := q_lx (q_tw3 59 rfl) rfl
set_option maxRecDepth 100000 in
theorem q_wc_2 : Cond.code (q_mY 2) (q_mC 2) 2 (q_mR 2) ∈ q_Lw := q_lx (q_tw3 107 rfl) rfl
set_option maxRecDepth 100000 in
theorem q_wc_3 : Cond.code (q_mY 3) (q_mC 3) 1 (q_mR 3) ∈ q_Lw := q_lx (q_tw2 134 rfl) rfl
set_option maxRecDepth 100000 in
theorem q_wc_4 : Cond.code (q_mY 4) (q_mC 4) 4 (q_mR 4) ∈ q_Lw := q_lx (q_tw2 138 rfl) rfl
set_option maxRecDepth 100000 in
theorem q_wc_5 : Cond.code (q_mY 5) (q_mC 5) 4 (q_mR 5) ∈ q_Lw := q_lx (q_tw2 158 rfl) rfl
set_option maxRecDepth 100000 in
theorem q_wc_6 : Cond.code (q_mY 6) (q_mC 6) 3 (q_mR 6) ∈ q_Lw := q_lx (q_tw3 65 rfl) rfl
set_option maxRecDepth 100000 in
theorem q_wc_7 : Cond.code (q_mY 7) (q_mC 7) 3 (q_mR 7) ∈ q_Lw := q_lx (q_tw3 91 rfl) rfl
set_option maxRecDepth 100000 in
theorem q_wc_8 : Cond.code (q_mY 8) (q_mC 8) 3 (q_mR 8) ∈ q_Lw := q_lx (q_tw3 95 rfl) rfl
set_option maxRecDepth 100000 in
theorem q_wc_9 : Cond.code (q_mY 9) (q_mC 9) 6 (q_mR 9) ∈ q_Lw := q_lx (q_tw3 3 rfl) rfl
set_option maxRecDepth 100000 in
theorem q_wc_10 : Cond.code (q_mY 10) (q_mC 10) 5 (q_mR 10) ∈ q_Lw := q_lx (q_tw2 239 rfl) rfl
set_option maxRecDepth 100000 in
theorem q_wc_11 : Cond.code (q_mY 11) (q_mC 11) 4 (q_mR 11) ∈ q_Lw := q_lx (q_tw3 43 rfl) rfl
set_option maxRecDepth 100000 in
theorem q_wc_12 : Cond.code (q_mY 12) (q_mC 12) 4 (q_mR 12) ∈ q_Lw := q_lx (q_tw3 39 rfl) rfl
set_option maxRecDepth 100000 in
theorem q_wc_13 : Cond.code (q_mY 13) (q_mC 13) 4 (q_mR 13) ∈ q_Lw := q_lx (q_tw3 35 rfl) rfl
set_option maxRecDepth 100000 in
theorem q_wc_14 : Cond.code (q_mY 14) (q_mC 14) 4 (q_mR 14) ∈ q_Lw := q_lx (q_tw3 47 rfl) rfl
set_option maxRecDepth 100000 in
theorem q_wc_15 : Cond.code (q_mY 15) (q_mC 15) 5 (q_mR 15) ∈ q_Lw := q_lx (q_tw3 103 rfl) rfl
set_option maxRecDepth 100000 in
theorem q_wc_16 : Cond.code (q_mY 16) (q_mC 16) 4 (q_mR 16) ∈ q_Lw := q_lx (q_tw3 112 rfl) rfl
set_option maxRecDepth 100000 in
theorem q_wc_17 : Cond.code (q_mY 17) (q_mC 17) 3 (q_mR 17) ∈ q_Lw := q_lx (q_tw3 86 rfl) rfl
set_option maxRecDepth 100000 in
theorem q_wc_18 : Cond.code (q_mY 18) (q_mC 18) 2 (q_mR 18) ∈ q_Lw := q_lx (q_tw3 122 rfl) rfl
set_option maxRecDepth 100000 in
theorem q_wc_19 : Cond.code (q_mY 19) (q_mC 19) 2 (q_mR 19) ∈ q_Lw := q_lx (q_tw3 126 rfl) rfl
set_option maxRecDepth 100000 in
theorem q_wc_20 : Cond.code (q_mY 20) (q_mC 20) 1 (q_mR 20) ∈ q_Lw := q_lx (q_tw1 26 rfl) rfl
set_option maxRecDepth 100000 in
theorem q_wc_21 : Cond.code (q_mY 21) (q_mC 21) 1 (q_mR 21) ∈ q_Lw := q_lx (q_tw1 239 rfl) rfl
set_option maxRecDepth 100000 in
theorem q_wc_22 : Cond.code (q_mY 22) (q_mC 22) 2 (q_mR 22) ∈ q_Lw := q_lx (q_tw1 117 rfl) rfl
set_option maxRecDepth 100000 in
theorem q_wc_23 : Cond.code (q_mY 23) (q_mC 23) 1 (q_mR 23) ∈ q_Lw := q_lx (q_tw1 121 rfl) rfl
set_option maxRecDepth 100000 in
theorem q_wc_24 : Cond.code (q_mY 24) (q_mC 24) 3 (q_mR 24) ∈ q_Lw := q_lx (q_tw1 204 rfl) rfl
set_option maxRecDepth 100000 in
theorem q_wc_25 : Cond.code (q_mY 25) (q_mC 25) 3 (q_mR 25) ∈ q_Lw := q_lx (q_tw1 164 rfl) rfl
set_option maxRecDepth 100000 in
theorem q_wc_26 : Cond.code (q_mY 26) (q_mC 26) 2 (q_mR 26) ∈ q_Lw := q_lx (q_tw1 168 rfl) rfl
set_option maxRecDepth 100000 in
theorem q_wc_27 : Cond.code (q_mY 27) (q_mC 27) 1 (q_mR 27) ∈ q_Lw := q_lx (q_tw1 172 rfl) rfl
set_option maxRecDepth 100000 in
theorem q_wc_28 : Cond.code (q_mY 28) (q_mC 28) 3 (q_mR 28) ∈ q_Lw := q_lx (q_tw1 188 rfl) rfl
set_option maxRecDepth 100000 in
theorem q_wc_29 : Cond.code (q_mY 29) (q_mC 29) 3 (q_mR 29) ∈ q_Lw := q_lx (q_tw1 176 rfl) rfl
set_option maxRecDepth 100000 in
theorem q_wc_30 : Cond.code (q_mY 30) (q_mC 30) 3 (q_mR 30) ∈ q_Lw := q_lx (q_tw1 180 rfl) rfl
set_option maxRecDepth 100000 in
theorem q_wc_31 : Cond.code (q_mY 31) (q_mC 31) 3 (q_mR 31) ∈ q_Lw := q_lx (q_tw1 184 rfl) rfl
set_option maxRecDepth 100000 in
theorem q_wc_32 : Cond.code (q_mY 32) (q_mC 32) 4 (q_mR 32) ∈ q_Lw := q_lx (q_tw1 192 rfl) rfl
set_option maxRecDepth 100000 in
theorem q_wc_33 : Cond.code (q_mY 33) (q_mC 33) 3 (q_mR 33) ∈ q_Lw := q_lx (q_tw1 196 rfl) rfl
set_option maxRecDepth 100000 in
theorem q_wc_34 : Cond.code (q_mY 34) (q_mC 34) 3 (q_mR 34) ∈ q_Lw := q_lx (q_tw1 200 rfl) rfl
set_option maxRecDepth 100000 in
theorem q_wc_35 : Cond.code (q_mY 35) (q_mC 35) 2 (q_mR 35) ∈ q_Lw := q_lx (q_tw1 125 rfl) rfl
set_option maxRecDepth 100000 in
theorem q_wc_36 : Cond.code (q_mY 36) (q_mC 36) 1 (q_mR 36) ∈ q_Lw := q_lx (q_tw1 132 rfl) rfl
set_option maxRecDepth 100000 in
theorem q_wc_37 : Cond.code (q_mY 37) (q_mC 37) 1 (q_mR 37) ∈ q_Lw := q_lx (q_tw1 157 rfl) rfl
set_option maxRecDepth 100000 in
theorem q_wc_38 : Cond.code (q_mY 38) (q_mC 38) 6 (q_mR 38) ∈ q_Lw := q_lx (q_tw1 137 rfl) rfl
set_option maxRecDepth 100000 in
theorem q_wc_39 : Cond.code (q_mY 39) (q_mC 39) 1 (q_mR 39) ∈ q_Lw := q_lx (q_tw1 128 rfl) rfl
set_option maxRecDepth 100000 in
theorem q_wc_40 : Cond.code (q_mY 40) (q_mC 40) 1 (q_mR 40) ∈ q_Lw := q_lx (q_tw1 153 rfl) rfl
set_option maxRecDepth 100000 in
theorem q_wc_41 : Cond.code (q_mY 41) (q_mC 41) 1 (q_mR 41) ∈ q_Lw := q_lx (q_tw1 160 rfl) rfl
set_option maxRecDepth 100000 in
theorem q_wc_42 : Cond.code (q_mY 42) (q_mC 42) 1 (q_mR 42) ∈ q_Lw := q_lx (q_tw2 87 rfl) rfl
set_option maxRecDepth 100000 in
theorem q_wc_43 : Cond.code (q_mY 43) (q_mC 43) 1 (q_mR 43) ∈ q_Lw := q_lx (q_tw3 157 rfl) rfl
set_option maxRecDepth 100000 in
theorem q_wc_44 : Cond.code (q_mY 44) (q_mC 44) 4 (q_mR 44) ∈ q_Lw := q_lx (q_tw3 185 rfl) rfl
set_option maxRecDepth 100000 in
theorem q_wc_45 : Cond.code (q_mY 45) (q_mC 45) 3 (q_mR 45) ∈ q_Lw := q_lx (q_tw3 189 rfl) rfl
set_option maxRecDepth 100000 in
theorem q_wc_46 : Cond.code (q_mY 46) (q_mC 46) 4 (q_mR 46) ∈ q_Lw := q_lx (q_tw1 219 rfl) rfl
set_option maxRecDepth 100000 in
theorem q_wc_47 : Cond.code (q_mY 47) (q_mC 47) 10 (q_mR 47) ∈ q_Lw := q_lx (q_tw2 197 rfl) rfl
set_option maxRecDepth 100000 in
theorem q_wc_48 : Cond.code (q_mY 48) (q_mC 48) 3 (q_mR 48) ∈ q_Lw := q_lx (q_tw2 4 rfl) rfl
set_option maxRecDepth 100000 in
theorem q_wc_49 : Cond.code (q_mY 49) (q_mC 49) 2 (q_mR 49) ∈ q_Lw := q_lx (q_tw3 55 rfl) rfl
set_option maxRecDepth 100000 in
theorem q_wc_50 : Cond.code (q_mY 50) (q_mC 50) 5 (q_mR 50) ∈ q_Lw := q_lx (q_tw2 211 rfl) rfl
set_option maxRecDepth 100000 in
theorem q_wc_51 : Cond.code (q_mY 51) (q_mC 51) 3 (q_mR 51) ∈ q_Lw := q_lx (q_tw2 219 rfl) rfl
set_option maxRecDepth 100000 in
theorem q_wc_52 : Cond.code (q_mY 52) (q_mC 52) 4 (q_mR 52) ∈ q_Lw := q_lx (q_tw2 162 rfl) rfl
set_option maxRecDepth 100000 in
theorem q_wc_53 : Cond.code (q_mY 53) (q_mC 53) 5 (q_mR 53) ∈ q_Lw := q_lx (q_tw2 190 rfl) rfl
set_option maxRecDepth 100000 in
theorem q_wc_54 : Cond.code (q_mY 54) (q_mC 54) 5 (q_mR 54) ∈ q_Lw := q_lx (q_tw2 234 rfl) rfl
set_option maxRecDepth 100000 in
theorem q_wc_55 : Cond.code (q_mY 55) (q_mC 55) 5 (q_mR 55) ∈ q_Lw := q_lx (q_tw3 16 rfl) rfl
set_option maxRecDepth 100000 in
theorem q_wc_56 : Cond.code (q_mY 56) (q_mC 56) 4 (q_mR 56) ∈ q_Lw := q_lx (q_tw3 7 rfl) rfl
set_option maxRecDepth 100000 in
theorem q_wc_57 : Cond.code (q_mY 57) (q_mC 57) 3 (q_mR 57) ∈ q_Lw := q_lx (q_tw3 82 rfl) rfl
set_option maxRecDepth 100000 in
theorem q_wc_58 : Cond.code (q_mY 58) (q_mC 58) 3 (q_mR 58) ∈ q_Lw := q_lx (q_tw2 230 rfl) rfl
set_option maxRecDepth 100000 in
theorem q_wc_59 : Cond.code (q_mY 59) (q_mC 59) 4 (q_mR 59) ∈ q_Lw := q_lx (q_tw3 24 rfl) rfl
set_option maxRecDepth 100000 in
theorem q_wc_60 : Cond.code (q_mY 60) (q_mC 60) 6 (q_mR 60) ∈ q_Lw := q_lx (q_tw3 29 rfl) rfl
set_option maxRecDepth 100000 in
theorem q_wc_61 : Cond.code (q_mY 61) (q_mC 61) 3 (q_mR 61) ∈ q_Lw := q_lx (q_tw1 18 rfl) rfl
set_option maxRecDepth 100000 in
theorem q_wc_62 : Cond.code (q_mY 62) (q_mC 62) 2 (q_mR 62) ∈ q_Lw := q_lx (q_tw2 130 rfl) rfl
set_option maxRecDepth 100000 in
theorem q_wc_63 : Cond.code (q_mY 63) (q_mC 63) 3 (q_mR 63) ∈ q_Lw := q_lx (q_tw2 142 rfl) rfl
set_option maxRecDepth 100000 in
theorem q_wc_64 : Cond.code (q_mY 64) (q_mC 64) 5 (q_mR 64) ∈ q_Lw := q_lx (q_tw2 146 rfl) rfl
set_option maxRecDepth 100000 in
theorem q_wc_65 : Cond.code (q_mY 65) (q_mC 65) 3 (q_mR 65) ∈ q_Lw := q_lx (q_tw2 154 rfl) rfl
set_option maxRecDepth 100000 in
theorem q_wc_66 : Cond.code (q_mY 66) (q_mC 66) 7 (q_mR 66) ∈ q_Lw := q_lx (q_tw2 167 rfl) rfl
set_option maxRecDepth 100000 in
theorem q_wc_67 : Cond.code (q_mY 67) (q_mC 67) 3 (q_mR 67) ∈ q_Lw := q_lx (q_tw2 174 rfl) rfl
set_option maxRecDepth 100000 in
theorem q_wc_68 : Cond.code (q_mY 68) (q_mC 68) 3 (q_mR 68) ∈ q_Lw := q_lx (q_tw2 178 rfl) rfl
set_option maxRecDepth 100000 in
theorem q_wc_69 : Cond.code (q_mY 69) (q_mC 69) 4 (q_mR 69) ∈ q_Lw := q_lx (q_tw2 182 rfl) rfl
set_option maxRecDepth 100000 in
theorem q_wc_70 : Cond.code (q_mY 70) (q_mC 70) 4 (q_mR 70) ∈ q_Lw := q_lx (q_tw2 207 rfl) rfl
set_option maxRecDepth 100000 in
theorem q_wc_71 : Cond.code (q_mY 71) (q_mC 71) 5 (q_mR 71) ∈ q_Lw := q_lx (q_tw2 215 rfl) rfl
set_option maxRecDepth 100000 in
theorem q_wc_72 : Cond.code (q_mY 72) (q_mC 72) 3 (q_mR 72) ∈ q_Lw := q_lx (q_tw2 223 rfl) rfl
set_option maxRecDepth 100000 in
theorem q_wc_73 : Cond.code (q_mY 73) (q_mC 73) 4 (q_mR 73) ∈ q_Lw := q_lx (q_tw3 11 rfl) rfl
set_option maxRecDepth 100000 in
theorem q_wc_74 : Cond.code (q_mY 74) (q_mC 74) 1 (q_mR 74) ∈ q_Lw := q_lx (q_tw3 20 rfl) rfl
set_option maxRecDepth 100000 in
theorem q_wc_75 : Cond.code (q_mY 75) (q_mC 75) 5 (q_mR 75) ∈ q_Lw := q_lx (q_tw3 51 rfl) rfl
set_option maxRecDepth 100000 in
theorem q_wc_76 : Cond.code (q_mY 76) (q_mC 76) 3 (q_mR 76) ∈ q_Lw := q_lx (q_tw3 69 rfl) rfl
set_option maxRecDepth 100000 in
theorem q_wc_77 : Cond.code (q_mY 77) (q_mC 77) 2 (q_mR 77) ∈ q_Lw := q_lx (q_tw3 77 rfl) rfl
set_option maxRecDepth 100000 in
theorem q_wc_78 : Cond.code (q_mY 78) (q_mC 78) 2 (q_mR 78) ∈ q_Lw := q_lx (q_tw3 99 rfl) rfl
set_option maxRecDepth 100000 in
theorem q_wc_79 : Cond.code (q_mY 79) (q_mC 79) 10 (q_mR 79) ∈ q_Lw := q_lx (q_tw3 117 rfl) rfl
set_option maxRecDepth 100000 in
theorem q_wc_80 : Cond.code (q_mY 80) (q_mC 80) 6 (q_mR 80) ∈ q_Lw := q_lx (q_tw3 130 rfl) rfl
set_option maxRecDepth 100000 in
theorem q_wc_81 : Cond.code (q_mY 81) (q_mC 81) 7 (q_mR 81) ∈ q_Lw := q_lx (q_tw3 134 rfl) rfl
set_option maxRecDepth 100000 in
theorem q_wc_82 : Cond.code (q_mY 82) (q_mC 82) 5 (q_mR 82) ∈ q_Lw := q_lx (q_tw3 138 rfl) rfl
set_option maxRecDepth 100000 in
theorem q_wc_83 : Cond.code (q_mY 83) (q_mC 83) 4 (q_mR 83) ∈ q_Lw := q_lx (q_tw3 146 rfl) rfl
set_option maxRecDepth 100000 in
theorem q_wc_84 : Cond.code (q_mY 84) (q_mC 84) 8 (q_mR 84) ∈ q_Lw := q_lx (q_tw3 165 rfl) rfl
set_option maxRecDepth 100000 in
theorem q_wc_85 : Cond.code (q_mY 85) (q_mC 85) 9 (q_mR 85) ∈ q_Lw := q_lx (q_tw3 169 rfl) rfl
set_option maxRecDepth 100000 in
theorem q_wc_86 : Cond.code (q_mY 86) (q_mC 86) 5 (q_mR 86) ∈ q_Lw := q_lx (q_tw3 173 rfl) rfl
set_option maxRecDepth 100000 in
theorem q_wc_87 : Cond.code (q_mY 87) (q_mC 87) 6 (q_mR 87) ∈ q_Lw := q_lx (q_tw3 177 rfl) rfl
set_option maxRecDepth 100000 in
theorem q_wc_88 : Cond.code (q_mY 88) (q_mC 88) 5 (q_mR 88) ∈ q_Lw := q_lx (q_tw3 181 rfl) rfl
set_option maxRecDepth 100000 in
theorem q_wc_89 : Cond.code (q_mY 89) (q_mC 89) 3 (q_mR 89) ∈ q_Lw := q_lx (q_tw3 193 rfl) rfl
set_option maxRecDepth 100000 in
theorem q_wc_90 : Cond.code (q_mY 90) (q_mC 90) 7 (q_mR 90) ∈ q_Lw := q_lx (q_tw3 206 rfl) rfl
set_option maxRecDepth 100000 in
theorem q_wc_91 : Cond.code (q_mY 91) (q_mC 91) 1 (q_mR 91) ∈ q_Lw := q_lx (q_tw3 210 rfl) rfl
set_option maxRecDepth 100000 in
theorem q_wc_92 : Cond.code (q_mY 92) (q_mC 92) 1 (q_mR 92) ∈ q_Lw := q_lx (q_tw3 214 rfl) rfl
set_option maxRecDepth 100000 in
theorem q_wc_93 : Cond.code (q_mY 93) (q_mC 93) 4 (q_mR 93) ∈ q_Lw := q_lx (q_tw3 218 rfl) rfl
set_option maxRecDepth 100000 in
theorem q_wc_94 : Cond.code (q_mY 94) (q_mC 94) 4 (q_mR 94) ∈ q_Lw := q_lx (q_tw3 222 rfl) rfl
set_option maxRecDepth 100000 in
theorem q_wc_95 : Cond.code (q_mY 95) (q_mC 95) 8 (q_mR 95) ∈ q_Lw := q_lx (q_tw3 226 rfl) rfl
set_option maxRecDepth 100000 in
theorem q_wc_96 : Cond.code (q_mY 96) (q_mC 96) 9 (q_mR 96) ∈ q_Lw := q_lx (q_tw3 231 rfl) rfl
set_option maxRecDepth 100000 in
theorem q_wc_97 : Cond.code (q_mY 97) (q_mC 97) 3 (q_mR 97) ∈ q_Lw := q_lx (q_tw3 236 rfl) rfl
set_option maxRecDepth 100000 in
theorem q_wc_98 : Cond.code (q_mY 98) (q_mC 98) 2 (q_mR 98) ∈ q_Lw := q_lx (q_tw2 186 rfl) rfl
set_option maxRecDepth 100000 in
theorem q_wc_99 : Cond.code (q_mY 99) (q_mC 99) 1 (q_mR 99) ∈ q_Lw := q_lx (q_tw2 149 rfl) rfl
set_option maxRecDepth 100000 in
theorem q_wc_100 : Cond.code (q_mY 100) (q_mC 100) 1 (q_mR 100) ∈ q_Lw := q_lx (q_tw2 226 rfl) rfl
set_option maxRecDepth 100000 in
theorem q_wc_101 : Cond.code (q_mY 101) (q_mC 101) 1 (q_mR 101) ∈ q_Lw := q_lx (q_tw3 153 rfl) rfl
set_option maxRecDepth 100000 in
theorem q_wc_102 : Cond.code (q_mY 102) (q_mC 102) 1 (q_mR 102) ∈ q_Lw := q_lx (q_tw2 170 rfl) rfl
set_option maxRecDepth 100000 in
theorem q_wc_103 : Cond.code (q_mY 103) (q_mC 103) 2 (q_mR 103) ∈ q_Lw := q_lx (q_tw3 239 rfl) rfl
set_option maxRecDepth 100000 in
theorem q_wc_104 : Cond.code (q_mY 104) (q_mC 104) 2 (q_mR 104) ∈ q_Lw := q_lx (q_tw3 150 rfl) rfl
set_option maxRecDepth 100000 in
theorem q_wc_105 : Cond.code (q_mY 105) (q_mC 105) 5 (q_mR 105) ∈ q_Lw := q_lx (q_tw3 161 rfl) rfl
set_option maxRecDepth 100000 in
theorem q_wc_106 : Cond.code (q_mY 106) (q_mC 106) 6 (q_mR 106) ∈ q_Lw := q_lx (q_tw3 73 rfl) rfl
set_option maxRecDepth 100000 in
theorem q_wc_107 : Cond.code (q_mY 107) (q_mC 107) 6 (q_mR 107) ∈ q_Lw := q_lx (q_tw3 198 rfl) rfl
set_option maxRecDepth 100000 in
theorem q_wc_108 : Cond.code (q_mY 108) (q_mC 108) 5 (q_mR 108) ∈ q_Lw := q_lx (q_tw3 142 rfl) rfl
set_option maxRecDepth 100000 in
theorem q_wc_109 : Cond.code (q_mY 109) (q_mC 109) 2 (q_mR 109) ∈ q_Lw := q_lx (q_tw4 4 rfl) rfl
set_option maxRecDepth 100000 in
theorem q_wc_110 : Cond.code (q_mY 110) (q_mC 110) 3 (q_mR 110) ∈ q_Lw := q_lx (q_tw4 16 rfl) rfl
set_option maxRecDepth 100000 in
theorem q_wc_111 : Cond.code (q_mY 111) (q_mC 111) 3 (q_mR 111) ∈ q_Lw := q_lx (q_tw4 228 rfl) rfl
set_option maxRecDepth 100000 in
theorem q_wc_112 : Cond.code (q_mY 112) (q_mC 112) 2 (q_mR 112) ∈ q_Lw := q_lx (q_tw4 214 rfl) rfl
set_option maxRecDepth 100000 in
theorem q_wc_113 : Cond.code (q_mY 113) (q_mC 113) 1 (q_mR 113) ∈ q_Lw := q_lx (q_tw4 183 rfl) rfl
set_option maxRecDepth 100000 in
theorem q_wc_114 : Cond.code (q_mY 114) (q_mC 114) 3 (q_mR 114) ∈ q_Lw := q_lx (q_tw4 172 rfl) rfl
set_option maxRecDepth 100000 in
theorem q_wc_115 : Cond.code (q_mY 115) (q_mC 115) 4 (q_mR 115) ∈ q_Lw := q_lx (q_tw4 187 rfl) rfl
set_option maxRecDepth 100000 in
theorem q_wc_116 : Cond.code (q_mY 116) (q_mC 116) 3 (q_mR 116) ∈ q_Lw := q_lx (q_tw4 190 rfl) rfl
set_option maxRecDepth 100000 in
theorem q_wc_117 : Cond.code (q_mY 117) (q_mC 117) 2 (q_mR 117) ∈ q_Lw := q_lx (q_tw4 168 rfl) rfl
set_option maxRecDepth 100000 in
theorem q_wc_118 : Cond.code (q_mY 118) (q_mC 118) 3 (q_mR 118) ∈ q_Lw := q_lx (q_tw4 176 rfl) rfl
set_option maxRecDepth 100000 in
theorem q_wc_119 : Cond.code (q_mY 119) (q_mC 119) 7 (q_mR 119) ∈ q_Lw := q_lx (q_tw4 180 rfl) rfl
set_option maxRecDepth 100000 in
theorem q_wc_120 : Cond.code (q_mY 120) (q_mC 120) 3 (q_mR 120) ∈ q_Lw := q_lx (q_tw4 194 rfl) rfl
set_option maxRecDepth 100000 in
theorem q_wc_121 : Cond.code (q_mY 121) (q_mC 121) 1 (q_mR 121) ∈ q_Lw := q_lx (q_tw4 201 rfl) rfl
set_option maxRecDepth 100000 in
theorem q_wc_122 : Cond.code (q_mY 122) (q_mC 122) 8 (q_mR 122) ∈ q_Lw := q_lx (q_tw4 198 rfl) rfl
set_option maxRecDepth 100000 in
theorem q_wc_123 : Cond.code (q_mY 123) (q_mC 123) 6 (q_mR 123) ∈ q_Lw := q_lx (q_tw4 20 rfl) rfl
set_option maxRecDepth 100000 in
theorem q_wc_124 : Cond.code (q_mY 124) (q_mC 124) 3 (q_mR 124) ∈ q_Lw := q_lx (q_tw4 13 rfl) rfl
set_option maxRecDepth 100000 in
theorem q_wc_125 : Cond.code (q_mY 125) (q_mC 125) 1 (q_mR 125) ∈ q_Lw := q_lx (q_tw4 36 rfl) rfl
set_option maxRecDepth 100000 in
theorem q_wc_126 : Cond.code (q_mY 126) (q_mC 126) 2 (q_mR 126) ∈ q_Lw := q_lx (q_tw4 29 rfl) rfl
set_option maxRecDepth 100000 in
theorem q_wc_127 : Cond.code (q_mY 127) (q_mC 127) 3 (q_mR 127) ∈ q_Lw := q_lx (q_tw4 33 rfl) rfl
set_option maxRecDepth 100000 in
theorem q_wc_128 : Cond.code (q_mY 128) (q_mC 128) 2 (q_mR 128) ∈ q_Lw := q_lx (q_tw4 44 rfl) rfl
set_option maxRecDepth 100000 in
theorem q_wc_129 : Cond.code (q_mY 129) (q_mC 129) 2 (q_mR 129) ∈ q_Lw := q_lx (q_tw4 40 rfl) rfl
set_option maxRecDepth 100000 in
theorem q_wc_130 : Cond.code (q_mY 130) (q_mC 130) 2 (q_mR 130) ∈ q_Lw := q_lx (q_tw4 52 rfl) rfl
set_option maxRecDepth 100000 in
theorem q_wc_131 : Cond.code (q_mY 131) (q_mC 131) 1 (q_mR 131) ∈ q_Lw := q_lx (q_tw4 48 rfl) rfl
set_option maxRecDepth 100000 in
theorem q_wc_132 : Cond.code (q_mY 132) (q_mC 132) 4 (q_mR 132) ∈ q_Lw := q_lx (q_tw4 24 rfl) rfl
set_option maxRecDepth 100000 in
theorem q_wc_133 : Cond.code (q_mY 133) (q_mC 133) 3 (q_mR 133) ∈ q_Lw := q_lx (q_tw4 9 rfl) rfl
set_option maxRecDepth 100000 in
theorem q_wc_134 : Cond.code (q_mY 134) (q_mC 134) 3 (q_mR 134) ∈ q_Lw := q_lx (q_tw4 225 rfl) rfl
set_option maxRecDepth 100000 in
theorem q_wc_135 : Cond.code (q_mY 135) (q_mC 135) 5 (q_mR 135) ∈ q_Lw := q_lx (q_tw4 222 rfl) rfl
set_option maxRecDepth 100000 in
theorem q_wc_136 : Cond.code (q_mY 136) (q_mC 136) 3 (q_mR 136) ∈ q_Lw := q_lx (q_tw4 206 rfl) rfl
set_option maxRecDepth 100000 in
theorem q_wc_137 : Cond.code (q_mY 137) (q_mC 137) 5 (q_mR 137) ∈ q_Lw := q_lx (q_tw4 218 rfl) rfl
set_option maxRecDepth 100000 in
theorem q_wc_138 : Cond.code (q_mY 138) (q_mC 138) 4 (q_mR 138) ∈ q_Lw := q_lx (q_tw4 210 rfl) rfl
set_option maxRecDepth 100000 in
theorem q_wc_139 : Cond.code (q_mY 139) (q_mC 139) 4 (q_mR 139) ∈ q_Lw := q_lx (q_tw4 232 rfl) rfl
set_option maxRecDepth 100000 in
theorem q_wc_140 : Cond.code (q_mY 140) (q_mC 140) 5 (q_mR 140) ∈ q_Lw := q_lx (q_tw4 236 rfl) rfl
set_option maxRecDepth 100000 in
theorem q_wc_141 : Cond.code (q_mY 141) (q_mC 141) 4 (q_mR 141) ∈ q_Lw := q_lx (q_tw5 8 rfl) rfl
set_option maxRecDepth 100000 in
theorem q_wc_142 : Cond.code (q_mY 142) (q_mC 142) 4 (q_mR 142) ∈ q_Lw := q_lx (q_tw5 20 rfl) rfl
set_option maxRecDepth 100000 in
theorem q_wc_143 : Cond.code (q_mY 143) (q_mC 143) 4 (q_mR 143) ∈ q_Lw := q_lx (q_tw5 12 rfl) rfl
set_option maxRecDepth 100000 in
theorem q_wc_144 : Cond.code (q_mY 144) (q_mC 144) 6 (q_mR 144) ∈ q_Lw := q_lx (q_tw5 4 rfl) rfl
set_option maxRecDepth 100000 in
theorem q_wc_145 : Cond.code (q_mY 145) (q_mC 145) 3 (q_mR 145) ∈ q_Lw := q_lx (q_tw5 0 rfl) rfl
set_option maxRecDepth 100000 in
theorem q_wc_146 : Cond.code (q_mY 146) (q_mC 146) 4 (q_mR 146) ∈ q_Lw := q_lx (q_tw5 16 rfl) rfl
set_option maxRecDepth 100000 in
theorem q_wc_147 : Cond.code (q_mY 147) (q_mC 147) 7 (q_mR 147) ∈ q_Lw := q_lx (q_tw5 44 rfl) rfl
set_option maxRecDepth 100000 in
theorem q_wc_148 : Cond.code (q_mY 148) (q_mC 148) 2 (q_mR 148) ∈ q_Lw := q_lx (q_tw5 40 rfl) rfl
set_option maxRecDepth 100000 in
theorem q_wc_149 : Cond.code (q_mY 149) (q_mC 149) 6 (q_mR 149) ∈ q_Lw := q_lx (q_tw5 36 rfl) rfl
set_option maxRecDepth 100000 in
theorem q_wc_150 : Cond.code (q_mY 150) (q_mC 150) 6 (q_mR 150) ∈ q_Lw := q_lx (q_tw5 32 rfl) rfl
set_option maxRecDepth 100000 in
theorem q_wc_151 : Cond.code (q_mY 151) (q_mC 151) 3 (q_mR 151) ∈ q_Lw := q_lx (q_tw5 28 rfl) rfl
set_option maxRecDepth 100000 in
theorem q_wc_152 : Cond.code (q_mY 152) (q_mC 152) 1 (q_mR 152) ∈ q_Lw := q_lx (q_tw5 24 rfl) rfl
set_option maxRecDepth 100000 in
theorem q_wc_153 : Cond.code (q_mY 153) (q_mC 153) 3 (q_mR 153) ∈ q_Lw := q_lx (q_tw5 56 rfl) rfl
set_option maxRecDepth 100000 in
theorem q_wc_154 : Cond.code (q_mY 154) (q_mC 154) 2 (q_mR 154) ∈ q_Lw := q_lx (q_tw5 52 rfl) rfl
set_option maxRecDepth 100000 in
theorem q_wc_155 : Cond.code (q_mY 155) (q_mC 155) 2 (q_mR 155) ∈ q_Lw := q_lx (q_tw5 60 rfl) rfl
set_option maxRecDepth 100000 in
theorem q_wc_156 : Cond.code (q_mY 156) (q_mC 156) 4 (q_mR 156) ∈ q_Lw := q_lx (q_tw5 48 rfl) rfl
set_option maxRecDepth 100000 in
theorem q_wc_157 : Cond.code (q_mY 157) (q_mC 157) 6 (q_mR 157) ∈ q_Lw := q_lx (q_tw5 68 rfl) rfl
set_option maxRecDepth 100000 in
theorem q_wc_158 : Cond.code (q_mY 158) (q_mC 158) 4 (q_mR 158) ∈ q_Lw := q_lx (q_tw5 64 rfl) rfl
set_option maxRecDepth 100000 in
theorem q_wc_159 : Cond.code (q_mY 159) (q_mC 159) 3 (q_mR 159) ∈ q_Lw := q_lx (q_tw5 77 rfl) rfl
set_option maxRecDepth 100000 in
theorem q_wc_160 : Cond.code (q_mY 160) (q_mC 160) 4 (q_mR 160) ∈ q_Lw := q_lx (q_tw5 93 rfl) rfl
set_option maxRecDepth 100000 in
theorem q_wc_161 : Cond.code (q_mY 161) (q_mC 161) 5 (q_mR 161) ∈ q_Lw := q_lx (q_tw5 97 rfl) rfl
set_option maxRecDepth 100000 in
theorem q_wc_162 : Cond.code (q_mY 162) (q_mC 162) 6 (q_mR 162) ∈ q_Lw := q_lx (q_tw5 89 rfl) rfl
set_option maxRecDepth 100000 in
theorem q_wc_163 : Cond.code (q_mY 163) (q_mC 163) 6 (q_mR 163) ∈ q_Lw := q_lx (q_tw5 85 rfl) rfl
set_option maxRecDepth 100000 in
theorem q_wc_164 : Cond.code (q_mY 164) (q_mC 164) 3 (q_mR 164) ∈ q_Lw := q_lx (q_tw5 81 rfl) rfl
set_option maxRecDepth 100000 in
theorem q_wc_165 : Cond.code (q_mY 165) (q_mC 165) 4 (q_mR 165) ∈ q_Lw := q_lx (q_tw5 101 rfl) rfl
set_option maxRecDepth 100000 in
theorem q_wc_166 : Cond.code (q_mY 166) (q_mC 166) 3 (q_mR 166) ∈ q_Lw := q_lx (q_tw5 121 rfl) rfl
set_option maxRecDepth 100000 in
theorem q_wc_167 : Cond.code (q_mY 167) (q_mC 167) 2 (q_mR 167) ∈ q_Lw := q_lx (q_tw5 72 rfl) rfl
set_option maxRecDepth 100000 in
theorem q_wc_168 : Cond.code (q_mY 168) (q_mC 168) 5 (q_mR 168) ∈ q_Lw := q_lx (q_tw5 117 rfl) rfl
set_option maxRecDepth 100000 in
theorem q_wc_169 : Cond.code (q_mY 169) (q_mC 169) 4 (q_mR 169) ∈ q_Lw := q_lx (q_tw5 113 rfl) rfl
set_option maxRecDepth 100000 in
theorem q_wc_170 : Cond.code (q_mY 170) (q_mC 170) 3 (q_mR 170) ∈ q_Lw := q_lx (q_tw5 109 rfl) rfl
set_option maxRecDepth 100000 in
theorem q_wc_171 : Cond.code (q_mY 171) (q_mC 171) 2 (q_mR 171) ∈ q_Lw := q_lx (q_tw5 105 rfl) rfl
set_option maxRecDepth 100000 in
theorem q_wc_172 : Cond.code (q_mY 172) (q_mC 172) 4 (q_mR 172) ∈ q_Lw := q_lx (q_tw5 133 rfl) rfl
set_option maxRecDepth 100000 in
theorem q_wc_173 : Cond.code (q_mY 173) (q_mC 173) 5 (q_mR 173) ∈ q_Lw := q_lx (q_tw5 129 rfl) rfl
set_option maxRecDepth 100000 in
theorem q_wc_174 : Cond.code (q_mY 174) (q_mC 174) 2 (q_mR 174) ∈ q_Lw := q_lx (q_tw5 125 rfl) rfl
set_option maxRecDepth 100000 in
theorem q_wc_175 : Cond.code (q_mY 175) (q_mC 175) 7 (q_mR 175) ∈ q_Lw := q_lx (q_tw5 137 rfl) rfl
set_option maxRecDepth 100000 in
theorem q_wc_176 : Cond.code (q_mY 176) (q_mC 176) 8 (q_mR 176) ∈ q_Lw := q_lx (q_tw5 141 rfl) rfl
set_option maxRecDepth 100000 in
theorem q_wc_177 : Cond.code (q_mY 177) (q_mC 177) 11 (q_mR 177) ∈ q_Lw := q_lx (q_tw5 148 rfl) rfl
set_option maxRecDepth 100000 in
theorem q_wc_178 : Cond.code (q_mY 178) (q_mC 178) 5 (q_mR 178) ∈ q_Lw := q_lx (q_tw5 145 rfl) rfl
set_option maxRecDepth 100000 in
theorem q_wc_179 : Cond.code (q_mY 179) (q_mC 179) 2 (q_mR 179) ∈ q_Lw := q_lx (q_tw5 161 rfl) rfl
set_option maxRecDepth 100000 in
theorem q_wc_180 : Cond.code (q_mY 180) (q_mC 180) 4 (q_mR 180) ∈ q_Lw := q_lx (q_tw5 157 rfl) rfl
set_option maxRecDepth 100000 in
theorem q_wc_181 : Cond.code (q_mY 181) (q_mC 181) 5 (q_mR 181) ∈ q_Lw := q_lx (q_tw5 165 rfl) rfl
set_option maxRecDepth 100000 in
theorem q_wc_182 : Cond.code (q_mY 182) (q_mC 182) 4 (q_mR 182) ∈ q_Lw := q_lx (q_tw5 153 rfl) rfl
set_option maxRecDepth 100000 in
theorem q_wc_183 : Cond.code (q_mY 183) (q_mC 183) 9 (q_mR 183) ∈ q_Lw := q_lx (q_tw5 169 rfl) rfl
set_option maxRecDepth 100000 in
theorem q_wc_184 : Cond.code (q_mY 184) (q_mC 184) 11 (q_mR 184) ∈ q_Lw := q_lx (q_tw5 173 rfl) rfl
set_option maxRecDepth 100000 in
theorem q_wc_185 : Cond.code (q_mY 185) (q_mC 185) 5 (q_mR 185) ∈ q_Lw := q_lx (q_tw5 177 rfl) rfl
set_option maxRecDepth 100000 in
theorem q_wc_186 : Cond.code (q_mY 186) (q_mC 186) 7 (q_mR 186) ∈ q_Lw := q_lx (q_tw5 181 rfl) rfl
set_option maxRecDepth 100000 in
theorem q_wc_187 : Cond.code (q_mY 187) (q_mC 187) 5 (q_mR 187) ∈ q_Lw := q_lx (q_tw5 185 rfl) rfl
set_option maxRecDepth 100000 in
theorem q_wc_188 : Cond.code (q_mY 188) (q_mC 188) 6 (q_mR 188) ∈ q_Lw := q_lx (q_tw5 194 rfl) rfl
set_option maxRecDepth 100000 in
theorem q_wc_189 : Cond.code (q_mY 189) (q_mC 189) 4 (q_mR 189) ∈ q_Lw := q_lx (q_tw5 189 rfl) rfl
set_option maxRecDepth 100000 in
theorem q_wc_190 : Cond.code (q_mY 190) (q_mC 190) 8 (q_mR 190) ∈ q_Lw := q_lx (q_tw5 202 rfl) rfl
set_option maxRecDepth 100000 in
theorem q_wc_191 : Cond.code (q_mY 191) (q_mC 191) 2 (q_mR 191) ∈ q_Lw := q_lx (q_tw5 206 rfl) rfl
set_option maxRecDepth 100000 in
theorem q_wc_192 : Cond.code (q_mY 192) (q_mC 192) 2 (q_mR 192) ∈ q_Lw := q_lx (q_tw5 210 rfl) rfl
set_option maxRecDepth 100000 in
theorem q_wc_193 : Cond.code (q_mY 193) (q_mC 193) 5 (q_mR 193) ∈ q_Lw := q_lx (q_tw5 214 rfl) rfl
set_option maxRecDepth 100000 in
theorem q_wc_194 : Cond.code (q_mY 194) (q_mC 194) 4 (q_mR 194) ∈ q_Lw := q_lx (q_tw5 218 rfl) rfl
set_option maxRecDepth 100000 in
theorem q_wc_195 : Cond.code (q_mY 195) (q_mC 195) 10 (q_mR 195) ∈ q_Lw := q_lx (q_tw5 222 rfl) rfl
set_option maxRecDepth 100000 in
theorem q_wc_196 : Cond.code (q_mY 196) (q_mC 196) 9 (q_mR 196) ∈ q_Lw := q_lx (q_tw5 226 rfl) rfl
set_option maxRecDepth 100000 in
theorem q_wc_197 : Cond.code (q_mY 197) (q_mC 197) 2 (q_mR 197) ∈ q_Lw := q_lx (q_tw5 234 rfl) rfl
set_option maxRecDepth 100000 in
theorem q_wc_198 : Cond.code (q_mY 198) (q_mC 198) 3 (q_mR 198) ∈ q_Lw := q_lx (q_tw5 231 rfl) rfl
set_option maxRecDepth 100000 in
theorem q_wc_199 : Cond.code (q_mY 199) (q_mC 199) 1 (q_mR 199) ∈ q_Lw := q_lx (q_tw1 69 rfl) rfl
set_option maxRecDepth 100000 in
theorem q_wc_200 : Cond.code (q_mY 200) (q_mC 200) 2 (q_mR 200) ∈ q_Lw := q_lx (q_tw1 79 rfl) rfl
set_option maxRecDepth 100000 in
theorem q_wc_201 : Cond.code (q_mY 201) (q_mC 201) 1 (q_mR 201) ∈ q_Lw := q_lx (q_tw1 73 rfl) rfl
set_option maxRecDepth 100000 in
theorem q_wc_202 : Cond.code (q_mY 202) (q_mC 202) 1 (q_mR 202) ∈ q_Lw := q_lx (q_tw1 83 rfl) rfl
set_option maxRecDepth 100000 in
theorem q_wc_203 : Cond.code (q_mY 203) (q_mC 203) 2 (q_mR 203) ∈ q_Lw := q_lx (q_tw1 86 rfl) rfl
set_option maxRecDepth 100000 in
theorem q_wc_204 : Cond.code (q_mY 204) (q_mC 204) 2 (q_mR 204) ∈ q_Lw := q_lx (q_tw1 89 rfl) rfl
set_option maxRecDepth 100000 in
theorem q_wc_205 : Cond.code (q_mY 205) (q_mC 205) 3 (q_mR 205) ∈ q_Lw := q_lx (q_tw1 94 rfl) rfl
set_option maxRecDepth 100000 in
theorem q_wc_206 : Cond.code (q_mY 206) (q_mC 206) 1 (q_mR 206) ∈ q_Lw := q_lx (q_tw2 193 rfl) rfl
set_option maxRecDepth 100000 in
theorem q_wc_207 : Cond.code (q_mY 207) (q_mC 207) 2 (q_mR 207) ∈ q_Lw := q_lx (q_tw2 203 rfl) rfl
set_option maxRecDepth 100000 in
theorem q_wc_208 : Cond.code (q_mY 208) (q_mC 208) 2 (q_mR 208) ∈ q_Lw := q_lx (q_tw2 200 rfl) rfl
set_option maxRecDepth 100000 in
theorem q_wst_39 : Cond.static (q_mY 39) ∈ q_Lw := q_lx (q_tw1 127 rfl) rfl
set_option maxRecDepth 100000 in
theorem q_wst_40 : Cond.static (q_mY 40) ∈ q_Lw := q_lx (q_tw1 152 rfl) rfl
set_option maxRecDepth 100000 in
theorem q_wst_41 : Cond.static (q_mY 41) ∈ q_Lw := q_lx (q_tw1 159 rfl) rfl
set_option maxRecDepth 100000 in
theorem q_wst_99 : Cond.static (q_mY 99) ∈ q_Lw := q_lx (q_tw2 148 rfl) rfl
set_option maxRecDepth 100000 in
theorem q_wst_100 : Cond.static (q_mY 100) ∈ q_Lw := q_lx (q_tw2 225 rfl) rfl
set_option maxRecDepth 100000 in
theorem q_wst_101 : Cond.static (q_mY 101) ∈ q_Lw := q_lx (q_tw3 152 rfl) rfl
set_option maxRecDepth 100000 in
theorem q_wst_102 : Cond.static (q_mY 102) ∈ q_Lw := q_lx (q_tw2 169 rfl) rfl
set_option maxRecDepth 100000 in
theorem q_wst_103 : Cond.static (q_mY 103) ∈ q_Lw := q_lx (q_tw3 238 rfl) rfl
set_option maxRecDepth 100000 in
theorem q_wst_108 : Cond.static (q_mY 108) ∈ q_Lw := q_lx (q_tw3 141 rfl) rfl
set_option maxRecDepth 100000 in
theorem q_wst_110 : Cond.static (q_mY 110) ∈ q_Lw := q_lx (q_tw4 15 rfl) rfl
set_option maxRecDepth 100000 in
theorem q_wst_111 : Cond.static (q_mY 111) ∈ q_Lw := q_lx (q_tw4 227 rfl) rfl
set_option maxRecDepth 100000 in
theorem q_wst_113 : Cond.static (q_mY 113) ∈ q_Lw := q_lx (q_tw4 182 rfl) rfl
set_option maxRecDepth 100000 in
theorem q_wst_116 : Cond.static (q_mY 116) ∈ q_Lw := q_lx (q_tw4 189 rfl) rfl
set_option maxRecDepth 100000 in
theorem q_wst_121 : Cond.static (q_mY 121) ∈ q_Lw := q_lx (q_tw4 200 rfl) rfl
set_option maxRecDepth 100000 in
theorem q_wst_125 : Cond.static (q_mY 125) ∈ q_Lw := q_lx (q_tw4 35 rfl) rfl
set_option maxRecDepth 100000 in
theorem q_wst_134 : Cond.static (q_mY 134) ∈ q_Lw := q_lx (q_tw4 224 rfl) rfl
set_option maxRecDepth 100000 in
theorem q_wst_177 : Cond.static (q_mY 177) ∈ q_Lw := q_lx (q_tw5 147 rfl) rfl
set_option maxRecDepth 100000 in
theorem q_wst_197 : Cond.static (q_mY 197) ∈ q_Lw := q_lx (q_tw5 233 rfl) rfl
set_option maxRecDepth 100000 in
theorem q_wst_203 : Cond.static (q_mY 203) ∈ q_Lw := q_lx (q_tw1 85 rfl) rfl
set_option maxRecDepth 100000 in
theorem q_wst_204 : Cond.static (q_mY 204) ∈ q_Lw := q_lx (q_tw1 88 rfl) rfl
set_option maxRecDepth 100000 in
theorem q_wst_205 : Cond.static (q_mY 205) ∈ q_Lw := q_lx (q_tw1 93 rfl) rfl
set_option maxRecDepth 100000 in
theorem q_wst_206 : Cond.static (q_mY 206) ∈ q_Lw := q_lx (q_tw2 192 rfl) rfl
set_option maxRecDepth 100000 in
theorem q_wst_207 : Cond.static (q_mY 207) ∈ q_Lw := q_lx (q_tw2 202 rfl) rfl
set_option maxRecDepth 100000 in
theorem q_wst_208 : Cond.static (q_mY 208) ∈ q_Lw := q_lx (q_tw2 199 rfl) rfl
set_option maxRecDepth 100000 in
theorem q_win_0 : Cond.instanceMethod (q_mY 0) ∈ q_Lw := q_lx (q_tw2 9 rfl) rfl
set_option maxRecDepth 100000 in
theorem q_win_1 : Cond.instanceMethod (q_mY 1) ∈ q_Lw := q_lx (q_tw3 57 rfl) rfl
set_option maxRecDepth 100000 in
theorem q_win_2 : Cond.instanceMethod (q_mY 2) ∈ q_Lw := q_lx (q_tw3 105 rfl) rfl
set_option maxRecDepth 100000 in
theorem q_win_3 : Cond.instanceMethod (q_mY 3) ∈ q_Lw := q_lx (q_tw2 132 rfl) rfl
set_option maxRecDepth 100000 in
theorem q_win_4 : Cond.instanceMethod (q_mY 4) ∈ q_Lw := q_lx (q_tw2 136 rfl) rfl
set_option maxRecDepth 100000 in
theorem q_win_5 : Cond.instanceMethod (q_mY 5) ∈ q_Lw := q_lx (q_tw2 156 rfl) rfl
set_option maxRecDepth 100000 in
theorem q_win_6 : Cond.instanceMethod (q_mY 6) ∈ q_Lw := q_lx (q_tw3 63 rfl) rfl
set_option maxRecDepth 100000 in
theorem q_win_7 : Cond.instanceMethod (q_mY 7) ∈ q_Lw := q_lx (q_tw3 89 rfl) rfl
set_option maxRecDepth 100000 in
theorem q_win_8 : Cond.instanceMethod (q_mY 8) ∈ q_Lw := q_lx (q_tw3 93 rfl) rfl
set_option maxRecDepth 100000 in
theorem q_win_9 : Cond.instanceMethod (q_mY 9) ∈ q_Lw := q_lx (q_tw3 1 rfl) rfl
set_option maxRecDepth 100000 in
theorem q_win_10 : Cond.instanceMethod (q_mY 10) ∈ q_Lw := q_lx (q_tw2 237 rfl) rfl
set_option maxRecDepth 100000 in
theorem q_win_11 : Cond.instanceMethod (q_mY 11) ∈ q_Lw := q_lx (q_tw3 42 rfl) rfl
set_option maxRecDepth 100000 in
theorem q_win_12 : Cond.instanceMethod (q_mY 12) ∈ q_Lw := q_lx (q_tw3 38 rfl) rfl
set_option maxRecDepth 100000 in
theorem q_win_13 : Cond.instanceMethod (q_mY 13) ∈ q_Lw := q_lx (q_tw3 33 rfl) rfl
set_option maxRecDepth 100000 in
theorem q_win_14 : Cond.instanceMethod (q_mY 14) ∈ q_Lw := q_lx (q_tw3 45 rfl) rfl
set_option maxRecDepth 100000 in
theorem q_win_15 : Cond.instanceMethod (q_mY 15) ∈ q_Lw := q_lx (q_tw3 101 rfl) rfl
set_option maxRecDepth 100000 in
theorem q_win_16 : Cond.instanceMethod (q_mY 16) ∈ q_Lw := q_lx (q_tw3 111 rfl) rfl
set_option maxRecDepth 100000 in
theorem q_win_17 : Cond.instanceMethod (q_mY 17) ∈ q_Lw := q_lx (q_tw3 84 rfl) rfl
set_option maxRecDepth 100000 in
theorem q_win_18 : Cond.instanceMethod (q_mY 18) ∈ q_Lw := q_lx (q_tw3 120 rfl) rfl
set_option maxRecDepth 100000 in
theorem q_win_19 : Cond.instanceMethod (q_mY 19) ∈ q_Lw := q_lx (q_tw3 124 rfl) rfl
set_option maxRecDepth 100000 in
theorem q_win_20 : Cond.instanceMethod (q_mY 20) ∈ q_Lw := q_lx (q_tw1 25 rfl) rfl
set_option maxRecDepth 100000 in
theorem q_win_21 : Cond.instanceMethod (q_mY 21) ∈ q_Lw := q_lx (q_tw1 237 rfl) rfl
set_option maxRecDepth 100000 in
theorem q_win_22 : Cond.instanceMethod (q_mY 22) ∈ q_Lw := q_lx (q_tw1 115 rfl) rfl
set_option maxRecDepth 100000 in
theorem q_win_23 : Cond.instanceMethod (q_mY 23) ∈ q_Lw := q_lx (q_tw1 119 rfl) rfl
set_option maxRecDepth 100000 in
theorem q_win_24 : Cond.instanceMethod (q_mY 24) ∈ q_Lw := q_lx (q_tw1 202 rfl) rfl
set_option maxRecDepth 100000 in
theorem q_win_25 : Cond.instanceMethod (q_mY 25) ∈ q_Lw := q_lx (q_tw1 163 rfl) rfl
set_option maxRecDepth 100000 in
theorem q_win_26 : Cond.instanceMethod (q_mY 26) ∈ q_Lw := q_lx (q_tw1 167 rfl) rfl
set_option maxRecDepth 100000 in
theorem q_win_27 : Cond.instanceMethod (q_mY 27) ∈ q_Lw := q_lx (q_tw1 171 rfl) rfl
set_option maxRecDepth 100000 in
theorem q_win_28 : Cond.instanceMethod (q_mY 28) ∈ q_Lw := q_lx (q_tw1 187 rfl) rfl
set_option maxRecDepth 100000 in
theorem q_win_29 : Cond.instanceMethod (q_mY 29) ∈ q_Lw := q_lx (q_tw1 175 rfl) rfl
set_option maxRecDepth 100000 in
theorem q_win_30 : Cond.instanceMethod (q_mY 30) ∈ q_Lw := q_lx (q_tw1 179 rfl) rfl
set_option maxRecDepth 100000 in
theorem q_win_31 : Cond.instanceMethod (q_mY 31) ∈ q_Lw := q_lx (q_tw1 183 rfl) rfl
set_option maxRecDepth 100000 in
theorem q_win_32 : Cond.instanceMethod (q_mY 32) ∈ q_Lw := q_lx (q_tw1 191 rfl) rfl
set_option maxRecDepth 100000 in
theorem q_win_33 : Cond.instanceMethod (q_mY 33) ∈ q_Lw := q_lx (q_tw1 195 rfl) rfl
set_option maxRecDepth 100000 in
theorem q_win_34 : Cond.instanceMethod (q_mY 34) ∈ q_Lw := q_lx (q_tw1 199 rfl) rfl
set_option maxRecDepth 100000 in
theorem q_win_35 : Cond.instanceMethod (q_mY 35) ∈ q_Lw := q_lx (q_tw1 124 rfl) rfl
set_option maxRecDepth 100000 in
theorem q_win_36 : Cond.instanceMethod (q_mY 36) ∈ q_Lw := q_lx (q_tw1 131 rfl) rfl
set_option maxRecDepth 100000 in
theorem q_win_37 : Cond.instanceMethod (q_mY 37) ∈ q_Lw := q_lx (q_tw1 156 rfl) rfl
set_option maxRecDepth 100000 in
theorem q_win_38 : Cond.instanceMethod (q_mY 38) ∈ q_Lw := q_lx (q_tw1 136 rfl) rfl
set_option maxRecDepth 100000 in
theorem q_win_42 : Cond.instanceMethod (q_mY 42) ∈ q_Lw := q_lx (q_tw2 86 rfl) rfl
set_option maxRecDepth 100000 in
theorem q_win_43 : Cond.instanceMethod (q_mY 43) ∈ q_Lw := q_lx (q_tw3 155 rfl) rfl
set_option maxRecDepth 100000 in
theorem q_win_44 : Cond.instanceMethod (q_mY 44) ∈ q_Lw := q_lx (q_tw3 183 rfl) rfl
set_option maxRecDepth 100000 in
theorem q_win_45 : Cond.instanceMethod (q_mY 45) ∈ q_Lw := q_lx (q_tw3 187 rfl) rfl
set_option maxRecDepth 100000 in
theorem q_win_46 : Cond.instanceMethod (q_mY 46) ∈ q_Lw := q_lx (q_tw1 218 rfl) rfl
set_option maxRecDepth 100000 in
theorem q_win_47 : Cond.instanceMethod (q_mY 47) ∈ q_Lw := q_lx (q_tw2 195 rfl) rfl
set_option maxRecDepth 100000 in
theorem q_win_48 : Cond.instanceMethod (q_mY 48) ∈ q_Lw := q_lx (q_tw2 3 rfl) rfl
set_option maxRecDepth 100000 in
theorem q_win_49 : Cond.instanceMethod (q_mY 49) ∈ q_Lw := q_lx (q_tw3 53 rfl) rfl
set_option maxRecDepth 100000 in
theorem q_win_50 : Cond.instanceMethod (q_mY 50) ∈ q_Lw := q_lx (q_tw2 209 rfl) rfl
set_option maxRecDepth 100000 in
theorem q_win_51 : Cond.instanceMethod (q_mY 51) ∈ q_Lw := q_lx (q_tw2 217 rfl) rfl
set_option maxRecDepth 100000 in
theorem q_win_52 : Cond.instanceMethod (q_mY 52) ∈ q_Lw := q_lx (q_tw2 160 rfl) rfl
set_option maxRecDepth 100000 in
theorem q_win_53 : Cond.instanceMethod (q_mY 53) ∈ q_Lw := q_lx (q_tw2 188 rfl) rfl
set_option maxRecDepth 100000 in
theorem q_win_54 : Cond.instanceMethod (q_mY 54) ∈ q_Lw := q_lx (q_tw2 232 rfl) rfl
set_option maxRecDepth 100000 in
theorem q_win_55 : Cond.instanceMethod (q_mY 55) ∈ q_Lw := q_lx (q_tw3 14 rfl) rfl
set_option maxRecDepth 100000 in
theorem q_win_56 : Cond.instanceMethod (q_mY 56) ∈ q_Lw := q_lx (q_tw3 5 rfl) rfl
set_option maxRecDepth 100000 in
theorem q_win_57 : Cond.instanceMethod (q_mY 57) ∈ q_Lw := q_lx (q_tw3 80 rfl) rfl
set_option maxRecDepth 100000 in
theorem q_win_58 : Cond.instanceMethod (q_mY 58) ∈ q_Lw := q_lx (q_tw2 228 rfl) rfl
set_option maxRecDepth 100000 in
theorem q_win_59 : Cond.instanceMethod (q_mY 59) ∈ q_Lw := q_lx (q_tw3 22 rfl) rfl
set_option maxRecDepth 100000 in
theorem q_win_60 : Cond.instanceMethod (q_mY 60) ∈ q_Lw := q_lx (q_tw3 28 rfl) rfl
set_option maxRecDepth 100000 in
theorem q_win_61 : Cond.instanceMethod (q_mY 61) ∈ q_Lw := q_lx (q_tw1 17 rfl) rfl
set_option maxRecDepth 100000 in
theorem q_win_62 : Cond.instanceMethod (q_mY 62) ∈ q_Lw := q_lx (q_tw2 128 rfl) rfl
set_option maxRecDepth 100000 in
theorem q_win_63 : Cond.instanceMethod (q_mY 63) ∈ q_Lw := q_lx (q_tw2 140 rfl) rfl
set_option maxRecDepth 100000 in
theorem q_win_64 : Cond.instanceMethod (q_mY 64) ∈ q_Lw := q_lx (q_tw2 144 rfl) rfl
set_option maxRecDepth 100000 in
theorem q_win_65 : Cond.instanceMethod (q_mY 65) ∈ q_Lw := q_lx (q_tw2 152 rfl) rfl
set_option maxRecDepth 100000 in
theorem q_win_66 : Cond.instanceMethod (q_mY 66) ∈ q_Lw := q_lx (q_tw2 165 rfl) rfl
set_option maxRecDepth 100000 in
theorem q_win_67 : Cond.instanceMethod (q_mY 67) ∈ q_Lw := q_lx (q_tw2 172 rfl) rfl
set_option maxRecDepth 100000 in
theorem q_win_68 : Cond.instanceMethod (q_mY 68) ∈ q_Lw := q_lx (q_tw2 176 rfl) rfl
set_option maxRecDepth 100000 in
theorem q_win_69 : Cond.instanceMethod (q_mY 69) ∈ q_Lw := q_lx (q_tw2 180 rfl) rfl
set_option maxRecDepth 100000 in
theorem q_win_70 : Cond.instanceMethod (q_mY 70) ∈ q_Lw := q_lx (q_tw2 205 rfl) rfl
set_option maxRecDepth 100000 in
theorem q_win_71 : Cond.instanceMethod (q_mY 71) ∈ q_Lw := q_lx (q_tw2 213 rfl) rfl
set_option maxRecDepth 100000 in
theorem q_win_72 : Cond.instanceMethod (q_mY 72) ∈ q_Lw := q_lx (q_tw2 221 rfl) rfl
set_option maxRecDepth 100000 in
theorem q_win_73 : Cond.instanceMethod (q_mY 73) ∈ q_Lw := q_lx (q_tw3 9 rfl) rfl
set_option maxRecDepth 100000 in
theorem q_win_74 : Cond.instanceMethod (q_mY 74) ∈ q_Lw := q_lx (q_tw3 18 rfl) rfl
set_option maxRecDepth 100000 in
theorem q_win_75 : Cond.instanceMethod (q_mY 75) ∈ q_Lw := q_lx (q_tw3 49 rfl) rfl
set_option maxRecDepth 100000 in
theorem q_win_76 : Cond.instanceMethod (q_mY 76) ∈ q_Lw := q_lx (q_tw3 67 rfl) rfl
set_option maxRecDepth 100000 in
theorem q_win_77 : Cond.instanceMethod (q_mY 77) ∈ q_Lw := q_lx (q_tw3 75 rfl) rfl
set_option maxRecDepth 100000 in
theorem q_win_78 : Cond.instanceMethod (q_mY 78) ∈ q_Lw := q_lx (q_tw3 97 rfl) rfl
set_option maxRecDepth 100000 in
theorem q_win_79 : Cond.instanceMethod (q_mY 79) ∈ q_Lw := q_lx (q_tw3 115 rfl) rfl
set_option maxRecDepth 100000 in
theorem q_win_80 : Cond.instanceMethod (q_mY 80) ∈ q_Lw := q_lx (q_tw3 128 rfl) rfl
set_option maxRecDepth 100000 in
theorem q_win_81 : Cond.instanceMethod (q_mY 81) ∈ q_Lw := q_lx (q_tw3 132 rfl) rfl
set_option maxRecDepth 100000 in
theorem q_win_82 : Cond.instanceMethod (q_mY 82) ∈ q_Lw := q_lx (q_tw3 136 rfl) rfl
set_option maxRecDepth 100000 in
theorem q_win_83 : Cond.instanceMethod (q_mY 83) ∈ q_Lw := q_lx (q_tw3 144 rfl) rfl
set_option maxRecDepth 100000 in
theorem q_win_84 : Cond.instanceMethod (q_mY 84) ∈ q_Lw := q_lx (q_tw3 163 rfl) rfl
set_option maxRecDepth 100000 in
theorem q_win_85 : Cond.instanceMethod (q_mY 85) ∈ q_Lw := q_lx (q_tw3 167 rfl) rfl
set_option maxRecDepth 100000 in
theorem q_win_86 : Cond.instanceMethod (q_mY 86) ∈ q_Lw := q_lx (q_tw3 171 rfl) rfl
set_option maxRecDepth 100000 in
theorem q_win_87 : Cond.instanceMethod (q_mY 87) ∈ q_Lw := q_lx (q_tw3 175 rfl) rfl
set_option maxRecDepth 100000 in
theorem q_win_88 : Cond.instanceMethod (q_mY 88) ∈ q_Lw := q_lx (q_tw3 179 rfl) rfl
set_option maxRecDepth 100000 in
theorem q_win_89 : Cond.instanceMethod (q_mY 89) ∈ q_Lw := q_lx (q_tw3 191 rfl) rfl
set_option maxRecDepth 100000 in
theorem q_win_90 : Cond.instanceMethod (q_mY 90) ∈ q_Lw := q_lx (q_tw3 204 rfl) rfl
set_option maxRecDepth 100000 in
theorem q_win_91 : Cond.instanceMethod (q_mY 91) ∈ q_Lw := q_lx (q_tw3 208 rfl) rfl
set_option maxRecDepth 100000 in
theorem q_win_92 : Cond.instanceMethod (q_mY 92) ∈ q_Lw := q_lx (q_tw3 212 rfl) rfl
set_option maxRecDepth 100000 in
theorem q_win_93 : Cond.instanceMethod (q_mY 93) ∈ q_Lw := q_lx (q_tw3 216 rfl) rfl
set_option maxRecDepth 100000 in
theorem q_win_94 : Cond.instanceMethod (q_mY 94) ∈ q_Lw := q_lx (q_tw3 220 rfl) rfl
set_option maxRecDepth 100000 in
theorem q_win_95 : Cond.instanceMethod (q_mY 95) ∈ q_Lw := q_lx (q_tw3 224 rfl) rfl
set_option maxRecDepth 100000 in
theorem q_win_96 : Cond.instanceMethod (q_mY 96) ∈ q_Lw := q_lx (q_tw3 229 rfl) rfl
set_option maxRecDepth 100000 in
theorem q_win_97 : Cond.instanceMethod (q_mY 97) ∈ q_Lw := q_lx (q_tw3 234 rfl) rfl
set_option maxRecDepth 100000 in
theorem q_win_98 : Cond.instanceMethod (q_mY 98) ∈ q_Lw := q_lx (q_tw2 185 rfl) rfl
set_option maxRecDepth 100000 in
theorem q_win_104 : Cond.instanceMethod (q_mY 104) ∈ q_Lw := q_lx (q_tw3 149 rfl) rfl
set_option maxRecDepth 100000 in
theorem q_win_105 : Cond.instanceMethod (q_mY 105) ∈ q_Lw := q_lx (q_tw3 160 rfl) rfl
set_option maxRecDepth 100000 in
theorem q_win_106 : Cond.instanceMethod (q_mY 106) ∈ q_Lw := q_lx (q_tw3 72 rfl) rfl
set_option maxRecDepth 100000 in
theorem q_win_107 : Cond.instanceMethod (q_mY 107) ∈ q_Lw := q_lx (q_tw3 197 rfl) rfl
set_option maxRecDepth 100000 in
theorem q_win_109 : Cond.instanceMethod (q_mY 109) ∈ q_Lw := q_lx (q_tw4 3 rfl) rfl
set_option maxRecDepth 100000 in
theorem q_win_112 : Cond.instanceMethod (q_mY 112) ∈ q_Lw := q_lx (q_tw4 213 rfl) rfl
set_option maxRecDepth 100000 in
theorem q_win_114 : Cond.instanceMethod (q_mY 114) ∈ q_Lw := q_lx (q_tw4 171 rfl) rfl
set_option maxRecDepth 100000 in
theorem q_win_115 : Cond.instanceMethod (q_mY 115) ∈ q_Lw := q_lx (q_tw4 186 rfl) rfl
set_option maxRecDepth 100000 in
theorem q_win_117 : Cond.instanceMethod (q_mY 117) ∈ q_Lw := q_lx (q_tw4 166 rfl) rfl
set_option maxRecDepth 100000 in
theorem q_win_118 : Cond.instanceMethod (q_mY 118) ∈ q_Lw := q_lx (q_tw4 174 rfl) rfl
set_option maxRecDepth 100000 in
theorem q_win_119 : Cond.instanceMethod (q_mY 119) ∈ q_Lw := q_lx (q_tw4 178 rfl) rfl
set_option maxRecDepth 100000 in
theorem q_win_120 : Cond.instanceMethod (q_mY 120) ∈ q_Lw := q_lx (q_tw4 192 rfl) rfl
set_option maxRecDepth 100000 in
theorem q_win_122 : Cond.instanceMethod (q_mY 122) ∈ q_Lw := q_lx (q_tw4 196 rfl) rfl
set_option maxRecDepth 100000 in
theorem q_win_123 : Cond.instanceMethod (q_mY 123) ∈ q_Lw := q_lx (q_tw4 19 rfl) rfl
set_option maxRecDepth 100000 in
theorem q_win_124 : Cond.instanceMethod (q_mY 124) ∈ q_Lw := q_lx (q_tw4 12 rfl) rfl
set_option maxRecDepth 100000 in
theorem q_win_126 : Cond.instanceMethod (q_mY 126) ∈ q_Lw := q_lx (q_tw4 28 rfl) rfl
set_option maxRecDepth 100000 in
theorem q_win_127 : Cond.instanceMethod (q_mY 127) ∈ q_Lw := q_lx (q_tw4 32 rfl) rfl
set_option maxRecDepth 100000 in
theorem q_win_128 : Cond.instanceMethod (q_mY 128) ∈ q_Lw := q_lx (q_tw4 43 rfl) rfl
set_option maxRecDepth 100000 in
theorem q_win_129 : Cond.instanceMethod (q_mY 129) ∈ q_Lw := q_lx (q_tw4 39 rfl) rfl
set_option maxRecDepth 100000 in
theorem q_win_130 : Cond.instanceMethod (q_mY 130) ∈ q_Lw := q_lx (q_tw4 51 rfl) rfl
set_option maxRecDepth 100000 in
theorem q_win_131 : Cond.instanceMethod (q_mY 131) ∈ q_Lw := q_lx (q_tw4 47 rfl) rfl
set_option maxRecDepth 100000 in
theorem q_win_132 : Cond.instanceMethod (q_mY 132) ∈ q_Lw := q_lx (q_tw4 23 rfl) rfl
set_option maxRecDepth 100000 in
theorem q_win_133 : Cond.instanceMethod (q_mY 133) ∈ q_Lw := q_lx (q_tw4 7 rfl) rfl
set_option maxRecDepth 100000 in
theorem q_win_135 : Cond.instanceMethod (q_mY 135) ∈ q_Lw := q_lx (q_tw4 221 rfl) rfl
set_option maxRecDepth 100000 in
theorem q_win_136 : Cond.instanceMethod (q_mY 136) ∈ q_Lw := q_lx (q_tw4 204 rfl) rfl
set_option maxRecDepth 100000 in
theorem q_win_137 : Cond.instanceMethod (q_mY 137) ∈ q_Lw := q_lx (q_tw4 217 rfl) rfl
set_option maxRecDepth 100000 in
theorem q_win_138 : Cond.instanceMethod (q_mY 138) ∈ q_Lw := q_lx (q_tw4 208 rfl) rfl
set_option maxRecDepth 100000 in
theorem q_win_139 : Cond.instanceMethod (q_mY 139) ∈ q_Lw := q_lx (q_tw4 230 rfl) rfl
set_option maxRecDepth 100000 in
theorem q_win_140 : Cond.instanceMethod (q_mY 140) ∈ q_Lw := q_lx (q_tw4 234 rfl) rfl
set_option maxRecDepth 100000 in
theorem q_win_141 : Cond.instanceMethod (q_mY 141) ∈ q_Lw := q_lx (q_tw5 7 rfl) rfl
set_option maxRecDepth 100000 in
theorem q_win_142 : Cond.instanceMethod (q_mY 142) ∈ q_Lw := q_lx (q_tw5 19 rfl) rfl
set_option maxRecDepth 100000 in
theorem q_win_143 : Cond.instanceMethod (q_mY 143) ∈ q_Lw := q_lx (q_tw5 11 rfl) rfl
set_option maxRecDepth 100000 in
theorem q_win_144 : Cond.instanceMethod (q_mY 144) ∈ q_Lw := q_lx (q_tw5 3 rfl) rfl
set_option maxRecDepth 100000 in
theorem q_win_145 : Cond.instanceMethod (q_mY 145) ∈ q_Lw := q_lx (q_tw4 238 rfl) rfl
set_option maxRecDepth 100000 in
theorem q_win_146 : Cond.instanceMethod (q_mY 146) ∈ q_Lw := q_lx (q_tw5 14 rfl) rfl
set_option maxRecDepth 100000 in
theorem q_win_147 : Cond.instanceMethod (q_mY 147) ∈ q_Lw := q_lx (q_tw5 43 rfl) rfl
set_option maxRecDepth 100000 in
theorem q_win_148 : Cond.instanceMethod (q_mY 148) ∈ q_Lw := q_lx (q_tw5 39 rfl) rfl
set_option maxRecDepth 100000 in
theorem q_win_149 : Cond.instanceMethod (q_mY 149) ∈ q_Lw := q_lx (q_tw5 35 rfl) rfl
set_option maxRecDepth 100000 in
theorem q_win_150 : Cond.instanceMethod (q_mY 150) ∈ q_Lw := q_lx (q_tw5 31 rfl) rfl
set_option maxRecDepth 100000 in
theorem q_win_151 : Cond.instanceMethod (q_mY 151) ∈ q_Lw := q_lx (q_tw5 27 rfl) rfl
set_option maxRecDepth 100000 in
theorem q_win_152 : Cond.instanceMethod (q_mY 152) ∈ q_Lw := q_lx (q_tw5 22 rfl) rfl
set_option maxRecDepth 100000 in
theorem q_win_153 : Cond.instanceMethod (q_mY 153) ∈ q_Lw := q_lx (q_tw5 55 rfl) rfl
set_option maxRecDepth 100000 in
theorem q_win_154 : Cond.instanceMethod (q_mY 154) ∈ q_Lw := q_lx (q_tw5 51 rfl) rfl
set_option maxRecDepth 100000 in
theorem q_win_155 : Cond.instanceMethod (q_mY 155) ∈ q_Lw := q_lx (q_tw5 59 rfl) rfl
set_option maxRecDepth 100000 in
theorem q_win_156 : Cond.instanceMethod (q_mY 156) ∈ q_Lw := q_lx (q_tw5 46 rfl) rfl
set_option maxRecDepth 100000 in
theorem q_win_157 : Cond.instanceMethod (q_mY 157) ∈ q_Lw := q_lx (q_tw5 67 rfl) rfl
set_option maxRecDepth 100000 in
theorem q_win_158 : Cond.instanceMethod (q_mY 158) ∈ q_Lw := q_lx (q_tw5 62 rfl) rfl
set_option maxRecDepth 100000 in
theorem q_win_159 : Cond.instanceMethod (q_mY 159) ∈ q_Lw := q_lx (q_tw5 76 rfl) rfl
set_option maxRecDepth 100000 in
theorem q_win_160 : Cond.instanceMethod (q_mY 160) ∈ q_Lw := q_lx (q_tw5 92 rfl) rfl
set_option maxRecDepth 100000 in
theorem q_win_161 : Cond.instanceMethod (q_mY 161) ∈ q_Lw := q_lx (q_tw5 96 rfl) rfl
set_option maxRecDepth 100000 in
theorem q_win_162 : Cond.instanceMethod (q_mY 162) ∈ q_Lw := q_lx (q_tw5 88 rfl) rfl
set_option maxRecDepth 100000 in
theorem q_win_163 : Cond.instanceMethod (q_mY 163) ∈ q_Lw := q_lx (q_tw5 84 rfl) rfl
set_option maxRecDepth 100000 in
theorem q_win_164 : Cond.instanceMethod (q_mY 164) ∈ q_Lw := q_lx (q_tw5 80 rfl) rfl
set_option maxRecDepth 100000 in
theorem q_win_165 : Cond.instanceMethod (q_mY 165) ∈ q_Lw := q_lx (q_tw5 100 rfl) rfl
set_option maxRecDepth 100000 in
theorem q_win_166 : Cond.instanceMethod (q_mY 166) ∈ q_Lw := q_lx (q_tw5 120 rfl) rfl
set_option maxRecDepth 100000 in
theorem q_win_167 : Cond.instanceMethod (q_mY 167) ∈ q_Lw := q_lx (q_tw5 70 rfl) rfl
set_option maxRecDepth 100000 in
theorem q_win_168 : Cond.instanceMethod (q_mY 168) ∈ q_Lw := q_lx (q_tw5 116 rfl) rfl
set_option maxRecDepth 100000 in
theorem q_win_169 : Cond.instanceMethod (q_mY 169) ∈ q_Lw := q_lx (q_tw5 112 rfl) rfl
set_option maxRecDepth 100000 in
theorem q_win_170 : Cond.instanceMethod (q_mY 170) ∈ q_Lw := q_lx (q_tw5 108 rfl) rfl
set_option maxRecDepth 100000 in
theorem q_win_171 : Cond.instanceMethod (q_mY 171) ∈ q_Lw := q_lx (q_tw5 103 rfl) rfl
set_option maxRecDepth 100000 in
theorem q_win_172 : Cond.instanceMethod (q_mY 172) ∈ q_Lw := q_lx (q_tw5 132 rfl) rfl
set_option maxRecDepth 100000 in
theorem q_win_173 : Cond.instanceMethod (q_mY 173) ∈ q_Lw := q_lx (q_tw5 128 rfl) rfl
set_option maxRecDepth 100000 in
theorem q_win_174 : Cond.instanceMethod (q_mY 174) ∈ q_Lw := q_lx (q_tw5 123 rfl) rfl
set_option maxRecDepth 100000 in
theorem q_win_175 : Cond.instanceMethod (q_mY 175) ∈ q_Lw := q_lx (q_tw5 135 rfl) rfl
set_option maxRecDepth 100000 in
theorem q_win_176 : Cond.instanceMethod (q_mY 176) ∈ q_Lw := q_lx (q_tw5 139 rfl) rfl
set_option maxRecDepth 100000 in
theorem q_win_178 : Cond.instanceMethod (q_mY 178) ∈ q_Lw := q_lx (q_tw5 143 rfl) rfl
set_option maxRecDepth 100000 in
theorem q_win_179 : Cond.instanceMethod (q_mY 179) ∈ q_Lw := q_lx (q_tw5 160 rfl) rfl
set_option maxRecDepth 100000 in
theorem q_win_180 : Cond.instanceMethod (q_mY 180) ∈ q_Lw := q_lx (q_tw5 156 rfl) rfl
set_option maxRecDepth 100000 in
theorem q_win_181 : Cond.instanceMethod (q_mY 181) ∈ q_Lw := q_lx (q_tw5 164 rfl) rfl
set_option maxRecDepth 100000 in
theorem q_win_182 : Cond.instanceMethod (q_mY 182) ∈ q_Lw := q_lx (q_tw5 151 rfl) rfl
set_option maxRecDepth 100000 in
theorem q_win_183 : Cond.instanceMethod (q_mY 183) ∈ q_Lw := q_lx (q_tw5 167 rfl) rfl
set_option maxRecDepth 100000 in
theorem q_win_184 : Cond.instanceMethod (q_mY 184) ∈ q_Lw := q_lx (q_tw5 171 rfl) rfl
set_option maxRecDepth 100000 in
theorem q_win_185 : Cond.instanceMethod (q_mY 185) ∈ q_Lw := q_lx (q_tw5 175 rfl) rfl
set_option maxRecDepth 100000 in
theorem q_win_186 : Cond.instanceMethod (q_mY 186) ∈ q_Lw := q_lx (q_tw5 179 rfl) rfl
set_option maxRecDepth 100000 in
theorem q_win_187 : Cond.instanceMethod (q_mY 187) ∈ q_Lw := q_lx (q_tw5 183 rfl) rfl
set_option maxRecDepth 100000 in
theorem q_win_188 : Cond.instanceMethod (q_mY 188) ∈ q_Lw := q_lx (q_tw5 193 rfl) rfl
set_option maxRecDepth 100000 in
theorem q_win_189 : Cond.instanceMethod (q_mY 189) ∈ q_Lw := q_lx (q_tw5 187 rfl) rfl
set_option maxRecDepth 100000 in
theorem q_win_190 : Cond.instanceMethod (q_mY 190) ∈ q_Lw := q_lx (q_tw5 200 rfl) rfl
set_option maxRecDepth 100000 in
theorem q_win_191 : Cond.instanceMethod (q_mY 191) ∈ q_Lw := q_lx (q_tw5 204 rfl) rfl
set_option maxRecDepth 100000 in
theorem q_win_192 : Cond.instanceMethod (q_mY 192) ∈ q_Lw := q_lx (q_tw5 208 rfl) rfl
set_option maxRecDepth 100000 in
theorem q_win_193 : Cond.instanceMethod (q_mY 193) ∈ q_Lw := q_lx (q_tw5 212 rfl) rfl
set_option maxRecDepth 100000 in
theorem q_win_194 : Cond.instanceMethod (q_mY 194) ∈ q_Lw := q_lx (q_tw5 216 rfl) rfl
set_option maxRecDepth 100000 in
theorem q_win_195 : Cond.instanceMethod (q_mY 195) ∈ q_Lw := q_lx (q_tw5 220 rfl) rfl
set_option maxRecDepth 100000 in
theorem q_win_196 : Cond.instanceMethod (q_mY 196) ∈ q_Lw := q_lx (q_tw5 224 rfl) rfl
set_option maxRecDepth 100000 in
theorem q_win_198 : Cond.instanceMethod (q_mY 198) ∈ q_Lw := q_lx (q_tw5 229 rfl) rfl
set_option maxRecDepth 100000 in
theorem q_win_199 : Cond.instanceMethod (q_mY 199) ∈ q_Lw := q_lx (q_tw1 67 rfl) rfl
set_option maxRecDepth 100000 in
theorem q_win_200 : Cond.instanceMethod (q_mY 200) ∈ q_Lw := q_lx (q_tw1 77 rfl) rfl
set_option maxRecDepth 100000 in
theorem q_win_201 : Cond.instanceMethod (q_mY 201) ∈ q_Lw := q_lx (q_tw1 71 rfl) rfl
set_option maxRecDepth 100000 in
theorem q_win_202 : Cond.instanceMethod (q_mY 202) ∈ q_Lw := q_lx (q_tw1 81 rfl) rfl
set_option maxRecDepth 100000 in
theorem q_wse_1 : Cond.selects (q_mY 1).cls (q_mY 1) (q_mY 1) ∈ q_Lw := q_lx (q_tw3 58 rfl) rfl
set_option maxRecDepth 100000 in
theorem q_wse_2 : Cond.selects (q_mY 2).cls (q_mY 2) (q_mY 2) ∈ q_Lw := q_lx (q_tw3 106 rfl) rfl
set_option maxRecDepth 100000 in
theorem q_wse_3 : Cond.selects (q_mY 3).cls (q_mY 3) (q_mY 3) ∈ q_Lw := q_lx (q_tw2 133 rfl) rfl
set_option maxRecDepth 100000 in
theorem q_wse_4 : Cond.selects (q_mY 4).cls (q_mY 4) (q_mY 4) ∈ q_Lw := q_lx (q_tw2 137 rfl) rfl
set_option maxRecDepth 100000 in
theorem q_wse_5 : Cond.selects (q_mY 5).cls (q_mY 5) (q_mY 5) ∈ q_Lw := q_lx (q_tw2 157 rfl) rfl
set_option maxRecDepth 100000 in
theorem q_wse_6 : Cond.selects (q_mY 6).cls (q_mY 6) (q_mY 6) ∈ q_Lw := q_lx (q_tw3 64 rfl) rfl
set_option maxRecDepth 100000 in
theorem q_wse_7 : Cond.selects (q_mY 7).cls (q_mY 7) (q_mY 7) ∈ q_Lw := q_lx (q_tw3 90 rfl) rfl
set_option maxRecDepth 100000 in
theorem q_wse_8 : Cond.selects (q_mY 8).cls (q_mY 8) (q_mY 8) ∈ q_Lw := q_lx (q_tw3 94 rfl) rfl
set_option maxRecDepth 100000 in
theorem q_wse_9 : Cond.selects (q_mY 9).cls (q_mY 9) (q_mY 9) ∈ q_Lw := q_lx (q_tw3 2 rfl) rfl
set_option maxRecDepth 100000 in
theorem q_wse_10 : Cond.selects (q_mY 10).cls (q_mY 10) (q_mY 10) ∈ q_Lw := q_lx (q_tw2 238 rfl) rfl
set_option maxRecDepth 100000 in
theorem q_wse_11 : Cond.selects (q_mY 11).cls (q_mY 11) (q_mY 11) ∈ q_Lw := q_lw 17 rfl rfl
set_option maxRecDepth 100000 in
theorem q_wse_12 : Cond.selects (q_mY 12).cls (q_mY 12) (q_mY 12) ∈ q_Lw := q_lw 16 rfl rfl
set_option maxRecDepth 100000 in
theorem q_wse_13 : Cond.selects (q_mY 13).cls (q_mY 13) (q_mY 13) ∈ q_Lw := q_lx (q_tw3 34 rfl) rfl
set_option maxRecDepth 100000 in
theorem q_wse_14 : Cond.selects (q_mY 14).cls (q_mY 14) (q_mY 14) ∈ q_Lw := q_lx (q_tw3 46 rfl) rfl
set_option maxRecDepth 100000 in
theorem q_wse_15 : Cond.selects (q_mY 15).cls (q_mY 15) (q_mY 15) ∈ q_Lw := q_lx (q_tw3 102 rfl) rfl
set_option maxRecDepth 100000 in
theorem q_wse_16 : Cond.selects (q_mY 16).cls (q_mY 16) (q_mY 16) ∈ q_Lw := q_lw 19 rfl rfl
set_option maxRecDepth 100000 in
theorem q_wse_17 : Cond.selects (q_mY 17).cls (q_mY 17) (q_mY 17) ∈ q_Lw := q_lx (q_tw3 85 rfl) rfl
set_option maxRecDepth 100000 in
theorem q_wse_18 : Cond.selects (q_mY 18).cls (q_mY 18) (q_mY 18) ∈ q_Lw := q_lx (q_tw3 121 rfl) rfl
set_option maxRecDepth 100000 in
theorem q_wse_19 : Cond.selects (q_mY 19).cls (q_mY 19) (q_mY 19) ∈ q_Lw := q_lx (q_tw3 125 rfl) rfl
set_option maxRecDepth 100000 in
theorem q_wse_21 : Cond.selects (q_mY 21).cls (q_mY 21) (q_mY 21) ∈ q_Lw := q_lx (q_tw1 238 rfl) rfl
set_option maxRecDepth 100000 in
theorem q_wse_22 : Cond.selects (q_mY 22).cls (q_mY 22) (q_mY 22) ∈ q_Lw := q_lx (q_tw1 116 rfl) rfl
set_option maxRecDepth 100000 in
theorem q_wse_23 : Cond.selects (q_mY 23).cls (q_mY 23) (q_mY 23) ∈ q_Lw := q_lx (q_tw1 120 rfl) rfl
set_option maxRecDepth 100000 in
theorem q_wse_24 : Cond.selects (q_mY 24).cls (q_mY 24) (q_mY 24) ∈ q_Lw := q_lx (q_tw1 203 rfl) rfl
set_option maxRecDepth 100000 in
theorem q_wse_25 : Cond.selects (q_mY 25).cls (q_mY 25) (q_mY 25) ∈ q_Lw := q_lw 4 rfl rfl
set_option maxRecDepth 100000 in
theorem q_wse_26 : Cond.selects (q_mY 26).cls (q_mY 26) (q_mY 26) ∈ q_Lw := q_lw 5 rfl rfl
set_option maxRecDepth 100000 in
theorem q_wse_27 : Cond.selects (q_mY 27).cls (q_mY 27) (q_mY 27) ∈ q_Lw := q_lw 6 rfl rfl
set_option maxRecDepth 100000 in
theorem q_wse_28 : Cond.selects (q_mY 28).cls (q_mY 28) (q_mY 28) ∈ q_Lw := q_lw 10 rfl rfl
set_option maxRecDepth 100000 in
theorem q_wse_29 : Cond.selects (q_mY 29).cls (q_mY 29) (q_mY 29) ∈ q_Lw := q_lw 7 rfl rfl
set_option maxRecDepth 100000 in
theorem q_wse_30 : Cond.selects (q_mY 30).cls (q_mY 30) (q_mY 30) ∈ q_Lw := q_lw 8 rfl rfl
set_option maxRecDepth 100000 in
theorem q_wse_31 : Cond.selects (q_mY 31).cls (q_mY 31) (q_mY 31) ∈ q_Lw := q_lw 9 rfl rfl
set_option maxRecDepth 100000 in
theorem q_wse_32 : Cond.selects (q_mY 32).cls (q_mY 32) (q_mY 32) ∈ q_Lw := q_lw 11 rfl rfl
set_option maxRecDepth 100000 in
theorem q_wse_33 : Cond.selects (q_mY 33).cls (q_mY 33) (q_mY 33) ∈ q_Lw := q_lw 12 rfl rfl
set_option maxRecDepth 100000 in
theorem q_wse_34 : Cond.selects (q_mY 34).cls (q_mY 34) (q_mY 34) ∈ q_Lw := q_lw 13 rfl rfl
set_option maxRecDepth 100000 in
theorem q_wse_35 : Cond.selects (q_mY 35).cls (q_mY 35) (q_mY 35) ∈ q_Lw := q_lw 0 rfl rfl
set_option maxRecDepth 100000 in
theorem q_wse_36 : Cond.selects (q_mY 36).cls (q_mY 36) (q_mY 36) ∈ q_Lw := q_lw 1 rfl rfl
set_option maxRecDepth 100000 in
theorem q_wse_37 : Cond.selects (q_mY 37).cls (q_mY 37) (q_mY 37) ∈ q_Lw := q_lw 3 rfl rfl
set_option maxRecDepth 100000 in
theorem q_wse_38 : Cond.selects (q_mY 38).cls (q_mY 38) (q_mY 38) ∈ q_Lw := q_lw 2 rfl rfl
set_option maxRecDepth 100000 in
theorem q_wse_43 : Cond.selects (q_mY 43).cls (q_mY 43) (q_mY 43) ∈ q_Lw := q_lx (q_tw3 156 rfl) rfl
set_option maxRecDepth 100000 in
theorem q_wse_44 : Cond.selects (q_mY 44).cls (q_mY 44) (q_mY 44) ∈ q_Lw := q_lx (q_tw3 184 rfl) rfl
set_option maxRecDepth 100000 in
theorem q_wse_45 : Cond.selects (q_mY 45).cls (q_mY 45) (q_mY 45) ∈ q_Lw := q_lx (q_tw3 188 rfl) rfl
set_option maxRecDepth 100000 in
theorem q_wse_47 : Cond.selects (q_mY 47).cls (q_mY 47) (q_mY 47) ∈ q_Lw := q_lx (q_tw2 196 rfl) rfl
set_option maxRecDepth 100000 in
theorem q_wse_49 : Cond.selects (q_mY 49).cls (q_mY 49) (q_mY 49) ∈ q_Lw := q_lx (q_tw3 54 rfl) rfl
set_option maxRecDepth 100000 in
theorem q_wse_50 : Cond.selects (q_mY 50).cls (q_mY 50) (q_mY 50) ∈ q_Lw := q_lx (q_tw2 210 rfl) rfl
set_option maxRecDepth 100000 in
theorem q_wse_51 : Cond.selects (q_mY 51).cls (q_mY 51) (q_mY 51) ∈ q_Lw := q_lx (q_tw2 218 rfl) rfl
set_option maxRecDepth 100000 in
theorem q_wse_52 : Cond.selects (q_mY 52).cls (q_mY 52) (q_mY 52) ∈ q_Lw := q_lx (q_tw2 161 rfl) rfl
set_option maxRecDepth 100000 in
theorem q_wse_53 : Cond.selects (q_mY 53).cls (q_mY 53) (q_mY 53) ∈ q_Lw := q_lx (q_tw2 189 rfl) rfl
set_option maxRecDepth 100000 in
theorem q_wse_54 : Cond.selects (q_mY 54).cls (q_mY 54) (q_mY 54) ∈ q_Lw := q_lx (q_tw2 233 rfl) rfl
set_option maxRecDepth 100000 in
theorem q_wse_55 : Cond.selects (q_mY 55).cls (q_mY 55) (q_mY 55) ∈ q_Lw := q_lx (q_tw3 15 rfl) rfl
set_option maxRecDepth 100000 in
theorem q_wse_56 : Cond.selects (q_mY 56).cls (q_mY 56) (q_mY 56) ∈ q_Lw := q_lx (q_tw3 6 rfl) rfl
set_option maxRecDepth 100000 in
theorem q_wse_57 : Cond.selects (q_mY 57).cls (q_mY 57) (q_mY 57) ∈ q_Lw := q_lx (q_tw3 81 rfl) rfl
set_option maxRecDepth 100000 in
theorem q_wse_58 : Cond.selects (q_mY 58).cls (q_mY 58) (q_mY 58) ∈ q_Lw := q_lx (q_tw2 229 rfl) rfl
set_option maxRecDepth 100000 in
theorem q_wse_59 : Cond.selects (q_mY 59).cls (q_mY 59) (q_mY 59) ∈ q_Lw := q_lx (q_tw3 23 rfl) rfl
set_option maxRecDepth 100000 in
theorem q_wse_60 : Cond.selects (q_mY 60).cls (q_mY 60) (q_mY 60) ∈ q_Lw := q_lw 15 rfl rfl
set_option maxRecDepth 100000 in
theorem q_wse_62 : Cond.selects (q_mY 62).cls (q_mY 62) (q_mY 62) ∈ q_Lw := q_lx (q_tw2 129 rfl) rfl
set_option maxRecDepth 100000 in
theorem q_wse_63 : Cond.selects (q_mY 63).cls (q_mY 63) (q_mY 63) ∈ q_Lw := q_lx (q_tw2 141 rfl) rfl
set_option maxRecDepth 100000 in
theorem q_wse_64 : Cond.selects (q_mY 64).cls (q_mY 64) (q_mY 64) ∈ q_Lw := q_lx (q_tw2 145 rfl) rfl
set_option maxRecDepth 100000 in
theorem q_wse_65 : Cond.selects (q_mY 65).cls (q_mY 65) (q_mY 65) ∈ q_Lw := q_lx (q_tw2 153 rfl) rfl
set_option maxRecDepth 100000 in
theorem q_wse_66 : Cond.selects (q_mY 66).cls (q_mY 66) (q_mY 66) ∈ q_Lw := q_lx (q_tw2 166 rfl) rfl
set_option maxRecDepth 100000 in
theorem q_wse_67 : Cond.selects (q_mY 67).cls (q_mY 67) (q_mY 67) ∈ q_Lw := q_lx (q_tw2 173 rfl) rfl
set_option maxRecDepth 100000 in
theorem q_wse_68 : Cond.selects (q_mY 68).cls (q_mY 68) (q_mY 68) ∈ q_Lw := q_lx (q_tw2 177 rfl) rfl
set_option maxRecDepth 100000 in
theorem q_wse_69 : Cond.selects (q_mY 69).cls (q_mY 69) (q_mY 69) ∈ q_Lw := q_lx (q_tw2 181 rfl) rfl
set_option maxRecDepth 100000 in
theorem q_wse_70 : Cond.selects (q_mY 70).cls (q_mY 70) (q_mY 70) ∈ q_Lw := q_lx (q_tw2 206 rfl) rfl
set_option maxRecDepth 100000 in
theorem q_wse_71 : Cond.selects (q_mY 71).cls (q_mY 71) (q_mY 71) ∈ q_Lw := q_lx (q_tw2 214 rfl) rfl
set_option maxRecDepth 100000 in
theorem q_wse_72 : Cond.selects (q_mY 72).cls (q_mY 72) (q_mY 72) ∈ q_Lw := q_lx (q_tw2 222 rfl) rfl
set_option maxRecDepth 100000 in
theorem q_wse_73 : Cond.selects (q_mY 73).cls (q_mY 73) (q_mY 73) ∈ q_Lw := q_lx (q_tw3 10 rfl) rfl
set_option maxRecDepth 100000 in
theorem q_wse_74 : Cond.selects (q_mY 74).cls (q_mY 74) (q_mY 74) ∈ q_Lw := q_lx (q_tw3 19 rfl) rfl
set_option maxRecDepth 100000 in
theorem q_wse_75 : Cond.selects (q_mY 75).cls (q_mY 75) (q_mY 75) ∈ q_Lw := q_lx (q_tw3 50 rfl) rfl
set_option maxRecDepth 100000 in
theorem q_wse_76 : Cond.selects (q_mY 76).cls (q_mY 76) (q_mY 76) ∈ q_Lw := q_lx (q_tw3 68 rfl) rfl
set_option maxRecDepth 100000 in
theorem q_wse_77 : Cond.selects (q_mY 77).cls (q_mY 77) (q_mY 77) ∈ q_Lw := q_lx (q_tw3 76 rfl) rfl
set_option maxRecDepth 100000 in
theorem q_wse_78 : Cond.selects (q_mY 78).cls (q_mY 78) (q_mY 78) ∈ q_Lw := q_lx (q_tw3 98 rfl) rfl
set_option maxRecDepth 100000 in
theorem q_wse_79 : Cond.selects (q_mY 79).cls (q_mY 79) (q_mY 79) ∈ q_Lw := q_lx (q_tw3 116 rfl) rfl
set_option maxRecDepth 100000 in
theorem q_wse_80 : Cond.selects (q_mY 80).cls (q_mY 80) (q_mY 80) ∈ q_Lw := q_lx (q_tw3 129 rfl) rfl
set_option maxRecDepth 100000 in
theorem q_wse_81 : Cond.selects (q_mY 81).cls (q_mY 81) (q_mY 81) ∈ q_Lw := q_lx (q_tw3 133 rfl) rfl
set_option maxRecDepth 100000 in
theorem q_wse_82 : Cond.selects (q_mY 82).cls (q_mY 82) (q_mY 82) ∈ q_Lw := q_lx (q_tw3 137 rfl) rfl
set_option maxRecDepth 100000 in
theorem q_wse_83 : Cond.selects (q_mY 83).cls (q_mY 83) (q_mY 83) ∈ q_Lw := q_lx (q_tw3 145 rfl) rfl
set_option maxRecDepth 100000 in
theorem q_wse_84 : Cond.selects (q_mY 84).cls (q_mY 84) (q_mY 84) ∈ q_Lw := q_lx (q_tw3 164 rfl) rfl
set_option maxRecDepth 100000 in
theorem q_wse_85 : Cond.selects (q_mY 85).cls (q_mY 85) (q_mY 85) ∈ q_Lw := q_lx (q_tw3 168 rfl) rfl
set_option maxRecDepth 100000 in
theorem q_wse_86 : Cond.selects (q_mY 86).cls (q_mY 86) (q_mY 86) ∈ q_Lw := q_lx (q_tw3 172 rfl) rfl
set_option maxRecDepth 100000 in
theorem q_wse_87 : Cond.selects (q_mY 87).cls (q_mY 87) (q_mY 87) ∈ q_Lw := q_lx (q_tw3 176 rfl) rfl
set_option maxRecDepth 100000 in
theorem q_wse_88 : Cond.selects (q_mY 88).cls (q_mY 88) (q_mY 88) ∈ q_Lw := q_lx (q_tw3 180 rfl) rfl
set_option maxRecDepth 100000 in
theorem q_wse_89 : Cond.selects (q_mY 89).cls (q_mY 89) (q_mY 89) ∈ q_Lw := q_lx (q_tw3 192 rfl) rfl
set_option maxRecDepth 100000 in
theorem q_wse_90 : Cond.selects (q_mY 90).cls (q_mY 90) (q_mY 90) ∈ q_Lw := q_lx (q_tw3 205 rfl) rfl
set_option maxRecDepth 100000 in
theorem q_wse_91 : Cond.selects (q_mY 91).cls (q_mY 91) (q_mY 91) ∈ q_Lw := q_lx (q_tw3 209 rfl) rfl
set_option maxRecDepth 100000 in
theorem q_wse_92 : Cond.selects (q_mY 92).cls (q_mY 92) (q_mY 92) ∈ q_Lw := q_lx (q_tw3 213 rfl) rfl
set_option maxRecDepth 100000 in
theorem q_wse_93 : Cond.selects (q_mY 93).cls (q_mY 93) (q_mY 93) ∈ q_Lw := q_lx (q_tw3 217 rfl) rfl
set_option maxRecDepth 100000 in
theorem q_wse_94 : Cond.selects (q_mY 94).cls (q_mY 94) (q_mY 94) ∈ q_Lw := q_lx (q_tw3 221 rfl) rfl
set_option maxRecDepth 100000 in
theorem q_wse_95 : Cond.selects (q_mY 95).cls (q_mY 95) (q_mY 95) ∈ q_Lw := q_lx (q_tw3 225 rfl) rfl
set_option maxRecDepth 100000 in
theorem q_wse_96 : Cond.selects (q_mY 96).cls (q_mY 96) (q_mY 96) ∈ q_Lw := q_lx (q_tw3 230 rfl) rfl
set_option maxRecDepth 100000 in
theorem q_wse_97 : Cond.selects (q_mY 97).cls (q_mY 97) (q_mY 97) ∈ q_Lw := q_lx (q_tw3 235 rfl) rfl
set_option maxRecDepth 100000 in
theorem q_wse_98 : Cond.selects (q_mY 98).cls (q_mY 98) (q_mY 98) ∈ q_Lw := q_lw 14 rfl rfl
set_option maxRecDepth 100000 in
theorem q_wse_104 : Cond.selects (q_mY 104).cls (q_mY 104) (q_mY 104) ∈ q_Lw := q_lw 20 rfl rfl
set_option maxRecDepth 100000 in
theorem q_wse_105 : Cond.selects (q_mY 105).cls (q_mY 105) (q_mY 105) ∈ q_Lw := q_lw 21 rfl rfl
set_option maxRecDepth 100000 in
theorem q_wse_106 : Cond.selects (q_mY 106).cls (q_mY 106) (q_mY 106) ∈ q_Lw := q_lw 18 rfl rfl
set_option maxRecDepth 100000 in
theorem q_wse_107 : Cond.selects (q_mY 107).cls (q_mY 107) (q_mY 107) ∈ q_Lw := q_lw 22 rfl rfl
set_option maxRecDepth 100000 in
theorem q_wse_112 : Cond.selects (q_mY 112).cls (q_mY 112) (q_mY 112) ∈ q_Lw := q_lw 34 rfl rfl
set_option maxRecDepth 100000 in
theorem q_wse_114 : Cond.selects (q_mY 114).cls (q_mY 114) (q_mY 114) ∈ q_Lw := q_lw 32 rfl rfl
set_option maxRecDepth 100000 in
theorem q_wse_115 : Cond.selects (q_mY 115).cls (q_mY 115) (q_mY 115) ∈ q_Lw := q_lw 33 rfl rfl
set_option maxRecDepth 100000 in
theorem q_wse_117 : Cond.selects (q_mY 117).cls (q_mY 117) (q_mY 117) ∈ q_Lw := q_lx (q_tw4 167 rfl) rfl
set_option maxRecDepth 100000 in
theorem q_wse_118 : Cond.selects (q_mY 118).cls (q_mY 118) (q_mY 118) ∈ q_Lw := q_lx (q_tw4 175 rfl) rfl
set_option maxRecDepth 100000 in
theorem q_wse_119 : Cond.selects (q_mY 119).cls (q_mY 119) (q_mY 119) ∈ q_Lw := q_lx (q_tw4 179 rfl) rfl
set_option maxRecDepth 100000 in
theorem q_wse_120 : Cond.selects (q_mY 120).cls (q_mY 120) (q_mY 120) ∈ q_Lw := q_lx (q_tw4 193 rfl) rfl
set_option maxRecDepth 100000 in
theorem q_wse_122 : Cond.selects (q_mY 122).cls (q_mY 122) (q_mY 122) ∈ q_Lw := q_lx (q_tw4 197 rfl) rfl
set_option maxRecDepth 100000 in
theorem q_wse_123 : Cond.selects (q_mY 123).cls (q_mY 123) (q_mY 123) ∈ q_Lw := q_lw 24 rfl rfl
set_option maxRecDepth 100000 in
theorem q_wse_124 : Cond.selects (q_mY 124).cls (q_mY 124) (q_mY 124) ∈ q_Lw := q_lw 23 rfl rfl
set_option maxRecDepth 100000 in
theorem q_wse_126 : Cond.selects (q_mY 126).cls (q_mY 126) (q_mY 126) ∈ q_Lw := q_lw 26 rfl rfl
set_option maxRecDepth 100000 in
theorem q_wse_127 : Cond.selects (q_mY 127).cls (q_mY 127) (q_mY 127) ∈ q_Lw := q_lw 27 rfl rfl
set_option maxRecDepth 100000 in
theorem q_wse_128 : Cond.selects (q_mY 128).cls (q_mY 128) (q_mY 128) ∈ q_Lw := q_lw 29 rfl rfl
set_option maxRecDepth 100000 in
theorem q_wse_129 : Cond.selects (q_mY 129).cls (q_mY 129) (q_mY 129) ∈ q_Lw := q_lw 28 rfl rfl
set_option maxRecDepth 100000 in
theorem q_wse_130 : Cond.selects (q_mY 130).cls (q_mY 130) (q_mY 130) ∈ q_Lw := q_lw 31 rfl rfl
set_option maxRecDepth 100000 in
theorem q_wse_131 : Cond.selects (q_mY 131).cls (q_mY 131) (q_mY 131) ∈ q_Lw := q_lw 30 rfl rfl
set_option maxRecDepth 100000 in
theorem q_wse_132 : Cond.selects (q_mY 132).cls (q_mY 132) (q_mY 132) ∈ q_Lw := q_lw 25 rfl rfl
set_option maxRecDepth 100000 in
theorem q_wse_133 : Cond.selects (q_mY 133).cls (q_mY 133) (q_mY 133) ∈ q_Lw := q_lx (q_tw4 8 rfl) rfl
set_option maxRecDepth 100000 in
theorem q_wse_135 : Cond.selects (q_mY 135).cls (q_mY 135) (q_mY 135) ∈ q_Lw := q_lw 36 rfl rfl
set_option maxRecDepth 100000 in
theorem q_wse_136 : Cond.selects (q_mY 136).cls (q_mY 136) (q_mY 136) ∈ q_Lw := q_lx (q_tw4 205 rfl) rfl
set_option maxRecDepth 100000 in
theorem q_wse_137 : Cond.selects (q_mY 137).cls (q_mY 137) (q_mY 137) ∈ q_Lw := q_lw 35 rfl rfl
set_option maxRecDepth 100000 in
theorem q_wse_138 : Cond.selects (q_mY 138).cls (q_mY 138) (q_mY 138) ∈ q_Lw := q_lx (q_tw4 209 rfl) rfl
set_option maxRecDepth 100000 in
theorem q_wse_139 : Cond.selects (q_mY 139).cls (q_mY 139) (q_mY 139) ∈ q_Lw := q_lx (q_tw4 231 rfl) rfl
set_option maxRecDepth 100000 in
theorem q_wse_140 : Cond.selects (q_mY 140).cls (q_mY 140) (q_mY 140) ∈ q_Lw := q_lx (q_tw4 235 rfl) rfl
set_option maxRecDepth 100000 in
theorem q_wse_141 : Cond.selects (q_mY 141).cls (q_mY 141) (q_mY 141) ∈ q_Lw := q_lw 38 rfl rfl
set_option maxRecDepth 100000 in
theorem q_wse_142 : Cond.selects (q_mY 142).cls (q_mY 142) (q_mY 142) ∈ q_Lw := q_lw 40 rfl rfl
set_option maxRecDepth 100000 in
theorem q_wse_143 : Cond.selects (q_mY 143).cls (q_mY 143) (q_mY 143) ∈ q_Lw := q_lw 39 rfl rfl
set_option maxRecDepth 100000 in
theorem q_wse_144 : Cond.selects (q_mY 144).cls (q_mY 144) (q_mY 144) ∈ q_Lw := q_lw 37 rfl rfl
set_option maxRecDepth 100000 in
theorem q_wse_145 : Cond.selects (q_mY 145).cls (q_mY 145) (q_mY 145) ∈ q_Lw := q_lx (q_tw4 239 rfl) rfl
set_option maxRecDepth 100000 in
theorem q_wse_146 : Cond.selects (q_mY 146).cls (q_mY 146) (q_mY 146) ∈ q_Lw := q_lx (q_tw5 15 rfl) rfl
set_option maxRecDepth 100000 in
theorem q_wse_147 : Cond.selects (q_mY 147).cls (q_mY 147) (q_mY 147) ∈ q_Lw := q_lw 45 rfl rfl
set_option maxRecDepth 100000 in
theorem q_wse_148 : Cond.selects (q_mY 148).cls (q_mY 148) (q_mY 148) ∈ q_Lw := q_lw 44 rfl rfl
set_option maxRecDepth 100000 in
theorem q_wse_149 : Cond.selects (q_mY 149).cls (q_mY 149) (q_mY 149) ∈ q_Lw := q_lw 43 rfl rfl
set_option maxRecDepth 100000 in
theorem q_wse_150 : Cond.selects (q_mY 150).cls (q_mY 150) (q_mY 150) ∈ q_Lw := q_lw 42 rfl rfl
set_option maxRecDepth 100000 in
theorem q_wse_151 : Cond.selects (q_mY 151).cls (q_mY 151) (q_mY 151) ∈ q_Lw := q_lw 41 rfl rfl
set_option maxRecDepth 100000 in
theorem q_wse_152 : Cond.selects (q_mY 152).cls (q_mY 152) (q_mY 152) ∈ q_Lw := q_lx (q_tw5 23 rfl) rfl
set_option maxRecDepth 100000 in
theorem q_wse_153 : Cond.selects (q_mY 153).cls (q_mY 153) (q_mY 153) ∈ q_Lw := q_lw 47 rfl rfl
set_option maxRecDepth 100000 in
theorem q_wse_154 : Cond.selects (q_mY 154).cls (q_mY 154) (q_mY 154) ∈ q_Lw := q_lw 46 rfl rfl
set_option maxRecDepth 100000 in
theorem q_wse_155 : Cond.selects (q_mY 155).cls (q_mY 155) (q_mY 155) ∈ q_Lw := q_lw 48 rfl rfl
set_option maxRecDepth 100000 in
theorem q_wse_156 : Cond.selects (q_mY 156).cls (q_mY 156) (q_mY 156) ∈ q_Lw := q_lx (q_tw5 47 rfl) rfl
set_option maxRecDepth 100000 in
theorem q_wse_157 : Cond.selects (q_mY 157).cls (q_mY 157) (q_mY 157) ∈ q_Lw := q_lw 49 rfl rfl
set_option maxRecDepth 100000 in
theorem q_wse_158 : Cond.selects (q_mY 158).cls (q_mY 158) (q_mY 158) ∈ q_Lw := q_lx (q_tw5 63 rfl) rfl
set_option maxRecDepth 100000 in
theorem q_wse_159 : Cond.selects (q_mY 159).cls (q_mY 159) (q_mY 159) ∈ q_Lw := q_lw 50 rfl rfl
set_option maxRecDepth 100000 in
theorem q_wse_160 : Cond.selects (q_mY 160).cls (q_mY 160) (q_mY 160) ∈ q_Lw := q_lw 54 rfl rfl
set_option maxRecDepth 100000 in
theorem q_wse_161 : Cond.selects (q_mY 161).cls (q_mY 161) (q_mY 161) ∈ q_Lw := q_lw 55 rfl rfl
set_option maxRecDepth 100000 in
theorem q_wse_162 : Cond.selects (q_mY 162).cls (q_mY 162) (q_mY 162) ∈ q_Lw := q_lw 53 rfl rfl
set_option maxRecDepth 100000 in
theorem q_wse_163 : Cond.selects (q_mY 163).cls (q_mY 163) (q_mY 163) ∈ q_Lw := q_lw 52 rfl rfl
set_option maxRecDepth 100000 in
theorem q_wse_164 : Cond.selects (q_mY 164).cls (q_mY 164) (q_mY 164) ∈ q_Lw := q_lw 51 rfl rfl
set_option maxRecDepth 100000 in
theorem q_wse_165 : Cond.selects (q_mY 165).cls (q_mY 165) (q_mY 165) ∈ q_Lw := q_lw 56 rfl rfl
set_option maxRecDepth 100000 in
theorem q_wse_166 : Cond.selects (q_mY 166).cls (q_mY 166) (q_mY 166) ∈ q_Lw := q_lw 60 rfl rfl
set_option maxRecDepth 100000 in
theorem q_wse_167 : Cond.selects (q_mY 167).cls (q_mY 167) (q_mY 167) ∈ q_Lw := q_lx (q_tw5 71 rfl) rfl
set_option maxRecDepth 100000 in
theorem q_wse_168 : Cond.selects (q_mY 168).cls (q_mY 168) (q_mY 168) ∈ q_Lw := q_lw 59 rfl rfl
set_option maxRecDepth 100000 in
theorem q_wse_169 : Cond.selects (q_mY 169).cls (q_mY 169) (q_mY 169) ∈ q_Lw := q_lw 58 rfl rfl
set_option maxRecDepth 100000 in
theorem q_wse_170 : Cond.selects (q_mY 170).cls (q_mY 170) (q_mY 170) ∈ q_Lw := q_lw 57 rfl rfl
set_option maxRecDepth 100000 in
theorem q_wse_171 : Cond.selects (q_mY 171).cls (q_mY 171) (q_mY 171) ∈ q_Lw := q_lx (q_tw5 104 rfl) rfl
set_option maxRecDepth 100000 in
theorem q_wse_172 : Cond.selects (q_mY 172).cls (q_mY 172) (q_mY 172) ∈ q_Lw := q_lw 62 rfl rfl
set_option maxRecDepth 100000 in
theorem q_wse_173 : Cond.selects (q_mY 173).cls (q_mY 173) (q_mY 173) ∈ q_Lw := q_lw 61 rfl rfl
set_option maxRecDepth 100000 in
theorem q_wse_174 : Cond.selects (q_mY 174).cls (q_mY 174) (q_mY 174) ∈ q_Lw := q_lx (q_tw5 124 rfl) rfl
set_option maxRecDepth 100000 in
theorem q_wse_175 : Cond.selects (q_mY 175).cls (q_mY 175) (q_mY 175) ∈ q_Lw := q_lx (q_tw5 136 rfl) rfl
set_option maxRecDepth 100000 in
theorem q_wse_176 : Cond.selects (q_mY 176).cls (q_mY 176) (q_mY 176) ∈ q_Lw := q_lx (q_tw5 140 rfl) rfl
set_option maxRecDepth 100000 in
theorem q_wse_178 : Cond.selects (q_mY 178).cls (q_mY 178) (q_mY 178) ∈ q_Lw := q_lx (q_tw5 144 rfl) rfl
set_option maxRecDepth 100000 in
theorem q_wse_179 : Cond.selects (q_mY 179).cls (q_mY 179) (q_mY 179) ∈ q_Lw := q_lw 64 rfl rfl
set_option maxRecDepth 100000 in
theorem q_wse_180 : Cond.selects (q_mY 180).cls (q_mY 180) (q_mY 180) ∈ q_Lw := q_lw 63 rfl rfl
set_option maxRecDepth 100000 in
theorem q_wse_181 : Cond.selects (q_mY 181).cls (q_mY 181) (q_mY 181) ∈ q_Lw := q_lw 65 rfl rfl
set_option maxRecDepth 100000 in
theorem q_wse_182 : Cond.selects (q_mY 182).cls (q_mY 182) (q_mY 182) ∈ q_Lw := q_lx (q_tw5 152 rfl) rfl
set_option maxRecDepth 100000 in
theorem q_wse_183 : Cond.selects (q_mY 183).cls (q_mY 183) (q_mY 183) ∈ q_Lw := q_lx (q_tw5 168 rfl) rfl
set_option maxRecDepth 100000 in
theorem q_wse_184 : Cond.selects (q_mY 184).cls (q_mY 184) (q_mY 184) ∈ q_Lw := q_lx (q_tw5 172 rfl) rfl
set_option maxRecDepth 100000 in
theorem q_wse_185 : Cond.selects (q_mY 185).cls (q_mY 185) (q_mY 185) ∈ q_Lw := q_lx (q_tw5 176 rfl) rfl
set_option maxRecDepth 100000 in
theorem q_wse_186 : Cond.selects (q_mY 186).cls (q_mY 186) (q_mY 186) ∈ q_Lw := q_lx (q_tw5 180 rfl) rfl
set_option maxRecDepth 100000 in
theorem q_wse_187 : Cond.selects (q_mY 187).cls (q_mY 187) (q_mY 187) ∈ q_Lw := q_lx (q_tw5 184 rfl) rfl
set_option maxRecDepth 100000 in
theorem q_wse_188 : Cond.selects (q_mY 188).cls (q_mY 188) (q_mY 188) ∈ q_Lw := q_lw 66 rfl rfl
set_option maxRecDepth 100000 in
theorem q_wse_189 : Cond.selects (q_mY 189).cls (q_mY 189) (q_mY 189) ∈ q_Lw := q_lx (q_tw5 188 rfl) rfl
set_option maxRecDepth 100000 in
theorem q_wse_190 : Cond.selects (q_mY 190).cls (q_mY 190) (q_mY 190) ∈ q_Lw := q_lx (q_tw5 201 rfl) rfl
set_option maxRecDepth 100000 in
theorem q_wse_191 : Cond.selects (q_mY 191).cls (q_mY 191) (q_mY 191) ∈ q_Lw := q_lx (q_tw5 205 rfl) rfl
set_option maxRecDepth 100000 in
theorem q_wse_192 : Cond.selects (q_mY 192).cls (q_mY 192) (q_mY 192) ∈ q_Lw := q_lx (q_tw5 209 rfl) rfl
set_option maxRecDepth 100000 in
theorem q_wse_193 : Cond.selects (q_mY 193).cls (q_mY 193) (q_mY 193) ∈ q_Lw := q_lx (q_tw5 213 rfl) rfl
set_option maxRecDepth 100000 in
theorem q_wse_194 : Cond.selects (q_mY 194).cls (q_mY 194) (q_mY 194) ∈ q_Lw := q_lx (q_tw5 217 rfl) rfl
set_option maxRecDepth 100000 in
theorem q_wse_195 : Cond.selects (q_mY 195).cls (q_mY 195) (q_mY 195) ∈ q_Lw := q_lx (q_tw5 221 rfl) rfl
set_option maxRecDepth 100000 in
theorem q_wse_196 : Cond.selects (q_mY 196).cls (q_mY 196) (q_mY 196) ∈ q_Lw := q_lx (q_tw5 225 rfl) rfl
set_option maxRecDepth 100000 in
theorem q_wse_198 : Cond.selects (q_mY 198).cls (q_mY 198) (q_mY 198) ∈ q_Lw := q_lx (q_tw5 230 rfl) rfl
set_option maxRecDepth 100000 in
theorem q_wse_199 : Cond.selects (q_mY 199).cls (q_mY 199) (q_mY 199) ∈ q_Lw := q_lx (q_tw1 68 rfl) rfl
set_option maxRecDepth 100000 in
theorem q_wse_200 : Cond.selects (q_mY 200).cls (q_mY 200) (q_mY 200) ∈ q_Lw := q_lx (q_tw1 78 rfl) rfl
set_option maxRecDepth 100000 in
theorem q_wse_201 : Cond.selects (q_mY 201).cls (q_mY 201) (q_mY 201) ∈ q_Lw := q_lx (q_tw1 72 rfl) rfl
set_option maxRecDepth 100000 in
theorem q_wse_202 : Cond.selects (q_mY 202).cls (q_mY 202) (q_mY 202) ∈ q_Lw := q_lx (q_tw1 82 rfl) rfl
set_option maxRecDepth 100000 in
theorem q_wst_c0 : ∀ id ∈ ([39, 40, 41, 99, 100, 101, 102, 103, 108, 110, 111, 113, 116, 121, 125, 134, 177, 197, 203, 204, 205, 206, 207, 208] : List Nat), Cond.static (q_mY id) ∈ q_Lw := List.forall_mem_cons.mpr ⟨q_wst_39, List.forall_mem_cons.mpr ⟨q_wst_40, List.forall_mem_cons.mpr ⟨q_wst_41, List.forall_mem_cons.mpr ⟨q_wst_99, List.forall_mem_cons.mpr ⟨q_wst_100, List.forall_mem_cons.mpr ⟨q_wst_101, List.forall_mem_cons.mpr ⟨q_wst_102, List.forall_mem_cons.mpr ⟨q_wst_103, List.forall_mem_cons.mpr ⟨q_wst_108, List.forall_mem_cons.mpr ⟨q_wst_110, List.forall_mem_cons.mpr ⟨q_wst_111, List.forall_mem_cons.mpr ⟨q_wst_113, List.forall_mem_cons.mpr ⟨q_wst_116, List.forall_mem_cons.mpr ⟨q_wst_121, List.forall_mem_cons.mpr ⟨q_wst_125, List.forall_mem_cons.mpr ⟨q_wst_134, List.forall_mem_cons.mpr ⟨q_wst_177, List.forall_mem_cons.mpr ⟨q_wst_197, List.forall_mem_cons.mpr ⟨q_wst_203, List.forall_mem_cons.mpr ⟨q_wst_204, List.forall_mem_cons.mpr ⟨q_wst_205, List.forall_mem_cons.mpr ⟨q_wst_206, List.forall_mem_cons.mpr ⟨q_wst_207, List.forall_mem_cons.mpr ⟨q_wst_208, fun _ h => absurd h List.not_mem_nil⟩⟩⟩⟩⟩⟩⟩⟩⟩⟩⟩⟩⟩⟩⟩⟩⟩⟩⟩⟩⟩⟩⟩⟩
set_option maxRecDepth 100000 in
theorem q_wst : ∀ id ∈ ([39, 40, 41, 99, 100, 101, 102, 103, 108, 110, 111, 113, 116, 121, 125, 134, 177, 197, 203, 204, 205, 206, 207, 208] : List Nat), Cond.static (q_mY id) ∈ q_Lw := q_wst_c0
set_option maxRecDepth 100000 in
theorem q_win_c0 : ∀ id ∈ ([0, 1, 2, 3, 4, 5, 6, 7, 8, 9, 10, 11, 12, 13, 14, 15, 16, 17, 18, 19, 20, 21, 22, 23, 24, 25, 26, 27, 28, 29, 30, 31, 32, 33, 34, 35, 36, 37, 38, 42] : List Nat), Cond.instanceMethod (q_mY id) ∈ q_Lw := List.forall_mem_cons.mpr ⟨q_win_0, List.forall_mem_cons.mpr ⟨q_win_1, List.forall_mem_cons.mpr ⟨q_win_2, List.forall_mem_cons.mpr ⟨q_win_3, List.forall_mem_cons.mpr ⟨q_win_4, List.forall_mem_cons.mpr ⟨q_win_5, List.forall_mem_cons.mpr ⟨q_win_6, List.forall_mem_cons.mpr ⟨q_win_7, List.forall_mem_cons.mpr ⟨q_win_8, List.forall_mem_cons.mpr ⟨q_win_9, List.forall_mem_cons.mpr ⟨q_win_10, List.forall_mem_cons.mpr ⟨q_win_11, List.forall_mem_cons.mpr ⟨q_win_12, List.forall_mem_cons.mpr ⟨q_win_13, List.forall_mem_cons.mpr ⟨q_win_14, List.forall_mem_cons.mpr ⟨q_win_15, List.forall_mem_cons.mpr ⟨q_win_16, List.forall_mem_cons.mpr ⟨q_win_17, List.forall_mem_cons.mpr ⟨q_win_18, List.forall_mem_cons.mpr ⟨q_win_19, List.forall_mem_cons.mpr ⟨q_win_20, List.forall_mem_cons.mpr ⟨q_win_21, List.forall_mem_cons.mpr ⟨q_win_22, List.forall_mem_cons.mpr ⟨q_win_23, List.forall_mem_cons.mpr ⟨q_win_24, List.forall_mem_cons.mpr ⟨q_win_25, List.forall_mem_cons.mpr ⟨q_win_26, List.forall_mem_cons.mpr ⟨q_win_27, List.forall_mem_cons.mpr ⟨q_win_28, List.forall_mem_cons.mpr ⟨q_win_29, List.forall_mem_cons.mpr ⟨q_win_30, List.forall_mem_cons.mpr ⟨q_win_31, List.forall_mem_cons.mpr ⟨q_win_32, List.forall_mem_cons.mpr ⟨q_win_33, List.forall_mem_cons.mpr ⟨q_win_34, List.forall_mem_cons.mpr ⟨q_win_35, List.forall_mem_cons.mpr ⟨q_win_36, List.forall_mem_cons.mpr ⟨q_win_37, List.forall_mem_cons.mpr ⟨q_win_38, List.forall_mem_cons.mpr ⟨q_win_42, fun _ h => absurd h List.not_mem_nil⟩⟩⟩⟩⟩⟩⟩⟩⟩⟩⟩⟩⟩⟩⟩⟩⟩⟩⟩⟩⟩⟩⟩⟩⟩⟩⟩⟩⟩⟩⟩⟩⟩⟩⟩⟩⟩⟩⟩⟩
set_option maxRecDepth 100000 in
theorem q_win_c1 : ∀ id ∈ ([43, 44, 45, 46, 47, 48, 49, 50, 51, 52, 53, 54, 55, 56, 57, 58, 59, 60, 61, 62, 63, 64, 65, 66, 67, 68, 69, 70, 71, 72, 73, 74, 75, 76, 77, 78, 79, 80, 81, 82] : List Nat), Cond.instanceMethod (q_mY id) ∈ q_Lw := List.forall_mem_cons.mpr ⟨q_win_43, List.forall_mem_cons.mpr ⟨q_win_44, List.forall_mem_cons.mpr ⟨q_win_45, List.forall_mem_cons.mpr ⟨q_win_46, List.forall_mem_cons.mpr ⟨q_win_47, List.forall_mem_cons.mpr ⟨q_win_48, List.forall_mem_cons.mpr ⟨q_win_49, List.forall_mem_cons.mpr ⟨q_win_50, List.forall_mem_cons.mpr ⟨q_win_51, List.forall_mem_cons.mpr ⟨q_win_52, List.forall_mem_cons.mpr ⟨q_win_53, List.forall_mem_cons.mpr ⟨q_win_54, List.forall_mem_cons.mpr ⟨q_win_55, List.forall_mem_cons.mpr ⟨q_win_56, List.forall_mem_cons.mpr ⟨q_win_57, List.forall_mem_cons.mpr ⟨q_win_58, List.forall_mem_cons.mpr ⟨q_win_59, List.forall_mem_cons.mpr ⟨q_win_60, List.forall_mem_cons.mpr ⟨q_win_61, List.forall_mem_cons.mpr ⟨q_win_62, List.forall_mem_cons.mpr ⟨q_win_63, List.forall_mem_cons.mpr ⟨q_win_64, List.forall_mem_cons.mpr ⟨q_win_65, List.forall_mem_cons.mpr ⟨q_win_66, List.forall_mem_cons.mpr ⟨q_win_67, List.forall_mem_cons.mpr ⟨q_win_68, List.forall_mem_cons.mpr ⟨q_win_69, List.forall_mem_cons.mpr ⟨q_win_70, List.forall_mem_cons.mpr ⟨q_win_71, List.forall_mem_cons.mpr ⟨q_win_72, List.forall_mem_cons.mpr ⟨q_win_73, List.forall_mem_cons.mpr ⟨q_win_74, List.forall_mem_cons.mpr ⟨q_win_75, List.forall_mem_cons.mpr ⟨q_win_76, List.forall_mem_cons.mpr ⟨q_win_77, List.forall_mem_cons.mpr ⟨q_win_78, List.forall_mem_cons.mpr ⟨q_win_79, List.forall_mem_cons.mpr ⟨q_win_80, List.forall_mem_cons.mpr ⟨q_win_81, List.forall_mem_cons.mpr ⟨q_win_82, fun _ h => absurd h List.not_mem_nil⟩⟩⟩⟩⟩⟩⟩⟩⟩⟩⟩⟩⟩⟩⟩⟩⟩⟩⟩⟩⟩⟩⟩⟩⟩⟩⟩⟩⟩⟩⟩⟩⟩⟩⟩⟩⟩⟩⟩⟩
set_option maxRecDepth 100000 in
theorem q_win_c2 : ∀ id ∈ ([83, 84, 85, 86, 87, 88, 89, 90, 91, 92, 93, 94, 95, 96, 97, 98, 104, 105, 106, 107, 109, 112, 114, 115, 117, 118, 119, 120, 122, 123, 124, 126, 127, 128, 129, 130, 131, 132, 133, 135] : List Nat), Cond.instanceMethod (q_mY id) ∈ q_Lw := List.forall_mem_cons.mpr ⟨q_win_83, List.forall_mem_cons.mpr ⟨q_win_84, List.forall_mem_cons.mpr ⟨q_win_85, List.forall_mem_cons.mpr ⟨q_win_86, List.forall_mem_cons.mpr ⟨q_win_87, List.forall_mem_cons.mpr ⟨q_win_88, List.forall_mem_cons.mpr ⟨q_win_89, List.forall_mem_cons.mpr ⟨q_win_90, List.forall_mem_cons.mpr ⟨q_win_91, List.forall_mem_cons.mpr ⟨q_win_92, List.forall_mem_cons.mpr ⟨q_win_93, List.forall_mem_cons.mpr ⟨q_win_94, List.forall_mem_cons.mpr ⟨q_win_95, List.forall_mem_cons.mpr ⟨q_win_96, List.forall_mem_cons.mpr ⟨q_win_97, List.forall_mem_cons.mpr ⟨q_win_98, List.forall_mem_cons.mpr ⟨q_win_104, List.forall_mem_cons.mpr ⟨q_win_105, List.forall_mem_cons.mpr ⟨q_win_106, List.forall_mem_cons.mpr ⟨q_win_107, List.forall_mem_cons.mpr ⟨q_win_109, List.forall_mem_cons.mpr ⟨q_win_112, List.forall_mem_cons.mpr ⟨q_win_114, List.forall_mem_cons.mpr ⟨q_win_115, List.forall_mem_cons.mpr ⟨q_win_117, List.forall_mem_cons.mpr ⟨q_win_118, List.forall_mem_cons.mpr ⟨q_win_119, List.forall_mem_cons.mpr ⟨q_win_120, List.forall_mem_cons.mpr ⟨q_win_122, List.forall_mem_cons.mpr ⟨q_win_123, List.forall_mem_cons.mpr ⟨q_win_124, List.forall_mem_cons.mpr ⟨q_win_126, List.forall_mem_cons.mpr ⟨q_win_127, List.forall_mem_cons.mpr ⟨q_win_128, List.forall_mem_cons.mpr ⟨q_win_129, List.forall_mem_cons.mpr ⟨q_win_130, List.forall_mem_cons.mpr ⟨q_win_131, List.forall_mem_cons.mpr ⟨q_win_132, List.forall_mem_cons.mpr ⟨q_win_133, List.forall_mem_cons.mpr ⟨q_win_135, fun _ h => absurd h List.not_mem_nil⟩⟩⟩⟩⟩⟩⟩⟩⟩⟩⟩⟩⟩⟩⟩⟩⟩⟩⟩⟩⟩⟩⟩⟩⟩⟩⟩⟩⟩⟩⟩⟩⟩⟩⟩⟩⟩⟩⟩⟩
set_option maxRecDepth 100000 in
theorem q_win_c3 : ∀ id ∈ ([136, 137, 138, 139, 140, 141, 142, 143, 144, 145, 146, 147, 148, 149, 150, 151, 152, 153, 154, 155, 156, 157, 158, 159, 160, 161, 162, 163, 164, 165, 166, 167, 168, 169, 170, 171, 172, 173, 174, 175] : List Nat), Cond.instanceMethod (q_mY id) ∈ q_Lw := List.forall_mem_cons.mpr ⟨q_win_136, List.forall_mem_cons.mpr ⟨q_win_137, List.forall_mem_cons.mpr ⟨q_win_138, List.forall_mem_cons.mpr ⟨q_win_139, List.forall_mem_cons.mpr ⟨q_win_140, List.forall_mem_cons.mpr ⟨q_win_141, List.forall_mem_cons.mpr ⟨q_win_142, List.forall_mem_cons.mpr ⟨q_win_143, List.forall_mem_cons.mpr ⟨q_win_144, List.forall_mem_cons.mpr ⟨q_win_145, List.forall_mem_cons.mpr ⟨q_win_146, List.forall_mem_cons.mpr ⟨q_win_147, List.forall_mem_cons.mpr ⟨q_win_148, List.forall_mem_cons.mpr ⟨q_win_149, List.forall_mem_cons.mpr ⟨q_win_150, List.forall_mem_cons.mpr ⟨q_win_151, List.forall_mem_cons.mpr ⟨q_win_152, List.forall_mem_cons.mpr ⟨q_win_153, List.forall_mem_cons.mpr ⟨q_win_154, List.forall_mem_cons.mpr ⟨q_win_155, List.forall_mem_cons.mpr ⟨q_win_156, List.forall_mem_cons.mpr ⟨q_win_157, List.forall_mem_cons.mpr ⟨q_win_158, List.forall_mem_cons.mpr ⟨q_win_159, List.forall_mem_cons.mpr ⟨q_win_160, List.forall_mem_cons.mpr ⟨q_win_161, List.forall_mem_cons.mpr ⟨q_win_162, List.forall_mem_cons.mpr ⟨q_win_163, List.forall_mem_cons.mpr ⟨q_win_164, List.forall_mem_cons.mpr ⟨q_win_165, List.forall_mem_cons.mpr ⟨q_win_166, List.forall_mem_cons.mpr ⟨q_win_167, List.forall_mem_cons.mpr ⟨q_win_168, List.forall_mem_cons.mpr ⟨q_win_169, List.forall_mem_cons.mpr ⟨q_win_170, List.forall_mem_cons.mpr ⟨q_win_171, List.forall_mem_cons.mpr ⟨q_win_172, List.forall_mem_cons.mpr ⟨q_win_173, List.forall_mem_cons.mpr ⟨q_win_174, List.forall_mem_cons.mpr ⟨q_win_175, fun _ h => absurd h List.not_mem_nil⟩⟩⟩⟩⟩⟩⟩⟩⟩⟩⟩⟩⟩⟩⟩⟩⟩⟩⟩⟩⟩⟩⟩⟩⟩⟩⟩⟩⟩⟩⟩⟩⟩⟩⟩⟩⟩⟩⟩⟩
set_option maxRecDepth 100000 in
theorem q_win_c4 : ∀ id ∈ ([176, 178, 179, 180, 181, 182, 183, 184, 185, 186, 187, 188, 189, 190, 191, 192, 193, 194, 195, 196, 198, 199, 200, 201, 202] : List Nat), Cond.instanceMethod (q_mY id) ∈ q_Lw := List.forall_mem_cons.mpr ⟨q_win_176, List.forall_mem_cons.mpr ⟨q_win_178, List.forall_mem_cons.mpr ⟨q_win_179, List.forall_mem_cons.mpr ⟨q_win_180, List.forall_mem_cons.mpr ⟨q_win_181, List.forall_mem_cons.mpr ⟨q_win_182, List.forall_mem_cons.mpr ⟨q_win_183, List.forall_mem_cons.mpr ⟨q_win_184, List.forall_mem_cons.mpr ⟨q_win_185, List.forall_mem_cons.mpr ⟨q_win_186, List.forall_mem_cons.mpr ⟨q_win_187, List.forall_mem_cons.mpr ⟨q_win_188, List.forall_mem_cons.mpr ⟨q_win_189, List.forall_mem_cons.mpr ⟨q_win_190, List.forall_mem_cons.mpr ⟨q_win_191, List.forall_mem_cons.mpr ⟨q_win_192, List.forall_mem_cons.mpr ⟨q_win_193, List.forall_mem_cons.mpr ⟨q_win_194, List.forall_mem_cons.mpr ⟨q_win_195, List.forall_mem_cons.mpr ⟨q_win_196, List.forall_mem_cons.mpr ⟨q_win_198, List.forall_mem_cons.mpr ⟨q_win_199, List.forall_mem_cons.mpr ⟨q_win_200, List.forall_mem_cons.mpr ⟨q_win_201, List.forall_mem_cons.mpr ⟨q_win_202, fun _ h => absurd h List.not_mem_nil⟩⟩⟩⟩⟩⟩⟩⟩⟩⟩⟩⟩⟩⟩⟩⟩⟩⟩⟩⟩⟩⟩⟩⟩⟩
set_option maxRecDepth 100000 in
theorem q_win : ∀ id ∈ ([0, 1, 2, 3, 4, 5, 6, 7, 8, 9, 10, 11, 12, 13, 14, 15, 16, 17, 18, 19, 20, 21, 22, 23, 24, 25, 26, 27, 28, 29, 30, 31, 32, 33, 34, 35, 36, 37, 38, 42, 43, 44, 45, 46, 47, 48, 49, 50, 51, 52, 53, 54, 55, 56, 57, 58, 59, 60, 61, 62, 63, 64, 65, 66, 67, 68, 69, 70, 71, 72, 73, 74, 75, 76, 77, 78, 79, 80, 81, 82, 83, 84, 85, 86, 87, 88, 89, 90, 91, 92, 93, 94, 95, 96, 97, 98, 104, 105, 106, 107, 109, 112, 114, 115, 117, 118, 119, 120, 122, 123, 124, 126, 127, 128, 129, 130, 131, 132, 133, 135, 136, 137, 138, 139, 140, 141, 142, 143, 144, 145, 146, 147, 148, 149, 150, 151, 152, 153, 154, 155, 156, 157, 158, 159, 160, 161, 162, 163, 164, 165, 166, 167, 168, 169, 170, 171, 172, 173, 174, 175, 176, 178, 179, 180, 181, 182, 183, 184, 185, 186, 187, 188, 189, 190, 191, 192, 193, 194, 195, 196, 198, 199, 200, 201, 202] : List Nat), Cond.instanceMethod (q_mY id) ∈ q_Lw := List.forall_mem_append.mpr ⟨q_win_c0, List.forall_mem_append.mpr ⟨q_win_c1, List.forall_mem_append.mpr ⟨q_win_c2, List.forall_mem_append.mpr ⟨q_win_c3, q_win_c4⟩⟩⟩⟩
set_option maxRecDepth 100000 in
theorem q_wse_c0 : ∀ id ∈ ([1, 2, 3, 4, 5, 6, 7, 8, 9, 10, 11, 12, 13, 14, 15, 16, 17, 18, 19, 21, 22, 23, 24, 25, 26, 27, 28, 29, 30, 31, 32, 33, 34, 35, 36, 37, 38, 43, 44, 45] : List Nat), Cond.selects (q_mY id).cls (q_mY id) (q_mY id) ∈ q_Lw := List.forall_mem_cons.mpr ⟨q_wse_1, List.forall_mem_cons.mpr ⟨q_wse_2, List.forall_mem_cons.mpr ⟨q_wse_3, List.forall_mem_cons.mpr ⟨q_wse_4, List.forall_mem_cons.mpr ⟨q_wse_5, List.forall_mem_cons.mpr ⟨q_wse_6, List.forall_mem_cons.mpr ⟨q_wse_7, List.forall_mem_cons.mpr ⟨q_wse_8, List.forall_mem_cons.mpr ⟨q_wse_9, List.forall_mem_cons.mpr ⟨q_wse_10, List.forall_mem_cons.mpr ⟨q_wse_11, List.forall_mem_cons.mpr ⟨q_wse_12, List.forall_mem_cons.mpr ⟨q_wse_13, List.forall_mem_cons.mpr ⟨q_wse_14, List.forall_mem_cons.mpr ⟨q_wse_15, List.forall_mem_cons.mpr ⟨q_wse_16, List.forall_mem_cons.mpr ⟨q_wse_17, List.forall_mem_cons.mpr ⟨q_wse_18, List.forall_mem_cons.mpr ⟨q_wse_19, List.forall_mem_cons.mpr ⟨q_wse_21, List.forall_mem_cons.mpr ⟨q_wse_22, List.forall_mem_cons.mpr ⟨q_wse_23, List.forall_mem_cons.mpr ⟨q_wse_24, List.forall_mem_cons.mpr ⟨q_wse_25, List.forall_mem_cons.mpr ⟨q_wse_26, List.forall_mem_cons.mpr ⟨q_wse_27, List.forall_mem_cons.mpr ⟨q_wse_28, List.forall_mem_cons.mpr ⟨q_wse_29, List.forall_mem_cons.mpr ⟨q_wse_30, List.forall_mem_cons.mpr ⟨q_wse_31, List.forall_mem_cons.mpr ⟨q_wse_32, List.forall_mem_cons.mpr ⟨q_wse_33, List.forall_mem_cons.mpr ⟨q_wse_34, List.forall_mem_cons.mpr ⟨q_wse_35, List.forall_mem_cons.mpr ⟨q_wse_36, List.forall_mem_cons.mpr ⟨q_wse_37, List.forall_mem_cons.mpr ⟨q_wse_38, List.forall_mem_cons.mpr ⟨q_wse_43, List.forall_mem_cons.mpr ⟨q_wse_44, List.forall_mem_cons.mpr ⟨q_wse_45, fun _ h => absurd h List.not_mem_nil⟩⟩⟩⟩⟩⟩⟩⟩⟩⟩⟩⟩⟩⟩⟩⟩⟩⟩⟩⟩⟩⟩⟩⟩⟩⟩⟩⟩⟩⟩⟩⟩⟩⟩⟩⟩⟩⟩⟩⟩
set_option maxRecDepth 100000 in
theorem q_wse_c1 : ∀ id ∈ ([47, 49, 50, 51, 52, 53, 54, 55, 56, 57, 58, 59, 60, 62, 63, 64, 65, 66, 67, 68, 69, 70, 71, 72, 73, 74, 75, 76, 77, 78, 79, 80, 81, 82, 83, 84, 85, 86, 87, 88] : List Nat), Cond.selects (q_mY id).cls (q_mY id) (q_mY id) ∈ q_Lw := List.forall_mem_cons.mpr ⟨q_wse_47, List.forall_mem_cons.mpr ⟨q_wse_49, List.forall_mem_cons.mpr ⟨q_wse_50, List.forall_mem_cons.mpr ⟨q_wse_51, List.forall_mem_cons.mpr ⟨q_wse_52, List.forall_mem_cons.mpr ⟨q_wse_53, List.forall_mem_cons.mpr ⟨q_wse_54, List.forall_mem_cons.mpr ⟨q_wse_55, List.forall_mem_cons.mpr ⟨q_wse_56, List.forall_mem_cons.mpr ⟨q_wse_57, List.forall_mem_cons.mpr ⟨q_wse_58, List.forall_mem_cons.mpr ⟨q_wse_59, List.forall_mem_cons.mpr ⟨q_wse_60, List.forall_mem_cons.mpr ⟨q_wse_62, List.forall_mem_cons.mpr ⟨q_wse_63, List.forall_mem_cons.mpr ⟨q_wse_64, List.forall_mem_cons.mpr ⟨q_wse_65, List.forall_mem_cons.mpr ⟨q_wse_66, List.forall_mem_cons.mpr ⟨q_wse_67, List.forall_mem_cons.mpr ⟨q_wse_68, List.forall_mem_cons.mpr ⟨q_wse_69, List.forall_mem_cons.mpr ⟨q_wse_70, List.forall_mem_cons.mpr ⟨q_wse_71, List.forall_mem_cons.mpr ⟨q_wse_72, List.forall_mem_cons.mpr ⟨q_wse_73, List.forall_mem_cons.mpr ⟨q_wse_74, List.forall_mem_cons.mpr ⟨q_wse_75, List.forall_mem_cons.mpr ⟨q_wse_76, List.forall_mem_cons.mpr ⟨q_wse_77, List.forall_mem_cons.mpr ⟨q_wse_78, List.forall_mem_cons.mpr ⟨q_wse_79, List.forall_mem_cons.mpr ⟨q_wse_80, List.forall_mem_cons.mpr ⟨q_wse_81, List.forall_mem_cons.mpr ⟨q_wse_82, List.forall_mem_cons.mpr ⟨q_wse_83, List.forall_mem_cons.mpr ⟨q_wse_84, List.forall_mem_cons.mpr ⟨q_wse_85, List.forall_mem_cons.mpr ⟨q_wse_86, List.forall_mem_cons.mpr ⟨q_wse_87, List.forall_mem_cons.mpr ⟨q_wse_88, fun _ h => absurd h List.not_mem_nil⟩⟩⟩⟩⟩⟩⟩⟩⟩⟩⟩⟩⟩⟩⟩⟩⟩⟩⟩⟩⟩⟩⟩⟩⟩⟩⟩⟩⟩⟩⟩⟩⟩⟩⟩⟩⟩⟩⟩⟩
set_option maxRecDepth 100000 in
theorem q_wse_c2 : ∀ id ∈ ([89, 90, 91, 92, 93, 94, 95, 96, 97, 98, 104, 105, 106, 107, 112, 114, 115, 117, 118, 119, 120, 122, 123, 124, 126, 127, 128, 129, 130, 131, 132, 133, 135, 136, 137, 138, 139, 140, 141, 142] : List Nat), Cond.selects (q_mY id).cls (q_mY id) (q_mY id) ∈ q_Lw := List.forall_mem_cons.mpr ⟨q_wse_89, List.forall_mem_cons.mpr ⟨q_wse_90, List.forall_mem_cons.mpr ⟨q_wse_91, List.forall_mem_cons.mpr ⟨q_wse_92, List.forall_mem_cons.mpr ⟨q_wse_93, List.forall_mem_cons.mpr ⟨q_wse_94, List.forall_mem_cons.mpr ⟨q_wse_95, List.forall_mem_cons.mpr ⟨q_wse_96, List.forall_mem_cons.mpr ⟨q_wse_97, List.forall_mem_cons.mpr ⟨q_wse_98, List.forall_mem_cons.mpr ⟨q_wse_104, List.forall_mem_cons.mpr ⟨q_wse_105, List.forall_mem_cons.mpr ⟨q_wse_106, List.forall_mem_cons.mpr ⟨q_wse_107, List.forall_mem_cons.mpr ⟨q_wse_112, List.forall_mem_cons.mpr ⟨q_wse_114, List.forall_mem_cons.mpr ⟨q_wse_115, List.forall_mem_cons.mpr ⟨q_wse_117, List.forall_mem_cons.mpr ⟨q_wse_118, List.forall_mem_cons.mpr ⟨q_wse_119, List.forall_mem_cons.mpr ⟨q_wse_120, List.forall_mem_cons.mpr ⟨q_wse_122, List.forall_mem_cons.mpr ⟨q_wse_123, List.forall_mem_cons.mpr ⟨q_wse_124, List.forall_mem_cons.mpr ⟨q_wse_126, List.forall_mem_cons.mpr ⟨q_wse_127, List.forall_mem_cons.mpr ⟨q_wse_128, List.forall_mem_cons.mpr ⟨q_wse_129, List.forall_mem_cons.mpr ⟨q_wse_130, List.forall_mem_cons.mpr ⟨q_wse_131, List.forall_mem_cons.mpr ⟨q_wse_132, List.forall_mem_cons.mpr ⟨q_wse_133, List.forall_mem_cons.mpr ⟨q_wse_135, List.forall_mem_cons.mpr ⟨q_wse_136, List.forall_mem_cons.mpr ⟨q_wse_137, List.forall_mem_cons.mpr ⟨q_wse_138, List.forall_mem_cons.mpr ⟨q_wse_139, List.forall_mem_cons.mpr ⟨q_wse_140, List.forall_mem_cons.mpr ⟨q_wse_141, List.forall_mem_cons.mpr ⟨q_wse_142, fun _ h => absurd h List.not_mem_nil⟩⟩⟩⟩⟩⟩⟩⟩⟩⟩⟩⟩⟩⟩⟩⟩⟩⟩⟩⟩⟩⟩⟩⟩⟩⟩⟩⟩⟩⟩⟩⟩⟩⟩⟩⟩⟩⟩⟩⟩
set_option maxRecDepth 100000 in
theorem q_wse_c3 : ∀ id ∈ ([143, 144, 145, 146, 147, 148, 149, 150, 151, 152, 153, 154, 155, 156, 157, 158, 159, 160, 161, 162, 163, 164, 165, 166, 167, 168, 169, 170, 171, 172, 173, 174, 175, 176, 178, 179, 180, 181, 182, 183] : List Nat), Cond.selects (q_mY id).cls (q_mY id) (q_mY id) ∈ q_Lw := List.forall_mem_cons.mpr ⟨q_wse_143, List.forall_mem_cons.mpr ⟨q_wse_144, List.forall_mem_cons.mpr ⟨q_wse_145, List.forall_mem_cons.mpr ⟨q_wse_146, List.forall_mem_cons.mpr ⟨q_wse_147, List.forall_mem_cons.mpr ⟨q_wse_148, List.forall_mem_cons.mpr ⟨q_wse_149, List.forall_mem_cons.mpr ⟨q_wse_150, List.forall_mem_cons.mpr ⟨q_wse_151, List.forall_mem_cons.mpr ⟨q_wse_152, List.forall_mem_cons.mpr ⟨q_wse_153, List.forall_mem_cons.mpr ⟨q_wse_154, List.forall_mem_cons.mpr ⟨q_wse_155, List.forall_mem_cons.mpr ⟨q_wse_156, List.forall_mem_cons.mpr ⟨q_wse_157, List.forall_mem_cons.mpr ⟨q_wse_158, List.forall_mem_cons.mpr ⟨q_wse_159, List.forall_mem_cons.mpr ⟨q_wse_160, List.forall_mem_cons.mpr ⟨q_wse_161, List.forall_mem_cons.mpr ⟨q_wse_162, List.forall_mem_cons.mpr ⟨q_wse_163, List.forall_mem_cons.mpr ⟨q_wse_164, List.forall_mem_cons.mpr ⟨q_wse_165, List.forall_mem_cons.mpr ⟨q_wse_166, List.forall_mem_cons.mpr ⟨q_wse_167, List.forall_mem_cons.mpr ⟨q_wse_168, List.forall_mem_cons.mpr ⟨q_wse_169, List.forall_mem_cons.mpr ⟨q_wse_170, List.forall_mem_cons.mpr ⟨q_wse_171, List.forall_mem_cons.mpr ⟨q_wse_172, List.forall_mem_cons.mpr ⟨q_wse_173, List.forall_mem_cons.mpr ⟨q_wse_174, List.forall_mem_cons.mpr ⟨q_wse_175, List.forall_mem_cons.mpr ⟨q_wse_176, List.forall_mem_cons.mpr ⟨q_wse_178, List.forall_mem_cons.mpr ⟨q_wse_179, List.forall_mem_cons.mpr ⟨q_wse_180, List.forall_mem_cons.mpr ⟨q_wse_181, List.forall_mem_cons.mpr ⟨q_wse_182, List.forall_mem_cons.mpr ⟨q_wse_183, fun _ h => absurd h List.not_mem_nil⟩⟩⟩⟩⟩⟩⟩⟩⟩⟩⟩⟩⟩⟩⟩⟩⟩⟩⟩⟩⟩⟩⟩⟩⟩⟩⟩⟩⟩⟩⟩⟩⟩⟩⟩⟩⟩⟩⟩⟩
set_option maxRecDepth 100000 in
theorem q_wse_c4 : ∀ id ∈ ([184, 185, 186, 187, 188, 189, 190, 191, 192, 193, 194, 195, 196, 198, 199, 200, 201, 202] : List Nat), Cond.selects (q_mY id).cls (q_mY id) (q_mY id) ∈ q_Lw := List.forall_mem_cons.mpr ⟨q_wse_184, List.forall_mem_cons.mpr ⟨q_wse_185, List.forall_mem_cons.mpr ⟨q_wse_186, List.forall_mem_cons.mpr ⟨q_wse_187, List.forall_mem_cons.mpr ⟨q_wse_188, List.forall_mem_cons.mpr ⟨q_wse_189, List.forall_mem_cons.mpr ⟨q_wse_190, List.forall_mem_cons.mpr ⟨q_wse_191, List.forall_mem_cons.mpr ⟨q_wse_192, List.forall_mem_cons.mpr ⟨q_wse_193, List.forall_mem_cons.mpr ⟨q_wse_194, List.forall_mem_cons.mpr ⟨q_wse_195, List.forall_mem_cons.mpr ⟨q_wse_196, List.forall_mem_cons.mpr ⟨q_wse_198, List.forall_mem_cons.mpr ⟨q_wse_199, List.forall_mem_cons.mpr ⟨q_wse_200, List.forall_mem_cons.mpr ⟨q_wse_201, List.forall_mem_cons.mpr ⟨q_wse_202, fun _ h => absurd h List.not_mem_nil⟩⟩⟩⟩⟩⟩⟩⟩⟩⟩⟩⟩⟩⟩⟩⟩⟩⟩
set_option maxRecDepth 100000 in
theorem q_wse : ∀ id ∈ ([1, 2, 3, 4, 5, 6, 7, 8, 9, 10, 11, 12, 13, 14, 15, 16, 17, 18, 19, 21, 22, 23, 24, 25, 26, 27, 28, 29, 30, 31, 32, 33, 34, 35, 36, 37, 38, 43, 44, 45, 47, 49, 50, 51, 52, 53, 54, 55, 56, 57, 58, 59, 60, 62, 63, 64, 65, 66, 67, 68, 69, 70, 71, 72, 73, 74, 75, 76, 77, 78, 79, 80, 81, 82, 83, 84, 85, 86, 87, 88, 89, 90, 91, 92, 93, 94, 95, 96, 97, 98, 104, 105, 106, 107, 112, 114, 115, 117, 118, 119, 120, 122, 123, 124, 126, 127, 128, 129, 130, 131, 132, 133, 135, 136, 137, 138, 139, 140, 141, 142, 143, 144, 145, 146, 147, 148, 149, 150, 151, 152, 153, 154, 155, 156, 157, 158, 159, 160, 161, 162, 163, 164, 165, 166, 167, 168, 169, 170, 171, 172, 173, 174, 175, 176, 178, 179, 180, 181, 182, 183, 184, 185, 186, 187, 188, 189, 190, 191, 192, 193, 194, 195, 196, 198, 199, 200, 201, 202] : List Nat), Cond.selects (q_mY id).cls (q_mY id) (q_mY id) ∈ q_Lw := List.forall_mem_append.mpr ⟨q_wse_c0, List.forall_mem_append.mpr ⟨q_wse_c1, List.forall_mem_append.mpr ⟨q_wse_c2, List.forall_mem_append.mpr ⟨q_wse_c3, q_wse_c4⟩⟩⟩⟩
def q_statL : List Nat := [39, 40, 41, 99, 100, 101, 102, 103, 108, 110, 111, 113, 116, 121, 125, 134, 177, 197, 203, 204, 205, 206, 207, 208]
def q_ctorL : List Nat := [0, 20, 42, 46, 48, 61, 109]
set_option maxRecDepth 100000 in
theorem q_ini_0 : Cond.initialized (q_cls 0) ∈ q_Lw := q_lx (q_tw1 10 rfl) rfl
set_option maxRecDepth 100000 in
theorem q_ini_1 : Cond.initialized (q_cls 1) ∈ q_Lw := q_lx (q_tw1 2 rfl) rfl
set_option maxRecDepth 100000 in
theorem q_ini_2 : Cond.initialized (q_cls 2) ∈ q_Lw := q_lx (q_tw1 11 rfl) rfl
set_option maxRecDepth 100000 in
theorem q_ini_3 : Cond.initialized (q_cls 3) ∈ q_Lw := q_lx (q_tw1 8 rfl) rfl
set_option maxRecDepth 100000 in
theorem q_ini_4 : Cond.initialized (q_cls 4) ∈ q_Lw := q_lx (q_tw1 9 rfl) rfl
set_option maxRecDepth 100000 in
theorem q_ini_5 : Cond.initialized (q_cls 5) ∈ q_Lw := q_lx (q_tw1 1 rfl) rfl
set_option maxRecDepth 100000 in
theorem q_ini_6 : Cond.initialized (q_cls 6) ∈ q_Lw := q_lx (q_tw1 12 rfl) rfl
set_option maxRecDepth 100000 in
theorem q_ini_7 : Cond.initialized (q_cls 7) ∈ q_Lw := q_lx (q_tw1 3 rfl) rfl
set_option maxRecDepth 100000 in
theorem q_ini_8 : Cond.initialized (q_cls 8) ∈ q_Lw := q_lx (q_tw1 4 rfl) rfl
set_option maxRecDepth 100000 in
theorem q_ini_9 : Cond.initialized (q_cls 9) ∈ q_Lw := q_lx (q_tw1 5 rfl) rfl
set_option maxRecDepth 100000 in
theorem q_ini_10 : Cond.initialized (q_cls 10) ∈ q_Lw := q_lx (q_tw1 0 rfl) rfl
set_option maxRecDepth 100000 in
theorem q_ini_11 : Cond.initialized (q_cls 11) ∈ q_Lw := q_lx (q_tw1 13 rfl) rfl
set_option maxRecDepth 100000 in
theorem q_inst_0 : Cond.instantiable (q_cls 0) 6 ∈ q_Lw := q_lx (q_tw2 7 rfl) rfl
set_option maxRecDepth 100000 in
theorem q_lay_0_0 : u_lay RX0 TX0 0 ∈ q_Lw := q_lx (q_tw2 27 rfl) rfl
set_option maxRecDepth 100000 in
theorem q_lay_0_1 : u_lay RX0 TX0 1 ∈ q_Lw := q_lx (q_tw2 29 rfl) rfl
set_option maxRecDepth 100000 in
theorem q_lay_0_2 : u_lay RX0 TX0 2 ∈ q_Lw := q_lx (q_tw2 31 rfl) rfl
set_option maxRecDepth 100000 in
theorem q_lay_0_3 : u_lay RX0 TX0 3 ∈ q_Lw := q_lx (q_tw2 33 rfl) rfl
set_option maxRecDepth 100000 in
theorem q_lay_0_4 : u_lay RX0 TX0 4 ∈ q_Lw := q_lx (q_tw2 35 rfl) rfl
set_option maxRecDepth 100000 in
theorem q_lay_0_5 : u_lay RX0 TX0 5 ∈ q_Lw := q_lx (q_tw2 37 rfl) rfl
set_option maxRecDepth 100000 in
theorem q_inX_0 : ∀ w ∈ u_ws RX0 TX0 6, w ∈ q_Lw := show ∀ w ∈ [u_lay RX0 TX0 0, u_lay RX0 TX0 1, u_lay RX0 TX0 2, u_lay RX0 TX0 3, u_lay RX0 TX0 4, u_lay RX0 TX0 5], w ∈ q_Lw from List.forall_mem_cons.mpr ⟨q_lay_0_0, List.forall_mem_cons.mpr ⟨q_lay_0_1, List.forall_mem_cons.mpr ⟨q_lay_0_2, List.forall_mem_cons.mpr ⟨q_lay_0_3, List.forall_mem_cons.mpr ⟨q_lay_0_4, List.forall_mem_cons.mpr ⟨q_lay_0_5, fun _ h => absurd h List.not_mem_nil⟩⟩⟩⟩⟩⟩
set_option maxRecDepth 100000 in
theorem q_inst_1 : Cond.instantiable (q_cls 1) 10 ∈ q_Lw := q_lx (q_tw1 23 rfl) rfl
set_option maxRecDepth 100000 in
theorem q_lay_1_0 : u_lay RX1 TX1 0 ∈ q_Lw := q_lx (q_tw1 39 rfl) rfl
set_option maxRecDepth 100000 in
theorem q_lay_1_1 : u_lay RX1 TX1 1 ∈ q_Lw := q_lx (q_tw1 41 rfl) rfl
set_option maxRecDepth 100000 in
theorem q_lay_1_2 : u_lay RX1 TX1 2 ∈ q_Lw := q_lx (q_tw1 43 rfl) rfl
set_option maxRecDepth 100000 in
theorem q_lay_1_3 : u_lay RX1 TX1 3 ∈ q_Lw := q_lx (q_tw1 45 rfl) rfl
set_option maxRecDepth 100000 in
theorem q_lay_1_4 : u_lay RX1 TX1 4 ∈ q_Lw := q_lx (q_tw1 47 rfl) rfl
set_option maxRecDepth 100000 in
theorem q_lay_1_5 : u_lay RX1 TX1 5 ∈ q_Lw := q_lx (q_tw1 49 rfl) rfl
set_option maxRecDepth 100000 in
theorem q_lay_1_6 : u_lay RX1 TX1 6 ∈ q_Lw := q_lx (q_tw1 51 rfl) rfl
set_option maxRecDepth 100000 in
theorem q_lay_1_7 : u_lay RX1 TX1 7 ∈ q_Lw := q_lx (q_tw1 53 rfl) rfl
set_option maxRecDepth 100000 in
theorem q_lay_1_8 : u_lay RX1 TX1 8 ∈ q_Lw := q_lx (q_tw1 55 rfl) rfl
set_option maxRecDepth 100000 in
theorem q_lay_1_9 : u_lay RX1 TX1 9 ∈ q_Lw := q_lx (q_tw1 57 rfl) rfl
set_option maxRecDepth 100000 in
theorem q_inX_1 : ∀ w ∈ u_ws RX1 TX1 10, w ∈ q_Lw := show ∀ w ∈ [u_lay RX1 TX1 0, u_lay RX1 TX1 1, u_lay RX1 TX1 2, u_lay RX1 TX1 3, u_lay RX1 TX1 4, u_lay RX1 TX1 5, u_lay RX1 TX1 6, u_lay RX1 TX1 7, u_lay RX1 TX1 8, u_lay RX1 TX1 9], w ∈ q_Lw from List.forall_mem_cons.mpr ⟨q_lay_1_0, List.forall_mem_cons.mpr ⟨q_lay_1_1, List.forall_mem_cons.mpr ⟨q_lay_1_2, List.forall_mem_cons.mpr ⟨q_lay_1_3, List.forall_mem_cons.mpr ⟨q_lay_1_4, List.forall_mem_cons.mpr ⟨q_lay_1_5, List.forall_mem_cons.mpr ⟨q_lay_1_6, List.forall_mem_cons.mpr ⟨q_lay_1_7, List.forall_mem_cons.mpr ⟨q_lay_1_8, List.forall_mem_cons.mpr ⟨q_lay_1_9, fun _ h => absurd h List.not_mem_nil⟩⟩⟩⟩⟩⟩⟩⟩⟩⟩
set_option maxRecDepth 100000 in
theorem q_inst_2 : Cond.instantiable (q_cls 2) 3 ∈ q_Lw := q_lx (q_tw2 84 rfl) rfl
set_option maxRecDepth 100000 in
theorem q_lay_2_0 : u_lay RX2 TX2 0 ∈ q_Lw := q_lx (q_tw2 95 rfl) rfl
set_option maxRecDepth 100000 in
theorem q_lay_2_1 : u_lay RX2 TX2 1 ∈ q_Lw := q_lx (q_tw2 97 rfl) rfl
set_option maxRecDepth 100000 in
theorem q_lay_2_2 : u_lay RX2 TX2 2 ∈ q_Lw := q_lx (q_tw2 99 rfl) rfl
set_option maxRecDepth 100000 in
theorem q_inX_2 : ∀ w ∈ u_ws RX2 TX2 3, w ∈ q_Lw := show ∀ w ∈ [u_lay RX2 TX2 0, u_lay RX2 TX2 1, u_lay RX2 TX2 2], w ∈ q_Lw from List.forall_mem_cons.mpr ⟨q_lay_2_0, List.forall_mem_cons.mpr ⟨q_lay_2_1, List.forall_mem_cons.mpr ⟨q_lay_2_2, fun _ h => absurd h List.not_mem_nil⟩⟩⟩
set_option maxRecDepth 100000 in
theorem q_inst_3 : Cond.instantiable (q_cls 3) 4 ∈ q_Lw := q_lx (q_tw1 209 rfl) rfl
set_option maxRecDepth 100000 in
theorem q_lay_3_0 : u_lay RX3 TX3 0 ∈ q_Lw := q_lx (q_tw1 226 rfl) rfl
set_option maxRecDepth 100000 in
theorem q_lay_3_1 : u_lay RX3 TX3 1 ∈ q_Lw := q_lx (q_tw1 228 rfl) rfl
set_option maxRecDepth 100000 in
theorem q_lay_3_2 : u_lay RX3 TX3 2 ∈ q_Lw := q_lx (q_tw1 230 rfl) rfl
set_option maxRecDepth 100000 in
theorem q_lay_3_3 : u_lay RX3 TX3 3 ∈ q_Lw := q_lx (q_tw1 232 rfl) rfl
set_option maxRecDepth 100000 in
theorem q_inX_3 : ∀ w ∈ u_ws RX3 TX3 4, w ∈ q_Lw := show ∀ w ∈ [u_lay RX3 TX3 0, u_lay RX3 TX3 1, u_lay RX3 TX3 2, u_lay RX3 TX3 3], w ∈ q_Lw from List.forall_mem_cons.mpr ⟨q_lay_3_0, List.forall_mem_cons.mpr ⟨q_lay_3_1, List.forall_mem_cons.mpr ⟨q_lay_3_2, List.forall_mem_cons.mpr ⟨q_lay_3_3, fun _ h => absurd h List.not_mem_nil⟩⟩⟩⟩
set_option maxRecDepth 100000 in
theorem q_inst_4 : Cond.instantiable (q_cls 4) 11 ∈ q_Lw := q_lx (q_tw2 1 rfl) rfl
set_option maxRecDepth 100000 in
theorem q_lay_4_0 : u_lay RX4 TX4 0 ∈ q_Lw := q_lx (q_tw2 61 rfl) rfl
set_option maxRecDepth 100000 in
theorem q_lay_4_1 : u_lay RX4 TX4 1 ∈ q_Lw := q_lx (q_tw2 63 rfl) rfl
set_option maxRecDepth 100000 in
theorem q_lay_4_2 : u_lay RX4 TX4 2 ∈ q_Lw := q_lx (q_tw2 65 rfl) rfl
set_option maxRecDepth 100000 in
theorem q_lay_4_3 : u_lay RX4 TX4 3 ∈ q_Lw := q_lx (q_tw2 67 rfl) rfl
set_option maxRecDepth 100000 in
theorem q_lay_4_4 : u_lay RX4 TX4 4 ∈ q_Lw := q_lx (q_tw2 69 rfl) rfl
set_option maxRecDepth 100000 in
theorem q_lay_4_5 : u_lay RX4 TX4 5 ∈ q_Lw := q_lx (q_tw2 71 rfl) rfl
set_option maxRecDepth 100000 in
theorem q_lay_4_6 : u_lay RX4 TX4 6 ∈ q_Lw := q_lx (q_tw2 73 rfl) rfl
set_option maxRecDepth 100000 in
theorem q_lay_4_7 : u_lay RX4 TX4 7 ∈ q_Lw := q_lx (q_tw2 75 rfl) rfl
set_option maxRecDepth 100000 in
theorem q_lay_4_8 : u_lay RX4 TX4 8 ∈ q_Lw := q_lx (q_tw2 77 rfl) rfl
set_option maxRecDepth 100000 in
theorem q_lay_4_9 : u_lay RX4 TX4 9 ∈ q_Lw := q_lx (q_tw2 79 rfl) rfl
set_option maxRecDepth 100000 in
theorem q_lay_4_10 : u_lay RX4 TX4 10 ∈ q_Lw := q_lx (q_tw2 81 rfl) rfl
set_option maxRecDepth 100000 in
theorem q_inX_4 : ∀ w ∈ u_ws RX4 TX4 11, w ∈ q_Lw := show ∀ w ∈ [u_lay RX4 TX4 0, u_lay RX4 TX4 1, u_lay RX4 TX4 2, u_lay RX4 TX4 3, u_lay RX4 TX4 4, u_lay RX4 TX4 5, u_lay RX4 TX4 6, u_lay RX4 TX4 7, u_lay RX4 TX4 8, u_lay RX4 TX4 9, u_lay RX4 TX4 10], w ∈ q_Lw from List.forall_mem_cons.mpr ⟨q_lay_4_0, List.forall_mem_cons.mpr ⟨q_lay_4_1, List.forall_mem_cons.mpr ⟨q_lay_4_2, List.forall_mem_cons.mpr ⟨q_lay_4_3, List.forall_mem_cons.mpr ⟨q_lay_4_4, List.forall_mem_cons.mpr ⟨q_lay_4_5, List.forall_mem_cons.mpr ⟨q_lay_4_6, List.forall_mem_cons.mpr ⟨q_lay_4_7, List.forall_mem_cons.mpr ⟨q_lay_4_8, List.forall_mem_cons.mpr ⟨q_lay_4_9, List.forall_mem_cons.mpr ⟨q_lay_4_10, fun _ h => absurd h List.not_mem_nil⟩⟩⟩⟩⟩⟩⟩⟩⟩⟩⟩
set_option maxRecDepth 100000 in
theorem q_inst_5 : Cond.instantiable (q_cls 5) 8 ∈ q_Lw := q_lx (q_tw1 15 rfl) rfl
set_option maxRecDepth 100000 in
theorem q_lay_5_0 : u_lay RX5 TX5 0 ∈ q_Lw := q_lx (q_tw2 110 rfl) rfl
set_option maxRecDepth 100000 in
theorem q_lay_5_1 : u_lay RX5 TX5 1 ∈ q_Lw := q_lx (q_tw2 112 rfl) rfl
set_option maxRecDepth 100000 in
theorem q_lay_5_2 : u_lay RX5 TX5 2 ∈ q_Lw := q_lx (q_tw2 114 rfl) rfl
set_option maxRecDepth 100000 in
theorem q_lay_5_3 : u_lay RX5 TX5 3 ∈ q_Lw := q_lx (q_tw2 116 rfl) rfl
set_option maxRecDepth 100000 in
theorem q_lay_5_4 : u_lay RX5 TX5 4 ∈ q_Lw := q_lx (q_tw2 118 rfl) rfl
set_option maxRecDepth 100000 in
theorem q_lay_5_5 : u_lay RX5 TX5 5 ∈ q_Lw := q_lx (q_tw2 120 rfl) rfl
set_option maxRecDepth 100000 in
theorem q_lay_5_6 : u_lay RX5 TX5 6 ∈ q_Lw := q_lx (q_tw2 122 rfl) rfl
set_option maxRecDepth 100000 in
theorem q_lay_5_7 : u_lay RX5 TX5 7 ∈ q_Lw := q_lx (q_tw2 124 rfl) rfl
set_option maxRecDepth 100000 in
theorem q_inX_5 : ∀ w ∈ u_ws RX5 TX5 8, w ∈ q_Lw := show ∀ w ∈ [u_lay RX5 TX5 0, u_lay RX5 TX5 1, u_lay RX5 TX5 2, u_lay RX5 TX5 3, u_lay RX5 TX5 4, u_lay RX5 TX5 5, u_lay RX5 TX5 6, u_lay RX5 TX5 7], w ∈ q_Lw from List.forall_mem_cons.mpr ⟨q_lay_5_0, List.forall_mem_cons.mpr ⟨q_lay_5_1, List.forall_mem_cons.mpr ⟨q_lay_5_2, List.forall_mem_cons.mpr ⟨q_lay_5_3, List.forall_mem_cons.mpr ⟨q_lay_5_4, List.forall_mem_cons.mpr ⟨q_lay_5_5, List.forall_mem_cons.mpr ⟨q_lay_5_6, List.forall_mem_cons.mpr ⟨q_lay_5_7, fun _ h => absurd h List.not_mem_nil⟩⟩⟩⟩⟩⟩⟩⟩
set_option maxRecDepth 100000 in
theorem q_inst_6 : Cond.instantiable (q_cls 6) 37 ∈ q_Lw := q_lx (q_tw4 1 rfl) rfl
set_option maxRecDepth 100000 in
theorem q_lay_6_0 : u_lay RX6 TX6 0 ∈ q_Lw := q_lx (q_tw4 90 rfl) rfl
set_option maxRecDepth 100000 in
theorem q_lay_6_1 : u_lay RX6 TX6 1 ∈ q_Lw := q_lx (q_tw4 92 rfl) rfl
set_option maxRecDepth 100000 in
theorem q_lay_6_2 : u_lay RX6 TX6 2 ∈ q_Lw := q_lx (q_tw4 94 rfl) rfl
set_option maxRecDepth 100000 in
theorem q_lay_6_3 : u_lay RX6 TX6 3 ∈ q_Lw := q_lx (q_tw4 96 rfl) rfl
set_option maxRecDepth 100000 in
theorem q_lay_6_4 : u_lay RX6 TX6 4 ∈ q_Lw := q_lx (q_tw4 98 rfl) rfl
set_option maxRecDepth 100000 in
theorem q_lay_6_5 : u_lay RX6 TX6 5 ∈ q_Lw := q_lx (q_tw4 100 rfl) rfl
set_option maxRecDepth 100000 in
theorem q_lay_6_6 : u_lay RX6 TX6 6 ∈ q_Lw := q_lx (q_tw4 102 rfl) rfl
set_option maxRecDepth 100000 in
theorem q_lay_6_7 : u_lay RX6 TX6 7 ∈ q_Lw := q_lx (q_tw4 104 rfl) rfl
set_option maxRecDepth 100000 in
theorem q_lay_6_8 : u_lay RX6 TX6 8 ∈ q_Lw := q_lx (q_tw4 106 rfl) rfl
set_option maxRecDepth 100000 in
theorem q_lay_6_9 : u_lay RX6 TX6 9 ∈ q_Lw := q_lx (q_tw4 108 rfl) rfl
set_option maxRecDepth 100000 in
theorem q_lay_6_10 : u_lay RX6 TX6 10 ∈ q_Lw := q_lx (q_tw4 110 rfl) rfl
set_option maxRecDepth 100000 in
theorem q_lay_6_11 : u_lay RX6 TX6 11 ∈ q_Lw := q_lx (q_tw4 112 rfl) rfl
set_option maxRecDepth 100000 in
theorem q_lay_6_12 : u_lay RX6 TX6 12 ∈ q_Lw := q_lx (q_tw4 114 rfl) rfl
set_option maxRecDepth 100000 in
theorem q_lay_6_13 : u_lay RX6 TX6 13 ∈ q_Lw := q_lx (q_tw4 116 rfl) rfl
set_option maxRecDepth 100000 in
theorem q_lay_6_14 : u_lay RX6 TX6 14 ∈ q_Lw := q_lx (q_tw4 118 rfl) rfl
set_option maxRecDepth 100000 in
theorem q_lay_6_15 : u_lay RX6 TX6 15 ∈ q_Lw := q_lx (q_tw4 120 rfl) rfl
set_option maxRecDepth 100000 in
theorem q_lay_6_16 : u_lay RX6 TX6 16 ∈ q_Lw := q_lx (q_tw4 122 rfl) rfl
set_option maxRecDepth 100000 in
theorem q_lay_6_17 : u_lay RX6 TX6 17 ∈ q_Lw := q_lx (q_tw4 124 rfl) rfl
set_option maxRecDepth 100000 in
theorem q_lay_6_18 : u_lay RX6 TX6 18 ∈ q_Lw := q_lx (q_tw4 126 rfl) rfl
set_option maxRecDepth 100000 in
theorem q_lay_6_19 : u_lay RX6 TX6 19 ∈ q_Lw := q_lx (q_tw4 128 rfl) rfl
set_option maxRecDepth 100000 in
theorem q_lay_6_20 : u_lay RX6 TX6 20 ∈ q_Lw := q_lx (q_tw4 130 rfl) rfl
set_option maxRecDepth 100000 in
theorem q_lay_6_21 : u_lay RX6 TX6 21 ∈ q_Lw := q_lx (q_tw4 132 rfl) rfl
set_option maxRecDepth 100000 in
theorem q_lay_6_22 : u_lay RX6 TX6 22 ∈ q_Lw := q_lx (q_tw4 134 rfl) rfl
set_option maxRecDepth 100000 in
theorem q_lay_6_23 : u_lay RX6 TX6 23 ∈ q_Lw := q_lx (q_tw4 136 rfl) rfl
set_option maxRecDepth 100000 in
theorem q_lay_6_24 : u_lay RX6 TX6 24 ∈ q_Lw := q_lx (q_tw4 138 rfl) rfl
set_option maxRecDepth 100000 in
theorem q_lay_6_25 : u_lay RX6 TX6 25 ∈ q_Lw := q_lx (q_tw4 140 rfl) rfl
set_option maxRecDepth 100000 in
theorem q_lay_6_26 : u_lay RX6 TX6 26 ∈ q_Lw := q_lx (q_tw4 142 rfl) rfl
set_option maxRecDepth 100000 in
theorem q_lay_6_27 : u_lay RX6 TX6 27 ∈ q_Lw := q_lx (q_tw4 144 rfl) rfl
set_option maxRecDepth 100000 in
theorem q_lay_6_28 : u_lay RX6 TX6 28 ∈ q_Lw := q_lx (q_tw4 146 rfl) rfl
set_option maxRecDepth 100000 in
theorem q_lay_6_29 : u_lay RX6 TX6 29 ∈ q_Lw := q_lx (q_tw4 148 rfl) rfl
set_option maxRecDepth 100000 in
theorem q_lay_6_30 : u_lay RX6 TX6 30 ∈ q_Lw := q_lx (q_tw4 150 rfl) rfl
set_option maxRecDepth 100000 in
theorem q_lay_6_31 : u_lay RX6 TX6 31 ∈ q_Lw := q_lx (q_tw4 152 rfl) rfl
set_option maxRecDepth 100000 in
theorem q_lay_6_32 : u_lay RX6 TX6 32 ∈ q_Lw := q_lx (q_tw4 154 rfl) rfl
set_option maxRecDepth 100000 in
theorem q_lay_6_33 : u_lay RX6 TX6 33 ∈ q_Lw := q_lx (q_tw4 156 rfl) rfl
set_option maxRecDepth 100000 in
theorem q_lay_6_34 : u_lay RX6 TX6 34 ∈ q_Lw := q_lx (q_tw4 158 rfl) rfl
set_option maxRecDepth 100000 in
theorem q_lay_6_35 : u_lay RX6 TX6 35 ∈ q_Lw := q_lx (q_tw4 160 rfl) rfl
set_option maxRecDepth 100000 in
theorem q_lay_6_36 : u_lay RX6 TX6 36 ∈ q_Lw := q_lx (q_tw4 162 rfl) rfl
set_option maxRecDepth 100000 in
theorem q_inX_6 : ∀ w ∈ u_ws RX6 TX6 37, w ∈ q_Lw := show ∀ w ∈ [u_lay RX6 TX6 0, u_lay RX6 TX6 1, u_lay RX6 TX6 2, u_lay RX6 TX6 3, u_lay RX6 TX6 4, u_lay RX6 TX6 5, u_lay RX6 TX6 6, u_lay RX6 TX6 7, u_lay RX6 TX6 8, u_lay RX6 TX6 9, u_lay RX6 TX6 10, u_lay RX6 TX6 11, u_lay RX6 TX6 12, u_lay RX6 TX6 13, u_lay RX6 TX6 14, u_lay RX6 TX6 15, u_lay RX6 TX6 16, u_lay RX6 TX6 17, u_lay RX6 TX6 18, u_lay RX6 TX6 19, u_lay RX6 TX6 20, u_lay RX6 TX6 21, u_lay RX6 TX6 22, u_lay RX6 TX6 23, u_lay RX6 TX6 24, u_lay RX6 TX6 25, u_lay RX6 TX6 26, u_lay RX6 TX6 27, u_lay RX6 TX6 28, u_lay RX6 TX6 29, u_lay RX6 TX6 30, u_lay RX6 TX6 31, u_lay RX6 TX6 32, u_lay RX6 TX6 33, u_lay RX6 TX6 34, u_lay RX6 TX6 35, u_lay RX6 TX6 36], w ∈ q_Lw from List.forall_mem_cons.mpr ⟨q_lay_6_0, List.forall_mem_cons.mpr ⟨q_lay_6_1, List.forall_mem_cons.mpr ⟨q_lay_6_2, List.forall_mem_cons.mpr ⟨q_lay_6_3, List.forall_mem_cons.mpr ⟨q_lay_6_4, List.forall_mem_cons.mpr ⟨q_lay_6_5, List.forall_mem_cons.mpr ⟨q_lay_6_6, List.forall_mem_cons.mpr ⟨q_lay_6_7, List.forall_mem_cons.mpr ⟨q_lay_6_8, List.forall_mem_cons.mpr ⟨q_lay_6_9, List.forall_mem_cons.mpr ⟨q_lay_6_10, List.forall_mem_cons.mpr ⟨q_lay_6_11, List.forall_mem_cons.mpr ⟨q_lay_6_12, List.forall_mem_cons.mpr ⟨q_lay_6_13, List.forall_mem_cons.mpr ⟨q_lay_6_14, List.forall_mem_cons.mpr ⟨q_lay_6_15, List.forall_mem_cons.mpr ⟨q_lay_6_16, List.forall_mem_cons.mpr ⟨q_lay_6_17, List.forall_mem_cons.mpr ⟨q_lay_6_18, List.forall_mem_cons.mpr ⟨q_lay_6_19, List.forall_mem_cons.mpr ⟨q_lay_6_20, List.forall_mem_cons.mpr ⟨q_lay_6_21, List.forall_mem_cons.mpr ⟨q_lay_6_22, List.forall_mem_cons.mpr ⟨q_lay_6_23, List.forall_mem_cons.mpr ⟨q_lay_6_24, List.forall_mem_cons.mpr ⟨q_lay_6_25, List.forall_mem_cons.mpr ⟨q_lay_6_26, List.forall_mem_cons.mpr ⟨q_lay_6_27, List.forall_mem_cons.mpr ⟨q_lay_6_28, List.forall_mem_cons.mpr ⟨q_lay_6_29, List.forall_mem_cons.mpr ⟨q_lay_6_30, List.forall_mem_cons.mpr ⟨q_lay_6_31, List.forall_mem_cons.mpr ⟨q_lay_6_32, List.forall_mem_cons.mpr ⟨q_lay_6_33, List.forall_mem_cons.mpr ⟨q_lay_6_34, List.forall_mem_cons.mpr ⟨q_lay_6_35, List.forall_mem_cons.mpr ⟨q_lay_6_36, fun _ h => absurd h List.not_mem_nil⟩⟩⟩⟩⟩⟩⟩⟩⟩⟩⟩⟩⟩⟩⟩⟩⟩⟩⟩⟩⟩⟩⟩⟩⟩⟩⟩⟩⟩⟩⟩⟩⟩⟩⟩⟩⟩
set_option maxRecDepth 100000 in
theorem q_w_ac : Cond.arrayClass .int ∈ q_Lw := q_lx (q_tw1 60 rfl) rfl
set_option maxRecDepth 100000 in
theorem q_w_na : Cond.native arraycopyName ∈ q_Lw := q_lx (q_tw1 207 rfl) rfl
set_option maxRecDepth 100000 in
theorem q_w_sa : Cond.static arraycopyName ∈ q_Lw := q_lx (q_tw1 206 rfl) rfl
set_option maxRecDepth 100000 in
theorem q_w_is : Cond.initialized "java/lang/System" ∈ q_Lw := q_lx (q_tw1 7 rfl) rfl
set_option maxRecDepth 100000 in
theorem q_w_oi : Cond.instanceMethod Jvm.Lib.objectInit ∈ q_Lw := q_lx (q_tw1 20 rfl) rfl
set_option maxRecDepth 100000 in
theorem q_w_oc : Cond.code Jvm.Lib.objectInit ⟨#[0xb1]⟩ 1 none ∈ q_Lw := q_lx (q_tw1 21 rfl) rfl
set_option maxRecDepth 100000 in
theorem q_w_cl : Cond.methodLink RX1 53 ⟨"[I", "clone", "()Ljava/lang/Object;"⟩ ∈ q_Lw := q_lx (q_tw1 210 rfl) rfl
set_option maxRecDepth 100000 in
theorem q_w_sm : Cond.sameMethod "[I" "java/lang/Object" "clone" "()Ljava/lang/Object;" ∈ q_Lw := q_lx (q_tw1 211 rfl) rfl
set_option maxRecDepth 100000 in
theorem q_w_nc : Cond.native ⟨"java/lang/Object", "clone", "()Ljava/lang/Object;"⟩ ∈ q_Lw := q_lx (q_tw1 212 rfl) rfl
set_option maxRecDepth 100000 in
theorem q_w_ic : Cond.instanceMethod ⟨"java/lang/Object", "clone", "()Ljava/lang/Object;"⟩ ∈ q_Lw := q_lx (q_tw1 213 rfl) rfl
set_option maxRecDepth 100000 in
theorem q_w_sc : Cond.selects "[I" ⟨"[I", "clone", "()Ljava/lang/Object;"⟩ ⟨"java/lang/Object", "clone", "()Ljava/lang/Object;"⟩ ∈ q_Lw := q_lx (q_tw1 214 rfl) rfl
set_option maxRecDepth 100000 in
theorem q_w_c1 : Cond.classLink RX1 54 "[I" ∈ q_Lw := q_lx (q_tw1 216 rfl) rfl
set_option maxRecDepth 100000 in
theorem q_w_cT : Cond.classLink RX5 16 RX3 ∈ q_Lw := q_lx (q_tw1 61 rfl) rfl
set_option maxRecDepth 100000 in
theorem q_w_cS : Cond.classLink RX5 22 RX2 ∈ q_Lw := q_lx (q_tw1 63 rfl) rfl
set_option maxRecDepth 100000 in
theorem q_w_cM : Cond.classLink RX0 18 "[[I" ∈ q_Lw := q_lx (q_tw2 12 rfl) rfl
set_option maxRecDepth 100000 in
theorem q_w_fv : Cond.fieldLink RJ0 9 "java/lang/String" "value" "[B" ∈ q_Lw := q_lx (q_tw5 235 rfl) rfl
set_option maxRecDepth 100000 in
theorem q_w_fc : Cond.fieldLink RJ0 15 "java/lang/String" "coder" "B" ∈ q_Lw := q_lx (q_tw5 236 rfl) rfl
set_option maxRecDepth 100000 in
theorem q_w_g0 : Cond.fieldLink RJ0 38 "java/lang/String" "COMPACT_STRINGS" "Z" ∈ q_Lw := q_lx (q_tw1 74 rfl) rfl
set_option maxRecDepth 100000 in
theorem q_w_g1 : Cond.fieldLink RJ0 1053 "jdk/internal/util/Preconditions" "SIOOBE_FORMATTER" "Ljava/util/function/BiFunction;" ∈ q_Lw := q_lx (q_tw1 90 rfl) rfl
