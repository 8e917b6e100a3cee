/-! SYMBOLIC EXECUTION, where the sides are decided -/
section YOPS
variable {md d : Nat} {P : q_P} {nx : Nat} {ops : List Instr} {ls st : List q_V} {g : q_G} {M : q_M} {Q : Option q_V → q_G → q_M → Prop} {a : Nat} {j x y t : Int}
theorem y_ic_eq_t (h : x = y) : q_T md d P nx [.if_icmp .eq t] ls (qI y :: qI x :: st) g M Q = q_T md d P t.toNat [] ls st g M Q := q_T_next (show q_go (if q_cmp .eq x y = true then t.toNat else nx) [] ls st g M = _ by rw [if_pos (by simp only [q_cmp, decide_eq_true_eq]; omega)])
theorem y_ic_eq_f (h : x ≠ y) : q_T md d P nx [.if_icmp .eq t] ls (qI y :: qI x :: st) g M Q = q_T md d P nx [] ls st g M Q := q_T_next (show q_go (if q_cmp .eq x y = true then t.toNat else nx) [] ls st g M = _ by rw [if_neg (by simp only [q_cmp, decide_eq_true_eq]; omega)])
theorem y_ic_eq (h1 : x = y → q_T md d P t.toNat [] ls st g M Q) (h2 : x ≠ y → q_T md d P nx [] ls st g M Q) : q_T md d P nx [.if_icmp .eq t] ls (qI y :: qI x :: st) g M Q := by
  by_cases h : x = y
  · rw [y_ic_eq_t h]; exact h1 h
  · rw [y_ic_eq_f (by omega)]; exact h2 (by omega)
theorem y_if_eq_t (h : x = 0) : q_T md d P nx [.ifCond .eq t] ls (qI x :: st) g M Q = q_T md d P t.toNat [] ls st g M Q := q_T_next (show q_go (if q_cmp .eq x 0 = true then t.toNat else nx) [] ls st g M = _ by rw [if_pos (by simp only [q_cmp, decide_eq_true_eq]; omega)])
theorem y_if_eq_f (h : x ≠ 0) : q_T md d P nx [.ifCond .eq t] ls (qI x :: st) g M Q = q_T md d P nx [] ls st g M Q := q_T_next (show q_go (if q_cmp .eq x 0 = true then t.toNat else nx) [] ls st g M = _ by rw [if_neg (by simp only [q_cmp, decide_eq_true_eq]; omega)])
theorem y_if_eq (h1 : x = 0 → q_T md d P t.toNat [] ls st g M Q) (h2 : x ≠ 0 → q_T md d P nx [] ls st g M Q) : q_T md d P nx [.ifCond .eq t] ls (qI x :: st) g M Q := by
  by_cases h : x = 0
  · rw [y_if_eq_t h]; exact h1 h
  · rw [y_if_eq_f (by omega)]; exact h2 (by omega)
theorem y_ic_ne_t (h : x ≠ y) : q_T md d P nx [.if_icmp .ne t] ls (qI y :: qI x :: st) g M Q = q_T md d P t.toNat [] ls st g M Q := q_T_next (show q_go (if q_cmp .ne x y = true then t.toNat else nx) [] ls st g M = _ by rw [if_pos (by simp only [q_cmp, decide_eq_true_eq]; omega)])
theorem y_ic_ne_f (h : x = y) : q_T md d P nx [.if_icmp .ne t] ls (qI y :: qI x :: st) g M Q = q_T md d P nx [] ls st g M Q := q_T_next (show q_go (if q_cmp .ne x y = true then t.toNat else nx) [] ls st g M = _ by rw [if_neg (by simp only [q_cmp, decide_eq_true_eq]; omega)])
theorem y_ic_ne (h1 : x ≠ y → q_T md d P t.toNat [] ls st g M Q) (h2 : x = y → q_T md d P nx [] ls st g M Q) : q_T md d P nx [.if_icmp .ne t] ls (qI y :: qI x :: st) g M Q := by
  by_cases h : x ≠ y
  · rw [y_ic_ne_t h]; exact h1 h
  · rw [y_ic_ne_f (by omega)]; exact h2 (by omega)
theorem y_if_ne_t (h : x ≠ 0) : q_T md d P nx [.ifCond .ne t] ls (qI x :: st) g M Q = q_T md d P t.toNat [] ls st g M Q := q_T_next (show q_go (if q_cmp .ne x 0 = true then t.toNat else nx) [] ls st g M = _ by rw [if_pos (by simp only [q_cmp, decide_eq_true_eq]; omega)])
theorem y_if_ne_f (h : x = 0) : q_T md d P nx [.ifCond .ne t] ls (qI x :: st) g M Q = q_T md d P nx [] ls st g M Q := q_T_next (show q_go (if q_cmp .ne x 0 = true then t.toNat else nx) [] ls st g M = _ by rw [if_neg (by simp only [q_cmp, decide_eq_true_eq]; omega)])
theorem y_if_ne (h1 : x ≠ 0 → q_T md d P t.toNat [] ls st g M Q) (h2 : x = 0 → q_T md d P nx [] ls st g M Q) : q_T md d P nx [.ifCond .ne t] ls (qI x :: st) g M Q := by
  by_cases h : x ≠ 0
  · rw [y_if_ne_t h]; exact h1 h
  · rw [y_if_ne_f (by omega)]; exact h2 (by omega)
theorem y_ic_lt_t (h : x < y) : q_T md d P nx [.if_icmp .lt t] ls (qI y :: qI x :: st) g M Q = q_T md d P t.toNat [] ls st g M Q := q_T_next (show q_go (if q_cmp .lt x y = true then t.toNat else nx) [] ls st g M = _ by rw [if_pos (by simp only [q_cmp, decide_eq_true_eq]; omega)])
theorem y_ic_lt_f (h : y ≤ x) : q_T md d P nx [.if_icmp .lt t] ls (qI y :: qI x :: st) g M Q = q_T md d P nx [] ls st g M Q := q_T_next (show q_go (if q_cmp .lt x y = true then t.toNat else nx) [] ls st g M = _ by rw [if_neg (by simp only [q_cmp, decide_eq_true_eq]; omega)])
theorem y_ic_lt (h1 : x < y → q_T md d P t.toNat [] ls st g M Q) (h2 : y ≤ x → q_T md d P nx [] ls st g M Q) : q_T md d P nx [.if_icmp .lt t] ls (qI y :: qI x :: st) g M Q := by
  by_cases h : x < y
  · rw [y_ic_lt_t h]; exact h1 h
  · rw [y_ic_lt_f (by omega)]; exact h2 (by omega)
theorem y_if_lt_t (h : x < 0) : q_T md d P nx [.ifCond .lt t] ls (qI x :: st) g M Q = q_T md d P t.toNat [] ls st g M Q := q_T_next (show q_go (if q_cmp .lt x 0 = true then t.toNat else nx) [] ls st g M = _ by rw [if_pos (by simp only [q_cmp, decide_eq_true_eq]; omega)])
theorem y_if_lt_f (h : 0 ≤ x) : q_T md d P nx [.ifCond .lt t] ls (qI x :: st) g M Q = q_T md d P nx [] ls st g M Q := q_T_next (show q_go (if q_cmp .lt x 0 = true then t.toNat else nx) [] ls st g M = _ by rw [if_neg (by simp only [q_cmp, decide_eq_true_eq]; omega)])
theorem y_if_lt (h1 : x < 0 → q_T md d P t.toNat [] ls st g M Q) (h2 : 0 ≤ x → q_T md d P nx [] ls st g M Q) : q_T md d P nx [.ifCond .lt t] ls (qI x :: st) g M Q := by
  by_cases h : x < 0
  · rw [y_if_lt_t h]; exact h1 h
  · rw [y_if_lt_f (by omega)]; exact h2 (by omega)
theorem y_ic_ge_t (h : y ≤ x) : q_T md d P nx [.if_icmp .ge t] ls (qI y :: qI x :: st) g M Q = q_T md d P t.toNat [] ls st g M Q := q_T_next (show q_go (if q_cmp .ge x y = true then t.toNat else nx) [] ls st g M = _ by rw [if_pos (by simp only [q_cmp, decide_eq_true_eq]; omega)])
theorem y_ic_ge_f (h : x < y) : q_T md d P nx [.if_icmp .ge t] ls (qI y :: qI x :: st) g M Q = q_T md d P nx [] ls st g M Q := q_T_next (show q_go (if q_cmp .ge x y = true then t.toNat else nx) [] ls st g M = _ by rw [if_neg (by simp only [q_cmp, decide_eq_true_eq]; omega)])
theorem y_ic_ge (h1 : y ≤ x → q_T md d P t.toNat [] ls st g M Q) (h2 : x < y → q_T md d P nx [] ls st g M Q) : q_T md d P nx [.if_icmp .ge t] ls (qI y :: qI x :: st) g M Q := by
  by_cases h : y ≤ x
  · rw [y_ic_ge_t h]; exact h1 h
  · rw [y_ic_ge_f (by omega)]; exact h2 (by omega)
theorem y_if_ge_t (h : 0 ≤ x) : q_T md d P nx [.ifCond .ge t] ls (qI x :: st) g M Q = q_T md d P t.toNat [] ls st g M Q := q_T_next (show q_go (if q_cmp .ge x 0 = true then t.toNat else nx) [] ls st g M = _ by rw [if_pos (by simp only [q_cmp, decide_eq_true_eq]; omega)])
theorem y_if_ge_f (h : x < 0) : q_T md d P nx [.ifCond .ge t] ls (qI x :: st) g M Q = q_T md d P nx [] ls st g M Q := q_T_next (show q_go (if q_cmp .ge x 0 = true then t.toNat else nx) [] ls st g M = _ by rw [if_neg (by simp only [q_cmp, decide_eq_true_eq]; omega)])
theorem y_if_ge (h1 : 0 ≤ x → q_T md d P t.toNat [] ls st g M Q) (h2 : x < 0 → q_T md d P nx [] ls st g M Q) : q_T md d P nx [.ifCond .ge t] ls (qI x :: st) g M Q := by
  by_cases h : 0 ≤ x
  · rw [y_if_ge_t h]; exact h1 h
  · rw [y_if_ge_f (by omega)]; exact h2 (by omega)
theorem y_ic_gt_t (h : y < x) : q_T md d P nx [.if_icmp .gt t] ls (qI y :: qI x :: st) g M Q = q_T md d P t.toNat [] ls st g M Q := q_T_next (show q_go (if q_cmp .gt x y = true then t.toNat else nx) [] ls st g M = _ by rw [if_pos (by simp only [q_cmp, decide_eq_true_eq]; omega)])
theorem y_ic_gt_f (h : x ≤ y) : q_T md d P nx [.if_icmp .gt t] ls (qI y :: qI x :: st) g M Q = q_T md d P nx [] ls st g M Q := q_T_next (show q_go (if q_cmp .gt x y = true then t.toNat else nx) [] ls st g M = _ by rw [if_neg (by simp only [q_cmp, decide_eq_true_eq]; omega)])
theorem y_ic_gt (h1 : y < x → q_T md d P t.toNat [] ls st g M Q) (h2 : x ≤ y → q_T md d P nx [] ls st g M Q) : q_T md d P nx [.if_icmp .gt t] ls (qI y :: qI x :: st) g M Q := by
  by_cases h : y < x
  · rw [y_ic_gt_t h]; exact h1 h
  · rw [y_ic_gt_f (by omega)]; exact h2 (by omega)
theorem y_if_gt_t (h : 0 < x) : q_T md d P nx [.ifCond .gt t] ls (qI x :: st) g M Q = q_T md d P t.toNat [] ls st g M Q := q_T_next (show q_go (if q_cmp .gt x 0 = true then t.toNat else nx) [] ls st g M = _ by rw [if_pos (by simp only [q_cmp, decide_eq_true_eq]; omega)])
theorem y_if_gt_f (h : x ≤ 0) : q_T md d P nx [.ifCond .gt t] ls (qI x :: st) g M Q = q_T md d P nx [] ls st g M Q := q_T_next (show q_go (if q_cmp .gt x 0 = true then t.toNat else nx) [] ls st g M = _ by rw [if_neg (by simp only [q_cmp, decide_eq_true_eq]; omega)])
theorem y_if_gt (h1 : 0 < x → q_T md d P t.toNat [] ls st g M Q) (h2 : x ≤ 0 → q_T md d P nx [] ls st g M Q) : q_T md d P nx [.ifCond .gt t] ls (qI x :: st) g M Q := by
  by_cases h : 0 < x
  · rw [y_if_gt_t h]; exact h1 h
  · rw [y_if_gt_f (by omega)]; exact h2 (by omega)
theorem y_ic_le_t (h : x ≤ y) : q_T md d P nx [.if_icmp .le t] ls (qI y :: qI x :: st) g M Q = q_T md d P t.toNat [] ls st g M Q := q_T_next (show q_go (if q_cmp .le x y = true then t.toNat else nx) [] ls st g M = _ by rw [if_pos (by simp only [q_cmp, decide_eq_true_eq]; omega)])
theorem y_ic_le_f (h : y < x) : q_T md d P nx [.if_icmp .le t] ls (qI y :: qI x :: st) g M Q = q_T md d P nx [] ls st g M Q := q_T_next (show q_go (if q_cmp .le x y = true then t.toNat else nx) [] ls st g M = _ by rw [if_neg (by simp only [q_cmp, decide_eq_true_eq]; omega)])
theorem y_ic_le (h1 : x ≤ y → q_T md d P t.toNat [] ls st g M Q) (h2 : y < x → q_T md d P nx [] ls st g M Q) : q_T md d P nx [.if_icmp .le t] ls (qI y :: qI x :: st) g M Q := by
  by_cases h : x ≤ y
  · rw [y_ic_le_t h]; exact h1 h
  · rw [y_ic_le_f (by omega)]; exact h2 (by omega)
theorem y_if_le_t (h : x ≤ 0) : q_T md d P nx [.ifCond .le t] ls (qI x :: st) g M Q = q_T md d P t.toNat [] ls st g M Q := q_T_next (show q_go (if q_cmp .le x 0 = true then t.toNat else nx) [] ls st g M = _ by rw [if_pos (by simp only [q_cmp, decide_eq_true_eq]; omega)])
theorem y_if_le_f (h : 0 < x) : q_T md d P nx [.ifCond .le t] ls (qI x :: st) g M Q = q_T md d P nx [] ls st g M Q := q_T_next (show q_go (if q_cmp .le x 0 = true then t.toNat else nx) [] ls st g M = _ by rw [if_neg (by simp only [q_cmp, decide_eq_true_eq]; omega)])
theorem y_if_le (h1 : x ≤ 0 → q_T md d P t.toNat [] ls st g M Q) (h2 : 0 < x → q_T md d P nx [] ls st g M Q) : q_T md d P nx [.ifCond .le t] ls (qI x :: st) g M Q := by
  by_cases h : x ≤ 0
  · rw [y_if_le_t h]; exact h1 h
  · rw [y_if_le_f (by omega)]; exact h2 (by omega)
theorem y_iald_23 (h0 : 0 ≤ j) (h1 : j < 3) : q_T md d P nx (.iaload :: ops) ls (qI j :: qR 23 a :: st) g M Q = q_T md d P nx ops ls (qI (M a j.toNat) :: st) g M Q := by rw [x_iald_23]; simp only [h0, h1, true_and, and_self]
theorem y_iast_23 (h0 : 0 ≤ j) (h1 : j < 3) : q_T md d P nx (.iastore :: ops) ls (qI x :: qI j :: qR 23 a :: st) g M Q = q_T md d P nx ops ls st g (q_upd M a j.toNat x) Q := by rw [x_iast_23]; simp only [h0, h1, true_and, and_self]
theorem y_iald_24 (h0 : 0 ≤ j) (h1 : j < 4) : q_T md d P nx (.iaload :: ops) ls (qI j :: qR 24 a :: st) g M Q = q_T md d P nx ops ls (qI (M a j.toNat) :: st) g M Q := by rw [x_iald_24]; simp only [h0, h1, true_and, and_self]
theorem y_iast_24 (h0 : 0 ≤ j) (h1 : j < 4) : q_T md d P nx (.iastore :: ops) ls (qI x :: qI j :: qR 24 a :: st) g M Q = q_T md d P nx ops ls st g (q_upd M a j.toNat x) Q := by rw [x_iast_24]; simp only [h0, h1, true_and, and_self]
theorem y_iald_25 (h0 : 0 ≤ j) (h1 : j < 5) : q_T md d P nx (.iaload :: ops) ls (qI j :: qR 25 a :: st) g M Q = q_T md d P nx ops ls (qI (M a j.toNat) :: st) g M Q := by rw [x_iald_25]; simp only [h0, h1, true_and, and_self]
theorem y_iast_25 (h0 : 0 ≤ j) (h1 : j < 5) : q_T md d P nx (.iastore :: ops) ls (qI x :: qI j :: qR 25 a :: st) g M Q = q_T md d P nx ops ls st g (q_upd M a j.toNat x) Q := by rw [x_iast_25]; simp only [h0, h1, true_and, and_self]
theorem y_iald_26 (h0 : 0 ≤ j) (h1 : j < 6) : q_T md d P nx (.iaload :: ops) ls (qI j :: qR 26 a :: st) g M Q = q_T md d P nx ops ls (qI (M a j.toNat) :: st) g M Q := by rw [x_iald_26]; simp only [h0, h1, true_and, and_self]
theorem y_iast_26 (h0 : 0 ≤ j) (h1 : j < 6) : q_T md d P nx (.iastore :: ops) ls (qI x :: qI j :: qR 26 a :: st) g M Q = q_T md d P nx ops ls st g (q_upd M a j.toNat x) Q := by rw [x_iast_26]; simp only [h0, h1, true_and, and_self]
theorem y_iald_35 (h0 : 0 ≤ j) (h1 : j < 15) : q_T md d P nx (.iaload :: ops) ls (qI j :: qR 35 a :: st) g M Q = q_T md d P nx ops ls (qI (M a j.toNat) :: st) g M Q := by rw [x_iald_35]; simp only [h0, h1, true_and, and_self]
theorem y_iast_35 (h0 : 0 ≤ j) (h1 : j < 15) : q_T md d P nx (.iastore :: ops) ls (qI x :: qI j :: qR 35 a :: st) g M Q = q_T md d P nx ops ls st g (q_upd M a j.toNat x) Q := by rw [x_iast_35]; simp only [h0, h1, true_and, and_self]
theorem y_iald_40 (h0 : 0 ≤ j) (h1 : j < 20) : q_T md d P nx (.iaload :: ops) ls (qI j :: qR 40 a :: st) g M Q = q_T md d P nx ops ls (qI (M a j.toNat) :: st) g M Q := by rw [x_iald_40]; simp only [h0, h1, true_and, and_self]
theorem y_iast_40 (h0 : 0 ≤ j) (h1 : j < 20) : q_T md d P nx (.iastore :: ops) ls (qI x :: qI j :: qR 40 a :: st) g M Q = q_T md d P nx ops ls st g (q_upd M a j.toNat x) Q := by rw [x_iast_40]; simp only [h0, h1, true_and, and_self]
theorem y_iald_44 (h0 : 0 ≤ j) (h1 : j < 24) : q_T md d P nx (.iaload :: ops) ls (qI j :: qR 44 a :: st) g M Q = q_T md d P nx ops ls (qI (M a j.toNat) :: st) g M Q := by rw [x_iald_44]; simp only [h0, h1, true_and, and_self]
theorem y_iast_44 (h0 : 0 ≤ j) (h1 : j < 24) : q_T md d P nx (.iastore :: ops) ls (qI x :: qI j :: qR 44 a :: st) g M Q = q_T md d P nx ops ls st g (q_upd M a j.toNat x) Q := by rw [x_iast_44]; simp only [h0, h1, true_and, and_self]
theorem y_iald_45 (h0 : 0 ≤ j) (h1 : j < 25) : q_T md d P nx (.iaload :: ops) ls (qI j :: qR 45 a :: st) g M Q = q_T md d P nx ops ls (qI (M a j.toNat) :: st) g M Q := by rw [x_iald_45]; simp only [h0, h1, true_and, and_self]
theorem y_iast_45 (h0 : 0 ≤ j) (h1 : j < 25) : q_T md d P nx (.iastore :: ops) ls (qI x :: qI j :: qR 45 a :: st) g M Q = q_T md d P nx ops ls st g (q_upd M a j.toNat x) Q := by rw [x_iast_45]; simp only [h0, h1, true_and, and_self]
theorem y_iald_55 (h0 : 0 ≤ j) (h1 : j < 35) : q_T md d P nx (.iaload :: ops) ls (qI j :: qR 55 a :: st) g M Q = q_T md d P nx ops ls (qI (M a j.toNat) :: st) g M Q := by rw [x_iald_55]; simp only [h0, h1, true_and, and_self]
theorem y_iast_55 (h0 : 0 ≤ j) (h1 : j < 35) : q_T md d P nx (.iastore :: ops) ls (qI x :: qI j :: qR 55 a :: st) g M Q = q_T md d P nx ops ls st g (q_upd M a j.toNat x) Q := by rw [x_iast_55]; simp only [h0, h1, true_and, and_self]
theorem y_iald_56 (h0 : 0 ≤ j) (h1 : j < 36) : q_T md d P nx (.iaload :: ops) ls (qI j :: qR 56 a :: st) g M Q = q_T md d P nx ops ls (qI (M a j.toNat) :: st) g M Q := by rw [x_iald_56]; simp only [h0, h1, true_and, and_self]
theorem y_iast_56 (h0 : 0 ≤ j) (h1 : j < 36) : q_T md d P nx (.iastore :: ops) ls (qI x :: qI j :: qR 56 a :: st) g M Q = q_T md d P nx ops ls st g (q_upd M a j.toNat x) Q := by rw [x_iast_56]; simp only [h0, h1, true_and, and_self]
theorem y_iald_60 (h0 : 0 ≤ j) (h1 : j < 40) : q_T md d P nx (.iaload :: ops) ls (qI j :: qR 60 a :: st) g M Q = q_T md d P nx ops ls (qI (M a j.toNat) :: st) g M Q := by rw [x_iald_60]; simp only [h0, h1, true_and, and_self]
theorem y_iast_60 (h0 : 0 ≤ j) (h1 : j < 40) : q_T md d P nx (.iastore :: ops) ls (qI x :: qI j :: qR 60 a :: st) g M Q = q_T md d P nx ops ls st g (q_upd M a j.toNat x) Q := by rw [x_iast_60]; simp only [h0, h1, true_and, and_self]
theorem y_iald_116 (h0 : 0 ≤ j) (h1 : j < 96) : q_T md d P nx (.iaload :: ops) ls (qI j :: qR 116 a :: st) g M Q = q_T md d P nx ops ls (qI (M a j.toNat) :: st) g M Q := by rw [x_iald_116]; simp only [h0, h1, true_and, and_self]
theorem y_iast_116 (h0 : 0 ≤ j) (h1 : j < 96) : q_T md d P nx (.iastore :: ops) ls (qI x :: qI j :: qR 116 a :: st) g M Q = q_T md d P nx ops ls st g (q_upd M a j.toNat x) Q := by rw [x_iast_116]; simp only [h0, h1, true_and, and_self]
theorem y_iald_180 (h0 : 0 ≤ j) (h1 : j < 160) : q_T md d P nx (.iaload :: ops) ls (qI j :: qR 180 a :: st) g M Q = q_T md d P nx ops ls (qI (M a j.toNat) :: st) g M Q := by rw [x_iald_180]; simp only [h0, h1, true_and, and_self]
theorem y_iast_180 (h0 : 0 ≤ j) (h1 : j < 160) : q_T md d P nx (.iastore :: ops) ls (qI x :: qI j :: qR 180 a :: st) g M Q = q_T md d P nx ops ls st g (q_upd M a j.toNat x) Q := by rw [x_iast_180]; simp only [h0, h1, true_and, and_self]
theorem y_iald_220 (h0 : 0 ≤ j) (h1 : j < 200) : q_T md d P nx (.iaload :: ops) ls (qI j :: qR 220 a :: st) g M Q = q_T md d P nx ops ls (qI (M a j.toNat) :: st) g M Q := by rw [x_iald_220]; simp only [h0, h1, true_and, and_self]
theorem y_iast_220 (h0 : 0 ≤ j) (h1 : j < 200) : q_T md d P nx (.iastore :: ops) ls (qI x :: qI j :: qR 220 a :: st) g M Q = q_T md d P nx ops ls st g (q_upd M a j.toNat x) Q := by rw [x_iast_220]; simp only [h0, h1, true_and, and_self]
theorem y_iald_1220 (h0 : 0 ≤ j) (h1 : j < 1200) : q_T md d P nx (.iaload :: ops) ls (qI j :: qR 1220 a :: st) g M Q = q_T md d P nx ops ls (qI (M a j.toNat) :: st) g M Q := by rw [x_iald_1220]; simp only [h0, h1, true_and, and_self]
theorem y_iast_1220 (h0 : 0 ≤ j) (h1 : j < 1200) : q_T md d P nx (.iastore :: ops) ls (qI x :: qI j :: qR 1220 a :: st) g M Q = q_T md d P nx ops ls st g (q_upd M a j.toNat x) Q := by rw [x_iast_1220]; simp only [h0, h1, true_and, and_self]
theorem y_aald7 (h0 : 0 ≤ j) (h1 : j < 6) : q_T 1 d P nx (.aaload :: ops) ls (qI j :: qR 7 a :: st) g M Q = q_T 1 d P nx ops ls (qR 26 (a + (1 + j.toNat)) :: st) g M Q := by rw [x_aald7]; simp only [h0, h1, true_and, and_self]
theorem y_aald8 (h0 : 0 ≤ j) (h1 : j < 6) : q_T 1 d P nx (.aaload :: ops) ls (qI j :: qR 8 a :: st) g M Q = q_T 1 d P nx ops ls (q_dyn 3 (M a j.toNat) :: st) g M Q := by rw [x_aald8]; simp only [h0, h1, true_and, and_self]
theorem y_aald9 (h0 : 0 ≤ j) (h1 : j < 4) : q_T 1 d P nx (.aaload :: ops) ls (qI j :: qR 9 a :: st) g M Q = q_T 1 d P nx ops ls (qR 2 (a + (86 + 2 * j.toNat)) :: st) g M Q := by rw [x_aald9]; simp only [h0, h1, true_and, and_self]
theorem y_sald (h0 : 0 ≤ j) (h1 : j < M 1000001 0) : q_T md d P nx (.iaload :: ops) ls (qI j :: qS 2 :: st) g M Q = q_T md d P nx ops ls (qI (M 1000000 j.toNat) :: st) g M Q := by rw [x_sald]; simp only [h0, h1, true_and, and_self]
theorem y_tsw_o {dd lo hi : Int} {offs : Array Int} (h : x < lo ∨ hi < x) : q_T md d P nx [.tableswitch dd lo hi offs] ls (qI x :: st) g M Q = q_T md d P dd.toNat [] ls st g M Q := by rw [x_tsw, if_pos h]
theorem y_idiv (h : y ≠ 0) : q_T md d P nx (.idiv :: ops) ls (qI y :: qI x :: st) g M Q = q_T md d P nx ops ls (qI (q_div x y) :: st) g M Q := q_T_next (show (if y = 0 then none else _) = _ by rw [if_neg h])
theorem y_irem (h : y ≠ 0) : q_T md d P nx (.irem :: ops) ls (qI y :: qI x :: st) g M Q = q_T md d P nx ops ls (qI (q_rem x y) :: st) g M Q := q_T_next (show (if y = 0 then none else _) = _ by rw [if_neg h])
theorem y_ldiv (h : y ≠ 0) : q_T md d P nx (.ldiv :: ops) ls (qL y :: qL x :: st) g M Q = q_T md d P nx ops ls (qL (q_ldiv x y) :: st) g M Q := q_T_next (show (if y = 0 then none else _) = _ by rw [if_neg h])
theorem y_lrem (h : y ≠ 0) : q_T md d P nx (.lrem :: ops) ls (qL y :: qL x :: st) g M Q = q_T md d P nx ops ls (qL (q_lrem x y) :: st) g M Q := q_T_next (show (if y = 0 then none else _) = _ by rw [if_neg h])
end YOPS
theorem q_upd_s {M : q_M} {a i : Nat} {x : Int} : q_upd M a i x a i = x := if_pos ⟨rfl, rfl⟩
theorem q_upd_n {M : q_M} {a i b j : Nat} {x : Int} (h : b ≠ a ∨ j ≠ i) : q_upd M a i x b j = M b j := if_neg (fun q => by rcases h with h | h; exact h q.1; exact h q.2)
/-- the same from the model on -/
def q_same (M M2 : q_M) : Prop := ∀ a i, 100 ≤ a → M2 a i = M a i
theorem q_same_rf {M : q_M} : q_same M M := fun _ _ _ => rfl
theorem q_same_up {M M2 : q_M} {b j : Nat} {x : Int} (h : q_same M M2) (hb : b < 100) : q_same M (q_upd M2 b j x) := fun a i ha => by rw [q_upd_n (Or.inl (by omega))]; exact h a i ha
theorem q_same_cpy {M M2 : q_M} {s sp b dp n : Nat} (h : q_same M M2) (hb : b < 100) : q_same M (q_cpy M2 s sp b dp n) := fun a i ha => by unfold q_cpy; rw [if_neg (by omega)]; exact h a i ha
