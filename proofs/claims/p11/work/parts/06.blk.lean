section BLK
variable {md d : Nat} {ls st : List q_V} {g : q_G} {M : q_M} {Q : Option q_V → q_G → q_M → Prop}
theorem s_X0_init {w : Nat} : q_S md d 0 [qR 0 w] g M Q = q_T md d qP_X0_init 0 [] [qR 0 w, qS 0] [] g M Q := rfl
theorem b_X0_init_0 : q_T md d qP_X0_init 0 [] ls st g M Q = q_T md d qP_X0_init 54 [.aload 0, .monitorenter, .aload 0, .iconst (6), .newarray .int, .putfield 0, .aload 0, .iconst (6), .newarray .int, .putfield 1, .aload 0, .iconst (6), .iconst (6), .multianewarray 7 2, .putfield 2, .aload 0, .iconst (6), .iconst (6), .multianewarray 7 2, .putfield 3, .aload 0, .iconst (6), .newarray .int, .putfield 4, .iconst (0), .istore 1] ls st g M Q := q_T_next rfl
theorem b_X0_init_54 : q_T md d qP_X0_init 54 [] ls st g M Q = q_T md d qP_X0_init 59 [.iload 1, .iconst (5), .if_icmp .ge (72)] ls st g M Q := q_T_next rfl
theorem b_X0_init_59 : q_T md d qP_X0_init 59 [] ls st g M Q = q_T md d qP_X0_init 72 [.aload 0, .getfield 0, .iload 1, .iconst (1), .iastore, .iinc 1 (1), .goto (54)] ls st g M Q := q_T_next rfl
theorem b_X0_init_72 : q_T md d qP_X0_init 72 [] ls st g M Q = q_T md d qP_X0_init 73 [.return_] ls st g M Q := q_T_next rfl
theorem s_X0_copyFrom {w : Nat} {k0 y0 : Nat} : q_S md d 1 [qR 0 w, qR k0 y0] g M Q = q_T md d qP_X0_copyFrom 0 [] [qR 0 w, qR k0 y0] [] g M Q := rfl
theorem b_X0_copyFrom_0 : q_T md d qP_X0_copyFrom 0 [] ls st g M Q = q_T md d qP_X0_copyFrom 37 [.aload 1, .getfield 0, .iconst (0), .aload 0, .getfield 0, .iconst (0), .iconst (5), .monitorexit, .aload 1, .getfield 1, .iconst (0), .aload 0, .getfield 1, .iconst (0), .iconst (5), .monitorexit, .aload 0, .aload 1, .getfield 5, .putfield 5, .return_] ls st g M Q := q_T_next rfl
theorem s_X0_emptyAll {w : Nat} : q_S md d 2 [qR 0 w] g M Q = q_T md d qP_X0_emptyAll 0 [] [qR 0 w, qS 0] [] g M Q := rfl
theorem b_X0_emptyAll_0 : q_T md d qP_X0_emptyAll 0 [] ls st g M Q = q_T md d qP_X0_emptyAll 2 [.iconst (0), .istore 1] ls st g M Q := q_T_next rfl
theorem b_X0_emptyAll_2 : q_T md d qP_X0_emptyAll 2 [] ls st g M Q = q_T md d qP_X0_emptyAll 7 [.iload 1, .iconst (5), .if_icmp .ge (20)] ls st g M Q := q_T_next rfl
theorem b_X0_emptyAll_7 : q_T md d qP_X0_emptyAll 7 [] ls st g M Q = q_T md d qP_X0_emptyAll 20 [.aload 0, .getfield 1, .iload 1, .iconst (5), .iastore, .iinc 1 (1), .goto (2)] ls st g M Q := q_T_next rfl
theorem b_X0_emptyAll_20 : q_T md d qP_X0_emptyAll 20 [] ls st g M Q = q_T md d qP_X0_emptyAll 21 [.return_] ls st g M Q := q_T_next rfl
theorem s_X0_inNone {w : Nat} : q_S md d 3 [qR 0 w] g M Q = q_T md d qP_X0_inNone 0 [] [qR 0 w] [] g M Q := rfl
theorem b_X0_inNone_0 : q_T md d qP_X0_inNone 0 [] ls st g M Q = q_T md d qP_X0_inNone 6 [.aload 0, .iconst (5), .invokestatic 4, .ret 0] ls st g M Q := q_T_next rfl
theorem s_X0_housed {w : Nat} {x0 : Int} : q_S md d 4 [qR 0 w, qI x0] g M Q = q_T md d qP_X0_housed 0 [] [qR 0 w, qI x0, qS 0, qS 0] [] g M Q := rfl
theorem b_X0_housed_0 : q_T md d qP_X0_housed 0 [] ls st g M Q = q_T md d qP_X0_housed 4 [.iconst (0), .istore 2, .iconst (0), .istore 3] ls st g M Q := q_T_next rfl
theorem b_X0_housed_4 : q_T md d qP_X0_housed 4 [] ls st g M Q = q_T md d qP_X0_housed 12 [.iload 3, .aload 0, .getfield 5, .if_icmp .ge (36)] ls st g M Q := q_T_next rfl
theorem b_X0_housed_12 : q_T md d qP_X0_housed 12 [] ls st g M Q = q_T md d qP_X0_housed 23 [.iload 2, .aload 0, .getfield 1, .iload 3, .iaload, .iload 1, .if_icmp .ne (27)] ls st g M Q := q_T_next rfl
theorem b_X0_housed_23 : q_T md d qP_X0_housed 23 [] ls st g M Q = q_T md d qP_X0_housed 27 [.iconst (1), .goto (28)] ls st g M Q := q_T_next rfl
theorem b_X0_housed_27 : q_T md d qP_X0_housed 27 [] ls st g M Q = q_T md d qP_X0_housed 28 [.iconst (0)] ls st g M Q := q_T_next rfl
theorem b_X0_housed_28 : q_T md d qP_X0_housed 28 [] ls st g M Q = q_T md d qP_X0_housed 36 [.iadd, .istore 2, .iinc 3 (1), .goto (4)] ls st g M Q := q_T_next rfl
theorem b_X0_housed_36 : q_T md d qP_X0_housed 36 [] ls st g M Q = q_T md d qP_X0_housed 38 [.iload 2, .ret 0] ls st g M Q := q_T_next rfl
theorem s_X0_housedBits {w : Nat} {x0 : Int} : q_S md d 5 [qR 0 w, qI x0] g M Q = q_T md d qP_X0_housedBits 0 [] [qR 0 w, qI x0, qS 0, qS 0] [] g M Q := rfl
theorem b_X0_housedBits_0 : q_T md d qP_X0_housedBits 0 [] ls st g M Q = q_T md d qP_X0_housedBits 4 [.iconst (0), .istore 2, .iconst (0), .istore 3] ls st g M Q := q_T_next rfl
theorem b_X0_housedBits_4 : q_T md d qP_X0_housedBits 4 [] ls st g M Q = q_T md d qP_X0_housedBits 12 [.iload 3, .aload 0, .getfield 5, .if_icmp .ge (38)] ls st g M Q := q_T_next rfl
theorem b_X0_housedBits_12 : q_T md d qP_X0_housedBits 12 [] ls st g M Q = q_T md d qP_X0_housedBits 23 [.iload 2, .aload 0, .getfield 1, .iload 3, .iaload, .iload 1, .if_icmp .ne (29)] ls st g M Q := q_T_next rfl
theorem b_X0_housedBits_23 : q_T md d qP_X0_housedBits 23 [] ls st g M Q = q_T md d qP_X0_housedBits 29 [.iconst (1), .iload 3, .ishl, .goto (30)] ls st g M Q := q_T_next rfl
theorem b_X0_housedBits_29 : q_T md d qP_X0_housedBits 29 [] ls st g M Q = q_T md d qP_X0_housedBits 30 [.iconst (0)] ls st g M Q := q_T_next rfl
theorem b_X0_housedBits_30 : q_T md d qP_X0_housedBits 30 [] ls st g M Q = q_T md d qP_X0_housedBits 38 [.ior, .istore 2, .iinc 3 (1), .goto (4)] ls st g M Q := q_T_next rfl
theorem b_X0_housedBits_38 : q_T md d qP_X0_housedBits 38 [] ls st g M Q = q_T md d qP_X0_housedBits 40 [.iload 2, .ret 0] ls st g M Q := q_T_next rfl
theorem s_X0_digits {w : Nat} : q_S md d 6 [qR 0 w] g M Q = q_T md d qP_X0_digits 0 [] [qR 0 w, qS 0, qS 0] [] g M Q := rfl
theorem b_X0_digits_0 : q_T md d qP_X0_digits 0 [] ls st g M Q = q_T md d qP_X0_digits 4 [.iconst (0), .istore 1, .iconst (0), .istore 2] ls st g M Q := q_T_next rfl
theorem b_X0_digits_4 : q_T md d qP_X0_digits 4 [] ls st g M Q = q_T md d qP_X0_digits 12 [.iload 2, .aload 0, .getfield 5, .if_icmp .ge (46)] ls st g M Q := q_T_next rfl
theorem b_X0_digits_12 : q_T md d qP_X0_digits 12 [] ls st g M Q = q_T md d qP_X0_digits 26 [.iconst (10), .iload 1, .imul, .aload 0, .getfield 1, .iload 2, .iaload, .iconst (5), .if_icmp .ne (30)] ls st g M Q := q_T_next rfl
theorem b_X0_digits_26 : q_T md d qP_X0_digits 26 [] ls st g M Q = q_T md d qP_X0_digits 30 [.iconst (0), .goto (38)] ls st g M Q := q_T_next rfl
theorem b_X0_digits_30 : q_T md d qP_X0_digits 30 [] ls st g M Q = q_T md d qP_X0_digits 38 [.aload 0, .getfield 1, .iload 2, .iaload, .iconst (1), .iadd] ls st g M Q := q_T_next rfl
theorem b_X0_digits_38 : q_T md d qP_X0_digits 38 [] ls st g M Q = q_T md d qP_X0_digits 46 [.iadd, .istore 1, .iinc 2 (1), .goto (4)] ls st g M Q := q_T_next rfl
theorem b_X0_digits_46 : q_T md d qP_X0_digits 46 [] ls st g M Q = q_T md d qP_X0_digits 48 [.iload 1, .ret 0] ls st g M Q := q_T_next rfl
theorem s_X0_liked {w : Nat} : q_S md d 7 [qR 0 w] g M Q = q_T md d qP_X0_liked 0 [] [qR 0 w, qS 0, qS 0] [] g M Q := rfl
theorem b_X0_liked_0 : q_T md d qP_X0_liked 0 [] ls st g M Q = q_T md d qP_X0_liked 4 [.iconst (0), .istore 1, .iconst (0), .istore 2] ls st g M Q := q_T_next rfl
theorem b_X0_liked_4 : q_T md d qP_X0_liked 4 [] ls st g M Q = q_T md d qP_X0_liked 12 [.iload 2, .aload 0, .getfield 5, .if_icmp .ge (34)] ls st g M Q := q_T_next rfl
theorem b_X0_liked_12 : q_T md d qP_X0_liked 12 [] ls st g M Q = q_T md d qP_X0_liked 34 [.iload 1, .aload 0, .getfield 2, .iload 2, .aaload, .aload 0, .getfield 1, .iload 2, .iaload, .iaload, .iadd, .istore 1, .iinc 2 (1), .goto (4)] ls st g M Q := q_T_next rfl
theorem b_X0_liked_34 : q_T md d qP_X0_liked 34 [] ls st g M Q = q_T md d qP_X0_liked 36 [.iload 1, .ret 0] ls st g M Q := q_T_next rfl
theorem s_X0_wanted {w : Nat} : q_S md d 8 [qR 0 w] g M Q = q_T md d qP_X0_wanted 0 [] [qR 0 w, qS 0, qS 0] [] g M Q := rfl
theorem b_X0_wanted_0 : q_T md d qP_X0_wanted 0 [] ls st g M Q = q_T md d qP_X0_wanted 4 [.iconst (0), .istore 1, .iconst (0), .istore 2] ls st g M Q := q_T_next rfl
theorem b_X0_wanted_4 : q_T md d qP_X0_wanted 4 [] ls st g M Q = q_T md d qP_X0_wanted 12 [.iload 2, .aload 0, .getfield 5, .if_icmp .ge (34)] ls st g M Q := q_T_next rfl
theorem b_X0_wanted_12 : q_T md d qP_X0_wanted 12 [] ls st g M Q = q_T md d qP_X0_wanted 34 [.iload 1, .aload 0, .getfield 3, .iload 2, .aaload, .aload 0, .getfield 1, .iload 2, .iaload, .iaload, .iadd, .istore 1, .iinc 2 (1), .goto (4)] ls st g M Q := q_T_next rfl
theorem b_X0_wanted_34 : q_T md d qP_X0_wanted 34 [] ls st g M Q = q_T md d qP_X0_wanted 36 [.iload 1, .ret 0] ls st g M Q := q_T_next rfl
theorem s_X0_ratherBeIn {w : Nat} {x0 : Int} {x1 : Int} {x2 : Int} : q_S md d 9 [qR 0 w, qI x0, qI x1, qI x2] g M Q = q_T md d qP_X0_ratherBeIn 0 [] [qR 0 w, qI x0, qI x1, qI x2, qS 0, qS 0] [] g M Q := rfl
theorem b_X0_ratherBeIn_0 : q_T md d qP_X0_ratherBeIn 0 [] ls st g M Q = q_T md d qP_X0_ratherBeIn 25 [.aload 0, .getfield 2, .iload 1, .aaload, .iload 2, .iaload, .istore 4, .aload 0, .getfield 2, .iload 1, .aaload, .iload 3, .iaload, .istore 5, .iload 4, .ifCond .le (48)] ls st g M Q := q_T_next rfl
theorem b_X0_ratherBeIn_25 : q_T md d qP_X0_ratherBeIn 25 [] ls st g M Q = q_T md d qP_X0_ratherBeIn 32 [.iload 4, .iload 5, .if_icmp .gt (44)] ls st g M Q := q_T_next rfl
theorem b_X0_ratherBeIn_32 : q_T md d qP_X0_ratherBeIn 32 [] ls st g M Q = q_T md d qP_X0_ratherBeIn 39 [.iload 4, .iload 5, .if_icmp .ne (48)] ls st g M Q := q_T_next rfl
theorem b_X0_ratherBeIn_39 : q_T md d qP_X0_ratherBeIn 39 [] ls st g M Q = q_T md d qP_X0_ratherBeIn 44 [.iload 2, .iload 3, .if_icmp .ge (48)] ls st g M Q := q_T_next rfl
theorem b_X0_ratherBeIn_44 : q_T md d qP_X0_ratherBeIn 44 [] ls st g M Q = q_T md d qP_X0_ratherBeIn 48 [.iconst (1), .goto (49)] ls st g M Q := q_T_next rfl
theorem b_X0_ratherBeIn_48 : q_T md d qP_X0_ratherBeIn 48 [] ls st g M Q = q_T md d qP_X0_ratherBeIn 49 [.iconst (0)] ls st g M Q := q_T_next rfl
theorem b_X0_ratherBeIn_49 : q_T md d qP_X0_ratherBeIn 49 [] ls st g M Q = q_T md d qP_X0_ratherBeIn 50 [.ret 1] ls st g M Q := q_T_next rfl
theorem s_X0_dearest {w : Nat} {x0 : Int} {x1 : Int} : q_S md d 10 [qR 0 w, qI x0, qI x1] g M Q = q_T md d qP_X0_dearest 0 [] [qR 0 w, qI x0, qI x1, qS 0, qS 0] [] g M Q := rfl
theorem b_X0_dearest_0 : q_T md d qP_X0_dearest 0 [] ls st g M Q = q_T md d qP_X0_dearest 5 [.iconst (5), .istore 3, .iconst (0), .istore 4] ls st g M Q := q_T_next rfl
theorem b_X0_dearest_5 : q_T md d qP_X0_dearest 5 [] ls st g M Q = q_T md d qP_X0_dearest 11 [.iload 4, .iconst (5), .if_icmp .ge (40)] ls st g M Q := q_T_next rfl
theorem b_X0_dearest_11 : q_T md d qP_X0_dearest 11 [] ls st g M Q = q_T md d qP_X0_dearest 20 [.iload 2, .iload 4, .ishr, .iconst (1), .iand, .ifCond .ne (34)] ls st g M Q := q_T_next rfl
theorem b_X0_dearest_20 : q_T md d qP_X0_dearest 20 [] ls st g M Q = q_T md d qP_X0_dearest 31 [.aload 0, .iload 1, .iload 4, .iload 3, .invokestatic 9, .ifCond .eq (34)] ls st g M Q := q_T_next rfl
theorem b_X0_dearest_31 : q_T md d qP_X0_dearest 31 [] ls st g M Q = q_T md d qP_X0_dearest 34 [.iload 4, .istore 3] ls st g M Q := q_T_next rfl
theorem b_X0_dearest_34 : q_T md d qP_X0_dearest 34 [] ls st g M Q = q_T md d qP_X0_dearest 40 [.iinc 4 (1), .goto (5)] ls st g M Q := q_T_next rfl
theorem b_X0_dearest_40 : q_T md d qP_X0_dearest 40 [] ls st g M Q = q_T md d qP_X0_dearest 42 [.iload 3, .ret 0] ls st g M Q := q_T_next rfl
theorem s_X0_ratherHave {w : Nat} {x0 : Int} {x1 : Int} {x2 : Int} : q_S md d 11 [qR 0 w, qI x0, qI x1, qI x2] g M Q = q_T md d qP_X0_ratherHave 0 [] [qR 0 w, qI x0, qI x1, qI x2] [] g M Q := rfl
theorem b_X0_ratherHave_0 : q_T md d qP_X0_ratherHave 0 [] ls st g M Q = q_T md d qP_X0_ratherHave 19 [.aload 0, .getfield 3, .iload 2, .aaload, .iload 1, .iaload, .aload 0, .getfield 3, .iload 3, .aaload, .iload 1, .iaload, .if_icmp .gt (43)] ls st g M Q := q_T_next rfl
theorem b_X0_ratherHave_19 : q_T md d qP_X0_ratherHave 19 [] ls st g M Q = q_T md d qP_X0_ratherHave 38 [.aload 0, .getfield 3, .iload 2, .aaload, .iload 1, .iaload, .aload 0, .getfield 3, .iload 3, .aaload, .iload 1, .iaload, .if_icmp .ne (47)] ls st g M Q := q_T_next rfl
theorem b_X0_ratherHave_38 : q_T md d qP_X0_ratherHave 38 [] ls st g M Q = q_T md d qP_X0_ratherHave 43 [.iload 2, .iload 3, .if_icmp .ge (47)] ls st g M Q := q_T_next rfl
theorem b_X0_ratherHave_43 : q_T md d qP_X0_ratherHave 43 [] ls st g M Q = q_T md d qP_X0_ratherHave 47 [.iconst (1), .goto (48)] ls st g M Q := q_T_next rfl
theorem b_X0_ratherHave_47 : q_T md d qP_X0_ratherHave 47 [] ls st g M Q = q_T md d qP_X0_ratherHave 48 [.iconst (0)] ls st g M Q := q_T_next rfl
theorem b_X0_ratherHave_48 : q_T md d qP_X0_ratherHave 48 [] ls st g M Q = q_T md d qP_X0_ratherHave 49 [.ret 1] ls st g M Q := q_T_next rfl
theorem s_X0_last {w : Nat} {x0 : Int} : q_S md d 12 [qR 0 w, qI x0] g M Q = q_T md d qP_X0_last 0 [] [qR 0 w, qI x0, qS 0, qS 0] [] g M Q := rfl
theorem b_X0_last_0 : q_T md d qP_X0_last 0 [] ls st g M Q = q_T md d qP_X0_last 4 [.iconst (5), .istore 2, .iconst (0), .istore 3] ls st g M Q := q_T_next rfl
theorem b_X0_last_4 : q_T md d qP_X0_last 4 [] ls st g M Q = q_T md d qP_X0_last 12 [.iload 3, .aload 0, .getfield 5, .if_icmp .ge (45)] ls st g M Q := q_T_next rfl
theorem b_X0_last_12 : q_T md d qP_X0_last 12 [] ls st g M Q = q_T md d qP_X0_last 22 [.aload 0, .getfield 1, .iload 3, .iaload, .iload 1, .if_icmp .ne (39)] ls st g M Q := q_T_next rfl
theorem b_X0_last_22 : q_T md d qP_X0_last 22 [] ls st g M Q = q_T md d qP_X0_last 27 [.iload 2, .iconst (5), .if_icmp .eq (37)] ls st g M Q := q_T_next rfl
theorem b_X0_last_27 : q_T md d qP_X0_last 27 [] ls st g M Q = q_T md d qP_X0_last 37 [.aload 0, .iload 1, .iload 2, .iload 3, .invokestatic 11, .ifCond .eq (39)] ls st g M Q := q_T_next rfl
theorem b_X0_last_37 : q_T md d qP_X0_last 37 [] ls st g M Q = q_T md d qP_X0_last 39 [.iload 3, .istore 2] ls st g M Q := q_T_next rfl
theorem b_X0_last_39 : q_T md d qP_X0_last 39 [] ls st g M Q = q_T md d qP_X0_last 45 [.iinc 3 (1), .goto (4)] ls st g M Q := q_T_next rfl
theorem b_X0_last_45 : q_T md d qP_X0_last 45 [] ls st g M Q = q_T md d qP_X0_last 47 [.iload 2, .ret 0] ls st g M Q := q_T_next rfl
theorem s_X0_takes {w : Nat} {x0 : Int} {x1 : Int} : q_S md d 13 [qR 0 w, qI x0, qI x1] g M Q = q_T md d qP_X0_takes 0 [] [qR 0 w, qI x0, qI x1, qS 0] [] g M Q := rfl
theorem b_X0_takes_0 : q_T md d qP_X0_takes 0 [] ls st g M Q = q_T md d qP_X0_takes 10 [.aload 0, .getfield 1, .iload 1, .iaload, .iload 2, .if_icmp .ne (12)] ls st g M Q := q_T_next rfl
theorem b_X0_takes_10 : q_T md d qP_X0_takes 10 [] ls st g M Q = q_T md d qP_X0_takes 12 [.iconst (0), .ret 1] ls st g M Q := q_T_next rfl
theorem b_X0_takes_12 : q_T md d qP_X0_takes 12 [] ls st g M Q = q_T md d qP_X0_takes 26 [.aload 0, .iload 2, .invokestatic 4, .aload 0, .getfield 0, .iload 2, .iaload, .if_icmp .ge (28)] ls st g M Q := q_T_next rfl
theorem b_X0_takes_26 : q_T md d qP_X0_takes 26 [] ls st g M Q = q_T md d qP_X0_takes 28 [.iconst (1), .ret 1] ls st g M Q := q_T_next rfl
theorem b_X0_takes_28 : q_T md d qP_X0_takes 28 [] ls st g M Q = q_T md d qP_X0_takes 39 [.aload 0, .iload 2, .invokestatic 12, .istore 3, .iload 3, .iconst (5), .if_icmp .eq (62)] ls st g M Q := q_T_next rfl
theorem b_X0_takes_39 : q_T md d qP_X0_takes 39 [] ls st g M Q = q_T md d qP_X0_takes 48 [.aload 0, .getfield 0, .iload 2, .iaload, .ifCond .le (62)] ls st g M Q := q_T_next rfl
theorem b_X0_takes_48 : q_T md d qP_X0_takes 48 [] ls st g M Q = q_T md d qP_X0_takes 58 [.aload 0, .iload 2, .iload 1, .iload 3, .invokestatic 11, .ifCond .eq (62)] ls st g M Q := q_T_next rfl
theorem b_X0_takes_58 : q_T md d qP_X0_takes 58 [] ls st g M Q = q_T md d qP_X0_takes 62 [.iconst (1), .goto (63)] ls st g M Q := q_T_next rfl
theorem b_X0_takes_62 : q_T md d qP_X0_takes 62 [] ls st g M Q = q_T md d qP_X0_takes 63 [.iconst (0)] ls st g M Q := q_T_next rfl
theorem b_X0_takes_63 : q_T md d qP_X0_takes 63 [] ls st g M Q = q_T md d qP_X0_takes 64 [.ret 1] ls st g M Q := q_T_next rfl
theorem s_X0_comeIn {w : Nat} {x0 : Int} {x1 : Int} : q_S md d 14 [qR 0 w, qI x0, qI x1] g M Q = q_T md d qP_X0_comeIn 0 [] [qR 0 w, qI x0, qI x1, qS 0] [] g M Q := rfl
theorem b_X0_comeIn_0 : q_T md d qP_X0_comeIn 0 [] ls st g M Q = q_T md d qP_X0_comeIn 14 [.aload 0, .iload 2, .invokestatic 4, .aload 0, .getfield 0, .iload 2, .iaload, .if_icmp .ge (18)] ls st g M Q := q_T_next rfl
theorem b_X0_comeIn_14 : q_T md d qP_X0_comeIn 14 [] ls st g M Q = q_T md d qP_X0_comeIn 18 [.iconst (5), .goto (23)] ls st g M Q := q_T_next rfl
theorem b_X0_comeIn_18 : q_T md d qP_X0_comeIn 18 [] ls st g M Q = q_T md d qP_X0_comeIn 23 [.aload 0, .iload 2, .invokestatic 12] ls st g M Q := q_T_next rfl
theorem b_X0_comeIn_23 : q_T md d qP_X0_comeIn 23 [] ls st g M Q = q_T md d qP_X0_comeIn 29 [.istore 3, .iload 3, .iconst (5), .if_icmp .eq (36)] ls st g M Q := q_T_next rfl
theorem b_X0_comeIn_29 : q_T md d qP_X0_comeIn 29 [] ls st g M Q = q_T md d qP_X0_comeIn 36 [.aload 0, .getfield 1, .iload 3, .iconst (5), .iastore] ls st g M Q := q_T_next rfl
theorem b_X0_comeIn_36 : q_T md d qP_X0_comeIn 36 [] ls st g M Q = q_T md d qP_X0_comeIn 45 [.aload 0, .getfield 1, .iload 1, .iload 2, .iastore, .iload 3, .ret 0] ls st g M Q := q_T_next rfl
theorem s_X0_askInTurn {w : Nat} : q_S md d 15 [qR 0 w] g M Q = q_T md d qP_X0_askInTurn 0 [] [qR 0 w, qS 0, qS 0, qS 0, qS 0] [] g M Q := rfl
theorem b_X0_askInTurn_0 : q_T md d qP_X0_askInTurn 0 [] ls st g M Q = q_T md d qP_X0_askInTurn 6 [.aload 0, .invokestatic 2, .iconst (0), .istore 1] ls st g M Q := q_T_next rfl
theorem b_X0_askInTurn_6 : q_T md d qP_X0_askInTurn 6 [] ls st g M Q = q_T md d qP_X0_askInTurn 11 [.iload 1, .iconst (5), .if_icmp .ge (24)] ls st g M Q := q_T_next rfl
theorem b_X0_askInTurn_11 : q_T md d qP_X0_askInTurn 11 [] ls st g M Q = q_T md d qP_X0_askInTurn 24 [.aload 0, .getfield 4, .iload 1, .iconst (0), .iastore, .iinc 1 (1), .goto (6)] ls st g M Q := q_T_next rfl
theorem b_X0_askInTurn_24 : q_T md d qP_X0_askInTurn 24 [] ls st g M Q = q_T md d qP_X0_askInTurn 28 [.iconst (1), .istore 1, .iconst (0), .istore 2] ls st g M Q := q_T_next rfl
theorem b_X0_askInTurn_28 : q_T md d qP_X0_askInTurn 28 [] ls st g M Q = q_T md d qP_X0_askInTurn 32 [.iload 1, .ifCond .eq (105)] ls st g M Q := q_T_next rfl
theorem b_X0_askInTurn_32 : q_T md d qP_X0_askInTurn 32 [] ls st g M Q = q_T md d qP_X0_askInTurn 39 [.iload 2, .iconst (1000), .if_icmp .ge (105)] ls st g M Q := q_T_next rfl
theorem b_X0_askInTurn_39 : q_T md d qP_X0_askInTurn 39 [] ls st g M Q = q_T md d qP_X0_askInTurn 43 [.iconst (0), .istore 1, .iconst (0), .istore 3] ls st g M Q := q_T_next rfl
theorem b_X0_askInTurn_43 : q_T md d qP_X0_askInTurn 43 [] ls st g M Q = q_T md d qP_X0_askInTurn 51 [.iload 3, .aload 0, .getfield 5, .if_icmp .ge (99)] ls st g M Q := q_T_next rfl
theorem b_X0_askInTurn_51 : q_T md d qP_X0_askInTurn 51 [] ls st g M Q = q_T md d qP_X0_askInTurn 61 [.aload 0, .getfield 1, .iload 3, .iaload, .iconst (5), .if_icmp .ne (75)] ls st g M Q := q_T_next rfl
theorem b_X0_askInTurn_61 : q_T md d qP_X0_askInTurn 61 [] ls st g M Q = q_T md d qP_X0_askInTurn 75 [.aload 0, .iload 3, .aload 0, .getfield 4, .iload 3, .iaload, .invokestatic 10, .goto (76)] ls st g M Q := q_T_next rfl
theorem b_X0_askInTurn_75 : q_T md d qP_X0_askInTurn 75 [] ls st g M Q = q_T md d qP_X0_askInTurn 76 [.iconst (5)] ls st g M Q := q_T_next rfl
theorem b_X0_askInTurn_76 : q_T md d qP_X0_askInTurn 76 [] ls st g M Q = q_T md d qP_X0_askInTurn 84 [.istore 4, .iload 4, .iconst (5), .if_icmp .eq (93)] ls st g M Q := q_T_next rfl
theorem b_X0_askInTurn_84 : q_T md d qP_X0_askInTurn 84 [] ls st g M Q = q_T md d qP_X0_askInTurn 93 [.iconst (1), .istore 1, .aload 0, .iload 3, .iload 4, .invokestatic 16] ls st g M Q := q_T_next rfl
theorem b_X0_askInTurn_93 : q_T md d qP_X0_askInTurn 93 [] ls st g M Q = q_T md d qP_X0_askInTurn 99 [.iinc 3 (1), .goto (43)] ls st g M Q := q_T_next rfl
theorem b_X0_askInTurn_99 : q_T md d qP_X0_askInTurn 99 [] ls st g M Q = q_T md d qP_X0_askInTurn 105 [.iinc 2 (1), .goto (28)] ls st g M Q := q_T_next rfl
theorem b_X0_askInTurn_105 : q_T md d qP_X0_askInTurn 105 [] ls st g M Q = q_T md d qP_X0_askInTurn 106 [.return_] ls st g M Q := q_T_next rfl
theorem s_X0_ask {w : Nat} {x0 : Int} {x1 : Int} : q_S md d 16 [qR 0 w, qI x0, qI x1] g M Q = q_T md d qP_X0_ask 0 [] [qR 0 w, qI x0, qI x1, qS 0] [] g M Q := rfl
theorem b_X0_ask_0 : q_T md d qP_X0_ask 0 [] ls st g M Q = q_T md d qP_X0_ask 9 [.aload 0, .iload 1, .iload 2, .invokestatic 13, .ifCond .eq (18)] ls st g M Q := q_T_next rfl
theorem b_X0_ask_9 : q_T md d qP_X0_ask 9 [] ls st g M Q = q_T md d qP_X0_ask 18 [.aload 0, .iload 1, .iload 2, .invokestatic 14, .goto (19)] ls st g M Q := q_T_next rfl
theorem b_X0_ask_18 : q_T md d qP_X0_ask 18 [] ls st g M Q = q_T md d qP_X0_ask 19 [.iload 1] ls st g M Q := q_T_next rfl
theorem b_X0_ask_19 : q_T md d qP_X0_ask 19 [] ls st g M Q = q_T md d qP_X0_ask 25 [.istore 3, .iload 3, .iconst (5), .if_icmp .eq (37)] ls st g M Q := q_T_next rfl
theorem b_X0_ask_25 : q_T md d qP_X0_ask 25 [] ls st g M Q = q_T md d qP_X0_ask 37 [.aload 0, .getfield 4, .iload 3, .dup2, .iaload, .iconst (1), .iload 2, .ishl, .ior, .iastore] ls st g M Q := q_T_next rfl
theorem b_X0_ask_37 : q_T md d qP_X0_ask 37 [] ls st g M Q = q_T md d qP_X0_ask 38 [.return_] ls st g M Q := q_T_next rfl
theorem s_X0_complaint {w : Nat} : q_S md d 17 [qR 0 w] g M Q = q_T md d qP_X0_complaint 0 [] [qR 0 w, qS 0, qS 0] [] g M Q := rfl
theorem b_X0_complaint_0 : q_T md d qP_X0_complaint 0 [] ls st g M Q = q_T md d qP_X0_complaint 2 [.iconst (0), .istore 1] ls st g M Q := q_T_next rfl
theorem b_X0_complaint_2 : q_T md d qP_X0_complaint 2 [] ls st g M Q = q_T md d qP_X0_complaint 10 [.iload 1, .aload 0, .getfield 5, .if_icmp .ge (94)] ls st g M Q := q_T_next rfl
theorem b_X0_complaint_10 : q_T md d qP_X0_complaint 10 [] ls st g M Q = q_T md d qP_X0_complaint 20 [.aload 0, .getfield 1, .iload 1, .iaload, .iconst (5), .if_icmp .eq (44)] ls st g M Q := q_T_next rfl
theorem b_X0_complaint_20 : q_T md d qP_X0_complaint 20 [] ls st g M Q = q_T md d qP_X0_complaint 36 [.aload 0, .getfield 2, .iload 1, .aaload, .aload 0, .getfield 1, .iload 1, .iaload, .iaload, .ifCond .gt (44)] ls st g M Q := q_T_next rfl
theorem b_X0_complaint_36 : q_T md d qP_X0_complaint 36 [] ls st g M Q = q_T md d qP_X0_complaint 44 [.iconst (10), .iload 1, .imul, .iconst (9), .iadd, .ret 0] ls st g M Q := q_T_next rfl
theorem b_X0_complaint_44 : q_T md d qP_X0_complaint 44 [] ls st g M Q = q_T md d qP_X0_complaint 46 [.iconst (0), .istore 2] ls st g M Q := q_T_next rfl
theorem b_X0_complaint_46 : q_T md d qP_X0_complaint 46 [] ls st g M Q = q_T md d qP_X0_complaint 51 [.iload 2, .iconst (5), .if_icmp .ge (88)] ls st g M Q := q_T_next rfl
theorem b_X0_complaint_51 : q_T md d qP_X0_complaint 51 [] ls st g M Q = q_T md d qP_X0_complaint 66 [.aload 0, .iload 1, .iload 2, .aload 0, .getfield 1, .iload 1, .iaload, .invokestatic 9, .ifCond .eq (82)] ls st g M Q := q_T_next rfl
theorem b_X0_complaint_66 : q_T md d qP_X0_complaint 66 [] ls st g M Q = q_T md d qP_X0_complaint 75 [.aload 0, .iload 1, .iload 2, .invokestatic 13, .ifCond .eq (82)] ls st g M Q := q_T_next rfl
theorem b_X0_complaint_75 : q_T md d qP_X0_complaint 75 [] ls st g M Q = q_T md d qP_X0_complaint 82 [.iconst (10), .iload 1, .imul, .iload 2, .iadd, .ret 0] ls st g M Q := q_T_next rfl
theorem b_X0_complaint_82 : q_T md d qP_X0_complaint 82 [] ls st g M Q = q_T md d qP_X0_complaint 88 [.iinc 2 (1), .goto (46)] ls st g M Q := q_T_next rfl
theorem b_X0_complaint_88 : q_T md d qP_X0_complaint 88 [] ls st g M Q = q_T md d qP_X0_complaint 94 [.iinc 1 (1), .goto (2)] ls st g M Q := q_T_next rfl
theorem b_X0_complaint_94 : q_T md d qP_X0_complaint 94 [] ls st g M Q = q_T md d qP_X0_complaint 96 [.iconst (-1), .ret 0] ls st g M Q := q_T_next rfl
theorem s_X0_fits {w : Nat} : q_S md d 18 [qR 0 w] g M Q = q_T md d qP_X0_fits 0 [] [qR 0 w, qS 0] [] g M Q := rfl
theorem b_X0_fits_0 : q_T md d qP_X0_fits 0 [] ls st g M Q = q_T md d qP_X0_fits 2 [.iconst (0), .istore 1] ls st g M Q := q_T_next rfl
theorem b_X0_fits_2 : q_T md d qP_X0_fits 2 [] ls st g M Q = q_T md d qP_X0_fits 7 [.iload 1, .iconst (5), .if_icmp .ge (29)] ls st g M Q := q_T_next rfl
theorem b_X0_fits_7 : q_T md d qP_X0_fits 7 [] ls st g M Q = q_T md d qP_X0_fits 21 [.aload 0, .iload 1, .invokestatic 4, .aload 0, .getfield 0, .iload 1, .iaload, .if_icmp .le (23)] ls st g M Q := q_T_next rfl
theorem b_X0_fits_21 : q_T md d qP_X0_fits 21 [] ls st g M Q = q_T md d qP_X0_fits 23 [.iconst (0), .ret 1] ls st g M Q := q_T_next rfl
theorem b_X0_fits_23 : q_T md d qP_X0_fits 23 [] ls st g M Q = q_T md d qP_X0_fits 29 [.iinc 1 (1), .goto (2)] ls st g M Q := q_T_next rfl
theorem b_X0_fits_29 : q_T md d qP_X0_fits 29 [] ls st g M Q = q_T md d qP_X0_fits 31 [.iconst (1), .ret 1] ls st g M Q := q_T_next rfl
theorem s_X0_nextWay {w : Nat} : q_S md d 19 [qR 0 w] g M Q = q_T md d qP_X0_nextWay 0 [] [qR 0 w, qS 0] [] g M Q := rfl
theorem b_X0_nextWay_0 : q_T md d qP_X0_nextWay 0 [] ls st g M Q = q_T md d qP_X0_nextWay 7 [.aload 0, .getfield 5, .iconst (1), .isub, .istore 1] ls st g M Q := q_T_next rfl
theorem b_X0_nextWay_7 : q_T md d qP_X0_nextWay 7 [] ls st g M Q = q_T md d qP_X0_nextWay 11 [.iload 1, .ifCond .lt (57)] ls st g M Q := q_T_next rfl
theorem b_X0_nextWay_11 : q_T md d qP_X0_nextWay 11 [] ls st g M Q = q_T md d qP_X0_nextWay 26 [.aload 0, .getfield 1, .iload 1, .aload 0, .getfield 1, .iload 1, .iaload, .iconst (5), .if_icmp .ne (30)] ls st g M Q := q_T_next rfl
theorem b_X0_nextWay_26 : q_T md d qP_X0_nextWay 26 [] ls st g M Q = q_T md d qP_X0_nextWay 30 [.iconst (0), .goto (38)] ls st g M Q := q_T_next rfl
theorem b_X0_nextWay_30 : q_T md d qP_X0_nextWay 30 [] ls st g M Q = q_T md d qP_X0_nextWay 38 [.aload 0, .getfield 1, .iload 1, .iaload, .iconst (1), .iadd] ls st g M Q := q_T_next rfl
theorem b_X0_nextWay_38 : q_T md d qP_X0_nextWay 38 [] ls st g M Q = q_T md d qP_X0_nextWay 49 [.iastore, .aload 0, .getfield 1, .iload 1, .iaload, .iconst (5), .if_icmp .eq (51)] ls st g M Q := q_T_next rfl
theorem b_X0_nextWay_49 : q_T md d qP_X0_nextWay 49 [] ls st g M Q = q_T md d qP_X0_nextWay 51 [.iconst (1), .ret 1] ls st g M Q := q_T_next rfl
theorem b_X0_nextWay_51 : q_T md d qP_X0_nextWay 51 [] ls st g M Q = q_T md d qP_X0_nextWay 57 [.iinc 1 (-1), .goto (7)] ls st g M Q := q_T_next rfl
theorem b_X0_nextWay_57 : q_T md d qP_X0_nextWay 57 [] ls st g M Q = q_T md d qP_X0_nextWay 59 [.iconst (0), .ret 1] ls st g M Q := q_T_next rfl
theorem s_X1_init {w : Nat} : q_S md d 20 [qR 1 w] g M Q = q_T md d qP_X1_init 0 [] [qR 1 w] [] g M Q := rfl
theorem b_X1_init_0 : q_T md d qP_X1_init 0 [] ls st g M Q = q_T md d qP_X1_init 30 [.aload 0, .monitorenter, .aload 0, .iconst (160), .newarray .int, .putfield 100, .aload 0, .iconst (160), .newarray .int, .putfield 102, .aload 0, .iconst (3), .newarray .int, .putfield 104, .return_] ls st g M Q := q_T_next rfl
theorem s_X1_clear {w : Nat} : q_S md d 21 [qR 1 w] g M Q = q_T md d qP_X1_clear 0 [] [qR 1 w] [] g M Q := rfl
theorem b_X1_clear_0 : q_T md d qP_X1_clear 0 [] ls st g M Q = q_T md d qP_X1_clear 6 [.aload 0, .iconst (0), .putfield 101, .return_] ls st g M Q := q_T_next rfl
theorem s_X1_take {w : Nat} {x0 : Int} : q_S md d 22 [qR 1 w, qI x0] g M Q = q_T md d qP_X1_take 0 [] [qR 1 w, qI x0] [] g M Q := rfl
theorem b_X1_take_0 : q_T md d qP_X1_take 0 [] ls st g M Q = q_T md d qP_X1_take 10 [.aload 0, .getfield 101, .iconst (160), .if_icmp .ge (30)] ls st g M Q := q_T_next rfl
theorem b_X1_take_10 : q_T md d qP_X1_take 10 [] ls st g M Q = q_T md d qP_X1_take 30 [.aload 0, .getfield 100, .aload 0, .getfield 101, .iload 1, .iastore, .aload 0, .dup, .getfield 101, .iconst (1), .iadd, .putfield 101] ls st g M Q := q_T_next rfl
theorem b_X1_take_30 : q_T md d qP_X1_take 30 [] ls st g M Q = q_T md d qP_X1_take 31 [.return_] ls st g M Q := q_T_next rfl
theorem s_X1_read {w : Nat} : q_S md d 23 [qR 1 w] g M Q = q_T md d qP_X1_read 0 [] [qR 1 w] [] g M Q := rfl
theorem b_X1_read_0 : q_T md d qP_X1_read 0 [] ls st g M Q = q_T md d qP_X1_read 51 [.aload 0, .iconst (0), .putfield 103, .aload 0, .iconst (-1), .putfield 109, .aload 0, .iconst (0), .putfield 108, .aload 0, .invokestatic 35, .aload 0, .iconst (0), .iconst (-5), .invokestatic 25, .aload 0, .iconst (1), .iconst (-6), .invokestatic 25, .aload 0, .iconst (2), .iconst (-7), .invokestatic 25, .aload 0, .iconst (-2), .invokestatic 26, .aload 0, .getfield 109, .ret 0] ls st g M Q := q_T_next rfl
theorem s_X1_made {w : Nat} {x0 : Int} : q_S md d 24 [qR 1 w, qI x0] g M Q = q_T md d qP_X1_made 0 [] [qR 1 w, qI x0, qS 0] [] g M Q := rfl
theorem b_X1_made_0 : q_T md d qP_X1_made 0 [] ls st g M Q = q_T md d qP_X1_made 41 [.aload 0, .getfield 103, .newarray .int, .astore 2, .aload 0, .getfield 102, .iconst (0), .aload 2, .iconst (0), .aload 0, .getfield 103, .monitorexit, .new 3, .dup, .iload 1, .aload 2, .aload 0, .getfield 104, .swap, .nop, .invokestatic 46, .areturn] ls st g M Q := q_T_next rfl
theorem s_X1_part {w : Nat} {x0 : Int} {x1 : Int} : q_S md d 25 [qR 1 w, qI x0, qI x1] g M Q = q_T md d qP_X1_part 0 [] [qR 1 w, qI x0, qI x1] [] g M Q := rfl
theorem b_X1_part_0 : q_T md d qP_X1_part 0 [] ls st g M Q = q_T md d qP_X1_part 33 [.aload 0, .iload 2, .invokestatic 26, .aload 0, .getfield 104, .iload 1, .aload 0, .getfield 103, .iastore, .aload 0, .iconst (0), .invokestatic 29, .aload 0, .iconst (59), .invokestatic 26, .aload 0, .iconst (0), .iconst (0), .invokestatic 28, .return_] ls st g M Q := q_T_next rfl
theorem s_X1_expect {w : Nat} {x0 : Int} : q_S md d 26 [qR 1 w, qI x0] g M Q = q_T md d qP_X1_expect 0 [] [qR 1 w, qI x0] [] g M Q := rfl
theorem b_X1_expect_0 : q_T md d qP_X1_expect 0 [] ls st g M Q = q_T md d qP_X1_expect 8 [.aload 0, .getfield 105, .iload 1, .if_icmp .ne (15)] ls st g M Q := q_T_next rfl
theorem b_X1_expect_8 : q_T md d qP_X1_expect 8 [] ls st g M Q = q_T md d qP_X1_expect 15 [.aload 0, .invokestatic 35, .goto (19)] ls st g M Q := q_T_next rfl
theorem b_X1_expect_15 : q_T md d qP_X1_expect 15 [] ls st g M Q = q_T md d qP_X1_expect 19 [.aload 0, .invokestatic 27] ls st g M Q := q_T_next rfl
theorem b_X1_expect_19 : q_T md d qP_X1_expect 19 [] ls st g M Q = q_T md d qP_X1_expect 20 [.return_] ls st g M Q := q_T_next rfl
theorem s_X1_fail {w : Nat} : q_S md d 27 [qR 1 w] g M Q = q_T md d qP_X1_fail 0 [] [qR 1 w] [] g M Q := rfl
theorem b_X1_fail_0 : q_T md d qP_X1_fail 0 [] ls st g M Q = q_T md d qP_X1_fail 7 [.aload 0, .getfield 109, .ifCond .ge (15)] ls st g M Q := q_T_next rfl
theorem b_X1_fail_7 : q_T md d qP_X1_fail 7 [] ls st g M Q = q_T md d qP_X1_fail 15 [.aload 0, .aload 0, .getfield 107, .putfield 109] ls st g M Q := q_T_next rfl
theorem b_X1_fail_15 : q_T md d qP_X1_fail 15 [] ls st g M Q = q_T md d qP_X1_fail 21 [.aload 0, .iconst (-1), .putfield 105, .return_] ls st g M Q := q_T_next rfl
theorem s_X1_emit {w : Nat} {x0 : Int} {x1 : Int} : q_S md d 28 [qR 1 w, qI x0, qI x1] g M Q = q_T md d qP_X1_emit 0 [] [qR 1 w, qI x0, qI x1] [] g M Q := rfl
theorem b_X1_emit_0 : q_T md d qP_X1_emit 0 [] ls st g M Q = q_T md d qP_X1_emit 12 [.aload 0, .getfield 103, .aload 0, .getfield 102, .arraylength, .if_icmp .ge (36)] ls st g M Q := q_T_next rfl
theorem b_X1_emit_12 : q_T md d qP_X1_emit 12 [] ls st g M Q = q_T md d qP_X1_emit 36 [.aload 0, .getfield 102, .aload 0, .getfield 103, .iload 2, .iconst (4), .ishl, .iload 1, .ior, .iastore, .aload 0, .dup, .getfield 103, .iconst (1), .iadd, .putfield 103] ls st g M Q := q_T_next rfl
theorem b_X1_emit_36 : q_T md d qP_X1_emit 36 [] ls st g M Q = q_T md d qP_X1_emit 37 [.return_] ls st g M Q := q_T_next rfl
theorem s_X1_either {w : Nat} {x0 : Int} : q_S md d 29 [qR 1 w, qI x0] g M Q = q_T md d qP_X1_either 0 [] [qR 1 w, qI x0, qS 0] [] g M Q := rfl
theorem b_X1_either_0 : q_T md d qP_X1_either 0 [] ls st g M Q = q_T md d qP_X1_either 7 [.aload 0, .iload 1, .invokestatic 30, .iconst (0), .istore 2] ls st g M Q := q_T_next rfl
theorem b_X1_either_7 : q_T md d qP_X1_either 7 [] ls st g M Q = q_T md d qP_X1_either 16 [.aload 0, .getfield 105, .iconst (-8), .if_icmp .ne (45)] ls st g M Q := q_T_next rfl
theorem b_X1_either_16 : q_T md d qP_X1_either 16 [] ls st g M Q = q_T md d qP_X1_either 23 [.iload 2, .iconst (160), .if_icmp .ge (45)] ls st g M Q := q_T_next rfl
theorem b_X1_either_23 : q_T md d qP_X1_either 23 [] ls st g M Q = q_T md d qP_X1_either 45 [.aload 0, .invokestatic 35, .aload 0, .iload 1, .invokestatic 30, .aload 0, .iconst (11), .iconst (0), .invokestatic 28, .iinc 2 (1), .goto (7)] ls st g M Q := q_T_next rfl
theorem b_X1_either_45 : q_T md d qP_X1_either 45 [] ls st g M Q = q_T md d qP_X1_either 46 [.return_] ls st g M Q := q_T_next rfl
theorem s_X1_both {w : Nat} {x0 : Int} : q_S md d 30 [qR 1 w, qI x0] g M Q = q_T md d qP_X1_both 0 [] [qR 1 w, qI x0, qS 0] [] g M Q := rfl
theorem b_X1_both_0 : q_T md d qP_X1_both 0 [] ls st g M Q = q_T md d qP_X1_both 7 [.aload 0, .iload 1, .invokestatic 31, .iconst (0), .istore 2] ls st g M Q := q_T_next rfl
theorem b_X1_both_7 : q_T md d qP_X1_both 7 [] ls st g M Q = q_T md d qP_X1_both 16 [.aload 0, .getfield 105, .iconst (-9), .if_icmp .ne (45)] ls st g M Q := q_T_next rfl
theorem b_X1_both_16 : q_T md d qP_X1_both 16 [] ls st g M Q = q_T md d qP_X1_both 23 [.iload 2, .iconst (160), .if_icmp .ge (45)] ls st g M Q := q_T_next rfl
theorem b_X1_both_23 : q_T md d qP_X1_both 23 [] ls st g M Q = q_T md d qP_X1_both 45 [.aload 0, .invokestatic 35, .aload 0, .iload 1, .invokestatic 31, .aload 0, .iconst (10), .iconst (0), .invokestatic 28, .iinc 2 (1), .goto (7)] ls st g M Q := q_T_next rfl
theorem b_X1_both_45 : q_T md d qP_X1_both 45 [] ls st g M Q = q_T md d qP_X1_both 46 [.return_] ls st g M Q := q_T_next rfl
theorem s_X1_not {w : Nat} {x0 : Int} : q_S md d 31 [qR 1 w, qI x0] g M Q = q_T md d qP_X1_not 0 [] [qR 1 w, qI x0, qS 0] [] g M Q := rfl
theorem b_X1_not_0 : q_T md d qP_X1_not 0 [] ls st g M Q = q_T md d qP_X1_not 9 [.aload 0, .getfield 105, .iconst (-10), .if_icmp .ne (37)] ls st g M Q := q_T_next rfl
theorem b_X1_not_9 : q_T md d qP_X1_not 9 [] ls st g M Q = q_T md d qP_X1_not 14 [.iload 1, .iconst (5), .if_icmp .lt (19)] ls st g M Q := q_T_next rfl
theorem b_X1_not_14 : q_T md d qP_X1_not 14 [] ls st g M Q = q_T md d qP_X1_not 19 [.aload 0, .invokestatic 27, .return_] ls st g M Q := q_T_next rfl
theorem b_X1_not_19 : q_T md d qP_X1_not 19 [] ls st g M Q = q_T md d qP_X1_not 37 [.aload 0, .invokestatic 35, .aload 0, .iload 1, .iconst (1), .iadd, .invokestatic 31, .aload 0, .iconst (4), .iconst (0), .invokestatic 28, .return_] ls st g M Q := q_T_next rfl
theorem b_X1_not_37 : q_T md d qP_X1_not 37 [] ls st g M Q = q_T md d qP_X1_not 51 [.aload 0, .iload 1, .invokestatic 32, .aload 0, .getfield 105, .iconst (60), .if_icmp .eq (60)] ls st g M Q := q_T_next rfl
theorem b_X1_not_51 : q_T md d qP_X1_not 51 [] ls st g M Q = q_T md d qP_X1_not 60 [.aload 0, .getfield 105, .iconst (61), .if_icmp .ne (92)] ls st g M Q := q_T_next rfl
theorem b_X1_not_60 : q_T md d qP_X1_not 60 [] ls st g M Q = q_T md d qP_X1_not 69 [.aload 0, .getfield 105, .iconst (60), .if_icmp .ne (74)] ls st g M Q := q_T_next rfl
theorem b_X1_not_69 : q_T md d qP_X1_not 69 [] ls st g M Q = q_T md d qP_X1_not 74 [.iconst (8), .goto (76)] ls st g M Q := q_T_next rfl
theorem b_X1_not_74 : q_T md d qP_X1_not 74 [] ls st g M Q = q_T md d qP_X1_not 76 [.iconst (9)] ls st g M Q := q_T_next rfl
theorem b_X1_not_76 : q_T md d qP_X1_not 76 [] ls st g M Q = q_T md d qP_X1_not 92 [.istore 2, .aload 0, .invokestatic 35, .aload 0, .iload 1, .invokestatic 32, .aload 0, .iload 2, .iconst (0), .invokestatic 28] ls st g M Q := q_T_next rfl
theorem b_X1_not_92 : q_T md d qP_X1_not 92 [] ls st g M Q = q_T md d qP_X1_not 93 [.return_] ls st g M Q := q_T_next rfl
theorem s_X1_sum {w : Nat} {x0 : Int} : q_S md d 32 [qR 1 w, qI x0] g M Q = q_T md d qP_X1_sum 0 [] [qR 1 w, qI x0, qS 0, qS 0] [] g M Q := rfl
theorem b_X1_sum_0 : q_T md d qP_X1_sum 0 [] ls st g M Q = q_T md d qP_X1_sum 7 [.aload 0, .iload 1, .invokestatic 33, .iconst (0), .istore 2] ls st g M Q := q_T_next rfl
theorem b_X1_sum_7 : q_T md d qP_X1_sum 7 [] ls st g M Q = q_T md d qP_X1_sum 16 [.aload 0, .getfield 105, .iconst (43), .if_icmp .eq (25)] ls st g M Q := q_T_next rfl
theorem b_X1_sum_16 : q_T md d qP_X1_sum 16 [] ls st g M Q = q_T md d qP_X1_sum 25 [.aload 0, .getfield 105, .iconst (45), .if_icmp .ne (70)] ls st g M Q := q_T_next rfl
theorem b_X1_sum_25 : q_T md d qP_X1_sum 25 [] ls st g M Q = q_T md d qP_X1_sum 32 [.iload 2, .iconst (160), .if_icmp .ge (70)] ls st g M Q := q_T_next rfl
theorem b_X1_sum_32 : q_T md d qP_X1_sum 32 [] ls st g M Q = q_T md d qP_X1_sum 41 [.aload 0, .getfield 105, .iconst (45), .if_icmp .ne (46)] ls st g M Q := q_T_next rfl
theorem b_X1_sum_41 : q_T md d qP_X1_sum 41 [] ls st g M Q = q_T md d qP_X1_sum 46 [.iconst (7), .goto (48)] ls st g M Q := q_T_next rfl
theorem b_X1_sum_46 : q_T md d qP_X1_sum 46 [] ls st g M Q = q_T md d qP_X1_sum 48 [.iconst (6)] ls st g M Q := q_T_next rfl
theorem b_X1_sum_48 : q_T md d qP_X1_sum 48 [] ls st g M Q = q_T md d qP_X1_sum 70 [.istore 3, .aload 0, .invokestatic 35, .aload 0, .iload 1, .invokestatic 33, .aload 0, .iload 3, .iconst (0), .invokestatic 28, .iinc 2 (1), .goto (7)] ls st g M Q := q_T_next rfl
theorem b_X1_sum_70 : q_T md d qP_X1_sum 70 [] ls st g M Q = q_T md d qP_X1_sum 71 [.return_] ls st g M Q := q_T_next rfl
theorem s_X1_term {w : Nat} {x0 : Int} : q_S md d 33 [qR 1 w, qI x0] g M Q = q_T md d qP_X1_term 0 [] [qR 1 w, qI x0, qS 0] [] g M Q := rfl
theorem b_X1_term_0 : q_T md d qP_X1_term 0 [] ls st g M Q = q_T md d qP_X1_term 7 [.aload 0, .iload 1, .invokestatic 34, .iconst (0), .istore 2] ls st g M Q := q_T_next rfl
theorem b_X1_term_7 : q_T md d qP_X1_term 7 [] ls st g M Q = q_T md d qP_X1_term 16 [.aload 0, .getfield 105, .iconst (42), .if_icmp .ne (44)] ls st g M Q := q_T_next rfl
theorem b_X1_term_16 : q_T md d qP_X1_term 16 [] ls st g M Q = q_T md d qP_X1_term 23 [.iload 2, .iconst (160), .if_icmp .ge (44)] ls st g M Q := q_T_next rfl
theorem b_X1_term_23 : q_T md d qP_X1_term 23 [] ls st g M Q = q_T md d qP_X1_term 44 [.aload 0, .invokestatic 35, .aload 0, .iload 1, .invokestatic 34, .aload 0, .iconst (5), .iconst (0), .invokestatic 28, .iinc 2 (1), .goto (7)] ls st g M Q := q_T_next rfl
theorem b_X1_term_44 : q_T md d qP_X1_term 44 [] ls st g M Q = q_T md d qP_X1_term 45 [.return_] ls st g M Q := q_T_next rfl
theorem s_X1_one {w : Nat} {x0 : Int} : q_S md d 34 [qR 1 w, qI x0] g M Q = q_T md d qP_X1_one 0 [] [qR 1 w, qI x0, qS 0] [] g M Q := rfl
theorem b_X1_one_0 : q_T md d qP_X1_one 0 [] ls st g M Q = q_T md d qP_X1_one 9 [.aload 0, .getfield 105, .iconst (-3), .if_icmp .eq (18)] ls st g M Q := q_T_next rfl
theorem b_X1_one_9 : q_T md d qP_X1_one 9 [] ls st g M Q = q_T md d qP_X1_one 18 [.aload 0, .getfield 105, .iconst (-4), .if_icmp .ne (45)] ls st g M Q := q_T_next rfl
theorem b_X1_one_18 : q_T md d qP_X1_one 18 [] ls st g M Q = q_T md d qP_X1_one 28 [.aload 0, .aload 0, .getfield 105, .iconst (-3), .if_icmp .ne (32)] ls st g M Q := q_T_next rfl
theorem b_X1_one_28 : q_T md d qP_X1_one 28 [] ls st g M Q = q_T md d qP_X1_one 32 [.iconst (1), .goto (33)] ls st g M Q := q_T_next rfl
theorem b_X1_one_32 : q_T md d qP_X1_one 32 [] ls st g M Q = q_T md d qP_X1_one 33 [.iconst (2)] ls st g M Q := q_T_next rfl
theorem b_X1_one_33 : q_T md d qP_X1_one 33 [] ls st g M Q = q_T md d qP_X1_one 45 [.aload 0, .getfield 106, .invokestatic 28, .aload 0, .invokestatic 35, .return_] ls st g M Q := q_T_next rfl
theorem b_X1_one_45 : q_T md d qP_X1_one 45 [] ls st g M Q = q_T md d qP_X1_one 54 [.aload 0, .getfield 105, .iconst (40), .if_icmp .eq (63)] ls st g M Q := q_T_next rfl
theorem b_X1_one_54 : q_T md d qP_X1_one 54 [] ls st g M Q = q_T md d qP_X1_one 63 [.aload 0, .getfield 105, .iconst (45), .if_icmp .ne (68)] ls st g M Q := q_T_next rfl
theorem b_X1_one_63 : q_T md d qP_X1_one 63 [] ls st g M Q = q_T md d qP_X1_one 68 [.iload 1, .iconst (5), .if_icmp .lt (73)] ls st g M Q := q_T_next rfl
theorem b_X1_one_68 : q_T md d qP_X1_one 68 [] ls st g M Q = q_T md d qP_X1_one 73 [.aload 0, .invokestatic 27, .return_] ls st g M Q := q_T_next rfl
theorem b_X1_one_73 : q_T md d qP_X1_one 73 [] ls st g M Q = q_T md d qP_X1_one 82 [.aload 0, .getfield 105, .iconst (45), .if_icmp .ne (86)] ls st g M Q := q_T_next rfl
theorem b_X1_one_82 : q_T md d qP_X1_one 82 [] ls st g M Q = q_T md d qP_X1_one 86 [.iconst (1), .goto (87)] ls st g M Q := q_T_next rfl
theorem b_X1_one_86 : q_T md d qP_X1_one 86 [] ls st g M Q = q_T md d qP_X1_one 87 [.iconst (0)] ls st g M Q := q_T_next rfl
theorem b_X1_one_87 : q_T md d qP_X1_one 87 [] ls st g M Q = q_T md d qP_X1_one 96 [.istore 2, .aload 0, .invokestatic 35, .iload 2, .ifCond .eq (112)] ls st g M Q := q_T_next rfl
theorem b_X1_one_96 : q_T md d qP_X1_one 96 [] ls st g M Q = q_T md d qP_X1_one 112 [.aload 0, .iload 1, .iconst (1), .iadd, .invokestatic 34, .aload 0, .iconst (3), .iconst (0), .invokestatic 28, .goto (125)] ls st g M Q := q_T_next rfl
theorem b_X1_one_112 : q_T md d qP_X1_one 112 [] ls st g M Q = q_T md d qP_X1_one 125 [.aload 0, .iload 1, .iconst (1), .iadd, .invokestatic 29, .aload 0, .iconst (41), .invokestatic 26] ls st g M Q := q_T_next rfl
theorem b_X1_one_125 : q_T md d qP_X1_one 125 [] ls st g M Q = q_T md d qP_X1_one 126 [.return_] ls st g M Q := q_T_next rfl
theorem s_X1_next {w : Nat} : q_S md d 35 [qR 1 w] g M Q = q_T md d qP_X1_next 0 [] [qR 1 w, qS 0] [] g M Q := rfl
theorem b_X1_next_0 : q_T md d qP_X1_next 0 [] ls st g M Q = q_T md d qP_X1_next 7 [.aload 0, .getfield 109, .ifCond .lt (8)] ls st g M Q := q_T_next rfl
theorem b_X1_next_7 : q_T md d qP_X1_next 7 [] ls st g M Q = q_T md d qP_X1_next 8 [.return_] ls st g M Q := q_T_next rfl
theorem b_X1_next_8 : q_T md d qP_X1_next 8 [] ls st g M Q = q_T md d qP_X1_next 16 [.aload 0, .aload 0, .getfield 108, .putfield 107] ls st g M Q := q_T_next rfl
theorem b_X1_next_16 : q_T md d qP_X1_next 16 [] ls st g M Q = q_T md d qP_X1_next 27 [.aload 0, .getfield 107, .aload 0, .getfield 101, .if_icmp .ge (68)] ls st g M Q := q_T_next rfl
theorem b_X1_next_27 : q_T md d qP_X1_next 27 [] ls st g M Q = q_T md d qP_X1_next 41 [.aload 0, .getfield 100, .aload 0, .getfield 107, .iaload, .iconst (32), .if_icmp .eq (55)] ls st g M Q := q_T_next rfl
theorem b_X1_next_41 : q_T md d qP_X1_next 41 [] ls st g M Q = q_T md d qP_X1_next 55 [.aload 0, .getfield 100, .aload 0, .getfield 107, .iaload, .iconst (10), .if_icmp .ne (68)] ls st g M Q := q_T_next rfl
theorem b_X1_next_55 : q_T md d qP_X1_next 55 [] ls st g M Q = q_T md d qP_X1_next 68 [.aload 0, .dup, .getfield 107, .iconst (1), .iadd, .putfield 107, .goto (16)] ls st g M Q := q_T_next rfl
theorem b_X1_next_68 : q_T md d qP_X1_next 68 [] ls st g M Q = q_T md d qP_X1_next 79 [.aload 0, .getfield 107, .aload 0, .getfield 101, .if_icmp .lt (94)] ls st g M Q := q_T_next rfl
theorem b_X1_next_79 : q_T md d qP_X1_next 79 [] ls st g M Q = q_T md d qP_X1_next 94 [.aload 0, .aload 0, .getfield 107, .putfield 108, .aload 0, .iconst (-2), .putfield 105, .return_] ls st g M Q := q_T_next rfl
theorem b_X1_next_94 : q_T md d qP_X1_next 94 [] ls st g M Q = q_T md d qP_X1_next 121 [.aload 0, .getfield 100, .aload 0, .getfield 107, .iaload, .istore 1, .aload 0, .aload 0, .getfield 107, .iconst (1), .iadd, .putfield 108, .iload 1, .invokestatic 39, .ifCond .eq (128)] ls st g M Q := q_T_next rfl
theorem b_X1_next_121 : q_T md d qP_X1_next 121 [] ls st g M Q = q_T md d qP_X1_next 128 [.aload 0, .invokestatic 36, .goto (158)] ls st g M Q := q_T_next rfl
theorem b_X1_next_128 : q_T md d qP_X1_next 128 [] ls st g M Q = q_T md d qP_X1_next 135 [.iload 1, .invokestatic 40, .ifCond .eq (142)] ls st g M Q := q_T_next rfl
theorem b_X1_next_135 : q_T md d qP_X1_next 135 [] ls st g M Q = q_T md d qP_X1_next 142 [.aload 0, .invokestatic 37, .goto (158)] ls st g M Q := q_T_next rfl
theorem b_X1_next_142 : q_T md d qP_X1_next 142 [] ls st g M Q = q_T md d qP_X1_next 150 [.aload 0, .iload 1, .invokestatic 41, .ifCond .eq (154)] ls st g M Q := q_T_next rfl
theorem b_X1_next_150 : q_T md d qP_X1_next 150 [] ls st g M Q = q_T md d qP_X1_next 154 [.iload 1, .goto (155)] ls st g M Q := q_T_next rfl
theorem b_X1_next_154 : q_T md d qP_X1_next 154 [] ls st g M Q = q_T md d qP_X1_next 155 [.iconst (-1)] ls st g M Q := q_T_next rfl
theorem b_X1_next_155 : q_T md d qP_X1_next 155 [] ls st g M Q = q_T md d qP_X1_next 158 [.putfield 105] ls st g M Q := q_T_next rfl
theorem b_X1_next_158 : q_T md d qP_X1_next 158 [] ls st g M Q = q_T md d qP_X1_next 159 [.return_] ls st g M Q := q_T_next rfl
theorem s_X1_word {w : Nat} : q_S md d 36 [qR 1 w] g M Q = q_T md d qP_X1_word 0 [] [qR 1 w] [] g M Q := rfl
theorem b_X1_word_0 : q_T md d qP_X1_word 0 [] ls st g M Q = q_T md d qP_X1_word 11 [.aload 0, .getfield 108, .aload 0, .getfield 101, .if_icmp .ge (39)] ls st g M Q := q_T_next rfl
theorem b_X1_word_11 : q_T md d qP_X1_word 11 [] ls st g M Q = q_T md d qP_X1_word 26 [.aload 0, .getfield 100, .aload 0, .getfield 108, .iaload, .invokestatic 39, .ifCond .eq (39)] ls st g M Q := q_T_next rfl
theorem b_X1_word_26 : q_T md d qP_X1_word 26 [] ls st g M Q = q_T md d qP_X1_word 39 [.aload 0, .dup, .getfield 108, .iconst (1), .iadd, .putfield 108, .goto (0)] ls st g M Q := q_T_next rfl
theorem b_X1_word_39 : q_T md d qP_X1_word 39 [] ls st g M Q = q_T md d qP_X1_word 128 [.aload 0, .iconst (-1), .putfield 105, .aload 0, .ldc 1, .iconst (-5), .iconst (0), .invokestatic 38, .aload 0, .ldc 2, .iconst (-6), .iconst (0), .invokestatic 38, .aload 0, .ldc 3, .iconst (-7), .iconst (0), .invokestatic 38, .aload 0, .ldc 4, .iconst (-8), .iconst (0), .invokestatic 38, .aload 0, .ldc 5, .iconst (-9), .iconst (0), .invokestatic 38, .aload 0, .ldc 6, .iconst (-10), .iconst (0), .invokestatic 38, .aload 0, .ldc 7, .iconst (-4), .iconst (0), .invokestatic 38, .aload 0, .ldc 8, .iconst (-4), .iconst (1), .invokestatic 38, .aload 0, .ldc 9, .iconst (-4), .iconst (2), .invokestatic 38, .aload 0, .ldc 10] ls st g M Q := q_T_next rfl
theorem b_X1_word_128 : q_T md d qP_X1_word 128 [] ls st g M Q = q_T md d qP_X1_word 153 [.iconst (-4), .iconst (3), .invokestatic 38, .aload 0, .ldc 11, .iconst (-4), .iconst (4), .invokestatic 38, .aload 0, .ldc 12, .iconst (-4), .iconst (5), .invokestatic 38, .return_] ls st g M Q := q_T_next rfl
theorem s_X1_number {w : Nat} : q_S md d 37 [qR 1 w] g M Q = q_T md d qP_X1_number 0 [] [qR 1 w] [] g M Q := rfl
theorem b_X1_number_0 : q_T md d qP_X1_number 0 [] ls st g M Q = q_T md d qP_X1_number 13 [.aload 0, .iconst (0), .putfield 106, .aload 0, .aload 0, .getfield 107, .putfield 108] ls st g M Q := q_T_next rfl
theorem b_X1_number_13 : q_T md d qP_X1_number 13 [] ls st g M Q = q_T md d qP_X1_number 24 [.aload 0, .getfield 108, .aload 0, .getfield 101, .if_icmp .ge (76)] ls st g M Q := q_T_next rfl
theorem b_X1_number_24 : q_T md d qP_X1_number 24 [] ls st g M Q = q_T md d qP_X1_number 39 [.aload 0, .getfield 100, .aload 0, .getfield 108, .iaload, .invokestatic 40, .ifCond .eq (76)] ls st g M Q := q_T_next rfl
theorem b_X1_number_39 : q_T md d qP_X1_number 39 [] ls st g M Q = q_T md d qP_X1_number 76 [.aload 0, .iconst (10), .aload 0, .getfield 106, .imul, .aload 0, .getfield 100, .aload 0, .getfield 108, .iaload, .iadd, .iconst (48), .isub, .putfield 106, .aload 0, .dup, .getfield 108, .iconst (1), .iadd, .putfield 108, .goto (13)] ls st g M Q := q_T_next rfl
theorem b_X1_number_76 : q_T md d qP_X1_number 76 [] ls st g M Q = q_T md d qP_X1_number 90 [.aload 0, .aload 0, .getfield 108, .aload 0, .getfield 107, .isub, .iconst (4), .if_icmp .le (94)] ls st g M Q := q_T_next rfl
theorem b_X1_number_90 : q_T md d qP_X1_number 90 [] ls st g M Q = q_T md d qP_X1_number 94 [.iconst (-1), .goto (96)] ls st g M Q := q_T_next rfl
theorem b_X1_number_94 : q_T md d qP_X1_number 94 [] ls st g M Q = q_T md d qP_X1_number 96 [.iconst (-3)] ls st g M Q := q_T_next rfl
theorem b_X1_number_96 : q_T md d qP_X1_number 96 [] ls st g M Q = q_T md d qP_X1_number 100 [.putfield 105, .return_] ls st g M Q := q_T_next rfl
theorem s_X1_mean {w : Nat} {t0 : Nat} {x1 : Int} {x2 : Int} : q_S md d 38 [qR 1 w, qS (16 + t0), qI x1, qI x2] g M Q = q_T md d qP_X1_mean 0 [] [qR 1 w, qS (16 + t0), qI x1, qI x2, qS 0, qS 0] [] g M Q := rfl
theorem b_X1_mean_0 : q_T md d qP_X1_mean 0 [] ls st g M Q = q_T md d qP_X1_mean 16 [.aload 1, .invokestatic 199, .aload 0, .getfield 108, .aload 0, .getfield 107, .isub, .if_icmp .ne (20)] ls st g M Q := q_T_next rfl
theorem b_X1_mean_16 : q_T md d qP_X1_mean 16 [] ls st g M Q = q_T md d qP_X1_mean 20 [.iconst (1), .goto (21)] ls st g M Q := q_T_next rfl
theorem b_X1_mean_20 : q_T md d qP_X1_mean 20 [] ls st g M Q = q_T md d qP_X1_mean 21 [.iconst (0)] ls st g M Q := q_T_next rfl
theorem b_X1_mean_21 : q_T md d qP_X1_mean 21 [] ls st g M Q = q_T md d qP_X1_mean 26 [.istore 4, .iconst (0), .istore 5] ls st g M Q := q_T_next rfl
theorem b_X1_mean_26 : q_T md d qP_X1_mean 26 [] ls st g M Q = q_T md d qP_X1_mean 31 [.iload 4, .ifCond .eq (74)] ls st g M Q := q_T_next rfl
theorem b_X1_mean_31 : q_T md d qP_X1_mean 31 [] ls st g M Q = q_T md d qP_X1_mean 40 [.iload 5, .aload 1, .invokestatic 199, .if_icmp .ge (74)] ls st g M Q := q_T_next rfl
theorem b_X1_mean_40 : q_T md d qP_X1_mean 40 [] ls st g M Q = q_T md d qP_X1_mean 61 [.aload 0, .getfield 100, .aload 0, .getfield 107, .iload 5, .iadd, .iaload, .aload 1, .iload 5, .invokestatic 200, .if_icmp .ne (65)] ls st g M Q := q_T_next rfl
theorem b_X1_mean_61 : q_T md d qP_X1_mean 61 [] ls st g M Q = q_T md d qP_X1_mean 65 [.iconst (1), .goto (66)] ls st g M Q := q_T_next rfl
theorem b_X1_mean_65 : q_T md d qP_X1_mean 65 [] ls st g M Q = q_T md d qP_X1_mean 66 [.iconst (0)] ls st g M Q := q_T_next rfl
theorem b_X1_mean_66 : q_T md d qP_X1_mean 66 [] ls st g M Q = q_T md d qP_X1_mean 74 [.istore 4, .iinc 5 (1), .goto (26)] ls st g M Q := q_T_next rfl
theorem b_X1_mean_74 : q_T md d qP_X1_mean 74 [] ls st g M Q = q_T md d qP_X1_mean 79 [.iload 4, .ifCond .eq (89)] ls st g M Q := q_T_next rfl
theorem b_X1_mean_79 : q_T md d qP_X1_mean 79 [] ls st g M Q = q_T md d qP_X1_mean 89 [.aload 0, .iload 2, .putfield 105, .aload 0, .iload 3, .putfield 106] ls st g M Q := q_T_next rfl
theorem b_X1_mean_89 : q_T md d qP_X1_mean 89 [] ls st g M Q = q_T md d qP_X1_mean 90 [.return_] ls st g M Q := q_T_next rfl
theorem s_X1_isLetter {x0 : Int} : q_S md d 39 [qI x0] g M Q = q_T md d qP_X1_isLetter 0 [] [qI x0] [] g M Q := rfl
theorem b_X1_isLetter_0 : q_T md d qP_X1_isLetter 0 [] ls st g M Q = q_T md d qP_X1_isLetter 6 [.iload 0, .iconst (97), .if_icmp .lt (16)] ls st g M Q := q_T_next rfl
theorem b_X1_isLetter_6 : q_T md d qP_X1_isLetter 6 [] ls st g M Q = q_T md d qP_X1_isLetter 12 [.iload 0, .iconst (122), .if_icmp .gt (16)] ls st g M Q := q_T_next rfl
theorem b_X1_isLetter_12 : q_T md d qP_X1_isLetter 12 [] ls st g M Q = q_T md d qP_X1_isLetter 16 [.iconst (1), .goto (17)] ls st g M Q := q_T_next rfl
theorem b_X1_isLetter_16 : q_T md d qP_X1_isLetter 16 [] ls st g M Q = q_T md d qP_X1_isLetter 17 [.iconst (0)] ls st g M Q := q_T_next rfl
theorem b_X1_isLetter_17 : q_T md d qP_X1_isLetter 17 [] ls st g M Q = q_T md d qP_X1_isLetter 18 [.ret 1] ls st g M Q := q_T_next rfl
theorem s_X1_isDigit {x0 : Int} : q_S md d 40 [qI x0] g M Q = q_T md d qP_X1_isDigit 0 [] [qI x0] [] g M Q := rfl
theorem b_X1_isDigit_0 : q_T md d qP_X1_isDigit 0 [] ls st g M Q = q_T md d qP_X1_isDigit 6 [.iload 0, .iconst (48), .if_icmp .lt (16)] ls st g M Q := q_T_next rfl
theorem b_X1_isDigit_6 : q_T md d qP_X1_isDigit 6 [] ls st g M Q = q_T md d qP_X1_isDigit 12 [.iload 0, .iconst (57), .if_icmp .gt (16)] ls st g M Q := q_T_next rfl
theorem b_X1_isDigit_12 : q_T md d qP_X1_isDigit 12 [] ls st g M Q = q_T md d qP_X1_isDigit 16 [.iconst (1), .goto (17)] ls st g M Q := q_T_next rfl
theorem b_X1_isDigit_16 : q_T md d qP_X1_isDigit 16 [] ls st g M Q = q_T md d qP_X1_isDigit 17 [.iconst (0)] ls st g M Q := q_T_next rfl
theorem b_X1_isDigit_17 : q_T md d qP_X1_isDigit 17 [] ls st g M Q = q_T md d qP_X1_isDigit 18 [.ret 1] ls st g M Q := q_T_next rfl
theorem s_X1_isSign {x0 : Int} : q_S md d 41 [qI x0] g M Q = q_T md d qP_X1_isSign 0 [] [qI x0] [] g M Q := rfl
theorem b_X1_isSign_0 : q_T md d qP_X1_isSign 0 [] ls st g M Q = q_T md d qP_X1_isSign 6 [.iload 0, .iconst (40), .if_icmp .eq (48)] ls st g M Q := q_T_next rfl
theorem b_X1_isSign_6 : q_T md d qP_X1_isSign 6 [] ls st g M Q = q_T md d qP_X1_isSign 12 [.iload 0, .iconst (41), .if_icmp .eq (48)] ls st g M Q := q_T_next rfl
theorem b_X1_isSign_12 : q_T md d qP_X1_isSign 12 [] ls st g M Q = q_T md d qP_X1_isSign 18 [.iload 0, .iconst (59), .if_icmp .eq (48)] ls st g M Q := q_T_next rfl
theorem b_X1_isSign_18 : q_T md d qP_X1_isSign 18 [] ls st g M Q = q_T md d qP_X1_isSign 24 [.iload 0, .iconst (43), .if_icmp .eq (48)] ls st g M Q := q_T_next rfl
theorem b_X1_isSign_24 : q_T md d qP_X1_isSign 24 [] ls st g M Q = q_T md d qP_X1_isSign 30 [.iload 0, .iconst (45), .if_icmp .eq (48)] ls st g M Q := q_T_next rfl
theorem b_X1_isSign_30 : q_T md d qP_X1_isSign 30 [] ls st g M Q = q_T md d qP_X1_isSign 36 [.iload 0, .iconst (42), .if_icmp .eq (48)] ls st g M Q := q_T_next rfl
theorem b_X1_isSign_36 : q_T md d qP_X1_isSign 36 [] ls st g M Q = q_T md d qP_X1_isSign 42 [.iload 0, .iconst (60), .if_icmp .eq (48)] ls st g M Q := q_T_next rfl
theorem b_X1_isSign_42 : q_T md d qP_X1_isSign 42 [] ls st g M Q = q_T md d qP_X1_isSign 48 [.iload 0, .iconst (61), .if_icmp .ne (52)] ls st g M Q := q_T_next rfl
theorem b_X1_isSign_48 : q_T md d qP_X1_isSign 48 [] ls st g M Q = q_T md d qP_X1_isSign 52 [.iconst (1), .goto (53)] ls st g M Q := q_T_next rfl
theorem b_X1_isSign_52 : q_T md d qP_X1_isSign 52 [] ls st g M Q = q_T md d qP_X1_isSign 53 [.iconst (0)] ls st g M Q := q_T_next rfl
theorem b_X1_isSign_53 : q_T md d qP_X1_isSign 53 [] ls st g M Q = q_T md d qP_X1_isSign 54 [.ret 1] ls st g M Q := q_T_next rfl
theorem s_X2_init {w : Nat} : q_S md d 42 [qR 2 w] g M Q = q_T md d qP_X2_init 0 [] [qR 2 w] [] g M Q := rfl
theorem b_X2_init_0 : q_T md d qP_X2_init 0 [] ls st g M Q = q_T md d qP_X2_init 18 [.aload 0, .monitorenter, .aload 0, .iconst (40), .newarray .int, .putfield 200, .aload 0, .iconst (-1), .putfield 201, .return_] ls st g M Q := q_T_next rfl
theorem s_X2_isMissing {w : Nat} : q_S md d 43 [qR 2 w] g M Q = q_T md d qP_X2_isMissing 0 [] [qR 2 w] [] g M Q := rfl
theorem b_X2_isMissing_0 : q_T md d qP_X2_isMissing 0 [] ls st g M Q = q_T md d qP_X2_isMissing 8 [.aload 0, .getfield 201, .iconst (-1), .if_icmp .ne (12)] ls st g M Q := q_T_next rfl
theorem b_X2_isMissing_8 : q_T md d qP_X2_isMissing 8 [] ls st g M Q = q_T md d qP_X2_isMissing 12 [.iconst (1), .goto (13)] ls st g M Q := q_T_next rfl
theorem b_X2_isMissing_12 : q_T md d qP_X2_isMissing 12 [] ls st g M Q = q_T md d qP_X2_isMissing 13 [.iconst (0)] ls st g M Q := q_T_next rfl
theorem b_X2_isMissing_13 : q_T md d qP_X2_isMissing 13 [] ls st g M Q = q_T md d qP_X2_isMissing 14 [.ret 1] ls st g M Q := q_T_next rfl
theorem s_X2_become {w : Nat} {x0 : Int} {x1 : Int} : q_S md d 44 [qR 2 w, qI x0, qI x1] g M Q = q_T md d qP_X2_become 0 [] [qR 2 w, qI x0, qI x1, qS 0] [] g M Q := rfl
theorem b_X2_become_0 : q_T md d qP_X2_become 0 [] ls st g M Q = q_T md d qP_X2_become 12 [.aload 0, .iload 1, .putfield 201, .aload 0, .iload 2, .putfield 202, .iconst (0), .istore 3] ls st g M Q := q_T_next rfl
theorem b_X2_become_12 : q_T md d qP_X2_become 12 [] ls st g M Q = q_T md d qP_X2_become 18 [.iload 3, .iconst (40), .if_icmp .ge (31)] ls st g M Q := q_T_next rfl
theorem b_X2_become_18 : q_T md d qP_X2_become 18 [] ls st g M Q = q_T md d qP_X2_become 31 [.aload 0, .getfield 200, .iload 3, .iconst (0), .iastore, .iinc 3 (1), .goto (12)] ls st g M Q := q_T_next rfl
theorem b_X2_become_31 : q_T md d qP_X2_become 31 [] ls st g M Q = q_T md d qP_X2_become 32 [.return_] ls st g M Q := q_T_next rfl
theorem s_X2_write {w : Nat} {x0 : Int} {x1 : Int} : q_S md d 45 [qR 2 w, qI x0, qI x1] g M Q = q_T md d qP_X2_write 0 [] [qR 2 w, qI x0, qI x1] [] g M Q := rfl
theorem b_X2_write_0 : q_T md d qP_X2_write 0 [] ls st g M Q = q_T md d qP_X2_write 4 [.iload 1, .ifCond .lt (44)] ls st g M Q := q_T_next rfl
theorem b_X2_write_4 : q_T md d qP_X2_write 4 [] ls st g M Q = q_T md d qP_X2_write 12 [.iload 1, .aload 0, .getfield 202, .if_icmp .ge (44)] ls st g M Q := q_T_next rfl
theorem b_X2_write_12 : q_T md d qP_X2_write 12 [] ls st g M Q = q_T md d qP_X2_write 24 [.aload 0, .getfield 200, .iload 1, .aload 0, .getfield 201, .ifCond .ne (29)] ls st g M Q := q_T_next rfl
theorem b_X2_write_24 : q_T md d qP_X2_write 24 [] ls st g M Q = q_T md d qP_X2_write 29 [.iload 2, .i2b, .goto (43)] ls st g M Q := q_T_next rfl
theorem b_X2_write_29 : q_T md d qP_X2_write 29 [] ls st g M Q = q_T md d qP_X2_write 37 [.aload 0, .getfield 201, .iconst (1), .if_icmp .ne (42)] ls st g M Q := q_T_next rfl
theorem b_X2_write_37 : q_T md d qP_X2_write 37 [] ls st g M Q = q_T md d qP_X2_write 42 [.iload 2, .i2s, .goto (43)] ls st g M Q := q_T_next rfl
theorem b_X2_write_42 : q_T md d qP_X2_write 42 [] ls st g M Q = q_T md d qP_X2_write 43 [.iload 2] ls st g M Q := q_T_next rfl
theorem b_X2_write_43 : q_T md d qP_X2_write 43 [] ls st g M Q = q_T md d qP_X2_write 44 [.iastore] ls st g M Q := q_T_next rfl
theorem b_X2_write_44 : q_T md d qP_X2_write 44 [] ls st g M Q = q_T md d qP_X2_write 45 [.return_] ls st g M Q := q_T_next rfl
theorem s_X3_init {w : Nat} {x0 : Int} {k1 y1 : Nat} {k2 y2 : Nat} : q_S md d 46 [qR 3 w, qI x0, qR k1 y1, qR k2 y2] g M Q = q_T md d qP_X3_init 0 [] [qR 3 w, qI x0, qR k1 y1, qR k2 y2] [] g M Q := rfl
theorem b_X3_init_0 : q_T md d qP_X3_init 0 [] ls st g M Q = q_T md d qP_X3_init 28 [.aload 0, .monitorenter, .aload 0, .iconst (40), .newarray .int, .putfield 303, .aload 0, .iload 1, .putfield 300, .aload 0, .aload 2, .putfield 301, .aload 0, .aload 3, .putfield 302, .return_] ls st g M Q := q_T_next rfl
theorem s_X3_value {w : Nat} {x0 : Int} {k1 y1 : Nat} : q_S md d 47 [qR 3 w, qI x0, qR k1 y1] g M Q = q_T md d qP_X3_value 0 [] [qR 3 w, qI x0, qR k1 y1, qS 0, qS 0, qS 0, qS 0, qS 0, qS 0, qS 0] [] g M Q := rfl
theorem b_X3_value_0 : q_T md d qP_X3_value 0 [] ls st g M Q = q_T md d qP_X3_value 10 [.iconst (1), .istore 3, .aload 0, .getfield 302, .iload 1, .iaload, .istore 4] ls st g M Q := q_T_next rfl
theorem b_X3_value_10 : q_T md d qP_X3_value 10 [] ls st g M Q = q_T md d qP_X3_value 20 [.iload 4, .aload 0, .getfield 301, .arraylength, .if_icmp .ge (339)] ls st g M Q := q_T_next rfl
theorem b_X3_value_20 : q_T md d qP_X3_value 20 [] ls st g M Q = q_T md d qP_X3_value 48 [.aload 0, .getfield 301, .iload 4, .iaload, .iconst (15), .iand, .istore 5, .aload 0, .getfield 301, .iload 4, .iaload, .iconst (4), .ishr, .istore 6, .iload 5, .ifCond .ne (51)] ls st g M Q := q_T_next rfl
theorem b_X3_value_48 : q_T md d qP_X3_value 48 [] ls st g M Q = q_T md d qP_X3_value 51 [.goto (339)] ls st g M Q := q_T_next rfl
theorem b_X3_value_51 : q_T md d qP_X3_value 51 [] ls st g M Q = q_T md d qP_X3_value 57 [.iload 5, .iconst (1), .if_icmp .eq (63)] ls st g M Q := q_T_next rfl
theorem b_X3_value_57 : q_T md d qP_X3_value 57 [] ls st g M Q = q_T md d qP_X3_value 63 [.iload 5, .iconst (2), .if_icmp .ne (98)] ls st g M Q := q_T_next rfl
theorem b_X3_value_63 : q_T md d qP_X3_value 63 [] ls st g M Q = q_T md d qP_X3_value 69 [.iload 3, .iconst (39), .if_icmp .lt (71)] ls st g M Q := q_T_next rfl
theorem b_X3_value_69 : q_T md d qP_X3_value 69 [] ls st g M Q = q_T md d qP_X3_value 71 [.iconst (0), .ret 0] ls st g M Q := q_T_next rfl
theorem b_X3_value_71 : q_T md d qP_X3_value 71 [] ls st g M Q = q_T md d qP_X3_value 85 [.iinc 3 (1), .aload 0, .getfield 303, .iload 3, .iload 5, .iconst (1), .if_icmp .ne (90)] ls st g M Q := q_T_next rfl
theorem b_X3_value_85 : q_T md d qP_X3_value 85 [] ls st g M Q = q_T md d qP_X3_value 90 [.iload 6, .goto (94)] ls st g M Q := q_T_next rfl
theorem b_X3_value_90 : q_T md d qP_X3_value 90 [] ls st g M Q = q_T md d qP_X3_value 94 [.aload 2, .iload 6, .iaload] ls st g M Q := q_T_next rfl
theorem b_X3_value_94 : q_T md d qP_X3_value 94 [] ls st g M Q = q_T md d qP_X3_value 98 [.iastore, .goto (333)] ls st g M Q := q_T_next rfl
theorem b_X3_value_98 : q_T md d qP_X3_value 98 [] ls st g M Q = q_T md d qP_X3_value 104 [.iload 5, .iconst (3), .if_icmp .eq (110)] ls st g M Q := q_T_next rfl
theorem b_X3_value_104 : q_T md d qP_X3_value 104 [] ls st g M Q = q_T md d qP_X3_value 110 [.iload 5, .iconst (4), .if_icmp .ne (156)] ls st g M Q := q_T_next rfl
theorem b_X3_value_110 : q_T md d qP_X3_value 110 [] ls st g M Q = q_T md d qP_X3_value 115 [.iload 3, .iconst (2), .if_icmp .ge (117)] ls st g M Q := q_T_next rfl
theorem b_X3_value_115 : q_T md d qP_X3_value 115 [] ls st g M Q = q_T md d qP_X3_value 117 [.iconst (0), .ret 0] ls st g M Q := q_T_next rfl
theorem b_X3_value_117 : q_T md d qP_X3_value 117 [] ls st g M Q = q_T md d qP_X3_value 136 [.aload 0, .getfield 303, .iload 3, .iaload, .istore 7, .aload 0, .getfield 303, .iload 3, .iload 5, .iconst (3), .if_icmp .ne (142)] ls st g M Q := q_T_next rfl
theorem b_X3_value_136 : q_T md d qP_X3_value 136 [] ls st g M Q = q_T md d qP_X3_value 142 [.iload 7, .ineg, .goto (152)] ls st g M Q := q_T_next rfl
theorem b_X3_value_142 : q_T md d qP_X3_value 142 [] ls st g M Q = q_T md d qP_X3_value 147 [.iload 7, .ifCond .ne (151)] ls st g M Q := q_T_next rfl
theorem b_X3_value_147 : q_T md d qP_X3_value 147 [] ls st g M Q = q_T md d qP_X3_value 151 [.iconst (1), .goto (152)] ls st g M Q := q_T_next rfl
theorem b_X3_value_151 : q_T md d qP_X3_value 151 [] ls st g M Q = q_T md d qP_X3_value 152 [.iconst (0)] ls st g M Q := q_T_next rfl
theorem b_X3_value_152 : q_T md d qP_X3_value 152 [] ls st g M Q = q_T md d qP_X3_value 156 [.iastore, .goto (333)] ls st g M Q := q_T_next rfl
theorem b_X3_value_156 : q_T md d qP_X3_value 156 [] ls st g M Q = q_T md d qP_X3_value 161 [.iload 3, .iconst (3), .if_icmp .ge (163)] ls st g M Q := q_T_next rfl
theorem b_X3_value_161 : q_T md d qP_X3_value 161 [] ls st g M Q = q_T md d qP_X3_value 163 [.iconst (0), .ret 0] ls st g M Q := q_T_next rfl
theorem b_X3_value_163 : q_T md d qP_X3_value 163 [] ls st g M Q = q_T md d qP_X3_value 224 [.iinc 3 (-1), .aload 0, .getfield 303, .iload 3, .iaload, .istore 7, .aload 0, .getfield 303, .iload 3, .iconst (1), .iadd, .iaload, .istore 8, .iload 5, .tableswitch (308) (5) (10) #[224, 234, 244, 254, 271, 288]] ls st g M Q := q_T_next rfl
theorem b_X3_value_224 : q_T md d qP_X3_value 224 [] ls st g M Q = q_T md d qP_X3_value 234 [.iload 7, .iload 8, .imul, .istore 9, .goto (325)] ls st g M Q := q_T_next rfl
theorem b_X3_value_234 : q_T md d qP_X3_value 234 [] ls st g M Q = q_T md d qP_X3_value 244 [.iload 7, .iload 8, .iadd, .istore 9, .goto (325)] ls st g M Q := q_T_next rfl
theorem b_X3_value_244 : q_T md d qP_X3_value 244 [] ls st g M Q = q_T md d qP_X3_value 254 [.iload 7, .iload 8, .isub, .istore 9, .goto (325)] ls st g M Q := q_T_next rfl
theorem b_X3_value_254 : q_T md d qP_X3_value 254 [] ls st g M Q = q_T md d qP_X3_value 261 [.iload 7, .iload 8, .if_icmp .ge (265)] ls st g M Q := q_T_next rfl
theorem b_X3_value_261 : q_T md d qP_X3_value 261 [] ls st g M Q = q_T md d qP_X3_value 265 [.iconst (1), .goto (266)] ls st g M Q := q_T_next rfl
theorem b_X3_value_265 : q_T md d qP_X3_value 265 [] ls st g M Q = q_T md d qP_X3_value 266 [.iconst (0)] ls st g M Q := q_T_next rfl
theorem b_X3_value_266 : q_T md d qP_X3_value 266 [] ls st g M Q = q_T md d qP_X3_value 271 [.istore 9, .goto (325)] ls st g M Q := q_T_next rfl
theorem b_X3_value_271 : q_T md d qP_X3_value 271 [] ls st g M Q = q_T md d qP_X3_value 278 [.iload 7, .iload 8, .if_icmp .ne (282)] ls st g M Q := q_T_next rfl
theorem b_X3_value_278 : q_T md d qP_X3_value 278 [] ls st g M Q = q_T md d qP_X3_value 282 [.iconst (1), .goto (283)] ls st g M Q := q_T_next rfl
theorem b_X3_value_282 : q_T md d qP_X3_value 282 [] ls st g M Q = q_T md d qP_X3_value 283 [.iconst (0)] ls st g M Q := q_T_next rfl
theorem b_X3_value_283 : q_T md d qP_X3_value 283 [] ls st g M Q = q_T md d qP_X3_value 288 [.istore 9, .goto (325)] ls st g M Q := q_T_next rfl
theorem b_X3_value_288 : q_T md d qP_X3_value 288 [] ls st g M Q = q_T md d qP_X3_value 293 [.iload 7, .ifCond .eq (302)] ls st g M Q := q_T_next rfl
theorem b_X3_value_293 : q_T md d qP_X3_value 293 [] ls st g M Q = q_T md d qP_X3_value 298 [.iload 8, .ifCond .eq (302)] ls st g M Q := q_T_next rfl
theorem b_X3_value_298 : q_T md d qP_X3_value 298 [] ls st g M Q = q_T md d qP_X3_value 302 [.iconst (1), .goto (303)] ls st g M Q := q_T_next rfl
theorem b_X3_value_302 : q_T md d qP_X3_value 302 [] ls st g M Q = q_T md d qP_X3_value 303 [.iconst (0)] ls st g M Q := q_T_next rfl
theorem b_X3_value_303 : q_T md d qP_X3_value 303 [] ls st g M Q = q_T md d qP_X3_value 308 [.istore 9, .goto (325)] ls st g M Q := q_T_next rfl
theorem b_X3_value_308 : q_T md d qP_X3_value 308 [] ls st g M Q = q_T md d qP_X3_value 313 [.iload 7, .ifCond .ne (318)] ls st g M Q := q_T_next rfl
theorem b_X3_value_313 : q_T md d qP_X3_value 313 [] ls st g M Q = q_T md d qP_X3_value 318 [.iload 8, .ifCond .eq (322)] ls st g M Q := q_T_next rfl
theorem b_X3_value_318 : q_T md d qP_X3_value 318 [] ls st g M Q = q_T md d qP_X3_value 322 [.iconst (1), .goto (323)] ls st g M Q := q_T_next rfl
theorem b_X3_value_322 : q_T md d qP_X3_value 322 [] ls st g M Q = q_T md d qP_X3_value 323 [.iconst (0)] ls st g M Q := q_T_next rfl
theorem b_X3_value_323 : q_T md d qP_X3_value 323 [] ls st g M Q = q_T md d qP_X3_value 325 [.istore 9] ls st g M Q := q_T_next rfl
theorem b_X3_value_325 : q_T md d qP_X3_value 325 [] ls st g M Q = q_T md d qP_X3_value 333 [.aload 0, .getfield 303, .iload 3, .iload 9, .iastore] ls st g M Q := q_T_next rfl
theorem b_X3_value_333 : q_T md d qP_X3_value 333 [] ls st g M Q = q_T md d qP_X3_value 339 [.iinc 4 (1), .goto (10)] ls st g M Q := q_T_next rfl
theorem b_X3_value_339 : q_T md d qP_X3_value 339 [] ls st g M Q = q_T md d qP_X3_value 344 [.iload 3, .iconst (2), .if_icmp .ge (348)] ls st g M Q := q_T_next rfl
theorem b_X3_value_344 : q_T md d qP_X3_value 344 [] ls st g M Q = q_T md d qP_X3_value 348 [.iconst (0), .goto (354)] ls st g M Q := q_T_next rfl
theorem b_X3_value_348 : q_T md d qP_X3_value 348 [] ls st g M Q = q_T md d qP_X3_value 354 [.aload 0, .getfield 303, .iload 3, .iaload] ls st g M Q := q_T_next rfl
theorem b_X3_value_354 : q_T md d qP_X3_value 354 [] ls st g M Q = q_T md d qP_X3_value 355 [.ret 0] ls st g M Q := q_T_next rfl
theorem s_X4_init {w : Nat} {k0 y0 : Nat} : q_S md d 48 [qR 4 w, qR k0 y0] g M Q = q_T md d qP_X4_init 0 [] [qR 4 w, qR k0 y0, qS 0] [] g M Q := rfl
theorem b_X4_init_0 : q_T md d qP_X4_init 0 [] ls st g M Q = q_T md d qP_X4_init 86 [.aload 0, .monitorenter, .aload 0, .new 0, .dup, .invokestatic 0, .putfield 400, .aload 0, .iconst (6), .newarray .int, .putfield 401, .aload 0, .iconst (6), .newarray .int, .putfield 402, .aload 0, .iconst (6), .newarray .int, .putfield 403, .aload 0, .iconst (6), .newarray .int, .putfield 404, .aload 0, .iconst (6), .newarray .int, .putfield 405, .aload 0, .iconst (6), .newarray .int, .putfield 406, .aload 0, .iconst (6), .newarray .int, .putfield 407, .aload 0, .iconst (6), .newarray .int, .putfield 408, .aload 0, .aload 1, .putfield 410, .iconst (0), .istore 2] ls st g M Q := q_T_next rfl
theorem b_X4_init_86 : q_T md d qP_X4_init 86 [] ls st g M Q = q_T md d qP_X4_init 91 [.iload 2, .iconst (5), .if_icmp .ge (107)] ls st g M Q := q_T_next rfl
theorem b_X4_init_91 : q_T md d qP_X4_init 91 [] ls st g M Q = q_T md d qP_X4_init 107 [.aload 0, .getfield 401, .iload 2, .iconst (20), .iload 2, .imul, .iastore, .iinc 2 (1), .goto (86)] ls st g M Q := q_T_next rfl
theorem b_X4_init_107 : q_T md d qP_X4_init 107 [] ls st g M Q = q_T md d qP_X4_init 108 [.return_] ls st g M Q := q_T_next rfl
theorem s_X4_copyFrom {w : Nat} {k0 y0 : Nat} : q_S md d 49 [qR 4 w, qR k0 y0] g M Q = q_T md d qP_X4_copyFrom 0 [] [qR 4 w, qR k0 y0] [] g M Q := rfl
theorem b_X4_copyFrom_0 : q_T md d qP_X4_copyFrom 0 [] ls st g M Q = q_T md d qP_X4_copyFrom 90 [.aload 0, .getfield 400, .aload 1, .getfield 400, .invokestatic 1, .aload 1, .getfield 401, .iconst (0), .aload 0, .getfield 401, .iconst (0), .iconst (5), .monitorexit, .aload 1, .getfield 402, .iconst (0), .aload 0, .getfield 402, .iconst (0), .iconst (5), .monitorexit, .aload 1, .getfield 403, .iconst (0), .aload 0, .getfield 403, .iconst (0), .iconst (5), .monitorexit, .aload 1, .getfield 404, .iconst (0), .aload 0, .getfield 404, .iconst (0), .iconst (5), .monitorexit, .aload 1, .getfield 405, .iconst (0), .aload 0, .getfield 405, .iconst (0), .iconst (5), .monitorexit, .aload 1, .getfield 406, .iconst (0), .aload 0, .getfield 406] ls st g M Q := q_T_next rfl
theorem b_X4_copyFrom_90 : q_T md d qP_X4_copyFrom 90 [] ls st g M Q = q_T md d qP_X4_copyFrom 126 [.iconst (0), .iconst (5), .monitorexit, .aload 1, .getfield 407, .iconst (0), .aload 0, .getfield 407, .iconst (0), .iconst (5), .monitorexit, .aload 0, .aload 1, .getfield 409, .putfield 409, .aload 0, .aload 1, .getfield 410, .putfield 410, .return_] ls st g M Q := q_T_next rfl
theorem s_X4_add {w : Nat} {x0 : Int} {x1 : Int} {x2 : Int} : q_S md d 50 [qR 4 w, qI x0, qI x1, qI x2] g M Q = q_T md d qP_X4_add 0 [] [qR 4 w, qI x0, qI x1, qI x2, qS 0] [] g M Q := rfl
theorem b_X4_add_0 : q_T md d qP_X4_add 0 [] ls st g M Q = q_T md d qP_X4_add 15 [.aload 0, .getfield 400, .getfield 5, .istore 4, .iload 4, .iconst (5), .if_icmp .lt (18)] ls st g M Q := q_T_next rfl
theorem b_X4_add_15 : q_T md d qP_X4_add 15 [] ls st g M Q = q_T md d qP_X4_add 18 [.iconst (-4), .ret 0] ls st g M Q := q_T_next rfl
theorem b_X4_add_18 : q_T md d qP_X4_add 18 [] ls st g M Q = q_T md d qP_X4_add 81 [.aload 0, .getfield 404, .iload 4, .iload 1, .iconst (10), .idiv, .iastore, .aload 0, .getfield 405, .iload 4, .iload 1, .iconst (10), .irem, .iastore, .aload 0, .getfield 406, .iload 4, .iload 2, .iastore, .aload 0, .getfield 407, .iload 4, .iload 3, .iastore, .aload 0, .getfield 400, .getfield 1, .iload 4, .iconst (5), .iastore, .aload 0, .getfield 400, .iload 4, .iconst (1), .iadd, .putfield 5, .iload 4, .ret 0] ls st g M Q := q_T_next rfl
theorem s_X4_lay {w : Nat} {x0 : Int} {x1 : Int} : q_S md d 51 [qR 4 w, qI x0, qI x1] g M Q = q_T md d qP_X4_lay 0 [] [qR 4 w, qI x0, qI x1] [] g M Q := rfl
theorem b_X4_lay_0 : q_T md d qP_X4_lay 0 [] ls st g M Q = q_T md d qP_X4_lay 18 [.aload 0, .getfield 406, .iload 1, .iload 2, .iastore, .aload 0, .getfield 400, .getfield 1, .iload 1, .iconst (5), .iastore, .return_] ls st g M Q := q_T_next rfl
theorem s_X4_move {w : Nat} {x0 : Int} {x1 : Int} : q_S md d 52 [qR 4 w, qI x0, qI x1] g M Q = q_T md d qP_X4_move 0 [] [qR 4 w, qI x0, qI x1, qS 0] [] g M Q := rfl
theorem b_X4_move_0 : q_T md d qP_X4_move 0 [] ls st g M Q = q_T md d qP_X4_move 9 [.aload 0, .getfield 401, .iload 1, .iload 2, .iastore, .iconst (0), .istore 3] ls st g M Q := q_T_next rfl
theorem b_X4_move_9 : q_T md d qP_X4_move 9 [] ls st g M Q = q_T md d qP_X4_move 20 [.iload 3, .aload 0, .getfield 400, .getfield 5, .if_icmp .ge (46)] ls st g M Q := q_T_next rfl
theorem b_X4_move_20 : q_T md d qP_X4_move 20 [] ls st g M Q = q_T md d qP_X4_move 33 [.aload 0, .getfield 400, .getfield 1, .iload 3, .iaload, .iload 1, .if_icmp .ne (40)] ls st g M Q := q_T_next rfl
theorem b_X4_move_33 : q_T md d qP_X4_move 33 [] ls st g M Q = q_T md d qP_X4_move 40 [.aload 0, .getfield 406, .iload 3, .iload 2, .iastore] ls st g M Q := q_T_next rfl
theorem b_X4_move_40 : q_T md d qP_X4_move 40 [] ls st g M Q = q_T md d qP_X4_move 46 [.iinc 3 (1), .goto (9)] ls st g M Q := q_T_next rfl
theorem b_X4_move_46 : q_T md d qP_X4_move 46 [] ls st g M Q = q_T md d qP_X4_move 47 [.return_] ls st g M Q := q_T_next rfl
theorem s_X4_says {w : Nat} {x0 : Int} {x1 : Int} {x2 : Int} : q_S md d 53 [qR 4 w, qI x0, qI x1, qI x2] g M Q = q_T md d qP_X4_says 0 [] [qR 4 w, qI x0, qI x1, qI x2, qS 0] [] g M Q := rfl
theorem b_X4_says_0 : q_T md d qP_X4_says 0 [] ls st g M Q = q_T md d qP_X4_says 10 [.aload 0, .getfield 408, .iconst (0), .iload 3, .iconst (5), .if_icmp .ne (14)] ls st g M Q := q_T_next rfl
theorem b_X4_says_10 : q_T md d qP_X4_says 10 [] ls st g M Q = q_T md d qP_X4_says 14 [.iconst (0), .goto (30)] ls st g M Q := q_T_next rfl
theorem b_X4_says_14 : q_T md d qP_X4_says 14 [] ls st g M Q = q_T md d qP_X4_says 30 [.aload 0, .getfield 406, .iload 2, .iaload, .aload 0, .getfield 401, .iload 3, .iaload, .isub, .invokestatic 206] ls st g M Q := q_T_next rfl
theorem b_X4_says_30 : q_T md d qP_X4_says 30 [] ls st g M Q = q_T md d qP_X4_says 94 [.iastore, .aload 0, .getfield 408, .iconst (1), .aload 0, .getfield 402, .iload 3, .iaload, .iastore, .aload 0, .getfield 408, .iconst (2), .aload 0, .getfield 403, .iload 3, .iaload, .iastore, .aload 0, .getfield 408, .iconst (3), .aload 0, .getfield 407, .iload 2, .iaload, .iastore, .aload 0, .getfield 408, .iconst (4), .aload 0, .getfield 409, .iastore, .aload 0, .getfield 408, .iconst (5), .aload 0, .getfield 405, .iload 2, .iaload, .iastore, .iload 1, .iconst (2), .if_icmp .ne (98)] ls st g M Q := q_T_next rfl
theorem b_X4_says_94 : q_T md d qP_X4_says 94 [] ls st g M Q = q_T md d qP_X4_says 98 [.iconst (0), .goto (100)] ls st g M Q := q_T_next rfl
theorem b_X4_says_98 : q_T md d qP_X4_says 98 [] ls st g M Q = q_T md d qP_X4_says 100 [.iconst (-99)] ls st g M Q := q_T_next rfl
theorem b_X4_says_100 : q_T md d qP_X4_says 100 [] ls st g M Q = q_T md d qP_X4_says 125 [.istore 4, .iload 4, .iconst (99), .aload 0, .getfield 410, .iload 1, .aload 0, .getfield 408, .invokestatic 47, .invokestatic 208, .invokestatic 207, .ret 0] ls st g M Q := q_T_next rfl
theorem s_X4_likes {w : Nat} {x0 : Int} {x1 : Int} : q_S md d 54 [qR 4 w, qI x0, qI x1] g M Q = q_T md d qP_X4_likes 0 [] [qR 4 w, qI x0, qI x1, qS 0, qS 0] [] g M Q := rfl
theorem b_X4_likes_0 : q_T md d qP_X4_likes 0 [] ls st g M Q = q_T md d qP_X4_likes 10 [.aload 0, .getfield 404, .iload 1, .iaload, .iconst (5), .if_icmp .ne (27)] ls st g M Q := q_T_next rfl
theorem b_X4_likes_10 : q_T md d qP_X4_likes 10 [] ls st g M Q = q_T md d qP_X4_likes 25 [.aload 0, .getfield 403, .iload 2, .iaload, .aload 0, .getfield 405, .iload 1, .iaload, .if_icmp .le (27)] ls st g M Q := q_T_next rfl
theorem b_X4_likes_25 : q_T md d qP_X4_likes 25 [] ls st g M Q = q_T md d qP_X4_likes 27 [.iconst (-1), .ret 0] ls st g M Q := q_T_next rfl
theorem b_X4_likes_27 : q_T md d qP_X4_likes 27 [] ls st g M Q = q_T md d qP_X4_likes 37 [.aload 0, .getfield 404, .iload 1, .iaload, .iconst (1), .if_icmp .eq (47)] ls st g M Q := q_T_next rfl
theorem b_X4_likes_37 : q_T md d qP_X4_likes 37 [] ls st g M Q = q_T md d qP_X4_likes 47 [.aload 0, .getfield 404, .iload 1, .iaload, .iconst (3), .if_icmp .ne (51)] ls st g M Q := q_T_next rfl
theorem b_X4_likes_47 : q_T md d qP_X4_likes 47 [] ls st g M Q = q_T md d qP_X4_likes 51 [.iconst (1), .goto (52)] ls st g M Q := q_T_next rfl
theorem b_X4_likes_51 : q_T md d qP_X4_likes 51 [] ls st g M Q = q_T md d qP_X4_likes 52 [.iconst (0)] ls st g M Q := q_T_next rfl
theorem b_X4_likes_52 : q_T md d qP_X4_likes 52 [] ls st g M Q = q_T md d qP_X4_likes 57 [.istore 3, .iload 3, .ifCond .eq (72)] ls st g M Q := q_T_next rfl
theorem b_X4_likes_57 : q_T md d qP_X4_likes 57 [] ls st g M Q = q_T md d qP_X4_likes 69 [.aload 0, .getfield 405, .iload 1, .iaload, .iconst (5), .irem, .iload 2, .if_icmp .ne (72)] ls st g M Q := q_T_next rfl
theorem b_X4_likes_69 : q_T md d qP_X4_likes 69 [] ls st g M Q = q_T md d qP_X4_likes 72 [.iconst (99), .ret 0] ls st g M Q := q_T_next rfl
theorem b_X4_likes_72 : q_T md d qP_X4_likes 72 [] ls st g M Q = q_T md d qP_X4_likes 85 [.aload 0, .iconst (0), .iload 1, .iload 2, .invokestatic 53, .istore 4, .iload 3, .ifCond .eq (90)] ls st g M Q := q_T_next rfl
theorem b_X4_likes_85 : q_T md d qP_X4_likes 85 [] ls st g M Q = q_T md d qP_X4_likes 90 [.iload 4, .iconst (2), .idiv, .ret 0] ls st g M Q := q_T_next rfl
theorem b_X4_likes_90 : q_T md d qP_X4_likes 90 [] ls st g M Q = q_T md d qP_X4_likes 100 [.aload 0, .getfield 404, .iload 1, .iaload, .iconst (4), .if_icmp .ne (117)] ls st g M Q := q_T_next rfl
theorem b_X4_likes_100 : q_T md d qP_X4_likes 100 [] ls st g M Q = q_T md d qP_X4_likes 111 [.aload 0, .getfield 402, .iload 2, .iaload, .iconst (50), .if_icmp .le (117)] ls st g M Q := q_T_next rfl
theorem b_X4_likes_111 : q_T md d qP_X4_likes 111 [] ls st g M Q = q_T md d qP_X4_likes 117 [.iload 4, .ineg, .goto (119)] ls st g M Q := q_T_next rfl
theorem b_X4_likes_117 : q_T md d qP_X4_likes 117 [] ls st g M Q = q_T md d qP_X4_likes 119 [.iload 4] ls st g M Q := q_T_next rfl
theorem b_X4_likes_119 : q_T md d qP_X4_likes 119 [] ls st g M Q = q_T md d qP_X4_likes 120 [.ret 0] ls st g M Q := q_T_next rfl
theorem s_X4_wants {w : Nat} {x0 : Int} {x1 : Int} : q_S md d 55 [qR 4 w, qI x0, qI x1] g M Q = q_T md d qP_X4_wants 0 [] [qR 4 w, qI x0, qI x1, qS 0, qS 0] [] g M Q := rfl
theorem b_X4_wants_0 : q_T md d qP_X4_wants 0 [] ls st g M Q = q_T md d qP_X4_wants 18 [.aload 0, .iconst (1), .iload 1, .iload 2, .invokestatic 53, .istore 3, .aload 0, .getfield 404, .iload 1, .iaload, .iconst (3), .if_icmp .ne (21)] ls st g M Q := q_T_next rfl
theorem b_X4_wants_18 : q_T md d qP_X4_wants 18 [] ls st g M Q = q_T md d qP_X4_wants 21 [.iload 3, .ineg, .ret 0] ls st g M Q := q_T_next rfl
theorem b_X4_wants_21 : q_T md d qP_X4_wants 21 [] ls st g M Q = q_T md d qP_X4_wants 31 [.aload 0, .getfield 404, .iload 1, .iaload, .iconst (2), .if_icmp .eq (50)] ls st g M Q := q_T_next rfl
theorem b_X4_wants_31 : q_T md d qP_X4_wants 31 [] ls st g M Q = q_T md d qP_X4_wants 41 [.aload 0, .getfield 404, .iload 1, .iaload, .iconst (4), .if_icmp .ne (54)] ls st g M Q := q_T_next rfl
theorem b_X4_wants_41 : q_T md d qP_X4_wants 41 [] ls st g M Q = q_T md d qP_X4_wants 50 [.aload 0, .getfield 409, .iconst (2), .irem, .ifCond .ne (54)] ls st g M Q := q_T_next rfl
theorem b_X4_wants_50 : q_T md d qP_X4_wants 50 [] ls st g M Q = q_T md d qP_X4_wants 54 [.iconst (1), .goto (55)] ls st g M Q := q_T_next rfl
theorem b_X4_wants_54 : q_T md d qP_X4_wants 54 [] ls st g M Q = q_T md d qP_X4_wants 55 [.iconst (0)] ls st g M Q := q_T_next rfl
theorem b_X4_wants_55 : q_T md d qP_X4_wants 55 [] ls st g M Q = q_T md d qP_X4_wants 62 [.istore 4, .iload 4, .ifCond .eq (76)] ls st g M Q := q_T_next rfl
theorem b_X4_wants_62 : q_T md d qP_X4_wants 62 [] ls st g M Q = q_T md d qP_X4_wants 76 [.iload 3, .iconst (10), .aload 0, .getfield 405, .iload 1, .iaload, .imul, .iadd, .goto (77)] ls st g M Q := q_T_next rfl
theorem b_X4_wants_76 : q_T md d qP_X4_wants 76 [] ls st g M Q = q_T md d qP_X4_wants 77 [.iload 3] ls st g M Q := q_T_next rfl
theorem b_X4_wants_77 : q_T md d qP_X4_wants 77 [] ls st g M Q = q_T md d qP_X4_wants 78 [.ret 0] ls st g M Q := q_T_next rfl
theorem s_X4_goes {w : Nat} {x0 : Int} : q_S md d 56 [qR 4 w, qI x0] g M Q = q_T md d qP_X4_goes 0 [] [qR 4 w, qI x0, qS 0, qS 0] [] g M Q := rfl
theorem b_X4_goes_0 : q_T md d qP_X4_goes 0 [] ls st g M Q = q_T md d qP_X4_goes 10 [.aload 0, .getfield 404, .iload 1, .iaload, .iconst (5), .if_icmp .ne (12)] ls st g M Q := q_T_next rfl
theorem b_X4_goes_10 : q_T md d qP_X4_goes 10 [] ls st g M Q = q_T md d qP_X4_goes 12 [.iconst (1), .ret 0] ls st g M Q := q_T_next rfl
theorem b_X4_goes_12 : q_T md d qP_X4_goes 12 [] ls st g M Q = q_T md d qP_X4_goes 22 [.aload 0, .getfield 404, .iload 1, .iaload, .iconst (1), .if_icmp .eq (32)] ls st g M Q := q_T_next rfl
theorem b_X4_goes_22 : q_T md d qP_X4_goes 22 [] ls st g M Q = q_T md d qP_X4_goes 32 [.aload 0, .getfield 404, .iload 1, .iaload, .iconst (3), .if_icmp .ne (36)] ls st g M Q := q_T_next rfl
theorem b_X4_goes_32 : q_T md d qP_X4_goes 32 [] ls st g M Q = q_T md d qP_X4_goes 36 [.iconst (1), .goto (37)] ls st g M Q := q_T_next rfl
theorem b_X4_goes_36 : q_T md d qP_X4_goes 36 [] ls st g M Q = q_T md d qP_X4_goes 37 [.iconst (0)] ls st g M Q := q_T_next rfl
theorem b_X4_goes_37 : q_T md d qP_X4_goes 37 [] ls st g M Q = q_T md d qP_X4_goes 42 [.istore 2, .iload 2, .ifCond .eq (55)] ls st g M Q := q_T_next rfl
theorem b_X4_goes_42 : q_T md d qP_X4_goes 42 [] ls st g M Q = q_T md d qP_X4_goes 51 [.aload 0, .getfield 409, .iconst (10), .if_icmp .ge (55)] ls st g M Q := q_T_next rfl
theorem b_X4_goes_51 : q_T md d qP_X4_goes 51 [] ls st g M Q = q_T md d qP_X4_goes 55 [.iconst (0), .goto (62)] ls st g M Q := q_T_next rfl
theorem b_X4_goes_55 : q_T md d qP_X4_goes 55 [] ls st g M Q = q_T md d qP_X4_goes 62 [.aload 0, .iconst (2), .iload 1, .iconst (5), .invokestatic 53] ls st g M Q := q_T_next rfl
theorem b_X4_goes_62 : q_T md d qP_X4_goes 62 [] ls st g M Q = q_T md d qP_X4_goes 73 [.istore 3, .aload 0, .getfield 404, .iload 1, .iaload, .iconst (3), .if_icmp .ne (82)] ls st g M Q := q_T_next rfl
theorem b_X4_goes_73 : q_T md d qP_X4_goes 73 [] ls st g M Q = q_T md d qP_X4_goes 82 [.iload 3, .aload 0, .getfield 405, .iload 1, .iaload, .iadd, .ret 0] ls st g M Q := q_T_next rfl
theorem b_X4_goes_82 : q_T md d qP_X4_goes 82 [] ls st g M Q = q_T md d qP_X4_goes 92 [.aload 0, .getfield 404, .iload 1, .iaload, .iconst (2), .if_icmp .eq (102)] ls st g M Q := q_T_next rfl
theorem b_X4_goes_92 : q_T md d qP_X4_goes 92 [] ls st g M Q = q_T md d qP_X4_goes 102 [.aload 0, .getfield 404, .iload 1, .iaload, .iconst (4), .if_icmp .ne (108)] ls st g M Q := q_T_next rfl
theorem b_X4_goes_102 : q_T md d qP_X4_goes 102 [] ls st g M Q = q_T md d qP_X4_goes 108 [.iload 3, .iconst (2), .idiv, .goto (109)] ls st g M Q := q_T_next rfl
theorem b_X4_goes_108 : q_T md d qP_X4_goes 108 [] ls st g M Q = q_T md d qP_X4_goes 109 [.iload 3] ls st g M Q := q_T_next rfl
theorem b_X4_goes_109 : q_T md d qP_X4_goes 109 [] ls st g M Q = q_T md d qP_X4_goes 110 [.ret 0] ls st g M Q := q_T_next rfl
theorem s_X4_tellAll {w : Nat} : q_S md d 57 [qR 4 w] g M Q = q_T md d qP_X4_tellAll 0 [] [qR 4 w, qS 0, qS 0] [] g M Q := rfl
theorem b_X4_tellAll_0 : q_T md d qP_X4_tellAll 0 [] ls st g M Q = q_T md d qP_X4_tellAll 2 [.iconst (0), .istore 1] ls st g M Q := q_T_next rfl
theorem b_X4_tellAll_2 : q_T md d qP_X4_tellAll 2 [] ls st g M Q = q_T md d qP_X4_tellAll 13 [.iload 1, .aload 0, .getfield 400, .getfield 5, .if_icmp .ge (66)] ls st g M Q := q_T_next rfl
theorem b_X4_tellAll_13 : q_T md d qP_X4_tellAll 13 [] ls st g M Q = q_T md d qP_X4_tellAll 15 [.iconst (0), .istore 2] ls st g M Q := q_T_next rfl
theorem b_X4_tellAll_15 : q_T md d qP_X4_tellAll 15 [] ls st g M Q = q_T md d qP_X4_tellAll 20 [.iload 2, .iconst (5), .if_icmp .ge (60)] ls st g M Q := q_T_next rfl
theorem b_X4_tellAll_20 : q_T md d qP_X4_tellAll 20 [] ls st g M Q = q_T md d qP_X4_tellAll 60 [.aload 0, .getfield 400, .getfield 2, .iload 1, .aaload, .iload 2, .aload 0, .iload 1, .iload 2, .invokestatic 54, .iastore, .aload 0, .getfield 400, .getfield 3, .iload 1, .aaload, .iload 2, .aload 0, .iload 1, .iload 2, .invokestatic 55, .iastore, .iinc 2 (1), .goto (15)] ls st g M Q := q_T_next rfl
theorem b_X4_tellAll_60 : q_T md d qP_X4_tellAll 60 [] ls st g M Q = q_T md d qP_X4_tellAll 66 [.iinc 1 (1), .goto (2)] ls st g M Q := q_T_next rfl
theorem b_X4_tellAll_66 : q_T md d qP_X4_tellAll 66 [] ls st g M Q = q_T md d qP_X4_tellAll 67 [.return_] ls st g M Q := q_T_next rfl
theorem s_X4_wish {w : Nat} {x0 : Int} : q_S md d 58 [qR 4 w, qI x0] g M Q = q_T md d qP_X4_wish 0 [] [qR 4 w, qI x0, qS 0] [] g M Q := rfl
theorem b_X4_wish_0 : q_T md d qP_X4_wish 0 [] ls st g M Q = q_T md d qP_X4_wish 2 [.iconst (0), .istore 2] ls st g M Q := q_T_next rfl
theorem b_X4_wish_2 : q_T md d qP_X4_wish 2 [] ls st g M Q = q_T md d qP_X4_wish 7 [.iload 2, .iconst (5), .if_icmp .ge (30)] ls st g M Q := q_T_next rfl
theorem b_X4_wish_7 : q_T md d qP_X4_wish 7 [] ls st g M Q = q_T md d qP_X4_wish 30 [.aload 0, .getfield 400, .getfield 2, .iload 1, .aaload, .iload 2, .aload 0, .iload 1, .iload 2, .invokestatic 54, .iastore, .iinc 2 (1), .goto (2)] ls st g M Q := q_T_next rfl
theorem b_X4_wish_30 : q_T md d qP_X4_wish 30 [] ls st g M Q = q_T md d qP_X4_wish 40 [.aload 0, .getfield 400, .iload 1, .iconst (0), .invokestatic 10, .ret 0] ls st g M Q := q_T_next rfl
theorem s_X4_passYear {w : Nat} : q_S md d 59 [qR 4 w] g M Q = q_T md d qP_X4_passYear 0 [] [qR 4 w, qS 0, qS 0, qS 0] [] g M Q := rfl
theorem b_X4_passYear_0 : q_T md d qP_X4_passYear 0 [] ls st g M Q = q_T md d qP_X4_passYear 4 [.iconst (0), .istore 1, .iconst (0), .istore 2] ls st g M Q := q_T_next rfl
theorem b_X4_passYear_4 : q_T md d qP_X4_passYear 4 [] ls st g M Q = q_T md d qP_X4_passYear 15 [.iload 2, .aload 0, .getfield 400, .getfield 5, .if_icmp .ge (64)] ls st g M Q := q_T_next rfl
theorem b_X4_passYear_15 : q_T md d qP_X4_passYear 15 [] ls st g M Q = q_T md d qP_X4_passYear 28 [.aload 0, .getfield 400, .getfield 1, .iload 2, .iaload, .iconst (5), .if_icmp .ne (36)] ls st g M Q := q_T_next rfl
theorem b_X4_passYear_28 : q_T md d qP_X4_passYear 28 [] ls st g M Q = q_T md d qP_X4_passYear 36 [.aload 0, .iload 2, .invokestatic 58, .goto (37)] ls st g M Q := q_T_next rfl
theorem b_X4_passYear_36 : q_T md d qP_X4_passYear 36 [] ls st g M Q = q_T md d qP_X4_passYear 37 [.iconst (5)] ls st g M Q := q_T_next rfl
theorem b_X4_passYear_37 : q_T md d qP_X4_passYear 37 [] ls st g M Q = q_T md d qP_X4_passYear 43 [.istore 3, .iload 3, .iconst (5), .if_icmp .eq (58)] ls st g M Q := q_T_next rfl
theorem b_X4_passYear_43 : q_T md d qP_X4_passYear 43 [] ls st g M Q = q_T md d qP_X4_passYear 52 [.aload 0, .iload 2, .iload 3, .invokestatic 60, .ifCond .eq (58)] ls st g M Q := q_T_next rfl
theorem b_X4_passYear_52 : q_T md d qP_X4_passYear 52 [] ls st g M Q = q_T md d qP_X4_passYear 58 [.iload 1, .iconst (1), .iload 2, .ishl, .ior, .istore 1] ls st g M Q := q_T_next rfl
theorem b_X4_passYear_58 : q_T md d qP_X4_passYear 58 [] ls st g M Q = q_T md d qP_X4_passYear 64 [.iinc 2 (1), .goto (4)] ls st g M Q := q_T_next rfl
theorem b_X4_passYear_64 : q_T md d qP_X4_passYear 64 [] ls st g M Q = q_T md d qP_X4_passYear 76 [.aload 0, .dup, .getfield 409, .iconst (1), .iadd, .putfield 409, .iload 1, .ret 0] ls st g M Q := q_T_next rfl
theorem s_X4_goTo {w : Nat} {x0 : Int} {x1 : Int} : q_S md d 60 [qR 4 w, qI x0, qI x1] g M Q = q_T md d qP_X4_goTo 0 [] [qR 4 w, qI x0, qI x1, qS 0, qS 0, qS 0] [] g M Q := rfl
theorem b_X4_goTo_0 : q_T md d qP_X4_goTo 0 [] ls st g M Q = q_T md d qP_X4_goTo 56 [.aload 0, .iload 1, .invokestatic 56, .istore 3, .aload 0, .getfield 401, .iload 2, .iaload, .aload 0, .getfield 406, .iload 1, .iaload, .isub, .istore 4, .aload 0, .getfield 406, .iload 1, .dup2, .iaload, .iload 3, .ineg, .iload 3, .iload 4, .invokestatic 208, .invokestatic 207, .iadd, .iastore, .aload 0, .getfield 406, .iload 1, .iaload, .aload 0, .getfield 401, .iload 2, .iaload, .if_icmp .eq (58)] ls st g M Q := q_T_next rfl
theorem b_X4_goTo_56 : q_T md d qP_X4_goTo 56 [] ls st g M Q = q_T md d qP_X4_goTo 58 [.iconst (0), .ret 1] ls st g M Q := q_T_next rfl
theorem b_X4_goTo_58 : q_T md d qP_X4_goTo 58 [] ls st g M Q = q_T md d qP_X4_goTo 61 [.iconst (0), .istore 5] ls st g M Q := q_T_next rfl
theorem b_X4_goTo_61 : q_T md d qP_X4_goTo 61 [] ls st g M Q = q_T md d qP_X4_goTo 73 [.iload 5, .aload 0, .getfield 400, .getfield 5, .if_icmp .ge (118)] ls st g M Q := q_T_next rfl
theorem b_X4_goTo_73 : q_T md d qP_X4_goTo 73 [] ls st g M Q = q_T md d qP_X4_goTo 79 [.iload 5, .iload 1, .if_icmp .eq (93)] ls st g M Q := q_T_next rfl
theorem b_X4_goTo_79 : q_T md d qP_X4_goTo 79 [] ls st g M Q = q_T md d qP_X4_goTo 93 [.aload 0, .getfield 400, .getfield 1, .iload 5, .iaload, .iload 2, .if_icmp .ne (112)] ls st g M Q := q_T_next rfl
theorem b_X4_goTo_93 : q_T md d qP_X4_goTo 93 [] ls st g M Q = q_T md d qP_X4_goTo 112 [.aload 0, .getfield 400, .getfield 3, .iload 5, .aaload, .iload 2, .aload 0, .iload 5, .iload 2, .invokestatic 55, .iastore] ls st g M Q := q_T_next rfl
theorem b_X4_goTo_112 : q_T md d qP_X4_goTo 112 [] ls st g M Q = q_T md d qP_X4_goTo 118 [.iinc 5 (1), .goto (61)] ls st g M Q := q_T_next rfl
theorem b_X4_goTo_118 : q_T md d qP_X4_goTo 118 [] ls st g M Q = q_T md d qP_X4_goTo 130 [.aload 0, .getfield 400, .iload 1, .iload 2, .invokestatic 13, .ifCond .ne (132)] ls st g M Q := q_T_next rfl
theorem b_X4_goTo_130 : q_T md d qP_X4_goTo 130 [] ls st g M Q = q_T md d qP_X4_goTo 132 [.iconst (0), .ret 1] ls st g M Q := q_T_next rfl
theorem b_X4_goTo_132 : q_T md d qP_X4_goTo 132 [] ls st g M Q = q_T md d qP_X4_goTo 149 [.aload 0, .getfield 400, .iload 1, .iload 2, .invokestatic 14, .istore 5, .iload 5, .iconst (5), .if_icmp .eq (162)] ls st g M Q := q_T_next rfl
theorem b_X4_goTo_149 : q_T md d qP_X4_goTo 149 [] ls st g M Q = q_T md d qP_X4_goTo 162 [.aload 0, .getfield 406, .iload 5, .aload 0, .getfield 401, .iload 2, .iaload, .iastore] ls st g M Q := q_T_next rfl
theorem b_X4_goTo_162 : q_T md d qP_X4_goTo 162 [] ls st g M Q = q_T md d qP_X4_goTo 183 [.aload 0, .getfield 403, .iload 2, .iconst (99), .aload 0, .getfield 403, .iload 2, .iaload, .iconst (1), .iadd, .invokestatic 208, .iastore, .iconst (1), .ret 1] ls st g M Q := q_T_next rfl
theorem s_X5_init {w : Nat} : q_S md d 61 [qR 5 w] g M Q = q_T md d qP_X5_init 0 [] [qR 5 w, qS 0, qS 0] [] g M Q := rfl
theorem b_X5_init_0 : q_T md d qP_X5_init 0 [] ls st g M Q = q_T md d qP_X5_init 34 [.aload 0, .monitorenter, .aload 0, .new 1, .dup, .invokestatic 20, .putfield 500, .aload 0, .iconst (6), .anewarray 8, .putfield 501, .aload 0, .iconst (4), .anewarray 9, .putfield 507, .iconst (0), .istore 1] ls st g M Q := q_T_next rfl
theorem b_X5_init_34 : q_T md d qP_X5_init 34 [] ls st g M Q = q_T md d qP_X5_init 43 [.iload 1, .ldc 0, .invokestatic 199, .if_icmp .ge (62)] ls st g M Q := q_T_next rfl
theorem b_X5_init_43 : q_T md d qP_X5_init 43 [] ls st g M Q = q_T md d qP_X5_init 62 [.aload 0, .getfield 500, .ldc 0, .iload 1, .invokestatic 200, .invokestatic 22, .iinc 1 (1), .goto (34)] ls st g M Q := q_T_next rfl
theorem b_X5_init_62 : q_T md d qP_X5_init 62 [] ls st g M Q = q_T md d qP_X5_init 136 [.aload 0, .getfield 500, .invokestatic 23, .pop, .aload 0, .getfield 500, .iconst (0), .invokestatic 24, .astore 1, .aload 0, .getfield 500, .invokestatic 21, .aload 0, .getfield 501, .iconst (0), .aload 1, .aastore, .aload 0, .iconst (1), .putfield 502, .aload 0, .new 4, .dup, .aload 1, .invokestatic 48, .putfield 503, .aload 0, .new 4, .dup, .aload 1, .invokestatic 48, .putfield 504, .aload 0, .new 4, .dup, .aload 1, .invokestatic 48, .putfield 505, .iconst (0), .istore 2] ls st g M Q := q_T_next rfl
theorem b_X5_init_136 : q_T md d qP_X5_init 136 [] ls st g M Q = q_T md d qP_X5_init 141 [.iload 2, .iconst (4), .if_icmp .ge (160)] ls st g M Q := q_T_next rfl
theorem b_X5_init_141 : q_T md d qP_X5_init 141 [] ls st g M Q = q_T md d qP_X5_init 160 [.aload 0, .getfield 507, .iload 2, .new 2, .dup, .invokestatic 42, .aastore, .iinc 2 (1), .goto (136)] ls st g M Q := q_T_next rfl
theorem b_X5_init_160 : q_T md d qP_X5_init 160 [] ls st g M Q = q_T md d qP_X5_init 161 [.return_] ls st g M Q := q_T_next rfl
theorem s_X5_count {w : Nat} {x0 : Int} : q_S md d 62 [qR 5 w, qI x0] g M Q = q_T md d qP_X5_count 0 [] [qR 5 w, qI x0] [] g M Q := rfl
theorem b_X5_count_0 : q_T md d qP_X5_count 0 [] ls st g M Q = q_T md d qP_X5_count 40 [.iload 1, .tableswitch (94) (0) (5) #[40, 51, 59, 70, 75, 86]] ls st g M Q := q_T_next rfl
theorem b_X5_count_40 : q_T md d qP_X5_count 40 [] ls st g M Q = q_T md d qP_X5_count 51 [.aload 0, .getfield 503, .getfield 400, .getfield 5, .ret 0] ls st g M Q := q_T_next rfl
theorem b_X5_count_51 : q_T md d qP_X5_count 51 [] ls st g M Q = q_T md d qP_X5_count 59 [.aload 0, .getfield 503, .getfield 409, .ret 0] ls st g M Q := q_T_next rfl
theorem b_X5_count_59 : q_T md d qP_X5_count 59 [] ls st g M Q = q_T md d qP_X5_count 70 [.aload 0, .getfield 503, .getfield 400, .invokestatic 3, .ret 0] ls st g M Q := q_T_next rfl
theorem b_X5_count_70 : q_T md d qP_X5_count 70 [] ls st g M Q = q_T md d qP_X5_count 75 [.aload 0, .getfield 502, .ret 0] ls st g M Q := q_T_next rfl
theorem b_X5_count_75 : q_T md d qP_X5_count 75 [] ls st g M Q = q_T md d qP_X5_count 86 [.aload 0, .getfield 503, .getfield 410, .getfield 300, .ret 0] ls st g M Q := q_T_next rfl
theorem b_X5_count_86 : q_T md d qP_X5_count 86 [] ls st g M Q = q_T md d qP_X5_count 94 [.aload 0, .getfield 500, .getfield 101, .ret 0] ls st g M Q := q_T_next rfl
theorem b_X5_count_94 : q_T md d qP_X5_count 94 [] ls st g M Q = q_T md d qP_X5_count 97 [.iconst (-2), .ret 0] ls st g M Q := q_T_next rfl
theorem s_X5_dawn {w : Nat} {x0 : Int} : q_S md d 63 [qR 5 w, qI x0] g M Q = q_T md d qP_X5_dawn 0 [] [qR 5 w, qI x0, qS 0] [] g M Q := rfl
theorem b_X5_dawn_0 : q_T md d qP_X5_dawn 0 [] ls st g M Q = q_T md d qP_X5_dawn 4 [.iload 1, .ifCond .lt (11)] ls st g M Q := q_T_next rfl
theorem b_X5_dawn_4 : q_T md d qP_X5_dawn 4 [] ls st g M Q = q_T md d qP_X5_dawn 11 [.iload 1, .iconst (999), .if_icmp .le (14)] ls st g M Q := q_T_next rfl
theorem b_X5_dawn_11 : q_T md d qP_X5_dawn 11 [] ls st g M Q = q_T md d qP_X5_dawn 14 [.iconst (-2), .ret 0] ls st g M Q := q_T_next rfl
theorem b_X5_dawn_14 : q_T md d qP_X5_dawn 14 [] ls st g M Q = q_T md d qP_X5_dawn 32 [.aload 0, .getfield 503, .getfield 409, .istore 2, .aload 0, .getfield 503, .iload 1, .putfield 409, .iload 2, .ret 0] ls st g M Q := q_T_next rfl
theorem s_X5_build {w : Nat} {x0 : Int} {x1 : Int} {x2 : Int} : q_S md d 64 [qR 5 w, qI x0, qI x1, qI x2] g M Q = q_T md d qP_X5_build 0 [] [qR 5 w, qI x0, qI x1, qI x2, qS 0] [] g M Q := rfl
theorem b_X5_build_0 : q_T md d qP_X5_build 0 [] ls st g M Q = q_T md d qP_X5_build 7 [.iload 1, .invokestatic 99, .ifCond .ne (10)] ls st g M Q := q_T_next rfl
theorem b_X5_build_7 : q_T md d qP_X5_build 7 [] ls st g M Q = q_T md d qP_X5_build 10 [.iconst (-5), .ret 0] ls st g M Q := q_T_next rfl
theorem b_X5_build_10 : q_T md d qP_X5_build 10 [] ls st g M Q = q_T md d qP_X5_build 14 [.iload 2, .ifCond .lt (29)] ls st g M Q := q_T_next rfl
theorem b_X5_build_14 : q_T md d qP_X5_build 14 [] ls st g M Q = q_T md d qP_X5_build 19 [.iload 2, .iconst (3), .if_icmp .gt (29)] ls st g M Q := q_T_next rfl
theorem b_X5_build_19 : q_T md d qP_X5_build 19 [] ls st g M Q = q_T md d qP_X5_build 23 [.iload 3, .ifCond .lt (29)] ls st g M Q := q_T_next rfl
theorem b_X5_build_23 : q_T md d qP_X5_build 23 [] ls st g M Q = q_T md d qP_X5_build 29 [.iload 3, .iconst (99), .if_icmp .le (32)] ls st g M Q := q_T_next rfl
theorem b_X5_build_29 : q_T md d qP_X5_build 29 [] ls st g M Q = q_T md d qP_X5_build 32 [.iconst (-7), .ret 0] ls st g M Q := q_T_next rfl
theorem b_X5_build_32 : q_T md d qP_X5_build 32 [] ls st g M Q = q_T md d qP_X5_build 37 [.iload 2, .iconst (1), .if_icmp .ne (60)] ls st g M Q := q_T_next rfl
theorem b_X5_build_37 : q_T md d qP_X5_build 37 [] ls st g M Q = q_T md d qP_X5_build 42 [.iload 3, .iconst (5), .if_icmp .gt (57)] ls st g M Q := q_T_next rfl
theorem b_X5_build_42 : q_T md d qP_X5_build 42 [] ls st g M Q = q_T md d qP_X5_build 57 [.iload 3, .aload 0, .getfield 503, .getfield 400, .iload 1, .invokestatic 4, .if_icmp .ge (60)] ls st g M Q := q_T_next rfl
theorem b_X5_build_57 : q_T md d qP_X5_build 57 [] ls st g M Q = q_T md d qP_X5_build 60 [.iconst (-7), .ret 0] ls st g M Q := q_T_next rfl
theorem b_X5_build_60 : q_T md d qP_X5_build 60 [] ls st g M Q = q_T md d qP_X5_build 96 [.aload 0, .iload 1, .iload 2, .invokestatic 65, .istore 4, .iload 2, .tableswitch (137) (0) (2) #[96, 108, 124]] ls st g M Q := q_T_next rfl
theorem b_X5_build_96 : q_T md d qP_X5_build 96 [] ls st g M Q = q_T md d qP_X5_build 108 [.aload 0, .getfield 503, .iload 1, .iload 3, .invokestatic 52, .goto (147)] ls st g M Q := q_T_next rfl
theorem b_X5_build_108 : q_T md d qP_X5_build 108 [] ls st g M Q = q_T md d qP_X5_build 124 [.aload 0, .getfield 503, .getfield 400, .getfield 0, .iload 1, .iload 3, .iastore, .goto (147)] ls st g M Q := q_T_next rfl
theorem b_X5_build_124 : q_T md d qP_X5_build 124 [] ls st g M Q = q_T md d qP_X5_build 137 [.aload 0, .getfield 503, .getfield 402, .iload 1, .iload 3, .iastore, .goto (147)] ls st g M Q := q_T_next rfl
theorem b_X5_build_137 : q_T md d qP_X5_build 137 [] ls st g M Q = q_T md d qP_X5_build 147 [.aload 0, .getfield 503, .getfield 403, .iload 1, .iload 3, .iastore] ls st g M Q := q_T_next rfl
theorem b_X5_build_147 : q_T md d qP_X5_build 147 [] ls st g M Q = q_T md d qP_X5_build 150 [.iload 4, .ret 0] ls st g M Q := q_T_next rfl
theorem s_X5_site {w : Nat} {x0 : Int} {x1 : Int} : q_S md d 65 [qR 5 w, qI x0, qI x1] g M Q = q_T md d qP_X5_site 0 [] [qR 5 w, qI x0, qI x1] [] g M Q := rfl
theorem b_X5_site_0 : q_T md d qP_X5_site 0 [] ls st g M Q = q_T md d qP_X5_site 7 [.iload 1, .invokestatic 99, .ifCond .ne (10)] ls st g M Q := q_T_next rfl
theorem b_X5_site_7 : q_T md d qP_X5_site 7 [] ls st g M Q = q_T md d qP_X5_site 10 [.iconst (-5), .ret 0] ls st g M Q := q_T_next rfl
theorem b_X5_site_10 : q_T md d qP_X5_site 10 [] ls st g M Q = q_T md d qP_X5_site 44 [.iload 2, .tableswitch (99) (0) (4) #[44, 54, 67, 77, 87]] ls st g M Q := q_T_next rfl
theorem b_X5_site_44 : q_T md d qP_X5_site 44 [] ls st g M Q = q_T md d qP_X5_site 54 [.aload 0, .getfield 503, .getfield 401, .iload 1, .iaload, .ret 0] ls st g M Q := q_T_next rfl
theorem b_X5_site_54 : q_T md d qP_X5_site 54 [] ls st g M Q = q_T md d qP_X5_site 67 [.aload 0, .getfield 503, .getfield 400, .getfield 0, .iload 1, .iaload, .ret 0] ls st g M Q := q_T_next rfl
theorem b_X5_site_67 : q_T md d qP_X5_site 67 [] ls st g M Q = q_T md d qP_X5_site 77 [.aload 0, .getfield 503, .getfield 402, .iload 1, .iaload, .ret 0] ls st g M Q := q_T_next rfl
theorem b_X5_site_77 : q_T md d qP_X5_site 77 [] ls st g M Q = q_T md d qP_X5_site 87 [.aload 0, .getfield 503, .getfield 403, .iload 1, .iaload, .ret 0] ls st g M Q := q_T_next rfl
theorem b_X5_site_87 : q_T md d qP_X5_site 87 [] ls st g M Q = q_T md d qP_X5_site 99 [.aload 0, .getfield 503, .getfield 400, .iload 1, .invokestatic 5, .ret 0] ls st g M Q := q_T_next rfl
theorem b_X5_site_99 : q_T md d qP_X5_site 99 [] ls st g M Q = q_T md d qP_X5_site 102 [.iconst (-7), .ret 0] ls st g M Q := q_T_next rfl
theorem s_X5_feed {w : Nat} {x0 : Int} {x1 : Int} {x2 : Int} {x3 : Int} {x4 : Int} {x5 : Int} : q_S md d 66 [qR 5 w, qI x0, qI x1, qI x2, qI x3, qI x4, qI x5] g M Q = q_T md d qP_X5_feed 0 [] [qR 5 w, qI x0, qI x1, qI x2, qI x3, qI x4, qI x5] [] g M Q := rfl
theorem b_X5_feed_0 : q_T md d qP_X5_feed 0 [] ls st g M Q = q_T md d qP_X5_feed 5 [.iload 1, .iconst (1), .if_icmp .lt (48)] ls st g M Q := q_T_next rfl
theorem b_X5_feed_5 : q_T md d qP_X5_feed 5 [] ls st g M Q = q_T md d qP_X5_feed 10 [.iload 1, .iconst (5), .if_icmp .gt (48)] ls st g M Q := q_T_next rfl
theorem b_X5_feed_10 : q_T md d qP_X5_feed 10 [] ls st g M Q = q_T md d qP_X5_feed 17 [.iload 2, .invokestatic 102, .ifCond .eq (48)] ls st g M Q := q_T_next rfl
theorem b_X5_feed_17 : q_T md d qP_X5_feed 17 [] ls st g M Q = q_T md d qP_X5_feed 24 [.iload 3, .invokestatic 102, .ifCond .eq (48)] ls st g M Q := q_T_next rfl
theorem b_X5_feed_24 : q_T md d qP_X5_feed 24 [] ls st g M Q = q_T md d qP_X5_feed 32 [.iload 4, .invokestatic 102, .ifCond .eq (48)] ls st g M Q := q_T_next rfl
theorem b_X5_feed_32 : q_T md d qP_X5_feed 32 [] ls st g M Q = q_T md d qP_X5_feed 40 [.iload 5, .invokestatic 102, .ifCond .eq (48)] ls st g M Q := q_T_next rfl
theorem b_X5_feed_40 : q_T md d qP_X5_feed 40 [] ls st g M Q = q_T md d qP_X5_feed 48 [.iload 6, .invokestatic 102, .ifCond .ne (51)] ls st g M Q := q_T_next rfl
theorem b_X5_feed_48 : q_T md d qP_X5_feed 48 [] ls st g M Q = q_T md d qP_X5_feed 51 [.iconst (-2), .ret 0] ls st g M Q := q_T_next rfl
theorem b_X5_feed_51 : q_T md d qP_X5_feed 51 [] ls st g M Q = q_T md d qP_X5_feed 66 [.iload 1, .iconst (160), .aload 0, .getfield 500, .getfield 101, .isub, .if_icmp .le (69)] ls st g M Q := q_T_next rfl
theorem b_X5_feed_66 : q_T md d qP_X5_feed 66 [] ls st g M Q = q_T md d qP_X5_feed 69 [.iconst (-4), .ret 0] ls st g M Q := q_T_next rfl
theorem b_X5_feed_69 : q_T md d qP_X5_feed 69 [] ls st g M Q = q_T md d qP_X5_feed 82 [.aload 0, .getfield 500, .iload 2, .invokestatic 22, .iload 1, .iconst (1), .if_icmp .le (90)] ls st g M Q := q_T_next rfl
theorem b_X5_feed_82 : q_T md d qP_X5_feed 82 [] ls st g M Q = q_T md d qP_X5_feed 90 [.aload 0, .getfield 500, .iload 3, .invokestatic 22] ls st g M Q := q_T_next rfl
theorem b_X5_feed_90 : q_T md d qP_X5_feed 90 [] ls st g M Q = q_T md d qP_X5_feed 95 [.iload 1, .iconst (2), .if_icmp .le (104)] ls st g M Q := q_T_next rfl
theorem b_X5_feed_95 : q_T md d qP_X5_feed 95 [] ls st g M Q = q_T md d qP_X5_feed 104 [.aload 0, .getfield 500, .iload 4, .invokestatic 22] ls st g M Q := q_T_next rfl
theorem b_X5_feed_104 : q_T md d qP_X5_feed 104 [] ls st g M Q = q_T md d qP_X5_feed 109 [.iload 1, .iconst (3), .if_icmp .le (118)] ls st g M Q := q_T_next rfl
theorem b_X5_feed_109 : q_T md d qP_X5_feed 109 [] ls st g M Q = q_T md d qP_X5_feed 118 [.aload 0, .getfield 500, .iload 5, .invokestatic 22] ls st g M Q := q_T_next rfl
theorem b_X5_feed_118 : q_T md d qP_X5_feed 118 [] ls st g M Q = q_T md d qP_X5_feed 123 [.iload 1, .iconst (4), .if_icmp .le (132)] ls st g M Q := q_T_next rfl
theorem b_X5_feed_123 : q_T md d qP_X5_feed 123 [] ls st g M Q = q_T md d qP_X5_feed 132 [.aload 0, .getfield 500, .iload 6, .invokestatic 22] ls st g M Q := q_T_next rfl
theorem b_X5_feed_132 : q_T md d qP_X5_feed 132 [] ls st g M Q = q_T md d qP_X5_feed 140 [.aload 0, .getfield 500, .getfield 101, .ret 0] ls st g M Q := q_T_next rfl
theorem s_X5_text {w : Nat} : q_S md d 67 [qR 5 w] g M Q = q_T md d qP_X5_text 0 [] [qR 5 w, qS 0, qS 0] [] g M Q := rfl
theorem b_X5_text_0 : q_T md d qP_X5_text 0 [] ls st g M Q = q_T md d qP_X5_text 9 [.aload 0, .getfield 502, .iconst (6), .if_icmp .lt (12)] ls st g M Q := q_T_next rfl
theorem b_X5_text_9 : q_T md d qP_X5_text 9 [] ls st g M Q = q_T md d qP_X5_text 12 [.iconst (-4), .ret 0] ls st g M Q := q_T_next rfl
theorem b_X5_text_12 : q_T md d qP_X5_text 12 [] ls st g M Q = q_T md d qP_X5_text 29 [.aload 0, .getfield 500, .invokestatic 23, .istore 1, .iconst (-100), .iload 1, .isub, .istore 2, .iload 1, .ifCond .ge (64)] ls st g M Q := q_T_next rfl
theorem b_X5_text_29 : q_T md d qP_X5_text 29 [] ls st g M Q = q_T md d qP_X5_text 64 [.aload 0, .getfield 502, .istore 2, .aload 0, .getfield 501, .aload 0, .getfield 502, .aload 0, .getfield 500, .aload 0, .getfield 502, .invokestatic 24, .aastore, .aload 0, .dup, .getfield 502, .iconst (1), .iadd, .putfield 502] ls st g M Q := q_T_next rfl
theorem b_X5_text_64 : q_T md d qP_X5_text 64 [] ls st g M Q = q_T md d qP_X5_text 73 [.aload 0, .getfield 500, .invokestatic 21, .iload 2, .ret 0] ls st g M Q := q_T_next rfl
theorem s_X5_force {w : Nat} {x0 : Int} : q_S md d 68 [qR 5 w, qI x0] g M Q = q_T md d qP_X5_force 0 [] [qR 5 w, qI x0, qS 0] [] g M Q := rfl
theorem b_X5_force_0 : q_T md d qP_X5_force 0 [] ls st g M Q = q_T md d qP_X5_force 4 [.iload 1, .ifCond .lt (12)] ls st g M Q := q_T_next rfl
theorem b_X5_force_4 : q_T md d qP_X5_force 4 [] ls st g M Q = q_T md d qP_X5_force 12 [.iload 1, .aload 0, .getfield 502, .if_icmp .lt (15)] ls st g M Q := q_T_next rfl
theorem b_X5_force_12 : q_T md d qP_X5_force 12 [] ls st g M Q = q_T md d qP_X5_force 15 [.iconst (-2), .ret 0] ls st g M Q := q_T_next rfl
theorem b_X5_force_15 : q_T md d qP_X5_force 15 [] ls st g M Q = q_T md d qP_X5_force 41 [.aload 0, .getfield 503, .getfield 410, .getfield 300, .istore 2, .aload 0, .getfield 503, .aload 0, .getfield 501, .iload 1, .aaload, .putfield 410, .iload 2, .ret 0] ls st g M Q := q_T_next rfl
theorem s_X5_asks {w : Nat} {x0 : Int} {x1 : Int} {x2 : Int} : q_S md d 69 [qR 5 w, qI x0, qI x1, qI x2] g M Q = q_T md d qP_X5_asks 0 [] [qR 5 w, qI x0, qI x1, qI x2] [] g M Q := rfl
theorem b_X5_asks_0 : q_T md d qP_X5_asks 0 [] ls st g M Q = q_T md d qP_X5_asks 4 [.iload 1, .ifCond .lt (29)] ls st g M Q := q_T_next rfl
theorem b_X5_asks_4 : q_T md d qP_X5_asks 4 [] ls st g M Q = q_T md d qP_X5_asks 9 [.iload 1, .iconst (3), .if_icmp .ge (29)] ls st g M Q := q_T_next rfl
theorem b_X5_asks_9 : q_T md d qP_X5_asks 9 [] ls st g M Q = q_T md d qP_X5_asks 17 [.aload 0, .iload 2, .invokestatic 98, .ifCond .eq (29)] ls st g M Q := q_T_next rfl
theorem b_X5_asks_17 : q_T md d qP_X5_asks 17 [] ls st g M Q = q_T md d qP_X5_asks 22 [.iload 3, .iconst (-1), .if_icmp .eq (33)] ls st g M Q := q_T_next rfl
theorem b_X5_asks_22 : q_T md d qP_X5_asks 22 [] ls st g M Q = q_T md d qP_X5_asks 29 [.iload 3, .invokestatic 99, .ifCond .ne (33)] ls st g M Q := q_T_next rfl
theorem b_X5_asks_29 : q_T md d qP_X5_asks 29 [] ls st g M Q = q_T md d qP_X5_asks 33 [.iconst (-1000), .ret 0] ls st g M Q := q_T_next rfl
theorem b_X5_asks_33 : q_T md d qP_X5_asks 33 [] ls st g M Q = q_T md d qP_X5_asks 44 [.aload 0, .getfield 503, .iload 1, .iload 2, .iload 3, .iconst (-1), .if_icmp .ne (48)] ls st g M Q := q_T_next rfl
theorem b_X5_asks_44 : q_T md d qP_X5_asks 44 [] ls st g M Q = q_T md d qP_X5_asks 48 [.iconst (5), .goto (49)] ls st g M Q := q_T_next rfl
theorem b_X5_asks_48 : q_T md d qP_X5_asks 48 [] ls st g M Q = q_T md d qP_X5_asks 49 [.iload 3] ls st g M Q := q_T_next rfl
theorem b_X5_asks_49 : q_T md d qP_X5_asks 49 [] ls st g M Q = q_T md d qP_X5_asks 53 [.invokestatic 53, .ret 0] ls st g M Q := q_T_next rfl
theorem s_X5_stone {w : Nat} {x0 : Int} {x1 : Int} {x2 : Int} : q_S md d 70 [qR 5 w, qI x0, qI x1, qI x2] g M Q = q_T md d qP_X5_stone 0 [] [qR 5 w, qI x0, qI x1, qI x2] [] g M Q := rfl
theorem b_X5_stone_0 : q_T md d qP_X5_stone 0 [] ls st g M Q = q_T md d qP_X5_stone 4 [.iload 1, .ifCond .lt (10)] ls st g M Q := q_T_next rfl
theorem b_X5_stone_4 : q_T md d qP_X5_stone 4 [] ls st g M Q = q_T md d qP_X5_stone 10 [.iload 1, .iconst (60), .if_icmp .lt (13)] ls st g M Q := q_T_next rfl
theorem b_X5_stone_10 : q_T md d qP_X5_stone 10 [] ls st g M Q = q_T md d qP_X5_stone 13 [.iconst (-2), .ret 0] ls st g M Q := q_T_next rfl
theorem b_X5_stone_13 : q_T md d qP_X5_stone 13 [] ls st g M Q = q_T md d qP_X5_stone 17 [.iload 2, .ifCond .lt (33)] ls st g M Q := q_T_next rfl
theorem b_X5_stone_17 : q_T md d qP_X5_stone 17 [] ls st g M Q = q_T md d qP_X5_stone 23 [.iload 2, .iconst (100), .if_icmp .ge (33)] ls st g M Q := q_T_next rfl
theorem b_X5_stone_23 : q_T md d qP_X5_stone 23 [] ls st g M Q = q_T md d qP_X5_stone 27 [.iload 3, .ifCond .lt (33)] ls st g M Q := q_T_next rfl
theorem b_X5_stone_27 : q_T md d qP_X5_stone 27 [] ls st g M Q = q_T md d qP_X5_stone 33 [.iload 3, .iconst (100), .if_icmp .lt (36)] ls st g M Q := q_T_next rfl
theorem b_X5_stone_33 : q_T md d qP_X5_stone 33 [] ls st g M Q = q_T md d qP_X5_stone 36 [.iconst (-2), .ret 0] ls st g M Q := q_T_next rfl
theorem b_X5_stone_36 : q_T md d qP_X5_stone 36 [] ls st g M Q = q_T md d qP_X5_stone 47 [.aload 0, .getfield 503, .iload 1, .iload 2, .iload 3, .invokestatic 50, .ret 0] ls st g M Q := q_T_next rfl
theorem s_X5_put {w : Nat} {x0 : Int} {x1 : Int} {x2 : Int} : q_S md d 71 [qR 5 w, qI x0, qI x1, qI x2] g M Q = q_T md d qP_X5_put 0 [] [qR 5 w, qI x0, qI x1, qI x2, qS 0] [] g M Q := rfl
theorem b_X5_put_0 : q_T md d qP_X5_put 0 [] ls st g M Q = q_T md d qP_X5_put 8 [.aload 0, .iload 1, .invokestatic 98, .ifCond .ne (11)] ls st g M Q := q_T_next rfl
theorem b_X5_put_8 : q_T md d qP_X5_put 8 [] ls st g M Q = q_T md d qP_X5_put 11 [.iconst (-5), .ret 0] ls st g M Q := q_T_next rfl
theorem b_X5_put_11 : q_T md d qP_X5_put 11 [] ls st g M Q = q_T md d qP_X5_put 15 [.iload 2, .ifCond .lt (30)] ls st g M Q := q_T_next rfl
theorem b_X5_put_15 : q_T md d qP_X5_put 15 [] ls st g M Q = q_T md d qP_X5_put 20 [.iload 2, .iconst (1), .if_icmp .gt (30)] ls st g M Q := q_T_next rfl
theorem b_X5_put_20 : q_T md d qP_X5_put 20 [] ls st g M Q = q_T md d qP_X5_put 24 [.iload 3, .ifCond .lt (30)] ls st g M Q := q_T_next rfl
theorem b_X5_put_24 : q_T md d qP_X5_put 24 [] ls st g M Q = q_T md d qP_X5_put 30 [.iload 3, .iconst (99), .if_icmp .le (33)] ls st g M Q := q_T_next rfl
theorem b_X5_put_30 : q_T md d qP_X5_put 30 [] ls st g M Q = q_T md d qP_X5_put 33 [.iconst (-7), .ret 0] ls st g M Q := q_T_next rfl
theorem b_X5_put_33 : q_T md d qP_X5_put 33 [] ls st g M Q = q_T md d qP_X5_put 37 [.iload 2, .ifCond .ne (60)] ls st g M Q := q_T_next rfl
theorem b_X5_put_37 : q_T md d qP_X5_put 37 [] ls st g M Q = q_T md d qP_X5_put 60 [.aload 0, .getfield 503, .getfield 406, .iload 1, .iaload, .istore 4, .aload 0, .getfield 503, .iload 1, .iload 3, .invokestatic 51, .iload 4, .ret 0] ls st g M Q := q_T_next rfl
theorem b_X5_put_60 : q_T md d qP_X5_put 60 [] ls st g M Q = q_T md d qP_X5_put 84 [.aload 0, .getfield 503, .getfield 407, .iload 1, .iaload, .istore 4, .aload 0, .getfield 503, .getfield 407, .iload 1, .iload 3, .iastore, .iload 4, .ret 0] ls st g M Q := q_T_next rfl
theorem s_X5_told {w : Nat} {x0 : Int} {x1 : Int} : q_S md d 72 [qR 5 w, qI x0, qI x1] g M Q = q_T md d qP_X5_told 0 [] [qR 5 w, qI x0, qI x1] [] g M Q := rfl
theorem b_X5_told_0 : q_T md d qP_X5_told 0 [] ls st g M Q = q_T md d qP_X5_told 8 [.aload 0, .iload 1, .invokestatic 98, .ifCond .ne (11)] ls st g M Q := q_T_next rfl
theorem b_X5_told_8 : q_T md d qP_X5_told 8 [] ls st g M Q = q_T md d qP_X5_told 11 [.iconst (-5), .ret 0] ls st g M Q := q_T_next rfl
theorem b_X5_told_11 : q_T md d qP_X5_told 11 [] ls st g M Q = q_T md d qP_X5_told 56 [.iload 2, .tableswitch (133) (0) (6) #[56, 66, 76, 92, 102, 112, 124]] ls st g M Q := q_T_next rfl
theorem b_X5_told_56 : q_T md d qP_X5_told 56 [] ls st g M Q = q_T md d qP_X5_told 66 [.aload 0, .getfield 503, .getfield 406, .iload 1, .iaload, .ret 0] ls st g M Q := q_T_next rfl
theorem b_X5_told_66 : q_T md d qP_X5_told 66 [] ls st g M Q = q_T md d qP_X5_told 76 [.aload 0, .getfield 503, .getfield 407, .iload 1, .iaload, .ret 0] ls st g M Q := q_T_next rfl
theorem b_X5_told_76 : q_T md d qP_X5_told 76 [] ls st g M Q = q_T md d qP_X5_told 92 [.aload 0, .getfield 503, .getfield 400, .getfield 1, .iload 1, .iaload, .invokestatic 100, .ret 0] ls st g M Q := q_T_next rfl
theorem b_X5_told_92 : q_T md d qP_X5_told 92 [] ls st g M Q = q_T md d qP_X5_told 102 [.aload 0, .getfield 503, .getfield 404, .iload 1, .iaload, .ret 0] ls st g M Q := q_T_next rfl
theorem b_X5_told_102 : q_T md d qP_X5_told 102 [] ls st g M Q = q_T md d qP_X5_told 112 [.aload 0, .getfield 503, .getfield 405, .iload 1, .iaload, .ret 0] ls st g M Q := q_T_next rfl
theorem b_X5_told_112 : q_T md d qP_X5_told 112 [] ls st g M Q = q_T md d qP_X5_told 124 [.aload 0, .getfield 503, .iload 1, .invokestatic 58, .invokestatic 100, .ret 0] ls st g M Q := q_T_next rfl
theorem b_X5_told_124 : q_T md d qP_X5_told 124 [] ls st g M Q = q_T md d qP_X5_told 133 [.aload 0, .getfield 503, .iload 1, .invokestatic 56, .ret 0] ls st g M Q := q_T_next rfl
theorem b_X5_told_133 : q_T md d qP_X5_told 133 [] ls st g M Q = q_T md d qP_X5_told 136 [.iconst (-7), .ret 0] ls st g M Q := q_T_next rfl
theorem s_X5_love {w : Nat} {x0 : Int} {x1 : Int} {x2 : Int} : q_S md d 73 [qR 5 w, qI x0, qI x1, qI x2] g M Q = q_T md d qP_X5_love 0 [] [qR 5 w, qI x0, qI x1, qI x2] [] g M Q := rfl
theorem b_X5_love_0 : q_T md d qP_X5_love 0 [] ls st g M Q = q_T md d qP_X5_love 8 [.aload 0, .iload 1, .invokestatic 98, .ifCond .eq (15)] ls st g M Q := q_T_next rfl
theorem b_X5_love_8 : q_T md d qP_X5_love 8 [] ls st g M Q = q_T md d qP_X5_love 15 [.iload 2, .invokestatic 99, .ifCond .ne (19)] ls st g M Q := q_T_next rfl
theorem b_X5_love_15 : q_T md d qP_X5_love 15 [] ls st g M Q = q_T md d qP_X5_love 19 [.iconst (-5000), .ret 0] ls st g M Q := q_T_next rfl
theorem b_X5_love_19 : q_T md d qP_X5_love 19 [] ls st g M Q = q_T md d qP_X5_love 48 [.iload 3, .lookupswitch (68) #[(0, 48), (1, 58)]] ls st g M Q := q_T_next rfl
theorem b_X5_love_48 : q_T md d qP_X5_love 48 [] ls st g M Q = q_T md d qP_X5_love 58 [.aload 0, .getfield 503, .iload 1, .iload 2, .invokestatic 54, .ret 0] ls st g M Q := q_T_next rfl
theorem b_X5_love_58 : q_T md d qP_X5_love 58 [] ls st g M Q = q_T md d qP_X5_love 68 [.aload 0, .getfield 503, .iload 1, .iload 2, .invokestatic 55, .ret 0] ls st g M Q := q_T_next rfl
theorem b_X5_love_68 : q_T md d qP_X5_love 68 [] ls st g M Q = q_T md d qP_X5_love 72 [.iconst (-7000), .ret 0] ls st g M Q := q_T_next rfl
theorem s_X5_year {w : Nat} : q_S md d 74 [qR 5 w] g M Q = q_T md d qP_X5_year 0 [] [qR 5 w] [] g M Q := rfl
theorem b_X5_year_0 : q_T md d qP_X5_year 0 [] ls st g M Q = q_T md d qP_X5_year 13 [.aload 0, .getfield 503, .getfield 409, .iconst (999), .if_icmp .lt (16)] ls st g M Q := q_T_next rfl
theorem b_X5_year_13 : q_T md d qP_X5_year 13 [] ls st g M Q = q_T md d qP_X5_year 16 [.iconst (-3), .ret 0] ls st g M Q := q_T_next rfl
theorem b_X5_year_16 : q_T md d qP_X5_year 16 [] ls st g M Q = q_T md d qP_X5_year 24 [.aload 0, .getfield 503, .invokestatic 59, .ret 0] ls st g M Q := q_T_next rfl
theorem s_X5_run {w : Nat} {x0 : Int} {x1 : Int} : q_S md d 75 [qR 5 w, qI x0, qI x1] g M Q = q_T md d qP_X5_run 0 [] [qR 5 w, qI x0, qI x1, qS 0, qS 0] [] g M Q := rfl
theorem b_X5_run_0 : q_T md d qP_X5_run 0 [] ls st g M Q = q_T md d qP_X5_run 4 [.iload 1, .ifCond .lt (10)] ls st g M Q := q_T_next rfl
theorem b_X5_run_4 : q_T md d qP_X5_run 4 [] ls st g M Q = q_T md d qP_X5_run 10 [.iload 1, .iconst (40), .if_icmp .le (13)] ls st g M Q := q_T_next rfl
theorem b_X5_run_10 : q_T md d qP_X5_run 10 [] ls st g M Q = q_T md d qP_X5_run 13 [.iconst (-2), .ret 0] ls st g M Q := q_T_next rfl
theorem b_X5_run_13 : q_T md d qP_X5_run 13 [] ls st g M Q = q_T md d qP_X5_run 17 [.iload 2, .ifCond .eq (22)] ls st g M Q := q_T_next rfl
theorem b_X5_run_17 : q_T md d qP_X5_run 17 [] ls st g M Q = q_T md d qP_X5_run 22 [.iload 2, .iconst (1), .if_icmp .ne (26)] ls st g M Q := q_T_next rfl
theorem b_X5_run_22 : q_T md d qP_X5_run 22 [] ls st g M Q = q_T md d qP_X5_run 26 [.iconst (1), .goto (27)] ls st g M Q := q_T_next rfl
theorem b_X5_run_26 : q_T md d qP_X5_run 26 [] ls st g M Q = q_T md d qP_X5_run 27 [.iconst (0)] ls st g M Q := q_T_next rfl
theorem b_X5_run_27 : q_T md d qP_X5_run 27 [] ls st g M Q = q_T md d qP_X5_run 32 [.istore 3, .iload 3, .ifCond .ne (46)] ls st g M Q := q_T_next rfl
theorem b_X5_run_32 : q_T md d qP_X5_run 32 [] ls st g M Q = q_T md d qP_X5_run 43 [.aload 0, .iload 2, .iconst (10), .isub, .invokestatic 98, .ifCond .ne (46)] ls st g M Q := q_T_next rfl
theorem b_X5_run_43 : q_T md d qP_X5_run 43 [] ls st g M Q = q_T md d qP_X5_run 46 [.iconst (-2), .ret 0] ls st g M Q := q_T_next rfl
theorem b_X5_run_46 : q_T md d qP_X5_run 46 [] ls st g M Q = q_T md d qP_X5_run 60 [.aload 0, .getfield 504, .aload 0, .getfield 503, .invokestatic 49, .iconst (0), .istore 4] ls st g M Q := q_T_next rfl
theorem b_X5_run_60 : q_T md d qP_X5_run 60 [] ls st g M Q = q_T md d qP_X5_run 66 [.iload 4, .iload 1, .if_icmp .ge (80)] ls st g M Q := q_T_next rfl
theorem b_X5_run_66 : q_T md d qP_X5_run 66 [] ls st g M Q = q_T md d qP_X5_run 80 [.aload 0, .getfield 504, .invokestatic 59, .pop, .iinc 4 (1), .goto (60)] ls st g M Q := q_T_next rfl
theorem b_X5_run_80 : q_T md d qP_X5_run 80 [] ls st g M Q = q_T md d qP_X5_run 84 [.iload 3, .ifCond .eq (112)] ls st g M Q := q_T_next rfl
theorem b_X5_run_84 : q_T md d qP_X5_run 84 [] ls st g M Q = q_T md d qP_X5_run 88 [.iload 2, .ifCond .ne (101)] ls st g M Q := q_T_next rfl
theorem b_X5_run_88 : q_T md d qP_X5_run 88 [] ls st g M Q = q_T md d qP_X5_run 101 [.aload 0, .getfield 504, .getfield 400, .invokestatic 6, .goto (111)] ls st g M Q := q_T_next rfl
theorem b_X5_run_101 : q_T md d qP_X5_run 101 [] ls st g M Q = q_T md d qP_X5_run 111 [.aload 0, .getfield 504, .getfield 400, .invokestatic 3] ls st g M Q := q_T_next rfl
theorem b_X5_run_111 : q_T md d qP_X5_run 111 [] ls st g M Q = q_T md d qP_X5_run 112 [.ret 0] ls st g M Q := q_T_next rfl
theorem b_X5_run_112 : q_T md d qP_X5_run 112 [] ls st g M Q = q_T md d qP_X5_run 125 [.aload 0, .getfield 504, .getfield 406, .iload 2, .iconst (10), .isub, .iaload, .ret 0] ls st g M Q := q_T_next rfl
theorem s_X5_when {w : Nat} {x0 : Int} {x1 : Int} : q_S md d 76 [qR 5 w, qI x0, qI x1] g M Q = q_T md d qP_X5_when 0 [] [qR 5 w, qI x0, qI x1] [] g M Q := rfl
theorem b_X5_when_0 : q_T md d qP_X5_when 0 [] ls st g M Q = q_T md d qP_X5_when 8 [.aload 0, .iload 1, .invokestatic 98, .ifCond .ne (11)] ls st g M Q := q_T_next rfl
theorem b_X5_when_8 : q_T md d qP_X5_when 8 [] ls st g M Q = q_T md d qP_X5_when 11 [.iconst (-5), .ret 0] ls st g M Q := q_T_next rfl
theorem b_X5_when_11 : q_T md d qP_X5_when 11 [] ls st g M Q = q_T md d qP_X5_when 16 [.iload 2, .iconst (-1), .if_icmp .eq (26)] ls st g M Q := q_T_next rfl
theorem b_X5_when_16 : q_T md d qP_X5_when 16 [] ls st g M Q = q_T md d qP_X5_when 23 [.iload 2, .invokestatic 99, .ifCond .ne (26)] ls st g M Q := q_T_next rfl
theorem b_X5_when_23 : q_T md d qP_X5_when 23 [] ls st g M Q = q_T md d qP_X5_when 26 [.iconst (-7), .ret 0] ls st g M Q := q_T_next rfl
theorem b_X5_when_26 : q_T md d qP_X5_when 26 [] ls st g M Q = q_T md d qP_X5_when 46 [.aload 0, .getfield 504, .aload 0, .getfield 503, .invokestatic 49, .aload 0, .iload 1, .iload 2, .iconst (60), .invokestatic 106, .ret 0] ls st g M Q := q_T_next rfl
theorem s_X5_peace {w : Nat} {x0 : Int} : q_S md d 77 [qR 5 w, qI x0] g M Q = q_T md d qP_X5_peace 0 [] [qR 5 w, qI x0] [] g M Q := rfl
theorem b_X5_peace_0 : q_T md d qP_X5_peace 0 [] ls st g M Q = q_T md d qP_X5_peace 4 [.iload 1, .ifCond .lt (9)] ls st g M Q := q_T_next rfl
theorem b_X5_peace_4 : q_T md d qP_X5_peace 4 [] ls st g M Q = q_T md d qP_X5_peace 9 [.iload 1, .iconst (2), .if_icmp .le (12)] ls st g M Q := q_T_next rfl
theorem b_X5_peace_9 : q_T md d qP_X5_peace 9 [] ls st g M Q = q_T md d qP_X5_peace 12 [.iconst (-100000), .ret 0] ls st g M Q := q_T_next rfl
theorem b_X5_peace_12 : q_T md d qP_X5_peace 12 [] ls st g M Q = q_T md d qP_X5_peace 48 [.aload 0, .getfield 503, .invokestatic 57, .iload 1, .lookupswitch (70) #[(0, 48), (1, 59)]] ls st g M Q := q_T_next rfl
theorem b_X5_peace_48 : q_T md d qP_X5_peace 48 [] ls st g M Q = q_T md d qP_X5_peace 59 [.aload 0, .getfield 503, .getfield 400, .invokestatic 17, .ret 0] ls st g M Q := q_T_next rfl
theorem b_X5_peace_59 : q_T md d qP_X5_peace 59 [] ls st g M Q = q_T md d qP_X5_peace 70 [.aload 0, .getfield 503, .getfield 400, .invokestatic 7, .ret 0] ls st g M Q := q_T_next rfl
theorem b_X5_peace_70 : q_T md d qP_X5_peace 70 [] ls st g M Q = q_T md d qP_X5_peace 81 [.aload 0, .getfield 503, .getfield 400, .invokestatic 8, .ret 0] ls st g M Q := q_T_next rfl
theorem s_X5_court {w : Nat} {x0 : Int} : q_S md d 78 [qR 5 w, qI x0] g M Q = q_T md d qP_X5_court 0 [] [qR 5 w, qI x0] [] g M Q := rfl
theorem b_X5_court_0 : q_T md d qP_X5_court 0 [] ls st g M Q = q_T md d qP_X5_court 4 [.iload 1, .ifCond .lt (9)] ls st g M Q := q_T_next rfl
theorem b_X5_court_4 : q_T md d qP_X5_court 4 [] ls st g M Q = q_T md d qP_X5_court 9 [.iload 1, .iconst (2), .if_icmp .le (12)] ls st g M Q := q_T_next rfl
theorem b_X5_court_9 : q_T md d qP_X5_court 9 [] ls st g M Q = q_T md d qP_X5_court 12 [.iconst (-100000), .ret 0] ls st g M Q := q_T_next rfl
theorem b_X5_court_12 : q_T md d qP_X5_court 12 [] ls st g M Q = q_T md d qP_X5_court 68 [.aload 0, .getfield 504, .aload 0, .getfield 503, .invokestatic 49, .aload 0, .getfield 504, .invokestatic 57, .aload 0, .getfield 504, .getfield 400, .invokestatic 15, .iload 1, .lookupswitch (90) #[(0, 68), (1, 79)]] ls st g M Q := q_T_next rfl
theorem b_X5_court_68 : q_T md d qP_X5_court 68 [] ls st g M Q = q_T md d qP_X5_court 79 [.aload 0, .getfield 504, .getfield 400, .invokestatic 6, .ret 0] ls st g M Q := q_T_next rfl
theorem b_X5_court_79 : q_T md d qP_X5_court 79 [] ls st g M Q = q_T md d qP_X5_court 90 [.aload 0, .getfield 504, .getfield 400, .invokestatic 7, .ret 0] ls st g M Q := q_T_next rfl
theorem b_X5_court_90 : q_T md d qP_X5_court 90 [] ls st g M Q = q_T md d qP_X5_court 101 [.aload 0, .getfield 504, .getfield 400, .invokestatic 8, .ret 0] ls st g M Q := q_T_next rfl
theorem s_X5_all {w : Nat} {x0 : Int} : q_S md d 79 [qR 5 w, qI x0] g M Q = q_T md d qP_X5_all 0 [] [qR 5 w, qI x0, qS 0, qS 0, qS 0, qS 0, qS 0, qS 0, qS 0, qS 0] [] g M Q := rfl
theorem b_X5_all_0 : q_T md d qP_X5_all 0 [] ls st g M Q = q_T md d qP_X5_all 4 [.iload 1, .ifCond .lt (9)] ls st g M Q := q_T_next rfl
theorem b_X5_all_4 : q_T md d qP_X5_all 4 [] ls st g M Q = q_T md d qP_X5_all 9 [.iload 1, .iconst (4), .if_icmp .le (12)] ls st g M Q := q_T_next rfl
theorem b_X5_all_9 : q_T md d qP_X5_all 9 [] ls st g M Q = q_T md d qP_X5_all 12 [.iconst (-100000), .ret 0] ls st g M Q := q_T_next rfl
theorem b_X5_all_12 : q_T md d qP_X5_all 12 [] ls st g M Q = q_T md d qP_X5_all 47 [.aload 0, .getfield 504, .aload 0, .getfield 503, .invokestatic 49, .aload 0, .getfield 504, .invokestatic 57, .aload 0, .getfield 504, .getfield 400, .astore 2, .aload 2, .invokestatic 2, .iload 1, .iconst (3), .if_icmp .ge (51)] ls st g M Q := q_T_next rfl
theorem b_X5_all_47 : q_T md d qP_X5_all 47 [] ls st g M Q = q_T md d qP_X5_all 51 [.iconst (1), .goto (52)] ls st g M Q := q_T_next rfl
theorem b_X5_all_51 : q_T md d qP_X5_all 51 [] ls st g M Q = q_T md d qP_X5_all 52 [.iconst (0)] ls st g M Q := q_T_next rfl
theorem b_X5_all_52 : q_T md d qP_X5_all 52 [] ls st g M Q = q_T md d qP_X5_all 68 [.istore 3, .iconst (0), .istore 4, .iconst (-1), .istore 5, .iconst (0), .istore 6, .iconst (1), .istore 7, .iconst (0), .istore 8] ls st g M Q := q_T_next rfl
theorem b_X5_all_68 : q_T md d qP_X5_all 68 [] ls st g M Q = q_T md d qP_X5_all 73 [.iload 7, .ifCond .eq (142)] ls st g M Q := q_T_next rfl
theorem b_X5_all_73 : q_T md d qP_X5_all 73 [] ls st g M Q = q_T md d qP_X5_all 81 [.iload 8, .iconst (7776), .if_icmp .ge (142)] ls st g M Q := q_T_next rfl
theorem b_X5_all_81 : q_T md d qP_X5_all 81 [] ls st g M Q = q_T md d qP_X5_all 88 [.aload 2, .invokestatic 18, .ifCond .eq (130)] ls st g M Q := q_T_next rfl
theorem b_X5_all_88 : q_T md d qP_X5_all 88 [] ls st g M Q = q_T md d qP_X5_all 92 [.iload 3, .ifCond .eq (99)] ls st g M Q := q_T_next rfl
theorem b_X5_all_92 : q_T md d qP_X5_all 92 [] ls st g M Q = q_T md d qP_X5_all 99 [.aload 2, .invokestatic 17, .ifCond .ge (130)] ls st g M Q := q_T_next rfl
theorem b_X5_all_99 : q_T md d qP_X5_all 99 [] ls st g M Q = q_T md d qP_X5_all 110 [.aload 2, .invokestatic 7, .istore 9, .iload 4, .ifCond .eq (117)] ls st g M Q := q_T_next rfl
theorem b_X5_all_110 : q_T md d qP_X5_all 110 [] ls st g M Q = q_T md d qP_X5_all 117 [.iload 9, .iload 6, .if_icmp .le (127)] ls st g M Q := q_T_next rfl
theorem b_X5_all_117 : q_T md d qP_X5_all 117 [] ls st g M Q = q_T md d qP_X5_all 127 [.aload 2, .invokestatic 6, .istore 5, .iload 9, .istore 6] ls st g M Q := q_T_next rfl
theorem b_X5_all_127 : q_T md d qP_X5_all 127 [] ls st g M Q = q_T md d qP_X5_all 130 [.iinc 4 (1)] ls st g M Q := q_T_next rfl
theorem b_X5_all_130 : q_T md d qP_X5_all 130 [] ls st g M Q = q_T md d qP_X5_all 142 [.aload 2, .invokestatic 19, .istore 7, .iinc 8 (1), .goto (68)] ls st g M Q := q_T_next rfl
theorem b_X5_all_142 : q_T md d qP_X5_all 142 [] ls st g M Q = q_T md d qP_X5_all 146 [.iload 1, .ifCond .ne (149)] ls st g M Q := q_T_next rfl
theorem b_X5_all_146 : q_T md d qP_X5_all 146 [] ls st g M Q = q_T md d qP_X5_all 149 [.iload 4, .ret 0] ls st g M Q := q_T_next rfl
theorem b_X5_all_149 : q_T md d qP_X5_all 149 [] ls st g M Q = q_T md d qP_X5_all 154 [.iload 1, .iconst (1), .if_icmp .eq (159)] ls st g M Q := q_T_next rfl
theorem b_X5_all_154 : q_T md d qP_X5_all 154 [] ls st g M Q = q_T md d qP_X5_all 159 [.iload 1, .iconst (3), .if_icmp .ne (164)] ls st g M Q := q_T_next rfl
theorem b_X5_all_159 : q_T md d qP_X5_all 159 [] ls st g M Q = q_T md d qP_X5_all 164 [.iload 5, .goto (166)] ls st g M Q := q_T_next rfl
theorem b_X5_all_164 : q_T md d qP_X5_all 164 [] ls st g M Q = q_T md d qP_X5_all 166 [.iload 6] ls st g M Q := q_T_next rfl
theorem b_X5_all_166 : q_T md d qP_X5_all 166 [] ls st g M Q = q_T md d qP_X5_all 167 [.ret 0] ls st g M Q := q_T_next rfl
theorem s_X5_annex {w : Nat} {x0 : Int} : q_S md d 80 [qR 5 w, qI x0] g M Q = q_T md d qP_X5_annex 0 [] [qR 5 w, qI x0, qS 0, qS 0, qS 0, qS 0] [] g M Q := rfl
theorem b_X5_annex_0 : q_T md d qP_X5_annex 0 [] ls st g M Q = q_T md d qP_X5_annex 4 [.iload 1, .ifCond .lt (9)] ls st g M Q := q_T_next rfl
theorem b_X5_annex_4 : q_T md d qP_X5_annex 4 [] ls st g M Q = q_T md d qP_X5_annex 9 [.iload 1, .iconst (1), .if_icmp .le (12)] ls st g M Q := q_T_next rfl
theorem b_X5_annex_9 : q_T md d qP_X5_annex 9 [] ls st g M Q = q_T md d qP_X5_annex 12 [.iconst (-100000), .ret 0] ls st g M Q := q_T_next rfl
theorem b_X5_annex_12 : q_T md d qP_X5_annex 12 [] ls st g M Q = q_T md d qP_X5_annex 37 [.aload 0, .getfield 504, .aload 0, .getfield 503, .invokestatic 49, .aload 0, .getfield 504, .invokestatic 57, .iconst (-1), .istore 2, .iconst (0), .istore 3, .iconst (0), .istore 4] ls st g M Q := q_T_next rfl
theorem b_X5_annex_37 : q_T md d qP_X5_annex 37 [] ls st g M Q = q_T md d qP_X5_annex 43 [.iload 4, .iconst (5), .if_icmp .ge (122)] ls st g M Q := q_T_next rfl
theorem b_X5_annex_43 : q_T md d qP_X5_annex 43 [] ls st g M Q = q_T md d qP_X5_annex 104 [.aload 0, .getfield 504, .getfield 400, .getfield 0, .iload 4, .dup2, .iaload, .iconst (1), .iadd, .iastore, .aload 0, .getfield 504, .getfield 400, .invokestatic 15, .aload 0, .getfield 504, .getfield 400, .getfield 0, .iload 4, .dup2, .iaload, .iconst (1), .isub, .iastore, .aload 0, .getfield 504, .getfield 400, .invokestatic 7, .istore 5, .iload 2, .iconst (-1), .if_icmp .eq (110)] ls st g M Q := q_T_next rfl
theorem b_X5_annex_104 : q_T md d qP_X5_annex 104 [] ls st g M Q = q_T md d qP_X5_annex 110 [.iload 5, .iload 3, .if_icmp .le (116)] ls st g M Q := q_T_next rfl
theorem b_X5_annex_110 : q_T md d qP_X5_annex 110 [] ls st g M Q = q_T md d qP_X5_annex 116 [.iload 4, .istore 2, .iload 5, .istore 3] ls st g M Q := q_T_next rfl
theorem b_X5_annex_116 : q_T md d qP_X5_annex 116 [] ls st g M Q = q_T md d qP_X5_annex 122 [.iinc 4 (1), .goto (37)] ls st g M Q := q_T_next rfl
theorem b_X5_annex_122 : q_T md d qP_X5_annex 122 [] ls st g M Q = q_T md d qP_X5_annex 126 [.iload 1, .ifCond .ne (130)] ls st g M Q := q_T_next rfl
theorem b_X5_annex_126 : q_T md d qP_X5_annex 126 [] ls st g M Q = q_T md d qP_X5_annex 130 [.iload 2, .goto (131)] ls st g M Q := q_T_next rfl
theorem b_X5_annex_130 : q_T md d qP_X5_annex 130 [] ls st g M Q = q_T md d qP_X5_annex 131 [.iload 3] ls st g M Q := q_T_next rfl
theorem b_X5_annex_131 : q_T md d qP_X5_annex 131 [] ls st g M Q = q_T md d qP_X5_annex 132 [.ret 0] ls st g M Q := q_T_next rfl
theorem s_X5_cart {w : Nat} {x0 : Int} {x1 : Int} : q_S md d 81 [qR 5 w, qI x0, qI x1] g M Q = q_T md d qP_X5_cart 0 [] [qR 5 w, qI x0, qI x1, qS 0, qS 0, qS 0, qS 0] [] g M Q := rfl
theorem b_X5_cart_0 : q_T md d qP_X5_cart 0 [] ls st g M Q = q_T md d qP_X5_cart 8 [.aload 0, .iload 1, .invokestatic 98, .ifCond .ne (11)] ls st g M Q := q_T_next rfl
theorem b_X5_cart_8 : q_T md d qP_X5_cart 8 [] ls st g M Q = q_T md d qP_X5_cart 11 [.iconst (-5), .ret 0] ls st g M Q := q_T_next rfl
theorem b_X5_cart_11 : q_T md d qP_X5_cart 11 [] ls st g M Q = q_T md d qP_X5_cart 15 [.iload 2, .ifCond .lt (20)] ls st g M Q := q_T_next rfl
theorem b_X5_cart_15 : q_T md d qP_X5_cart 15 [] ls st g M Q = q_T md d qP_X5_cart 20 [.iload 2, .iconst (1), .if_icmp .le (23)] ls st g M Q := q_T_next rfl
theorem b_X5_cart_20 : q_T md d qP_X5_cart 20 [] ls st g M Q = q_T md d qP_X5_cart 23 [.iconst (-7), .ret 0] ls st g M Q := q_T_next rfl
theorem b_X5_cart_23 : q_T md d qP_X5_cart 23 [] ls st g M Q = q_T md d qP_X5_cart 32 [.iconst (-1), .istore 3, .iconst (61), .istore 4, .iconst (0), .istore 5] ls st g M Q := q_T_next rfl
theorem b_X5_cart_32 : q_T md d qP_X5_cart 32 [] ls st g M Q = q_T md d qP_X5_cart 39 [.iload 5, .iconst (100), .if_icmp .ge (90)] ls st g M Q := q_T_next rfl
theorem b_X5_cart_39 : q_T md d qP_X5_cart 39 [] ls st g M Q = q_T md d qP_X5_cart 77 [.aload 0, .getfield 504, .aload 0, .getfield 503, .invokestatic 49, .aload 0, .getfield 504, .iload 1, .iload 5, .invokestatic 51, .aload 0, .iload 1, .iconst (-1), .iload 4, .iconst (1), .isub, .invokestatic 106, .istore 6, .iload 6, .ifCond .lt (84)] ls st g M Q := q_T_next rfl
theorem b_X5_cart_77 : q_T md d qP_X5_cart 77 [] ls st g M Q = q_T md d qP_X5_cart 84 [.iload 5, .istore 3, .iload 6, .istore 4] ls st g M Q := q_T_next rfl
theorem b_X5_cart_84 : q_T md d qP_X5_cart 84 [] ls st g M Q = q_T md d qP_X5_cart 90 [.iinc 5 (1), .goto (32)] ls st g M Q := q_T_next rfl
theorem b_X5_cart_90 : q_T md d qP_X5_cart 90 [] ls st g M Q = q_T md d qP_X5_cart 95 [.iload 3, .iconst (-1), .if_icmp .ne (97)] ls st g M Q := q_T_next rfl
theorem b_X5_cart_95 : q_T md d qP_X5_cart 95 [] ls st g M Q = q_T md d qP_X5_cart 97 [.iconst (-1), .ret 0] ls st g M Q := q_T_next rfl
theorem b_X5_cart_97 : q_T md d qP_X5_cart 97 [] ls st g M Q = q_T md d qP_X5_cart 101 [.iload 2, .ifCond .ne (105)] ls st g M Q := q_T_next rfl
theorem b_X5_cart_101 : q_T md d qP_X5_cart 101 [] ls st g M Q = q_T md d qP_X5_cart 105 [.iload 3, .goto (107)] ls st g M Q := q_T_next rfl
theorem b_X5_cart_105 : q_T md d qP_X5_cart 105 [] ls st g M Q = q_T md d qP_X5_cart 107 [.iload 4] ls st g M Q := q_T_next rfl
theorem b_X5_cart_107 : q_T md d qP_X5_cart 107 [] ls st g M Q = q_T md d qP_X5_cart 108 [.ret 0] ls st g M Q := q_T_next rfl
theorem s_X5_share {w : Nat} {x0 : Int} : q_S md d 82 [qR 5 w, qI x0] g M Q = q_T md d qP_X5_share 0 [] [qR 5 w, qI x0, qS 0, qS 0, qS 0] [] g M Q := rfl
theorem b_X5_share_0 : q_T md d qP_X5_share 0 [] ls st g M Q = q_T md d qP_X5_share 4 [.iload 1, .ifCond .lt (9)] ls st g M Q := q_T_next rfl
theorem b_X5_share_4 : q_T md d qP_X5_share 4 [] ls st g M Q = q_T md d qP_X5_share 9 [.iload 1, .iconst (1), .if_icmp .le (13)] ls st g M Q := q_T_next rfl
theorem b_X5_share_9 : q_T md d qP_X5_share 9 [] ls st g M Q = q_T md d qP_X5_share 13 [.jsr (-4611686018427387904), .lreturn] ls st g M Q := q_T_next rfl
theorem b_X5_share_13 : q_T md d qP_X5_share 13 [] ls st g M Q = q_T md d qP_X5_share 20 [.iconst (0), .istore 2, .iconst (0), .istore 3, .iconst (0), .istore 4] ls st g M Q := q_T_next rfl
theorem b_X5_share_20 : q_T md d qP_X5_share 20 [] ls st g M Q = q_T md d qP_X5_share 35 [.iload 4, .aload 0, .getfield 503, .getfield 400, .getfield 5, .if_icmp .ge (88)] ls st g M Q := q_T_next rfl
theorem b_X5_share_35 : q_T md d qP_X5_share 35 [] ls st g M Q = q_T md d qP_X5_share 66 [.iload 3, .aload 0, .getfield 503, .getfield 407, .iload 4, .iaload, .iadd, .istore 3, .iload 2, .aload 0, .getfield 503, .getfield 400, .getfield 1, .iload 4, .iaload, .iconst (5), .if_icmp .ne (70)] ls st g M Q := q_T_next rfl
theorem b_X5_share_66 : q_T md d qP_X5_share 66 [] ls st g M Q = q_T md d qP_X5_share 70 [.iconst (0), .goto (80)] ls st g M Q := q_T_next rfl
theorem b_X5_share_70 : q_T md d qP_X5_share 70 [] ls st g M Q = q_T md d qP_X5_share 80 [.aload 0, .getfield 503, .getfield 407, .iload 4, .iaload] ls st g M Q := q_T_next rfl
theorem b_X5_share_80 : q_T md d qP_X5_share 80 [] ls st g M Q = q_T md d qP_X5_share 88 [.iadd, .istore 2, .iinc 4 (1), .goto (20)] ls st g M Q := q_T_next rfl
theorem b_X5_share_88 : q_T md d qP_X5_share 88 [] ls st g M Q = q_T md d qP_X5_share 95 [.iload 2, .iload 3, .iload 1, .invokestatic 108, .lreturn] ls st g M Q := q_T_next rfl
theorem s_X5_judge {w : Nat} {x0 : Int} {x1 : Int} : q_S md d 83 [qR 5 w, qI x0, qI x1] g M Q = q_T md d qP_X5_judge 0 [] [qR 5 w, qI x0, qI x1, qS 0] [] g M Q := rfl
theorem b_X5_judge_0 : q_T md d qP_X5_judge 0 [] ls st g M Q = q_T md d qP_X5_judge 10 [.aload 0, .iload 1, .invokestatic 104, .istore 3, .iload 3, .ifCond .eq (12)] ls st g M Q := q_T_next rfl
theorem b_X5_judge_10 : q_T md d qP_X5_judge 10 [] ls st g M Q = q_T md d qP_X5_judge 12 [.iload 3, .ret 0] ls st g M Q := q_T_next rfl
theorem b_X5_judge_12 : q_T md d qP_X5_judge 12 [] ls st g M Q = q_T md d qP_X5_judge 20 [.aload 0, .iload 2, .invokestatic 98, .ifCond .ne (23)] ls st g M Q := q_T_next rfl
theorem b_X5_judge_20 : q_T md d qP_X5_judge 20 [] ls st g M Q = q_T md d qP_X5_judge 23 [.iconst (-5), .ret 0] ls st g M Q := q_T_next rfl
theorem b_X5_judge_23 : q_T md d qP_X5_judge 23 [] ls st g M Q = q_T md d qP_X5_judge 41 [.aload 0, .getfield 504, .aload 0, .getfield 503, .invokestatic 49, .aload 0, .iload 1, .iload 2, .invokestatic 105, .ret 0] ls st g M Q := q_T_next rfl
theorem s_X5_kinds {w : Nat} {x0 : Int} {x1 : Int} {x2 : Int} : q_S md d 84 [qR 5 w, qI x0, qI x1, qI x2] g M Q = q_T md d qP_X5_kinds 0 [] [qR 5 w, qI x0, qI x1, qI x2, qS 0, qS 0, qS 0, qS 0] [] g M Q := rfl
theorem b_X5_kinds_0 : q_T md d qP_X5_kinds 0 [] ls st g M Q = q_T md d qP_X5_kinds 12 [.aload 0, .iload 1, .invokestatic 104, .istore 4, .iload 4, .ifCond .eq (15)] ls st g M Q := q_T_next rfl
theorem b_X5_kinds_12 : q_T md d qP_X5_kinds 12 [] ls st g M Q = q_T md d qP_X5_kinds 15 [.iload 4, .ret 0] ls st g M Q := q_T_next rfl
theorem b_X5_kinds_15 : q_T md d qP_X5_kinds 15 [] ls st g M Q = q_T md d qP_X5_kinds 23 [.aload 0, .iload 2, .invokestatic 98, .ifCond .ne (26)] ls st g M Q := q_T_next rfl
theorem b_X5_kinds_23 : q_T md d qP_X5_kinds 23 [] ls st g M Q = q_T md d qP_X5_kinds 26 [.iconst (-5), .ret 0] ls st g M Q := q_T_next rfl
theorem b_X5_kinds_26 : q_T md d qP_X5_kinds 26 [] ls st g M Q = q_T md d qP_X5_kinds 30 [.iload 3, .ifCond .lt (35)] ls st g M Q := q_T_next rfl
theorem b_X5_kinds_30 : q_T md d qP_X5_kinds 30 [] ls st g M Q = q_T md d qP_X5_kinds 35 [.iload 3, .iconst (1), .if_icmp .le (38)] ls st g M Q := q_T_next rfl
theorem b_X5_kinds_35 : q_T md d qP_X5_kinds 35 [] ls st g M Q = q_T md d qP_X5_kinds 38 [.iconst (-7), .ret 0] ls st g M Q := q_T_next rfl
theorem b_X5_kinds_38 : q_T md d qP_X5_kinds 38 [] ls st g M Q = q_T md d qP_X5_kinds 45 [.iconst (0), .istore 5, .iload 3, .ifCond .ne (50)] ls st g M Q := q_T_next rfl
theorem b_X5_kinds_45 : q_T md d qP_X5_kinds 45 [] ls st g M Q = q_T md d qP_X5_kinds 50 [.iconst (6), .goto (52)] ls st g M Q := q_T_next rfl
theorem b_X5_kinds_50 : q_T md d qP_X5_kinds 50 [] ls st g M Q = q_T md d qP_X5_kinds 52 [.iconst (10)] ls st g M Q := q_T_next rfl
theorem b_X5_kinds_52 : q_T md d qP_X5_kinds 52 [] ls st g M Q = q_T md d qP_X5_kinds 57 [.istore 6, .iconst (0), .istore 7] ls st g M Q := q_T_next rfl
theorem b_X5_kinds_57 : q_T md d qP_X5_kinds 57 [] ls st g M Q = q_T md d qP_X5_kinds 64 [.iload 7, .iload 6, .if_icmp .ge (129)] ls st g M Q := q_T_next rfl
theorem b_X5_kinds_64 : q_T md d qP_X5_kinds 64 [] ls st g M Q = q_T md d qP_X5_kinds 79 [.aload 0, .getfield 504, .aload 0, .getfield 503, .invokestatic 49, .iload 3, .ifCond .ne (93)] ls st g M Q := q_T_next rfl
theorem b_X5_kinds_79 : q_T md d qP_X5_kinds 79 [] ls st g M Q = q_T md d qP_X5_kinds 93 [.aload 0, .getfield 504, .getfield 404, .iload 2, .iload 7, .iastore, .goto (104)] ls st g M Q := q_T_next rfl
theorem b_X5_kinds_93 : q_T md d qP_X5_kinds 93 [] ls st g M Q = q_T md d qP_X5_kinds 104 [.aload 0, .getfield 504, .getfield 405, .iload 2, .iload 7, .iastore] ls st g M Q := q_T_next rfl
theorem b_X5_kinds_104 : q_T md d qP_X5_kinds 104 [] ls st g M Q = q_T md d qP_X5_kinds 114 [.aload 0, .iload 1, .iload 2, .invokestatic 105, .iconst (-1), .if_icmp .ne (123)] ls st g M Q := q_T_next rfl
theorem b_X5_kinds_114 : q_T md d qP_X5_kinds 114 [] ls st g M Q = q_T md d qP_X5_kinds 123 [.iload 5, .iconst (1), .iload 7, .ishl, .ior, .istore 5] ls st g M Q := q_T_next rfl
theorem b_X5_kinds_123 : q_T md d qP_X5_kinds 123 [] ls st g M Q = q_T md d qP_X5_kinds 129 [.iinc 7 (1), .goto (57)] ls st g M Q := q_T_next rfl
theorem b_X5_kinds_129 : q_T md d qP_X5_kinds 129 [] ls st g M Q = q_T md d qP_X5_kinds 132 [.iload 5, .ret 0] ls st g M Q := q_T_next rfl
theorem s_X5_states {w : Nat} {x0 : Int} {x1 : Int} {x2 : Int} {x3 : Int} : q_S md d 85 [qR 5 w, qI x0, qI x1, qI x2, qI x3] g M Q = q_T md d qP_X5_states 0 [] [qR 5 w, qI x0, qI x1, qI x2, qI x3, qS 0, qS 0, qS 0, qS 0] [] g M Q := rfl
theorem b_X5_states_0 : q_T md d qP_X5_states 0 [] ls st g M Q = q_T md d qP_X5_states 12 [.aload 0, .iload 1, .invokestatic 104, .istore 5, .iload 5, .ifCond .eq (15)] ls st g M Q := q_T_next rfl
theorem b_X5_states_12 : q_T md d qP_X5_states 12 [] ls st g M Q = q_T md d qP_X5_states 15 [.iload 5, .ret 0] ls st g M Q := q_T_next rfl
theorem b_X5_states_15 : q_T md d qP_X5_states 15 [] ls st g M Q = q_T md d qP_X5_states 23 [.aload 0, .iload 2, .invokestatic 98, .ifCond .ne (26)] ls st g M Q := q_T_next rfl
theorem b_X5_states_23 : q_T md d qP_X5_states 23 [] ls st g M Q = q_T md d qP_X5_states 26 [.iconst (-5), .ret 0] ls st g M Q := q_T_next rfl
theorem b_X5_states_26 : q_T md d qP_X5_states 26 [] ls st g M Q = q_T md d qP_X5_states 30 [.iload 3, .ifCond .lt (46)] ls st g M Q := q_T_next rfl
theorem b_X5_states_30 : q_T md d qP_X5_states 30 [] ls st g M Q = q_T md d qP_X5_states 35 [.iload 3, .iconst (1), .if_icmp .gt (46)] ls st g M Q := q_T_next rfl
theorem b_X5_states_35 : q_T md d qP_X5_states 35 [] ls st g M Q = q_T md d qP_X5_states 40 [.iload 4, .ifCond .lt (46)] ls st g M Q := q_T_next rfl
theorem b_X5_states_40 : q_T md d qP_X5_states 40 [] ls st g M Q = q_T md d qP_X5_states 46 [.iload 4, .iconst (1), .if_icmp .le (49)] ls st g M Q := q_T_next rfl
theorem b_X5_states_46 : q_T md d qP_X5_states 46 [] ls st g M Q = q_T md d qP_X5_states 49 [.iconst (-7), .ret 0] ls st g M Q := q_T_next rfl
theorem b_X5_states_49 : q_T md d qP_X5_states 49 [] ls st g M Q = q_T md d qP_X5_states 58 [.iconst (0), .istore 6, .iconst (-1), .istore 7, .iconst (0), .istore 8] ls st g M Q := q_T_next rfl
theorem b_X5_states_58 : q_T md d qP_X5_states 58 [] ls st g M Q = q_T md d qP_X5_states 65 [.iload 8, .iconst (99), .if_icmp .gt (139)] ls st g M Q := q_T_next rfl
theorem b_X5_states_65 : q_T md d qP_X5_states 65 [] ls st g M Q = q_T md d qP_X5_states 80 [.aload 0, .getfield 504, .aload 0, .getfield 503, .invokestatic 49, .iload 3, .ifCond .ne (94)] ls st g M Q := q_T_next rfl
theorem b_X5_states_80 : q_T md d qP_X5_states 80 [] ls st g M Q = q_T md d qP_X5_states 94 [.aload 0, .getfield 504, .getfield 406, .iload 2, .iload 8, .iastore, .goto (105)] ls st g M Q := q_T_next rfl
theorem b_X5_states_94 : q_T md d qP_X5_states 94 [] ls st g M Q = q_T md d qP_X5_states 105 [.aload 0, .getfield 504, .getfield 407, .iload 2, .iload 8, .iastore] ls st g M Q := q_T_next rfl
theorem b_X5_states_105 : q_T md d qP_X5_states 105 [] ls st g M Q = q_T md d qP_X5_states 115 [.aload 0, .iload 1, .iload 2, .invokestatic 105, .iconst (-1), .if_icmp .ne (133)] ls st g M Q := q_T_next rfl
theorem b_X5_states_115 : q_T md d qP_X5_states 115 [] ls st g M Q = q_T md d qP_X5_states 124 [.iinc 6 (1), .iload 7, .iconst (-1), .if_icmp .ne (129)] ls st g M Q := q_T_next rfl
theorem b_X5_states_124 : q_T md d qP_X5_states 124 [] ls st g M Q = q_T md d qP_X5_states 129 [.iload 8, .goto (131)] ls st g M Q := q_T_next rfl
theorem b_X5_states_129 : q_T md d qP_X5_states 129 [] ls st g M Q = q_T md d qP_X5_states 131 [.iload 7] ls st g M Q := q_T_next rfl
theorem b_X5_states_131 : q_T md d qP_X5_states 131 [] ls st g M Q = q_T md d qP_X5_states 133 [.istore 7] ls st g M Q := q_T_next rfl
theorem b_X5_states_133 : q_T md d qP_X5_states 133 [] ls st g M Q = q_T md d qP_X5_states 139 [.iinc 8 (1), .goto (58)] ls st g M Q := q_T_next rfl
theorem b_X5_states_139 : q_T md d qP_X5_states 139 [] ls st g M Q = q_T md d qP_X5_states 144 [.iload 4, .ifCond .ne (149)] ls st g M Q := q_T_next rfl
theorem b_X5_states_144 : q_T md d qP_X5_states 144 [] ls st g M Q = q_T md d qP_X5_states 149 [.iload 6, .goto (151)] ls st g M Q := q_T_next rfl
theorem b_X5_states_149 : q_T md d qP_X5_states 149 [] ls st g M Q = q_T md d qP_X5_states 151 [.iload 7] ls st g M Q := q_T_next rfl
theorem b_X5_states_151 : q_T md d qP_X5_states 151 [] ls st g M Q = q_T md d qP_X5_states 152 [.ret 0] ls st g M Q := q_T_next rfl
theorem s_X5_whose {w : Nat} {x0 : Int} : q_S md d 86 [qR 5 w, qI x0] g M Q = q_T md d qP_X5_whose 0 [] [qR 5 w, qI x0, qS 0, qS 0, qS 0] [] g M Q := rfl
theorem b_X5_whose_0 : q_T md d qP_X5_whose 0 [] ls st g M Q = q_T md d qP_X5_whose 10 [.aload 0, .iload 1, .invokestatic 104, .istore 2, .iload 2, .ifCond .eq (12)] ls st g M Q := q_T_next rfl
theorem b_X5_whose_10 : q_T md d qP_X5_whose 10 [] ls st g M Q = q_T md d qP_X5_whose 12 [.iload 2, .ret 0] ls st g M Q := q_T_next rfl
theorem b_X5_whose_12 : q_T md d qP_X5_whose 12 [] ls st g M Q = q_T md d qP_X5_whose 17 [.iconst (0), .istore 3, .iconst (0), .istore 4] ls st g M Q := q_T_next rfl
theorem b_X5_whose_17 : q_T md d qP_X5_whose 17 [] ls st g M Q = q_T md d qP_X5_whose 32 [.iload 4, .aload 0, .getfield 503, .getfield 400, .getfield 5, .if_icmp .ge (67)] ls st g M Q := q_T_next rfl
theorem b_X5_whose_32 : q_T md d qP_X5_whose 32 [] ls st g M Q = q_T md d qP_X5_whose 54 [.aload 0, .getfield 504, .aload 0, .getfield 503, .invokestatic 49, .aload 0, .iload 1, .iload 4, .invokestatic 105, .iconst (-1), .if_icmp .ne (61)] ls st g M Q := q_T_next rfl
theorem b_X5_whose_54 : q_T md d qP_X5_whose 54 [] ls st g M Q = q_T md d qP_X5_whose 61 [.iload 3, .iconst (1), .iload 4, .ishl, .ior, .istore 3] ls st g M Q := q_T_next rfl
theorem b_X5_whose_61 : q_T md d qP_X5_whose 61 [] ls st g M Q = q_T md d qP_X5_whose 67 [.iinc 4 (1), .goto (17)] ls st g M Q := q_T_next rfl
theorem b_X5_whose_67 : q_T md d qP_X5_whose 67 [] ls st g M Q = q_T md d qP_X5_whose 69 [.iload 3, .ret 0] ls st g M Q := q_T_next rfl
theorem s_X5_laws {w : Nat} {x0 : Int} {x1 : Int} : q_S md d 87 [qR 5 w, qI x0, qI x1] g M Q = q_T md d qP_X5_laws 0 [] [qR 5 w, qI x0, qI x1, qS 0, qS 0, qS 0] [] g M Q := rfl
theorem b_X5_laws_0 : q_T md d qP_X5_laws 0 [] ls st g M Q = q_T md d qP_X5_laws 10 [.aload 0, .iload 1, .invokestatic 104, .istore 3, .iload 3, .ifCond .eq (12)] ls st g M Q := q_T_next rfl
theorem b_X5_laws_10 : q_T md d qP_X5_laws 10 [] ls st g M Q = q_T md d qP_X5_laws 12 [.iload 3, .ret 0] ls st g M Q := q_T_next rfl
theorem b_X5_laws_12 : q_T md d qP_X5_laws 12 [] ls st g M Q = q_T md d qP_X5_laws 20 [.aload 0, .iload 2, .invokestatic 98, .ifCond .ne (23)] ls st g M Q := q_T_next rfl
theorem b_X5_laws_20 : q_T md d qP_X5_laws 20 [] ls st g M Q = q_T md d qP_X5_laws 23 [.iconst (-5), .ret 0] ls st g M Q := q_T_next rfl
theorem b_X5_laws_23 : q_T md d qP_X5_laws 23 [] ls st g M Q = q_T md d qP_X5_laws 29 [.iconst (0), .istore 4, .iconst (0), .istore 5] ls st g M Q := q_T_next rfl
theorem b_X5_laws_29 : q_T md d qP_X5_laws 29 [] ls st g M Q = q_T md d qP_X5_laws 38 [.iload 5, .aload 0, .getfield 502, .if_icmp .ge (88)] ls st g M Q := q_T_next rfl
theorem b_X5_laws_38 : q_T md d qP_X5_laws 38 [] ls st g M Q = q_T md d qP_X5_laws 73 [.aload 0, .getfield 504, .aload 0, .getfield 503, .invokestatic 49, .aload 0, .getfield 504, .aload 0, .getfield 501, .iload 5, .aaload, .putfield 410, .aload 0, .iload 1, .iload 2, .invokestatic 105, .iconst (-1), .if_icmp .ne (82)] ls st g M Q := q_T_next rfl
theorem b_X5_laws_73 : q_T md d qP_X5_laws 73 [] ls st g M Q = q_T md d qP_X5_laws 82 [.iload 4, .iconst (1), .iload 5, .ishl, .ior, .istore 4] ls st g M Q := q_T_next rfl
theorem b_X5_laws_82 : q_T md d qP_X5_laws 82 [] ls st g M Q = q_T md d qP_X5_laws 88 [.iinc 5 (1), .goto (29)] ls st g M Q := q_T_next rfl
theorem b_X5_laws_88 : q_T md d qP_X5_laws 88 [] ls st g M Q = q_T md d qP_X5_laws 91 [.iload 4, .ret 0] ls st g M Q := q_T_next rfl
theorem s_X5_film {w : Nat} {x0 : Int} {x1 : Int} {x2 : Int} : q_S md d 88 [qR 5 w, qI x0, qI x1, qI x2] g M Q = q_T md d qP_X5_film 0 [] [qR 5 w, qI x0, qI x1, qI x2, qS 0] [] g M Q := rfl
theorem b_X5_film_0 : q_T md d qP_X5_film 0 [] ls st g M Q = q_T md d qP_X5_film 7 [.iload 1, .invokestatic 101, .ifCond .ne (10)] ls st g M Q := q_T_next rfl
theorem b_X5_film_7 : q_T md d qP_X5_film 7 [] ls st g M Q = q_T md d qP_X5_film 10 [.iconst (-2), .ret 0] ls st g M Q := q_T_next rfl
theorem b_X5_film_10 : q_T md d qP_X5_film 10 [] ls st g M Q = q_T md d qP_X5_film 18 [.aload 0, .iload 2, .invokestatic 98, .ifCond .ne (21)] ls st g M Q := q_T_next rfl
theorem b_X5_film_18 : q_T md d qP_X5_film 18 [] ls st g M Q = q_T md d qP_X5_film 21 [.iconst (-5), .ret 0] ls st g M Q := q_T_next rfl
theorem b_X5_film_21 : q_T md d qP_X5_film 21 [] ls st g M Q = q_T md d qP_X5_film 25 [.iload 3, .ifCond .lt (31)] ls st g M Q := q_T_next rfl
theorem b_X5_film_25 : q_T md d qP_X5_film 25 [] ls st g M Q = q_T md d qP_X5_film 31 [.iload 3, .iconst (20), .if_icmp .le (34)] ls st g M Q := q_T_next rfl
theorem b_X5_film_31 : q_T md d qP_X5_film 31 [] ls st g M Q = q_T md d qP_X5_film 34 [.iconst (-7), .ret 0] ls st g M Q := q_T_next rfl
theorem b_X5_film_34 : q_T md d qP_X5_film 34 [] ls st g M Q = q_T md d qP_X5_film 59 [.aload 0, .getfield 504, .aload 0, .getfield 503, .invokestatic 49, .aload 0, .getfield 507, .iload 1, .aaload, .iconst (0), .iload 3, .invokestatic 44, .iconst (0), .istore 4] ls st g M Q := q_T_next rfl
theorem b_X5_film_59 : q_T md d qP_X5_film 59 [] ls st g M Q = q_T md d qP_X5_film 65 [.iload 4, .iload 3, .if_icmp .ge (99)] ls st g M Q := q_T_next rfl
theorem b_X5_film_65 : q_T md d qP_X5_film 65 [] ls st g M Q = q_T md d qP_X5_film 99 [.aload 0, .getfield 504, .invokestatic 59, .pop, .aload 0, .getfield 507, .iload 1, .aaload, .iload 4, .aload 0, .getfield 504, .getfield 406, .iload 2, .iaload, .invokestatic 45, .iinc 4 (1), .goto (59)] ls st g M Q := q_T_next rfl
theorem b_X5_film_99 : q_T md d qP_X5_film 99 [] ls st g M Q = q_T md d qP_X5_film 101 [.iload 3, .ret 0] ls st g M Q := q_T_next rfl
theorem s_X5_drawn {w : Nat} {x0 : Int} {x1 : Int} : q_S md d 89 [qR 5 w, qI x0, qI x1] g M Q = q_T md d qP_X5_drawn 0 [] [qR 5 w, qI x0, qI x1] [] g M Q := rfl
theorem b_X5_drawn_0 : q_T md d qP_X5_drawn 0 [] ls st g M Q = q_T md d qP_X5_drawn 4 [.iload 1, .ifCond .lt (19)] ls st g M Q := q_T_next rfl
theorem b_X5_drawn_4 : q_T md d qP_X5_drawn 4 [] ls st g M Q = q_T md d qP_X5_drawn 10 [.iload 1, .iconst (100000), .if_icmp .ge (19)] ls st g M Q := q_T_next rfl
theorem b_X5_drawn_10 : q_T md d qP_X5_drawn 10 [] ls st g M Q = q_T md d qP_X5_drawn 14 [.iload 2, .ifCond .lt (19)] ls st g M Q := q_T_next rfl
theorem b_X5_drawn_14 : q_T md d qP_X5_drawn 14 [] ls st g M Q = q_T md d qP_X5_drawn 19 [.iload 2, .iconst (1), .if_icmp .le (22)] ls st g M Q := q_T_next rfl
theorem b_X5_drawn_19 : q_T md d qP_X5_drawn 19 [] ls st g M Q = q_T md d qP_X5_drawn 22 [.iconst (-2), .ret 0] ls st g M Q := q_T_next rfl
theorem b_X5_drawn_22 : q_T md d qP_X5_drawn 22 [] ls st g M Q = q_T md d qP_X5_drawn 31 [.aload 0, .iload 1, .invokestatic 107, .iload 2, .ifCond .ne (44)] ls st g M Q := q_T_next rfl
theorem b_X5_drawn_31 : q_T md d qP_X5_drawn 31 [] ls st g M Q = q_T md d qP_X5_drawn 44 [.aload 0, .getfield 504, .getfield 400, .invokestatic 6, .goto (54)] ls st g M Q := q_T_next rfl
theorem b_X5_drawn_44 : q_T md d qP_X5_drawn 44 [] ls st g M Q = q_T md d qP_X5_drawn 54 [.aload 0, .getfield 504, .getfield 400, .invokestatic 3] ls st g M Q := q_T_next rfl
theorem b_X5_drawn_54 : q_T md d qP_X5_drawn 54 [] ls st g M Q = q_T md d qP_X5_drawn 55 [.ret 0] ls st g M Q := q_T_next rfl
theorem s_X5_odds {w : Nat} {x0 : Int} {x1 : Int} {x2 : Int} {x3 : Int} : q_S md d 90 [qR 5 w, qI x0, qI x1, qI x2, qI x3] g M Q = q_T md d qP_X5_odds 0 [] [qR 5 w, qI x0, qI x1, qI x2, qI x3, qS 0, qS 0] [] g M Q := rfl
theorem b_X5_odds_0 : q_T md d qP_X5_odds 0 [] ls st g M Q = q_T md d qP_X5_odds 4 [.iload 1, .ifCond .lt (21)] ls st g M Q := q_T_next rfl
theorem b_X5_odds_4 : q_T md d qP_X5_odds 4 [] ls st g M Q = q_T md d qP_X5_odds 10 [.iload 1, .iconst (100000), .if_icmp .ge (21)] ls st g M Q := q_T_next rfl
theorem b_X5_odds_10 : q_T md d qP_X5_odds 10 [] ls st g M Q = q_T md d qP_X5_odds 15 [.iload 2, .iconst (1), .if_icmp .lt (21)] ls st g M Q := q_T_next rfl
theorem b_X5_odds_15 : q_T md d qP_X5_odds 15 [] ls st g M Q = q_T md d qP_X5_odds 21 [.iload 2, .iconst (40), .if_icmp .le (25)] ls st g M Q := q_T_next rfl
theorem b_X5_odds_21 : q_T md d qP_X5_odds 21 [] ls st g M Q = q_T md d qP_X5_odds 25 [.jsr (-4611686018427387904), .lreturn] ls st g M Q := q_T_next rfl
theorem b_X5_odds_25 : q_T md d qP_X5_odds 25 [] ls st g M Q = q_T md d qP_X5_odds 29 [.iload 3, .ifCond .lt (45)] ls st g M Q := q_T_next rfl
theorem b_X5_odds_29 : q_T md d qP_X5_odds 29 [] ls st g M Q = q_T md d qP_X5_odds 34 [.iload 3, .iconst (5), .if_icmp .gt (45)] ls st g M Q := q_T_next rfl
theorem b_X5_odds_34 : q_T md d qP_X5_odds 34 [] ls st g M Q = q_T md d qP_X5_odds 39 [.iload 4, .ifCond .lt (45)] ls st g M Q := q_T_next rfl
theorem b_X5_odds_39 : q_T md d qP_X5_odds 39 [] ls st g M Q = q_T md d qP_X5_odds 45 [.iload 4, .iconst (1), .if_icmp .le (49)] ls st g M Q := q_T_next rfl
theorem b_X5_odds_45 : q_T md d qP_X5_odds 45 [] ls st g M Q = q_T md d qP_X5_odds 49 [.jsr (-4611686018427387904), .lreturn] ls st g M Q := q_T_next rfl
theorem b_X5_odds_49 : q_T md d qP_X5_odds 49 [] ls st g M Q = q_T md d qP_X5_odds 55 [.iconst (0), .istore 5, .iconst (0), .istore 6] ls st g M Q := q_T_next rfl
theorem b_X5_odds_55 : q_T md d qP_X5_odds 55 [] ls st g M Q = q_T md d qP_X5_odds 61 [.iload 6, .iload 2, .if_icmp .ge (92)] ls st g M Q := q_T_next rfl
theorem b_X5_odds_61 : q_T md d qP_X5_odds 61 [] ls st g M Q = q_T md d qP_X5_odds 83 [.aload 0, .iload 1, .iload 6, .iadd, .invokestatic 107, .aload 0, .getfield 504, .getfield 400, .invokestatic 3, .iload 3, .if_icmp .gt (86)] ls st g M Q := q_T_next rfl
theorem b_X5_odds_83 : q_T md d qP_X5_odds 83 [] ls st g M Q = q_T md d qP_X5_odds 86 [.iinc 5 (1)] ls st g M Q := q_T_next rfl
theorem b_X5_odds_86 : q_T md d qP_X5_odds 86 [] ls st g M Q = q_T md d qP_X5_odds 92 [.iinc 6 (1), .goto (55)] ls st g M Q := q_T_next rfl
theorem b_X5_odds_92 : q_T md d qP_X5_odds 92 [] ls st g M Q = q_T md d qP_X5_odds 101 [.iload 5, .iload 2, .iload 4, .invokestatic 108, .lreturn] ls st g M Q := q_T_next rfl
theorem s_X5_image {w : Nat} : q_S md d 91 [qR 5 w] g M Q = q_T md d qP_X5_image 0 [] [qR 5 w] [] g M Q := rfl
theorem b_X5_image_0 : q_T md d qP_X5_image 0 [] ls st g M Q = q_T md d qP_X5_image 27 [.aload 0, .getfield 505, .aload 0, .getfield 503, .invokestatic 49, .aload 0, .iconst (1), .putfield 506, .aload 0, .getfield 505, .getfield 400, .getfield 5, .ret 0] ls st g M Q := q_T_next rfl
theorem s_X5_back {w : Nat} : q_S md d 92 [qR 5 w] g M Q = q_T md d qP_X5_back 0 [] [qR 5 w] [] g M Q := rfl
theorem b_X5_back_0 : q_T md d qP_X5_back 0 [] ls st g M Q = q_T md d qP_X5_back 7 [.aload 0, .getfield 506, .ifCond .ne (10)] ls st g M Q := q_T_next rfl
theorem b_X5_back_7 : q_T md d qP_X5_back 7 [] ls st g M Q = q_T md d qP_X5_back 10 [.iconst (-3), .ret 0] ls st g M Q := q_T_next rfl
theorem b_X5_back_10 : q_T md d qP_X5_back 10 [] ls st g M Q = q_T md d qP_X5_back 32 [.aload 0, .getfield 503, .aload 0, .getfield 505, .invokestatic 49, .aload 0, .getfield 503, .getfield 400, .getfield 5, .ret 0] ls st g M Q := q_T_next rfl
theorem s_X5_sheet {w : Nat} {x0 : Int} {x1 : Int} {x2 : Int} : q_S md d 93 [qR 5 w, qI x0, qI x1, qI x2] g M Q = q_T md d qP_X5_sheet 0 [] [qR 5 w, qI x0, qI x1, qI x2] [] g M Q := rfl
theorem b_X5_sheet_0 : q_T md d qP_X5_sheet 0 [] ls st g M Q = q_T md d qP_X5_sheet 7 [.iload 1, .invokestatic 101, .ifCond .eq (17)] ls st g M Q := q_T_next rfl
theorem b_X5_sheet_7 : q_T md d qP_X5_sheet 7 [] ls st g M Q = q_T md d qP_X5_sheet 12 [.iload 2, .iconst (-1), .if_icmp .lt (17)] ls st g M Q := q_T_next rfl
theorem b_X5_sheet_12 : q_T md d qP_X5_sheet 12 [] ls st g M Q = q_T md d qP_X5_sheet 17 [.iload 2, .iconst (2), .if_icmp .le (20)] ls st g M Q := q_T_next rfl
theorem b_X5_sheet_17 : q_T md d qP_X5_sheet 17 [] ls st g M Q = q_T md d qP_X5_sheet 20 [.iconst (-2), .ret 0] ls st g M Q := q_T_next rfl
theorem b_X5_sheet_20 : q_T md d qP_X5_sheet 20 [] ls st g M Q = q_T md d qP_X5_sheet 25 [.iload 2, .iconst (-1), .if_icmp .ne (38)] ls st g M Q := q_T_next rfl
theorem b_X5_sheet_25 : q_T md d qP_X5_sheet 25 [] ls st g M Q = q_T md d qP_X5_sheet 38 [.aload 0, .getfield 507, .iload 1, .aaload, .iload 2, .iconst (0), .invokestatic 44, .iconst (1), .ret 0] ls st g M Q := q_T_next rfl
theorem b_X5_sheet_38 : q_T md d qP_X5_sheet 38 [] ls st g M Q = q_T md d qP_X5_sheet 44 [.iload 3, .iconst (40), .if_icmp .le (47)] ls st g M Q := q_T_next rfl
theorem b_X5_sheet_44 : q_T md d qP_X5_sheet 44 [] ls st g M Q = q_T md d qP_X5_sheet 47 [.iconst (-2), .ret 0] ls st g M Q := q_T_next rfl
theorem b_X5_sheet_47 : q_T md d qP_X5_sheet 47 [] ls st g M Q = q_T md d qP_X5_sheet 51 [.iload 3, .ifCond .ge (54)] ls st g M Q := q_T_next rfl
theorem b_X5_sheet_51 : q_T md d qP_X5_sheet 51 [] ls st g M Q = q_T md d qP_X5_sheet 54 [.iconst (-14), .ret 0] ls st g M Q := q_T_next rfl
theorem b_X5_sheet_54 : q_T md d qP_X5_sheet 54 [] ls st g M Q = q_T md d qP_X5_sheet 67 [.aload 0, .getfield 507, .iload 1, .aaload, .iload 2, .iload 3, .invokestatic 44, .iconst (1), .ret 0] ls st g M Q := q_T_next rfl
theorem s_X5_cell {w : Nat} {x0 : Int} {x1 : Int} {x2 : Int} : q_S md d 94 [qR 5 w, qI x0, qI x1, qI x2] g M Q = q_T md d qP_X5_cell 0 [] [qR 5 w, qI x0, qI x1, qI x2] [] g M Q := rfl
theorem b_X5_cell_0 : q_T md d qP_X5_cell 0 [] ls st g M Q = q_T md d qP_X5_cell 7 [.iload 1, .invokestatic 101, .ifCond .ne (10)] ls st g M Q := q_T_next rfl
theorem b_X5_cell_7 : q_T md d qP_X5_cell 7 [] ls st g M Q = q_T md d qP_X5_cell 10 [.iconst (-2), .ret 0] ls st g M Q := q_T_next rfl
theorem b_X5_cell_10 : q_T md d qP_X5_cell 10 [] ls st g M Q = q_T md d qP_X5_cell 22 [.aload 0, .getfield 507, .iload 1, .aaload, .invokestatic 43, .ifCond .eq (25)] ls st g M Q := q_T_next rfl
theorem b_X5_cell_22 : q_T md d qP_X5_cell 22 [] ls st g M Q = q_T md d qP_X5_cell 25 [.iconst (-11), .ret 0] ls st g M Q := q_T_next rfl
theorem b_X5_cell_25 : q_T md d qP_X5_cell 25 [] ls st g M Q = q_T md d qP_X5_cell 29 [.iload 2, .ifCond .lt (42)] ls st g M Q := q_T_next rfl
theorem b_X5_cell_29 : q_T md d qP_X5_cell 29 [] ls st g M Q = q_T md d qP_X5_cell 42 [.iload 2, .aload 0, .getfield 507, .iload 1, .aaload, .getfield 202, .if_icmp .lt (45)] ls st g M Q := q_T_next rfl
theorem b_X5_cell_42 : q_T md d qP_X5_cell 42 [] ls st g M Q = q_T md d qP_X5_cell 45 [.iconst (-12), .ret 0] ls st g M Q := q_T_next rfl
theorem b_X5_cell_45 : q_T md d qP_X5_cell 45 [] ls st g M Q = q_T md d qP_X5_cell 58 [.aload 0, .getfield 507, .iload 1, .aaload, .iload 2, .iload 3, .invokestatic 45, .iconst (1), .ret 0] ls st g M Q := q_T_next rfl
theorem s_X5_copy {w : Nat} {x0 : Int} {x1 : Int} {x2 : Int} {x3 : Int} {x4 : Int} : q_S md d 95 [qR 5 w, qI x0, qI x1, qI x2, qI x3, qI x4] g M Q = q_T md d qP_X5_copy 0 [] [qR 5 w, qI x0, qI x1, qI x2, qI x3, qI x4, qS 0, qS 0] [] g M Q := rfl
theorem b_X5_copy_0 : q_T md d qP_X5_copy 0 [] ls st g M Q = q_T md d qP_X5_copy 7 [.iload 1, .invokestatic 101, .ifCond .eq (14)] ls st g M Q := q_T_next rfl
theorem b_X5_copy_7 : q_T md d qP_X5_copy 7 [] ls st g M Q = q_T md d qP_X5_copy 14 [.iload 3, .invokestatic 101, .ifCond .ne (17)] ls st g M Q := q_T_next rfl
theorem b_X5_copy_14 : q_T md d qP_X5_copy 14 [] ls st g M Q = q_T md d qP_X5_copy 17 [.iconst (-2), .ret 0] ls st g M Q := q_T_next rfl
theorem b_X5_copy_17 : q_T md d qP_X5_copy 17 [] ls st g M Q = q_T md d qP_X5_copy 41 [.aload 0, .getfield 507, .iload 1, .aaload, .astore 6, .aload 0, .getfield 507, .iload 3, .aaload, .astore 7, .aload 6, .invokestatic 43, .ifCond .ne (49)] ls st g M Q := q_T_next rfl
theorem b_X5_copy_41 : q_T md d qP_X5_copy 41 [] ls st g M Q = q_T md d qP_X5_copy 49 [.aload 7, .invokestatic 43, .ifCond .eq (52)] ls st g M Q := q_T_next rfl
theorem b_X5_copy_49 : q_T md d qP_X5_copy 49 [] ls st g M Q = q_T md d qP_X5_copy 52 [.iconst (-11), .ret 0] ls st g M Q := q_T_next rfl
theorem b_X5_copy_52 : q_T md d qP_X5_copy 52 [] ls st g M Q = q_T md d qP_X5_copy 65 [.aload 6, .getfield 201, .aload 7, .getfield 201, .if_icmp .eq (68)] ls st g M Q := q_T_next rfl
theorem b_X5_copy_65 : q_T md d qP_X5_copy 65 [] ls st g M Q = q_T md d qP_X5_copy 68 [.iconst (-13), .ret 0] ls st g M Q := q_T_next rfl
theorem b_X5_copy_68 : q_T md d qP_X5_copy 68 [] ls st g M Q = q_T md d qP_X5_copy 73 [.iload 5, .ifCond .lt (107)] ls st g M Q := q_T_next rfl
theorem b_X5_copy_73 : q_T md d qP_X5_copy 73 [] ls st g M Q = q_T md d qP_X5_copy 77 [.iload 2, .ifCond .lt (107)] ls st g M Q := q_T_next rfl
theorem b_X5_copy_77 : q_T md d qP_X5_copy 77 [] ls st g M Q = q_T md d qP_X5_copy 82 [.iload 4, .ifCond .lt (107)] ls st g M Q := q_T_next rfl
theorem b_X5_copy_82 : q_T md d qP_X5_copy 82 [] ls st g M Q = q_T md d qP_X5_copy 94 [.iload 2, .aload 6, .getfield 202, .iload 5, .isub, .if_icmp .gt (107)] ls st g M Q := q_T_next rfl
theorem b_X5_copy_94 : q_T md d qP_X5_copy 94 [] ls st g M Q = q_T md d qP_X5_copy 107 [.iload 4, .aload 7, .getfield 202, .iload 5, .isub, .if_icmp .le (110)] ls st g M Q := q_T_next rfl
theorem b_X5_copy_107 : q_T md d qP_X5_copy 107 [] ls st g M Q = q_T md d qP_X5_copy 110 [.iconst (-12), .ret 0] ls st g M Q := q_T_next rfl
theorem b_X5_copy_110 : q_T md d qP_X5_copy 110 [] ls st g M Q = q_T md d qP_X5_copy 131 [.aload 6, .getfield 200, .iload 2, .aload 7, .getfield 200, .iload 4, .iload 5, .monitorexit, .iload 5, .ret 0] ls st g M Q := q_T_next rfl
theorem s_X5_stonesBy {w : Nat} {x0 : Int} {x1 : Int} {x2 : Int} {x3 : Int} : q_S md d 96 [qR 5 w, qI x0, qI x1, qI x2, qI x3] g M Q = q_T md d qP_X5_stonesBy 0 [] [qR 5 w, qI x0, qI x1, qI x2, qI x3, qS 0, qS 0, qS 0, qS 0] [] g M Q := rfl
theorem b_X5_stonesBy_0 : q_T md d qP_X5_stonesBy 0 [] ls st g M Q = q_T md d qP_X5_stonesBy 7 [.iload 1, .invokestatic 101, .ifCond .eq (27)] ls st g M Q := q_T_next rfl
theorem b_X5_stonesBy_7 : q_T md d qP_X5_stonesBy 7 [] ls st g M Q = q_T md d qP_X5_stonesBy 11 [.iload 2, .ifCond .lt (27)] ls st g M Q := q_T_next rfl
theorem b_X5_stonesBy_11 : q_T md d qP_X5_stonesBy 11 [] ls st g M Q = q_T md d qP_X5_stonesBy 16 [.iload 2, .iconst (2), .if_icmp .gt (27)] ls st g M Q := q_T_next rfl
theorem b_X5_stonesBy_16 : q_T md d qP_X5_stonesBy 16 [] ls st g M Q = q_T md d qP_X5_stonesBy 21 [.iload 4, .ifCond .lt (27)] ls st g M Q := q_T_next rfl
theorem b_X5_stonesBy_21 : q_T md d qP_X5_stonesBy 21 [] ls st g M Q = q_T md d qP_X5_stonesBy 27 [.iload 4, .iconst (5), .if_icmp .le (30)] ls st g M Q := q_T_next rfl
theorem b_X5_stonesBy_27 : q_T md d qP_X5_stonesBy 27 [] ls st g M Q = q_T md d qP_X5_stonesBy 30 [.iconst (-2), .ret 0] ls st g M Q := q_T_next rfl
theorem b_X5_stonesBy_30 : q_T md d qP_X5_stonesBy 30 [] ls st g M Q = q_T md d qP_X5_stonesBy 46 [.aload 0, .getfield 507, .iload 1, .aaload, .astore 5, .aload 5, .invokestatic 43, .ifCond .eq (49)] ls st g M Q := q_T_next rfl
theorem b_X5_stonesBy_46 : q_T md d qP_X5_stonesBy 46 [] ls st g M Q = q_T md d qP_X5_stonesBy 49 [.iconst (-11), .ret 0] ls st g M Q := q_T_next rfl
theorem b_X5_stonesBy_49 : q_T md d qP_X5_stonesBy 49 [] ls st g M Q = q_T md d qP_X5_stonesBy 58 [.aload 5, .getfield 201, .iload 2, .if_icmp .eq (61)] ls st g M Q := q_T_next rfl
theorem b_X5_stonesBy_58 : q_T md d qP_X5_stonesBy 58 [] ls st g M Q = q_T md d qP_X5_stonesBy 61 [.iconst (-13), .ret 0] ls st g M Q := q_T_next rfl
theorem b_X5_stonesBy_61 : q_T md d qP_X5_stonesBy 61 [] ls st g M Q = q_T md d qP_X5_stonesBy 66 [.iload 4, .ifCond .le (73)] ls st g M Q := q_T_next rfl
theorem b_X5_stonesBy_66 : q_T md d qP_X5_stonesBy 66 [] ls st g M Q = q_T md d qP_X5_stonesBy 70 [.iload 3, .ifCond .ge (73)] ls st g M Q := q_T_next rfl
theorem b_X5_stonesBy_70 : q_T md d qP_X5_stonesBy 70 [] ls st g M Q = q_T md d qP_X5_stonesBy 73 [.iconst (-12), .ret 0] ls st g M Q := q_T_next rfl
theorem b_X5_stonesBy_73 : q_T md d qP_X5_stonesBy 73 [] ls st g M Q = q_T md d qP_X5_stonesBy 79 [.iconst (0), .istore 6, .iconst (0), .istore 7] ls st g M Q := q_T_next rfl
theorem b_X5_stonesBy_79 : q_T md d qP_X5_stonesBy 79 [] ls st g M Q = q_T md d qP_X5_stonesBy 86 [.iload 7, .iload 4, .if_icmp .ge (157)] ls st g M Q := q_T_next rfl
theorem b_X5_stonesBy_86 : q_T md d qP_X5_stonesBy 86 [] ls st g M Q = q_T md d qP_X5_stonesBy 102 [.iload 3, .aload 5, .getfield 202, .iconst (3), .iload 7, .imul, .isub, .iconst (3), .isub, .if_icmp .le (105)] ls st g M Q := q_T_next rfl
theorem b_X5_stonesBy_102 : q_T md d qP_X5_stonesBy 102 [] ls st g M Q = q_T md d qP_X5_stonesBy 105 [.iconst (-12), .ret 0] ls st g M Q := q_T_next rfl
theorem b_X5_stonesBy_105 : q_T md d qP_X5_stonesBy 105 [] ls st g M Q = q_T md d qP_X5_stonesBy 148 [.iload 3, .iconst (3), .iload 7, .imul, .iadd, .istore 8, .aload 0, .aload 5, .getfield 200, .iload 8, .iaload, .aload 5, .getfield 200, .iload 8, .iconst (1), .iadd, .iaload, .aload 5, .getfield 200, .iload 8, .iconst (2), .iadd, .iaload, .invokestatic 70, .ifCond .lt (151)] ls st g M Q := q_T_next rfl
theorem b_X5_stonesBy_148 : q_T md d qP_X5_stonesBy 148 [] ls st g M Q = q_T md d qP_X5_stonesBy 151 [.iinc 6 (1)] ls st g M Q := q_T_next rfl
theorem b_X5_stonesBy_151 : q_T md d qP_X5_stonesBy 151 [] ls st g M Q = q_T md d qP_X5_stonesBy 157 [.iinc 7 (1), .goto (79)] ls st g M Q := q_T_next rfl
theorem b_X5_stonesBy_157 : q_T md d qP_X5_stonesBy 157 [] ls st g M Q = q_T md d qP_X5_stonesBy 160 [.iload 6, .ret 0] ls st g M Q := q_T_next rfl
theorem s_X5_taken {w : Nat} {x0 : Int} {x1 : Int} : q_S md d 97 [qR 5 w, qI x0, qI x1] g M Q = q_T md d qP_X5_taken 0 [] [qR 5 w, qI x0, qI x1] [] g M Q := rfl
theorem b_X5_taken_0 : q_T md d qP_X5_taken 0 [] ls st g M Q = q_T md d qP_X5_taken 4 [.iload 2, .ifCond .lt (10)] ls st g M Q := q_T_next rfl
theorem b_X5_taken_4 : q_T md d qP_X5_taken 4 [] ls st g M Q = q_T md d qP_X5_taken 10 [.iload 2, .iconst (6), .if_icmp .le (13)] ls st g M Q := q_T_next rfl
theorem b_X5_taken_10 : q_T md d qP_X5_taken 10 [] ls st g M Q = q_T md d qP_X5_taken 13 [.iconst (-2), .ret 0] ls st g M Q := q_T_next rfl
theorem b_X5_taken_13 : q_T md d qP_X5_taken 13 [] ls st g M Q = q_T md d qP_X5_taken 17 [.iload 1, .ifCond .lt (23)] ls st g M Q := q_T_next rfl
theorem b_X5_taken_17 : q_T md d qP_X5_taken 17 [] ls st g M Q = q_T md d qP_X5_taken 23 [.iload 1, .iconst (10), .if_icmp .lt (26)] ls st g M Q := q_T_next rfl
theorem b_X5_taken_23 : q_T md d qP_X5_taken 23 [] ls st g M Q = q_T md d qP_X5_taken 26 [.iconst (-12), .ret 0] ls st g M Q := q_T_next rfl
theorem b_X5_taken_26 : q_T md d qP_X5_taken 26 [] ls st g M Q = q_T md d qP_X5_taken 31 [.iload 1, .iconst (5), .if_icmp .lt (54)] ls st g M Q := q_T_next rfl
theorem b_X5_taken_31 : q_T md d qP_X5_taken 31 [] ls st g M Q = q_T md d qP_X5_taken 37 [.iload 2, .iconst (6), .if_icmp .ne (51)] ls st g M Q := q_T_next rfl
theorem b_X5_taken_37 : q_T md d qP_X5_taken 37 [] ls st g M Q = q_T md d qP_X5_taken 51 [.aload 0, .getfield 503, .getfield 403, .iload 1, .iconst (5), .isub, .iaload, .goto (53)] ls st g M Q := q_T_next rfl
theorem b_X5_taken_51 : q_T md d qP_X5_taken 51 [] ls st g M Q = q_T md d qP_X5_taken 53 [.iconst (-13)] ls st g M Q := q_T_next rfl
theorem b_X5_taken_53 : q_T md d qP_X5_taken 53 [] ls st g M Q = q_T md d qP_X5_taken 54 [.ret 0] ls st g M Q := q_T_next rfl
theorem b_X5_taken_54 : q_T md d qP_X5_taken 54 [] ls st g M Q = q_T md d qP_X5_taken 62 [.aload 0, .iload 1, .invokestatic 98, .ifCond .ne (65)] ls st g M Q := q_T_next rfl
theorem b_X5_taken_62 : q_T md d qP_X5_taken 62 [] ls st g M Q = q_T md d qP_X5_taken 65 [.iconst (-11), .ret 0] ls st g M Q := q_T_next rfl
theorem b_X5_taken_65 : q_T md d qP_X5_taken 65 [] ls st g M Q = q_T md d qP_X5_taken 71 [.iload 2, .iconst (6), .if_icmp .eq (91)] ls st g M Q := q_T_next rfl
theorem b_X5_taken_71 : q_T md d qP_X5_taken 71 [] ls st g M Q = q_T md d qP_X5_taken 87 [.aload 0, .getfield 503, .getfield 404, .iload 1, .iaload, .iload 2, .invokestatic 103, .ifCond .eq (91)] ls st g M Q := q_T_next rfl
theorem b_X5_taken_87 : q_T md d qP_X5_taken 87 [] ls st g M Q = q_T md d qP_X5_taken 91 [.iload 1, .goto (93)] ls st g M Q := q_T_next rfl
theorem b_X5_taken_91 : q_T md d qP_X5_taken 91 [] ls st g M Q = q_T md d qP_X5_taken 93 [.iconst (-13)] ls st g M Q := q_T_next rfl
theorem b_X5_taken_93 : q_T md d qP_X5_taken 93 [] ls st g M Q = q_T md d qP_X5_taken 94 [.ret 0] ls st g M Q := q_T_next rfl
theorem s_X5_isStone {w : Nat} {x0 : Int} : q_S md d 98 [qR 5 w, qI x0] g M Q = q_T md d qP_X5_isStone 0 [] [qR 5 w, qI x0] [] g M Q := rfl
theorem b_X5_isStone_0 : q_T md d qP_X5_isStone 0 [] ls st g M Q = q_T md d qP_X5_isStone 4 [.iload 1, .ifCond .lt (22)] ls st g M Q := q_T_next rfl
theorem b_X5_isStone_4 : q_T md d qP_X5_isStone 4 [] ls st g M Q = q_T md d qP_X5_isStone 18 [.iload 1, .aload 0, .getfield 503, .getfield 400, .getfield 5, .if_icmp .ge (22)] ls st g M Q := q_T_next rfl
theorem b_X5_isStone_18 : q_T md d qP_X5_isStone 18 [] ls st g M Q = q_T md d qP_X5_isStone 22 [.iconst (1), .goto (23)] ls st g M Q := q_T_next rfl
theorem b_X5_isStone_22 : q_T md d qP_X5_isStone 22 [] ls st g M Q = q_T md d qP_X5_isStone 23 [.iconst (0)] ls st g M Q := q_T_next rfl
theorem b_X5_isStone_23 : q_T md d qP_X5_isStone 23 [] ls st g M Q = q_T md d qP_X5_isStone 24 [.ret 1] ls st g M Q := q_T_next rfl
theorem s_X5_isBuilding {x0 : Int} : q_S md d 99 [qI x0] g M Q = q_T md d qP_X5_isBuilding 0 [] [qI x0] [] g M Q := rfl
theorem b_X5_isBuilding_0 : q_T md d qP_X5_isBuilding 0 [] ls st g M Q = q_T md d qP_X5_isBuilding 4 [.iload 0, .ifCond .lt (13)] ls st g M Q := q_T_next rfl
theorem b_X5_isBuilding_4 : q_T md d qP_X5_isBuilding 4 [] ls st g M Q = q_T md d qP_X5_isBuilding 9 [.iload 0, .iconst (5), .if_icmp .ge (13)] ls st g M Q := q_T_next rfl
theorem b_X5_isBuilding_9 : q_T md d qP_X5_isBuilding 9 [] ls st g M Q = q_T md d qP_X5_isBuilding 13 [.iconst (1), .goto (14)] ls st g M Q := q_T_next rfl
theorem b_X5_isBuilding_13 : q_T md d qP_X5_isBuilding 13 [] ls st g M Q = q_T md d qP_X5_isBuilding 14 [.iconst (0)] ls st g M Q := q_T_next rfl
theorem b_X5_isBuilding_14 : q_T md d qP_X5_isBuilding 14 [] ls st g M Q = q_T md d qP_X5_isBuilding 15 [.ret 1] ls st g M Q := q_T_next rfl
theorem s_X5_orNone {x0 : Int} : q_S md d 100 [qI x0] g M Q = q_T md d qP_X5_orNone 0 [] [qI x0] [] g M Q := rfl
theorem b_X5_orNone_0 : q_T md d qP_X5_orNone 0 [] ls st g M Q = q_T md d qP_X5_orNone 5 [.iload 0, .iconst (5), .if_icmp .ne (9)] ls st g M Q := q_T_next rfl
theorem b_X5_orNone_5 : q_T md d qP_X5_orNone 5 [] ls st g M Q = q_T md d qP_X5_orNone 9 [.iconst (-1), .goto (10)] ls st g M Q := q_T_next rfl
theorem b_X5_orNone_9 : q_T md d qP_X5_orNone 9 [] ls st g M Q = q_T md d qP_X5_orNone 10 [.iload 0] ls st g M Q := q_T_next rfl
theorem b_X5_orNone_10 : q_T md d qP_X5_orNone 10 [] ls st g M Q = q_T md d qP_X5_orNone 11 [.ret 0] ls st g M Q := q_T_next rfl
theorem s_X5_isSheet {x0 : Int} : q_S md d 101 [qI x0] g M Q = q_T md d qP_X5_isSheet 0 [] [qI x0] [] g M Q := rfl
theorem b_X5_isSheet_0 : q_T md d qP_X5_isSheet 0 [] ls st g M Q = q_T md d qP_X5_isSheet 4 [.iload 0, .ifCond .lt (13)] ls st g M Q := q_T_next rfl
theorem b_X5_isSheet_4 : q_T md d qP_X5_isSheet 4 [] ls st g M Q = q_T md d qP_X5_isSheet 9 [.iload 0, .iconst (4), .if_icmp .ge (13)] ls st g M Q := q_T_next rfl
theorem b_X5_isSheet_9 : q_T md d qP_X5_isSheet 9 [] ls st g M Q = q_T md d qP_X5_isSheet 13 [.iconst (1), .goto (14)] ls st g M Q := q_T_next rfl
theorem b_X5_isSheet_13 : q_T md d qP_X5_isSheet 13 [] ls st g M Q = q_T md d qP_X5_isSheet 14 [.iconst (0)] ls st g M Q := q_T_next rfl
theorem b_X5_isSheet_14 : q_T md d qP_X5_isSheet 14 [] ls st g M Q = q_T md d qP_X5_isSheet 15 [.ret 1] ls st g M Q := q_T_next rfl
theorem s_X5_isByte {x0 : Int} : q_S md d 102 [qI x0] g M Q = q_T md d qP_X5_isByte 0 [] [qI x0] [] g M Q := rfl
theorem b_X5_isByte_0 : q_T md d qP_X5_isByte 0 [] ls st g M Q = q_T md d qP_X5_isByte 4 [.iload 0, .ifCond .lt (15)] ls st g M Q := q_T_next rfl
theorem b_X5_isByte_4 : q_T md d qP_X5_isByte 4 [] ls st g M Q = q_T md d qP_X5_isByte 11 [.iload 0, .iconst (255), .if_icmp .gt (15)] ls st g M Q := q_T_next rfl
theorem b_X5_isByte_11 : q_T md d qP_X5_isByte 11 [] ls st g M Q = q_T md d qP_X5_isByte 15 [.iconst (1), .goto (16)] ls st g M Q := q_T_next rfl
theorem b_X5_isByte_15 : q_T md d qP_X5_isByte 15 [] ls st g M Q = q_T md d qP_X5_isByte 16 [.iconst (0)] ls st g M Q := q_T_next rfl
theorem b_X5_isByte_16 : q_T md d qP_X5_isByte 16 [] ls st g M Q = q_T md d qP_X5_isByte 17 [.ret 1] ls st g M Q := q_T_next rfl
theorem s_X5_isOfKind {x0 : Int} {x1 : Int} : q_S md d 103 [qI x0, qI x1] g M Q = q_T md d qP_X5_isOfKind 0 [] [qI x0, qI x1] [] g M Q := rfl
theorem b_X5_isOfKind_0 : q_T md d qP_X5_isOfKind 0 [] ls st g M Q = q_T md d qP_X5_isOfKind 4 [.iload 1, .ifCond .eq (9)] ls st g M Q := q_T_next rfl
theorem b_X5_isOfKind_4 : q_T md d qP_X5_isOfKind 4 [] ls st g M Q = q_T md d qP_X5_isOfKind 9 [.iload 0, .iload 1, .if_icmp .ne (11)] ls st g M Q := q_T_next rfl
theorem b_X5_isOfKind_9 : q_T md d qP_X5_isOfKind 9 [] ls st g M Q = q_T md d qP_X5_isOfKind 11 [.iconst (1), .ret 1] ls st g M Q := q_T_next rfl
theorem b_X5_isOfKind_11 : q_T md d qP_X5_isOfKind 11 [] ls st g M Q = q_T md d qP_X5_isOfKind 16 [.iload 1, .iconst (1), .if_icmp .ne (21)] ls st g M Q := q_T_next rfl
theorem b_X5_isOfKind_16 : q_T md d qP_X5_isOfKind 16 [] ls st g M Q = q_T md d qP_X5_isOfKind 21 [.iload 0, .iconst (3), .if_icmp .eq (31)] ls st g M Q := q_T_next rfl
theorem b_X5_isOfKind_21 : q_T md d qP_X5_isOfKind 21 [] ls st g M Q = q_T md d qP_X5_isOfKind 26 [.iload 1, .iconst (2), .if_icmp .ne (35)] ls st g M Q := q_T_next rfl
theorem b_X5_isOfKind_26 : q_T md d qP_X5_isOfKind 26 [] ls st g M Q = q_T md d qP_X5_isOfKind 31 [.iload 0, .iconst (4), .if_icmp .ne (35)] ls st g M Q := q_T_next rfl
theorem b_X5_isOfKind_31 : q_T md d qP_X5_isOfKind 31 [] ls st g M Q = q_T md d qP_X5_isOfKind 35 [.iconst (1), .goto (36)] ls st g M Q := q_T_next rfl
theorem b_X5_isOfKind_35 : q_T md d qP_X5_isOfKind 35 [] ls st g M Q = q_T md d qP_X5_isOfKind 36 [.iconst (0)] ls st g M Q := q_T_next rfl
theorem b_X5_isOfKind_36 : q_T md d qP_X5_isOfKind 36 [] ls st g M Q = q_T md d qP_X5_isOfKind 37 [.ret 1] ls st g M Q := q_T_next rfl
theorem s_X5_refusalOfTold {w : Nat} {x0 : Int} : q_S md d 104 [qR 5 w, qI x0] g M Q = q_T md d qP_X5_refusalOfTold 0 [] [qR 5 w, qI x0] [] g M Q := rfl
theorem b_X5_refusalOfTold_0 : q_T md d qP_X5_refusalOfTold 0 [] ls st g M Q = q_T md d qP_X5_refusalOfTold 7 [.iload 1, .invokestatic 101, .ifCond .ne (10)] ls st g M Q := q_T_next rfl
theorem b_X5_refusalOfTold_7 : q_T md d qP_X5_refusalOfTold 7 [] ls st g M Q = q_T md d qP_X5_refusalOfTold 10 [.iconst (-2), .ret 0] ls st g M Q := q_T_next rfl
theorem b_X5_refusalOfTold_10 : q_T md d qP_X5_refusalOfTold 10 [] ls st g M Q = q_T md d qP_X5_refusalOfTold 22 [.aload 0, .getfield 507, .iload 1, .aaload, .invokestatic 43, .ifCond .eq (25)] ls st g M Q := q_T_next rfl
theorem b_X5_refusalOfTold_22 : q_T md d qP_X5_refusalOfTold 22 [] ls st g M Q = q_T md d qP_X5_refusalOfTold 25 [.iconst (-11), .ret 0] ls st g M Q := q_T_next rfl
theorem b_X5_refusalOfTold_25 : q_T md d qP_X5_refusalOfTold 25 [] ls st g M Q = q_T md d qP_X5_refusalOfTold 39 [.aload 0, .getfield 507, .iload 1, .aaload, .getfield 202, .iconst (20), .if_icmp .le (44)] ls st g M Q := q_T_next rfl
theorem b_X5_refusalOfTold_39 : q_T md d qP_X5_refusalOfTold 39 [] ls st g M Q = q_T md d qP_X5_refusalOfTold 44 [.iconst (-2), .goto (45)] ls st g M Q := q_T_next rfl
theorem b_X5_refusalOfTold_44 : q_T md d qP_X5_refusalOfTold 44 [] ls st g M Q = q_T md d qP_X5_refusalOfTold 45 [.iconst (0)] ls st g M Q := q_T_next rfl
theorem b_X5_refusalOfTold_45 : q_T md d qP_X5_refusalOfTold 45 [] ls st g M Q = q_T md d qP_X5_refusalOfTold 46 [.ret 0] ls st g M Q := q_T_next rfl
theorem s_X5_firstOtherwise {w : Nat} {x0 : Int} {x1 : Int} : q_S md d 105 [qR 5 w, qI x0, qI x1] g M Q = q_T md d qP_X5_firstOtherwise 0 [] [qR 5 w, qI x0, qI x1, qS 0, qS 0] [] g M Q := rfl
theorem b_X5_firstOtherwise_0 : q_T md d qP_X5_firstOtherwise 0 [] ls st g M Q = q_T md d qP_X5_firstOtherwise 10 [.aload 0, .getfield 507, .iload 1, .aaload, .astore 3, .iconst (0), .istore 4] ls st g M Q := q_T_next rfl
theorem b_X5_firstOtherwise_10 : q_T md d qP_X5_firstOtherwise 10 [] ls st g M Q = q_T md d qP_X5_firstOtherwise 19 [.iload 4, .aload 3, .getfield 202, .if_icmp .ge (55)] ls st g M Q := q_T_next rfl
theorem b_X5_firstOtherwise_19 : q_T md d qP_X5_firstOtherwise 19 [] ls st g M Q = q_T md d qP_X5_firstOtherwise 46 [.aload 0, .getfield 504, .invokestatic 59, .pop, .aload 0, .getfield 504, .getfield 406, .iload 2, .iaload, .aload 3, .getfield 200, .iload 4, .iaload, .if_icmp .eq (49)] ls st g M Q := q_T_next rfl
theorem b_X5_firstOtherwise_46 : q_T md d qP_X5_firstOtherwise 46 [] ls st g M Q = q_T md d qP_X5_firstOtherwise 49 [.iload 4, .ret 0] ls st g M Q := q_T_next rfl
theorem b_X5_firstOtherwise_49 : q_T md d qP_X5_firstOtherwise 49 [] ls st g M Q = q_T md d qP_X5_firstOtherwise 55 [.iinc 4 (1), .goto (10)] ls st g M Q := q_T_next rfl
theorem b_X5_firstOtherwise_55 : q_T md d qP_X5_firstOtherwise 55 [] ls st g M Q = q_T md d qP_X5_firstOtherwise 57 [.iconst (-1), .ret 0] ls st g M Q := q_T_next rfl
theorem s_X5_yearsTillIn {w : Nat} {x0 : Int} {x1 : Int} {x2 : Int} : q_S md d 106 [qR 5 w, qI x0, qI x1, qI x2] g M Q = q_T md d qP_X5_yearsTillIn 0 [] [qR 5 w, qI x0, qI x1, qI x2, qS 0, qS 0] [] g M Q := rfl
theorem b_X5_yearsTillIn_0 : q_T md d qP_X5_yearsTillIn 0 [] ls st g M Q = q_T md d qP_X5_yearsTillIn 3 [.iconst (0), .istore 4] ls st g M Q := q_T_next rfl
theorem b_X5_yearsTillIn_3 : q_T md d qP_X5_yearsTillIn 3 [] ls st g M Q = q_T md d qP_X5_yearsTillIn 9 [.iload 4, .iload 3, .if_icmp .gt (65)] ls st g M Q := q_T_next rfl
theorem b_X5_yearsTillIn_9 : q_T md d qP_X5_yearsTillIn 9 [] ls st g M Q = q_T md d qP_X5_yearsTillIn 14 [.iload 4, .ifCond .le (22)] ls st g M Q := q_T_next rfl
theorem b_X5_yearsTillIn_14 : q_T md d qP_X5_yearsTillIn 14 [] ls st g M Q = q_T md d qP_X5_yearsTillIn 22 [.aload 0, .getfield 504, .invokestatic 59, .pop] ls st g M Q := q_T_next rfl
theorem b_X5_yearsTillIn_22 : q_T md d qP_X5_yearsTillIn 22 [] ls st g M Q = q_T md d qP_X5_yearsTillIn 41 [.aload 0, .getfield 504, .getfield 400, .getfield 1, .iload 1, .iaload, .istore 5, .iload 2, .iconst (-1), .if_icmp .ne (50)] ls st g M Q := q_T_next rfl
theorem b_X5_yearsTillIn_41 : q_T md d qP_X5_yearsTillIn 41 [] ls st g M Q = q_T md d qP_X5_yearsTillIn 47 [.iload 5, .iconst (5), .if_icmp .eq (59)] ls st g M Q := q_T_next rfl
theorem b_X5_yearsTillIn_47 : q_T md d qP_X5_yearsTillIn 47 [] ls st g M Q = q_T md d qP_X5_yearsTillIn 50 [.goto (56)] ls st g M Q := q_T_next rfl
theorem b_X5_yearsTillIn_50 : q_T md d qP_X5_yearsTillIn 50 [] ls st g M Q = q_T md d qP_X5_yearsTillIn 56 [.iload 5, .iload 2, .if_icmp .ne (59)] ls st g M Q := q_T_next rfl
theorem b_X5_yearsTillIn_56 : q_T md d qP_X5_yearsTillIn 56 [] ls st g M Q = q_T md d qP_X5_yearsTillIn 59 [.iload 4, .ret 0] ls st g M Q := q_T_next rfl
theorem b_X5_yearsTillIn_59 : q_T md d qP_X5_yearsTillIn 59 [] ls st g M Q = q_T md d qP_X5_yearsTillIn 65 [.iinc 4 (1), .goto (3)] ls st g M Q := q_T_next rfl
theorem b_X5_yearsTillIn_65 : q_T md d qP_X5_yearsTillIn 65 [] ls st g M Q = q_T md d qP_X5_yearsTillIn 67 [.iconst (-1), .ret 0] ls st g M Q := q_T_next rfl
theorem s_X5_passWeather {w : Nat} {x0 : Int} : q_S md d 107 [qR 5 w, qI x0] g M Q = q_T md d qP_X5_passWeather 0 [] [qR 5 w, qI x0, qS 0, qS 0, qS 0, qS 0] [] g M Q := rfl
theorem b_X5_passWeather_0 : q_T md d qP_X5_passWeather 0 [] ls st g M Q = q_T md d qP_X5_passWeather 19 [.aload 0, .getfield 504, .aload 0, .getfield 503, .invokestatic 49, .iload 1, .i2l, .jsr (1), .ladd, .lstore 2, .iconst (0), .istore 4] ls st g M Q := q_T_next rfl
theorem b_X5_passWeather_19 : q_T md d qP_X5_passWeather 19 [] ls st g M Q = q_T md d qP_X5_passWeather 26 [.iload 4, .iconst (8), .if_icmp .ge (92)] ls st g M Q := q_T_next rfl
theorem b_X5_passWeather_26 : q_T md d qP_X5_passWeather 26 [] ls st g M Q = q_T md d qP_X5_passWeather 63 [.lload 2, .jsr (48271), .lmul, .jsr (2147483647), .lrem, .lstore 2, .lload 2, .jsr (5), .lrem, .l2i, .istore 5, .lload 2, .jsr (48271), .lmul, .jsr (2147483647), .lrem, .lstore 2, .aload 0, .iload 5, .invokestatic 98, .ifCond .eq (78)] ls st g M Q := q_T_next rfl
theorem b_X5_passWeather_63 : q_T md d qP_X5_passWeather 63 [] ls st g M Q = q_T md d qP_X5_passWeather 78 [.aload 0, .getfield 504, .iload 5, .lload 2, .jsr (100), .lrem, .l2i, .invokestatic 51] ls st g M Q := q_T_next rfl
theorem b_X5_passWeather_78 : q_T md d qP_X5_passWeather 78 [] ls st g M Q = q_T md d qP_X5_passWeather 92 [.aload 0, .getfield 504, .invokestatic 59, .pop, .iinc 4 (1), .goto (19)] ls st g M Q := q_T_next rfl
theorem b_X5_passWeather_92 : q_T md d qP_X5_passWeather 92 [] ls st g M Q = q_T md d qP_X5_passWeather 93 [.return_] ls st g M Q := q_T_next rfl
theorem s_X5_inLowestTerms {x0 : Int} {x1 : Int} {x2 : Int} : q_S md d 108 [qI x0, qI x1, qI x2] g M Q = q_T md d qP_X5_inLowestTerms 0 [] [qI x0, qI x1, qI x2, qS 0, qS 0] [] g M Q := rfl
theorem b_X5_inLowestTerms_0 : q_T md d qP_X5_inLowestTerms 0 [] ls st g M Q = q_T md d qP_X5_inLowestTerms 4 [.iload 1, .ifCond .ne (8)] ls st g M Q := q_T_next rfl
theorem b_X5_inLowestTerms_4 : q_T md d qP_X5_inLowestTerms 4 [] ls st g M Q = q_T md d qP_X5_inLowestTerms 8 [.jsr (-4611686018427387904), .lreturn] ls st g M Q := q_T_next rfl
theorem b_X5_inLowestTerms_8 : q_T md d qP_X5_inLowestTerms 8 [] ls st g M Q = q_T md d qP_X5_inLowestTerms 13 [.iconst (1), .istore 3, .iconst (2), .istore 4] ls st g M Q := q_T_next rfl
theorem b_X5_inLowestTerms_13 : q_T md d qP_X5_inLowestTerms 13 [] ls st g M Q = q_T md d qP_X5_inLowestTerms 19 [.iload 4, .iload 1, .if_icmp .gt (42)] ls st g M Q := q_T_next rfl
theorem b_X5_inLowestTerms_19 : q_T md d qP_X5_inLowestTerms 19 [] ls st g M Q = q_T md d qP_X5_inLowestTerms 26 [.iload 0, .iload 4, .irem, .ifCond .ne (36)] ls st g M Q := q_T_next rfl
theorem b_X5_inLowestTerms_26 : q_T md d qP_X5_inLowestTerms 26 [] ls st g M Q = q_T md d qP_X5_inLowestTerms 33 [.iload 1, .iload 4, .irem, .ifCond .ne (36)] ls st g M Q := q_T_next rfl
theorem b_X5_inLowestTerms_33 : q_T md d qP_X5_inLowestTerms 33 [] ls st g M Q = q_T md d qP_X5_inLowestTerms 36 [.iload 4, .istore 3] ls st g M Q := q_T_next rfl
theorem b_X5_inLowestTerms_36 : q_T md d qP_X5_inLowestTerms 36 [] ls st g M Q = q_T md d qP_X5_inLowestTerms 42 [.iinc 4 (1), .goto (13)] ls st g M Q := q_T_next rfl
theorem b_X5_inLowestTerms_42 : q_T md d qP_X5_inLowestTerms 42 [] ls st g M Q = q_T md d qP_X5_inLowestTerms 46 [.iload 2, .ifCond .ne (50)] ls st g M Q := q_T_next rfl
theorem b_X5_inLowestTerms_46 : q_T md d qP_X5_inLowestTerms 46 [] ls st g M Q = q_T md d qP_X5_inLowestTerms 50 [.iload 0, .goto (51)] ls st g M Q := q_T_next rfl
theorem b_X5_inLowestTerms_50 : q_T md d qP_X5_inLowestTerms 50 [] ls st g M Q = q_T md d qP_X5_inLowestTerms 51 [.iload 1] ls st g M Q := q_T_next rfl
theorem b_X5_inLowestTerms_51 : q_T md d qP_X5_inLowestTerms 51 [] ls st g M Q = q_T md d qP_X5_inLowestTerms 55 [.iload 3, .idiv, .i2l, .lreturn] ls st g M Q := q_T_next rfl
theorem s_J0_length_8abf5 {t : Nat} : q_S md d 199 [qS (16 + t)] g M Q = q_T md d qP_J0_length_8abf5 0 [] [qS (16 + t)] [] g M Q := rfl
theorem b_J0_length_8abf5_0 : q_T md d qP_J0_length_8abf5 0 [] ls st g M Q = q_T md d qP_J0_length_8abf5 11 [.aload 0, .getfield 10000, .arraylength, .aload 0, .invokestatic 201, .ishr, .ret 0] ls st g M Q := q_T_next rfl
theorem s_J0_charAt_5068e {t : Nat} {x0 : Int} : q_S md d 200 [qS (16 + t), qI x0] g M Q = q_T md d qP_J0_charAt_5068e 0 [] [qS (16 + t), qI x0] [] g M Q := rfl
theorem b_J0_charAt_5068e_0 : q_T md d qP_J0_charAt_5068e 0 [] ls st g M Q = q_T md d qP_J0_charAt_5068e 7 [.aload 0, .invokestatic 202, .ifCond .eq (16)] ls st g M Q := q_T_next rfl
theorem b_J0_charAt_5068e_7 : q_T md d qP_J0_charAt_5068e 7 [] ls st g M Q = q_T md d qP_J0_charAt_5068e 16 [.aload 0, .getfield 10000, .iload 1, .invokestatic 203, .ret 2] ls st g M Q := q_T_next rfl
theorem b_J0_charAt_5068e_16 : q_T md d qP_J0_charAt_5068e 16 [] ls st g M Q = q_T md d qP_J0_charAt_5068e 25 [.aload 0, .getfield 10000, .iload 1, .athrow, .ret 2] ls st g M Q := q_T_next rfl
theorem s_J0_coder_7d493 {t : Nat} : q_S md d 201 [qS (16 + t)] g M Q = q_T md d qP_J0_coder_7d493 0 [] [qS (16 + t)] [] g M Q := rfl
theorem b_J0_coder_7d493_0 : q_T md d qP_J0_coder_7d493 0 [] ls st g M Q = q_T md d qP_J0_coder_7d493 6 [.getstatic 0, .ifCond .eq (13)] ls st g M Q := q_T_next rfl
theorem b_J0_coder_7d493_6 : q_T md d qP_J0_coder_7d493 6 [] ls st g M Q = q_T md d qP_J0_coder_7d493 13 [.aload 0, .getfield 10001, .goto (14)] ls st g M Q := q_T_next rfl
theorem b_J0_coder_7d493_13 : q_T md d qP_J0_coder_7d493 13 [] ls st g M Q = q_T md d qP_J0_coder_7d493 14 [.iconst (1)] ls st g M Q := q_T_next rfl
theorem b_J0_coder_7d493_14 : q_T md d qP_J0_coder_7d493 14 [] ls st g M Q = q_T md d qP_J0_coder_7d493 15 [.ret 3] ls st g M Q := q_T_next rfl
theorem s_J0_isLatin1_aae02 {t : Nat} : q_S md d 202 [qS (16 + t)] g M Q = q_T md d qP_J0_isLatin1_aae02 0 [] [qS (16 + t)] [] g M Q := rfl
theorem b_J0_isLatin1_aae02_0 : q_T md d qP_J0_isLatin1_aae02 0 [] ls st g M Q = q_T md d qP_J0_isLatin1_aae02 6 [.getstatic 0, .ifCond .eq (17)] ls st g M Q := q_T_next rfl
theorem b_J0_isLatin1_aae02_6 : q_T md d qP_J0_isLatin1_aae02 6 [] ls st g M Q = q_T md d qP_J0_isLatin1_aae02 13 [.aload 0, .getfield 10001, .ifCond .ne (17)] ls st g M Q := q_T_next rfl
theorem b_J0_isLatin1_aae02_13 : q_T md d qP_J0_isLatin1_aae02 13 [] ls st g M Q = q_T md d qP_J0_isLatin1_aae02 17 [.iconst (1), .goto (18)] ls st g M Q := q_T_next rfl
theorem b_J0_isLatin1_aae02_17 : q_T md d qP_J0_isLatin1_aae02 17 [] ls st g M Q = q_T md d qP_J0_isLatin1_aae02 18 [.iconst (0)] ls st g M Q := q_T_next rfl
theorem b_J0_isLatin1_aae02_18 : q_T md d qP_J0_isLatin1_aae02 18 [] ls st g M Q = q_T md d qP_J0_isLatin1_aae02 19 [.ret 1] ls st g M Q := q_T_next rfl
theorem s_J1_charAt_3b067 {t0 : Nat} {x1 : Int} : q_S md d 203 [qS (64 + t0), qI x1] g M Q = q_T md d qP_J1_charAt_3b067 0 [] [qS (64 + t0), qI x1] [] g M Q := rfl
theorem b_J1_charAt_3b067_0 : q_T md d qP_J1_charAt_3b067 0 [] ls st g M Q = q_T md d qP_J1_charAt_3b067 15 [.iload 1, .aload 0, .arraylength, .invokestatic 204, .aload 0, .iload 1, .baload, .iconst (255), .iand, .i2c, .ret 2] ls st g M Q := q_T_next rfl
theorem s_J0_checkIndex_df160 {x0 : Int} {x1 : Int} : q_S md d 204 [qI x0, qI x1] g M Q = q_T md d qP_J0_checkIndex_df160 0 [] [qI x0, qI x1] [] g M Q := rfl
theorem b_J0_checkIndex_df160_0 : q_T md d qP_J0_checkIndex_df160 0 [] ls st g M Q = q_T md d qP_J0_checkIndex_df160 10 [.iload 0, .iload 1, .getstatic 1, .invokestatic 205, .pop, .return_] ls st g M Q := q_T_next rfl
theorem s_J3_checkIndex_8e157 {x0 : Int} {x1 : Int} {t2 : Nat} : q_S md d 205 [qI x0, qI x1, qS t2] g M Q = q_T md d qP_J3_checkIndex_8e157 0 [] [qI x0, qI x1, qS t2] [] g M Q := rfl
theorem b_J3_checkIndex_8e157_0 : q_T md d qP_J3_checkIndex_8e157 0 [] ls st g M Q = q_T md d qP_J3_checkIndex_8e157 4 [.iload 0, .ifCond .lt (9)] ls st g M Q := q_T_next rfl
theorem b_J3_checkIndex_8e157_4 : q_T md d qP_J3_checkIndex_8e157 4 [] ls st g M Q = q_T md d qP_J3_checkIndex_8e157 9 [.iload 0, .iload 1, .if_icmp .lt (16)] ls st g M Q := q_T_next rfl
theorem b_J3_checkIndex_8e157_9 : q_T md d qP_J3_checkIndex_8e157 9 [] ls st g M Q = q_T md d qP_J3_checkIndex_8e157 16 [.aload 2, .iload 0, .iload 1, .athrow, .athrow] ls st g M Q := q_T_next rfl
theorem b_J3_checkIndex_8e157_16 : q_T md d qP_J3_checkIndex_8e157 16 [] ls st g M Q = q_T md d qP_J3_checkIndex_8e157 18 [.iload 0, .ret 0] ls st g M Q := q_T_next rfl
theorem s_J9_abs_0f7a4 {x0 : Int} : q_S md d 206 [qI x0] g M Q = q_T md d qP_J9_abs_0f7a4 0 [] [qI x0] [] g M Q := rfl
theorem b_J9_abs_0f7a4_0 : q_T md d qP_J9_abs_0f7a4 0 [] ls st g M Q = q_T md d qP_J9_abs_0f7a4 4 [.iload 0, .ifCond .ge (9)] ls st g M Q := q_T_next rfl
theorem b_J9_abs_0f7a4_4 : q_T md d qP_J9_abs_0f7a4 4 [] ls st g M Q = q_T md d qP_J9_abs_0f7a4 9 [.iload 0, .ineg, .goto (10)] ls st g M Q := q_T_next rfl
theorem b_J9_abs_0f7a4_9 : q_T md d qP_J9_abs_0f7a4 9 [] ls st g M Q = q_T md d qP_J9_abs_0f7a4 10 [.iload 0] ls st g M Q := q_T_next rfl
theorem b_J9_abs_0f7a4_10 : q_T md d qP_J9_abs_0f7a4 10 [] ls st g M Q = q_T md d qP_J9_abs_0f7a4 11 [.ret 0] ls st g M Q := q_T_next rfl
theorem s_J9_max_7cf53 {x0 : Int} {x1 : Int} : q_S md d 207 [qI x0, qI x1] g M Q = q_T md d qP_J9_max_7cf53 0 [] [qI x0, qI x1] [] g M Q := rfl
theorem b_J9_max_7cf53_0 : q_T md d qP_J9_max_7cf53 0 [] ls st g M Q = q_T md d qP_J9_max_7cf53 5 [.iload 0, .iload 1, .if_icmp .lt (9)] ls st g M Q := q_T_next rfl
theorem b_J9_max_7cf53_5 : q_T md d qP_J9_max_7cf53 5 [] ls st g M Q = q_T md d qP_J9_max_7cf53 9 [.iload 0, .goto (10)] ls st g M Q := q_T_next rfl
theorem b_J9_max_7cf53_9 : q_T md d qP_J9_max_7cf53 9 [] ls st g M Q = q_T md d qP_J9_max_7cf53 10 [.iload 1] ls st g M Q := q_T_next rfl
theorem b_J9_max_7cf53_10 : q_T md d qP_J9_max_7cf53 10 [] ls st g M Q = q_T md d qP_J9_max_7cf53 11 [.ret 0] ls st g M Q := q_T_next rfl
theorem s_J9_min_7cf53 {x0 : Int} {x1 : Int} : q_S md d 208 [qI x0, qI x1] g M Q = q_T md d qP_J9_min_7cf53 0 [] [qI x0, qI x1] [] g M Q := rfl
theorem b_J9_min_7cf53_0 : q_T md d qP_J9_min_7cf53 0 [] ls st g M Q = q_T md d qP_J9_min_7cf53 5 [.iload 0, .iload 1, .if_icmp .gt (9)] ls st g M Q := q_T_next rfl
theorem b_J9_min_7cf53_5 : q_T md d qP_J9_min_7cf53 5 [] ls st g M Q = q_T md d qP_J9_min_7cf53 9 [.iload 0, .goto (10)] ls st g M Q := q_T_next rfl
theorem b_J9_min_7cf53_9 : q_T md d qP_J9_min_7cf53 9 [] ls st g M Q = q_T md d qP_J9_min_7cf53 10 [.iload 1] ls st g M Q := q_T_next rfl
theorem b_J9_min_7cf53_10 : q_T md d qP_J9_min_7cf53 10 [] ls st g M Q = q_T md d qP_J9_min_7cf53 11 [.ret 0] ls st g M Q := q_T_next rfl
end BLK
