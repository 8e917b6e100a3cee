section BLK
variable {md d : Nat} {ls st : List q_V} {g : q_G} {M : q_M} {Q : Option q_V → q_G → q_M → Prop}
theorem s_X6_init {w : Nat} : q_S md d 109 [qR 6 w] g M Q = q_T md d qP_X6_init 0 [] [qR 6 w, qS 0] [] g M Q := rfl
theorem b_X6_init_0 : q_T md d qP_X6_init 0 [] ls st g M Q = q_T md d qP_X6_init 65 [.aload 0, .monitorenter, .aload 0, .iconst (5), .newarray .int, .putfield 601, .aload 0, .iconst (5), .newarray .int, .putfield 602, .aload 0, .iconst (20), .newarray .int, .dup, .iconst (0), .iconst (0), .iastore, .dup, .iconst (1), .iconst (1), .iastore, .dup, .iconst (2), .iconst (0), .iastore, .dup, .iconst (3), .iconst (0), .iastore, .dup, .iconst (4), .iconst (20), .iastore, .dup, .iconst (5), .iconst (1), .iastore, .dup, .iconst (6), .iconst (0), .iastore, .dup, .iconst (7), .iconst (0), .iastore, .dup, .iconst (8), .iconst (40), .iastore, .dup] ls st g M Q := q_T_next rfl
theorem b_X6_init_65 : q_T md d qP_X6_init 65 [] ls st g M Q = q_T md d qP_X6_init 136 [.iconst (9), .iconst (1), .iastore, .dup, .iconst (10), .iconst (0), .iastore, .dup, .iconst (11), .iconst (0), .iastore, .dup, .iconst (12), .iconst (60), .iastore, .dup, .iconst (13), .iconst (1), .iastore, .dup, .iconst (14), .iconst (0), .iastore, .dup, .iconst (15), .iconst (0), .iastore, .dup, .iconst (16), .iconst (80), .iastore, .dup, .iconst (17), .iconst (1), .iastore, .dup, .iconst (18), .iconst (0), .iastore, .dup, .iconst (19), .iconst (0), .iastore, .putfield 603, .aload 0, .iconst (15), .newarray .int, .putfield 604, .aload 0, .iconst (160)] ls st g M Q := q_T_next rfl
theorem b_X6_init_136 : q_T md d qP_X6_init 136 [] ls st g M Q = q_T md d qP_X6_init 218 [.newarray .int, .putfield 606, .aload 0, .iconst (1200), .newarray .int, .putfield 608, .aload 0, .iconst (24), .newarray .int, .putfield 609, .aload 0, .iconst (35), .newarray .int, .putfield 613, .aload 0, .iconst (3), .newarray .int, .putfield 614, .aload 0, .iconst (4), .newarray .int, .dup, .iconst (0), .iconst (-1), .iastore, .dup, .iconst (1), .iconst (-1), .iastore, .dup, .iconst (2), .iconst (-1), .iastore, .dup, .iconst (3), .iconst (-1), .iastore, .putfield 615, .aload 0, .iconst (4), .newarray .int, .putfield 616, .aload 0, .iconst (160), .newarray .int, .putfield 617, .aload 0, .iconst (40), .newarray .int, .dup] ls st g M Q := q_T_next rfl
theorem b_X6_init_218 : q_T md d qP_X6_init 218 [] ls st g M Q = q_T md d qP_X6_init 288 [.iconst (0), .iconst (108), .iastore, .dup, .iconst (1), .iconst (105), .iastore, .dup, .iconst (2), .iconst (107), .iastore, .dup, .iconst (3), .iconst (101), .iastore, .dup, .iconst (4), .iconst (115), .iastore, .dup, .iconst (5), .iconst (32), .iastore, .dup, .iconst (6), .iconst (57), .iastore, .dup, .iconst (7), .iconst (57), .iastore, .dup, .iconst (8), .iconst (32), .iastore, .dup, .iconst (9), .iconst (45), .iastore, .dup, .iconst (10), .iconst (32), .iastore, .dup, .iconst (11), .iconst (102), .iastore, .dup, .iconst (12), .iconst (97)] ls st g M Q := q_T_next rfl
theorem b_X6_init_288 : q_T md d qP_X6_init 288 [] ls st g M Q = q_T md d qP_X6_init 362 [.iastore, .dup, .iconst (13), .iconst (114), .iastore, .dup, .iconst (14), .iconst (32), .iastore, .dup, .iconst (15), .iconst (59), .iastore, .dup, .iconst (16), .iconst (32), .iastore, .dup, .iconst (17), .iconst (119), .iastore, .dup, .iconst (18), .iconst (97), .iastore, .dup, .iconst (19), .iconst (110), .iastore, .dup, .iconst (20), .iconst (116), .iastore, .dup, .iconst (21), .iconst (115), .iastore, .dup, .iconst (22), .iconst (32), .iastore, .dup, .iconst (23), .iconst (119), .iastore, .dup, .iconst (24), .iconst (101), .iastore, .dup] ls st g M Q := q_T_next rfl
theorem b_X6_init_362 : q_T md d qP_X6_init 362 [] ls st g M Q = q_T md d qP_X6_init 438 [.iconst (25), .iconst (105), .iastore, .dup, .iconst (26), .iconst (103), .iastore, .dup, .iconst (27), .iconst (104), .iastore, .dup, .iconst (28), .iconst (116), .iastore, .dup, .iconst (29), .iconst (32), .iastore, .dup, .iconst (30), .iconst (59), .iastore, .dup, .iconst (31), .iconst (32), .iastore, .dup, .iconst (32), .iconst (103), .iastore, .dup, .iconst (33), .iconst (111), .iastore, .dup, .iconst (34), .iconst (101), .iastore, .dup, .iconst (35), .iconst (115), .iastore, .dup, .iconst (36), .iconst (32), .iastore, .dup, .iconst (37), .iconst (57)] ls st g M Q := q_T_next rfl
theorem b_X6_init_438 : q_T md d qP_X6_init 438 [] ls st g M Q = q_T md d qP_X6_init 508 [.iastore, .dup, .iconst (38), .iconst (32), .iastore, .dup, .iconst (39), .iconst (59), .iastore, .putfield 618, .aload 0, .iconst (96), .newarray .int, .dup, .iconst (0), .iconst (108), .iastore, .dup, .iconst (1), .iconst (105), .iastore, .dup, .iconst (2), .iconst (107), .iastore, .dup, .iconst (3), .iconst (101), .iastore, .dup, .iconst (4), .iconst (115), .iastore, .dup, .iconst (5), .iconst (32), .iastore, .dup, .iconst (6), .iconst (32), .iastore, .dup, .iconst (7), .iconst (32), .iastore, .dup, .iconst (8), .iconst (119), .iastore, .dup] ls st g M Q := q_T_next rfl
theorem b_X6_init_508 : q_T md d qP_X6_init 508 [] ls st g M Q = q_T md d qP_X6_init 584 [.iconst (9), .iconst (97), .iastore, .dup, .iconst (10), .iconst (110), .iastore, .dup, .iconst (11), .iconst (116), .iastore, .dup, .iconst (12), .iconst (115), .iastore, .dup, .iconst (13), .iconst (32), .iastore, .dup, .iconst (14), .iconst (32), .iastore, .dup, .iconst (15), .iconst (32), .iastore, .dup, .iconst (16), .iconst (103), .iastore, .dup, .iconst (17), .iconst (111), .iastore, .dup, .iconst (18), .iconst (101), .iastore, .dup, .iconst (19), .iconst (115), .iastore, .dup, .iconst (20), .iconst (32), .iastore, .dup, .iconst (21), .iconst (32)] ls st g M Q := q_T_next rfl
theorem b_X6_init_584 : q_T md d qP_X6_init 584 [] ls st g M Q = q_T md d qP_X6_init 658 [.iastore, .dup, .iconst (22), .iconst (32), .iastore, .dup, .iconst (23), .iconst (32), .iastore, .dup, .iconst (24), .iconst (102), .iastore, .dup, .iconst (25), .iconst (97), .iastore, .dup, .iconst (26), .iconst (114), .iastore, .dup, .iconst (27), .iconst (32), .iastore, .dup, .iconst (28), .iconst (32), .iastore, .dup, .iconst (29), .iconst (32), .iastore, .dup, .iconst (30), .iconst (32), .iastore, .dup, .iconst (31), .iconst (32), .iastore, .dup, .iconst (32), .iconst (118), .iastore, .dup, .iconst (33), .iconst (97), .iastore, .dup] ls st g M Q := q_T_next rfl
theorem b_X6_init_658 : q_T md d qP_X6_init 658 [] ls st g M Q = q_T md d qP_X6_init 734 [.iconst (34), .iconst (105), .iastore, .dup, .iconst (35), .iconst (110), .iastore, .dup, .iconst (36), .iconst (32), .iastore, .dup, .iconst (37), .iconst (32), .iastore, .dup, .iconst (38), .iconst (32), .iastore, .dup, .iconst (39), .iconst (32), .iastore, .dup, .iconst (40), .iconst (98), .iastore, .dup, .iconst (41), .iconst (117), .iastore, .dup, .iconst (42), .iconst (105), .iastore, .dup, .iconst (43), .iconst (108), .iastore, .dup, .iconst (44), .iconst (116), .iastore, .dup, .iconst (45), .iconst (32), .iastore, .dup, .iconst (46), .iconst (32)] ls st g M Q := q_T_next rfl
theorem b_X6_init_734 : q_T md d qP_X6_init 734 [] ls st g M Q = q_T md d qP_X6_init 808 [.iastore, .dup, .iconst (47), .iconst (32), .iastore, .dup, .iconst (48), .iconst (119), .iastore, .dup, .iconst (49), .iconst (101), .iastore, .dup, .iconst (50), .iconst (105), .iastore, .dup, .iconst (51), .iconst (103), .iastore, .dup, .iconst (52), .iconst (104), .iastore, .dup, .iconst (53), .iconst (116), .iastore, .dup, .iconst (54), .iconst (32), .iastore, .dup, .iconst (55), .iconst (32), .iastore, .dup, .iconst (56), .iconst (121), .iastore, .dup, .iconst (57), .iconst (101), .iastore, .dup, .iconst (58), .iconst (97), .iastore, .dup] ls st g M Q := q_T_next rfl
theorem b_X6_init_808 : q_T md d qP_X6_init 808 [] ls st g M Q = q_T md d qP_X6_init 884 [.iconst (59), .iconst (114), .iastore, .dup, .iconst (60), .iconst (32), .iastore, .dup, .iconst (61), .iconst (32), .iastore, .dup, .iconst (62), .iconst (32), .iastore, .dup, .iconst (63), .iconst (32), .iastore, .dup, .iconst (64), .iconst (109), .iastore, .dup, .iconst (65), .iconst (111), .iastore, .dup, .iconst (66), .iconst (114), .iastore, .dup, .iconst (67), .iconst (101), .iastore, .dup, .iconst (68), .iconst (32), .iastore, .dup, .iconst (69), .iconst (32), .iastore, .dup, .iconst (70), .iconst (32), .iastore, .dup, .iconst (71), .iconst (32)] ls st g M Q := q_T_next rfl
theorem b_X6_init_884 : q_T md d qP_X6_init 884 [] ls st g M Q = q_T md d qP_X6_init 958 [.iastore, .dup, .iconst (72), .iconst (111), .iastore, .dup, .iconst (73), .iconst (114), .iastore, .dup, .iconst (74), .iconst (32), .iastore, .dup, .iconst (75), .iconst (32), .iastore, .dup, .iconst (76), .iconst (32), .iastore, .dup, .iconst (77), .iconst (32), .iastore, .dup, .iconst (78), .iconst (32), .iastore, .dup, .iconst (79), .iconst (32), .iastore, .dup, .iconst (80), .iconst (97), .iastore, .dup, .iconst (81), .iconst (110), .iastore, .dup, .iconst (82), .iconst (100), .iastore, .dup, .iconst (83), .iconst (32), .iastore, .dup] ls st g M Q := q_T_next rfl
theorem b_X6_init_958 : q_T md d qP_X6_init 958 [] ls st g M Q = q_T md d qP_X6_init 1036 [.iconst (84), .iconst (32), .iastore, .dup, .iconst (85), .iconst (32), .iastore, .dup, .iconst (86), .iconst (32), .iastore, .dup, .iconst (87), .iconst (32), .iastore, .dup, .iconst (88), .iconst (110), .iastore, .dup, .iconst (89), .iconst (111), .iastore, .dup, .iconst (90), .iconst (116), .iastore, .dup, .iconst (91), .iconst (32), .iastore, .dup, .iconst (92), .iconst (32), .iastore, .dup, .iconst (93), .iconst (32), .iastore, .dup, .iconst (94), .iconst (32), .iastore, .dup, .iconst (95), .iconst (32), .iastore, .putfield 623, .aload 0, .iconst (200)] ls st g M Q := q_T_next rfl
theorem b_X6_init_1036 : q_T md d qP_X6_init 1036 [] ls st g M Q = q_T md d qP_X6_init 1105 [.newarray .int, .putfield 624, .aload 0, .iconst (200), .newarray .int, .putfield 628, .aload 0, .iconst (6), .newarray .int, .putfield 629, .aload 0, .iconst (36), .newarray .int, .putfield 630, .aload 0, .iconst (25), .newarray .int, .putfield 631, .aload 0, .iconst (25), .newarray .int, .putfield 632, .aload 0, .iconst (5), .newarray .int, .putfield 633, .aload 0, .iconst (5), .newarray .int, .putfield 634, .aload 0, .iconst (5), .newarray .int, .putfield 635, .iconst (0), .istore 1] ls st g M Q := q_T_next rfl
theorem b_X6_init_1105 : q_T md d qP_X6_init 1105 [] ls st g M Q = q_T md d qP_X6_init 1111 [.iload 1, .iconst (40), .if_icmp .ge (1129)] ls st g M Q := q_T_next rfl
theorem b_X6_init_1111 : q_T md d qP_X6_init 1111 [] ls st g M Q = q_T md d qP_X6_init 1129 [.aload 0, .getfield 606, .iload 1, .aload 0, .getfield 618, .iload 1, .iaload, .iastore, .iinc 1 (1), .goto (1105)] ls st g M Q := q_T_next rfl
theorem b_X6_init_1129 : q_T md d qP_X6_init 1129 [] ls st g M Q = q_T md d qP_X6_init 1141 [.aload 0, .iconst (40), .putfield 607, .aload 0, .invokestatic 133, .pop, .return_] ls st g M Q := q_T_next rfl
theorem s_X6_in {x0 : Int} {x1 : Int} {x2 : Int} : q_S md d 110 [qI x0, qI x1, qI x2] g M Q = q_T md d qP_X6_in 0 [] [qI x0, qI x1, qI x2] [] g M Q := rfl
theorem b_X6_in_0 : q_T md d qP_X6_in 0 [] ls st g M Q = q_T md d qP_X6_in 5 [.iload 0, .iload 1, .if_icmp .lt (14)] ls st g M Q := q_T_next rfl
theorem b_X6_in_5 : q_T md d qP_X6_in 5 [] ls st g M Q = q_T md d qP_X6_in 10 [.iload 0, .iload 2, .if_icmp .gt (14)] ls st g M Q := q_T_next rfl
theorem b_X6_in_10 : q_T md d qP_X6_in 10 [] ls st g M Q = q_T md d qP_X6_in 14 [.iconst (1), .goto (15)] ls st g M Q := q_T_next rfl
theorem b_X6_in_14 : q_T md d qP_X6_in 14 [] ls st g M Q = q_T md d qP_X6_in 15 [.iconst (0)] ls st g M Q := q_T_next rfl
theorem b_X6_in_15 : q_T md d qP_X6_in 15 [] ls st g M Q = q_T md d qP_X6_in 16 [.ret 1] ls st g M Q := q_T_next rfl
theorem s_X6_within {x0 : Int} {x1 : Int} {x2 : Int} : q_S md d 111 [qI x0, qI x1, qI x2] g M Q = q_T md d qP_X6_within 0 [] [qI x0, qI x1, qI x2] [] g M Q := rfl
theorem b_X6_within_0 : q_T md d qP_X6_within 0 [] ls st g M Q = q_T md d qP_X6_within 5 [.iload 0, .iload 1, .if_icmp .ge (9)] ls st g M Q := q_T_next rfl
theorem b_X6_within_5 : q_T md d qP_X6_within 5 [] ls st g M Q = q_T md d qP_X6_within 9 [.iload 1, .goto (19)] ls st g M Q := q_T_next rfl
theorem b_X6_within_9 : q_T md d qP_X6_within 9 [] ls st g M Q = q_T md d qP_X6_within 14 [.iload 0, .iload 2, .if_icmp .le (18)] ls st g M Q := q_T_next rfl
theorem b_X6_within_14 : q_T md d qP_X6_within 14 [] ls st g M Q = q_T md d qP_X6_within 18 [.iload 2, .goto (19)] ls st g M Q := q_T_next rfl
theorem b_X6_within_18 : q_T md d qP_X6_within 18 [] ls st g M Q = q_T md d qP_X6_within 19 [.iload 0] ls st g M Q := q_T_next rfl
theorem b_X6_within_19 : q_T md d qP_X6_within 19 [] ls st g M Q = q_T md d qP_X6_within 20 [.ret 0] ls st g M Q := q_T_next rfl
theorem s_X6_isStone {w : Nat} {x0 : Int} : q_S md d 112 [qR 6 w, qI x0] g M Q = q_T md d qP_X6_isStone 0 [] [qR 6 w, qI x0] [] g M Q := rfl
theorem b_X6_isStone_0 : q_T md d qP_X6_isStone 0 [] ls st g M Q = q_T md d qP_X6_isStone 12 [.iload 1, .iconst (0), .aload 0, .getfield 600, .iconst (1), .isub, .invokestatic 110, .ret 1] ls st g M Q := q_T_next rfl
theorem s_X6_isSite {x0 : Int} : q_S md d 113 [qI x0] g M Q = q_T md d qP_X6_isSite 0 [] [qI x0] [] g M Q := rfl
theorem b_X6_isSite_0 : q_T md d qP_X6_isSite 0 [] ls st g M Q = q_T md d qP_X6_isSite 7 [.iload 0, .iconst (0), .iconst (4), .invokestatic 110, .ret 1] ls st g M Q := q_T_next rfl
theorem s_X6_outside {w : Nat} : q_S md d 114 [qR 6 w] g M Q = q_T md d qP_X6_outside 0 [] [qR 6 w, qS 0, qS 0] [] g M Q := rfl
theorem b_X6_outside_0 : q_T md d qP_X6_outside 0 [] ls st g M Q = q_T md d qP_X6_outside 4 [.iconst (0), .istore 1, .iconst (0), .istore 2] ls st g M Q := q_T_next rfl
theorem b_X6_outside_4 : q_T md d qP_X6_outside 4 [] ls st g M Q = q_T md d qP_X6_outside 12 [.iload 2, .aload 0, .getfield 600, .if_icmp .ge (40)] ls st g M Q := q_T_next rfl
theorem b_X6_outside_12 : q_T md d qP_X6_outside 12 [] ls st g M Q = q_T md d qP_X6_outside 27 [.iload 1, .aload 0, .getfield 604, .iconst (3), .iload 2, .imul, .iconst (2), .iadd, .iaload, .iconst (-1), .if_icmp .ne (31)] ls st g M Q := q_T_next rfl
theorem b_X6_outside_27 : q_T md d qP_X6_outside 27 [] ls st g M Q = q_T md d qP_X6_outside 31 [.iconst (1), .goto (32)] ls st g M Q := q_T_next rfl
theorem b_X6_outside_31 : q_T md d qP_X6_outside 31 [] ls st g M Q = q_T md d qP_X6_outside 32 [.iconst (0)] ls st g M Q := q_T_next rfl
theorem b_X6_outside_32 : q_T md d qP_X6_outside 32 [] ls st g M Q = q_T md d qP_X6_outside 40 [.iadd, .istore 1, .iinc 2 (1), .goto (4)] ls st g M Q := q_T_next rfl
theorem b_X6_outside_40 : q_T md d qP_X6_outside 40 [] ls st g M Q = q_T md d qP_X6_outside 42 [.iload 1, .ret 0] ls st g M Q := q_T_next rfl
theorem s_X6_whoIn {w : Nat} {x0 : Int} : q_S md d 115 [qR 6 w, qI x0] g M Q = q_T md d qP_X6_whoIn 0 [] [qR 6 w, qI x0, qS 0, qS 0] [] g M Q := rfl
theorem b_X6_whoIn_0 : q_T md d qP_X6_whoIn 0 [] ls st g M Q = q_T md d qP_X6_whoIn 4 [.iconst (0), .istore 2, .iconst (0), .istore 3] ls st g M Q := q_T_next rfl
theorem b_X6_whoIn_4 : q_T md d qP_X6_whoIn 4 [] ls st g M Q = q_T md d qP_X6_whoIn 12 [.iload 3, .aload 0, .getfield 600, .if_icmp .ge (42)] ls st g M Q := q_T_next rfl
theorem b_X6_whoIn_12 : q_T md d qP_X6_whoIn 12 [] ls st g M Q = q_T md d qP_X6_whoIn 27 [.iload 2, .aload 0, .getfield 604, .iconst (3), .iload 3, .imul, .iconst (2), .iadd, .iaload, .iload 1, .if_icmp .ne (33)] ls st g M Q := q_T_next rfl
theorem b_X6_whoIn_27 : q_T md d qP_X6_whoIn 27 [] ls st g M Q = q_T md d qP_X6_whoIn 33 [.iconst (1), .iload 3, .ishl, .goto (34)] ls st g M Q := q_T_next rfl
theorem b_X6_whoIn_33 : q_T md d qP_X6_whoIn 33 [] ls st g M Q = q_T md d qP_X6_whoIn 34 [.iconst (0)] ls st g M Q := q_T_next rfl
theorem b_X6_whoIn_34 : q_T md d qP_X6_whoIn 34 [] ls st g M Q = q_T md d qP_X6_whoIn 42 [.ior, .istore 2, .iinc 3 (1), .goto (4)] ls st g M Q := q_T_next rfl
theorem b_X6_whoIn_42 : q_T md d qP_X6_whoIn 42 [] ls st g M Q = q_T md d qP_X6_whoIn 44 [.iload 2, .ret 0] ls st g M Q := q_T_next rfl
theorem s_X6_onesOf {x0 : Int} : q_S md d 116 [qI x0] g M Q = q_T md d qP_X6_onesOf 0 [] [qI x0, qS 0, qS 0] [] g M Q := rfl
theorem b_X6_onesOf_0 : q_T md d qP_X6_onesOf 0 [] ls st g M Q = q_T md d qP_X6_onesOf 4 [.iconst (0), .istore 1, .iconst (0), .istore 2] ls st g M Q := q_T_next rfl
theorem b_X6_onesOf_4 : q_T md d qP_X6_onesOf 4 [] ls st g M Q = q_T md d qP_X6_onesOf 9 [.iload 2, .iconst (5), .if_icmp .ge (23)] ls st g M Q := q_T_next rfl
theorem b_X6_onesOf_9 : q_T md d qP_X6_onesOf 9 [] ls st g M Q = q_T md d qP_X6_onesOf 23 [.iload 1, .iload 0, .iload 2, .ishr, .iconst (1), .iand, .iadd, .istore 1, .iinc 2 (1), .goto (4)] ls st g M Q := q_T_next rfl
theorem b_X6_onesOf_23 : q_T md d qP_X6_onesOf 23 [] ls st g M Q = q_T md d qP_X6_onesOf 25 [.iload 1, .ret 0] ls st g M Q := q_T_next rfl
theorem s_X6_count {w : Nat} {x0 : Int} : q_S md d 117 [qR 6 w, qI x0] g M Q = q_T md d qP_X6_count 0 [] [qR 6 w, qI x0] [] g M Q := rfl
theorem b_X6_count_0 : q_T md d qP_X6_count 0 [] ls st g M Q = q_T md d qP_X6_count 40 [.iload 1, .tableswitch (70) (0) (5) #[40, 45, 50, 55, 60, 65]] ls st g M Q := q_T_next rfl
theorem b_X6_count_40 : q_T md d qP_X6_count 40 [] ls st g M Q = q_T md d qP_X6_count 45 [.aload 0, .getfield 600, .ret 0] ls st g M Q := q_T_next rfl
theorem b_X6_count_45 : q_T md d qP_X6_count 45 [] ls st g M Q = q_T md d qP_X6_count 50 [.aload 0, .getfield 605, .ret 0] ls st g M Q := q_T_next rfl
theorem b_X6_count_50 : q_T md d qP_X6_count 50 [] ls st g M Q = q_T md d qP_X6_count 55 [.aload 0, .invokestatic 114, .ret 0] ls st g M Q := q_T_next rfl
theorem b_X6_count_55 : q_T md d qP_X6_count 55 [] ls st g M Q = q_T md d qP_X6_count 60 [.aload 0, .getfield 610, .ret 0] ls st g M Q := q_T_next rfl
theorem b_X6_count_60 : q_T md d qP_X6_count 60 [] ls st g M Q = q_T md d qP_X6_count 65 [.aload 0, .getfield 611, .ret 0] ls st g M Q := q_T_next rfl
theorem b_X6_count_65 : q_T md d qP_X6_count 65 [] ls st g M Q = q_T md d qP_X6_count 70 [.aload 0, .getfield 607, .ret 0] ls st g M Q := q_T_next rfl
theorem b_X6_count_70 : q_T md d qP_X6_count 70 [] ls st g M Q = q_T md d qP_X6_count 73 [.iconst (-2), .ret 0] ls st g M Q := q_T_next rfl
theorem s_X6_dawn {w : Nat} {x0 : Int} : q_S md d 118 [qR 6 w, qI x0] g M Q = q_T md d qP_X6_dawn 0 [] [qR 6 w, qI x0, qS 0] [] g M Q := rfl
theorem b_X6_dawn_0 : q_T md d qP_X6_dawn 0 [] ls st g M Q = q_T md d qP_X6_dawn 11 [.iload 1, .iconst (0), .iconst (999), .invokestatic 110, .ifCond .ne (14)] ls st g M Q := q_T_next rfl
theorem b_X6_dawn_11 : q_T md d qP_X6_dawn 11 [] ls st g M Q = q_T md d qP_X6_dawn 14 [.iconst (-2), .ret 0] ls st g M Q := q_T_next rfl
theorem b_X6_dawn_14 : q_T md d qP_X6_dawn 14 [] ls st g M Q = q_T md d qP_X6_dawn 26 [.aload 0, .getfield 605, .istore 2, .aload 0, .iload 1, .putfield 605, .iload 2, .ret 0] ls st g M Q := q_T_next rfl
theorem s_X6_build {w : Nat} {x0 : Int} {x1 : Int} {x2 : Int} : q_S md d 119 [qR 6 w, qI x0, qI x1, qI x2] g M Q = q_T md d qP_X6_build 0 [] [qR 6 w, qI x0, qI x1, qI x2, qS 0, qS 0, qS 0] [] g M Q := rfl
theorem b_X6_build_0 : q_T md d qP_X6_build 0 [] ls st g M Q = q_T md d qP_X6_build 7 [.iload 1, .invokestatic 113, .ifCond .ne (10)] ls st g M Q := q_T_next rfl
theorem b_X6_build_7 : q_T md d qP_X6_build 7 [] ls st g M Q = q_T md d qP_X6_build 10 [.iconst (-5), .ret 0] ls st g M Q := q_T_next rfl
theorem b_X6_build_10 : q_T md d qP_X6_build 10 [] ls st g M Q = q_T md d qP_X6_build 15 [.iload 2, .iconst (1), .if_icmp .ne (26)] ls st g M Q := q_T_next rfl
theorem b_X6_build_15 : q_T md d qP_X6_build 15 [] ls st g M Q = q_T md d qP_X6_build 26 [.aload 0, .iload 1, .invokestatic 115, .invokestatic 116, .goto (27)] ls st g M Q := q_T_next rfl
theorem b_X6_build_26 : q_T md d qP_X6_build 26 [] ls st g M Q = q_T md d qP_X6_build 27 [.iconst (0)] ls st g M Q := q_T_next rfl
theorem b_X6_build_27 : q_T md d qP_X6_build 27 [] ls st g M Q = q_T md d qP_X6_build 38 [.istore 4, .iload 2, .iconst (0), .iconst (3), .invokestatic 110, .ifCond .eq (58)] ls st g M Q := q_T_next rfl
theorem b_X6_build_38 : q_T md d qP_X6_build 38 [] ls st g M Q = q_T md d qP_X6_build 46 [.iload 3, .iload 4, .iload 2, .iconst (1), .if_icmp .ne (50)] ls st g M Q := q_T_next rfl
theorem b_X6_build_46 : q_T md d qP_X6_build 46 [] ls st g M Q = q_T md d qP_X6_build 50 [.iconst (5), .goto (52)] ls st g M Q := q_T_next rfl
theorem b_X6_build_50 : q_T md d qP_X6_build 50 [] ls st g M Q = q_T md d qP_X6_build 52 [.iconst (99)] ls st g M Q := q_T_next rfl
theorem b_X6_build_52 : q_T md d qP_X6_build 52 [] ls st g M Q = q_T md d qP_X6_build 58 [.invokestatic 110, .ifCond .ne (61)] ls st g M Q := q_T_next rfl
theorem b_X6_build_58 : q_T md d qP_X6_build 58 [] ls st g M Q = q_T md d qP_X6_build 61 [.iconst (-7), .ret 0] ls st g M Q := q_T_next rfl
theorem b_X6_build_61 : q_T md d qP_X6_build 61 [] ls st g M Q = q_T md d qP_X6_build 87 [.aload 0, .getfield 603, .iconst (4), .iload 1, .imul, .iload 2, .iadd, .iaload, .istore 5, .aload 0, .getfield 603, .iconst (4), .iload 1, .imul, .iload 2, .iadd, .iload 3, .iastore, .iconst (0), .istore 6] ls st g M Q := q_T_next rfl
theorem b_X6_build_87 : q_T md d qP_X6_build 87 [] ls st g M Q = q_T md d qP_X6_build 96 [.iload 6, .aload 0, .getfield 600, .if_icmp .ge (131)] ls st g M Q := q_T_next rfl
theorem b_X6_build_96 : q_T md d qP_X6_build 96 [] ls st g M Q = q_T md d qP_X6_build 100 [.iload 2, .ifCond .ne (131)] ls st g M Q := q_T_next rfl
theorem b_X6_build_100 : q_T md d qP_X6_build 100 [] ls st g M Q = q_T md d qP_X6_build 115 [.aload 0, .getfield 604, .iconst (3), .iload 6, .imul, .iconst (2), .iadd, .iaload, .iload 1, .if_icmp .ne (125)] ls st g M Q := q_T_next rfl
theorem b_X6_build_115 : q_T md d qP_X6_build 115 [] ls st g M Q = q_T md d qP_X6_build 125 [.aload 0, .getfield 604, .iconst (3), .iload 6, .imul, .iload 3, .iastore] ls st g M Q := q_T_next rfl
theorem b_X6_build_125 : q_T md d qP_X6_build 125 [] ls st g M Q = q_T md d qP_X6_build 131 [.iinc 6 (1), .goto (87)] ls st g M Q := q_T_next rfl
theorem b_X6_build_131 : q_T md d qP_X6_build 131 [] ls st g M Q = q_T md d qP_X6_build 134 [.iload 5, .ret 0] ls st g M Q := q_T_next rfl
theorem s_X6_site {w : Nat} {x0 : Int} {x1 : Int} : q_S md d 120 [qR 6 w, qI x0, qI x1] g M Q = q_T md d qP_X6_site 0 [] [qR 6 w, qI x0, qI x1] [] g M Q := rfl
theorem b_X6_site_0 : q_T md d qP_X6_site 0 [] ls st g M Q = q_T md d qP_X6_site 7 [.iload 1, .invokestatic 113, .ifCond .ne (10)] ls st g M Q := q_T_next rfl
theorem b_X6_site_7 : q_T md d qP_X6_site 7 [] ls st g M Q = q_T md d qP_X6_site 10 [.iconst (-5), .ret 0] ls st g M Q := q_T_next rfl
theorem b_X6_site_10 : q_T md d qP_X6_site 10 [] ls st g M Q = q_T md d qP_X6_site 15 [.iload 2, .iconst (4), .if_icmp .ne (23)] ls st g M Q := q_T_next rfl
theorem b_X6_site_15 : q_T md d qP_X6_site 15 [] ls st g M Q = q_T md d qP_X6_site 23 [.aload 0, .iload 1, .invokestatic 115, .goto (47)] ls st g M Q := q_T_next rfl
theorem b_X6_site_23 : q_T md d qP_X6_site 23 [] ls st g M Q = q_T md d qP_X6_site 32 [.iload 2, .iconst (0), .iconst (3), .invokestatic 110, .ifCond .eq (45)] ls st g M Q := q_T_next rfl
theorem b_X6_site_32 : q_T md d qP_X6_site 32 [] ls st g M Q = q_T md d qP_X6_site 45 [.aload 0, .getfield 603, .iconst (4), .iload 1, .imul, .iload 2, .iadd, .iaload, .goto (47)] ls st g M Q := q_T_next rfl
theorem b_X6_site_45 : q_T md d qP_X6_site 45 [] ls st g M Q = q_T md d qP_X6_site 47 [.iconst (-7)] ls st g M Q := q_T_next rfl
theorem b_X6_site_47 : q_T md d qP_X6_site 47 [] ls st g M Q = q_T md d qP_X6_site 48 [.ret 0] ls st g M Q := q_T_next rfl
theorem s_X6_isByte {x0 : Int} : q_S md d 121 [qI x0] g M Q = q_T md d qP_X6_isByte 0 [] [qI x0] [] g M Q := rfl
theorem b_X6_isByte_0 : q_T md d qP_X6_isByte 0 [] ls st g M Q = q_T md d qP_X6_isByte 9 [.iload 0, .iconst (0), .iconst (255), .invokestatic 110, .ret 1] ls st g M Q := q_T_next rfl
theorem s_X6_feed {w : Nat} {x0 : Int} {x1 : Int} {x2 : Int} {x3 : Int} {x4 : Int} {x5 : Int} : q_S md d 122 [qR 6 w, qI x0, qI x1, qI x2, qI x3, qI x4, qI x5] g M Q = q_T md d qP_X6_feed 0 [] [qR 6 w, qI x0, qI x1, qI x2, qI x3, qI x4, qI x5, qS 0] [] g M Q := rfl
theorem b_X6_feed_0 : q_T md d qP_X6_feed 0 [] ls st g M Q = q_T md d qP_X6_feed 9 [.iload 1, .iconst (1), .iconst (5), .invokestatic 110, .ifCond .eq (47)] ls st g M Q := q_T_next rfl
theorem b_X6_feed_9 : q_T md d qP_X6_feed 9 [] ls st g M Q = q_T md d qP_X6_feed 16 [.iload 2, .invokestatic 121, .ifCond .eq (47)] ls st g M Q := q_T_next rfl
theorem b_X6_feed_16 : q_T md d qP_X6_feed 16 [] ls st g M Q = q_T md d qP_X6_feed 23 [.iload 3, .invokestatic 121, .ifCond .eq (47)] ls st g M Q := q_T_next rfl
theorem b_X6_feed_23 : q_T md d qP_X6_feed 23 [] ls st g M Q = q_T md d qP_X6_feed 31 [.iload 4, .invokestatic 121, .ifCond .eq (47)] ls st g M Q := q_T_next rfl
theorem b_X6_feed_31 : q_T md d qP_X6_feed 31 [] ls st g M Q = q_T md d qP_X6_feed 39 [.iload 5, .invokestatic 121, .ifCond .eq (47)] ls st g M Q := q_T_next rfl
theorem b_X6_feed_39 : q_T md d qP_X6_feed 39 [] ls st g M Q = q_T md d qP_X6_feed 47 [.iload 6, .invokestatic 121, .ifCond .ne (50)] ls st g M Q := q_T_next rfl
theorem b_X6_feed_47 : q_T md d qP_X6_feed 47 [] ls st g M Q = q_T md d qP_X6_feed 50 [.iconst (-2), .ret 0] ls st g M Q := q_T_next rfl
theorem b_X6_feed_50 : q_T md d qP_X6_feed 50 [] ls st g M Q = q_T md d qP_X6_feed 62 [.aload 0, .getfield 607, .iload 1, .iadd, .iconst (160), .if_icmp .le (65)] ls st g M Q := q_T_next rfl
theorem b_X6_feed_62 : q_T md d qP_X6_feed 62 [] ls st g M Q = q_T md d qP_X6_feed 65 [.iconst (-4), .ret 0] ls st g M Q := q_T_next rfl
theorem b_X6_feed_65 : q_T md d qP_X6_feed 65 [] ls st g M Q = q_T md d qP_X6_feed 68 [.iconst (0), .istore 7] ls st g M Q := q_T_next rfl
theorem b_X6_feed_68 : q_T md d qP_X6_feed 68 [] ls st g M Q = q_T md d qP_X6_feed 74 [.iload 7, .iload 1, .if_icmp .ge (142)] ls st g M Q := q_T_next rfl
theorem b_X6_feed_74 : q_T md d qP_X6_feed 74 [] ls st g M Q = q_T md d qP_X6_feed 87 [.aload 0, .getfield 606, .aload 0, .getfield 607, .iload 7, .ifCond .ne (91)] ls st g M Q := q_T_next rfl
theorem b_X6_feed_87 : q_T md d qP_X6_feed 87 [] ls st g M Q = q_T md d qP_X6_feed 91 [.iload 2, .goto (125)] ls st g M Q := q_T_next rfl
theorem b_X6_feed_91 : q_T md d qP_X6_feed 91 [] ls st g M Q = q_T md d qP_X6_feed 97 [.iload 7, .iconst (1), .if_icmp .ne (101)] ls st g M Q := q_T_next rfl
theorem b_X6_feed_97 : q_T md d qP_X6_feed 97 [] ls st g M Q = q_T md d qP_X6_feed 101 [.iload 3, .goto (125)] ls st g M Q := q_T_next rfl
theorem b_X6_feed_101 : q_T md d qP_X6_feed 101 [] ls st g M Q = q_T md d qP_X6_feed 107 [.iload 7, .iconst (2), .if_icmp .ne (112)] ls st g M Q := q_T_next rfl
theorem b_X6_feed_107 : q_T md d qP_X6_feed 107 [] ls st g M Q = q_T md d qP_X6_feed 112 [.iload 4, .goto (125)] ls st g M Q := q_T_next rfl
theorem b_X6_feed_112 : q_T md d qP_X6_feed 112 [] ls st g M Q = q_T md d qP_X6_feed 118 [.iload 7, .iconst (3), .if_icmp .ne (123)] ls st g M Q := q_T_next rfl
theorem b_X6_feed_118 : q_T md d qP_X6_feed 118 [] ls st g M Q = q_T md d qP_X6_feed 123 [.iload 5, .goto (125)] ls st g M Q := q_T_next rfl
theorem b_X6_feed_123 : q_T md d qP_X6_feed 123 [] ls st g M Q = q_T md d qP_X6_feed 125 [.iload 6] ls st g M Q := q_T_next rfl
theorem b_X6_feed_125 : q_T md d qP_X6_feed 125 [] ls st g M Q = q_T md d qP_X6_feed 142 [.iastore, .aload 0, .dup, .getfield 607, .iconst (1), .iadd, .putfield 607, .iinc 7 (1), .goto (68)] ls st g M Q := q_T_next rfl
theorem b_X6_feed_142 : q_T md d qP_X6_feed 142 [] ls st g M Q = q_T md d qP_X6_feed 147 [.aload 0, .getfield 607, .ret 0] ls st g M Q := q_T_next rfl
theorem s_X6_wordFrom {w : Nat} {x0 : Int} {x1 : Int} : q_S md d 123 [qR 6 w, qI x0, qI x1] g M Q = q_T md d qP_X6_wordFrom 0 [] [qR 6 w, qI x0, qI x1, qS 0, qS 0, qS 0] [] g M Q := rfl
theorem b_X6_wordFrom_0 : q_T md d qP_X6_wordFrom 0 [] ls st g M Q = q_T md d qP_X6_wordFrom 2 [.iconst (0), .istore 3] ls st g M Q := q_T_next rfl
theorem b_X6_wordFrom_2 : q_T md d qP_X6_wordFrom 2 [] ls st g M Q = q_T md d qP_X6_wordFrom 8 [.iload 3, .iconst (12), .if_icmp .ge (101)] ls st g M Q := q_T_next rfl
theorem b_X6_wordFrom_8 : q_T md d qP_X6_wordFrom 8 [] ls st g M Q = q_T md d qP_X6_wordFrom 16 [.iload 2, .iload 1, .isub, .iconst (8), .if_icmp .gt (20)] ls st g M Q := q_T_next rfl
theorem b_X6_wordFrom_16 : q_T md d qP_X6_wordFrom 16 [] ls st g M Q = q_T md d qP_X6_wordFrom 20 [.iconst (1), .goto (21)] ls st g M Q := q_T_next rfl
theorem b_X6_wordFrom_20 : q_T md d qP_X6_wordFrom 20 [] ls st g M Q = q_T md d qP_X6_wordFrom 21 [.iconst (0)] ls st g M Q := q_T_next rfl
theorem b_X6_wordFrom_21 : q_T md d qP_X6_wordFrom 21 [] ls st g M Q = q_T md d qP_X6_wordFrom 26 [.istore 4, .iconst (0), .istore 5] ls st g M Q := q_T_next rfl
theorem b_X6_wordFrom_26 : q_T md d qP_X6_wordFrom 26 [] ls st g M Q = q_T md d qP_X6_wordFrom 33 [.iload 5, .iconst (8), .if_icmp .ge (88)] ls st g M Q := q_T_next rfl
theorem b_X6_wordFrom_33 : q_T md d qP_X6_wordFrom 33 [] ls st g M Q = q_T md d qP_X6_wordFrom 38 [.iload 4, .ifCond .eq (88)] ls st g M Q := q_T_next rfl
theorem b_X6_wordFrom_38 : q_T md d qP_X6_wordFrom 38 [] ls st g M Q = q_T md d qP_X6_wordFrom 58 [.aload 0, .getfield 623, .iconst (8), .iload 3, .imul, .iload 5, .iadd, .iaload, .iload 1, .iload 5, .iadd, .iload 2, .if_icmp .ge (70)] ls st g M Q := q_T_next rfl
theorem b_X6_wordFrom_58 : q_T md d qP_X6_wordFrom 58 [] ls st g M Q = q_T md d qP_X6_wordFrom 70 [.aload 0, .getfield 606, .iload 1, .iload 5, .iadd, .iaload, .goto (72)] ls st g M Q := q_T_next rfl
theorem b_X6_wordFrom_70 : q_T md d qP_X6_wordFrom 70 [] ls st g M Q = q_T md d qP_X6_wordFrom 72 [.iconst (32)] ls st g M Q := q_T_next rfl
theorem b_X6_wordFrom_72 : q_T md d qP_X6_wordFrom 72 [] ls st g M Q = q_T md d qP_X6_wordFrom 75 [.if_icmp .ne (79)] ls st g M Q := q_T_next rfl
theorem b_X6_wordFrom_75 : q_T md d qP_X6_wordFrom 75 [] ls st g M Q = q_T md d qP_X6_wordFrom 79 [.iconst (1), .goto (80)] ls st g M Q := q_T_next rfl
theorem b_X6_wordFrom_79 : q_T md d qP_X6_wordFrom 79 [] ls st g M Q = q_T md d qP_X6_wordFrom 80 [.iconst (0)] ls st g M Q := q_T_next rfl
theorem b_X6_wordFrom_80 : q_T md d qP_X6_wordFrom 80 [] ls st g M Q = q_T md d qP_X6_wordFrom 88 [.istore 4, .iinc 5 (1), .goto (26)] ls st g M Q := q_T_next rfl
theorem b_X6_wordFrom_88 : q_T md d qP_X6_wordFrom 88 [] ls st g M Q = q_T md d qP_X6_wordFrom 93 [.iload 4, .ifCond .eq (95)] ls st g M Q := q_T_next rfl
theorem b_X6_wordFrom_93 : q_T md d qP_X6_wordFrom 93 [] ls st g M Q = q_T md d qP_X6_wordFrom 95 [.iload 3, .ret 0] ls st g M Q := q_T_next rfl
theorem b_X6_wordFrom_95 : q_T md d qP_X6_wordFrom 95 [] ls st g M Q = q_T md d qP_X6_wordFrom 101 [.iinc 3 (1), .goto (2)] ls st g M Q := q_T_next rfl
theorem b_X6_wordFrom_101 : q_T md d qP_X6_wordFrom 101 [] ls st g M Q = q_T md d qP_X6_wordFrom 104 [.iconst (12), .ret 0] ls st g M Q := q_T_next rfl
theorem s_X6_next {w : Nat} : q_S md d 124 [qR 6 w] g M Q = q_T md d qP_X6_next 0 [] [qR 6 w, qS 0, qS 0] [] g M Q := rfl
theorem b_X6_next_0 : q_T md d qP_X6_next 0 [] ls st g M Q = q_T md d qP_X6_next 11 [.aload 0, .getfield 619, .aload 0, .getfield 607, .if_icmp .ge (52)] ls st g M Q := q_T_next rfl
theorem b_X6_next_11 : q_T md d qP_X6_next 11 [] ls st g M Q = q_T md d qP_X6_next 25 [.aload 0, .getfield 606, .aload 0, .getfield 619, .iaload, .iconst (32), .if_icmp .eq (39)] ls st g M Q := q_T_next rfl
theorem b_X6_next_25 : q_T md d qP_X6_next 25 [] ls st g M Q = q_T md d qP_X6_next 39 [.aload 0, .getfield 606, .aload 0, .getfield 619, .iaload, .iconst (10), .if_icmp .ne (52)] ls st g M Q := q_T_next rfl
theorem b_X6_next_39 : q_T md d qP_X6_next 39 [] ls st g M Q = q_T md d qP_X6_next 52 [.aload 0, .dup, .getfield 619, .iconst (1), .iadd, .putfield 619, .goto (0)] ls st g M Q := q_T_next rfl
theorem b_X6_next_52 : q_T md d qP_X6_next 52 [] ls st g M Q = q_T md d qP_X6_next 81 [.aload 0, .aload 0, .getfield 619, .putfield 620, .aload 0, .iconst (0), .putfield 621, .aload 0, .iconst (0), .putfield 622, .aload 0, .getfield 619, .aload 0, .getfield 607, .if_icmp .ne (82)] ls st g M Q := q_T_next rfl
theorem b_X6_next_81 : q_T md d qP_X6_next 81 [] ls st g M Q = q_T md d qP_X6_next 82 [.return_] ls st g M Q := q_T_next rfl
theorem b_X6_next_82 : q_T md d qP_X6_next 82 [] ls st g M Q = q_T md d qP_X6_next 103 [.aload 0, .getfield 606, .aload 0, .getfield 619, .iaload, .istore 1, .iload 1, .iconst (97), .iconst (122), .invokestatic 110, .ifCond .eq (217)] ls st g M Q := q_T_next rfl
theorem b_X6_next_103 : q_T md d qP_X6_next 103 [] ls st g M Q = q_T md d qP_X6_next 114 [.aload 0, .getfield 619, .aload 0, .getfield 607, .if_icmp .ge (146)] ls st g M Q := q_T_next rfl
theorem b_X6_next_114 : q_T md d qP_X6_next 114 [] ls st g M Q = q_T md d qP_X6_next 133 [.aload 0, .getfield 606, .aload 0, .getfield 619, .iaload, .iconst (97), .iconst (122), .invokestatic 110, .ifCond .eq (146)] ls st g M Q := q_T_next rfl
theorem b_X6_next_133 : q_T md d qP_X6_next 133 [] ls st g M Q = q_T md d qP_X6_next 146 [.aload 0, .dup, .getfield 619, .iconst (1), .iadd, .putfield 619, .goto (103)] ls st g M Q := q_T_next rfl
theorem b_X6_next_146 : q_T md d qP_X6_next 146 [] ls st g M Q = q_T md d qP_X6_next 165 [.aload 0, .aload 0, .getfield 620, .aload 0, .getfield 619, .invokestatic 123, .istore 2, .aload 0, .iload 2, .iconst (3), .if_icmp .ge (169)] ls st g M Q := q_T_next rfl
theorem b_X6_next_165 : q_T md d qP_X6_next 165 [] ls st g M Q = q_T md d qP_X6_next 169 [.iconst (3), .goto (195)] ls st g M Q := q_T_next rfl
theorem b_X6_next_169 : q_T md d qP_X6_next 169 [] ls st g M Q = q_T md d qP_X6_next 175 [.iload 2, .iconst (9), .if_icmp .ge (179)] ls st g M Q := q_T_next rfl
theorem b_X6_next_175 : q_T md d qP_X6_next 175 [] ls st g M Q = q_T md d qP_X6_next 179 [.iconst (2), .goto (195)] ls st g M Q := q_T_next rfl
theorem b_X6_next_179 : q_T md d qP_X6_next 179 [] ls st g M Q = q_T md d qP_X6_next 185 [.iload 2, .iconst (12), .if_icmp .ne (189)] ls st g M Q := q_T_next rfl
theorem b_X6_next_185 : q_T md d qP_X6_next 185 [] ls st g M Q = q_T md d qP_X6_next 189 [.iconst (-1), .goto (195)] ls st g M Q := q_T_next rfl
theorem b_X6_next_189 : q_T md d qP_X6_next 189 [] ls st g M Q = q_T md d qP_X6_next 195 [.iconst (4), .iload 2, .iadd, .iconst (9), .isub] ls st g M Q := q_T_next rfl
theorem b_X6_next_195 : q_T md d qP_X6_next 195 [] ls st g M Q = q_T md d qP_X6_next 204 [.putfield 621, .aload 0, .iload 2, .iconst (3), .if_icmp .ge (208)] ls st g M Q := q_T_next rfl
theorem b_X6_next_204 : q_T md d qP_X6_next 204 [] ls st g M Q = q_T md d qP_X6_next 208 [.iload 2, .goto (211)] ls st g M Q := q_T_next rfl
theorem b_X6_next_208 : q_T md d qP_X6_next 208 [] ls st g M Q = q_T md d qP_X6_next 211 [.iload 2, .iconst (3), .isub] ls st g M Q := q_T_next rfl
theorem b_X6_next_211 : q_T md d qP_X6_next 211 [] ls st g M Q = q_T md d qP_X6_next 217 [.putfield 622, .goto (403)] ls st g M Q := q_T_next rfl
theorem b_X6_next_217 : q_T md d qP_X6_next 217 [] ls st g M Q = q_T md d qP_X6_next 228 [.iload 1, .iconst (48), .iconst (57), .invokestatic 110, .ifCond .eq (326)] ls st g M Q := q_T_next rfl
theorem b_X6_next_228 : q_T md d qP_X6_next 228 [] ls st g M Q = q_T md d qP_X6_next 230 [.iconst (0), .istore 2] ls st g M Q := q_T_next rfl
theorem b_X6_next_230 : q_T md d qP_X6_next 230 [] ls st g M Q = q_T md d qP_X6_next 241 [.aload 0, .getfield 619, .aload 0, .getfield 607, .if_icmp .ge (309)] ls st g M Q := q_T_next rfl
theorem b_X6_next_241 : q_T md d qP_X6_next 241 [] ls st g M Q = q_T md d qP_X6_next 260 [.aload 0, .getfield 606, .aload 0, .getfield 619, .iaload, .iconst (48), .iconst (57), .invokestatic 110, .ifCond .eq (309)] ls st g M Q := q_T_next rfl
theorem b_X6_next_260 : q_T md d qP_X6_next 260 [] ls st g M Q = q_T md d qP_X6_next 266 [.aload 0, .iload 2, .iconst (4), .if_icmp .ge (289)] ls st g M Q := q_T_next rfl
theorem b_X6_next_266 : q_T md d qP_X6_next 266 [] ls st g M Q = q_T md d qP_X6_next 289 [.iconst (10), .aload 0, .getfield 622, .imul, .aload 0, .getfield 606, .aload 0, .getfield 619, .iaload, .iadd, .iconst (48), .isub, .goto (290)] ls st g M Q := q_T_next rfl
theorem b_X6_next_289 : q_T md d qP_X6_next 289 [] ls st g M Q = q_T md d qP_X6_next 290 [.iconst (0)] ls st g M Q := q_T_next rfl
theorem b_X6_next_290 : q_T md d qP_X6_next 290 [] ls st g M Q = q_T md d qP_X6_next 309 [.putfield 622, .iinc 2 (1), .aload 0, .dup, .getfield 619, .iconst (1), .iadd, .putfield 619, .goto (230)] ls st g M Q := q_T_next rfl
theorem b_X6_next_309 : q_T md d qP_X6_next 309 [] ls st g M Q = q_T md d qP_X6_next 315 [.aload 0, .iload 2, .iconst (4), .if_icmp .le (319)] ls st g M Q := q_T_next rfl
theorem b_X6_next_315 : q_T md d qP_X6_next 315 [] ls st g M Q = q_T md d qP_X6_next 319 [.iconst (-1), .goto (320)] ls st g M Q := q_T_next rfl
theorem b_X6_next_319 : q_T md d qP_X6_next 319 [] ls st g M Q = q_T md d qP_X6_next 320 [.iconst (1)] ls st g M Q := q_T_next rfl
theorem b_X6_next_320 : q_T md d qP_X6_next 320 [] ls st g M Q = q_T md d qP_X6_next 326 [.putfield 621, .goto (403)] ls st g M Q := q_T_next rfl
theorem b_X6_next_326 : q_T md d qP_X6_next 326 [] ls st g M Q = q_T md d qP_X6_next 332 [.iload 1, .iconst (40), .if_icmp .eq (374)] ls st g M Q := q_T_next rfl
theorem b_X6_next_332 : q_T md d qP_X6_next 332 [] ls st g M Q = q_T md d qP_X6_next 338 [.iload 1, .iconst (41), .if_icmp .eq (374)] ls st g M Q := q_T_next rfl
theorem b_X6_next_338 : q_T md d qP_X6_next 338 [] ls st g M Q = q_T md d qP_X6_next 344 [.iload 1, .iconst (59), .if_icmp .eq (374)] ls st g M Q := q_T_next rfl
theorem b_X6_next_344 : q_T md d qP_X6_next 344 [] ls st g M Q = q_T md d qP_X6_next 350 [.iload 1, .iconst (43), .if_icmp .eq (374)] ls st g M Q := q_T_next rfl
theorem b_X6_next_350 : q_T md d qP_X6_next 350 [] ls st g M Q = q_T md d qP_X6_next 356 [.iload 1, .iconst (45), .if_icmp .eq (374)] ls st g M Q := q_T_next rfl
theorem b_X6_next_356 : q_T md d qP_X6_next 356 [] ls st g M Q = q_T md d qP_X6_next 362 [.iload 1, .iconst (42), .if_icmp .eq (374)] ls st g M Q := q_T_next rfl
theorem b_X6_next_362 : q_T md d qP_X6_next 362 [] ls st g M Q = q_T md d qP_X6_next 368 [.iload 1, .iconst (60), .if_icmp .eq (374)] ls st g M Q := q_T_next rfl
theorem b_X6_next_368 : q_T md d qP_X6_next 368 [] ls st g M Q = q_T md d qP_X6_next 374 [.iload 1, .iconst (61), .if_icmp .ne (378)] ls st g M Q := q_T_next rfl
theorem b_X6_next_374 : q_T md d qP_X6_next 374 [] ls st g M Q = q_T md d qP_X6_next 378 [.iconst (1), .goto (379)] ls st g M Q := q_T_next rfl
theorem b_X6_next_378 : q_T md d qP_X6_next 378 [] ls st g M Q = q_T md d qP_X6_next 379 [.iconst (0)] ls st g M Q := q_T_next rfl
theorem b_X6_next_379 : q_T md d qP_X6_next 379 [] ls st g M Q = q_T md d qP_X6_next 385 [.istore 2, .aload 0, .iload 2, .ifCond .eq (389)] ls st g M Q := q_T_next rfl
theorem b_X6_next_385 : q_T md d qP_X6_next 385 [] ls st g M Q = q_T md d qP_X6_next 389 [.iload 1, .goto (390)] ls st g M Q := q_T_next rfl
theorem b_X6_next_389 : q_T md d qP_X6_next 389 [] ls st g M Q = q_T md d qP_X6_next 390 [.iconst (-1)] ls st g M Q := q_T_next rfl
theorem b_X6_next_390 : q_T md d qP_X6_next 390 [] ls st g M Q = q_T md d qP_X6_next 403 [.putfield 621, .aload 0, .dup, .getfield 619, .iconst (1), .iadd, .putfield 619] ls st g M Q := q_T_next rfl
theorem b_X6_next_403 : q_T md d qP_X6_next 403 [] ls st g M Q = q_T md d qP_X6_next 404 [.return_] ls st g M Q := q_T_next rfl
theorem s_X6_rank {x0 : Int} : q_S md d 125 [qI x0] g M Q = q_T md d qP_X6_rank 0 [] [qI x0] [] g M Q := rfl
theorem b_X6_rank_0 : q_T md d qP_X6_rank 0 [] ls st g M Q = q_T md d qP_X6_rank 4 [.iload 0, .ifCond .ne (8)] ls st g M Q := q_T_next rfl
theorem b_X6_rank_4 : q_T md d qP_X6_rank 4 [] ls st g M Q = q_T md d qP_X6_rank 8 [.iconst (0), .goto (71)] ls st g M Q := q_T_next rfl
theorem b_X6_rank_8 : q_T md d qP_X6_rank 8 [] ls st g M Q = q_T md d qP_X6_rank 14 [.iload 0, .iconst (11), .if_icmp .ne (18)] ls st g M Q := q_T_next rfl
theorem b_X6_rank_14 : q_T md d qP_X6_rank 14 [] ls st g M Q = q_T md d qP_X6_rank 18 [.iconst (1), .goto (71)] ls st g M Q := q_T_next rfl
theorem b_X6_rank_18 : q_T md d qP_X6_rank 18 [] ls st g M Q = q_T md d qP_X6_rank 24 [.iload 0, .iconst (12), .if_icmp .ne (28)] ls st g M Q := q_T_next rfl
theorem b_X6_rank_24 : q_T md d qP_X6_rank 24 [] ls st g M Q = q_T md d qP_X6_rank 28 [.iconst (2), .goto (71)] ls st g M Q := q_T_next rfl
theorem b_X6_rank_28 : q_T md d qP_X6_rank 28 [] ls st g M Q = q_T md d qP_X6_rank 34 [.iload 0, .iconst (13), .if_icmp .ne (38)] ls st g M Q := q_T_next rfl
theorem b_X6_rank_34 : q_T md d qP_X6_rank 34 [] ls st g M Q = q_T md d qP_X6_rank 38 [.iconst (3), .goto (71)] ls st g M Q := q_T_next rfl
theorem b_X6_rank_38 : q_T md d qP_X6_rank 38 [] ls st g M Q = q_T md d qP_X6_rank 44 [.iload 0, .iconst (15), .if_icmp .gt (48)] ls st g M Q := q_T_next rfl
theorem b_X6_rank_44 : q_T md d qP_X6_rank 44 [] ls st g M Q = q_T md d qP_X6_rank 48 [.iconst (4), .goto (71)] ls st g M Q := q_T_next rfl
theorem b_X6_rank_48 : q_T md d qP_X6_rank 48 [] ls st g M Q = q_T md d qP_X6_rank 54 [.iload 0, .iconst (17), .if_icmp .gt (58)] ls st g M Q := q_T_next rfl
theorem b_X6_rank_54 : q_T md d qP_X6_rank 54 [] ls st g M Q = q_T md d qP_X6_rank 58 [.iconst (5), .goto (71)] ls st g M Q := q_T_next rfl
theorem b_X6_rank_58 : q_T md d qP_X6_rank 58 [] ls st g M Q = q_T md d qP_X6_rank 64 [.iload 0, .iconst (18), .if_icmp .ne (69)] ls st g M Q := q_T_next rfl
theorem b_X6_rank_64 : q_T md d qP_X6_rank 64 [] ls st g M Q = q_T md d qP_X6_rank 69 [.iconst (6), .goto (71)] ls st g M Q := q_T_next rfl
theorem b_X6_rank_69 : q_T md d qP_X6_rank 69 [] ls st g M Q = q_T md d qP_X6_rank 71 [.iconst (7)] ls st g M Q := q_T_next rfl
theorem b_X6_rank_71 : q_T md d qP_X6_rank 71 [] ls st g M Q = q_T md d qP_X6_rank 72 [.ret 0] ls st g M Q := q_T_next rfl
theorem s_X6_puts {w : Nat} {x0 : Int} : q_S md d 126 [qR 6 w, qI x0] g M Q = q_T md d qP_X6_puts 0 [] [qR 6 w, qI x0] [] g M Q := rfl
theorem b_X6_puts_0 : q_T md d qP_X6_puts 0 [] ls st g M Q = q_T md d qP_X6_puts 30 [.aload 0, .getfield 608, .iconst (200), .aload 0, .getfield 610, .imul, .aload 0, .getfield 627, .iadd, .iload 1, .iastore, .aload 0, .dup, .getfield 627, .iconst (1), .iadd, .putfield 627, .return_] ls st g M Q := q_T_next rfl
theorem s_X6_unwinds {w : Nat} {x0 : Int} : q_S md d 127 [qR 6 w, qI x0] g M Q = q_T md d qP_X6_unwinds 0 [] [qR 6 w, qI x0, qS 0] [] g M Q := rfl
theorem b_X6_unwinds_0 : q_T md d qP_X6_unwinds 0 [] ls st g M Q = q_T md d qP_X6_unwinds 7 [.aload 0, .getfield 625, .ifCond .le (79)] ls st g M Q := q_T_next rfl
theorem b_X6_unwinds_7 : q_T md d qP_X6_unwinds 7 [] ls st g M Q = q_T md d qP_X6_unwinds 25 [.aload 0, .getfield 624, .aload 0, .getfield 625, .iconst (1), .isub, .iaload, .invokestatic 125, .iload 1, .if_icmp .lt (79)] ls st g M Q := q_T_next rfl
theorem b_X6_unwinds_25 : q_T md d qP_X6_unwinds 25 [] ls st g M Q = q_T md d qP_X6_unwinds 56 [.aload 0, .dup, .getfield 625, .iconst (1), .isub, .putfield 625, .aload 0, .getfield 624, .aload 0, .getfield 625, .iaload, .istore 2, .aload 0, .dup, .getfield 626, .iload 2, .iconst (13), .if_icmp .eq (62)] ls st g M Q := q_T_next rfl
theorem b_X6_unwinds_56 : q_T md d qP_X6_unwinds 56 [] ls st g M Q = q_T md d qP_X6_unwinds 62 [.iload 2, .iconst (19), .if_icmp .ne (66)] ls st g M Q := q_T_next rfl
theorem b_X6_unwinds_62 : q_T md d qP_X6_unwinds 62 [] ls st g M Q = q_T md d qP_X6_unwinds 66 [.iconst (1), .goto (67)] ls st g M Q := q_T_next rfl
theorem b_X6_unwinds_66 : q_T md d qP_X6_unwinds 66 [] ls st g M Q = q_T md d qP_X6_unwinds 67 [.iconst (0)] ls st g M Q := q_T_next rfl
theorem b_X6_unwinds_67 : q_T md d qP_X6_unwinds 67 [] ls st g M Q = q_T md d qP_X6_unwinds 79 [.isub, .putfield 626, .aload 0, .iload 2, .invokestatic 126, .goto (0)] ls st g M Q := q_T_next rfl
theorem b_X6_unwinds_79 : q_T md d qP_X6_unwinds 79 [] ls st g M Q = q_T md d qP_X6_unwinds 80 [.return_] ls st g M Q := q_T_next rfl
theorem s_X6_holds {w : Nat} {x0 : Int} : q_S md d 128 [qR 6 w, qI x0] g M Q = q_T md d qP_X6_holds 0 [] [qR 6 w, qI x0] [] g M Q := rfl
theorem b_X6_holds_0 : q_T md d qP_X6_holds 0 [] ls st g M Q = q_T md d qP_X6_holds 21 [.aload 0, .getfield 624, .aload 0, .getfield 625, .iload 1, .iastore, .aload 0, .dup, .getfield 625, .iconst (1), .iadd, .putfield 625, .return_] ls st g M Q := q_T_next rfl
theorem s_X6_opensOne {w : Nat} {x0 : Int} : q_S md d 129 [qR 6 w, qI x0] g M Q = q_T md d qP_X6_opensOne 0 [] [qR 6 w, qI x0] [] g M Q := rfl
theorem b_X6_opensOne_0 : q_T md d qP_X6_opensOne 0 [] ls st g M Q = q_T md d qP_X6_opensOne 8 [.aload 0, .getfield 626, .iconst (5), .if_icmp .ne (10)] ls st g M Q := q_T_next rfl
theorem b_X6_opensOne_8 : q_T md d qP_X6_opensOne 8 [] ls st g M Q = q_T md d qP_X6_opensOne 10 [.iconst (0), .ret 1] ls st g M Q := q_T_next rfl
theorem b_X6_opensOne_10 : q_T md d qP_X6_opensOne 10 [] ls st g M Q = q_T md d qP_X6_opensOne 27 [.aload 0, .dup, .getfield 626, .iconst (1), .iadd, .putfield 626, .aload 0, .iload 1, .invokestatic 128, .iconst (1), .ret 1] ls st g M Q := q_T_next rfl
theorem s_X6_between {w : Nat} {x0 : Int} : q_S md d 130 [qR 6 w, qI x0] g M Q = q_T md d qP_X6_between 0 [] [qR 6 w, qI x0] [] g M Q := rfl
theorem b_X6_between_0 : q_T md d qP_X6_between 0 [] ls st g M Q = q_T md d qP_X6_between 9 [.aload 0, .iload 1, .invokestatic 125, .iconst (4), .if_icmp .ne (13)] ls st g M Q := q_T_next rfl
theorem b_X6_between_9 : q_T md d qP_X6_between 9 [] ls st g M Q = q_T md d qP_X6_between 13 [.iconst (5), .goto (17)] ls st g M Q := q_T_next rfl
theorem b_X6_between_13 : q_T md d qP_X6_between 13 [] ls st g M Q = q_T md d qP_X6_between 17 [.iload 1, .invokestatic 125] ls st g M Q := q_T_next rfl
theorem b_X6_between_17 : q_T md d qP_X6_between 17 [] ls st g M Q = q_T md d qP_X6_between 28 [.invokestatic 127, .iload 1, .invokestatic 125, .iconst (4), .if_icmp .ne (55)] ls st g M Q := q_T_next rfl
theorem b_X6_between_28 : q_T md d qP_X6_between 28 [] ls st g M Q = q_T md d qP_X6_between 35 [.aload 0, .getfield 625, .ifCond .le (55)] ls st g M Q := q_T_next rfl
theorem b_X6_between_35 : q_T md d qP_X6_between 35 [] ls st g M Q = q_T md d qP_X6_between 53 [.aload 0, .getfield 624, .aload 0, .getfield 625, .iconst (1), .isub, .iaload, .invokestatic 125, .iconst (4), .if_icmp .ne (55)] ls st g M Q := q_T_next rfl
theorem b_X6_between_53 : q_T md d qP_X6_between 53 [] ls st g M Q = q_T md d qP_X6_between 55 [.iconst (0), .ret 1] ls st g M Q := q_T_next rfl
theorem b_X6_between_55 : q_T md d qP_X6_between 55 [] ls st g M Q = q_T md d qP_X6_between 62 [.aload 0, .iload 1, .invokestatic 128, .iconst (1), .ret 1] ls st g M Q := q_T_next rfl
theorem s_X6_signOf {w : Nat} : q_S md d 131 [qR 6 w] g M Q = q_T md d qP_X6_signOf 0 [] [qR 6 w] [] g M Q := rfl
theorem b_X6_signOf_0 : q_T md d qP_X6_signOf 0 [] ls st g M Q = q_T md d qP_X6_signOf 8 [.aload 0, .getfield 621, .iconst (4), .if_icmp .ne (13)] ls st g M Q := q_T_next rfl
theorem b_X6_signOf_8 : q_T md d qP_X6_signOf 8 [] ls st g M Q = q_T md d qP_X6_signOf 13 [.iconst (11), .goto (97)] ls st g M Q := q_T_next rfl
theorem b_X6_signOf_13 : q_T md d qP_X6_signOf 13 [] ls st g M Q = q_T md d qP_X6_signOf 21 [.aload 0, .getfield 621, .iconst (5), .if_icmp .ne (26)] ls st g M Q := q_T_next rfl
theorem b_X6_signOf_21 : q_T md d qP_X6_signOf 21 [] ls st g M Q = q_T md d qP_X6_signOf 26 [.iconst (12), .goto (97)] ls st g M Q := q_T_next rfl
theorem b_X6_signOf_26 : q_T md d qP_X6_signOf 26 [] ls st g M Q = q_T md d qP_X6_signOf 35 [.aload 0, .getfield 621, .iconst (60), .if_icmp .ne (40)] ls st g M Q := q_T_next rfl
theorem b_X6_signOf_35 : q_T md d qP_X6_signOf 35 [] ls st g M Q = q_T md d qP_X6_signOf 40 [.iconst (14), .goto (97)] ls st g M Q := q_T_next rfl
theorem b_X6_signOf_40 : q_T md d qP_X6_signOf 40 [] ls st g M Q = q_T md d qP_X6_signOf 49 [.aload 0, .getfield 621, .iconst (61), .if_icmp .ne (54)] ls st g M Q := q_T_next rfl
theorem b_X6_signOf_49 : q_T md d qP_X6_signOf 49 [] ls st g M Q = q_T md d qP_X6_signOf 54 [.iconst (15), .goto (97)] ls st g M Q := q_T_next rfl
theorem b_X6_signOf_54 : q_T md d qP_X6_signOf 54 [] ls st g M Q = q_T md d qP_X6_signOf 63 [.aload 0, .getfield 621, .iconst (43), .if_icmp .ne (68)] ls st g M Q := q_T_next rfl
theorem b_X6_signOf_63 : q_T md d qP_X6_signOf 63 [] ls st g M Q = q_T md d qP_X6_signOf 68 [.iconst (16), .goto (97)] ls st g M Q := q_T_next rfl
theorem b_X6_signOf_68 : q_T md d qP_X6_signOf 68 [] ls st g M Q = q_T md d qP_X6_signOf 77 [.aload 0, .getfield 621, .iconst (45), .if_icmp .ne (82)] ls st g M Q := q_T_next rfl
theorem b_X6_signOf_77 : q_T md d qP_X6_signOf 77 [] ls st g M Q = q_T md d qP_X6_signOf 82 [.iconst (17), .goto (97)] ls st g M Q := q_T_next rfl
theorem b_X6_signOf_82 : q_T md d qP_X6_signOf 82 [] ls st g M Q = q_T md d qP_X6_signOf 91 [.aload 0, .getfield 621, .iconst (42), .if_icmp .ne (96)] ls st g M Q := q_T_next rfl
theorem b_X6_signOf_91 : q_T md d qP_X6_signOf 91 [] ls st g M Q = q_T md d qP_X6_signOf 96 [.iconst (18), .goto (97)] ls st g M Q := q_T_next rfl
theorem b_X6_signOf_96 : q_T md d qP_X6_signOf 96 [] ls st g M Q = q_T md d qP_X6_signOf 97 [.iconst (-1)] ls st g M Q := q_T_next rfl
theorem b_X6_signOf_97 : q_T md d qP_X6_signOf 97 [] ls st g M Q = q_T md d qP_X6_signOf 98 [.ret 0] ls st g M Q := q_T_next rfl
theorem s_X6_eRead {w : Nat} : q_S md d 132 [qR 6 w] g M Q = q_T md d qP_X6_eRead 0 [] [qR 6 w, qS 0, qS 0, qS 0] [] g M Q := rfl
theorem b_X6_eRead_0 : q_T md d qP_X6_eRead 0 [] ls st g M Q = q_T md d qP_X6_eRead 14 [.aload 0, .iconst (0), .putfield 625, .aload 0, .iconst (0), .putfield 626, .iconst (1), .istore 1, .iconst (1), .istore 2] ls st g M Q := q_T_next rfl
theorem b_X6_eRead_14 : q_T md d qP_X6_eRead 14 [] ls st g M Q = q_T md d qP_X6_eRead 22 [.aload 0, .invokestatic 124, .iload 1, .ifCond .eq (150)] ls st g M Q := q_T_next rfl
theorem b_X6_eRead_22 : q_T md d qP_X6_eRead 22 [] ls st g M Q = q_T md d qP_X6_eRead 30 [.aload 0, .getfield 621, .iconst (1), .if_icmp .eq (38)] ls st g M Q := q_T_next rfl
theorem b_X6_eRead_30 : q_T md d qP_X6_eRead 30 [] ls st g M Q = q_T md d qP_X6_eRead 38 [.aload 0, .getfield 621, .iconst (2), .if_icmp .ne (75)] ls st g M Q := q_T_next rfl
theorem b_X6_eRead_38 : q_T md d qP_X6_eRead 38 [] ls st g M Q = q_T md d qP_X6_eRead 47 [.aload 0, .aload 0, .getfield 621, .iconst (1), .if_icmp .ne (57)] ls st g M Q := q_T_next rfl
theorem b_X6_eRead_47 : q_T md d qP_X6_eRead 47 [] ls st g M Q = q_T md d qP_X6_eRead 57 [.iconst (100000), .aload 0, .getfield 622, .iadd, .goto (61)] ls st g M Q := q_T_next rfl
theorem b_X6_eRead_57 : q_T md d qP_X6_eRead 57 [] ls st g M Q = q_T md d qP_X6_eRead 61 [.aload 0, .getfield 622] ls st g M Q := q_T_next rfl
theorem b_X6_eRead_61 : q_T md d qP_X6_eRead 61 [] ls st g M Q = q_T md d qP_X6_eRead 75 [.invokestatic 126, .aload 0, .iconst (7), .invokestatic 127, .iconst (0), .istore 1, .goto (14)] ls st g M Q := q_T_next rfl
theorem b_X6_eRead_75 : q_T md d qP_X6_eRead 75 [] ls st g M Q = q_T md d qP_X6_eRead 84 [.aload 0, .getfield 621, .iconst (6), .if_icmp .ne (99)] ls st g M Q := q_T_next rfl
theorem b_X6_eRead_84 : q_T md d qP_X6_eRead 84 [] ls st g M Q = q_T md d qP_X6_eRead 88 [.iload 2, .ifCond .eq (99)] ls st g M Q := q_T_next rfl
theorem b_X6_eRead_88 : q_T md d qP_X6_eRead 88 [] ls st g M Q = q_T md d qP_X6_eRead 97 [.aload 0, .iconst (13), .invokestatic 129, .ifCond .ne (14)] ls st g M Q := q_T_next rfl
theorem b_X6_eRead_97 : q_T md d qP_X6_eRead 97 [] ls st g M Q = q_T md d qP_X6_eRead 99 [.iconst (0), .ret 1] ls st g M Q := q_T_next rfl
theorem b_X6_eRead_99 : q_T md d qP_X6_eRead 99 [] ls st g M Q = q_T md d qP_X6_eRead 108 [.aload 0, .getfield 621, .iconst (45), .if_icmp .ne (124)] ls st g M Q := q_T_next rfl
theorem b_X6_eRead_108 : q_T md d qP_X6_eRead 108 [] ls st g M Q = q_T md d qP_X6_eRead 117 [.aload 0, .iconst (19), .invokestatic 129, .ifCond .ne (119)] ls st g M Q := q_T_next rfl
theorem b_X6_eRead_117 : q_T md d qP_X6_eRead 117 [] ls st g M Q = q_T md d qP_X6_eRead 119 [.iconst (0), .ret 1] ls st g M Q := q_T_next rfl
theorem b_X6_eRead_119 : q_T md d qP_X6_eRead 119 [] ls st g M Q = q_T md d qP_X6_eRead 124 [.iconst (0), .istore 2, .goto (14)] ls st g M Q := q_T_next rfl
theorem b_X6_eRead_124 : q_T md d qP_X6_eRead 124 [] ls st g M Q = q_T md d qP_X6_eRead 133 [.aload 0, .getfield 621, .iconst (40), .if_icmp .ne (148)] ls st g M Q := q_T_next rfl
theorem b_X6_eRead_133 : q_T md d qP_X6_eRead 133 [] ls st g M Q = q_T md d qP_X6_eRead 141 [.aload 0, .iconst (0), .invokestatic 129, .ifCond .ne (143)] ls st g M Q := q_T_next rfl
theorem b_X6_eRead_141 : q_T md d qP_X6_eRead 141 [] ls st g M Q = q_T md d qP_X6_eRead 143 [.iconst (0), .ret 1] ls st g M Q := q_T_next rfl
theorem b_X6_eRead_143 : q_T md d qP_X6_eRead 143 [] ls st g M Q = q_T md d qP_X6_eRead 148 [.iconst (1), .istore 2, .goto (14)] ls st g M Q := q_T_next rfl
theorem b_X6_eRead_148 : q_T md d qP_X6_eRead 148 [] ls st g M Q = q_T md d qP_X6_eRead 150 [.iconst (0), .ret 1] ls st g M Q := q_T_next rfl
theorem b_X6_eRead_150 : q_T md d qP_X6_eRead 150 [] ls st g M Q = q_T md d qP_X6_eRead 159 [.aload 0, .getfield 621, .iconst (59), .if_icmp .ne (177)] ls st g M Q := q_T_next rfl
theorem b_X6_eRead_159 : q_T md d qP_X6_eRead 159 [] ls st g M Q = q_T md d qP_X6_eRead 171 [.aload 0, .iconst (1), .invokestatic 127, .aload 0, .getfield 625, .ifCond .ne (175)] ls st g M Q := q_T_next rfl
theorem b_X6_eRead_171 : q_T md d qP_X6_eRead 171 [] ls st g M Q = q_T md d qP_X6_eRead 175 [.iconst (1), .goto (176)] ls st g M Q := q_T_next rfl
theorem b_X6_eRead_175 : q_T md d qP_X6_eRead 175 [] ls st g M Q = q_T md d qP_X6_eRead 176 [.iconst (0)] ls st g M Q := q_T_next rfl
theorem b_X6_eRead_176 : q_T md d qP_X6_eRead 176 [] ls st g M Q = q_T md d qP_X6_eRead 177 [.ret 1] ls st g M Q := q_T_next rfl
theorem b_X6_eRead_177 : q_T md d qP_X6_eRead 177 [] ls st g M Q = q_T md d qP_X6_eRead 186 [.aload 0, .getfield 621, .iconst (41), .if_icmp .ne (229)] ls st g M Q := q_T_next rfl
theorem b_X6_eRead_186 : q_T md d qP_X6_eRead 186 [] ls st g M Q = q_T md d qP_X6_eRead 198 [.aload 0, .iconst (1), .invokestatic 127, .aload 0, .getfield 625, .ifCond .ne (200)] ls st g M Q := q_T_next rfl
theorem b_X6_eRead_198 : q_T md d qP_X6_eRead 198 [] ls st g M Q = q_T md d qP_X6_eRead 200 [.iconst (0), .ret 1] ls st g M Q := q_T_next rfl
theorem b_X6_eRead_200 : q_T md d qP_X6_eRead 200 [] ls st g M Q = q_T md d qP_X6_eRead 229 [.aload 0, .dup, .getfield 625, .iconst (1), .isub, .putfield 625, .aload 0, .dup, .getfield 626, .iconst (1), .isub, .putfield 626, .aload 0, .iconst (7), .invokestatic 127, .goto (14)] ls st g M Q := q_T_next rfl
theorem b_X6_eRead_229 : q_T md d qP_X6_eRead 229 [] ls st g M Q = q_T md d qP_X6_eRead 239 [.aload 0, .invokestatic 131, .istore 3, .iload 3, .iconst (-1), .if_icmp .eq (247)] ls st g M Q := q_T_next rfl
theorem b_X6_eRead_239 : q_T md d qP_X6_eRead 239 [] ls st g M Q = q_T md d qP_X6_eRead 247 [.aload 0, .iload 3, .invokestatic 130, .ifCond .ne (249)] ls st g M Q := q_T_next rfl
theorem b_X6_eRead_247 : q_T md d qP_X6_eRead 247 [] ls st g M Q = q_T md d qP_X6_eRead 249 [.iconst (0), .ret 1] ls st g M Q := q_T_next rfl
theorem b_X6_eRead_249 : q_T md d qP_X6_eRead 249 [] ls st g M Q = q_T md d qP_X6_eRead 257 [.iconst (1), .istore 1, .iload 3, .iconst (12), .if_icmp .gt (261)] ls st g M Q := q_T_next rfl
theorem b_X6_eRead_257 : q_T md d qP_X6_eRead 257 [] ls st g M Q = q_T md d qP_X6_eRead 261 [.iconst (1), .goto (262)] ls st g M Q := q_T_next rfl
theorem b_X6_eRead_261 : q_T md d qP_X6_eRead 261 [] ls st g M Q = q_T md d qP_X6_eRead 262 [.iconst (0)] ls st g M Q := q_T_next rfl
theorem b_X6_eRead_262 : q_T md d qP_X6_eRead 262 [] ls st g M Q = q_T md d qP_X6_eRead 266 [.istore 2, .goto (14)] ls st g M Q := q_T_next rfl
theorem s_X6_text {w : Nat} : q_S md d 133 [qR 6 w] g M Q = q_T md d qP_X6_text 0 [] [qR 6 w, qS 0, qS 0] [] g M Q := rfl
theorem b_X6_text_0 : q_T md d qP_X6_text 0 [] ls st g M Q = q_T md d qP_X6_text 9 [.aload 0, .getfield 610, .iconst (6), .if_icmp .ne (12)] ls st g M Q := q_T_next rfl
theorem b_X6_text_9 : q_T md d qP_X6_text 9 [] ls st g M Q = q_T md d qP_X6_text 12 [.iconst (-4), .ret 0] ls st g M Q := q_T_next rfl
theorem b_X6_text_12 : q_T md d qP_X6_text 12 [] ls st g M Q = q_T md d qP_X6_text 26 [.aload 0, .iconst (0), .putfield 619, .aload 0, .iconst (0), .putfield 627, .iconst (1), .istore 1, .iconst (0), .istore 2] ls st g M Q := q_T_next rfl
theorem b_X6_text_26 : q_T md d qP_X6_text 26 [] ls st g M Q = q_T md d qP_X6_text 31 [.iload 2, .iconst (3), .if_icmp .ge (101)] ls st g M Q := q_T_next rfl
theorem b_X6_text_31 : q_T md d qP_X6_text 31 [] ls st g M Q = q_T md d qP_X6_text 35 [.iload 1, .ifCond .eq (101)] ls st g M Q := q_T_next rfl
theorem b_X6_text_35 : q_T md d qP_X6_text 35 [] ls st g M Q = q_T md d qP_X6_text 47 [.aload 0, .invokestatic 124, .aload 0, .getfield 621, .iconst (3), .if_icmp .ne (59)] ls st g M Q := q_T_next rfl
theorem b_X6_text_47 : q_T md d qP_X6_text 47 [] ls st g M Q = q_T md d qP_X6_text 55 [.aload 0, .getfield 622, .iload 2, .if_icmp .ne (59)] ls st g M Q := q_T_next rfl
theorem b_X6_text_55 : q_T md d qP_X6_text 55 [] ls st g M Q = q_T md d qP_X6_text 59 [.iconst (1), .goto (60)] ls st g M Q := q_T_next rfl
theorem b_X6_text_59 : q_T md d qP_X6_text 59 [] ls st g M Q = q_T md d qP_X6_text 60 [.iconst (0)] ls st g M Q := q_T_next rfl
theorem b_X6_text_60 : q_T md d qP_X6_text 60 [] ls st g M Q = q_T md d qP_X6_text 82 [.istore 1, .aload 0, .getfield 609, .iconst (4), .aload 0, .getfield 610, .imul, .iload 2, .iadd, .aload 0, .getfield 627, .iastore, .iload 1, .ifCond .eq (93)] ls st g M Q := q_T_next rfl
theorem b_X6_text_82 : q_T md d qP_X6_text 82 [] ls st g M Q = q_T md d qP_X6_text 89 [.aload 0, .invokestatic 132, .ifCond .eq (93)] ls st g M Q := q_T_next rfl
theorem b_X6_text_89 : q_T md d qP_X6_text 89 [] ls st g M Q = q_T md d qP_X6_text 93 [.iconst (1), .goto (94)] ls st g M Q := q_T_next rfl
theorem b_X6_text_93 : q_T md d qP_X6_text 93 [] ls st g M Q = q_T md d qP_X6_text 94 [.iconst (0)] ls st g M Q := q_T_next rfl
theorem b_X6_text_94 : q_T md d qP_X6_text 94 [] ls st g M Q = q_T md d qP_X6_text 101 [.istore 1, .iinc 2 (1), .goto (26)] ls st g M Q := q_T_next rfl
theorem b_X6_text_101 : q_T md d qP_X6_text 101 [] ls st g M Q = q_T md d qP_X6_text 105 [.iload 1, .ifCond .eq (122)] ls st g M Q := q_T_next rfl
theorem b_X6_text_105 : q_T md d qP_X6_text 105 [] ls st g M Q = q_T md d qP_X6_text 116 [.aload 0, .invokestatic 124, .aload 0, .getfield 621, .ifCond .ne (120)] ls st g M Q := q_T_next rfl
theorem b_X6_text_116 : q_T md d qP_X6_text 116 [] ls st g M Q = q_T md d qP_X6_text 120 [.iconst (1), .goto (121)] ls st g M Q := q_T_next rfl
theorem b_X6_text_120 : q_T md d qP_X6_text 120 [] ls st g M Q = q_T md d qP_X6_text 121 [.iconst (0)] ls st g M Q := q_T_next rfl
theorem b_X6_text_121 : q_T md d qP_X6_text 121 [] ls st g M Q = q_T md d qP_X6_text 122 [.istore 1] ls st g M Q := q_T_next rfl
theorem b_X6_text_122 : q_T md d qP_X6_text 122 [] ls st g M Q = q_T md d qP_X6_text 148 [.aload 0, .getfield 609, .iconst (4), .aload 0, .getfield 610, .imul, .iconst (3), .iadd, .aload 0, .getfield 627, .iastore, .aload 0, .iconst (0), .putfield 607, .iload 1, .ifCond .ne (156)] ls st g M Q := q_T_next rfl
theorem b_X6_text_148 : q_T md d qP_X6_text 148 [] ls st g M Q = q_T md d qP_X6_text 156 [.iconst (-100), .aload 0, .getfield 620, .isub, .ret 0] ls st g M Q := q_T_next rfl
theorem b_X6_text_156 : q_T md d qP_X6_text 156 [] ls st g M Q = q_T md d qP_X6_text 173 [.aload 0, .dup, .getfield 610, .iconst (1), .iadd, .putfield 610, .aload 0, .getfield 610, .iconst (1), .isub, .ret 0] ls st g M Q := q_T_next rfl
theorem s_X6_two {x0 : Int} {x1 : Int} {x2 : Int} : q_S md d 134 [qI x0, qI x1, qI x2] g M Q = q_T md d qP_X6_two 0 [] [qI x0, qI x1, qI x2] [] g M Q := rfl
theorem b_X6_two_0 : q_T md d qP_X6_two 0 [] ls st g M Q = q_T md d qP_X6_two 44 [.iload 0, .tableswitch (102) (11) (17) #[44, 58, 102, 72, 83, 94, 98]] ls st g M Q := q_T_next rfl
theorem b_X6_two_44 : q_T md d qP_X6_two 44 [] ls st g M Q = q_T md d qP_X6_two 48 [.iload 1, .ifCond .ne (52)] ls st g M Q := q_T_next rfl
theorem b_X6_two_48 : q_T md d qP_X6_two 48 [] ls st g M Q = q_T md d qP_X6_two 52 [.iload 2, .ifCond .eq (56)] ls st g M Q := q_T_next rfl
theorem b_X6_two_52 : q_T md d qP_X6_two 52 [] ls st g M Q = q_T md d qP_X6_two 56 [.iconst (1), .goto (57)] ls st g M Q := q_T_next rfl
theorem b_X6_two_56 : q_T md d qP_X6_two 56 [] ls st g M Q = q_T md d qP_X6_two 57 [.iconst (0)] ls st g M Q := q_T_next rfl
theorem b_X6_two_57 : q_T md d qP_X6_two 57 [] ls st g M Q = q_T md d qP_X6_two 58 [.ret 0] ls st g M Q := q_T_next rfl
theorem b_X6_two_58 : q_T md d qP_X6_two 58 [] ls st g M Q = q_T md d qP_X6_two 62 [.iload 1, .ifCond .eq (70)] ls st g M Q := q_T_next rfl
theorem b_X6_two_62 : q_T md d qP_X6_two 62 [] ls st g M Q = q_T md d qP_X6_two 66 [.iload 2, .ifCond .eq (70)] ls st g M Q := q_T_next rfl
theorem b_X6_two_66 : q_T md d qP_X6_two 66 [] ls st g M Q = q_T md d qP_X6_two 70 [.iconst (1), .goto (71)] ls st g M Q := q_T_next rfl
theorem b_X6_two_70 : q_T md d qP_X6_two 70 [] ls st g M Q = q_T md d qP_X6_two 71 [.iconst (0)] ls st g M Q := q_T_next rfl
theorem b_X6_two_71 : q_T md d qP_X6_two 71 [] ls st g M Q = q_T md d qP_X6_two 72 [.ret 0] ls st g M Q := q_T_next rfl
theorem b_X6_two_72 : q_T md d qP_X6_two 72 [] ls st g M Q = q_T md d qP_X6_two 77 [.iload 1, .iload 2, .if_icmp .ge (81)] ls st g M Q := q_T_next rfl
theorem b_X6_two_77 : q_T md d qP_X6_two 77 [] ls st g M Q = q_T md d qP_X6_two 81 [.iconst (1), .goto (82)] ls st g M Q := q_T_next rfl
theorem b_X6_two_81 : q_T md d qP_X6_two 81 [] ls st g M Q = q_T md d qP_X6_two 82 [.iconst (0)] ls st g M Q := q_T_next rfl
theorem b_X6_two_82 : q_T md d qP_X6_two 82 [] ls st g M Q = q_T md d qP_X6_two 83 [.ret 0] ls st g M Q := q_T_next rfl
theorem b_X6_two_83 : q_T md d qP_X6_two 83 [] ls st g M Q = q_T md d qP_X6_two 88 [.iload 1, .iload 2, .if_icmp .ne (92)] ls st g M Q := q_T_next rfl
theorem b_X6_two_88 : q_T md d qP_X6_two 88 [] ls st g M Q = q_T md d qP_X6_two 92 [.iconst (1), .goto (93)] ls st g M Q := q_T_next rfl
theorem b_X6_two_92 : q_T md d qP_X6_two 92 [] ls st g M Q = q_T md d qP_X6_two 93 [.iconst (0)] ls st g M Q := q_T_next rfl
theorem b_X6_two_93 : q_T md d qP_X6_two 93 [] ls st g M Q = q_T md d qP_X6_two 94 [.ret 0] ls st g M Q := q_T_next rfl
theorem b_X6_two_94 : q_T md d qP_X6_two 94 [] ls st g M Q = q_T md d qP_X6_two 98 [.iload 1, .iload 2, .iadd, .ret 0] ls st g M Q := q_T_next rfl
theorem b_X6_two_98 : q_T md d qP_X6_two 98 [] ls st g M Q = q_T md d qP_X6_two 102 [.iload 1, .iload 2, .isub, .ret 0] ls st g M Q := q_T_next rfl
theorem b_X6_two_102 : q_T md d qP_X6_two 102 [] ls st g M Q = q_T md d qP_X6_two 106 [.iload 1, .iload 2, .imul, .ret 0] ls st g M Q := q_T_next rfl
theorem s_X6_says {w : Nat} {x0 : Int} : q_S md d 135 [qR 6 w, qI x0] g M Q = q_T md d qP_X6_says 0 [] [qR 6 w, qI x0, qS 0, qS 0, qS 0] [] g M Q := rfl
theorem b_X6_says_0 : q_T md d qP_X6_says 0 [] ls st g M Q = q_T md d qP_X6_says 16 [.iconst (0), .istore 2, .aload 0, .getfield 609, .iconst (4), .aload 0, .getfield 611, .imul, .iload 1, .iadd, .iaload, .istore 3] ls st g M Q := q_T_next rfl
theorem b_X6_says_16 : q_T md d qP_X6_says 16 [] ls st g M Q = q_T md d qP_X6_says 35 [.iload 3, .aload 0, .getfield 609, .iconst (4), .aload 0, .getfield 611, .imul, .iload 1, .iadd, .iconst (1), .iadd, .iaload, .if_icmp .ge (197)] ls st g M Q := q_T_next rfl
theorem b_X6_says_35 : q_T md d qP_X6_says 35 [] ls st g M Q = q_T md d qP_X6_says 59 [.aload 0, .getfield 608, .iconst (200), .aload 0, .getfield 611, .imul, .iload 3, .iadd, .iaload, .istore 4, .iload 4, .iconst (100000), .if_icmp .ge (66)] ls st g M Q := q_T_next rfl
theorem b_X6_says_59 : q_T md d qP_X6_says 59 [] ls st g M Q = q_T md d qP_X6_says 66 [.iload 4, .iconst (11), .if_icmp .ge (100)] ls st g M Q := q_T_next rfl
theorem b_X6_says_66 : q_T md d qP_X6_says 66 [] ls st g M Q = q_T md d qP_X6_says 78 [.aload 0, .getfield 628, .iload 2, .iload 4, .iconst (11), .if_icmp .ge (88)] ls st g M Q := q_T_next rfl
theorem b_X6_says_78 : q_T md d qP_X6_says 78 [] ls st g M Q = q_T md d qP_X6_says 88 [.aload 0, .getfield 629, .iload 4, .iaload, .goto (93)] ls st g M Q := q_T_next rfl
theorem b_X6_says_88 : q_T md d qP_X6_says 88 [] ls st g M Q = q_T md d qP_X6_says 93 [.iload 4, .iconst (100000), .isub] ls st g M Q := q_T_next rfl
theorem b_X6_says_93 : q_T md d qP_X6_says 93 [] ls st g M Q = q_T md d qP_X6_says 100 [.iastore, .iinc 2 (1), .goto (191)] ls st g M Q := q_T_next rfl
theorem b_X6_says_100 : q_T md d qP_X6_says 100 [] ls st g M Q = q_T md d qP_X6_says 107 [.iload 4, .iconst (13), .if_icmp .ne (134)] ls st g M Q := q_T_next rfl
theorem b_X6_says_107 : q_T md d qP_X6_says 107 [] ls st g M Q = q_T md d qP_X6_says 125 [.aload 0, .getfield 628, .iload 2, .iconst (1), .isub, .aload 0, .getfield 628, .iload 2, .iconst (1), .isub, .iaload, .ifCond .ne (129)] ls st g M Q := q_T_next rfl
theorem b_X6_says_125 : q_T md d qP_X6_says 125 [] ls st g M Q = q_T md d qP_X6_says 129 [.iconst (1), .goto (130)] ls st g M Q := q_T_next rfl
theorem b_X6_says_129 : q_T md d qP_X6_says 129 [] ls st g M Q = q_T md d qP_X6_says 130 [.iconst (0)] ls st g M Q := q_T_next rfl
theorem b_X6_says_130 : q_T md d qP_X6_says 130 [] ls st g M Q = q_T md d qP_X6_says 134 [.iastore, .goto (191)] ls st g M Q := q_T_next rfl
theorem b_X6_says_134 : q_T md d qP_X6_says 134 [] ls st g M Q = q_T md d qP_X6_says 141 [.iload 4, .iconst (19), .if_icmp .ne (161)] ls st g M Q := q_T_next rfl
theorem b_X6_says_141 : q_T md d qP_X6_says 141 [] ls st g M Q = q_T md d qP_X6_says 161 [.aload 0, .getfield 628, .iload 2, .iconst (1), .isub, .aload 0, .getfield 628, .iload 2, .iconst (1), .isub, .iaload, .ineg, .iastore, .goto (191)] ls st g M Q := q_T_next rfl
theorem b_X6_says_161 : q_T md d qP_X6_says 161 [] ls st g M Q = q_T md d qP_X6_says 191 [.iinc 2 (-1), .aload 0, .getfield 628, .iload 2, .iconst (1), .isub, .iload 4, .aload 0, .getfield 628, .iload 2, .iconst (1), .isub, .iaload, .aload 0, .getfield 628, .iload 2, .iaload, .invokestatic 134, .iastore] ls st g M Q := q_T_next rfl
theorem b_X6_says_191 : q_T md d qP_X6_says 191 [] ls st g M Q = q_T md d qP_X6_says 197 [.iinc 3 (1), .goto (16)] ls st g M Q := q_T_next rfl
theorem b_X6_says_197 : q_T md d qP_X6_says 197 [] ls st g M Q = q_T md d qP_X6_says 204 [.aload 0, .getfield 628, .iconst (0), .iaload, .ret 0] ls st g M Q := q_T_next rfl
theorem s_X6_force {w : Nat} {x0 : Int} : q_S md d 136 [qR 6 w, qI x0] g M Q = q_T md d qP_X6_force 0 [] [qR 6 w, qI x0, qS 0] [] g M Q := rfl
theorem b_X6_force_0 : q_T md d qP_X6_force 0 [] ls st g M Q = q_T md d qP_X6_force 14 [.iload 1, .iconst (0), .aload 0, .getfield 610, .iconst (1), .isub, .invokestatic 110, .ifCond .ne (17)] ls st g M Q := q_T_next rfl
theorem b_X6_force_14 : q_T md d qP_X6_force 14 [] ls st g M Q = q_T md d qP_X6_force 17 [.iconst (-2), .ret 0] ls st g M Q := q_T_next rfl
theorem b_X6_force_17 : q_T md d qP_X6_force 17 [] ls st g M Q = q_T md d qP_X6_force 29 [.aload 0, .getfield 611, .istore 2, .aload 0, .iload 1, .putfield 611, .iload 2, .ret 0] ls st g M Q := q_T_next rfl
theorem s_X6_asksOf {w : Nat} {x0 : Int} {x1 : Int} {x2 : Int} : q_S md d 137 [qR 6 w, qI x0, qI x1, qI x2] g M Q = q_T md d qP_X6_asksOf 0 [] [qR 6 w, qI x0, qI x1, qI x2, qS 0] [] g M Q := rfl
theorem b_X6_asksOf_0 : q_T md d qP_X6_asksOf 0 [] ls st g M Q = q_T md d qP_X6_asksOf 26 [.aload 0, .getfield 629, .iconst (0), .iconst (0), .iastore, .aload 0, .getfield 629, .iconst (1), .iconst (0), .iastore, .aload 0, .getfield 629, .iconst (2), .iconst (0), .iastore, .iload 3, .iconst (-1), .if_icmp .eq (96)] ls st g M Q := q_T_next rfl
theorem b_X6_asksOf_26 : q_T md d qP_X6_asksOf 26 [] ls st g M Q = q_T md d qP_X6_asksOf 55 [.aload 0, .getfield 604, .iconst (3), .iload 2, .imul, .iaload, .aload 0, .getfield 603, .iconst (4), .iload 3, .imul, .iaload, .isub, .istore 4, .aload 0, .getfield 629, .iconst (0), .iload 4, .ifCond .ge (61)] ls st g M Q := q_T_next rfl
theorem b_X6_asksOf_55 : q_T md d qP_X6_asksOf 55 [] ls st g M Q = q_T md d qP_X6_asksOf 61 [.iload 4, .ineg, .goto (63)] ls st g M Q := q_T_next rfl
theorem b_X6_asksOf_61 : q_T md d qP_X6_asksOf 61 [] ls st g M Q = q_T md d qP_X6_asksOf 63 [.iload 4] ls st g M Q := q_T_next rfl
theorem b_X6_asksOf_63 : q_T md d qP_X6_asksOf 63 [] ls st g M Q = q_T md d qP_X6_asksOf 96 [.iastore, .aload 0, .getfield 629, .iconst (1), .aload 0, .getfield 603, .iconst (4), .iload 3, .imul, .iconst (2), .iadd, .iaload, .iastore, .aload 0, .getfield 629, .iconst (2), .aload 0, .getfield 603, .iconst (4), .iload 3, .imul, .iconst (3), .iadd, .iaload, .iastore] ls st g M Q := q_T_next rfl
theorem b_X6_asksOf_96 : q_T md d qP_X6_asksOf 96 [] ls st g M Q = q_T md d qP_X6_asksOf 144 [.aload 0, .getfield 629, .iconst (3), .aload 0, .getfield 604, .iconst (3), .iload 2, .imul, .iconst (1), .iadd, .iaload, .iastore, .aload 0, .getfield 629, .iconst (4), .aload 0, .getfield 605, .iastore, .aload 0, .getfield 629, .iconst (5), .aload 0, .getfield 602, .iload 2, .iaload, .iastore, .aload 0, .iload 1, .invokestatic 135, .iload 1, .iconst (2), .if_icmp .ne (148)] ls st g M Q := q_T_next rfl
theorem b_X6_asksOf_144 : q_T md d qP_X6_asksOf 144 [] ls st g M Q = q_T md d qP_X6_asksOf 148 [.iconst (0), .goto (150)] ls st g M Q := q_T_next rfl
theorem b_X6_asksOf_148 : q_T md d qP_X6_asksOf 148 [] ls st g M Q = q_T md d qP_X6_asksOf 150 [.iconst (-99)] ls st g M Q := q_T_next rfl
theorem b_X6_asksOf_150 : q_T md d qP_X6_asksOf 150 [] ls st g M Q = q_T md d qP_X6_asksOf 156 [.iconst (99), .invokestatic 111, .ret 0] ls st g M Q := q_T_next rfl
theorem s_X6_asks {w : Nat} {x0 : Int} {x1 : Int} {x2 : Int} : q_S md d 138 [qR 6 w, qI x0, qI x1, qI x2] g M Q = q_T md d qP_X6_asks 0 [] [qR 6 w, qI x0, qI x1, qI x2] [] g M Q := rfl
theorem b_X6_asks_0 : q_T md d qP_X6_asks 0 [] ls st g M Q = q_T md d qP_X6_asks 9 [.iload 1, .iconst (0), .iconst (2), .invokestatic 110, .ifCond .eq (36)] ls st g M Q := q_T_next rfl
theorem b_X6_asks_9 : q_T md d qP_X6_asks 9 [] ls st g M Q = q_T md d qP_X6_asks 17 [.aload 0, .iload 2, .invokestatic 112, .ifCond .eq (36)] ls st g M Q := q_T_next rfl
theorem b_X6_asks_17 : q_T md d qP_X6_asks 17 [] ls st g M Q = q_T md d qP_X6_asks 26 [.iload 3, .iconst (-1), .iconst (4), .invokestatic 110, .ifCond .eq (36)] ls st g M Q := q_T_next rfl
theorem b_X6_asks_26 : q_T md d qP_X6_asks 26 [] ls st g M Q = q_T md d qP_X6_asks 36 [.aload 0, .iload 1, .iload 2, .iload 3, .invokestatic 137, .goto (39)] ls st g M Q := q_T_next rfl
theorem b_X6_asks_36 : q_T md d qP_X6_asks 36 [] ls st g M Q = q_T md d qP_X6_asks 39 [.iconst (-1000)] ls st g M Q := q_T_next rfl
theorem b_X6_asks_39 : q_T md d qP_X6_asks 39 [] ls st g M Q = q_T md d qP_X6_asks 40 [.ret 0] ls st g M Q := q_T_next rfl
theorem s_X6_stone {w : Nat} {x0 : Int} {x1 : Int} {x2 : Int} : q_S md d 139 [qR 6 w, qI x0, qI x1, qI x2] g M Q = q_T md d qP_X6_stone 0 [] [qR 6 w, qI x0, qI x1, qI x2] [] g M Q := rfl
theorem b_X6_stone_0 : q_T md d qP_X6_stone 0 [] ls st g M Q = q_T md d qP_X6_stone 10 [.iload 1, .iconst (0), .iconst (59), .invokestatic 110, .ifCond .eq (30)] ls st g M Q := q_T_next rfl
theorem b_X6_stone_10 : q_T md d qP_X6_stone 10 [] ls st g M Q = q_T md d qP_X6_stone 20 [.iload 2, .iconst (0), .iconst (99), .invokestatic 110, .ifCond .eq (30)] ls st g M Q := q_T_next rfl
theorem b_X6_stone_20 : q_T md d qP_X6_stone 20 [] ls st g M Q = q_T md d qP_X6_stone 30 [.iload 3, .iconst (0), .iconst (99), .invokestatic 110, .ifCond .ne (33)] ls st g M Q := q_T_next rfl
theorem b_X6_stone_30 : q_T md d qP_X6_stone 30 [] ls st g M Q = q_T md d qP_X6_stone 33 [.iconst (-2), .ret 0] ls st g M Q := q_T_next rfl
theorem b_X6_stone_33 : q_T md d qP_X6_stone 33 [] ls st g M Q = q_T md d qP_X6_stone 41 [.aload 0, .getfield 600, .iconst (5), .if_icmp .ne (44)] ls st g M Q := q_T_next rfl
theorem b_X6_stone_41 : q_T md d qP_X6_stone 41 [] ls st g M Q = q_T md d qP_X6_stone 44 [.iconst (-4), .ret 0] ls st g M Q := q_T_next rfl
theorem b_X6_stone_44 : q_T md d qP_X6_stone 44 [] ls st g M Q = q_T md d qP_X6_stone 127 [.aload 0, .getfield 601, .aload 0, .getfield 600, .iload 1, .iconst (10), .idiv, .iastore, .aload 0, .getfield 602, .aload 0, .getfield 600, .iload 1, .iconst (10), .irem, .iastore, .aload 0, .getfield 604, .iconst (3), .aload 0, .getfield 600, .imul, .iload 2, .iastore, .aload 0, .getfield 604, .iconst (3), .aload 0, .getfield 600, .imul, .iconst (1), .iadd, .iload 3, .iastore, .aload 0, .getfield 604, .iconst (3), .aload 0, .getfield 600, .imul, .iconst (2), .iadd, .iconst (-1), .iastore, .aload 0, .dup, .getfield 600, .iconst (1), .iadd, .putfield 600, .aload 0, .getfield 600, .iconst (1), .isub, .ret 0] ls st g M Q := q_T_next rfl
theorem s_X6_put {w : Nat} {x0 : Int} {x1 : Int} {x2 : Int} : q_S md d 140 [qR 6 w, qI x0, qI x1, qI x2] g M Q = q_T md d qP_X6_put 0 [] [qR 6 w, qI x0, qI x1, qI x2, qS 0] [] g M Q := rfl
theorem b_X6_put_0 : q_T md d qP_X6_put 0 [] ls st g M Q = q_T md d qP_X6_put 8 [.aload 0, .iload 1, .invokestatic 112, .ifCond .ne (11)] ls st g M Q := q_T_next rfl
theorem b_X6_put_8 : q_T md d qP_X6_put 8 [] ls st g M Q = q_T md d qP_X6_put 11 [.iconst (-5), .ret 0] ls st g M Q := q_T_next rfl
theorem b_X6_put_11 : q_T md d qP_X6_put 11 [] ls st g M Q = q_T md d qP_X6_put 20 [.iload 2, .iconst (0), .iconst (1), .invokestatic 110, .ifCond .eq (30)] ls st g M Q := q_T_next rfl
theorem b_X6_put_20 : q_T md d qP_X6_put 20 [] ls st g M Q = q_T md d qP_X6_put 30 [.iload 3, .iconst (0), .iconst (99), .invokestatic 110, .ifCond .ne (33)] ls st g M Q := q_T_next rfl
theorem b_X6_put_30 : q_T md d qP_X6_put 30 [] ls st g M Q = q_T md d qP_X6_put 33 [.iconst (-7), .ret 0] ls st g M Q := q_T_next rfl
theorem b_X6_put_33 : q_T md d qP_X6_put 33 [] ls st g M Q = q_T md d qP_X6_put 69 [.aload 0, .getfield 604, .iconst (3), .iload 1, .imul, .iload 2, .iadd, .iaload, .istore 4, .aload 0, .getfield 604, .iconst (3), .iload 1, .imul, .iload 2, .iadd, .iload 3, .iastore, .aload 0, .getfield 604, .iconst (3), .iload 1, .imul, .iconst (2), .iadd, .iload 2, .ifCond .ne (73)] ls st g M Q := q_T_next rfl
theorem b_X6_put_69 : q_T md d qP_X6_put 69 [] ls st g M Q = q_T md d qP_X6_put 73 [.iconst (-1), .goto (83)] ls st g M Q := q_T_next rfl
theorem b_X6_put_73 : q_T md d qP_X6_put 73 [] ls st g M Q = q_T md d qP_X6_put 83 [.aload 0, .getfield 604, .iconst (3), .iload 1, .imul, .iconst (2), .iadd, .iaload] ls st g M Q := q_T_next rfl
theorem b_X6_put_83 : q_T md d qP_X6_put 83 [] ls st g M Q = q_T md d qP_X6_put 87 [.iastore, .iload 4, .ret 0] ls st g M Q := q_T_next rfl
theorem s_X6_likesOf {w : Nat} {x0 : Int} {x1 : Int} : q_S md d 141 [qR 6 w, qI x0, qI x1] g M Q = q_T md d qP_X6_likesOf 0 [] [qR 6 w, qI x0, qI x1, qS 0] [] g M Q := rfl
theorem b_X6_likesOf_0 : q_T md d qP_X6_likesOf 0 [] ls st g M Q = q_T md d qP_X6_likesOf 48 [.aload 0, .iconst (0), .iload 1, .iload 2, .invokestatic 137, .istore 3, .aload 0, .getfield 601, .iload 1, .iaload, .tableswitch (116) (1) (5) #[48, 116, 48, 69, 91]] ls st g M Q := q_T_next rfl
theorem b_X6_likesOf_48 : q_T md d qP_X6_likesOf 48 [] ls st g M Q = q_T md d qP_X6_likesOf 60 [.iload 2, .aload 0, .getfield 602, .iload 1, .iaload, .iconst (5), .irem, .if_icmp .ne (65)] ls st g M Q := q_T_next rfl
theorem b_X6_likesOf_60 : q_T md d qP_X6_likesOf 60 [] ls st g M Q = q_T md d qP_X6_likesOf 65 [.iconst (99), .goto (68)] ls st g M Q := q_T_next rfl
theorem b_X6_likesOf_65 : q_T md d qP_X6_likesOf 65 [] ls st g M Q = q_T md d qP_X6_likesOf 68 [.iload 3, .iconst (2), .idiv] ls st g M Q := q_T_next rfl
theorem b_X6_likesOf_68 : q_T md d qP_X6_likesOf 68 [] ls st g M Q = q_T md d qP_X6_likesOf 69 [.ret 0] ls st g M Q := q_T_next rfl
theorem b_X6_likesOf_69 : q_T md d qP_X6_likesOf 69 [] ls st g M Q = q_T md d qP_X6_likesOf 84 [.aload 0, .getfield 603, .iconst (4), .iload 2, .imul, .iconst (2), .iadd, .iaload, .iconst (50), .if_icmp .le (89)] ls st g M Q := q_T_next rfl
theorem b_X6_likesOf_84 : q_T md d qP_X6_likesOf 84 [] ls st g M Q = q_T md d qP_X6_likesOf 89 [.iload 3, .ineg, .goto (90)] ls st g M Q := q_T_next rfl
theorem b_X6_likesOf_89 : q_T md d qP_X6_likesOf 89 [] ls st g M Q = q_T md d qP_X6_likesOf 90 [.iload 3] ls st g M Q := q_T_next rfl
theorem b_X6_likesOf_90 : q_T md d qP_X6_likesOf 90 [] ls st g M Q = q_T md d qP_X6_likesOf 91 [.ret 0] ls st g M Q := q_T_next rfl
theorem b_X6_likesOf_91 : q_T md d qP_X6_likesOf 91 [] ls st g M Q = q_T md d qP_X6_likesOf 110 [.aload 0, .getfield 603, .iconst (4), .iload 2, .imul, .iconst (3), .iadd, .iaload, .aload 0, .getfield 602, .iload 1, .iaload, .if_icmp .le (114)] ls st g M Q := q_T_next rfl
theorem b_X6_likesOf_110 : q_T md d qP_X6_likesOf 110 [] ls st g M Q = q_T md d qP_X6_likesOf 114 [.iconst (-1), .goto (115)] ls st g M Q := q_T_next rfl
theorem b_X6_likesOf_114 : q_T md d qP_X6_likesOf 114 [] ls st g M Q = q_T md d qP_X6_likesOf 115 [.iload 3] ls st g M Q := q_T_next rfl
theorem b_X6_likesOf_115 : q_T md d qP_X6_likesOf 115 [] ls st g M Q = q_T md d qP_X6_likesOf 116 [.ret 0] ls st g M Q := q_T_next rfl
theorem b_X6_likesOf_116 : q_T md d qP_X6_likesOf 116 [] ls st g M Q = q_T md d qP_X6_likesOf 118 [.iload 3, .ret 0] ls st g M Q := q_T_next rfl
theorem s_X6_wantedOf {w : Nat} {x0 : Int} {x1 : Int} : q_S md d 142 [qR 6 w, qI x0, qI x1] g M Q = q_T md d qP_X6_wantedOf 0 [] [qR 6 w, qI x0, qI x1, qS 0] [] g M Q := rfl
theorem b_X6_wantedOf_0 : q_T md d qP_X6_wantedOf 0 [] ls st g M Q = q_T md d qP_X6_wantedOf 40 [.aload 0, .iconst (1), .iload 1, .iload 2, .invokestatic 137, .istore 3, .aload 0, .getfield 601, .iload 1, .iaload, .tableswitch (80) (2) (4) #[40, 52, 55]] ls st g M Q := q_T_next rfl
theorem b_X6_wantedOf_40 : q_T md d qP_X6_wantedOf 40 [] ls st g M Q = q_T md d qP_X6_wantedOf 52 [.iload 3, .iconst (10), .aload 0, .getfield 602, .iload 1, .iaload, .imul, .iadd, .ret 0] ls st g M Q := q_T_next rfl
theorem b_X6_wantedOf_52 : q_T md d qP_X6_wantedOf 52 [] ls st g M Q = q_T md d qP_X6_wantedOf 55 [.iload 3, .ineg, .ret 0] ls st g M Q := q_T_next rfl
theorem b_X6_wantedOf_55 : q_T md d qP_X6_wantedOf 55 [] ls st g M Q = q_T md d qP_X6_wantedOf 64 [.aload 0, .getfield 605, .iconst (2), .irem, .ifCond .ne (78)] ls st g M Q := q_T_next rfl
theorem b_X6_wantedOf_64 : q_T md d qP_X6_wantedOf 64 [] ls st g M Q = q_T md d qP_X6_wantedOf 78 [.iload 3, .iconst (10), .aload 0, .getfield 602, .iload 1, .iaload, .imul, .iadd, .goto (79)] ls st g M Q := q_T_next rfl
theorem b_X6_wantedOf_78 : q_T md d qP_X6_wantedOf 78 [] ls st g M Q = q_T md d qP_X6_wantedOf 79 [.iload 3] ls st g M Q := q_T_next rfl
theorem b_X6_wantedOf_79 : q_T md d qP_X6_wantedOf 79 [] ls st g M Q = q_T md d qP_X6_wantedOf 80 [.ret 0] ls st g M Q := q_T_next rfl
theorem b_X6_wantedOf_80 : q_T md d qP_X6_wantedOf 80 [] ls st g M Q = q_T md d qP_X6_wantedOf 82 [.iload 3, .ret 0] ls st g M Q := q_T_next rfl
theorem s_X6_goesOf {w : Nat} {x0 : Int} : q_S md d 143 [qR 6 w, qI x0] g M Q = q_T md d qP_X6_goesOf 0 [] [qR 6 w, qI x0, qS 0, qS 0] [] g M Q := rfl
theorem b_X6_goesOf_0 : q_T md d qP_X6_goesOf 0 [] ls st g M Q = q_T md d qP_X6_goesOf 17 [.aload 0, .iconst (2), .iload 1, .iconst (-1), .invokestatic 137, .istore 2, .aload 0, .getfield 605, .iconst (10), .if_icmp .ge (21)] ls st g M Q := q_T_next rfl
theorem b_X6_goesOf_17 : q_T md d qP_X6_goesOf 17 [] ls st g M Q = q_T md d qP_X6_goesOf 21 [.iconst (0), .goto (22)] ls st g M Q := q_T_next rfl
theorem b_X6_goesOf_21 : q_T md d qP_X6_goesOf 21 [] ls st g M Q = q_T md d qP_X6_goesOf 22 [.iload 2] ls st g M Q := q_T_next rfl
theorem b_X6_goesOf_22 : q_T md d qP_X6_goesOf 22 [] ls st g M Q = q_T md d qP_X6_goesOf 64 [.istore 3, .aload 0, .getfield 601, .iload 1, .iaload, .tableswitch (81) (1) (5) #[64, 66, 70, 66, 79]] ls st g M Q := q_T_next rfl
theorem b_X6_goesOf_64 : q_T md d qP_X6_goesOf 64 [] ls st g M Q = q_T md d qP_X6_goesOf 66 [.iload 3, .ret 0] ls st g M Q := q_T_next rfl
theorem b_X6_goesOf_66 : q_T md d qP_X6_goesOf 66 [] ls st g M Q = q_T md d qP_X6_goesOf 70 [.iload 2, .iconst (2), .idiv, .ret 0] ls st g M Q := q_T_next rfl
theorem b_X6_goesOf_70 : q_T md d qP_X6_goesOf 70 [] ls st g M Q = q_T md d qP_X6_goesOf 79 [.iload 3, .aload 0, .getfield 602, .iload 1, .iaload, .iadd, .ret 0] ls st g M Q := q_T_next rfl
theorem b_X6_goesOf_79 : q_T md d qP_X6_goesOf 79 [] ls st g M Q = q_T md d qP_X6_goesOf 81 [.iconst (1), .ret 0] ls st g M Q := q_T_next rfl
theorem b_X6_goesOf_81 : q_T md d qP_X6_goesOf 81 [] ls st g M Q = q_T md d qP_X6_goesOf 83 [.iload 2, .ret 0] ls st g M Q := q_T_next rfl
theorem s_X6_wishOf {w : Nat} {x0 : Int} : q_S md d 144 [qR 6 w, qI x0] g M Q = q_T md d qP_X6_wishOf 0 [] [qR 6 w, qI x0, qS 0, qS 0, qS 0, qS 0] [] g M Q := rfl
theorem b_X6_wishOf_0 : q_T md d qP_X6_wishOf 0 [] ls st g M Q = q_T md d qP_X6_wishOf 7 [.iconst (-1), .istore 2, .iconst (0), .istore 3, .iconst (0), .istore 4] ls st g M Q := q_T_next rfl
theorem b_X6_wishOf_7 : q_T md d qP_X6_wishOf 7 [] ls st g M Q = q_T md d qP_X6_wishOf 13 [.iload 4, .iconst (5), .if_icmp .ge (54)] ls st g M Q := q_T_next rfl
theorem b_X6_wishOf_13 : q_T md d qP_X6_wishOf 13 [] ls st g M Q = q_T md d qP_X6_wishOf 28 [.aload 0, .iload 1, .iload 4, .invokestatic 141, .istore 5, .iload 5, .iload 3, .if_icmp .le (33)] ls st g M Q := q_T_next rfl
theorem b_X6_wishOf_28 : q_T md d qP_X6_wishOf 28 [] ls st g M Q = q_T md d qP_X6_wishOf 33 [.iload 4, .goto (34)] ls st g M Q := q_T_next rfl
theorem b_X6_wishOf_33 : q_T md d qP_X6_wishOf 33 [] ls st g M Q = q_T md d qP_X6_wishOf 34 [.iload 2] ls st g M Q := q_T_next rfl
theorem b_X6_wishOf_34 : q_T md d qP_X6_wishOf 34 [] ls st g M Q = q_T md d qP_X6_wishOf 41 [.istore 2, .iload 5, .iload 3, .if_icmp .le (46)] ls st g M Q := q_T_next rfl
theorem b_X6_wishOf_41 : q_T md d qP_X6_wishOf 41 [] ls st g M Q = q_T md d qP_X6_wishOf 46 [.iload 5, .goto (47)] ls st g M Q := q_T_next rfl
theorem b_X6_wishOf_46 : q_T md d qP_X6_wishOf 46 [] ls st g M Q = q_T md d qP_X6_wishOf 47 [.iload 3] ls st g M Q := q_T_next rfl
theorem b_X6_wishOf_47 : q_T md d qP_X6_wishOf 47 [] ls st g M Q = q_T md d qP_X6_wishOf 54 [.istore 3, .iinc 4 (1), .goto (7)] ls st g M Q := q_T_next rfl
theorem b_X6_wishOf_54 : q_T md d qP_X6_wishOf 54 [] ls st g M Q = q_T md d qP_X6_wishOf 56 [.iload 2, .ret 0] ls st g M Q := q_T_next rfl
theorem s_X6_told {w : Nat} {x0 : Int} {x1 : Int} : q_S md d 145 [qR 6 w, qI x0, qI x1] g M Q = q_T md d qP_X6_told 0 [] [qR 6 w, qI x0, qI x1] [] g M Q := rfl
theorem b_X6_told_0 : q_T md d qP_X6_told 0 [] ls st g M Q = q_T md d qP_X6_told 8 [.aload 0, .iload 1, .invokestatic 112, .ifCond .ne (11)] ls st g M Q := q_T_next rfl
theorem b_X6_told_8 : q_T md d qP_X6_told 8 [] ls st g M Q = q_T md d qP_X6_told 11 [.iconst (-5), .ret 0] ls st g M Q := q_T_next rfl
theorem b_X6_told_11 : q_T md d qP_X6_told 11 [] ls st g M Q = q_T md d qP_X6_told 56 [.iload 2, .tableswitch (93) (0) (6) #[56, 56, 56, 67, 74, 81, 87]] ls st g M Q := q_T_next rfl
theorem b_X6_told_56 : q_T md d qP_X6_told 56 [] ls st g M Q = q_T md d qP_X6_told 67 [.aload 0, .getfield 604, .iconst (3), .iload 1, .imul, .iload 2, .iadd, .iaload, .ret 0] ls st g M Q := q_T_next rfl
theorem b_X6_told_67 : q_T md d qP_X6_told 67 [] ls st g M Q = q_T md d qP_X6_told 74 [.aload 0, .getfield 601, .iload 1, .iaload, .ret 0] ls st g M Q := q_T_next rfl
theorem b_X6_told_74 : q_T md d qP_X6_told 74 [] ls st g M Q = q_T md d qP_X6_told 81 [.aload 0, .getfield 602, .iload 1, .iaload, .ret 0] ls st g M Q := q_T_next rfl
theorem b_X6_told_81 : q_T md d qP_X6_told 81 [] ls st g M Q = q_T md d qP_X6_told 87 [.aload 0, .iload 1, .invokestatic 144, .ret 0] ls st g M Q := q_T_next rfl
theorem b_X6_told_87 : q_T md d qP_X6_told 87 [] ls st g M Q = q_T md d qP_X6_told 93 [.aload 0, .iload 1, .invokestatic 143, .ret 0] ls st g M Q := q_T_next rfl
theorem b_X6_told_93 : q_T md d qP_X6_told 93 [] ls st g M Q = q_T md d qP_X6_told 96 [.iconst (-7), .ret 0] ls st g M Q := q_T_next rfl
theorem s_X6_love {w : Nat} {x0 : Int} {x1 : Int} {x2 : Int} : q_S md d 146 [qR 6 w, qI x0, qI x1, qI x2] g M Q = q_T md d qP_X6_love 0 [] [qR 6 w, qI x0, qI x1, qI x2] [] g M Q := rfl
theorem b_X6_love_0 : q_T md d qP_X6_love 0 [] ls st g M Q = q_T md d qP_X6_love 8 [.aload 0, .iload 1, .invokestatic 112, .ifCond .eq (15)] ls st g M Q := q_T_next rfl
theorem b_X6_love_8 : q_T md d qP_X6_love 8 [] ls st g M Q = q_T md d qP_X6_love 15 [.iload 2, .invokestatic 113, .ifCond .ne (19)] ls st g M Q := q_T_next rfl
theorem b_X6_love_15 : q_T md d qP_X6_love 15 [] ls st g M Q = q_T md d qP_X6_love 19 [.iconst (-5000), .ret 0] ls st g M Q := q_T_next rfl
theorem b_X6_love_19 : q_T md d qP_X6_love 19 [] ls st g M Q = q_T md d qP_X6_love 23 [.iload 3, .ifCond .ne (32)] ls st g M Q := q_T_next rfl
theorem b_X6_love_23 : q_T md d qP_X6_love 23 [] ls st g M Q = q_T md d qP_X6_love 32 [.aload 0, .iload 1, .iload 2, .invokestatic 141, .goto (49)] ls st g M Q := q_T_next rfl
theorem b_X6_love_32 : q_T md d qP_X6_love 32 [] ls st g M Q = q_T md d qP_X6_love 37 [.iload 3, .iconst (1), .if_icmp .ne (46)] ls st g M Q := q_T_next rfl
theorem b_X6_love_37 : q_T md d qP_X6_love 37 [] ls st g M Q = q_T md d qP_X6_love 46 [.aload 0, .iload 1, .iload 2, .invokestatic 142, .goto (49)] ls st g M Q := q_T_next rfl
theorem b_X6_love_46 : q_T md d qP_X6_love 46 [] ls st g M Q = q_T md d qP_X6_love 49 [.iconst (-7000)] ls st g M Q := q_T_next rfl
theorem b_X6_love_49 : q_T md d qP_X6_love 49 [] ls st g M Q = q_T md d qP_X6_love 50 [.ret 0] ls st g M Q := q_T_next rfl
theorem s_X6_lastIn {w : Nat} {x0 : Int} : q_S md d 147 [qR 6 w, qI x0] g M Q = q_T md d qP_X6_lastIn 0 [] [qR 6 w, qI x0, qS 0, qS 0, qS 0, qS 0, qS 0] [] g M Q := rfl
theorem b_X6_lastIn_0 : q_T md d qP_X6_lastIn 0 [] ls st g M Q = q_T md d qP_X6_lastIn 7 [.iconst (-1), .istore 2, .iconst (0), .istore 3, .iconst (0), .istore 4] ls st g M Q := q_T_next rfl
theorem b_X6_lastIn_7 : q_T md d qP_X6_lastIn 7 [] ls st g M Q = q_T md d qP_X6_lastIn 16 [.iload 4, .aload 0, .getfield 600, .if_icmp .ge (88)] ls st g M Q := q_T_next rfl
theorem b_X6_lastIn_16 : q_T md d qP_X6_lastIn 16 [] ls st g M Q = q_T md d qP_X6_lastIn 31 [.aload 0, .getfield 604, .iconst (3), .iload 4, .imul, .iconst (2), .iadd, .iaload, .iload 1, .if_icmp .ne (82)] ls st g M Q := q_T_next rfl
theorem b_X6_lastIn_31 : q_T md d qP_X6_lastIn 31 [] ls st g M Q = q_T md d qP_X6_lastIn 45 [.aload 0, .iload 4, .iload 1, .invokestatic 142, .istore 5, .iload 2, .iconst (-1), .if_icmp .eq (51)] ls st g M Q := q_T_next rfl
theorem b_X6_lastIn_45 : q_T md d qP_X6_lastIn 45 [] ls st g M Q = q_T md d qP_X6_lastIn 51 [.iload 5, .iload 3, .if_icmp .gt (55)] ls st g M Q := q_T_next rfl
theorem b_X6_lastIn_51 : q_T md d qP_X6_lastIn 51 [] ls st g M Q = q_T md d qP_X6_lastIn 55 [.iconst (1), .goto (56)] ls st g M Q := q_T_next rfl
theorem b_X6_lastIn_55 : q_T md d qP_X6_lastIn 55 [] ls st g M Q = q_T md d qP_X6_lastIn 56 [.iconst (0)] ls st g M Q := q_T_next rfl
theorem b_X6_lastIn_56 : q_T md d qP_X6_lastIn 56 [] ls st g M Q = q_T md d qP_X6_lastIn 63 [.istore 6, .iload 6, .ifCond .eq (68)] ls st g M Q := q_T_next rfl
theorem b_X6_lastIn_63 : q_T md d qP_X6_lastIn 63 [] ls st g M Q = q_T md d qP_X6_lastIn 68 [.iload 4, .goto (69)] ls st g M Q := q_T_next rfl
theorem b_X6_lastIn_68 : q_T md d qP_X6_lastIn 68 [] ls st g M Q = q_T md d qP_X6_lastIn 69 [.iload 2] ls st g M Q := q_T_next rfl
theorem b_X6_lastIn_69 : q_T md d qP_X6_lastIn 69 [] ls st g M Q = q_T md d qP_X6_lastIn 75 [.istore 2, .iload 6, .ifCond .eq (80)] ls st g M Q := q_T_next rfl
theorem b_X6_lastIn_75 : q_T md d qP_X6_lastIn 75 [] ls st g M Q = q_T md d qP_X6_lastIn 80 [.iload 5, .goto (81)] ls st g M Q := q_T_next rfl
theorem b_X6_lastIn_80 : q_T md d qP_X6_lastIn 80 [] ls st g M Q = q_T md d qP_X6_lastIn 81 [.iload 3] ls st g M Q := q_T_next rfl
theorem b_X6_lastIn_81 : q_T md d qP_X6_lastIn 81 [] ls st g M Q = q_T md d qP_X6_lastIn 82 [.istore 3] ls st g M Q := q_T_next rfl
theorem b_X6_lastIn_82 : q_T md d qP_X6_lastIn 82 [] ls st g M Q = q_T md d qP_X6_lastIn 88 [.iinc 4 (1), .goto (7)] ls st g M Q := q_T_next rfl
theorem b_X6_lastIn_88 : q_T md d qP_X6_lastIn 88 [] ls st g M Q = q_T md d qP_X6_lastIn 90 [.iload 2, .ret 0] ls st g M Q := q_T_next rfl
theorem s_X6_isFullSite {w : Nat} {x0 : Int} : q_S md d 148 [qR 6 w, qI x0] g M Q = q_T md d qP_X6_isFullSite 0 [] [qR 6 w, qI x0] [] g M Q := rfl
theorem b_X6_isFullSite_0 : q_T md d qP_X6_isFullSite 0 [] ls st g M Q = q_T md d qP_X6_isFullSite 21 [.aload 0, .iload 1, .invokestatic 115, .invokestatic 116, .aload 0, .getfield 603, .iconst (4), .iload 1, .imul, .iconst (1), .iadd, .iaload, .if_icmp .lt (25)] ls st g M Q := q_T_next rfl
theorem b_X6_isFullSite_21 : q_T md d qP_X6_isFullSite 21 [] ls st g M Q = q_T md d qP_X6_isFullSite 25 [.iconst (1), .goto (26)] ls st g M Q := q_T_next rfl
theorem b_X6_isFullSite_25 : q_T md d qP_X6_isFullSite 25 [] ls st g M Q = q_T md d qP_X6_isFullSite 26 [.iconst (0)] ls st g M Q := q_T_next rfl
theorem b_X6_isFullSite_26 : q_T md d qP_X6_isFullSite 26 [] ls st g M Q = q_T md d qP_X6_isFullSite 27 [.ret 1] ls st g M Q := q_T_next rfl
theorem s_X6_doesTake {w : Nat} {x0 : Int} {x1 : Int} : q_S md d 149 [qR 6 w, qI x0, qI x1] g M Q = q_T md d qP_X6_doesTake 0 [] [qR 6 w, qI x0, qI x1, qS 0, qS 0, qS 0] [] g M Q := rfl
theorem b_X6_doesTake_0 : q_T md d qP_X6_doesTake 0 [] ls st g M Q = q_T md d qP_X6_doesTake 8 [.aload 0, .iload 1, .invokestatic 148, .ifCond .ne (10)] ls st g M Q := q_T_next rfl
theorem b_X6_doesTake_8 : q_T md d qP_X6_doesTake 8 [] ls st g M Q = q_T md d qP_X6_doesTake 10 [.iconst (1), .ret 1] ls st g M Q := q_T_next rfl
theorem b_X6_doesTake_10 : q_T md d qP_X6_doesTake 10 [] ls st g M Q = q_T md d qP_X6_doesTake 21 [.aload 0, .iload 1, .invokestatic 147, .istore 3, .iload 3, .iconst (-1), .if_icmp .ne (23)] ls st g M Q := q_T_next rfl
theorem b_X6_doesTake_21 : q_T md d qP_X6_doesTake 21 [] ls st g M Q = q_T md d qP_X6_doesTake 23 [.iconst (0), .ret 1] ls st g M Q := q_T_next rfl
theorem b_X6_doesTake_23 : q_T md d qP_X6_doesTake 23 [] ls st g M Q = q_T md d qP_X6_doesTake 46 [.aload 0, .iload 2, .iload 1, .invokestatic 142, .istore 4, .aload 0, .iload 3, .iload 1, .invokestatic 142, .istore 5, .iload 4, .iload 5, .if_icmp .gt (58)] ls st g M Q := q_T_next rfl
theorem b_X6_doesTake_46 : q_T md d qP_X6_doesTake 46 [] ls st g M Q = q_T md d qP_X6_doesTake 53 [.iload 4, .iload 5, .if_icmp .ne (62)] ls st g M Q := q_T_next rfl
theorem b_X6_doesTake_53 : q_T md d qP_X6_doesTake 53 [] ls st g M Q = q_T md d qP_X6_doesTake 58 [.iload 2, .iload 3, .if_icmp .ge (62)] ls st g M Q := q_T_next rfl
theorem b_X6_doesTake_58 : q_T md d qP_X6_doesTake 58 [] ls st g M Q = q_T md d qP_X6_doesTake 62 [.iconst (1), .goto (63)] ls st g M Q := q_T_next rfl
theorem b_X6_doesTake_62 : q_T md d qP_X6_doesTake 62 [] ls st g M Q = q_T md d qP_X6_doesTake 63 [.iconst (0)] ls st g M Q := q_T_next rfl
theorem b_X6_doesTake_63 : q_T md d qP_X6_doesTake 63 [] ls st g M Q = q_T md d qP_X6_doesTake 64 [.ret 1] ls st g M Q := q_T_next rfl
theorem s_X6_turnOf {w : Nat} {x0 : Int} : q_S md d 150 [qR 6 w, qI x0] g M Q = q_T md d qP_X6_turnOf 0 [] [qR 6 w, qI x0, qS 0, qS 0, qS 0, qS 0] [] g M Q := rfl
theorem b_X6_turnOf_0 : q_T md d qP_X6_turnOf 0 [] ls st g M Q = q_T md d qP_X6_turnOf 11 [.aload 0, .iload 1, .invokestatic 144, .istore 2, .iload 2, .iconst (-1), .if_icmp .ne (13)] ls st g M Q := q_T_next rfl
theorem b_X6_turnOf_11 : q_T md d qP_X6_turnOf 11 [] ls st g M Q = q_T md d qP_X6_turnOf 13 [.iconst (0), .ret 1] ls st g M Q := q_T_next rfl
theorem b_X6_turnOf_13 : q_T md d qP_X6_turnOf 13 [] ls st g M Q = q_T md d qP_X6_turnOf 53 [.aload 0, .iload 1, .invokestatic 143, .istore 3, .aload 0, .getfield 603, .iconst (4), .iload 2, .imul, .iaload, .aload 0, .getfield 604, .iconst (3), .iload 1, .imul, .iaload, .isub, .istore 4, .aload 0, .getfield 604, .iconst (3), .iload 1, .imul, .dup2, .iaload, .iload 4, .iload 3, .if_icmp .le (57)] ls st g M Q := q_T_next rfl
theorem b_X6_turnOf_53 : q_T md d qP_X6_turnOf 53 [] ls st g M Q = q_T md d qP_X6_turnOf 57 [.iload 3, .goto (71)] ls st g M Q := q_T_next rfl
theorem b_X6_turnOf_57 : q_T md d qP_X6_turnOf 57 [] ls st g M Q = q_T md d qP_X6_turnOf 64 [.iload 4, .iload 3, .ineg, .if_icmp .ge (69)] ls st g M Q := q_T_next rfl
theorem b_X6_turnOf_64 : q_T md d qP_X6_turnOf 64 [] ls st g M Q = q_T md d qP_X6_turnOf 69 [.iload 3, .ineg, .goto (71)] ls st g M Q := q_T_next rfl
theorem b_X6_turnOf_69 : q_T md d qP_X6_turnOf 69 [] ls st g M Q = q_T md d qP_X6_turnOf 71 [.iload 4] ls st g M Q := q_T_next rfl
theorem b_X6_turnOf_71 : q_T md d qP_X6_turnOf 71 [] ls st g M Q = q_T md d qP_X6_turnOf 92 [.iadd, .iastore, .aload 0, .getfield 604, .iconst (3), .iload 1, .imul, .iaload, .aload 0, .getfield 603, .iconst (4), .iload 2, .imul, .iaload, .if_icmp .ne (101)] ls st g M Q := q_T_next rfl
theorem b_X6_turnOf_92 : q_T md d qP_X6_turnOf 92 [] ls st g M Q = q_T md d qP_X6_turnOf 101 [.aload 0, .iload 2, .iload 1, .invokestatic 149, .ifCond .ne (103)] ls st g M Q := q_T_next rfl
theorem b_X6_turnOf_101 : q_T md d qP_X6_turnOf 101 [] ls st g M Q = q_T md d qP_X6_turnOf 103 [.iconst (0), .ret 1] ls st g M Q := q_T_next rfl
theorem b_X6_turnOf_103 : q_T md d qP_X6_turnOf 103 [] ls st g M Q = q_T md d qP_X6_turnOf 111 [.aload 0, .iload 2, .invokestatic 148, .ifCond .eq (135)] ls st g M Q := q_T_next rfl
theorem b_X6_turnOf_111 : q_T md d qP_X6_turnOf 111 [] ls st g M Q = q_T md d qP_X6_turnOf 135 [.aload 0, .iload 2, .invokestatic 147, .iconst (0), .iconst (4), .invokestatic 111, .istore 5, .aload 0, .getfield 604, .iconst (3), .iload 5, .imul, .iconst (2), .iadd, .iconst (-1), .iastore] ls st g M Q := q_T_next rfl
theorem b_X6_turnOf_135 : q_T md d qP_X6_turnOf 135 [] ls st g M Q = q_T md d qP_X6_turnOf 176 [.aload 0, .getfield 604, .iconst (3), .iload 1, .imul, .iconst (2), .iadd, .iload 2, .iastore, .aload 0, .getfield 603, .iconst (4), .iload 2, .imul, .iconst (3), .iadd, .aload 0, .getfield 603, .iconst (4), .iload 2, .imul, .iconst (3), .iadd, .iaload, .iconst (1), .iadd, .iconst (0), .iconst (99), .invokestatic 111, .iastore, .iconst (1), .ret 1] ls st g M Q := q_T_next rfl
theorem s_X6_yearOf {w : Nat} : q_S md d 151 [qR 6 w] g M Q = q_T md d qP_X6_yearOf 0 [] [qR 6 w, qS 0, qS 0] [] g M Q := rfl
theorem b_X6_yearOf_0 : q_T md d qP_X6_yearOf 0 [] ls st g M Q = q_T md d qP_X6_yearOf 4 [.iconst (0), .istore 1, .iconst (0), .istore 2] ls st g M Q := q_T_next rfl
theorem b_X6_yearOf_4 : q_T md d qP_X6_yearOf 4 [] ls st g M Q = q_T md d qP_X6_yearOf 12 [.iload 2, .aload 0, .getfield 600, .if_icmp .ge (50)] ls st g M Q := q_T_next rfl
theorem b_X6_yearOf_12 : q_T md d qP_X6_yearOf 12 [] ls st g M Q = q_T md d qP_X6_yearOf 26 [.aload 0, .getfield 604, .iconst (3), .iload 2, .imul, .iconst (2), .iadd, .iaload, .iconst (-1), .if_icmp .ne (44)] ls st g M Q := q_T_next rfl
theorem b_X6_yearOf_26 : q_T md d qP_X6_yearOf 26 [] ls st g M Q = q_T md d qP_X6_yearOf 35 [.iload 1, .aload 0, .iload 2, .invokestatic 150, .ifCond .eq (41)] ls st g M Q := q_T_next rfl
theorem b_X6_yearOf_35 : q_T md d qP_X6_yearOf 35 [] ls st g M Q = q_T md d qP_X6_yearOf 41 [.iconst (1), .iload 2, .ishl, .goto (42)] ls st g M Q := q_T_next rfl
theorem b_X6_yearOf_41 : q_T md d qP_X6_yearOf 41 [] ls st g M Q = q_T md d qP_X6_yearOf 42 [.iconst (0)] ls st g M Q := q_T_next rfl
theorem b_X6_yearOf_42 : q_T md d qP_X6_yearOf 42 [] ls st g M Q = q_T md d qP_X6_yearOf 44 [.ior, .istore 1] ls st g M Q := q_T_next rfl
theorem b_X6_yearOf_44 : q_T md d qP_X6_yearOf 44 [] ls st g M Q = q_T md d qP_X6_yearOf 50 [.iinc 2 (1), .goto (4)] ls st g M Q := q_T_next rfl
theorem b_X6_yearOf_50 : q_T md d qP_X6_yearOf 50 [] ls st g M Q = q_T md d qP_X6_yearOf 62 [.aload 0, .dup, .getfield 605, .iconst (1), .iadd, .putfield 605, .iload 1, .ret 0] ls st g M Q := q_T_next rfl
theorem s_X6_year {w : Nat} : q_S md d 152 [qR 6 w] g M Q = q_T md d qP_X6_year 0 [] [qR 6 w] [] g M Q := rfl
theorem b_X6_year_0 : q_T md d qP_X6_year 0 [] ls st g M Q = q_T md d qP_X6_year 10 [.aload 0, .getfield 605, .iconst (999), .if_icmp .ne (15)] ls st g M Q := q_T_next rfl
theorem b_X6_year_10 : q_T md d qP_X6_year 10 [] ls st g M Q = q_T md d qP_X6_year 15 [.iconst (-3), .goto (19)] ls st g M Q := q_T_next rfl
theorem b_X6_year_15 : q_T md d qP_X6_year 15 [] ls st g M Q = q_T md d qP_X6_year 19 [.aload 0, .invokestatic 151] ls st g M Q := q_T_next rfl
theorem b_X6_year_19 : q_T md d qP_X6_year 19 [] ls st g M Q = q_T md d qP_X6_year 20 [.ret 0] ls st g M Q := q_T_next rfl
theorem s_X6_digitsNow {w : Nat} : q_S md d 153 [qR 6 w] g M Q = q_T md d qP_X6_digitsNow 0 [] [qR 6 w, qS 0, qS 0] [] g M Q := rfl
theorem b_X6_digitsNow_0 : q_T md d qP_X6_digitsNow 0 [] ls st g M Q = q_T md d qP_X6_digitsNow 4 [.iconst (0), .istore 1, .iconst (0), .istore 2] ls st g M Q := q_T_next rfl
theorem b_X6_digitsNow_4 : q_T md d qP_X6_digitsNow 4 [] ls st g M Q = q_T md d qP_X6_digitsNow 12 [.iload 2, .aload 0, .getfield 600, .if_icmp .ge (36)] ls st g M Q := q_T_next rfl
theorem b_X6_digitsNow_12 : q_T md d qP_X6_digitsNow 12 [] ls st g M Q = q_T md d qP_X6_digitsNow 36 [.iconst (10), .iload 1, .imul, .aload 0, .getfield 604, .iconst (3), .iload 2, .imul, .iconst (2), .iadd, .iaload, .iadd, .iconst (1), .iadd, .istore 1, .iinc 2 (1), .goto (4)] ls st g M Q := q_T_next rfl
theorem b_X6_digitsNow_36 : q_T md d qP_X6_digitsNow 36 [] ls st g M Q = q_T md d qP_X6_digitsNow 38 [.iload 1, .ret 0] ls st g M Q := q_T_next rfl
theorem s_X6_keeps {w : Nat} : q_S md d 154 [qR 6 w] g M Q = q_T md d qP_X6_keeps 0 [] [qR 6 w, qS 0] [] g M Q := rfl
theorem b_X6_keeps_0 : q_T md d qP_X6_keeps 0 [] ls st g M Q = q_T md d qP_X6_keeps 2 [.iconst (0), .istore 1] ls st g M Q := q_T_next rfl
theorem b_X6_keeps_2 : q_T md d qP_X6_keeps 2 [] ls st g M Q = q_T md d qP_X6_keeps 8 [.iload 1, .iconst (15), .if_icmp .ge (26)] ls st g M Q := q_T_next rfl
theorem b_X6_keeps_8 : q_T md d qP_X6_keeps 8 [] ls st g M Q = q_T md d qP_X6_keeps 26 [.aload 0, .getfield 630, .iload 1, .aload 0, .getfield 604, .iload 1, .iaload, .iastore, .iinc 1 (1), .goto (2)] ls st g M Q := q_T_next rfl
theorem b_X6_keeps_26 : q_T md d qP_X6_keeps 26 [] ls st g M Q = q_T md d qP_X6_keeps 28 [.iconst (0), .istore 1] ls st g M Q := q_T_next rfl
theorem b_X6_keeps_28 : q_T md d qP_X6_keeps 28 [] ls st g M Q = q_T md d qP_X6_keeps 34 [.iload 1, .iconst (20), .if_icmp .ge (55)] ls st g M Q := q_T_next rfl
theorem b_X6_keeps_34 : q_T md d qP_X6_keeps 34 [] ls st g M Q = q_T md d qP_X6_keeps 55 [.aload 0, .getfield 630, .iconst (15), .iload 1, .iadd, .aload 0, .getfield 603, .iload 1, .iaload, .iastore, .iinc 1 (1), .goto (28)] ls st g M Q := q_T_next rfl
theorem b_X6_keeps_55 : q_T md d qP_X6_keeps 55 [] ls st g M Q = q_T md d qP_X6_keeps 67 [.aload 0, .getfield 630, .iconst (35), .aload 0, .getfield 605, .iastore, .return_] ls st g M Q := q_T_next rfl
theorem s_X6_lays {w : Nat} : q_S md d 155 [qR 6 w] g M Q = q_T md d qP_X6_lays 0 [] [qR 6 w, qS 0] [] g M Q := rfl
theorem b_X6_lays_0 : q_T md d qP_X6_lays 0 [] ls st g M Q = q_T md d qP_X6_lays 2 [.iconst (0), .istore 1] ls st g M Q := q_T_next rfl
theorem b_X6_lays_2 : q_T md d qP_X6_lays 2 [] ls st g M Q = q_T md d qP_X6_lays 8 [.iload 1, .iconst (15), .if_icmp .ge (26)] ls st g M Q := q_T_next rfl
theorem b_X6_lays_8 : q_T md d qP_X6_lays 8 [] ls st g M Q = q_T md d qP_X6_lays 26 [.aload 0, .getfield 604, .iload 1, .aload 0, .getfield 630, .iload 1, .iaload, .iastore, .iinc 1 (1), .goto (2)] ls st g M Q := q_T_next rfl
theorem b_X6_lays_26 : q_T md d qP_X6_lays 26 [] ls st g M Q = q_T md d qP_X6_lays 28 [.iconst (0), .istore 1] ls st g M Q := q_T_next rfl
theorem b_X6_lays_28 : q_T md d qP_X6_lays 28 [] ls st g M Q = q_T md d qP_X6_lays 34 [.iload 1, .iconst (20), .if_icmp .ge (55)] ls st g M Q := q_T_next rfl
theorem b_X6_lays_34 : q_T md d qP_X6_lays 34 [] ls st g M Q = q_T md d qP_X6_lays 55 [.aload 0, .getfield 603, .iload 1, .aload 0, .getfield 630, .iconst (15), .iload 1, .iadd, .iaload, .iastore, .iinc 1 (1), .goto (28)] ls st g M Q := q_T_next rfl
theorem b_X6_lays_55 : q_T md d qP_X6_lays 55 [] ls st g M Q = q_T md d qP_X6_lays 67 [.aload 0, .aload 0, .getfield 630, .iconst (35), .iaload, .putfield 605, .return_] ls st g M Q := q_T_next rfl
theorem s_X6_run {w : Nat} {x0 : Int} {x1 : Int} : q_S md d 156 [qR 6 w, qI x0, qI x1] g M Q = q_T md d qP_X6_run 0 [] [qR 6 w, qI x0, qI x1, qS 0] [] g M Q := rfl
theorem b_X6_run_0 : q_T md d qP_X6_run 0 [] ls st g M Q = q_T md d qP_X6_run 10 [.iload 1, .iconst (0), .iconst (40), .invokestatic 110, .ifCond .eq (35)] ls st g M Q := q_T_next rfl
theorem b_X6_run_10 : q_T md d qP_X6_run 10 [] ls st g M Q = q_T md d qP_X6_run 19 [.iload 2, .iconst (0), .iconst (1), .invokestatic 110, .ifCond .ne (38)] ls st g M Q := q_T_next rfl
theorem b_X6_run_19 : q_T md d qP_X6_run 19 [] ls st g M Q = q_T md d qP_X6_run 35 [.iload 2, .iconst (10), .iconst (9), .aload 0, .getfield 600, .iadd, .invokestatic 110, .ifCond .ne (38)] ls st g M Q := q_T_next rfl
theorem b_X6_run_35 : q_T md d qP_X6_run 35 [] ls st g M Q = q_T md d qP_X6_run 38 [.iconst (-2), .ret 0] ls st g M Q := q_T_next rfl
theorem b_X6_run_38 : q_T md d qP_X6_run 38 [] ls st g M Q = q_T md d qP_X6_run 44 [.aload 0, .invokestatic 154, .iconst (0), .istore 3] ls st g M Q := q_T_next rfl
theorem b_X6_run_44 : q_T md d qP_X6_run 44 [] ls st g M Q = q_T md d qP_X6_run 49 [.iload 3, .iload 1, .if_icmp .ge (60)] ls st g M Q := q_T_next rfl
theorem b_X6_run_49 : q_T md d qP_X6_run 49 [] ls st g M Q = q_T md d qP_X6_run 60 [.aload 0, .invokestatic 151, .pop, .iinc 3 (1), .goto (44)] ls st g M Q := q_T_next rfl
theorem b_X6_run_60 : q_T md d qP_X6_run 60 [] ls st g M Q = q_T md d qP_X6_run 67 [.iconst (0), .istore 3, .iload 2, .iconst (2), .if_icmp .ge (86)] ls st g M Q := q_T_next rfl
theorem b_X6_run_67 : q_T md d qP_X6_run 67 [] ls st g M Q = q_T md d qP_X6_run 71 [.iload 2, .ifCond .ne (78)] ls st g M Q := q_T_next rfl
theorem b_X6_run_71 : q_T md d qP_X6_run 71 [] ls st g M Q = q_T md d qP_X6_run 78 [.aload 0, .invokestatic 153, .goto (82)] ls st g M Q := q_T_next rfl
theorem b_X6_run_78 : q_T md d qP_X6_run 78 [] ls st g M Q = q_T md d qP_X6_run 82 [.aload 0, .invokestatic 114] ls st g M Q := q_T_next rfl
theorem b_X6_run_82 : q_T md d qP_X6_run 82 [] ls st g M Q = q_T md d qP_X6_run 86 [.istore 3, .goto (98)] ls st g M Q := q_T_next rfl
theorem b_X6_run_86 : q_T md d qP_X6_run 86 [] ls st g M Q = q_T md d qP_X6_run 98 [.aload 0, .getfield 604, .iconst (3), .iload 2, .iconst (10), .isub, .imul, .iaload, .istore 3] ls st g M Q := q_T_next rfl
theorem b_X6_run_98 : q_T md d qP_X6_run 98 [] ls st g M Q = q_T md d qP_X6_run 104 [.aload 0, .invokestatic 155, .iload 3, .ret 0] ls st g M Q := q_T_next rfl
theorem s_X6_whenIn {w : Nat} {x0 : Int} {x1 : Int} : q_S md d 157 [qR 6 w, qI x0, qI x1] g M Q = q_T md d qP_X6_whenIn 0 [] [qR 6 w, qI x0, qI x1, qS 0, qS 0, qS 0] [] g M Q := rfl
theorem b_X6_whenIn_0 : q_T md d qP_X6_whenIn 0 [] ls st g M Q = q_T md d qP_X6_whenIn 5 [.iconst (-1), .istore 3, .iconst (0), .istore 4] ls st g M Q := q_T_next rfl
theorem b_X6_whenIn_5 : q_T md d qP_X6_whenIn 5 [] ls st g M Q = q_T md d qP_X6_whenIn 12 [.iload 4, .iconst (60), .if_icmp .gt (88)] ls st g M Q := q_T_next rfl
theorem b_X6_whenIn_12 : q_T md d qP_X6_whenIn 12 [] ls st g M Q = q_T md d qP_X6_whenIn 17 [.iload 3, .iconst (-1), .if_icmp .ne (88)] ls st g M Q := q_T_next rfl
theorem b_X6_whenIn_17 : q_T md d qP_X6_whenIn 17 [] ls st g M Q = q_T md d qP_X6_whenIn 22 [.iload 2, .iconst (-1), .if_icmp .ne (44)] ls st g M Q := q_T_next rfl
theorem b_X6_whenIn_22 : q_T md d qP_X6_whenIn 22 [] ls st g M Q = q_T md d qP_X6_whenIn 36 [.aload 0, .getfield 604, .iconst (3), .iload 1, .imul, .iconst (2), .iadd, .iaload, .iconst (-1), .if_icmp .eq (40)] ls st g M Q := q_T_next rfl
theorem b_X6_whenIn_36 : q_T md d qP_X6_whenIn 36 [] ls st g M Q = q_T md d qP_X6_whenIn 40 [.iconst (1), .goto (63)] ls st g M Q := q_T_next rfl
theorem b_X6_whenIn_40 : q_T md d qP_X6_whenIn 40 [] ls st g M Q = q_T md d qP_X6_whenIn 44 [.iconst (0), .goto (63)] ls st g M Q := q_T_next rfl
theorem b_X6_whenIn_44 : q_T md d qP_X6_whenIn 44 [] ls st g M Q = q_T md d qP_X6_whenIn 58 [.aload 0, .getfield 604, .iconst (3), .iload 1, .imul, .iconst (2), .iadd, .iaload, .iload 2, .if_icmp .ne (62)] ls st g M Q := q_T_next rfl
theorem b_X6_whenIn_58 : q_T md d qP_X6_whenIn 58 [] ls st g M Q = q_T md d qP_X6_whenIn 62 [.iconst (1), .goto (63)] ls st g M Q := q_T_next rfl
theorem b_X6_whenIn_62 : q_T md d qP_X6_whenIn 62 [] ls st g M Q = q_T md d qP_X6_whenIn 63 [.iconst (0)] ls st g M Q := q_T_next rfl
theorem b_X6_whenIn_63 : q_T md d qP_X6_whenIn 63 [] ls st g M Q = q_T md d qP_X6_whenIn 70 [.istore 5, .iload 5, .ifCond .eq (75)] ls st g M Q := q_T_next rfl
theorem b_X6_whenIn_70 : q_T md d qP_X6_whenIn 70 [] ls st g M Q = q_T md d qP_X6_whenIn 75 [.iload 4, .goto (76)] ls st g M Q := q_T_next rfl
theorem b_X6_whenIn_75 : q_T md d qP_X6_whenIn 75 [] ls st g M Q = q_T md d qP_X6_whenIn 76 [.iconst (-1)] ls st g M Q := q_T_next rfl
theorem b_X6_whenIn_76 : q_T md d qP_X6_whenIn 76 [] ls st g M Q = q_T md d qP_X6_whenIn 88 [.istore 3, .aload 0, .invokestatic 151, .pop, .iinc 4 (1), .goto (5)] ls st g M Q := q_T_next rfl
theorem b_X6_whenIn_88 : q_T md d qP_X6_whenIn 88 [] ls st g M Q = q_T md d qP_X6_whenIn 90 [.iload 3, .ret 0] ls st g M Q := q_T_next rfl
theorem s_X6_when {w : Nat} {x0 : Int} {x1 : Int} : q_S md d 158 [qR 6 w, qI x0, qI x1] g M Q = q_T md d qP_X6_when 0 [] [qR 6 w, qI x0, qI x1, qS 0] [] g M Q := rfl
theorem b_X6_when_0 : q_T md d qP_X6_when 0 [] ls st g M Q = q_T md d qP_X6_when 8 [.aload 0, .iload 1, .invokestatic 112, .ifCond .ne (11)] ls st g M Q := q_T_next rfl
theorem b_X6_when_8 : q_T md d qP_X6_when 8 [] ls st g M Q = q_T md d qP_X6_when 11 [.iconst (-5), .ret 0] ls st g M Q := q_T_next rfl
theorem b_X6_when_11 : q_T md d qP_X6_when 11 [] ls st g M Q = q_T md d qP_X6_when 20 [.iload 2, .iconst (-1), .iconst (4), .invokestatic 110, .ifCond .ne (23)] ls st g M Q := q_T_next rfl
theorem b_X6_when_20 : q_T md d qP_X6_when 20 [] ls st g M Q = q_T md d qP_X6_when 23 [.iconst (-7), .ret 0] ls st g M Q := q_T_next rfl
theorem b_X6_when_23 : q_T md d qP_X6_when 23 [] ls st g M Q = q_T md d qP_X6_when 40 [.aload 0, .invokestatic 154, .aload 0, .iload 1, .iload 2, .invokestatic 157, .istore 3, .aload 0, .invokestatic 155, .iload 3, .ret 0] ls st g M Q := q_T_next rfl
theorem s_X6_tellsAll {w : Nat} : q_S md d 159 [qR 6 w] g M Q = q_T md d qP_X6_tellsAll 0 [] [qR 6 w, qS 0, qS 0] [] g M Q := rfl
theorem b_X6_tellsAll_0 : q_T md d qP_X6_tellsAll 0 [] ls st g M Q = q_T md d qP_X6_tellsAll 2 [.iconst (0), .istore 1] ls st g M Q := q_T_next rfl
theorem b_X6_tellsAll_2 : q_T md d qP_X6_tellsAll 2 [] ls st g M Q = q_T md d qP_X6_tellsAll 10 [.iload 1, .aload 0, .getfield 600, .if_icmp .ge (77)] ls st g M Q := q_T_next rfl
theorem b_X6_tellsAll_10 : q_T md d qP_X6_tellsAll 10 [] ls st g M Q = q_T md d qP_X6_tellsAll 12 [.iconst (0), .istore 2] ls st g M Q := q_T_next rfl
theorem b_X6_tellsAll_12 : q_T md d qP_X6_tellsAll 12 [] ls st g M Q = q_T md d qP_X6_tellsAll 17 [.iload 2, .iconst (5), .if_icmp .ge (55)] ls st g M Q := q_T_next rfl
theorem b_X6_tellsAll_17 : q_T md d qP_X6_tellsAll 17 [] ls st g M Q = q_T md d qP_X6_tellsAll 55 [.aload 0, .getfield 631, .iconst (5), .iload 1, .imul, .iload 2, .iadd, .aload 0, .iload 1, .iload 2, .invokestatic 141, .iastore, .aload 0, .getfield 632, .iconst (5), .iload 1, .imul, .iload 2, .iadd, .aload 0, .iload 1, .iload 2, .invokestatic 142, .iastore, .iinc 2 (1), .goto (12)] ls st g M Q := q_T_next rfl
theorem b_X6_tellsAll_55 : q_T md d qP_X6_tellsAll 55 [] ls st g M Q = q_T md d qP_X6_tellsAll 77 [.aload 0, .getfield 633, .iload 1, .aload 0, .getfield 604, .iconst (3), .iload 1, .imul, .iconst (2), .iadd, .iaload, .iastore, .iinc 1 (1), .goto (2)] ls st g M Q := q_T_next rfl
theorem b_X6_tellsAll_77 : q_T md d qP_X6_tellsAll 77 [] ls st g M Q = q_T md d qP_X6_tellsAll 78 [.return_] ls st g M Q := q_T_next rfl
theorem s_X6_sitting {w : Nat} {x0 : Int} : q_S md d 160 [qR 6 w, qI x0] g M Q = q_T md d qP_X6_sitting 0 [] [qR 6 w, qI x0, qS 0, qS 0] [] g M Q := rfl
theorem b_X6_sitting_0 : q_T md d qP_X6_sitting 0 [] ls st g M Q = q_T md d qP_X6_sitting 4 [.iconst (0), .istore 2, .iconst (0), .istore 3] ls st g M Q := q_T_next rfl
theorem b_X6_sitting_4 : q_T md d qP_X6_sitting 4 [] ls st g M Q = q_T md d qP_X6_sitting 12 [.iload 3, .aload 0, .getfield 600, .if_icmp .ge (36)] ls st g M Q := q_T_next rfl
theorem b_X6_sitting_12 : q_T md d qP_X6_sitting 12 [] ls st g M Q = q_T md d qP_X6_sitting 23 [.iload 2, .aload 0, .getfield 633, .iload 3, .iaload, .iload 1, .if_icmp .ne (27)] ls st g M Q := q_T_next rfl
theorem b_X6_sitting_23 : q_T md d qP_X6_sitting 23 [] ls st g M Q = q_T md d qP_X6_sitting 27 [.iconst (1), .goto (28)] ls st g M Q := q_T_next rfl
theorem b_X6_sitting_27 : q_T md d qP_X6_sitting 27 [] ls st g M Q = q_T md d qP_X6_sitting 28 [.iconst (0)] ls st g M Q := q_T_next rfl
theorem b_X6_sitting_28 : q_T md d qP_X6_sitting 28 [] ls st g M Q = q_T md d qP_X6_sitting 36 [.iadd, .istore 2, .iinc 3 (1), .goto (4)] ls st g M Q := q_T_next rfl
theorem b_X6_sitting_36 : q_T md d qP_X6_sitting 36 [] ls st g M Q = q_T md d qP_X6_sitting 38 [.iload 2, .ret 0] ls st g M Q := q_T_next rfl
theorem s_X6_lastSitting {w : Nat} {x0 : Int} : q_S md d 161 [qR 6 w, qI x0] g M Q = q_T md d qP_X6_lastSitting 0 [] [qR 6 w, qI x0, qS 0, qS 0, qS 0] [] g M Q := rfl
theorem b_X6_lastSitting_0 : q_T md d qP_X6_lastSitting 0 [] ls st g M Q = q_T md d qP_X6_lastSitting 4 [.iconst (-1), .istore 2, .iconst (0), .istore 3] ls st g M Q := q_T_next rfl
theorem b_X6_lastSitting_4 : q_T md d qP_X6_lastSitting 4 [] ls st g M Q = q_T md d qP_X6_lastSitting 12 [.iload 3, .aload 0, .getfield 600, .if_icmp .ge (86)] ls st g M Q := q_T_next rfl
theorem b_X6_lastSitting_12 : q_T md d qP_X6_lastSitting 12 [] ls st g M Q = q_T md d qP_X6_lastSitting 22 [.aload 0, .getfield 633, .iload 3, .iaload, .iload 1, .if_icmp .ne (80)] ls st g M Q := q_T_next rfl
theorem b_X6_lastSitting_22 : q_T md d qP_X6_lastSitting 22 [] ls st g M Q = q_T md d qP_X6_lastSitting 27 [.iload 2, .iconst (-1), .if_icmp .ne (31)] ls st g M Q := q_T_next rfl
theorem b_X6_lastSitting_27 : q_T md d qP_X6_lastSitting 27 [] ls st g M Q = q_T md d qP_X6_lastSitting 31 [.iconst (1), .goto (32)] ls st g M Q := q_T_next rfl
theorem b_X6_lastSitting_31 : q_T md d qP_X6_lastSitting 31 [] ls st g M Q = q_T md d qP_X6_lastSitting 32 [.iconst (0)] ls st g M Q := q_T_next rfl
theorem b_X6_lastSitting_32 : q_T md d qP_X6_lastSitting 32 [] ls st g M Q = q_T md d qP_X6_lastSitting 39 [.istore 4, .iload 4, .ifCond .ne (69)] ls st g M Q := q_T_next rfl
theorem b_X6_lastSitting_39 : q_T md d qP_X6_lastSitting 39 [] ls st g M Q = q_T md d qP_X6_lastSitting 62 [.aload 0, .getfield 632, .iconst (5), .iload 3, .imul, .iload 1, .iadd, .iaload, .aload 0, .getfield 632, .iconst (5), .iload 2, .imul, .iload 1, .iadd, .iaload, .if_icmp .gt (66)] ls st g M Q := q_T_next rfl
theorem b_X6_lastSitting_62 : q_T md d qP_X6_lastSitting 62 [] ls st g M Q = q_T md d qP_X6_lastSitting 66 [.iconst (1), .goto (67)] ls st g M Q := q_T_next rfl
theorem b_X6_lastSitting_66 : q_T md d qP_X6_lastSitting 66 [] ls st g M Q = q_T md d qP_X6_lastSitting 67 [.iconst (0)] ls st g M Q := q_T_next rfl
theorem b_X6_lastSitting_67 : q_T md d qP_X6_lastSitting 67 [] ls st g M Q = q_T md d qP_X6_lastSitting 69 [.istore 4] ls st g M Q := q_T_next rfl
theorem b_X6_lastSitting_69 : q_T md d qP_X6_lastSitting 69 [] ls st g M Q = q_T md d qP_X6_lastSitting 74 [.iload 4, .ifCond .eq (78)] ls st g M Q := q_T_next rfl
theorem b_X6_lastSitting_74 : q_T md d qP_X6_lastSitting 74 [] ls st g M Q = q_T md d qP_X6_lastSitting 78 [.iload 3, .goto (79)] ls st g M Q := q_T_next rfl
theorem b_X6_lastSitting_78 : q_T md d qP_X6_lastSitting 78 [] ls st g M Q = q_T md d qP_X6_lastSitting 79 [.iload 2] ls st g M Q := q_T_next rfl
theorem b_X6_lastSitting_79 : q_T md d qP_X6_lastSitting 79 [] ls st g M Q = q_T md d qP_X6_lastSitting 80 [.istore 2] ls st g M Q := q_T_next rfl
theorem b_X6_lastSitting_80 : q_T md d qP_X6_lastSitting 80 [] ls st g M Q = q_T md d qP_X6_lastSitting 86 [.iinc 3 (1), .goto (4)] ls st g M Q := q_T_next rfl
theorem b_X6_lastSitting_86 : q_T md d qP_X6_lastSitting 86 [] ls st g M Q = q_T md d qP_X6_lastSitting 88 [.iload 2, .ret 0] ls st g M Q := q_T_next rfl
theorem s_X6_wouldTake {w : Nat} {x0 : Int} {x1 : Int} : q_S md d 162 [qR 6 w, qI x0, qI x1] g M Q = q_T md d qP_X6_wouldTake 0 [] [qR 6 w, qI x0, qI x1, qS 0, qS 0, qS 0] [] g M Q := rfl
theorem b_X6_wouldTake_0 : q_T md d qP_X6_wouldTake 0 [] ls st g M Q = q_T md d qP_X6_wouldTake 18 [.aload 0, .iload 1, .invokestatic 160, .aload 0, .getfield 603, .iconst (4), .iload 1, .imul, .iconst (1), .iadd, .iaload, .if_icmp .ge (20)] ls st g M Q := q_T_next rfl
theorem b_X6_wouldTake_18 : q_T md d qP_X6_wouldTake 18 [] ls st g M Q = q_T md d qP_X6_wouldTake 20 [.iconst (1), .ret 1] ls st g M Q := q_T_next rfl
theorem b_X6_wouldTake_20 : q_T md d qP_X6_wouldTake 20 [] ls st g M Q = q_T md d qP_X6_wouldTake 31 [.aload 0, .iload 1, .invokestatic 161, .istore 3, .iload 3, .iconst (-1), .if_icmp .ne (33)] ls st g M Q := q_T_next rfl
theorem b_X6_wouldTake_31 : q_T md d qP_X6_wouldTake 31 [] ls st g M Q = q_T md d qP_X6_wouldTake 33 [.iconst (0), .ret 1] ls st g M Q := q_T_next rfl
theorem b_X6_wouldTake_33 : q_T md d qP_X6_wouldTake 33 [] ls st g M Q = q_T md d qP_X6_wouldTake 64 [.aload 0, .getfield 632, .iconst (5), .iload 2, .imul, .iload 1, .iadd, .iaload, .istore 4, .aload 0, .getfield 632, .iconst (5), .iload 3, .imul, .iload 1, .iadd, .iaload, .istore 5, .iload 4, .iload 5, .if_icmp .gt (76)] ls st g M Q := q_T_next rfl
theorem b_X6_wouldTake_64 : q_T md d qP_X6_wouldTake 64 [] ls st g M Q = q_T md d qP_X6_wouldTake 71 [.iload 4, .iload 5, .if_icmp .ne (80)] ls st g M Q := q_T_next rfl
theorem b_X6_wouldTake_71 : q_T md d qP_X6_wouldTake 71 [] ls st g M Q = q_T md d qP_X6_wouldTake 76 [.iload 2, .iload 3, .if_icmp .ge (80)] ls st g M Q := q_T_next rfl
theorem b_X6_wouldTake_76 : q_T md d qP_X6_wouldTake 76 [] ls st g M Q = q_T md d qP_X6_wouldTake 80 [.iconst (1), .goto (81)] ls st g M Q := q_T_next rfl
theorem b_X6_wouldTake_80 : q_T md d qP_X6_wouldTake 80 [] ls st g M Q = q_T md d qP_X6_wouldTake 81 [.iconst (0)] ls st g M Q := q_T_next rfl
theorem b_X6_wouldTake_81 : q_T md d qP_X6_wouldTake 81 [] ls st g M Q = q_T md d qP_X6_wouldTake 82 [.ret 1] ls st g M Q := q_T_next rfl
theorem s_X6_wouldRather {w : Nat} {x0 : Int} {x1 : Int} : q_S md d 163 [qR 6 w, qI x0, qI x1] g M Q = q_T md d qP_X6_wouldRather 0 [] [qR 6 w, qI x0, qI x1, qS 0, qS 0, qS 0] [] g M Q := rfl
theorem b_X6_wouldRather_0 : q_T md d qP_X6_wouldRather 0 [] ls st g M Q = q_T md d qP_X6_wouldRather 23 [.aload 0, .getfield 631, .iconst (5), .iload 1, .imul, .iload 2, .iadd, .iaload, .istore 3, .aload 0, .getfield 633, .iload 1, .iaload, .istore 4, .iload 3, .ifCond .le (29)] ls st g M Q := q_T_next rfl
theorem b_X6_wouldRather_23 : q_T md d qP_X6_wouldRather 23 [] ls st g M Q = q_T md d qP_X6_wouldRather 29 [.iload 4, .iload 2, .if_icmp .ne (31)] ls st g M Q := q_T_next rfl
theorem b_X6_wouldRather_29 : q_T md d qP_X6_wouldRather 29 [] ls st g M Q = q_T md d qP_X6_wouldRather 31 [.iconst (0), .ret 1] ls st g M Q := q_T_next rfl
theorem b_X6_wouldRather_31 : q_T md d qP_X6_wouldRather 31 [] ls st g M Q = q_T md d qP_X6_wouldRather 37 [.iload 4, .iconst (-1), .if_icmp .ne (39)] ls st g M Q := q_T_next rfl
theorem b_X6_wouldRather_37 : q_T md d qP_X6_wouldRather 37 [] ls st g M Q = q_T md d qP_X6_wouldRather 39 [.iconst (1), .ret 1] ls st g M Q := q_T_next rfl
theorem b_X6_wouldRather_39 : q_T md d qP_X6_wouldRather 39 [] ls st g M Q = q_T md d qP_X6_wouldRather 58 [.aload 0, .getfield 631, .iconst (5), .iload 1, .imul, .iload 4, .iadd, .iaload, .istore 5, .iload 3, .iload 5, .if_icmp .gt (70)] ls st g M Q := q_T_next rfl
theorem b_X6_wouldRather_58 : q_T md d qP_X6_wouldRather 58 [] ls st g M Q = q_T md d qP_X6_wouldRather 64 [.iload 3, .iload 5, .if_icmp .ne (74)] ls st g M Q := q_T_next rfl
theorem b_X6_wouldRather_64 : q_T md d qP_X6_wouldRather 64 [] ls st g M Q = q_T md d qP_X6_wouldRather 70 [.iload 2, .iload 4, .if_icmp .ge (74)] ls st g M Q := q_T_next rfl
theorem b_X6_wouldRather_70 : q_T md d qP_X6_wouldRather 70 [] ls st g M Q = q_T md d qP_X6_wouldRather 74 [.iconst (1), .goto (75)] ls st g M Q := q_T_next rfl
theorem b_X6_wouldRather_74 : q_T md d qP_X6_wouldRather 74 [] ls st g M Q = q_T md d qP_X6_wouldRather 75 [.iconst (0)] ls st g M Q := q_T_next rfl
theorem b_X6_wouldRather_75 : q_T md d qP_X6_wouldRather 75 [] ls st g M Q = q_T md d qP_X6_wouldRather 76 [.ret 1] ls st g M Q := q_T_next rfl
theorem s_X6_against {w : Nat} : q_S md d 164 [qR 6 w] g M Q = q_T md d qP_X6_against 0 [] [qR 6 w, qS 0, qS 0] [] g M Q := rfl
theorem b_X6_against_0 : q_T md d qP_X6_against 0 [] ls st g M Q = q_T md d qP_X6_against 2 [.iconst (0), .istore 1] ls st g M Q := q_T_next rfl
theorem b_X6_against_2 : q_T md d qP_X6_against 2 [] ls st g M Q = q_T md d qP_X6_against 10 [.iload 1, .aload 0, .getfield 600, .if_icmp .ge (90)] ls st g M Q := q_T_next rfl
theorem b_X6_against_10 : q_T md d qP_X6_against 10 [] ls st g M Q = q_T md d qP_X6_against 20 [.aload 0, .getfield 633, .iload 1, .iaload, .iconst (-1), .if_icmp .eq (46)] ls st g M Q := q_T_next rfl
theorem b_X6_against_20 : q_T md d qP_X6_against 20 [] ls st g M Q = q_T md d qP_X6_against 38 [.aload 0, .getfield 631, .iconst (5), .iload 1, .imul, .aload 0, .getfield 633, .iload 1, .iaload, .iadd, .iaload, .ifCond .gt (46)] ls st g M Q := q_T_next rfl
theorem b_X6_against_38 : q_T md d qP_X6_against 38 [] ls st g M Q = q_T md d qP_X6_against 46 [.iconst (10), .iload 1, .imul, .iconst (9), .iadd, .ret 0] ls st g M Q := q_T_next rfl
theorem b_X6_against_46 : q_T md d qP_X6_against 46 [] ls st g M Q = q_T md d qP_X6_against 48 [.iconst (0), .istore 2] ls st g M Q := q_T_next rfl
theorem b_X6_against_48 : q_T md d qP_X6_against 48 [] ls st g M Q = q_T md d qP_X6_against 53 [.iload 2, .iconst (5), .if_icmp .ge (84)] ls st g M Q := q_T_next rfl
theorem b_X6_against_53 : q_T md d qP_X6_against 53 [] ls st g M Q = q_T md d qP_X6_against 62 [.aload 0, .iload 1, .iload 2, .invokestatic 163, .ifCond .eq (78)] ls st g M Q := q_T_next rfl
theorem b_X6_against_62 : q_T md d qP_X6_against 62 [] ls st g M Q = q_T md d qP_X6_against 71 [.aload 0, .iload 2, .iload 1, .invokestatic 162, .ifCond .eq (78)] ls st g M Q := q_T_next rfl
theorem b_X6_against_71 : q_T md d qP_X6_against 71 [] ls st g M Q = q_T md d qP_X6_against 78 [.iconst (10), .iload 1, .imul, .iload 2, .iadd, .ret 0] ls st g M Q := q_T_next rfl
theorem b_X6_against_78 : q_T md d qP_X6_against 78 [] ls st g M Q = q_T md d qP_X6_against 84 [.iinc 2 (1), .goto (48)] ls st g M Q := q_T_next rfl
theorem b_X6_against_84 : q_T md d qP_X6_against 84 [] ls st g M Q = q_T md d qP_X6_against 90 [.iinc 1 (1), .goto (2)] ls st g M Q := q_T_next rfl
theorem b_X6_against_90 : q_T md d qP_X6_against 90 [] ls st g M Q = q_T md d qP_X6_against 92 [.iconst (-1), .ret 0] ls st g M Q := q_T_next rfl
theorem s_X6_sumOf {w : Nat} {x0 : Int} : q_S md d 165 [qR 6 w, qI x0] g M Q = q_T md d qP_X6_sumOf 0 [] [qR 6 w, qI x0, qS 0, qS 0] [] g M Q := rfl
theorem b_X6_sumOf_0 : q_T md d qP_X6_sumOf 0 [] ls st g M Q = q_T md d qP_X6_sumOf 4 [.iconst (0), .istore 2, .iconst (0), .istore 3] ls st g M Q := q_T_next rfl
theorem b_X6_sumOf_4 : q_T md d qP_X6_sumOf 4 [] ls st g M Q = q_T md d qP_X6_sumOf 12 [.iload 3, .aload 0, .getfield 600, .if_icmp .ge (69)] ls st g M Q := q_T_next rfl
theorem b_X6_sumOf_12 : q_T md d qP_X6_sumOf 12 [] ls st g M Q = q_T md d qP_X6_sumOf 22 [.aload 0, .getfield 633, .iload 3, .iaload, .iconst (-1), .if_icmp .eq (63)] ls st g M Q := q_T_next rfl
theorem b_X6_sumOf_22 : q_T md d qP_X6_sumOf 22 [] ls st g M Q = q_T md d qP_X6_sumOf 28 [.iload 2, .iload 1, .iconst (1), .if_icmp .ne (46)] ls st g M Q := q_T_next rfl
theorem b_X6_sumOf_28 : q_T md d qP_X6_sumOf 28 [] ls st g M Q = q_T md d qP_X6_sumOf 46 [.aload 0, .getfield 631, .iconst (5), .iload 3, .imul, .aload 0, .getfield 633, .iload 3, .iaload, .iadd, .iaload, .goto (61)] ls st g M Q := q_T_next rfl
theorem b_X6_sumOf_46 : q_T md d qP_X6_sumOf 46 [] ls st g M Q = q_T md d qP_X6_sumOf 61 [.aload 0, .getfield 632, .iconst (5), .iload 3, .imul, .aload 0, .getfield 633, .iload 3, .iaload, .iadd, .iaload] ls st g M Q := q_T_next rfl
theorem b_X6_sumOf_61 : q_T md d qP_X6_sumOf 61 [] ls st g M Q = q_T md d qP_X6_sumOf 63 [.iadd, .istore 2] ls st g M Q := q_T_next rfl
theorem b_X6_sumOf_63 : q_T md d qP_X6_sumOf 63 [] ls st g M Q = q_T md d qP_X6_sumOf 69 [.iinc 3 (1), .goto (4)] ls st g M Q := q_T_next rfl
theorem b_X6_sumOf_69 : q_T md d qP_X6_sumOf 69 [] ls st g M Q = q_T md d qP_X6_sumOf 71 [.iload 2, .ret 0] ls st g M Q := q_T_next rfl
theorem s_X6_sittingDigits {w : Nat} : q_S md d 166 [qR 6 w] g M Q = q_T md d qP_X6_sittingDigits 0 [] [qR 6 w, qS 0, qS 0] [] g M Q := rfl
theorem b_X6_sittingDigits_0 : q_T md d qP_X6_sittingDigits 0 [] ls st g M Q = q_T md d qP_X6_sittingDigits 4 [.iconst (0), .istore 1, .iconst (0), .istore 2] ls st g M Q := q_T_next rfl
theorem b_X6_sittingDigits_4 : q_T md d qP_X6_sittingDigits 4 [] ls st g M Q = q_T md d qP_X6_sittingDigits 12 [.iload 2, .aload 0, .getfield 600, .if_icmp .ge (32)] ls st g M Q := q_T_next rfl
theorem b_X6_sittingDigits_12 : q_T md d qP_X6_sittingDigits 12 [] ls st g M Q = q_T md d qP_X6_sittingDigits 32 [.iconst (10), .iload 1, .imul, .aload 0, .getfield 633, .iload 2, .iaload, .iadd, .iconst (1), .iadd, .istore 1, .iinc 2 (1), .goto (4)] ls st g M Q := q_T_next rfl
theorem b_X6_sittingDigits_32 : q_T md d qP_X6_sittingDigits 32 [] ls st g M Q = q_T md d qP_X6_sittingDigits 34 [.iload 1, .ret 0] ls st g M Q := q_T_next rfl
theorem s_X6_peace {w : Nat} {x0 : Int} : q_S md d 167 [qR 6 w, qI x0] g M Q = q_T md d qP_X6_peace 0 [] [qR 6 w, qI x0] [] g M Q := rfl
theorem b_X6_peace_0 : q_T md d qP_X6_peace 0 [] ls st g M Q = q_T md d qP_X6_peace 9 [.iload 1, .iconst (0), .iconst (2), .invokestatic 110, .ifCond .ne (12)] ls st g M Q := q_T_next rfl
theorem b_X6_peace_9 : q_T md d qP_X6_peace 9 [] ls st g M Q = q_T md d qP_X6_peace 12 [.iconst (-100000), .ret 0] ls st g M Q := q_T_next rfl
theorem b_X6_peace_12 : q_T md d qP_X6_peace 12 [] ls st g M Q = q_T md d qP_X6_peace 20 [.aload 0, .invokestatic 159, .iload 1, .ifCond .ne (27)] ls st g M Q := q_T_next rfl
theorem b_X6_peace_20 : q_T md d qP_X6_peace 20 [] ls st g M Q = q_T md d qP_X6_peace 27 [.aload 0, .invokestatic 164, .goto (32)] ls st g M Q := q_T_next rfl
theorem b_X6_peace_27 : q_T md d qP_X6_peace 27 [] ls st g M Q = q_T md d qP_X6_peace 32 [.aload 0, .iload 1, .invokestatic 165] ls st g M Q := q_T_next rfl
theorem b_X6_peace_32 : q_T md d qP_X6_peace 32 [] ls st g M Q = q_T md d qP_X6_peace 33 [.ret 0] ls st g M Q := q_T_next rfl
theorem s_X6_nextAsked {w : Nat} {x0 : Int} : q_S md d 168 [qR 6 w, qI x0] g M Q = q_T md d qP_X6_nextAsked 0 [] [qR 6 w, qI x0, qS 0, qS 0, qS 0] [] g M Q := rfl
theorem b_X6_nextAsked_0 : q_T md d qP_X6_nextAsked 0 [] ls st g M Q = q_T md d qP_X6_nextAsked 7 [.iconst (-1), .istore 2, .iconst (0), .istore 3, .iconst (0), .istore 4] ls st g M Q := q_T_next rfl
theorem b_X6_nextAsked_7 : q_T md d qP_X6_nextAsked 7 [] ls st g M Q = q_T md d qP_X6_nextAsked 13 [.iload 4, .iconst (5), .if_icmp .ge (63)] ls st g M Q := q_T_next rfl
theorem b_X6_nextAsked_13 : q_T md d qP_X6_nextAsked 13 [] ls st g M Q = q_T md d qP_X6_nextAsked 27 [.aload 0, .getfield 634, .iload 1, .iaload, .iload 4, .ishr, .iconst (1), .iand, .ifCond .ne (57)] ls st g M Q := q_T_next rfl
theorem b_X6_nextAsked_27 : q_T md d qP_X6_nextAsked 27 [] ls st g M Q = q_T md d qP_X6_nextAsked 42 [.aload 0, .getfield 631, .iconst (5), .iload 1, .imul, .iload 4, .iadd, .iaload, .iload 3, .if_icmp .le (57)] ls st g M Q := q_T_next rfl
theorem b_X6_nextAsked_42 : q_T md d qP_X6_nextAsked 42 [] ls st g M Q = q_T md d qP_X6_nextAsked 57 [.iload 4, .istore 2, .aload 0, .getfield 631, .iconst (5), .iload 1, .imul, .iload 4, .iadd, .iaload, .istore 3] ls st g M Q := q_T_next rfl
theorem b_X6_nextAsked_57 : q_T md d qP_X6_nextAsked 57 [] ls st g M Q = q_T md d qP_X6_nextAsked 63 [.iinc 4 (1), .goto (7)] ls st g M Q := q_T_next rfl
theorem b_X6_nextAsked_63 : q_T md d qP_X6_nextAsked 63 [] ls st g M Q = q_T md d qP_X6_nextAsked 65 [.iload 2, .ret 0] ls st g M Q := q_T_next rfl
theorem s_X6_asksOne {w : Nat} {x0 : Int} : q_S md d 169 [qR 6 w, qI x0] g M Q = q_T md d qP_X6_asksOne 0 [] [qR 6 w, qI x0, qS 0, qS 0] [] g M Q := rfl
theorem b_X6_asksOne_0 : q_T md d qP_X6_asksOne 0 [] ls st g M Q = q_T md d qP_X6_asksOne 11 [.aload 0, .iload 1, .invokestatic 168, .istore 2, .iload 2, .iconst (-1), .if_icmp .ne (13)] ls st g M Q := q_T_next rfl
theorem b_X6_asksOne_11 : q_T md d qP_X6_asksOne 11 [] ls st g M Q = q_T md d qP_X6_asksOne 13 [.iconst (0), .ret 1] ls st g M Q := q_T_next rfl
theorem b_X6_asksOne_13 : q_T md d qP_X6_asksOne 13 [] ls st g M Q = q_T md d qP_X6_asksOne 22 [.aload 0, .iload 2, .iload 1, .invokestatic 162, .ifCond .ne (36)] ls st g M Q := q_T_next rfl
theorem b_X6_asksOne_22 : q_T md d qP_X6_asksOne 22 [] ls st g M Q = q_T md d qP_X6_asksOne 36 [.aload 0, .getfield 634, .iload 1, .dup2, .iaload, .iconst (1), .iload 2, .ishl, .ior, .iastore, .iconst (1), .ret 1] ls st g M Q := q_T_next rfl
theorem b_X6_asksOne_36 : q_T md d qP_X6_asksOne 36 [] ls st g M Q = q_T md d qP_X6_asksOne 54 [.aload 0, .iload 2, .invokestatic 160, .aload 0, .getfield 603, .iconst (4), .iload 2, .imul, .iconst (1), .iadd, .iaload, .if_icmp .lt (84)] ls st g M Q := q_T_next rfl
theorem b_X6_asksOne_54 : q_T md d qP_X6_asksOne 54 [] ls st g M Q = q_T md d qP_X6_asksOne 84 [.aload 0, .iload 2, .invokestatic 161, .iconst (0), .iconst (4), .invokestatic 111, .istore 3, .aload 0, .getfield 633, .iload 3, .iconst (-1), .iastore, .aload 0, .getfield 634, .iload 3, .dup2, .iaload, .iconst (1), .iload 2, .ishl, .ior, .iastore] ls st g M Q := q_T_next rfl
theorem b_X6_asksOne_84 : q_T md d qP_X6_asksOne 84 [] ls st g M Q = q_T md d qP_X6_asksOne 93 [.aload 0, .getfield 633, .iload 1, .iload 2, .iastore, .iconst (1), .ret 1] ls st g M Q := q_T_next rfl
theorem s_X6_courts {w : Nat} : q_S md d 170 [qR 6 w] g M Q = q_T md d qP_X6_courts 0 [] [qR 6 w, qS 0, qS 0] [] g M Q := rfl
theorem b_X6_courts_0 : q_T md d qP_X6_courts 0 [] ls st g M Q = q_T md d qP_X6_courts 6 [.aload 0, .invokestatic 159, .iconst (0), .istore 1] ls st g M Q := q_T_next rfl
theorem b_X6_courts_6 : q_T md d qP_X6_courts 6 [] ls st g M Q = q_T md d qP_X6_courts 11 [.iload 1, .iconst (5), .if_icmp .ge (31)] ls st g M Q := q_T_next rfl
theorem b_X6_courts_11 : q_T md d qP_X6_courts 11 [] ls st g M Q = q_T md d qP_X6_courts 31 [.aload 0, .getfield 633, .iload 1, .iconst (-1), .iastore, .aload 0, .getfield 634, .iload 1, .iconst (0), .iastore, .iinc 1 (1), .goto (6)] ls st g M Q := q_T_next rfl
theorem b_X6_courts_31 : q_T md d qP_X6_courts 31 [] ls st g M Q = q_T md d qP_X6_courts 33 [.iconst (1), .istore 1] ls st g M Q := q_T_next rfl
theorem b_X6_courts_33 : q_T md d qP_X6_courts 33 [] ls st g M Q = q_T md d qP_X6_courts 37 [.iload 1, .ifCond .eq (76)] ls st g M Q := q_T_next rfl
theorem b_X6_courts_37 : q_T md d qP_X6_courts 37 [] ls st g M Q = q_T md d qP_X6_courts 41 [.iconst (0), .istore 1, .iconst (0), .istore 2] ls st g M Q := q_T_next rfl
theorem b_X6_courts_41 : q_T md d qP_X6_courts 41 [] ls st g M Q = q_T md d qP_X6_courts 49 [.iload 2, .aload 0, .getfield 600, .if_icmp .ge (73)] ls st g M Q := q_T_next rfl
theorem b_X6_courts_49 : q_T md d qP_X6_courts 49 [] ls st g M Q = q_T md d qP_X6_courts 59 [.aload 0, .getfield 633, .iload 2, .iaload, .iconst (-1), .if_icmp .ne (67)] ls st g M Q := q_T_next rfl
theorem b_X6_courts_59 : q_T md d qP_X6_courts 59 [] ls st g M Q = q_T md d qP_X6_courts 67 [.iload 1, .aload 0, .iload 2, .invokestatic 169, .ior, .istore 1] ls st g M Q := q_T_next rfl
theorem b_X6_courts_67 : q_T md d qP_X6_courts 67 [] ls st g M Q = q_T md d qP_X6_courts 73 [.iinc 2 (1), .goto (41)] ls st g M Q := q_T_next rfl
theorem b_X6_courts_73 : q_T md d qP_X6_courts 73 [] ls st g M Q = q_T md d qP_X6_courts 76 [.goto (33)] ls st g M Q := q_T_next rfl
theorem b_X6_courts_76 : q_T md d qP_X6_courts 76 [] ls st g M Q = q_T md d qP_X6_courts 77 [.return_] ls st g M Q := q_T_next rfl
theorem s_X6_court {w : Nat} {x0 : Int} : q_S md d 171 [qR 6 w, qI x0] g M Q = q_T md d qP_X6_court 0 [] [qR 6 w, qI x0] [] g M Q := rfl
theorem b_X6_court_0 : q_T md d qP_X6_court 0 [] ls st g M Q = q_T md d qP_X6_court 9 [.iload 1, .iconst (0), .iconst (2), .invokestatic 110, .ifCond .ne (12)] ls st g M Q := q_T_next rfl
theorem b_X6_court_9 : q_T md d qP_X6_court 9 [] ls st g M Q = q_T md d qP_X6_court 12 [.iconst (-100000), .ret 0] ls st g M Q := q_T_next rfl
theorem b_X6_court_12 : q_T md d qP_X6_court 12 [] ls st g M Q = q_T md d qP_X6_court 20 [.aload 0, .invokestatic 170, .iload 1, .ifCond .ne (27)] ls st g M Q := q_T_next rfl
theorem b_X6_court_20 : q_T md d qP_X6_court 20 [] ls st g M Q = q_T md d qP_X6_court 27 [.aload 0, .invokestatic 166, .goto (32)] ls st g M Q := q_T_next rfl
theorem b_X6_court_27 : q_T md d qP_X6_court 27 [] ls st g M Q = q_T md d qP_X6_court 32 [.aload 0, .iload 1, .invokestatic 165] ls st g M Q := q_T_next rfl
theorem b_X6_court_32 : q_T md d qP_X6_court 32 [] ls st g M Q = q_T md d qP_X6_court 33 [.ret 0] ls st g M Q := q_T_next rfl
theorem s_X6_sitsBy {w : Nat} {x0 : Int} : q_S md d 172 [qR 6 w, qI x0] g M Q = q_T md d qP_X6_sitsBy 0 [] [qR 6 w, qI x0, qS 0, qS 0] [] g M Q := rfl
theorem b_X6_sitsBy_0 : q_T md d qP_X6_sitsBy 0 [] ls st g M Q = q_T md d qP_X6_sitsBy 9 [.iload 1, .istore 2, .aload 0, .getfield 600, .iconst (1), .isub, .istore 3] ls st g M Q := q_T_next rfl
theorem b_X6_sitsBy_9 : q_T md d qP_X6_sitsBy 9 [] ls st g M Q = q_T md d qP_X6_sitsBy 13 [.iload 3, .ifCond .lt (36)] ls st g M Q := q_T_next rfl
theorem b_X6_sitsBy_13 : q_T md d qP_X6_sitsBy 13 [] ls st g M Q = q_T md d qP_X6_sitsBy 36 [.aload 0, .getfield 633, .iload 3, .iload 2, .iconst (6), .irem, .iconst (1), .isub, .iastore, .iload 2, .iconst (6), .idiv, .istore 2, .iinc 3 (-1), .goto (9)] ls st g M Q := q_T_next rfl
theorem b_X6_sitsBy_36 : q_T md d qP_X6_sitsBy 36 [] ls st g M Q = q_T md d qP_X6_sitsBy 38 [.iconst (0), .istore 3] ls st g M Q := q_T_next rfl
theorem b_X6_sitsBy_38 : q_T md d qP_X6_sitsBy 38 [] ls st g M Q = q_T md d qP_X6_sitsBy 43 [.iload 3, .iconst (5), .if_icmp .ge (69)] ls st g M Q := q_T_next rfl
theorem b_X6_sitsBy_43 : q_T md d qP_X6_sitsBy 43 [] ls st g M Q = q_T md d qP_X6_sitsBy 61 [.aload 0, .iload 3, .invokestatic 160, .aload 0, .getfield 603, .iconst (4), .iload 3, .imul, .iconst (1), .iadd, .iaload, .if_icmp .le (63)] ls st g M Q := q_T_next rfl
theorem b_X6_sitsBy_61 : q_T md d qP_X6_sitsBy 61 [] ls st g M Q = q_T md d qP_X6_sitsBy 63 [.iconst (0), .ret 1] ls st g M Q := q_T_next rfl
theorem b_X6_sitsBy_63 : q_T md d qP_X6_sitsBy 63 [] ls st g M Q = q_T md d qP_X6_sitsBy 69 [.iinc 3 (1), .goto (38)] ls st g M Q := q_T_next rfl
theorem b_X6_sitsBy_69 : q_T md d qP_X6_sitsBy 69 [] ls st g M Q = q_T md d qP_X6_sitsBy 71 [.iconst (1), .ret 1] ls st g M Q := q_T_next rfl
theorem s_X6_tellsWays {w : Nat} : q_S md d 173 [qR 6 w] g M Q = q_T md d qP_X6_tellsWays 0 [] [qR 6 w, qS 0, qS 0, qS 0, qS 0] [] g M Q := rfl
theorem b_X6_tellsWays_0 : q_T md d qP_X6_tellsWays 0 [] ls st g M Q = q_T md d qP_X6_tellsWays 8 [.aload 0, .invokestatic 159, .iconst (1), .istore 1, .iconst (0), .istore 2] ls st g M Q := q_T_next rfl
theorem b_X6_tellsWays_8 : q_T md d qP_X6_tellsWays 8 [] ls st g M Q = q_T md d qP_X6_tellsWays 16 [.iload 2, .aload 0, .getfield 600, .if_icmp .ge (27)] ls st g M Q := q_T_next rfl
theorem b_X6_tellsWays_16 : q_T md d qP_X6_tellsWays 16 [] ls st g M Q = q_T md d qP_X6_tellsWays 27 [.iload 1, .iconst (6), .imul, .istore 1, .iinc 2 (1), .goto (8)] ls st g M Q := q_T_next rfl
theorem b_X6_tellsWays_27 : q_T md d qP_X6_tellsWays 27 [] ls st g M Q = q_T md d qP_X6_tellsWays 64 [.aload 0, .getfield 635, .iconst (0), .iconst (0), .iastore, .aload 0, .getfield 635, .iconst (1), .iconst (-1), .iastore, .aload 0, .getfield 635, .iconst (2), .iconst (0), .iastore, .aload 0, .getfield 635, .iconst (3), .iconst (-1), .iastore, .aload 0, .getfield 635, .iconst (4), .iconst (0), .iastore, .iconst (0), .istore 2] ls st g M Q := q_T_next rfl
theorem b_X6_tellsWays_64 : q_T md d qP_X6_tellsWays 64 [] ls st g M Q = q_T md d qP_X6_tellsWays 69 [.iload 2, .iload 1, .if_icmp .ge (216)] ls st g M Q := q_T_next rfl
theorem b_X6_tellsWays_69 : q_T md d qP_X6_tellsWays 69 [] ls st g M Q = q_T md d qP_X6_tellsWays 77 [.aload 0, .iload 2, .invokestatic 172, .ifCond .eq (210)] ls st g M Q := q_T_next rfl
theorem b_X6_tellsWays_77 : q_T md d qP_X6_tellsWays 77 [] ls st g M Q = q_T md d qP_X6_tellsWays 93 [.aload 0, .iconst (1), .invokestatic 165, .istore 3, .aload 0, .getfield 635, .iconst (3), .iaload, .iconst (-1), .if_icmp .eq (103)] ls st g M Q := q_T_next rfl
theorem b_X6_tellsWays_93 : q_T md d qP_X6_tellsWays 93 [] ls st g M Q = q_T md d qP_X6_tellsWays 103 [.iload 3, .aload 0, .getfield 635, .iconst (4), .iaload, .if_icmp .le (120)] ls st g M Q := q_T_next rfl
theorem b_X6_tellsWays_103 : q_T md d qP_X6_tellsWays 103 [] ls st g M Q = q_T md d qP_X6_tellsWays 120 [.aload 0, .getfield 635, .iconst (3), .aload 0, .invokestatic 166, .iastore, .aload 0, .getfield 635, .iconst (4), .iload 3, .iastore] ls st g M Q := q_T_next rfl
theorem b_X6_tellsWays_120 : q_T md d qP_X6_tellsWays 120 [] ls st g M Q = q_T md d qP_X6_tellsWays 128 [.aload 0, .invokestatic 164, .iconst (-1), .if_icmp .ne (210)] ls st g M Q := q_T_next rfl
theorem b_X6_tellsWays_128 : q_T md d qP_X6_tellsWays 128 [] ls st g M Q = q_T md d qP_X6_tellsWays 148 [.aload 0, .getfield 635, .iconst (0), .dup2, .iaload, .iconst (1), .iadd, .iastore, .aload 0, .getfield 635, .iconst (1), .iaload, .iconst (-1), .if_icmp .eq (158)] ls st g M Q := q_T_next rfl
theorem b_X6_tellsWays_148 : q_T md d qP_X6_tellsWays 148 [] ls st g M Q = q_T md d qP_X6_tellsWays 158 [.iload 3, .aload 0, .getfield 635, .iconst (2), .iaload, .if_icmp .le (162)] ls st g M Q := q_T_next rfl
theorem b_X6_tellsWays_158 : q_T md d qP_X6_tellsWays 158 [] ls st g M Q = q_T md d qP_X6_tellsWays 162 [.iconst (1), .goto (163)] ls st g M Q := q_T_next rfl
theorem b_X6_tellsWays_162 : q_T md d qP_X6_tellsWays 162 [] ls st g M Q = q_T md d qP_X6_tellsWays 163 [.iconst (0)] ls st g M Q := q_T_next rfl
theorem b_X6_tellsWays_163 : q_T md d qP_X6_tellsWays 163 [] ls st g M Q = q_T md d qP_X6_tellsWays 175 [.istore 4, .aload 0, .getfield 635, .iconst (1), .iload 4, .ifCond .eq (182)] ls st g M Q := q_T_next rfl
theorem b_X6_tellsWays_175 : q_T md d qP_X6_tellsWays 175 [] ls st g M Q = q_T md d qP_X6_tellsWays 182 [.aload 0, .invokestatic 166, .goto (188)] ls st g M Q := q_T_next rfl
theorem b_X6_tellsWays_182 : q_T md d qP_X6_tellsWays 182 [] ls st g M Q = q_T md d qP_X6_tellsWays 188 [.aload 0, .getfield 635, .iconst (1), .iaload] ls st g M Q := q_T_next rfl
theorem b_X6_tellsWays_188 : q_T md d qP_X6_tellsWays 188 [] ls st g M Q = q_T md d qP_X6_tellsWays 199 [.iastore, .aload 0, .getfield 635, .iconst (2), .iload 4, .ifCond .eq (203)] ls st g M Q := q_T_next rfl
theorem b_X6_tellsWays_199 : q_T md d qP_X6_tellsWays 199 [] ls st g M Q = q_T md d qP_X6_tellsWays 203 [.iload 3, .goto (209)] ls st g M Q := q_T_next rfl
theorem b_X6_tellsWays_203 : q_T md d qP_X6_tellsWays 203 [] ls st g M Q = q_T md d qP_X6_tellsWays 209 [.aload 0, .getfield 635, .iconst (2), .iaload] ls st g M Q := q_T_next rfl
theorem b_X6_tellsWays_209 : q_T md d qP_X6_tellsWays 209 [] ls st g M Q = q_T md d qP_X6_tellsWays 210 [.iastore] ls st g M Q := q_T_next rfl
theorem b_X6_tellsWays_210 : q_T md d qP_X6_tellsWays 210 [] ls st g M Q = q_T md d qP_X6_tellsWays 216 [.iinc 2 (1), .goto (64)] ls st g M Q := q_T_next rfl
theorem b_X6_tellsWays_216 : q_T md d qP_X6_tellsWays 216 [] ls st g M Q = q_T md d qP_X6_tellsWays 217 [.return_] ls st g M Q := q_T_next rfl
theorem s_X6_all {w : Nat} {x0 : Int} : q_S md d 174 [qR 6 w, qI x0] g M Q = q_T md d qP_X6_all 0 [] [qR 6 w, qI x0] [] g M Q := rfl
theorem b_X6_all_0 : q_T md d qP_X6_all 0 [] ls st g M Q = q_T md d qP_X6_all 9 [.iload 1, .iconst (0), .iconst (4), .invokestatic 110, .ifCond .ne (12)] ls st g M Q := q_T_next rfl
theorem b_X6_all_9 : q_T md d qP_X6_all 9 [] ls st g M Q = q_T md d qP_X6_all 12 [.iconst (-100000), .ret 0] ls st g M Q := q_T_next rfl
theorem b_X6_all_12 : q_T md d qP_X6_all 12 [] ls st g M Q = q_T md d qP_X6_all 23 [.aload 0, .invokestatic 173, .aload 0, .getfield 635, .iload 1, .iaload, .ret 0] ls st g M Q := q_T_next rfl
theorem s_X6_annex {w : Nat} {x0 : Int} : q_S md d 175 [qR 6 w, qI x0] g M Q = q_T md d qP_X6_annex 0 [] [qR 6 w, qI x0, qS 0, qS 0, qS 0, qS 0, qS 0] [] g M Q := rfl
theorem b_X6_annex_0 : q_T md d qP_X6_annex 0 [] ls st g M Q = q_T md d qP_X6_annex 9 [.iload 1, .iconst (0), .iconst (1), .invokestatic 110, .ifCond .ne (12)] ls st g M Q := q_T_next rfl
theorem b_X6_annex_9 : q_T md d qP_X6_annex 9 [] ls st g M Q = q_T md d qP_X6_annex 12 [.iconst (-100000), .ret 0] ls st g M Q := q_T_next rfl
theorem b_X6_annex_12 : q_T md d qP_X6_annex 12 [] ls st g M Q = q_T md d qP_X6_annex 19 [.iconst (-1), .istore 2, .iconst (0), .istore 3, .iconst (0), .istore 4] ls st g M Q := q_T_next rfl
theorem b_X6_annex_19 : q_T md d qP_X6_annex 19 [] ls st g M Q = q_T md d qP_X6_annex 25 [.iload 4, .iconst (5), .if_icmp .ge (114)] ls st g M Q := q_T_next rfl
theorem b_X6_annex_25 : q_T md d qP_X6_annex 25 [] ls st g M Q = q_T md d qP_X6_annex 71 [.aload 0, .getfield 603, .iconst (4), .iload 4, .imul, .iconst (1), .iadd, .dup2, .iaload, .iconst (1), .iadd, .iastore, .aload 0, .invokestatic 170, .aload 0, .iconst (1), .invokestatic 165, .istore 5, .aload 0, .getfield 603, .iconst (4), .iload 4, .imul, .iconst (1), .iadd, .dup2, .iaload, .iconst (1), .isub, .iastore, .iload 2, .iconst (-1), .if_icmp .eq (77)] ls st g M Q := q_T_next rfl
theorem b_X6_annex_71 : q_T md d qP_X6_annex 71 [] ls st g M Q = q_T md d qP_X6_annex 77 [.iload 5, .iload 3, .if_icmp .le (81)] ls st g M Q := q_T_next rfl
theorem b_X6_annex_77 : q_T md d qP_X6_annex 77 [] ls st g M Q = q_T md d qP_X6_annex 81 [.iconst (1), .goto (82)] ls st g M Q := q_T_next rfl
theorem b_X6_annex_81 : q_T md d qP_X6_annex 81 [] ls st g M Q = q_T md d qP_X6_annex 82 [.iconst (0)] ls st g M Q := q_T_next rfl
theorem b_X6_annex_82 : q_T md d qP_X6_annex 82 [] ls st g M Q = q_T md d qP_X6_annex 89 [.istore 6, .iload 6, .ifCond .eq (94)] ls st g M Q := q_T_next rfl
theorem b_X6_annex_89 : q_T md d qP_X6_annex 89 [] ls st g M Q = q_T md d qP_X6_annex 94 [.iload 4, .goto (95)] ls st g M Q := q_T_next rfl
theorem b_X6_annex_94 : q_T md d qP_X6_annex 94 [] ls st g M Q = q_T md d qP_X6_annex 95 [.iload 2] ls st g M Q := q_T_next rfl
theorem b_X6_annex_95 : q_T md d qP_X6_annex 95 [] ls st g M Q = q_T md d qP_X6_annex 101 [.istore 2, .iload 6, .ifCond .eq (106)] ls st g M Q := q_T_next rfl
theorem b_X6_annex_101 : q_T md d qP_X6_annex 101 [] ls st g M Q = q_T md d qP_X6_annex 106 [.iload 5, .goto (107)] ls st g M Q := q_T_next rfl
theorem b_X6_annex_106 : q_T md d qP_X6_annex 106 [] ls st g M Q = q_T md d qP_X6_annex 107 [.iload 3] ls st g M Q := q_T_next rfl
theorem b_X6_annex_107 : q_T md d qP_X6_annex 107 [] ls st g M Q = q_T md d qP_X6_annex 114 [.istore 3, .iinc 4 (1), .goto (19)] ls st g M Q := q_T_next rfl
theorem b_X6_annex_114 : q_T md d qP_X6_annex 114 [] ls st g M Q = q_T md d qP_X6_annex 118 [.iload 1, .ifCond .ne (122)] ls st g M Q := q_T_next rfl
theorem b_X6_annex_118 : q_T md d qP_X6_annex 118 [] ls st g M Q = q_T md d qP_X6_annex 122 [.iload 2, .goto (123)] ls st g M Q := q_T_next rfl
theorem b_X6_annex_122 : q_T md d qP_X6_annex 122 [] ls st g M Q = q_T md d qP_X6_annex 123 [.iload 3] ls st g M Q := q_T_next rfl
theorem b_X6_annex_123 : q_T md d qP_X6_annex 123 [] ls st g M Q = q_T md d qP_X6_annex 124 [.ret 0] ls st g M Q := q_T_next rfl
theorem s_X6_cart {w : Nat} {x0 : Int} {x1 : Int} : q_S md d 176 [qR 6 w, qI x0, qI x1] g M Q = q_T md d qP_X6_cart 0 [] [qR 6 w, qI x0, qI x1, qS 0, qS 0, qS 0, qS 0, qS 0] [] g M Q := rfl
theorem b_X6_cart_0 : q_T md d qP_X6_cart 0 [] ls st g M Q = q_T md d qP_X6_cart 8 [.aload 0, .iload 1, .invokestatic 112, .ifCond .ne (11)] ls st g M Q := q_T_next rfl
theorem b_X6_cart_8 : q_T md d qP_X6_cart 8 [] ls st g M Q = q_T md d qP_X6_cart 11 [.iconst (-5), .ret 0] ls st g M Q := q_T_next rfl
theorem b_X6_cart_11 : q_T md d qP_X6_cart 11 [] ls st g M Q = q_T md d qP_X6_cart 20 [.iload 2, .iconst (0), .iconst (1), .invokestatic 110, .ifCond .ne (23)] ls st g M Q := q_T_next rfl
theorem b_X6_cart_20 : q_T md d qP_X6_cart 20 [] ls st g M Q = q_T md d qP_X6_cart 23 [.iconst (-7), .ret 0] ls st g M Q := q_T_next rfl
theorem b_X6_cart_23 : q_T md d qP_X6_cart 23 [] ls st g M Q = q_T md d qP_X6_cart 35 [.iconst (-1), .istore 3, .iconst (-1), .istore 4, .aload 0, .invokestatic 154, .iconst (0), .istore 5] ls st g M Q := q_T_next rfl
theorem b_X6_cart_35 : q_T md d qP_X6_cart 35 [] ls st g M Q = q_T md d qP_X6_cart 42 [.iload 5, .iconst (100), .if_icmp .ge (132)] ls st g M Q := q_T_next rfl
theorem b_X6_cart_42 : q_T md d qP_X6_cart 42 [] ls st g M Q = q_T md d qP_X6_cart 81 [.aload 0, .getfield 604, .iconst (3), .iload 1, .imul, .iload 5, .iastore, .aload 0, .getfield 604, .iconst (3), .iload 1, .imul, .iconst (2), .iadd, .iconst (-1), .iastore, .aload 0, .iload 1, .iconst (-1), .invokestatic 157, .istore 6, .aload 0, .invokestatic 155, .iload 6, .iconst (-1), .if_icmp .eq (97)] ls st g M Q := q_T_next rfl
theorem b_X6_cart_81 : q_T md d qP_X6_cart 81 [] ls st g M Q = q_T md d qP_X6_cart 86 [.iload 3, .iconst (-1), .if_icmp .eq (93)] ls st g M Q := q_T_next rfl
theorem b_X6_cart_86 : q_T md d qP_X6_cart 86 [] ls st g M Q = q_T md d qP_X6_cart 93 [.iload 6, .iload 4, .if_icmp .ge (97)] ls st g M Q := q_T_next rfl
theorem b_X6_cart_93 : q_T md d qP_X6_cart 93 [] ls st g M Q = q_T md d qP_X6_cart 97 [.iconst (1), .goto (98)] ls st g M Q := q_T_next rfl
theorem b_X6_cart_97 : q_T md d qP_X6_cart 97 [] ls st g M Q = q_T md d qP_X6_cart 98 [.iconst (0)] ls st g M Q := q_T_next rfl
theorem b_X6_cart_98 : q_T md d qP_X6_cart 98 [] ls st g M Q = q_T md d qP_X6_cart 105 [.istore 7, .iload 7, .ifCond .eq (110)] ls st g M Q := q_T_next rfl
theorem b_X6_cart_105 : q_T md d qP_X6_cart 105 [] ls st g M Q = q_T md d qP_X6_cart 110 [.iload 5, .goto (111)] ls st g M Q := q_T_next rfl
theorem b_X6_cart_110 : q_T md d qP_X6_cart 110 [] ls st g M Q = q_T md d qP_X6_cart 111 [.iload 3] ls st g M Q := q_T_next rfl
theorem b_X6_cart_111 : q_T md d qP_X6_cart 111 [] ls st g M Q = q_T md d qP_X6_cart 117 [.istore 3, .iload 7, .ifCond .eq (122)] ls st g M Q := q_T_next rfl
theorem b_X6_cart_117 : q_T md d qP_X6_cart 117 [] ls st g M Q = q_T md d qP_X6_cart 122 [.iload 6, .goto (124)] ls st g M Q := q_T_next rfl
theorem b_X6_cart_122 : q_T md d qP_X6_cart 122 [] ls st g M Q = q_T md d qP_X6_cart 124 [.iload 4] ls st g M Q := q_T_next rfl
theorem b_X6_cart_124 : q_T md d qP_X6_cart 124 [] ls st g M Q = q_T md d qP_X6_cart 132 [.istore 4, .iinc 5 (1), .goto (35)] ls st g M Q := q_T_next rfl
theorem b_X6_cart_132 : q_T md d qP_X6_cart 132 [] ls st g M Q = q_T md d qP_X6_cart 136 [.iload 2, .ifCond .ne (140)] ls st g M Q := q_T_next rfl
theorem b_X6_cart_136 : q_T md d qP_X6_cart 136 [] ls st g M Q = q_T md d qP_X6_cart 140 [.iload 3, .goto (142)] ls st g M Q := q_T_next rfl
theorem b_X6_cart_140 : q_T md d qP_X6_cart 140 [] ls st g M Q = q_T md d qP_X6_cart 142 [.iload 4] ls st g M Q := q_T_next rfl
theorem b_X6_cart_142 : q_T md d qP_X6_cart 142 [] ls st g M Q = q_T md d qP_X6_cart 143 [.ret 0] ls st g M Q := q_T_next rfl
theorem s_X6_lowest {x0 : Int} {x1 : Int} {x2 : Int} : q_S md d 177 [qL x0, qL x1, qI x2] g M Q = q_T md d qP_X6_lowest 0 [] [qL x0, qS 0, qL x1, qS 0, qI x2, qS 0, qS 0, qS 0, qS 0, qS 0, qS 0] [] g M Q := rfl
theorem b_X6_lowest_0 : q_T md d qP_X6_lowest 0 [] ls st g M Q = q_T md d qP_X6_lowest 6 [.lload 0, .jsr (0), .lcmp, .ifCond .ne (10)] ls st g M Q := q_T_next rfl
theorem b_X6_lowest_6 : q_T md d qP_X6_lowest 6 [] ls st g M Q = q_T md d qP_X6_lowest 10 [.iload 4, .i2l, .lreturn] ls st g M Q := q_T_next rfl
theorem b_X6_lowest_10 : q_T md d qP_X6_lowest 10 [] ls st g M Q = q_T md d qP_X6_lowest 16 [.lload 0, .lstore 5, .lload 2, .lstore 7] ls st g M Q := q_T_next rfl
theorem b_X6_lowest_16 : q_T md d qP_X6_lowest 16 [] ls st g M Q = q_T md d qP_X6_lowest 23 [.lload 7, .jsr (0), .lcmp, .ifCond .eq (41)] ls st g M Q := q_T_next rfl
theorem b_X6_lowest_23 : q_T md d qP_X6_lowest 23 [] ls st g M Q = q_T md d qP_X6_lowest 41 [.lload 5, .lload 7, .lrem, .lstore 9, .lload 7, .lstore 5, .lload 9, .lstore 7, .goto (16)] ls st g M Q := q_T_next rfl
theorem b_X6_lowest_41 : q_T md d qP_X6_lowest 41 [] ls st g M Q = q_T md d qP_X6_lowest 46 [.iload 4, .ifCond .ne (50)] ls st g M Q := q_T_next rfl
theorem b_X6_lowest_46 : q_T md d qP_X6_lowest 46 [] ls st g M Q = q_T md d qP_X6_lowest 50 [.lload 0, .goto (51)] ls st g M Q := q_T_next rfl
theorem b_X6_lowest_50 : q_T md d qP_X6_lowest 50 [] ls st g M Q = q_T md d qP_X6_lowest 51 [.lload 2] ls st g M Q := q_T_next rfl
theorem b_X6_lowest_51 : q_T md d qP_X6_lowest 51 [] ls st g M Q = q_T md d qP_X6_lowest 55 [.lload 5, .ldiv, .lreturn] ls st g M Q := q_T_next rfl
theorem s_X6_share {w : Nat} {x0 : Int} : q_S md d 178 [qR 6 w, qI x0] g M Q = q_T md d qP_X6_share 0 [] [qR 6 w, qI x0, qS 0, qS 0, qS 0] [] g M Q := rfl
theorem b_X6_share_0 : q_T md d qP_X6_share 0 [] ls st g M Q = q_T md d qP_X6_share 7 [.iconst (0), .istore 2, .iconst (0), .istore 3, .iconst (0), .istore 4] ls st g M Q := q_T_next rfl
theorem b_X6_share_7 : q_T md d qP_X6_share 7 [] ls st g M Q = q_T md d qP_X6_share 16 [.iload 4, .aload 0, .getfield 600, .if_icmp .ge (69)] ls st g M Q := q_T_next rfl
theorem b_X6_share_16 : q_T md d qP_X6_share 16 [] ls st g M Q = q_T md d qP_X6_share 46 [.iload 3, .aload 0, .getfield 604, .iconst (3), .iload 4, .imul, .iconst (1), .iadd, .iaload, .iadd, .istore 3, .iload 2, .aload 0, .getfield 604, .iconst (3), .iload 4, .imul, .iconst (2), .iadd, .iaload, .iconst (-1), .if_icmp .ne (50)] ls st g M Q := q_T_next rfl
theorem b_X6_share_46 : q_T md d qP_X6_share 46 [] ls st g M Q = q_T md d qP_X6_share 50 [.iconst (0), .goto (61)] ls st g M Q := q_T_next rfl
theorem b_X6_share_50 : q_T md d qP_X6_share 50 [] ls st g M Q = q_T md d qP_X6_share 61 [.aload 0, .getfield 604, .iconst (3), .iload 4, .imul, .iconst (1), .iadd, .iaload] ls st g M Q := q_T_next rfl
theorem b_X6_share_61 : q_T md d qP_X6_share 61 [] ls st g M Q = q_T md d qP_X6_share 69 [.iadd, .istore 2, .iinc 4 (1), .goto (7)] ls st g M Q := q_T_next rfl
theorem b_X6_share_69 : q_T md d qP_X6_share 69 [] ls st g M Q = q_T md d qP_X6_share 78 [.iload 1, .iconst (0), .iconst (1), .invokestatic 110, .ifCond .eq (93)] ls st g M Q := q_T_next rfl
theorem b_X6_share_78 : q_T md d qP_X6_share 78 [] ls st g M Q = q_T md d qP_X6_share 82 [.iload 3, .ifCond .le (93)] ls st g M Q := q_T_next rfl
theorem b_X6_share_82 : q_T md d qP_X6_share 82 [] ls st g M Q = q_T md d qP_X6_share 93 [.iload 2, .i2l, .iload 3, .i2l, .iload 1, .invokestatic 177, .goto (96)] ls st g M Q := q_T_next rfl
theorem b_X6_share_93 : q_T md d qP_X6_share 93 [] ls st g M Q = q_T md d qP_X6_share 96 [.jsr (-4611686018427387904)] ls st g M Q := q_T_next rfl
theorem b_X6_share_96 : q_T md d qP_X6_share 96 [] ls st g M Q = q_T md d qP_X6_share 97 [.lreturn] ls st g M Q := q_T_next rfl
theorem s_X6_sheetWrong {w : Nat} {x0 : Int} : q_S md d 179 [qR 6 w, qI x0] g M Q = q_T md d qP_X6_sheetWrong 0 [] [qR 6 w, qI x0] [] g M Q := rfl
theorem b_X6_sheetWrong_0 : q_T md d qP_X6_sheetWrong 0 [] ls st g M Q = q_T md d qP_X6_sheetWrong 9 [.iload 1, .iconst (0), .iconst (3), .invokestatic 110, .ifCond .ne (12)] ls st g M Q := q_T_next rfl
theorem b_X6_sheetWrong_9 : q_T md d qP_X6_sheetWrong 9 [] ls st g M Q = q_T md d qP_X6_sheetWrong 12 [.iconst (-2), .ret 0] ls st g M Q := q_T_next rfl
theorem b_X6_sheetWrong_12 : q_T md d qP_X6_sheetWrong 12 [] ls st g M Q = q_T md d qP_X6_sheetWrong 22 [.aload 0, .getfield 615, .iload 1, .iaload, .iconst (-1), .if_icmp .ne (25)] ls st g M Q := q_T_next rfl
theorem b_X6_sheetWrong_22 : q_T md d qP_X6_sheetWrong 22 [] ls st g M Q = q_T md d qP_X6_sheetWrong 25 [.iconst (-11), .ret 0] ls st g M Q := q_T_next rfl
theorem b_X6_sheetWrong_25 : q_T md d qP_X6_sheetWrong 25 [] ls st g M Q = q_T md d qP_X6_sheetWrong 36 [.aload 0, .getfield 616, .iload 1, .iaload, .iconst (20), .if_icmp .le (41)] ls st g M Q := q_T_next rfl
theorem b_X6_sheetWrong_36 : q_T md d qP_X6_sheetWrong 36 [] ls st g M Q = q_T md d qP_X6_sheetWrong 41 [.iconst (-2), .goto (42)] ls st g M Q := q_T_next rfl
theorem b_X6_sheetWrong_41 : q_T md d qP_X6_sheetWrong 41 [] ls st g M Q = q_T md d qP_X6_sheetWrong 42 [.iconst (0)] ls st g M Q := q_T_next rfl
theorem b_X6_sheetWrong_42 : q_T md d qP_X6_sheetWrong 42 [] ls st g M Q = q_T md d qP_X6_sheetWrong 43 [.ret 0] ls st g M Q := q_T_next rfl
theorem s_X6_toldWrong {w : Nat} {x0 : Int} {x1 : Int} : q_S md d 180 [qR 6 w, qI x0, qI x1] g M Q = q_T md d qP_X6_toldWrong 0 [] [qR 6 w, qI x0, qI x1, qS 0] [] g M Q := rfl
theorem b_X6_toldWrong_0 : q_T md d qP_X6_toldWrong 0 [] ls st g M Q = q_T md d qP_X6_toldWrong 10 [.aload 0, .iload 1, .invokestatic 179, .istore 3, .iload 3, .ifCond .eq (14)] ls st g M Q := q_T_next rfl
theorem b_X6_toldWrong_10 : q_T md d qP_X6_toldWrong 10 [] ls st g M Q = q_T md d qP_X6_toldWrong 14 [.iload 3, .goto (28)] ls st g M Q := q_T_next rfl
theorem b_X6_toldWrong_14 : q_T md d qP_X6_toldWrong 14 [] ls st g M Q = q_T md d qP_X6_toldWrong 22 [.aload 0, .iload 2, .invokestatic 112, .ifCond .eq (26)] ls st g M Q := q_T_next rfl
theorem b_X6_toldWrong_22 : q_T md d qP_X6_toldWrong 22 [] ls st g M Q = q_T md d qP_X6_toldWrong 26 [.iconst (0), .goto (28)] ls st g M Q := q_T_next rfl
theorem b_X6_toldWrong_26 : q_T md d qP_X6_toldWrong 26 [] ls st g M Q = q_T md d qP_X6_toldWrong 28 [.iconst (-5)] ls st g M Q := q_T_next rfl
theorem b_X6_toldWrong_28 : q_T md d qP_X6_toldWrong 28 [] ls st g M Q = q_T md d qP_X6_toldWrong 29 [.ret 0] ls st g M Q := q_T_next rfl
theorem s_X6_unlike {w : Nat} {x0 : Int} {x1 : Int} : q_S md d 181 [qR 6 w, qI x0, qI x1] g M Q = q_T md d qP_X6_unlike 0 [] [qR 6 w, qI x0, qI x1, qS 0, qS 0] [] g M Q := rfl
theorem b_X6_unlike_0 : q_T md d qP_X6_unlike 0 [] ls st g M Q = q_T md d qP_X6_unlike 9 [.iconst (-1), .istore 3, .aload 0, .invokestatic 154, .iconst (0), .istore 4] ls st g M Q := q_T_next rfl
theorem b_X6_unlike_9 : q_T md d qP_X6_unlike 9 [] ls st g M Q = q_T md d qP_X6_unlike 20 [.iload 4, .aload 0, .getfield 616, .iload 1, .iaload, .if_icmp .ge (66)] ls st g M Q := q_T_next rfl
theorem b_X6_unlike_20 : q_T md d qP_X6_unlike 20 [] ls st g M Q = q_T md d qP_X6_unlike 25 [.iload 3, .iconst (-1), .if_icmp .ne (66)] ls st g M Q := q_T_next rfl
theorem b_X6_unlike_25 : q_T md d qP_X6_unlike 25 [] ls st g M Q = q_T md d qP_X6_unlike 53 [.aload 0, .invokestatic 151, .pop, .aload 0, .getfield 617, .iconst (40), .iload 1, .imul, .iload 4, .iadd, .iaload, .aload 0, .getfield 604, .iconst (3), .iload 2, .imul, .iaload, .if_icmp .ne (57)] ls st g M Q := q_T_next rfl
theorem b_X6_unlike_53 : q_T md d qP_X6_unlike 53 [] ls st g M Q = q_T md d qP_X6_unlike 57 [.iconst (-1), .goto (59)] ls st g M Q := q_T_next rfl
theorem b_X6_unlike_57 : q_T md d qP_X6_unlike 57 [] ls st g M Q = q_T md d qP_X6_unlike 59 [.iload 4] ls st g M Q := q_T_next rfl
theorem b_X6_unlike_59 : q_T md d qP_X6_unlike 59 [] ls st g M Q = q_T md d qP_X6_unlike 66 [.istore 3, .iinc 4 (1), .goto (9)] ls st g M Q := q_T_next rfl
theorem b_X6_unlike_66 : q_T md d qP_X6_unlike 66 [] ls st g M Q = q_T md d qP_X6_unlike 72 [.aload 0, .invokestatic 155, .iload 3, .ret 0] ls st g M Q := q_T_next rfl
theorem s_X6_judge {w : Nat} {x0 : Int} {x1 : Int} : q_S md d 182 [qR 6 w, qI x0, qI x1] g M Q = q_T md d qP_X6_judge 0 [] [qR 6 w, qI x0, qI x1, qS 0] [] g M Q := rfl
theorem b_X6_judge_0 : q_T md d qP_X6_judge 0 [] ls st g M Q = q_T md d qP_X6_judge 11 [.aload 0, .iload 1, .iload 2, .invokestatic 180, .istore 3, .iload 3, .ifCond .ne (20)] ls st g M Q := q_T_next rfl
theorem b_X6_judge_11 : q_T md d qP_X6_judge 11 [] ls st g M Q = q_T md d qP_X6_judge 20 [.aload 0, .iload 1, .iload 2, .invokestatic 181, .goto (21)] ls st g M Q := q_T_next rfl
theorem b_X6_judge_20 : q_T md d qP_X6_judge 20 [] ls st g M Q = q_T md d qP_X6_judge 21 [.iload 3] ls st g M Q := q_T_next rfl
theorem b_X6_judge_21 : q_T md d qP_X6_judge 21 [] ls st g M Q = q_T md d qP_X6_judge 22 [.ret 0] ls st g M Q := q_T_next rfl
theorem s_X6_kinds {w : Nat} {x0 : Int} {x1 : Int} {x2 : Int} : q_S md d 183 [qR 6 w, qI x0, qI x1, qI x2] g M Q = q_T md d qP_X6_kinds 0 [] [qR 6 w, qI x0, qI x1, qI x2, qS 0, qS 0, qS 0, qS 0, qS 0] [] g M Q := rfl
theorem b_X6_kinds_0 : q_T md d qP_X6_kinds 0 [] ls st g M Q = q_T md d qP_X6_kinds 13 [.aload 0, .iload 1, .iload 2, .invokestatic 180, .istore 4, .iload 4, .ifCond .eq (16)] ls st g M Q := q_T_next rfl
theorem b_X6_kinds_13 : q_T md d qP_X6_kinds 13 [] ls st g M Q = q_T md d qP_X6_kinds 16 [.iload 4, .ret 0] ls st g M Q := q_T_next rfl
theorem b_X6_kinds_16 : q_T md d qP_X6_kinds 16 [] ls st g M Q = q_T md d qP_X6_kinds 25 [.iload 3, .iconst (0), .iconst (1), .invokestatic 110, .ifCond .ne (28)] ls st g M Q := q_T_next rfl
theorem b_X6_kinds_25 : q_T md d qP_X6_kinds 25 [] ls st g M Q = q_T md d qP_X6_kinds 28 [.iconst (-7), .ret 0] ls st g M Q := q_T_next rfl
theorem b_X6_kinds_28 : q_T md d qP_X6_kinds 28 [] ls st g M Q = q_T md d qP_X6_kinds 50 [.aload 0, .getfield 601, .iload 2, .iaload, .istore 5, .aload 0, .getfield 602, .iload 2, .iaload, .istore 6, .iconst (0), .istore 7, .iconst (0), .istore 8] ls st g M Q := q_T_next rfl
theorem b_X6_kinds_50 : q_T md d qP_X6_kinds 50 [] ls st g M Q = q_T md d qP_X6_kinds 56 [.iload 8, .iload 3, .ifCond .ne (61)] ls st g M Q := q_T_next rfl
theorem b_X6_kinds_56 : q_T md d qP_X6_kinds 56 [] ls st g M Q = q_T md d qP_X6_kinds 61 [.iconst (6), .goto (63)] ls st g M Q := q_T_next rfl
theorem b_X6_kinds_61 : q_T md d qP_X6_kinds 61 [] ls st g M Q = q_T md d qP_X6_kinds 63 [.iconst (10)] ls st g M Q := q_T_next rfl
theorem b_X6_kinds_63 : q_T md d qP_X6_kinds 63 [] ls st g M Q = q_T md d qP_X6_kinds 66 [.if_icmp .ge (130)] ls st g M Q := q_T_next rfl
theorem b_X6_kinds_66 : q_T md d qP_X6_kinds 66 [] ls st g M Q = q_T md d qP_X6_kinds 75 [.aload 0, .getfield 601, .iload 2, .iload 3, .ifCond .ne (80)] ls st g M Q := q_T_next rfl
theorem b_X6_kinds_75 : q_T md d qP_X6_kinds 75 [] ls st g M Q = q_T md d qP_X6_kinds 80 [.iload 8, .goto (82)] ls st g M Q := q_T_next rfl
theorem b_X6_kinds_80 : q_T md d qP_X6_kinds 80 [] ls st g M Q = q_T md d qP_X6_kinds 82 [.iload 5] ls st g M Q := q_T_next rfl
theorem b_X6_kinds_82 : q_T md d qP_X6_kinds 82 [] ls st g M Q = q_T md d qP_X6_kinds 93 [.iastore, .aload 0, .getfield 602, .iload 2, .iload 3, .iconst (1), .if_icmp .ne (98)] ls st g M Q := q_T_next rfl
theorem b_X6_kinds_93 : q_T md d qP_X6_kinds 93 [] ls st g M Q = q_T md d qP_X6_kinds 98 [.iload 8, .goto (100)] ls st g M Q := q_T_next rfl
theorem b_X6_kinds_98 : q_T md d qP_X6_kinds 98 [] ls st g M Q = q_T md d qP_X6_kinds 100 [.iload 6] ls st g M Q := q_T_next rfl
theorem b_X6_kinds_100 : q_T md d qP_X6_kinds 100 [] ls st g M Q = q_T md d qP_X6_kinds 113 [.iastore, .iload 7, .aload 0, .iload 1, .iload 2, .invokestatic 181, .iconst (-1), .if_icmp .ne (120)] ls st g M Q := q_T_next rfl
theorem b_X6_kinds_113 : q_T md d qP_X6_kinds 113 [] ls st g M Q = q_T md d qP_X6_kinds 120 [.iconst (1), .iload 8, .ishl, .goto (121)] ls st g M Q := q_T_next rfl
theorem b_X6_kinds_120 : q_T md d qP_X6_kinds 120 [] ls st g M Q = q_T md d qP_X6_kinds 121 [.iconst (0)] ls st g M Q := q_T_next rfl
theorem b_X6_kinds_121 : q_T md d qP_X6_kinds 121 [] ls st g M Q = q_T md d qP_X6_kinds 130 [.ior, .istore 7, .iinc 8 (1), .goto (50)] ls st g M Q := q_T_next rfl
theorem b_X6_kinds_130 : q_T md d qP_X6_kinds 130 [] ls st g M Q = q_T md d qP_X6_kinds 149 [.aload 0, .getfield 601, .iload 2, .iload 5, .iastore, .aload 0, .getfield 602, .iload 2, .iload 6, .iastore, .iload 7, .ret 0] ls st g M Q := q_T_next rfl
theorem s_X6_states {w : Nat} {x0 : Int} {x1 : Int} {x2 : Int} {x3 : Int} : q_S md d 184 [qR 6 w, qI x0, qI x1, qI x2, qI x3] g M Q = q_T md d qP_X6_states 0 [] [qR 6 w, qI x0, qI x1, qI x2, qI x3, qS 0, qS 0, qS 0, qS 0, qS 0, qS 0] [] g M Q := rfl
theorem b_X6_states_0 : q_T md d qP_X6_states 0 [] ls st g M Q = q_T md d qP_X6_states 13 [.aload 0, .iload 1, .iload 2, .invokestatic 180, .istore 5, .iload 5, .ifCond .eq (16)] ls st g M Q := q_T_next rfl
theorem b_X6_states_13 : q_T md d qP_X6_states 13 [] ls st g M Q = q_T md d qP_X6_states 16 [.iload 5, .ret 0] ls st g M Q := q_T_next rfl
theorem b_X6_states_16 : q_T md d qP_X6_states 16 [] ls st g M Q = q_T md d qP_X6_states 25 [.iload 3, .iconst (0), .iconst (1), .invokestatic 110, .ifCond .eq (35)] ls st g M Q := q_T_next rfl
theorem b_X6_states_25 : q_T md d qP_X6_states 25 [] ls st g M Q = q_T md d qP_X6_states 35 [.iload 4, .iconst (0), .iconst (1), .invokestatic 110, .ifCond .ne (38)] ls st g M Q := q_T_next rfl
theorem b_X6_states_35 : q_T md d qP_X6_states 35 [] ls st g M Q = q_T md d qP_X6_states 38 [.iconst (-7), .ret 0] ls st g M Q := q_T_next rfl
theorem b_X6_states_38 : q_T md d qP_X6_states 38 [] ls st g M Q = q_T md d qP_X6_states 59 [.aload 0, .getfield 604, .iconst (3), .iload 2, .imul, .iload 3, .iadd, .iaload, .istore 6, .iconst (0), .istore 7, .iconst (-1), .istore 8, .iconst (0), .istore 9] ls st g M Q := q_T_next rfl
theorem b_X6_states_59 : q_T md d qP_X6_states 59 [] ls st g M Q = q_T md d qP_X6_states 66 [.iload 9, .iconst (99), .if_icmp .gt (136)] ls st g M Q := q_T_next rfl
theorem b_X6_states_66 : q_T md d qP_X6_states 66 [] ls st g M Q = q_T md d qP_X6_states 88 [.aload 0, .getfield 604, .iconst (3), .iload 2, .imul, .iload 3, .iadd, .iload 9, .iastore, .aload 0, .iload 1, .iload 2, .invokestatic 181, .iconst (-1), .if_icmp .ne (92)] ls st g M Q := q_T_next rfl
theorem b_X6_states_88 : q_T md d qP_X6_states 88 [] ls st g M Q = q_T md d qP_X6_states 92 [.iconst (1), .goto (93)] ls st g M Q := q_T_next rfl
theorem b_X6_states_92 : q_T md d qP_X6_states 92 [] ls st g M Q = q_T md d qP_X6_states 93 [.iconst (0)] ls st g M Q := q_T_next rfl
theorem b_X6_states_93 : q_T md d qP_X6_states 93 [] ls st g M Q = q_T md d qP_X6_states 102 [.istore 10, .iload 7, .iload 10, .ifCond .eq (106)] ls st g M Q := q_T_next rfl
theorem b_X6_states_102 : q_T md d qP_X6_states 102 [] ls st g M Q = q_T md d qP_X6_states 106 [.iconst (1), .goto (107)] ls st g M Q := q_T_next rfl
theorem b_X6_states_106 : q_T md d qP_X6_states 106 [] ls st g M Q = q_T md d qP_X6_states 107 [.iconst (0)] ls st g M Q := q_T_next rfl
theorem b_X6_states_107 : q_T md d qP_X6_states 107 [] ls st g M Q = q_T md d qP_X6_states 115 [.iadd, .istore 7, .iload 10, .ifCond .eq (126)] ls st g M Q := q_T_next rfl
theorem b_X6_states_115 : q_T md d qP_X6_states 115 [] ls st g M Q = q_T md d qP_X6_states 121 [.iload 8, .iconst (-1), .if_icmp .ne (126)] ls st g M Q := q_T_next rfl
theorem b_X6_states_121 : q_T md d qP_X6_states 121 [] ls st g M Q = q_T md d qP_X6_states 126 [.iload 9, .goto (128)] ls st g M Q := q_T_next rfl
theorem b_X6_states_126 : q_T md d qP_X6_states 126 [] ls st g M Q = q_T md d qP_X6_states 128 [.iload 8] ls st g M Q := q_T_next rfl
theorem b_X6_states_128 : q_T md d qP_X6_states 128 [] ls st g M Q = q_T md d qP_X6_states 136 [.istore 8, .iinc 9 (1), .goto (59)] ls st g M Q := q_T_next rfl
theorem b_X6_states_136 : q_T md d qP_X6_states 136 [] ls st g M Q = q_T md d qP_X6_states 153 [.aload 0, .getfield 604, .iconst (3), .iload 2, .imul, .iload 3, .iadd, .iload 6, .iastore, .iload 4, .ifCond .ne (158)] ls st g M Q := q_T_next rfl
theorem b_X6_states_153 : q_T md d qP_X6_states 153 [] ls st g M Q = q_T md d qP_X6_states 158 [.iload 7, .goto (160)] ls st g M Q := q_T_next rfl
theorem b_X6_states_158 : q_T md d qP_X6_states 158 [] ls st g M Q = q_T md d qP_X6_states 160 [.iload 8] ls st g M Q := q_T_next rfl
theorem b_X6_states_160 : q_T md d qP_X6_states 160 [] ls st g M Q = q_T md d qP_X6_states 161 [.ret 0] ls st g M Q := q_T_next rfl
theorem s_X6_whose {w : Nat} {x0 : Int} : q_S md d 185 [qR 6 w, qI x0] g M Q = q_T md d qP_X6_whose 0 [] [qR 6 w, qI x0, qS 0, qS 0, qS 0] [] g M Q := rfl
theorem b_X6_whose_0 : q_T md d qP_X6_whose 0 [] ls st g M Q = q_T md d qP_X6_whose 10 [.aload 0, .iload 1, .invokestatic 179, .istore 2, .iload 2, .ifCond .eq (12)] ls st g M Q := q_T_next rfl
theorem b_X6_whose_10 : q_T md d qP_X6_whose 10 [] ls st g M Q = q_T md d qP_X6_whose 12 [.iload 2, .ret 0] ls st g M Q := q_T_next rfl
theorem b_X6_whose_12 : q_T md d qP_X6_whose 12 [] ls st g M Q = q_T md d qP_X6_whose 17 [.iconst (0), .istore 3, .iconst (0), .istore 4] ls st g M Q := q_T_next rfl
theorem b_X6_whose_17 : q_T md d qP_X6_whose 17 [] ls st g M Q = q_T md d qP_X6_whose 26 [.iload 4, .aload 0, .getfield 600, .if_icmp .ge (54)] ls st g M Q := q_T_next rfl
theorem b_X6_whose_26 : q_T md d qP_X6_whose 26 [] ls st g M Q = q_T md d qP_X6_whose 38 [.iload 3, .aload 0, .iload 1, .iload 4, .invokestatic 181, .iconst (-1), .if_icmp .ne (45)] ls st g M Q := q_T_next rfl
theorem b_X6_whose_38 : q_T md d qP_X6_whose 38 [] ls st g M Q = q_T md d qP_X6_whose 45 [.iconst (1), .iload 4, .ishl, .goto (46)] ls st g M Q := q_T_next rfl
theorem b_X6_whose_45 : q_T md d qP_X6_whose 45 [] ls st g M Q = q_T md d qP_X6_whose 46 [.iconst (0)] ls st g M Q := q_T_next rfl
theorem b_X6_whose_46 : q_T md d qP_X6_whose 46 [] ls st g M Q = q_T md d qP_X6_whose 54 [.ior, .istore 3, .iinc 4 (1), .goto (17)] ls st g M Q := q_T_next rfl
theorem b_X6_whose_54 : q_T md d qP_X6_whose 54 [] ls st g M Q = q_T md d qP_X6_whose 56 [.iload 3, .ret 0] ls st g M Q := q_T_next rfl
theorem s_X6_laws {w : Nat} {x0 : Int} {x1 : Int} : q_S md d 186 [qR 6 w, qI x0, qI x1] g M Q = q_T md d qP_X6_laws 0 [] [qR 6 w, qI x0, qI x1, qS 0, qS 0, qS 0, qS 0] [] g M Q := rfl
theorem b_X6_laws_0 : q_T md d qP_X6_laws 0 [] ls st g M Q = q_T md d qP_X6_laws 11 [.aload 0, .iload 1, .iload 2, .invokestatic 180, .istore 3, .iload 3, .ifCond .eq (13)] ls st g M Q := q_T_next rfl
theorem b_X6_laws_11 : q_T md d qP_X6_laws 11 [] ls st g M Q = q_T md d qP_X6_laws 13 [.iload 3, .ret 0] ls st g M Q := q_T_next rfl
theorem b_X6_laws_13 : q_T md d qP_X6_laws 13 [] ls st g M Q = q_T md d qP_X6_laws 25 [.aload 0, .getfield 611, .istore 4, .iconst (0), .istore 5, .iconst (0), .istore 6] ls st g M Q := q_T_next rfl
theorem b_X6_laws_25 : q_T md d qP_X6_laws 25 [] ls st g M Q = q_T md d qP_X6_laws 34 [.iload 6, .aload 0, .getfield 610, .if_icmp .ge (69)] ls st g M Q := q_T_next rfl
theorem b_X6_laws_34 : q_T md d qP_X6_laws 34 [] ls st g M Q = q_T md d qP_X6_laws 52 [.aload 0, .iload 6, .putfield 611, .iload 5, .aload 0, .iload 1, .iload 2, .invokestatic 181, .iconst (-1), .if_icmp .ne (59)] ls st g M Q := q_T_next rfl
theorem b_X6_laws_52 : q_T md d qP_X6_laws 52 [] ls st g M Q = q_T md d qP_X6_laws 59 [.iconst (1), .iload 6, .ishl, .goto (60)] ls st g M Q := q_T_next rfl
theorem b_X6_laws_59 : q_T md d qP_X6_laws 59 [] ls st g M Q = q_T md d qP_X6_laws 60 [.iconst (0)] ls st g M Q := q_T_next rfl
theorem b_X6_laws_60 : q_T md d qP_X6_laws 60 [] ls st g M Q = q_T md d qP_X6_laws 69 [.ior, .istore 5, .iinc 6 (1), .goto (25)] ls st g M Q := q_T_next rfl
theorem b_X6_laws_69 : q_T md d qP_X6_laws 69 [] ls st g M Q = q_T md d qP_X6_laws 78 [.aload 0, .iload 4, .putfield 611, .iload 5, .ret 0] ls st g M Q := q_T_next rfl
theorem s_X6_film {w : Nat} {x0 : Int} {x1 : Int} {x2 : Int} : q_S md d 187 [qR 6 w, qI x0, qI x1, qI x2] g M Q = q_T md d qP_X6_film 0 [] [qR 6 w, qI x0, qI x1, qI x2, qS 0] [] g M Q := rfl
theorem b_X6_film_0 : q_T md d qP_X6_film 0 [] ls st g M Q = q_T md d qP_X6_film 9 [.iload 1, .iconst (0), .iconst (3), .invokestatic 110, .ifCond .ne (12)] ls st g M Q := q_T_next rfl
theorem b_X6_film_9 : q_T md d qP_X6_film 9 [] ls st g M Q = q_T md d qP_X6_film 12 [.iconst (-2), .ret 0] ls st g M Q := q_T_next rfl
theorem b_X6_film_12 : q_T md d qP_X6_film 12 [] ls st g M Q = q_T md d qP_X6_film 20 [.aload 0, .iload 2, .invokestatic 112, .ifCond .ne (23)] ls st g M Q := q_T_next rfl
theorem b_X6_film_20 : q_T md d qP_X6_film 20 [] ls st g M Q = q_T md d qP_X6_film 23 [.iconst (-5), .ret 0] ls st g M Q := q_T_next rfl
theorem b_X6_film_23 : q_T md d qP_X6_film 23 [] ls st g M Q = q_T md d qP_X6_film 33 [.iload 3, .iconst (0), .iconst (20), .invokestatic 110, .ifCond .ne (36)] ls st g M Q := q_T_next rfl
theorem b_X6_film_33 : q_T md d qP_X6_film 33 [] ls st g M Q = q_T md d qP_X6_film 36 [.iconst (-7), .ret 0] ls st g M Q := q_T_next rfl
theorem b_X6_film_36 : q_T md d qP_X6_film 36 [] ls st g M Q = q_T md d qP_X6_film 57 [.aload 0, .getfield 615, .iload 1, .iconst (0), .iastore, .aload 0, .getfield 616, .iload 1, .iload 3, .iastore, .aload 0, .invokestatic 154, .iconst (0), .istore 4] ls st g M Q := q_T_next rfl
theorem b_X6_film_57 : q_T md d qP_X6_film 57 [] ls st g M Q = q_T md d qP_X6_film 64 [.iload 4, .iconst (40), .if_icmp .ge (114)] ls st g M Q := q_T_next rfl
theorem b_X6_film_64 : q_T md d qP_X6_film 64 [] ls st g M Q = q_T md d qP_X6_film 83 [.aload 0, .getfield 617, .iconst (40), .iload 1, .imul, .iload 4, .iadd, .iconst (0), .iastore, .iload 4, .iload 3, .if_icmp .ge (108)] ls st g M Q := q_T_next rfl
theorem b_X6_film_83 : q_T md d qP_X6_film 83 [] ls st g M Q = q_T md d qP_X6_film 108 [.aload 0, .invokestatic 151, .pop, .aload 0, .getfield 617, .iconst (40), .iload 1, .imul, .iload 4, .iadd, .aload 0, .getfield 604, .iconst (3), .iload 2, .imul, .iaload, .iastore] ls st g M Q := q_T_next rfl
theorem b_X6_film_108 : q_T md d qP_X6_film 108 [] ls st g M Q = q_T md d qP_X6_film 114 [.iinc 4 (1), .goto (57)] ls st g M Q := q_T_next rfl
theorem b_X6_film_114 : q_T md d qP_X6_film 114 [] ls st g M Q = q_T md d qP_X6_film 120 [.aload 0, .invokestatic 155, .iload 3, .ret 0] ls st g M Q := q_T_next rfl
theorem s_X6_weather {w : Nat} {x0 : Int} : q_S md d 188 [qR 6 w, qI x0] g M Q = q_T md d qP_X6_weather 0 [] [qR 6 w, qI x0, qS 0, qS 0, qS 0, qS 0] [] g M Q := rfl
theorem b_X6_weather_0 : q_T md d qP_X6_weather 0 [] ls st g M Q = q_T md d qP_X6_weather 12 [.iload 1, .i2l, .jsr (1), .ladd, .lstore 2, .aload 0, .invokestatic 154, .iconst (0), .istore 4] ls st g M Q := q_T_next rfl
theorem b_X6_weather_12 : q_T md d qP_X6_weather 12 [] ls st g M Q = q_T md d qP_X6_weather 19 [.iload 4, .iconst (8), .if_icmp .ge (94)] ls st g M Q := q_T_next rfl
theorem b_X6_weather_19 : q_T md d qP_X6_weather 19 [] ls st g M Q = q_T md d qP_X6_weather 56 [.lload 2, .jsr (48271), .lmul, .jsr (2147483647), .lrem, .lstore 2, .lload 2, .jsr (5), .lrem, .l2i, .istore 5, .lload 2, .jsr (48271), .lmul, .jsr (2147483647), .lrem, .lstore 2, .iload 5, .aload 0, .getfield 600, .if_icmp .ge (83)] ls st g M Q := q_T_next rfl
theorem b_X6_weather_56 : q_T md d qP_X6_weather 56 [] ls st g M Q = q_T md d qP_X6_weather 83 [.aload 0, .getfield 604, .iconst (3), .iload 5, .imul, .lload 2, .jsr (100), .lrem, .l2i, .iastore, .aload 0, .getfield 604, .iconst (3), .iload 5, .imul, .iconst (2), .iadd, .iconst (-1), .iastore] ls st g M Q := q_T_next rfl
theorem b_X6_weather_83 : q_T md d qP_X6_weather 83 [] ls st g M Q = q_T md d qP_X6_weather 94 [.aload 0, .invokestatic 151, .pop, .iinc 4 (1), .goto (12)] ls st g M Q := q_T_next rfl
theorem b_X6_weather_94 : q_T md d qP_X6_weather 94 [] ls st g M Q = q_T md d qP_X6_weather 115 [.aload 0, .invokestatic 153, .istore 4, .aload 0, .aload 0, .invokestatic 114, .putfield 636, .aload 0, .invokestatic 155, .iload 4, .ret 0] ls st g M Q := q_T_next rfl
theorem s_X6_drawn {w : Nat} {x0 : Int} {x1 : Int} : q_S md d 189 [qR 6 w, qI x0, qI x1] g M Q = q_T md d qP_X6_drawn 0 [] [qR 6 w, qI x0, qI x1, qS 0] [] g M Q := rfl
theorem b_X6_drawn_0 : q_T md d qP_X6_drawn 0 [] ls st g M Q = q_T md d qP_X6_drawn 11 [.iload 1, .iconst (0), .iconst (99999), .invokestatic 110, .ifCond .eq (20)] ls st g M Q := q_T_next rfl
theorem b_X6_drawn_11 : q_T md d qP_X6_drawn 11 [] ls st g M Q = q_T md d qP_X6_drawn 20 [.iload 2, .iconst (0), .iconst (1), .invokestatic 110, .ifCond .ne (23)] ls st g M Q := q_T_next rfl
theorem b_X6_drawn_20 : q_T md d qP_X6_drawn 20 [] ls st g M Q = q_T md d qP_X6_drawn 23 [.iconst (-2), .ret 0] ls st g M Q := q_T_next rfl
theorem b_X6_drawn_23 : q_T md d qP_X6_drawn 23 [] ls st g M Q = q_T md d qP_X6_drawn 33 [.aload 0, .iload 1, .invokestatic 188, .istore 3, .iload 2, .ifCond .ne (37)] ls st g M Q := q_T_next rfl
theorem b_X6_drawn_33 : q_T md d qP_X6_drawn 33 [] ls st g M Q = q_T md d qP_X6_drawn 37 [.iload 3, .goto (41)] ls st g M Q := q_T_next rfl
theorem b_X6_drawn_37 : q_T md d qP_X6_drawn 37 [] ls st g M Q = q_T md d qP_X6_drawn 41 [.aload 0, .getfield 636] ls st g M Q := q_T_next rfl
theorem b_X6_drawn_41 : q_T md d qP_X6_drawn 41 [] ls st g M Q = q_T md d qP_X6_drawn 42 [.ret 0] ls st g M Q := q_T_next rfl
theorem s_X6_odds {w : Nat} {x0 : Int} {x1 : Int} {x2 : Int} {x3 : Int} : q_S md d 190 [qR 6 w, qI x0, qI x1, qI x2, qI x3] g M Q = q_T md d qP_X6_odds 0 [] [qR 6 w, qI x0, qI x1, qI x2, qI x3, qS 0, qS 0, qS 0] [] g M Q := rfl
theorem b_X6_odds_0 : q_T md d qP_X6_odds 0 [] ls st g M Q = q_T md d qP_X6_odds 11 [.iload 1, .iconst (0), .iconst (99999), .invokestatic 110, .ifCond .eq (40)] ls st g M Q := q_T_next rfl
theorem b_X6_odds_11 : q_T md d qP_X6_odds 11 [] ls st g M Q = q_T md d qP_X6_odds 21 [.iload 2, .iconst (1), .iconst (40), .invokestatic 110, .ifCond .eq (40)] ls st g M Q := q_T_next rfl
theorem b_X6_odds_21 : q_T md d qP_X6_odds 21 [] ls st g M Q = q_T md d qP_X6_odds 30 [.iload 3, .iconst (0), .iconst (5), .invokestatic 110, .ifCond .eq (40)] ls st g M Q := q_T_next rfl
theorem b_X6_odds_30 : q_T md d qP_X6_odds 30 [] ls st g M Q = q_T md d qP_X6_odds 40 [.iload 4, .iconst (0), .iconst (1), .invokestatic 110, .ifCond .ne (44)] ls st g M Q := q_T_next rfl
theorem b_X6_odds_40 : q_T md d qP_X6_odds 40 [] ls st g M Q = q_T md d qP_X6_odds 44 [.jsr (-4611686018427387904), .lreturn] ls st g M Q := q_T_next rfl
theorem b_X6_odds_44 : q_T md d qP_X6_odds 44 [] ls st g M Q = q_T md d qP_X6_odds 50 [.jsr (0), .lstore 5, .iconst (0), .istore 7] ls st g M Q := q_T_next rfl
theorem b_X6_odds_50 : q_T md d qP_X6_odds 50 [] ls st g M Q = q_T md d qP_X6_odds 56 [.iload 7, .iload 2, .if_icmp .ge (89)] ls st g M Q := q_T_next rfl
theorem b_X6_odds_56 : q_T md d qP_X6_odds 56 [] ls st g M Q = q_T md d qP_X6_odds 75 [.aload 0, .iload 1, .iload 7, .iadd, .invokestatic 188, .pop, .lload 5, .aload 0, .getfield 636, .iload 3, .if_icmp .gt (79)] ls st g M Q := q_T_next rfl
theorem b_X6_odds_75 : q_T md d qP_X6_odds 75 [] ls st g M Q = q_T md d qP_X6_odds 79 [.jsr (1), .goto (80)] ls st g M Q := q_T_next rfl
theorem b_X6_odds_79 : q_T md d qP_X6_odds 79 [] ls st g M Q = q_T md d qP_X6_odds 80 [.jsr (0)] ls st g M Q := q_T_next rfl
theorem b_X6_odds_80 : q_T md d qP_X6_odds 80 [] ls st g M Q = q_T md d qP_X6_odds 89 [.ladd, .lstore 5, .iinc 7 (1), .goto (50)] ls st g M Q := q_T_next rfl
theorem b_X6_odds_89 : q_T md d qP_X6_odds 89 [] ls st g M Q = q_T md d qP_X6_odds 99 [.lload 5, .iload 2, .i2l, .iload 4, .invokestatic 177, .lreturn] ls st g M Q := q_T_next rfl
theorem s_X6_image {w : Nat} : q_S md d 191 [qR 6 w] g M Q = q_T md d qP_X6_image 0 [] [qR 6 w, qS 0] [] g M Q := rfl
theorem b_X6_image_0 : q_T md d qP_X6_image 0 [] ls st g M Q = q_T md d qP_X6_image 7 [.aload 0, .iconst (1), .putfield 612, .iconst (0), .istore 1] ls st g M Q := q_T_next rfl
theorem b_X6_image_7 : q_T md d qP_X6_image 7 [] ls st g M Q = q_T md d qP_X6_image 13 [.iload 1, .iconst (15), .if_icmp .ge (31)] ls st g M Q := q_T_next rfl
theorem b_X6_image_13 : q_T md d qP_X6_image 13 [] ls st g M Q = q_T md d qP_X6_image 31 [.aload 0, .getfield 613, .iload 1, .aload 0, .getfield 604, .iload 1, .iaload, .iastore, .iinc 1 (1), .goto (7)] ls st g M Q := q_T_next rfl
theorem b_X6_image_31 : q_T md d qP_X6_image 31 [] ls st g M Q = q_T md d qP_X6_image 33 [.iconst (0), .istore 1] ls st g M Q := q_T_next rfl
theorem b_X6_image_33 : q_T md d qP_X6_image 33 [] ls st g M Q = q_T md d qP_X6_image 39 [.iload 1, .iconst (20), .if_icmp .ge (60)] ls st g M Q := q_T_next rfl
theorem b_X6_image_39 : q_T md d qP_X6_image 39 [] ls st g M Q = q_T md d qP_X6_image 60 [.aload 0, .getfield 613, .iconst (15), .iload 1, .iadd, .aload 0, .getfield 603, .iload 1, .iaload, .iastore, .iinc 1 (1), .goto (33)] ls st g M Q := q_T_next rfl
theorem b_X6_image_60 : q_T md d qP_X6_image 60 [] ls st g M Q = q_T md d qP_X6_image 95 [.aload 0, .getfield 614, .iconst (0), .aload 0, .getfield 600, .iastore, .aload 0, .getfield 614, .iconst (1), .aload 0, .getfield 605, .iastore, .aload 0, .getfield 614, .iconst (2), .aload 0, .getfield 611, .iastore, .aload 0, .getfield 600, .ret 0] ls st g M Q := q_T_next rfl
theorem s_X6_back {w : Nat} : q_S md d 192 [qR 6 w] g M Q = q_T md d qP_X6_back 0 [] [qR 6 w, qS 0] [] g M Q := rfl
theorem b_X6_back_0 : q_T md d qP_X6_back 0 [] ls st g M Q = q_T md d qP_X6_back 7 [.aload 0, .getfield 612, .ifCond .ne (10)] ls st g M Q := q_T_next rfl
theorem b_X6_back_7 : q_T md d qP_X6_back 7 [] ls st g M Q = q_T md d qP_X6_back 10 [.iconst (-3), .ret 0] ls st g M Q := q_T_next rfl
theorem b_X6_back_10 : q_T md d qP_X6_back 10 [] ls st g M Q = q_T md d qP_X6_back 12 [.iconst (0), .istore 1] ls st g M Q := q_T_next rfl
theorem b_X6_back_12 : q_T md d qP_X6_back 12 [] ls st g M Q = q_T md d qP_X6_back 18 [.iload 1, .iconst (15), .if_icmp .ge (36)] ls st g M Q := q_T_next rfl
theorem b_X6_back_18 : q_T md d qP_X6_back 18 [] ls st g M Q = q_T md d qP_X6_back 36 [.aload 0, .getfield 604, .iload 1, .aload 0, .getfield 613, .iload 1, .iaload, .iastore, .iinc 1 (1), .goto (12)] ls st g M Q := q_T_next rfl
theorem b_X6_back_36 : q_T md d qP_X6_back 36 [] ls st g M Q = q_T md d qP_X6_back 38 [.iconst (0), .istore 1] ls st g M Q := q_T_next rfl
theorem b_X6_back_38 : q_T md d qP_X6_back 38 [] ls st g M Q = q_T md d qP_X6_back 44 [.iload 1, .iconst (20), .if_icmp .ge (65)] ls st g M Q := q_T_next rfl
theorem b_X6_back_44 : q_T md d qP_X6_back 44 [] ls st g M Q = q_T md d qP_X6_back 65 [.aload 0, .getfield 603, .iload 1, .aload 0, .getfield 613, .iconst (15), .iload 1, .iadd, .iaload, .iastore, .iinc 1 (1), .goto (38)] ls st g M Q := q_T_next rfl
theorem b_X6_back_65 : q_T md d qP_X6_back 65 [] ls st g M Q = q_T md d qP_X6_back 100 [.aload 0, .aload 0, .getfield 614, .iconst (0), .iaload, .putfield 600, .aload 0, .aload 0, .getfield 614, .iconst (1), .iaload, .putfield 605, .aload 0, .aload 0, .getfield 614, .iconst (2), .iaload, .putfield 611, .aload 0, .getfield 600, .ret 0] ls st g M Q := q_T_next rfl
theorem s_X6_sheet {w : Nat} {x0 : Int} {x1 : Int} {x2 : Int} : q_S md d 193 [qR 6 w, qI x0, qI x1, qI x2] g M Q = q_T md d qP_X6_sheet 0 [] [qR 6 w, qI x0, qI x1, qI x2, qS 0] [] g M Q := rfl
theorem b_X6_sheet_0 : q_T md d qP_X6_sheet 0 [] ls st g M Q = q_T md d qP_X6_sheet 9 [.iload 1, .iconst (0), .iconst (3), .invokestatic 110, .ifCond .eq (29)] ls st g M Q := q_T_next rfl
theorem b_X6_sheet_9 : q_T md d qP_X6_sheet 9 [] ls st g M Q = q_T md d qP_X6_sheet 18 [.iload 2, .iconst (-1), .iconst (2), .invokestatic 110, .ifCond .eq (29)] ls st g M Q := q_T_next rfl
theorem b_X6_sheet_18 : q_T md d qP_X6_sheet 18 [] ls st g M Q = q_T md d qP_X6_sheet 23 [.iload 2, .iconst (-1), .if_icmp .eq (32)] ls st g M Q := q_T_next rfl
theorem b_X6_sheet_23 : q_T md d qP_X6_sheet 23 [] ls st g M Q = q_T md d qP_X6_sheet 29 [.iload 3, .iconst (40), .if_icmp .le (32)] ls st g M Q := q_T_next rfl
theorem b_X6_sheet_29 : q_T md d qP_X6_sheet 29 [] ls st g M Q = q_T md d qP_X6_sheet 32 [.iconst (-2), .ret 0] ls st g M Q := q_T_next rfl
theorem b_X6_sheet_32 : q_T md d qP_X6_sheet 32 [] ls st g M Q = q_T md d qP_X6_sheet 37 [.iload 2, .iconst (-1), .if_icmp .eq (44)] ls st g M Q := q_T_next rfl
theorem b_X6_sheet_37 : q_T md d qP_X6_sheet 37 [] ls st g M Q = q_T md d qP_X6_sheet 41 [.iload 3, .ifCond .ge (44)] ls st g M Q := q_T_next rfl
theorem b_X6_sheet_41 : q_T md d qP_X6_sheet 41 [] ls st g M Q = q_T md d qP_X6_sheet 44 [.iconst (-14), .ret 0] ls st g M Q := q_T_next rfl
theorem b_X6_sheet_44 : q_T md d qP_X6_sheet 44 [] ls st g M Q = q_T md d qP_X6_sheet 61 [.aload 0, .getfield 615, .iload 1, .iload 2, .iastore, .aload 0, .getfield 616, .iload 1, .iload 2, .iconst (-1), .if_icmp .ne (65)] ls st g M Q := q_T_next rfl
theorem b_X6_sheet_61 : q_T md d qP_X6_sheet 61 [] ls st g M Q = q_T md d qP_X6_sheet 65 [.iconst (0), .goto (66)] ls st g M Q := q_T_next rfl
theorem b_X6_sheet_65 : q_T md d qP_X6_sheet 65 [] ls st g M Q = q_T md d qP_X6_sheet 66 [.iload 3] ls st g M Q := q_T_next rfl
theorem b_X6_sheet_66 : q_T md d qP_X6_sheet 66 [] ls st g M Q = q_T md d qP_X6_sheet 70 [.iastore, .iconst (0), .istore 4] ls st g M Q := q_T_next rfl
theorem b_X6_sheet_70 : q_T md d qP_X6_sheet 70 [] ls st g M Q = q_T md d qP_X6_sheet 77 [.iload 4, .iconst (40), .if_icmp .ge (96)] ls st g M Q := q_T_next rfl
theorem b_X6_sheet_77 : q_T md d qP_X6_sheet 77 [] ls st g M Q = q_T md d qP_X6_sheet 96 [.aload 0, .getfield 617, .iconst (40), .iload 1, .imul, .iload 4, .iadd, .iconst (0), .iastore, .iinc 4 (1), .goto (70)] ls st g M Q := q_T_next rfl
theorem b_X6_sheet_96 : q_T md d qP_X6_sheet 96 [] ls st g M Q = q_T md d qP_X6_sheet 98 [.iconst (1), .ret 0] ls st g M Q := q_T_next rfl
theorem s_X6_cell {w : Nat} {x0 : Int} {x1 : Int} {x2 : Int} : q_S md d 194 [qR 6 w, qI x0, qI x1, qI x2] g M Q = q_T md d qP_X6_cell 0 [] [qR 6 w, qI x0, qI x1, qI x2] [] g M Q := rfl
theorem b_X6_cell_0 : q_T md d qP_X6_cell 0 [] ls st g M Q = q_T md d qP_X6_cell 9 [.iload 1, .iconst (0), .iconst (3), .invokestatic 110, .ifCond .ne (12)] ls st g M Q := q_T_next rfl
theorem b_X6_cell_9 : q_T md d qP_X6_cell 9 [] ls st g M Q = q_T md d qP_X6_cell 12 [.iconst (-2), .ret 0] ls st g M Q := q_T_next rfl
theorem b_X6_cell_12 : q_T md d qP_X6_cell 12 [] ls st g M Q = q_T md d qP_X6_cell 22 [.aload 0, .getfield 615, .iload 1, .iaload, .iconst (-1), .if_icmp .ne (25)] ls st g M Q := q_T_next rfl
theorem b_X6_cell_22 : q_T md d qP_X6_cell 22 [] ls st g M Q = q_T md d qP_X6_cell 25 [.iconst (-11), .ret 0] ls st g M Q := q_T_next rfl
theorem b_X6_cell_25 : q_T md d qP_X6_cell 25 [] ls st g M Q = q_T md d qP_X6_cell 41 [.iload 2, .iconst (0), .aload 0, .getfield 616, .iload 1, .iaload, .iconst (1), .isub, .invokestatic 110, .ifCond .ne (44)] ls st g M Q := q_T_next rfl
theorem b_X6_cell_41 : q_T md d qP_X6_cell 41 [] ls st g M Q = q_T md d qP_X6_cell 44 [.iconst (-12), .ret 0] ls st g M Q := q_T_next rfl
theorem b_X6_cell_44 : q_T md d qP_X6_cell 44 [] ls st g M Q = q_T md d qP_X6_cell 63 [.aload 0, .getfield 617, .iconst (40), .iload 1, .imul, .iload 2, .iadd, .aload 0, .getfield 615, .iload 1, .iaload, .ifCond .ne (68)] ls st g M Q := q_T_next rfl
theorem b_X6_cell_63 : q_T md d qP_X6_cell 63 [] ls st g M Q = q_T md d qP_X6_cell 68 [.iload 3, .i2b, .goto (84)] ls st g M Q := q_T_next rfl
theorem b_X6_cell_68 : q_T md d qP_X6_cell 68 [] ls st g M Q = q_T md d qP_X6_cell 78 [.aload 0, .getfield 615, .iload 1, .iaload, .iconst (1), .if_icmp .ne (83)] ls st g M Q := q_T_next rfl
theorem b_X6_cell_78 : q_T md d qP_X6_cell 78 [] ls st g M Q = q_T md d qP_X6_cell 83 [.iload 3, .i2s, .goto (84)] ls st g M Q := q_T_next rfl
theorem b_X6_cell_83 : q_T md d qP_X6_cell 83 [] ls st g M Q = q_T md d qP_X6_cell 84 [.iload 3] ls st g M Q := q_T_next rfl
theorem b_X6_cell_84 : q_T md d qP_X6_cell 84 [] ls st g M Q = q_T md d qP_X6_cell 87 [.iastore, .iconst (1), .ret 0] ls st g M Q := q_T_next rfl
theorem s_X6_copy {w : Nat} {x0 : Int} {x1 : Int} {x2 : Int} {x3 : Int} {x4 : Int} : q_S md d 195 [qR 6 w, qI x0, qI x1, qI x2, qI x3, qI x4] g M Q = q_T md d qP_X6_copy 0 [] [qR 6 w, qI x0, qI x1, qI x2, qI x3, qI x4, qS 0, qS 0, qS 0, qS 0] [] g M Q := rfl
theorem b_X6_copy_0 : q_T md d qP_X6_copy 0 [] ls st g M Q = q_T md d qP_X6_copy 9 [.iload 1, .iconst (0), .iconst (3), .invokestatic 110, .ifCond .eq (18)] ls st g M Q := q_T_next rfl
theorem b_X6_copy_9 : q_T md d qP_X6_copy 9 [] ls st g M Q = q_T md d qP_X6_copy 18 [.iload 3, .iconst (0), .iconst (3), .invokestatic 110, .ifCond .ne (21)] ls st g M Q := q_T_next rfl
theorem b_X6_copy_18 : q_T md d qP_X6_copy 18 [] ls st g M Q = q_T md d qP_X6_copy 21 [.iconst (-2), .ret 0] ls st g M Q := q_T_next rfl
theorem b_X6_copy_21 : q_T md d qP_X6_copy 21 [] ls st g M Q = q_T md d qP_X6_copy 31 [.aload 0, .getfield 615, .iload 1, .iaload, .iconst (-1), .if_icmp .eq (41)] ls st g M Q := q_T_next rfl
theorem b_X6_copy_31 : q_T md d qP_X6_copy 31 [] ls st g M Q = q_T md d qP_X6_copy 41 [.aload 0, .getfield 615, .iload 3, .iaload, .iconst (-1), .if_icmp .ne (44)] ls st g M Q := q_T_next rfl
theorem b_X6_copy_41 : q_T md d qP_X6_copy 41 [] ls st g M Q = q_T md d qP_X6_copy 44 [.iconst (-11), .ret 0] ls st g M Q := q_T_next rfl
theorem b_X6_copy_44 : q_T md d qP_X6_copy 44 [] ls st g M Q = q_T md d qP_X6_copy 59 [.aload 0, .getfield 615, .iload 1, .iaload, .aload 0, .getfield 615, .iload 3, .iaload, .if_icmp .eq (62)] ls st g M Q := q_T_next rfl
theorem b_X6_copy_59 : q_T md d qP_X6_copy 59 [] ls st g M Q = q_T md d qP_X6_copy 62 [.iconst (-13), .ret 0] ls st g M Q := q_T_next rfl
theorem b_X6_copy_62 : q_T md d qP_X6_copy 62 [] ls st g M Q = q_T md d qP_X6_copy 67 [.iload 5, .ifCond .lt (124)] ls st g M Q := q_T_next rfl
theorem b_X6_copy_67 : q_T md d qP_X6_copy 67 [] ls st g M Q = q_T md d qP_X6_copy 71 [.iload 2, .ifCond .lt (124)] ls st g M Q := q_T_next rfl
theorem b_X6_copy_71 : q_T md d qP_X6_copy 71 [] ls st g M Q = q_T md d qP_X6_copy 76 [.iload 4, .ifCond .lt (124)] ls st g M Q := q_T_next rfl
theorem b_X6_copy_76 : q_T md d qP_X6_copy 76 [] ls st g M Q = q_T md d qP_X6_copy 86 [.iload 2, .aload 0, .getfield 616, .iload 1, .iaload, .if_icmp .gt (124)] ls st g M Q := q_T_next rfl
theorem b_X6_copy_86 : q_T md d qP_X6_copy 86 [] ls st g M Q = q_T md d qP_X6_copy 97 [.iload 4, .aload 0, .getfield 616, .iload 3, .iaload, .if_icmp .gt (124)] ls st g M Q := q_T_next rfl
theorem b_X6_copy_97 : q_T md d qP_X6_copy 97 [] ls st g M Q = q_T md d qP_X6_copy 110 [.iload 5, .aload 0, .getfield 616, .iload 1, .iaload, .iload 2, .isub, .if_icmp .gt (124)] ls st g M Q := q_T_next rfl
theorem b_X6_copy_110 : q_T md d qP_X6_copy 110 [] ls st g M Q = q_T md d qP_X6_copy 124 [.iload 5, .aload 0, .getfield 616, .iload 3, .iaload, .iload 4, .isub, .if_icmp .le (127)] ls st g M Q := q_T_next rfl
theorem b_X6_copy_124 : q_T md d qP_X6_copy 124 [] ls st g M Q = q_T md d qP_X6_copy 127 [.iconst (-12), .ret 0] ls st g M Q := q_T_next rfl
theorem b_X6_copy_127 : q_T md d qP_X6_copy 127 [] ls st g M Q = q_T md d qP_X6_copy 147 [.iconst (40), .iload 1, .imul, .iload 2, .iadd, .istore 6, .iconst (40), .iload 3, .imul, .iload 4, .iadd, .istore 7, .iconst (0), .istore 8] ls st g M Q := q_T_next rfl
theorem b_X6_copy_147 : q_T md d qP_X6_copy 147 [] ls st g M Q = q_T md d qP_X6_copy 154 [.iload 8, .iload 5, .if_icmp .ge (201)] ls st g M Q := q_T_next rfl
theorem b_X6_copy_154 : q_T md d qP_X6_copy 154 [] ls st g M Q = q_T md d qP_X6_copy 161 [.iload 6, .iload 7, .if_icmp .ge (171)] ls st g M Q := q_T_next rfl
theorem b_X6_copy_161 : q_T md d qP_X6_copy 161 [] ls st g M Q = q_T md d qP_X6_copy 171 [.iload 5, .iconst (1), .isub, .iload 8, .isub, .goto (173)] ls st g M Q := q_T_next rfl
theorem b_X6_copy_171 : q_T md d qP_X6_copy 171 [] ls st g M Q = q_T md d qP_X6_copy 173 [.iload 8] ls st g M Q := q_T_next rfl
theorem b_X6_copy_173 : q_T md d qP_X6_copy 173 [] ls st g M Q = q_T md d qP_X6_copy 201 [.istore 9, .aload 0, .getfield 617, .iload 7, .iload 9, .iadd, .aload 0, .getfield 617, .iload 6, .iload 9, .iadd, .iaload, .iastore, .iinc 8 (1), .goto (147)] ls st g M Q := q_T_next rfl
theorem b_X6_copy_201 : q_T md d qP_X6_copy 201 [] ls st g M Q = q_T md d qP_X6_copy 204 [.iload 5, .ret 0] ls st g M Q := q_T_next rfl
theorem s_X6_stonesBy {w : Nat} {x0 : Int} {x1 : Int} {x2 : Int} {x3 : Int} : q_S md d 196 [qR 6 w, qI x0, qI x1, qI x2, qI x3] g M Q = q_T md d qP_X6_stonesBy 0 [] [qR 6 w, qI x0, qI x1, qI x2, qI x3, qS 0, qS 0, qS 0, qS 0] [] g M Q := rfl
theorem b_X6_stonesBy_0 : q_T md d qP_X6_stonesBy 0 [] ls st g M Q = q_T md d qP_X6_stonesBy 9 [.iload 1, .iconst (0), .iconst (3), .invokestatic 110, .ifCond .eq (28)] ls st g M Q := q_T_next rfl
theorem b_X6_stonesBy_9 : q_T md d qP_X6_stonesBy 9 [] ls st g M Q = q_T md d qP_X6_stonesBy 18 [.iload 2, .iconst (0), .iconst (2), .invokestatic 110, .ifCond .eq (28)] ls st g M Q := q_T_next rfl
theorem b_X6_stonesBy_18 : q_T md d qP_X6_stonesBy 18 [] ls st g M Q = q_T md d qP_X6_stonesBy 28 [.iload 4, .iconst (0), .iconst (5), .invokestatic 110, .ifCond .ne (31)] ls st g M Q := q_T_next rfl
theorem b_X6_stonesBy_28 : q_T md d qP_X6_stonesBy 28 [] ls st g M Q = q_T md d qP_X6_stonesBy 31 [.iconst (-2), .ret 0] ls st g M Q := q_T_next rfl
theorem b_X6_stonesBy_31 : q_T md d qP_X6_stonesBy 31 [] ls st g M Q = q_T md d qP_X6_stonesBy 41 [.aload 0, .getfield 615, .iload 1, .iaload, .iconst (-1), .if_icmp .ne (44)] ls st g M Q := q_T_next rfl
theorem b_X6_stonesBy_41 : q_T md d qP_X6_stonesBy 41 [] ls st g M Q = q_T md d qP_X6_stonesBy 44 [.iconst (-11), .ret 0] ls st g M Q := q_T_next rfl
theorem b_X6_stonesBy_44 : q_T md d qP_X6_stonesBy 44 [] ls st g M Q = q_T md d qP_X6_stonesBy 54 [.aload 0, .getfield 615, .iload 1, .iaload, .iload 2, .if_icmp .eq (57)] ls st g M Q := q_T_next rfl
theorem b_X6_stonesBy_54 : q_T md d qP_X6_stonesBy 54 [] ls st g M Q = q_T md d qP_X6_stonesBy 57 [.iconst (-13), .ret 0] ls st g M Q := q_T_next rfl
theorem b_X6_stonesBy_57 : q_T md d qP_X6_stonesBy 57 [] ls st g M Q = q_T md d qP_X6_stonesBy 63 [.iconst (0), .istore 5, .iconst (0), .istore 6] ls st g M Q := q_T_next rfl
theorem b_X6_stonesBy_63 : q_T md d qP_X6_stonesBy 63 [] ls st g M Q = q_T md d qP_X6_stonesBy 70 [.iload 6, .iload 4, .if_icmp .ge (161)] ls st g M Q := q_T_next rfl
theorem b_X6_stonesBy_70 : q_T md d qP_X6_stonesBy 70 [] ls st g M Q = q_T md d qP_X6_stonesBy 82 [.iload 3, .iconst (3), .iload 6, .imul, .iadd, .istore 7, .iload 3, .ifCond .lt (101)] ls st g M Q := q_T_next rfl
theorem b_X6_stonesBy_82 : q_T md d qP_X6_stonesBy 82 [] ls st g M Q = q_T md d qP_X6_stonesBy 88 [.iload 7, .iload 3, .if_icmp .lt (101)] ls st g M Q := q_T_next rfl
theorem b_X6_stonesBy_88 : q_T md d qP_X6_stonesBy 88 [] ls st g M Q = q_T md d qP_X6_stonesBy 101 [.iload 7, .aload 0, .getfield 616, .iload 1, .iaload, .iconst (3), .isub, .if_icmp .le (104)] ls st g M Q := q_T_next rfl
theorem b_X6_stonesBy_101 : q_T md d qP_X6_stonesBy 101 [] ls st g M Q = q_T md d qP_X6_stonesBy 104 [.iconst (-12), .ret 0] ls st g M Q := q_T_next rfl
theorem b_X6_stonesBy_104 : q_T md d qP_X6_stonesBy 104 [] ls st g M Q = q_T md d qP_X6_stonesBy 147 [.iconst (40), .iload 1, .imul, .iload 7, .iadd, .istore 8, .iload 5, .aload 0, .aload 0, .getfield 617, .iload 8, .iaload, .aload 0, .getfield 617, .iload 8, .iconst (1), .iadd, .iaload, .aload 0, .getfield 617, .iload 8, .iconst (2), .iadd, .iaload, .invokestatic 139, .ifCond .lt (151)] ls st g M Q := q_T_next rfl
theorem b_X6_stonesBy_147 : q_T md d qP_X6_stonesBy 147 [] ls st g M Q = q_T md d qP_X6_stonesBy 151 [.iconst (1), .goto (152)] ls st g M Q := q_T_next rfl
theorem b_X6_stonesBy_151 : q_T md d qP_X6_stonesBy 151 [] ls st g M Q = q_T md d qP_X6_stonesBy 152 [.iconst (0)] ls st g M Q := q_T_next rfl
theorem b_X6_stonesBy_152 : q_T md d qP_X6_stonesBy 152 [] ls st g M Q = q_T md d qP_X6_stonesBy 161 [.iadd, .istore 5, .iinc 6 (1), .goto (63)] ls st g M Q := q_T_next rfl
theorem b_X6_stonesBy_161 : q_T md d qP_X6_stonesBy 161 [] ls st g M Q = q_T md d qP_X6_stonesBy 164 [.iload 5, .ret 0] ls st g M Q := q_T_next rfl
theorem s_X6_isUnder {x0 : Int} {x1 : Int} : q_S md d 197 [qI x0, qI x1] g M Q = q_T md d qP_X6_isUnder 0 [] [qI x0, qI x1] [] g M Q := rfl
theorem b_X6_isUnder_0 : q_T md d qP_X6_isUnder 0 [] ls st g M Q = q_T md d qP_X6_isUnder 4 [.iload 1, .ifCond .eq (29)] ls st g M Q := q_T_next rfl
theorem b_X6_isUnder_4 : q_T md d qP_X6_isUnder 4 [] ls st g M Q = q_T md d qP_X6_isUnder 9 [.iload 0, .iload 1, .if_icmp .eq (29)] ls st g M Q := q_T_next rfl
theorem b_X6_isUnder_9 : q_T md d qP_X6_isUnder 9 [] ls st g M Q = q_T md d qP_X6_isUnder 14 [.iload 1, .iconst (1), .if_icmp .ne (19)] ls st g M Q := q_T_next rfl
theorem b_X6_isUnder_14 : q_T md d qP_X6_isUnder 14 [] ls st g M Q = q_T md d qP_X6_isUnder 19 [.iload 0, .iconst (3), .if_icmp .eq (29)] ls st g M Q := q_T_next rfl
theorem b_X6_isUnder_19 : q_T md d qP_X6_isUnder 19 [] ls st g M Q = q_T md d qP_X6_isUnder 24 [.iload 1, .iconst (2), .if_icmp .ne (33)] ls st g M Q := q_T_next rfl
theorem b_X6_isUnder_24 : q_T md d qP_X6_isUnder 24 [] ls st g M Q = q_T md d qP_X6_isUnder 29 [.iload 0, .iconst (4), .if_icmp .ne (33)] ls st g M Q := q_T_next rfl
theorem b_X6_isUnder_29 : q_T md d qP_X6_isUnder 29 [] ls st g M Q = q_T md d qP_X6_isUnder 33 [.iconst (1), .goto (34)] ls st g M Q := q_T_next rfl
theorem b_X6_isUnder_33 : q_T md d qP_X6_isUnder 33 [] ls st g M Q = q_T md d qP_X6_isUnder 34 [.iconst (0)] ls st g M Q := q_T_next rfl
theorem b_X6_isUnder_34 : q_T md d qP_X6_isUnder 34 [] ls st g M Q = q_T md d qP_X6_isUnder 35 [.ret 1] ls st g M Q := q_T_next rfl
theorem s_X6_taken {w : Nat} {x0 : Int} {x1 : Int} : q_S md d 198 [qR 6 w, qI x0, qI x1] g M Q = q_T md d qP_X6_taken 0 [] [qR 6 w, qI x0, qI x1] [] g M Q := rfl
theorem b_X6_taken_0 : q_T md d qP_X6_taken 0 [] ls st g M Q = q_T md d qP_X6_taken 10 [.iload 2, .iconst (0), .iconst (6), .invokestatic 110, .ifCond .ne (13)] ls st g M Q := q_T_next rfl
theorem b_X6_taken_10 : q_T md d qP_X6_taken 10 [] ls st g M Q = q_T md d qP_X6_taken 13 [.iconst (-2), .ret 0] ls st g M Q := q_T_next rfl
theorem b_X6_taken_13 : q_T md d qP_X6_taken 13 [] ls st g M Q = q_T md d qP_X6_taken 23 [.iload 1, .iconst (0), .iconst (9), .invokestatic 110, .ifCond .ne (26)] ls st g M Q := q_T_next rfl
theorem b_X6_taken_23 : q_T md d qP_X6_taken 23 [] ls st g M Q = q_T md d qP_X6_taken 26 [.iconst (-12), .ret 0] ls st g M Q := q_T_next rfl
theorem b_X6_taken_26 : q_T md d qP_X6_taken 26 [] ls st g M Q = q_T md d qP_X6_taken 31 [.iload 1, .iconst (5), .if_icmp .lt (55)] ls st g M Q := q_T_next rfl
theorem b_X6_taken_31 : q_T md d qP_X6_taken 31 [] ls st g M Q = q_T md d qP_X6_taken 37 [.iload 2, .iconst (6), .if_icmp .ne (52)] ls st g M Q := q_T_next rfl
theorem b_X6_taken_37 : q_T md d qP_X6_taken 37 [] ls st g M Q = q_T md d qP_X6_taken 52 [.aload 0, .getfield 603, .iconst (4), .iload 1, .iconst (5), .isub, .imul, .iconst (3), .iadd, .iaload, .goto (54)] ls st g M Q := q_T_next rfl
theorem b_X6_taken_52 : q_T md d qP_X6_taken 52 [] ls st g M Q = q_T md d qP_X6_taken 54 [.iconst (-13)] ls st g M Q := q_T_next rfl
theorem b_X6_taken_54 : q_T md d qP_X6_taken 54 [] ls st g M Q = q_T md d qP_X6_taken 55 [.ret 0] ls st g M Q := q_T_next rfl
theorem b_X6_taken_55 : q_T md d qP_X6_taken 55 [] ls st g M Q = q_T md d qP_X6_taken 63 [.iload 1, .aload 0, .getfield 600, .if_icmp .lt (68)] ls st g M Q := q_T_next rfl
theorem b_X6_taken_63 : q_T md d qP_X6_taken 63 [] ls st g M Q = q_T md d qP_X6_taken 68 [.iconst (-11), .goto (93)] ls st g M Q := q_T_next rfl
theorem b_X6_taken_68 : q_T md d qP_X6_taken 68 [] ls st g M Q = q_T md d qP_X6_taken 74 [.iload 2, .iconst (6), .if_icmp .ge (91)] ls st g M Q := q_T_next rfl
theorem b_X6_taken_74 : q_T md d qP_X6_taken 74 [] ls st g M Q = q_T md d qP_X6_taken 87 [.aload 0, .getfield 601, .iload 1, .iaload, .iload 2, .invokestatic 197, .ifCond .eq (91)] ls st g M Q := q_T_next rfl
theorem b_X6_taken_87 : q_T md d qP_X6_taken 87 [] ls st g M Q = q_T md d qP_X6_taken 91 [.iload 1, .goto (93)] ls st g M Q := q_T_next rfl
theorem b_X6_taken_91 : q_T md d qP_X6_taken 91 [] ls st g M Q = q_T md d qP_X6_taken 93 [.iconst (-13)] ls st g M Q := q_T_next rfl
theorem b_X6_taken_93 : q_T md d qP_X6_taken 93 [] ls st g M Q = q_T md d qP_X6_taken 94 [.ret 0] ls st g M Q := q_T_next rfl
end BLK
