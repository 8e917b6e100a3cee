/-! THE LAW OF ANY NUMBER OF CALLS: both sides return -/
section LAWB
variable {md d : Nat} {ls st : List q_V} {g : q_G} {M : q_M} {Q : Option q_V → q_G → q_M → Prop}
theorem b_L_law_18 : q_T md d qP_L_law 18 [] ls st g M Q = q_T md d qP_L_law 27 [.iload 3, .aload 0, .arraylength, .iconst (7), .isub, .if_icmp .gt (1438)] ls st g M Q := q_T_next rfl
theorem b_L_law_27 : q_T md d qP_L_law 27 [] ls st g M Q = q_T md d qP_L_law 192 [.aload 0, .iload 3, .iaload, .iconst (63), .iand, .tableswitch (1432) (0) (35) #[192, 215, 238, 281, 314, 389, 402, 425, 468, 511, 554, 587, 630, 643, 676, 709, 732, 755, 778, 801, 834, 857, 890, 933, 986, 1009, 1042, 1085, 1118, 1171, 1184, 1197, 1240, 1283, 1346, 1399]] ls st g M Q := q_T_next rfl
theorem b_L_law_192 : q_T md d qP_L_law 192 [] ls st g M Q = q_T md d qP_L_law 215 [.aload 1, .aload 0, .iload 3, .iconst (1), .iadd, .iaload, .invokestatic 62, .pop, .aload 2, .aload 0, .iload 3, .iconst (1), .iadd, .iaload, .invokestatic 117, .pop, .goto (1432)] ls st g M Q := q_T_next rfl
theorem b_L_law_215 : q_T md d qP_L_law 215 [] ls st g M Q = q_T md d qP_L_law 238 [.aload 1, .aload 0, .iload 3, .iconst (1), .iadd, .iaload, .invokestatic 63, .pop, .aload 2, .aload 0, .iload 3, .iconst (1), .iadd, .iaload, .invokestatic 118, .pop, .goto (1432)] ls st g M Q := q_T_next rfl
theorem b_L_law_238 : q_T md d qP_L_law 238 [] ls st g M Q = q_T md d qP_L_law 281 [.aload 1, .aload 0, .iload 3, .iconst (1), .iadd, .iaload, .aload 0, .iload 3, .iconst (2), .iadd, .iaload, .aload 0, .iload 3, .iconst (3), .iadd, .iaload, .invokestatic 64, .pop, .aload 2, .aload 0, .iload 3, .iconst (1), .iadd, .iaload, .aload 0, .iload 3, .iconst (2), .iadd, .iaload, .aload 0, .iload 3, .iconst (3), .iadd, .iaload, .invokestatic 119, .pop, .goto (1432)] ls st g M Q := q_T_next rfl
theorem b_L_law_281 : q_T md d qP_L_law 281 [] ls st g M Q = q_T md d qP_L_law 314 [.aload 1, .aload 0, .iload 3, .iconst (1), .iadd, .iaload, .aload 0, .iload 3, .iconst (2), .iadd, .iaload, .invokestatic 65, .pop, .aload 2, .aload 0, .iload 3, .iconst (1), .iadd, .iaload, .aload 0, .iload 3, .iconst (2), .iadd, .iaload, .invokestatic 120, .pop, .goto (1432)] ls st g M Q := q_T_next rfl
theorem b_L_law_314 : q_T md d qP_L_law 314 [] ls st g M Q = q_T md d qP_L_law 367 [.aload 1, .aload 0, .iload 3, .iconst (1), .iadd, .iaload, .aload 0, .iload 3, .iconst (2), .iadd, .iaload, .aload 0, .iload 3, .iconst (3), .iadd, .iaload, .aload 0, .iload 3, .iconst (4), .iadd, .iaload, .aload 0, .iload 3, .iconst (5), .iadd, .iaload, .aload 0, .iload 3, .iconst (6), .iadd, .iaload, .invokestatic 66, .pop, .aload 2, .aload 0, .iload 3, .iconst (1), .iadd, .iaload, .aload 0, .iload 3, .iconst (2), .iadd, .iaload, .aload 0, .iload 3, .iconst (3), .iadd, .iaload, .aload 0] ls st g M Q := q_T_next rfl
theorem b_L_law_367 : q_T md d qP_L_law 367 [] ls st g M Q = q_T md d qP_L_law 389 [.iload 3, .iconst (4), .iadd, .iaload, .aload 0, .iload 3, .iconst (5), .iadd, .iaload, .aload 0, .iload 3, .iconst (6), .iadd, .iaload, .invokestatic 122, .pop, .goto (1432)] ls st g M Q := q_T_next rfl
theorem b_L_law_389 : q_T md d qP_L_law 389 [] ls st g M Q = q_T md d qP_L_law 402 [.aload 1, .invokestatic 67, .pop, .aload 2, .invokestatic 133, .pop, .goto (1432)] ls st g M Q := q_T_next rfl
theorem b_L_law_402 : q_T md d qP_L_law 402 [] ls st g M Q = q_T md d qP_L_law 425 [.aload 1, .aload 0, .iload 3, .iconst (1), .iadd, .iaload, .invokestatic 68, .pop, .aload 2, .aload 0, .iload 3, .iconst (1), .iadd, .iaload, .invokestatic 136, .pop, .goto (1432)] ls st g M Q := q_T_next rfl
theorem b_L_law_425 : q_T md d qP_L_law 425 [] ls st g M Q = q_T md d qP_L_law 468 [.aload 1, .aload 0, .iload 3, .iconst (1), .iadd, .iaload, .aload 0, .iload 3, .iconst (2), .iadd, .iaload, .aload 0, .iload 3, .iconst (3), .iadd, .iaload, .invokestatic 69, .pop, .aload 2, .aload 0, .iload 3, .iconst (1), .iadd, .iaload, .aload 0, .iload 3, .iconst (2), .iadd, .iaload, .aload 0, .iload 3, .iconst (3), .iadd, .iaload, .invokestatic 138, .pop, .goto (1432)] ls st g M Q := q_T_next rfl
theorem b_L_law_468 : q_T md d qP_L_law 468 [] ls st g M Q = q_T md d qP_L_law 511 [.aload 1, .aload 0, .iload 3, .iconst (1), .iadd, .iaload, .aload 0, .iload 3, .iconst (2), .iadd, .iaload, .aload 0, .iload 3, .iconst (3), .iadd, .iaload, .invokestatic 70, .pop, .aload 2, .aload 0, .iload 3, .iconst (1), .iadd, .iaload, .aload 0, .iload 3, .iconst (2), .iadd, .iaload, .aload 0, .iload 3, .iconst (3), .iadd, .iaload, .invokestatic 139, .pop, .goto (1432)] ls st g M Q := q_T_next rfl
theorem b_L_law_511 : q_T md d qP_L_law 511 [] ls st g M Q = q_T md d qP_L_law 554 [.aload 1, .aload 0, .iload 3, .iconst (1), .iadd, .iaload, .aload 0, .iload 3, .iconst (2), .iadd, .iaload, .aload 0, .iload 3, .iconst (3), .iadd, .iaload, .invokestatic 71, .pop, .aload 2, .aload 0, .iload 3, .iconst (1), .iadd, .iaload, .aload 0, .iload 3, .iconst (2), .iadd, .iaload, .aload 0, .iload 3, .iconst (3), .iadd, .iaload, .invokestatic 140, .pop, .goto (1432)] ls st g M Q := q_T_next rfl
theorem b_L_law_554 : q_T md d qP_L_law 554 [] ls st g M Q = q_T md d qP_L_law 587 [.aload 1, .aload 0, .iload 3, .iconst (1), .iadd, .iaload, .aload 0, .iload 3, .iconst (2), .iadd, .iaload, .invokestatic 72, .pop, .aload 2, .aload 0, .iload 3, .iconst (1), .iadd, .iaload, .aload 0, .iload 3, .iconst (2), .iadd, .iaload, .invokestatic 145, .pop, .goto (1432)] ls st g M Q := q_T_next rfl
theorem b_L_law_587 : q_T md d qP_L_law 587 [] ls st g M Q = q_T md d qP_L_law 630 [.aload 1, .aload 0, .iload 3, .iconst (1), .iadd, .iaload, .aload 0, .iload 3, .iconst (2), .iadd, .iaload, .aload 0, .iload 3, .iconst (3), .iadd, .iaload, .invokestatic 73, .pop, .aload 2, .aload 0, .iload 3, .iconst (1), .iadd, .iaload, .aload 0, .iload 3, .iconst (2), .iadd, .iaload, .aload 0, .iload 3, .iconst (3), .iadd, .iaload, .invokestatic 146, .pop, .goto (1432)] ls st g M Q := q_T_next rfl
theorem b_L_law_630 : q_T md d qP_L_law 630 [] ls st g M Q = q_T md d qP_L_law 643 [.aload 1, .invokestatic 74, .pop, .aload 2, .invokestatic 152, .pop, .goto (1432)] ls st g M Q := q_T_next rfl
theorem b_L_law_643 : q_T md d qP_L_law 643 [] ls st g M Q = q_T md d qP_L_law 676 [.aload 1, .aload 0, .iload 3, .iconst (1), .iadd, .iaload, .aload 0, .iload 3, .iconst (2), .iadd, .iaload, .invokestatic 75, .pop, .aload 2, .aload 0, .iload 3, .iconst (1), .iadd, .iaload, .aload 0, .iload 3, .iconst (2), .iadd, .iaload, .invokestatic 156, .pop, .goto (1432)] ls st g M Q := q_T_next rfl
theorem b_L_law_676 : q_T md d qP_L_law 676 [] ls st g M Q = q_T md d qP_L_law 709 [.aload 1, .aload 0, .iload 3, .iconst (1), .iadd, .iaload, .aload 0, .iload 3, .iconst (2), .iadd, .iaload, .invokestatic 76, .pop, .aload 2, .aload 0, .iload 3, .iconst (1), .iadd, .iaload, .aload 0, .iload 3, .iconst (2), .iadd, .iaload, .invokestatic 158, .pop, .goto (1432)] ls st g M Q := q_T_next rfl
theorem b_L_law_709 : q_T md d qP_L_law 709 [] ls st g M Q = q_T md d qP_L_law 732 [.aload 1, .aload 0, .iload 3, .iconst (1), .iadd, .iaload, .invokestatic 77, .pop, .aload 2, .aload 0, .iload 3, .iconst (1), .iadd, .iaload, .invokestatic 167, .pop, .goto (1432)] ls st g M Q := q_T_next rfl
theorem b_L_law_732 : q_T md d qP_L_law 732 [] ls st g M Q = q_T md d qP_L_law 755 [.aload 1, .aload 0, .iload 3, .iconst (1), .iadd, .iaload, .invokestatic 78, .pop, .aload 2, .aload 0, .iload 3, .iconst (1), .iadd, .iaload, .invokestatic 171, .pop, .goto (1432)] ls st g M Q := q_T_next rfl
theorem b_L_law_755 : q_T md d qP_L_law 755 [] ls st g M Q = q_T md d qP_L_law 778 [.aload 1, .aload 0, .iload 3, .iconst (1), .iadd, .iaload, .invokestatic 79, .pop, .aload 2, .aload 0, .iload 3, .iconst (1), .iadd, .iaload, .invokestatic 174, .pop, .goto (1432)] ls st g M Q := q_T_next rfl
theorem b_L_law_778 : q_T md d qP_L_law 778 [] ls st g M Q = q_T md d qP_L_law 801 [.aload 1, .aload 0, .iload 3, .iconst (1), .iadd, .iaload, .invokestatic 80, .pop, .aload 2, .aload 0, .iload 3, .iconst (1), .iadd, .iaload, .invokestatic 175, .pop, .goto (1432)] ls st g M Q := q_T_next rfl
theorem b_L_law_801 : q_T md d qP_L_law 801 [] ls st g M Q = q_T md d qP_L_law 834 [.aload 1, .aload 0, .iload 3, .iconst (1), .iadd, .iaload, .aload 0, .iload 3, .iconst (2), .iadd, .iaload, .invokestatic 81, .pop, .aload 2, .aload 0, .iload 3, .iconst (1), .iadd, .iaload, .aload 0, .iload 3, .iconst (2), .iadd, .iaload, .invokestatic 176, .pop, .goto (1432)] ls st g M Q := q_T_next rfl
theorem b_L_law_834 : q_T md d qP_L_law 834 [] ls st g M Q = q_T md d qP_L_law 857 [.aload 1, .aload 0, .iload 3, .iconst (1), .iadd, .iaload, .invokestatic 82, .pop2, .aload 2, .aload 0, .iload 3, .iconst (1), .iadd, .iaload, .invokestatic 178, .pop2, .goto (1432)] ls st g M Q := q_T_next rfl
theorem b_L_law_857 : q_T md d qP_L_law 857 [] ls st g M Q = q_T md d qP_L_law 890 [.aload 1, .aload 0, .iload 3, .iconst (1), .iadd, .iaload, .aload 0, .iload 3, .iconst (2), .iadd, .iaload, .invokestatic 83, .pop, .aload 2, .aload 0, .iload 3, .iconst (1), .iadd, .iaload, .aload 0, .iload 3, .iconst (2), .iadd, .iaload, .invokestatic 182, .pop, .goto (1432)] ls st g M Q := q_T_next rfl
theorem b_L_law_890 : q_T md d qP_L_law 890 [] ls st g M Q = q_T md d qP_L_law 933 [.aload 1, .aload 0, .iload 3, .iconst (1), .iadd, .iaload, .aload 0, .iload 3, .iconst (2), .iadd, .iaload, .aload 0, .iload 3, .iconst (3), .iadd, .iaload, .invokestatic 84, .pop, .aload 2, .aload 0, .iload 3, .iconst (1), .iadd, .iaload, .aload 0, .iload 3, .iconst (2), .iadd, .iaload, .aload 0, .iload 3, .iconst (3), .iadd, .iaload, .invokestatic 183, .pop, .goto (1432)] ls st g M Q := q_T_next rfl
theorem b_L_law_933 : q_T md d qP_L_law 933 [] ls st g M Q = q_T md d qP_L_law 986 [.aload 1, .aload 0, .iload 3, .iconst (1), .iadd, .iaload, .aload 0, .iload 3, .iconst (2), .iadd, .iaload, .aload 0, .iload 3, .iconst (3), .iadd, .iaload, .aload 0, .iload 3, .iconst (4), .iadd, .iaload, .invokestatic 85, .pop, .aload 2, .aload 0, .iload 3, .iconst (1), .iadd, .iaload, .aload 0, .iload 3, .iconst (2), .iadd, .iaload, .aload 0, .iload 3, .iconst (3), .iadd, .iaload, .aload 0, .iload 3, .iconst (4), .iadd, .iaload, .invokestatic 184, .pop, .goto (1432)] ls st g M Q := q_T_next rfl
theorem b_L_law_986 : q_T md d qP_L_law 986 [] ls st g M Q = q_T md d qP_L_law 1009 [.aload 1, .aload 0, .iload 3, .iconst (1), .iadd, .iaload, .invokestatic 86, .pop, .aload 2, .aload 0, .iload 3, .iconst (1), .iadd, .iaload, .invokestatic 185, .pop, .goto (1432)] ls st g M Q := q_T_next rfl
theorem b_L_law_1009 : q_T md d qP_L_law 1009 [] ls st g M Q = q_T md d qP_L_law 1042 [.aload 1, .aload 0, .iload 3, .iconst (1), .iadd, .iaload, .aload 0, .iload 3, .iconst (2), .iadd, .iaload, .invokestatic 87, .pop, .aload 2, .aload 0, .iload 3, .iconst (1), .iadd, .iaload, .aload 0, .iload 3, .iconst (2), .iadd, .iaload, .invokestatic 186, .pop, .goto (1432)] ls st g M Q := q_T_next rfl
theorem b_L_law_1042 : q_T md d qP_L_law 1042 [] ls st g M Q = q_T md d qP_L_law 1085 [.aload 1, .aload 0, .iload 3, .iconst (1), .iadd, .iaload, .aload 0, .iload 3, .iconst (2), .iadd, .iaload, .aload 0, .iload 3, .iconst (3), .iadd, .iaload, .invokestatic 88, .pop, .aload 2, .aload 0, .iload 3, .iconst (1), .iadd, .iaload, .aload 0, .iload 3, .iconst (2), .iadd, .iaload, .aload 0, .iload 3, .iconst (3), .iadd, .iaload, .invokestatic 187, .pop, .goto (1432)] ls st g M Q := q_T_next rfl
theorem b_L_law_1085 : q_T md d qP_L_law 1085 [] ls st g M Q = q_T md d qP_L_law 1118 [.aload 1, .aload 0, .iload 3, .iconst (1), .iadd, .iaload, .aload 0, .iload 3, .iconst (2), .iadd, .iaload, .invokestatic 89, .pop, .aload 2, .aload 0, .iload 3, .iconst (1), .iadd, .iaload, .aload 0, .iload 3, .iconst (2), .iadd, .iaload, .invokestatic 189, .pop, .goto (1432)] ls st g M Q := q_T_next rfl
theorem b_L_law_1118 : q_T md d qP_L_law 1118 [] ls st g M Q = q_T md d qP_L_law 1171 [.aload 1, .aload 0, .iload 3, .iconst (1), .iadd, .iaload, .aload 0, .iload 3, .iconst (2), .iadd, .iaload, .aload 0, .iload 3, .iconst (3), .iadd, .iaload, .aload 0, .iload 3, .iconst (4), .iadd, .iaload, .invokestatic 90, .pop2, .aload 2, .aload 0, .iload 3, .iconst (1), .iadd, .iaload, .aload 0, .iload 3, .iconst (2), .iadd, .iaload, .aload 0, .iload 3, .iconst (3), .iadd, .iaload, .aload 0, .iload 3, .iconst (4), .iadd, .iaload, .invokestatic 190, .pop2, .goto (1432)] ls st g M Q := q_T_next rfl
theorem b_L_law_1171 : q_T md d qP_L_law 1171 [] ls st g M Q = q_T md d qP_L_law 1184 [.aload 1, .invokestatic 91, .pop, .aload 2, .invokestatic 191, .pop, .goto (1432)] ls st g M Q := q_T_next rfl
theorem b_L_law_1184 : q_T md d qP_L_law 1184 [] ls st g M Q = q_T md d qP_L_law 1197 [.aload 1, .invokestatic 92, .pop, .aload 2, .invokestatic 192, .pop, .goto (1432)] ls st g M Q := q_T_next rfl
theorem b_L_law_1197 : q_T md d qP_L_law 1197 [] ls st g M Q = q_T md d qP_L_law 1240 [.aload 1, .aload 0, .iload 3, .iconst (1), .iadd, .iaload, .aload 0, .iload 3, .iconst (2), .iadd, .iaload, .aload 0, .iload 3, .iconst (3), .iadd, .iaload, .invokestatic 93, .pop, .aload 2, .aload 0, .iload 3, .iconst (1), .iadd, .iaload, .aload 0, .iload 3, .iconst (2), .iadd, .iaload, .aload 0, .iload 3, .iconst (3), .iadd, .iaload, .invokestatic 193, .pop, .goto (1432)] ls st g M Q := q_T_next rfl
theorem b_L_law_1240 : q_T md d qP_L_law 1240 [] ls st g M Q = q_T md d qP_L_law 1283 [.aload 1, .aload 0, .iload 3, .iconst (1), .iadd, .iaload, .aload 0, .iload 3, .iconst (2), .iadd, .iaload, .aload 0, .iload 3, .iconst (3), .iadd, .iaload, .invokestatic 94, .pop, .aload 2, .aload 0, .iload 3, .iconst (1), .iadd, .iaload, .aload 0, .iload 3, .iconst (2), .iadd, .iaload, .aload 0, .iload 3, .iconst (3), .iadd, .iaload, .invokestatic 194, .pop, .goto (1432)] ls st g M Q := q_T_next rfl
theorem b_L_law_1283 : q_T md d qP_L_law 1283 [] ls st g M Q = q_T md d qP_L_law 1346 [.aload 1, .aload 0, .iload 3, .iconst (1), .iadd, .iaload, .aload 0, .iload 3, .iconst (2), .iadd, .iaload, .aload 0, .iload 3, .iconst (3), .iadd, .iaload, .aload 0, .iload 3, .iconst (4), .iadd, .iaload, .aload 0, .iload 3, .iconst (5), .iadd, .iaload, .invokestatic 95, .pop, .aload 2, .aload 0, .iload 3, .iconst (1), .iadd, .iaload, .aload 0, .iload 3, .iconst (2), .iadd, .iaload, .aload 0, .iload 3, .iconst (3), .iadd, .iaload, .aload 0, .iload 3, .iconst (4), .iadd, .iaload, .aload 0, .iload 3, .iconst (5), .iadd, .iaload, .invokestatic 195, .pop, .goto (1432)] ls st g M Q := q_T_next rfl
theorem b_L_law_1346 : q_T md d qP_L_law 1346 [] ls st g M Q = q_T md d qP_L_law 1399 [.aload 1, .aload 0, .iload 3, .iconst (1), .iadd, .iaload, .aload 0, .iload 3, .iconst (2), .iadd, .iaload, .aload 0, .iload 3, .iconst (3), .iadd, .iaload, .aload 0, .iload 3, .iconst (4), .iadd, .iaload, .invokestatic 96, .pop, .aload 2, .aload 0, .iload 3, .iconst (1), .iadd, .iaload, .aload 0, .iload 3, .iconst (2), .iadd, .iaload, .aload 0, .iload 3, .iconst (3), .iadd, .iaload, .aload 0, .iload 3, .iconst (4), .iadd, .iaload, .invokestatic 196, .pop, .goto (1432)] ls st g M Q := q_T_next rfl
theorem b_L_law_1399 : q_T md d qP_L_law 1399 [] ls st g M Q = q_T md d qP_L_law 1430 [.aload 1, .aload 0, .iload 3, .iconst (1), .iadd, .iaload, .aload 0, .iload 3, .iconst (2), .iadd, .iaload, .invokestatic 97, .aload 2, .aload 0, .iload 3, .iconst (1), .iadd, .iaload, .aload 0, .iload 3, .iconst (2), .iadd, .iaload, .invokestatic 198, .if_icmp .eq (1432)] ls st g M Q := q_T_next rfl
theorem b_L_law_1432 : q_T md d qP_L_law 1432 [] ls st g M Q = q_T md d qP_L_law 1438 [.iinc 3 (7), .goto (18)] ls st g M Q := q_T_next rfl
theorem b_L_law_1438 : q_T md d qP_L_law 1438 [] ls st g M Q = q_T md d qP_L_law 1440 [.iconst (1), .ret 1] ls st g M Q := q_T_next rfl
theorem x_loadScr {nx : Nat} {P : q_P} {ops : List Instr} {l : List q_V} : q_T md d P nx (.aload 0 :: ops) (qS 2 :: l) st g M Q = q_T md d P nx ops (qS 2 :: l) (qS 2 :: st) g M Q := q_T_next rfl
end LAWB
theorem tl_0 {g : q_G} {M : q_M} {Q : Option q_V → q_G → q_M → Prop} {ls st : List q_V} {nx : Nat} : q_T 1 1000 qP_L_law nx [.tableswitch (1432) (0) (35) #[192, 215, 238, 281, 314, 389, 402, 425, 468, 511, 554, 587, 630, 643, 676, 709, 732, 755, 778, 801, 834, 857, 890, 933, 986, 1009, 1042, 1085, 1118, 1171, 1184, 1197, 1240, 1283, 1346, 1399]] ls (qI 0 :: st) g M Q = q_T 1 1000 qP_L_law 192 [] ls st g M Q := x_tsw.trans rfl
theorem tl_1 {g : q_G} {M : q_M} {Q : Option q_V → q_G → q_M → Prop} {ls st : List q_V} {nx : Nat} : q_T 1 1000 qP_L_law nx [.tableswitch (1432) (0) (35) #[192, 215, 238, 281, 314, 389, 402, 425, 468, 511, 554, 587, 630, 643, 676, 709, 732, 755, 778, 801, 834, 857, 890, 933, 986, 1009, 1042, 1085, 1118, 1171, 1184, 1197, 1240, 1283, 1346, 1399]] ls (qI 1 :: st) g M Q = q_T 1 1000 qP_L_law 215 [] ls st g M Q := x_tsw.trans rfl
theorem tl_2 {g : q_G} {M : q_M} {Q : Option q_V → q_G → q_M → Prop} {ls st : List q_V} {nx : Nat} : q_T 1 1000 qP_L_law nx [.tableswitch (1432) (0) (35) #[192, 215, 238, 281, 314, 389, 402, 425, 468, 511, 554, 587, 630, 643, 676, 709, 732, 755, 778, 801, 834, 857, 890, 933, 986, 1009, 1042, 1085, 1118, 1171, 1184, 1197, 1240, 1283, 1346, 1399]] ls (qI 2 :: st) g M Q = q_T 1 1000 qP_L_law 238 [] ls st g M Q := x_tsw.trans rfl
theorem tl_3 {g : q_G} {M : q_M} {Q : Option q_V → q_G → q_M → Prop} {ls st : List q_V} {nx : Nat} : q_T 1 1000 qP_L_law nx [.tableswitch (1432) (0) (35) #[192, 215, 238, 281, 314, 389, 402, 425, 468, 511, 554, 587, 630, 643, 676, 709, 732, 755, 778, 801, 834, 857, 890, 933, 986, 1009, 1042, 1085, 1118, 1171, 1184, 1197, 1240, 1283, 1346, 1399]] ls (qI 3 :: st) g M Q = q_T 1 1000 qP_L_law 281 [] ls st g M Q := x_tsw.trans rfl
theorem tl_4 {g : q_G} {M : q_M} {Q : Option q_V → q_G → q_M → Prop} {ls st : List q_V} {nx : Nat} : q_T 1 1000 qP_L_law nx [.tableswitch (1432) (0) (35) #[192, 215, 238, 281, 314, 389, 402, 425, 468, 511, 554, 587, 630, 643, 676, 709, 732, 755, 778, 801, 834, 857, 890, 933, 986, 1009, 1042, 1085, 1118, 1171, 1184, 1197, 1240, 1283, 1346, 1399]] ls (qI 4 :: st) g M Q = q_T 1 1000 qP_L_law 314 [] ls st g M Q := x_tsw.trans rfl
theorem tl_5 {g : q_G} {M : q_M} {Q : Option q_V → q_G → q_M → Prop} {ls st : List q_V} {nx : Nat} : q_T 1 1000 qP_L_law nx [.tableswitch (1432) (0) (35) #[192, 215, 238, 281, 314, 389, 402, 425, 468, 511, 554, 587, 630, 643, 676, 709, 732, 755, 778, 801, 834, 857, 890, 933, 986, 1009, 1042, 1085, 1118, 1171, 1184, 1197, 1240, 1283, 1346, 1399]] ls (qI 5 :: st) g M Q = q_T 1 1000 qP_L_law 389 [] ls st g M Q := x_tsw.trans rfl
theorem tl_6 {g : q_G} {M : q_M} {Q : Option q_V → q_G → q_M → Prop} {ls st : List q_V} {nx : Nat} : q_T 1 1000 qP_L_law nx [.tableswitch (1432) (0) (35) #[192, 215, 238, 281, 314, 389, 402, 425, 468, 511, 554, 587, 630, 643, 676, 709, 732, 755, 778, 801, 834, 857, 890, 933, 986, 1009, 1042, 1085, 1118, 1171, 1184, 1197, 1240, 1283, 1346, 1399]] ls (qI 6 :: st) g M Q = q_T 1 1000 qP_L_law 402 [] ls st g M Q := x_tsw.trans rfl
theorem tl_7 {g : q_G} {M : q_M} {Q : Option q_V → q_G → q_M → Prop} {ls st : List q_V} {nx : Nat} : q_T 1 1000 qP_L_law nx [.tableswitch (1432) (0) (35) #[192, 215, 238, 281, 314, 389, 402, 425, 468, 511, 554, 587, 630, 643, 676, 709, 732, 755, 778, 801, 834, 857, 890, 933, 986, 1009, 1042, 1085, 1118, 1171, 1184, 1197, 1240, 1283, 1346, 1399]] ls (qI 7 :: st) g M Q = q_T 1 1000 qP_L_law 425 [] ls st g M Q := x_tsw.trans rfl
theorem tl_8 {g : q_G} {M : q_M} {Q : Option q_V → q_G → q_M → Prop} {ls st : List q_V} {nx : Nat} : q_T 1 1000 qP_L_law nx [.tableswitch (1432) (0) (35) #[192, 215, 238, 281, 314, 389, 402, 425, 468, 511, 554, 587, 630, 643, 676, 709, 732, 755, 778, 801, 834, 857, 890, 933, 986, 1009, 1042, 1085, 1118, 1171, 1184, 1197, 1240, 1283, 1346, 1399]] ls (qI 8 :: st) g M Q = q_T 1 1000 qP_L_law 468 [] ls st g M Q := x_tsw.trans rfl
theorem tl_9 {g : q_G} {M : q_M} {Q : Option q_V → q_G → q_M → Prop} {ls st : List q_V} {nx : Nat} : q_T 1 1000 qP_L_law nx [.tableswitch (1432) (0) (35) #[192, 215, 238, 281, 314, 389, 402, 425, 468, 511, 554, 587, 630, 643, 676, 709, 732, 755, 778, 801, 834, 857, 890, 933, 986, 1009, 1042, 1085, 1118, 1171, 1184, 1197, 1240, 1283, 1346, 1399]] ls (qI 9 :: st) g M Q = q_T 1 1000 qP_L_law 511 [] ls st g M Q := x_tsw.trans rfl
theorem tl_10 {g : q_G} {M : q_M} {Q : Option q_V → q_G → q_M → Prop} {ls st : List q_V} {nx : Nat} : q_T 1 1000 qP_L_law nx [.tableswitch (1432) (0) (35) #[192, 215, 238, 281, 314, 389, 402, 425, 468, 511, 554, 587, 630, 643, 676, 709, 732, 755, 778, 801, 834, 857, 890, 933, 986, 1009, 1042, 1085, 1118, 1171, 1184, 1197, 1240, 1283, 1346, 1399]] ls (qI 10 :: st) g M Q = q_T 1 1000 qP_L_law 554 [] ls st g M Q := x_tsw.trans rfl
theorem tl_11 {g : q_G} {M : q_M} {Q : Option q_V → q_G → q_M → Prop} {ls st : List q_V} {nx : Nat} : q_T 1 1000 qP_L_law nx [.tableswitch (1432) (0) (35) #[192, 215, 238, 281, 314, 389, 402, 425, 468, 511, 554, 587, 630, 643, 676, 709, 732, 755, 778, 801, 834, 857, 890, 933, 986, 1009, 1042, 1085, 1118, 1171, 1184, 1197, 1240, 1283, 1346, 1399]] ls (qI 11 :: st) g M Q = q_T 1 1000 qP_L_law 587 [] ls st g M Q := x_tsw.trans rfl
theorem tl_12 {g : q_G} {M : q_M} {Q : Option q_V → q_G → q_M → Prop} {ls st : List q_V} {nx : Nat} : q_T 1 1000 qP_L_law nx [.tableswitch (1432) (0) (35) #[192, 215, 238, 281, 314, 389, 402, 425, 468, 511, 554, 587, 630, 643, 676, 709, 732, 755, 778, 801, 834, 857, 890, 933, 986, 1009, 1042, 1085, 1118, 1171, 1184, 1197, 1240, 1283, 1346, 1399]] ls (qI 12 :: st) g M Q = q_T 1 1000 qP_L_law 630 [] ls st g M Q := x_tsw.trans rfl
theorem tl_13 {g : q_G} {M : q_M} {Q : Option q_V → q_G → q_M → Prop} {ls st : List q_V} {nx : Nat} : q_T 1 1000 qP_L_law nx [.tableswitch (1432) (0) (35) #[192, 215, 238, 281, 314, 389, 402, 425, 468, 511, 554, 587, 630, 643, 676, 709, 732, 755, 778, 801, 834, 857, 890, 933, 986, 1009, 1042, 1085, 1118, 1171, 1184, 1197, 1240, 1283, 1346, 1399]] ls (qI 13 :: st) g M Q = q_T 1 1000 qP_L_law 643 [] ls st g M Q := x_tsw.trans rfl
theorem tl_14 {g : q_G} {M : q_M} {Q : Option q_V → q_G → q_M → Prop} {ls st : List q_V} {nx : Nat} : q_T 1 1000 qP_L_law nx [.tableswitch (1432) (0) (35) #[192, 215, 238, 281, 314, 389, 402, 425, 468, 511, 554, 587, 630, 643, 676, 709, 732, 755, 778, 801, 834, 857, 890, 933, 986, 1009, 1042, 1085, 1118, 1171, 1184, 1197, 1240, 1283, 1346, 1399]] ls (qI 14 :: st) g M Q = q_T 1 1000 qP_L_law 676 [] ls st g M Q := x_tsw.trans rfl
theorem tl_15 {g : q_G} {M : q_M} {Q : Option q_V → q_G → q_M → Prop} {ls st : List q_V} {nx : Nat} : q_T 1 1000 qP_L_law nx [.tableswitch (1432) (0) (35) #[192, 215, 238, 281, 314, 389, 402, 425, 468, 511, 554, 587, 630, 643, 676, 709, 732, 755, 778, 801, 834, 857, 890, 933, 986, 1009, 1042, 1085, 1118, 1171, 1184, 1197, 1240, 1283, 1346, 1399]] ls (qI 15 :: st) g M Q = q_T 1 1000 qP_L_law 709 [] ls st g M Q := x_tsw.trans rfl
theorem tl_16 {g : q_G} {M : q_M} {Q : Option q_V → q_G → q_M → Prop} {ls st : List q_V} {nx : Nat} : q_T 1 1000 qP_L_law nx [.tableswitch (1432) (0) (35) #[192, 215, 238, 281, 314, 389, 402, 425, 468, 511, 554, 587, 630, 643, 676, 709, 732, 755, 778, 801, 834, 857, 890, 933, 986, 1009, 1042, 1085, 1118, 1171, 1184, 1197, 1240, 1283, 1346, 1399]] ls (qI 16 :: st) g M Q = q_T 1 1000 qP_L_law 732 [] ls st g M Q := x_tsw.trans rfl
theorem tl_17 {g : q_G} {M : q_M} {Q : Option q_V → q_G → q_M → Prop} {ls st : List q_V} {nx : Nat} : q_T 1 1000 qP_L_law nx [.tableswitch (1432) (0) (35) #[192, 215, 238, 281, 314, 389, 402, 425, 468, 511, 554, 587, 630, 643, 676, 709, 732, 755, 778, 801, 834, 857, 890, 933, 986, 1009, 1042, 1085, 1118, 1171, 1184, 1197, 1240, 1283, 1346, 1399]] ls (qI 17 :: st) g M Q = q_T 1 1000 qP_L_law 755 [] ls st g M Q := x_tsw.trans rfl
theorem tl_18 {g : q_G} {M : q_M} {Q : Option q_V → q_G → q_M → Prop} {ls st : List q_V} {nx : Nat} : q_T 1 1000 qP_L_law nx [.tableswitch (1432) (0) (35) #[192, 215, 238, 281, 314, 389, 402, 425, 468, 511, 554, 587, 630, 643, 676, 709, 732, 755, 778, 801, 834, 857, 890, 933, 986, 1009, 1042, 1085, 1118, 1171, 1184, 1197, 1240, 1283, 1346, 1399]] ls (qI 18 :: st) g M Q = q_T 1 1000 qP_L_law 778 [] ls st g M Q := x_tsw.trans rfl
theorem tl_19 {g : q_G} {M : q_M} {Q : Option q_V → q_G → q_M → Prop} {ls st : List q_V} {nx : Nat} : q_T 1 1000 qP_L_law nx [.tableswitch (1432) (0) (35) #[192, 215, 238, 281, 314, 389, 402, 425, 468, 511, 554, 587, 630, 643, 676, 709, 732, 755, 778, 801, 834, 857, 890, 933, 986, 1009, 1042, 1085, 1118, 1171, 1184, 1197, 1240, 1283, 1346, 1399]] ls (qI 19 :: st) g M Q = q_T 1 1000 qP_L_law 801 [] ls st g M Q := x_tsw.trans rfl
theorem tl_20 {g : q_G} {M : q_M} {Q : Option q_V → q_G → q_M → Prop} {ls st : List q_V} {nx : Nat} : q_T 1 1000 qP_L_law nx [.tableswitch (1432) (0) (35) #[192, 215, 238, 281, 314, 389, 402, 425, 468, 511, 554, 587, 630, 643, 676, 709, 732, 755, 778, 801, 834, 857, 890, 933, 986, 1009, 1042, 1085, 1118, 1171, 1184, 1197, 1240, 1283, 1346, 1399]] ls (qI 20 :: st) g M Q = q_T 1 1000 qP_L_law 834 [] ls st g M Q := x_tsw.trans rfl
theorem tl_21 {g : q_G} {M : q_M} {Q : Option q_V → q_G → q_M → Prop} {ls st : List q_V} {nx : Nat} : q_T 1 1000 qP_L_law nx [.tableswitch (1432) (0) (35) #[192, 215, 238, 281, 314, 389, 402, 425, 468, 511, 554, 587, 630, 643, 676, 709, 732, 755, 778, 801, 834, 857, 890, 933, 986, 1009, 1042, 1085, 1118, 1171, 1184, 1197, 1240, 1283, 1346, 1399]] ls (qI 21 :: st) g M Q = q_T 1 1000 qP_L_law 857 [] ls st g M Q := x_tsw.trans rfl
theorem tl_22 {g : q_G} {M : q_M} {Q : Option q_V → q_G → q_M → Prop} {ls st : List q_V} {nx : Nat} : q_T 1 1000 qP_L_law nx [.tableswitch (1432) (0) (35) #[192, 215, 238, 281, 314, 389, 402, 425, 468, 511, 554, 587, 630, 643, 676, 709, 732, 755, 778, 801, 834, 857, 890, 933, 986, 1009, 1042, 1085, 1118, 1171, 1184, 1197, 1240, 1283, 1346, 1399]] ls (qI 22 :: st) g M Q = q_T 1 1000 qP_L_law 890 [] ls st g M Q := x_tsw.trans rfl
theorem tl_23 {g : q_G} {M : q_M} {Q : Option q_V → q_G → q_M → Prop} {ls st : List q_V} {nx : Nat} : q_T 1 1000 qP_L_law nx [.tableswitch (1432) (0) (35) #[192, 215, 238, 281, 314, 389, 402, 425, 468, 511, 554, 587, 630, 643, 676, 709, 732, 755, 778, 801, 834, 857, 890, 933, 986, 1009, 1042, 1085, 1118, 1171, 1184, 1197, 1240, 1283, 1346, 1399]] ls (qI 23 :: st) g M Q = q_T 1 1000 qP_L_law 933 [] ls st g M Q := x_tsw.trans rfl
theorem tl_24 {g : q_G} {M : q_M} {Q : Option q_V → q_G → q_M → Prop} {ls st : List q_V} {nx : Nat} : q_T 1 1000 qP_L_law nx [.tableswitch (1432) (0) (35) #[192, 215, 238, 281, 314, 389, 402, 425, 468, 511, 554, 587, 630, 643, 676, 709, 732, 755, 778, 801, 834, 857, 890, 933, 986, 1009, 1042, 1085, 1118, 1171, 1184, 1197, 1240, 1283, 1346, 1399]] ls (qI 24 :: st) g M Q = q_T 1 1000 qP_L_law 986 [] ls st g M Q := x_tsw.trans rfl
theorem tl_25 {g : q_G} {M : q_M} {Q : Option q_V → q_G → q_M → Prop} {ls st : List q_V} {nx : Nat} : q_T 1 1000 qP_L_law nx [.tableswitch (1432) (0) (35) #[192, 215, 238, 281, 314, 389, 402, 425, 468, 511, 554, 587, 630, 643, 676, 709, 732, 755, 778, 801, 834, 857, 890, 933, 986, 1009, 1042, 1085, 1118, 1171, 1184, 1197, 1240, 1283, 1346, 1399]] ls (qI 25 :: st) g M Q = q_T 1 1000 qP_L_law 1009 [] ls st g M Q := x_tsw.trans rfl
theorem tl_26 {g : q_G} {M : q_M} {Q : Option q_V → q_G → q_M → Prop} {ls st : List q_V} {nx : Nat} : q_T 1 1000 qP_L_law nx [.tableswitch (1432) (0) (35) #[192, 215, 238, 281, 314, 389, 402, 425, 468, 511, 554, 587, 630, 643, 676, 709, 732, 755, 778, 801, 834, 857, 890, 933, 986, 1009, 1042, 1085, 1118, 1171, 1184, 1197, 1240, 1283, 1346, 1399]] ls (qI 26 :: st) g M Q = q_T 1 1000 qP_L_law 1042 [] ls st g M Q := x_tsw.trans rfl
theorem tl_27 {g : q_G} {M : q_M} {Q : Option q_V → q_G → q_M → Prop} {ls st : List q_V} {nx : Nat} : q_T 1 1000 qP_L_law nx [.tableswitch (1432) (0) (35) #[192, 215, 238, 281, 314, 389, 402, 425, 468, 511, 554, 587, 630, 643, 676, 709, 732, 755, 778, 801, 834, 857, 890, 933, 986, 1009, 1042, 1085, 1118, 1171, 1184, 1197, 1240, 1283, 1346, 1399]] ls (qI 27 :: st) g M Q = q_T 1 1000 qP_L_law 1085 [] ls st g M Q := x_tsw.trans rfl
theorem tl_28 {g : q_G} {M : q_M} {Q : Option q_V → q_G → q_M → Prop} {ls st : List q_V} {nx : Nat} : q_T 1 1000 qP_L_law nx [.tableswitch (1432) (0) (35) #[192, 215, 238, 281, 314, 389, 402, 425, 468, 511, 554, 587, 630, 643, 676, 709, 732, 755, 778, 801, 834, 857, 890, 933, 986, 1009, 1042, 1085, 1118, 1171, 1184, 1197, 1240, 1283, 1346, 1399]] ls (qI 28 :: st) g M Q = q_T 1 1000 qP_L_law 1118 [] ls st g M Q := x_tsw.trans rfl
theorem tl_29 {g : q_G} {M : q_M} {Q : Option q_V → q_G → q_M → Prop} {ls st : List q_V} {nx : Nat} : q_T 1 1000 qP_L_law nx [.tableswitch (1432) (0) (35) #[192, 215, 238, 281, 314, 389, 402, 425, 468, 511, 554, 587, 630, 643, 676, 709, 732, 755, 778, 801, 834, 857, 890, 933, 986, 1009, 1042, 1085, 1118, 1171, 1184, 1197, 1240, 1283, 1346, 1399]] ls (qI 29 :: st) g M Q = q_T 1 1000 qP_L_law 1171 [] ls st g M Q := x_tsw.trans rfl
theorem tl_30 {g : q_G} {M : q_M} {Q : Option q_V → q_G → q_M → Prop} {ls st : List q_V} {nx : Nat} : q_T 1 1000 qP_L_law nx [.tableswitch (1432) (0) (35) #[192, 215, 238, 281, 314, 389, 402, 425, 468, 511, 554, 587, 630, 643, 676, 709, 732, 755, 778, 801, 834, 857, 890, 933, 986, 1009, 1042, 1085, 1118, 1171, 1184, 1197, 1240, 1283, 1346, 1399]] ls (qI 30 :: st) g M Q = q_T 1 1000 qP_L_law 1184 [] ls st g M Q := x_tsw.trans rfl
theorem tl_31 {g : q_G} {M : q_M} {Q : Option q_V → q_G → q_M → Prop} {ls st : List q_V} {nx : Nat} : q_T 1 1000 qP_L_law nx [.tableswitch (1432) (0) (35) #[192, 215, 238, 281, 314, 389, 402, 425, 468, 511, 554, 587, 630, 643, 676, 709, 732, 755, 778, 801, 834, 857, 890, 933, 986, 1009, 1042, 1085, 1118, 1171, 1184, 1197, 1240, 1283, 1346, 1399]] ls (qI 31 :: st) g M Q = q_T 1 1000 qP_L_law 1197 [] ls st g M Q := x_tsw.trans rfl
theorem tl_32 {g : q_G} {M : q_M} {Q : Option q_V → q_G → q_M → Prop} {ls st : List q_V} {nx : Nat} : q_T 1 1000 qP_L_law nx [.tableswitch (1432) (0) (35) #[192, 215, 238, 281, 314, 389, 402, 425, 468, 511, 554, 587, 630, 643, 676, 709, 732, 755, 778, 801, 834, 857, 890, 933, 986, 1009, 1042, 1085, 1118, 1171, 1184, 1197, 1240, 1283, 1346, 1399]] ls (qI 32 :: st) g M Q = q_T 1 1000 qP_L_law 1240 [] ls st g M Q := x_tsw.trans rfl
theorem tl_33 {g : q_G} {M : q_M} {Q : Option q_V → q_G → q_M → Prop} {ls st : List q_V} {nx : Nat} : q_T 1 1000 qP_L_law nx [.tableswitch (1432) (0) (35) #[192, 215, 238, 281, 314, 389, 402, 425, 468, 511, 554, 587, 630, 643, 676, 709, 732, 755, 778, 801, 834, 857, 890, 933, 986, 1009, 1042, 1085, 1118, 1171, 1184, 1197, 1240, 1283, 1346, 1399]] ls (qI 33 :: st) g M Q = q_T 1 1000 qP_L_law 1283 [] ls st g M Q := x_tsw.trans rfl
theorem tl_34 {g : q_G} {M : q_M} {Q : Option q_V → q_G → q_M → Prop} {ls st : List q_V} {nx : Nat} : q_T 1 1000 qP_L_law nx [.tableswitch (1432) (0) (35) #[192, 215, 238, 281, 314, 389, 402, 425, 468, 511, 554, 587, 630, 643, 676, 709, 732, 755, 778, 801, 834, 857, 890, 933, 986, 1009, 1042, 1085, 1118, 1171, 1184, 1197, 1240, 1283, 1346, 1399]] ls (qI 34 :: st) g M Q = q_T 1 1000 qP_L_law 1346 [] ls st g M Q := x_tsw.trans rfl
theorem tl_35 {g : q_G} {M : q_M} {Q : Option q_V → q_G → q_M → Prop} {ls st : List q_V} {nx : Nat} : q_T 1 1000 qP_L_law nx [.tableswitch (1432) (0) (35) #[192, 215, 238, 281, 314, 389, 402, 425, 468, 511, 554, 587, 630, 643, 676, 709, 732, 755, 778, 801, 834, 857, 890, 933, 986, 1009, 1042, 1085, 1118, 1171, 1184, 1197, 1240, 1283, 1346, 1399]] ls (qI 35 :: st) g M Q = q_T 1 1000 qP_L_law 1399 [] ls st g M Q := x_tsw.trans rfl
def q_LN (L : Nat) (X : Nat → Int) (k : Nat) (Q : Option q_V → q_G → q_M → Prop) : Prop := ∀ (tm sl : Nat) (M : q_M), q_LI L X tm sl M → q_T 1 1000 qP_L_law 18 [] [qS 2, qR 5 0, qR 6 100, qI ((k : Int) + 7)] [] (124 + 4 * (tm - 1), sl) M Q
set_option maxRecDepth 20000 in
theorem p3_law_0 {L k tm sl : Nat} {X : Nat → Int} {M : q_M} {Q : Option q_V → q_G → q_M → Prop} (hL : L < 2147483648) (hk : k + 7 ≤ L) (hX : ∀ i, -2147483648 ≤ X i ∧ X i ≤ 2147483647) (hI : q_LI L X tm sl M) (hn : q_LN L X k Q) : q_T 1 1000 qP_L_law 192 [] [qS 2, qR 5 0, qR 6 100, qI k] [] (124 + 4 * (tm - 1), sl) M Q := by
  obtain ⟨Vt, l, hL0, W⟩ := hI
  have hL1 := hL0
  obtain ⟨C, I, el, m7, hx, R, kp, k6⟩ := hL1
  simp (disch := omega) only [b_L_law_192, x_loadR_1, x_loadS_1, x_loadR_0, x_loadS_0, x_loadI_3, x_iconst, x_iadd, y_sald, c_X5_count, x_popI, x_loadR_2, x_loadS_2, c_X6_count, x_goto, b_L_law_1432, x_iinc_3, x_loadScr, q_isL_I, q_isL_R, q_isL_S, true_and, and_true, and_self, List.length_nil, List.length_cons, Nat.zero_add, x_K, x_Kn, Int.reduceToNat, Nat.reduceAdd, Nat.reduceLeDiff, Nat.zero_le, Int.reduceAdd, Int.reduceSub, Int.reduceNeg, q_add_e, q_sub_e, m7, hx]
  refine cy_count (d := 949) C (fun M1 h1 => ?_)
  have m8 : M1 1000001 0 = L := (h1 1000001 0 (by omega) (by omega) (by omega) (by omega)).trans m7
  have hx8 : ∀ i, M1 1000000 i = X i := fun i => (h1 1000000 i (by omega) (by omega) (by omega) (by omega)).trans (hx i)
  have I1 := q_MI_cfr (q_cfr_tq h1) I
  have fq := q_frQ_tq h1
  have eV := q_Lx_V hL0 (fq 100 11 (by omega) (by omega))
  have em := q_frQ_W fq
  have kk : ∀ wt : Int, E_count (cW M 11) tm l (M 1 1) wt = E_count (mW M1) (M1 100 10) (M1 100 11) (M1 100 7) wt := fun wt => by rw [em, W.1, fq 100 10 (by omega) (by omega), fq 100 11 (by omega) (by omega), fq 100 7 (by omega) (by omega), el, R.2.1, show M 100 10 = tm from I.2.2.2.2.1.2.2.1]
  simp (disch := omega) only [b_L_law_192, x_loadR_1, x_loadS_1, x_loadR_0, x_loadS_0, x_loadI_3, x_iconst, x_iadd, y_sald, c_X5_count, x_popI, x_loadR_2, x_loadS_2, c_X6_count, x_goto, b_L_law_1432, x_iinc_3, x_loadScr, q_isL_I, q_isL_R, q_isL_S, true_and, and_true, and_self, List.length_nil, List.length_cons, Nat.zero_add, x_K, x_Kn, Int.reduceToNat, Nat.reduceAdd, Nat.reduceLeDiff, Nat.zero_le, Int.reduceAdd, Int.reduceSub, Int.reduceNeg, q_add_e, q_sub_e, m8, hx8]
  refine mz_count (d := 989) I1 (fun M2 h2 => ?_)
  simp (disch := omega) only [b_L_law_192, x_loadR_1, x_loadS_1, x_loadR_0, x_loadS_0, x_loadI_3, x_iconst, x_iadd, y_sald, c_X5_count, x_popI, x_loadR_2, x_loadS_2, c_X6_count, x_goto, b_L_law_1432, x_iinc_3, x_loadScr, q_isL_I, q_isL_R, q_isL_S, true_and, and_true, and_self, List.length_nil, List.length_cons, Nat.zero_add, x_K, x_Kn, Int.reduceToNat, Nat.reduceAdd, Nat.reduceLeDiff, Nat.zero_le, Int.reduceAdd, Int.reduceSub, Int.reduceNeg, q_add_e, q_sub_e, kk]
  exact hn _ _ M2 (q_LI_q hL0 W h1 h2)
set_option maxRecDepth 20000 in
theorem p3_law_1 {L k tm sl : Nat} {X : Nat → Int} {M : q_M} {Q : Option q_V → q_G → q_M → Prop} (hL : L < 2147483648) (hk : k + 7 ≤ L) (hX : ∀ i, -2147483648 ≤ X i ∧ X i ≤ 2147483647) (hI : q_LI L X tm sl M) (hn : q_LN L X k Q) : q_T 1 1000 qP_L_law 215 [] [qS 2, qR 5 0, qR 6 100, qI k] [] (124 + 4 * (tm - 1), sl) M Q := by
  obtain ⟨Vt, l, hL0, W⟩ := hI
  have hL1 := hL0
  obtain ⟨C, I, el, m7, hx, R, kp, k6⟩ := hL1
  simp (disch := omega) only [b_L_law_215, x_loadR_1, x_loadS_1, x_loadR_0, x_loadS_0, x_loadI_3, x_iconst, x_iadd, y_sald, c_X5_dawn, x_popI, x_loadR_2, x_loadS_2, c_X6_dawn, x_goto, b_L_law_1432, x_iinc_3, x_loadScr, q_isL_I, q_isL_R, q_isL_S, true_and, and_true, and_self, List.length_nil, List.length_cons, Nat.zero_add, x_K, x_Kn, Int.reduceToNat, Nat.reduceAdd, Nat.reduceLeDiff, Nat.zero_le, Int.reduceAdd, Int.reduceSub, Int.reduceNeg, q_add_e, q_sub_e, m7, hx]
  refine cv_dawn (d := 949) C (fun hv C1 => ?_) (fun hv => ?_)
  · generalize hV : X _ = V at hv C1
    have m8 : q_upd M 11 9 V 1000001 0 = L := (q_upd_n (by omega)).trans m7
    have hx8 : ∀ i, q_upd M 11 9 V 1000000 i = X i := fun i => (q_upd_n (by omega)).trans (hx i)
    have I1 : q_MI Vt tm (q_upd M 11 9 V) := q_MI_cfw (fun a i ha => q_upd_n (by omega)) I
    simp (disch := omega) only [b_L_law_215, x_loadR_1, x_loadS_1, x_loadR_0, x_loadS_0, x_loadI_3, x_iconst, x_iadd, y_sald, c_X5_dawn, x_popI, x_loadR_2, x_loadS_2, c_X6_dawn, x_goto, b_L_law_1432, x_iinc_3, x_loadScr, q_isL_I, q_isL_R, q_isL_S, true_and, and_true, and_self, List.length_nil, List.length_cons, Nat.zero_add, x_K, x_Kn, Int.reduceToNat, Nat.reduceAdd, Nat.reduceLeDiff, Nat.zero_le, Int.reduceAdd, Int.reduceSub, Int.reduceNeg, q_add_e, q_sub_e, m8, hx8, hV]
    refine mw_dawn (d := 989) I1 (fun _ I2 => ?_) (fun hv2 => absurd hv hv2)
    have C2 : q_XI Vt tm l sl (q_upd (q_upd M 11 9 V) 100 5 V) := q_XI_mfw (fun a i ha => q_upd_n (by omega)) C1
    simp (disch := omega) only [b_L_law_215, x_loadR_1, x_loadS_1, x_loadR_0, x_loadS_0, x_loadI_3, x_iconst, x_iadd, y_sald, c_X5_dawn, x_popI, x_loadR_2, x_loadS_2, c_X6_dawn, x_goto, b_L_law_1432, x_iinc_3, x_loadScr, q_isL_I, q_isL_R, q_isL_S, true_and, and_true, and_self, List.length_nil, List.length_cons, Nat.zero_add, x_K, x_Kn, Int.reduceToNat, Nat.reduceAdd, Nat.reduceLeDiff, Nat.zero_le, Int.reduceAdd, Int.reduceSub, Int.reduceNeg, q_add_e, q_sub_e]
    exact hn _ _ _ (q_LI_dawn hL0 W C2 I2)
  · simp (disch := omega) only [b_L_law_215, x_loadR_1, x_loadS_1, x_loadR_0, x_loadS_0, x_loadI_3, x_iconst, x_iadd, y_sald, c_X5_dawn, x_popI, x_loadR_2, x_loadS_2, c_X6_dawn, x_goto, b_L_law_1432, x_iinc_3, x_loadScr, q_isL_I, q_isL_R, q_isL_S, true_and, and_true, and_self, List.length_nil, List.length_cons, Nat.zero_add, x_K, x_Kn, Int.reduceToNat, Nat.reduceAdd, Nat.reduceLeDiff, Nat.zero_le, Int.reduceAdd, Int.reduceSub, Int.reduceNeg, q_add_e, q_sub_e, m7, hx]
    refine mw_dawn (d := 989) I (fun hv2 _ => absurd hv2 hv) (fun _ => ?_)
    simp (disch := omega) only [b_L_law_215, x_loadR_1, x_loadS_1, x_loadR_0, x_loadS_0, x_loadI_3, x_iconst, x_iadd, y_sald, c_X5_dawn, x_popI, x_loadR_2, x_loadS_2, c_X6_dawn, x_goto, b_L_law_1432, x_iinc_3, x_loadScr, q_isL_I, q_isL_R, q_isL_S, true_and, and_true, and_self, List.length_nil, List.length_cons, Nat.zero_add, x_K, x_Kn, Int.reduceToNat, Nat.reduceAdd, Nat.reduceLeDiff, Nat.zero_le, Int.reduceAdd, Int.reduceSub, Int.reduceNeg, q_add_e, q_sub_e]
    exact hn _ _ M ⟨Vt, l, hL0, W⟩
set_option maxRecDepth 20000 in
theorem p3_law_2 {L k tm sl : Nat} {X : Nat → Int} {M : q_M} {Q : Option q_V → q_G → q_M → Prop} (hL : L < 2147483648) (hk : k + 7 ≤ L) (hX : ∀ i, -2147483648 ≤ X i ∧ X i ≤ 2147483647) (hI : q_LI L X tm sl M) (hn : q_LN L X k Q) : q_T 1 1000 qP_L_law 238 [] [qS 2, qR 5 0, qR 6 100, qI k] [] (124 + 4 * (tm - 1), sl) M Q := by
  obtain ⟨Vt, l, hL0, W⟩ := hI
  have hL1 := hL0
  obtain ⟨C, I, el, m7, hx, R, kp, k6⟩ := hL1
  simp (disch := omega) only [b_L_law_238, x_loadR_1, x_loadS_1, x_loadR_0, x_loadS_0, x_loadI_3, x_iconst, x_iadd, y_sald, c_X5_build, x_popI, x_loadR_2, x_loadS_2, c_X6_build, x_goto, b_L_law_1432, x_iinc_3, x_loadScr, q_isL_I, q_isL_R, q_isL_S, true_and, and_true, and_self, List.length_nil, List.length_cons, Nat.zero_add, x_K, x_Kn, Int.reduceToNat, Nat.reduceAdd, Nat.reduceLeDiff, Nat.zero_le, Int.reduceAdd, Int.reduceSub, Int.reduceNeg, q_add_e, q_sub_e, m7, hx]
  refine cx_build (d := 949) C (fun l2 M1 C1 f1 e1 r1 => ?_)
  have m8 : M1 1000001 0 = L := (f1 1000001 0 (by omega)).trans m7
  have hx8 : ∀ i, M1 1000000 i = X i := fun i => (f1 1000000 i (by omega)).trans (hx i)
  have I1 := q_MI_cfr f1 I
  simp (disch := omega) only [b_L_law_238, x_loadR_1, x_loadS_1, x_loadR_0, x_loadS_0, x_loadI_3, x_iconst, x_iadd, y_sald, c_X5_build, x_popI, x_loadR_2, x_loadS_2, c_X6_build, x_goto, b_L_law_1432, x_iinc_3, x_loadScr, q_isL_I, q_isL_R, q_isL_S, true_and, and_true, and_self, List.length_nil, List.length_cons, Nat.zero_add, x_K, x_Kn, Int.reduceToNat, Nat.reduceAdd, Nat.reduceLeDiff, Nat.zero_le, Int.reduceAdd, Int.reduceSub, Int.reduceNeg, q_add_e, q_sub_e, m8, hx8]
  refine my_build (d := 989) I1 (fun M2 I2 f2 e2 s2 => ?_)
  have kk := q_LI_bd hL0 W C1 f1 e1 r1 I2 f2 e2 s2
  simp (disch := omega) only [b_L_law_238, x_loadR_1, x_loadS_1, x_loadR_0, x_loadS_0, x_loadI_3, x_iconst, x_iadd, y_sald, c_X5_build, x_popI, x_loadR_2, x_loadS_2, c_X6_build, x_goto, b_L_law_1432, x_iinc_3, x_loadScr, q_isL_I, q_isL_R, q_isL_S, true_and, and_true, and_self, List.length_nil, List.length_cons, Nat.zero_add, x_K, x_Kn, Int.reduceToNat, Nat.reduceAdd, Nat.reduceLeDiff, Nat.zero_le, Int.reduceAdd, Int.reduceSub, Int.reduceNeg, q_add_e, q_sub_e, kk.1]
  exact hn _ _ M2 kk.2
set_option maxRecDepth 20000 in
theorem p3_law_3 {L k tm sl : Nat} {X : Nat → Int} {M : q_M} {Q : Option q_V → q_G → q_M → Prop} (hL : L < 2147483648) (hk : k + 7 ≤ L) (hX : ∀ i, -2147483648 ≤ X i ∧ X i ≤ 2147483647) (hI : q_LI L X tm sl M) (hn : q_LN L X k Q) : q_T 1 1000 qP_L_law 281 [] [qS 2, qR 5 0, qR 6 100, qI k] [] (124 + 4 * (tm - 1), sl) M Q := by
  obtain ⟨Vt, l, hL0, W⟩ := hI
  have hL1 := hL0
  obtain ⟨C, I, el, m7, hx, R, kp, k6⟩ := hL1
  simp (disch := omega) only [b_L_law_281, x_loadR_1, x_loadS_1, x_loadR_0, x_loadS_0, x_loadI_3, x_iconst, x_iadd, y_sald, c_X5_site, x_popI, x_loadR_2, x_loadS_2, c_X6_site, x_goto, b_L_law_1432, x_iinc_3, x_loadScr, q_isL_I, q_isL_R, q_isL_S, true_and, and_true, and_self, List.length_nil, List.length_cons, Nat.zero_add, x_K, x_Kn, Int.reduceToNat, Nat.reduceAdd, Nat.reduceLeDiff, Nat.zero_le, Int.reduceAdd, Int.reduceSub, Int.reduceNeg, q_add_e, q_sub_e, m7, hx]
  refine cy_site (d := 949) C (fun M1 h1 => ?_)
  have m8 : M1 1000001 0 = L := (h1 1000001 0 (by omega) (by omega) (by omega) (by omega)).trans m7
  have hx8 : ∀ i, M1 1000000 i = X i := fun i => (h1 1000000 i (by omega) (by omega) (by omega) (by omega)).trans (hx i)
  have I1 := q_MI_cfr (q_cfr_tq h1) I
  have fq := q_frQ_tq h1
  have eV := q_Lx_V hL0 (fq 100 11 (by omega) (by omega))
  have em := q_frQ_W fq
  have kk : ∀ b wt : Int, E_site (cW M 11) b wt = E_site (mW M1) b wt := fun b wt => by rw [em, W.1]
  simp (disch := omega) only [b_L_law_281, x_loadR_1, x_loadS_1, x_loadR_0, x_loadS_0, x_loadI_3, x_iconst, x_iadd, y_sald, c_X5_site, x_popI, x_loadR_2, x_loadS_2, c_X6_site, x_goto, b_L_law_1432, x_iinc_3, x_loadScr, q_isL_I, q_isL_R, q_isL_S, true_and, and_true, and_self, List.length_nil, List.length_cons, Nat.zero_add, x_K, x_Kn, Int.reduceToNat, Nat.reduceAdd, Nat.reduceLeDiff, Nat.zero_le, Int.reduceAdd, Int.reduceSub, Int.reduceNeg, q_add_e, q_sub_e, m8, hx8]
  refine mz_site (d := 989) I1 (fun M2 h2 => ?_)
  simp (disch := omega) only [b_L_law_281, x_loadR_1, x_loadS_1, x_loadR_0, x_loadS_0, x_loadI_3, x_iconst, x_iadd, y_sald, c_X5_site, x_popI, x_loadR_2, x_loadS_2, c_X6_site, x_goto, b_L_law_1432, x_iinc_3, x_loadScr, q_isL_I, q_isL_R, q_isL_S, true_and, and_true, and_self, List.length_nil, List.length_cons, Nat.zero_add, x_K, x_Kn, Int.reduceToNat, Nat.reduceAdd, Nat.reduceLeDiff, Nat.zero_le, Int.reduceAdd, Int.reduceSub, Int.reduceNeg, q_add_e, q_sub_e, kk]
  exact hn _ _ M2 (q_LI_q hL0 W h1 h2)
set_option maxRecDepth 20000 in
theorem p3_law_4 {L k tm sl : Nat} {X : Nat → Int} {M : q_M} {Q : Option q_V → q_G → q_M → Prop} (hL : L < 2147483648) (hk : k + 7 ≤ L) (hX : ∀ i, -2147483648 ≤ X i ∧ X i ≤ 2147483647) (hI : q_LI L X tm sl M) (hn : q_LN L X k Q) : q_T 1 1000 qP_L_law 314 [] [qS 2, qR 5 0, qR 6 100, qI k] [] (124 + 4 * (tm - 1), sl) M Q := by
  obtain ⟨Vt, l, hL0, W⟩ := hI
  have hL1 := hL0
  obtain ⟨C, I, el, m7, hx, R, kp, k6⟩ := hL1
  simp (disch := omega) only [b_L_law_314, x_loadR_1, x_loadS_1, x_loadR_0, x_loadS_0, x_loadI_3, x_iconst, x_iadd, y_sald, c_X5_feed, x_popI, x_loadR_2, x_loadS_2, b_L_law_367, c_X6_feed, x_goto, b_L_law_1432, x_iinc_3, x_loadScr, q_isL_I, q_isL_R, q_isL_S, true_and, and_true, and_self, List.length_nil, List.length_cons, Nat.zero_add, x_K, x_Kn, Int.reduceToNat, Nat.reduceAdd, Nat.reduceLeDiff, Nat.zero_le, Int.reduceAdd, Int.reduceSub, Int.reduceNeg, q_add_e, q_sub_e, m7, hx]
  refine cv_feed (d := 949) C (fun hB => ?_) (fun hB h1 => ?_) (fun M1 hB h1 C1 f1 s1 t1 => ?_)
  · simp (disch := omega) only [b_L_law_314, x_loadR_1, x_loadS_1, x_loadR_0, x_loadS_0, x_loadI_3, x_iconst, x_iadd, y_sald, c_X5_feed, x_popI, x_loadR_2, x_loadS_2, b_L_law_367, c_X6_feed, x_goto, b_L_law_1432, x_iinc_3, x_loadScr, q_isL_I, q_isL_R, q_isL_S, true_and, and_true, and_self, List.length_nil, List.length_cons, Nat.zero_add, x_K, x_Kn, Int.reduceToNat, Nat.reduceAdd, Nat.reduceLeDiff, Nat.zero_le, Int.reduceAdd, Int.reduceSub, Int.reduceNeg, q_add_e, q_sub_e, m7, hx]
    refine mw_feed (d := 989) I (fun _ => ?_) (fun hB2 _ => absurd hB2 hB) (fun _ hB2 _ _ _ _ _ => absurd hB2 hB)
    simp (disch := omega) only [b_L_law_314, x_loadR_1, x_loadS_1, x_loadR_0, x_loadS_0, x_loadI_3, x_iconst, x_iadd, y_sald, c_X5_feed, x_popI, x_loadR_2, x_loadS_2, b_L_law_367, c_X6_feed, x_goto, b_L_law_1432, x_iinc_3, x_loadScr, q_isL_I, q_isL_R, q_isL_S, true_and, and_true, and_self, List.length_nil, List.length_cons, Nat.zero_add, x_K, x_Kn, Int.reduceToNat, Nat.reduceAdd, Nat.reduceLeDiff, Nat.zero_le, Int.reduceAdd, Int.reduceSub, Int.reduceNeg, q_add_e, q_sub_e]
    exact hn _ _ M ⟨Vt, l, hL0, W⟩
  · simp (disch := omega) only [b_L_law_314, x_loadR_1, x_loadS_1, x_loadR_0, x_loadS_0, x_loadI_3, x_iconst, x_iadd, y_sald, c_X5_feed, x_popI, x_loadR_2, x_loadS_2, b_L_law_367, c_X6_feed, x_goto, b_L_law_1432, x_iinc_3, x_loadScr, q_isL_I, q_isL_R, q_isL_S, true_and, and_true, and_self, List.length_nil, List.length_cons, Nat.zero_add, x_K, x_Kn, Int.reduceToNat, Nat.reduceAdd, Nat.reduceLeDiff, Nat.zero_le, Int.reduceAdd, Int.reduceSub, Int.reduceNeg, q_add_e, q_sub_e, m7, hx]
    refine mw_feed (d := 989) I (fun hB2 => absurd hB hB2) (fun _ _ => ?_) (fun _ _ h2 _ _ _ _ => absurd h2 (by have := R.2.1; omega))
    simp (disch := omega) only [b_L_law_314, x_loadR_1, x_loadS_1, x_loadR_0, x_loadS_0, x_loadI_3, x_iconst, x_iadd, y_sald, c_X5_feed, x_popI, x_loadR_2, x_loadS_2, b_L_law_367, c_X6_feed, x_goto, b_L_law_1432, x_iinc_3, x_loadScr, q_isL_I, q_isL_R, q_isL_S, true_and, and_true, and_self, List.length_nil, List.length_cons, Nat.zero_add, x_K, x_Kn, Int.reduceToNat, Nat.reduceAdd, Nat.reduceLeDiff, Nat.zero_le, Int.reduceAdd, Int.reduceSub, Int.reduceNeg, q_add_e, q_sub_e]
    exact hn _ _ M ⟨Vt, l, hL0, W⟩
  · have m8 : M1 1000001 0 = L := (f1 1000001 0 (by omega) (by omega)).trans m7
    have hx8 : ∀ i, M1 1000000 i = X i := fun i => (f1 1000000 i (by omega) (by omega)).trans (hx i)
    have I1 := q_MI_cfw (fun a i ha => f1 a i (by omega) (by omega)) I
    have e7 : M1 100 7 = M 1 1 := (f1 100 7 (by omega) (by omega)).trans R.2.1.symm
    simp (disch := omega) only [b_L_law_314, x_loadR_1, x_loadS_1, x_loadR_0, x_loadS_0, x_loadI_3, x_iconst, x_iadd, y_sald, c_X5_feed, x_popI, x_loadR_2, x_loadS_2, b_L_law_367, c_X6_feed, x_goto, b_L_law_1432, x_iinc_3, x_loadScr, q_isL_I, q_isL_R, q_isL_S, true_and, and_true, and_self, List.length_nil, List.length_cons, Nat.zero_add, x_K, x_Kn, Int.reduceToNat, Nat.reduceAdd, Nat.reduceLeDiff, Nat.zero_le, Int.reduceAdd, Int.reduceSub, Int.reduceNeg, q_add_e, q_sub_e, m8, hx8]
    refine mw_feed (d := 989) I1 (fun hB2 => absurd hB hB2) (fun _ h2 => absurd h2 (by omega)) (fun M2 _ _ I2 f2 s2 t2 => ?_)
    have C2 := q_XI_mfw (M2 := M2) (fun a i ha => f2 a i (by omega) (by omega)) C1
    simp (disch := omega) only [b_L_law_314, x_loadR_1, x_loadS_1, x_loadR_0, x_loadS_0, x_loadI_3, x_iconst, x_iadd, y_sald, c_X5_feed, x_popI, x_loadR_2, x_loadS_2, b_L_law_367, c_X6_feed, x_goto, b_L_law_1432, x_iinc_3, x_loadScr, q_isL_I, q_isL_R, q_isL_S, true_and, and_true, and_self, List.length_nil, List.length_cons, Nat.zero_add, x_K, x_Kn, Int.reduceToNat, Nat.reduceAdd, Nat.reduceLeDiff, Nat.zero_le, Int.reduceAdd, Int.reduceSub, Int.reduceNeg, q_add_e, q_sub_e, e7]
    refine hn _ _ M2 ⟨Vt, l, ⟨C2, I2, ?_, (f2 _ _ (by omega) (by omega)).trans m8, fun i => (f2 _ _ (by omega) (by omega)).trans (hx8 i), ⟨?_, ?_, fun w c a b => ?_⟩, ?_, ?_⟩, q_Rw_f (fun a i ha => (f2 a i (by omega) (by omega)).trans (f1 a i (by omega) (by omega))) W⟩
    · rw [f2 100 11 (by omega) (by omega), f1 100 11 (by omega) (by omega)]; exact el
    · rw [funext (fun i => f2 2 i (by omega) (by omega)), t1, t2, e7, funext (fun i => f1 105 i (by omega) (by omega)), ← R.1]
    · rw [f2 1 1 (by omega) (by omega), s1, s2, e7]
    · rw [f2 114 _ (by omega) (by omega), f1 114 _ (by omega) (by omega)]; exact R.2.2 w c a b
    · rw [f2 0 6 (by omega) (by omega), f2 65 10 (by omega) (by omega), f2 109 2 (by omega) (by omega), f1 0 6 (by omega) (by omega), f1 65 10 (by omega) (by omega), f1 109 2 (by omega) (by omega)]; exact kp
    · rw [f2 0 6 (by omega) (by omega), f2 100 12 (by omega) (by omega), f1 0 6 (by omega) (by omega), f1 100 12 (by omega) (by omega)]; exact k6
set_option maxRecDepth 20000 in
theorem p3_law_5 {L k tm sl : Nat} {X : Nat → Int} {M : q_M} {Q : Option q_V → q_G → q_M → Prop} (hL : L < 2147483648) (hk : k + 7 ≤ L) (hX : ∀ i, -2147483648 ≤ X i ∧ X i ≤ 2147483647) (hI : q_LI L X tm sl M) (hn : q_LN L X k Q) : q_T 1 1000 qP_L_law 389 [] [qS 2, qR 5 0, qR 6 100, qI k] [] (124 + 4 * (tm - 1), sl) M Q := by
  obtain ⟨Vt, l, hL0, W⟩ := hI
  have hL1 := hL0
  obtain ⟨C, I, el, m7, hx, R, kp, k6⟩ := hL1
  simp (disch := omega) only [b_L_law_389, x_loadR_1, x_loadS_1, c_X5_text, x_popI, x_loadR_2, x_loadS_2, c_X6_text, x_goto, b_L_law_1432, x_iinc_3, x_loadScr, q_isL_I, q_isL_R, q_isL_S, true_and, and_true, and_self, List.length_nil, List.length_cons, Nat.zero_add, x_K, x_Kn, Int.reduceToNat, Nat.reduceAdd, Nat.reduceLeDiff, Nat.zero_le, Int.reduceAdd, Int.reduceSub, Int.reduceNeg, q_add_e, q_sub_e, m7, hx]
  obtain ⟨n, hnn⟩ : ∃ n : Nat, M 1 1 = n := ⟨(M 1 1).toNat, by have := C.2.2.2.2.2.1; omega⟩
  refine cv_textY (d := 949) C hnn (fun v tm2 sl2 M1 hP => ?_)
  have fx : ∀ a i, 1000 ≤ a → M1 a i = M a i := by
    intro a i ha
    rcases hP with z | z | z
    · rw [z.2.2.1]
    · exact z.2.2.2.2.1 a i (by omega)
    · exact z.2.2.2.1 a i (by omega)
  have m8 : M1 1000001 0 = L := (fx 1000001 0 (by omega)).trans m7
  have hx8 : ∀ i, M1 1000000 i = X i := fun i => (fx 1000000 i (by omega)).trans (hx i)
  simp (disch := omega) only [b_L_law_389, x_loadR_1, x_loadS_1, c_X5_text, x_popI, x_loadR_2, x_loadS_2, c_X6_text, x_goto, b_L_law_1432, x_iinc_3, x_loadScr, q_isL_I, q_isL_R, q_isL_S, true_and, and_true, and_self, List.length_nil, List.length_cons, Nat.zero_add, x_K, x_Kn, Int.reduceToNat, Nat.reduceAdd, Nat.reduceLeDiff, Nat.zero_le, Int.reduceAdd, Int.reduceSub, Int.reduceNeg, q_add_e, q_sub_e, m8, hx8]
  refine mw_textY (d := 988) C I R hnn hP (fun Vt2 M2 C2 I2 R2 f2 => ?_)
  simp (disch := omega) only [b_L_law_389, x_loadR_1, x_loadS_1, c_X5_text, x_popI, x_loadR_2, x_loadS_2, c_X6_text, x_goto, b_L_law_1432, x_iinc_3, x_loadScr, q_isL_I, q_isL_R, q_isL_S, true_and, and_true, and_self, List.length_nil, List.length_cons, Nat.zero_add, x_K, x_Kn, Int.reduceToNat, Nat.reduceAdd, Nat.reduceLeDiff, Nat.zero_le, Int.reduceAdd, Int.reduceSub, Int.reduceNeg, q_add_e, q_sub_e]
  refine hn _ _ M2 ⟨Vt2, l, ⟨C2, I2, (f2 100 11 (by omega)).trans el, (f2 _ _ (by omega)).trans m7, fun i => (f2 _ _ (by omega)).trans (hx i), R2, ?_, ?_⟩, q_Rw_f (fun a i ha => f2 a i (by omega)) W⟩
  · rw [f2 0 6 (by omega), f2 65 10 (by omega), f2 109 2 (by omega)]; exact kp
  · rw [f2 0 6 (by omega), f2 100 12 (by omega)]; exact k6
set_option maxRecDepth 20000 in
theorem p3_law_6 {L k tm sl : Nat} {X : Nat → Int} {M : q_M} {Q : Option q_V → q_G → q_M → Prop} (hL : L < 2147483648) (hk : k + 7 ≤ L) (hX : ∀ i, -2147483648 ≤ X i ∧ X i ≤ 2147483647) (hI : q_LI L X tm sl M) (hn : q_LN L X k Q) : q_T 1 1000 qP_L_law 402 [] [qS 2, qR 5 0, qR 6 100, qI k] [] (124 + 4 * (tm - 1), sl) M Q := by
  obtain ⟨Vt, l, hL0, W⟩ := hI
  have hL1 := hL0
  obtain ⟨C, I, el, m7, hx, R, kp, k6⟩ := hL1
  simp (disch := omega) only [b_L_law_402, x_loadR_1, x_loadS_1, x_loadR_0, x_loadS_0, x_loadI_3, x_iconst, x_iadd, y_sald, c_X5_force, x_popI, x_loadR_2, x_loadS_2, c_X6_force, x_goto, b_L_law_1432, x_iinc_3, x_loadScr, q_isL_I, q_isL_R, q_isL_S, true_and, and_true, and_self, List.length_nil, List.length_cons, Nat.zero_add, x_K, x_Kn, Int.reduceToNat, Nat.reduceAdd, Nat.reduceLeDiff, Nat.zero_le, Int.reduceAdd, Int.reduceSub, Int.reduceNeg, q_add_e, q_sub_e, m7, hx]
  refine cv_force (d := 949) C (fun n hn1 hn2 C1 => ?_) (fun hv => ?_)
  · generalize hV : X _ = V at hn1
    have m8 : q_upd M 11 10 (q_ta n : Nat) 1000001 0 = L := (q_upd_n (by omega)).trans m7
    have hx8 : ∀ i, q_upd M 11 10 (q_ta n : Nat) 1000000 i = X i := fun i => (q_upd_n (by omega)).trans (hx i)
    have I1 : q_MI Vt tm (q_upd M 11 10 (q_ta n : Nat)) := q_MI_cfw (fun a i ha => q_upd_n (by omega)) I
    have el2 : q_upd M 11 10 (q_ta n : Nat) 100 11 = l := (q_upd_n (by omega)).trans el
    simp (disch := omega) only [b_L_law_402, x_loadR_1, x_loadS_1, x_loadR_0, x_loadS_0, x_loadI_3, x_iconst, x_iadd, y_sald, c_X5_force, x_popI, x_loadR_2, x_loadS_2, c_X6_force, x_goto, b_L_law_1432, x_iinc_3, x_loadScr, q_isL_I, q_isL_R, q_isL_S, true_and, and_true, and_self, List.length_nil, List.length_cons, Nat.zero_add, x_K, x_Kn, Int.reduceToNat, Nat.reduceAdd, Nat.reduceLeDiff, Nat.zero_le, Int.reduceAdd, Int.reduceSub, Int.reduceNeg, q_add_e, q_sub_e, m8, hx8, hV]
    refine mw_force (d := 989) I1 (fun _ I2 => ?_) (fun hv2 => absurd (by omega) hv2)
    have C2 := q_XI_mfw (M2 := q_upd (q_upd M 11 10 (q_ta n : Nat)) 100 11 V) (fun a i ha => q_upd_n (by omega)) C1
    simp (disch := omega) only [b_L_law_402, x_loadR_1, x_loadS_1, x_loadR_0, x_loadS_0, x_loadI_3, x_iconst, x_iadd, y_sald, c_X5_force, x_popI, x_loadR_2, x_loadS_2, c_X6_force, x_goto, b_L_law_1432, x_iinc_3, x_loadScr, q_isL_I, q_isL_R, q_isL_S, true_and, and_true, and_self, List.length_nil, List.length_cons, Nat.zero_add, x_K, x_Kn, Int.reduceToNat, Nat.reduceAdd, Nat.reduceLeDiff, Nat.zero_le, Int.reduceAdd, Int.reduceSub, Int.reduceNeg, q_add_e, q_sub_e, el2]
    refine hn _ _ _ ⟨Vt, n, ⟨C2, I2, by rw [q_upd_s]; exact hn1, (q_upd_n (by omega)).trans m8, fun i => (q_upd_n (by omega)).trans (hx8 i), ⟨?_, ?_, fun w c a b => ?_⟩, ?_, ?_⟩, q_Rw_force W⟩
    · have g2 : q_upd (q_upd M 11 10 (q_ta n : Nat)) 100 11 V 2 = M 2 := funext (fun i => by simp (disch := omega) only [q_upd_n])
      have g3 : q_upd (q_upd M 11 10 (q_ta n : Nat)) 100 11 V 105 = M 105 := funext (fun i => by simp (disch := omega) only [q_upd_n])
      rw [g2, g3]; exact R.1
    · simp (disch := omega) only [q_upd_n]; exact R.2.1
    · simp (disch := omega) only [q_upd_n]; exact R.2.2 w c a b
    · simp (disch := omega) only [q_upd_n]; exact kp
    · simp (disch := omega) only [q_upd_n]; exact k6
  · simp (disch := omega) only [b_L_law_402, x_loadR_1, x_loadS_1, x_loadR_0, x_loadS_0, x_loadI_3, x_iconst, x_iadd, y_sald, c_X5_force, x_popI, x_loadR_2, x_loadS_2, c_X6_force, x_goto, b_L_law_1432, x_iinc_3, x_loadScr, q_isL_I, q_isL_R, q_isL_S, true_and, and_true, and_self, List.length_nil, List.length_cons, Nat.zero_add, x_K, x_Kn, Int.reduceToNat, Nat.reduceAdd, Nat.reduceLeDiff, Nat.zero_le, Int.reduceAdd, Int.reduceSub, Int.reduceNeg, q_add_e, q_sub_e, m7, hx]
    refine mw_force (d := 989) I (fun hv2 _ => absurd hv2 hv) (fun _ => ?_)
    simp (disch := omega) only [b_L_law_402, x_loadR_1, x_loadS_1, x_loadR_0, x_loadS_0, x_loadI_3, x_iconst, x_iadd, y_sald, c_X5_force, x_popI, x_loadR_2, x_loadS_2, c_X6_force, x_goto, b_L_law_1432, x_iinc_3, x_loadScr, q_isL_I, q_isL_R, q_isL_S, true_and, and_true, and_self, List.length_nil, List.length_cons, Nat.zero_add, x_K, x_Kn, Int.reduceToNat, Nat.reduceAdd, Nat.reduceLeDiff, Nat.zero_le, Int.reduceAdd, Int.reduceSub, Int.reduceNeg, q_add_e, q_sub_e]
    exact hn _ _ M ⟨Vt, l, hL0, W⟩
set_option maxRecDepth 20000 in
theorem p3_law_7 {L k tm sl : Nat} {X : Nat → Int} {M : q_M} {Q : Option q_V → q_G → q_M → Prop} (hL : L < 2147483648) (hk : k + 7 ≤ L) (hX : ∀ i, -2147483648 ≤ X i ∧ X i ≤ 2147483647) (hI : q_LI L X tm sl M) (hn : q_LN L X k Q) : q_T 1 1000 qP_L_law 425 [] [qS 2, qR 5 0, qR 6 100, qI k] [] (124 + 4 * (tm - 1), sl) M Q := by
  obtain ⟨Vt, l, hL0, W⟩ := hI
  have hL1 := hL0
  obtain ⟨C, I, el, m7, hx, R, kp, k6⟩ := hL1
  simp (disch := omega) only [b_L_law_425, x_loadR_1, x_loadS_1, x_loadR_0, x_loadS_0, x_loadI_3, x_iconst, x_iadd, y_sald, c_X5_asks, x_popI, x_loadR_2, x_loadS_2, c_X6_asks, x_goto, b_L_law_1432, x_iinc_3, x_loadScr, q_isL_I, q_isL_R, q_isL_S, true_and, and_true, and_self, List.length_nil, List.length_cons, Nat.zero_add, x_K, x_Kn, Int.reduceToNat, Nat.reduceAdd, Nat.reduceLeDiff, Nat.zero_le, Int.reduceAdd, Int.reduceSub, Int.reduceNeg, q_add_e, q_sub_e, m7, hx]
  refine cy_asks (d := 949) C (fun M1 h1 => ?_)
  have m8 : M1 1000001 0 = L := (h1 1000001 0 (by omega) (by omega) (by omega) (by omega)).trans m7
  have hx8 : ∀ i, M1 1000000 i = X i := fun i => (h1 1000000 i (by omega) (by omega) (by omega) (by omega)).trans (hx i)
  have I1 := q_MI_cfr (q_cfr_tq h1) I
  have fq := q_frQ_tq h1
  have eV := q_Lx_V hL0 (fq 100 11 (by omega) (by omega))
  have em := q_frQ_W fq
  have kk : ∀ part p b : Int, E_asks (Vt l) (cW M 11) part p b = E_asks (q_Vr Vt M1) (mW M1) part p b := fun part p b => by rw [eV, em, W.1]
  simp (disch := omega) only [b_L_law_425, x_loadR_1, x_loadS_1, x_loadR_0, x_loadS_0, x_loadI_3, x_iconst, x_iadd, y_sald, c_X5_asks, x_popI, x_loadR_2, x_loadS_2, c_X6_asks, x_goto, b_L_law_1432, x_iinc_3, x_loadScr, q_isL_I, q_isL_R, q_isL_S, true_and, and_true, and_self, List.length_nil, List.length_cons, Nat.zero_add, x_K, x_Kn, Int.reduceToNat, Nat.reduceAdd, Nat.reduceLeDiff, Nat.zero_le, Int.reduceAdd, Int.reduceSub, Int.reduceNeg, q_add_e, q_sub_e, m8, hx8]
  refine mz_asks (d := 989) I1 (fun M2 h2 => ?_)
  simp (disch := omega) only [b_L_law_425, x_loadR_1, x_loadS_1, x_loadR_0, x_loadS_0, x_loadI_3, x_iconst, x_iadd, y_sald, c_X5_asks, x_popI, x_loadR_2, x_loadS_2, c_X6_asks, x_goto, b_L_law_1432, x_iinc_3, x_loadScr, q_isL_I, q_isL_R, q_isL_S, true_and, and_true, and_self, List.length_nil, List.length_cons, Nat.zero_add, x_K, x_Kn, Int.reduceToNat, Nat.reduceAdd, Nat.reduceLeDiff, Nat.zero_le, Int.reduceAdd, Int.reduceSub, Int.reduceNeg, q_add_e, q_sub_e, kk]
  exact hn _ _ M2 (q_LI_q hL0 W h1 h2)
set_option maxRecDepth 20000 in
theorem p3_law_8 {L k tm sl : Nat} {X : Nat → Int} {M : q_M} {Q : Option q_V → q_G → q_M → Prop} (hL : L < 2147483648) (hk : k + 7 ≤ L) (hX : ∀ i, -2147483648 ≤ X i ∧ X i ≤ 2147483647) (hI : q_LI L X tm sl M) (hn : q_LN L X k Q) : q_T 1 1000 qP_L_law 468 [] [qS 2, qR 5 0, qR 6 100, qI k] [] (124 + 4 * (tm - 1), sl) M Q := by
  obtain ⟨Vt, l, hL0, W⟩ := hI
  have hL1 := hL0
  obtain ⟨C, I, el, m7, hx, R, kp, k6⟩ := hL1
  simp (disch := omega) only [b_L_law_468, x_loadR_1, x_loadS_1, x_loadR_0, x_loadS_0, x_loadI_3, x_iconst, x_iadd, y_sald, c_X5_stone, x_popI, x_loadR_2, x_loadS_2, c_X6_stone, x_goto, b_L_law_1432, x_iinc_3, x_loadScr, q_isL_I, q_isL_R, q_isL_S, true_and, and_true, and_self, List.length_nil, List.length_cons, Nat.zero_add, x_K, x_Kn, Int.reduceToNat, Nat.reduceAdd, Nat.reduceLeDiff, Nat.zero_le, Int.reduceAdd, Int.reduceSub, Int.reduceNeg, q_add_e, q_sub_e, m7, hx]
  refine cx_stone (d := 949) C (fun l2 M1 C1 f1 e1 r1 => ?_)
  have m8 : M1 1000001 0 = L := (f1 1000001 0 (by omega)).trans m7
  have hx8 : ∀ i, M1 1000000 i = X i := fun i => (f1 1000000 i (by omega)).trans (hx i)
  have I1 := q_MI_cfr f1 I
  simp (disch := omega) only [b_L_law_468, x_loadR_1, x_loadS_1, x_loadR_0, x_loadS_0, x_loadI_3, x_iconst, x_iadd, y_sald, c_X5_stone, x_popI, x_loadR_2, x_loadS_2, c_X6_stone, x_goto, b_L_law_1432, x_iinc_3, x_loadScr, q_isL_I, q_isL_R, q_isL_S, true_and, and_true, and_self, List.length_nil, List.length_cons, Nat.zero_add, x_K, x_Kn, Int.reduceToNat, Nat.reduceAdd, Nat.reduceLeDiff, Nat.zero_le, Int.reduceAdd, Int.reduceSub, Int.reduceNeg, q_add_e, q_sub_e, m8, hx8]
  refine my_stone (d := 989) I1 (fun M2 I2 f2 e2 s2 => ?_)
  have kk := q_LI_st hL0 W C1 f1 e1 r1 I2 f2 e2 s2
  simp (disch := omega) only [b_L_law_468, x_loadR_1, x_loadS_1, x_loadR_0, x_loadS_0, x_loadI_3, x_iconst, x_iadd, y_sald, c_X5_stone, x_popI, x_loadR_2, x_loadS_2, c_X6_stone, x_goto, b_L_law_1432, x_iinc_3, x_loadScr, q_isL_I, q_isL_R, q_isL_S, true_and, and_true, and_self, List.length_nil, List.length_cons, Nat.zero_add, x_K, x_Kn, Int.reduceToNat, Nat.reduceAdd, Nat.reduceLeDiff, Nat.zero_le, Int.reduceAdd, Int.reduceSub, Int.reduceNeg, q_add_e, q_sub_e, kk.1]
  exact hn _ _ M2 kk.2
set_option maxRecDepth 20000 in
theorem p3_law_9 {L k tm sl : Nat} {X : Nat → Int} {M : q_M} {Q : Option q_V → q_G → q_M → Prop} (hL : L < 2147483648) (hk : k + 7 ≤ L) (hX : ∀ i, -2147483648 ≤ X i ∧ X i ≤ 2147483647) (hI : q_LI L X tm sl M) (hn : q_LN L X k Q) : q_T 1 1000 qP_L_law 511 [] [qS 2, qR 5 0, qR 6 100, qI k] [] (124 + 4 * (tm - 1), sl) M Q := by
  obtain ⟨Vt, l, hL0, W⟩ := hI
  have hL1 := hL0
  obtain ⟨C, I, el, m7, hx, R, kp, k6⟩ := hL1
  simp (disch := omega) only [b_L_law_511, x_loadR_1, x_loadS_1, x_loadR_0, x_loadS_0, x_loadI_3, x_iconst, x_iadd, y_sald, c_X5_put, x_popI, x_loadR_2, x_loadS_2, c_X6_put, x_goto, b_L_law_1432, x_iinc_3, x_loadScr, q_isL_I, q_isL_R, q_isL_S, true_and, and_true, and_self, List.length_nil, List.length_cons, Nat.zero_add, x_K, x_Kn, Int.reduceToNat, Nat.reduceAdd, Nat.reduceLeDiff, Nat.zero_le, Int.reduceAdd, Int.reduceSub, Int.reduceNeg, q_add_e, q_sub_e, m7, hx]
  refine cx_put (d := 949) C (fun l2 M1 C1 f1 e1 r1 => ?_)
  have m8 : M1 1000001 0 = L := (f1 1000001 0 (by omega)).trans m7
  have hx8 : ∀ i, M1 1000000 i = X i := fun i => (f1 1000000 i (by omega)).trans (hx i)
  have I1 := q_MI_cfr f1 I
  simp (disch := omega) only [b_L_law_511, x_loadR_1, x_loadS_1, x_loadR_0, x_loadS_0, x_loadI_3, x_iconst, x_iadd, y_sald, c_X5_put, x_popI, x_loadR_2, x_loadS_2, c_X6_put, x_goto, b_L_law_1432, x_iinc_3, x_loadScr, q_isL_I, q_isL_R, q_isL_S, true_and, and_true, and_self, List.length_nil, List.length_cons, Nat.zero_add, x_K, x_Kn, Int.reduceToNat, Nat.reduceAdd, Nat.reduceLeDiff, Nat.zero_le, Int.reduceAdd, Int.reduceSub, Int.reduceNeg, q_add_e, q_sub_e, m8, hx8]
  refine my_put (d := 989) I1 (fun M2 I2 f2 e2 s2 => ?_)
  have kk := q_LI_pt hL0 W C1 f1 e1 r1 I2 f2 e2 s2
  simp (disch := omega) only [b_L_law_511, x_loadR_1, x_loadS_1, x_loadR_0, x_loadS_0, x_loadI_3, x_iconst, x_iadd, y_sald, c_X5_put, x_popI, x_loadR_2, x_loadS_2, c_X6_put, x_goto, b_L_law_1432, x_iinc_3, x_loadScr, q_isL_I, q_isL_R, q_isL_S, true_and, and_true, and_self, List.length_nil, List.length_cons, Nat.zero_add, x_K, x_Kn, Int.reduceToNat, Nat.reduceAdd, Nat.reduceLeDiff, Nat.zero_le, Int.reduceAdd, Int.reduceSub, Int.reduceNeg, q_add_e, q_sub_e, kk.1]
  exact hn _ _ M2 kk.2
set_option maxRecDepth 20000 in
theorem p3_law_10 {L k tm sl : Nat} {X : Nat → Int} {M : q_M} {Q : Option q_V → q_G → q_M → Prop} (hL : L < 2147483648) (hk : k + 7 ≤ L) (hX : ∀ i, -2147483648 ≤ X i ∧ X i ≤ 2147483647) (hI : q_LI L X tm sl M) (hn : q_LN L X k Q) : q_T 1 1000 qP_L_law 554 [] [qS 2, qR 5 0, qR 6 100, qI k] [] (124 + 4 * (tm - 1), sl) M Q := by
  obtain ⟨Vt, l, hL0, W⟩ := hI
  have hL1 := hL0
  obtain ⟨C, I, el, m7, hx, R, kp, k6⟩ := hL1
  simp (disch := omega) only [b_L_law_554, x_loadR_1, x_loadS_1, x_loadR_0, x_loadS_0, x_loadI_3, x_iconst, x_iadd, y_sald, c_X5_told, x_popI, x_loadR_2, x_loadS_2, c_X6_told, x_goto, b_L_law_1432, x_iinc_3, x_loadScr, q_isL_I, q_isL_R, q_isL_S, true_and, and_true, and_self, List.length_nil, List.length_cons, Nat.zero_add, x_K, x_Kn, Int.reduceToNat, Nat.reduceAdd, Nat.reduceLeDiff, Nat.zero_le, Int.reduceAdd, Int.reduceSub, Int.reduceNeg, q_add_e, q_sub_e, m7, hx]
  refine cy_told (d := 949) C (fun M1 h1 => ?_)
  have m8 : M1 1000001 0 = L := (h1 1000001 0 (by omega) (by omega) (by omega) (by omega)).trans m7
  have hx8 : ∀ i, M1 1000000 i = X i := fun i => (h1 1000000 i (by omega) (by omega) (by omega) (by omega)).trans (hx i)
  have I1 := q_MI_cfr (q_cfr_tq h1) I
  have fq := q_frQ_tq h1
  have eV := q_Lx_V hL0 (fq 100 11 (by omega) (by omega))
  have em := q_frQ_W fq
  have kk : ∀ p wt : Int, E_told (Vt l) (cW M 11) p wt = E_told (q_Vr Vt M1) (mW M1) p wt := fun p wt => by rw [eV, em, W.1]
  simp (disch := omega) only [b_L_law_554, x_loadR_1, x_loadS_1, x_loadR_0, x_loadS_0, x_loadI_3, x_iconst, x_iadd, y_sald, c_X5_told, x_popI, x_loadR_2, x_loadS_2, c_X6_told, x_goto, b_L_law_1432, x_iinc_3, x_loadScr, q_isL_I, q_isL_R, q_isL_S, true_and, and_true, and_self, List.length_nil, List.length_cons, Nat.zero_add, x_K, x_Kn, Int.reduceToNat, Nat.reduceAdd, Nat.reduceLeDiff, Nat.zero_le, Int.reduceAdd, Int.reduceSub, Int.reduceNeg, q_add_e, q_sub_e, m8, hx8]
  refine mz_told (d := 989) I1 (fun M2 h2 => ?_)
  simp (disch := omega) only [b_L_law_554, x_loadR_1, x_loadS_1, x_loadR_0, x_loadS_0, x_loadI_3, x_iconst, x_iadd, y_sald, c_X5_told, x_popI, x_loadR_2, x_loadS_2, c_X6_told, x_goto, b_L_law_1432, x_iinc_3, x_loadScr, q_isL_I, q_isL_R, q_isL_S, true_and, and_true, and_self, List.length_nil, List.length_cons, Nat.zero_add, x_K, x_Kn, Int.reduceToNat, Nat.reduceAdd, Nat.reduceLeDiff, Nat.zero_le, Int.reduceAdd, Int.reduceSub, Int.reduceNeg, q_add_e, q_sub_e, kk]
  exact hn _ _ M2 (q_LI_q hL0 W h1 h2)
set_option maxRecDepth 20000 in
theorem p3_law_11 {L k tm sl : Nat} {X : Nat → Int} {M : q_M} {Q : Option q_V → q_G → q_M → Prop} (hL : L < 2147483648) (hk : k + 7 ≤ L) (hX : ∀ i, -2147483648 ≤ X i ∧ X i ≤ 2147483647) (hI : q_LI L X tm sl M) (hn : q_LN L X k Q) : q_T 1 1000 qP_L_law 587 [] [qS 2, qR 5 0, qR 6 100, qI k] [] (124 + 4 * (tm - 1), sl) M Q := by
  obtain ⟨Vt, l, hL0, W⟩ := hI
  have hL1 := hL0
  obtain ⟨C, I, el, m7, hx, R, kp, k6⟩ := hL1
  simp (disch := omega) only [b_L_law_587, x_loadR_1, x_loadS_1, x_loadR_0, x_loadS_0, x_loadI_3, x_iconst, x_iadd, y_sald, c_X5_love, x_popI, x_loadR_2, x_loadS_2, c_X6_love, x_goto, b_L_law_1432, x_iinc_3, x_loadScr, q_isL_I, q_isL_R, q_isL_S, true_and, and_true, and_self, List.length_nil, List.length_cons, Nat.zero_add, x_K, x_Kn, Int.reduceToNat, Nat.reduceAdd, Nat.reduceLeDiff, Nat.zero_le, Int.reduceAdd, Int.reduceSub, Int.reduceNeg, q_add_e, q_sub_e, m7, hx]
  refine cy_love (d := 949) C (fun M1 h1 => ?_)
  have m8 : M1 1000001 0 = L := (h1 1000001 0 (by omega) (by omega) (by omega) (by omega)).trans m7
  have hx8 : ∀ i, M1 1000000 i = X i := fun i => (h1 1000000 i (by omega) (by omega) (by omega) (by omega)).trans (hx i)
  have I1 := q_MI_cfr (q_cfr_tq h1) I
  have fq := q_frQ_tq h1
  have eV := q_Lx_V hL0 (fq 100 11 (by omega) (by omega))
  have em := q_frQ_W fq
  have kk : ∀ p b wt : Int, E_love (Vt l) (cW M 11) p b wt = E_love (q_Vr Vt M1) (mW M1) p b wt := fun p b wt => by rw [eV, em, W.1]
  simp (disch := omega) only [b_L_law_587, x_loadR_1, x_loadS_1, x_loadR_0, x_loadS_0, x_loadI_3, x_iconst, x_iadd, y_sald, c_X5_love, x_popI, x_loadR_2, x_loadS_2, c_X6_love, x_goto, b_L_law_1432, x_iinc_3, x_loadScr, q_isL_I, q_isL_R, q_isL_S, true_and, and_true, and_self, List.length_nil, List.length_cons, Nat.zero_add, x_K, x_Kn, Int.reduceToNat, Nat.reduceAdd, Nat.reduceLeDiff, Nat.zero_le, Int.reduceAdd, Int.reduceSub, Int.reduceNeg, q_add_e, q_sub_e, m8, hx8]
  refine mz_love (d := 989) I1 (fun M2 h2 => ?_)
  simp (disch := omega) only [b_L_law_587, x_loadR_1, x_loadS_1, x_loadR_0, x_loadS_0, x_loadI_3, x_iconst, x_iadd, y_sald, c_X5_love, x_popI, x_loadR_2, x_loadS_2, c_X6_love, x_goto, b_L_law_1432, x_iinc_3, x_loadScr, q_isL_I, q_isL_R, q_isL_S, true_and, and_true, and_self, List.length_nil, List.length_cons, Nat.zero_add, x_K, x_Kn, Int.reduceToNat, Nat.reduceAdd, Nat.reduceLeDiff, Nat.zero_le, Int.reduceAdd, Int.reduceSub, Int.reduceNeg, q_add_e, q_sub_e, kk]
  exact hn _ _ M2 (q_LI_q hL0 W h1 h2)
set_option maxRecDepth 20000 in
theorem p3_law_12 {L k tm sl : Nat} {X : Nat → Int} {M : q_M} {Q : Option q_V → q_G → q_M → Prop} (hL : L < 2147483648) (hk : k + 7 ≤ L) (hX : ∀ i, -2147483648 ≤ X i ∧ X i ≤ 2147483647) (hI : q_LI L X tm sl M) (hn : q_LN L X k Q) : q_T 1 1000 qP_L_law 630 [] [qS 2, qR 5 0, qR 6 100, qI k] [] (124 + 4 * (tm - 1), sl) M Q := by
  obtain ⟨Vt, l, hL0, W⟩ := hI
  have hL1 := hL0
  obtain ⟨C, I, el, m7, hx, R, kp, k6⟩ := hL1
  simp (disch := omega) only [b_L_law_630, x_loadR_1, x_loadS_1, c_X5_year, x_popI, x_loadR_2, x_loadS_2, c_X6_year, x_goto, b_L_law_1432, x_iinc_3, x_loadScr, q_isL_I, q_isL_R, q_isL_S, true_and, and_true, and_self, List.length_nil, List.length_cons, Nat.zero_add, x_K, x_Kn, Int.reduceToNat, Nat.reduceAdd, Nat.reduceLeDiff, Nat.zero_le, Int.reduceAdd, Int.reduceSub, Int.reduceNeg, q_add_e, q_sub_e, m7, hx]
  have hta := C.2.2.1.1
  unfold q_tas at hta
  have y9 := q_Rw_91 W
  have y5 := I.2.1
  refine cx_year (d := 949) C (fun y => ?_) (fun y M1 C1 e1 t1 => ?_)
  · simp (disch := omega) only [b_L_law_630, x_loadR_1, x_loadS_1, c_X5_year, x_popI, x_loadR_2, x_loadS_2, c_X6_year, x_goto, b_L_law_1432, x_iinc_3, x_loadScr, q_isL_I, q_isL_R, q_isL_S, true_and, and_true, and_self, List.length_nil, List.length_cons, Nat.zero_add, x_K, x_Kn, Int.reduceToNat, Nat.reduceAdd, Nat.reduceLeDiff, Nat.zero_le, Int.reduceAdd, Int.reduceSub, Int.reduceNeg, q_add_e, q_sub_e, m7, hx]
    refine my_year (d := 989) I (fun _ => ?_) (fun z => absurd (by omega) z)
    simp (disch := omega) only [b_L_law_630, x_loadR_1, x_loadS_1, c_X5_year, x_popI, x_loadR_2, x_loadS_2, c_X6_year, x_goto, b_L_law_1432, x_iinc_3, x_loadScr, q_isL_I, q_isL_R, q_isL_S, true_and, and_true, and_self, List.length_nil, List.length_cons, Nat.zero_add, x_K, x_Kn, Int.reduceToNat, Nat.reduceAdd, Nat.reduceLeDiff, Nat.zero_le, Int.reduceAdd, Int.reduceSub, Int.reduceNeg, q_add_e, q_sub_e]
    exact hn _ _ M ⟨Vt, l, hL0, W⟩
  · have m8 : M1 1000001 0 = L := (t1 1000001 0 (by omega) (by omega) (by omega) (by omega)).trans m7
    have hx8 : ∀ i, M1 1000000 i = X i := fun i => (t1 1000000 i (by omega) (by omega) (by omega) (by omega)).trans (hx i)
    have I1 : q_MI Vt tm M1 := q_MI_cfw (fun a i ha => t1 a i (by omega) (by omega) (by omega) (by omega)) I
    have y6 : M1 100 5 = M 100 5 := t1 100 5 (by omega) (by omega) (by omega) (by omega)
    simp (disch := omega) only [b_L_law_630, x_loadR_1, x_loadS_1, c_X5_year, x_popI, x_loadR_2, x_loadS_2, c_X6_year, x_goto, b_L_law_1432, x_iinc_3, x_loadScr, q_isL_I, q_isL_R, q_isL_S, true_and, and_true, and_self, List.length_nil, List.length_cons, Nat.zero_add, x_K, x_Kn, Int.reduceToNat, Nat.reduceAdd, Nat.reduceLeDiff, Nat.zero_le, Int.reduceAdd, Int.reduceSub, Int.reduceNeg, q_add_e, q_sub_e, m8, hx8]
    refine my_year (d := 989) I1 (fun z => absurd y (by omega)) (fun _ M2 I2 e2 z2 => ?_)
    have k := q_LI_year hL0 W C1 e1 t1 I2 e2 z2
    simp (disch := omega) only [b_L_law_630, x_loadR_1, x_loadS_1, c_X5_year, x_popI, x_loadR_2, x_loadS_2, c_X6_year, x_goto, b_L_law_1432, x_iinc_3, x_loadScr, q_isL_I, q_isL_R, q_isL_S, true_and, and_true, and_self, List.length_nil, List.length_cons, Nat.zero_add, x_K, x_Kn, Int.reduceToNat, Nat.reduceAdd, Nat.reduceLeDiff, Nat.zero_le, Int.reduceAdd, Int.reduceSub, Int.reduceNeg, q_add_e, q_sub_e, k.1]
    exact hn _ _ M2 k.2
set_option maxRecDepth 20000 in
theorem p3_law_13 {L k tm sl : Nat} {X : Nat → Int} {M : q_M} {Q : Option q_V → q_G → q_M → Prop} (hL : L < 2147483648) (hk : k + 7 ≤ L) (hX : ∀ i, -2147483648 ≤ X i ∧ X i ≤ 2147483647) (hI : q_LI L X tm sl M) (hn : q_LN L X k Q) : q_T 1 1000 qP_L_law 643 [] [qS 2, qR 5 0, qR 6 100, qI k] [] (124 + 4 * (tm - 1), sl) M Q := by
  obtain ⟨Vt, l, hL0, W⟩ := hI
  have hL1 := hL0
  obtain ⟨C, I, el, m7, hx, R, kp, k6⟩ := hL1
  simp (disch := omega) only [b_L_law_643, x_loadR_1, x_loadS_1, x_loadR_0, x_loadS_0, x_loadI_3, x_iconst, x_iadd, y_sald, c_X5_run, x_popI, x_loadR_2, x_loadS_2, c_X6_run, x_goto, b_L_law_1432, x_iinc_3, x_loadScr, q_isL_I, q_isL_R, q_isL_S, true_and, and_true, and_self, List.length_nil, List.length_cons, Nat.zero_add, x_K, x_Kn, Int.reduceToNat, Nat.reduceAdd, Nat.reduceLeDiff, Nat.zero_le, Int.reduceAdd, Int.reduceSub, Int.reduceNeg, q_add_e, q_sub_e, m7, hx]
  refine cy_run (d := 949) C (by rw [W.1]; exact W.2.1) (fun M1 h1 => ?_) (hX _)
  have m8 : M1 1000001 0 = L := (h1 1000001 0 (by omega) (by omega) (by omega) (by omega)).trans m7
  have hx8 : ∀ i, M1 1000000 i = X i := fun i => (h1 1000000 i (by omega) (by omega) (by omega) (by omega)).trans (hx i)
  have I1 := q_MI_cfr (q_cfr_tq h1) I
  have fq := q_frQ_tq h1
  have eV := q_Lx_V hL0 (fq 100 11 (by omega) (by omega))
  have em := q_frQ_W fq
  have kk : ∀ n wt : Int, B_run (Vt l) (cW M 11) n wt = B_run (q_Vr Vt M1) (mW M1) n wt := fun n wt => by rw [eV, em, W.1]
  simp (disch := omega) only [b_L_law_643, x_loadR_1, x_loadS_1, x_loadR_0, x_loadS_0, x_loadI_3, x_iconst, x_iadd, y_sald, c_X5_run, x_popI, x_loadR_2, x_loadS_2, c_X6_run, x_goto, b_L_law_1432, x_iinc_3, x_loadScr, q_isL_I, q_isL_R, q_isL_S, true_and, and_true, and_self, List.length_nil, List.length_cons, Nat.zero_add, x_K, x_Kn, Int.reduceToNat, Nat.reduceAdd, Nat.reduceLeDiff, Nat.zero_le, Int.reduceAdd, Int.reduceSub, Int.reduceNeg, q_add_e, q_sub_e, m8, hx8]
  refine mz_run (d := 988) I1 (fun M2 h2 => ?_)
  simp (disch := omega) only [b_L_law_643, x_loadR_1, x_loadS_1, x_loadR_0, x_loadS_0, x_loadI_3, x_iconst, x_iadd, y_sald, c_X5_run, x_popI, x_loadR_2, x_loadS_2, c_X6_run, x_goto, b_L_law_1432, x_iinc_3, x_loadScr, q_isL_I, q_isL_R, q_isL_S, true_and, and_true, and_self, List.length_nil, List.length_cons, Nat.zero_add, x_K, x_Kn, Int.reduceToNat, Nat.reduceAdd, Nat.reduceLeDiff, Nat.zero_le, Int.reduceAdd, Int.reduceSub, Int.reduceNeg, q_add_e, q_sub_e, kk]
  exact hn _ _ M2 (q_LI_q hL0 W h1 h2)
set_option maxRecDepth 20000 in
theorem p3_law_14 {L k tm sl : Nat} {X : Nat → Int} {M : q_M} {Q : Option q_V → q_G → q_M → Prop} (hL : L < 2147483648) (hk : k + 7 ≤ L) (hX : ∀ i, -2147483648 ≤ X i ∧ X i ≤ 2147483647) (hI : q_LI L X tm sl M) (hn : q_LN L X k Q) : q_T 1 1000 qP_L_law 676 [] [qS 2, qR 5 0, qR 6 100, qI k] [] (124 + 4 * (tm - 1), sl) M Q := by
  obtain ⟨Vt, l, hL0, W⟩ := hI
  have hL1 := hL0
  obtain ⟨C, I, el, m7, hx, R, kp, k6⟩ := hL1
  simp (disch := omega) only [b_L_law_676, x_loadR_1, x_loadS_1, x_loadR_0, x_loadS_0, x_loadI_3, x_iconst, x_iadd, y_sald, c_X5_when, x_popI, x_loadR_2, x_loadS_2, c_X6_when, x_goto, b_L_law_1432, x_iinc_3, x_loadScr, q_isL_I, q_isL_R, q_isL_S, true_and, and_true, and_self, List.length_nil, List.length_cons, Nat.zero_add, x_K, x_Kn, Int.reduceToNat, Nat.reduceAdd, Nat.reduceLeDiff, Nat.zero_le, Int.reduceAdd, Int.reduceSub, Int.reduceNeg, q_add_e, q_sub_e, m7, hx]
  refine cy_when (d := 949) C (by rw [W.1]; exact W.2.1) (fun M1 h1 => ?_)
  have m8 : M1 1000001 0 = L := (h1 1000001 0 (by omega) (by omega) (by omega) (by omega)).trans m7
  have hx8 : ∀ i, M1 1000000 i = X i := fun i => (h1 1000000 i (by omega) (by omega) (by omega) (by omega)).trans (hx i)
  have I1 := q_MI_cfr (q_cfr_tq h1) I
  have fq := q_frQ_tq h1
  have eV := q_Lx_V hL0 (fq 100 11 (by omega) (by omega))
  have em := q_frQ_W fq
  have kk : ∀ p wt : Int, B_when (Vt l) (cW M 11) p wt = B_when (q_Vr Vt M1) (mW M1) p wt := fun p wt => by rw [eV, em, W.1]
  simp (disch := omega) only [b_L_law_676, x_loadR_1, x_loadS_1, x_loadR_0, x_loadS_0, x_loadI_3, x_iconst, x_iadd, y_sald, c_X5_when, x_popI, x_loadR_2, x_loadS_2, c_X6_when, x_goto, b_L_law_1432, x_iinc_3, x_loadScr, q_isL_I, q_isL_R, q_isL_S, true_and, and_true, and_self, List.length_nil, List.length_cons, Nat.zero_add, x_K, x_Kn, Int.reduceToNat, Nat.reduceAdd, Nat.reduceLeDiff, Nat.zero_le, Int.reduceAdd, Int.reduceSub, Int.reduceNeg, q_add_e, q_sub_e, m8, hx8]
  refine mz_when (d := 988) I1 (fun M2 h2 => ?_)
  simp (disch := omega) only [b_L_law_676, x_loadR_1, x_loadS_1, x_loadR_0, x_loadS_0, x_loadI_3, x_iconst, x_iadd, y_sald, c_X5_when, x_popI, x_loadR_2, x_loadS_2, c_X6_when, x_goto, b_L_law_1432, x_iinc_3, x_loadScr, q_isL_I, q_isL_R, q_isL_S, true_and, and_true, and_self, List.length_nil, List.length_cons, Nat.zero_add, x_K, x_Kn, Int.reduceToNat, Nat.reduceAdd, Nat.reduceLeDiff, Nat.zero_le, Int.reduceAdd, Int.reduceSub, Int.reduceNeg, q_add_e, q_sub_e, kk]
  exact hn _ _ M2 (q_LI_q hL0 W h1 h2)
set_option maxRecDepth 20000 in
theorem p3_law_15 {L k tm sl : Nat} {X : Nat → Int} {M : q_M} {Q : Option q_V → q_G → q_M → Prop} (hL : L < 2147483648) (hk : k + 7 ≤ L) (hX : ∀ i, -2147483648 ≤ X i ∧ X i ≤ 2147483647) (hI : q_LI L X tm sl M) (hn : q_LN L X k Q) : q_T 1 1000 qP_L_law 709 [] [qS 2, qR 5 0, qR 6 100, qI k] [] (124 + 4 * (tm - 1), sl) M Q := by
  obtain ⟨Vt, l, hL0, W⟩ := hI
  have hL1 := hL0
  obtain ⟨C, I, el, m7, hx, R, kp, k6⟩ := hL1
  simp (disch := omega) only [b_L_law_709, x_loadR_1, x_loadS_1, x_loadR_0, x_loadS_0, x_loadI_3, x_iconst, x_iadd, y_sald, c_X5_peace, x_popI, x_loadR_2, x_loadS_2, c_X6_peace, x_goto, b_L_law_1432, x_iinc_3, x_loadScr, q_isL_I, q_isL_R, q_isL_S, true_and, and_true, and_self, List.length_nil, List.length_cons, Nat.zero_add, x_K, x_Kn, Int.reduceToNat, Nat.reduceAdd, Nat.reduceLeDiff, Nat.zero_le, Int.reduceAdd, Int.reduceSub, Int.reduceNeg, q_add_e, q_sub_e, m7, hx]
  refine cy_peace (d := 949) C (by rw [W.1]; exact W.2.1) (fun M1 h1 => ?_)
  have m8 : M1 1000001 0 = L := (h1 1000001 0 (by omega) (by omega) (by omega) (by omega)).trans m7
  have hx8 : ∀ i, M1 1000000 i = X i := fun i => (h1 1000000 i (by omega) (by omega) (by omega) (by omega)).trans (hx i)
  have I1 := q_MI_cfr (q_cfr_tq h1) I
  have fq := q_frQ_tq h1
  have eV := q_Lx_V hL0 (fq 100 11 (by omega) (by omega))
  have em := q_frQ_W fq
  have kk : ∀ wt : Int, E_peace (Vt l) (cW M 11) wt = E_peace (q_Vr Vt M1) (mW M1) wt := fun wt => by rw [eV, em, W.1]
  simp (disch := omega) only [b_L_law_709, x_loadR_1, x_loadS_1, x_loadR_0, x_loadS_0, x_loadI_3, x_iconst, x_iadd, y_sald, c_X5_peace, x_popI, x_loadR_2, x_loadS_2, c_X6_peace, x_goto, b_L_law_1432, x_iinc_3, x_loadScr, q_isL_I, q_isL_R, q_isL_S, true_and, and_true, and_self, List.length_nil, List.length_cons, Nat.zero_add, x_K, x_Kn, Int.reduceToNat, Nat.reduceAdd, Nat.reduceLeDiff, Nat.zero_le, Int.reduceAdd, Int.reduceSub, Int.reduceNeg, q_add_e, q_sub_e, m8, hx8]
  refine mz_peace (d := 988) I1 (fun M2 h2 => ?_)
  simp (disch := omega) only [b_L_law_709, x_loadR_1, x_loadS_1, x_loadR_0, x_loadS_0, x_loadI_3, x_iconst, x_iadd, y_sald, c_X5_peace, x_popI, x_loadR_2, x_loadS_2, c_X6_peace, x_goto, b_L_law_1432, x_iinc_3, x_loadScr, q_isL_I, q_isL_R, q_isL_S, true_and, and_true, and_self, List.length_nil, List.length_cons, Nat.zero_add, x_K, x_Kn, Int.reduceToNat, Nat.reduceAdd, Nat.reduceLeDiff, Nat.zero_le, Int.reduceAdd, Int.reduceSub, Int.reduceNeg, q_add_e, q_sub_e, kk]
  exact hn _ _ M2 (q_LI_q hL0 W h1 h2)
set_option maxRecDepth 20000 in
theorem p3_law_16 {L k tm sl : Nat} {X : Nat → Int} {M : q_M} {Q : Option q_V → q_G → q_M → Prop} (hL : L < 2147483648) (hk : k + 7 ≤ L) (hX : ∀ i, -2147483648 ≤ X i ∧ X i ≤ 2147483647) (hI : q_LI L X tm sl M) (hn : q_LN L X k Q) : q_T 1 1000 qP_L_law 732 [] [qS 2, qR 5 0, qR 6 100, qI k] [] (124 + 4 * (tm - 1), sl) M Q := by
  obtain ⟨Vt, l, hL0, W⟩ := hI
  have hL1 := hL0
  obtain ⟨C, I, el, m7, hx, R, kp, k6⟩ := hL1
  simp (disch := omega) only [b_L_law_732, x_loadR_1, x_loadS_1, x_loadR_0, x_loadS_0, x_loadI_3, x_iconst, x_iadd, y_sald, c_X5_court, x_popI, x_loadR_2, x_loadS_2, c_X6_court, x_goto, b_L_law_1432, x_iinc_3, x_loadScr, q_isL_I, q_isL_R, q_isL_S, true_and, and_true, and_self, List.length_nil, List.length_cons, Nat.zero_add, x_K, x_Kn, Int.reduceToNat, Nat.reduceAdd, Nat.reduceLeDiff, Nat.zero_le, Int.reduceAdd, Int.reduceSub, Int.reduceNeg, q_add_e, q_sub_e, m7, hx]
  refine cy_court (d := 949) C (by rw [W.1]; exact W.2.1) (fun M1 h1 => ?_)
  have m8 : M1 1000001 0 = L := (h1 1000001 0 (by omega) (by omega) (by omega) (by omega)).trans m7
  have hx8 : ∀ i, M1 1000000 i = X i := fun i => (h1 1000000 i (by omega) (by omega) (by omega) (by omega)).trans (hx i)
  have I1 := q_MI_cfr (q_cfr_tq h1) I
  have fq := q_frQ_tq h1
  have eV := q_Lx_V hL0 (fq 100 11 (by omega) (by omega))
  have em := q_frQ_W fq
  have kk : ∀ wt : Int, E_court (Vt l) (cW M 11) wt = E_court (q_Vr Vt M1) (mW M1) wt := fun wt => by rw [eV, em, W.1]
  simp (disch := omega) only [b_L_law_732, x_loadR_1, x_loadS_1, x_loadR_0, x_loadS_0, x_loadI_3, x_iconst, x_iadd, y_sald, c_X5_court, x_popI, x_loadR_2, x_loadS_2, c_X6_court, x_goto, b_L_law_1432, x_iinc_3, x_loadScr, q_isL_I, q_isL_R, q_isL_S, true_and, and_true, and_self, List.length_nil, List.length_cons, Nat.zero_add, x_K, x_Kn, Int.reduceToNat, Nat.reduceAdd, Nat.reduceLeDiff, Nat.zero_le, Int.reduceAdd, Int.reduceSub, Int.reduceNeg, q_add_e, q_sub_e, m8, hx8]
  refine mz_court (d := 988) I1 (by rw [em]; exact W.2.1) (fun M2 h2 => ?_)
  simp (disch := omega) only [b_L_law_732, x_loadR_1, x_loadS_1, x_loadR_0, x_loadS_0, x_loadI_3, x_iconst, x_iadd, y_sald, c_X5_court, x_popI, x_loadR_2, x_loadS_2, c_X6_court, x_goto, b_L_law_1432, x_iinc_3, x_loadScr, q_isL_I, q_isL_R, q_isL_S, true_and, and_true, and_self, List.length_nil, List.length_cons, Nat.zero_add, x_K, x_Kn, Int.reduceToNat, Nat.reduceAdd, Nat.reduceLeDiff, Nat.zero_le, Int.reduceAdd, Int.reduceSub, Int.reduceNeg, q_add_e, q_sub_e, kk]
  exact hn _ _ M2 (q_LI_q hL0 W h1 h2)
set_option maxRecDepth 20000 in
theorem p3_law_17 {L k tm sl : Nat} {X : Nat → Int} {M : q_M} {Q : Option q_V → q_G → q_M → Prop} (hL : L < 2147483648) (hk : k + 7 ≤ L) (hX : ∀ i, -2147483648 ≤ X i ∧ X i ≤ 2147483647) (hI : q_LI L X tm sl M) (hn : q_LN L X k Q) : q_T 1 1000 qP_L_law 755 [] [qS 2, qR 5 0, qR 6 100, qI k] [] (124 + 4 * (tm - 1), sl) M Q := by
  obtain ⟨Vt, l, hL0, W⟩ := hI
  have hL1 := hL0
  obtain ⟨C, I, el, m7, hx, R, kp, k6⟩ := hL1
  simp (disch := omega) only [b_L_law_755, x_loadR_1, x_loadS_1, x_loadR_0, x_loadS_0, x_loadI_3, x_iconst, x_iadd, y_sald, c_X5_all, x_popI, x_loadR_2, x_loadS_2, c_X6_all, x_goto, b_L_law_1432, x_iinc_3, x_loadScr, q_isL_I, q_isL_R, q_isL_S, true_and, and_true, and_self, List.length_nil, List.length_cons, Nat.zero_add, x_K, x_Kn, Int.reduceToNat, Nat.reduceAdd, Nat.reduceLeDiff, Nat.zero_le, Int.reduceAdd, Int.reduceSub, Int.reduceNeg, q_add_e, q_sub_e, m7, hx]
  refine cy_all (d := 949) C (by rw [W.1]; exact W.2.1) (fun M1 h1 => ?_)
  have m8 : M1 1000001 0 = L := (h1 1000001 0 (by omega) (by omega) (by omega) (by omega)).trans m7
  have hx8 : ∀ i, M1 1000000 i = X i := fun i => (h1 1000000 i (by omega) (by omega) (by omega) (by omega)).trans (hx i)
  have I1 := q_MI_cfr (q_cfr_tq h1) I
  have fq := q_frQ_tq h1
  have eV := q_Lx_V hL0 (fq 100 11 (by omega) (by omega))
  have em := q_frQ_W fq
  have kk : ∀ wt : Int, E_all (Vt l) (cW M 11) wt = E_all (q_Vr Vt M1) (mW M1) wt := fun wt => by rw [eV, em, W.1]
  simp (disch := omega) only [b_L_law_755, x_loadR_1, x_loadS_1, x_loadR_0, x_loadS_0, x_loadI_3, x_iconst, x_iadd, y_sald, c_X5_all, x_popI, x_loadR_2, x_loadS_2, c_X6_all, x_goto, b_L_law_1432, x_iinc_3, x_loadScr, q_isL_I, q_isL_R, q_isL_S, true_and, and_true, and_self, List.length_nil, List.length_cons, Nat.zero_add, x_K, x_Kn, Int.reduceToNat, Nat.reduceAdd, Nat.reduceLeDiff, Nat.zero_le, Int.reduceAdd, Int.reduceSub, Int.reduceNeg, q_add_e, q_sub_e, m8, hx8]
  refine mz_all (d := 988) I1 (by rw [em]; exact W.2.1) (fun M2 h2 => ?_)
  simp (disch := omega) only [b_L_law_755, x_loadR_1, x_loadS_1, x_loadR_0, x_loadS_0, x_loadI_3, x_iconst, x_iadd, y_sald, c_X5_all, x_popI, x_loadR_2, x_loadS_2, c_X6_all, x_goto, b_L_law_1432, x_iinc_3, x_loadScr, q_isL_I, q_isL_R, q_isL_S, true_and, and_true, and_self, List.length_nil, List.length_cons, Nat.zero_add, x_K, x_Kn, Int.reduceToNat, Nat.reduceAdd, Nat.reduceLeDiff, Nat.zero_le, Int.reduceAdd, Int.reduceSub, Int.reduceNeg, q_add_e, q_sub_e, kk]
  exact hn _ _ M2 (q_LI_q hL0 W h1 h2)
set_option maxRecDepth 20000 in
theorem p3_law_18 {L k tm sl : Nat} {X : Nat → Int} {M : q_M} {Q : Option q_V → q_G → q_M → Prop} (hL : L < 2147483648) (hk : k + 7 ≤ L) (hX : ∀ i, -2147483648 ≤ X i ∧ X i ≤ 2147483647) (hI : q_LI L X tm sl M) (hn : q_LN L X k Q) : q_T 1 1000 qP_L_law 778 [] [qS 2, qR 5 0, qR 6 100, qI k] [] (124 + 4 * (tm - 1), sl) M Q := by
  obtain ⟨Vt, l, hL0, W⟩ := hI
  have hL1 := hL0
  obtain ⟨C, I, el, m7, hx, R, kp, k6⟩ := hL1
  simp (disch := omega) only [b_L_law_778, x_loadR_1, x_loadS_1, x_loadR_0, x_loadS_0, x_loadI_3, x_iconst, x_iadd, y_sald, c_X5_annex, x_popI, x_loadR_2, x_loadS_2, c_X6_annex, x_goto, b_L_law_1432, x_iinc_3, x_loadScr, q_isL_I, q_isL_R, q_isL_S, true_and, and_true, and_self, List.length_nil, List.length_cons, Nat.zero_add, x_K, x_Kn, Int.reduceToNat, Nat.reduceAdd, Nat.reduceLeDiff, Nat.zero_le, Int.reduceAdd, Int.reduceSub, Int.reduceNeg, q_add_e, q_sub_e, m7, hx]
  refine cy_annex (d := 949) C (by rw [W.1]; exact W.2.1) (fun M1 h1 => ?_)
  have m8 : M1 1000001 0 = L := (h1 1000001 0 (by omega) (by omega) (by omega) (by omega)).trans m7
  have hx8 : ∀ i, M1 1000000 i = X i := fun i => (h1 1000000 i (by omega) (by omega) (by omega) (by omega)).trans (hx i)
  have I1 := q_MI_cfr (q_cfr_tq h1) I
  have fq := q_frQ_tq h1
  have eV := q_Lx_V hL0 (fq 100 11 (by omega) (by omega))
  have em := q_frQ_W fq
  have kk : ∀ wt : Int, E_annex (Vt l) (cW M 11) wt = E_annex (q_Vr Vt M1) (mW M1) wt := fun wt => by rw [eV, em, W.1]
  simp (disch := omega) only [b_L_law_778, x_loadR_1, x_loadS_1, x_loadR_0, x_loadS_0, x_loadI_3, x_iconst, x_iadd, y_sald, c_X5_annex, x_popI, x_loadR_2, x_loadS_2, c_X6_annex, x_goto, b_L_law_1432, x_iinc_3, x_loadScr, q_isL_I, q_isL_R, q_isL_S, true_and, and_true, and_self, List.length_nil, List.length_cons, Nat.zero_add, x_K, x_Kn, Int.reduceToNat, Nat.reduceAdd, Nat.reduceLeDiff, Nat.zero_le, Int.reduceAdd, Int.reduceSub, Int.reduceNeg, q_add_e, q_sub_e, m8, hx8]
  refine mz_annex (d := 988) I1 (by rw [em]; exact W.2.1) (fun M2 h2 => ?_)
  simp (disch := omega) only [b_L_law_778, x_loadR_1, x_loadS_1, x_loadR_0, x_loadS_0, x_loadI_3, x_iconst, x_iadd, y_sald, c_X5_annex, x_popI, x_loadR_2, x_loadS_2, c_X6_annex, x_goto, b_L_law_1432, x_iinc_3, x_loadScr, q_isL_I, q_isL_R, q_isL_S, true_and, and_true, and_self, List.length_nil, List.length_cons, Nat.zero_add, x_K, x_Kn, Int.reduceToNat, Nat.reduceAdd, Nat.reduceLeDiff, Nat.zero_le, Int.reduceAdd, Int.reduceSub, Int.reduceNeg, q_add_e, q_sub_e, kk]
  exact hn _ _ M2 (q_LI_q hL0 W h1 h2)
set_option maxRecDepth 20000 in
theorem p3_law_19 {L k tm sl : Nat} {X : Nat → Int} {M : q_M} {Q : Option q_V → q_G → q_M → Prop} (hL : L < 2147483648) (hk : k + 7 ≤ L) (hX : ∀ i, -2147483648 ≤ X i ∧ X i ≤ 2147483647) (hI : q_LI L X tm sl M) (hn : q_LN L X k Q) : q_T 1 1000 qP_L_law 801 [] [qS 2, qR 5 0, qR 6 100, qI k] [] (124 + 4 * (tm - 1), sl) M Q := by
  obtain ⟨Vt, l, hL0, W⟩ := hI
  have hL1 := hL0
  obtain ⟨C, I, el, m7, hx, R, kp, k6⟩ := hL1
  simp (disch := omega) only [b_L_law_801, x_loadR_1, x_loadS_1, x_loadR_0, x_loadS_0, x_loadI_3, x_iconst, x_iadd, y_sald, c_X5_cart, x_popI, x_loadR_2, x_loadS_2, c_X6_cart, x_goto, b_L_law_1432, x_iinc_3, x_loadScr, q_isL_I, q_isL_R, q_isL_S, true_and, and_true, and_self, List.length_nil, List.length_cons, Nat.zero_add, x_K, x_Kn, Int.reduceToNat, Nat.reduceAdd, Nat.reduceLeDiff, Nat.zero_le, Int.reduceAdd, Int.reduceSub, Int.reduceNeg, q_add_e, q_sub_e, m7, hx]
  refine cy_cart (d := 949) C (fun M1 h1 => ?_)
  have m8 : M1 1000001 0 = L := (h1 1000001 0 (by omega) (by omega) (by omega) (by omega)).trans m7
  have hx8 : ∀ i, M1 1000000 i = X i := fun i => (h1 1000000 i (by omega) (by omega) (by omega) (by omega)).trans (hx i)
  have I1 := q_MI_cfr (q_cfr_tq h1) I
  have fq := q_frQ_tq h1
  have eV := q_Lx_V hL0 (fq 100 11 (by omega) (by omega))
  have em := q_frQ_W fq
  have kk : ∀ p wt : Int, A_cart (Vt l) (cW M 11) p wt = B_cart (q_Vr Vt M1) (mW M1) p wt := fun p wt => by rw [eV, em, W.1]; exact A_cart_e W.2.1
  simp (disch := omega) only [b_L_law_801, x_loadR_1, x_loadS_1, x_loadR_0, x_loadS_0, x_loadI_3, x_iconst, x_iadd, y_sald, c_X5_cart, x_popI, x_loadR_2, x_loadS_2, c_X6_cart, x_goto, b_L_law_1432, x_iinc_3, x_loadScr, q_isL_I, q_isL_R, q_isL_S, true_and, and_true, and_self, List.length_nil, List.length_cons, Nat.zero_add, x_K, x_Kn, Int.reduceToNat, Nat.reduceAdd, Nat.reduceLeDiff, Nat.zero_le, Int.reduceAdd, Int.reduceSub, Int.reduceNeg, q_add_e, q_sub_e, m8, hx8]
  refine mz_cart (d := 988) I1 (fun M2 h2 => ?_)
  simp (disch := omega) only [b_L_law_801, x_loadR_1, x_loadS_1, x_loadR_0, x_loadS_0, x_loadI_3, x_iconst, x_iadd, y_sald, c_X5_cart, x_popI, x_loadR_2, x_loadS_2, c_X6_cart, x_goto, b_L_law_1432, x_iinc_3, x_loadScr, q_isL_I, q_isL_R, q_isL_S, true_and, and_true, and_self, List.length_nil, List.length_cons, Nat.zero_add, x_K, x_Kn, Int.reduceToNat, Nat.reduceAdd, Nat.reduceLeDiff, Nat.zero_le, Int.reduceAdd, Int.reduceSub, Int.reduceNeg, q_add_e, q_sub_e, kk]
  exact hn _ _ M2 (q_LI_q hL0 W h1 h2)
set_option maxRecDepth 20000 in
theorem p3_law_20 {L k tm sl : Nat} {X : Nat → Int} {M : q_M} {Q : Option q_V → q_G → q_M → Prop} (hL : L < 2147483648) (hk : k + 7 ≤ L) (hX : ∀ i, -2147483648 ≤ X i ∧ X i ≤ 2147483647) (hI : q_LI L X tm sl M) (hn : q_LN L X k Q) : q_T 1 1000 qP_L_law 834 [] [qS 2, qR 5 0, qR 6 100, qI k] [] (124 + 4 * (tm - 1), sl) M Q := by
  obtain ⟨Vt, l, hL0, W⟩ := hI
  have hL1 := hL0
  obtain ⟨C, I, el, m7, hx, R, kp, k6⟩ := hL1
  simp (disch := omega) only [b_L_law_834, x_loadR_1, x_loadS_1, x_loadR_0, x_loadS_0, x_loadI_3, x_iconst, x_iadd, y_sald, c_X5_share, x_pop2, x_loadR_2, x_loadS_2, c_X6_share, x_goto, b_L_law_1432, x_iinc_3, x_loadScr, q_isL_I, q_isL_R, q_isL_S, true_and, and_true, and_self, List.length_nil, List.length_cons, Nat.zero_add, x_K, x_Kn, Int.reduceToNat, Nat.reduceAdd, Nat.reduceLeDiff, Nat.zero_le, Int.reduceAdd, Int.reduceSub, Int.reduceNeg, q_add_e, q_sub_e, m7, hx]
  refine cy_share (d := 949) C (fun M1 h1 => ?_)
  have m8 : M1 1000001 0 = L := (h1 1000001 0 (by omega) (by omega) (by omega) (by omega)).trans m7
  have hx8 : ∀ i, M1 1000000 i = X i := fun i => (h1 1000000 i (by omega) (by omega) (by omega) (by omega)).trans (hx i)
  have I1 := q_MI_cfr (q_cfr_tq h1) I
  have fq := q_frQ_tq h1
  have eV := q_Lx_V hL0 (fq 100 11 (by omega) (by omega))
  have em := q_frQ_W fq
  have kk : ∀ part : Int, A_share M part = B_share M1 part := fun part => by exact AB_share_fr W I.1 fq
  simp (disch := omega) only [b_L_law_834, x_loadR_1, x_loadS_1, x_loadR_0, x_loadS_0, x_loadI_3, x_iconst, x_iadd, y_sald, c_X5_share, x_pop2, x_loadR_2, x_loadS_2, c_X6_share, x_goto, b_L_law_1432, x_iinc_3, x_loadScr, q_isL_I, q_isL_R, q_isL_S, true_and, and_true, and_self, List.length_nil, List.length_cons, Nat.zero_add, x_K, x_Kn, Int.reduceToNat, Nat.reduceAdd, Nat.reduceLeDiff, Nat.zero_le, Int.reduceAdd, Int.reduceSub, Int.reduceNeg, q_add_e, q_sub_e, m8, hx8]
  refine mz_share (d := 988) I1 (fun M2 h2 => ?_)
  simp (disch := omega) only [b_L_law_834, x_loadR_1, x_loadS_1, x_loadR_0, x_loadS_0, x_loadI_3, x_iconst, x_iadd, y_sald, c_X5_share, x_pop2, x_loadR_2, x_loadS_2, c_X6_share, x_goto, b_L_law_1432, x_iinc_3, x_loadScr, q_isL_I, q_isL_R, q_isL_S, true_and, and_true, and_self, List.length_nil, List.length_cons, Nat.zero_add, x_K, x_Kn, Int.reduceToNat, Nat.reduceAdd, Nat.reduceLeDiff, Nat.zero_le, Int.reduceAdd, Int.reduceSub, Int.reduceNeg, q_add_e, q_sub_e, kk]
  exact hn _ _ M2 (q_LI_q hL0 W h1 h2)
set_option maxRecDepth 20000 in
theorem p3_law_21 {L k tm sl : Nat} {X : Nat → Int} {M : q_M} {Q : Option q_V → q_G → q_M → Prop} (hL : L < 2147483648) (hk : k + 7 ≤ L) (hX : ∀ i, -2147483648 ≤ X i ∧ X i ≤ 2147483647) (hI : q_LI L X tm sl M) (hn : q_LN L X k Q) : q_T 1 1000 qP_L_law 857 [] [qS 2, qR 5 0, qR 6 100, qI k] [] (124 + 4 * (tm - 1), sl) M Q := by
  obtain ⟨Vt, l, hL0, W⟩ := hI
  have hL1 := hL0
  obtain ⟨C, I, el, m7, hx, R, kp, k6⟩ := hL1
  simp (disch := omega) only [b_L_law_857, x_loadR_1, x_loadS_1, x_loadR_0, x_loadS_0, x_loadI_3, x_iconst, x_iadd, y_sald, c_X5_judge, x_popI, x_loadR_2, x_loadS_2, c_X6_judge, x_goto, b_L_law_1432, x_iinc_3, x_loadScr, q_isL_I, q_isL_R, q_isL_S, true_and, and_true, and_self, List.length_nil, List.length_cons, Nat.zero_add, x_K, x_Kn, Int.reduceToNat, Nat.reduceAdd, Nat.reduceLeDiff, Nat.zero_le, Int.reduceAdd, Int.reduceSub, Int.reduceNeg, q_add_e, q_sub_e, m7, hx]
  refine cy_judge (d := 949) C (fun M1 h1 => ?_)
  have m8 : M1 1000001 0 = L := (h1 1000001 0 (by omega) (by omega) (by omega) (by omega)).trans m7
  have hx8 : ∀ i, M1 1000000 i = X i := fun i => (h1 1000000 i (by omega) (by omega) (by omega) (by omega)).trans (hx i)
  have I1 := q_MI_cfr (q_cfr_tq h1) I
  have fq := q_frQ_tq h1
  have eV := q_Lx_V hL0 (fq 100 11 (by omega) (by omega))
  have em := q_frQ_W fq
  have kk : ∀ s p : Int, A_judge (Vt l) M s p = B_judge (q_Vr Vt M1) M1 s p := fun s p => by rw [eV]; exact AB_judge W (q_Lx_hz hL0) fq
  simp (disch := omega) only [b_L_law_857, x_loadR_1, x_loadS_1, x_loadR_0, x_loadS_0, x_loadI_3, x_iconst, x_iadd, y_sald, c_X5_judge, x_popI, x_loadR_2, x_loadS_2, c_X6_judge, x_goto, b_L_law_1432, x_iinc_3, x_loadScr, q_isL_I, q_isL_R, q_isL_S, true_and, and_true, and_self, List.length_nil, List.length_cons, Nat.zero_add, x_K, x_Kn, Int.reduceToNat, Nat.reduceAdd, Nat.reduceLeDiff, Nat.zero_le, Int.reduceAdd, Int.reduceSub, Int.reduceNeg, q_add_e, q_sub_e, m8, hx8]
  refine mz_judge (d := 988) I1 (fun M2 h2 => ?_)
  simp (disch := omega) only [b_L_law_857, x_loadR_1, x_loadS_1, x_loadR_0, x_loadS_0, x_loadI_3, x_iconst, x_iadd, y_sald, c_X5_judge, x_popI, x_loadR_2, x_loadS_2, c_X6_judge, x_goto, b_L_law_1432, x_iinc_3, x_loadScr, q_isL_I, q_isL_R, q_isL_S, true_and, and_true, and_self, List.length_nil, List.length_cons, Nat.zero_add, x_K, x_Kn, Int.reduceToNat, Nat.reduceAdd, Nat.reduceLeDiff, Nat.zero_le, Int.reduceAdd, Int.reduceSub, Int.reduceNeg, q_add_e, q_sub_e, kk]
  exact hn _ _ M2 (q_LI_q hL0 W h1 h2)
set_option maxRecDepth 20000 in
theorem p3_law_22 {L k tm sl : Nat} {X : Nat → Int} {M : q_M} {Q : Option q_V → q_G → q_M → Prop} (hL : L < 2147483648) (hk : k + 7 ≤ L) (hX : ∀ i, -2147483648 ≤ X i ∧ X i ≤ 2147483647) (hI : q_LI L X tm sl M) (hn : q_LN L X k Q) : q_T 1 1000 qP_L_law 890 [] [qS 2, qR 5 0, qR 6 100, qI k] [] (124 + 4 * (tm - 1), sl) M Q := by
  obtain ⟨Vt, l, hL0, W⟩ := hI
  have hL1 := hL0
  obtain ⟨C, I, el, m7, hx, R, kp, k6⟩ := hL1
  simp (disch := omega) only [b_L_law_890, x_loadR_1, x_loadS_1, x_loadR_0, x_loadS_0, x_loadI_3, x_iconst, x_iadd, y_sald, c_X5_kinds, x_popI, x_loadR_2, x_loadS_2, c_X6_kinds, x_goto, b_L_law_1432, x_iinc_3, x_loadScr, q_isL_I, q_isL_R, q_isL_S, true_and, and_true, and_self, List.length_nil, List.length_cons, Nat.zero_add, x_K, x_Kn, Int.reduceToNat, Nat.reduceAdd, Nat.reduceLeDiff, Nat.zero_le, Int.reduceAdd, Int.reduceSub, Int.reduceNeg, q_add_e, q_sub_e, m7, hx]
  refine cy_kinds (d := 949) C (fun M1 h1 => ?_)
  have m8 : M1 1000001 0 = L := (h1 1000001 0 (by omega) (by omega) (by omega) (by omega)).trans m7
  have hx8 : ∀ i, M1 1000000 i = X i := fun i => (h1 1000000 i (by omega) (by omega) (by omega) (by omega)).trans (hx i)
  have I1 := q_MI_cfr (q_cfr_tq h1) I
  have fq := q_frQ_tq h1
  have eV := q_Lx_V hL0 (fq 100 11 (by omega) (by omega))
  have em := q_frQ_W fq
  have kk : ∀ s p so : Int, A_kinds (Vt l) M s p so = B_kinds (q_Vr Vt M1) M1 s p so := fun s p so => by rw [eV]; exact AB_kinds W (q_Lx_hz hL0) fq
  simp (disch := omega) only [b_L_law_890, x_loadR_1, x_loadS_1, x_loadR_0, x_loadS_0, x_loadI_3, x_iconst, x_iadd, y_sald, c_X5_kinds, x_popI, x_loadR_2, x_loadS_2, c_X6_kinds, x_goto, b_L_law_1432, x_iinc_3, x_loadScr, q_isL_I, q_isL_R, q_isL_S, true_and, and_true, and_self, List.length_nil, List.length_cons, Nat.zero_add, x_K, x_Kn, Int.reduceToNat, Nat.reduceAdd, Nat.reduceLeDiff, Nat.zero_le, Int.reduceAdd, Int.reduceSub, Int.reduceNeg, q_add_e, q_sub_e, m8, hx8]
  refine mz_kinds (d := 988) I1 (fun M2 h2 => ?_)
  simp (disch := omega) only [b_L_law_890, x_loadR_1, x_loadS_1, x_loadR_0, x_loadS_0, x_loadI_3, x_iconst, x_iadd, y_sald, c_X5_kinds, x_popI, x_loadR_2, x_loadS_2, c_X6_kinds, x_goto, b_L_law_1432, x_iinc_3, x_loadScr, q_isL_I, q_isL_R, q_isL_S, true_and, and_true, and_self, List.length_nil, List.length_cons, Nat.zero_add, x_K, x_Kn, Int.reduceToNat, Nat.reduceAdd, Nat.reduceLeDiff, Nat.zero_le, Int.reduceAdd, Int.reduceSub, Int.reduceNeg, q_add_e, q_sub_e, kk]
  exact hn _ _ M2 (q_LI_q hL0 W h1 h2)
set_option maxRecDepth 20000 in
theorem p3_law_23 {L k tm sl : Nat} {X : Nat → Int} {M : q_M} {Q : Option q_V → q_G → q_M → Prop} (hL : L < 2147483648) (hk : k + 7 ≤ L) (hX : ∀ i, -2147483648 ≤ X i ∧ X i ≤ 2147483647) (hI : q_LI L X tm sl M) (hn : q_LN L X k Q) : q_T 1 1000 qP_L_law 933 [] [qS 2, qR 5 0, qR 6 100, qI k] [] (124 + 4 * (tm - 1), sl) M Q := by
  obtain ⟨Vt, l, hL0, W⟩ := hI
  have hL1 := hL0
  obtain ⟨C, I, el, m7, hx, R, kp, k6⟩ := hL1
  simp (disch := omega) only [b_L_law_933, x_loadR_1, x_loadS_1, x_loadR_0, x_loadS_0, x_loadI_3, x_iconst, x_iadd, y_sald, c_X5_states, x_popI, x_loadR_2, x_loadS_2, c_X6_states, x_goto, b_L_law_1432, x_iinc_3, x_loadScr, q_isL_I, q_isL_R, q_isL_S, true_and, and_true, and_self, List.length_nil, List.length_cons, Nat.zero_add, x_K, x_Kn, Int.reduceToNat, Nat.reduceAdd, Nat.reduceLeDiff, Nat.zero_le, Int.reduceAdd, Int.reduceSub, Int.reduceNeg, q_add_e, q_sub_e, m7, hx]
  refine cf_states (d := 949) C (fun v M1 h1 => ?_)
  have m8 : M1 1000001 0 = L := (h1 1000001 0 (by omega) (by omega) (by omega) (by omega)).trans m7
  have hx8 : ∀ i, M1 1000000 i = X i := fun i => (h1 1000000 i (by omega) (by omega) (by omega) (by omega)).trans (hx i)
  have I1 := q_MI_cfr (q_cfr_tq h1) I
  simp (disch := omega) only [b_L_law_933, x_loadR_1, x_loadS_1, x_loadR_0, x_loadS_0, x_loadI_3, x_iconst, x_iadd, y_sald, c_X5_states, x_popI, x_loadR_2, x_loadS_2, c_X6_states, x_goto, b_L_law_1432, x_iinc_3, x_loadScr, q_isL_I, q_isL_R, q_isL_S, true_and, and_true, and_self, List.length_nil, List.length_cons, Nat.zero_add, x_K, x_Kn, Int.reduceToNat, Nat.reduceAdd, Nat.reduceLeDiff, Nat.zero_le, Int.reduceAdd, Int.reduceSub, Int.reduceNeg, q_add_e, q_sub_e, m8, hx8]
  refine mf_states (d := 988) I1 (fun v2 M2 h2 => ?_)
  simp (disch := omega) only [b_L_law_933, x_loadR_1, x_loadS_1, x_loadR_0, x_loadS_0, x_loadI_3, x_iconst, x_iadd, y_sald, c_X5_states, x_popI, x_loadR_2, x_loadS_2, c_X6_states, x_goto, b_L_law_1432, x_iinc_3, x_loadScr, q_isL_I, q_isL_R, q_isL_S, true_and, and_true, and_self, List.length_nil, List.length_cons, Nat.zero_add, x_K, x_Kn, Int.reduceToNat, Nat.reduceAdd, Nat.reduceLeDiff, Nat.zero_le, Int.reduceAdd, Int.reduceSub, Int.reduceNeg, q_add_e, q_sub_e]
  exact hn _ _ M2 (q_LI_q hL0 W h1 h2)
set_option maxRecDepth 20000 in
theorem p3_law_24 {L k tm sl : Nat} {X : Nat → Int} {M : q_M} {Q : Option q_V → q_G → q_M → Prop} (hL : L < 2147483648) (hk : k + 7 ≤ L) (hX : ∀ i, -2147483648 ≤ X i ∧ X i ≤ 2147483647) (hI : q_LI L X tm sl M) (hn : q_LN L X k Q) : q_T 1 1000 qP_L_law 986 [] [qS 2, qR 5 0, qR 6 100, qI k] [] (124 + 4 * (tm - 1), sl) M Q := by
  obtain ⟨Vt, l, hL0, W⟩ := hI
  have hL1 := hL0
  obtain ⟨C, I, el, m7, hx, R, kp, k6⟩ := hL1
  simp (disch := omega) only [b_L_law_986, x_loadR_1, x_loadS_1, x_loadR_0, x_loadS_0, x_loadI_3, x_iconst, x_iadd, y_sald, c_X5_whose, x_popI, x_loadR_2, x_loadS_2, c_X6_whose, x_goto, b_L_law_1432, x_iinc_3, x_loadScr, q_isL_I, q_isL_R, q_isL_S, true_and, and_true, and_self, List.length_nil, List.length_cons, Nat.zero_add, x_K, x_Kn, Int.reduceToNat, Nat.reduceAdd, Nat.reduceLeDiff, Nat.zero_le, Int.reduceAdd, Int.reduceSub, Int.reduceNeg, q_add_e, q_sub_e, m7, hx]
  refine cy_whose (d := 949) C (fun M1 h1 => ?_)
  have m8 : M1 1000001 0 = L := (h1 1000001 0 (by omega) (by omega) (by omega) (by omega)).trans m7
  have hx8 : ∀ i, M1 1000000 i = X i := fun i => (h1 1000000 i (by omega) (by omega) (by omega) (by omega)).trans (hx i)
  have I1 := q_MI_cfr (q_cfr_tq h1) I
  have fq := q_frQ_tq h1
  have eV := q_Lx_V hL0 (fq 100 11 (by omega) (by omega))
  have em := q_frQ_W fq
  have kk : ∀ s : Int, A_whose (Vt l) M s = B_whose (q_Vr Vt M1) M1 s := fun s => by rw [eV]; exact AB_whose W (q_Lx_hz hL0) fq
  simp (disch := omega) only [b_L_law_986, x_loadR_1, x_loadS_1, x_loadR_0, x_loadS_0, x_loadI_3, x_iconst, x_iadd, y_sald, c_X5_whose, x_popI, x_loadR_2, x_loadS_2, c_X6_whose, x_goto, b_L_law_1432, x_iinc_3, x_loadScr, q_isL_I, q_isL_R, q_isL_S, true_and, and_true, and_self, List.length_nil, List.length_cons, Nat.zero_add, x_K, x_Kn, Int.reduceToNat, Nat.reduceAdd, Nat.reduceLeDiff, Nat.zero_le, Int.reduceAdd, Int.reduceSub, Int.reduceNeg, q_add_e, q_sub_e, m8, hx8]
  refine mz_whose (d := 988) I1 (fun M2 h2 => ?_)
  simp (disch := omega) only [b_L_law_986, x_loadR_1, x_loadS_1, x_loadR_0, x_loadS_0, x_loadI_3, x_iconst, x_iadd, y_sald, c_X5_whose, x_popI, x_loadR_2, x_loadS_2, c_X6_whose, x_goto, b_L_law_1432, x_iinc_3, x_loadScr, q_isL_I, q_isL_R, q_isL_S, true_and, and_true, and_self, List.length_nil, List.length_cons, Nat.zero_add, x_K, x_Kn, Int.reduceToNat, Nat.reduceAdd, Nat.reduceLeDiff, Nat.zero_le, Int.reduceAdd, Int.reduceSub, Int.reduceNeg, q_add_e, q_sub_e, kk]
  exact hn _ _ M2 (q_LI_q hL0 W h1 h2)
set_option maxRecDepth 20000 in
theorem p3_law_25 {L k tm sl : Nat} {X : Nat → Int} {M : q_M} {Q : Option q_V → q_G → q_M → Prop} (hL : L < 2147483648) (hk : k + 7 ≤ L) (hX : ∀ i, -2147483648 ≤ X i ∧ X i ≤ 2147483647) (hI : q_LI L X tm sl M) (hn : q_LN L X k Q) : q_T 1 1000 qP_L_law 1009 [] [qS 2, qR 5 0, qR 6 100, qI k] [] (124 + 4 * (tm - 1), sl) M Q := by
  obtain ⟨Vt, l, hL0, W⟩ := hI
  have hL1 := hL0
  obtain ⟨C, I, el, m7, hx, R, kp, k6⟩ := hL1
  simp (disch := omega) only [b_L_law_1009, x_loadR_1, x_loadS_1, x_loadR_0, x_loadS_0, x_loadI_3, x_iconst, x_iadd, y_sald, c_X5_laws, x_popI, x_loadR_2, x_loadS_2, c_X6_laws, x_goto, b_L_law_1432, x_iinc_3, x_loadScr, q_isL_I, q_isL_R, q_isL_S, true_and, and_true, and_self, List.length_nil, List.length_cons, Nat.zero_add, x_K, x_Kn, Int.reduceToNat, Nat.reduceAdd, Nat.reduceLeDiff, Nat.zero_le, Int.reduceAdd, Int.reduceSub, Int.reduceNeg, q_add_e, q_sub_e, m7, hx]
  refine cy_laws (d := 949) C (fun M1 h1 => ?_)
  have m8 : M1 1000001 0 = L := (h1 1000001 0 (by omega) (by omega) (by omega) (by omega)).trans m7
  have hx8 : ∀ i, M1 1000000 i = X i := fun i => (h1 1000000 i (by omega) (by omega) (by omega) (by omega)).trans (hx i)
  have I1 := q_MI_cfr (q_cfr_tq h1) I
  have fq := q_frQ_tq h1
  have eV := q_Lx_V hL0 (fq 100 11 (by omega) (by omega))
  have em := q_frQ_W fq
  have kk : ∀ s p : Int, A_laws Vt tm M s p = B_laws Vt tm M1 s p := fun s p => by exact AB_laws W (q_Lx_hz hL0) fq
  simp (disch := omega) only [b_L_law_1009, x_loadR_1, x_loadS_1, x_loadR_0, x_loadS_0, x_loadI_3, x_iconst, x_iadd, y_sald, c_X5_laws, x_popI, x_loadR_2, x_loadS_2, c_X6_laws, x_goto, b_L_law_1432, x_iinc_3, x_loadScr, q_isL_I, q_isL_R, q_isL_S, true_and, and_true, and_self, List.length_nil, List.length_cons, Nat.zero_add, x_K, x_Kn, Int.reduceToNat, Nat.reduceAdd, Nat.reduceLeDiff, Nat.zero_le, Int.reduceAdd, Int.reduceSub, Int.reduceNeg, q_add_e, q_sub_e, m8, hx8]
  refine mz_laws (d := 988) I1 (fun M2 h2 => ?_)
  simp (disch := omega) only [b_L_law_1009, x_loadR_1, x_loadS_1, x_loadR_0, x_loadS_0, x_loadI_3, x_iconst, x_iadd, y_sald, c_X5_laws, x_popI, x_loadR_2, x_loadS_2, c_X6_laws, x_goto, b_L_law_1432, x_iinc_3, x_loadScr, q_isL_I, q_isL_R, q_isL_S, true_and, and_true, and_self, List.length_nil, List.length_cons, Nat.zero_add, x_K, x_Kn, Int.reduceToNat, Nat.reduceAdd, Nat.reduceLeDiff, Nat.zero_le, Int.reduceAdd, Int.reduceSub, Int.reduceNeg, q_add_e, q_sub_e, kk]
  exact hn _ _ M2 (q_LI_q hL0 W h1 h2)
set_option maxRecDepth 20000 in
theorem p3_law_26 {L k tm sl : Nat} {X : Nat → Int} {M : q_M} {Q : Option q_V → q_G → q_M → Prop} (hL : L < 2147483648) (hk : k + 7 ≤ L) (hX : ∀ i, -2147483648 ≤ X i ∧ X i ≤ 2147483647) (hI : q_LI L X tm sl M) (hn : q_LN L X k Q) : q_T 1 1000 qP_L_law 1042 [] [qS 2, qR 5 0, qR 6 100, qI k] [] (124 + 4 * (tm - 1), sl) M Q := by
  obtain ⟨Vt, l, hL0, W⟩ := hI
  have hL1 := hL0
  obtain ⟨C, I, el, m7, hx, R, kp, k6⟩ := hL1
  simp (disch := omega) only [b_L_law_1042, x_loadR_1, x_loadS_1, x_loadR_0, x_loadS_0, x_loadI_3, x_iconst, x_iadd, y_sald, c_X5_film, x_popI, x_loadR_2, x_loadS_2, c_X6_film, x_goto, b_L_law_1432, x_iinc_3, x_loadScr, q_isL_I, q_isL_R, q_isL_S, true_and, and_true, and_self, List.length_nil, List.length_cons, Nat.zero_add, x_K, x_Kn, Int.reduceToNat, Nat.reduceAdd, Nat.reduceLeDiff, Nat.zero_le, Int.reduceAdd, Int.reduceSub, Int.reduceNeg, q_add_e, q_sub_e, m7, hx]
  refine cx_film (d := 949) C (fun M1 C1 f1 t1 => ?_)
  have m8 : M1 1000001 0 = L := (f1 1000001 0 (by omega)).trans m7
  have hx8 : ∀ i, M1 1000000 i = X i := fun i => (f1 1000000 i (by omega)).trans (hx i)
  have I1 := q_MI_cfr f1 I
  simp (disch := omega) only [b_L_law_1042, x_loadR_1, x_loadS_1, x_loadR_0, x_loadS_0, x_loadI_3, x_iconst, x_iadd, y_sald, c_X5_film, x_popI, x_loadR_2, x_loadS_2, c_X6_film, x_goto, b_L_law_1432, x_iinc_3, x_loadScr, q_isL_I, q_isL_R, q_isL_S, true_and, and_true, and_self, List.length_nil, List.length_cons, Nat.zero_add, x_K, x_Kn, Int.reduceToNat, Nat.reduceAdd, Nat.reduceLeDiff, Nat.zero_le, Int.reduceAdd, Int.reduceSub, Int.reduceNeg, q_add_e, q_sub_e, m8, hx8]
  refine my_film (d := 988) I1 (fun M2 I2 f2 t2 => ?_)
  have kk := q_LI_film hL0 W C1 f1 t1 I2 f2 t2
  simp (disch := omega) only [b_L_law_1042, x_loadR_1, x_loadS_1, x_loadR_0, x_loadS_0, x_loadI_3, x_iconst, x_iadd, y_sald, c_X5_film, x_popI, x_loadR_2, x_loadS_2, c_X6_film, x_goto, b_L_law_1432, x_iinc_3, x_loadScr, q_isL_I, q_isL_R, q_isL_S, true_and, and_true, and_self, List.length_nil, List.length_cons, Nat.zero_add, x_K, x_Kn, Int.reduceToNat, Nat.reduceAdd, Nat.reduceLeDiff, Nat.zero_le, Int.reduceAdd, Int.reduceSub, Int.reduceNeg, q_add_e, q_sub_e, kk.1]
  exact hn _ _ M2 kk.2
set_option maxRecDepth 20000 in
theorem p3_law_27 {L k tm sl : Nat} {X : Nat → Int} {M : q_M} {Q : Option q_V → q_G → q_M → Prop} (hL : L < 2147483648) (hk : k + 7 ≤ L) (hX : ∀ i, -2147483648 ≤ X i ∧ X i ≤ 2147483647) (hI : q_LI L X tm sl M) (hn : q_LN L X k Q) : q_T 1 1000 qP_L_law 1085 [] [qS 2, qR 5 0, qR 6 100, qI k] [] (124 + 4 * (tm - 1), sl) M Q := by
  obtain ⟨Vt, l, hL0, W⟩ := hI
  have hL1 := hL0
  obtain ⟨C, I, el, m7, hx, R, kp, k6⟩ := hL1
  simp (disch := omega) only [b_L_law_1085, x_loadR_1, x_loadS_1, x_loadR_0, x_loadS_0, x_loadI_3, x_iconst, x_iadd, y_sald, c_X5_drawn, x_popI, x_loadR_2, x_loadS_2, c_X6_drawn, x_goto, b_L_law_1432, x_iinc_3, x_loadScr, q_isL_I, q_isL_R, q_isL_S, true_and, and_true, and_self, List.length_nil, List.length_cons, Nat.zero_add, x_K, x_Kn, Int.reduceToNat, Nat.reduceAdd, Nat.reduceLeDiff, Nat.zero_le, Int.reduceAdd, Int.reduceSub, Int.reduceNeg, q_add_e, q_sub_e, m7, hx]
  refine cy_drawn (d := 949) C (fun M1 h1 => ?_)
  have m8 : M1 1000001 0 = L := (h1 1000001 0 (by omega) (by omega) (by omega) (by omega)).trans m7
  have hx8 : ∀ i, M1 1000000 i = X i := fun i => (h1 1000000 i (by omega) (by omega) (by omega) (by omega)).trans (hx i)
  have I1 := q_MI_cfr (q_cfr_tq h1) I
  have fq := q_frQ_tq h1
  have eV := q_Lx_V hL0 (fq 100 11 (by omega) (by omega))
  have em := q_frQ_W fq
  have kk : ∀ seed wt : Int, A_drawn (Vt l) (cW M 11) seed wt = B_drawn (q_Vr Vt M1) (mW M1) seed wt := fun seed wt => by rw [eV, em, W.1]; exact AB_drawn W.2.1
  simp (disch := omega) only [b_L_law_1085, x_loadR_1, x_loadS_1, x_loadR_0, x_loadS_0, x_loadI_3, x_iconst, x_iadd, y_sald, c_X5_drawn, x_popI, x_loadR_2, x_loadS_2, c_X6_drawn, x_goto, b_L_law_1432, x_iinc_3, x_loadScr, q_isL_I, q_isL_R, q_isL_S, true_and, and_true, and_self, List.length_nil, List.length_cons, Nat.zero_add, x_K, x_Kn, Int.reduceToNat, Nat.reduceAdd, Nat.reduceLeDiff, Nat.zero_le, Int.reduceAdd, Int.reduceSub, Int.reduceNeg, q_add_e, q_sub_e, m8, hx8]
  refine mz_drawn (d := 988) I1 (fun M2 h2 => ?_)
  simp (disch := omega) only [b_L_law_1085, x_loadR_1, x_loadS_1, x_loadR_0, x_loadS_0, x_loadI_3, x_iconst, x_iadd, y_sald, c_X5_drawn, x_popI, x_loadR_2, x_loadS_2, c_X6_drawn, x_goto, b_L_law_1432, x_iinc_3, x_loadScr, q_isL_I, q_isL_R, q_isL_S, true_and, and_true, and_self, List.length_nil, List.length_cons, Nat.zero_add, x_K, x_Kn, Int.reduceToNat, Nat.reduceAdd, Nat.reduceLeDiff, Nat.zero_le, Int.reduceAdd, Int.reduceSub, Int.reduceNeg, q_add_e, q_sub_e, kk]
  exact hn _ _ M2 (q_LI_q hL0 W h1 h2)
set_option maxRecDepth 20000 in
theorem p3_law_28 {L k tm sl : Nat} {X : Nat → Int} {M : q_M} {Q : Option q_V → q_G → q_M → Prop} (hL : L < 2147483648) (hk : k + 7 ≤ L) (hX : ∀ i, -2147483648 ≤ X i ∧ X i ≤ 2147483647) (hI : q_LI L X tm sl M) (hn : q_LN L X k Q) : q_T 1 1000 qP_L_law 1118 [] [qS 2, qR 5 0, qR 6 100, qI k] [] (124 + 4 * (tm - 1), sl) M Q := by
  obtain ⟨Vt, l, hL0, W⟩ := hI
  have hL1 := hL0
  obtain ⟨C, I, el, m7, hx, R, kp, k6⟩ := hL1
  simp (disch := omega) only [b_L_law_1118, x_loadR_1, x_loadS_1, x_loadR_0, x_loadS_0, x_loadI_3, x_iconst, x_iadd, y_sald, c_X5_odds, x_pop2, x_loadR_2, x_loadS_2, c_X6_odds, x_goto, b_L_law_1432, x_iinc_3, x_loadScr, q_isL_I, q_isL_R, q_isL_S, true_and, and_true, and_self, List.length_nil, List.length_cons, Nat.zero_add, x_K, x_Kn, Int.reduceToNat, Nat.reduceAdd, Nat.reduceLeDiff, Nat.zero_le, Int.reduceAdd, Int.reduceSub, Int.reduceNeg, q_add_e, q_sub_e, m7, hx]
  refine cy_odds (d := 949) C (fun M1 h1 => ?_)
  have m8 : M1 1000001 0 = L := (h1 1000001 0 (by omega) (by omega) (by omega) (by omega)).trans m7
  have hx8 : ∀ i, M1 1000000 i = X i := fun i => (h1 1000000 i (by omega) (by omega) (by omega) (by omega)).trans (hx i)
  have I1 := q_MI_cfr (q_cfr_tq h1) I
  have fq := q_frQ_tq h1
  have eV := q_Lx_V hL0 (fq 100 11 (by omega) (by omega))
  have em := q_frQ_W fq
  have kk : ∀ seed seeds most part : Int, A_odds (Vt l) (cW M 11) seed seeds most part = B_odds (q_Vr Vt M1) (mW M1) seed seeds most part := fun seed seeds most part => by rw [eV, em, W.1]; exact AB_odds W.2.1
  simp (disch := omega) only [b_L_law_1118, x_loadR_1, x_loadS_1, x_loadR_0, x_loadS_0, x_loadI_3, x_iconst, x_iadd, y_sald, c_X5_odds, x_pop2, x_loadR_2, x_loadS_2, c_X6_odds, x_goto, b_L_law_1432, x_iinc_3, x_loadScr, q_isL_I, q_isL_R, q_isL_S, true_and, and_true, and_self, List.length_nil, List.length_cons, Nat.zero_add, x_K, x_Kn, Int.reduceToNat, Nat.reduceAdd, Nat.reduceLeDiff, Nat.zero_le, Int.reduceAdd, Int.reduceSub, Int.reduceNeg, q_add_e, q_sub_e, m8, hx8]
  refine mz_odds (d := 988) I1 (fun M2 h2 => ?_)
  simp (disch := omega) only [b_L_law_1118, x_loadR_1, x_loadS_1, x_loadR_0, x_loadS_0, x_loadI_3, x_iconst, x_iadd, y_sald, c_X5_odds, x_pop2, x_loadR_2, x_loadS_2, c_X6_odds, x_goto, b_L_law_1432, x_iinc_3, x_loadScr, q_isL_I, q_isL_R, q_isL_S, true_and, and_true, and_self, List.length_nil, List.length_cons, Nat.zero_add, x_K, x_Kn, Int.reduceToNat, Nat.reduceAdd, Nat.reduceLeDiff, Nat.zero_le, Int.reduceAdd, Int.reduceSub, Int.reduceNeg, q_add_e, q_sub_e, kk]
  exact hn _ _ M2 (q_LI_q hL0 W h1 h2)
set_option maxRecDepth 20000 in
theorem p3_law_29 {L k tm sl : Nat} {X : Nat → Int} {M : q_M} {Q : Option q_V → q_G → q_M → Prop} (hL : L < 2147483648) (hk : k + 7 ≤ L) (hX : ∀ i, -2147483648 ≤ X i ∧ X i ≤ 2147483647) (hI : q_LI L X tm sl M) (hn : q_LN L X k Q) : q_T 1 1000 qP_L_law 1171 [] [qS 2, qR 5 0, qR 6 100, qI k] [] (124 + 4 * (tm - 1), sl) M Q := by
  obtain ⟨Vt, l, hL0, W⟩ := hI
  have hL1 := hL0
  obtain ⟨C, I, el, m7, hx, R, kp, k6⟩ := hL1
  simp (disch := omega) only [b_L_law_1171, x_loadR_1, x_loadS_1, c_X5_image, x_popI, x_loadR_2, x_loadS_2, c_X6_image, x_goto, b_L_law_1432, x_iinc_3, x_loadScr, q_isL_I, q_isL_R, q_isL_S, true_and, and_true, and_self, List.length_nil, List.length_cons, Nat.zero_add, x_K, x_Kn, Int.reduceToNat, Nat.reduceAdd, Nat.reduceLeDiff, Nat.zero_le, Int.reduceAdd, Int.reduceSub, Int.reduceNeg, q_add_e, q_sub_e, m7, hx]
  refine cx_image (d := 949) C (fun M1 C1 e1 k1 u1 t1 => ?_)
  have m8 : M1 1000001 0 = L := (t1 1000001 0 (by omega)).trans m7
  have hx8 : ∀ i, M1 1000000 i = X i := fun i => (t1 1000000 i (by omega)).trans (hx i)
  have I1 : q_MI Vt tm M1 := q_MI_cfw (fun a i ha => t1 a i (by omega)) I
  simp (disch := omega) only [b_L_law_1171, x_loadR_1, x_loadS_1, c_X5_image, x_popI, x_loadR_2, x_loadS_2, c_X6_image, x_goto, b_L_law_1432, x_iinc_3, x_loadScr, q_isL_I, q_isL_R, q_isL_S, true_and, and_true, and_self, List.length_nil, List.length_cons, Nat.zero_add, x_K, x_Kn, Int.reduceToNat, Nat.reduceAdd, Nat.reduceLeDiff, Nat.zero_le, Int.reduceAdd, Int.reduceSub, Int.reduceNeg, q_add_e, q_sub_e, m8, hx8]
  refine my_image (d := 988) I1 (fun M2 I2 t2 w1 w2 w3 w4 w5 w6 => ?_)
  have kk := q_LI_image hL0 W C1 e1 k1 u1 t1 I2 t2 w1 w2 w3 w4 w5 w6
  simp (disch := omega) only [b_L_law_1171, x_loadR_1, x_loadS_1, c_X5_image, x_popI, x_loadR_2, x_loadS_2, c_X6_image, x_goto, b_L_law_1432, x_iinc_3, x_loadScr, q_isL_I, q_isL_R, q_isL_S, true_and, and_true, and_self, List.length_nil, List.length_cons, Nat.zero_add, x_K, x_Kn, Int.reduceToNat, Nat.reduceAdd, Nat.reduceLeDiff, Nat.zero_le, Int.reduceAdd, Int.reduceSub, Int.reduceNeg, q_add_e, q_sub_e, kk.1]
  exact hn _ _ M2 kk.2
set_option maxRecDepth 20000 in
theorem p3_law_30 {L k tm sl : Nat} {X : Nat → Int} {M : q_M} {Q : Option q_V → q_G → q_M → Prop} (hL : L < 2147483648) (hk : k + 7 ≤ L) (hX : ∀ i, -2147483648 ≤ X i ∧ X i ≤ 2147483647) (hI : q_LI L X tm sl M) (hn : q_LN L X k Q) : q_T 1 1000 qP_L_law 1184 [] [qS 2, qR 5 0, qR 6 100, qI k] [] (124 + 4 * (tm - 1), sl) M Q := by
  obtain ⟨Vt, l, hL0, W⟩ := hI
  have hL1 := hL0
  obtain ⟨C, I, el, m7, hx, R, kp, k6⟩ := hL1
  simp (disch := omega) only [b_L_law_1184, x_loadR_1, x_loadS_1, c_X5_back, x_popI, x_loadR_2, x_loadS_2, c_X6_back, x_goto, b_L_law_1432, x_iinc_3, x_loadScr, q_isL_I, q_isL_R, q_isL_S, true_and, and_true, and_self, List.length_nil, List.length_cons, Nat.zero_add, x_K, x_Kn, Int.reduceToNat, Nat.reduceAdd, Nat.reduceLeDiff, Nat.zero_le, Int.reduceAdd, Int.reduceSub, Int.reduceNeg, q_add_e, q_sub_e, m7, hx]
  refine cx_back (d := 949) C (fun z => ?_) (fun z kl M1 C1 u1 e1 t1 => ?_)
  · simp (disch := omega) only [b_L_law_1184, x_loadR_1, x_loadS_1, c_X5_back, x_popI, x_loadR_2, x_loadS_2, c_X6_back, x_goto, b_L_law_1432, x_iinc_3, x_loadScr, q_isL_I, q_isL_R, q_isL_S, true_and, and_true, and_self, List.length_nil, List.length_cons, Nat.zero_add, x_K, x_Kn, Int.reduceToNat, Nat.reduceAdd, Nat.reduceLeDiff, Nat.zero_le, Int.reduceAdd, Int.reduceSub, Int.reduceNeg, q_add_e, q_sub_e, m7, hx]
    refine my_back (d := 988) I (fun _ => ?_) (fun z2 => absurd (k6.mp z) z2)
    simp (disch := omega) only [b_L_law_1184, x_loadR_1, x_loadS_1, c_X5_back, x_popI, x_loadR_2, x_loadS_2, c_X6_back, x_goto, b_L_law_1432, x_iinc_3, x_loadScr, q_isL_I, q_isL_R, q_isL_S, true_and, and_true, and_self, List.length_nil, List.length_cons, Nat.zero_add, x_K, x_Kn, Int.reduceToNat, Nat.reduceAdd, Nat.reduceLeDiff, Nat.zero_le, Int.reduceAdd, Int.reduceSub, Int.reduceNeg, q_add_e, q_sub_e]
    exact hn _ _ M ⟨Vt, l, hL0, W⟩
  · have m8 : M1 1000001 0 = L := (t1 1000001 0 (by omega)).trans m7
    have hx8 : ∀ i, M1 1000000 i = X i := fun i => (t1 1000000 i (by omega)).trans (hx i)
    have I1 : q_MI Vt tm M1 := q_MI_cfw (fun a i ha => t1 a i (by omega)) I
    simp (disch := omega) only [b_L_law_1184, x_loadR_1, x_loadS_1, c_X5_back, x_popI, x_loadR_2, x_loadS_2, c_X6_back, x_goto, b_L_law_1432, x_iinc_3, x_loadScr, q_isL_I, q_isL_R, q_isL_S, true_and, and_true, and_self, List.length_nil, List.length_cons, Nat.zero_add, x_K, x_Kn, Int.reduceToNat, Nat.reduceAdd, Nat.reduceLeDiff, Nat.zero_le, Int.reduceAdd, Int.reduceSub, Int.reduceNeg, q_add_e, q_sub_e, m8, hx8]
    refine my_back (d := 988) I1 (fun z2 => absurd (k6.mpr ((t1 100 12 (by omega)).symm.trans z2)) z) (fun _ M2 I2 t2 w1 w2 w3 w4 w5 => ?_)
    have kk := q_LI_back hL0 W z C1 u1 e1 t1 I2 t2 w1 w2 w3 w4 w5
    simp (disch := omega) only [b_L_law_1184, x_loadR_1, x_loadS_1, c_X5_back, x_popI, x_loadR_2, x_loadS_2, c_X6_back, x_goto, b_L_law_1432, x_iinc_3, x_loadScr, q_isL_I, q_isL_R, q_isL_S, true_and, and_true, and_self, List.length_nil, List.length_cons, Nat.zero_add, x_K, x_Kn, Int.reduceToNat, Nat.reduceAdd, Nat.reduceLeDiff, Nat.zero_le, Int.reduceAdd, Int.reduceSub, Int.reduceNeg, q_add_e, q_sub_e, kk.1]
    exact hn _ _ M2 kk.2
set_option maxRecDepth 20000 in
theorem p3_law_31 {L k tm sl : Nat} {X : Nat → Int} {M : q_M} {Q : Option q_V → q_G → q_M → Prop} (hL : L < 2147483648) (hk : k + 7 ≤ L) (hX : ∀ i, -2147483648 ≤ X i ∧ X i ≤ 2147483647) (hI : q_LI L X tm sl M) (hn : q_LN L X k Q) : q_T 1 1000 qP_L_law 1197 [] [qS 2, qR 5 0, qR 6 100, qI k] [] (124 + 4 * (tm - 1), sl) M Q := by
  obtain ⟨Vt, l, hL0, W⟩ := hI
  have hL1 := hL0
  obtain ⟨C, I, el, m7, hx, R, kp, k6⟩ := hL1
  simp (disch := omega) only [b_L_law_1197, x_loadR_1, x_loadS_1, x_loadR_0, x_loadS_0, x_loadI_3, x_iconst, x_iadd, y_sald, c_X5_sheet, x_popI, x_loadR_2, x_loadS_2, c_X6_sheet, x_goto, b_L_law_1432, x_iinc_3, x_loadScr, q_isL_I, q_isL_R, q_isL_S, true_and, and_true, and_self, List.length_nil, List.length_cons, Nat.zero_add, x_K, x_Kn, Int.reduceToNat, Nat.reduceAdd, Nat.reduceLeDiff, Nat.zero_le, Int.reduceAdd, Int.reduceSub, Int.reduceNeg, q_add_e, q_sub_e, m7, hx]
  refine cx_sheet (d := 949) C (fun C1 f1 => ?_)
  generalize hM : q_sheetM M _ _ _ = M1 at C1 f1 ⊢
  have m8 : M1 1000001 0 = L := (f1 1000001 0 (by omega)).trans m7
  have hx8 : ∀ i, M1 1000000 i = X i := fun i => (f1 1000000 i (by omega)).trans (hx i)
  have I1 := q_MI_cfr f1 I
  simp (disch := omega) only [b_L_law_1197, x_loadR_1, x_loadS_1, x_loadR_0, x_loadS_0, x_loadI_3, x_iconst, x_iadd, y_sald, c_X5_sheet, x_popI, x_loadR_2, x_loadS_2, c_X6_sheet, x_goto, b_L_law_1432, x_iinc_3, x_loadScr, q_isL_I, q_isL_R, q_isL_S, true_and, and_true, and_self, List.length_nil, List.length_cons, Nat.zero_add, x_K, x_Kn, Int.reduceToNat, Nat.reduceAdd, Nat.reduceLeDiff, Nat.zero_le, Int.reduceAdd, Int.reduceSub, Int.reduceNeg, q_add_e, q_sub_e, m8, hx8]
  refine my_sheet (d := 988) I1 (fun M2 I2 f2 h0 h1 => ?_)
  have kk := q_LI_sheet hL0 W hM.symm C1 f1 I2 f2 h0 h1
  simp (disch := omega) only [b_L_law_1197, x_loadR_1, x_loadS_1, x_loadR_0, x_loadS_0, x_loadI_3, x_iconst, x_iadd, y_sald, c_X5_sheet, x_popI, x_loadR_2, x_loadS_2, c_X6_sheet, x_goto, b_L_law_1432, x_iinc_3, x_loadScr, q_isL_I, q_isL_R, q_isL_S, true_and, and_true, and_self, List.length_nil, List.length_cons, Nat.zero_add, x_K, x_Kn, Int.reduceToNat, Nat.reduceAdd, Nat.reduceLeDiff, Nat.zero_le, Int.reduceAdd, Int.reduceSub, Int.reduceNeg, q_add_e, q_sub_e]
  exact hn _ _ M2 kk
set_option maxRecDepth 20000 in
theorem p3_law_32 {L k tm sl : Nat} {X : Nat → Int} {M : q_M} {Q : Option q_V → q_G → q_M → Prop} (hL : L < 2147483648) (hk : k + 7 ≤ L) (hX : ∀ i, -2147483648 ≤ X i ∧ X i ≤ 2147483647) (hI : q_LI L X tm sl M) (hn : q_LN L X k Q) : q_T 1 1000 qP_L_law 1240 [] [qS 2, qR 5 0, qR 6 100, qI k] [] (124 + 4 * (tm - 1), sl) M Q := by
  obtain ⟨Vt, l, hL0, W⟩ := hI
  have hL1 := hL0
  obtain ⟨C, I, el, m7, hx, R, kp, k6⟩ := hL1
  simp (disch := omega) only [b_L_law_1240, x_loadR_1, x_loadS_1, x_loadR_0, x_loadS_0, x_loadI_3, x_iconst, x_iadd, y_sald, c_X5_cell, x_popI, x_loadR_2, x_loadS_2, c_X6_cell, x_goto, b_L_law_1432, x_iinc_3, x_loadScr, q_isL_I, q_isL_R, q_isL_S, true_and, and_true, and_self, List.length_nil, List.length_cons, Nat.zero_add, x_K, x_Kn, Int.reduceToNat, Nat.reduceAdd, Nat.reduceLeDiff, Nat.zero_le, Int.reduceAdd, Int.reduceSub, Int.reduceNeg, q_add_e, q_sub_e, m7, hx]
  refine cx_cell (d := 949) C (fun C1 f1 => ?_)
  generalize hM : q_cellM M _ _ _ = M1 at C1 f1 ⊢
  have m8 : M1 1000001 0 = L := (f1 1000001 0 (by omega)).trans m7
  have hx8 : ∀ i, M1 1000000 i = X i := fun i => (f1 1000000 i (by omega)).trans (hx i)
  have I1 := q_MI_cfr f1 I
  simp (disch := omega) only [b_L_law_1240, x_loadR_1, x_loadS_1, x_loadR_0, x_loadS_0, x_loadI_3, x_iconst, x_iadd, y_sald, c_X5_cell, x_popI, x_loadR_2, x_loadS_2, c_X6_cell, x_goto, b_L_law_1432, x_iinc_3, x_loadScr, q_isL_I, q_isL_R, q_isL_S, true_and, and_true, and_self, List.length_nil, List.length_cons, Nat.zero_add, x_K, x_Kn, Int.reduceToNat, Nat.reduceAdd, Nat.reduceLeDiff, Nat.zero_le, Int.reduceAdd, Int.reduceSub, Int.reduceNeg, q_add_e, q_sub_e, m8, hx8]
  refine my_cell (d := 988) I1 (fun M2 I2 f2 e2 => ?_)
  have kk := q_LI_cell hL0 W hM.symm C1 f1 I2 f2 e2
  simp (disch := omega) only [b_L_law_1240, x_loadR_1, x_loadS_1, x_loadR_0, x_loadS_0, x_loadI_3, x_iconst, x_iadd, y_sald, c_X5_cell, x_popI, x_loadR_2, x_loadS_2, c_X6_cell, x_goto, b_L_law_1432, x_iinc_3, x_loadScr, q_isL_I, q_isL_R, q_isL_S, true_and, and_true, and_self, List.length_nil, List.length_cons, Nat.zero_add, x_K, x_Kn, Int.reduceToNat, Nat.reduceAdd, Nat.reduceLeDiff, Nat.zero_le, Int.reduceAdd, Int.reduceSub, Int.reduceNeg, q_add_e, q_sub_e, kk.1]
  exact hn _ _ M2 kk.2
set_option maxRecDepth 20000 in
theorem p3_law_33 {L k tm sl : Nat} {X : Nat → Int} {M : q_M} {Q : Option q_V → q_G → q_M → Prop} (hL : L < 2147483648) (hk : k + 7 ≤ L) (hX : ∀ i, -2147483648 ≤ X i ∧ X i ≤ 2147483647) (hI : q_LI L X tm sl M) (hn : q_LN L X k Q) : q_T 1 1000 qP_L_law 1283 [] [qS 2, qR 5 0, qR 6 100, qI k] [] (124 + 4 * (tm - 1), sl) M Q := by
  obtain ⟨Vt, l, hL0, W⟩ := hI
  have hL1 := hL0
  obtain ⟨C, I, el, m7, hx, R, kp, k6⟩ := hL1
  simp (disch := omega) only [b_L_law_1283, x_loadR_1, x_loadS_1, x_loadR_0, x_loadS_0, x_loadI_3, x_iconst, x_iadd, y_sald, c_X5_copy, x_popI, x_loadR_2, x_loadS_2, c_X6_copy, x_goto, b_L_law_1432, x_iinc_3, x_loadScr, q_isL_I, q_isL_R, q_isL_S, true_and, and_true, and_self, List.length_nil, List.length_cons, Nat.zero_add, x_K, x_Kn, Int.reduceToNat, Nat.reduceAdd, Nat.reduceLeDiff, Nat.zero_le, Int.reduceAdd, Int.reduceSub, Int.reduceNeg, q_add_e, q_sub_e, m7, hx]
  refine cx_copy (d := 949) C (fun C1 f1 => ?_) (hX _).2
  generalize hM : q_copyM M _ _ _ _ _ = M1 at C1 f1 ⊢
  have m8 : M1 1000001 0 = L := (f1 1000001 0 (by omega)).trans m7
  have hx8 : ∀ i, M1 1000000 i = X i := fun i => (f1 1000000 i (by omega)).trans (hx i)
  have I1 := q_MI_cfr f1 I
  simp (disch := omega) only [b_L_law_1283, x_loadR_1, x_loadS_1, x_loadR_0, x_loadS_0, x_loadI_3, x_iconst, x_iadd, y_sald, c_X5_copy, x_popI, x_loadR_2, x_loadS_2, c_X6_copy, x_goto, b_L_law_1432, x_iinc_3, x_loadScr, q_isL_I, q_isL_R, q_isL_S, true_and, and_true, and_self, List.length_nil, List.length_cons, Nat.zero_add, x_K, x_Kn, Int.reduceToNat, Nat.reduceAdd, Nat.reduceLeDiff, Nat.zero_le, Int.reduceAdd, Int.reduceSub, Int.reduceNeg, q_add_e, q_sub_e, m8, hx8]
  refine my_copy (d := 988) I1 (fun M2 I2 f2 e2 => ?_)
  have kk := q_LI_copy hL0 W hM.symm C1 f1 I2 f2 e2
  simp (disch := omega) only [b_L_law_1283, x_loadR_1, x_loadS_1, x_loadR_0, x_loadS_0, x_loadI_3, x_iconst, x_iadd, y_sald, c_X5_copy, x_popI, x_loadR_2, x_loadS_2, c_X6_copy, x_goto, b_L_law_1432, x_iinc_3, x_loadScr, q_isL_I, q_isL_R, q_isL_S, true_and, and_true, and_self, List.length_nil, List.length_cons, Nat.zero_add, x_K, x_Kn, Int.reduceToNat, Nat.reduceAdd, Nat.reduceLeDiff, Nat.zero_le, Int.reduceAdd, Int.reduceSub, Int.reduceNeg, q_add_e, q_sub_e, kk.1]
  exact hn _ _ M2 kk.2
set_option maxRecDepth 20000 in
theorem p3_law_34 {L k tm sl : Nat} {X : Nat → Int} {M : q_M} {Q : Option q_V → q_G → q_M → Prop} (hL : L < 2147483648) (hk : k + 7 ≤ L) (hX : ∀ i, -2147483648 ≤ X i ∧ X i ≤ 2147483647) (hI : q_LI L X tm sl M) (hn : q_LN L X k Q) : q_T 1 1000 qP_L_law 1346 [] [qS 2, qR 5 0, qR 6 100, qI k] [] (124 + 4 * (tm - 1), sl) M Q := by
  obtain ⟨Vt, l, hL0, W⟩ := hI
  have hL1 := hL0
  obtain ⟨C, I, el, m7, hx, R, kp, k6⟩ := hL1
  simp (disch := omega) only [b_L_law_1346, x_loadR_1, x_loadS_1, x_loadR_0, x_loadS_0, x_loadI_3, x_iconst, x_iadd, y_sald, c_X5_stonesBy, x_popI, x_loadR_2, x_loadS_2, c_X6_stonesBy, x_goto, b_L_law_1432, x_iinc_3, x_loadScr, q_isL_I, q_isL_R, q_isL_S, true_and, and_true, and_self, List.length_nil, List.length_cons, Nat.zero_add, x_K, x_Kn, Int.reduceToNat, Nat.reduceAdd, Nat.reduceLeDiff, Nat.zero_le, Int.reduceAdd, Int.reduceSub, Int.reduceNeg, q_add_e, q_sub_e, m7, hx]
  refine cx_stonesBy (d := 949) C (fun C1 f1 => ?_)
  generalize hM : (q_stonesBy M _ _ _ _).2 = M1 at C1 f1 ⊢
  have m8 : M1 1000001 0 = L := (f1 1000001 0 (by omega)).trans m7
  have hx8 : ∀ i, M1 1000000 i = X i := fun i => (f1 1000000 i (by omega)).trans (hx i)
  have I1 := q_MI_cfr f1 I
  simp (disch := omega) only [b_L_law_1346, x_loadR_1, x_loadS_1, x_loadR_0, x_loadS_0, x_loadI_3, x_iconst, x_iadd, y_sald, c_X5_stonesBy, x_popI, x_loadR_2, x_loadS_2, c_X6_stonesBy, x_goto, b_L_law_1432, x_iinc_3, x_loadScr, q_isL_I, q_isL_R, q_isL_S, true_and, and_true, and_self, List.length_nil, List.length_cons, Nat.zero_add, x_K, x_Kn, Int.reduceToNat, Nat.reduceAdd, Nat.reduceLeDiff, Nat.zero_le, Int.reduceAdd, Int.reduceSub, Int.reduceNeg, q_add_e, q_sub_e, m8, hx8]
  refine my_stonesBy (d := 988) I1 (fun M2 I2 f2 e2 s2 => ?_) (hX _)
  have kk := q_LI_sb hL0 W hM.symm C1 f1 I2 f2 e2 s2
  simp (disch := omega) only [b_L_law_1346, x_loadR_1, x_loadS_1, x_loadR_0, x_loadS_0, x_loadI_3, x_iconst, x_iadd, y_sald, c_X5_stonesBy, x_popI, x_loadR_2, x_loadS_2, c_X6_stonesBy, x_goto, b_L_law_1432, x_iinc_3, x_loadScr, q_isL_I, q_isL_R, q_isL_S, true_and, and_true, and_self, List.length_nil, List.length_cons, Nat.zero_add, x_K, x_Kn, Int.reduceToNat, Nat.reduceAdd, Nat.reduceLeDiff, Nat.zero_le, Int.reduceAdd, Int.reduceSub, Int.reduceNeg, q_add_e, q_sub_e, kk.1]
  exact hn _ _ M2 kk.2
set_option maxRecDepth 20000 in
theorem p3_law_35 {L k tm sl : Nat} {X : Nat → Int} {M : q_M} {Q : Option q_V → q_G → q_M → Prop} (hL : L < 2147483648) (hk : k + 7 ≤ L) (hX : ∀ i, -2147483648 ≤ X i ∧ X i ≤ 2147483647) (hI : q_LI L X tm sl M) (hn : q_LN L X k Q) : q_T 1 1000 qP_L_law 1399 [] [qS 2, qR 5 0, qR 6 100, qI k] [] (124 + 4 * (tm - 1), sl) M Q := by
  obtain ⟨Vt, l, hL0, W⟩ := hI
  have hL1 := hL0
  obtain ⟨C, I, el, m7, hx, R, kp, k6⟩ := hL1
  simp (disch := omega) only [b_L_law_1399, x_loadR_1, x_loadS_1, x_loadR_0, x_loadS_0, x_loadI_3, x_iconst, x_iadd, y_sald, c_X5_taken, x_loadR_2, x_loadS_2, c_X6_taken, y_ic_eq_t, y_ic_eq_f, b_L_law_1432, x_iinc_3, x_goto, x_loadScr, q_isL_I, q_isL_R, q_isL_S, true_and, and_true, and_self, List.length_nil, List.length_cons, Nat.zero_add, x_K, x_Kn, Int.reduceToNat, Nat.reduceAdd, Nat.reduceLeDiff, Nat.zero_le, Int.reduceAdd, Int.reduceSub, Int.reduceNeg, q_add_e, q_sub_e, m7, hx]
  refine cy_taken (d := 949) C (fun M1 h1 => ?_)
  have m8 : M1 1000001 0 = L := (h1 1000001 0 (by omega) (by omega) (by omega) (by omega)).trans m7
  have hx8 : ∀ i, M1 1000000 i = X i := fun i => (h1 1000000 i (by omega) (by omega) (by omega) (by omega)).trans (hx i)
  have I1 := q_MI_cfr (q_cfr_tq h1) I
  have fq := q_frQ_tq h1
  have eV := q_Lx_V hL0 (fq 100 11 (by omega) (by omega))
  have em := q_frQ_W fq
  have kk : ∀ i k : Int, A_taken (cW M 11) i k = A_taken (mW M1) i k := fun i k => by rw [em, W.1]
  simp (disch := omega) only [b_L_law_1399, x_loadR_1, x_loadS_1, x_loadR_0, x_loadS_0, x_loadI_3, x_iconst, x_iadd, y_sald, c_X5_taken, x_loadR_2, x_loadS_2, c_X6_taken, y_ic_eq_t, y_ic_eq_f, b_L_law_1432, x_iinc_3, x_goto, x_loadScr, q_isL_I, q_isL_R, q_isL_S, true_and, and_true, and_self, List.length_nil, List.length_cons, Nat.zero_add, x_K, x_Kn, Int.reduceToNat, Nat.reduceAdd, Nat.reduceLeDiff, Nat.zero_le, Int.reduceAdd, Int.reduceSub, Int.reduceNeg, q_add_e, q_sub_e, m8, hx8]
  refine mz_taken (d := 988) I1 (fun M2 h2 => ?_)
  simp (disch := omega) only [b_L_law_1399, x_loadR_1, x_loadS_1, x_loadR_0, x_loadS_0, x_loadI_3, x_iconst, x_iadd, y_sald, c_X5_taken, x_loadR_2, x_loadS_2, c_X6_taken, y_ic_eq_t, y_ic_eq_f, b_L_law_1432, x_iinc_3, x_goto, x_loadScr, q_isL_I, q_isL_R, q_isL_S, true_and, and_true, and_self, List.length_nil, List.length_cons, Nat.zero_add, x_K, x_Kn, Int.reduceToNat, Nat.reduceAdd, Nat.reduceLeDiff, Nat.zero_le, Int.reduceAdd, Int.reduceSub, Int.reduceNeg, q_add_e, q_sub_e, kk]
  exact hn _ _ M2 (q_LI_q hL0 W h1 h2)
set_option maxRecDepth 20000 in
set_option maxHeartbeats 4000000 in
theorem p3_loop {L : Nat} {X : Nat → Int} {Q : Option q_V → q_G → q_M → Prop} (hL : L < 2147483648) (hX : ∀ i, -2147483648 ≤ X i ∧ X i ≤ 2147483647) (hq : ∀ (tm sl : Nat) (M : q_M), q_LI L X tm sl M → Q (some (qI 1)) (124 + 4 * (tm - 1), sl) M) : ∀ e k : Nat, L < k + 7 * e + 7 → ∀ (tm sl : Nat) (M : q_M), q_LI L X tm sl M → q_T 1 1000 qP_L_law 18 [] [qS 2, qR 5 0, qR 6 100, qI k] [] (124 + 4 * (tm - 1), sl) M Q := by
  intro e
  induction e with
  | zero =>
    intro k hk tm sl M hI
    obtain ⟨Vt0, l0, hL0, W0⟩ := hI
    have m7 := hL0.2.2.2.1
    have hI : q_LI L X tm sl M := ⟨Vt0, l0, hL0, W0⟩
    simp (disch := omega) only [b_L_law_18, x_loadI_3, x_loadR_0, x_loadS_0, x_slen, x_iconst, x_isub, y_ic_gt_t, y_ic_gt_f, b_L_law_27, y_sald, x_iand, b_L_law_1438, x_loadScr, q_isL_I, q_isL_R, q_isL_S, true_and, and_true, and_self, List.length_nil, List.length_cons, Nat.zero_add, x_K, x_Kn, Int.reduceToNat, Nat.reduceAdd, Nat.reduceLeDiff, Nat.zero_le, Int.reduceAdd, Int.reduceSub, Int.reduceNeg, q_add_e, q_sub_e, x_ret1_0, x_ret1_1, m7]
    exact hq tm sl M hI
  | succ e ih =>
    intro k hk tm sl M hI
    obtain ⟨Vt0, l0, hL0, W0⟩ := hI
    have m7 := hL0.2.2.2.1
    have hI : q_LI L X tm sl M := ⟨Vt0, l0, hL0, W0⟩
    by_cases c : L < k + 7
    · simp (disch := omega) only [b_L_law_18, x_loadI_3, x_loadR_0, x_loadS_0, x_slen, x_iconst, x_isub, y_ic_gt_t, y_ic_gt_f, b_L_law_1438, x_loadScr, q_isL_I, q_isL_R, q_isL_S, true_and, and_true, and_self, List.length_nil, List.length_cons, Nat.zero_add, x_K, x_Kn, Int.reduceToNat, Nat.reduceAdd, Nat.reduceLeDiff, Nat.zero_le, Int.reduceAdd, Int.reduceSub, Int.reduceNeg, q_add_e, q_sub_e, x_iconst, x_ret1_0, x_ret1_1, m7]
      exact hq tm sl M hI
    · have hn : q_LN L X k Q := fun tm sl M hI => by
        have := ih (k + 7) (by omega) tm sl M hI
        exact this
      have hend : q_T 1 1000 qP_L_law 1432 [] [qS 2, qR 5 0, qR 6 100, qI k] [] (124 + 4 * (tm - 1), sl) M Q := by
        have h := hn tm sl M hI
        simp (disch := omega) only [b_L_law_1432, x_iinc_3, x_goto, x_loadScr, q_isL_I, q_isL_R, q_isL_S, true_and, and_true, and_self, List.length_nil, List.length_cons, Nat.zero_add, x_K, x_Kn, Int.reduceToNat, Nat.reduceAdd, Nat.reduceLeDiff, Nat.zero_le, Int.reduceAdd, Int.reduceSub, Int.reduceNeg, q_add_e, q_sub_e]
        exact h
      simp (disch := omega) only [b_L_law_18, x_loadI_3, x_loadR_0, x_loadS_0, x_slen, x_iconst, x_isub, y_ic_gt_t, y_ic_gt_f, b_L_law_27, y_sald, x_iand, x_loadScr, q_isL_I, q_isL_R, q_isL_S, true_and, and_true, and_self, List.length_nil, List.length_cons, Nat.zero_add, x_K, x_Kn, Int.reduceToNat, Nat.reduceAdd, Nat.reduceLeDiff, Nat.zero_le, Int.reduceAdd, Int.reduceSub, Int.reduceNeg, q_add_e, q_sub_e, m7]
      generalize q_and _ 63 = kk
      rcases (show kk < 0 ∨ kk = 0 ∨ kk = 1 ∨ kk = 2 ∨ kk = 3 ∨ kk = 4 ∨ kk = 5 ∨ kk = 6 ∨ kk = 7 ∨ kk = 8 ∨ kk = 9 ∨ kk = 10 ∨ kk = 11 ∨ kk = 12 ∨ kk = 13 ∨ kk = 14 ∨ kk = 15 ∨ kk = 16 ∨ kk = 17 ∨ kk = 18 ∨ kk = 19 ∨ kk = 20 ∨ kk = 21 ∨ kk = 22 ∨ kk = 23 ∨ kk = 24 ∨ kk = 25 ∨ kk = 26 ∨ kk = 27 ∨ kk = 28 ∨ kk = 29 ∨ kk = 30 ∨ kk = 31 ∨ kk = 32 ∨ kk = 33 ∨ kk = 34 ∨ kk = 35 ∨ 35 < kk by omega) with hk2 | rfl | rfl | rfl | rfl | rfl | rfl | rfl | rfl | rfl | rfl | rfl | rfl | rfl | rfl | rfl | rfl | rfl | rfl | rfl | rfl | rfl | rfl | rfl | rfl | rfl | rfl | rfl | rfl | rfl | rfl | rfl | rfl | rfl | rfl | rfl | rfl | hk2
      · rw [y_tsw_o (Or.inl hk2)]
        exact hend
      · rw [tl_0]
        exact p3_law_0 hL (by omega) hX hI hn
      · rw [tl_1]
        exact p3_law_1 hL (by omega) hX hI hn
      · rw [tl_2]
        exact p3_law_2 hL (by omega) hX hI hn
      · rw [tl_3]
        exact p3_law_3 hL (by omega) hX hI hn
      · rw [tl_4]
        exact p3_law_4 hL (by omega) hX hI hn
      · rw [tl_5]
        exact p3_law_5 hL (by omega) hX hI hn
      · rw [tl_6]
        exact p3_law_6 hL (by omega) hX hI hn
      · rw [tl_7]
        exact p3_law_7 hL (by omega) hX hI hn
      · rw [tl_8]
        exact p3_law_8 hL (by omega) hX hI hn
      · rw [tl_9]
        exact p3_law_9 hL (by omega) hX hI hn
      · rw [tl_10]
        exact p3_law_10 hL (by omega) hX hI hn
      · rw [tl_11]
        exact p3_law_11 hL (by omega) hX hI hn
      · rw [tl_12]
        exact p3_law_12 hL (by omega) hX hI hn
      · rw [tl_13]
        exact p3_law_13 hL (by omega) hX hI hn
      · rw [tl_14]
        exact p3_law_14 hL (by omega) hX hI hn
      · rw [tl_15]
        exact p3_law_15 hL (by omega) hX hI hn
      · rw [tl_16]
        exact p3_law_16 hL (by omega) hX hI hn
      · rw [tl_17]
        exact p3_law_17 hL (by omega) hX hI hn
      · rw [tl_18]
        exact p3_law_18 hL (by omega) hX hI hn
      · rw [tl_19]
        exact p3_law_19 hL (by omega) hX hI hn
      · rw [tl_20]
        exact p3_law_20 hL (by omega) hX hI hn
      · rw [tl_21]
        exact p3_law_21 hL (by omega) hX hI hn
      · rw [tl_22]
        exact p3_law_22 hL (by omega) hX hI hn
      · rw [tl_23]
        exact p3_law_23 hL (by omega) hX hI hn
      · rw [tl_24]
        exact p3_law_24 hL (by omega) hX hI hn
      · rw [tl_25]
        exact p3_law_25 hL (by omega) hX hI hn
      · rw [tl_26]
        exact p3_law_26 hL (by omega) hX hI hn
      · rw [tl_27]
        exact p3_law_27 hL (by omega) hX hI hn
      · rw [tl_28]
        exact p3_law_28 hL (by omega) hX hI hn
      · rw [tl_29]
        exact p3_law_29 hL (by omega) hX hI hn
      · rw [tl_30]
        exact p3_law_30 hL (by omega) hX hI hn
      · rw [tl_31]
        exact p3_law_31 hL (by omega) hX hI hn
      · rw [tl_32]
        exact p3_law_32 hL (by omega) hX hI hn
      · rw [tl_33]
        exact p3_law_33 hL (by omega) hX hI hn
      · rw [tl_34]
        exact p3_law_34 hL (by omega) hX hI hn
      · rw [tl_35]
        exact p3_law_35 hL (by omega) hX hI hn
      · rw [y_tsw_o (Or.inr hk2)]
        exact hend
theorem q_first_L {L : Nat} {xs : Nat → Int32} : q_LI L (q_Bm L xs 1000000) 1 3394 (q_lk q_T0 (q_Bm L xs)) := ⟨_, 0, ⟨q_first_XI, q_first_MV, rfl, rfl, fun i => rfl, q_first_Rtp, fun h => absurd rfl h, ⟨fun _ => rfl, fun _ => rfl⟩⟩, q_first_Rw⟩
theorem p3_owed {L : Nat} {xs : Nat → Int32} (hL : L < 2147483648) : q_Owed L xs := by
  unfold q_Owed
  have h := p3_loop (L := L) (X := q_Bm L xs 1000000) (Q := fun (v : Option q_V) (g : q_G) (_ : q_M) => v = some (qI 1) ∧ g.1 ≤ 600000 ∧ g.2 ≤ 7302250) hL (fun i => by have := q_Bm_rng (xs := xs) hL 1000000 i; omega) (fun tm sl M hI => ?_) L 0 (by omega) 1 3394 (q_lk q_T0 (q_Bm L xs)) q_first_L
  · exact h
  · obtain ⟨Vt, l, ⟨C, -⟩, -⟩ := hI
    have h1 := C.1.2.1
    have h2 := C.2.2.2.2.2.2
    exact ⟨rfl, by show 124 + 4 * (tm - 1) ≤ 600000; omega, by show sl ≤ 7302250; omega⟩
