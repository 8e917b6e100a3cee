/-! THE LAW ON SCRIPTS OF ONE CALL -/
section LAWB
variable {md d : Nat} {ls st : List q_V} {g : q_G} {M : q_M} {Q : Option q_V → q_G → q_M → Prop}
theorem b_L_law_0 : q_T md d qP_L_law 0 [] ls st g M Q = q_T md d qP_L_law 18 [.new 5, .dup, .invokestatic 61, .astore 1, .new 6, .dup, .invokestatic 109, .astore 2, .iconst (0), .istore 3] ls st g M Q := q_T_next rfl
theorem b_L_law_18 : q_T md d qP_L_law 18 [] ls st g M Q = q_T md d qP_L_law 27 [.iload 3, .aload 0, .arraylength, .iconst (7), .isub, .if_icmp .gt (1440)] ls st g M Q := q_T_next rfl
theorem b_L_law_27 : q_T md d qP_L_law 27 [] ls st g M Q = q_T md d qP_L_law 192 [.aload 0, .iload 3, .iaload, .iconst (63), .iand, .tableswitch (1434) (0) (35) #[192, 215, 238, 281, 314, 389, 402, 425, 468, 511, 554, 587, 630, 643, 676, 709, 732, 755, 778, 801, 834, 858, 891, 934, 987, 1010, 1043, 1086, 1119, 1173, 1186, 1199, 1242, 1285, 1348, 1401]] ls st g M Q := q_T_next rfl
theorem b_L_law_192 : q_T md d qP_L_law 192 [] ls st g M Q = q_T md d qP_L_law 213 [.aload 1, .aload 0, .iload 3, .iconst (1), .iadd, .iaload, .invokestatic 62, .aload 2, .aload 0, .iload 3, .iconst (1), .iadd, .iaload, .invokestatic 117, .if_icmp .eq (1434)] ls st g M Q := q_T_next rfl
theorem b_L_law_213 : q_T md d qP_L_law 213 [] ls st g M Q = q_T md d qP_L_law 215 [.iconst (0), .ret 1] ls st g M Q := q_T_next rfl
theorem b_L_law_215 : q_T md d qP_L_law 215 [] ls st g M Q = q_T md d qP_L_law 236 [.aload 1, .aload 0, .iload 3, .iconst (1), .iadd, .iaload, .invokestatic 63, .aload 2, .aload 0, .iload 3, .iconst (1), .iadd, .iaload, .invokestatic 118, .if_icmp .eq (1434)] ls st g M Q := q_T_next rfl
theorem b_L_law_236 : q_T md d qP_L_law 236 [] ls st g M Q = q_T md d qP_L_law 238 [.iconst (0), .ret 1] ls st g M Q := q_T_next rfl
theorem b_L_law_238 : q_T md d qP_L_law 238 [] ls st g M Q = q_T md d qP_L_law 279 [.aload 1, .aload 0, .iload 3, .iconst (1), .iadd, .iaload, .aload 0, .iload 3, .iconst (2), .iadd, .iaload, .aload 0, .iload 3, .iconst (3), .iadd, .iaload, .invokestatic 64, .aload 2, .aload 0, .iload 3, .iconst (1), .iadd, .iaload, .aload 0, .iload 3, .iconst (2), .iadd, .iaload, .aload 0, .iload 3, .iconst (3), .iadd, .iaload, .invokestatic 119, .if_icmp .eq (1434)] ls st g M Q := q_T_next rfl
theorem b_L_law_279 : q_T md d qP_L_law 279 [] ls st g M Q = q_T md d qP_L_law 281 [.iconst (0), .ret 1] ls st g M Q := q_T_next rfl
theorem b_L_law_281 : q_T md d qP_L_law 281 [] ls st g M Q = q_T md d qP_L_law 312 [.aload 1, .aload 0, .iload 3, .iconst (1), .iadd, .iaload, .aload 0, .iload 3, .iconst (2), .iadd, .iaload, .invokestatic 65, .aload 2, .aload 0, .iload 3, .iconst (1), .iadd, .iaload, .aload 0, .iload 3, .iconst (2), .iadd, .iaload, .invokestatic 120, .if_icmp .eq (1434)] ls st g M Q := q_T_next rfl
theorem b_L_law_312 : q_T md d qP_L_law 312 [] ls st g M Q = q_T md d qP_L_law 314 [.iconst (0), .ret 1] ls st g M Q := q_T_next rfl
theorem b_L_law_314 : q_T md d qP_L_law 314 [] ls st g M Q = q_T md d qP_L_law 367 [.aload 1, .aload 0, .iload 3, .iconst (1), .iadd, .iaload, .aload 0, .iload 3, .iconst (2), .iadd, .iaload, .aload 0, .iload 3, .iconst (3), .iadd, .iaload, .aload 0, .iload 3, .iconst (4), .iadd, .iaload, .aload 0, .iload 3, .iconst (5), .iadd, .iaload, .aload 0, .iload 3, .iconst (6), .iadd, .iaload, .invokestatic 66, .aload 2, .aload 0, .iload 3, .iconst (1), .iadd, .iaload, .aload 0, .iload 3, .iconst (2), .iadd, .iaload, .aload 0, .iload 3, .iconst (3), .iadd, .iaload, .aload 0, .iload 3] ls st g M Q := q_T_next rfl
theorem b_L_law_367 : q_T md d qP_L_law 367 [] ls st g M Q = q_T md d qP_L_law 387 [.iconst (4), .iadd, .iaload, .aload 0, .iload 3, .iconst (5), .iadd, .iaload, .aload 0, .iload 3, .iconst (6), .iadd, .iaload, .invokestatic 122, .if_icmp .eq (1434)] ls st g M Q := q_T_next rfl
theorem b_L_law_387 : q_T md d qP_L_law 387 [] ls st g M Q = q_T md d qP_L_law 389 [.iconst (0), .ret 1] ls st g M Q := q_T_next rfl
theorem b_L_law_389 : q_T md d qP_L_law 389 [] ls st g M Q = q_T md d qP_L_law 400 [.aload 1, .invokestatic 67, .aload 2, .invokestatic 133, .if_icmp .eq (1434)] ls st g M Q := q_T_next rfl
theorem b_L_law_400 : q_T md d qP_L_law 400 [] ls st g M Q = q_T md d qP_L_law 402 [.iconst (0), .ret 1] ls st g M Q := q_T_next rfl
theorem b_L_law_402 : q_T md d qP_L_law 402 [] ls st g M Q = q_T md d qP_L_law 423 [.aload 1, .aload 0, .iload 3, .iconst (1), .iadd, .iaload, .invokestatic 68, .aload 2, .aload 0, .iload 3, .iconst (1), .iadd, .iaload, .invokestatic 136, .if_icmp .eq (1434)] ls st g M Q := q_T_next rfl
theorem b_L_law_423 : q_T md d qP_L_law 423 [] ls st g M Q = q_T md d qP_L_law 425 [.iconst (0), .ret 1] ls st g M Q := q_T_next rfl
theorem b_L_law_425 : q_T md d qP_L_law 425 [] ls st g M Q = q_T md d qP_L_law 466 [.aload 1, .aload 0, .iload 3, .iconst (1), .iadd, .iaload, .aload 0, .iload 3, .iconst (2), .iadd, .iaload, .aload 0, .iload 3, .iconst (3), .iadd, .iaload, .invokestatic 69, .aload 2, .aload 0, .iload 3, .iconst (1), .iadd, .iaload, .aload 0, .iload 3, .iconst (2), .iadd, .iaload, .aload 0, .iload 3, .iconst (3), .iadd, .iaload, .invokestatic 138, .if_icmp .eq (1434)] ls st g M Q := q_T_next rfl
theorem b_L_law_466 : q_T md d qP_L_law 466 [] ls st g M Q = q_T md d qP_L_law 468 [.iconst (0), .ret 1] ls st g M Q := q_T_next rfl
theorem b_L_law_468 : q_T md d qP_L_law 468 [] ls st g M Q = q_T md d qP_L_law 509 [.aload 1, .aload 0, .iload 3, .iconst (1), .iadd, .iaload, .aload 0, .iload 3, .iconst (2), .iadd, .iaload, .aload 0, .iload 3, .iconst (3), .iadd, .iaload, .invokestatic 70, .aload 2, .aload 0, .iload 3, .iconst (1), .iadd, .iaload, .aload 0, .iload 3, .iconst (2), .iadd, .iaload, .aload 0, .iload 3, .iconst (3), .iadd, .iaload, .invokestatic 139, .if_icmp .eq (1434)] ls st g M Q := q_T_next rfl
theorem b_L_law_509 : q_T md d qP_L_law 509 [] ls st g M Q = q_T md d qP_L_law 511 [.iconst (0), .ret 1] ls st g M Q := q_T_next rfl
theorem b_L_law_511 : q_T md d qP_L_law 511 [] ls st g M Q = q_T md d qP_L_law 552 [.aload 1, .aload 0, .iload 3, .iconst (1), .iadd, .iaload, .aload 0, .iload 3, .iconst (2), .iadd, .iaload, .aload 0, .iload 3, .iconst (3), .iadd, .iaload, .invokestatic 71, .aload 2, .aload 0, .iload 3, .iconst (1), .iadd, .iaload, .aload 0, .iload 3, .iconst (2), .iadd, .iaload, .aload 0, .iload 3, .iconst (3), .iadd, .iaload, .invokestatic 140, .if_icmp .eq (1434)] ls st g M Q := q_T_next rfl
theorem b_L_law_552 : q_T md d qP_L_law 552 [] ls st g M Q = q_T md d qP_L_law 554 [.iconst (0), .ret 1] ls st g M Q := q_T_next rfl
theorem b_L_law_554 : q_T md d qP_L_law 554 [] ls st g M Q = q_T md d qP_L_law 585 [.aload 1, .aload 0, .iload 3, .iconst (1), .iadd, .iaload, .aload 0, .iload 3, .iconst (2), .iadd, .iaload, .invokestatic 72, .aload 2, .aload 0, .iload 3, .iconst (1), .iadd, .iaload, .aload 0, .iload 3, .iconst (2), .iadd, .iaload, .invokestatic 145, .if_icmp .eq (1434)] ls st g M Q := q_T_next rfl
theorem b_L_law_585 : q_T md d qP_L_law 585 [] ls st g M Q = q_T md d qP_L_law 587 [.iconst (0), .ret 1] ls st g M Q := q_T_next rfl
theorem b_L_law_587 : q_T md d qP_L_law 587 [] ls st g M Q = q_T md d qP_L_law 628 [.aload 1, .aload 0, .iload 3, .iconst (1), .iadd, .iaload, .aload 0, .iload 3, .iconst (2), .iadd, .iaload, .aload 0, .iload 3, .iconst (3), .iadd, .iaload, .invokestatic 73, .aload 2, .aload 0, .iload 3, .iconst (1), .iadd, .iaload, .aload 0, .iload 3, .iconst (2), .iadd, .iaload, .aload 0, .iload 3, .iconst (3), .iadd, .iaload, .invokestatic 146, .if_icmp .eq (1434)] ls st g M Q := q_T_next rfl
theorem b_L_law_628 : q_T md d qP_L_law 628 [] ls st g M Q = q_T md d qP_L_law 630 [.iconst (0), .ret 1] ls st g M Q := q_T_next rfl
theorem b_L_law_630 : q_T md d qP_L_law 630 [] ls st g M Q = q_T md d qP_L_law 641 [.aload 1, .invokestatic 74, .aload 2, .invokestatic 152, .if_icmp .eq (1434)] ls st g M Q := q_T_next rfl
theorem b_L_law_641 : q_T md d qP_L_law 641 [] ls st g M Q = q_T md d qP_L_law 643 [.iconst (0), .ret 1] ls st g M Q := q_T_next rfl
theorem b_L_law_643 : q_T md d qP_L_law 643 [] ls st g M Q = q_T md d qP_L_law 674 [.aload 1, .aload 0, .iload 3, .iconst (1), .iadd, .iaload, .aload 0, .iload 3, .iconst (2), .iadd, .iaload, .invokestatic 75, .aload 2, .aload 0, .iload 3, .iconst (1), .iadd, .iaload, .aload 0, .iload 3, .iconst (2), .iadd, .iaload, .invokestatic 156, .if_icmp .eq (1434)] ls st g M Q := q_T_next rfl
theorem b_L_law_674 : q_T md d qP_L_law 674 [] ls st g M Q = q_T md d qP_L_law 676 [.iconst (0), .ret 1] ls st g M Q := q_T_next rfl
theorem b_L_law_676 : q_T md d qP_L_law 676 [] ls st g M Q = q_T md d qP_L_law 707 [.aload 1, .aload 0, .iload 3, .iconst (1), .iadd, .iaload, .aload 0, .iload 3, .iconst (2), .iadd, .iaload, .invokestatic 76, .aload 2, .aload 0, .iload 3, .iconst (1), .iadd, .iaload, .aload 0, .iload 3, .iconst (2), .iadd, .iaload, .invokestatic 158, .if_icmp .eq (1434)] ls st g M Q := q_T_next rfl
theorem b_L_law_707 : q_T md d qP_L_law 707 [] ls st g M Q = q_T md d qP_L_law 709 [.iconst (0), .ret 1] ls st g M Q := q_T_next rfl
theorem b_L_law_709 : q_T md d qP_L_law 709 [] ls st g M Q = q_T md d qP_L_law 730 [.aload 1, .aload 0, .iload 3, .iconst (1), .iadd, .iaload, .invokestatic 77, .aload 2, .aload 0, .iload 3, .iconst (1), .iadd, .iaload, .invokestatic 167, .if_icmp .eq (1434)] ls st g M Q := q_T_next rfl
theorem b_L_law_730 : q_T md d qP_L_law 730 [] ls st g M Q = q_T md d qP_L_law 732 [.iconst (0), .ret 1] ls st g M Q := q_T_next rfl
theorem b_L_law_732 : q_T md d qP_L_law 732 [] ls st g M Q = q_T md d qP_L_law 753 [.aload 1, .aload 0, .iload 3, .iconst (1), .iadd, .iaload, .invokestatic 78, .aload 2, .aload 0, .iload 3, .iconst (1), .iadd, .iaload, .invokestatic 171, .if_icmp .eq (1434)] ls st g M Q := q_T_next rfl
theorem b_L_law_753 : q_T md d qP_L_law 753 [] ls st g M Q = q_T md d qP_L_law 755 [.iconst (0), .ret 1] ls st g M Q := q_T_next rfl
theorem b_L_law_755 : q_T md d qP_L_law 755 [] ls st g M Q = q_T md d qP_L_law 776 [.aload 1, .aload 0, .iload 3, .iconst (1), .iadd, .iaload, .invokestatic 79, .aload 2, .aload 0, .iload 3, .iconst (1), .iadd, .iaload, .invokestatic 174, .if_icmp .eq (1434)] ls st g M Q := q_T_next rfl
theorem b_L_law_776 : q_T md d qP_L_law 776 [] ls st g M Q = q_T md d qP_L_law 778 [.iconst (0), .ret 1] ls st g M Q := q_T_next rfl
theorem b_L_law_778 : q_T md d qP_L_law 778 [] ls st g M Q = q_T md d qP_L_law 799 [.aload 1, .aload 0, .iload 3, .iconst (1), .iadd, .iaload, .invokestatic 80, .aload 2, .aload 0, .iload 3, .iconst (1), .iadd, .iaload, .invokestatic 175, .if_icmp .eq (1434)] ls st g M Q := q_T_next rfl
theorem b_L_law_799 : q_T md d qP_L_law 799 [] ls st g M Q = q_T md d qP_L_law 801 [.iconst (0), .ret 1] ls st g M Q := q_T_next rfl
theorem b_L_law_801 : q_T md d qP_L_law 801 [] ls st g M Q = q_T md d qP_L_law 832 [.aload 1, .aload 0, .iload 3, .iconst (1), .iadd, .iaload, .aload 0, .iload 3, .iconst (2), .iadd, .iaload, .invokestatic 81, .aload 2, .aload 0, .iload 3, .iconst (1), .iadd, .iaload, .aload 0, .iload 3, .iconst (2), .iadd, .iaload, .invokestatic 176, .if_icmp .eq (1434)] ls st g M Q := q_T_next rfl
theorem b_L_law_832 : q_T md d qP_L_law 832 [] ls st g M Q = q_T md d qP_L_law 834 [.iconst (0), .ret 1] ls st g M Q := q_T_next rfl
theorem b_L_law_834 : q_T md d qP_L_law 834 [] ls st g M Q = q_T md d qP_L_law 856 [.aload 1, .aload 0, .iload 3, .iconst (1), .iadd, .iaload, .invokestatic 82, .aload 2, .aload 0, .iload 3, .iconst (1), .iadd, .iaload, .invokestatic 178, .lcmp, .ifCond .eq (1434)] ls st g M Q := q_T_next rfl
theorem b_L_law_856 : q_T md d qP_L_law 856 [] ls st g M Q = q_T md d qP_L_law 858 [.iconst (0), .ret 1] ls st g M Q := q_T_next rfl
theorem b_L_law_858 : q_T md d qP_L_law 858 [] ls st g M Q = q_T md d qP_L_law 889 [.aload 1, .aload 0, .iload 3, .iconst (1), .iadd, .iaload, .aload 0, .iload 3, .iconst (2), .iadd, .iaload, .invokestatic 83, .aload 2, .aload 0, .iload 3, .iconst (1), .iadd, .iaload, .aload 0, .iload 3, .iconst (2), .iadd, .iaload, .invokestatic 182, .if_icmp .eq (1434)] ls st g M Q := q_T_next rfl
theorem b_L_law_889 : q_T md d qP_L_law 889 [] ls st g M Q = q_T md d qP_L_law 891 [.iconst (0), .ret 1] ls st g M Q := q_T_next rfl
theorem b_L_law_891 : q_T md d qP_L_law 891 [] ls st g M Q = q_T md d qP_L_law 932 [.aload 1, .aload 0, .iload 3, .iconst (1), .iadd, .iaload, .aload 0, .iload 3, .iconst (2), .iadd, .iaload, .aload 0, .iload 3, .iconst (3), .iadd, .iaload, .invokestatic 84, .aload 2, .aload 0, .iload 3, .iconst (1), .iadd, .iaload, .aload 0, .iload 3, .iconst (2), .iadd, .iaload, .aload 0, .iload 3, .iconst (3), .iadd, .iaload, .invokestatic 183, .if_icmp .eq (1434)] ls st g M Q := q_T_next rfl
theorem b_L_law_932 : q_T md d qP_L_law 932 [] ls st g M Q = q_T md d qP_L_law 934 [.iconst (0), .ret 1] ls st g M Q := q_T_next rfl
theorem b_L_law_934 : q_T md d qP_L_law 934 [] ls st g M Q = q_T md d qP_L_law 985 [.aload 1, .aload 0, .iload 3, .iconst (1), .iadd, .iaload, .aload 0, .iload 3, .iconst (2), .iadd, .iaload, .aload 0, .iload 3, .iconst (3), .iadd, .iaload, .aload 0, .iload 3, .iconst (4), .iadd, .iaload, .invokestatic 85, .aload 2, .aload 0, .iload 3, .iconst (1), .iadd, .iaload, .aload 0, .iload 3, .iconst (2), .iadd, .iaload, .aload 0, .iload 3, .iconst (3), .iadd, .iaload, .aload 0, .iload 3, .iconst (4), .iadd, .iaload, .invokestatic 184, .if_icmp .eq (1434)] ls st g M Q := q_T_next rfl
theorem b_L_law_985 : q_T md d qP_L_law 985 [] ls st g M Q = q_T md d qP_L_law 987 [.iconst (0), .ret 1] ls st g M Q := q_T_next rfl
theorem b_L_law_987 : q_T md d qP_L_law 987 [] ls st g M Q = q_T md d qP_L_law 1008 [.aload 1, .aload 0, .iload 3, .iconst (1), .iadd, .iaload, .invokestatic 86, .aload 2, .aload 0, .iload 3, .iconst (1), .iadd, .iaload, .invokestatic 185, .if_icmp .eq (1434)] ls st g M Q := q_T_next rfl
theorem b_L_law_1008 : q_T md d qP_L_law 1008 [] ls st g M Q = q_T md d qP_L_law 1010 [.iconst (0), .ret 1] ls st g M Q := q_T_next rfl
theorem b_L_law_1010 : q_T md d qP_L_law 1010 [] ls st g M Q = q_T md d qP_L_law 1041 [.aload 1, .aload 0, .iload 3, .iconst (1), .iadd, .iaload, .aload 0, .iload 3, .iconst (2), .iadd, .iaload, .invokestatic 87, .aload 2, .aload 0, .iload 3, .iconst (1), .iadd, .iaload, .aload 0, .iload 3, .iconst (2), .iadd, .iaload, .invokestatic 186, .if_icmp .eq (1434)] ls st g M Q := q_T_next rfl
theorem b_L_law_1041 : q_T md d qP_L_law 1041 [] ls st g M Q = q_T md d qP_L_law 1043 [.iconst (0), .ret 1] ls st g M Q := q_T_next rfl
theorem b_L_law_1043 : q_T md d qP_L_law 1043 [] ls st g M Q = q_T md d qP_L_law 1084 [.aload 1, .aload 0, .iload 3, .iconst (1), .iadd, .iaload, .aload 0, .iload 3, .iconst (2), .iadd, .iaload, .aload 0, .iload 3, .iconst (3), .iadd, .iaload, .invokestatic 88, .aload 2, .aload 0, .iload 3, .iconst (1), .iadd, .iaload, .aload 0, .iload 3, .iconst (2), .iadd, .iaload, .aload 0, .iload 3, .iconst (3), .iadd, .iaload, .invokestatic 187, .if_icmp .eq (1434)] ls st g M Q := q_T_next rfl
theorem b_L_law_1084 : q_T md d qP_L_law 1084 [] ls st g M Q = q_T md d qP_L_law 1086 [.iconst (0), .ret 1] ls st g M Q := q_T_next rfl
theorem b_L_law_1086 : q_T md d qP_L_law 1086 [] ls st g M Q = q_T md d qP_L_law 1117 [.aload 1, .aload 0, .iload 3, .iconst (1), .iadd, .iaload, .aload 0, .iload 3, .iconst (2), .iadd, .iaload, .invokestatic 89, .aload 2, .aload 0, .iload 3, .iconst (1), .iadd, .iaload, .aload 0, .iload 3, .iconst (2), .iadd, .iaload, .invokestatic 189, .if_icmp .eq (1434)] ls st g M Q := q_T_next rfl
theorem b_L_law_1117 : q_T md d qP_L_law 1117 [] ls st g M Q = q_T md d qP_L_law 1119 [.iconst (0), .ret 1] ls st g M Q := q_T_next rfl
theorem b_L_law_1119 : q_T md d qP_L_law 1119 [] ls st g M Q = q_T md d qP_L_law 1171 [.aload 1, .aload 0, .iload 3, .iconst (1), .iadd, .iaload, .aload 0, .iload 3, .iconst (2), .iadd, .iaload, .aload 0, .iload 3, .iconst (3), .iadd, .iaload, .aload 0, .iload 3, .iconst (4), .iadd, .iaload, .invokestatic 90, .aload 2, .aload 0, .iload 3, .iconst (1), .iadd, .iaload, .aload 0, .iload 3, .iconst (2), .iadd, .iaload, .aload 0, .iload 3, .iconst (3), .iadd, .iaload, .aload 0, .iload 3, .iconst (4), .iadd, .iaload, .invokestatic 190, .lcmp, .ifCond .eq (1434)] ls st g M Q := q_T_next rfl
theorem b_L_law_1171 : q_T md d qP_L_law 1171 [] ls st g M Q = q_T md d qP_L_law 1173 [.iconst (0), .ret 1] ls st g M Q := q_T_next rfl
theorem b_L_law_1173 : q_T md d qP_L_law 1173 [] ls st g M Q = q_T md d qP_L_law 1184 [.aload 1, .invokestatic 91, .aload 2, .invokestatic 191, .if_icmp .eq (1434)] ls st g M Q := q_T_next rfl
theorem b_L_law_1184 : q_T md d qP_L_law 1184 [] ls st g M Q = q_T md d qP_L_law 1186 [.iconst (0), .ret 1] ls st g M Q := q_T_next rfl
theorem b_L_law_1186 : q_T md d qP_L_law 1186 [] ls st g M Q = q_T md d qP_L_law 1197 [.aload 1, .invokestatic 92, .aload 2, .invokestatic 192, .if_icmp .eq (1434)] ls st g M Q := q_T_next rfl
theorem b_L_law_1197 : q_T md d qP_L_law 1197 [] ls st g M Q = q_T md d qP_L_law 1199 [.iconst (0), .ret 1] ls st g M Q := q_T_next rfl
theorem b_L_law_1199 : q_T md d qP_L_law 1199 [] ls st g M Q = q_T md d qP_L_law 1240 [.aload 1, .aload 0, .iload 3, .iconst (1), .iadd, .iaload, .aload 0, .iload 3, .iconst (2), .iadd, .iaload, .aload 0, .iload 3, .iconst (3), .iadd, .iaload, .invokestatic 93, .aload 2, .aload 0, .iload 3, .iconst (1), .iadd, .iaload, .aload 0, .iload 3, .iconst (2), .iadd, .iaload, .aload 0, .iload 3, .iconst (3), .iadd, .iaload, .invokestatic 193, .if_icmp .eq (1434)] ls st g M Q := q_T_next rfl
theorem b_L_law_1240 : q_T md d qP_L_law 1240 [] ls st g M Q = q_T md d qP_L_law 1242 [.iconst (0), .ret 1] ls st g M Q := q_T_next rfl
theorem b_L_law_1242 : q_T md d qP_L_law 1242 [] ls st g M Q = q_T md d qP_L_law 1283 [.aload 1, .aload 0, .iload 3, .iconst (1), .iadd, .iaload, .aload 0, .iload 3, .iconst (2), .iadd, .iaload, .aload 0, .iload 3, .iconst (3), .iadd, .iaload, .invokestatic 94, .aload 2, .aload 0, .iload 3, .iconst (1), .iadd, .iaload, .aload 0, .iload 3, .iconst (2), .iadd, .iaload, .aload 0, .iload 3, .iconst (3), .iadd, .iaload, .invokestatic 194, .if_icmp .eq (1434)] ls st g M Q := q_T_next rfl
theorem b_L_law_1283 : q_T md d qP_L_law 1283 [] ls st g M Q = q_T md d qP_L_law 1285 [.iconst (0), .ret 1] ls st g M Q := q_T_next rfl
theorem b_L_law_1285 : q_T md d qP_L_law 1285 [] ls st g M Q = q_T md d qP_L_law 1346 [.aload 1, .aload 0, .iload 3, .iconst (1), .iadd, .iaload, .aload 0, .iload 3, .iconst (2), .iadd, .iaload, .aload 0, .iload 3, .iconst (3), .iadd, .iaload, .aload 0, .iload 3, .iconst (4), .iadd, .iaload, .aload 0, .iload 3, .iconst (5), .iadd, .iaload, .invokestatic 95, .aload 2, .aload 0, .iload 3, .iconst (1), .iadd, .iaload, .aload 0, .iload 3, .iconst (2), .iadd, .iaload, .aload 0, .iload 3, .iconst (3), .iadd, .iaload, .aload 0, .iload 3, .iconst (4), .iadd, .iaload, .aload 0, .iload 3, .iconst (5), .iadd, .iaload, .invokestatic 195, .if_icmp .eq (1434)] ls st g M Q := q_T_next rfl
theorem b_L_law_1346 : q_T md d qP_L_law 1346 [] ls st g M Q = q_T md d qP_L_law 1348 [.iconst (0), .ret 1] ls st g M Q := q_T_next rfl
theorem b_L_law_1348 : q_T md d qP_L_law 1348 [] ls st g M Q = q_T md d qP_L_law 1399 [.aload 1, .aload 0, .iload 3, .iconst (1), .iadd, .iaload, .aload 0, .iload 3, .iconst (2), .iadd, .iaload, .aload 0, .iload 3, .iconst (3), .iadd, .iaload, .aload 0, .iload 3, .iconst (4), .iadd, .iaload, .invokestatic 96, .aload 2, .aload 0, .iload 3, .iconst (1), .iadd, .iaload, .aload 0, .iload 3, .iconst (2), .iadd, .iaload, .aload 0, .iload 3, .iconst (3), .iadd, .iaload, .aload 0, .iload 3, .iconst (4), .iadd, .iaload, .invokestatic 196, .if_icmp .eq (1434)] ls st g M Q := q_T_next rfl
theorem b_L_law_1399 : q_T md d qP_L_law 1399 [] ls st g M Q = q_T md d qP_L_law 1401 [.iconst (0), .ret 1] ls st g M Q := q_T_next rfl
theorem b_L_law_1401 : q_T md d qP_L_law 1401 [] ls st g M Q = q_T md d qP_L_law 1432 [.aload 1, .aload 0, .iload 3, .iconst (1), .iadd, .iaload, .aload 0, .iload 3, .iconst (2), .iadd, .iaload, .invokestatic 97, .aload 2, .aload 0, .iload 3, .iconst (1), .iadd, .iaload, .aload 0, .iload 3, .iconst (2), .iadd, .iaload, .invokestatic 198, .if_icmp .eq (1434)] ls st g M Q := q_T_next rfl
theorem b_L_law_1432 : q_T md d qP_L_law 1432 [] ls st g M Q = q_T md d qP_L_law 1434 [.iconst (0), .ret 1] ls st g M Q := q_T_next rfl
theorem b_L_law_1434 : q_T md d qP_L_law 1434 [] ls st g M Q = q_T md d qP_L_law 1440 [.iinc 3 (7), .goto (18)] ls st g M Q := q_T_next rfl
theorem b_L_law_1440 : q_T md d qP_L_law 1440 [] ls st g M Q = q_T md d qP_L_law 1442 [.iconst (1), .ret 1] ls st g M Q := q_T_next rfl
theorem x_loadScr {nx : Nat} {P : q_P} {ops : List Instr} {l : List q_V} : q_T md d P nx (.aload 0 :: ops) (qS 2 :: l) st g M Q = q_T md d P nx ops (qS 2 :: l) (qS 2 :: st) g M Q := q_T_next rfl
end LAWB
theorem m_len {L : Nat} {xs : Nat → Int32} : q_lk q_T0 (q_Bm L xs) 1000001 0 = L := rfl
theorem p1_end {Q : Option q_V → q_G → q_M → Prop} {g : q_G} {M : q_M} (h : M 1000001 0 = 7) (hq : Q (some (qI 1)) g M) : q_T 1 1000 qP_L_law 1434 [] [qS 2, qR 5 0, qR 6 100, qI 0] [] g M Q := by
  simp (disch := omega) only [b_L_law_1434, x_iinc_3, x_goto, b_L_law_18, x_loadI_3, x_loadR_0, x_loadS_0, x_slen, x_iconst, x_isub, y_ic_gt_t, y_ic_gt_f, b_L_law_1440, x_ret1_0, x_ret1_1, x_loadScr, q_isL_I, q_isL_R, q_isL_S, true_and, and_true, and_self, List.length_nil, List.length_cons, Nat.zero_add, x_K, x_Kn, Int.reduceToNat, Nat.reduceAdd, Nat.reduceLeDiff, Nat.zero_le, Int.reduceAdd, Int.reduceSub, Int.reduceNeg, q_add_e, q_sub_e, h]
  exact hq
set_option maxRecDepth 20000 in
theorem p1_law_0 {xs : Nat → Int32} {Q : Option q_V → q_G → q_M → Prop} (hq : ∀ M : q_M, Q (some (qI 1)) (124, 3394) M) : q_T 1 1000 qP_L_law 192 [] [qS 2, qR 5 0, qR 6 100, qI 0] [] (124, 3394) (q_lk q_T0 (q_Bm 7 xs)) Q := by
  have m7 : q_lk q_T0 (q_Bm 7 xs) 1000001 0 = 7 := rfl
  simp (disch := omega) only [b_L_law_192, x_loadR_1, x_loadS_1, x_loadR_0, x_loadS_0, x_loadI_3, x_iconst, x_iadd, y_sald, c_X5_count, x_loadR_2, x_loadS_2, c_X6_count, y_ic_eq_t, y_ic_eq_f, x_loadScr, q_isL_I, q_isL_R, q_isL_S, true_and, and_true, and_self, List.length_nil, List.length_cons, Nat.zero_add, x_K, x_Kn, Int.reduceToNat, Nat.reduceAdd, Nat.reduceLeDiff, Nat.zero_le, Int.reduceAdd, Int.reduceSub, Int.reduceNeg, q_add_e, q_sub_e, m7]
  refine p1c_count (fun r M hr hs => ?_)
  have m8 : M 1000001 0 = 7 := (hs 1000001 0 (by omega)).trans m7
  simp (disch := omega) only [b_L_law_192, x_loadR_1, x_loadS_1, x_loadR_0, x_loadS_0, x_loadI_3, x_iconst, x_iadd, y_sald, c_X5_count, x_loadR_2, x_loadS_2, c_X6_count, y_ic_eq_t, y_ic_eq_f, x_loadScr, q_isL_I, q_isL_R, q_isL_S, true_and, and_true, and_self, List.length_nil, List.length_cons, Nat.zero_add, x_K, x_Kn, Int.reduceToNat, Nat.reduceAdd, Nat.reduceLeDiff, Nat.zero_le, Int.reduceAdd, Int.reduceSub, Int.reduceNeg, q_add_e, q_sub_e, m8, q_same_get hs]
  refine p1m_count hs (fun r2 M2 hr2 hs2 => ?_)
  have e : r = r2 := hr.trans hr2.symm
  subst e
  have m9 : M2 1000001 0 = 7 := (hs2 1000001 0 (by omega)).trans m8
  simp (disch := omega) only [b_L_law_192, x_loadR_1, x_loadS_1, x_loadR_0, x_loadS_0, x_loadI_3, x_iconst, x_iadd, y_sald, c_X5_count, x_loadR_2, x_loadS_2, c_X6_count, y_ic_eq_t, y_ic_eq_f, x_loadScr, q_isL_I, q_isL_R, q_isL_S, true_and, and_true, and_self, List.length_nil, List.length_cons, Nat.zero_add, x_K, x_Kn, Int.reduceToNat, Nat.reduceAdd, Nat.reduceLeDiff, Nat.zero_le, Int.reduceAdd, Int.reduceSub, Int.reduceNeg, q_add_e, q_sub_e]
  exact p1_end m9 (hq _)
set_option maxRecDepth 20000 in
theorem p1_law_1 {xs : Nat → Int32} {Q : Option q_V → q_G → q_M → Prop} (hq : ∀ M : q_M, Q (some (qI 1)) (124, 3394) M) : q_T 1 1000 qP_L_law 215 [] [qS 2, qR 5 0, qR 6 100, qI 0] [] (124, 3394) (q_lk q_T0 (q_Bm 7 xs)) Q := by
  have m7 : q_lk q_T0 (q_Bm 7 xs) 1000001 0 = 7 := rfl
  simp (disch := omega) only [b_L_law_215, x_loadR_1, x_loadS_1, x_loadR_0, x_loadS_0, x_loadI_3, x_iconst, x_iadd, y_sald, c_X5_dawn, x_loadR_2, x_loadS_2, c_X6_dawn, y_ic_eq_t, y_ic_eq_f, x_loadScr, q_isL_I, q_isL_R, q_isL_S, true_and, and_true, and_self, List.length_nil, List.length_cons, Nat.zero_add, x_K, x_Kn, Int.reduceToNat, Nat.reduceAdd, Nat.reduceLeDiff, Nat.zero_le, Int.reduceAdd, Int.reduceSub, Int.reduceNeg, q_add_e, q_sub_e, m7]
  refine p1c_dawn (fun r M hr hs => ?_)
  have m8 : M 1000001 0 = 7 := (hs 1000001 0 (by omega)).trans m7
  simp (disch := omega) only [b_L_law_215, x_loadR_1, x_loadS_1, x_loadR_0, x_loadS_0, x_loadI_3, x_iconst, x_iadd, y_sald, c_X5_dawn, x_loadR_2, x_loadS_2, c_X6_dawn, y_ic_eq_t, y_ic_eq_f, x_loadScr, q_isL_I, q_isL_R, q_isL_S, true_and, and_true, and_self, List.length_nil, List.length_cons, Nat.zero_add, x_K, x_Kn, Int.reduceToNat, Nat.reduceAdd, Nat.reduceLeDiff, Nat.zero_le, Int.reduceAdd, Int.reduceSub, Int.reduceNeg, q_add_e, q_sub_e, m8, q_same_get hs]
  refine p1m_dawn hs (fun r2 M2 hr2 hs2 => ?_)
  have e : r = r2 := hr.trans hr2.symm
  subst e
  have m9 : M2 1000001 0 = 7 := (hs2 1000001 0 (by omega)).trans m8
  simp (disch := omega) only [b_L_law_215, x_loadR_1, x_loadS_1, x_loadR_0, x_loadS_0, x_loadI_3, x_iconst, x_iadd, y_sald, c_X5_dawn, x_loadR_2, x_loadS_2, c_X6_dawn, y_ic_eq_t, y_ic_eq_f, x_loadScr, q_isL_I, q_isL_R, q_isL_S, true_and, and_true, and_self, List.length_nil, List.length_cons, Nat.zero_add, x_K, x_Kn, Int.reduceToNat, Nat.reduceAdd, Nat.reduceLeDiff, Nat.zero_le, Int.reduceAdd, Int.reduceSub, Int.reduceNeg, q_add_e, q_sub_e]
  exact p1_end m9 (hq _)
set_option maxRecDepth 20000 in
theorem p1_law_2 {xs : Nat → Int32} {Q : Option q_V → q_G → q_M → Prop} (hq : ∀ M : q_M, Q (some (qI 1)) (124, 3394) M) : q_T 1 1000 qP_L_law 238 [] [qS 2, qR 5 0, qR 6 100, qI 0] [] (124, 3394) (q_lk q_T0 (q_Bm 7 xs)) Q := by
  have m7 : q_lk q_T0 (q_Bm 7 xs) 1000001 0 = 7 := rfl
  simp (disch := omega) only [b_L_law_238, x_loadR_1, x_loadS_1, x_loadR_0, x_loadS_0, x_loadI_3, x_iconst, x_iadd, y_sald, c_X5_build, x_loadR_2, x_loadS_2, c_X6_build, y_ic_eq_t, y_ic_eq_f, x_loadScr, q_isL_I, q_isL_R, q_isL_S, true_and, and_true, and_self, List.length_nil, List.length_cons, Nat.zero_add, x_K, x_Kn, Int.reduceToNat, Nat.reduceAdd, Nat.reduceLeDiff, Nat.zero_le, Int.reduceAdd, Int.reduceSub, Int.reduceNeg, q_add_e, q_sub_e, m7]
  refine p1c_build (fun r M hr hs => ?_)
  have m8 : M 1000001 0 = 7 := (hs 1000001 0 (by omega)).trans m7
  simp (disch := omega) only [b_L_law_238, x_loadR_1, x_loadS_1, x_loadR_0, x_loadS_0, x_loadI_3, x_iconst, x_iadd, y_sald, c_X5_build, x_loadR_2, x_loadS_2, c_X6_build, y_ic_eq_t, y_ic_eq_f, x_loadScr, q_isL_I, q_isL_R, q_isL_S, true_and, and_true, and_self, List.length_nil, List.length_cons, Nat.zero_add, x_K, x_Kn, Int.reduceToNat, Nat.reduceAdd, Nat.reduceLeDiff, Nat.zero_le, Int.reduceAdd, Int.reduceSub, Int.reduceNeg, q_add_e, q_sub_e, m8, q_same_get hs]
  refine p1m_build hs (fun r2 M2 hr2 hs2 => ?_)
  have e : r = r2 := hr.trans hr2.symm
  subst e
  have m9 : M2 1000001 0 = 7 := (hs2 1000001 0 (by omega)).trans m8
  simp (disch := omega) only [b_L_law_238, x_loadR_1, x_loadS_1, x_loadR_0, x_loadS_0, x_loadI_3, x_iconst, x_iadd, y_sald, c_X5_build, x_loadR_2, x_loadS_2, c_X6_build, y_ic_eq_t, y_ic_eq_f, x_loadScr, q_isL_I, q_isL_R, q_isL_S, true_and, and_true, and_self, List.length_nil, List.length_cons, Nat.zero_add, x_K, x_Kn, Int.reduceToNat, Nat.reduceAdd, Nat.reduceLeDiff, Nat.zero_le, Int.reduceAdd, Int.reduceSub, Int.reduceNeg, q_add_e, q_sub_e]
  exact p1_end m9 (hq _)
set_option maxRecDepth 20000 in
theorem p1_law_3 {xs : Nat → Int32} {Q : Option q_V → q_G → q_M → Prop} (hq : ∀ M : q_M, Q (some (qI 1)) (124, 3394) M) : q_T 1 1000 qP_L_law 281 [] [qS 2, qR 5 0, qR 6 100, qI 0] [] (124, 3394) (q_lk q_T0 (q_Bm 7 xs)) Q := by
  have m7 : q_lk q_T0 (q_Bm 7 xs) 1000001 0 = 7 := rfl
  simp (disch := omega) only [b_L_law_281, x_loadR_1, x_loadS_1, x_loadR_0, x_loadS_0, x_loadI_3, x_iconst, x_iadd, y_sald, c_X5_site, x_loadR_2, x_loadS_2, c_X6_site, y_ic_eq_t, y_ic_eq_f, x_loadScr, q_isL_I, q_isL_R, q_isL_S, true_and, and_true, and_self, List.length_nil, List.length_cons, Nat.zero_add, x_K, x_Kn, Int.reduceToNat, Nat.reduceAdd, Nat.reduceLeDiff, Nat.zero_le, Int.reduceAdd, Int.reduceSub, Int.reduceNeg, q_add_e, q_sub_e, m7]
  refine p1c_site (fun r M hr hs => ?_)
  have m8 : M 1000001 0 = 7 := (hs 1000001 0 (by omega)).trans m7
  simp (disch := omega) only [b_L_law_281, x_loadR_1, x_loadS_1, x_loadR_0, x_loadS_0, x_loadI_3, x_iconst, x_iadd, y_sald, c_X5_site, x_loadR_2, x_loadS_2, c_X6_site, y_ic_eq_t, y_ic_eq_f, x_loadScr, q_isL_I, q_isL_R, q_isL_S, true_and, and_true, and_self, List.length_nil, List.length_cons, Nat.zero_add, x_K, x_Kn, Int.reduceToNat, Nat.reduceAdd, Nat.reduceLeDiff, Nat.zero_le, Int.reduceAdd, Int.reduceSub, Int.reduceNeg, q_add_e, q_sub_e, m8, q_same_get hs]
  refine p1m_site hs (fun r2 M2 hr2 hs2 => ?_)
  have e : r = r2 := hr.trans hr2.symm
  subst e
  have m9 : M2 1000001 0 = 7 := (hs2 1000001 0 (by omega)).trans m8
  simp (disch := omega) only [b_L_law_281, x_loadR_1, x_loadS_1, x_loadR_0, x_loadS_0, x_loadI_3, x_iconst, x_iadd, y_sald, c_X5_site, x_loadR_2, x_loadS_2, c_X6_site, y_ic_eq_t, y_ic_eq_f, x_loadScr, q_isL_I, q_isL_R, q_isL_S, true_and, and_true, and_self, List.length_nil, List.length_cons, Nat.zero_add, x_K, x_Kn, Int.reduceToNat, Nat.reduceAdd, Nat.reduceLeDiff, Nat.zero_le, Int.reduceAdd, Int.reduceSub, Int.reduceNeg, q_add_e, q_sub_e]
  exact p1_end m9 (hq _)
set_option maxRecDepth 20000 in
theorem p1_law_4 {xs : Nat → Int32} {Q : Option q_V → q_G → q_M → Prop} (hq : ∀ M : q_M, Q (some (qI 1)) (124, 3394) M) : q_T 1 1000 qP_L_law 314 [] [qS 2, qR 5 0, qR 6 100, qI 0] [] (124, 3394) (q_lk q_T0 (q_Bm 7 xs)) Q := by
  have m7 : q_lk q_T0 (q_Bm 7 xs) 1000001 0 = 7 := rfl
  simp (disch := omega) only [b_L_law_314, x_loadR_1, x_loadS_1, x_loadR_0, x_loadS_0, x_loadI_3, x_iconst, x_iadd, y_sald, c_X5_feed, x_loadR_2, x_loadS_2, b_L_law_367, c_X6_feed, y_ic_eq_t, y_ic_eq_f, x_loadScr, q_isL_I, q_isL_R, q_isL_S, true_and, and_true, and_self, List.length_nil, List.length_cons, Nat.zero_add, x_K, x_Kn, Int.reduceToNat, Nat.reduceAdd, Nat.reduceLeDiff, Nat.zero_le, Int.reduceAdd, Int.reduceSub, Int.reduceNeg, q_add_e, q_sub_e, m7]
  refine p1c_feed (fun r M hr hs => ?_)
  have m8 : M 1000001 0 = 7 := (hs 1000001 0 (by omega)).trans m7
  simp (disch := omega) only [b_L_law_314, x_loadR_1, x_loadS_1, x_loadR_0, x_loadS_0, x_loadI_3, x_iconst, x_iadd, y_sald, c_X5_feed, x_loadR_2, x_loadS_2, b_L_law_367, c_X6_feed, y_ic_eq_t, y_ic_eq_f, x_loadScr, q_isL_I, q_isL_R, q_isL_S, true_and, and_true, and_self, List.length_nil, List.length_cons, Nat.zero_add, x_K, x_Kn, Int.reduceToNat, Nat.reduceAdd, Nat.reduceLeDiff, Nat.zero_le, Int.reduceAdd, Int.reduceSub, Int.reduceNeg, q_add_e, q_sub_e, m8, q_same_get hs]
  refine p1m_feed hs (fun r2 M2 hr2 hs2 => ?_)
  have e : r = r2 := hr.trans hr2.symm
  subst e
  have m9 : M2 1000001 0 = 7 := (hs2 1000001 0 (by omega)).trans m8
  simp (disch := omega) only [b_L_law_314, x_loadR_1, x_loadS_1, x_loadR_0, x_loadS_0, x_loadI_3, x_iconst, x_iadd, y_sald, c_X5_feed, x_loadR_2, x_loadS_2, b_L_law_367, c_X6_feed, y_ic_eq_t, y_ic_eq_f, x_loadScr, q_isL_I, q_isL_R, q_isL_S, true_and, and_true, and_self, List.length_nil, List.length_cons, Nat.zero_add, x_K, x_Kn, Int.reduceToNat, Nat.reduceAdd, Nat.reduceLeDiff, Nat.zero_le, Int.reduceAdd, Int.reduceSub, Int.reduceNeg, q_add_e, q_sub_e]
  exact p1_end m9 (hq _)
set_option maxRecDepth 20000 in
theorem p1_law_5 {xs : Nat → Int32} {Q : Option q_V → q_G → q_M → Prop} (hq : ∀ M : q_M, Q (some (qI 1)) (124, 3394) M) : q_T 1 1000 qP_L_law 389 [] [qS 2, qR 5 0, qR 6 100, qI 0] [] (124, 3394) (q_lk q_T0 (q_Bm 7 xs)) Q := by
  have m7 : q_lk q_T0 (q_Bm 7 xs) 1000001 0 = 7 := rfl
  simp (disch := omega) only [b_L_law_389, x_loadR_1, x_loadS_1, c_X5_text, x_loadR_2, x_loadS_2, c_X6_text, y_ic_eq_t, y_ic_eq_f, x_loadScr, q_isL_I, q_isL_R, q_isL_S, true_and, and_true, and_self, List.length_nil, List.length_cons, Nat.zero_add, x_K, x_Kn, Int.reduceToNat, Nat.reduceAdd, Nat.reduceLeDiff, Nat.zero_le, Int.reduceAdd, Int.reduceSub, Int.reduceNeg, q_add_e, q_sub_e, m7]
  refine p1c_text (fun r M hr hs => ?_)
  have m8 : M 1000001 0 = 7 := (hs 1000001 0 (by omega)).trans m7
  simp (disch := omega) only [b_L_law_389, x_loadR_1, x_loadS_1, c_X5_text, x_loadR_2, x_loadS_2, c_X6_text, y_ic_eq_t, y_ic_eq_f, x_loadScr, q_isL_I, q_isL_R, q_isL_S, true_and, and_true, and_self, List.length_nil, List.length_cons, Nat.zero_add, x_K, x_Kn, Int.reduceToNat, Nat.reduceAdd, Nat.reduceLeDiff, Nat.zero_le, Int.reduceAdd, Int.reduceSub, Int.reduceNeg, q_add_e, q_sub_e, m8, q_same_get hs]
  refine p1m_text hs (fun r2 M2 hr2 hs2 => ?_)
  have e : r = r2 := hr.trans hr2.symm
  subst e
  have m9 : M2 1000001 0 = 7 := (hs2 1000001 0 (by omega)).trans m8
  simp (disch := omega) only [b_L_law_389, x_loadR_1, x_loadS_1, c_X5_text, x_loadR_2, x_loadS_2, c_X6_text, y_ic_eq_t, y_ic_eq_f, x_loadScr, q_isL_I, q_isL_R, q_isL_S, true_and, and_true, and_self, List.length_nil, List.length_cons, Nat.zero_add, x_K, x_Kn, Int.reduceToNat, Nat.reduceAdd, Nat.reduceLeDiff, Nat.zero_le, Int.reduceAdd, Int.reduceSub, Int.reduceNeg, q_add_e, q_sub_e]
  exact p1_end m9 (hq _)
set_option maxRecDepth 20000 in
theorem p1_law_6 {xs : Nat → Int32} {Q : Option q_V → q_G → q_M → Prop} (hq : ∀ M : q_M, Q (some (qI 1)) (124, 3394) M) : q_T 1 1000 qP_L_law 402 [] [qS 2, qR 5 0, qR 6 100, qI 0] [] (124, 3394) (q_lk q_T0 (q_Bm 7 xs)) Q := by
  have m7 : q_lk q_T0 (q_Bm 7 xs) 1000001 0 = 7 := rfl
  simp (disch := omega) only [b_L_law_402, x_loadR_1, x_loadS_1, x_loadR_0, x_loadS_0, x_loadI_3, x_iconst, x_iadd, y_sald, c_X5_force, x_loadR_2, x_loadS_2, c_X6_force, y_ic_eq_t, y_ic_eq_f, x_loadScr, q_isL_I, q_isL_R, q_isL_S, true_and, and_true, and_self, List.length_nil, List.length_cons, Nat.zero_add, x_K, x_Kn, Int.reduceToNat, Nat.reduceAdd, Nat.reduceLeDiff, Nat.zero_le, Int.reduceAdd, Int.reduceSub, Int.reduceNeg, q_add_e, q_sub_e, m7]
  refine p1c_force (fun r M hr hs => ?_)
  have m8 : M 1000001 0 = 7 := (hs 1000001 0 (by omega)).trans m7
  simp (disch := omega) only [b_L_law_402, x_loadR_1, x_loadS_1, x_loadR_0, x_loadS_0, x_loadI_3, x_iconst, x_iadd, y_sald, c_X5_force, x_loadR_2, x_loadS_2, c_X6_force, y_ic_eq_t, y_ic_eq_f, x_loadScr, q_isL_I, q_isL_R, q_isL_S, true_and, and_true, and_self, List.length_nil, List.length_cons, Nat.zero_add, x_K, x_Kn, Int.reduceToNat, Nat.reduceAdd, Nat.reduceLeDiff, Nat.zero_le, Int.reduceAdd, Int.reduceSub, Int.reduceNeg, q_add_e, q_sub_e, m8, q_same_get hs]
  refine p1m_force hs (fun r2 M2 hr2 hs2 => ?_)
  have e : r = r2 := hr.trans hr2.symm
  subst e
  have m9 : M2 1000001 0 = 7 := (hs2 1000001 0 (by omega)).trans m8
  simp (disch := omega) only [b_L_law_402, x_loadR_1, x_loadS_1, x_loadR_0, x_loadS_0, x_loadI_3, x_iconst, x_iadd, y_sald, c_X5_force, x_loadR_2, x_loadS_2, c_X6_force, y_ic_eq_t, y_ic_eq_f, x_loadScr, q_isL_I, q_isL_R, q_isL_S, true_and, and_true, and_self, List.length_nil, List.length_cons, Nat.zero_add, x_K, x_Kn, Int.reduceToNat, Nat.reduceAdd, Nat.reduceLeDiff, Nat.zero_le, Int.reduceAdd, Int.reduceSub, Int.reduceNeg, q_add_e, q_sub_e]
  exact p1_end m9 (hq _)
set_option maxRecDepth 20000 in
theorem p1_law_7 {xs : Nat → Int32} {Q : Option q_V → q_G → q_M → Prop} (hq : ∀ M : q_M, Q (some (qI 1)) (124, 3394) M) : q_T 1 1000 qP_L_law 425 [] [qS 2, qR 5 0, qR 6 100, qI 0] [] (124, 3394) (q_lk q_T0 (q_Bm 7 xs)) Q := by
  have m7 : q_lk q_T0 (q_Bm 7 xs) 1000001 0 = 7 := rfl
  simp (disch := omega) only [b_L_law_425, x_loadR_1, x_loadS_1, x_loadR_0, x_loadS_0, x_loadI_3, x_iconst, x_iadd, y_sald, c_X5_asks, x_loadR_2, x_loadS_2, c_X6_asks, y_ic_eq_t, y_ic_eq_f, x_loadScr, q_isL_I, q_isL_R, q_isL_S, true_and, and_true, and_self, List.length_nil, List.length_cons, Nat.zero_add, x_K, x_Kn, Int.reduceToNat, Nat.reduceAdd, Nat.reduceLeDiff, Nat.zero_le, Int.reduceAdd, Int.reduceSub, Int.reduceNeg, q_add_e, q_sub_e, m7]
  refine p1c_asks (fun r M hr hs => ?_)
  have m8 : M 1000001 0 = 7 := (hs 1000001 0 (by omega)).trans m7
  simp (disch := omega) only [b_L_law_425, x_loadR_1, x_loadS_1, x_loadR_0, x_loadS_0, x_loadI_3, x_iconst, x_iadd, y_sald, c_X5_asks, x_loadR_2, x_loadS_2, c_X6_asks, y_ic_eq_t, y_ic_eq_f, x_loadScr, q_isL_I, q_isL_R, q_isL_S, true_and, and_true, and_self, List.length_nil, List.length_cons, Nat.zero_add, x_K, x_Kn, Int.reduceToNat, Nat.reduceAdd, Nat.reduceLeDiff, Nat.zero_le, Int.reduceAdd, Int.reduceSub, Int.reduceNeg, q_add_e, q_sub_e, m8, q_same_get hs]
  refine p1m_asks hs (fun r2 M2 hr2 hs2 => ?_)
  have e : r = r2 := hr.trans hr2.symm
  subst e
  have m9 : M2 1000001 0 = 7 := (hs2 1000001 0 (by omega)).trans m8
  simp (disch := omega) only [b_L_law_425, x_loadR_1, x_loadS_1, x_loadR_0, x_loadS_0, x_loadI_3, x_iconst, x_iadd, y_sald, c_X5_asks, x_loadR_2, x_loadS_2, c_X6_asks, y_ic_eq_t, y_ic_eq_f, x_loadScr, q_isL_I, q_isL_R, q_isL_S, true_and, and_true, and_self, List.length_nil, List.length_cons, Nat.zero_add, x_K, x_Kn, Int.reduceToNat, Nat.reduceAdd, Nat.reduceLeDiff, Nat.zero_le, Int.reduceAdd, Int.reduceSub, Int.reduceNeg, q_add_e, q_sub_e]
  exact p1_end m9 (hq _)
set_option maxRecDepth 20000 in
theorem p1_law_8 {xs : Nat → Int32} {Q : Option q_V → q_G → q_M → Prop} (hq : ∀ M : q_M, Q (some (qI 1)) (124, 3394) M) : q_T 1 1000 qP_L_law 468 [] [qS 2, qR 5 0, qR 6 100, qI 0] [] (124, 3394) (q_lk q_T0 (q_Bm 7 xs)) Q := by
  have m7 : q_lk q_T0 (q_Bm 7 xs) 1000001 0 = 7 := rfl
  simp (disch := omega) only [b_L_law_468, x_loadR_1, x_loadS_1, x_loadR_0, x_loadS_0, x_loadI_3, x_iconst, x_iadd, y_sald, c_X5_stone, x_loadR_2, x_loadS_2, c_X6_stone, y_ic_eq_t, y_ic_eq_f, x_loadScr, q_isL_I, q_isL_R, q_isL_S, true_and, and_true, and_self, List.length_nil, List.length_cons, Nat.zero_add, x_K, x_Kn, Int.reduceToNat, Nat.reduceAdd, Nat.reduceLeDiff, Nat.zero_le, Int.reduceAdd, Int.reduceSub, Int.reduceNeg, q_add_e, q_sub_e, m7]
  refine p1c_stone (fun r M hr hs => ?_)
  have m8 : M 1000001 0 = 7 := (hs 1000001 0 (by omega)).trans m7
  simp (disch := omega) only [b_L_law_468, x_loadR_1, x_loadS_1, x_loadR_0, x_loadS_0, x_loadI_3, x_iconst, x_iadd, y_sald, c_X5_stone, x_loadR_2, x_loadS_2, c_X6_stone, y_ic_eq_t, y_ic_eq_f, x_loadScr, q_isL_I, q_isL_R, q_isL_S, true_and, and_true, and_self, List.length_nil, List.length_cons, Nat.zero_add, x_K, x_Kn, Int.reduceToNat, Nat.reduceAdd, Nat.reduceLeDiff, Nat.zero_le, Int.reduceAdd, Int.reduceSub, Int.reduceNeg, q_add_e, q_sub_e, m8, q_same_get hs]
  refine p1m_stone hs (fun r2 M2 hr2 hs2 => ?_)
  have e : r = r2 := hr.trans hr2.symm
  subst e
  have m9 : M2 1000001 0 = 7 := (hs2 1000001 0 (by omega)).trans m8
  simp (disch := omega) only [b_L_law_468, x_loadR_1, x_loadS_1, x_loadR_0, x_loadS_0, x_loadI_3, x_iconst, x_iadd, y_sald, c_X5_stone, x_loadR_2, x_loadS_2, c_X6_stone, y_ic_eq_t, y_ic_eq_f, x_loadScr, q_isL_I, q_isL_R, q_isL_S, true_and, and_true, and_self, List.length_nil, List.length_cons, Nat.zero_add, x_K, x_Kn, Int.reduceToNat, Nat.reduceAdd, Nat.reduceLeDiff, Nat.zero_le, Int.reduceAdd, Int.reduceSub, Int.reduceNeg, q_add_e, q_sub_e]
  exact p1_end m9 (hq _)
set_option maxRecDepth 20000 in
theorem p1_law_9 {xs : Nat → Int32} {Q : Option q_V → q_G → q_M → Prop} (hq : ∀ M : q_M, Q (some (qI 1)) (124, 3394) M) : q_T 1 1000 qP_L_law 511 [] [qS 2, qR 5 0, qR 6 100, qI 0] [] (124, 3394) (q_lk q_T0 (q_Bm 7 xs)) Q := by
  have m7 : q_lk q_T0 (q_Bm 7 xs) 1000001 0 = 7 := rfl
  simp (disch := omega) only [b_L_law_511, x_loadR_1, x_loadS_1, x_loadR_0, x_loadS_0, x_loadI_3, x_iconst, x_iadd, y_sald, c_X5_put, x_loadR_2, x_loadS_2, c_X6_put, y_ic_eq_t, y_ic_eq_f, x_loadScr, q_isL_I, q_isL_R, q_isL_S, true_and, and_true, and_self, List.length_nil, List.length_cons, Nat.zero_add, x_K, x_Kn, Int.reduceToNat, Nat.reduceAdd, Nat.reduceLeDiff, Nat.zero_le, Int.reduceAdd, Int.reduceSub, Int.reduceNeg, q_add_e, q_sub_e, m7]
  refine p1c_put (fun r M hr hs => ?_)
  have m8 : M 1000001 0 = 7 := (hs 1000001 0 (by omega)).trans m7
  simp (disch := omega) only [b_L_law_511, x_loadR_1, x_loadS_1, x_loadR_0, x_loadS_0, x_loadI_3, x_iconst, x_iadd, y_sald, c_X5_put, x_loadR_2, x_loadS_2, c_X6_put, y_ic_eq_t, y_ic_eq_f, x_loadScr, q_isL_I, q_isL_R, q_isL_S, true_and, and_true, and_self, List.length_nil, List.length_cons, Nat.zero_add, x_K, x_Kn, Int.reduceToNat, Nat.reduceAdd, Nat.reduceLeDiff, Nat.zero_le, Int.reduceAdd, Int.reduceSub, Int.reduceNeg, q_add_e, q_sub_e, m8, q_same_get hs]
  refine p1m_put hs (fun r2 M2 hr2 hs2 => ?_)
  have e : r = r2 := hr.trans hr2.symm
  subst e
  have m9 : M2 1000001 0 = 7 := (hs2 1000001 0 (by omega)).trans m8
  simp (disch := omega) only [b_L_law_511, x_loadR_1, x_loadS_1, x_loadR_0, x_loadS_0, x_loadI_3, x_iconst, x_iadd, y_sald, c_X5_put, x_loadR_2, x_loadS_2, c_X6_put, y_ic_eq_t, y_ic_eq_f, x_loadScr, q_isL_I, q_isL_R, q_isL_S, true_and, and_true, and_self, List.length_nil, List.length_cons, Nat.zero_add, x_K, x_Kn, Int.reduceToNat, Nat.reduceAdd, Nat.reduceLeDiff, Nat.zero_le, Int.reduceAdd, Int.reduceSub, Int.reduceNeg, q_add_e, q_sub_e]
  exact p1_end m9 (hq _)
set_option maxRecDepth 20000 in
theorem p1_law_10 {xs : Nat → Int32} {Q : Option q_V → q_G → q_M → Prop} (hq : ∀ M : q_M, Q (some (qI 1)) (124, 3394) M) : q_T 1 1000 qP_L_law 554 [] [qS 2, qR 5 0, qR 6 100, qI 0] [] (124, 3394) (q_lk q_T0 (q_Bm 7 xs)) Q := by
  have m7 : q_lk q_T0 (q_Bm 7 xs) 1000001 0 = 7 := rfl
  simp (disch := omega) only [b_L_law_554, x_loadR_1, x_loadS_1, x_loadR_0, x_loadS_0, x_loadI_3, x_iconst, x_iadd, y_sald, c_X5_told, x_loadR_2, x_loadS_2, c_X6_told, y_ic_eq_t, y_ic_eq_f, x_loadScr, q_isL_I, q_isL_R, q_isL_S, true_and, and_true, and_self, List.length_nil, List.length_cons, Nat.zero_add, x_K, x_Kn, Int.reduceToNat, Nat.reduceAdd, Nat.reduceLeDiff, Nat.zero_le, Int.reduceAdd, Int.reduceSub, Int.reduceNeg, q_add_e, q_sub_e, m7]
  refine p1c_told (fun r M hr hs => ?_)
  have m8 : M 1000001 0 = 7 := (hs 1000001 0 (by omega)).trans m7
  simp (disch := omega) only [b_L_law_554, x_loadR_1, x_loadS_1, x_loadR_0, x_loadS_0, x_loadI_3, x_iconst, x_iadd, y_sald, c_X5_told, x_loadR_2, x_loadS_2, c_X6_told, y_ic_eq_t, y_ic_eq_f, x_loadScr, q_isL_I, q_isL_R, q_isL_S, true_and, and_true, and_self, List.length_nil, List.length_cons, Nat.zero_add, x_K, x_Kn, Int.reduceToNat, Nat.reduceAdd, Nat.reduceLeDiff, Nat.zero_le, Int.reduceAdd, Int.reduceSub, Int.reduceNeg, q_add_e, q_sub_e, m8, q_same_get hs]
  refine p1m_told hs (fun r2 M2 hr2 hs2 => ?_)
  have e : r = r2 := hr.trans hr2.symm
  subst e
  have m9 : M2 1000001 0 = 7 := (hs2 1000001 0 (by omega)).trans m8
  simp (disch := omega) only [b_L_law_554, x_loadR_1, x_loadS_1, x_loadR_0, x_loadS_0, x_loadI_3, x_iconst, x_iadd, y_sald, c_X5_told, x_loadR_2, x_loadS_2, c_X6_told, y_ic_eq_t, y_ic_eq_f, x_loadScr, q_isL_I, q_isL_R, q_isL_S, true_and, and_true, and_self, List.length_nil, List.length_cons, Nat.zero_add, x_K, x_Kn, Int.reduceToNat, Nat.reduceAdd, Nat.reduceLeDiff, Nat.zero_le, Int.reduceAdd, Int.reduceSub, Int.reduceNeg, q_add_e, q_sub_e]
  exact p1_end m9 (hq _)
set_option maxRecDepth 20000 in
theorem p1_law_11 {xs : Nat → Int32} {Q : Option q_V → q_G → q_M → Prop} (hq : ∀ M : q_M, Q (some (qI 1)) (124, 3394) M) : q_T 1 1000 qP_L_law 587 [] [qS 2, qR 5 0, qR 6 100, qI 0] [] (124, 3394) (q_lk q_T0 (q_Bm 7 xs)) Q := by
  have m7 : q_lk q_T0 (q_Bm 7 xs) 1000001 0 = 7 := rfl
  simp (disch := omega) only [b_L_law_587, x_loadR_1, x_loadS_1, x_loadR_0, x_loadS_0, x_loadI_3, x_iconst, x_iadd, y_sald, c_X5_love, x_loadR_2, x_loadS_2, c_X6_love, y_ic_eq_t, y_ic_eq_f, x_loadScr, q_isL_I, q_isL_R, q_isL_S, true_and, and_true, and_self, List.length_nil, List.length_cons, Nat.zero_add, x_K, x_Kn, Int.reduceToNat, Nat.reduceAdd, Nat.reduceLeDiff, Nat.zero_le, Int.reduceAdd, Int.reduceSub, Int.reduceNeg, q_add_e, q_sub_e, m7]
  refine p1c_love (fun r M hr hs => ?_)
  have m8 : M 1000001 0 = 7 := (hs 1000001 0 (by omega)).trans m7
  simp (disch := omega) only [b_L_law_587, x_loadR_1, x_loadS_1, x_loadR_0, x_loadS_0, x_loadI_3, x_iconst, x_iadd, y_sald, c_X5_love, x_loadR_2, x_loadS_2, c_X6_love, y_ic_eq_t, y_ic_eq_f, x_loadScr, q_isL_I, q_isL_R, q_isL_S, true_and, and_true, and_self, List.length_nil, List.length_cons, Nat.zero_add, x_K, x_Kn, Int.reduceToNat, Nat.reduceAdd, Nat.reduceLeDiff, Nat.zero_le, Int.reduceAdd, Int.reduceSub, Int.reduceNeg, q_add_e, q_sub_e, m8, q_same_get hs]
  refine p1m_love hs (fun r2 M2 hr2 hs2 => ?_)
  have e : r = r2 := hr.trans hr2.symm
  subst e
  have m9 : M2 1000001 0 = 7 := (hs2 1000001 0 (by omega)).trans m8
  simp (disch := omega) only [b_L_law_587, x_loadR_1, x_loadS_1, x_loadR_0, x_loadS_0, x_loadI_3, x_iconst, x_iadd, y_sald, c_X5_love, x_loadR_2, x_loadS_2, c_X6_love, y_ic_eq_t, y_ic_eq_f, x_loadScr, q_isL_I, q_isL_R, q_isL_S, true_and, and_true, and_self, List.length_nil, List.length_cons, Nat.zero_add, x_K, x_Kn, Int.reduceToNat, Nat.reduceAdd, Nat.reduceLeDiff, Nat.zero_le, Int.reduceAdd, Int.reduceSub, Int.reduceNeg, q_add_e, q_sub_e]
  exact p1_end m9 (hq _)
set_option maxRecDepth 20000 in
theorem p1_law_12 {xs : Nat → Int32} {Q : Option q_V → q_G → q_M → Prop} (hq : ∀ M : q_M, Q (some (qI 1)) (124, 3394) M) : q_T 1 1000 qP_L_law 630 [] [qS 2, qR 5 0, qR 6 100, qI 0] [] (124, 3394) (q_lk q_T0 (q_Bm 7 xs)) Q := by
  have m7 : q_lk q_T0 (q_Bm 7 xs) 1000001 0 = 7 := rfl
  simp (disch := omega) only [b_L_law_630, x_loadR_1, x_loadS_1, c_X5_year, x_loadR_2, x_loadS_2, c_X6_year, y_ic_eq_t, y_ic_eq_f, x_loadScr, q_isL_I, q_isL_R, q_isL_S, true_and, and_true, and_self, List.length_nil, List.length_cons, Nat.zero_add, x_K, x_Kn, Int.reduceToNat, Nat.reduceAdd, Nat.reduceLeDiff, Nat.zero_le, Int.reduceAdd, Int.reduceSub, Int.reduceNeg, q_add_e, q_sub_e, m7]
  refine p1c_year (fun r M hr hs => ?_)
  have m8 : M 1000001 0 = 7 := (hs 1000001 0 (by omega)).trans m7
  simp (disch := omega) only [b_L_law_630, x_loadR_1, x_loadS_1, c_X5_year, x_loadR_2, x_loadS_2, c_X6_year, y_ic_eq_t, y_ic_eq_f, x_loadScr, q_isL_I, q_isL_R, q_isL_S, true_and, and_true, and_self, List.length_nil, List.length_cons, Nat.zero_add, x_K, x_Kn, Int.reduceToNat, Nat.reduceAdd, Nat.reduceLeDiff, Nat.zero_le, Int.reduceAdd, Int.reduceSub, Int.reduceNeg, q_add_e, q_sub_e, m8, q_same_get hs]
  refine p1m_year hs (fun r2 M2 hr2 hs2 => ?_)
  have e : r = r2 := hr.trans hr2.symm
  subst e
  have m9 : M2 1000001 0 = 7 := (hs2 1000001 0 (by omega)).trans m8
  simp (disch := omega) only [b_L_law_630, x_loadR_1, x_loadS_1, c_X5_year, x_loadR_2, x_loadS_2, c_X6_year, y_ic_eq_t, y_ic_eq_f, x_loadScr, q_isL_I, q_isL_R, q_isL_S, true_and, and_true, and_self, List.length_nil, List.length_cons, Nat.zero_add, x_K, x_Kn, Int.reduceToNat, Nat.reduceAdd, Nat.reduceLeDiff, Nat.zero_le, Int.reduceAdd, Int.reduceSub, Int.reduceNeg, q_add_e, q_sub_e]
  exact p1_end m9 (hq _)
set_option maxRecDepth 20000 in
theorem p1_law_13 {xs : Nat → Int32} {Q : Option q_V → q_G → q_M → Prop} (hq : ∀ M : q_M, Q (some (qI 1)) (124, 3394) M) : q_T 1 1000 qP_L_law 643 [] [qS 2, qR 5 0, qR 6 100, qI 0] [] (124, 3394) (q_lk q_T0 (q_Bm 7 xs)) Q := by
  have m7 : q_lk q_T0 (q_Bm 7 xs) 1000001 0 = 7 := rfl
  simp (disch := omega) only [b_L_law_643, x_loadR_1, x_loadS_1, x_loadR_0, x_loadS_0, x_loadI_3, x_iconst, x_iadd, y_sald, c_X5_run, x_loadR_2, x_loadS_2, c_X6_run, y_ic_eq_t, y_ic_eq_f, x_loadScr, q_isL_I, q_isL_R, q_isL_S, true_and, and_true, and_self, List.length_nil, List.length_cons, Nat.zero_add, x_K, x_Kn, Int.reduceToNat, Nat.reduceAdd, Nat.reduceLeDiff, Nat.zero_le, Int.reduceAdd, Int.reduceSub, Int.reduceNeg, q_add_e, q_sub_e, m7]
  refine p1c_run (fun r M hr hs => ?_)
  have m8 : M 1000001 0 = 7 := (hs 1000001 0 (by omega)).trans m7
  simp (disch := omega) only [b_L_law_643, x_loadR_1, x_loadS_1, x_loadR_0, x_loadS_0, x_loadI_3, x_iconst, x_iadd, y_sald, c_X5_run, x_loadR_2, x_loadS_2, c_X6_run, y_ic_eq_t, y_ic_eq_f, x_loadScr, q_isL_I, q_isL_R, q_isL_S, true_and, and_true, and_self, List.length_nil, List.length_cons, Nat.zero_add, x_K, x_Kn, Int.reduceToNat, Nat.reduceAdd, Nat.reduceLeDiff, Nat.zero_le, Int.reduceAdd, Int.reduceSub, Int.reduceNeg, q_add_e, q_sub_e, m8, q_same_get hs]
  refine p1m_run hs (fun r2 M2 hr2 hs2 => ?_)
  have e : r = r2 := hr.trans hr2.symm
  subst e
  have m9 : M2 1000001 0 = 7 := (hs2 1000001 0 (by omega)).trans m8
  simp (disch := omega) only [b_L_law_643, x_loadR_1, x_loadS_1, x_loadR_0, x_loadS_0, x_loadI_3, x_iconst, x_iadd, y_sald, c_X5_run, x_loadR_2, x_loadS_2, c_X6_run, y_ic_eq_t, y_ic_eq_f, x_loadScr, q_isL_I, q_isL_R, q_isL_S, true_and, and_true, and_self, List.length_nil, List.length_cons, Nat.zero_add, x_K, x_Kn, Int.reduceToNat, Nat.reduceAdd, Nat.reduceLeDiff, Nat.zero_le, Int.reduceAdd, Int.reduceSub, Int.reduceNeg, q_add_e, q_sub_e]
  exact p1_end m9 (hq _)
set_option maxRecDepth 20000 in
theorem p1_law_14 {xs : Nat → Int32} {Q : Option q_V → q_G → q_M → Prop} (hq : ∀ M : q_M, Q (some (qI 1)) (124, 3394) M) : q_T 1 1000 qP_L_law 676 [] [qS 2, qR 5 0, qR 6 100, qI 0] [] (124, 3394) (q_lk q_T0 (q_Bm 7 xs)) Q := by
  have m7 : q_lk q_T0 (q_Bm 7 xs) 1000001 0 = 7 := rfl
  simp (disch := omega) only [b_L_law_676, x_loadR_1, x_loadS_1, x_loadR_0, x_loadS_0, x_loadI_3, x_iconst, x_iadd, y_sald, c_X5_when, x_loadR_2, x_loadS_2, c_X6_when, y_ic_eq_t, y_ic_eq_f, x_loadScr, q_isL_I, q_isL_R, q_isL_S, true_and, and_true, and_self, List.length_nil, List.length_cons, Nat.zero_add, x_K, x_Kn, Int.reduceToNat, Nat.reduceAdd, Nat.reduceLeDiff, Nat.zero_le, Int.reduceAdd, Int.reduceSub, Int.reduceNeg, q_add_e, q_sub_e, m7]
  refine p1c_when (fun r M hr hs => ?_)
  have m8 : M 1000001 0 = 7 := (hs 1000001 0 (by omega)).trans m7
  simp (disch := omega) only [b_L_law_676, x_loadR_1, x_loadS_1, x_loadR_0, x_loadS_0, x_loadI_3, x_iconst, x_iadd, y_sald, c_X5_when, x_loadR_2, x_loadS_2, c_X6_when, y_ic_eq_t, y_ic_eq_f, x_loadScr, q_isL_I, q_isL_R, q_isL_S, true_and, and_true, and_self, List.length_nil, List.length_cons, Nat.zero_add, x_K, x_Kn, Int.reduceToNat, Nat.reduceAdd, Nat.reduceLeDiff, Nat.zero_le, Int.reduceAdd, Int.reduceSub, Int.reduceNeg, q_add_e, q_sub_e, m8, q_same_get hs]
  refine p1m_when hs (fun r2 M2 hr2 hs2 => ?_)
  have e : r = r2 := hr.trans hr2.symm
  subst e
  have m9 : M2 1000001 0 = 7 := (hs2 1000001 0 (by omega)).trans m8
  simp (disch := omega) only [b_L_law_676, x_loadR_1, x_loadS_1, x_loadR_0, x_loadS_0, x_loadI_3, x_iconst, x_iadd, y_sald, c_X5_when, x_loadR_2, x_loadS_2, c_X6_when, y_ic_eq_t, y_ic_eq_f, x_loadScr, q_isL_I, q_isL_R, q_isL_S, true_and, and_true, and_self, List.length_nil, List.length_cons, Nat.zero_add, x_K, x_Kn, Int.reduceToNat, Nat.reduceAdd, Nat.reduceLeDiff, Nat.zero_le, Int.reduceAdd, Int.reduceSub, Int.reduceNeg, q_add_e, q_sub_e]
  exact p1_end m9 (hq _)
set_option maxRecDepth 20000 in
theorem p1_law_15 {xs : Nat → Int32} {Q : Option q_V → q_G → q_M → Prop} (hq : ∀ M : q_M, Q (some (qI 1)) (124, 3394) M) : q_T 1 1000 qP_L_law 709 [] [qS 2, qR 5 0, qR 6 100, qI 0] [] (124, 3394) (q_lk q_T0 (q_Bm 7 xs)) Q := by
  have m7 : q_lk q_T0 (q_Bm 7 xs) 1000001 0 = 7 := rfl
  simp (disch := omega) only [b_L_law_709, x_loadR_1, x_loadS_1, x_loadR_0, x_loadS_0, x_loadI_3, x_iconst, x_iadd, y_sald, c_X5_peace, x_loadR_2, x_loadS_2, c_X6_peace, y_ic_eq_t, y_ic_eq_f, x_loadScr, q_isL_I, q_isL_R, q_isL_S, true_and, and_true, and_self, List.length_nil, List.length_cons, Nat.zero_add, x_K, x_Kn, Int.reduceToNat, Nat.reduceAdd, Nat.reduceLeDiff, Nat.zero_le, Int.reduceAdd, Int.reduceSub, Int.reduceNeg, q_add_e, q_sub_e, m7]
  refine p1c_peace (fun r M hr hs => ?_)
  have m8 : M 1000001 0 = 7 := (hs 1000001 0 (by omega)).trans m7
  simp (disch := omega) only [b_L_law_709, x_loadR_1, x_loadS_1, x_loadR_0, x_loadS_0, x_loadI_3, x_iconst, x_iadd, y_sald, c_X5_peace, x_loadR_2, x_loadS_2, c_X6_peace, y_ic_eq_t, y_ic_eq_f, x_loadScr, q_isL_I, q_isL_R, q_isL_S, true_and, and_true, and_self, List.length_nil, List.length_cons, Nat.zero_add, x_K, x_Kn, Int.reduceToNat, Nat.reduceAdd, Nat.reduceLeDiff, Nat.zero_le, Int.reduceAdd, Int.reduceSub, Int.reduceNeg, q_add_e, q_sub_e, m8, q_same_get hs]
  refine p1m_peace hs (fun r2 M2 hr2 hs2 => ?_)
  have e : r = r2 := hr.trans hr2.symm
  subst e
  have m9 : M2 1000001 0 = 7 := (hs2 1000001 0 (by omega)).trans m8
  simp (disch := omega) only [b_L_law_709, x_loadR_1, x_loadS_1, x_loadR_0, x_loadS_0, x_loadI_3, x_iconst, x_iadd, y_sald, c_X5_peace, x_loadR_2, x_loadS_2, c_X6_peace, y_ic_eq_t, y_ic_eq_f, x_loadScr, q_isL_I, q_isL_R, q_isL_S, true_and, and_true, and_self, List.length_nil, List.length_cons, Nat.zero_add, x_K, x_Kn, Int.reduceToNat, Nat.reduceAdd, Nat.reduceLeDiff, Nat.zero_le, Int.reduceAdd, Int.reduceSub, Int.reduceNeg, q_add_e, q_sub_e]
  exact p1_end m9 (hq _)
set_option maxRecDepth 20000 in
theorem p1_law_16 {xs : Nat → Int32} {Q : Option q_V → q_G → q_M → Prop} (hq : ∀ M : q_M, Q (some (qI 1)) (124, 3394) M) : q_T 1 1000 qP_L_law 732 [] [qS 2, qR 5 0, qR 6 100, qI 0] [] (124, 3394) (q_lk q_T0 (q_Bm 7 xs)) Q := by
  have m7 : q_lk q_T0 (q_Bm 7 xs) 1000001 0 = 7 := rfl
  simp (disch := omega) only [b_L_law_732, x_loadR_1, x_loadS_1, x_loadR_0, x_loadS_0, x_loadI_3, x_iconst, x_iadd, y_sald, c_X5_court, x_loadR_2, x_loadS_2, c_X6_court, y_ic_eq_t, y_ic_eq_f, x_loadScr, q_isL_I, q_isL_R, q_isL_S, true_and, and_true, and_self, List.length_nil, List.length_cons, Nat.zero_add, x_K, x_Kn, Int.reduceToNat, Nat.reduceAdd, Nat.reduceLeDiff, Nat.zero_le, Int.reduceAdd, Int.reduceSub, Int.reduceNeg, q_add_e, q_sub_e, m7]
  refine p1c_court (fun r M hr hs => ?_)
  have m8 : M 1000001 0 = 7 := (hs 1000001 0 (by omega)).trans m7
  simp (disch := omega) only [b_L_law_732, x_loadR_1, x_loadS_1, x_loadR_0, x_loadS_0, x_loadI_3, x_iconst, x_iadd, y_sald, c_X5_court, x_loadR_2, x_loadS_2, c_X6_court, y_ic_eq_t, y_ic_eq_f, x_loadScr, q_isL_I, q_isL_R, q_isL_S, true_and, and_true, and_self, List.length_nil, List.length_cons, Nat.zero_add, x_K, x_Kn, Int.reduceToNat, Nat.reduceAdd, Nat.reduceLeDiff, Nat.zero_le, Int.reduceAdd, Int.reduceSub, Int.reduceNeg, q_add_e, q_sub_e, m8, q_same_get hs]
  refine p1m_court hs (fun r2 M2 hr2 hs2 => ?_)
  have e : r = r2 := hr.trans hr2.symm
  subst e
  have m9 : M2 1000001 0 = 7 := (hs2 1000001 0 (by omega)).trans m8
  simp (disch := omega) only [b_L_law_732, x_loadR_1, x_loadS_1, x_loadR_0, x_loadS_0, x_loadI_3, x_iconst, x_iadd, y_sald, c_X5_court, x_loadR_2, x_loadS_2, c_X6_court, y_ic_eq_t, y_ic_eq_f, x_loadScr, q_isL_I, q_isL_R, q_isL_S, true_and, and_true, and_self, List.length_nil, List.length_cons, Nat.zero_add, x_K, x_Kn, Int.reduceToNat, Nat.reduceAdd, Nat.reduceLeDiff, Nat.zero_le, Int.reduceAdd, Int.reduceSub, Int.reduceNeg, q_add_e, q_sub_e]
  exact p1_end m9 (hq _)
set_option maxRecDepth 20000 in
theorem p1_law_17 {xs : Nat → Int32} {Q : Option q_V → q_G → q_M → Prop} (hq : ∀ M : q_M, Q (some (qI 1)) (124, 3394) M) : q_T 1 1000 qP_L_law 755 [] [qS 2, qR 5 0, qR 6 100, qI 0] [] (124, 3394) (q_lk q_T0 (q_Bm 7 xs)) Q := by
  have m7 : q_lk q_T0 (q_Bm 7 xs) 1000001 0 = 7 := rfl
  simp (disch := omega) only [b_L_law_755, x_loadR_1, x_loadS_1, x_loadR_0, x_loadS_0, x_loadI_3, x_iconst, x_iadd, y_sald, c_X5_all, x_loadR_2, x_loadS_2, c_X6_all, y_ic_eq_t, y_ic_eq_f, x_loadScr, q_isL_I, q_isL_R, q_isL_S, true_and, and_true, and_self, List.length_nil, List.length_cons, Nat.zero_add, x_K, x_Kn, Int.reduceToNat, Nat.reduceAdd, Nat.reduceLeDiff, Nat.zero_le, Int.reduceAdd, Int.reduceSub, Int.reduceNeg, q_add_e, q_sub_e, m7]
  refine p1c_all (fun r M hr hs => ?_)
  have m8 : M 1000001 0 = 7 := (hs 1000001 0 (by omega)).trans m7
  simp (disch := omega) only [b_L_law_755, x_loadR_1, x_loadS_1, x_loadR_0, x_loadS_0, x_loadI_3, x_iconst, x_iadd, y_sald, c_X5_all, x_loadR_2, x_loadS_2, c_X6_all, y_ic_eq_t, y_ic_eq_f, x_loadScr, q_isL_I, q_isL_R, q_isL_S, true_and, and_true, and_self, List.length_nil, List.length_cons, Nat.zero_add, x_K, x_Kn, Int.reduceToNat, Nat.reduceAdd, Nat.reduceLeDiff, Nat.zero_le, Int.reduceAdd, Int.reduceSub, Int.reduceNeg, q_add_e, q_sub_e, m8, q_same_get hs]
  refine p1m_all hs (fun r2 M2 hr2 hs2 => ?_)
  have e : r = r2 := hr.trans hr2.symm
  subst e
  have m9 : M2 1000001 0 = 7 := (hs2 1000001 0 (by omega)).trans m8
  simp (disch := omega) only [b_L_law_755, x_loadR_1, x_loadS_1, x_loadR_0, x_loadS_0, x_loadI_3, x_iconst, x_iadd, y_sald, c_X5_all, x_loadR_2, x_loadS_2, c_X6_all, y_ic_eq_t, y_ic_eq_f, x_loadScr, q_isL_I, q_isL_R, q_isL_S, true_and, and_true, and_self, List.length_nil, List.length_cons, Nat.zero_add, x_K, x_Kn, Int.reduceToNat, Nat.reduceAdd, Nat.reduceLeDiff, Nat.zero_le, Int.reduceAdd, Int.reduceSub, Int.reduceNeg, q_add_e, q_sub_e]
  exact p1_end m9 (hq _)
set_option maxRecDepth 20000 in
theorem p1_law_18 {xs : Nat → Int32} {Q : Option q_V → q_G → q_M → Prop} (hq : ∀ M : q_M, Q (some (qI 1)) (124, 3394) M) : q_T 1 1000 qP_L_law 778 [] [qS 2, qR 5 0, qR 6 100, qI 0] [] (124, 3394) (q_lk q_T0 (q_Bm 7 xs)) Q := by
  have m7 : q_lk q_T0 (q_Bm 7 xs) 1000001 0 = 7 := rfl
  simp (disch := omega) only [b_L_law_778, x_loadR_1, x_loadS_1, x_loadR_0, x_loadS_0, x_loadI_3, x_iconst, x_iadd, y_sald, c_X5_annex, x_loadR_2, x_loadS_2, c_X6_annex, y_ic_eq_t, y_ic_eq_f, x_loadScr, q_isL_I, q_isL_R, q_isL_S, true_and, and_true, and_self, List.length_nil, List.length_cons, Nat.zero_add, x_K, x_Kn, Int.reduceToNat, Nat.reduceAdd, Nat.reduceLeDiff, Nat.zero_le, Int.reduceAdd, Int.reduceSub, Int.reduceNeg, q_add_e, q_sub_e, m7]
  refine p1c_annex (fun r M hr hs => ?_)
  have m8 : M 1000001 0 = 7 := (hs 1000001 0 (by omega)).trans m7
  simp (disch := omega) only [b_L_law_778, x_loadR_1, x_loadS_1, x_loadR_0, x_loadS_0, x_loadI_3, x_iconst, x_iadd, y_sald, c_X5_annex, x_loadR_2, x_loadS_2, c_X6_annex, y_ic_eq_t, y_ic_eq_f, x_loadScr, q_isL_I, q_isL_R, q_isL_S, true_and, and_true, and_self, List.length_nil, List.length_cons, Nat.zero_add, x_K, x_Kn, Int.reduceToNat, Nat.reduceAdd, Nat.reduceLeDiff, Nat.zero_le, Int.reduceAdd, Int.reduceSub, Int.reduceNeg, q_add_e, q_sub_e, m8, q_same_get hs]
  refine p1m_annex hs (fun r2 M2 hr2 hs2 => ?_)
  have e : r = r2 := hr.trans hr2.symm
  subst e
  have m9 : M2 1000001 0 = 7 := (hs2 1000001 0 (by omega)).trans m8
  simp (disch := omega) only [b_L_law_778, x_loadR_1, x_loadS_1, x_loadR_0, x_loadS_0, x_loadI_3, x_iconst, x_iadd, y_sald, c_X5_annex, x_loadR_2, x_loadS_2, c_X6_annex, y_ic_eq_t, y_ic_eq_f, x_loadScr, q_isL_I, q_isL_R, q_isL_S, true_and, and_true, and_self, List.length_nil, List.length_cons, Nat.zero_add, x_K, x_Kn, Int.reduceToNat, Nat.reduceAdd, Nat.reduceLeDiff, Nat.zero_le, Int.reduceAdd, Int.reduceSub, Int.reduceNeg, q_add_e, q_sub_e]
  exact p1_end m9 (hq _)
set_option maxRecDepth 20000 in
theorem p1_law_19 {xs : Nat → Int32} {Q : Option q_V → q_G → q_M → Prop} (hq : ∀ M : q_M, Q (some (qI 1)) (124, 3394) M) : q_T 1 1000 qP_L_law 801 [] [qS 2, qR 5 0, qR 6 100, qI 0] [] (124, 3394) (q_lk q_T0 (q_Bm 7 xs)) Q := by
  have m7 : q_lk q_T0 (q_Bm 7 xs) 1000001 0 = 7 := rfl
  simp (disch := omega) only [b_L_law_801, x_loadR_1, x_loadS_1, x_loadR_0, x_loadS_0, x_loadI_3, x_iconst, x_iadd, y_sald, c_X5_cart, x_loadR_2, x_loadS_2, c_X6_cart, y_ic_eq_t, y_ic_eq_f, x_loadScr, q_isL_I, q_isL_R, q_isL_S, true_and, and_true, and_self, List.length_nil, List.length_cons, Nat.zero_add, x_K, x_Kn, Int.reduceToNat, Nat.reduceAdd, Nat.reduceLeDiff, Nat.zero_le, Int.reduceAdd, Int.reduceSub, Int.reduceNeg, q_add_e, q_sub_e, m7]
  refine p1c_cart (fun r M hr hs => ?_)
  have m8 : M 1000001 0 = 7 := (hs 1000001 0 (by omega)).trans m7
  simp (disch := omega) only [b_L_law_801, x_loadR_1, x_loadS_1, x_loadR_0, x_loadS_0, x_loadI_3, x_iconst, x_iadd, y_sald, c_X5_cart, x_loadR_2, x_loadS_2, c_X6_cart, y_ic_eq_t, y_ic_eq_f, x_loadScr, q_isL_I, q_isL_R, q_isL_S, true_and, and_true, and_self, List.length_nil, List.length_cons, Nat.zero_add, x_K, x_Kn, Int.reduceToNat, Nat.reduceAdd, Nat.reduceLeDiff, Nat.zero_le, Int.reduceAdd, Int.reduceSub, Int.reduceNeg, q_add_e, q_sub_e, m8, q_same_get hs]
  refine p1m_cart hs (fun r2 M2 hr2 hs2 => ?_)
  have e : r = r2 := hr.trans hr2.symm
  subst e
  have m9 : M2 1000001 0 = 7 := (hs2 1000001 0 (by omega)).trans m8
  simp (disch := omega) only [b_L_law_801, x_loadR_1, x_loadS_1, x_loadR_0, x_loadS_0, x_loadI_3, x_iconst, x_iadd, y_sald, c_X5_cart, x_loadR_2, x_loadS_2, c_X6_cart, y_ic_eq_t, y_ic_eq_f, x_loadScr, q_isL_I, q_isL_R, q_isL_S, true_and, and_true, and_self, List.length_nil, List.length_cons, Nat.zero_add, x_K, x_Kn, Int.reduceToNat, Nat.reduceAdd, Nat.reduceLeDiff, Nat.zero_le, Int.reduceAdd, Int.reduceSub, Int.reduceNeg, q_add_e, q_sub_e]
  exact p1_end m9 (hq _)
set_option maxRecDepth 20000 in
theorem p1_law_20 {xs : Nat → Int32} {Q : Option q_V → q_G → q_M → Prop} (hq : ∀ M : q_M, Q (some (qI 1)) (124, 3394) M) : q_T 1 1000 qP_L_law 834 [] [qS 2, qR 5 0, qR 6 100, qI 0] [] (124, 3394) (q_lk q_T0 (q_Bm 7 xs)) Q := by
  have m7 : q_lk q_T0 (q_Bm 7 xs) 1000001 0 = 7 := rfl
  simp (disch := omega) only [b_L_law_834, x_loadR_1, x_loadS_1, x_loadR_0, x_loadS_0, x_loadI_3, x_iconst, x_iadd, y_sald, c_X5_share, x_loadR_2, x_loadS_2, c_X6_share, x_lcmp, y_if_eq_t, y_if_eq_f, x_loadScr, q_isL_I, q_isL_R, q_isL_S, true_and, and_true, and_self, List.length_nil, List.length_cons, Nat.zero_add, x_K, x_Kn, Int.reduceToNat, Nat.reduceAdd, Nat.reduceLeDiff, Nat.zero_le, Int.reduceAdd, Int.reduceSub, Int.reduceNeg, q_add_e, q_sub_e, m7]
  refine p1c_share (fun r M hr hs => ?_)
  have m8 : M 1000001 0 = 7 := (hs 1000001 0 (by omega)).trans m7
  simp (disch := omega) only [b_L_law_834, x_loadR_1, x_loadS_1, x_loadR_0, x_loadS_0, x_loadI_3, x_iconst, x_iadd, y_sald, c_X5_share, x_loadR_2, x_loadS_2, c_X6_share, x_lcmp, y_if_eq_t, y_if_eq_f, x_loadScr, q_isL_I, q_isL_R, q_isL_S, true_and, and_true, and_self, List.length_nil, List.length_cons, Nat.zero_add, x_K, x_Kn, Int.reduceToNat, Nat.reduceAdd, Nat.reduceLeDiff, Nat.zero_le, Int.reduceAdd, Int.reduceSub, Int.reduceNeg, q_add_e, q_sub_e, m8, q_same_get hs]
  refine p1m_share hs (fun r2 M2 hr2 hs2 => ?_)
  have e : r = r2 := hr.trans hr2.symm
  subst e
  have m9 : M2 1000001 0 = 7 := (hs2 1000001 0 (by omega)).trans m8
  simp (disch := omega) only [b_L_law_834, x_loadR_1, x_loadS_1, x_loadR_0, x_loadS_0, x_loadI_3, x_iconst, x_iadd, y_sald, c_X5_share, x_loadR_2, x_loadS_2, c_X6_share, x_lcmp, y_if_eq_t, y_if_eq_f, x_loadScr, q_isL_I, q_isL_R, q_isL_S, true_and, and_true, and_self, List.length_nil, List.length_cons, Nat.zero_add, x_K, x_Kn, Int.reduceToNat, Nat.reduceAdd, Nat.reduceLeDiff, Nat.zero_le, Int.reduceAdd, Int.reduceSub, Int.reduceNeg, q_add_e, q_sub_e, q_lcmp_eq]
  exact p1_end m9 (hq _)
set_option maxRecDepth 20000 in
theorem p1_law_21 {xs : Nat → Int32} {Q : Option q_V → q_G → q_M → Prop} (hq : ∀ M : q_M, Q (some (qI 1)) (124, 3394) M) : q_T 1 1000 qP_L_law 858 [] [qS 2, qR 5 0, qR 6 100, qI 0] [] (124, 3394) (q_lk q_T0 (q_Bm 7 xs)) Q := by
  have m7 : q_lk q_T0 (q_Bm 7 xs) 1000001 0 = 7 := rfl
  simp (disch := omega) only [b_L_law_858, x_loadR_1, x_loadS_1, x_loadR_0, x_loadS_0, x_loadI_3, x_iconst, x_iadd, y_sald, c_X5_judge, x_loadR_2, x_loadS_2, c_X6_judge, y_ic_eq_t, y_ic_eq_f, x_loadScr, q_isL_I, q_isL_R, q_isL_S, true_and, and_true, and_self, List.length_nil, List.length_cons, Nat.zero_add, x_K, x_Kn, Int.reduceToNat, Nat.reduceAdd, Nat.reduceLeDiff, Nat.zero_le, Int.reduceAdd, Int.reduceSub, Int.reduceNeg, q_add_e, q_sub_e, m7]
  refine p1c_judge (fun r M hr hs => ?_)
  have m8 : M 1000001 0 = 7 := (hs 1000001 0 (by omega)).trans m7
  simp (disch := omega) only [b_L_law_858, x_loadR_1, x_loadS_1, x_loadR_0, x_loadS_0, x_loadI_3, x_iconst, x_iadd, y_sald, c_X5_judge, x_loadR_2, x_loadS_2, c_X6_judge, y_ic_eq_t, y_ic_eq_f, x_loadScr, q_isL_I, q_isL_R, q_isL_S, true_and, and_true, and_self, List.length_nil, List.length_cons, Nat.zero_add, x_K, x_Kn, Int.reduceToNat, Nat.reduceAdd, Nat.reduceLeDiff, Nat.zero_le, Int.reduceAdd, Int.reduceSub, Int.reduceNeg, q_add_e, q_sub_e, m8, q_same_get hs]
  refine p1m_judge hs (fun r2 M2 hr2 hs2 => ?_)
  have e : r = r2 := hr.trans hr2.symm
  subst e
  have m9 : M2 1000001 0 = 7 := (hs2 1000001 0 (by omega)).trans m8
  simp (disch := omega) only [b_L_law_858, x_loadR_1, x_loadS_1, x_loadR_0, x_loadS_0, x_loadI_3, x_iconst, x_iadd, y_sald, c_X5_judge, x_loadR_2, x_loadS_2, c_X6_judge, y_ic_eq_t, y_ic_eq_f, x_loadScr, q_isL_I, q_isL_R, q_isL_S, true_and, and_true, and_self, List.length_nil, List.length_cons, Nat.zero_add, x_K, x_Kn, Int.reduceToNat, Nat.reduceAdd, Nat.reduceLeDiff, Nat.zero_le, Int.reduceAdd, Int.reduceSub, Int.reduceNeg, q_add_e, q_sub_e]
  exact p1_end m9 (hq _)
set_option maxRecDepth 20000 in
theorem p1_law_22 {xs : Nat → Int32} {Q : Option q_V → q_G → q_M → Prop} (hq : ∀ M : q_M, Q (some (qI 1)) (124, 3394) M) : q_T 1 1000 qP_L_law 891 [] [qS 2, qR 5 0, qR 6 100, qI 0] [] (124, 3394) (q_lk q_T0 (q_Bm 7 xs)) Q := by
  have m7 : q_lk q_T0 (q_Bm 7 xs) 1000001 0 = 7 := rfl
  simp (disch := omega) only [b_L_law_891, x_loadR_1, x_loadS_1, x_loadR_0, x_loadS_0, x_loadI_3, x_iconst, x_iadd, y_sald, c_X5_kinds, x_loadR_2, x_loadS_2, c_X6_kinds, y_ic_eq_t, y_ic_eq_f, x_loadScr, q_isL_I, q_isL_R, q_isL_S, true_and, and_true, and_self, List.length_nil, List.length_cons, Nat.zero_add, x_K, x_Kn, Int.reduceToNat, Nat.reduceAdd, Nat.reduceLeDiff, Nat.zero_le, Int.reduceAdd, Int.reduceSub, Int.reduceNeg, q_add_e, q_sub_e, m7]
  refine p1c_kinds (fun r M hr hs => ?_)
  have m8 : M 1000001 0 = 7 := (hs 1000001 0 (by omega)).trans m7
  simp (disch := omega) only [b_L_law_891, x_loadR_1, x_loadS_1, x_loadR_0, x_loadS_0, x_loadI_3, x_iconst, x_iadd, y_sald, c_X5_kinds, x_loadR_2, x_loadS_2, c_X6_kinds, y_ic_eq_t, y_ic_eq_f, x_loadScr, q_isL_I, q_isL_R, q_isL_S, true_and, and_true, and_self, List.length_nil, List.length_cons, Nat.zero_add, x_K, x_Kn, Int.reduceToNat, Nat.reduceAdd, Nat.reduceLeDiff, Nat.zero_le, Int.reduceAdd, Int.reduceSub, Int.reduceNeg, q_add_e, q_sub_e, m8, q_same_get hs]
  refine p1m_kinds hs (fun r2 M2 hr2 hs2 => ?_)
  have e : r = r2 := hr.trans hr2.symm
  subst e
  have m9 : M2 1000001 0 = 7 := (hs2 1000001 0 (by omega)).trans m8
  simp (disch := omega) only [b_L_law_891, x_loadR_1, x_loadS_1, x_loadR_0, x_loadS_0, x_loadI_3, x_iconst, x_iadd, y_sald, c_X5_kinds, x_loadR_2, x_loadS_2, c_X6_kinds, y_ic_eq_t, y_ic_eq_f, x_loadScr, q_isL_I, q_isL_R, q_isL_S, true_and, and_true, and_self, List.length_nil, List.length_cons, Nat.zero_add, x_K, x_Kn, Int.reduceToNat, Nat.reduceAdd, Nat.reduceLeDiff, Nat.zero_le, Int.reduceAdd, Int.reduceSub, Int.reduceNeg, q_add_e, q_sub_e]
  exact p1_end m9 (hq _)
set_option maxRecDepth 20000 in
theorem p1_law_23 {xs : Nat → Int32} {Q : Option q_V → q_G → q_M → Prop} (hq : ∀ M : q_M, Q (some (qI 1)) (124, 3394) M) : q_T 1 1000 qP_L_law 934 [] [qS 2, qR 5 0, qR 6 100, qI 0] [] (124, 3394) (q_lk q_T0 (q_Bm 7 xs)) Q := by
  have m7 : q_lk q_T0 (q_Bm 7 xs) 1000001 0 = 7 := rfl
  simp (disch := omega) only [b_L_law_934, x_loadR_1, x_loadS_1, x_loadR_0, x_loadS_0, x_loadI_3, x_iconst, x_iadd, y_sald, c_X5_states, x_loadR_2, x_loadS_2, c_X6_states, y_ic_eq_t, y_ic_eq_f, x_loadScr, q_isL_I, q_isL_R, q_isL_S, true_and, and_true, and_self, List.length_nil, List.length_cons, Nat.zero_add, x_K, x_Kn, Int.reduceToNat, Nat.reduceAdd, Nat.reduceLeDiff, Nat.zero_le, Int.reduceAdd, Int.reduceSub, Int.reduceNeg, q_add_e, q_sub_e, m7]
  refine p1c_states (fun r M hr hs => ?_)
  have m8 : M 1000001 0 = 7 := (hs 1000001 0 (by omega)).trans m7
  simp (disch := omega) only [b_L_law_934, x_loadR_1, x_loadS_1, x_loadR_0, x_loadS_0, x_loadI_3, x_iconst, x_iadd, y_sald, c_X5_states, x_loadR_2, x_loadS_2, c_X6_states, y_ic_eq_t, y_ic_eq_f, x_loadScr, q_isL_I, q_isL_R, q_isL_S, true_and, and_true, and_self, List.length_nil, List.length_cons, Nat.zero_add, x_K, x_Kn, Int.reduceToNat, Nat.reduceAdd, Nat.reduceLeDiff, Nat.zero_le, Int.reduceAdd, Int.reduceSub, Int.reduceNeg, q_add_e, q_sub_e, m8, q_same_get hs]
  refine p1m_states hs (fun r2 M2 hr2 hs2 => ?_)
  have e : r = r2 := hr.trans hr2.symm
  subst e
  have m9 : M2 1000001 0 = 7 := (hs2 1000001 0 (by omega)).trans m8
  simp (disch := omega) only [b_L_law_934, x_loadR_1, x_loadS_1, x_loadR_0, x_loadS_0, x_loadI_3, x_iconst, x_iadd, y_sald, c_X5_states, x_loadR_2, x_loadS_2, c_X6_states, y_ic_eq_t, y_ic_eq_f, x_loadScr, q_isL_I, q_isL_R, q_isL_S, true_and, and_true, and_self, List.length_nil, List.length_cons, Nat.zero_add, x_K, x_Kn, Int.reduceToNat, Nat.reduceAdd, Nat.reduceLeDiff, Nat.zero_le, Int.reduceAdd, Int.reduceSub, Int.reduceNeg, q_add_e, q_sub_e]
  exact p1_end m9 (hq _)
set_option maxRecDepth 20000 in
theorem p1_law_24 {xs : Nat → Int32} {Q : Option q_V → q_G → q_M → Prop} (hq : ∀ M : q_M, Q (some (qI 1)) (124, 3394) M) : q_T 1 1000 qP_L_law 987 [] [qS 2, qR 5 0, qR 6 100, qI 0] [] (124, 3394) (q_lk q_T0 (q_Bm 7 xs)) Q := by
  have m7 : q_lk q_T0 (q_Bm 7 xs) 1000001 0 = 7 := rfl
  simp (disch := omega) only [b_L_law_987, x_loadR_1, x_loadS_1, x_loadR_0, x_loadS_0, x_loadI_3, x_iconst, x_iadd, y_sald, c_X5_whose, x_loadR_2, x_loadS_2, c_X6_whose, y_ic_eq_t, y_ic_eq_f, x_loadScr, q_isL_I, q_isL_R, q_isL_S, true_and, and_true, and_self, List.length_nil, List.length_cons, Nat.zero_add, x_K, x_Kn, Int.reduceToNat, Nat.reduceAdd, Nat.reduceLeDiff, Nat.zero_le, Int.reduceAdd, Int.reduceSub, Int.reduceNeg, q_add_e, q_sub_e, m7]
  refine p1c_whose (fun r M hr hs => ?_)
  have m8 : M 1000001 0 = 7 := (hs 1000001 0 (by omega)).trans m7
  simp (disch := omega) only [b_L_law_987, x_loadR_1, x_loadS_1, x_loadR_0, x_loadS_0, x_loadI_3, x_iconst, x_iadd, y_sald, c_X5_whose, x_loadR_2, x_loadS_2, c_X6_whose, y_ic_eq_t, y_ic_eq_f, x_loadScr, q_isL_I, q_isL_R, q_isL_S, true_and, and_true, and_self, List.length_nil, List.length_cons, Nat.zero_add, x_K, x_Kn, Int.reduceToNat, Nat.reduceAdd, Nat.reduceLeDiff, Nat.zero_le, Int.reduceAdd, Int.reduceSub, Int.reduceNeg, q_add_e, q_sub_e, m8, q_same_get hs]
  refine p1m_whose hs (fun r2 M2 hr2 hs2 => ?_)
  have e : r = r2 := hr.trans hr2.symm
  subst e
  have m9 : M2 1000001 0 = 7 := (hs2 1000001 0 (by omega)).trans m8
  simp (disch := omega) only [b_L_law_987, x_loadR_1, x_loadS_1, x_loadR_0, x_loadS_0, x_loadI_3, x_iconst, x_iadd, y_sald, c_X5_whose, x_loadR_2, x_loadS_2, c_X6_whose, y_ic_eq_t, y_ic_eq_f, x_loadScr, q_isL_I, q_isL_R, q_isL_S, true_and, and_true, and_self, List.length_nil, List.length_cons, Nat.zero_add, x_K, x_Kn, Int.reduceToNat, Nat.reduceAdd, Nat.reduceLeDiff, Nat.zero_le, Int.reduceAdd, Int.reduceSub, Int.reduceNeg, q_add_e, q_sub_e]
  exact p1_end m9 (hq _)
set_option maxRecDepth 20000 in
theorem p1_law_25 {xs : Nat → Int32} {Q : Option q_V → q_G → q_M → Prop} (hq : ∀ M : q_M, Q (some (qI 1)) (124, 3394) M) : q_T 1 1000 qP_L_law 1010 [] [qS 2, qR 5 0, qR 6 100, qI 0] [] (124, 3394) (q_lk q_T0 (q_Bm 7 xs)) Q := by
  have m7 : q_lk q_T0 (q_Bm 7 xs) 1000001 0 = 7 := rfl
  simp (disch := omega) only [b_L_law_1010, x_loadR_1, x_loadS_1, x_loadR_0, x_loadS_0, x_loadI_3, x_iconst, x_iadd, y_sald, c_X5_laws, x_loadR_2, x_loadS_2, c_X6_laws, y_ic_eq_t, y_ic_eq_f, x_loadScr, q_isL_I, q_isL_R, q_isL_S, true_and, and_true, and_self, List.length_nil, List.length_cons, Nat.zero_add, x_K, x_Kn, Int.reduceToNat, Nat.reduceAdd, Nat.reduceLeDiff, Nat.zero_le, Int.reduceAdd, Int.reduceSub, Int.reduceNeg, q_add_e, q_sub_e, m7]
  refine p1c_laws (fun r M hr hs => ?_)
  have m8 : M 1000001 0 = 7 := (hs 1000001 0 (by omega)).trans m7
  simp (disch := omega) only [b_L_law_1010, x_loadR_1, x_loadS_1, x_loadR_0, x_loadS_0, x_loadI_3, x_iconst, x_iadd, y_sald, c_X5_laws, x_loadR_2, x_loadS_2, c_X6_laws, y_ic_eq_t, y_ic_eq_f, x_loadScr, q_isL_I, q_isL_R, q_isL_S, true_and, and_true, and_self, List.length_nil, List.length_cons, Nat.zero_add, x_K, x_Kn, Int.reduceToNat, Nat.reduceAdd, Nat.reduceLeDiff, Nat.zero_le, Int.reduceAdd, Int.reduceSub, Int.reduceNeg, q_add_e, q_sub_e, m8, q_same_get hs]
  refine p1m_laws hs (fun r2 M2 hr2 hs2 => ?_)
  have e : r = r2 := hr.trans hr2.symm
  subst e
  have m9 : M2 1000001 0 = 7 := (hs2 1000001 0 (by omega)).trans m8
  simp (disch := omega) only [b_L_law_1010, x_loadR_1, x_loadS_1, x_loadR_0, x_loadS_0, x_loadI_3, x_iconst, x_iadd, y_sald, c_X5_laws, x_loadR_2, x_loadS_2, c_X6_laws, y_ic_eq_t, y_ic_eq_f, x_loadScr, q_isL_I, q_isL_R, q_isL_S, true_and, and_true, and_self, List.length_nil, List.length_cons, Nat.zero_add, x_K, x_Kn, Int.reduceToNat, Nat.reduceAdd, Nat.reduceLeDiff, Nat.zero_le, Int.reduceAdd, Int.reduceSub, Int.reduceNeg, q_add_e, q_sub_e]
  exact p1_end m9 (hq _)
set_option maxRecDepth 20000 in
theorem p1_law_26 {xs : Nat → Int32} {Q : Option q_V → q_G → q_M → Prop} (hq : ∀ M : q_M, Q (some (qI 1)) (124, 3394) M) : q_T 1 1000 qP_L_law 1043 [] [qS 2, qR 5 0, qR 6 100, qI 0] [] (124, 3394) (q_lk q_T0 (q_Bm 7 xs)) Q := by
  have m7 : q_lk q_T0 (q_Bm 7 xs) 1000001 0 = 7 := rfl
  simp (disch := omega) only [b_L_law_1043, x_loadR_1, x_loadS_1, x_loadR_0, x_loadS_0, x_loadI_3, x_iconst, x_iadd, y_sald, c_X5_film, x_loadR_2, x_loadS_2, c_X6_film, y_ic_eq_t, y_ic_eq_f, x_loadScr, q_isL_I, q_isL_R, q_isL_S, true_and, and_true, and_self, List.length_nil, List.length_cons, Nat.zero_add, x_K, x_Kn, Int.reduceToNat, Nat.reduceAdd, Nat.reduceLeDiff, Nat.zero_le, Int.reduceAdd, Int.reduceSub, Int.reduceNeg, q_add_e, q_sub_e, m7]
  refine p1c_film (fun r M hr hs => ?_)
  have m8 : M 1000001 0 = 7 := (hs 1000001 0 (by omega)).trans m7
  simp (disch := omega) only [b_L_law_1043, x_loadR_1, x_loadS_1, x_loadR_0, x_loadS_0, x_loadI_3, x_iconst, x_iadd, y_sald, c_X5_film, x_loadR_2, x_loadS_2, c_X6_film, y_ic_eq_t, y_ic_eq_f, x_loadScr, q_isL_I, q_isL_R, q_isL_S, true_and, and_true, and_self, List.length_nil, List.length_cons, Nat.zero_add, x_K, x_Kn, Int.reduceToNat, Nat.reduceAdd, Nat.reduceLeDiff, Nat.zero_le, Int.reduceAdd, Int.reduceSub, Int.reduceNeg, q_add_e, q_sub_e, m8, q_same_get hs]
  refine p1m_film hs (fun r2 M2 hr2 hs2 => ?_)
  have e : r = r2 := hr.trans hr2.symm
  subst e
  have m9 : M2 1000001 0 = 7 := (hs2 1000001 0 (by omega)).trans m8
  simp (disch := omega) only [b_L_law_1043, x_loadR_1, x_loadS_1, x_loadR_0, x_loadS_0, x_loadI_3, x_iconst, x_iadd, y_sald, c_X5_film, x_loadR_2, x_loadS_2, c_X6_film, y_ic_eq_t, y_ic_eq_f, x_loadScr, q_isL_I, q_isL_R, q_isL_S, true_and, and_true, and_self, List.length_nil, List.length_cons, Nat.zero_add, x_K, x_Kn, Int.reduceToNat, Nat.reduceAdd, Nat.reduceLeDiff, Nat.zero_le, Int.reduceAdd, Int.reduceSub, Int.reduceNeg, q_add_e, q_sub_e]
  exact p1_end m9 (hq _)
set_option maxRecDepth 20000 in
theorem p1_law_27 {xs : Nat → Int32} {Q : Option q_V → q_G → q_M → Prop} (hq : ∀ M : q_M, Q (some (qI 1)) (124, 3394) M) : q_T 1 1000 qP_L_law 1086 [] [qS 2, qR 5 0, qR 6 100, qI 0] [] (124, 3394) (q_lk q_T0 (q_Bm 7 xs)) Q := by
  have m7 : q_lk q_T0 (q_Bm 7 xs) 1000001 0 = 7 := rfl
  simp (disch := omega) only [b_L_law_1086, x_loadR_1, x_loadS_1, x_loadR_0, x_loadS_0, x_loadI_3, x_iconst, x_iadd, y_sald, c_X5_drawn, x_loadR_2, x_loadS_2, c_X6_drawn, y_ic_eq_t, y_ic_eq_f, x_loadScr, q_isL_I, q_isL_R, q_isL_S, true_and, and_true, and_self, List.length_nil, List.length_cons, Nat.zero_add, x_K, x_Kn, Int.reduceToNat, Nat.reduceAdd, Nat.reduceLeDiff, Nat.zero_le, Int.reduceAdd, Int.reduceSub, Int.reduceNeg, q_add_e, q_sub_e, m7]
  refine p1c_drawn (fun r M hr hs => ?_)
  have m8 : M 1000001 0 = 7 := (hs 1000001 0 (by omega)).trans m7
  simp (disch := omega) only [b_L_law_1086, x_loadR_1, x_loadS_1, x_loadR_0, x_loadS_0, x_loadI_3, x_iconst, x_iadd, y_sald, c_X5_drawn, x_loadR_2, x_loadS_2, c_X6_drawn, y_ic_eq_t, y_ic_eq_f, x_loadScr, q_isL_I, q_isL_R, q_isL_S, true_and, and_true, and_self, List.length_nil, List.length_cons, Nat.zero_add, x_K, x_Kn, Int.reduceToNat, Nat.reduceAdd, Nat.reduceLeDiff, Nat.zero_le, Int.reduceAdd, Int.reduceSub, Int.reduceNeg, q_add_e, q_sub_e, m8, q_same_get hs]
  refine p1m_drawn hs (fun r2 M2 hr2 hs2 => ?_)
  have e : r = r2 := hr.trans hr2.symm
  subst e
  have m9 : M2 1000001 0 = 7 := (hs2 1000001 0 (by omega)).trans m8
  simp (disch := omega) only [b_L_law_1086, x_loadR_1, x_loadS_1, x_loadR_0, x_loadS_0, x_loadI_3, x_iconst, x_iadd, y_sald, c_X5_drawn, x_loadR_2, x_loadS_2, c_X6_drawn, y_ic_eq_t, y_ic_eq_f, x_loadScr, q_isL_I, q_isL_R, q_isL_S, true_and, and_true, and_self, List.length_nil, List.length_cons, Nat.zero_add, x_K, x_Kn, Int.reduceToNat, Nat.reduceAdd, Nat.reduceLeDiff, Nat.zero_le, Int.reduceAdd, Int.reduceSub, Int.reduceNeg, q_add_e, q_sub_e]
  exact p1_end m9 (hq _)
set_option maxRecDepth 20000 in
theorem p1_law_28 {xs : Nat → Int32} {Q : Option q_V → q_G → q_M → Prop} (hq : ∀ M : q_M, Q (some (qI 1)) (124, 3394) M) : q_T 1 1000 qP_L_law 1119 [] [qS 2, qR 5 0, qR 6 100, qI 0] [] (124, 3394) (q_lk q_T0 (q_Bm 7 xs)) Q := by
  have m7 : q_lk q_T0 (q_Bm 7 xs) 1000001 0 = 7 := rfl
  simp (disch := omega) only [b_L_law_1119, x_loadR_1, x_loadS_1, x_loadR_0, x_loadS_0, x_loadI_3, x_iconst, x_iadd, y_sald, c_X5_odds, x_loadR_2, x_loadS_2, c_X6_odds, x_lcmp, y_if_eq_t, y_if_eq_f, x_loadScr, q_isL_I, q_isL_R, q_isL_S, true_and, and_true, and_self, List.length_nil, List.length_cons, Nat.zero_add, x_K, x_Kn, Int.reduceToNat, Nat.reduceAdd, Nat.reduceLeDiff, Nat.zero_le, Int.reduceAdd, Int.reduceSub, Int.reduceNeg, q_add_e, q_sub_e, m7]
  refine p1c_odds (fun r M hr hs => ?_)
  have m8 : M 1000001 0 = 7 := (hs 1000001 0 (by omega)).trans m7
  simp (disch := omega) only [b_L_law_1119, x_loadR_1, x_loadS_1, x_loadR_0, x_loadS_0, x_loadI_3, x_iconst, x_iadd, y_sald, c_X5_odds, x_loadR_2, x_loadS_2, c_X6_odds, x_lcmp, y_if_eq_t, y_if_eq_f, x_loadScr, q_isL_I, q_isL_R, q_isL_S, true_and, and_true, and_self, List.length_nil, List.length_cons, Nat.zero_add, x_K, x_Kn, Int.reduceToNat, Nat.reduceAdd, Nat.reduceLeDiff, Nat.zero_le, Int.reduceAdd, Int.reduceSub, Int.reduceNeg, q_add_e, q_sub_e, m8, q_same_get hs]
  refine p1m_odds hs (fun r2 M2 hr2 hs2 => ?_)
  have e : r = r2 := hr.trans hr2.symm
  subst e
  have m9 : M2 1000001 0 = 7 := (hs2 1000001 0 (by omega)).trans m8
  simp (disch := omega) only [b_L_law_1119, x_loadR_1, x_loadS_1, x_loadR_0, x_loadS_0, x_loadI_3, x_iconst, x_iadd, y_sald, c_X5_odds, x_loadR_2, x_loadS_2, c_X6_odds, x_lcmp, y_if_eq_t, y_if_eq_f, x_loadScr, q_isL_I, q_isL_R, q_isL_S, true_and, and_true, and_self, List.length_nil, List.length_cons, Nat.zero_add, x_K, x_Kn, Int.reduceToNat, Nat.reduceAdd, Nat.reduceLeDiff, Nat.zero_le, Int.reduceAdd, Int.reduceSub, Int.reduceNeg, q_add_e, q_sub_e, q_lcmp_eq]
  exact p1_end m9 (hq _)
set_option maxRecDepth 20000 in
theorem p1_law_29 {xs : Nat → Int32} {Q : Option q_V → q_G → q_M → Prop} (hq : ∀ M : q_M, Q (some (qI 1)) (124, 3394) M) : q_T 1 1000 qP_L_law 1173 [] [qS 2, qR 5 0, qR 6 100, qI 0] [] (124, 3394) (q_lk q_T0 (q_Bm 7 xs)) Q := by
  have m7 : q_lk q_T0 (q_Bm 7 xs) 1000001 0 = 7 := rfl
  simp (disch := omega) only [b_L_law_1173, x_loadR_1, x_loadS_1, c_X5_image, x_loadR_2, x_loadS_2, c_X6_image, y_ic_eq_t, y_ic_eq_f, x_loadScr, q_isL_I, q_isL_R, q_isL_S, true_and, and_true, and_self, List.length_nil, List.length_cons, Nat.zero_add, x_K, x_Kn, Int.reduceToNat, Nat.reduceAdd, Nat.reduceLeDiff, Nat.zero_le, Int.reduceAdd, Int.reduceSub, Int.reduceNeg, q_add_e, q_sub_e, m7]
  refine p1c_image (fun r M hr hs => ?_)
  have m8 : M 1000001 0 = 7 := (hs 1000001 0 (by omega)).trans m7
  simp (disch := omega) only [b_L_law_1173, x_loadR_1, x_loadS_1, c_X5_image, x_loadR_2, x_loadS_2, c_X6_image, y_ic_eq_t, y_ic_eq_f, x_loadScr, q_isL_I, q_isL_R, q_isL_S, true_and, and_true, and_self, List.length_nil, List.length_cons, Nat.zero_add, x_K, x_Kn, Int.reduceToNat, Nat.reduceAdd, Nat.reduceLeDiff, Nat.zero_le, Int.reduceAdd, Int.reduceSub, Int.reduceNeg, q_add_e, q_sub_e, m8, q_same_get hs]
  refine p1m_image hs (fun r2 M2 hr2 hs2 => ?_)
  have e : r = r2 := hr.trans hr2.symm
  subst e
  have m9 : M2 1000001 0 = 7 := (hs2 1000001 0 (by omega)).trans m8
  simp (disch := omega) only [b_L_law_1173, x_loadR_1, x_loadS_1, c_X5_image, x_loadR_2, x_loadS_2, c_X6_image, y_ic_eq_t, y_ic_eq_f, x_loadScr, q_isL_I, q_isL_R, q_isL_S, true_and, and_true, and_self, List.length_nil, List.length_cons, Nat.zero_add, x_K, x_Kn, Int.reduceToNat, Nat.reduceAdd, Nat.reduceLeDiff, Nat.zero_le, Int.reduceAdd, Int.reduceSub, Int.reduceNeg, q_add_e, q_sub_e]
  exact p1_end m9 (hq _)
set_option maxRecDepth 20000 in
theorem p1_law_30 {xs : Nat → Int32} {Q : Option q_V → q_G → q_M → Prop} (hq : ∀ M : q_M, Q (some (qI 1)) (124, 3394) M) : q_T 1 1000 qP_L_law 1186 [] [qS 2, qR 5 0, qR 6 100, qI 0] [] (124, 3394) (q_lk q_T0 (q_Bm 7 xs)) Q := by
  have m7 : q_lk q_T0 (q_Bm 7 xs) 1000001 0 = 7 := rfl
  simp (disch := omega) only [b_L_law_1186, x_loadR_1, x_loadS_1, c_X5_back, x_loadR_2, x_loadS_2, c_X6_back, y_ic_eq_t, y_ic_eq_f, x_loadScr, q_isL_I, q_isL_R, q_isL_S, true_and, and_true, and_self, List.length_nil, List.length_cons, Nat.zero_add, x_K, x_Kn, Int.reduceToNat, Nat.reduceAdd, Nat.reduceLeDiff, Nat.zero_le, Int.reduceAdd, Int.reduceSub, Int.reduceNeg, q_add_e, q_sub_e, m7]
  refine p1c_back (fun r M hr hs => ?_)
  have m8 : M 1000001 0 = 7 := (hs 1000001 0 (by omega)).trans m7
  simp (disch := omega) only [b_L_law_1186, x_loadR_1, x_loadS_1, c_X5_back, x_loadR_2, x_loadS_2, c_X6_back, y_ic_eq_t, y_ic_eq_f, x_loadScr, q_isL_I, q_isL_R, q_isL_S, true_and, and_true, and_self, List.length_nil, List.length_cons, Nat.zero_add, x_K, x_Kn, Int.reduceToNat, Nat.reduceAdd, Nat.reduceLeDiff, Nat.zero_le, Int.reduceAdd, Int.reduceSub, Int.reduceNeg, q_add_e, q_sub_e, m8, q_same_get hs]
  refine p1m_back hs (fun r2 M2 hr2 hs2 => ?_)
  have e : r = r2 := hr.trans hr2.symm
  subst e
  have m9 : M2 1000001 0 = 7 := (hs2 1000001 0 (by omega)).trans m8
  simp (disch := omega) only [b_L_law_1186, x_loadR_1, x_loadS_1, c_X5_back, x_loadR_2, x_loadS_2, c_X6_back, y_ic_eq_t, y_ic_eq_f, x_loadScr, q_isL_I, q_isL_R, q_isL_S, true_and, and_true, and_self, List.length_nil, List.length_cons, Nat.zero_add, x_K, x_Kn, Int.reduceToNat, Nat.reduceAdd, Nat.reduceLeDiff, Nat.zero_le, Int.reduceAdd, Int.reduceSub, Int.reduceNeg, q_add_e, q_sub_e]
  exact p1_end m9 (hq _)
set_option maxRecDepth 20000 in
theorem p1_law_31 {xs : Nat → Int32} {Q : Option q_V → q_G → q_M → Prop} (hq : ∀ M : q_M, Q (some (qI 1)) (124, 3394) M) : q_T 1 1000 qP_L_law 1199 [] [qS 2, qR 5 0, qR 6 100, qI 0] [] (124, 3394) (q_lk q_T0 (q_Bm 7 xs)) Q := by
  have m7 : q_lk q_T0 (q_Bm 7 xs) 1000001 0 = 7 := rfl
  simp (disch := omega) only [b_L_law_1199, x_loadR_1, x_loadS_1, x_loadR_0, x_loadS_0, x_loadI_3, x_iconst, x_iadd, y_sald, c_X5_sheet, x_loadR_2, x_loadS_2, c_X6_sheet, y_ic_eq_t, y_ic_eq_f, x_loadScr, q_isL_I, q_isL_R, q_isL_S, true_and, and_true, and_self, List.length_nil, List.length_cons, Nat.zero_add, x_K, x_Kn, Int.reduceToNat, Nat.reduceAdd, Nat.reduceLeDiff, Nat.zero_le, Int.reduceAdd, Int.reduceSub, Int.reduceNeg, q_add_e, q_sub_e, m7]
  refine p1c_sheet (fun r M hr hs => ?_)
  have m8 : M 1000001 0 = 7 := (hs 1000001 0 (by omega)).trans m7
  simp (disch := omega) only [b_L_law_1199, x_loadR_1, x_loadS_1, x_loadR_0, x_loadS_0, x_loadI_3, x_iconst, x_iadd, y_sald, c_X5_sheet, x_loadR_2, x_loadS_2, c_X6_sheet, y_ic_eq_t, y_ic_eq_f, x_loadScr, q_isL_I, q_isL_R, q_isL_S, true_and, and_true, and_self, List.length_nil, List.length_cons, Nat.zero_add, x_K, x_Kn, Int.reduceToNat, Nat.reduceAdd, Nat.reduceLeDiff, Nat.zero_le, Int.reduceAdd, Int.reduceSub, Int.reduceNeg, q_add_e, q_sub_e, m8, q_same_get hs]
  refine p1m_sheet hs (fun r2 M2 hr2 hs2 => ?_)
  have e : r = r2 := hr.trans hr2.symm
  subst e
  have m9 : M2 1000001 0 = 7 := (hs2 1000001 0 (by omega)).trans m8
  simp (disch := omega) only [b_L_law_1199, x_loadR_1, x_loadS_1, x_loadR_0, x_loadS_0, x_loadI_3, x_iconst, x_iadd, y_sald, c_X5_sheet, x_loadR_2, x_loadS_2, c_X6_sheet, y_ic_eq_t, y_ic_eq_f, x_loadScr, q_isL_I, q_isL_R, q_isL_S, true_and, and_true, and_self, List.length_nil, List.length_cons, Nat.zero_add, x_K, x_Kn, Int.reduceToNat, Nat.reduceAdd, Nat.reduceLeDiff, Nat.zero_le, Int.reduceAdd, Int.reduceSub, Int.reduceNeg, q_add_e, q_sub_e]
  exact p1_end m9 (hq _)
set_option maxRecDepth 20000 in
theorem p1_law_32 {xs : Nat → Int32} {Q : Option q_V → q_G → q_M → Prop} (hq : ∀ M : q_M, Q (some (qI 1)) (124, 3394) M) : q_T 1 1000 qP_L_law 1242 [] [qS 2, qR 5 0, qR 6 100, qI 0] [] (124, 3394) (q_lk q_T0 (q_Bm 7 xs)) Q := by
  have m7 : q_lk q_T0 (q_Bm 7 xs) 1000001 0 = 7 := rfl
  simp (disch := omega) only [b_L_law_1242, x_loadR_1, x_loadS_1, x_loadR_0, x_loadS_0, x_loadI_3, x_iconst, x_iadd, y_sald, c_X5_cell, x_loadR_2, x_loadS_2, c_X6_cell, y_ic_eq_t, y_ic_eq_f, x_loadScr, q_isL_I, q_isL_R, q_isL_S, true_and, and_true, and_self, List.length_nil, List.length_cons, Nat.zero_add, x_K, x_Kn, Int.reduceToNat, Nat.reduceAdd, Nat.reduceLeDiff, Nat.zero_le, Int.reduceAdd, Int.reduceSub, Int.reduceNeg, q_add_e, q_sub_e, m7]
  refine p1c_cell (fun r M hr hs => ?_)
  have m8 : M 1000001 0 = 7 := (hs 1000001 0 (by omega)).trans m7
  simp (disch := omega) only [b_L_law_1242, x_loadR_1, x_loadS_1, x_loadR_0, x_loadS_0, x_loadI_3, x_iconst, x_iadd, y_sald, c_X5_cell, x_loadR_2, x_loadS_2, c_X6_cell, y_ic_eq_t, y_ic_eq_f, x_loadScr, q_isL_I, q_isL_R, q_isL_S, true_and, and_true, and_self, List.length_nil, List.length_cons, Nat.zero_add, x_K, x_Kn, Int.reduceToNat, Nat.reduceAdd, Nat.reduceLeDiff, Nat.zero_le, Int.reduceAdd, Int.reduceSub, Int.reduceNeg, q_add_e, q_sub_e, m8, q_same_get hs]
  refine p1m_cell hs (fun r2 M2 hr2 hs2 => ?_)
  have e : r = r2 := hr.trans hr2.symm
  subst e
  have m9 : M2 1000001 0 = 7 := (hs2 1000001 0 (by omega)).trans m8
  simp (disch := omega) only [b_L_law_1242, x_loadR_1, x_loadS_1, x_loadR_0, x_loadS_0, x_loadI_3, x_iconst, x_iadd, y_sald, c_X5_cell, x_loadR_2, x_loadS_2, c_X6_cell, y_ic_eq_t, y_ic_eq_f, x_loadScr, q_isL_I, q_isL_R, q_isL_S, true_and, and_true, and_self, List.length_nil, List.length_cons, Nat.zero_add, x_K, x_Kn, Int.reduceToNat, Nat.reduceAdd, Nat.reduceLeDiff, Nat.zero_le, Int.reduceAdd, Int.reduceSub, Int.reduceNeg, q_add_e, q_sub_e]
  exact p1_end m9 (hq _)
set_option maxRecDepth 20000 in
theorem p1_law_33 {xs : Nat → Int32} {Q : Option q_V → q_G → q_M → Prop} (hq : ∀ M : q_M, Q (some (qI 1)) (124, 3394) M) : q_T 1 1000 qP_L_law 1285 [] [qS 2, qR 5 0, qR 6 100, qI 0] [] (124, 3394) (q_lk q_T0 (q_Bm 7 xs)) Q := by
  have m7 : q_lk q_T0 (q_Bm 7 xs) 1000001 0 = 7 := rfl
  simp (disch := omega) only [b_L_law_1285, x_loadR_1, x_loadS_1, x_loadR_0, x_loadS_0, x_loadI_3, x_iconst, x_iadd, y_sald, c_X5_copy, x_loadR_2, x_loadS_2, c_X6_copy, y_ic_eq_t, y_ic_eq_f, x_loadScr, q_isL_I, q_isL_R, q_isL_S, true_and, and_true, and_self, List.length_nil, List.length_cons, Nat.zero_add, x_K, x_Kn, Int.reduceToNat, Nat.reduceAdd, Nat.reduceLeDiff, Nat.zero_le, Int.reduceAdd, Int.reduceSub, Int.reduceNeg, q_add_e, q_sub_e, m7]
  refine p1c_copy (fun r M hr hs => ?_)
  have m8 : M 1000001 0 = 7 := (hs 1000001 0 (by omega)).trans m7
  simp (disch := omega) only [b_L_law_1285, x_loadR_1, x_loadS_1, x_loadR_0, x_loadS_0, x_loadI_3, x_iconst, x_iadd, y_sald, c_X5_copy, x_loadR_2, x_loadS_2, c_X6_copy, y_ic_eq_t, y_ic_eq_f, x_loadScr, q_isL_I, q_isL_R, q_isL_S, true_and, and_true, and_self, List.length_nil, List.length_cons, Nat.zero_add, x_K, x_Kn, Int.reduceToNat, Nat.reduceAdd, Nat.reduceLeDiff, Nat.zero_le, Int.reduceAdd, Int.reduceSub, Int.reduceNeg, q_add_e, q_sub_e, m8, q_same_get hs]
  refine p1m_copy hs (fun r2 M2 hr2 hs2 => ?_)
  have e : r = r2 := hr.trans hr2.symm
  subst e
  have m9 : M2 1000001 0 = 7 := (hs2 1000001 0 (by omega)).trans m8
  simp (disch := omega) only [b_L_law_1285, x_loadR_1, x_loadS_1, x_loadR_0, x_loadS_0, x_loadI_3, x_iconst, x_iadd, y_sald, c_X5_copy, x_loadR_2, x_loadS_2, c_X6_copy, y_ic_eq_t, y_ic_eq_f, x_loadScr, q_isL_I, q_isL_R, q_isL_S, true_and, and_true, and_self, List.length_nil, List.length_cons, Nat.zero_add, x_K, x_Kn, Int.reduceToNat, Nat.reduceAdd, Nat.reduceLeDiff, Nat.zero_le, Int.reduceAdd, Int.reduceSub, Int.reduceNeg, q_add_e, q_sub_e]
  exact p1_end m9 (hq _)
set_option maxRecDepth 20000 in
theorem p1_law_34 {xs : Nat → Int32} {Q : Option q_V → q_G → q_M → Prop} (hq : ∀ M : q_M, Q (some (qI 1)) (124, 3394) M) : q_T 1 1000 qP_L_law 1348 [] [qS 2, qR 5 0, qR 6 100, qI 0] [] (124, 3394) (q_lk q_T0 (q_Bm 7 xs)) Q := by
  have m7 : q_lk q_T0 (q_Bm 7 xs) 1000001 0 = 7 := rfl
  simp (disch := omega) only [b_L_law_1348, x_loadR_1, x_loadS_1, x_loadR_0, x_loadS_0, x_loadI_3, x_iconst, x_iadd, y_sald, c_X5_stonesBy, x_loadR_2, x_loadS_2, c_X6_stonesBy, y_ic_eq_t, y_ic_eq_f, x_loadScr, q_isL_I, q_isL_R, q_isL_S, true_and, and_true, and_self, List.length_nil, List.length_cons, Nat.zero_add, x_K, x_Kn, Int.reduceToNat, Nat.reduceAdd, Nat.reduceLeDiff, Nat.zero_le, Int.reduceAdd, Int.reduceSub, Int.reduceNeg, q_add_e, q_sub_e, m7]
  refine p1c_stonesBy (fun r M hr hs => ?_)
  have m8 : M 1000001 0 = 7 := (hs 1000001 0 (by omega)).trans m7
  simp (disch := omega) only [b_L_law_1348, x_loadR_1, x_loadS_1, x_loadR_0, x_loadS_0, x_loadI_3, x_iconst, x_iadd, y_sald, c_X5_stonesBy, x_loadR_2, x_loadS_2, c_X6_stonesBy, y_ic_eq_t, y_ic_eq_f, x_loadScr, q_isL_I, q_isL_R, q_isL_S, true_and, and_true, and_self, List.length_nil, List.length_cons, Nat.zero_add, x_K, x_Kn, Int.reduceToNat, Nat.reduceAdd, Nat.reduceLeDiff, Nat.zero_le, Int.reduceAdd, Int.reduceSub, Int.reduceNeg, q_add_e, q_sub_e, m8, q_same_get hs]
  refine p1m_stonesBy hs (fun r2 M2 hr2 hs2 => ?_)
  have e : r = r2 := hr.trans hr2.symm
  subst e
  have m9 : M2 1000001 0 = 7 := (hs2 1000001 0 (by omega)).trans m8
  simp (disch := omega) only [b_L_law_1348, x_loadR_1, x_loadS_1, x_loadR_0, x_loadS_0, x_loadI_3, x_iconst, x_iadd, y_sald, c_X5_stonesBy, x_loadR_2, x_loadS_2, c_X6_stonesBy, y_ic_eq_t, y_ic_eq_f, x_loadScr, q_isL_I, q_isL_R, q_isL_S, true_and, and_true, and_self, List.length_nil, List.length_cons, Nat.zero_add, x_K, x_Kn, Int.reduceToNat, Nat.reduceAdd, Nat.reduceLeDiff, Nat.zero_le, Int.reduceAdd, Int.reduceSub, Int.reduceNeg, q_add_e, q_sub_e]
  exact p1_end m9 (hq _)
set_option maxRecDepth 20000 in
theorem p1_law_35 {xs : Nat → Int32} {Q : Option q_V → q_G → q_M → Prop} (hq : ∀ M : q_M, Q (some (qI 1)) (124, 3394) M) : q_T 1 1000 qP_L_law 1401 [] [qS 2, qR 5 0, qR 6 100, qI 0] [] (124, 3394) (q_lk q_T0 (q_Bm 7 xs)) Q := by
  have m7 : q_lk q_T0 (q_Bm 7 xs) 1000001 0 = 7 := rfl
  simp (disch := omega) only [b_L_law_1401, x_loadR_1, x_loadS_1, x_loadR_0, x_loadS_0, x_loadI_3, x_iconst, x_iadd, y_sald, c_X5_taken, x_loadR_2, x_loadS_2, c_X6_taken, y_ic_eq_t, y_ic_eq_f, x_loadScr, q_isL_I, q_isL_R, q_isL_S, true_and, and_true, and_self, List.length_nil, List.length_cons, Nat.zero_add, x_K, x_Kn, Int.reduceToNat, Nat.reduceAdd, Nat.reduceLeDiff, Nat.zero_le, Int.reduceAdd, Int.reduceSub, Int.reduceNeg, q_add_e, q_sub_e, m7]
  refine p1c_taken (fun r M hr hs => ?_)
  have m8 : M 1000001 0 = 7 := (hs 1000001 0 (by omega)).trans m7
  simp (disch := omega) only [b_L_law_1401, x_loadR_1, x_loadS_1, x_loadR_0, x_loadS_0, x_loadI_3, x_iconst, x_iadd, y_sald, c_X5_taken, x_loadR_2, x_loadS_2, c_X6_taken, y_ic_eq_t, y_ic_eq_f, x_loadScr, q_isL_I, q_isL_R, q_isL_S, true_and, and_true, and_self, List.length_nil, List.length_cons, Nat.zero_add, x_K, x_Kn, Int.reduceToNat, Nat.reduceAdd, Nat.reduceLeDiff, Nat.zero_le, Int.reduceAdd, Int.reduceSub, Int.reduceNeg, q_add_e, q_sub_e, m8, q_same_get hs]
  refine p1m_taken hs (fun r2 M2 hr2 hs2 => ?_)
  have e : r = r2 := hr.trans hr2.symm
  subst e
  have m9 : M2 1000001 0 = 7 := (hs2 1000001 0 (by omega)).trans m8
  simp (disch := omega) only [b_L_law_1401, x_loadR_1, x_loadS_1, x_loadR_0, x_loadS_0, x_loadI_3, x_iconst, x_iadd, y_sald, c_X5_taken, x_loadR_2, x_loadS_2, c_X6_taken, y_ic_eq_t, y_ic_eq_f, x_loadScr, q_isL_I, q_isL_R, q_isL_S, true_and, and_true, and_self, List.length_nil, List.length_cons, Nat.zero_add, x_K, x_Kn, Int.reduceToNat, Nat.reduceAdd, Nat.reduceLeDiff, Nat.zero_le, Int.reduceAdd, Int.reduceSub, Int.reduceNeg, q_add_e, q_sub_e]
  exact p1_end m9 (hq _)
theorem tl_0 {g : q_G} {M : q_M} {Q : Option q_V → q_G → q_M → Prop} {ls st : List q_V} {nx : Nat} : q_T 1 1000 qP_L_law nx [.tableswitch (1434) (0) (35) #[192, 215, 238, 281, 314, 389, 402, 425, 468, 511, 554, 587, 630, 643, 676, 709, 732, 755, 778, 801, 834, 858, 891, 934, 987, 1010, 1043, 1086, 1119, 1173, 1186, 1199, 1242, 1285, 1348, 1401]] ls (qI 0 :: st) g M Q = q_T 1 1000 qP_L_law 192 [] ls st g M Q := x_tsw.trans rfl
theorem tl_1 {g : q_G} {M : q_M} {Q : Option q_V → q_G → q_M → Prop} {ls st : List q_V} {nx : Nat} : q_T 1 1000 qP_L_law nx [.tableswitch (1434) (0) (35) #[192, 215, 238, 281, 314, 389, 402, 425, 468, 511, 554, 587, 630, 643, 676, 709, 732, 755, 778, 801, 834, 858, 891, 934, 987, 1010, 1043, 1086, 1119, 1173, 1186, 1199, 1242, 1285, 1348, 1401]] ls (qI 1 :: st) g M Q = q_T 1 1000 qP_L_law 215 [] ls st g M Q := x_tsw.trans rfl
theorem tl_2 {g : q_G} {M : q_M} {Q : Option q_V → q_G → q_M → Prop} {ls st : List q_V} {nx : Nat} : q_T 1 1000 qP_L_law nx [.tableswitch (1434) (0) (35) #[192, 215, 238, 281, 314, 389, 402, 425, 468, 511, 554, 587, 630, 643, 676, 709, 732, 755, 778, 801, 834, 858, 891, 934, 987, 1010, 1043, 1086, 1119, 1173, 1186, 1199, 1242, 1285, 1348, 1401]] ls (qI 2 :: st) g M Q = q_T 1 1000 qP_L_law 238 [] ls st g M Q := x_tsw.trans rfl
theorem tl_3 {g : q_G} {M : q_M} {Q : Option q_V → q_G → q_M → Prop} {ls st : List q_V} {nx : Nat} : q_T 1 1000 qP_L_law nx [.tableswitch (1434) (0) (35) #[192, 215, 238, 281, 314, 389, 402, 425, 468, 511, 554, 587, 630, 643, 676, 709, 732, 755, 778, 801, 834, 858, 891, 934, 987, 1010, 1043, 1086, 1119, 1173, 1186, 1199, 1242, 1285, 1348, 1401]] ls (qI 3 :: st) g M Q = q_T 1 1000 qP_L_law 281 [] ls st g M Q := x_tsw.trans rfl
theorem tl_4 {g : q_G} {M : q_M} {Q : Option q_V → q_G → q_M → Prop} {ls st : List q_V} {nx : Nat} : q_T 1 1000 qP_L_law nx [.tableswitch (1434) (0) (35) #[192, 215, 238, 281, 314, 389, 402, 425, 468, 511, 554, 587, 630, 643, 676, 709, 732, 755, 778, 801, 834, 858, 891, 934, 987, 1010, 1043, 1086, 1119, 1173, 1186, 1199, 1242, 1285, 1348, 1401]] ls (qI 4 :: st) g M Q = q_T 1 1000 qP_L_law 314 [] ls st g M Q := x_tsw.trans rfl
theorem tl_5 {g : q_G} {M : q_M} {Q : Option q_V → q_G → q_M → Prop} {ls st : List q_V} {nx : Nat} : q_T 1 1000 qP_L_law nx [.tableswitch (1434) (0) (35) #[192, 215, 238, 281, 314, 389, 402, 425, 468, 511, 554, 587, 630, 643, 676, 709, 732, 755, 778, 801, 834, 858, 891, 934, 987, 1010, 1043, 1086, 1119, 1173, 1186, 1199, 1242, 1285, 1348, 1401]] ls (qI 5 :: st) g M Q = q_T 1 1000 qP_L_law 389 [] ls st g M Q := x_tsw.trans rfl
theorem tl_6 {g : q_G} {M : q_M} {Q : Option q_V → q_G → q_M → Prop} {ls st : List q_V} {nx : Nat} : q_T 1 1000 qP_L_law nx [.tableswitch (1434) (0) (35) #[192, 215, 238, 281, 314, 389, 402, 425, 468, 511, 554, 587, 630, 643, 676, 709, 732, 755, 778, 801, 834, 858, 891, 934, 987, 1010, 1043, 1086, 1119, 1173, 1186, 1199, 1242, 1285, 1348, 1401]] ls (qI 6 :: st) g M Q = q_T 1 1000 qP_L_law 402 [] ls st g M Q := x_tsw.trans rfl
theorem tl_7 {g : q_G} {M : q_M} {Q : Option q_V → q_G → q_M → Prop} {ls st : List q_V} {nx : Nat} : q_T 1 1000 qP_L_law nx [.tableswitch (1434) (0) (35) #[192, 215, 238, 281, 314, 389, 402, 425, 468, 511, 554, 587, 630, 643, 676, 709, 732, 755, 778, 801, 834, 858, 891, 934, 987, 1010, 1043, 1086, 1119, 1173, 1186, 1199, 1242, 1285, 1348, 1401]] ls (qI 7 :: st) g M Q = q_T 1 1000 qP_L_law 425 [] ls st g M Q := x_tsw.trans rfl
theorem tl_8 {g : q_G} {M : q_M} {Q : Option q_V → q_G → q_M → Prop} {ls st : List q_V} {nx : Nat} : q_T 1 1000 qP_L_law nx [.tableswitch (1434) (0) (35) #[192, 215, 238, 281, 314, 389, 402, 425, 468, 511, 554, 587, 630, 643, 676, 709, 732, 755, 778, 801, 834, 858, 891, 934, 987, 1010, 1043, 1086, 1119, 1173, 1186, 1199, 1242, 1285, 1348, 1401]] ls (qI 8 :: st) g M Q = q_T 1 1000 qP_L_law 468 [] ls st g M Q := x_tsw.trans rfl
theorem tl_9 {g : q_G} {M : q_M} {Q : Option q_V → q_G → q_M → Prop} {ls st : List q_V} {nx : Nat} : q_T 1 1000 qP_L_law nx [.tableswitch (1434) (0) (35) #[192, 215, 238, 281, 314, 389, 402, 425, 468, 511, 554, 587, 630, 643, 676, 709, 732, 755, 778, 801, 834, 858, 891, 934, 987, 1010, 1043, 1086, 1119, 1173, 1186, 1199, 1242, 1285, 1348, 1401]] ls (qI 9 :: st) g M Q = q_T 1 1000 qP_L_law 511 [] ls st g M Q := x_tsw.trans rfl
theorem tl_10 {g : q_G} {M : q_M} {Q : Option q_V → q_G → q_M → Prop} {ls st : List q_V} {nx : Nat} : q_T 1 1000 qP_L_law nx [.tableswitch (1434) (0) (35) #[192, 215, 238, 281, 314, 389, 402, 425, 468, 511, 554, 587, 630, 643, 676, 709, 732, 755, 778, 801, 834, 858, 891, 934, 987, 1010, 1043, 1086, 1119, 1173, 1186, 1199, 1242, 1285, 1348, 1401]] ls (qI 10 :: st) g M Q = q_T 1 1000 qP_L_law 554 [] ls st g M Q := x_tsw.trans rfl
theorem tl_11 {g : q_G} {M : q_M} {Q : Option q_V → q_G → q_M → Prop} {ls st : List q_V} {nx : Nat} : q_T 1 1000 qP_L_law nx [.tableswitch (1434) (0) (35) #[192, 215, 238, 281, 314, 389, 402, 425, 468, 511, 554, 587, 630, 643, 676, 709, 732, 755, 778, 801, 834, 858, 891, 934, 987, 1010, 1043, 1086, 1119, 1173, 1186, 1199, 1242, 1285, 1348, 1401]] ls (qI 11 :: st) g M Q = q_T 1 1000 qP_L_law 587 [] ls st g M Q := x_tsw.trans rfl
theorem tl_12 {g : q_G} {M : q_M} {Q : Option q_V → q_G → q_M → Prop} {ls st : List q_V} {nx : Nat} : q_T 1 1000 qP_L_law nx [.tableswitch (1434) (0) (35) #[192, 215, 238, 281, 314, 389, 402, 425, 468, 511, 554, 587, 630, 643, 676, 709, 732, 755, 778, 801, 834, 858, 891, 934, 987, 1010, 1043, 1086, 1119, 1173, 1186, 1199, 1242, 1285, 1348, 1401]] ls (qI 12 :: st) g M Q = q_T 1 1000 qP_L_law 630 [] ls st g M Q := x_tsw.trans rfl
theorem tl_13 {g : q_G} {M : q_M} {Q : Option q_V → q_G → q_M → Prop} {ls st : List q_V} {nx : Nat} : q_T 1 1000 qP_L_law nx [.tableswitch (1434) (0) (35) #[192, 215, 238, 281, 314, 389, 402, 425, 468, 511, 554, 587, 630, 643, 676, 709, 732, 755, 778, 801, 834, 858, 891, 934, 987, 1010, 1043, 1086, 1119, 1173, 1186, 1199, 1242, 1285, 1348, 1401]] ls (qI 13 :: st) g M Q = q_T 1 1000 qP_L_law 643 [] ls st g M Q := x_tsw.trans rfl
theorem tl_14 {g : q_G} {M : q_M} {Q : Option q_V → q_G → q_M → Prop} {ls st : List q_V} {nx : Nat} : q_T 1 1000 qP_L_law nx [.tableswitch (1434) (0) (35) #[192, 215, 238, 281, 314, 389, 402, 425, 468, 511, 554, 587, 630, 643, 676, 709, 732, 755, 778, 801, 834, 858, 891, 934, 987, 1010, 1043, 1086, 1119, 1173, 1186, 1199, 1242, 1285, 1348, 1401]] ls (qI 14 :: st) g M Q = q_T 1 1000 qP_L_law 676 [] ls st g M Q := x_tsw.trans rfl
theorem tl_15 {g : q_G} {M : q_M} {Q : Option q_V → q_G → q_M → Prop} {ls st : List q_V} {nx : Nat} : q_T 1 1000 qP_L_law nx [.tableswitch (1434) (0) (35) #[192, 215, 238, 281, 314, 389, 402, 425, 468, 511, 554, 587, 630, 643, 676, 709, 732, 755, 778, 801, 834, 858, 891, 934, 987, 1010, 1043, 1086, 1119, 1173, 1186, 1199, 1242, 1285, 1348, 1401]] ls (qI 15 :: st) g M Q = q_T 1 1000 qP_L_law 709 [] ls st g M Q := x_tsw.trans rfl
theorem tl_16 {g : q_G} {M : q_M} {Q : Option q_V → q_G → q_M → Prop} {ls st : List q_V} {nx : Nat} : q_T 1 1000 qP_L_law nx [.tableswitch (1434) (0) (35) #[192, 215, 238, 281, 314, 389, 402, 425, 468, 511, 554, 587, 630, 643, 676, 709, 732, 755, 778, 801, 834, 858, 891, 934, 987, 1010, 1043, 1086, 1119, 1173, 1186, 1199, 1242, 1285, 1348, 1401]] ls (qI 16 :: st) g M Q = q_T 1 1000 qP_L_law 732 [] ls st g M Q := x_tsw.trans rfl
theorem tl_17 {g : q_G} {M : q_M} {Q : Option q_V → q_G → q_M → Prop} {ls st : List q_V} {nx : Nat} : q_T 1 1000 qP_L_law nx [.tableswitch (1434) (0) (35) #[192, 215, 238, 281, 314, 389, 402, 425, 468, 511, 554, 587, 630, 643, 676, 709, 732, 755, 778, 801, 834, 858, 891, 934, 987, 1010, 1043, 1086, 1119, 1173, 1186, 1199, 1242, 1285, 1348, 1401]] ls (qI 17 :: st) g M Q = q_T 1 1000 qP_L_law 755 [] ls st g M Q := x_tsw.trans rfl
theorem tl_18 {g : q_G} {M : q_M} {Q : Option q_V → q_G → q_M → Prop} {ls st : List q_V} {nx : Nat} : q_T 1 1000 qP_L_law nx [.tableswitch (1434) (0) (35) #[192, 215, 238, 281, 314, 389, 402, 425, 468, 511, 554, 587, 630, 643, 676, 709, 732, 755, 778, 801, 834, 858, 891, 934, 987, 1010, 1043, 1086, 1119, 1173, 1186, 1199, 1242, 1285, 1348, 1401]] ls (qI 18 :: st) g M Q = q_T 1 1000 qP_L_law 778 [] ls st g M Q := x_tsw.trans rfl
theorem tl_19 {g : q_G} {M : q_M} {Q : Option q_V → q_G → q_M → Prop} {ls st : List q_V} {nx : Nat} : q_T 1 1000 qP_L_law nx [.tableswitch (1434) (0) (35) #[192, 215, 238, 281, 314, 389, 402, 425, 468, 511, 554, 587, 630, 643, 676, 709, 732, 755, 778, 801, 834, 858, 891, 934, 987, 1010, 1043, 1086, 1119, 1173, 1186, 1199, 1242, 1285, 1348, 1401]] ls (qI 19 :: st) g M Q = q_T 1 1000 qP_L_law 801 [] ls st g M Q := x_tsw.trans rfl
theorem tl_20 {g : q_G} {M : q_M} {Q : Option q_V → q_G → q_M → Prop} {ls st : List q_V} {nx : Nat} : q_T 1 1000 qP_L_law nx [.tableswitch (1434) (0) (35) #[192, 215, 238, 281, 314, 389, 402, 425, 468, 511, 554, 587, 630, 643, 676, 709, 732, 755, 778, 801, 834, 858, 891, 934, 987, 1010, 1043, 1086, 1119, 1173, 1186, 1199, 1242, 1285, 1348, 1401]] ls (qI 20 :: st) g M Q = q_T 1 1000 qP_L_law 834 [] ls st g M Q := x_tsw.trans rfl
theorem tl_21 {g : q_G} {M : q_M} {Q : Option q_V → q_G → q_M → Prop} {ls st : List q_V} {nx : Nat} : q_T 1 1000 qP_L_law nx [.tableswitch (1434) (0) (35) #[192, 215, 238, 281, 314, 389, 402, 425, 468, 511, 554, 587, 630, 643, 676, 709, 732, 755, 778, 801, 834, 858, 891, 934, 987, 1010, 1043, 1086, 1119, 1173, 1186, 1199, 1242, 1285, 1348, 1401]] ls (qI 21 :: st) g M Q = q_T 1 1000 qP_L_law 858 [] ls st g M Q := x_tsw.trans rfl
theorem tl_22 {g : q_G} {M : q_M} {Q : Option q_V → q_G → q_M → Prop} {ls st : List q_V} {nx : Nat} : q_T 1 1000 qP_L_law nx [.tableswitch (1434) (0) (35) #[192, 215, 238, 281, 314, 389, 402, 425, 468, 511, 554, 587, 630, 643, 676, 709, 732, 755, 778, 801, 834, 858, 891, 934, 987, 1010, 1043, 1086, 1119, 1173, 1186, 1199, 1242, 1285, 1348, 1401]] ls (qI 22 :: st) g M Q = q_T 1 1000 qP_L_law 891 [] ls st g M Q := x_tsw.trans rfl
theorem tl_23 {g : q_G} {M : q_M} {Q : Option q_V → q_G → q_M → Prop} {ls st : List q_V} {nx : Nat} : q_T 1 1000 qP_L_law nx [.tableswitch (1434) (0) (35) #[192, 215, 238, 281, 314, 389, 402, 425, 468, 511, 554, 587, 630, 643, 676, 709, 732, 755, 778, 801, 834, 858, 891, 934, 987, 1010, 1043, 1086, 1119, 1173, 1186, 1199, 1242, 1285, 1348, 1401]] ls (qI 23 :: st) g M Q = q_T 1 1000 qP_L_law 934 [] ls st g M Q := x_tsw.trans rfl
theorem tl_24 {g : q_G} {M : q_M} {Q : Option q_V → q_G → q_M → Prop} {ls st : List q_V} {nx : Nat} : q_T 1 1000 qP_L_law nx [.tableswitch (1434) (0) (35) #[192, 215, 238, 281, 314, 389, 402, 425, 468, 511, 554, 587, 630, 643, 676, 709, 732, 755, 778, 801, 834, 858, 891, 934, 987, 1010, 1043, 1086, 1119, 1173, 1186, 1199, 1242, 1285, 1348, 1401]] ls (qI 24 :: st) g M Q = q_T 1 1000 qP_L_law 987 [] ls st g M Q := x_tsw.trans rfl
theorem tl_25 {g : q_G} {M : q_M} {Q : Option q_V → q_G → q_M → Prop} {ls st : List q_V} {nx : Nat} : q_T 1 1000 qP_L_law nx [.tableswitch (1434) (0) (35) #[192, 215, 238, 281, 314, 389, 402, 425, 468, 511, 554, 587, 630, 643, 676, 709, 732, 755, 778, 801, 834, 858, 891, 934, 987, 1010, 1043, 1086, 1119, 1173, 1186, 1199, 1242, 1285, 1348, 1401]] ls (qI 25 :: st) g M Q = q_T 1 1000 qP_L_law 1010 [] ls st g M Q := x_tsw.trans rfl
theorem tl_26 {g : q_G} {M : q_M} {Q : Option q_V → q_G → q_M → Prop} {ls st : List q_V} {nx : Nat} : q_T 1 1000 qP_L_law nx [.tableswitch (1434) (0) (35) #[192, 215, 238, 281, 314, 389, 402, 425, 468, 511, 554, 587, 630, 643, 676, 709, 732, 755, 778, 801, 834, 858, 891, 934, 987, 1010, 1043, 1086, 1119, 1173, 1186, 1199, 1242, 1285, 1348, 1401]] ls (qI 26 :: st) g M Q = q_T 1 1000 qP_L_law 1043 [] ls st g M Q := x_tsw.trans rfl
theorem tl_27 {g : q_G} {M : q_M} {Q : Option q_V → q_G → q_M → Prop} {ls st : List q_V} {nx : Nat} : q_T 1 1000 qP_L_law nx [.tableswitch (1434) (0) (35) #[192, 215, 238, 281, 314, 389, 402, 425, 468, 511, 554, 587, 630, 643, 676, 709, 732, 755, 778, 801, 834, 858, 891, 934, 987, 1010, 1043, 1086, 1119, 1173, 1186, 1199, 1242, 1285, 1348, 1401]] ls (qI 27 :: st) g M Q = q_T 1 1000 qP_L_law 1086 [] ls st g M Q := x_tsw.trans rfl
theorem tl_28 {g : q_G} {M : q_M} {Q : Option q_V → q_G → q_M → Prop} {ls st : List q_V} {nx : Nat} : q_T 1 1000 qP_L_law nx [.tableswitch (1434) (0) (35) #[192, 215, 238, 281, 314, 389, 402, 425, 468, 511, 554, 587, 630, 643, 676, 709, 732, 755, 778, 801, 834, 858, 891, 934, 987, 1010, 1043, 1086, 1119, 1173, 1186, 1199, 1242, 1285, 1348, 1401]] ls (qI 28 :: st) g M Q = q_T 1 1000 qP_L_law 1119 [] ls st g M Q := x_tsw.trans rfl
theorem tl_29 {g : q_G} {M : q_M} {Q : Option q_V → q_G → q_M → Prop} {ls st : List q_V} {nx : Nat} : q_T 1 1000 qP_L_law nx [.tableswitch (1434) (0) (35) #[192, 215, 238, 281, 314, 389, 402, 425, 468, 511, 554, 587, 630, 643, 676, 709, 732, 755, 778, 801, 834, 858, 891, 934, 987, 1010, 1043, 1086, 1119, 1173, 1186, 1199, 1242, 1285, 1348, 1401]] ls (qI 29 :: st) g M Q = q_T 1 1000 qP_L_law 1173 [] ls st g M Q := x_tsw.trans rfl
theorem tl_30 {g : q_G} {M : q_M} {Q : Option q_V → q_G → q_M → Prop} {ls st : List q_V} {nx : Nat} : q_T 1 1000 qP_L_law nx [.tableswitch (1434) (0) (35) #[192, 215, 238, 281, 314, 389, 402, 425, 468, 511, 554, 587, 630, 643, 676, 709, 732, 755, 778, 801, 834, 858, 891, 934, 987, 1010, 1043, 1086, 1119, 1173, 1186, 1199, 1242, 1285, 1348, 1401]] ls (qI 30 :: st) g M Q = q_T 1 1000 qP_L_law 1186 [] ls st g M Q := x_tsw.trans rfl
theorem tl_31 {g : q_G} {M : q_M} {Q : Option q_V → q_G → q_M → Prop} {ls st : List q_V} {nx : Nat} : q_T 1 1000 qP_L_law nx [.tableswitch (1434) (0) (35) #[192, 215, 238, 281, 314, 389, 402, 425, 468, 511, 554, 587, 630, 643, 676, 709, 732, 755, 778, 801, 834, 858, 891, 934, 987, 1010, 1043, 1086, 1119, 1173, 1186, 1199, 1242, 1285, 1348, 1401]] ls (qI 31 :: st) g M Q = q_T 1 1000 qP_L_law 1199 [] ls st g M Q := x_tsw.trans rfl
theorem tl_32 {g : q_G} {M : q_M} {Q : Option q_V → q_G → q_M → Prop} {ls st : List q_V} {nx : Nat} : q_T 1 1000 qP_L_law nx [.tableswitch (1434) (0) (35) #[192, 215, 238, 281, 314, 389, 402, 425, 468, 511, 554, 587, 630, 643, 676, 709, 732, 755, 778, 801, 834, 858, 891, 934, 987, 1010, 1043, 1086, 1119, 1173, 1186, 1199, 1242, 1285, 1348, 1401]] ls (qI 32 :: st) g M Q = q_T 1 1000 qP_L_law 1242 [] ls st g M Q := x_tsw.trans rfl
theorem tl_33 {g : q_G} {M : q_M} {Q : Option q_V → q_G → q_M → Prop} {ls st : List q_V} {nx : Nat} : q_T 1 1000 qP_L_law nx [.tableswitch (1434) (0) (35) #[192, 215, 238, 281, 314, 389, 402, 425, 468, 511, 554, 587, 630, 643, 676, 709, 732, 755, 778, 801, 834, 858, 891, 934, 987, 1010, 1043, 1086, 1119, 1173, 1186, 1199, 1242, 1285, 1348, 1401]] ls (qI 33 :: st) g M Q = q_T 1 1000 qP_L_law 1285 [] ls st g M Q := x_tsw.trans rfl
theorem tl_34 {g : q_G} {M : q_M} {Q : Option q_V → q_G → q_M → Prop} {ls st : List q_V} {nx : Nat} : q_T 1 1000 qP_L_law nx [.tableswitch (1434) (0) (35) #[192, 215, 238, 281, 314, 389, 402, 425, 468, 511, 554, 587, 630, 643, 676, 709, 732, 755, 778, 801, 834, 858, 891, 934, 987, 1010, 1043, 1086, 1119, 1173, 1186, 1199, 1242, 1285, 1348, 1401]] ls (qI 34 :: st) g M Q = q_T 1 1000 qP_L_law 1348 [] ls st g M Q := x_tsw.trans rfl
theorem tl_35 {g : q_G} {M : q_M} {Q : Option q_V → q_G → q_M → Prop} {ls st : List q_V} {nx : Nat} : q_T 1 1000 qP_L_law nx [.tableswitch (1434) (0) (35) #[192, 215, 238, 281, 314, 389, 402, 425, 468, 511, 554, 587, 630, 643, 676, 709, 732, 755, 778, 801, 834, 858, 891, 934, 987, 1010, 1043, 1086, 1119, 1173, 1186, 1199, 1242, 1285, 1348, 1401]] ls (qI 35 :: st) g M Q = q_T 1 1000 qP_L_law 1401 [] ls st g M Q := x_tsw.trans rfl
set_option maxRecDepth 20000 in
theorem p1_owed {L : Nat} {xs : Nat → Int32} (hL : L ≤ 7) : q_Owed L xs := by
  unfold q_Owed
  have hq : ∀ M : q_M, (fun (v : Option q_V) (g : q_G) (_ : q_M) => v = some (qI 1) ∧ g.1 ≤ 600000 ∧ g.2 ≤ 7302250) (some (qI 1)) (124, 3394) M := fun M => ⟨rfl, by decide, by decide⟩
  by_cases h7 : L = 7
  · subst h7
    have m7 : q_lk q_T0 (q_Bm 7 xs) 1000001 0 = 7 := rfl
    simp (disch := omega) only [b_L_law_18, x_loadI_3, x_loadR_0, x_loadS_0, x_slen, x_iconst, x_isub, y_ic_gt_t, y_ic_gt_f, b_L_law_27, y_sald, x_iand, x_loadScr, q_isL_I, q_isL_R, q_isL_S, true_and, and_true, and_self, List.length_nil, List.length_cons, Nat.zero_add, x_K, x_Kn, Int.reduceToNat, Nat.reduceAdd, Nat.reduceLeDiff, Nat.zero_le, Int.reduceAdd, Int.reduceSub, Int.reduceNeg, q_add_e, q_sub_e, m7]
    generalize q_and (q_lk q_T0 (q_Bm 7 xs) 1000000 0) 63 = kk
    rcases (show kk < 0 ∨ kk = 0 ∨ kk = 1 ∨ kk = 2 ∨ kk = 3 ∨ kk = 4 ∨ kk = 5 ∨ kk = 6 ∨ kk = 7 ∨ kk = 8 ∨ kk = 9 ∨ kk = 10 ∨ kk = 11 ∨ kk = 12 ∨ kk = 13 ∨ kk = 14 ∨ kk = 15 ∨ kk = 16 ∨ kk = 17 ∨ kk = 18 ∨ kk = 19 ∨ kk = 20 ∨ kk = 21 ∨ kk = 22 ∨ kk = 23 ∨ kk = 24 ∨ kk = 25 ∨ kk = 26 ∨ kk = 27 ∨ kk = 28 ∨ kk = 29 ∨ kk = 30 ∨ kk = 31 ∨ kk = 32 ∨ kk = 33 ∨ kk = 34 ∨ kk = 35 ∨ 35 < kk by omega) with hk | rfl | rfl | rfl | rfl | rfl | rfl | rfl | rfl | rfl | rfl | rfl | rfl | rfl | rfl | rfl | rfl | rfl | rfl | rfl | rfl | rfl | rfl | rfl | rfl | rfl | rfl | rfl | rfl | rfl | rfl | rfl | rfl | rfl | rfl | rfl | rfl | hk
    · rw [y_tsw_o (Or.inl hk)]
      exact p1_end m7 (hq (q_lk q_T0 (q_Bm 7 xs)))
    · rw [tl_0]
      exact p1_law_0 hq
    · rw [tl_1]
      exact p1_law_1 hq
    · rw [tl_2]
      exact p1_law_2 hq
    · rw [tl_3]
      exact p1_law_3 hq
    · rw [tl_4]
      exact p1_law_4 hq
    · rw [tl_5]
      exact p1_law_5 hq
    · rw [tl_6]
      exact p1_law_6 hq
    · rw [tl_7]
      exact p1_law_7 hq
    · rw [tl_8]
      exact p1_law_8 hq
    · rw [tl_9]
      exact p1_law_9 hq
    · rw [tl_10]
      exact p1_law_10 hq
    · rw [tl_11]
      exact p1_law_11 hq
    · rw [tl_12]
      exact p1_law_12 hq
    · rw [tl_13]
      exact p1_law_13 hq
    · rw [tl_14]
      exact p1_law_14 hq
    · rw [tl_15]
      exact p1_law_15 hq
    · rw [tl_16]
      exact p1_law_16 hq
    · rw [tl_17]
      exact p1_law_17 hq
    · rw [tl_18]
      exact p1_law_18 hq
    · rw [tl_19]
      exact p1_law_19 hq
    · rw [tl_20]
      exact p1_law_20 hq
    · rw [tl_21]
      exact p1_law_21 hq
    · rw [tl_22]
      exact p1_law_22 hq
    · rw [tl_23]
      exact p1_law_23 hq
    · rw [tl_24]
      exact p1_law_24 hq
    · rw [tl_25]
      exact p1_law_25 hq
    · rw [tl_26]
      exact p1_law_26 hq
    · rw [tl_27]
      exact p1_law_27 hq
    · rw [tl_28]
      exact p1_law_28 hq
    · rw [tl_29]
      exact p1_law_29 hq
    · rw [tl_30]
      exact p1_law_30 hq
    · rw [tl_31]
      exact p1_law_31 hq
    · rw [tl_32]
      exact p1_law_32 hq
    · rw [tl_33]
      exact p1_law_33 hq
    · rw [tl_34]
      exact p1_law_34 hq
    · rw [tl_35]
      exact p1_law_35 hq
    · rw [y_tsw_o (Or.inr hk)]
      exact p1_end m7 (hq (q_lk q_T0 (q_Bm 7 xs)))
  · have m7 : q_lk q_T0 (q_Bm L xs) 1000001 0 = L := rfl
    have hl : (L : Int) < 7 := by omega
    simp (disch := omega) only [b_L_law_18, x_loadI_3, x_loadR_0, x_loadS_0, x_slen, x_iconst, x_isub, y_ic_gt_t, y_ic_gt_f, b_L_law_1440, x_ret1_0, x_ret1_1, x_loadScr, q_isL_I, q_isL_R, q_isL_S, true_and, and_true, and_self, List.length_nil, List.length_cons, Nat.zero_add, x_K, x_Kn, Int.reduceToNat, Nat.reduceAdd, Nat.reduceLeDiff, Nat.zero_le, Int.reduceAdd, Int.reduceSub, Int.reduceNeg, q_add_e, q_sub_e, m7]
    all_goals exact hq _
