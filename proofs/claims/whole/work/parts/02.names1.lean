theorem dX0_times_0 : decode cX0_times 0 = .ok (.iconst 0, 1) := by decide +kernel
theorem dX0_times_1 : decode cX0_times 1 = .ok (.istore_n 2, 1) := by decide +kernel
theorem dX0_times_2 : decode cX0_times 2 = .ok (.iload_n 0, 1) := by decide +kernel
theorem dX0_times_3 : decode cX0_times 3 = .ok (.istore_n 3, 1) := by decide +kernel
theorem dX0_times_4 : decode cX0_times 4 = .ok (.iconst 0, 1) := by decide +kernel
theorem dX0_times_5 : decode cX0_times 5 = .ok (.istore 4, 2) := by decide +kernel
theorem dX0_times_7 : decode cX0_times 7 = .ok (.iload 4, 2) := by decide +kernel
theorem dX0_times_9 : decode cX0_times 9 = .ok (.bipush 8, 2) := by decide +kernel
theorem dX0_times_11 : decode cX0_times 11 = .ok (.if_icmp .ge 40, 3) := by decide +kernel
theorem dX0_times_14 : decode cX0_times 14 = .ok (.iload_n 1, 1) := by decide +kernel
theorem dX0_times_15 : decode cX0_times 15 = .ok (.iload 4, 2) := by decide +kernel
theorem dX0_times_17 : decode cX0_times 17 = .ok (.ishr, 1) := by decide +kernel
theorem dX0_times_18 : decode cX0_times 18 = .ok (.iconst 1, 1) := by decide +kernel
theorem dX0_times_19 : decode cX0_times 19 = .ok (.iand, 1) := by decide +kernel
theorem dX0_times_20 : decode cX0_times 20 = .ok (.iconst 1, 1) := by decide +kernel
theorem dX0_times_21 : decode cX0_times 21 = .ok (.if_icmp .ne 7, 3) := by decide +kernel
theorem dX0_times_24 : decode cX0_times 24 = .ok (.iload_n 2, 1) := by decide +kernel
theorem dX0_times_25 : decode cX0_times 25 = .ok (.iload_n 3, 1) := by decide +kernel
theorem dX0_times_26 : decode cX0_times 26 = .ok (.ixor, 1) := by decide +kernel
theorem dX0_times_27 : decode cX0_times 27 = .ok (.istore_n 2, 1) := by decide +kernel
theorem dX0_times_28 : decode cX0_times 28 = .ok (.iload_n 3, 1) := by decide +kernel
theorem dX0_times_29 : decode cX0_times 29 = .ok (.iconst 1, 1) := by decide +kernel
theorem dX0_times_30 : decode cX0_times 30 = .ok (.ishl, 1) := by decide +kernel
theorem dX0_times_31 : decode cX0_times 31 = .ok (.istore_n 3, 1) := by decide +kernel
theorem dX0_times_32 : decode cX0_times 32 = .ok (.iload_n 3, 1) := by decide +kernel
theorem dX0_times_33 : decode cX0_times 33 = .ok (.sipush 256, 3) := by decide +kernel
theorem dX0_times_36 : decode cX0_times 36 = .ok (.if_icmp .lt 9, 3) := by decide +kernel
theorem dX0_times_39 : decode cX0_times 39 = .ok (.iload_n 3, 1) := by decide +kernel
theorem dX0_times_40 : decode cX0_times 40 = .ok (.sipush 285, 3) := by decide +kernel
theorem dX0_times_43 : decode cX0_times 43 = .ok (.ixor, 1) := by decide +kernel
theorem dX0_times_44 : decode cX0_times 44 = .ok (.istore_n 3, 1) := by decide +kernel
theorem dX0_times_45 : decode cX0_times 45 = .ok (.iinc 4 1, 3) := by decide +kernel
theorem dX0_times_48 : decode cX0_times 48 = .ok (.goto (-41), 3) := by decide +kernel
theorem dX0_times_51 : decode cX0_times 51 = .ok (.iload_n 2, 1) := by decide +kernel
theorem dX0_times_52 : decode cX0_times 52 = .ok (.ireturn, 1) := by decide +kernel
set_option maxRecDepth 20000 in
theorem ggX0_inverse_X0_times : GoodIn wsX0_inverse wsX0_times := goodIn_r _ [4] (by decide +kernel) (by decide +kernel)
set_option maxRecDepth 20000 in
theorem gX0_inverse_X0_times : GoodIn wsX0_inverse (va_wsS RX0 9 yX0_times wsX0_times) := goodIn_app (goodIn_of _ (by decide +kernel)) ggX0_inverse_X0_times
theorem dX0_inverse_0 : decode cX0_inverse 0 = .ok (.iload_n 0, 1) := by decide +kernel
theorem dX0_inverse_1 : decode cX0_inverse 1 = .ok (.istore_n 1, 1) := by decide +kernel
theorem dX0_inverse_2 : decode cX0_inverse 2 = .ok (.iconst 1, 1) := by decide +kernel
theorem dX0_inverse_3 : decode cX0_inverse 3 = .ok (.istore_n 2, 1) := by decide +kernel
theorem dX0_inverse_4 : decode cX0_inverse 4 = .ok (.iconst 1, 1) := by decide +kernel
theorem dX0_inverse_5 : decode cX0_inverse 5 = .ok (.istore_n 3, 1) := by decide +kernel
theorem dX0_inverse_6 : decode cX0_inverse 6 = .ok (.iload_n 3, 1) := by decide +kernel
theorem dX0_inverse_7 : decode cX0_inverse 7 = .ok (.bipush 8, 2) := by decide +kernel
theorem dX0_inverse_9 : decode cX0_inverse 9 = .ok (.if_icmp .ge 21, 3) := by decide +kernel
theorem dX0_inverse_12 : decode cX0_inverse 12 = .ok (.iload_n 1, 1) := by decide +kernel
theorem dX0_inverse_13 : decode cX0_inverse 13 = .ok (.iload_n 1, 1) := by decide +kernel
theorem dX0_inverse_14 : decode cX0_inverse 14 = .ok (.invokestatic 9, 3) := by decide +kernel
theorem dX0_inverse_17 : decode cX0_inverse 17 = .ok (.istore_n 1, 1) := by decide +kernel
theorem dX0_inverse_18 : decode cX0_inverse 18 = .ok (.iload_n 2, 1) := by decide +kernel
theorem dX0_inverse_19 : decode cX0_inverse 19 = .ok (.iload_n 1, 1) := by decide +kernel
theorem dX0_inverse_20 : decode cX0_inverse 20 = .ok (.invokestatic 9, 3) := by decide +kernel
theorem dX0_inverse_23 : decode cX0_inverse 23 = .ok (.istore_n 2, 1) := by decide +kernel
theorem dX0_inverse_24 : decode cX0_inverse 24 = .ok (.iinc 3 1, 3) := by decide +kernel
theorem dX0_inverse_27 : decode cX0_inverse 27 = .ok (.goto (-21), 3) := by decide +kernel
theorem dX0_inverse_30 : decode cX0_inverse 30 = .ok (.iload_n 2, 1) := by decide +kernel
theorem dX0_inverse_31 : decode cX0_inverse 31 = .ok (.ireturn, 1) := by decide +kernel
set_option maxRecDepth 20000 in
theorem ggX0_weighted_X0_times : GoodIn wsX0_weighted wsX0_times := goodIn_r _ [4] (by decide +kernel) (by decide +kernel)
set_option maxRecDepth 20000 in
theorem gX0_weighted_X0_times : GoodIn wsX0_weighted (va_wsS RX0 9 yX0_times wsX0_times) := goodIn_app (goodIn_of _ (by decide +kernel)) ggX0_weighted_X0_times
theorem dX0_weighted_0 : decode cX0_weighted 0 = .ok (.iconst 1, 1) := by decide +kernel
theorem dX0_weighted_1 : decode cX0_weighted 1 = .ok (.iload_n 0, 1) := by decide +kernel
theorem dX0_weighted_2 : decode cX0_weighted 2 = .ok (.ishl, 1) := by decide +kernel
theorem dX0_weighted_3 : decode cX0_weighted 3 = .ok (.iload_n 1, 1) := by decide +kernel
theorem dX0_weighted_4 : decode cX0_weighted 4 = .ok (.invokestatic 9, 3) := by decide +kernel
theorem dX0_weighted_7 : decode cX0_weighted 7 = .ok (.ireturn, 1) := by decide +kernel
theorem dX0_isIn_0 : decode cX0_isIn 0 = .ok (.iload_n 0, 1) := by decide +kernel
theorem dX0_isIn_1 : decode cX0_isIn 1 = .ok (.iload_n 1, 1) := by decide +kernel
theorem dX0_isIn_2 : decode cX0_isIn 2 = .ok (.ishr, 1) := by decide +kernel
theorem dX0_isIn_3 : decode cX0_isIn 3 = .ok (.iconst 1, 1) := by decide +kernel
theorem dX0_isIn_4 : decode cX0_isIn 4 = .ok (.iand, 1) := by decide +kernel
theorem dX0_isIn_5 : decode cX0_isIn 5 = .ok (.iconst 1, 1) := by decide +kernel
theorem dX0_isIn_6 : decode cX0_isIn 6 = .ok (.if_icmp .ne 7, 3) := by decide +kernel
theorem dX0_isIn_9 : decode cX0_isIn 9 = .ok (.iconst 1, 1) := by decide +kernel
theorem dX0_isIn_10 : decode cX0_isIn 10 = .ok (.goto 4, 3) := by decide +kernel
theorem dX0_isIn_13 : decode cX0_isIn 13 = .ok (.iconst 0, 1) := by decide +kernel
theorem dX0_isIn_14 : decode cX0_isIn 14 = .ok (.ireturn, 1) := by decide +kernel
set_option maxRecDepth 20000 in
theorem ggX0_pieces_X0_weighted : GoodIn wsX0_pieces wsX0_weighted := goodIn_r _ [5, 6, 7, 4, 8] (by decide +kernel) (by decide +kernel)
set_option maxRecDepth 20000 in
theorem gX0_pieces_X0_weighted : GoodIn wsX0_pieces (va_wsS RX0 15 yX0_weighted wsX0_weighted) := goodIn_app (goodIn_of _ (by decide +kernel)) ggX0_pieces_X0_weighted
theorem dX0_pieces_0 : decode cX0_pieces 0 = .ok (.bipush 6, 2) := by decide +kernel
theorem dX0_pieces_2 : decode cX0_pieces 2 = .ok (.newarray .int, 2) := by decide +kernel
theorem dX0_pieces_4 : decode cX0_pieces 4 = .ok (.astore_n 1, 1) := by decide +kernel
theorem dX0_pieces_5 : decode cX0_pieces 5 = .ok (.iconst 0, 1) := by decide +kernel
theorem dX0_pieces_6 : decode cX0_pieces 6 = .ok (.istore_n 2, 1) := by decide +kernel
theorem dX0_pieces_7 : decode cX0_pieces 7 = .ok (.iconst 0, 1) := by decide +kernel
theorem dX0_pieces_8 : decode cX0_pieces 8 = .ok (.istore_n 3, 1) := by decide +kernel
theorem dX0_pieces_9 : decode cX0_pieces 9 = .ok (.iconst 0, 1) := by decide +kernel
theorem dX0_pieces_10 : decode cX0_pieces 10 = .ok (.istore 4, 2) := by decide +kernel
theorem dX0_pieces_12 : decode cX0_pieces 12 = .ok (.iload 4, 2) := by decide +kernel
theorem dX0_pieces_14 : decode cX0_pieces 14 = .ok (.iconst 4, 1) := by decide +kernel
theorem dX0_pieces_15 : decode cX0_pieces 15 = .ok (.if_icmp .ge 43, 3) := by decide +kernel
theorem dX0_pieces_18 : decode cX0_pieces 18 = .ok (.iload_n 0, 1) := by decide +kernel
theorem dX0_pieces_19 : decode cX0_pieces 19 = .ok (.bipush 8, 2) := by decide +kernel
theorem dX0_pieces_21 : decode cX0_pieces 21 = .ok (.iload 4, 2) := by decide +kernel
theorem dX0_pieces_23 : decode cX0_pieces 23 = .ok (.imul, 1) := by decide +kernel
theorem dX0_pieces_24 : decode cX0_pieces 24 = .ok (.ishr, 1) := by decide +kernel
theorem dX0_pieces_25 : decode cX0_pieces 25 = .ok (.sipush 255, 3) := by decide +kernel
theorem dX0_pieces_28 : decode cX0_pieces 28 = .ok (.iand, 1) := by decide +kernel
theorem dX0_pieces_29 : decode cX0_pieces 29 = .ok (.istore 5, 2) := by decide +kernel
theorem dX0_pieces_31 : decode cX0_pieces 31 = .ok (.aload_n 1, 1) := by decide +kernel
theorem dX0_pieces_32 : decode cX0_pieces 32 = .ok (.iload 4, 2) := by decide +kernel
theorem dX0_pieces_34 : decode cX0_pieces 34 = .ok (.iload 5, 2) := by decide +kernel
theorem dX0_pieces_36 : decode cX0_pieces 36 = .ok (.iastore, 1) := by decide +kernel
theorem dX0_pieces_37 : decode cX0_pieces 37 = .ok (.iload_n 2, 1) := by decide +kernel
theorem dX0_pieces_38 : decode cX0_pieces 38 = .ok (.iload 5, 2) := by decide +kernel
theorem dX0_pieces_40 : decode cX0_pieces 40 = .ok (.ixor, 1) := by decide +kernel
theorem dX0_pieces_41 : decode cX0_pieces 41 = .ok (.istore_n 2, 1) := by decide +kernel
theorem dX0_pieces_42 : decode cX0_pieces 42 = .ok (.iload_n 3, 1) := by decide +kernel
theorem dX0_pieces_43 : decode cX0_pieces 43 = .ok (.iload 4, 2) := by decide +kernel
theorem dX0_pieces_45 : decode cX0_pieces 45 = .ok (.iload 5, 2) := by decide +kernel
theorem dX0_pieces_47 : decode cX0_pieces 47 = .ok (.invokestatic 15, 3) := by decide +kernel
theorem dX0_pieces_50 : decode cX0_pieces 50 = .ok (.ixor, 1) := by decide +kernel
theorem dX0_pieces_51 : decode cX0_pieces 51 = .ok (.istore_n 3, 1) := by decide +kernel
theorem dX0_pieces_52 : decode cX0_pieces 52 = .ok (.iinc 4 1, 3) := by decide +kernel
theorem dX0_pieces_55 : decode cX0_pieces 55 = .ok (.goto (-43), 3) := by decide +kernel
theorem dX0_pieces_58 : decode cX0_pieces 58 = .ok (.aload_n 1, 1) := by decide +kernel
theorem dX0_pieces_59 : decode cX0_pieces 59 = .ok (.iconst 4, 1) := by decide +kernel
theorem dX0_pieces_60 : decode cX0_pieces 60 = .ok (.iload_n 2, 1) := by decide +kernel
theorem dX0_pieces_61 : decode cX0_pieces 61 = .ok (.iastore, 1) := by decide +kernel
theorem dX0_pieces_62 : decode cX0_pieces 62 = .ok (.aload_n 1, 1) := by decide +kernel
theorem dX0_pieces_63 : decode cX0_pieces 63 = .ok (.iconst 5, 1) := by decide +kernel
theorem dX0_pieces_64 : decode cX0_pieces 64 = .ok (.iload_n 3, 1) := by decide +kernel
theorem dX0_pieces_65 : decode cX0_pieces 65 = .ok (.iastore, 1) := by decide +kernel
theorem dX0_pieces_66 : decode cX0_pieces 66 = .ok (.aload_n 1, 1) := by decide +kernel
theorem dX0_pieces_67 : decode cX0_pieces 67 = .ok (.areturn, 1) := by decide +kernel
set_option maxRecDepth 20000 in
theorem ggX0_solve_X0_isIn : GoodIn wsX0_solve wsX0_isIn := goodIn_r _ [4] (by decide +kernel) (by decide +kernel)
set_option maxRecDepth 20000 in
theorem gX0_solve_X0_isIn : GoodIn wsX0_solve (va_wsS RX0 18 yX0_isIn wsX0_isIn) := goodIn_app (goodIn_of _ (by decide +kernel)) ggX0_solve_X0_isIn
set_option maxRecDepth 20000 in
theorem ggX0_solve_X0_weighted : GoodIn wsX0_solve wsX0_weighted := goodIn_r _ [7, 8, 9, 3, 10] (by decide +kernel) (by decide +kernel)
set_option maxRecDepth 20000 in
theorem gX0_solve_X0_weighted : GoodIn wsX0_solve (va_wsS RX0 15 yX0_weighted wsX0_weighted) := goodIn_app (goodIn_of _ (by decide +kernel)) ggX0_solve_X0_weighted
set_option maxRecDepth 20000 in
theorem ggX0_solve_X0_solveTwo : GoodIn wsX0_solve wsX0_solveTwo := goodIn_r _ [13, 5, 6, 3, 7, 8, 9, 10, 14, 15, 16] (by decide +kernel) (by decide +kernel)
set_option maxRecDepth 20000 in
theorem gX0_solve_X0_solveTwo : GoodIn wsX0_solve (va_wsS RX0 22 yX0_solveTwo wsX0_solveTwo) := goodIn_app (goodIn_of _ (by decide +kernel)) ggX0_solve_X0_solveTwo
set_option maxRecDepth 20000 in
theorem ggX0_solve_X0_inverse : GoodIn wsX0_solve wsX0_inverse := goodIn_r _ [16, 8, 9, 3, 10] (by decide +kernel) (by decide +kernel)
set_option maxRecDepth 20000 in
theorem gX0_solve_X0_inverse : GoodIn wsX0_solve (va_wsS RX0 26 yX0_inverse wsX0_inverse) := goodIn_app (goodIn_of _ (by decide +kernel)) ggX0_solve_X0_inverse
set_option maxRecDepth 20000 in
theorem ggX0_solve_X0_times : GoodIn wsX0_solve wsX0_times := goodIn_r _ [10] (by decide +kernel) (by decide +kernel)
set_option maxRecDepth 20000 in
theorem gX0_solve_X0_times : GoodIn wsX0_solve (va_wsS RX0 9 yX0_times wsX0_times) := goodIn_app (goodIn_of _ (by decide +kernel)) ggX0_solve_X0_times
theorem dX0_solve_0 : decode cX0_solve 0 = .ok (.iconst 0, 1) := by decide +kernel
theorem dX0_solve_1 : decode cX0_solve 1 = .ok (.istore_n 2, 1) := by decide +kernel
theorem dX0_solve_2 : decode cX0_solve 2 = .ok (.iload_n 1, 1) := by decide +kernel
theorem dX0_solve_3 : decode cX0_solve 3 = .ok (.iconst 4, 1) := by decide +kernel
theorem dX0_solve_4 : decode cX0_solve 4 = .ok (.invokestatic 18, 3) := by decide +kernel
theorem dX0_solve_7 : decode cX0_solve 7 = .ok (.ifCond .eq 15, 3) := by decide +kernel
theorem dX0_solve_10 : decode cX0_solve 10 = .ok (.iconst 4, 1) := by decide +kernel
theorem dX0_solve_11 : decode cX0_solve 11 = .ok (.aload_n 0, 1) := by decide +kernel
theorem dX0_solve_12 : decode cX0_solve 12 = .ok (.arraylength, 1) := by decide +kernel
theorem dX0_solve_13 : decode cX0_solve 13 = .ok (.if_icmp .ge 9, 3) := by decide +kernel
theorem dX0_solve_16 : decode cX0_solve 16 = .ok (.aload_n 0, 1) := by decide +kernel
theorem dX0_solve_17 : decode cX0_solve 17 = .ok (.iconst 4, 1) := by decide +kernel
theorem dX0_solve_18 : decode cX0_solve 18 = .ok (.iaload, 1) := by decide +kernel
theorem dX0_solve_19 : decode cX0_solve 19 = .ok (.goto 4, 3) := by decide +kernel
theorem dX0_solve_22 : decode cX0_solve 22 = .ok (.iconst 0, 1) := by decide +kernel
theorem dX0_solve_23 : decode cX0_solve 23 = .ok (.istore_n 3, 1) := by decide +kernel
theorem dX0_solve_24 : decode cX0_solve 24 = .ok (.iload_n 1, 1) := by decide +kernel
theorem dX0_solve_25 : decode cX0_solve 25 = .ok (.iconst 5, 1) := by decide +kernel
theorem dX0_solve_26 : decode cX0_solve 26 = .ok (.invokestatic 18, 3) := by decide +kernel
theorem dX0_solve_29 : decode cX0_solve 29 = .ok (.ifCond .eq 15, 3) := by decide +kernel
theorem dX0_solve_32 : decode cX0_solve 32 = .ok (.iconst 5, 1) := by decide +kernel
theorem dX0_solve_33 : decode cX0_solve 33 = .ok (.aload_n 0, 1) := by decide +kernel
theorem dX0_solve_34 : decode cX0_solve 34 = .ok (.arraylength, 1) := by decide +kernel
theorem dX0_solve_35 : decode cX0_solve 35 = .ok (.if_icmp .ge 9, 3) := by decide +kernel
theorem dX0_solve_38 : decode cX0_solve 38 = .ok (.aload_n 0, 1) := by decide +kernel
theorem dX0_solve_39 : decode cX0_solve 39 = .ok (.iconst 5, 1) := by decide +kernel
theorem dX0_solve_40 : decode cX0_solve 40 = .ok (.iaload, 1) := by decide +kernel
theorem dX0_solve_41 : decode cX0_solve 41 = .ok (.goto 4, 3) := by decide +kernel
theorem dX0_solve_44 : decode cX0_solve 44 = .ok (.iconst 0, 1) := by decide +kernel
theorem dX0_solve_45 : decode cX0_solve 45 = .ok (.istore 4, 2) := by decide +kernel
theorem dX0_solve_47 : decode cX0_solve 47 = .ok (.iconst (-1), 1) := by decide +kernel
theorem dX0_solve_48 : decode cX0_solve 48 = .ok (.istore 5, 2) := by decide +kernel
theorem dX0_solve_50 : decode cX0_solve 50 = .ok (.iconst (-1), 1) := by decide +kernel
theorem dX0_solve_51 : decode cX0_solve 51 = .ok (.istore 6, 2) := by decide +kernel
theorem dX0_solve_53 : decode cX0_solve 53 = .ok (.iconst 0, 1) := by decide +kernel
theorem dX0_solve_54 : decode cX0_solve 54 = .ok (.istore 7, 2) := by decide +kernel
theorem dX0_solve_56 : decode cX0_solve 56 = .ok (.iload 7, 2) := by decide +kernel
theorem dX0_solve_58 : decode cX0_solve 58 = .ok (.iconst 4, 1) := by decide +kernel
theorem dX0_solve_59 : decode cX0_solve 59 = .ok (.if_icmp .ge 79, 3) := by decide +kernel
theorem dX0_solve_62 : decode cX0_solve 62 = .ok (.iload 7, 2) := by decide +kernel
theorem dX0_solve_64 : decode cX0_solve 64 = .ok (.aload_n 0, 1) := by decide +kernel
theorem dX0_solve_65 : decode cX0_solve 65 = .ok (.arraylength, 1) := by decide +kernel
theorem dX0_solve_66 : decode cX0_solve 66 = .ok (.if_icmp .ge 72, 3) := by decide +kernel
theorem dX0_solve_69 : decode cX0_solve 69 = .ok (.iload_n 1, 1) := by decide +kernel
theorem dX0_solve_70 : decode cX0_solve 70 = .ok (.iload 7, 2) := by decide +kernel
theorem dX0_solve_72 : decode cX0_solve 72 = .ok (.invokestatic 18, 3) := by decide +kernel
theorem dX0_solve_75 : decode cX0_solve 75 = .ok (.ifCond .eq 40, 3) := by decide +kernel
theorem dX0_solve_78 : decode cX0_solve 78 = .ok (.iload_n 2, 1) := by decide +kernel
theorem dX0_solve_79 : decode cX0_solve 79 = .ok (.aload_n 0, 1) := by decide +kernel
theorem dX0_solve_80 : decode cX0_solve 80 = .ok (.iload 7, 2) := by decide +kernel
theorem dX0_solve_82 : decode cX0_solve 82 = .ok (.iaload, 1) := by decide +kernel
theorem dX0_solve_83 : decode cX0_solve 83 = .ok (.bipush 8, 2) := by decide +kernel
theorem dX0_solve_85 : decode cX0_solve 85 = .ok (.iload 7, 2) := by decide +kernel
theorem dX0_solve_87 : decode cX0_solve 87 = .ok (.imul, 1) := by decide +kernel
theorem dX0_solve_88 : decode cX0_solve 88 = .ok (.ishl, 1) := by decide +kernel
theorem dX0_solve_89 : decode cX0_solve 89 = .ok (.ior, 1) := by decide +kernel
theorem dX0_solve_90 : decode cX0_solve 90 = .ok (.istore_n 2, 1) := by decide +kernel
theorem dX0_solve_91 : decode cX0_solve 91 = .ok (.iload_n 3, 1) := by decide +kernel
theorem dX0_solve_92 : decode cX0_solve 92 = .ok (.aload_n 0, 1) := by decide +kernel
theorem dX0_solve_93 : decode cX0_solve 93 = .ok (.iload 7, 2) := by decide +kernel
theorem dX0_solve_95 : decode cX0_solve 95 = .ok (.iaload, 1) := by decide +kernel
theorem dX0_solve_96 : decode cX0_solve 96 = .ok (.ixor, 1) := by decide +kernel
theorem dX0_solve_97 : decode cX0_solve 97 = .ok (.istore_n 3, 1) := by decide +kernel
theorem dX0_solve_98 : decode cX0_solve 98 = .ok (.iload 4, 2) := by decide +kernel
theorem dX0_solve_100 : decode cX0_solve 100 = .ok (.iload 7, 2) := by decide +kernel
theorem dX0_solve_102 : decode cX0_solve 102 = .ok (.aload_n 0, 1) := by decide +kernel
theorem dX0_solve_103 : decode cX0_solve 103 = .ok (.iload 7, 2) := by decide +kernel
theorem dX0_solve_105 : decode cX0_solve 105 = .ok (.iaload, 1) := by decide +kernel
theorem dX0_solve_106 : decode cX0_solve 106 = .ok (.invokestatic 15, 3) := by decide +kernel
theorem dX0_solve_109 : decode cX0_solve 109 = .ok (.ixor, 1) := by decide +kernel
theorem dX0_solve_110 : decode cX0_solve 110 = .ok (.istore 4, 2) := by decide +kernel
theorem dX0_solve_112 : decode cX0_solve 112 = .ok (.goto 20, 3) := by decide +kernel
theorem dX0_solve_115 : decode cX0_solve 115 = .ok (.iload 5, 2) := by decide +kernel
theorem dX0_solve_117 : decode cX0_solve 117 = .ok (.iconst (-1), 1) := by decide +kernel
theorem dX0_solve_118 : decode cX0_solve 118 = .ok (.if_icmp .ne 10, 3) := by decide +kernel
theorem dX0_solve_121 : decode cX0_solve 121 = .ok (.iload 7, 2) := by decide +kernel
theorem dX0_solve_123 : decode cX0_solve 123 = .ok (.istore 5, 2) := by decide +kernel
theorem dX0_solve_125 : decode cX0_solve 125 = .ok (.goto 7, 3) := by decide +kernel
theorem dX0_solve_128 : decode cX0_solve 128 = .ok (.iload 7, 2) := by decide +kernel
theorem dX0_solve_130 : decode cX0_solve 130 = .ok (.istore 6, 2) := by decide +kernel
theorem dX0_solve_132 : decode cX0_solve 132 = .ok (.iinc 7 1, 3) := by decide +kernel
theorem dX0_solve_135 : decode cX0_solve 135 = .ok (.goto (-79), 3) := by decide +kernel
theorem dX0_solve_138 : decode cX0_solve 138 = .ok (.iload 5, 2) := by decide +kernel
theorem dX0_solve_140 : decode cX0_solve 140 = .ok (.iconst (-1), 1) := by decide +kernel
theorem dX0_solve_141 : decode cX0_solve 141 = .ok (.if_icmp .ne 5, 3) := by decide +kernel
theorem dX0_solve_144 : decode cX0_solve 144 = .ok (.iload_n 2, 1) := by decide +kernel
theorem dX0_solve_145 : decode cX0_solve 145 = .ok (.ireturn, 1) := by decide +kernel
theorem dX0_solve_146 : decode cX0_solve 146 = .ok (.iload 6, 2) := by decide +kernel
theorem dX0_solve_148 : decode cX0_solve 148 = .ok (.iconst (-1), 1) := by decide +kernel
theorem dX0_solve_149 : decode cX0_solve 149 = .ok (.if_icmp .eq 16, 3) := by decide +kernel
theorem dX0_solve_152 : decode cX0_solve 152 = .ok (.iload_n 2, 1) := by decide +kernel
theorem dX0_solve_153 : decode cX0_solve 153 = .ok (.iload 5, 2) := by decide +kernel
theorem dX0_solve_155 : decode cX0_solve 155 = .ok (.iload 6, 2) := by decide +kernel
theorem dX0_solve_157 : decode cX0_solve 157 = .ok (.iload_n 3, 1) := by decide +kernel
theorem dX0_solve_158 : decode cX0_solve 158 = .ok (.iload 4, 2) := by decide +kernel
theorem dX0_solve_160 : decode cX0_solve 160 = .ok (.invokestatic 22, 3) := by decide +kernel
theorem dX0_solve_163 : decode cX0_solve 163 = .ok (.ior, 1) := by decide +kernel
theorem dX0_solve_164 : decode cX0_solve 164 = .ok (.ireturn, 1) := by decide +kernel
theorem dX0_solve_165 : decode cX0_solve 165 = .ok (.iload_n 1, 1) := by decide +kernel
theorem dX0_solve_166 : decode cX0_solve 166 = .ok (.iconst 4, 1) := by decide +kernel
theorem dX0_solve_167 : decode cX0_solve 167 = .ok (.invokestatic 18, 3) := by decide +kernel
theorem dX0_solve_170 : decode cX0_solve 170 = .ok (.ifCond .eq 7, 3) := by decide +kernel
theorem dX0_solve_173 : decode cX0_solve 173 = .ok (.iload_n 3, 1) := by decide +kernel
theorem dX0_solve_174 : decode cX0_solve 174 = .ok (.goto 15, 3) := by decide +kernel
theorem dX0_solve_177 : decode cX0_solve 177 = .ok (.iload 4, 2) := by decide +kernel
theorem dX0_solve_179 : decode cX0_solve 179 = .ok (.iconst 1, 1) := by decide +kernel
theorem dX0_solve_180 : decode cX0_solve 180 = .ok (.iload 5, 2) := by decide +kernel
theorem dX0_solve_182 : decode cX0_solve 182 = .ok (.ishl, 1) := by decide +kernel
theorem dX0_solve_183 : decode cX0_solve 183 = .ok (.invokestatic 26, 3) := by decide +kernel
theorem dX0_solve_186 : decode cX0_solve 186 = .ok (.invokestatic 9, 3) := by decide +kernel
theorem dX0_solve_189 : decode cX0_solve 189 = .ok (.istore 7, 2) := by decide +kernel
theorem dX0_solve_191 : decode cX0_solve 191 = .ok (.iload_n 2, 1) := by decide +kernel
theorem dX0_solve_192 : decode cX0_solve 192 = .ok (.iload 7, 2) := by decide +kernel
theorem dX0_solve_194 : decode cX0_solve 194 = .ok (.bipush 8, 2) := by decide +kernel
theorem dX0_solve_196 : decode cX0_solve 196 = .ok (.iload 5, 2) := by decide +kernel
theorem dX0_solve_198 : decode cX0_solve 198 = .ok (.imul, 1) := by decide +kernel
theorem dX0_solve_199 : decode cX0_solve 199 = .ok (.ishl, 1) := by decide +kernel
theorem dX0_solve_200 : decode cX0_solve 200 = .ok (.ior, 1) := by decide +kernel
theorem dX0_solve_201 : decode cX0_solve 201 = .ok (.ireturn, 1) := by decide +kernel
set_option maxRecDepth 20000 in
theorem ggX0_solveTwo_X0_weighted : GoodIn wsX0_solveTwo wsX0_weighted := goodIn_r _ [4, 5, 6, 3, 7] (by decide +kernel) (by decide +kernel)
set_option maxRecDepth 20000 in
theorem gX0_solveTwo_X0_weighted : GoodIn wsX0_solveTwo (va_wsS RX0 15 yX0_weighted wsX0_weighted) := goodIn_app (goodIn_of _ (by decide +kernel)) ggX0_solveTwo_X0_weighted
set_option maxRecDepth 20000 in
theorem ggX0_solveTwo_X0_inverse : GoodIn wsX0_solveTwo wsX0_inverse := goodIn_r _ [10, 5, 6, 3, 7] (by decide +kernel) (by decide +kernel)
set_option maxRecDepth 20000 in
theorem gX0_solveTwo_X0_inverse : GoodIn wsX0_solveTwo (va_wsS RX0 26 yX0_inverse wsX0_inverse) := goodIn_app (goodIn_of _ (by decide +kernel)) ggX0_solveTwo_X0_inverse
set_option maxRecDepth 20000 in
theorem ggX0_solveTwo_X0_times : GoodIn wsX0_solveTwo wsX0_times := goodIn_r _ [7] (by decide +kernel) (by decide +kernel)
set_option maxRecDepth 20000 in
theorem gX0_solveTwo_X0_times : GoodIn wsX0_solveTwo (va_wsS RX0 9 yX0_times wsX0_times) := goodIn_app (goodIn_of _ (by decide +kernel)) ggX0_solveTwo_X0_times
theorem dX0_solveTwo_0 : decode cX0_solveTwo 0 = .ok (.iload_n 3, 1) := by decide +kernel
theorem dX0_solveTwo_1 : decode cX0_solveTwo 1 = .ok (.iload_n 0, 1) := by decide +kernel
theorem dX0_solveTwo_2 : decode cX0_solveTwo 2 = .ok (.iload_n 2, 1) := by decide +kernel
theorem dX0_solveTwo_3 : decode cX0_solveTwo 3 = .ok (.invokestatic 15, 3) := by decide +kernel
theorem dX0_solveTwo_6 : decode cX0_solveTwo 6 = .ok (.ixor, 1) := by decide +kernel
theorem dX0_solveTwo_7 : decode cX0_solveTwo 7 = .ok (.istore 4, 2) := by decide +kernel
theorem dX0_solveTwo_9 : decode cX0_solveTwo 9 = .ok (.iload 4, 2) := by decide +kernel
theorem dX0_solveTwo_11 : decode cX0_solveTwo 11 = .ok (.iconst 1, 1) := by decide +kernel
theorem dX0_solveTwo_12 : decode cX0_solveTwo 12 = .ok (.iload_n 0, 1) := by decide +kernel
theorem dX0_solveTwo_13 : decode cX0_solveTwo 13 = .ok (.ishl, 1) := by decide +kernel
theorem dX0_solveTwo_14 : decode cX0_solveTwo 14 = .ok (.iconst 1, 1) := by decide +kernel
theorem dX0_solveTwo_15 : decode cX0_solveTwo 15 = .ok (.iload_n 1, 1) := by decide +kernel
theorem dX0_solveTwo_16 : decode cX0_solveTwo 16 = .ok (.ishl, 1) := by decide +kernel
theorem dX0_solveTwo_17 : decode cX0_solveTwo 17 = .ok (.ixor, 1) := by decide +kernel
theorem dX0_solveTwo_18 : decode cX0_solveTwo 18 = .ok (.invokestatic 26, 3) := by decide +kernel
theorem dX0_solveTwo_21 : decode cX0_solveTwo 21 = .ok (.invokestatic 9, 3) := by decide +kernel
theorem dX0_solveTwo_24 : decode cX0_solveTwo 24 = .ok (.istore 5, 2) := by decide +kernel
theorem dX0_solveTwo_26 : decode cX0_solveTwo 26 = .ok (.iload_n 2, 1) := by decide +kernel
theorem dX0_solveTwo_27 : decode cX0_solveTwo 27 = .ok (.iload 5, 2) := by decide +kernel
theorem dX0_solveTwo_29 : decode cX0_solveTwo 29 = .ok (.ixor, 1) := by decide +kernel
theorem dX0_solveTwo_30 : decode cX0_solveTwo 30 = .ok (.istore 6, 2) := by decide +kernel
theorem dX0_solveTwo_32 : decode cX0_solveTwo 32 = .ok (.iload 6, 2) := by decide +kernel
theorem dX0_solveTwo_34 : decode cX0_solveTwo 34 = .ok (.bipush 8, 2) := by decide +kernel
theorem dX0_solveTwo_36 : decode cX0_solveTwo 36 = .ok (.iload_n 0, 1) := by decide +kernel
theorem dX0_solveTwo_37 : decode cX0_solveTwo 37 = .ok (.imul, 1) := by decide +kernel
theorem dX0_solveTwo_38 : decode cX0_solveTwo 38 = .ok (.ishl, 1) := by decide +kernel
theorem dX0_solveTwo_39 : decode cX0_solveTwo 39 = .ok (.iload 5, 2) := by decide +kernel
theorem dX0_solveTwo_41 : decode cX0_solveTwo 41 = .ok (.bipush 8, 2) := by decide +kernel
theorem dX0_solveTwo_43 : decode cX0_solveTwo 43 = .ok (.iload_n 1, 1) := by decide +kernel
theorem dX0_solveTwo_44 : decode cX0_solveTwo 44 = .ok (.imul, 1) := by decide +kernel
theorem dX0_solveTwo_45 : decode cX0_solveTwo 45 = .ok (.ishl, 1) := by decide +kernel
theorem dX0_solveTwo_46 : decode cX0_solveTwo 46 = .ok (.ior, 1) := by decide +kernel
theorem dX0_solveTwo_47 : decode cX0_solveTwo 47 = .ok (.ireturn, 1) := by decide +kernel
theorem dX1_init_0 : decode cX1_init 0 = .ok (.aload_n 0, 1) := by decide +kernel
theorem dX1_init_1 : decode cX1_init 1 = .ok (.invokespecial 3, 3) := by decide +kernel
theorem dX1_init_4 : decode cX1_init 4 = .ok (.aload_n 0, 1) := by decide +kernel
theorem dX1_init_5 : decode cX1_init 5 = .ok (.aload_n 1, 1) := by decide +kernel
theorem dX1_init_6 : decode cX1_init 6 = .ok (.putfield 9, 3) := by decide +kernel
theorem dX1_init_9 : decode cX1_init 9 = .ok (.aload_n 0, 1) := by decide +kernel
theorem dX1_init_10 : decode cX1_init 10 = .ok (.aload_n 2, 1) := by decide +kernel
theorem dX1_init_11 : decode cX1_init 11 = .ok (.putfield 15, 3) := by decide +kernel
theorem dX1_init_14 : decode cX1_init 14 = .ok (.aload_n 0, 1) := by decide +kernel
theorem dX1_init_15 : decode cX1_init 15 = .ok (.aload_n 3, 1) := by decide +kernel
theorem dX1_init_16 : decode cX1_init 16 = .ok (.putfield 19, 3) := by decide +kernel
theorem dX1_init_19 : decode cX1_init 19 = .ok (.return_, 1) := by decide +kernel
set_option maxRecDepth 20000 in
theorem ggX1_storeMissing_X8_isHeld : GoodIn wsX1_storeMissing wsX8_isHeld := goodIn_r _ [7, 8, 9, 10, 6, 11, 135, 136, 137, 138, 139, 140] (by decide +kernel) (by decide +kernel)
set_option maxRecDepth 20000 in
theorem gX1_storeMissing_X8_isHeld : GoodIn wsX1_storeMissing (wsV RX1 23 RX8 yX8_isHeld wsX8_isHeld) := goodIn_app (goodIn_of _ (by decide +kernel)) ggX1_storeMissing_X8_isHeld
set_option maxRecDepth 20000 in
theorem ggX1_storeMissing_X8_owner : GoodIn wsX1_storeMissing wsX8_owner := goodIn_r _ [15, 16, 135, 136, 137, 138, 139, 140] (by decide +kernel) (by decide +kernel)
set_option maxRecDepth 20000 in
theorem gX1_storeMissing_X8_owner : GoodIn wsX1_storeMissing (wsV RX1 29 RX8 yX8_owner wsX8_owner) := goodIn_app (goodIn_of _ (by decide +kernel)) ggX1_storeMissing_X8_owner
set_option maxRecDepth 20000 in
theorem ggX1_storeMissing_X8_key : GoodIn wsX1_storeMissing wsX8_key := goodIn_r _ [20, 21, 22, 23, 24, 25, 26, 27, 135, 136, 137, 138, 139, 140, 141] (by decide +kernel) (by decide +kernel)
set_option maxRecDepth 20000 in
theorem gX1_storeMissing_X8_key : GoodIn wsX1_storeMissing (wsV RX1 33 RX8 yX8_key wsX8_key) := goodIn_app (goodIn_of _ (by decide +kernel)) ggX1_storeMissing_X8_key
set_option maxRecDepth 20000 in
theorem ggX1_storeMissing_X7_run : GoodIn wsX1_storeMissing wsX7_run := goodIn_r _ [32, 33, 34, 35, 36, 37, 38, 31, 39, 40, 41, 42, 43, 44, 45, 46, 47, 48, 49, 50, 51, 52, 53, 54, 55, 56, 57, 58, 59, 60, 61, 62, 63, 64, 65, 66, 67, 68, 69, 70, 71, 72, 73, 74, 75, 76, 77, 78, 79, 80, 81, 82, 83, 84, 85, 86, 87, 88, 89, 90, 91, 92, 93, 94, 95, 96, 97, 98, 99, 100, 101, 102, 103, 104, 105, 106, 107, 142, 143, 144, 145, 146, 147, 148, 149, 150, 151, 152, 153, 154, 155, 156] (by decide +kernel) (by decide +kernel)
set_option maxRecDepth 20000 in
theorem gX1_storeMissing_X7_run : GoodIn wsX1_storeMissing (wsV RX1 37 RX7 yX7_run wsX7_run) := goodIn_app (goodIn_of _ (by decide +kernel)) ggX1_storeMissing_X7_run
set_option maxRecDepth 20000 in
theorem ggX1_storeMissing_X1_firstFree : GoodIn wsX1_storeMissing wsX1_firstFree := goodIn_r _ [112, 1, 113, 114, 115, 31, 116, 40, 117, 71, 72, 47, 73, 49, 69, 12, 13, 14, 6, 15, 16, 118, 119, 120, 121, 8, 132, 133, 134, 142, 143, 144, 145, 146, 147, 148, 149, 150, 151, 135, 136, 137, 138, 139, 140] (by decide +kernel) (by decide +kernel)
set_option maxRecDepth 20000 in
theorem gX1_storeMissing_X1_firstFree : GoodIn wsX1_storeMissing (wsV RX1 43 RX1 yX1_firstFree wsX1_firstFree) := goodIn_app (goodIn_of _ (by decide +kernel)) ggX1_storeMissing_X1_firstFree
set_option maxRecDepth 20000 in
theorem ggX1_storeMissing_X5_isHonest : GoodIn wsX1_storeMissing wsX5_isHonest := goodIn_r _ [125, 56, 59, 60, 61, 53, 62, 63, 152, 153, 154, 155, 156] (by decide +kernel) (by decide +kernel)
set_option maxRecDepth 20000 in
theorem gX1_storeMissing_X5_isHonest : GoodIn wsX1_storeMissing (wsV RX1 47 RX5 yX5_isHonest wsX5_isHonest) := goodIn_app (goodIn_of _ (by decide +kernel)) ggX1_storeMissing_X5_isHonest
set_option maxRecDepth 20000 in
theorem ggX1_storeMissing_X8_hand : GoodIn wsX1_storeMissing wsX8_hand := goodIn_r _ [129, 8, 130, 131, 9, 10, 6, 11, 135, 136, 137, 138, 139, 140] (by decide +kernel) (by decide +kernel)
set_option maxRecDepth 20000 in
theorem gX1_storeMissing_X8_hand : GoodIn wsX1_storeMissing (wsV RX1 52 RX8 yX8_hand wsX8_hand) := goodIn_app (goodIn_of _ (by decide +kernel)) ggX1_storeMissing_X8_hand
theorem dX1_storeMissing_0 : decode cX1_storeMissing 0 = .ok (.iconst 0, 1) := by decide +kernel
theorem dX1_storeMissing_1 : decode cX1_storeMissing 1 = .ok (.istore_n 2, 1) := by decide +kernel
theorem dX1_storeMissing_2 : decode cX1_storeMissing 2 = .ok (.iload_n 2, 1) := by decide +kernel
theorem dX1_storeMissing_3 : decode cX1_storeMissing 3 = .ok (.bipush 6, 2) := by decide +kernel
theorem dX1_storeMissing_5 : decode cX1_storeMissing 5 = .ok (.if_icmp .ge 54, 3) := by decide +kernel
theorem dX1_storeMissing_8 : decode cX1_storeMissing 8 = .ok (.aload_n 1, 1) := by decide +kernel
theorem dX1_storeMissing_9 : decode cX1_storeMissing 9 = .ok (.iload_n 2, 1) := by decide +kernel
theorem dX1_storeMissing_10 : decode cX1_storeMissing 10 = .ok (.invokevirtual 23, 3) := by decide +kernel
theorem dX1_storeMissing_13 : decode cX1_storeMissing 13 = .ok (.ifCond .ne 40, 3) := by decide +kernel
theorem dX1_storeMissing_16 : decode cX1_storeMissing 16 = .ok (.aload_n 0, 1) := by decide +kernel
theorem dX1_storeMissing_17 : decode cX1_storeMissing 17 = .ok (.getfield 15, 3) := by decide +kernel
theorem dX1_storeMissing_20 : decode cX1_storeMissing 20 = .ok (.aload_n 1, 1) := by decide +kernel
theorem dX1_storeMissing_21 : decode cX1_storeMissing 21 = .ok (.invokevirtual 29, 3) := by decide +kernel
theorem dX1_storeMissing_24 : decode cX1_storeMissing 24 = .ok (.aload_n 1, 1) := by decide +kernel
theorem dX1_storeMissing_25 : decode cX1_storeMissing 25 = .ok (.iload_n 2, 1) := by decide +kernel
theorem dX1_storeMissing_26 : decode cX1_storeMissing 26 = .ok (.invokevirtual 33, 3) := by decide +kernel
theorem dX1_storeMissing_29 : decode cX1_storeMissing 29 = .ok (.iconst 2, 1) := by decide +kernel
theorem dX1_storeMissing_30 : decode cX1_storeMissing 30 = .ok (.invokevirtual 37, 3) := by decide +kernel
theorem dX1_storeMissing_33 : decode cX1_storeMissing 33 = .ok (.aload_n 0, 1) := by decide +kernel
theorem dX1_storeMissing_34 : decode cX1_storeMissing 34 = .ok (.aload_n 1, 1) := by decide +kernel
theorem dX1_storeMissing_35 : decode cX1_storeMissing 35 = .ok (.invokevirtual 43, 3) := by decide +kernel
theorem dX1_storeMissing_38 : decode cX1_storeMissing 38 = .ok (.istore_n 3, 1) := by decide +kernel
theorem dX1_storeMissing_39 : decode cX1_storeMissing 39 = .ok (.aload_n 1, 1) := by decide +kernel
theorem dX1_storeMissing_40 : decode cX1_storeMissing 40 = .ok (.iload_n 2, 1) := by decide +kernel
theorem dX1_storeMissing_41 : decode cX1_storeMissing 41 = .ok (.iload_n 3, 1) := by decide +kernel
theorem dX1_storeMissing_42 : decode cX1_storeMissing 42 = .ok (.aload_n 0, 1) := by decide +kernel
theorem dX1_storeMissing_43 : decode cX1_storeMissing 43 = .ok (.getfield 9, 3) := by decide +kernel
theorem dX1_storeMissing_46 : decode cX1_storeMissing 46 = .ok (.iload_n 3, 1) := by decide +kernel
theorem dX1_storeMissing_47 : decode cX1_storeMissing 47 = .ok (.invokevirtual 47, 3) := by decide +kernel
theorem dX1_storeMissing_50 : decode cX1_storeMissing 50 = .ok (.invokevirtual 52, 3) := by decide +kernel
theorem dX1_storeMissing_53 : decode cX1_storeMissing 53 = .ok (.iinc 2 1, 3) := by decide +kernel
theorem dX1_storeMissing_56 : decode cX1_storeMissing 56 = .ok (.goto (-54), 3) := by decide +kernel
theorem dX1_storeMissing_59 : decode cX1_storeMissing 59 = .ok (.return_, 1) := by decide +kernel
set_option maxRecDepth 20000 in
theorem ggX1_firstFree_X7_result : GoodIn wsX1_firstFree wsX7_result := goodIn_r _ [6, 7, 29, 30, 31, 32, 33, 34, 35] (by decide +kernel) (by decide +kernel)
set_option maxRecDepth 20000 in
theorem gX1_firstFree_X7_result : GoodIn wsX1_firstFree (wsV RX1 56 RX7 yX7_result wsX7_result) := goodIn_app (goodIn_of _ (by decide +kernel)) ggX1_firstFree_X7_result
set_option maxRecDepth 20000 in
theorem ggX1_firstFree_X6_at : GoodIn wsX1_firstFree wsX6_at := goodIn_r _ [12, 13, 14, 36, 37, 38] (by decide +kernel) (by decide +kernel)
set_option maxRecDepth 20000 in
theorem gX1_firstFree_X6_at : GoodIn wsX1_firstFree (wsV RX1 60 RX6 yX6_at wsX6_at) := goodIn_app (goodIn_of _ (by decide +kernel)) ggX1_firstFree_X6_at
set_option maxRecDepth 20000 in
theorem ggX1_firstFree_X8_owner : GoodIn wsX1_firstFree wsX8_owner := goodIn_r _ [19, 20, 39, 40, 41, 42, 43, 44] (by decide +kernel) (by decide +kernel)
set_option maxRecDepth 20000 in
theorem gX1_firstFree_X8_owner : GoodIn wsX1_firstFree (wsV RX1 29 RX8 yX8_owner wsX8_owner) := goodIn_app (goodIn_of _ (by decide +kernel)) ggX1_firstFree_X8_owner
set_option maxRecDepth 20000 in
theorem ggX1_firstFree_X8_isHeldBy : GoodIn wsX1_firstFree wsX8_isHeldBy := goodIn_r _ [24, 25, 39, 40, 41, 42, 43, 44] (by decide +kernel) (by decide +kernel)
set_option maxRecDepth 20000 in
theorem gX1_firstFree_X8_isHeldBy : GoodIn wsX1_firstFree (wsV RX1 65 RX8 yX8_isHeldBy wsX8_isHeldBy) := goodIn_app (goodIn_of _ (by decide +kernel)) ggX1_firstFree_X8_isHeldBy
theorem dX1_firstFree_0 : decode cX1_firstFree 0 = .ok (.iconst 0, 1) := by decide +kernel
theorem dX1_firstFree_1 : decode cX1_firstFree 1 = .ok (.istore_n 2, 1) := by decide +kernel
theorem dX1_firstFree_2 : decode cX1_firstFree 2 = .ok (.iload_n 2, 1) := by decide +kernel
theorem dX1_firstFree_3 : decode cX1_firstFree 3 = .ok (.iconst 3, 1) := by decide +kernel
theorem dX1_firstFree_4 : decode cX1_firstFree 4 = .ok (.if_icmp .ge 44, 3) := by decide +kernel
theorem dX1_firstFree_7 : decode cX1_firstFree 7 = .ok (.aload_n 0, 1) := by decide +kernel
theorem dX1_firstFree_8 : decode cX1_firstFree 8 = .ok (.getfield 15, 3) := by decide +kernel
theorem dX1_firstFree_11 : decode cX1_firstFree 11 = .ok (.invokevirtual 56, 3) := by decide +kernel
theorem dX1_firstFree_14 : decode cX1_firstFree 14 = .ok (.iload_n 2, 1) := by decide +kernel
theorem dX1_firstFree_15 : decode cX1_firstFree 15 = .ok (.invokevirtual 60, 3) := by decide +kernel
theorem dX1_firstFree_18 : decode cX1_firstFree 18 = .ok (.istore_n 3, 1) := by decide +kernel
theorem dX1_firstFree_19 : decode cX1_firstFree 19 = .ok (.iload_n 3, 1) := by decide +kernel
theorem dX1_firstFree_20 : decode cX1_firstFree 20 = .ok (.iconst (-1), 1) := by decide +kernel
theorem dX1_firstFree_21 : decode cX1_firstFree 21 = .ok (.if_icmp .eq 21, 3) := by decide +kernel
theorem dX1_firstFree_24 : decode cX1_firstFree 24 = .ok (.iload_n 3, 1) := by decide +kernel
theorem dX1_firstFree_25 : decode cX1_firstFree 25 = .ok (.aload_n 1, 1) := by decide +kernel
theorem dX1_firstFree_26 : decode cX1_firstFree 26 = .ok (.invokevirtual 29, 3) := by decide +kernel
theorem dX1_firstFree_29 : decode cX1_firstFree 29 = .ok (.if_icmp .eq 13, 3) := by decide +kernel
theorem dX1_firstFree_32 : decode cX1_firstFree 32 = .ok (.aload_n 1, 1) := by decide +kernel
theorem dX1_firstFree_33 : decode cX1_firstFree 33 = .ok (.iload_n 3, 1) := by decide +kernel
theorem dX1_firstFree_34 : decode cX1_firstFree 34 = .ok (.invokevirtual 65, 3) := by decide +kernel
theorem dX1_firstFree_37 : decode cX1_firstFree 37 = .ok (.ifCond .ne 5, 3) := by decide +kernel
theorem dX1_firstFree_40 : decode cX1_firstFree 40 = .ok (.iload_n 3, 1) := by decide +kernel
theorem dX1_firstFree_41 : decode cX1_firstFree 41 = .ok (.ireturn, 1) := by decide +kernel
theorem dX1_firstFree_42 : decode cX1_firstFree 42 = .ok (.iinc 2 1, 3) := by decide +kernel
theorem dX1_firstFree_45 : decode cX1_firstFree 45 = .ok (.goto (-43), 3) := by decide +kernel
theorem dX1_firstFree_48 : decode cX1_firstFree 48 = .ok (.iconst (-1), 1) := by decide +kernel
theorem dX1_firstFree_49 : decode cX1_firstFree 49 = .ok (.ireturn, 1) := by decide +kernel
set_option maxRecDepth 20000 in
theorem ggX1_isAtHand_X8_isKept : GoodIn wsX1_isAtHand wsX8_isKept := goodIn_r _ [6, 7, 8, 9, 5, 10, 30, 31, 32, 33, 34, 35] (by decide +kernel) (by decide +kernel)
set_option maxRecDepth 20000 in
theorem gX1_isAtHand_X8_isKept : GoodIn wsX1_isAtHand (wsV RX1 68 RX8 yX8_isKept wsX8_isKept) := goodIn_app (goodIn_of _ (by decide +kernel)) ggX1_isAtHand_X8_isKept
set_option maxRecDepth 20000 in
theorem ggX1_isAtHand_X8_holder : GoodIn wsX1_isAtHand wsX8_holder := goodIn_r _ [14, 15, 8, 9, 5, 10, 30, 31, 32, 33, 34, 35] (by decide +kernel) (by decide +kernel)
set_option maxRecDepth 20000 in
theorem gX1_isAtHand_X8_holder : GoodIn wsX1_isAtHand (wsV RX1 71 RX8 yX8_holder wsX8_holder) := goodIn_app (goodIn_of _ (by decide +kernel)) ggX1_isAtHand_X8_holder
set_option maxRecDepth 20000 in
theorem ggX1_isAtHand_X5_isOnline : GoodIn wsX1_isAtHand wsX5_isOnline := goodIn_r _ [20, 21, 22, 23, 24, 19, 25, 26, 36, 37, 38, 39, 40] (by decide +kernel) (by decide +kernel)
set_option maxRecDepth 20000 in
theorem gX1_isAtHand_X5_isOnline : GoodIn wsX1_isAtHand (wsV RX1 74 RX5 yX5_isOnline wsX5_isOnline) := goodIn_app (goodIn_of _ (by decide +kernel)) ggX1_isAtHand_X5_isOnline
theorem dX1_isAtHand_0 : decode cX1_isAtHand 0 = .ok (.aload_n 1, 1) := by decide +kernel
theorem dX1_isAtHand_1 : decode cX1_isAtHand 1 = .ok (.iload_n 2, 1) := by decide +kernel
theorem dX1_isAtHand_2 : decode cX1_isAtHand 2 = .ok (.invokevirtual 68, 3) := by decide +kernel
theorem dX1_isAtHand_5 : decode cX1_isAtHand 5 = .ok (.ifCond .eq 22, 3) := by decide +kernel
theorem dX1_isAtHand_8 : decode cX1_isAtHand 8 = .ok (.aload_n 0, 1) := by decide +kernel
theorem dX1_isAtHand_9 : decode cX1_isAtHand 9 = .ok (.getfield 9, 3) := by decide +kernel
theorem dX1_isAtHand_12 : decode cX1_isAtHand 12 = .ok (.aload_n 1, 1) := by decide +kernel
theorem dX1_isAtHand_13 : decode cX1_isAtHand 13 = .ok (.iload_n 2, 1) := by decide +kernel
theorem dX1_isAtHand_14 : decode cX1_isAtHand 14 = .ok (.invokevirtual 71, 3) := by decide +kernel
theorem dX1_isAtHand_17 : decode cX1_isAtHand 17 = .ok (.invokevirtual 74, 3) := by decide +kernel
theorem dX1_isAtHand_20 : decode cX1_isAtHand 20 = .ok (.ifCond .eq 7, 3) := by decide +kernel
theorem dX1_isAtHand_23 : decode cX1_isAtHand 23 = .ok (.iconst 1, 1) := by decide +kernel
theorem dX1_isAtHand_24 : decode cX1_isAtHand 24 = .ok (.goto 4, 3) := by decide +kernel
theorem dX1_isAtHand_27 : decode cX1_isAtHand 27 = .ok (.iconst 0, 1) := by decide +kernel
theorem dX1_isAtHand_28 : decode cX1_isAtHand 28 = .ok (.ireturn, 1) := by decide +kernel
set_option maxRecDepth 20000 in
theorem ggX1_challenge_X8_owner : GoodIn wsX1_challenge wsX8_owner := goodIn_r _ [6, 7, 71, 72, 73, 74, 75, 76] (by decide +kernel) (by decide +kernel)
set_option maxRecDepth 20000 in
theorem gX1_challenge_X8_owner : GoodIn wsX1_challenge (wsV RX1 29 RX8 yX8_owner wsX8_owner) := goodIn_app (goodIn_of _ (by decide +kernel)) ggX1_challenge_X8_owner
set_option maxRecDepth 20000 in
theorem ggX1_challenge_X5_isOnline : GoodIn wsX1_challenge wsX5_isOnline := goodIn_r _ [12, 13, 14, 15, 16, 11, 17, 18, 77, 78, 79, 80, 81] (by decide +kernel) (by decide +kernel)
set_option maxRecDepth 20000 in
theorem gX1_challenge_X5_isOnline : GoodIn wsX1_challenge (wsV RX1 74 RX5 yX5_isOnline wsX5_isOnline) := goodIn_app (goodIn_of _ (by decide +kernel)) ggX1_challenge_X5_isOnline
set_option maxRecDepth 20000 in
theorem ggX1_challenge_X8_isHeld : GoodIn wsX1_challenge wsX8_isHeld := goodIn_r _ [22, 23, 24, 25, 5, 26, 71, 72, 73, 74, 75, 76] (by decide +kernel) (by decide +kernel)
set_option maxRecDepth 20000 in
theorem gX1_challenge_X8_isHeld : GoodIn wsX1_challenge (wsV RX1 23 RX8 yX8_isHeld wsX8_isHeld) := goodIn_app (goodIn_of _ (by decide +kernel)) ggX1_challenge_X8_isHeld
set_option maxRecDepth 20000 in
theorem ggX1_challenge_X1_challengePiece : GoodIn wsX1_challenge wsX1_challengePiece := goodIn_r _ [31, 32, 33, 34, 35, 5, 36, 23, 24, 25, 26, 37, 38, 39, 30, 40, 1, 41, 42, 43, 44, 45, 8, 9, 10, 11, 12, 13, 14, 15, 16, 17, 18, 2, 3, 4, 6, 7, 46, 47, 48, 49, 50, 51, 52, 53, 54, 55, 56, 57, 58, 59, 60, 61, 62, 63, 64, 65, 66, 67, 68, 69, 70, 71, 72, 73, 74, 75, 76, 77, 78, 79, 80, 81, 82] (by decide +kernel) (by decide +kernel)
set_option maxRecDepth 20000 in
theorem gX1_challenge_X1_challengePiece : GoodIn wsX1_challenge (wsV RX1 77 RX1 yX1_challengePiece wsX1_challengePiece) := goodIn_app (goodIn_of _ (by decide +kernel)) ggX1_challenge_X1_challengePiece
theorem dX1_challenge_0 : decode cX1_challenge 0 = .ok (.aload_n 0, 1) := by decide +kernel
theorem dX1_challenge_1 : decode cX1_challenge 1 = .ok (.getfield 9, 3) := by decide +kernel
theorem dX1_challenge_4 : decode cX1_challenge 4 = .ok (.aload_n 1, 1) := by decide +kernel
theorem dX1_challenge_5 : decode cX1_challenge 5 = .ok (.invokevirtual 29, 3) := by decide +kernel
theorem dX1_challenge_8 : decode cX1_challenge 8 = .ok (.invokevirtual 74, 3) := by decide +kernel
theorem dX1_challenge_11 : decode cX1_challenge 11 = .ok (.ifCond .ne 4, 3) := by decide +kernel
theorem dX1_challenge_14 : decode cX1_challenge 14 = .ok (.return_, 1) := by decide +kernel
theorem dX1_challenge_15 : decode cX1_challenge 15 = .ok (.iconst 0, 1) := by decide +kernel
theorem dX1_challenge_16 : decode cX1_challenge 16 = .ok (.istore_n 2, 1) := by decide +kernel
theorem dX1_challenge_17 : decode cX1_challenge 17 = .ok (.iload_n 2, 1) := by decide +kernel
theorem dX1_challenge_18 : decode cX1_challenge 18 = .ok (.bipush 6, 2) := by decide +kernel
theorem dX1_challenge_20 : decode cX1_challenge 20 = .ok (.if_icmp .ge 23, 3) := by decide +kernel
theorem dX1_challenge_23 : decode cX1_challenge 23 = .ok (.aload_n 1, 1) := by decide +kernel
theorem dX1_challenge_24 : decode cX1_challenge 24 = .ok (.iload_n 2, 1) := by decide +kernel
theorem dX1_challenge_25 : decode cX1_challenge 25 = .ok (.invokevirtual 23, 3) := by decide +kernel
theorem dX1_challenge_28 : decode cX1_challenge 28 = .ok (.ifCond .eq 9, 3) := by decide +kernel
theorem dX1_challenge_31 : decode cX1_challenge 31 = .ok (.aload_n 0, 1) := by decide +kernel
theorem dX1_challenge_32 : decode cX1_challenge 32 = .ok (.aload_n 1, 1) := by decide +kernel
theorem dX1_challenge_33 : decode cX1_challenge 33 = .ok (.iload_n 2, 1) := by decide +kernel
theorem dX1_challenge_34 : decode cX1_challenge 34 = .ok (.invokevirtual 77, 3) := by decide +kernel
theorem dX1_challenge_37 : decode cX1_challenge 37 = .ok (.iinc 2 1, 3) := by decide +kernel
theorem dX1_challenge_40 : decode cX1_challenge 40 = .ok (.goto (-23), 3) := by decide +kernel
theorem dX1_challenge_43 : decode cX1_challenge 43 = .ok (.return_, 1) := by decide +kernel
set_option maxRecDepth 20000 in
theorem ggX1_challengePiece_X8_holder : GoodIn wsX1_challengePiece wsX8_holder := goodIn_r _ [6, 7, 8, 9, 5, 10, 63, 64, 65, 66, 67, 68] (by decide +kernel) (by decide +kernel)
set_option maxRecDepth 20000 in
theorem gX1_challengePiece_X8_holder : GoodIn wsX1_challengePiece (wsV RX1 71 RX8 yX8_holder wsX8_holder) := goodIn_app (goodIn_of _ (by decide +kernel)) ggX1_challengePiece_X8_holder
set_option maxRecDepth 20000 in
theorem ggX1_challengePiece_X1_isAtHand : GoodIn wsX1_challengePiece wsX1_isAtHand := goodIn_r _ [15, 16, 17, 18, 19, 5, 20, 21, 8, 9, 10, 2, 3, 4, 6, 7, 22, 23, 24, 25, 26, 27, 28, 29, 30, 31, 32, 60, 61, 62, 63, 64, 65, 66, 67, 68, 69, 70, 71, 72, 73] (by decide +kernel) (by decide +kernel)
set_option maxRecDepth 20000 in
theorem gX1_challengePiece_X1_isAtHand : GoodIn wsX1_challengePiece (wsV RX1 81 RX1 yX1_isAtHand wsX1_isAtHand) := goodIn_app (goodIn_of _ (by decide +kernel)) ggX1_challengePiece_X1_isAtHand
set_option maxRecDepth 20000 in
theorem ggX1_challengePiece_X8_owner : GoodIn wsX1_challengePiece wsX8_owner := goodIn_r _ [36, 37, 63, 64, 65, 66, 67, 68] (by decide +kernel) (by decide +kernel)
set_option maxRecDepth 20000 in
theorem gX1_challengePiece_X8_owner : GoodIn wsX1_challengePiece (wsV RX1 29 RX8 yX8_owner wsX8_owner) := goodIn_app (goodIn_of _ (by decide +kernel)) ggX1_challengePiece_X8_owner
set_option maxRecDepth 20000 in
theorem ggX1_challengePiece_X2_owe : GoodIn wsX1_challengePiece wsX2_owe := goodIn_r _ [42, 43, 44, 45, 41, 46, 74] (by decide +kernel) (by decide +kernel)
set_option maxRecDepth 20000 in
theorem gX1_challengePiece_X2_owe : GoodIn wsX1_challengePiece (wsV RX1 85 RX2 yX2_owe wsX2_owe) := goodIn_app (goodIn_of _ (by decide +kernel)) ggX1_challengePiece_X2_owe
set_option maxRecDepth 20000 in
theorem ggX1_challengePiece_X8_setMissed : GoodIn wsX1_challengePiece wsX8_setMissed := goodIn_r _ [50, 51, 8, 9, 5, 10, 63, 64, 65, 66, 67, 68] (by decide +kernel) (by decide +kernel)
set_option maxRecDepth 20000 in
theorem gX1_challengePiece_X8_setMissed : GoodIn wsX1_challengePiece (wsV RX1 90 RX8 yX8_setMissed wsX8_setMissed) := goodIn_app (goodIn_of _ (by decide +kernel)) ggX1_challengePiece_X8_setMissed
set_option maxRecDepth 20000 in
theorem ggX1_challengePiece_X8_missed : GoodIn wsX1_challengePiece wsX8_missed := goodIn_r _ [55, 51, 8, 9, 5, 10, 63, 64, 65, 66, 67, 68] (by decide +kernel) (by decide +kernel)
set_option maxRecDepth 20000 in
theorem gX1_challengePiece_X8_missed : GoodIn wsX1_challengePiece (wsV RX1 94 RX8 yX8_missed wsX8_missed) := goodIn_app (goodIn_of _ (by decide +kernel)) ggX1_challengePiece_X8_missed
set_option maxRecDepth 20000 in
theorem ggX1_challengePiece_X8_hand : GoodIn wsX1_challengePiece wsX8_hand := goodIn_r _ [59, 7, 21, 51, 8, 9, 5, 10, 63, 64, 65, 66, 67, 68] (by decide +kernel) (by decide +kernel)
set_option maxRecDepth 20000 in
theorem gX1_challengePiece_X8_hand : GoodIn wsX1_challengePiece (wsV RX1 52 RX8 yX8_hand wsX8_hand) := goodIn_app (goodIn_of _ (by decide +kernel)) ggX1_challengePiece_X8_hand
theorem dX1_challengePiece_0 : decode cX1_challengePiece 0 = .ok (.aload_n 1, 1) := by decide +kernel
theorem dX1_challengePiece_1 : decode cX1_challengePiece 1 = .ok (.iload_n 2, 1) := by decide +kernel
theorem dX1_challengePiece_2 : decode cX1_challengePiece 2 = .ok (.invokevirtual 71, 3) := by decide +kernel
theorem dX1_challengePiece_5 : decode cX1_challengePiece 5 = .ok (.istore_n 3, 1) := by decide +kernel
theorem dX1_challengePiece_6 : decode cX1_challengePiece 6 = .ok (.aload_n 0, 1) := by decide +kernel
theorem dX1_challengePiece_7 : decode cX1_challengePiece 7 = .ok (.aload_n 1, 1) := by decide +kernel
theorem dX1_challengePiece_8 : decode cX1_challengePiece 8 = .ok (.iload_n 2, 1) := by decide +kernel
theorem dX1_challengePiece_9 : decode cX1_challengePiece 9 = .ok (.invokevirtual 81, 3) := by decide +kernel
theorem dX1_challengePiece_12 : decode cX1_challengePiece 12 = .ok (.ifCond .eq 25, 3) := by decide +kernel
theorem dX1_challengePiece_15 : decode cX1_challengePiece 15 = .ok (.aload_n 0, 1) := by decide +kernel
theorem dX1_challengePiece_16 : decode cX1_challengePiece 16 = .ok (.getfield 19, 3) := by decide +kernel
theorem dX1_challengePiece_19 : decode cX1_challengePiece 19 = .ok (.aload_n 1, 1) := by decide +kernel
theorem dX1_challengePiece_20 : decode cX1_challengePiece 20 = .ok (.invokevirtual 29, 3) := by decide +kernel
theorem dX1_challengePiece_23 : decode cX1_challengePiece 23 = .ok (.iload_n 3, 1) := by decide +kernel
theorem dX1_challengePiece_24 : decode cX1_challengePiece 24 = .ok (.iconst 3, 1) := by decide +kernel
theorem dX1_challengePiece_25 : decode cX1_challengePiece 25 = .ok (.invokevirtual 85, 3) := by decide +kernel
theorem dX1_challengePiece_28 : decode cX1_challengePiece 28 = .ok (.aload_n 1, 1) := by decide +kernel
theorem dX1_challengePiece_29 : decode cX1_challengePiece 29 = .ok (.iload_n 2, 1) := by decide +kernel
theorem dX1_challengePiece_30 : decode cX1_challengePiece 30 = .ok (.iconst 0, 1) := by decide +kernel
theorem dX1_challengePiece_31 : decode cX1_challengePiece 31 = .ok (.invokevirtual 90, 3) := by decide +kernel
theorem dX1_challengePiece_34 : decode cX1_challengePiece 34 = .ok (.goto 50, 3) := by decide +kernel
theorem dX1_challengePiece_37 : decode cX1_challengePiece 37 = .ok (.aload_n 1, 1) := by decide +kernel
theorem dX1_challengePiece_38 : decode cX1_challengePiece 38 = .ok (.iload_n 2, 1) := by decide +kernel
theorem dX1_challengePiece_39 : decode cX1_challengePiece 39 = .ok (.invokevirtual 94, 3) := by decide +kernel
theorem dX1_challengePiece_42 : decode cX1_challengePiece 42 = .ok (.iconst 1, 1) := by decide +kernel
theorem dX1_challengePiece_43 : decode cX1_challengePiece 43 = .ok (.iadd, 1) := by decide +kernel
theorem dX1_challengePiece_44 : decode cX1_challengePiece 44 = .ok (.iconst 3, 1) := by decide +kernel
theorem dX1_challengePiece_45 : decode cX1_challengePiece 45 = .ok (.if_icmp .ge 18, 3) := by decide +kernel
theorem dX1_challengePiece_48 : decode cX1_challengePiece 48 = .ok (.aload_n 1, 1) := by decide +kernel
theorem dX1_challengePiece_49 : decode cX1_challengePiece 49 = .ok (.iload_n 2, 1) := by decide +kernel
theorem dX1_challengePiece_50 : decode cX1_challengePiece 50 = .ok (.aload_n 1, 1) := by decide +kernel
theorem dX1_challengePiece_51 : decode cX1_challengePiece 51 = .ok (.iload_n 2, 1) := by decide +kernel
theorem dX1_challengePiece_52 : decode cX1_challengePiece 52 = .ok (.invokevirtual 94, 3) := by decide +kernel
theorem dX1_challengePiece_55 : decode cX1_challengePiece 55 = .ok (.iconst 1, 1) := by decide +kernel
theorem dX1_challengePiece_56 : decode cX1_challengePiece 56 = .ok (.iadd, 1) := by decide +kernel
theorem dX1_challengePiece_57 : decode cX1_challengePiece 57 = .ok (.invokevirtual 90, 3) := by decide +kernel
theorem dX1_challengePiece_60 : decode cX1_challengePiece 60 = .ok (.goto 24, 3) := by decide +kernel
theorem dX1_challengePiece_63 : decode cX1_challengePiece 63 = .ok (.aload_n 0, 1) := by decide +kernel
theorem dX1_challengePiece_64 : decode cX1_challengePiece 64 = .ok (.getfield 19, 3) := by decide +kernel
theorem dX1_challengePiece_67 : decode cX1_challengePiece 67 = .ok (.iload_n 3, 1) := by decide +kernel
theorem dX1_challengePiece_68 : decode cX1_challengePiece 68 = .ok (.aload_n 1, 1) := by decide +kernel
theorem dX1_challengePiece_69 : decode cX1_challengePiece 69 = .ok (.invokevirtual 29, 3) := by decide +kernel
theorem dX1_challengePiece_72 : decode cX1_challengePiece 72 = .ok (.bipush 10, 2) := by decide +kernel
theorem dX1_challengePiece_74 : decode cX1_challengePiece 74 = .ok (.invokevirtual 85, 3) := by decide +kernel
theorem dX1_challengePiece_77 : decode cX1_challengePiece 77 = .ok (.aload_n 1, 1) := by decide +kernel
theorem dX1_challengePiece_78 : decode cX1_challengePiece 78 = .ok (.iload_n 2, 1) := by decide +kernel
theorem dX1_challengePiece_79 : decode cX1_challengePiece 79 = .ok (.iconst (-1), 1) := by decide +kernel
theorem dX1_challengePiece_80 : decode cX1_challengePiece 80 = .ok (.iconst 0, 1) := by decide +kernel
theorem dX1_challengePiece_81 : decode cX1_challengePiece 81 = .ok (.invokevirtual 52, 3) := by decide +kernel
theorem dX1_challengePiece_84 : decode cX1_challengePiece 84 = .ok (.return_, 1) := by decide +kernel
set_option maxRecDepth 20000 in
theorem ggX1_isToRepair_X8_isHeld : GoodIn wsX1_isToRepair wsX8_isHeld := goodIn_r _ [6, 7, 8, 9, 5, 10, 44, 45, 46, 47, 48, 49] (by decide +kernel) (by decide +kernel)
set_option maxRecDepth 20000 in
theorem gX1_isToRepair_X8_isHeld : GoodIn wsX1_isToRepair (wsV RX1 23 RX8 yX8_isHeld wsX8_isHeld) := goodIn_app (goodIn_of _ (by decide +kernel)) ggX1_isToRepair_X8_isHeld
set_option maxRecDepth 20000 in
theorem ggX1_isToRepair_X1_isAtHand : GoodIn wsX1_isToRepair wsX1_isAtHand := goodIn_r _ [15, 1, 16, 17, 18, 5, 19, 20, 8, 9, 10, 21, 22, 23, 24, 7, 25, 26, 27, 28, 29, 30, 31, 32, 33, 34, 35, 41, 42, 43, 44, 45, 46, 47, 48, 49, 50, 51, 52, 53, 54] (by decide +kernel) (by decide +kernel)
set_option maxRecDepth 20000 in
theorem gX1_isToRepair_X1_isAtHand : GoodIn wsX1_isToRepair (wsV RX1 81 RX1 yX1_isAtHand wsX1_isAtHand) := goodIn_app (goodIn_of _ (by decide +kernel)) ggX1_isToRepair_X1_isAtHand
set_option maxRecDepth 20000 in
theorem ggX1_isToRepair_X8_owner : GoodIn wsX1_isToRepair wsX8_owner := goodIn_r _ [39, 40, 44, 45, 46, 47, 48, 49] (by decide +kernel) (by decide +kernel)
set_option maxRecDepth 20000 in
theorem gX1_isToRepair_X8_owner : GoodIn wsX1_isToRepair (wsV RX1 29 RX8 yX8_owner wsX8_owner) := goodIn_app (goodIn_of _ (by decide +kernel)) ggX1_isToRepair_X8_owner
set_option maxRecDepth 20000 in
theorem ggX1_isToRepair_X5_isOnline : GoodIn wsX1_isToRepair wsX5_isOnline := goodIn_r _ [29, 30, 31, 32, 33, 28, 34, 35, 50, 51, 52, 53, 54] (by decide +kernel) (by decide +kernel)
set_option maxRecDepth 20000 in
theorem gX1_isToRepair_X5_isOnline : GoodIn wsX1_isToRepair (wsV RX1 74 RX5 yX5_isOnline wsX5_isOnline) := goodIn_app (goodIn_of _ (by decide +kernel)) ggX1_isToRepair_X5_isOnline
theorem dX1_isToRepair_0 : decode cX1_isToRepair 0 = .ok (.iconst 0, 1) := by decide +kernel
theorem dX1_isToRepair_1 : decode cX1_isToRepair 1 = .ok (.istore_n 2, 1) := by decide +kernel
theorem dX1_isToRepair_2 : decode cX1_isToRepair 2 = .ok (.iconst 0, 1) := by decide +kernel
theorem dX1_isToRepair_3 : decode cX1_isToRepair 3 = .ok (.istore_n 3, 1) := by decide +kernel
theorem dX1_isToRepair_4 : decode cX1_isToRepair 4 = .ok (.iconst 0, 1) := by decide +kernel
theorem dX1_isToRepair_5 : decode cX1_isToRepair 5 = .ok (.istore 4, 2) := by decide +kernel
theorem dX1_isToRepair_7 : decode cX1_isToRepair 7 = .ok (.iload 4, 2) := by decide +kernel
theorem dX1_isToRepair_9 : decode cX1_isToRepair 9 = .ok (.bipush 6, 2) := by decide +kernel
theorem dX1_isToRepair_11 : decode cX1_isToRepair 11 = .ok (.if_icmp .ge 44, 3) := by decide +kernel
theorem dX1_isToRepair_14 : decode cX1_isToRepair 14 = .ok (.iload_n 2, 1) := by decide +kernel
theorem dX1_isToRepair_15 : decode cX1_isToRepair 15 = .ok (.aload_n 1, 1) := by decide +kernel
theorem dX1_isToRepair_16 : decode cX1_isToRepair 16 = .ok (.iload 4, 2) := by decide +kernel
theorem dX1_isToRepair_18 : decode cX1_isToRepair 18 = .ok (.invokevirtual 23, 3) := by decide +kernel
theorem dX1_isToRepair_21 : decode cX1_isToRepair 21 = .ok (.ifCond .eq 7, 3) := by decide +kernel
theorem dX1_isToRepair_24 : decode cX1_isToRepair 24 = .ok (.iconst 1, 1) := by decide +kernel
theorem dX1_isToRepair_25 : decode cX1_isToRepair 25 = .ok (.goto 4, 3) := by decide +kernel
theorem dX1_isToRepair_28 : decode cX1_isToRepair 28 = .ok (.iconst 0, 1) := by decide +kernel
theorem dX1_isToRepair_29 : decode cX1_isToRepair 29 = .ok (.iadd, 1) := by decide +kernel
theorem dX1_isToRepair_30 : decode cX1_isToRepair 30 = .ok (.istore_n 2, 1) := by decide +kernel
theorem dX1_isToRepair_31 : decode cX1_isToRepair 31 = .ok (.iload_n 3, 1) := by decide +kernel
theorem dX1_isToRepair_32 : decode cX1_isToRepair 32 = .ok (.aload_n 0, 1) := by decide +kernel
theorem dX1_isToRepair_33 : decode cX1_isToRepair 33 = .ok (.aload_n 1, 1) := by decide +kernel
theorem dX1_isToRepair_34 : decode cX1_isToRepair 34 = .ok (.iload 4, 2) := by decide +kernel
theorem dX1_isToRepair_36 : decode cX1_isToRepair 36 = .ok (.invokevirtual 81, 3) := by decide +kernel
theorem dX1_isToRepair_39 : decode cX1_isToRepair 39 = .ok (.ifCond .eq 7, 3) := by decide +kernel
theorem dX1_isToRepair_42 : decode cX1_isToRepair 42 = .ok (.iconst 1, 1) := by decide +kernel
theorem dX1_isToRepair_43 : decode cX1_isToRepair 43 = .ok (.goto 4, 3) := by decide +kernel
theorem dX1_isToRepair_46 : decode cX1_isToRepair 46 = .ok (.iconst 0, 1) := by decide +kernel
theorem dX1_isToRepair_47 : decode cX1_isToRepair 47 = .ok (.iadd, 1) := by decide +kernel
theorem dX1_isToRepair_48 : decode cX1_isToRepair 48 = .ok (.istore_n 3, 1) := by decide +kernel
theorem dX1_isToRepair_49 : decode cX1_isToRepair 49 = .ok (.iinc 4 1, 3) := by decide +kernel
theorem dX1_isToRepair_52 : decode cX1_isToRepair 52 = .ok (.goto (-45), 3) := by decide +kernel
theorem dX1_isToRepair_55 : decode cX1_isToRepair 55 = .ok (.aload_n 0, 1) := by decide +kernel
theorem dX1_isToRepair_56 : decode cX1_isToRepair 56 = .ok (.getfield 9, 3) := by decide +kernel
theorem dX1_isToRepair_59 : decode cX1_isToRepair 59 = .ok (.aload_n 1, 1) := by decide +kernel
theorem dX1_isToRepair_60 : decode cX1_isToRepair 60 = .ok (.invokevirtual 29, 3) := by decide +kernel
theorem dX1_isToRepair_63 : decode cX1_isToRepair 63 = .ok (.invokevirtual 74, 3) := by decide +kernel
theorem dX1_isToRepair_66 : decode cX1_isToRepair 66 = .ok (.ifCond .eq 17, 3) := by decide +kernel
theorem dX1_isToRepair_69 : decode cX1_isToRepair 69 = .ok (.iload_n 2, 1) := by decide +kernel
theorem dX1_isToRepair_70 : decode cX1_isToRepair 70 = .ok (.iconst 4, 1) := by decide +kernel
theorem dX1_isToRepair_71 : decode cX1_isToRepair 71 = .ok (.if_icmp .gt 12, 3) := by decide +kernel
theorem dX1_isToRepair_74 : decode cX1_isToRepair 74 = .ok (.iload_n 3, 1) := by decide +kernel
theorem dX1_isToRepair_75 : decode cX1_isToRepair 75 = .ok (.iconst 4, 1) := by decide +kernel
theorem dX1_isToRepair_76 : decode cX1_isToRepair 76 = .ok (.if_icmp .lt 7, 3) := by decide +kernel
theorem dX1_isToRepair_79 : decode cX1_isToRepair 79 = .ok (.iconst 1, 1) := by decide +kernel
theorem dX1_isToRepair_80 : decode cX1_isToRepair 80 = .ok (.goto 4, 3) := by decide +kernel
theorem dX1_isToRepair_83 : decode cX1_isToRepair 83 = .ok (.iconst 0, 1) := by decide +kernel
theorem dX1_isToRepair_84 : decode cX1_isToRepair 84 = .ok (.ireturn, 1) := by decide +kernel
set_option maxRecDepth 20000 in
theorem ggX1_give_X1_isAtHand : GoodIn wsX1_give wsX1_isAtHand := goodIn_r _ [6, 7, 8, 9, 10, 11, 12, 13, 14, 15, 16, 17, 18, 19, 20, 21, 22, 23, 24, 25, 26, 27, 28, 29, 30, 31, 32, 47, 48, 49, 50, 51, 52, 53, 54, 55, 56, 57, 58, 59, 60] (by decide +kernel) (by decide +kernel)
set_option maxRecDepth 20000 in
theorem gX1_give_X1_isAtHand : GoodIn wsX1_give (wsV RX1 81 RX1 yX1_isAtHand wsX1_isAtHand) := goodIn_app (goodIn_of _ (by decide +kernel)) ggX1_give_X1_isAtHand
set_option maxRecDepth 20000 in
theorem ggX1_give_X8_owner : GoodIn wsX1_give wsX8_owner := goodIn_r _ [36, 37, 50, 51, 52, 53, 54, 55] (by decide +kernel) (by decide +kernel)
set_option maxRecDepth 20000 in
theorem gX1_give_X8_owner : GoodIn wsX1_give (wsV RX1 29 RX8 yX8_owner wsX8_owner) := goodIn_app (goodIn_of _ (by decide +kernel)) ggX1_give_X8_owner
set_option maxRecDepth 20000 in
theorem ggX1_give_X8_holder : GoodIn wsX1_give wsX8_holder := goodIn_r _ [20, 21, 14, 15, 11, 16, 50, 51, 52, 53, 54, 55] (by decide +kernel) (by decide +kernel)
set_option maxRecDepth 20000 in
theorem gX1_give_X8_holder : GoodIn wsX1_give (wsV RX1 71 RX8 yX8_holder wsX8_holder) := goodIn_app (goodIn_of _ (by decide +kernel)) ggX1_give_X8_holder
set_option maxRecDepth 20000 in
theorem ggX1_give_X2_owe : GoodIn wsX1_give wsX2_owe := goodIn_r _ [42, 43, 44, 45, 41, 46, 61] (by decide +kernel) (by decide +kernel)
set_option maxRecDepth 20000 in
theorem gX1_give_X2_owe : GoodIn wsX1_give (wsV RX1 85 RX2 yX2_owe wsX2_owe) := goodIn_app (goodIn_of _ (by decide +kernel)) ggX1_give_X2_owe
theorem dX1_give_0 : decode cX1_give 0 = .ok (.iconst 0, 1) := by decide +kernel
theorem dX1_give_1 : decode cX1_give 1 = .ok (.istore_n 3, 1) := by decide +kernel
theorem dX1_give_2 : decode cX1_give 2 = .ok (.iconst 0, 1) := by decide +kernel
theorem dX1_give_3 : decode cX1_give 3 = .ok (.istore 4, 2) := by decide +kernel
theorem dX1_give_5 : decode cX1_give 5 = .ok (.iload 4, 2) := by decide +kernel
theorem dX1_give_7 : decode cX1_give 7 = .ok (.bipush 6, 2) := by decide +kernel
theorem dX1_give_9 : decode cX1_give 9 = .ok (.if_icmp .ge 27, 3) := by decide +kernel
theorem dX1_give_12 : decode cX1_give 12 = .ok (.iload_n 3, 1) := by decide +kernel
theorem dX1_give_13 : decode cX1_give 13 = .ok (.aload_n 0, 1) := by decide +kernel
theorem dX1_give_14 : decode cX1_give 14 = .ok (.aload_n 1, 1) := by decide +kernel
theorem dX1_give_15 : decode cX1_give 15 = .ok (.iload 4, 2) := by decide +kernel
theorem dX1_give_17 : decode cX1_give 17 = .ok (.invokevirtual 81, 3) := by decide +kernel
theorem dX1_give_20 : decode cX1_give 20 = .ok (.ifCond .eq 7, 3) := by decide +kernel
theorem dX1_give_23 : decode cX1_give 23 = .ok (.iconst 1, 1) := by decide +kernel
theorem dX1_give_24 : decode cX1_give 24 = .ok (.goto 4, 3) := by decide +kernel
theorem dX1_give_27 : decode cX1_give 27 = .ok (.iconst 0, 1) := by decide +kernel
theorem dX1_give_28 : decode cX1_give 28 = .ok (.iadd, 1) := by decide +kernel
theorem dX1_give_29 : decode cX1_give 29 = .ok (.istore_n 3, 1) := by decide +kernel
theorem dX1_give_30 : decode cX1_give 30 = .ok (.iinc 4 1, 3) := by decide +kernel
theorem dX1_give_33 : decode cX1_give 33 = .ok (.goto (-28), 3) := by decide +kernel
theorem dX1_give_36 : decode cX1_give 36 = .ok (.iload_n 2, 1) := by decide +kernel
theorem dX1_give_37 : decode cX1_give 37 = .ok (.aload_n 1, 1) := by decide +kernel
theorem dX1_give_38 : decode cX1_give 38 = .ok (.invokevirtual 29, 3) := by decide +kernel
theorem dX1_give_41 : decode cX1_give 41 = .ok (.if_icmp .eq 8, 3) := by decide +kernel
theorem dX1_give_44 : decode cX1_give 44 = .ok (.iload_n 3, 1) := by decide +kernel
theorem dX1_give_45 : decode cX1_give 45 = .ok (.iconst 4, 1) := by decide +kernel
theorem dX1_give_46 : decode cX1_give 46 = .ok (.if_icmp .ge 5, 3) := by decide +kernel
theorem dX1_give_49 : decode cX1_give 49 = .ok (.iconst 0, 1) := by decide +kernel
theorem dX1_give_50 : decode cX1_give 50 = .ok (.ireturn, 1) := by decide +kernel
theorem dX1_give_51 : decode cX1_give 51 = .ok (.iconst 0, 1) := by decide +kernel
theorem dX1_give_52 : decode cX1_give 52 = .ok (.istore 4, 2) := by decide +kernel
theorem dX1_give_54 : decode cX1_give 54 = .ok (.iconst 0, 1) := by decide +kernel
theorem dX1_give_55 : decode cX1_give 55 = .ok (.istore 5, 2) := by decide +kernel
theorem dX1_give_57 : decode cX1_give 57 = .ok (.iload 5, 2) := by decide +kernel
theorem dX1_give_59 : decode cX1_give 59 = .ok (.bipush 6, 2) := by decide +kernel
theorem dX1_give_61 : decode cX1_give 61 = .ok (.if_icmp .ge 43, 3) := by decide +kernel
theorem dX1_give_64 : decode cX1_give 64 = .ok (.iload 4, 2) := by decide +kernel
theorem dX1_give_66 : decode cX1_give 66 = .ok (.iconst 4, 1) := by decide +kernel
theorem dX1_give_67 : decode cX1_give 67 = .ok (.if_icmp .ge 37, 3) := by decide +kernel
theorem dX1_give_70 : decode cX1_give 70 = .ok (.aload_n 0, 1) := by decide +kernel
theorem dX1_give_71 : decode cX1_give 71 = .ok (.aload_n 1, 1) := by decide +kernel
theorem dX1_give_72 : decode cX1_give 72 = .ok (.iload 5, 2) := by decide +kernel
theorem dX1_give_74 : decode cX1_give 74 = .ok (.invokevirtual 81, 3) := by decide +kernel
theorem dX1_give_77 : decode cX1_give 77 = .ok (.ifCond .eq 21, 3) := by decide +kernel
theorem dX1_give_80 : decode cX1_give 80 = .ok (.aload_n 0, 1) := by decide +kernel
theorem dX1_give_81 : decode cX1_give 81 = .ok (.getfield 19, 3) := by decide +kernel
theorem dX1_give_84 : decode cX1_give 84 = .ok (.iload_n 2, 1) := by decide +kernel
theorem dX1_give_85 : decode cX1_give 85 = .ok (.aload_n 1, 1) := by decide +kernel
theorem dX1_give_86 : decode cX1_give 86 = .ok (.iload 5, 2) := by decide +kernel
theorem dX1_give_88 : decode cX1_give 88 = .ok (.invokevirtual 71, 3) := by decide +kernel
theorem dX1_give_91 : decode cX1_give 91 = .ok (.iconst 1, 1) := by decide +kernel
theorem dX1_give_92 : decode cX1_give 92 = .ok (.invokevirtual 85, 3) := by decide +kernel
theorem dX1_give_95 : decode cX1_give 95 = .ok (.iinc 4 1, 3) := by decide +kernel
theorem dX1_give_98 : decode cX1_give 98 = .ok (.iinc 5 1, 3) := by decide +kernel
theorem dX1_give_101 : decode cX1_give 101 = .ok (.goto (-44), 3) := by decide +kernel
theorem dX1_give_104 : decode cX1_give 104 = .ok (.iload 4, 2) := by decide +kernel
theorem dX1_give_106 : decode cX1_give 106 = .ok (.ireturn, 1) := by decide +kernel
theorem dX2_init_0 : decode cX2_init 0 = .ok (.aload_n 0, 1) := by decide +kernel
theorem dX2_init_1 : decode cX2_init 1 = .ok (.invokespecial 3, 3) := by decide +kernel
theorem dX2_init_4 : decode cX2_init 4 = .ok (.aload_n 0, 1) := by decide +kernel
theorem dX2_init_5 : decode cX2_init 5 = .ok (.bipush 16, 2) := by decide +kernel
theorem dX2_init_7 : decode cX2_init 7 = .ok (.bipush 16, 2) := by decide +kernel
theorem dX2_init_9 : decode cX2_init 9 = .ok (.multianewarray 9 2, 4) := by decide +kernel
theorem dX2_init_13 : decode cX2_init 13 = .ok (.putfield 11, 3) := by decide +kernel
theorem dX2_init_16 : decode cX2_init 16 = .ok (.return_, 1) := by decide +kernel
theorem dX2_isPlace_0 : decode cX2_isPlace 0 = .ok (.iload_n 0, 1) := by decide +kernel
theorem dX2_isPlace_1 : decode cX2_isPlace 1 = .ok (.ifCond .lt 23, 3) := by decide +kernel
theorem dX2_isPlace_4 : decode cX2_isPlace 4 = .ok (.iload_n 0, 1) := by decide +kernel
theorem dX2_isPlace_5 : decode cX2_isPlace 5 = .ok (.bipush 16, 2) := by decide +kernel
theorem dX2_isPlace_7 : decode cX2_isPlace 7 = .ok (.if_icmp .ge 17, 3) := by decide +kernel
theorem dX2_isPlace_10 : decode cX2_isPlace 10 = .ok (.iload_n 1, 1) := by decide +kernel
theorem dX2_isPlace_11 : decode cX2_isPlace 11 = .ok (.ifCond .lt 13, 3) := by decide +kernel
theorem dX2_isPlace_14 : decode cX2_isPlace 14 = .ok (.iload_n 1, 1) := by decide +kernel
theorem dX2_isPlace_15 : decode cX2_isPlace 15 = .ok (.bipush 16, 2) := by decide +kernel
theorem dX2_isPlace_17 : decode cX2_isPlace 17 = .ok (.if_icmp .ge 7, 3) := by decide +kernel
theorem dX2_isPlace_20 : decode cX2_isPlace 20 = .ok (.iconst 1, 1) := by decide +kernel
theorem dX2_isPlace_21 : decode cX2_isPlace 21 = .ok (.goto 4, 3) := by decide +kernel
theorem dX2_isPlace_24 : decode cX2_isPlace 24 = .ok (.iconst 0, 1) := by decide +kernel
theorem dX2_isPlace_25 : decode cX2_isPlace 25 = .ok (.ireturn, 1) := by decide +kernel
set_option maxRecDepth 20000 in
theorem ggX2_debt_X2_isPlace : GoodIn wsX2_debt wsX2_isPlace := goodIn_r _ [5] (by decide +kernel) (by decide +kernel)
set_option maxRecDepth 20000 in
theorem gX2_debt_X2_isPlace : GoodIn wsX2_debt (va_wsS RX2 16 yX2_isPlace wsX2_isPlace) := goodIn_app (goodIn_of _ (by decide +kernel)) ggX2_debt_X2_isPlace
theorem dX2_debt_0 : decode cX2_debt 0 = .ok (.iload_n 1, 1) := by decide +kernel
theorem dX2_debt_1 : decode cX2_debt 1 = .ok (.iload_n 2, 1) := by decide +kernel
theorem dX2_debt_2 : decode cX2_debt 2 = .ok (.invokestatic 16, 3) := by decide +kernel
theorem dX2_debt_5 : decode cX2_debt 5 = .ok (.ifCond .eq 14, 3) := by decide +kernel
theorem dX2_debt_8 : decode cX2_debt 8 = .ok (.aload_n 0, 1) := by decide +kernel
theorem dX2_debt_9 : decode cX2_debt 9 = .ok (.getfield 11, 3) := by decide +kernel
theorem dX2_debt_12 : decode cX2_debt 12 = .ok (.iload_n 1, 1) := by decide +kernel
theorem dX2_debt_13 : decode cX2_debt 13 = .ok (.aaload, 1) := by decide +kernel
theorem dX2_debt_14 : decode cX2_debt 14 = .ok (.iload_n 2, 1) := by decide +kernel
theorem dX2_debt_15 : decode cX2_debt 15 = .ok (.iaload, 1) := by decide +kernel
theorem dX2_debt_16 : decode cX2_debt 16 = .ok (.goto 4, 3) := by decide +kernel
theorem dX2_debt_19 : decode cX2_debt 19 = .ok (.iconst 0, 1) := by decide +kernel
theorem dX2_debt_20 : decode cX2_debt 20 = .ok (.ireturn, 1) := by decide +kernel
set_option maxRecDepth 20000 in
theorem ggX2_owe_X2_isPlace : GoodIn wsX2_owe wsX2_isPlace := goodIn_r _ [5] (by decide +kernel) (by decide +kernel)
set_option maxRecDepth 20000 in
theorem gX2_owe_X2_isPlace : GoodIn wsX2_owe (va_wsS RX2 16 yX2_isPlace wsX2_isPlace) := goodIn_app (goodIn_of _ (by decide +kernel)) ggX2_owe_X2_isPlace
theorem dX2_owe_0 : decode cX2_owe 0 = .ok (.iload_n 1, 1) := by decide +kernel
theorem dX2_owe_1 : decode cX2_owe 1 = .ok (.iload_n 2, 1) := by decide +kernel
theorem dX2_owe_2 : decode cX2_owe 2 = .ok (.invokestatic 16, 3) := by decide +kernel
theorem dX2_owe_5 : decode cX2_owe 5 = .ok (.ifCond .eq 20, 3) := by decide +kernel
theorem dX2_owe_8 : decode cX2_owe 8 = .ok (.iload_n 1, 1) := by decide +kernel
theorem dX2_owe_9 : decode cX2_owe 9 = .ok (.iload_n 2, 1) := by decide +kernel
theorem dX2_owe_10 : decode cX2_owe 10 = .ok (.if_icmp .eq 15, 3) := by decide +kernel
theorem dX2_owe_13 : decode cX2_owe 13 = .ok (.aload_n 0, 1) := by decide +kernel
theorem dX2_owe_14 : decode cX2_owe 14 = .ok (.getfield 11, 3) := by decide +kernel
theorem dX2_owe_17 : decode cX2_owe 17 = .ok (.iload_n 1, 1) := by decide +kernel
theorem dX2_owe_18 : decode cX2_owe 18 = .ok (.aaload, 1) := by decide +kernel
theorem dX2_owe_19 : decode cX2_owe 19 = .ok (.iload_n 2, 1) := by decide +kernel
theorem dX2_owe_20 : decode cX2_owe 20 = .ok (.dup2, 1) := by decide +kernel
theorem dX2_owe_21 : decode cX2_owe 21 = .ok (.iaload, 1) := by decide +kernel
theorem dX2_owe_22 : decode cX2_owe 22 = .ok (.iload_n 3, 1) := by decide +kernel
theorem dX2_owe_23 : decode cX2_owe 23 = .ok (.iadd, 1) := by decide +kernel
theorem dX2_owe_24 : decode cX2_owe 24 = .ok (.iastore, 1) := by decide +kernel
theorem dX2_owe_25 : decode cX2_owe 25 = .ok (.return_, 1) := by decide +kernel
set_option maxRecDepth 20000 in
theorem ggX2_balance_X2_debt : GoodIn wsX2_balance wsX2_debt := goodIn_r _ [5, 6, 7, 8, 4, 9, 10] (by decide +kernel) (by decide +kernel)
set_option maxRecDepth 20000 in
theorem gX2_balance_X2_debt : GoodIn wsX2_balance (wsV RX2 20 RX2 yX2_debt wsX2_debt) := goodIn_app (goodIn_of _ (by decide +kernel)) ggX2_balance_X2_debt
theorem dX2_balance_0 : decode cX2_balance 0 = .ok (.iconst 0, 1) := by decide +kernel
theorem dX2_balance_1 : decode cX2_balance 1 = .ok (.istore_n 2, 1) := by decide +kernel
theorem dX2_balance_2 : decode cX2_balance 2 = .ok (.iconst 0, 1) := by decide +kernel
theorem dX2_balance_3 : decode cX2_balance 3 = .ok (.istore_n 3, 1) := by decide +kernel
theorem dX2_balance_4 : decode cX2_balance 4 = .ok (.iload_n 3, 1) := by decide +kernel
theorem dX2_balance_5 : decode cX2_balance 5 = .ok (.bipush 16, 2) := by decide +kernel
theorem dX2_balance_7 : decode cX2_balance 7 = .ok (.if_icmp .ge 25, 3) := by decide +kernel
theorem dX2_balance_10 : decode cX2_balance 10 = .ok (.iload_n 2, 1) := by decide +kernel
theorem dX2_balance_11 : decode cX2_balance 11 = .ok (.aload_n 0, 1) := by decide +kernel
theorem dX2_balance_12 : decode cX2_balance 12 = .ok (.iload_n 3, 1) := by decide +kernel
theorem dX2_balance_13 : decode cX2_balance 13 = .ok (.iload_n 1, 1) := by decide +kernel
theorem dX2_balance_14 : decode cX2_balance 14 = .ok (.invokevirtual 20, 3) := by decide +kernel
theorem dX2_balance_17 : decode cX2_balance 17 = .ok (.aload_n 0, 1) := by decide +kernel
theorem dX2_balance_18 : decode cX2_balance 18 = .ok (.iload_n 1, 1) := by decide +kernel
theorem dX2_balance_19 : decode cX2_balance 19 = .ok (.iload_n 3, 1) := by decide +kernel
theorem dX2_balance_20 : decode cX2_balance 20 = .ok (.invokevirtual 20, 3) := by decide +kernel
theorem dX2_balance_23 : decode cX2_balance 23 = .ok (.isub, 1) := by decide +kernel
theorem dX2_balance_24 : decode cX2_balance 24 = .ok (.iadd, 1) := by decide +kernel
theorem dX2_balance_25 : decode cX2_balance 25 = .ok (.istore_n 2, 1) := by decide +kernel
theorem dX2_balance_26 : decode cX2_balance 26 = .ok (.iinc 3 1, 3) := by decide +kernel
theorem dX2_balance_29 : decode cX2_balance 29 = .ok (.goto (-25), 3) := by decide +kernel
theorem dX2_balance_32 : decode cX2_balance 32 = .ok (.iload_n 2, 1) := by decide +kernel
theorem dX2_balance_33 : decode cX2_balance 33 = .ok (.ireturn, 1) := by decide +kernel
set_option maxRecDepth 20000 in
theorem ggX2_lessenRings_X2_lessenTwo : GoodIn wsX2_lessenRings wsX2_lessenTwo := goodIn_r _ [5, 6, 7, 8, 9, 10, 11, 12, 4, 13, 14, 15, 16, 17, 18, 19, 20, 21, 26] (by decide +kernel) (by decide +kernel)
set_option maxRecDepth 20000 in
theorem gX2_lessenRings_X2_lessenTwo : GoodIn wsX2_lessenRings (wsV RX2 24 RX2 yX2_lessenTwo wsX2_lessenTwo) := goodIn_app (goodIn_of _ (by decide +kernel)) ggX2_lessenRings_X2_lessenTwo
set_option maxRecDepth 20000 in
theorem ggX2_lessenRings_X2_lessenThrees : GoodIn wsX2_lessenRings wsX2_lessenThrees := goodIn_r _ [25, 6, 7, 8, 9, 10, 11, 12, 4, 13, 14, 15, 16, 17, 18, 19, 20, 21, 26] (by decide +kernel) (by decide +kernel)
set_option maxRecDepth 20000 in
theorem gX2_lessenRings_X2_lessenThrees : GoodIn wsX2_lessenRings (wsV RX2 27 RX2 yX2_lessenThrees wsX2_lessenThrees) := goodIn_app (goodIn_of _ (by decide +kernel)) ggX2_lessenRings_X2_lessenThrees
theorem dX2_lessenRings_0 : decode cX2_lessenRings 0 = .ok (.iconst 0, 1) := by decide +kernel
theorem dX2_lessenRings_1 : decode cX2_lessenRings 1 = .ok (.istore_n 1, 1) := by decide +kernel
theorem dX2_lessenRings_2 : decode cX2_lessenRings 2 = .ok (.iconst 0, 1) := by decide +kernel
theorem dX2_lessenRings_3 : decode cX2_lessenRings 3 = .ok (.istore_n 2, 1) := by decide +kernel
theorem dX2_lessenRings_4 : decode cX2_lessenRings 4 = .ok (.iload_n 2, 1) := by decide +kernel
theorem dX2_lessenRings_5 : decode cX2_lessenRings 5 = .ok (.bipush 16, 2) := by decide +kernel
theorem dX2_lessenRings_7 : decode cX2_lessenRings 7 = .ok (.if_icmp .ge 34, 3) := by decide +kernel
theorem dX2_lessenRings_10 : decode cX2_lessenRings 10 = .ok (.iload_n 2, 1) := by decide +kernel
theorem dX2_lessenRings_11 : decode cX2_lessenRings 11 = .ok (.iconst 1, 1) := by decide +kernel
theorem dX2_lessenRings_12 : decode cX2_lessenRings 12 = .ok (.iadd, 1) := by decide +kernel
theorem dX2_lessenRings_13 : decode cX2_lessenRings 13 = .ok (.istore_n 3, 1) := by decide +kernel
theorem dX2_lessenRings_14 : decode cX2_lessenRings 14 = .ok (.iload_n 3, 1) := by decide +kernel
theorem dX2_lessenRings_15 : decode cX2_lessenRings 15 = .ok (.bipush 16, 2) := by decide +kernel
theorem dX2_lessenRings_17 : decode cX2_lessenRings 17 = .ok (.if_icmp .ge 18, 3) := by decide +kernel
theorem dX2_lessenRings_20 : decode cX2_lessenRings 20 = .ok (.iload_n 1, 1) := by decide +kernel
theorem dX2_lessenRings_21 : decode cX2_lessenRings 21 = .ok (.aload_n 0, 1) := by decide +kernel
theorem dX2_lessenRings_22 : decode cX2_lessenRings 22 = .ok (.iload_n 2, 1) := by decide +kernel
theorem dX2_lessenRings_23 : decode cX2_lessenRings 23 = .ok (.iload_n 3, 1) := by decide +kernel
theorem dX2_lessenRings_24 : decode cX2_lessenRings 24 = .ok (.invokevirtual 24, 3) := by decide +kernel
theorem dX2_lessenRings_27 : decode cX2_lessenRings 27 = .ok (.iadd, 1) := by decide +kernel
theorem dX2_lessenRings_28 : decode cX2_lessenRings 28 = .ok (.istore_n 1, 1) := by decide +kernel
theorem dX2_lessenRings_29 : decode cX2_lessenRings 29 = .ok (.iinc 3 1, 3) := by decide +kernel
theorem dX2_lessenRings_32 : decode cX2_lessenRings 32 = .ok (.goto (-18), 3) := by decide +kernel
theorem dX2_lessenRings_35 : decode cX2_lessenRings 35 = .ok (.iinc 2 1, 3) := by decide +kernel
theorem dX2_lessenRings_38 : decode cX2_lessenRings 38 = .ok (.goto (-34), 3) := by decide +kernel
theorem dX2_lessenRings_41 : decode cX2_lessenRings 41 = .ok (.iconst 0, 1) := by decide +kernel
theorem dX2_lessenRings_42 : decode cX2_lessenRings 42 = .ok (.istore_n 2, 1) := by decide +kernel
theorem dX2_lessenRings_43 : decode cX2_lessenRings 43 = .ok (.iload_n 2, 1) := by decide +kernel
theorem dX2_lessenRings_44 : decode cX2_lessenRings 44 = .ok (.bipush 16, 2) := by decide +kernel
theorem dX2_lessenRings_46 : decode cX2_lessenRings 46 = .ok (.if_icmp .ge 34, 3) := by decide +kernel
theorem dX2_lessenRings_49 : decode cX2_lessenRings 49 = .ok (.iload_n 2, 1) := by decide +kernel
theorem dX2_lessenRings_50 : decode cX2_lessenRings 50 = .ok (.iconst 1, 1) := by decide +kernel
theorem dX2_lessenRings_51 : decode cX2_lessenRings 51 = .ok (.iadd, 1) := by decide +kernel
theorem dX2_lessenRings_52 : decode cX2_lessenRings 52 = .ok (.istore_n 3, 1) := by decide +kernel
theorem dX2_lessenRings_53 : decode cX2_lessenRings 53 = .ok (.iload_n 3, 1) := by decide +kernel
theorem dX2_lessenRings_54 : decode cX2_lessenRings 54 = .ok (.bipush 16, 2) := by decide +kernel
theorem dX2_lessenRings_56 : decode cX2_lessenRings 56 = .ok (.if_icmp .ge 18, 3) := by decide +kernel
theorem dX2_lessenRings_59 : decode cX2_lessenRings 59 = .ok (.iload_n 1, 1) := by decide +kernel
theorem dX2_lessenRings_60 : decode cX2_lessenRings 60 = .ok (.aload_n 0, 1) := by decide +kernel
theorem dX2_lessenRings_61 : decode cX2_lessenRings 61 = .ok (.iload_n 2, 1) := by decide +kernel
theorem dX2_lessenRings_62 : decode cX2_lessenRings 62 = .ok (.iload_n 3, 1) := by decide +kernel
theorem dX2_lessenRings_63 : decode cX2_lessenRings 63 = .ok (.invokevirtual 27, 3) := by decide +kernel
theorem dX2_lessenRings_66 : decode cX2_lessenRings 66 = .ok (.iadd, 1) := by decide +kernel
theorem dX2_lessenRings_67 : decode cX2_lessenRings 67 = .ok (.istore_n 1, 1) := by decide +kernel
theorem dX2_lessenRings_68 : decode cX2_lessenRings 68 = .ok (.iinc 3 1, 3) := by decide +kernel
theorem dX2_lessenRings_71 : decode cX2_lessenRings 71 = .ok (.goto (-18), 3) := by decide +kernel
theorem dX2_lessenRings_74 : decode cX2_lessenRings 74 = .ok (.iinc 2 1, 3) := by decide +kernel
theorem dX2_lessenRings_77 : decode cX2_lessenRings 77 = .ok (.goto (-34), 3) := by decide +kernel
theorem dX2_lessenRings_80 : decode cX2_lessenRings 80 = .ok (.iload_n 1, 1) := by decide +kernel
theorem dX2_lessenRings_81 : decode cX2_lessenRings 81 = .ok (.ireturn, 1) := by decide +kernel
set_option maxRecDepth 20000 in
theorem ggX2_lessenTwo_X2_debt : GoodIn wsX2_lessenTwo wsX2_debt := goodIn_r _ [9, 10, 11, 12, 8, 13, 18] (by decide +kernel) (by decide +kernel)
set_option maxRecDepth 20000 in
theorem gX2_lessenTwo_X2_debt : GoodIn wsX2_lessenTwo (wsV RX2 20 RX2 yX2_debt wsX2_debt) := goodIn_app (goodIn_of _ (by decide +kernel)) ggX2_lessenTwo_X2_debt
set_option maxRecDepth 20000 in
theorem ggX2_lessenTwo_X2_owe : GoodIn wsX2_lessenTwo wsX2_owe := goodIn_r _ [17, 10, 11, 12, 8, 13, 18] (by decide +kernel) (by decide +kernel)
set_option maxRecDepth 20000 in
theorem gX2_lessenTwo_X2_owe : GoodIn wsX2_lessenTwo (wsV RX2 35 RX2 yX2_owe wsX2_owe) := goodIn_app (goodIn_of _ (by decide +kernel)) ggX2_lessenTwo_X2_owe
theorem dX2_lessenTwo_0 : decode cX2_lessenTwo 0 = .ok (.aload_n 0, 1) := by decide +kernel
theorem dX2_lessenTwo_1 : decode cX2_lessenTwo 1 = .ok (.iload_n 1, 1) := by decide +kernel
theorem dX2_lessenTwo_2 : decode cX2_lessenTwo 2 = .ok (.iload_n 2, 1) := by decide +kernel
theorem dX2_lessenTwo_3 : decode cX2_lessenTwo 3 = .ok (.invokevirtual 20, 3) := by decide +kernel
theorem dX2_lessenTwo_6 : decode cX2_lessenTwo 6 = .ok (.aload_n 0, 1) := by decide +kernel
theorem dX2_lessenTwo_7 : decode cX2_lessenTwo 7 = .ok (.iload_n 2, 1) := by decide +kernel
theorem dX2_lessenTwo_8 : decode cX2_lessenTwo 8 = .ok (.iload_n 1, 1) := by decide +kernel
theorem dX2_lessenTwo_9 : decode cX2_lessenTwo 9 = .ok (.invokevirtual 20, 3) := by decide +kernel
theorem dX2_lessenTwo_12 : decode cX2_lessenTwo 12 = .ok (.invokestatic 30, 3) := by decide +kernel
theorem dX2_lessenTwo_15 : decode cX2_lessenTwo 15 = .ok (.istore_n 3, 1) := by decide +kernel
theorem dX2_lessenTwo_16 : decode cX2_lessenTwo 16 = .ok (.aload_n 0, 1) := by decide +kernel
theorem dX2_lessenTwo_17 : decode cX2_lessenTwo 17 = .ok (.iload_n 1, 1) := by decide +kernel
theorem dX2_lessenTwo_18 : decode cX2_lessenTwo 18 = .ok (.iload_n 2, 1) := by decide +kernel
theorem dX2_lessenTwo_19 : decode cX2_lessenTwo 19 = .ok (.iload_n 3, 1) := by decide +kernel
theorem dX2_lessenTwo_20 : decode cX2_lessenTwo 20 = .ok (.ineg, 1) := by decide +kernel
theorem dX2_lessenTwo_21 : decode cX2_lessenTwo 21 = .ok (.invokevirtual 35, 3) := by decide +kernel
theorem dX2_lessenTwo_24 : decode cX2_lessenTwo 24 = .ok (.aload_n 0, 1) := by decide +kernel
theorem dX2_lessenTwo_25 : decode cX2_lessenTwo 25 = .ok (.iload_n 2, 1) := by decide +kernel
theorem dX2_lessenTwo_26 : decode cX2_lessenTwo 26 = .ok (.iload_n 1, 1) := by decide +kernel
theorem dX2_lessenTwo_27 : decode cX2_lessenTwo 27 = .ok (.iload_n 3, 1) := by decide +kernel
theorem dX2_lessenTwo_28 : decode cX2_lessenTwo 28 = .ok (.ineg, 1) := by decide +kernel
theorem dX2_lessenTwo_29 : decode cX2_lessenTwo 29 = .ok (.invokevirtual 35, 3) := by decide +kernel
theorem dX2_lessenTwo_32 : decode cX2_lessenTwo 32 = .ok (.iconst 2, 1) := by decide +kernel
theorem dX2_lessenTwo_33 : decode cX2_lessenTwo 33 = .ok (.iload_n 3, 1) := by decide +kernel
theorem dX2_lessenTwo_34 : decode cX2_lessenTwo 34 = .ok (.imul, 1) := by decide +kernel
theorem dX2_lessenTwo_35 : decode cX2_lessenTwo 35 = .ok (.ireturn, 1) := by decide +kernel
set_option maxRecDepth 20000 in
theorem ggX2_lessenThrees_X2_debt : GoodIn wsX2_lessenThrees wsX2_debt := goodIn_r _ [9, 10, 11, 12, 8, 13, 18] (by decide +kernel) (by decide +kernel)
set_option maxRecDepth 20000 in
theorem gX2_lessenThrees_X2_debt : GoodIn wsX2_lessenThrees (wsV RX2 20 RX2 yX2_debt wsX2_debt) := goodIn_app (goodIn_of _ (by decide +kernel)) ggX2_lessenThrees_X2_debt
set_option maxRecDepth 20000 in
theorem ggX2_lessenThrees_X2_owe : GoodIn wsX2_lessenThrees wsX2_owe := goodIn_r _ [17, 10, 11, 12, 8, 13, 18] (by decide +kernel) (by decide +kernel)
set_option maxRecDepth 20000 in
theorem gX2_lessenThrees_X2_owe : GoodIn wsX2_lessenThrees (wsV RX2 35 RX2 yX2_owe wsX2_owe) := goodIn_app (goodIn_of _ (by decide +kernel)) ggX2_lessenThrees_X2_owe
theorem dX2_lessenThrees_0 : decode cX2_lessenThrees 0 = .ok (.iconst 0, 1) := by decide +kernel
theorem dX2_lessenThrees_1 : decode cX2_lessenThrees 1 = .ok (.istore_n 3, 1) := by decide +kernel
theorem dX2_lessenThrees_2 : decode cX2_lessenThrees 2 = .ok (.iload_n 1, 1) := by decide +kernel
theorem dX2_lessenThrees_3 : decode cX2_lessenThrees 3 = .ok (.iconst 1, 1) := by decide +kernel
theorem dX2_lessenThrees_4 : decode cX2_lessenThrees 4 = .ok (.iadd, 1) := by decide +kernel
theorem dX2_lessenThrees_5 : decode cX2_lessenThrees 5 = .ok (.istore 4, 2) := by decide +kernel
theorem dX2_lessenThrees_7 : decode cX2_lessenThrees 7 = .ok (.iload 4, 2) := by decide +kernel
theorem dX2_lessenThrees_9 : decode cX2_lessenThrees 9 = .ok (.bipush 16, 2) := by decide +kernel
theorem dX2_lessenThrees_11 : decode cX2_lessenThrees 11 = .ok (.if_icmp .ge 79, 3) := by decide +kernel
theorem dX2_lessenThrees_14 : decode cX2_lessenThrees 14 = .ok (.iload 4, 2) := by decide +kernel
theorem dX2_lessenThrees_16 : decode cX2_lessenThrees 16 = .ok (.iload_n 2, 1) := by decide +kernel
theorem dX2_lessenThrees_17 : decode cX2_lessenThrees 17 = .ok (.if_icmp .eq 67, 3) := by decide +kernel
theorem dX2_lessenThrees_20 : decode cX2_lessenThrees 20 = .ok (.aload_n 0, 1) := by decide +kernel
theorem dX2_lessenThrees_21 : decode cX2_lessenThrees 21 = .ok (.iload_n 1, 1) := by decide +kernel
theorem dX2_lessenThrees_22 : decode cX2_lessenThrees 22 = .ok (.iload_n 2, 1) := by decide +kernel
theorem dX2_lessenThrees_23 : decode cX2_lessenThrees 23 = .ok (.invokevirtual 20, 3) := by decide +kernel
theorem dX2_lessenThrees_26 : decode cX2_lessenThrees 26 = .ok (.aload_n 0, 1) := by decide +kernel
theorem dX2_lessenThrees_27 : decode cX2_lessenThrees 27 = .ok (.iload_n 2, 1) := by decide +kernel
theorem dX2_lessenThrees_28 : decode cX2_lessenThrees 28 = .ok (.iload 4, 2) := by decide +kernel
theorem dX2_lessenThrees_30 : decode cX2_lessenThrees 30 = .ok (.invokevirtual 20, 3) := by decide +kernel
theorem dX2_lessenThrees_33 : decode cX2_lessenThrees 33 = .ok (.aload_n 0, 1) := by decide +kernel
theorem dX2_lessenThrees_34 : decode cX2_lessenThrees 34 = .ok (.iload 4, 2) := by decide +kernel
theorem dX2_lessenThrees_36 : decode cX2_lessenThrees 36 = .ok (.iload_n 1, 1) := by decide +kernel
theorem dX2_lessenThrees_37 : decode cX2_lessenThrees 37 = .ok (.invokevirtual 20, 3) := by decide +kernel
theorem dX2_lessenThrees_40 : decode cX2_lessenThrees 40 = .ok (.invokestatic 30, 3) := by decide +kernel
theorem dX2_lessenThrees_43 : decode cX2_lessenThrees 43 = .ok (.invokestatic 30, 3) := by decide +kernel
theorem dX2_lessenThrees_46 : decode cX2_lessenThrees 46 = .ok (.istore 5, 2) := by decide +kernel
theorem dX2_lessenThrees_48 : decode cX2_lessenThrees 48 = .ok (.aload_n 0, 1) := by decide +kernel
theorem dX2_lessenThrees_49 : decode cX2_lessenThrees 49 = .ok (.iload_n 1, 1) := by decide +kernel
theorem dX2_lessenThrees_50 : decode cX2_lessenThrees 50 = .ok (.iload_n 2, 1) := by decide +kernel
theorem dX2_lessenThrees_51 : decode cX2_lessenThrees 51 = .ok (.iload 5, 2) := by decide +kernel
theorem dX2_lessenThrees_53 : decode cX2_lessenThrees 53 = .ok (.ineg, 1) := by decide +kernel
theorem dX2_lessenThrees_54 : decode cX2_lessenThrees 54 = .ok (.invokevirtual 35, 3) := by decide +kernel
theorem dX2_lessenThrees_57 : decode cX2_lessenThrees 57 = .ok (.aload_n 0, 1) := by decide +kernel
theorem dX2_lessenThrees_58 : decode cX2_lessenThrees 58 = .ok (.iload_n 2, 1) := by decide +kernel
theorem dX2_lessenThrees_59 : decode cX2_lessenThrees 59 = .ok (.iload 4, 2) := by decide +kernel
theorem dX2_lessenThrees_61 : decode cX2_lessenThrees 61 = .ok (.iload 5, 2) := by decide +kernel
theorem dX2_lessenThrees_63 : decode cX2_lessenThrees 63 = .ok (.ineg, 1) := by decide +kernel
theorem dX2_lessenThrees_64 : decode cX2_lessenThrees 64 = .ok (.invokevirtual 35, 3) := by decide +kernel
theorem dX2_lessenThrees_67 : decode cX2_lessenThrees 67 = .ok (.aload_n 0, 1) := by decide +kernel
theorem dX2_lessenThrees_68 : decode cX2_lessenThrees 68 = .ok (.iload 4, 2) := by decide +kernel
theorem dX2_lessenThrees_70 : decode cX2_lessenThrees 70 = .ok (.iload_n 1, 1) := by decide +kernel
theorem dX2_lessenThrees_71 : decode cX2_lessenThrees 71 = .ok (.iload 5, 2) := by decide +kernel
theorem dX2_lessenThrees_73 : decode cX2_lessenThrees 73 = .ok (.ineg, 1) := by decide +kernel
theorem dX2_lessenThrees_74 : decode cX2_lessenThrees 74 = .ok (.invokevirtual 35, 3) := by decide +kernel
theorem dX2_lessenThrees_77 : decode cX2_lessenThrees 77 = .ok (.iload_n 3, 1) := by decide +kernel
theorem dX2_lessenThrees_78 : decode cX2_lessenThrees 78 = .ok (.iconst 3, 1) := by decide +kernel
theorem dX2_lessenThrees_79 : decode cX2_lessenThrees 79 = .ok (.iload 5, 2) := by decide +kernel
theorem dX2_lessenThrees_81 : decode cX2_lessenThrees 81 = .ok (.imul, 1) := by decide +kernel
theorem dX2_lessenThrees_82 : decode cX2_lessenThrees 82 = .ok (.iadd, 1) := by decide +kernel
theorem dX2_lessenThrees_83 : decode cX2_lessenThrees 83 = .ok (.istore_n 3, 1) := by decide +kernel
theorem dX2_lessenThrees_84 : decode cX2_lessenThrees 84 = .ok (.iinc 4 1, 3) := by decide +kernel
theorem dX2_lessenThrees_87 : decode cX2_lessenThrees 87 = .ok (.goto (-80), 3) := by decide +kernel
theorem dX2_lessenThrees_90 : decode cX2_lessenThrees 90 = .ok (.iload_n 3, 1) := by decide +kernel
theorem dX2_lessenThrees_91 : decode cX2_lessenThrees 91 = .ok (.ireturn, 1) := by decide +kernel
theorem dX3_init_0 : decode cX3_init 0 = .ok (.aload_n 0, 1) := by decide +kernel
theorem dX3_init_1 : decode cX3_init 1 = .ok (.invokespecial 3, 3) := by decide +kernel
theorem dX3_init_4 : decode cX3_init 4 = .ok (.aload_n 0, 1) := by decide +kernel
theorem dX3_init_5 : decode cX3_init 5 = .ok (.bipush 16, 2) := by decide +kernel
theorem dX3_init_7 : decode cX3_init 7 = .ok (.newarray .int, 2) := by decide +kernel
theorem dX3_init_9 : decode cX3_init 9 = .ok (.putfield 9, 3) := by decide +kernel
theorem dX3_init_12 : decode cX3_init 12 = .ok (.aload_n 0, 1) := by decide +kernel
theorem dX3_init_13 : decode cX3_init 13 = .ok (.aload_n 1, 1) := by decide +kernel
theorem dX3_init_14 : decode cX3_init 14 = .ok (.putfield 15, 3) := by decide +kernel
theorem dX3_init_17 : decode cX3_init 17 = .ok (.return_, 1) := by decide +kernel
theorem dX3_roundCount_0 : decode cX3_roundCount 0 = .ok (.aload_n 0, 1) := by decide +kernel
theorem dX3_roundCount_1 : decode cX3_roundCount 1 = .ok (.getfield 19, 3) := by decide +kernel
theorem dX3_roundCount_4 : decode cX3_roundCount 4 = .ok (.ireturn, 1) := by decide +kernel
set_option maxRecDepth 20000 in
theorem ggX3_run_X3_tellInRound : GoodIn wsX3_run wsX3_tellInRound := goodIn_r _ [7, 8, 1, 9, 10, 11, 12, 13, 14, 15, 16, 17, 18, 19, 20, 21, 22, 6, 23, 24, 25, 26, 27, 28, 29, 30, 31, 32, 33, 34, 35, 36, 37, 38, 39, 40, 41] (by decide +kernel) (by decide +kernel)
set_option maxRecDepth 20000 in
theorem gX3_run_X3_tellInRound : GoodIn wsX3_run (wsV RX3 23 RX3 yX3_tellInRound wsX3_tellInRound) := goodIn_app (goodIn_of _ (by decide +kernel)) ggX3_run_X3_tellInRound
theorem dX3_run_0 : decode cX3_run 0 = .ok (.iconst 0, 1) := by decide +kernel
theorem dX3_run_1 : decode cX3_run 1 = .ok (.istore_n 2, 1) := by decide +kernel
theorem dX3_run_2 : decode cX3_run 2 = .ok (.iload_n 2, 1) := by decide +kernel
theorem dX3_run_3 : decode cX3_run 3 = .ok (.bipush 16, 2) := by decide +kernel
theorem dX3_run_5 : decode cX3_run 5 = .ok (.if_icmp .ge 25, 3) := by decide +kernel
theorem dX3_run_8 : decode cX3_run 8 = .ok (.aload_n 0, 1) := by decide +kernel
theorem dX3_run_9 : decode cX3_run 9 = .ok (.getfield 9, 3) := by decide +kernel
theorem dX3_run_12 : decode cX3_run 12 = .ok (.iload_n 2, 1) := by decide +kernel
theorem dX3_run_13 : decode cX3_run 13 = .ok (.iload_n 2, 1) := by decide +kernel
theorem dX3_run_14 : decode cX3_run 14 = .ok (.iload_n 1, 1) := by decide +kernel
theorem dX3_run_15 : decode cX3_run 15 = .ok (.if_icmp .ne 7, 3) := by decide +kernel
theorem dX3_run_18 : decode cX3_run 18 = .ok (.iconst 0, 1) := by decide +kernel
theorem dX3_run_19 : decode cX3_run 19 = .ok (.goto 4, 3) := by decide +kernel
theorem dX3_run_22 : decode cX3_run 22 = .ok (.iconst (-1), 1) := by decide +kernel
theorem dX3_run_23 : decode cX3_run 23 = .ok (.iastore, 1) := by decide +kernel
theorem dX3_run_24 : decode cX3_run 24 = .ok (.iinc 2 1, 3) := by decide +kernel
theorem dX3_run_27 : decode cX3_run 27 = .ok (.goto (-25), 3) := by decide +kernel
theorem dX3_run_30 : decode cX3_run 30 = .ok (.aload_n 0, 1) := by decide +kernel
theorem dX3_run_31 : decode cX3_run 31 = .ok (.iconst 0, 1) := by decide +kernel
theorem dX3_run_32 : decode cX3_run 32 = .ok (.putfield 19, 3) := by decide +kernel
theorem dX3_run_35 : decode cX3_run 35 = .ok (.iconst 0, 1) := by decide +kernel
theorem dX3_run_36 : decode cX3_run 36 = .ok (.istore_n 2, 1) := by decide +kernel
theorem dX3_run_37 : decode cX3_run 37 = .ok (.iconst 0, 1) := by decide +kernel
theorem dX3_run_38 : decode cX3_run 38 = .ok (.istore_n 3, 1) := by decide +kernel
theorem dX3_run_39 : decode cX3_run 39 = .ok (.iconst 1, 1) := by decide +kernel
theorem dX3_run_40 : decode cX3_run 40 = .ok (.istore 4, 2) := by decide +kernel
theorem dX3_run_42 : decode cX3_run 42 = .ok (.iload 4, 2) := by decide +kernel
theorem dX3_run_44 : decode cX3_run 44 = .ok (.bipush 16, 2) := by decide +kernel
theorem dX3_run_46 : decode cX3_run 46 = .ok (.if_icmp .gt 55, 3) := by decide +kernel
theorem dX3_run_49 : decode cX3_run 49 = .ok (.iload_n 3, 1) := by decide +kernel
theorem dX3_run_50 : decode cX3_run 50 = .ok (.ifCond .ne 51, 3) := by decide +kernel
theorem dX3_run_53 : decode cX3_run 53 = .ok (.aload_n 0, 1) := by decide +kernel
theorem dX3_run_54 : decode cX3_run 54 = .ok (.iload 4, 2) := by decide +kernel
theorem dX3_run_56 : decode cX3_run 56 = .ok (.invokevirtual 23, 3) := by decide +kernel
theorem dX3_run_59 : decode cX3_run 59 = .ok (.istore 5, 2) := by decide +kernel
theorem dX3_run_61 : decode cX3_run 61 = .ok (.iload_n 2, 1) := by decide +kernel
theorem dX3_run_62 : decode cX3_run 62 = .ok (.iload 5, 2) := by decide +kernel
theorem dX3_run_64 : decode cX3_run 64 = .ok (.iadd, 1) := by decide +kernel
theorem dX3_run_65 : decode cX3_run 65 = .ok (.istore_n 2, 1) := by decide +kernel
theorem dX3_run_66 : decode cX3_run 66 = .ok (.iload 5, 2) := by decide +kernel
theorem dX3_run_68 : decode cX3_run 68 = .ok (.ifCond .ne 7, 3) := by decide +kernel
theorem dX3_run_71 : decode cX3_run 71 = .ok (.iconst 1, 1) := by decide +kernel
theorem dX3_run_72 : decode cX3_run 72 = .ok (.goto 4, 3) := by decide +kernel
theorem dX3_run_75 : decode cX3_run 75 = .ok (.iconst 0, 1) := by decide +kernel
theorem dX3_run_76 : decode cX3_run 76 = .ok (.istore_n 3, 1) := by decide +kernel
theorem dX3_run_77 : decode cX3_run 77 = .ok (.aload_n 0, 1) := by decide +kernel
theorem dX3_run_78 : decode cX3_run 78 = .ok (.dup, 1) := by decide +kernel
theorem dX3_run_79 : decode cX3_run 79 = .ok (.getfield 19, 3) := by decide +kernel
theorem dX3_run_82 : decode cX3_run 82 = .ok (.iload_n 3, 1) := by decide +kernel
theorem dX3_run_83 : decode cX3_run 83 = .ok (.ifCond .eq 7, 3) := by decide +kernel
theorem dX3_run_86 : decode cX3_run 86 = .ok (.iconst 0, 1) := by decide +kernel
theorem dX3_run_87 : decode cX3_run 87 = .ok (.goto 4, 3) := by decide +kernel
theorem dX3_run_90 : decode cX3_run 90 = .ok (.iconst 1, 1) := by decide +kernel
theorem dX3_run_91 : decode cX3_run 91 = .ok (.iadd, 1) := by decide +kernel
theorem dX3_run_92 : decode cX3_run 92 = .ok (.putfield 19, 3) := by decide +kernel
theorem dX3_run_95 : decode cX3_run 95 = .ok (.iinc 4 1, 3) := by decide +kernel
theorem dX3_run_98 : decode cX3_run 98 = .ok (.goto (-56), 3) := by decide +kernel
theorem dX3_run_101 : decode cX3_run 101 = .ok (.iload_n 2, 1) := by decide +kernel
theorem dX3_run_102 : decode cX3_run 102 = .ok (.ireturn, 1) := by decide +kernel
set_option maxRecDepth 20000 in
theorem ggX3_tellInRound_X5_isHonest : GoodIn wsX3_tellInRound wsX5_isHonest := goodIn_r _ [7, 8, 9, 10, 11, 6, 12, 13, 32, 33, 34, 35, 36] (by decide +kernel) (by decide +kernel)
set_option maxRecDepth 20000 in
theorem gX3_tellInRound_X5_isHonest : GoodIn wsX3_tellInRound (wsV RX3 27 RX5 yX5_isHonest wsX5_isHonest) := goodIn_app (goodIn_of _ (by decide +kernel)) ggX3_tellInRound_X5_isHonest
set_option maxRecDepth 20000 in
theorem ggX3_tellInRound_X3_tellAll : GoodIn wsX3_tellInRound wsX3_tellAll := goodIn_r _ [18, 1, 2, 19, 20, 21, 6, 22, 23, 9, 10, 11, 12, 13, 24, 25, 26, 27, 28, 8, 29, 30, 31, 32, 33, 34, 35, 36] (by decide +kernel) (by decide +kernel)
set_option maxRecDepth 20000 in
theorem gX3_tellInRound_X3_tellAll : GoodIn wsX3_tellInRound (wsV RX3 33 RX3 yX3_tellAll wsX3_tellAll) := goodIn_app (goodIn_of _ (by decide +kernel)) ggX3_tellInRound_X3_tellAll
theorem dX3_tellInRound_0 : decode cX3_tellInRound 0 = .ok (.iconst 0, 1) := by decide +kernel
theorem dX3_tellInRound_1 : decode cX3_tellInRound 1 = .ok (.istore_n 2, 1) := by decide +kernel
theorem dX3_tellInRound_2 : decode cX3_tellInRound 2 = .ok (.iconst 0, 1) := by decide +kernel
theorem dX3_tellInRound_3 : decode cX3_tellInRound 3 = .ok (.istore_n 3, 1) := by decide +kernel
theorem dX3_tellInRound_4 : decode cX3_tellInRound 4 = .ok (.iload_n 3, 1) := by decide +kernel
theorem dX3_tellInRound_5 : decode cX3_tellInRound 5 = .ok (.bipush 16, 2) := by decide +kernel
theorem dX3_tellInRound_7 : decode cX3_tellInRound 7 = .ok (.if_icmp .ge 58, 3) := by decide +kernel
theorem dX3_tellInRound_10 : decode cX3_tellInRound 10 = .ok (.iload_n 1, 1) := by decide +kernel
theorem dX3_tellInRound_11 : decode cX3_tellInRound 11 = .ok (.iconst 1, 1) := by decide +kernel
theorem dX3_tellInRound_12 : decode cX3_tellInRound 12 = .ok (.if_icmp .eq 14, 3) := by decide +kernel
theorem dX3_tellInRound_15 : decode cX3_tellInRound 15 = .ok (.aload_n 0, 1) := by decide +kernel
theorem dX3_tellInRound_16 : decode cX3_tellInRound 16 = .ok (.getfield 15, 3) := by decide +kernel
theorem dX3_tellInRound_19 : decode cX3_tellInRound 19 = .ok (.iload_n 3, 1) := by decide +kernel
theorem dX3_tellInRound_20 : decode cX3_tellInRound 20 = .ok (.invokevirtual 27, 3) := by decide +kernel
theorem dX3_tellInRound_23 : decode cX3_tellInRound 23 = .ok (.ifCond .eq 7, 3) := by decide +kernel
theorem dX3_tellInRound_26 : decode cX3_tellInRound 26 = .ok (.iconst 1, 1) := by decide +kernel
theorem dX3_tellInRound_27 : decode cX3_tellInRound 27 = .ok (.goto 4, 3) := by decide +kernel
theorem dX3_tellInRound_30 : decode cX3_tellInRound 30 = .ok (.iconst 0, 1) := by decide +kernel
theorem dX3_tellInRound_31 : decode cX3_tellInRound 31 = .ok (.istore 4, 2) := by decide +kernel
theorem dX3_tellInRound_33 : decode cX3_tellInRound 33 = .ok (.iload 4, 2) := by decide +kernel
theorem dX3_tellInRound_35 : decode cX3_tellInRound 35 = .ok (.ifCond .eq 24, 3) := by decide +kernel
theorem dX3_tellInRound_38 : decode cX3_tellInRound 38 = .ok (.aload_n 0, 1) := by decide +kernel
theorem dX3_tellInRound_39 : decode cX3_tellInRound 39 = .ok (.getfield 9, 3) := by decide +kernel
theorem dX3_tellInRound_42 : decode cX3_tellInRound 42 = .ok (.iload_n 3, 1) := by decide +kernel
theorem dX3_tellInRound_43 : decode cX3_tellInRound 43 = .ok (.iaload, 1) := by decide +kernel
theorem dX3_tellInRound_44 : decode cX3_tellInRound 44 = .ok (.iload_n 1, 1) := by decide +kernel
theorem dX3_tellInRound_45 : decode cX3_tellInRound 45 = .ok (.iconst 1, 1) := by decide +kernel
theorem dX3_tellInRound_46 : decode cX3_tellInRound 46 = .ok (.isub, 1) := by decide +kernel
theorem dX3_tellInRound_47 : decode cX3_tellInRound 47 = .ok (.if_icmp .ne 12, 3) := by decide +kernel
theorem dX3_tellInRound_50 : decode cX3_tellInRound 50 = .ok (.iload_n 2, 1) := by decide +kernel
theorem dX3_tellInRound_51 : decode cX3_tellInRound 51 = .ok (.aload_n 0, 1) := by decide +kernel
theorem dX3_tellInRound_52 : decode cX3_tellInRound 52 = .ok (.iload_n 3, 1) := by decide +kernel
theorem dX3_tellInRound_53 : decode cX3_tellInRound 53 = .ok (.iload_n 1, 1) := by decide +kernel
theorem dX3_tellInRound_54 : decode cX3_tellInRound 54 = .ok (.invokevirtual 33, 3) := by decide +kernel
theorem dX3_tellInRound_57 : decode cX3_tellInRound 57 = .ok (.iadd, 1) := by decide +kernel
theorem dX3_tellInRound_58 : decode cX3_tellInRound 58 = .ok (.istore_n 2, 1) := by decide +kernel
theorem dX3_tellInRound_59 : decode cX3_tellInRound 59 = .ok (.iinc 3 1, 3) := by decide +kernel
theorem dX3_tellInRound_62 : decode cX3_tellInRound 62 = .ok (.goto (-58), 3) := by decide +kernel
theorem dX3_tellInRound_65 : decode cX3_tellInRound 65 = .ok (.iload_n 2, 1) := by decide +kernel
theorem dX3_tellInRound_66 : decode cX3_tellInRound 66 = .ok (.ireturn, 1) := by decide +kernel
set_option maxRecDepth 20000 in
theorem ggX3_tellAll_X5_keptAt : GoodIn wsX3_tellAll wsX5_keptAt := goodIn_r _ [7, 8, 9, 10, 11, 6, 12, 13, 23, 24, 25, 26, 27] (by decide +kernel) (by decide +kernel)
set_option maxRecDepth 20000 in
theorem gX3_tellAll_X5_keptAt : GoodIn wsX3_tellAll (wsV RX3 37 RX5 yX5_keptAt wsX5_keptAt) := goodIn_app (goodIn_of _ (by decide +kernel)) ggX3_tellAll_X5_keptAt
set_option maxRecDepth 20000 in
theorem ggX3_tellAll_X5_answers : GoodIn wsX3_tellAll wsX5_answers := goodIn_r _ [17, 18, 19, 9, 10, 11, 6, 12, 13, 23, 24, 25, 26, 27] (by decide +kernel) (by decide +kernel)
set_option maxRecDepth 20000 in
theorem gX3_tellAll_X5_answers : GoodIn wsX3_tellAll (wsV RX3 40 RX5 yX5_answers wsX5_answers) := goodIn_app (goodIn_of _ (by decide +kernel)) ggX3_tellAll_X5_answers
theorem dX3_tellAll_0 : decode cX3_tellAll 0 = .ok (.iconst 0, 1) := by decide +kernel
theorem dX3_tellAll_1 : decode cX3_tellAll 1 = .ok (.istore_n 3, 1) := by decide +kernel
theorem dX3_tellAll_2 : decode cX3_tellAll 2 = .ok (.iconst 0, 1) := by decide +kernel
theorem dX3_tellAll_3 : decode cX3_tellAll 3 = .ok (.istore 4, 2) := by decide +kernel
theorem dX3_tellAll_5 : decode cX3_tellAll 5 = .ok (.iload 4, 2) := by decide +kernel
theorem dX3_tellAll_7 : decode cX3_tellAll 7 = .ok (.bipush 16, 2) := by decide +kernel
theorem dX3_tellAll_9 : decode cX3_tellAll 9 = .ok (.if_icmp .ge 55, 3) := by decide +kernel
theorem dX3_tellAll_12 : decode cX3_tellAll 12 = .ok (.aload_n 0, 1) := by decide +kernel
theorem dX3_tellAll_13 : decode cX3_tellAll 13 = .ok (.getfield 15, 3) := by decide +kernel
theorem dX3_tellAll_16 : decode cX3_tellAll 16 = .ok (.iload_n 1, 1) := by decide +kernel
theorem dX3_tellAll_17 : decode cX3_tellAll 17 = .ok (.iload 4, 2) := by decide +kernel
theorem dX3_tellAll_19 : decode cX3_tellAll 19 = .ok (.invokevirtual 37, 3) := by decide +kernel
theorem dX3_tellAll_22 : decode cX3_tellAll 22 = .ok (.istore 5, 2) := by decide +kernel
theorem dX3_tellAll_24 : decode cX3_tellAll 24 = .ok (.aload_n 0, 1) := by decide +kernel
theorem dX3_tellAll_25 : decode cX3_tellAll 25 = .ok (.getfield 15, 3) := by decide +kernel
theorem dX3_tellAll_28 : decode cX3_tellAll 28 = .ok (.iload 5, 2) := by decide +kernel
theorem dX3_tellAll_30 : decode cX3_tellAll 30 = .ok (.invokevirtual 40, 3) := by decide +kernel
theorem dX3_tellAll_33 : decode cX3_tellAll 33 = .ok (.ifCond .eq 25, 3) := by decide +kernel
theorem dX3_tellAll_36 : decode cX3_tellAll 36 = .ok (.aload_n 0, 1) := by decide +kernel
theorem dX3_tellAll_37 : decode cX3_tellAll 37 = .ok (.getfield 9, 3) := by decide +kernel
theorem dX3_tellAll_40 : decode cX3_tellAll 40 = .ok (.iload 5, 2) := by decide +kernel
theorem dX3_tellAll_42 : decode cX3_tellAll 42 = .ok (.iaload, 1) := by decide +kernel
theorem dX3_tellAll_43 : decode cX3_tellAll 43 = .ok (.iconst (-1), 1) := by decide +kernel
theorem dX3_tellAll_44 : decode cX3_tellAll 44 = .ok (.if_icmp .ne 14, 3) := by decide +kernel
theorem dX3_tellAll_47 : decode cX3_tellAll 47 = .ok (.aload_n 0, 1) := by decide +kernel
theorem dX3_tellAll_48 : decode cX3_tellAll 48 = .ok (.getfield 9, 3) := by decide +kernel
theorem dX3_tellAll_51 : decode cX3_tellAll 51 = .ok (.iload 5, 2) := by decide +kernel
theorem dX3_tellAll_53 : decode cX3_tellAll 53 = .ok (.iload_n 2, 1) := by decide +kernel
theorem dX3_tellAll_54 : decode cX3_tellAll 54 = .ok (.iastore, 1) := by decide +kernel
theorem dX3_tellAll_55 : decode cX3_tellAll 55 = .ok (.iinc 3 1, 3) := by decide +kernel
theorem dX3_tellAll_58 : decode cX3_tellAll 58 = .ok (.iinc 4 1, 3) := by decide +kernel
theorem dX3_tellAll_61 : decode cX3_tellAll 61 = .ok (.goto (-56), 3) := by decide +kernel
theorem dX3_tellAll_64 : decode cX3_tellAll 64 = .ok (.iload_n 3, 1) := by decide +kernel
theorem dX3_tellAll_65 : decode cX3_tellAll 65 = .ok (.ireturn, 1) := by decide +kernel
theorem dX4_init_0 : decode cX4_init 0 = .ok (.aload_n 0, 1) := by decide +kernel
theorem dX4_init_1 : decode cX4_init 1 = .ok (.invokespecial 3, 3) := by decide +kernel
theorem dX4_init_4 : decode cX4_init 4 = .ok (.aload_n 0, 1) := by decide +kernel
theorem dX4_init_5 : decode cX4_init 5 = .ok (.sipush 256, 3) := by decide +kernel
theorem dX4_init_8 : decode cX4_init 8 = .ok (.newarray .int, 2) := by decide +kernel
theorem dX4_init_10 : decode cX4_init 10 = .ok (.putfield 9, 3) := by decide +kernel
theorem dX4_init_13 : decode cX4_init 13 = .ok (.aload_n 0, 1) := by decide +kernel
theorem dX4_init_14 : decode cX4_init 14 = .ok (.bipush 16, 2) := by decide +kernel
theorem dX4_init_16 : decode cX4_init 16 = .ok (.sipush 256, 3) := by decide +kernel
theorem dX4_init_19 : decode cX4_init 19 = .ok (.multianewarray 15 2, 4) := by decide +kernel
theorem dX4_init_23 : decode cX4_init 23 = .ok (.putfield 17, 3) := by decide +kernel
theorem dX4_init_26 : decode cX4_init 26 = .ok (.iconst 0, 1) := by decide +kernel
theorem dX4_init_27 : decode cX4_init 27 = .ok (.istore_n 1, 1) := by decide +kernel
theorem dX4_init_28 : decode cX4_init 28 = .ok (.iload_n 1, 1) := by decide +kernel
theorem dX4_init_29 : decode cX4_init 29 = .ok (.sipush 256, 3) := by decide +kernel
theorem dX4_init_32 : decode cX4_init 32 = .ok (.if_icmp .ge 39, 3) := by decide +kernel
theorem dX4_init_35 : decode cX4_init 35 = .ok (.aload_n 0, 1) := by decide +kernel
theorem dX4_init_36 : decode cX4_init 36 = .ok (.getfield 9, 3) := by decide +kernel
theorem dX4_init_39 : decode cX4_init 39 = .ok (.iload_n 1, 1) := by decide +kernel
theorem dX4_init_40 : decode cX4_init 40 = .ok (.iconst (-1), 1) := by decide +kernel
theorem dX4_init_41 : decode cX4_init 41 = .ok (.iastore, 1) := by decide +kernel
theorem dX4_init_42 : decode cX4_init 42 = .ok (.iconst 0, 1) := by decide +kernel
theorem dX4_init_43 : decode cX4_init 43 = .ok (.istore_n 2, 1) := by decide +kernel
theorem dX4_init_44 : decode cX4_init 44 = .ok (.iload_n 2, 1) := by decide +kernel
theorem dX4_init_45 : decode cX4_init 45 = .ok (.bipush 16, 2) := by decide +kernel
theorem dX4_init_47 : decode cX4_init 47 = .ok (.if_icmp .ge 18, 3) := by decide +kernel
theorem dX4_init_50 : decode cX4_init 50 = .ok (.aload_n 0, 1) := by decide +kernel
theorem dX4_init_51 : decode cX4_init 51 = .ok (.getfield 17, 3) := by decide +kernel
theorem dX4_init_54 : decode cX4_init 54 = .ok (.iload_n 2, 1) := by decide +kernel
theorem dX4_init_55 : decode cX4_init 55 = .ok (.aaload, 1) := by decide +kernel
theorem dX4_init_56 : decode cX4_init 56 = .ok (.iload_n 1, 1) := by decide +kernel
theorem dX4_init_57 : decode cX4_init 57 = .ok (.iconst (-1), 1) := by decide +kernel
theorem dX4_init_58 : decode cX4_init 58 = .ok (.iastore, 1) := by decide +kernel
theorem dX4_init_59 : decode cX4_init 59 = .ok (.iinc 2 1, 3) := by decide +kernel
theorem dX4_init_62 : decode cX4_init 62 = .ok (.goto (-18), 3) := by decide +kernel
theorem dX4_init_65 : decode cX4_init 65 = .ok (.iinc 1 1, 3) := by decide +kernel
theorem dX4_init_68 : decode cX4_init 68 = .ok (.goto (-40), 3) := by decide +kernel
theorem dX4_init_71 : decode cX4_init 71 = .ok (.return_, 1) := by decide +kernel
set_option maxRecDepth 20000 in
theorem ggX4_mayTell_X4_isKey : GoodIn wsX4_mayTell wsX4_isKey := goodIn_r _ [5] (by decide +kernel) (by decide +kernel)
set_option maxRecDepth 20000 in
theorem gX4_mayTell_X4_isKey : GoodIn wsX4_mayTell (va_wsS RX4 20 yX4_isKey wsX4_isKey) := goodIn_app (goodIn_of _ (by decide +kernel)) ggX4_mayTell_X4_isKey
theorem dX4_mayTell_0 : decode cX4_mayTell 0 = .ok (.iload_n 2, 1) := by decide +kernel
theorem dX4_mayTell_1 : decode cX4_mayTell 1 = .ok (.invokestatic 20, 3) := by decide +kernel
theorem dX4_mayTell_4 : decode cX4_mayTell 4 = .ok (.ifCond .eq 27, 3) := by decide +kernel
theorem dX4_mayTell_7 : decode cX4_mayTell 7 = .ok (.aload_n 0, 1) := by decide +kernel
theorem dX4_mayTell_8 : decode cX4_mayTell 8 = .ok (.getfield 9, 3) := by decide +kernel
theorem dX4_mayTell_11 : decode cX4_mayTell 11 = .ok (.iload_n 2, 1) := by decide +kernel
theorem dX4_mayTell_12 : decode cX4_mayTell 12 = .ok (.iaload, 1) := by decide +kernel
theorem dX4_mayTell_13 : decode cX4_mayTell 13 = .ok (.iconst (-1), 1) := by decide +kernel
theorem dX4_mayTell_14 : decode cX4_mayTell 14 = .ok (.if_icmp .eq 13, 3) := by decide +kernel
theorem dX4_mayTell_17 : decode cX4_mayTell 17 = .ok (.aload_n 0, 1) := by decide +kernel
theorem dX4_mayTell_18 : decode cX4_mayTell 18 = .ok (.getfield 9, 3) := by decide +kernel
theorem dX4_mayTell_21 : decode cX4_mayTell 21 = .ok (.iload_n 2, 1) := by decide +kernel
theorem dX4_mayTell_22 : decode cX4_mayTell 22 = .ok (.iaload, 1) := by decide +kernel
theorem dX4_mayTell_23 : decode cX4_mayTell 23 = .ok (.iload_n 1, 1) := by decide +kernel
theorem dX4_mayTell_24 : decode cX4_mayTell 24 = .ok (.if_icmp .ne 7, 3) := by decide +kernel
theorem dX4_mayTell_27 : decode cX4_mayTell 27 = .ok (.iconst 1, 1) := by decide +kernel
theorem dX4_mayTell_28 : decode cX4_mayTell 28 = .ok (.goto 4, 3) := by decide +kernel
theorem dX4_mayTell_31 : decode cX4_mayTell 31 = .ok (.iconst 0, 1) := by decide +kernel
theorem dX4_mayTell_32 : decode cX4_mayTell 32 = .ok (.ireturn, 1) := by decide +kernel
set_option maxRecDepth 20000 in
theorem ggX4_claim_X4_mayTell : GoodIn wsX4_claim wsX4_mayTell := goodIn_r _ [6, 1, 7, 8, 5, 9, 10, 11] (by decide +kernel) (by decide +kernel)
set_option maxRecDepth 20000 in
theorem gX4_claim_X4_mayTell : GoodIn wsX4_claim (wsV RX4 24 RX4 yX4_mayTell wsX4_mayTell) := goodIn_app (goodIn_of _ (by decide +kernel)) ggX4_claim_X4_mayTell
theorem dX4_claim_0 : decode cX4_claim 0 = .ok (.aload_n 0, 1) := by decide +kernel
theorem dX4_claim_1 : decode cX4_claim 1 = .ok (.iload_n 1, 1) := by decide +kernel
theorem dX4_claim_2 : decode cX4_claim 2 = .ok (.iload_n 2, 1) := by decide +kernel
theorem dX4_claim_3 : decode cX4_claim 3 = .ok (.invokevirtual 24, 3) := by decide +kernel
theorem dX4_claim_6 : decode cX4_claim 6 = .ok (.ifCond .eq 10, 3) := by decide +kernel
theorem dX4_claim_9 : decode cX4_claim 9 = .ok (.aload_n 0, 1) := by decide +kernel
theorem dX4_claim_10 : decode cX4_claim 10 = .ok (.getfield 9, 3) := by decide +kernel
theorem dX4_claim_13 : decode cX4_claim 13 = .ok (.iload_n 2, 1) := by decide +kernel
theorem dX4_claim_14 : decode cX4_claim 14 = .ok (.iload_n 1, 1) := by decide +kernel
theorem dX4_claim_15 : decode cX4_claim 15 = .ok (.iastore, 1) := by decide +kernel
theorem dX4_claim_16 : decode cX4_claim 16 = .ok (.return_, 1) := by decide +kernel
set_option maxRecDepth 20000 in
theorem ggX4_keep_X4_isPlace : GoodIn wsX4_keep wsX4_isPlace := goodIn_r _ [5, 6, 7, 4, 8] (by decide +kernel) (by decide +kernel)
set_option maxRecDepth 20000 in
theorem gX4_keep_X4_isPlace : GoodIn wsX4_keep (va_wsS RX4 28 yX4_isPlace wsX4_isPlace) := goodIn_app (goodIn_of _ (by decide +kernel)) ggX4_keep_X4_isPlace
set_option maxRecDepth 20000 in
theorem ggX4_keep_X4_isNewer : GoodIn wsX4_keep wsX4_isNewer := goodIn_r _ [11] (by decide +kernel) (by decide +kernel)
set_option maxRecDepth 20000 in
theorem gX4_keep_X4_isNewer : GoodIn wsX4_keep (va_wsS RX4 31 yX4_isNewer wsX4_isNewer) := goodIn_app (goodIn_of _ (by decide +kernel)) ggX4_keep_X4_isNewer
theorem dX4_keep_0 : decode cX4_keep 0 = .ok (.sipush 1000, 3) := by decide +kernel
theorem dX4_keep_3 : decode cX4_keep 3 = .ok (.iload_n 3, 1) := by decide +kernel
theorem dX4_keep_4 : decode cX4_keep 4 = .ok (.imul, 1) := by decide +kernel
theorem dX4_keep_5 : decode cX4_keep 5 = .ok (.iload 4, 2) := by decide +kernel
theorem dX4_keep_7 : decode cX4_keep 7 = .ok (.iadd, 1) := by decide +kernel
theorem dX4_keep_8 : decode cX4_keep 8 = .ok (.istore 5, 2) := by decide +kernel
theorem dX4_keep_10 : decode cX4_keep 10 = .ok (.iload_n 1, 1) := by decide +kernel
theorem dX4_keep_11 : decode cX4_keep 11 = .ok (.iload_n 2, 1) := by decide +kernel
theorem dX4_keep_12 : decode cX4_keep 12 = .ok (.invokestatic 28, 3) := by decide +kernel
theorem dX4_keep_15 : decode cX4_keep 15 = .ok (.ifCond .eq 19, 3) := by decide +kernel
theorem dX4_keep_18 : decode cX4_keep 18 = .ok (.iload 5, 2) := by decide +kernel
theorem dX4_keep_20 : decode cX4_keep 20 = .ok (.aload_n 0, 1) := by decide +kernel
theorem dX4_keep_21 : decode cX4_keep 21 = .ok (.getfield 17, 3) := by decide +kernel
theorem dX4_keep_24 : decode cX4_keep 24 = .ok (.iload_n 1, 1) := by decide +kernel
theorem dX4_keep_25 : decode cX4_keep 25 = .ok (.aaload, 1) := by decide +kernel
theorem dX4_keep_26 : decode cX4_keep 26 = .ok (.iload_n 2, 1) := by decide +kernel
theorem dX4_keep_27 : decode cX4_keep 27 = .ok (.iaload, 1) := by decide +kernel
theorem dX4_keep_28 : decode cX4_keep 28 = .ok (.invokestatic 31, 3) := by decide +kernel
theorem dX4_keep_31 : decode cX4_keep 31 = .ok (.ifCond .ne 5, 3) := by decide +kernel
theorem dX4_keep_34 : decode cX4_keep 34 = .ok (.iconst 0, 1) := by decide +kernel
theorem dX4_keep_35 : decode cX4_keep 35 = .ok (.ireturn, 1) := by decide +kernel
theorem dX4_keep_36 : decode cX4_keep 36 = .ok (.aload_n 0, 1) := by decide +kernel
theorem dX4_keep_37 : decode cX4_keep 37 = .ok (.getfield 17, 3) := by decide +kernel
theorem dX4_keep_40 : decode cX4_keep 40 = .ok (.iload_n 1, 1) := by decide +kernel
theorem dX4_keep_41 : decode cX4_keep 41 = .ok (.aaload, 1) := by decide +kernel
theorem dX4_keep_42 : decode cX4_keep 42 = .ok (.iload_n 2, 1) := by decide +kernel
theorem dX4_keep_43 : decode cX4_keep 43 = .ok (.iload 5, 2) := by decide +kernel
theorem dX4_keep_45 : decode cX4_keep 45 = .ok (.iastore, 1) := by decide +kernel
theorem dX4_keep_46 : decode cX4_keep 46 = .ok (.iconst 1, 1) := by decide +kernel
theorem dX4_keep_47 : decode cX4_keep 47 = .ok (.ireturn, 1) := by decide +kernel
set_option maxRecDepth 20000 in
theorem ggX4_keptBy_X4_isPlace : GoodIn wsX4_keptBy wsX4_isPlace := goodIn_r _ [5, 6, 7, 4, 8] (by decide +kernel) (by decide +kernel)
set_option maxRecDepth 20000 in
theorem gX4_keptBy_X4_isPlace : GoodIn wsX4_keptBy (va_wsS RX4 28 yX4_isPlace wsX4_isPlace) := goodIn_app (goodIn_of _ (by decide +kernel)) ggX4_keptBy_X4_isPlace
theorem dX4_keptBy_0 : decode cX4_keptBy 0 = .ok (.iload_n 1, 1) := by decide +kernel
theorem dX4_keptBy_1 : decode cX4_keptBy 1 = .ok (.iload_n 2, 1) := by decide +kernel
theorem dX4_keptBy_2 : decode cX4_keptBy 2 = .ok (.invokestatic 28, 3) := by decide +kernel
theorem dX4_keptBy_5 : decode cX4_keptBy 5 = .ok (.ifCond .eq 14, 3) := by decide +kernel
theorem dX4_keptBy_8 : decode cX4_keptBy 8 = .ok (.aload_n 0, 1) := by decide +kernel
theorem dX4_keptBy_9 : decode cX4_keptBy 9 = .ok (.getfield 17, 3) := by decide +kernel
theorem dX4_keptBy_12 : decode cX4_keptBy 12 = .ok (.iload_n 1, 1) := by decide +kernel
theorem dX4_keptBy_13 : decode cX4_keptBy 13 = .ok (.aaload, 1) := by decide +kernel
theorem dX4_keptBy_14 : decode cX4_keptBy 14 = .ok (.iload_n 2, 1) := by decide +kernel
theorem dX4_keptBy_15 : decode cX4_keptBy 15 = .ok (.iaload, 1) := by decide +kernel
theorem dX4_keptBy_16 : decode cX4_keptBy 16 = .ok (.goto 4, 3) := by decide +kernel
theorem dX4_keptBy_19 : decode cX4_keptBy 19 = .ok (.iconst (-1), 1) := by decide +kernel
theorem dX4_keptBy_20 : decode cX4_keptBy 20 = .ok (.ireturn, 1) := by decide +kernel
theorem dX4_isNewer_0 : decode cX4_isNewer 0 = .ok (.iload_n 0, 1) := by decide +kernel
theorem dX4_isNewer_1 : decode cX4_isNewer 1 = .ok (.iconst (-1), 1) := by decide +kernel
theorem dX4_isNewer_2 : decode cX4_isNewer 2 = .ok (.if_icmp .eq 25, 3) := by decide +kernel
theorem dX4_isNewer_5 : decode cX4_isNewer 5 = .ok (.iload_n 1, 1) := by decide +kernel
theorem dX4_isNewer_6 : decode cX4_isNewer 6 = .ok (.iconst (-1), 1) := by decide +kernel
theorem dX4_isNewer_7 : decode cX4_isNewer 7 = .ok (.if_icmp .eq 16, 3) := by decide +kernel
theorem dX4_isNewer_10 : decode cX4_isNewer 10 = .ok (.iload_n 0, 1) := by decide +kernel
theorem dX4_isNewer_11 : decode cX4_isNewer 11 = .ok (.sipush 1000, 3) := by decide +kernel
theorem dX4_isNewer_14 : decode cX4_isNewer 14 = .ok (.idiv, 1) := by decide +kernel
theorem dX4_isNewer_15 : decode cX4_isNewer 15 = .ok (.iload_n 1, 1) := by decide +kernel
theorem dX4_isNewer_16 : decode cX4_isNewer 16 = .ok (.sipush 1000, 3) := by decide +kernel
theorem dX4_isNewer_19 : decode cX4_isNewer 19 = .ok (.idiv, 1) := by decide +kernel
theorem dX4_isNewer_20 : decode cX4_isNewer 20 = .ok (.if_icmp .le 7, 3) := by decide +kernel
theorem dX4_isNewer_23 : decode cX4_isNewer 23 = .ok (.iconst 1, 1) := by decide +kernel
theorem dX4_isNewer_24 : decode cX4_isNewer 24 = .ok (.goto 4, 3) := by decide +kernel
theorem dX4_isNewer_27 : decode cX4_isNewer 27 = .ok (.iconst 0, 1) := by decide +kernel
theorem dX4_isNewer_28 : decode cX4_isNewer 28 = .ok (.ireturn, 1) := by decide +kernel
theorem dX4_isKey_0 : decode cX4_isKey 0 = .ok (.iload_n 0, 1) := by decide +kernel
theorem dX4_isKey_1 : decode cX4_isKey 1 = .ok (.ifCond .lt 14, 3) := by decide +kernel
theorem dX4_isKey_4 : decode cX4_isKey 4 = .ok (.iload_n 0, 1) := by decide +kernel
theorem dX4_isKey_5 : decode cX4_isKey 5 = .ok (.sipush 256, 3) := by decide +kernel
theorem dX4_isKey_8 : decode cX4_isKey 8 = .ok (.if_icmp .ge 7, 3) := by decide +kernel
theorem dX4_isKey_11 : decode cX4_isKey 11 = .ok (.iconst 1, 1) := by decide +kernel
theorem dX4_isKey_12 : decode cX4_isKey 12 = .ok (.goto 4, 3) := by decide +kernel
theorem dX4_isKey_15 : decode cX4_isKey 15 = .ok (.iconst 0, 1) := by decide +kernel
theorem dX4_isKey_16 : decode cX4_isKey 16 = .ok (.ireturn, 1) := by decide +kernel
set_option maxRecDepth 20000 in
theorem ggX4_isPlace_X4_isKey : GoodIn wsX4_isPlace wsX4_isKey := goodIn_r _ [4] (by decide +kernel) (by decide +kernel)
set_option maxRecDepth 20000 in
theorem gX4_isPlace_X4_isKey : GoodIn wsX4_isPlace (va_wsS RX4 20 yX4_isKey wsX4_isKey) := goodIn_app (goodIn_of _ (by decide +kernel)) ggX4_isPlace_X4_isKey
theorem dX4_isPlace_0 : decode cX4_isPlace 0 = .ok (.iload_n 0, 1) := by decide +kernel
theorem dX4_isPlace_1 : decode cX4_isPlace 1 = .ok (.ifCond .lt 20, 3) := by decide +kernel
theorem dX4_isPlace_4 : decode cX4_isPlace 4 = .ok (.iload_n 0, 1) := by decide +kernel
theorem dX4_isPlace_5 : decode cX4_isPlace 5 = .ok (.bipush 16, 2) := by decide +kernel
theorem dX4_isPlace_7 : decode cX4_isPlace 7 = .ok (.if_icmp .ge 14, 3) := by decide +kernel
theorem dX4_isPlace_10 : decode cX4_isPlace 10 = .ok (.iload_n 1, 1) := by decide +kernel
theorem dX4_isPlace_11 : decode cX4_isPlace 11 = .ok (.invokestatic 20, 3) := by decide +kernel
theorem dX4_isPlace_14 : decode cX4_isPlace 14 = .ok (.ifCond .eq 7, 3) := by decide +kernel
theorem dX4_isPlace_17 : decode cX4_isPlace 17 = .ok (.iconst 1, 1) := by decide +kernel
theorem dX4_isPlace_18 : decode cX4_isPlace 18 = .ok (.goto 4, 3) := by decide +kernel
theorem dX4_isPlace_21 : decode cX4_isPlace 21 = .ok (.iconst 0, 1) := by decide +kernel
theorem dX4_isPlace_22 : decode cX4_isPlace 22 = .ok (.ireturn, 1) := by decide +kernel
theorem dX5_init_0 : decode cX5_init 0 = .ok (.aload_n 0, 1) := by decide +kernel
theorem dX5_init_1 : decode cX5_init 1 = .ok (.invokespecial 3, 3) := by decide +kernel
theorem dX5_init_4 : decode cX5_init 4 = .ok (.aload_n 0, 1) := by decide +kernel
theorem dX5_init_5 : decode cX5_init 5 = .ok (.bipush 16, 2) := by decide +kernel
theorem dX5_init_7 : decode cX5_init 7 = .ok (.newarray .int, 2) := by decide +kernel
theorem dX5_init_9 : decode cX5_init 9 = .ok (.putfield 9, 3) := by decide +kernel
theorem dX5_init_12 : decode cX5_init 12 = .ok (.aload_n 0, 1) := by decide +kernel
theorem dX5_init_13 : decode cX5_init 13 = .ok (.bipush 16, 2) := by decide +kernel
theorem dX5_init_15 : decode cX5_init 15 = .ok (.newarray .int, 2) := by decide +kernel
theorem dX5_init_17 : decode cX5_init 17 = .ok (.putfield 15, 3) := by decide +kernel
theorem dX5_init_20 : decode cX5_init 20 = .ok (.aload_n 0, 1) := by decide +kernel
theorem dX5_init_21 : decode cX5_init 21 = .ok (.bipush 16, 2) := by decide +kernel
theorem dX5_init_23 : decode cX5_init 23 = .ok (.newarray .boolean, 2) := by decide +kernel
theorem dX5_init_25 : decode cX5_init 25 = .ok (.putfield 18, 3) := by decide +kernel
theorem dX5_init_28 : decode cX5_init 28 = .ok (.aload_n 0, 1) := by decide +kernel
theorem dX5_init_29 : decode cX5_init 29 = .ok (.bipush 16, 2) := by decide +kernel
theorem dX5_init_31 : decode cX5_init 31 = .ok (.bipush 16, 2) := by decide +kernel
theorem dX5_init_33 : decode cX5_init 33 = .ok (.multianewarray 22 2, 4) := by decide +kernel
theorem dX5_init_37 : decode cX5_init 37 = .ok (.putfield 24, 3) := by decide +kernel
theorem dX5_init_40 : decode cX5_init 40 = .ok (.return_, 1) := by decide +kernel
theorem dX5_has_0 : decode cX5_has 0 = .ok (.iload_n 1, 1) := by decide +kernel
theorem dX5_has_1 : decode cX5_has 1 = .ok (.ifCond .lt 21, 3) := by decide +kernel
theorem dX5_has_4 : decode cX5_has 4 = .ok (.iload_n 1, 1) := by decide +kernel
theorem dX5_has_5 : decode cX5_has 5 = .ok (.aload_n 0, 1) := by decide +kernel
theorem dX5_has_6 : decode cX5_has 6 = .ok (.getfield 27, 3) := by decide +kernel
theorem dX5_has_9 : decode cX5_has 9 = .ok (.if_icmp .ge 13, 3) := by decide +kernel
theorem dX5_has_12 : decode cX5_has 12 = .ok (.iload_n 1, 1) := by decide +kernel
theorem dX5_has_13 : decode cX5_has 13 = .ok (.bipush 16, 2) := by decide +kernel
theorem dX5_has_15 : decode cX5_has 15 = .ok (.if_icmp .ge 7, 3) := by decide +kernel
theorem dX5_has_18 : decode cX5_has 18 = .ok (.iconst 1, 1) := by decide +kernel
theorem dX5_has_19 : decode cX5_has 19 = .ok (.goto 4, 3) := by decide +kernel
theorem dX5_has_22 : decode cX5_has 22 = .ok (.iconst 0, 1) := by decide +kernel
theorem dX5_has_23 : decode cX5_has 23 = .ok (.ireturn, 1) := by decide +kernel
theorem dX5_isFull_0 : decode cX5_isFull 0 = .ok (.aload_n 0, 1) := by decide +kernel
theorem dX5_isFull_1 : decode cX5_isFull 1 = .ok (.getfield 27, 3) := by decide +kernel
theorem dX5_isFull_4 : decode cX5_isFull 4 = .ok (.bipush 16, 2) := by decide +kernel
theorem dX5_isFull_6 : decode cX5_isFull 6 = .ok (.if_icmp .lt 7, 3) := by decide +kernel
theorem dX5_isFull_9 : decode cX5_isFull 9 = .ok (.iconst 1, 1) := by decide +kernel
theorem dX5_isFull_10 : decode cX5_isFull 10 = .ok (.goto 4, 3) := by decide +kernel
theorem dX5_isFull_13 : decode cX5_isFull 13 = .ok (.iconst 0, 1) := by decide +kernel
theorem dX5_isFull_14 : decode cX5_isFull 14 = .ok (.ireturn, 1) := by decide +kernel
theorem dX5_hasId_0 : decode cX5_hasId 0 = .ok (.iconst 0, 1) := by decide +kernel
theorem dX5_hasId_1 : decode cX5_hasId 1 = .ok (.istore_n 2, 1) := by decide +kernel
theorem dX5_hasId_2 : decode cX5_hasId 2 = .ok (.iload_n 2, 1) := by decide +kernel
theorem dX5_hasId_3 : decode cX5_hasId 3 = .ok (.aload_n 0, 1) := by decide +kernel
theorem dX5_hasId_4 : decode cX5_hasId 4 = .ok (.getfield 27, 3) := by decide +kernel
theorem dX5_hasId_7 : decode cX5_hasId 7 = .ok (.if_icmp .ge 27, 3) := by decide +kernel
theorem dX5_hasId_10 : decode cX5_hasId 10 = .ok (.iload_n 2, 1) := by decide +kernel
theorem dX5_hasId_11 : decode cX5_hasId 11 = .ok (.bipush 16, 2) := by decide +kernel
theorem dX5_hasId_13 : decode cX5_hasId 13 = .ok (.if_icmp .ge 21, 3) := by decide +kernel
theorem dX5_hasId_16 : decode cX5_hasId 16 = .ok (.aload_n 0, 1) := by decide +kernel
theorem dX5_hasId_17 : decode cX5_hasId 17 = .ok (.getfield 9, 3) := by decide +kernel
theorem dX5_hasId_20 : decode cX5_hasId 20 = .ok (.iload_n 2, 1) := by decide +kernel
theorem dX5_hasId_21 : decode cX5_hasId 21 = .ok (.iaload, 1) := by decide +kernel
theorem dX5_hasId_22 : decode cX5_hasId 22 = .ok (.iload_n 1, 1) := by decide +kernel
theorem dX5_hasId_23 : decode cX5_hasId 23 = .ok (.if_icmp .ne 5, 3) := by decide +kernel
theorem dX5_hasId_26 : decode cX5_hasId 26 = .ok (.iconst 1, 1) := by decide +kernel
theorem dX5_hasId_27 : decode cX5_hasId 27 = .ok (.ireturn, 1) := by decide +kernel
theorem dX5_hasId_28 : decode cX5_hasId 28 = .ok (.iinc 2 1, 3) := by decide +kernel
theorem dX5_hasId_31 : decode cX5_hasId 31 = .ok (.goto (-29), 3) := by decide +kernel
theorem dX5_hasId_34 : decode cX5_hasId 34 = .ok (.iconst 0, 1) := by decide +kernel
theorem dX5_hasId_35 : decode cX5_hasId 35 = .ok (.ireturn, 1) := by decide +kernel
theorem dX5_add_0 : decode cX5_add 0 = .ok (.aload_n 0, 1) := by decide +kernel
theorem dX5_add_1 : decode cX5_add 1 = .ok (.getfield 27, 3) := by decide +kernel
theorem dX5_add_4 : decode cX5_add 4 = .ok (.istore_n 3, 1) := by decide +kernel
theorem dX5_add_5 : decode cX5_add 5 = .ok (.iload_n 3, 1) := by decide +kernel
theorem dX5_add_6 : decode cX5_add 6 = .ok (.ifCond .lt 9, 3) := by decide +kernel
theorem dX5_add_9 : decode cX5_add 9 = .ok (.iload_n 3, 1) := by decide +kernel
theorem dX5_add_10 : decode cX5_add 10 = .ok (.bipush 16, 2) := by decide +kernel
theorem dX5_add_12 : decode cX5_add 12 = .ok (.if_icmp .lt 5, 3) := by decide +kernel
theorem dX5_add_15 : decode cX5_add 15 = .ok (.iconst (-1), 1) := by decide +kernel
theorem dX5_add_16 : decode cX5_add 16 = .ok (.ireturn, 1) := by decide +kernel
theorem dX5_add_17 : decode cX5_add 17 = .ok (.aload_n 0, 1) := by decide +kernel
theorem dX5_add_18 : decode cX5_add 18 = .ok (.dup, 1) := by decide +kernel
theorem dX5_add_19 : decode cX5_add 19 = .ok (.getfield 27, 3) := by decide +kernel
theorem dX5_add_22 : decode cX5_add 22 = .ok (.iconst 1, 1) := by decide +kernel
theorem dX5_add_23 : decode cX5_add 23 = .ok (.iadd, 1) := by decide +kernel
theorem dX5_add_24 : decode cX5_add 24 = .ok (.putfield 27, 3) := by decide +kernel
theorem dX5_add_27 : decode cX5_add 27 = .ok (.aload_n 0, 1) := by decide +kernel
theorem dX5_add_28 : decode cX5_add 28 = .ok (.getfield 9, 3) := by decide +kernel
theorem dX5_add_31 : decode cX5_add 31 = .ok (.iload_n 3, 1) := by decide +kernel
theorem dX5_add_32 : decode cX5_add 32 = .ok (.iload_n 1, 1) := by decide +kernel
theorem dX5_add_33 : decode cX5_add 33 = .ok (.iastore, 1) := by decide +kernel
theorem dX5_add_34 : decode cX5_add 34 = .ok (.aload_n 0, 1) := by decide +kernel
theorem dX5_add_35 : decode cX5_add 35 = .ok (.getfield 15, 3) := by decide +kernel
theorem dX5_add_38 : decode cX5_add 38 = .ok (.iload_n 3, 1) := by decide +kernel
theorem dX5_add_39 : decode cX5_add 39 = .ok (.iload_n 2, 1) := by decide +kernel
theorem dX5_add_40 : decode cX5_add 40 = .ok (.iastore, 1) := by decide +kernel
theorem dX5_add_41 : decode cX5_add 41 = .ok (.aload_n 0, 1) := by decide +kernel
theorem dX5_add_42 : decode cX5_add 42 = .ok (.getfield 18, 3) := by decide +kernel
theorem dX5_add_45 : decode cX5_add 45 = .ok (.iload_n 3, 1) := by decide +kernel
theorem dX5_add_46 : decode cX5_add 46 = .ok (.iconst 1, 1) := by decide +kernel
theorem dX5_add_47 : decode cX5_add 47 = .ok (.bastore, 1) := by decide +kernel
theorem dX5_add_48 : decode cX5_add 48 = .ok (.aload_n 0, 1) := by decide +kernel
theorem dX5_add_49 : decode cX5_add 49 = .ok (.getfield 24, 3) := by decide +kernel
theorem dX5_add_52 : decode cX5_add 52 = .ok (.iload_n 3, 1) := by decide +kernel
theorem dX5_add_53 : decode cX5_add 53 = .ok (.aaload, 1) := by decide +kernel
theorem dX5_add_54 : decode cX5_add 54 = .ok (.astore 4, 2) := by decide +kernel
theorem dX5_add_56 : decode cX5_add 56 = .ok (.iconst 0, 1) := by decide +kernel
theorem dX5_add_57 : decode cX5_add 57 = .ok (.istore 5, 2) := by decide +kernel
theorem dX5_add_59 : decode cX5_add 59 = .ok (.iload 5, 2) := by decide +kernel
theorem dX5_add_61 : decode cX5_add 61 = .ok (.aload 4, 2) := by decide +kernel
theorem dX5_add_63 : decode cX5_add 63 = .ok (.arraylength, 1) := by decide +kernel
theorem dX5_add_64 : decode cX5_add 64 = .ok (.if_icmp .ge 15, 3) := by decide +kernel
theorem dX5_add_67 : decode cX5_add 67 = .ok (.aload 4, 2) := by decide +kernel
theorem dX5_add_69 : decode cX5_add 69 = .ok (.iload 5, 2) := by decide +kernel
theorem dX5_add_71 : decode cX5_add 71 = .ok (.iconst (-1), 1) := by decide +kernel
theorem dX5_add_72 : decode cX5_add 72 = .ok (.iastore, 1) := by decide +kernel
theorem dX5_add_73 : decode cX5_add 73 = .ok (.iinc 5 1, 3) := by decide +kernel
theorem dX5_add_76 : decode cX5_add 76 = .ok (.goto (-17), 3) := by decide +kernel
theorem dX5_add_79 : decode cX5_add 79 = .ok (.iload_n 3, 1) := by decide +kernel
theorem dX5_add_80 : decode cX5_add 80 = .ok (.ireturn, 1) := by decide +kernel
set_option maxRecDepth 20000 in
theorem ggX5_isOnline_X5_has : GoodIn wsX5_isOnline wsX5_has := goodIn_r _ [6, 7, 8, 9, 10, 11, 12] (by decide +kernel) (by decide +kernel)
set_option maxRecDepth 20000 in
theorem gX5_isOnline_X5_has : GoodIn wsX5_isOnline (wsV RX5 31 RX5 yX5_has wsX5_has) := goodIn_app (goodIn_of _ (by decide +kernel)) ggX5_isOnline_X5_has
theorem dX5_isOnline_0 : decode cX5_isOnline 0 = .ok (.aload_n 0, 1) := by decide +kernel
theorem dX5_isOnline_1 : decode cX5_isOnline 1 = .ok (.iload_n 1, 1) := by decide +kernel
theorem dX5_isOnline_2 : decode cX5_isOnline 2 = .ok (.invokevirtual 31, 3) := by decide +kernel
theorem dX5_isOnline_5 : decode cX5_isOnline 5 = .ok (.ifCond .eq 16, 3) := by decide +kernel
theorem dX5_isOnline_8 : decode cX5_isOnline 8 = .ok (.aload_n 0, 1) := by decide +kernel
theorem dX5_isOnline_9 : decode cX5_isOnline 9 = .ok (.getfield 18, 3) := by decide +kernel
theorem dX5_isOnline_12 : decode cX5_isOnline 12 = .ok (.iload_n 1, 1) := by decide +kernel
theorem dX5_isOnline_13 : decode cX5_isOnline 13 = .ok (.baload, 1) := by decide +kernel
theorem dX5_isOnline_14 : decode cX5_isOnline 14 = .ok (.ifCond .eq 7, 3) := by decide +kernel
theorem dX5_isOnline_17 : decode cX5_isOnline 17 = .ok (.iconst 1, 1) := by decide +kernel
theorem dX5_isOnline_18 : decode cX5_isOnline 18 = .ok (.goto 4, 3) := by decide +kernel
theorem dX5_isOnline_21 : decode cX5_isOnline 21 = .ok (.iconst 0, 1) := by decide +kernel
theorem dX5_isOnline_22 : decode cX5_isOnline 22 = .ok (.ireturn, 1) := by decide +kernel
set_option maxRecDepth 20000 in
theorem ggX5_setOnline_X5_has : GoodIn wsX5_setOnline wsX5_has := goodIn_r _ [6, 7, 8, 9, 10, 11, 12] (by decide +kernel) (by decide +kernel)
set_option maxRecDepth 20000 in
theorem gX5_setOnline_X5_has : GoodIn wsX5_setOnline (wsV RX5 31 RX5 yX5_has wsX5_has) := goodIn_app (goodIn_of _ (by decide +kernel)) ggX5_setOnline_X5_has
theorem dX5_setOnline_0 : decode cX5_setOnline 0 = .ok (.aload_n 0, 1) := by decide +kernel
theorem dX5_setOnline_1 : decode cX5_setOnline 1 = .ok (.iload_n 1, 1) := by decide +kernel
theorem dX5_setOnline_2 : decode cX5_setOnline 2 = .ok (.invokevirtual 31, 3) := by decide +kernel
theorem dX5_setOnline_5 : decode cX5_setOnline 5 = .ok (.ifCond .eq 10, 3) := by decide +kernel
theorem dX5_setOnline_8 : decode cX5_setOnline 8 = .ok (.aload_n 0, 1) := by decide +kernel
theorem dX5_setOnline_9 : decode cX5_setOnline 9 = .ok (.getfield 18, 3) := by decide +kernel
theorem dX5_setOnline_12 : decode cX5_setOnline 12 = .ok (.iload_n 1, 1) := by decide +kernel
theorem dX5_setOnline_13 : decode cX5_setOnline 13 = .ok (.iload_n 2, 1) := by decide +kernel
theorem dX5_setOnline_14 : decode cX5_setOnline 14 = .ok (.bastore, 1) := by decide +kernel
theorem dX5_setOnline_15 : decode cX5_setOnline 15 = .ok (.return_, 1) := by decide +kernel
set_option maxRecDepth 20000 in
theorem ggX5_isHonest_X5_has : GoodIn wsX5_isHonest wsX5_has := goodIn_r _ [6, 7, 8, 9, 10, 11, 12] (by decide +kernel) (by decide +kernel)
set_option maxRecDepth 20000 in
theorem gX5_isHonest_X5_has : GoodIn wsX5_isHonest (wsV RX5 31 RX5 yX5_has wsX5_has) := goodIn_app (goodIn_of _ (by decide +kernel)) ggX5_isHonest_X5_has
theorem dX5_isHonest_0 : decode cX5_isHonest 0 = .ok (.aload_n 0, 1) := by decide +kernel
theorem dX5_isHonest_1 : decode cX5_isHonest 1 = .ok (.iload_n 1, 1) := by decide +kernel
theorem dX5_isHonest_2 : decode cX5_isHonest 2 = .ok (.invokevirtual 31, 3) := by decide +kernel
theorem dX5_isHonest_5 : decode cX5_isHonest 5 = .ok (.ifCond .eq 16, 3) := by decide +kernel
theorem dX5_isHonest_8 : decode cX5_isHonest 8 = .ok (.aload_n 0, 1) := by decide +kernel
theorem dX5_isHonest_9 : decode cX5_isHonest 9 = .ok (.getfield 15, 3) := by decide +kernel
theorem dX5_isHonest_12 : decode cX5_isHonest 12 = .ok (.iload_n 1, 1) := by decide +kernel
theorem dX5_isHonest_13 : decode cX5_isHonest 13 = .ok (.iaload, 1) := by decide +kernel
theorem dX5_isHonest_14 : decode cX5_isHonest 14 = .ok (.ifCond .ne 7, 3) := by decide +kernel
theorem dX5_isHonest_17 : decode cX5_isHonest 17 = .ok (.iconst 1, 1) := by decide +kernel
theorem dX5_isHonest_18 : decode cX5_isHonest 18 = .ok (.goto 4, 3) := by decide +kernel
theorem dX5_isHonest_21 : decode cX5_isHonest 21 = .ok (.iconst 0, 1) := by decide +kernel
theorem dX5_isHonest_22 : decode cX5_isHonest 22 = .ok (.ireturn, 1) := by decide +kernel
set_option maxRecDepth 20000 in
theorem ggX5_answers_X5_has : GoodIn wsX5_answers wsX5_has := goodIn_r _ [7, 8, 9, 10, 11, 12, 13] (by decide +kernel) (by decide +kernel)
set_option maxRecDepth 20000 in
theorem gX5_answers_X5_has : GoodIn wsX5_answers (wsV RX5 31 RX5 yX5_has wsX5_has) := goodIn_app (goodIn_of _ (by decide +kernel)) ggX5_answers_X5_has
theorem dX5_answers_0 : decode cX5_answers 0 = .ok (.aload_n 0, 1) := by decide +kernel
theorem dX5_answers_1 : decode cX5_answers 1 = .ok (.iload_n 1, 1) := by decide +kernel
theorem dX5_answers_2 : decode cX5_answers 2 = .ok (.invokevirtual 31, 3) := by decide +kernel
theorem dX5_answers_5 : decode cX5_answers 5 = .ok (.ifCond .eq 26, 3) := by decide +kernel
theorem dX5_answers_8 : decode cX5_answers 8 = .ok (.aload_n 0, 1) := by decide +kernel
theorem dX5_answers_9 : decode cX5_answers 9 = .ok (.getfield 18, 3) := by decide +kernel
theorem dX5_answers_12 : decode cX5_answers 12 = .ok (.iload_n 1, 1) := by decide +kernel
theorem dX5_answers_13 : decode cX5_answers 13 = .ok (.baload, 1) := by decide +kernel
theorem dX5_answers_14 : decode cX5_answers 14 = .ok (.ifCond .eq 17, 3) := by decide +kernel
theorem dX5_answers_17 : decode cX5_answers 17 = .ok (.aload_n 0, 1) := by decide +kernel
theorem dX5_answers_18 : decode cX5_answers 18 = .ok (.getfield 15, 3) := by decide +kernel
theorem dX5_answers_21 : decode cX5_answers 21 = .ok (.iload_n 1, 1) := by decide +kernel
theorem dX5_answers_22 : decode cX5_answers 22 = .ok (.iaload, 1) := by decide +kernel
theorem dX5_answers_23 : decode cX5_answers 23 = .ok (.iconst 1, 1) := by decide +kernel
theorem dX5_answers_24 : decode cX5_answers 24 = .ok (.if_icmp .eq 7, 3) := by decide +kernel
theorem dX5_answers_27 : decode cX5_answers 27 = .ok (.iconst 1, 1) := by decide +kernel
theorem dX5_answers_28 : decode cX5_answers 28 = .ok (.goto 4, 3) := by decide +kernel
theorem dX5_answers_31 : decode cX5_answers 31 = .ok (.iconst 0, 1) := by decide +kernel
theorem dX5_answers_32 : decode cX5_answers 32 = .ok (.ireturn, 1) := by decide +kernel
theorem dX5_distance_0 : decode cX5_distance 0 = .ok (.iload_n 1, 1) := by decide +kernel
theorem dX5_distance_1 : decode cX5_distance 1 = .ok (.ifCond .lt 28, 3) := by decide +kernel
theorem dX5_distance_4 : decode cX5_distance 4 = .ok (.iload_n 1, 1) := by decide +kernel
theorem dX5_distance_5 : decode cX5_distance 5 = .ok (.aload_n 0, 1) := by decide +kernel
theorem dX5_distance_6 : decode cX5_distance 6 = .ok (.getfield 27, 3) := by decide +kernel
theorem dX5_distance_9 : decode cX5_distance 9 = .ok (.if_icmp .ge 20, 3) := by decide +kernel
theorem dX5_distance_12 : decode cX5_distance 12 = .ok (.iload_n 1, 1) := by decide +kernel
theorem dX5_distance_13 : decode cX5_distance 13 = .ok (.bipush 16, 2) := by decide +kernel
theorem dX5_distance_15 : decode cX5_distance 15 = .ok (.if_icmp .ge 14, 3) := by decide +kernel
theorem dX5_distance_18 : decode cX5_distance 18 = .ok (.aload_n 0, 1) := by decide +kernel
theorem dX5_distance_19 : decode cX5_distance 19 = .ok (.getfield 9, 3) := by decide +kernel
theorem dX5_distance_22 : decode cX5_distance 22 = .ok (.iload_n 1, 1) := by decide +kernel
theorem dX5_distance_23 : decode cX5_distance 23 = .ok (.iaload, 1) := by decide +kernel
theorem dX5_distance_24 : decode cX5_distance 24 = .ok (.iload_n 2, 1) := by decide +kernel
theorem dX5_distance_25 : decode cX5_distance 25 = .ok (.ixor, 1) := by decide +kernel
theorem dX5_distance_26 : decode cX5_distance 26 = .ok (.goto 6, 3) := by decide +kernel
theorem dX5_distance_29 : decode cX5_distance 29 = .ok (.sipush 256, 3) := by decide +kernel
theorem dX5_distance_32 : decode cX5_distance 32 = .ok (.ireturn, 1) := by decide +kernel
set_option maxRecDepth 20000 in
theorem ggX5_keptAt_X5_has : GoodIn wsX5_keptAt wsX5_has := goodIn_r _ [6, 7, 8, 9, 10, 11, 12] (by decide +kernel) (by decide +kernel)
set_option maxRecDepth 20000 in
theorem gX5_keptAt_X5_has : GoodIn wsX5_keptAt (wsV RX5 31 RX5 yX5_has wsX5_has) := goodIn_app (goodIn_of _ (by decide +kernel)) ggX5_keptAt_X5_has
theorem dX5_keptAt_0 : decode cX5_keptAt 0 = .ok (.aload_n 0, 1) := by decide +kernel
theorem dX5_keptAt_1 : decode cX5_keptAt 1 = .ok (.iload_n 1, 1) := by decide +kernel
theorem dX5_keptAt_2 : decode cX5_keptAt 2 = .ok (.invokevirtual 31, 3) := by decide +kernel
theorem dX5_keptAt_5 : decode cX5_keptAt 5 = .ok (.ifCond .eq 29, 3) := by decide +kernel
theorem dX5_keptAt_8 : decode cX5_keptAt 8 = .ok (.iload_n 2, 1) := by decide +kernel
theorem dX5_keptAt_9 : decode cX5_keptAt 9 = .ok (.ifCond .lt 25, 3) := by decide +kernel
theorem dX5_keptAt_12 : decode cX5_keptAt 12 = .ok (.iload_n 2, 1) := by decide +kernel
theorem dX5_keptAt_13 : decode cX5_keptAt 13 = .ok (.aload_n 0, 1) := by decide +kernel
theorem dX5_keptAt_14 : decode cX5_keptAt 14 = .ok (.getfield 24, 3) := by decide +kernel
theorem dX5_keptAt_17 : decode cX5_keptAt 17 = .ok (.iload_n 1, 1) := by decide +kernel
theorem dX5_keptAt_18 : decode cX5_keptAt 18 = .ok (.aaload, 1) := by decide +kernel
theorem dX5_keptAt_19 : decode cX5_keptAt 19 = .ok (.arraylength, 1) := by decide +kernel
theorem dX5_keptAt_20 : decode cX5_keptAt 20 = .ok (.if_icmp .ge 14, 3) := by decide +kernel
theorem dX5_keptAt_23 : decode cX5_keptAt 23 = .ok (.aload_n 0, 1) := by decide +kernel
theorem dX5_keptAt_24 : decode cX5_keptAt 24 = .ok (.getfield 24, 3) := by decide +kernel
theorem dX5_keptAt_27 : decode cX5_keptAt 27 = .ok (.iload_n 1, 1) := by decide +kernel
theorem dX5_keptAt_28 : decode cX5_keptAt 28 = .ok (.aaload, 1) := by decide +kernel
theorem dX5_keptAt_29 : decode cX5_keptAt 29 = .ok (.iload_n 2, 1) := by decide +kernel
theorem dX5_keptAt_30 : decode cX5_keptAt 30 = .ok (.iaload, 1) := by decide +kernel
theorem dX5_keptAt_31 : decode cX5_keptAt 31 = .ok (.goto 4, 3) := by decide +kernel
theorem dX5_keptAt_34 : decode cX5_keptAt 34 = .ok (.iconst (-1), 1) := by decide +kernel
theorem dX5_keptAt_35 : decode cX5_keptAt 35 = .ok (.ireturn, 1) := by decide +kernel
set_option maxRecDepth 20000 in
theorem ggX5_gather_X6_clear : GoodIn wsX5_gather wsX6_clear := goodIn_r _ [8, 9, 27, 28, 29] (by decide +kernel) (by decide +kernel)
set_option maxRecDepth 20000 in
theorem gX5_gather_X6_clear : GoodIn wsX5_gather (wsV RX5 35 RX6 yX6_clear wsX6_clear) := goodIn_app (goodIn_of _ (by decide +kernel)) ggX5_gather_X6_clear
set_option maxRecDepth 20000 in
theorem ggX5_gather_X5_has : GoodIn wsX5_gather wsX5_has := goodIn_r _ [14, 15, 22, 23, 24, 25, 26] (by decide +kernel) (by decide +kernel)
set_option maxRecDepth 20000 in
theorem gX5_gather_X5_has : GoodIn wsX5_gather (wsV RX5 31 RX5 yX5_has wsX5_has) := goodIn_app (goodIn_of _ (by decide +kernel)) ggX5_gather_X5_has
set_option maxRecDepth 20000 in
theorem ggX5_gather_X6_add : GoodIn wsX5_gather wsX6_add := goodIn_r _ [19, 9, 20, 21, 27, 28, 29] (by decide +kernel) (by decide +kernel)
set_option maxRecDepth 20000 in
theorem gX5_gather_X6_add : GoodIn wsX5_gather (wsV RX5 40 RX6 yX6_add wsX6_add) := goodIn_app (goodIn_of _ (by decide +kernel)) ggX5_gather_X6_add
theorem dX5_gather_0 : decode cX5_gather 0 = .ok (.aload 4, 2) := by decide +kernel
theorem dX5_gather_2 : decode cX5_gather 2 = .ok (.invokevirtual 35, 3) := by decide +kernel
theorem dX5_gather_5 : decode cX5_gather 5 = .ok (.aload_n 0, 1) := by decide +kernel
theorem dX5_gather_6 : decode cX5_gather 6 = .ok (.iload_n 1, 1) := by decide +kernel
theorem dX5_gather_7 : decode cX5_gather 7 = .ok (.invokevirtual 31, 3) := by decide +kernel
theorem dX5_gather_10 : decode cX5_gather 10 = .ok (.ifCond .ne 4, 3) := by decide +kernel
theorem dX5_gather_13 : decode cX5_gather 13 = .ok (.return_, 1) := by decide +kernel
theorem dX5_gather_14 : decode cX5_gather 14 = .ok (.aload_n 0, 1) := by decide +kernel
theorem dX5_gather_15 : decode cX5_gather 15 = .ok (.getfield 24, 3) := by decide +kernel
theorem dX5_gather_18 : decode cX5_gather 18 = .ok (.iload_n 1, 1) := by decide +kernel
theorem dX5_gather_19 : decode cX5_gather 19 = .ok (.aaload, 1) := by decide +kernel
theorem dX5_gather_20 : decode cX5_gather 20 = .ok (.astore 5, 2) := by decide +kernel
theorem dX5_gather_22 : decode cX5_gather 22 = .ok (.aload 5, 2) := by decide +kernel
theorem dX5_gather_24 : decode cX5_gather 24 = .ok (.arraylength, 1) := by decide +kernel
theorem dX5_gather_25 : decode cX5_gather 25 = .ok (.istore 6, 2) := by decide +kernel
theorem dX5_gather_27 : decode cX5_gather 27 = .ok (.iconst 0, 1) := by decide +kernel
theorem dX5_gather_28 : decode cX5_gather 28 = .ok (.istore 7, 2) := by decide +kernel
theorem dX5_gather_30 : decode cX5_gather 30 = .ok (.iload 7, 2) := by decide +kernel
theorem dX5_gather_32 : decode cX5_gather 32 = .ok (.iload 6, 2) := by decide +kernel
theorem dX5_gather_34 : decode cX5_gather 34 = .ok (.if_icmp .ge 56, 3) := by decide +kernel
theorem dX5_gather_37 : decode cX5_gather 37 = .ok (.aload 5, 2) := by decide +kernel
theorem dX5_gather_39 : decode cX5_gather 39 = .ok (.iload 7, 2) := by decide +kernel
theorem dX5_gather_41 : decode cX5_gather 41 = .ok (.iaload, 1) := by decide +kernel
theorem dX5_gather_42 : decode cX5_gather 42 = .ok (.istore 8, 2) := by decide +kernel
theorem dX5_gather_44 : decode cX5_gather 44 = .ok (.aload_n 0, 1) := by decide +kernel
theorem dX5_gather_45 : decode cX5_gather 45 = .ok (.iload 8, 2) := by decide +kernel
theorem dX5_gather_47 : decode cX5_gather 47 = .ok (.invokevirtual 31, 3) := by decide +kernel
theorem dX5_gather_50 : decode cX5_gather 50 = .ok (.ifCond .eq 34, 3) := by decide +kernel
theorem dX5_gather_53 : decode cX5_gather 53 = .ok (.iload_n 3, 1) := by decide +kernel
theorem dX5_gather_54 : decode cX5_gather 54 = .ok (.ifCond .eq 14, 3) := by decide +kernel
theorem dX5_gather_57 : decode cX5_gather 57 = .ok (.aload_n 0, 1) := by decide +kernel
theorem dX5_gather_58 : decode cX5_gather 58 = .ok (.getfield 15, 3) := by decide +kernel
theorem dX5_gather_61 : decode cX5_gather 61 = .ok (.iload 8, 2) := by decide +kernel
theorem dX5_gather_63 : decode cX5_gather 63 = .ok (.iaload, 1) := by decide +kernel
theorem dX5_gather_64 : decode cX5_gather 64 = .ok (.iconst 2, 1) := by decide +kernel
theorem dX5_gather_65 : decode cX5_gather 65 = .ok (.if_icmp .ne 19, 3) := by decide +kernel
theorem dX5_gather_68 : decode cX5_gather 68 = .ok (.aload 4, 2) := by decide +kernel
theorem dX5_gather_70 : decode cX5_gather 70 = .ok (.iload 8, 2) := by decide +kernel
theorem dX5_gather_72 : decode cX5_gather 72 = .ok (.aload_n 0, 1) := by decide +kernel
theorem dX5_gather_73 : decode cX5_gather 73 = .ok (.getfield 9, 3) := by decide +kernel
theorem dX5_gather_76 : decode cX5_gather 76 = .ok (.iload 8, 2) := by decide +kernel
theorem dX5_gather_78 : decode cX5_gather 78 = .ok (.iaload, 1) := by decide +kernel
theorem dX5_gather_79 : decode cX5_gather 79 = .ok (.iload_n 2, 1) := by decide +kernel
theorem dX5_gather_80 : decode cX5_gather 80 = .ok (.ixor, 1) := by decide +kernel
theorem dX5_gather_81 : decode cX5_gather 81 = .ok (.invokevirtual 40, 3) := by decide +kernel
theorem dX5_gather_84 : decode cX5_gather 84 = .ok (.iinc 7 1, 3) := by decide +kernel
theorem dX5_gather_87 : decode cX5_gather 87 = .ok (.goto (-57), 3) := by decide +kernel
theorem dX5_gather_90 : decode cX5_gather 90 = .ok (.return_, 1) := by decide +kernel
set_option maxRecDepth 20000 in
theorem ggX5_isOfBand_X5_has : GoodIn wsX5_isOfBand wsX5_has := goodIn_r _ [6, 7, 8, 9, 10, 11, 12] (by decide +kernel) (by decide +kernel)
set_option maxRecDepth 20000 in
theorem gX5_isOfBand_X5_has : GoodIn wsX5_isOfBand (wsV RX5 31 RX5 yX5_has wsX5_has) := goodIn_app (goodIn_of _ (by decide +kernel)) ggX5_isOfBand_X5_has
theorem dX5_isOfBand_0 : decode cX5_isOfBand 0 = .ok (.aload_n 0, 1) := by decide +kernel
theorem dX5_isOfBand_1 : decode cX5_isOfBand 1 = .ok (.iload_n 1, 1) := by decide +kernel
theorem dX5_isOfBand_2 : decode cX5_isOfBand 2 = .ok (.invokevirtual 31, 3) := by decide +kernel
theorem dX5_isOfBand_5 : decode cX5_isOfBand 5 = .ok (.ifCond .eq 17, 3) := by decide +kernel
theorem dX5_isOfBand_8 : decode cX5_isOfBand 8 = .ok (.aload_n 0, 1) := by decide +kernel
theorem dX5_isOfBand_9 : decode cX5_isOfBand 9 = .ok (.getfield 15, 3) := by decide +kernel
theorem dX5_isOfBand_12 : decode cX5_isOfBand 12 = .ok (.iload_n 1, 1) := by decide +kernel
theorem dX5_isOfBand_13 : decode cX5_isOfBand 13 = .ok (.iaload, 1) := by decide +kernel
theorem dX5_isOfBand_14 : decode cX5_isOfBand 14 = .ok (.iconst 2, 1) := by decide +kernel
theorem dX5_isOfBand_15 : decode cX5_isOfBand 15 = .ok (.if_icmp .ne 7, 3) := by decide +kernel
theorem dX5_isOfBand_18 : decode cX5_isOfBand 18 = .ok (.iconst 1, 1) := by decide +kernel
theorem dX5_isOfBand_19 : decode cX5_isOfBand 19 = .ok (.goto 4, 3) := by decide +kernel
theorem dX5_isOfBand_22 : decode cX5_isOfBand 22 = .ok (.iconst 0, 1) := by decide +kernel
theorem dX5_isOfBand_23 : decode cX5_isOfBand 23 = .ok (.ireturn, 1) := by decide +kernel
set_option maxRecDepth 20000 in
theorem ggX5_hear_X5_has : GoodIn wsX5_hear wsX5_has := goodIn_r _ [8, 9, 13, 14, 15, 16, 17] (by decide +kernel) (by decide +kernel)
set_option maxRecDepth 20000 in
theorem gX5_hear_X5_has : GoodIn wsX5_hear (wsV RX5 31 RX5 yX5_has wsX5_has) := goodIn_app (goodIn_of _ (by decide +kernel)) ggX5_hear_X5_has
set_option maxRecDepth 20000 in
theorem ggX5_hear_X5_highestBit : GoodIn wsX5_hear wsX5_highestBit := goodIn_r _ [12] (by decide +kernel) (by decide +kernel)
set_option maxRecDepth 20000 in
theorem gX5_hear_X5_highestBit : GoodIn wsX5_hear (va_wsS RX5 44 yX5_highestBit wsX5_highestBit) := goodIn_app (goodIn_of _ (by decide +kernel)) ggX5_hear_X5_highestBit
theorem dX5_hear_0 : decode cX5_hear 0 = .ok (.aload_n 0, 1) := by decide +kernel
theorem dX5_hear_1 : decode cX5_hear 1 = .ok (.iload_n 1, 1) := by decide +kernel
theorem dX5_hear_2 : decode cX5_hear 2 = .ok (.invokevirtual 31, 3) := by decide +kernel
theorem dX5_hear_5 : decode cX5_hear 5 = .ok (.ifCond .eq 16, 3) := by decide +kernel
theorem dX5_hear_8 : decode cX5_hear 8 = .ok (.aload_n 0, 1) := by decide +kernel
theorem dX5_hear_9 : decode cX5_hear 9 = .ok (.iload_n 2, 1) := by decide +kernel
theorem dX5_hear_10 : decode cX5_hear 10 = .ok (.invokevirtual 31, 3) := by decide +kernel
theorem dX5_hear_13 : decode cX5_hear 13 = .ok (.ifCond .eq 8, 3) := by decide +kernel
theorem dX5_hear_16 : decode cX5_hear 16 = .ok (.iload_n 1, 1) := by decide +kernel
theorem dX5_hear_17 : decode cX5_hear 17 = .ok (.iload_n 2, 1) := by decide +kernel
theorem dX5_hear_18 : decode cX5_hear 18 = .ok (.if_icmp .ne 4, 3) := by decide +kernel
theorem dX5_hear_21 : decode cX5_hear 21 = .ok (.return_, 1) := by decide +kernel
theorem dX5_hear_22 : decode cX5_hear 22 = .ok (.aload_n 0, 1) := by decide +kernel
theorem dX5_hear_23 : decode cX5_hear 23 = .ok (.getfield 24, 3) := by decide +kernel
theorem dX5_hear_26 : decode cX5_hear 26 = .ok (.iload_n 1, 1) := by decide +kernel
theorem dX5_hear_27 : decode cX5_hear 27 = .ok (.aaload, 1) := by decide +kernel
theorem dX5_hear_28 : decode cX5_hear 28 = .ok (.astore_n 3, 1) := by decide +kernel
theorem dX5_hear_29 : decode cX5_hear 29 = .ok (.iconst 2, 1) := by decide +kernel
theorem dX5_hear_30 : decode cX5_hear 30 = .ok (.aload_n 0, 1) := by decide +kernel
theorem dX5_hear_31 : decode cX5_hear 31 = .ok (.getfield 9, 3) := by decide +kernel
theorem dX5_hear_34 : decode cX5_hear 34 = .ok (.iload_n 1, 1) := by decide +kernel
theorem dX5_hear_35 : decode cX5_hear 35 = .ok (.iaload, 1) := by decide +kernel
theorem dX5_hear_36 : decode cX5_hear 36 = .ok (.aload_n 0, 1) := by decide +kernel
theorem dX5_hear_37 : decode cX5_hear 37 = .ok (.getfield 9, 3) := by decide +kernel
theorem dX5_hear_40 : decode cX5_hear 40 = .ok (.iload_n 2, 1) := by decide +kernel
theorem dX5_hear_41 : decode cX5_hear 41 = .ok (.iaload, 1) := by decide +kernel
theorem dX5_hear_42 : decode cX5_hear 42 = .ok (.ixor, 1) := by decide +kernel
theorem dX5_hear_43 : decode cX5_hear 43 = .ok (.invokestatic 44, 3) := by decide +kernel
theorem dX5_hear_46 : decode cX5_hear 46 = .ok (.imul, 1) := by decide +kernel
theorem dX5_hear_47 : decode cX5_hear 47 = .ok (.istore 4, 2) := by decide +kernel
theorem dX5_hear_49 : decode cX5_hear 49 = .ok (.iload 4, 2) := by decide +kernel
theorem dX5_hear_51 : decode cX5_hear 51 = .ok (.iconst 1, 1) := by decide +kernel
theorem dX5_hear_52 : decode cX5_hear 52 = .ok (.iadd, 1) := by decide +kernel
theorem dX5_hear_53 : decode cX5_hear 53 = .ok (.istore 5, 2) := by decide +kernel
theorem dX5_hear_55 : decode cX5_hear 55 = .ok (.iload 4, 2) := by decide +kernel
theorem dX5_hear_57 : decode cX5_hear 57 = .ok (.ifCond .lt 10, 3) := by decide +kernel
theorem dX5_hear_60 : decode cX5_hear 60 = .ok (.iload 5, 2) := by decide +kernel
theorem dX5_hear_62 : decode cX5_hear 62 = .ok (.aload_n 3, 1) := by decide +kernel
theorem dX5_hear_63 : decode cX5_hear 63 = .ok (.arraylength, 1) := by decide +kernel
theorem dX5_hear_64 : decode cX5_hear 64 = .ok (.if_icmp .lt 4, 3) := by decide +kernel
theorem dX5_hear_67 : decode cX5_hear 67 = .ok (.return_, 1) := by decide +kernel
theorem dX5_hear_68 : decode cX5_hear 68 = .ok (.aload_n 3, 1) := by decide +kernel
theorem dX5_hear_69 : decode cX5_hear 69 = .ok (.iload 4, 2) := by decide +kernel
theorem dX5_hear_71 : decode cX5_hear 71 = .ok (.iaload, 1) := by decide +kernel
theorem dX5_hear_72 : decode cX5_hear 72 = .ok (.iconst (-1), 1) := by decide +kernel
theorem dX5_hear_73 : decode cX5_hear 73 = .ok (.if_icmp .ne 11, 3) := by decide +kernel
theorem dX5_hear_76 : decode cX5_hear 76 = .ok (.aload_n 3, 1) := by decide +kernel
theorem dX5_hear_77 : decode cX5_hear 77 = .ok (.iload 4, 2) := by decide +kernel
theorem dX5_hear_79 : decode cX5_hear 79 = .ok (.iload_n 2, 1) := by decide +kernel
theorem dX5_hear_80 : decode cX5_hear 80 = .ok (.iastore, 1) := by decide +kernel
theorem dX5_hear_81 : decode cX5_hear 81 = .ok (.goto 100, 3) := by decide +kernel
theorem dX5_hear_84 : decode cX5_hear 84 = .ok (.aload_n 3, 1) := by decide +kernel
theorem dX5_hear_85 : decode cX5_hear 85 = .ok (.iload 5, 2) := by decide +kernel
theorem dX5_hear_87 : decode cX5_hear 87 = .ok (.iaload, 1) := by decide +kernel
theorem dX5_hear_88 : decode cX5_hear 88 = .ok (.iconst (-1), 1) := by decide +kernel
theorem dX5_hear_89 : decode cX5_hear 89 = .ok (.if_icmp .ne 23, 3) := by decide +kernel
theorem dX5_hear_92 : decode cX5_hear 92 = .ok (.aload_n 3, 1) := by decide +kernel
theorem dX5_hear_93 : decode cX5_hear 93 = .ok (.iload 5, 2) := by decide +kernel
theorem dX5_hear_95 : decode cX5_hear 95 = .ok (.aload_n 3, 1) := by decide +kernel
theorem dX5_hear_96 : decode cX5_hear 96 = .ok (.iload 4, 2) := by decide +kernel
theorem dX5_hear_98 : decode cX5_hear 98 = .ok (.iaload, 1) := by decide +kernel
theorem dX5_hear_99 : decode cX5_hear 99 = .ok (.iload_n 2, 1) := by decide +kernel
theorem dX5_hear_100 : decode cX5_hear 100 = .ok (.if_icmp .ne 7, 3) := by decide +kernel
theorem dX5_hear_103 : decode cX5_hear 103 = .ok (.iconst (-1), 1) := by decide +kernel
theorem dX5_hear_104 : decode cX5_hear 104 = .ok (.goto 4, 3) := by decide +kernel
theorem dX5_hear_107 : decode cX5_hear 107 = .ok (.iload_n 2, 1) := by decide +kernel
theorem dX5_hear_108 : decode cX5_hear 108 = .ok (.iastore, 1) := by decide +kernel
theorem dX5_hear_109 : decode cX5_hear 109 = .ok (.goto 72, 3) := by decide +kernel
theorem dX5_hear_112 : decode cX5_hear 112 = .ok (.aload_n 3, 1) := by decide +kernel
theorem dX5_hear_113 : decode cX5_hear 113 = .ok (.iload 5, 2) := by decide +kernel
theorem dX5_hear_115 : decode cX5_hear 115 = .ok (.iaload, 1) := by decide +kernel
theorem dX5_hear_116 : decode cX5_hear 116 = .ok (.iload_n 2, 1) := by decide +kernel
theorem dX5_hear_117 : decode cX5_hear 117 = .ok (.if_icmp .eq 64, 3) := by decide +kernel
theorem dX5_hear_120 : decode cX5_hear 120 = .ok (.aload_n 3, 1) := by decide +kernel
theorem dX5_hear_121 : decode cX5_hear 121 = .ok (.iload 4, 2) := by decide +kernel
theorem dX5_hear_123 : decode cX5_hear 123 = .ok (.iaload, 1) := by decide +kernel
theorem dX5_hear_124 : decode cX5_hear 124 = .ok (.istore 6, 2) := by decide +kernel
theorem dX5_hear_126 : decode cX5_hear 126 = .ok (.iload 6, 2) := by decide +kernel
theorem dX5_hear_128 : decode cX5_hear 128 = .ok (.iload_n 2, 1) := by decide +kernel
theorem dX5_hear_129 : decode cX5_hear 129 = .ok (.if_icmp .eq 22, 3) := by decide +kernel
theorem dX5_hear_132 : decode cX5_hear 132 = .ok (.aload_n 0, 1) := by decide +kernel
theorem dX5_hear_133 : decode cX5_hear 133 = .ok (.iload 6, 2) := by decide +kernel
theorem dX5_hear_135 : decode cX5_hear 135 = .ok (.invokevirtual 31, 3) := by decide +kernel
theorem dX5_hear_138 : decode cX5_hear 138 = .ok (.ifCond .eq 13, 3) := by decide +kernel
theorem dX5_hear_141 : decode cX5_hear 141 = .ok (.aload_n 0, 1) := by decide +kernel
theorem dX5_hear_142 : decode cX5_hear 142 = .ok (.getfield 18, 3) := by decide +kernel
theorem dX5_hear_145 : decode cX5_hear 145 = .ok (.iload 6, 2) := by decide +kernel
theorem dX5_hear_147 : decode cX5_hear 147 = .ok (.baload, 1) := by decide +kernel
theorem dX5_hear_148 : decode cX5_hear 148 = .ok (.ifCond .ne 7, 3) := by decide +kernel
theorem dX5_hear_151 : decode cX5_hear 151 = .ok (.iconst 1, 1) := by decide +kernel
theorem dX5_hear_152 : decode cX5_hear 152 = .ok (.goto 4, 3) := by decide +kernel
theorem dX5_hear_155 : decode cX5_hear 155 = .ok (.iconst 0, 1) := by decide +kernel
theorem dX5_hear_156 : decode cX5_hear 156 = .ok (.istore 7, 2) := by decide +kernel
theorem dX5_hear_158 : decode cX5_hear 158 = .ok (.aload_n 3, 1) := by decide +kernel
theorem dX5_hear_159 : decode cX5_hear 159 = .ok (.iload 4, 2) := by decide +kernel
theorem dX5_hear_161 : decode cX5_hear 161 = .ok (.aload_n 3, 1) := by decide +kernel
theorem dX5_hear_162 : decode cX5_hear 162 = .ok (.iload 5, 2) := by decide +kernel
theorem dX5_hear_164 : decode cX5_hear 164 = .ok (.iaload, 1) := by decide +kernel
theorem dX5_hear_165 : decode cX5_hear 165 = .ok (.iastore, 1) := by decide +kernel
theorem dX5_hear_166 : decode cX5_hear 166 = .ok (.aload_n 3, 1) := by decide +kernel
theorem dX5_hear_167 : decode cX5_hear 167 = .ok (.iload 5, 2) := by decide +kernel
theorem dX5_hear_169 : decode cX5_hear 169 = .ok (.iload 7, 2) := by decide +kernel
theorem dX5_hear_171 : decode cX5_hear 171 = .ok (.ifCond .eq 7, 3) := by decide +kernel
theorem dX5_hear_174 : decode cX5_hear 174 = .ok (.iload_n 2, 1) := by decide +kernel
theorem dX5_hear_175 : decode cX5_hear 175 = .ok (.goto 5, 3) := by decide +kernel
theorem dX5_hear_178 : decode cX5_hear 178 = .ok (.iload 6, 2) := by decide +kernel
theorem dX5_hear_180 : decode cX5_hear 180 = .ok (.iastore, 1) := by decide +kernel
theorem dX5_hear_181 : decode cX5_hear 181 = .ok (.return_, 1) := by decide +kernel
theorem dX5_highestBit_0 : decode cX5_highestBit 0 = .ok (.bipush 7, 2) := by decide +kernel
theorem dX5_highestBit_2 : decode cX5_highestBit 2 = .ok (.istore_n 1, 1) := by decide +kernel
theorem dX5_highestBit_3 : decode cX5_highestBit 3 = .ok (.iload_n 1, 1) := by decide +kernel
theorem dX5_highestBit_4 : decode cX5_highestBit 4 = .ok (.ifCond .le 15, 3) := by decide +kernel
theorem dX5_highestBit_7 : decode cX5_highestBit 7 = .ok (.iload_n 0, 1) := by decide +kernel
theorem dX5_highestBit_8 : decode cX5_highestBit 8 = .ok (.iload_n 1, 1) := by decide +kernel
theorem dX5_highestBit_9 : decode cX5_highestBit 9 = .ok (.ishr, 1) := by decide +kernel
theorem dX5_highestBit_10 : decode cX5_highestBit 10 = .ok (.ifCond .ne 9, 3) := by decide +kernel
theorem dX5_highestBit_13 : decode cX5_highestBit 13 = .ok (.iinc 1 (-1), 3) := by decide +kernel
theorem dX5_highestBit_16 : decode cX5_highestBit 16 = .ok (.goto (-13), 3) := by decide +kernel
theorem dX5_highestBit_19 : decode cX5_highestBit 19 = .ok (.iload_n 1, 1) := by decide +kernel
theorem dX5_highestBit_20 : decode cX5_highestBit 20 = .ok (.ireturn, 1) := by decide +kernel
theorem dX6_init_0 : decode cX6_init 0 = .ok (.aload_n 0, 1) := by decide +kernel
theorem dX6_init_1 : decode cX6_init 1 = .ok (.invokespecial 3, 3) := by decide +kernel
theorem dX6_init_4 : decode cX6_init 4 = .ok (.aload_n 0, 1) := by decide +kernel
theorem dX6_init_5 : decode cX6_init 5 = .ok (.bipush 16, 2) := by decide +kernel
theorem dX6_init_7 : decode cX6_init 7 = .ok (.newarray .int, 2) := by decide +kernel
theorem dX6_init_9 : decode cX6_init 9 = .ok (.putfield 9, 3) := by decide +kernel
theorem dX6_init_12 : decode cX6_init 12 = .ok (.aload_n 0, 1) := by decide +kernel
theorem dX6_init_13 : decode cX6_init 13 = .ok (.bipush 16, 2) := by decide +kernel
theorem dX6_init_15 : decode cX6_init 15 = .ok (.newarray .int, 2) := by decide +kernel
theorem dX6_init_17 : decode cX6_init 17 = .ok (.putfield 15, 3) := by decide +kernel
theorem dX6_init_20 : decode cX6_init 20 = .ok (.return_, 1) := by decide +kernel
theorem dX6_clear_0 : decode cX6_clear 0 = .ok (.aload_n 0, 1) := by decide +kernel
theorem dX6_clear_1 : decode cX6_clear 1 = .ok (.iconst 0, 1) := by decide +kernel
theorem dX6_clear_2 : decode cX6_clear 2 = .ok (.putfield 18, 3) := by decide +kernel
theorem dX6_clear_5 : decode cX6_clear 5 = .ok (.return_, 1) := by decide +kernel
theorem dX6_add_0 : decode cX6_add 0 = .ok (.iconst 0, 1) := by decide +kernel
theorem dX6_add_1 : decode cX6_add 1 = .ok (.istore_n 3, 1) := by decide +kernel
theorem dX6_add_2 : decode cX6_add 2 = .ok (.iload_n 3, 1) := by decide +kernel
theorem dX6_add_3 : decode cX6_add 3 = .ok (.aload_n 0, 1) := by decide +kernel
theorem dX6_add_4 : decode cX6_add 4 = .ok (.getfield 18, 3) := by decide +kernel
theorem dX6_add_7 : decode cX6_add 7 = .ok (.if_icmp .ge 25, 3) := by decide +kernel
theorem dX6_add_10 : decode cX6_add 10 = .ok (.iload_n 3, 1) := by decide +kernel
theorem dX6_add_11 : decode cX6_add 11 = .ok (.bipush 16, 2) := by decide +kernel
theorem dX6_add_13 : decode cX6_add 13 = .ok (.if_icmp .ge 19, 3) := by decide +kernel
theorem dX6_add_16 : decode cX6_add 16 = .ok (.aload_n 0, 1) := by decide +kernel
theorem dX6_add_17 : decode cX6_add 17 = .ok (.getfield 15, 3) := by decide +kernel
theorem dX6_add_20 : decode cX6_add 20 = .ok (.iload_n 3, 1) := by decide +kernel
theorem dX6_add_21 : decode cX6_add 21 = .ok (.iaload, 1) := by decide +kernel
theorem dX6_add_22 : decode cX6_add 22 = .ok (.iload_n 2, 1) := by decide +kernel
theorem dX6_add_23 : decode cX6_add 23 = .ok (.if_icmp .ge 9, 3) := by decide +kernel
theorem dX6_add_26 : decode cX6_add 26 = .ok (.iinc 3 1, 3) := by decide +kernel
theorem dX6_add_29 : decode cX6_add 29 = .ok (.goto (-27), 3) := by decide +kernel
theorem dX6_add_32 : decode cX6_add 32 = .ok (.iload_n 3, 1) := by decide +kernel
theorem dX6_add_33 : decode cX6_add 33 = .ok (.aload_n 0, 1) := by decide +kernel
theorem dX6_add_34 : decode cX6_add 34 = .ok (.getfield 18, 3) := by decide +kernel
theorem dX6_add_37 : decode cX6_add 37 = .ok (.if_icmp .ge 23, 3) := by decide +kernel
theorem dX6_add_40 : decode cX6_add 40 = .ok (.iload_n 3, 1) := by decide +kernel
theorem dX6_add_41 : decode cX6_add 41 = .ok (.bipush 16, 2) := by decide +kernel
theorem dX6_add_43 : decode cX6_add 43 = .ok (.if_icmp .ge 17, 3) := by decide +kernel
theorem dX6_add_46 : decode cX6_add 46 = .ok (.aload_n 0, 1) := by decide +kernel
theorem dX6_add_47 : decode cX6_add 47 = .ok (.getfield 15, 3) := by decide +kernel
theorem dX6_add_50 : decode cX6_add 50 = .ok (.iload_n 3, 1) := by decide +kernel
theorem dX6_add_51 : decode cX6_add 51 = .ok (.iaload, 1) := by decide +kernel
theorem dX6_add_52 : decode cX6_add 52 = .ok (.iload_n 2, 1) := by decide +kernel
theorem dX6_add_53 : decode cX6_add 53 = .ok (.if_icmp .ne 7, 3) := by decide +kernel
theorem dX6_add_56 : decode cX6_add 56 = .ok (.iconst 1, 1) := by decide +kernel
theorem dX6_add_57 : decode cX6_add 57 = .ok (.goto 4, 3) := by decide +kernel
theorem dX6_add_60 : decode cX6_add 60 = .ok (.iconst 0, 1) := by decide +kernel
theorem dX6_add_61 : decode cX6_add 61 = .ok (.istore 4, 2) := by decide +kernel
theorem dX6_add_63 : decode cX6_add 63 = .ok (.iload 4, 2) := by decide +kernel
theorem dX6_add_65 : decode cX6_add 65 = .ok (.ifCond .ne 12, 3) := by decide +kernel
theorem dX6_add_68 : decode cX6_add 68 = .ok (.aload_n 0, 1) := by decide +kernel
theorem dX6_add_69 : decode cX6_add 69 = .ok (.getfield 18, 3) := by decide +kernel
theorem dX6_add_72 : decode cX6_add 72 = .ok (.bipush 16, 2) := by decide +kernel
theorem dX6_add_74 : decode cX6_add 74 = .ok (.if_icmp .lt 4, 3) := by decide +kernel
theorem dX6_add_77 : decode cX6_add 77 = .ok (.return_, 1) := by decide +kernel
theorem dX6_add_78 : decode cX6_add 78 = .ok (.aload_n 0, 1) := by decide +kernel
theorem dX6_add_79 : decode cX6_add 79 = .ok (.getfield 18, 3) := by decide +kernel
theorem dX6_add_82 : decode cX6_add 82 = .ok (.istore 5, 2) := by decide +kernel
theorem dX6_add_84 : decode cX6_add 84 = .ok (.iload 5, 2) := by decide +kernel
theorem dX6_add_86 : decode cX6_add 86 = .ok (.iload_n 3, 1) := by decide +kernel
theorem dX6_add_87 : decode cX6_add 87 = .ok (.if_icmp .le 41, 3) := by decide +kernel
theorem dX6_add_90 : decode cX6_add 90 = .ok (.aload_n 0, 1) := by decide +kernel
theorem dX6_add_91 : decode cX6_add 91 = .ok (.getfield 9, 3) := by decide +kernel
theorem dX6_add_94 : decode cX6_add 94 = .ok (.iload 5, 2) := by decide +kernel
theorem dX6_add_96 : decode cX6_add 96 = .ok (.aload_n 0, 1) := by decide +kernel
theorem dX6_add_97 : decode cX6_add 97 = .ok (.getfield 9, 3) := by decide +kernel
theorem dX6_add_100 : decode cX6_add 100 = .ok (.iload 5, 2) := by decide +kernel
theorem dX6_add_102 : decode cX6_add 102 = .ok (.iconst 1, 1) := by decide +kernel
theorem dX6_add_103 : decode cX6_add 103 = .ok (.isub, 1) := by decide +kernel
theorem dX6_add_104 : decode cX6_add 104 = .ok (.iaload, 1) := by decide +kernel
theorem dX6_add_105 : decode cX6_add 105 = .ok (.iastore, 1) := by decide +kernel
theorem dX6_add_106 : decode cX6_add 106 = .ok (.aload_n 0, 1) := by decide +kernel
theorem dX6_add_107 : decode cX6_add 107 = .ok (.getfield 15, 3) := by decide +kernel
theorem dX6_add_110 : decode cX6_add 110 = .ok (.iload 5, 2) := by decide +kernel
theorem dX6_add_112 : decode cX6_add 112 = .ok (.aload_n 0, 1) := by decide +kernel
theorem dX6_add_113 : decode cX6_add 113 = .ok (.getfield 15, 3) := by decide +kernel
theorem dX6_add_116 : decode cX6_add 116 = .ok (.iload 5, 2) := by decide +kernel
theorem dX6_add_118 : decode cX6_add 118 = .ok (.iconst 1, 1) := by decide +kernel
theorem dX6_add_119 : decode cX6_add 119 = .ok (.isub, 1) := by decide +kernel
theorem dX6_add_120 : decode cX6_add 120 = .ok (.iaload, 1) := by decide +kernel
theorem dX6_add_121 : decode cX6_add 121 = .ok (.iastore, 1) := by decide +kernel
theorem dX6_add_122 : decode cX6_add 122 = .ok (.iinc 5 (-1), 3) := by decide +kernel
theorem dX6_add_125 : decode cX6_add 125 = .ok (.goto (-41), 3) := by decide +kernel
theorem dX6_add_128 : decode cX6_add 128 = .ok (.aload_n 0, 1) := by decide +kernel
theorem dX6_add_129 : decode cX6_add 129 = .ok (.getfield 9, 3) := by decide +kernel
theorem dX6_add_132 : decode cX6_add 132 = .ok (.iload_n 3, 1) := by decide +kernel
theorem dX6_add_133 : decode cX6_add 133 = .ok (.iload_n 1, 1) := by decide +kernel
theorem dX6_add_134 : decode cX6_add 134 = .ok (.iastore, 1) := by decide +kernel
theorem dX6_add_135 : decode cX6_add 135 = .ok (.aload_n 0, 1) := by decide +kernel
theorem dX6_add_136 : decode cX6_add 136 = .ok (.getfield 15, 3) := by decide +kernel
theorem dX6_add_139 : decode cX6_add 139 = .ok (.iload_n 3, 1) := by decide +kernel
theorem dX6_add_140 : decode cX6_add 140 = .ok (.iload_n 2, 1) := by decide +kernel
theorem dX6_add_141 : decode cX6_add 141 = .ok (.iastore, 1) := by decide +kernel
theorem dX6_add_142 : decode cX6_add 142 = .ok (.aload_n 0, 1) := by decide +kernel
theorem dX6_add_143 : decode cX6_add 143 = .ok (.dup, 1) := by decide +kernel
theorem dX6_add_144 : decode cX6_add 144 = .ok (.getfield 18, 3) := by decide +kernel
theorem dX6_add_147 : decode cX6_add 147 = .ok (.iconst 1, 1) := by decide +kernel
theorem dX6_add_148 : decode cX6_add 148 = .ok (.iadd, 1) := by decide +kernel
theorem dX6_add_149 : decode cX6_add 149 = .ok (.putfield 18, 3) := by decide +kernel
theorem dX6_add_152 : decode cX6_add 152 = .ok (.return_, 1) := by decide +kernel
theorem dX6_at_0 : decode cX6_at 0 = .ok (.iload_n 1, 1) := by decide +kernel
theorem dX6_at_1 : decode cX6_at 1 = .ok (.ifCond .lt 26, 3) := by decide +kernel
theorem dX6_at_4 : decode cX6_at 4 = .ok (.iload_n 1, 1) := by decide +kernel
theorem dX6_at_5 : decode cX6_at 5 = .ok (.aload_n 0, 1) := by decide +kernel
theorem dX6_at_6 : decode cX6_at 6 = .ok (.getfield 18, 3) := by decide +kernel
theorem dX6_at_9 : decode cX6_at 9 = .ok (.if_icmp .ge 18, 3) := by decide +kernel
theorem dX6_at_12 : decode cX6_at 12 = .ok (.iload_n 1, 1) := by decide +kernel
theorem dX6_at_13 : decode cX6_at 13 = .ok (.bipush 16, 2) := by decide +kernel
theorem dX6_at_15 : decode cX6_at 15 = .ok (.if_icmp .ge 12, 3) := by decide +kernel
theorem dX6_at_18 : decode cX6_at 18 = .ok (.aload_n 0, 1) := by decide +kernel
theorem dX6_at_19 : decode cX6_at 19 = .ok (.getfield 9, 3) := by decide +kernel
theorem dX6_at_22 : decode cX6_at 22 = .ok (.iload_n 1, 1) := by decide +kernel
theorem dX6_at_23 : decode cX6_at 23 = .ok (.iaload, 1) := by decide +kernel
theorem dX6_at_24 : decode cX6_at 24 = .ok (.goto 4, 3) := by decide +kernel
theorem dX6_at_27 : decode cX6_at 27 = .ok (.iconst (-1), 1) := by decide +kernel
theorem dX6_at_28 : decode cX6_at 28 = .ok (.ireturn, 1) := by decide +kernel
set_option maxRecDepth 20000 in
theorem ggX6_digits_X6_at : GoodIn wsX6_digits wsX6_at := goodIn_r _ [5, 6, 7, 8, 9, 10] (by decide +kernel) (by decide +kernel)
set_option maxRecDepth 20000 in
theorem gX6_digits_X6_at : GoodIn wsX6_digits (wsV RX6 22 RX6 yX6_at wsX6_at) := goodIn_app (goodIn_of _ (by decide +kernel)) ggX6_digits_X6_at
theorem dX6_digits_0 : decode cX6_digits 0 = .ok (.iconst 0, 1) := by decide +kernel
theorem dX6_digits_1 : decode cX6_digits 1 = .ok (.istore_n 1, 1) := by decide +kernel
theorem dX6_digits_2 : decode cX6_digits 2 = .ok (.iconst 2, 1) := by decide +kernel
theorem dX6_digits_3 : decode cX6_digits 3 = .ok (.istore_n 2, 1) := by decide +kernel
theorem dX6_digits_4 : decode cX6_digits 4 = .ok (.iload_n 2, 1) := by decide +kernel
theorem dX6_digits_5 : decode cX6_digits 5 = .ok (.ifCond .lt 22, 3) := by decide +kernel
theorem dX6_digits_8 : decode cX6_digits 8 = .ok (.iload_n 1, 1) := by decide +kernel
theorem dX6_digits_9 : decode cX6_digits 9 = .ok (.bipush 32, 2) := by decide +kernel
theorem dX6_digits_11 : decode cX6_digits 11 = .ok (.imul, 1) := by decide +kernel
theorem dX6_digits_12 : decode cX6_digits 12 = .ok (.aload_n 0, 1) := by decide +kernel
theorem dX6_digits_13 : decode cX6_digits 13 = .ok (.iload_n 2, 1) := by decide +kernel
theorem dX6_digits_14 : decode cX6_digits 14 = .ok (.invokevirtual 22, 3) := by decide +kernel
theorem dX6_digits_17 : decode cX6_digits 17 = .ok (.iadd, 1) := by decide +kernel
theorem dX6_digits_18 : decode cX6_digits 18 = .ok (.iconst 1, 1) := by decide +kernel
theorem dX6_digits_19 : decode cX6_digits 19 = .ok (.iadd, 1) := by decide +kernel
theorem dX6_digits_20 : decode cX6_digits 20 = .ok (.istore_n 1, 1) := by decide +kernel
theorem dX6_digits_21 : decode cX6_digits 21 = .ok (.iinc 2 (-1), 3) := by decide +kernel
theorem dX6_digits_24 : decode cX6_digits 24 = .ok (.goto (-20), 3) := by decide +kernel
theorem dX6_digits_27 : decode cX6_digits 27 = .ok (.iload_n 1, 1) := by decide +kernel
theorem dX6_digits_28 : decode cX6_digits 28 = .ok (.ireturn, 1) := by decide +kernel
set_option maxRecDepth 20000 in
theorem ggX7_init_X6_init : GoodIn wsX7_init wsX6_init := goodIn_r _ [15, 16, 2, 3, 17, 18, 19, 20, 21, 22] (by decide +kernel) (by decide +kernel)
set_option maxRecDepth 20000 in
theorem gX7_init_X6_init_n11 : GoodIn wsX7_init (wsX6_init) := ggX7_init_X6_init
theorem dX7_init_0 : decode cX7_init 0 = .ok (.aload_n 0, 1) := by decide +kernel
theorem dX7_init_1 : decode cX7_init 1 = .ok (.invokespecial 3, 3) := by decide +kernel
theorem dX7_init_4 : decode cX7_init 4 = .ok (.aload_n 0, 1) := by decide +kernel
theorem dX7_init_5 : decode cX7_init 5 = .ok (.new 9, 3) := by decide +kernel
theorem dX7_init_8 : decode cX7_init 8 = .ok (.dup, 1) := by decide +kernel
theorem dX7_init_9 : decode cX7_init 9 = .ok (.invokespecial 11, 3) := by decide +kernel
theorem dX7_init_12 : decode cX7_init 12 = .ok (.putfield 12, 3) := by decide +kernel
theorem dX7_init_15 : decode cX7_init 15 = .ok (.aload_n 0, 1) := by decide +kernel
theorem dX7_init_16 : decode cX7_init 16 = .ok (.new 9, 3) := by decide +kernel
theorem dX7_init_19 : decode cX7_init 19 = .ok (.dup, 1) := by decide +kernel
theorem dX7_init_20 : decode cX7_init 20 = .ok (.invokespecial 11, 3) := by decide +kernel
theorem dX7_init_23 : decode cX7_init 23 = .ok (.putfield 18, 3) := by decide +kernel
theorem dX7_init_26 : decode cX7_init 26 = .ok (.aload_n 0, 1) := by decide +kernel
theorem dX7_init_27 : decode cX7_init 27 = .ok (.new 9, 3) := by decide +kernel
theorem dX7_init_30 : decode cX7_init 30 = .ok (.dup, 1) := by decide +kernel
theorem dX7_init_31 : decode cX7_init 31 = .ok (.invokespecial 11, 3) := by decide +kernel
theorem dX7_init_34 : decode cX7_init 34 = .ok (.putfield 21, 3) := by decide +kernel
theorem dX7_init_37 : decode cX7_init 37 = .ok (.aload_n 0, 1) := by decide +kernel
theorem dX7_init_38 : decode cX7_init 38 = .ok (.new 9, 3) := by decide +kernel
theorem dX7_init_41 : decode cX7_init 41 = .ok (.dup, 1) := by decide +kernel
theorem dX7_init_42 : decode cX7_init 42 = .ok (.invokespecial 11, 3) := by decide +kernel
theorem dX7_init_45 : decode cX7_init 45 = .ok (.putfield 24, 3) := by decide +kernel
theorem dX7_init_48 : decode cX7_init 48 = .ok (.aload_n 0, 1) := by decide +kernel
theorem dX7_init_49 : decode cX7_init 49 = .ok (.bipush 16, 2) := by decide +kernel
theorem dX7_init_51 : decode cX7_init 51 = .ok (.newarray .boolean, 2) := by decide +kernel
theorem dX7_init_53 : decode cX7_init 53 = .ok (.putfield 27, 3) := by decide +kernel
theorem dX7_init_56 : decode cX7_init 56 = .ok (.aload_n 0, 1) := by decide +kernel
theorem dX7_init_57 : decode cX7_init 57 = .ok (.aload_n 1, 1) := by decide +kernel
theorem dX7_init_58 : decode cX7_init 58 = .ok (.putfield 31, 3) := by decide +kernel
theorem dX7_init_61 : decode cX7_init 61 = .ok (.return_, 1) := by decide +kernel
theorem dX7_askedCount_0 : decode cX7_askedCount 0 = .ok (.aload_n 0, 1) := by decide +kernel
theorem dX7_askedCount_1 : decode cX7_askedCount 1 = .ok (.getfield 35, 3) := by decide +kernel
theorem dX7_askedCount_4 : decode cX7_askedCount 4 = .ok (.ireturn, 1) := by decide +kernel
theorem dX7_result_0 : decode cX7_result 0 = .ok (.aload_n 0, 1) := by decide +kernel
theorem dX7_result_1 : decode cX7_result 1 = .ok (.getfield 21, 3) := by decide +kernel
theorem dX7_result_4 : decode cX7_result 4 = .ok (.areturn, 1) := by decide +kernel
set_option maxRecDepth 20000 in
theorem ggX7_run_X7_begin : GoodIn wsX7_run wsX7_begin := goodIn_r _ [8, 2, 3, 9, 1, 10, 11, 12, 13, 14, 15, 16, 17, 18, 19, 20, 21, 22, 23, 24, 25, 26, 27, 28, 29, 30, 31, 32, 33, 34, 35, 36, 37, 38, 39, 40, 41, 42, 43, 44, 45, 7, 46, 47, 48, 49, 50, 51, 77, 78, 79, 80, 81, 82, 83, 84, 85, 86, 87, 88, 89, 90, 91] (by decide +kernel) (by decide +kernel)
set_option maxRecDepth 20000 in
theorem gX7_run_X7_begin : GoodIn wsX7_run (wsV RX7 39 RX7 yX7_begin wsX7_begin) := goodIn_app (goodIn_of _ (by decide +kernel)) ggX7_run_X7_begin
set_option maxRecDepth 20000 in
theorem ggX7_run_X7_askAlong : GoodIn wsX7_run wsX7_askAlong := goodIn_r _ [55, 11, 10, 39, 40, 41, 16, 42, 18, 38, 56, 29, 30, 22, 31, 32, 57, 58, 59, 7, 60, 1, 9, 12, 61, 62, 63, 64, 65, 25, 28, 66, 67, 68, 69, 24, 26, 70, 71, 72, 43, 44, 45, 46, 47, 48, 49, 50, 51, 34, 35, 36, 37, 73, 74, 75, 76, 19, 20, 21, 23, 27, 14, 15, 17, 33, 77, 78, 79, 80, 81, 82, 83, 84, 85, 86, 87, 88, 89, 90, 91] (by decide +kernel) (by decide +kernel)
set_option maxRecDepth 20000 in
theorem gX7_run_X7_askAlong : GoodIn wsX7_run (wsV RX7 43 RX7 yX7_askAlong wsX7_askAlong) := goodIn_app (goodIn_of _ (by decide +kernel)) ggX7_run_X7_askAlong
theorem dX7_run_0 : decode cX7_run 0 = .ok (.aload_n 0, 1) := by decide +kernel
theorem dX7_run_1 : decode cX7_run 1 = .ok (.iload_n 1, 1) := by decide +kernel
theorem dX7_run_2 : decode cX7_run 2 = .ok (.iload_n 2, 1) := by decide +kernel
theorem dX7_run_3 : decode cX7_run 3 = .ok (.iload_n 3, 1) := by decide +kernel
theorem dX7_run_4 : decode cX7_run 4 = .ok (.invokevirtual 39, 3) := by decide +kernel
theorem dX7_run_7 : decode cX7_run 7 = .ok (.iconst 0, 1) := by decide +kernel
theorem dX7_run_8 : decode cX7_run 8 = .ok (.istore 4, 2) := by decide +kernel
theorem dX7_run_10 : decode cX7_run 10 = .ok (.iconst 0, 1) := by decide +kernel
theorem dX7_run_11 : decode cX7_run 11 = .ok (.istore 5, 2) := by decide +kernel
theorem dX7_run_13 : decode cX7_run 13 = .ok (.iload 5, 2) := by decide +kernel
theorem dX7_run_15 : decode cX7_run 15 = .ok (.bipush 16, 2) := by decide +kernel
theorem dX7_run_17 : decode cX7_run 17 = .ok (.if_icmp .gt 56, 3) := by decide +kernel
theorem dX7_run_20 : decode cX7_run 20 = .ok (.iload 4, 2) := by decide +kernel
theorem dX7_run_22 : decode cX7_run 22 = .ok (.ifCond .ne 51, 3) := by decide +kernel
theorem dX7_run_25 : decode cX7_run 25 = .ok (.aload_n 0, 1) := by decide +kernel
theorem dX7_run_26 : decode cX7_run 26 = .ok (.getfield 35, 3) := by decide +kernel
theorem dX7_run_29 : decode cX7_run 29 = .ok (.istore 6, 2) := by decide +kernel
theorem dX7_run_31 : decode cX7_run 31 = .ok (.aload_n 0, 1) := by decide +kernel
theorem dX7_run_32 : decode cX7_run 32 = .ok (.aload_n 0, 1) := by decide +kernel
theorem dX7_run_33 : decode cX7_run 33 = .ok (.getfield 12, 3) := by decide +kernel
theorem dX7_run_36 : decode cX7_run 36 = .ok (.iload_n 1, 1) := by decide +kernel
theorem dX7_run_37 : decode cX7_run 37 = .ok (.iload_n 2, 1) := by decide +kernel
theorem dX7_run_38 : decode cX7_run 38 = .ok (.invokevirtual 43, 3) := by decide +kernel
theorem dX7_run_41 : decode cX7_run 41 = .ok (.aload_n 0, 1) := by decide +kernel
theorem dX7_run_42 : decode cX7_run 42 = .ok (.aload_n 0, 1) := by decide +kernel
theorem dX7_run_43 : decode cX7_run 43 = .ok (.getfield 18, 3) := by decide +kernel
theorem dX7_run_46 : decode cX7_run 46 = .ok (.iload_n 1, 1) := by decide +kernel
theorem dX7_run_47 : decode cX7_run 47 = .ok (.iload_n 2, 1) := by decide +kernel
theorem dX7_run_48 : decode cX7_run 48 = .ok (.invokevirtual 43, 3) := by decide +kernel
theorem dX7_run_51 : decode cX7_run 51 = .ok (.aload_n 0, 1) := by decide +kernel
theorem dX7_run_52 : decode cX7_run 52 = .ok (.getfield 35, 3) := by decide +kernel
theorem dX7_run_55 : decode cX7_run 55 = .ok (.iload 6, 2) := by decide +kernel
theorem dX7_run_57 : decode cX7_run 57 = .ok (.if_icmp .ne 7, 3) := by decide +kernel
theorem dX7_run_60 : decode cX7_run 60 = .ok (.iconst 1, 1) := by decide +kernel
theorem dX7_run_61 : decode cX7_run 61 = .ok (.goto 4, 3) := by decide +kernel
theorem dX7_run_64 : decode cX7_run 64 = .ok (.iconst 0, 1) := by decide +kernel
theorem dX7_run_65 : decode cX7_run 65 = .ok (.istore 4, 2) := by decide +kernel
theorem dX7_run_67 : decode cX7_run 67 = .ok (.iinc 5 1, 3) := by decide +kernel
theorem dX7_run_70 : decode cX7_run 70 = .ok (.goto (-57), 3) := by decide +kernel
theorem dX7_run_73 : decode cX7_run 73 = .ok (.return_, 1) := by decide +kernel
set_option maxRecDepth 20000 in
theorem ggX7_begin_X6_clear : GoodIn wsX7_begin wsX6_clear := goodIn_r _ [12, 13, 55, 56, 57] (by decide +kernel) (by decide +kernel)
set_option maxRecDepth 20000 in
theorem gX7_begin_X6_clear : GoodIn wsX7_begin (wsV RX7 47 RX6 yX6_clear wsX6_clear) := goodIn_app (goodIn_of _ (by decide +kernel)) ggX7_begin_X6_clear
set_option maxRecDepth 20000 in
theorem ggX7_begin_X5_gather : GoodIn wsX7_begin wsX5_gather := goodIn_r _ [18, 19, 20, 21, 22, 9, 10, 11, 12, 13, 23, 24, 25, 17, 26, 27, 28, 29, 30, 31, 32, 33, 58, 59, 60, 61, 62, 55, 56, 57] (by decide +kernel) (by decide +kernel)
set_option maxRecDepth 20000 in
theorem gX7_begin_X5_gather : GoodIn wsX7_begin (wsV RX7 50 RX5 yX5_gather wsX5_gather) := goodIn_app (goodIn_of _ (by decide +kernel)) ggX7_begin_X5_gather
set_option maxRecDepth 20000 in
theorem ggX7_begin_X6_at : GoodIn wsX7_begin wsX6_at := goodIn_r _ [37, 13, 33, 55, 56, 57] (by decide +kernel) (by decide +kernel)
set_option maxRecDepth 20000 in
theorem gX7_begin_X6_at : GoodIn wsX7_begin (wsV RX7 56 RX6 yX6_at wsX6_at) := goodIn_app (goodIn_of _ (by decide +kernel)) ggX7_begin_X6_at
set_option maxRecDepth 20000 in
theorem ggX7_begin_X7_include : GoodIn wsX7_begin wsX7_include := goodIn_r _ [42, 6, 43, 44, 45, 17, 46, 27, 21, 47, 29, 30, 11, 31, 13, 32, 33, 48, 49, 50, 51, 52, 53, 54, 58, 59, 60, 61, 62, 55, 56, 57] (by decide +kernel) (by decide +kernel)
set_option maxRecDepth 20000 in
theorem gX7_begin_X7_include : GoodIn wsX7_begin (wsV RX7 60 RX7 yX7_include wsX7_include) := goodIn_app (goodIn_of _ (by decide +kernel)) ggX7_begin_X7_include
theorem dX7_begin_0 : decode cX7_begin 0 = .ok (.aload_n 0, 1) := by decide +kernel
theorem dX7_begin_1 : decode cX7_begin 1 = .ok (.getfield 12, 3) := by decide +kernel
theorem dX7_begin_4 : decode cX7_begin 4 = .ok (.invokevirtual 47, 3) := by decide +kernel
theorem dX7_begin_7 : decode cX7_begin 7 = .ok (.aload_n 0, 1) := by decide +kernel
theorem dX7_begin_8 : decode cX7_begin 8 = .ok (.getfield 18, 3) := by decide +kernel
theorem dX7_begin_11 : decode cX7_begin 11 = .ok (.invokevirtual 47, 3) := by decide +kernel
theorem dX7_begin_14 : decode cX7_begin 14 = .ok (.aload_n 0, 1) := by decide +kernel
theorem dX7_begin_15 : decode cX7_begin 15 = .ok (.getfield 21, 3) := by decide +kernel
theorem dX7_begin_18 : decode cX7_begin 18 = .ok (.invokevirtual 47, 3) := by decide +kernel
theorem dX7_begin_21 : decode cX7_begin 21 = .ok (.aload_n 0, 1) := by decide +kernel
theorem dX7_begin_22 : decode cX7_begin 22 = .ok (.iconst 0, 1) := by decide +kernel
theorem dX7_begin_23 : decode cX7_begin 23 = .ok (.putfield 35, 3) := by decide +kernel
theorem dX7_begin_26 : decode cX7_begin 26 = .ok (.iconst 0, 1) := by decide +kernel
theorem dX7_begin_27 : decode cX7_begin 27 = .ok (.istore 4, 2) := by decide +kernel
theorem dX7_begin_29 : decode cX7_begin 29 = .ok (.iload 4, 2) := by decide +kernel
theorem dX7_begin_31 : decode cX7_begin 31 = .ok (.bipush 16, 2) := by decide +kernel
theorem dX7_begin_33 : decode cX7_begin 33 = .ok (.if_icmp .ge 17, 3) := by decide +kernel
theorem dX7_begin_36 : decode cX7_begin 36 = .ok (.aload_n 0, 1) := by decide +kernel
theorem dX7_begin_37 : decode cX7_begin 37 = .ok (.getfield 27, 3) := by decide +kernel
theorem dX7_begin_40 : decode cX7_begin 40 = .ok (.iload 4, 2) := by decide +kernel
theorem dX7_begin_42 : decode cX7_begin 42 = .ok (.iconst 0, 1) := by decide +kernel
theorem dX7_begin_43 : decode cX7_begin 43 = .ok (.bastore, 1) := by decide +kernel
theorem dX7_begin_44 : decode cX7_begin 44 = .ok (.iinc 4 1, 3) := by decide +kernel
theorem dX7_begin_47 : decode cX7_begin 47 = .ok (.goto (-18), 3) := by decide +kernel
theorem dX7_begin_50 : decode cX7_begin 50 = .ok (.aload_n 0, 1) := by decide +kernel
theorem dX7_begin_51 : decode cX7_begin 51 = .ok (.getfield 31, 3) := by decide +kernel
theorem dX7_begin_54 : decode cX7_begin 54 = .ok (.iload_n 1, 1) := by decide +kernel
theorem dX7_begin_55 : decode cX7_begin 55 = .ok (.iload_n 2, 1) := by decide +kernel
theorem dX7_begin_56 : decode cX7_begin 56 = .ok (.iconst 0, 1) := by decide +kernel
theorem dX7_begin_57 : decode cX7_begin 57 = .ok (.aload_n 0, 1) := by decide +kernel
theorem dX7_begin_58 : decode cX7_begin 58 = .ok (.getfield 24, 3) := by decide +kernel
theorem dX7_begin_61 : decode cX7_begin 61 = .ok (.invokevirtual 50, 3) := by decide +kernel
theorem dX7_begin_64 : decode cX7_begin 64 = .ok (.iconst 0, 1) := by decide +kernel
theorem dX7_begin_65 : decode cX7_begin 65 = .ok (.istore 4, 2) := by decide +kernel
theorem dX7_begin_67 : decode cX7_begin 67 = .ok (.iload 4, 2) := by decide +kernel
theorem dX7_begin_69 : decode cX7_begin 69 = .ok (.bipush 16, 2) := by decide +kernel
theorem dX7_begin_71 : decode cX7_begin 71 = .ok (.if_icmp .ge 63, 3) := by decide +kernel
theorem dX7_begin_74 : decode cX7_begin 74 = .ok (.aload_n 0, 1) := by decide +kernel
theorem dX7_begin_75 : decode cX7_begin 75 = .ok (.getfield 24, 3) := by decide +kernel
theorem dX7_begin_78 : decode cX7_begin 78 = .ok (.iload 4, 2) := by decide +kernel
theorem dX7_begin_80 : decode cX7_begin 80 = .ok (.invokevirtual 56, 3) := by decide +kernel
theorem dX7_begin_83 : decode cX7_begin 83 = .ok (.istore 5, 2) := by decide +kernel
theorem dX7_begin_85 : decode cX7_begin 85 = .ok (.iload_n 3, 1) := by decide +kernel
theorem dX7_begin_86 : decode cX7_begin 86 = .ok (.iconst 2, 1) := by decide +kernel
theorem dX7_begin_87 : decode cX7_begin 87 = .ok (.if_icmp .ne 15, 3) := by decide +kernel
theorem dX7_begin_90 : decode cX7_begin 90 = .ok (.iload 4, 2) := by decide +kernel
theorem dX7_begin_92 : decode cX7_begin 92 = .ok (.iconst 2, 1) := by decide +kernel
theorem dX7_begin_93 : decode cX7_begin 93 = .ok (.irem, 1) := by decide +kernel
theorem dX7_begin_94 : decode cX7_begin 94 = .ok (.iconst 1, 1) := by decide +kernel
theorem dX7_begin_95 : decode cX7_begin 95 = .ok (.if_icmp .ne 7, 3) := by decide +kernel
theorem dX7_begin_98 : decode cX7_begin 98 = .ok (.iconst 1, 1) := by decide +kernel
theorem dX7_begin_99 : decode cX7_begin 99 = .ok (.goto 4, 3) := by decide +kernel
theorem dX7_begin_102 : decode cX7_begin 102 = .ok (.iconst 0, 1) := by decide +kernel
theorem dX7_begin_103 : decode cX7_begin 103 = .ok (.istore 6, 2) := by decide +kernel
theorem dX7_begin_105 : decode cX7_begin 105 = .ok (.aload_n 0, 1) := by decide +kernel
theorem dX7_begin_106 : decode cX7_begin 106 = .ok (.iload 6, 2) := by decide +kernel
theorem dX7_begin_108 : decode cX7_begin 108 = .ok (.ifCond .eq 10, 3) := by decide +kernel
theorem dX7_begin_111 : decode cX7_begin 111 = .ok (.aload_n 0, 1) := by decide +kernel
theorem dX7_begin_112 : decode cX7_begin 112 = .ok (.getfield 18, 3) := by decide +kernel
theorem dX7_begin_115 : decode cX7_begin 115 = .ok (.goto 7, 3) := by decide +kernel
theorem dX7_begin_118 : decode cX7_begin 118 = .ok (.aload_n 0, 1) := by decide +kernel
theorem dX7_begin_119 : decode cX7_begin 119 = .ok (.getfield 12, 3) := by decide +kernel
theorem dX7_begin_122 : decode cX7_begin 122 = .ok (.iload 5, 2) := by decide +kernel
theorem dX7_begin_124 : decode cX7_begin 124 = .ok (.iload_n 2, 1) := by decide +kernel
theorem dX7_begin_125 : decode cX7_begin 125 = .ok (.invokevirtual 60, 3) := by decide +kernel
theorem dX7_begin_128 : decode cX7_begin 128 = .ok (.iinc 4 1, 3) := by decide +kernel
theorem dX7_begin_131 : decode cX7_begin 131 = .ok (.goto (-64), 3) := by decide +kernel
theorem dX7_begin_134 : decode cX7_begin 134 = .ok (.return_, 1) := by decide +kernel
set_option maxRecDepth 20000 in
theorem ggX7_askAlong_X6_at : GoodIn wsX7_askAlong wsX6_at := goodIn_r _ [7, 8, 9, 73, 74, 75] (by decide +kernel) (by decide +kernel)
set_option maxRecDepth 20000 in
theorem gX7_askAlong_X6_at : GoodIn wsX7_askAlong (wsV RX7 56 RX6 yX6_at wsX6_at) := goodIn_app (goodIn_of _ (by decide +kernel)) ggX7_askAlong_X6_at
set_option maxRecDepth 20000 in
theorem ggX7_askAlong_X5_has : GoodIn wsX7_askAlong wsX5_has := goodIn_r _ [14, 15, 76, 77, 78, 79, 80] (by decide +kernel) (by decide +kernel)
set_option maxRecDepth 20000 in
theorem gX7_askAlong_X5_has : GoodIn wsX7_askAlong (wsV RX7 63 RX5 yX5_has wsX5_has) := goodIn_app (goodIn_of _ (by decide +kernel)) ggX7_askAlong_X5_has
set_option maxRecDepth 20000 in
theorem ggX7_askAlong_X7_ask : GoodIn wsX7_askAlong wsX7_ask := goodIn_r _ [20, 1, 2, 21, 22, 23, 10, 11, 12, 13, 14, 15, 24, 25, 26, 27, 28, 29, 30, 31, 32, 33, 34, 35, 36, 37, 38, 39, 40, 41, 42, 19, 43, 44, 45, 46, 47, 48, 49, 50, 6, 51, 8, 52, 9, 53, 54, 55, 56, 57, 58, 59, 60, 61, 62, 63, 64, 65, 3, 4, 5, 7, 66, 67, 68, 69, 70, 71, 72, 76, 77, 78, 79, 80, 73, 74, 75] (by decide +kernel) (by decide +kernel)
set_option maxRecDepth 20000 in
theorem gX7_askAlong_X7_ask : GoodIn wsX7_askAlong (wsV RX7 67 RX7 yX7_ask wsX7_ask) := goodIn_app (goodIn_of _ (by decide +kernel)) ggX7_askAlong_X7_ask
theorem dX7_askAlong_0 : decode cX7_askAlong 0 = .ok (.iconst (-1), 1) := by decide +kernel
theorem dX7_askAlong_1 : decode cX7_askAlong 1 = .ok (.istore 4, 2) := by decide +kernel
theorem dX7_askAlong_3 : decode cX7_askAlong 3 = .ok (.iconst (-1), 1) := by decide +kernel
theorem dX7_askAlong_4 : decode cX7_askAlong 4 = .ok (.istore 5, 2) := by decide +kernel
theorem dX7_askAlong_6 : decode cX7_askAlong 6 = .ok (.iconst 0, 1) := by decide +kernel
theorem dX7_askAlong_7 : decode cX7_askAlong 7 = .ok (.istore 6, 2) := by decide +kernel
theorem dX7_askAlong_9 : decode cX7_askAlong 9 = .ok (.iload 6, 2) := by decide +kernel
theorem dX7_askAlong_11 : decode cX7_askAlong 11 = .ok (.iconst 3, 1) := by decide +kernel
theorem dX7_askAlong_12 : decode cX7_askAlong 12 = .ok (.if_icmp .ge 79, 3) := by decide +kernel
theorem dX7_askAlong_15 : decode cX7_askAlong 15 = .ok (.aload_n 1, 1) := by decide +kernel
theorem dX7_askAlong_16 : decode cX7_askAlong 16 = .ok (.iload 6, 2) := by decide +kernel
theorem dX7_askAlong_18 : decode cX7_askAlong 18 = .ok (.invokevirtual 56, 3) := by decide +kernel
theorem dX7_askAlong_21 : decode cX7_askAlong 21 = .ok (.istore 7, 2) := by decide +kernel
theorem dX7_askAlong_23 : decode cX7_askAlong 23 = .ok (.aload_n 0, 1) := by decide +kernel
theorem dX7_askAlong_24 : decode cX7_askAlong 24 = .ok (.getfield 31, 3) := by decide +kernel
theorem dX7_askAlong_27 : decode cX7_askAlong 27 = .ok (.iload 7, 2) := by decide +kernel
theorem dX7_askAlong_29 : decode cX7_askAlong 29 = .ok (.invokevirtual 63, 3) := by decide +kernel
theorem dX7_askAlong_32 : decode cX7_askAlong 32 = .ok (.ifCond .eq 17, 3) := by decide +kernel
theorem dX7_askAlong_35 : decode cX7_askAlong 35 = .ok (.aload_n 0, 1) := by decide +kernel
theorem dX7_askAlong_36 : decode cX7_askAlong 36 = .ok (.getfield 27, 3) := by decide +kernel
theorem dX7_askAlong_39 : decode cX7_askAlong 39 = .ok (.iload 7, 2) := by decide +kernel
theorem dX7_askAlong_41 : decode cX7_askAlong 41 = .ok (.baload, 1) := by decide +kernel
theorem dX7_askAlong_42 : decode cX7_askAlong 42 = .ok (.ifCond .ne 7, 3) := by decide +kernel
theorem dX7_askAlong_45 : decode cX7_askAlong 45 = .ok (.iconst 1, 1) := by decide +kernel
theorem dX7_askAlong_46 : decode cX7_askAlong 46 = .ok (.goto 4, 3) := by decide +kernel
theorem dX7_askAlong_49 : decode cX7_askAlong 49 = .ok (.iconst 0, 1) := by decide +kernel
theorem dX7_askAlong_50 : decode cX7_askAlong 50 = .ok (.istore 8, 2) := by decide +kernel
theorem dX7_askAlong_52 : decode cX7_askAlong 52 = .ok (.iload 8, 2) := by decide +kernel
theorem dX7_askAlong_54 : decode cX7_askAlong 54 = .ok (.ifCond .eq 16, 3) := by decide +kernel
theorem dX7_askAlong_57 : decode cX7_askAlong 57 = .ok (.iload 4, 2) := by decide +kernel
theorem dX7_askAlong_59 : decode cX7_askAlong 59 = .ok (.iconst (-1), 1) := by decide +kernel
theorem dX7_askAlong_60 : decode cX7_askAlong 60 = .ok (.if_icmp .ne 10, 3) := by decide +kernel
theorem dX7_askAlong_63 : decode cX7_askAlong 63 = .ok (.iload 7, 2) := by decide +kernel
theorem dX7_askAlong_65 : decode cX7_askAlong 65 = .ok (.istore 4, 2) := by decide +kernel
theorem dX7_askAlong_67 : decode cX7_askAlong 67 = .ok (.goto 18, 3) := by decide +kernel
theorem dX7_askAlong_70 : decode cX7_askAlong 70 = .ok (.iload 8, 2) := by decide +kernel
theorem dX7_askAlong_72 : decode cX7_askAlong 72 = .ok (.ifCond .eq 13, 3) := by decide +kernel
theorem dX7_askAlong_75 : decode cX7_askAlong 75 = .ok (.iload 5, 2) := by decide +kernel
theorem dX7_askAlong_77 : decode cX7_askAlong 77 = .ok (.iconst (-1), 1) := by decide +kernel
theorem dX7_askAlong_78 : decode cX7_askAlong 78 = .ok (.if_icmp .ne 7, 3) := by decide +kernel
theorem dX7_askAlong_81 : decode cX7_askAlong 81 = .ok (.iload 7, 2) := by decide +kernel
theorem dX7_askAlong_83 : decode cX7_askAlong 83 = .ok (.istore 5, 2) := by decide +kernel
theorem dX7_askAlong_85 : decode cX7_askAlong 85 = .ok (.iinc 6 1, 3) := by decide +kernel
theorem dX7_askAlong_88 : decode cX7_askAlong 88 = .ok (.goto (-79), 3) := by decide +kernel
theorem dX7_askAlong_91 : decode cX7_askAlong 91 = .ok (.aload_n 0, 1) := by decide +kernel
theorem dX7_askAlong_92 : decode cX7_askAlong 92 = .ok (.iload 4, 2) := by decide +kernel
theorem dX7_askAlong_94 : decode cX7_askAlong 94 = .ok (.aload_n 1, 1) := by decide +kernel
theorem dX7_askAlong_95 : decode cX7_askAlong 95 = .ok (.iload_n 2, 1) := by decide +kernel
theorem dX7_askAlong_96 : decode cX7_askAlong 96 = .ok (.iload_n 3, 1) := by decide +kernel
theorem dX7_askAlong_97 : decode cX7_askAlong 97 = .ok (.invokevirtual 67, 3) := by decide +kernel
theorem dX7_askAlong_100 : decode cX7_askAlong 100 = .ok (.aload_n 0, 1) := by decide +kernel
theorem dX7_askAlong_101 : decode cX7_askAlong 101 = .ok (.iload 5, 2) := by decide +kernel
theorem dX7_askAlong_103 : decode cX7_askAlong 103 = .ok (.aload_n 1, 1) := by decide +kernel
theorem dX7_askAlong_104 : decode cX7_askAlong 104 = .ok (.iload_n 2, 1) := by decide +kernel
theorem dX7_askAlong_105 : decode cX7_askAlong 105 = .ok (.iload_n 3, 1) := by decide +kernel
theorem dX7_askAlong_106 : decode cX7_askAlong 106 = .ok (.invokevirtual 67, 3) := by decide +kernel
theorem dX7_askAlong_109 : decode cX7_askAlong 109 = .ok (.return_, 1) := by decide +kernel
set_option maxRecDepth 20000 in
theorem ggX7_ask_X5_has : GoodIn wsX7_ask wsX5_has := goodIn_r _ [10, 11, 69, 70, 71, 72, 73] (by decide +kernel) (by decide +kernel)
set_option maxRecDepth 20000 in
theorem gX7_ask_X5_has : GoodIn wsX7_ask (wsV RX7 63 RX5 yX5_has wsX5_has) := goodIn_app (goodIn_of _ (by decide +kernel)) ggX7_ask_X5_has
set_option maxRecDepth 20000 in
theorem ggX7_ask_X5_answers : GoodIn wsX7_ask wsX5_answers := goodIn_r _ [15, 16, 17, 18, 7, 8, 9, 10, 11, 69, 70, 71, 72, 73] (by decide +kernel) (by decide +kernel)
set_option maxRecDepth 20000 in
theorem gX7_ask_X5_answers : GoodIn wsX7_ask (wsV RX7 71 RX5 yX5_answers wsX5_answers) := goodIn_app (goodIn_of _ (by decide +kernel)) ggX7_ask_X5_answers
set_option maxRecDepth 20000 in
theorem ggX7_ask_X5_hear : GoodIn wsX7_ask wsX5_hear := goodIn_r _ [22, 23, 24, 16, 18, 7, 8, 9, 10, 11, 25, 26, 27, 69, 70, 71, 72, 73] (by decide +kernel) (by decide +kernel)
set_option maxRecDepth 20000 in
theorem gX7_ask_X5_hear : GoodIn wsX7_ask (wsV RX7 74 RX5 yX5_hear wsX5_hear) := goodIn_app (goodIn_of _ (by decide +kernel)) ggX7_ask_X5_hear
set_option maxRecDepth 20000 in
theorem ggX7_ask_X7_include : GoodIn wsX7_ask wsX7_include := goodIn_r _ [32, 1, 33, 34, 35, 9, 36, 11, 24, 37, 38, 39, 40, 41, 42, 43, 44, 62, 63, 64, 65, 66, 67, 68, 69, 70, 71, 72, 73, 74, 75, 76] (by decide +kernel) (by decide +kernel)
set_option maxRecDepth 20000 in
theorem gX7_ask_X7_include : GoodIn wsX7_ask (wsV RX7 60 RX7 yX7_include wsX7_include) := goodIn_app (goodIn_of _ (by decide +kernel)) ggX7_ask_X7_include
set_option maxRecDepth 20000 in
theorem ggX7_ask_X5_isOfBand : GoodIn wsX7_ask wsX5_isOfBand := goodIn_r _ [48, 17, 18, 7, 8, 9, 10, 11, 69, 70, 71, 72, 73] (by decide +kernel) (by decide +kernel)
set_option maxRecDepth 20000 in
theorem gX7_ask_X5_isOfBand : GoodIn wsX7_ask (wsV RX7 78 RX5 yX5_isOfBand wsX5_isOfBand) := goodIn_app (goodIn_of _ (by decide +kernel)) ggX7_ask_X5_isOfBand
set_option maxRecDepth 20000 in
theorem ggX7_ask_X5_gather : GoodIn wsX7_ask wsX5_gather := goodIn_r _ [52, 23, 17, 24, 53, 54, 55, 40, 56, 42, 18, 7, 8, 9, 10, 11, 57, 38, 39, 41, 43, 44, 69, 70, 71, 72, 73, 74, 75, 76] (by decide +kernel) (by decide +kernel)
set_option maxRecDepth 20000 in
theorem gX7_ask_X5_gather : GoodIn wsX7_ask (wsV RX7 50 RX5 yX5_gather wsX5_gather) := goodIn_app (goodIn_of _ (by decide +kernel)) ggX7_ask_X5_gather
set_option maxRecDepth 20000 in
theorem ggX7_ask_X6_at : GoodIn wsX7_ask wsX6_at := goodIn_r _ [61, 42, 44, 74, 75, 76] (by decide +kernel) (by decide +kernel)
set_option maxRecDepth 20000 in
theorem gX7_ask_X6_at : GoodIn wsX7_ask (wsV RX7 56 RX6 yX6_at wsX6_at) := goodIn_app (goodIn_of _ (by decide +kernel)) ggX7_ask_X6_at
theorem dX7_ask_0 : decode cX7_ask 0 = .ok (.aload_n 0, 1) := by decide +kernel
theorem dX7_ask_1 : decode cX7_ask 1 = .ok (.getfield 31, 3) := by decide +kernel
theorem dX7_ask_4 : decode cX7_ask 4 = .ok (.iload_n 1, 1) := by decide +kernel
theorem dX7_ask_5 : decode cX7_ask 5 = .ok (.invokevirtual 63, 3) := by decide +kernel
theorem dX7_ask_8 : decode cX7_ask 8 = .ok (.ifCond .ne 4, 3) := by decide +kernel
theorem dX7_ask_11 : decode cX7_ask 11 = .ok (.return_, 1) := by decide +kernel
theorem dX7_ask_12 : decode cX7_ask 12 = .ok (.aload_n 0, 1) := by decide +kernel
theorem dX7_ask_13 : decode cX7_ask 13 = .ok (.getfield 27, 3) := by decide +kernel
theorem dX7_ask_16 : decode cX7_ask 16 = .ok (.iload_n 1, 1) := by decide +kernel
theorem dX7_ask_17 : decode cX7_ask 17 = .ok (.iconst 1, 1) := by decide +kernel
theorem dX7_ask_18 : decode cX7_ask 18 = .ok (.bastore, 1) := by decide +kernel
theorem dX7_ask_19 : decode cX7_ask 19 = .ok (.aload_n 0, 1) := by decide +kernel
theorem dX7_ask_20 : decode cX7_ask 20 = .ok (.dup, 1) := by decide +kernel
theorem dX7_ask_21 : decode cX7_ask 21 = .ok (.getfield 35, 3) := by decide +kernel
theorem dX7_ask_24 : decode cX7_ask 24 = .ok (.iconst 1, 1) := by decide +kernel
theorem dX7_ask_25 : decode cX7_ask 25 = .ok (.iadd, 1) := by decide +kernel
theorem dX7_ask_26 : decode cX7_ask 26 = .ok (.putfield 35, 3) := by decide +kernel
theorem dX7_ask_29 : decode cX7_ask 29 = .ok (.aload_n 0, 1) := by decide +kernel
theorem dX7_ask_30 : decode cX7_ask 30 = .ok (.getfield 31, 3) := by decide +kernel
theorem dX7_ask_33 : decode cX7_ask 33 = .ok (.iload_n 1, 1) := by decide +kernel
theorem dX7_ask_34 : decode cX7_ask 34 = .ok (.invokevirtual 71, 3) := by decide +kernel
theorem dX7_ask_37 : decode cX7_ask 37 = .ok (.ifCond .ne 4, 3) := by decide +kernel
theorem dX7_ask_40 : decode cX7_ask 40 = .ok (.return_, 1) := by decide +kernel
theorem dX7_ask_41 : decode cX7_ask 41 = .ok (.aload_n 0, 1) := by decide +kernel
theorem dX7_ask_42 : decode cX7_ask 42 = .ok (.getfield 31, 3) := by decide +kernel
theorem dX7_ask_45 : decode cX7_ask 45 = .ok (.iload_n 1, 1) := by decide +kernel
theorem dX7_ask_46 : decode cX7_ask 46 = .ok (.iload_n 3, 1) := by decide +kernel
theorem dX7_ask_47 : decode cX7_ask 47 = .ok (.invokevirtual 74, 3) := by decide +kernel
theorem dX7_ask_50 : decode cX7_ask 50 = .ok (.aload_n 0, 1) := by decide +kernel
theorem dX7_ask_51 : decode cX7_ask 51 = .ok (.getfield 31, 3) := by decide +kernel
theorem dX7_ask_54 : decode cX7_ask 54 = .ok (.iload_n 3, 1) := by decide +kernel
theorem dX7_ask_55 : decode cX7_ask 55 = .ok (.iload_n 1, 1) := by decide +kernel
theorem dX7_ask_56 : decode cX7_ask 56 = .ok (.invokevirtual 74, 3) := by decide +kernel
theorem dX7_ask_59 : decode cX7_ask 59 = .ok (.aload_n 0, 1) := by decide +kernel
theorem dX7_ask_60 : decode cX7_ask 60 = .ok (.aload_n 0, 1) := by decide +kernel
theorem dX7_ask_61 : decode cX7_ask 61 = .ok (.getfield 21, 3) := by decide +kernel
theorem dX7_ask_64 : decode cX7_ask 64 = .ok (.iload_n 1, 1) := by decide +kernel
theorem dX7_ask_65 : decode cX7_ask 65 = .ok (.iload 4, 2) := by decide +kernel
theorem dX7_ask_67 : decode cX7_ask 67 = .ok (.invokevirtual 60, 3) := by decide +kernel
theorem dX7_ask_70 : decode cX7_ask 70 = .ok (.aload_n 0, 1) := by decide +kernel
theorem dX7_ask_71 : decode cX7_ask 71 = .ok (.getfield 31, 3) := by decide +kernel
theorem dX7_ask_74 : decode cX7_ask 74 = .ok (.iload_n 1, 1) := by decide +kernel
theorem dX7_ask_75 : decode cX7_ask 75 = .ok (.iload 4, 2) := by decide +kernel
theorem dX7_ask_77 : decode cX7_ask 77 = .ok (.aload_n 0, 1) := by decide +kernel
theorem dX7_ask_78 : decode cX7_ask 78 = .ok (.getfield 31, 3) := by decide +kernel
theorem dX7_ask_81 : decode cX7_ask 81 = .ok (.iload_n 1, 1) := by decide +kernel
theorem dX7_ask_82 : decode cX7_ask 82 = .ok (.invokevirtual 78, 3) := by decide +kernel
theorem dX7_ask_85 : decode cX7_ask 85 = .ok (.aload_n 0, 1) := by decide +kernel
theorem dX7_ask_86 : decode cX7_ask 86 = .ok (.getfield 24, 3) := by decide +kernel
theorem dX7_ask_89 : decode cX7_ask 89 = .ok (.invokevirtual 50, 3) := by decide +kernel
theorem dX7_ask_92 : decode cX7_ask 92 = .ok (.iconst 0, 1) := by decide +kernel
theorem dX7_ask_93 : decode cX7_ask 93 = .ok (.istore 5, 2) := by decide +kernel
theorem dX7_ask_95 : decode cX7_ask 95 = .ok (.iload 5, 2) := by decide +kernel
theorem dX7_ask_97 : decode cX7_ask 97 = .ok (.iconst 3, 1) := by decide +kernel
theorem dX7_ask_98 : decode cX7_ask 98 = .ok (.if_icmp .ge 35, 3) := by decide +kernel
theorem dX7_ask_101 : decode cX7_ask 101 = .ok (.aload_n 0, 1) := by decide +kernel
theorem dX7_ask_102 : decode cX7_ask 102 = .ok (.getfield 24, 3) := by decide +kernel
theorem dX7_ask_105 : decode cX7_ask 105 = .ok (.iload 5, 2) := by decide +kernel
theorem dX7_ask_107 : decode cX7_ask 107 = .ok (.invokevirtual 56, 3) := by decide +kernel
theorem dX7_ask_110 : decode cX7_ask 110 = .ok (.istore 6, 2) := by decide +kernel
theorem dX7_ask_112 : decode cX7_ask 112 = .ok (.iload 6, 2) := by decide +kernel
theorem dX7_ask_114 : decode cX7_ask 114 = .ok (.iload_n 3, 1) := by decide +kernel
theorem dX7_ask_115 : decode cX7_ask 115 = .ok (.if_icmp .eq 12, 3) := by decide +kernel
theorem dX7_ask_118 : decode cX7_ask 118 = .ok (.aload_n 0, 1) := by decide +kernel
theorem dX7_ask_119 : decode cX7_ask 119 = .ok (.aload_n 2, 1) := by decide +kernel
theorem dX7_ask_120 : decode cX7_ask 120 = .ok (.iload 6, 2) := by decide +kernel
theorem dX7_ask_122 : decode cX7_ask 122 = .ok (.iload 4, 2) := by decide +kernel
theorem dX7_ask_124 : decode cX7_ask 124 = .ok (.invokevirtual 60, 3) := by decide +kernel
theorem dX7_ask_127 : decode cX7_ask 127 = .ok (.iinc 5 1, 3) := by decide +kernel
theorem dX7_ask_130 : decode cX7_ask 130 = .ok (.goto (-35), 3) := by decide +kernel
theorem dX7_ask_133 : decode cX7_ask 133 = .ok (.return_, 1) := by decide +kernel
set_option maxRecDepth 20000 in
theorem ggX7_include_X5_distance : GoodIn wsX7_include wsX5_distance := goodIn_r _ [6, 7, 8, 24, 25, 26, 27, 28] (by decide +kernel) (by decide +kernel)
set_option maxRecDepth 20000 in
theorem gX7_include_X5_distance : GoodIn wsX7_include (wsV RX7 81 RX5 yX5_distance wsX5_distance) := goodIn_app (goodIn_of _ (by decide +kernel)) ggX7_include_X5_distance
set_option maxRecDepth 20000 in
theorem ggX7_include_X6_add : GoodIn wsX7_include wsX6_add := goodIn_r _ [13, 14, 15, 16, 29, 30, 31] (by decide +kernel) (by decide +kernel)
set_option maxRecDepth 20000 in
theorem gX7_include_X6_add : GoodIn wsX7_include (wsV RX7 85 RX6 yX6_add wsX6_add) := goodIn_app (goodIn_of _ (by decide +kernel)) ggX7_include_X6_add
theorem dX7_include_0 : decode cX7_include 0 = .ok (.iload_n 2, 1) := by decide +kernel
theorem dX7_include_1 : decode cX7_include 1 = .ok (.iconst (-1), 1) := by decide +kernel
theorem dX7_include_2 : decode cX7_include 2 = .ok (.if_icmp .eq 17, 3) := by decide +kernel
theorem dX7_include_5 : decode cX7_include 5 = .ok (.aload_n 1, 1) := by decide +kernel
theorem dX7_include_6 : decode cX7_include 6 = .ok (.iload_n 2, 1) := by decide +kernel
theorem dX7_include_7 : decode cX7_include 7 = .ok (.aload_n 0, 1) := by decide +kernel
theorem dX7_include_8 : decode cX7_include 8 = .ok (.getfield 31, 3) := by decide +kernel
theorem dX7_include_11 : decode cX7_include 11 = .ok (.iload_n 2, 1) := by decide +kernel
theorem dX7_include_12 : decode cX7_include 12 = .ok (.iload_n 3, 1) := by decide +kernel
theorem dX7_include_13 : decode cX7_include 13 = .ok (.invokevirtual 81, 3) := by decide +kernel
theorem dX7_include_16 : decode cX7_include 16 = .ok (.invokevirtual 85, 3) := by decide +kernel
theorem dX7_include_19 : decode cX7_include 19 = .ok (.return_, 1) := by decide +kernel
set_option maxRecDepth 20000 in
theorem ggX8_init_X0_pieces : GoodIn wsX8_init wsX0_pieces := goodIn_r _ [18, 4, 19, 20, 17, 21, 22, 23, 24] (by decide +kernel) (by decide +kernel)
set_option maxRecDepth 20000 in
theorem gX8_init_X0_pieces : GoodIn wsX8_init (va_wsS RX8 22 yX0_pieces wsX0_pieces) := goodIn_app (goodIn_of _ (by decide +kernel)) ggX8_init_X0_pieces
set_option maxRecDepth 20000 in
theorem ggX8_init_X9_init : GoodIn wsX8_init wsX9_init := goodIn_r _ [27, 28, 2, 3, 4, 29, 30, 31, 13, 32, 33, 40] (by decide +kernel) (by decide +kernel)
set_option maxRecDepth 20000 in
theorem gX8_init_X9_init : GoodIn wsX8_init (wsX9_init) := ggX8_init_X9_init
theorem dX8_init_0 : decode cX8_init 0 = .ok (.aload_n 0, 1) := by decide +kernel
theorem dX8_init_1 : decode cX8_init 1 = .ok (.invokespecial 3, 3) := by decide +kernel
theorem dX8_init_4 : decode cX8_init 4 = .ok (.aload_n 0, 1) := by decide +kernel
theorem dX8_init_5 : decode cX8_init 5 = .ok (.bipush 6, 2) := by decide +kernel
theorem dX8_init_7 : decode cX8_init 7 = .ok (.newarray .int, 2) := by decide +kernel
theorem dX8_init_9 : decode cX8_init 9 = .ok (.putfield 9, 3) := by decide +kernel
theorem dX8_init_12 : decode cX8_init 12 = .ok (.aload_n 0, 1) := by decide +kernel
theorem dX8_init_13 : decode cX8_init 13 = .ok (.bipush 6, 2) := by decide +kernel
theorem dX8_init_15 : decode cX8_init 15 = .ok (.newarray .boolean, 2) := by decide +kernel
theorem dX8_init_17 : decode cX8_init 17 = .ok (.putfield 15, 3) := by decide +kernel
theorem dX8_init_20 : decode cX8_init 20 = .ok (.aload_n 0, 1) := by decide +kernel
theorem dX8_init_21 : decode cX8_init 21 = .ok (.bipush 6, 2) := by decide +kernel
theorem dX8_init_23 : decode cX8_init 23 = .ok (.newarray .int, 2) := by decide +kernel
theorem dX8_init_25 : decode cX8_init 25 = .ok (.putfield 19, 3) := by decide +kernel
theorem dX8_init_28 : decode cX8_init 28 = .ok (.iload_n 2, 1) := by decide +kernel
theorem dX8_init_29 : decode cX8_init 29 = .ok (.invokestatic 22, 3) := by decide +kernel
theorem dX8_init_32 : decode cX8_init 32 = .ok (.astore_n 3, 1) := by decide +kernel
theorem dX8_init_33 : decode cX8_init 33 = .ok (.aload_n 0, 1) := by decide +kernel
theorem dX8_init_34 : decode cX8_init 34 = .ok (.iload_n 1, 1) := by decide +kernel
theorem dX8_init_35 : decode cX8_init 35 = .ok (.putfield 28, 3) := by decide +kernel
theorem dX8_init_38 : decode cX8_init 38 = .ok (.aload_n 0, 1) := by decide +kernel
theorem dX8_init_39 : decode cX8_init 39 = .ok (.aload_n 3, 1) := by decide +kernel
theorem dX8_init_40 : decode cX8_init 40 = .ok (.putfield 32, 3) := by decide +kernel
theorem dX8_init_43 : decode cX8_init 43 = .ok (.aload_n 0, 1) := by decide +kernel
theorem dX8_init_44 : decode cX8_init 44 = .ok (.new 35, 3) := by decide +kernel
theorem dX8_init_47 : decode cX8_init 47 = .ok (.dup, 1) := by decide +kernel
theorem dX8_init_48 : decode cX8_init 48 = .ok (.aload_n 3, 1) := by decide +kernel
theorem dX8_init_49 : decode cX8_init 49 = .ok (.invokespecial 37, 3) := by decide +kernel
theorem dX8_init_52 : decode cX8_init 52 = .ok (.putfield 40, 3) := by decide +kernel
theorem dX8_init_55 : decode cX8_init 55 = .ok (.iconst 0, 1) := by decide +kernel
theorem dX8_init_56 : decode cX8_init 56 = .ok (.istore 4, 2) := by decide +kernel
theorem dX8_init_58 : decode cX8_init 58 = .ok (.iload 4, 2) := by decide +kernel
theorem dX8_init_60 : decode cX8_init 60 = .ok (.bipush 6, 2) := by decide +kernel
theorem dX8_init_62 : decode cX8_init 62 = .ok (.if_icmp .ge 17, 3) := by decide +kernel
theorem dX8_init_65 : decode cX8_init 65 = .ok (.aload_n 0, 1) := by decide +kernel
theorem dX8_init_66 : decode cX8_init 66 = .ok (.getfield 9, 3) := by decide +kernel
theorem dX8_init_69 : decode cX8_init 69 = .ok (.iload 4, 2) := by decide +kernel
theorem dX8_init_71 : decode cX8_init 71 = .ok (.iconst (-1), 1) := by decide +kernel
theorem dX8_init_72 : decode cX8_init 72 = .ok (.iastore, 1) := by decide +kernel
theorem dX8_init_73 : decode cX8_init 73 = .ok (.iinc 4 1, 3) := by decide +kernel
theorem dX8_init_76 : decode cX8_init 76 = .ok (.goto (-18), 3) := by decide +kernel
theorem dX8_init_79 : decode cX8_init 79 = .ok (.return_, 1) := by decide +kernel
theorem dX8_owner_0 : decode cX8_owner 0 = .ok (.aload_n 0, 1) := by decide +kernel
theorem dX8_owner_1 : decode cX8_owner 1 = .ok (.getfield 28, 3) := by decide +kernel
theorem dX8_owner_4 : decode cX8_owner 4 = .ok (.ireturn, 1) := by decide +kernel
theorem dX8_tree_0 : decode cX8_tree 0 = .ok (.aload_n 0, 1) := by decide +kernel
theorem dX8_tree_1 : decode cX8_tree 1 = .ok (.getfield 40, 3) := by decide +kernel
theorem dX8_tree_4 : decode cX8_tree 4 = .ok (.areturn, 1) := by decide +kernel
theorem dX8_value_0 : decode cX8_value 0 = .ok (.iload_n 1, 1) := by decide +kernel
theorem dX8_value_1 : decode cX8_value 1 = .ok (.ifCond .lt 21, 3) := by decide +kernel
theorem dX8_value_4 : decode cX8_value 4 = .ok (.iload_n 1, 1) := by decide +kernel
theorem dX8_value_5 : decode cX8_value 5 = .ok (.aload_n 0, 1) := by decide +kernel
theorem dX8_value_6 : decode cX8_value 6 = .ok (.getfield 32, 3) := by decide +kernel
theorem dX8_value_9 : decode cX8_value 9 = .ok (.arraylength, 1) := by decide +kernel
theorem dX8_value_10 : decode cX8_value 10 = .ok (.if_icmp .ge 12, 3) := by decide +kernel
theorem dX8_value_13 : decode cX8_value 13 = .ok (.aload_n 0, 1) := by decide +kernel
theorem dX8_value_14 : decode cX8_value 14 = .ok (.getfield 32, 3) := by decide +kernel
theorem dX8_value_17 : decode cX8_value 17 = .ok (.iload_n 1, 1) := by decide +kernel
theorem dX8_value_18 : decode cX8_value 18 = .ok (.iaload, 1) := by decide +kernel
theorem dX8_value_19 : decode cX8_value 19 = .ok (.goto 4, 3) := by decide +kernel
theorem dX8_value_22 : decode cX8_value 22 = .ok (.iconst (-1), 1) := by decide +kernel
theorem dX8_value_23 : decode cX8_value 23 = .ok (.ireturn, 1) := by decide +kernel
set_option maxRecDepth 20000 in
theorem ggX8_key_X9_leaf : GoodIn wsX8_key wsX9_leaf := goodIn_r _ [6, 7, 14] (by decide +kernel) (by decide +kernel)
set_option maxRecDepth 20000 in
theorem gX8_key_X9_leaf : GoodIn wsX8_key (wsV RX8 44 RX9 yX9_leaf wsX9_leaf) := goodIn_app (goodIn_of _ (by decide +kernel)) ggX8_key_X9_leaf
theorem dX8_key_0 : decode cX8_key 0 = .ok (.aload_n 0, 1) := by decide +kernel
theorem dX8_key_1 : decode cX8_key 1 = .ok (.getfield 40, 3) := by decide +kernel
theorem dX8_key_4 : decode cX8_key 4 = .ok (.iload_n 1, 1) := by decide +kernel
theorem dX8_key_5 : decode cX8_key 5 = .ok (.invokevirtual 44, 3) := by decide +kernel
theorem dX8_key_8 : decode cX8_key 8 = .ok (.sipush 255, 3) := by decide +kernel
theorem dX8_key_11 : decode cX8_key 11 = .ok (.iand, 1) := by decide +kernel
theorem dX8_key_12 : decode cX8_key 12 = .ok (.ireturn, 1) := by decide +kernel
set_option maxRecDepth 20000 in
theorem ggX8_mended_X0_solve : GoodIn wsX8_mended wsX0_solve := goodIn_r _ [5, 6, 7, 4, 8, 9, 10, 11, 12, 13, 14, 15, 16, 17, 18, 19, 20] (by decide +kernel) (by decide +kernel)
set_option maxRecDepth 20000 in
theorem gX8_mended_X0_solve : GoodIn wsX8_mended (va_wsS RX8 48 yX0_solve wsX0_solve) := goodIn_app (goodIn_of _ (by decide +kernel)) ggX8_mended_X0_solve
theorem dX8_mended_0 : decode cX8_mended 0 = .ok (.aload_n 0, 1) := by decide +kernel
theorem dX8_mended_1 : decode cX8_mended 1 = .ok (.getfield 32, 3) := by decide +kernel
theorem dX8_mended_4 : decode cX8_mended 4 = .ok (.iload_n 1, 1) := by decide +kernel
theorem dX8_mended_5 : decode cX8_mended 5 = .ok (.invokestatic 48, 3) := by decide +kernel
theorem dX8_mended_8 : decode cX8_mended 8 = .ok (.ireturn, 1) := by decide +kernel
set_option maxRecDepth 20000 in
theorem ggX8_holder_X8_isPiece : GoodIn wsX8_holder wsX8_isPiece := goodIn_r _ [5] (by decide +kernel) (by decide +kernel)
set_option maxRecDepth 20000 in
theorem gX8_holder_X8_isPiece : GoodIn wsX8_holder (va_wsS RX8 52 yX8_isPiece wsX8_isPiece) := goodIn_app (goodIn_of _ (by decide +kernel)) ggX8_holder_X8_isPiece
theorem dX8_holder_0 : decode cX8_holder 0 = .ok (.iload_n 1, 1) := by decide +kernel
theorem dX8_holder_1 : decode cX8_holder 1 = .ok (.invokestatic 52, 3) := by decide +kernel
theorem dX8_holder_4 : decode cX8_holder 4 = .ok (.ifCond .eq 12, 3) := by decide +kernel
theorem dX8_holder_7 : decode cX8_holder 7 = .ok (.aload_n 0, 1) := by decide +kernel
theorem dX8_holder_8 : decode cX8_holder 8 = .ok (.getfield 9, 3) := by decide +kernel
theorem dX8_holder_11 : decode cX8_holder 11 = .ok (.iload_n 1, 1) := by decide +kernel
theorem dX8_holder_12 : decode cX8_holder 12 = .ok (.iaload, 1) := by decide +kernel
theorem dX8_holder_13 : decode cX8_holder 13 = .ok (.goto 4, 3) := by decide +kernel
theorem dX8_holder_16 : decode cX8_holder 16 = .ok (.iconst (-1), 1) := by decide +kernel
theorem dX8_holder_17 : decode cX8_holder 17 = .ok (.ireturn, 1) := by decide +kernel
set_option maxRecDepth 20000 in
theorem ggX8_isHeld_X8_isPiece : GoodIn wsX8_isHeld wsX8_isPiece := goodIn_r _ [5] (by decide +kernel) (by decide +kernel)
set_option maxRecDepth 20000 in
theorem gX8_isHeld_X8_isPiece : GoodIn wsX8_isHeld (va_wsS RX8 52 yX8_isPiece wsX8_isPiece) := goodIn_app (goodIn_of _ (by decide +kernel)) ggX8_isHeld_X8_isPiece
theorem dX8_isHeld_0 : decode cX8_isHeld 0 = .ok (.iload_n 1, 1) := by decide +kernel
theorem dX8_isHeld_1 : decode cX8_isHeld 1 = .ok (.invokestatic 52, 3) := by decide +kernel
theorem dX8_isHeld_4 : decode cX8_isHeld 4 = .ok (.ifCond .eq 17, 3) := by decide +kernel
theorem dX8_isHeld_7 : decode cX8_isHeld 7 = .ok (.aload_n 0, 1) := by decide +kernel
theorem dX8_isHeld_8 : decode cX8_isHeld 8 = .ok (.getfield 9, 3) := by decide +kernel
theorem dX8_isHeld_11 : decode cX8_isHeld 11 = .ok (.iload_n 1, 1) := by decide +kernel
theorem dX8_isHeld_12 : decode cX8_isHeld 12 = .ok (.iaload, 1) := by decide +kernel
theorem dX8_isHeld_13 : decode cX8_isHeld 13 = .ok (.iconst (-1), 1) := by decide +kernel
theorem dX8_isHeld_14 : decode cX8_isHeld 14 = .ok (.if_icmp .eq 7, 3) := by decide +kernel
theorem dX8_isHeld_17 : decode cX8_isHeld 17 = .ok (.iconst 1, 1) := by decide +kernel
theorem dX8_isHeld_18 : decode cX8_isHeld 18 = .ok (.goto 4, 3) := by decide +kernel
theorem dX8_isHeld_21 : decode cX8_isHeld 21 = .ok (.iconst 0, 1) := by decide +kernel
theorem dX8_isHeld_22 : decode cX8_isHeld 22 = .ok (.ireturn, 1) := by decide +kernel
theorem dX8_isHeldBy_0 : decode cX8_isHeldBy 0 = .ok (.aload_n 0, 1) := by decide +kernel
theorem dX8_isHeldBy_1 : decode cX8_isHeldBy 1 = .ok (.getfield 9, 3) := by decide +kernel
theorem dX8_isHeldBy_4 : decode cX8_isHeldBy 4 = .ok (.astore_n 2, 1) := by decide +kernel
theorem dX8_isHeldBy_5 : decode cX8_isHeldBy 5 = .ok (.aload_n 2, 1) := by decide +kernel
theorem dX8_isHeldBy_6 : decode cX8_isHeldBy 6 = .ok (.arraylength, 1) := by decide +kernel
theorem dX8_isHeldBy_7 : decode cX8_isHeldBy 7 = .ok (.istore_n 3, 1) := by decide +kernel
theorem dX8_isHeldBy_8 : decode cX8_isHeldBy 8 = .ok (.iconst 0, 1) := by decide +kernel
theorem dX8_isHeldBy_9 : decode cX8_isHeldBy 9 = .ok (.istore 4, 2) := by decide +kernel
theorem dX8_isHeldBy_11 : decode cX8_isHeldBy 11 = .ok (.iload 4, 2) := by decide +kernel
theorem dX8_isHeldBy_13 : decode cX8_isHeldBy 13 = .ok (.iload_n 3, 1) := by decide +kernel
theorem dX8_isHeldBy_14 : decode cX8_isHeldBy 14 = .ok (.if_icmp .ge 23, 3) := by decide +kernel
theorem dX8_isHeldBy_17 : decode cX8_isHeldBy 17 = .ok (.aload_n 2, 1) := by decide +kernel
theorem dX8_isHeldBy_18 : decode cX8_isHeldBy 18 = .ok (.iload 4, 2) := by decide +kernel
theorem dX8_isHeldBy_20 : decode cX8_isHeldBy 20 = .ok (.iaload, 1) := by decide +kernel
theorem dX8_isHeldBy_21 : decode cX8_isHeldBy 21 = .ok (.istore 5, 2) := by decide +kernel
theorem dX8_isHeldBy_23 : decode cX8_isHeldBy 23 = .ok (.iload 5, 2) := by decide +kernel
theorem dX8_isHeldBy_25 : decode cX8_isHeldBy 25 = .ok (.iload_n 1, 1) := by decide +kernel
theorem dX8_isHeldBy_26 : decode cX8_isHeldBy 26 = .ok (.if_icmp .ne 5, 3) := by decide +kernel
theorem dX8_isHeldBy_29 : decode cX8_isHeldBy 29 = .ok (.iconst 1, 1) := by decide +kernel
theorem dX8_isHeldBy_30 : decode cX8_isHeldBy 30 = .ok (.ireturn, 1) := by decide +kernel
theorem dX8_isHeldBy_31 : decode cX8_isHeldBy 31 = .ok (.iinc 4 1, 3) := by decide +kernel
