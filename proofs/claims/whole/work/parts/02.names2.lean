theorem dX8_isHeldBy_34 : decode cX8_isHeldBy 34 = .ok (.goto (-23), 3) := by decide +kernel
theorem dX8_isHeldBy_37 : decode cX8_isHeldBy 37 = .ok (.iconst 0, 1) := by decide +kernel
theorem dX8_isHeldBy_38 : decode cX8_isHeldBy 38 = .ok (.ireturn, 1) := by decide +kernel
set_option maxRecDepth 20000 in
theorem ggX8_isKept_X8_isPiece : GoodIn wsX8_isKept wsX8_isPiece := goodIn_r _ [5] (by decide +kernel) (by decide +kernel)
set_option maxRecDepth 20000 in
theorem gX8_isKept_X8_isPiece : GoodIn wsX8_isKept (va_wsS RX8 52 yX8_isPiece wsX8_isPiece) := goodIn_app (goodIn_of _ (by decide +kernel)) ggX8_isKept_X8_isPiece
theorem dX8_isKept_0 : decode cX8_isKept 0 = .ok (.iload_n 1, 1) := by decide +kernel
theorem dX8_isKept_1 : decode cX8_isKept 1 = .ok (.invokestatic 52, 3) := by decide +kernel
theorem dX8_isKept_4 : decode cX8_isKept 4 = .ok (.ifCond .eq 16, 3) := by decide +kernel
theorem dX8_isKept_7 : decode cX8_isKept 7 = .ok (.aload_n 0, 1) := by decide +kernel
theorem dX8_isKept_8 : decode cX8_isKept 8 = .ok (.getfield 15, 3) := by decide +kernel
theorem dX8_isKept_11 : decode cX8_isKept 11 = .ok (.iload_n 1, 1) := by decide +kernel
theorem dX8_isKept_12 : decode cX8_isKept 12 = .ok (.baload, 1) := by decide +kernel
theorem dX8_isKept_13 : decode cX8_isKept 13 = .ok (.ifCond .eq 7, 3) := by decide +kernel
theorem dX8_isKept_16 : decode cX8_isKept 16 = .ok (.iconst 1, 1) := by decide +kernel
theorem dX8_isKept_17 : decode cX8_isKept 17 = .ok (.goto 4, 3) := by decide +kernel
theorem dX8_isKept_20 : decode cX8_isKept 20 = .ok (.iconst 0, 1) := by decide +kernel
theorem dX8_isKept_21 : decode cX8_isKept 21 = .ok (.ireturn, 1) := by decide +kernel
set_option maxRecDepth 20000 in
theorem ggX8_missed_X8_isPiece : GoodIn wsX8_missed wsX8_isPiece := goodIn_r _ [5] (by decide +kernel) (by decide +kernel)
set_option maxRecDepth 20000 in
theorem gX8_missed_X8_isPiece : GoodIn wsX8_missed (va_wsS RX8 52 yX8_isPiece wsX8_isPiece) := goodIn_app (goodIn_of _ (by decide +kernel)) ggX8_missed_X8_isPiece
theorem dX8_missed_0 : decode cX8_missed 0 = .ok (.iload_n 1, 1) := by decide +kernel
theorem dX8_missed_1 : decode cX8_missed 1 = .ok (.invokestatic 52, 3) := by decide +kernel
theorem dX8_missed_4 : decode cX8_missed 4 = .ok (.ifCond .eq 12, 3) := by decide +kernel
theorem dX8_missed_7 : decode cX8_missed 7 = .ok (.aload_n 0, 1) := by decide +kernel
theorem dX8_missed_8 : decode cX8_missed 8 = .ok (.getfield 19, 3) := by decide +kernel
theorem dX8_missed_11 : decode cX8_missed 11 = .ok (.iload_n 1, 1) := by decide +kernel
theorem dX8_missed_12 : decode cX8_missed 12 = .ok (.iaload, 1) := by decide +kernel
theorem dX8_missed_13 : decode cX8_missed 13 = .ok (.goto 4, 3) := by decide +kernel
theorem dX8_missed_16 : decode cX8_missed 16 = .ok (.iconst 0, 1) := by decide +kernel
theorem dX8_missed_17 : decode cX8_missed 17 = .ok (.ireturn, 1) := by decide +kernel
set_option maxRecDepth 20000 in
theorem ggX8_setMissed_X8_isPiece : GoodIn wsX8_setMissed wsX8_isPiece := goodIn_r _ [5] (by decide +kernel) (by decide +kernel)
set_option maxRecDepth 20000 in
theorem gX8_setMissed_X8_isPiece : GoodIn wsX8_setMissed (va_wsS RX8 52 yX8_isPiece wsX8_isPiece) := goodIn_app (goodIn_of _ (by decide +kernel)) ggX8_setMissed_X8_isPiece
theorem dX8_setMissed_0 : decode cX8_setMissed 0 = .ok (.iload_n 1, 1) := by decide +kernel
theorem dX8_setMissed_1 : decode cX8_setMissed 1 = .ok (.invokestatic 52, 3) := by decide +kernel
theorem dX8_setMissed_4 : decode cX8_setMissed 4 = .ok (.ifCond .eq 10, 3) := by decide +kernel
theorem dX8_setMissed_7 : decode cX8_setMissed 7 = .ok (.aload_n 0, 1) := by decide +kernel
theorem dX8_setMissed_8 : decode cX8_setMissed 8 = .ok (.getfield 19, 3) := by decide +kernel
theorem dX8_setMissed_11 : decode cX8_setMissed 11 = .ok (.iload_n 1, 1) := by decide +kernel
theorem dX8_setMissed_12 : decode cX8_setMissed 12 = .ok (.iload_n 2, 1) := by decide +kernel
theorem dX8_setMissed_13 : decode cX8_setMissed 13 = .ok (.iastore, 1) := by decide +kernel
theorem dX8_setMissed_14 : decode cX8_setMissed 14 = .ok (.return_, 1) := by decide +kernel
set_option maxRecDepth 20000 in
theorem ggX8_throwAway_X8_isPiece : GoodIn wsX8_throwAway wsX8_isPiece := goodIn_r _ [5] (by decide +kernel) (by decide +kernel)
set_option maxRecDepth 20000 in
theorem gX8_throwAway_X8_isPiece : GoodIn wsX8_throwAway (va_wsS RX8 52 yX8_isPiece wsX8_isPiece) := goodIn_app (goodIn_of _ (by decide +kernel)) ggX8_throwAway_X8_isPiece
theorem dX8_throwAway_0 : decode cX8_throwAway 0 = .ok (.iload_n 1, 1) := by decide +kernel
theorem dX8_throwAway_1 : decode cX8_throwAway 1 = .ok (.invokestatic 52, 3) := by decide +kernel
theorem dX8_throwAway_4 : decode cX8_throwAway 4 = .ok (.ifCond .eq 10, 3) := by decide +kernel
theorem dX8_throwAway_7 : decode cX8_throwAway 7 = .ok (.aload_n 0, 1) := by decide +kernel
theorem dX8_throwAway_8 : decode cX8_throwAway 8 = .ok (.getfield 15, 3) := by decide +kernel
theorem dX8_throwAway_11 : decode cX8_throwAway 11 = .ok (.iload_n 1, 1) := by decide +kernel
theorem dX8_throwAway_12 : decode cX8_throwAway 12 = .ok (.iconst 0, 1) := by decide +kernel
theorem dX8_throwAway_13 : decode cX8_throwAway 13 = .ok (.bastore, 1) := by decide +kernel
theorem dX8_throwAway_14 : decode cX8_throwAway 14 = .ok (.return_, 1) := by decide +kernel
set_option maxRecDepth 20000 in
theorem ggX8_hand_X8_isPiece : GoodIn wsX8_hand wsX8_isPiece := goodIn_r _ [7] (by decide +kernel) (by decide +kernel)
set_option maxRecDepth 20000 in
theorem gX8_hand_X8_isPiece : GoodIn wsX8_hand (va_wsS RX8 52 yX8_isPiece wsX8_isPiece) := goodIn_app (goodIn_of _ (by decide +kernel)) ggX8_hand_X8_isPiece
theorem dX8_hand_0 : decode cX8_hand 0 = .ok (.iload_n 1, 1) := by decide +kernel
theorem dX8_hand_1 : decode cX8_hand 1 = .ok (.invokestatic 52, 3) := by decide +kernel
theorem dX8_hand_4 : decode cX8_hand 4 = .ok (.ifCond .eq 24, 3) := by decide +kernel
theorem dX8_hand_7 : decode cX8_hand 7 = .ok (.aload_n 0, 1) := by decide +kernel
theorem dX8_hand_8 : decode cX8_hand 8 = .ok (.getfield 9, 3) := by decide +kernel
theorem dX8_hand_11 : decode cX8_hand 11 = .ok (.iload_n 1, 1) := by decide +kernel
theorem dX8_hand_12 : decode cX8_hand 12 = .ok (.iload_n 2, 1) := by decide +kernel
theorem dX8_hand_13 : decode cX8_hand 13 = .ok (.iastore, 1) := by decide +kernel
theorem dX8_hand_14 : decode cX8_hand 14 = .ok (.aload_n 0, 1) := by decide +kernel
theorem dX8_hand_15 : decode cX8_hand 15 = .ok (.getfield 15, 3) := by decide +kernel
theorem dX8_hand_18 : decode cX8_hand 18 = .ok (.iload_n 1, 1) := by decide +kernel
theorem dX8_hand_19 : decode cX8_hand 19 = .ok (.iload_n 3, 1) := by decide +kernel
theorem dX8_hand_20 : decode cX8_hand 20 = .ok (.bastore, 1) := by decide +kernel
theorem dX8_hand_21 : decode cX8_hand 21 = .ok (.aload_n 0, 1) := by decide +kernel
theorem dX8_hand_22 : decode cX8_hand 22 = .ok (.getfield 19, 3) := by decide +kernel
theorem dX8_hand_25 : decode cX8_hand 25 = .ok (.iload_n 1, 1) := by decide +kernel
theorem dX8_hand_26 : decode cX8_hand 26 = .ok (.iconst 0, 1) := by decide +kernel
theorem dX8_hand_27 : decode cX8_hand 27 = .ok (.iastore, 1) := by decide +kernel
theorem dX8_hand_28 : decode cX8_hand 28 = .ok (.return_, 1) := by decide +kernel
theorem dX8_isPiece_0 : decode cX8_isPiece 0 = .ok (.iload_n 0, 1) := by decide +kernel
theorem dX8_isPiece_1 : decode cX8_isPiece 1 = .ok (.ifCond .lt 13, 3) := by decide +kernel
theorem dX8_isPiece_4 : decode cX8_isPiece 4 = .ok (.iload_n 0, 1) := by decide +kernel
theorem dX8_isPiece_5 : decode cX8_isPiece 5 = .ok (.bipush 6, 2) := by decide +kernel
theorem dX8_isPiece_7 : decode cX8_isPiece 7 = .ok (.if_icmp .ge 7, 3) := by decide +kernel
theorem dX8_isPiece_10 : decode cX8_isPiece 10 = .ok (.iconst 1, 1) := by decide +kernel
theorem dX8_isPiece_11 : decode cX8_isPiece 11 = .ok (.goto 4, 3) := by decide +kernel
theorem dX8_isPiece_14 : decode cX8_isPiece 14 = .ok (.iconst 0, 1) := by decide +kernel
theorem dX8_isPiece_15 : decode cX8_isPiece 15 = .ok (.ireturn, 1) := by decide +kernel
set_option maxRecDepth 20000 in
theorem ggX9_init_X9_hash : GoodIn wsX9_init wsX9_hash := goodIn_r _ [9, 10] (by decide +kernel) (by decide +kernel)
set_option maxRecDepth 20000 in
theorem gX9_init_X9_hash : GoodIn wsX9_init (va_wsS RX9 15 yX9_hash wsX9_hash) := goodIn_app (goodIn_of _ (by decide +kernel)) ggX9_init_X9_hash
theorem dX9_init_0 : decode cX9_init 0 = .ok (.aload_n 0, 1) := by decide +kernel
theorem dX9_init_1 : decode cX9_init 1 = .ok (.invokespecial 3, 3) := by decide +kernel
theorem dX9_init_4 : decode cX9_init 4 = .ok (.aload_n 0, 1) := by decide +kernel
theorem dX9_init_5 : decode cX9_init 5 = .ok (.bipush 16, 2) := by decide +kernel
theorem dX9_init_7 : decode cX9_init 7 = .ok (.newarray .int, 2) := by decide +kernel
theorem dX9_init_9 : decode cX9_init 9 = .ok (.putfield 9, 3) := by decide +kernel
theorem dX9_init_12 : decode cX9_init 12 = .ok (.iconst 0, 1) := by decide +kernel
theorem dX9_init_13 : decode cX9_init 13 = .ok (.istore_n 2, 1) := by decide +kernel
theorem dX9_init_14 : decode cX9_init 14 = .ok (.iload_n 2, 1) := by decide +kernel
theorem dX9_init_15 : decode cX9_init 15 = .ok (.bipush 6, 2) := by decide +kernel
theorem dX9_init_17 : decode cX9_init 17 = .ok (.if_icmp .ge 31, 3) := by decide +kernel
theorem dX9_init_20 : decode cX9_init 20 = .ok (.iload_n 2, 1) := by decide +kernel
theorem dX9_init_21 : decode cX9_init 21 = .ok (.aload_n 1, 1) := by decide +kernel
theorem dX9_init_22 : decode cX9_init 22 = .ok (.arraylength, 1) := by decide +kernel
theorem dX9_init_23 : decode cX9_init 23 = .ok (.if_icmp .ge 25, 3) := by decide +kernel
theorem dX9_init_26 : decode cX9_init 26 = .ok (.aload_n 0, 1) := by decide +kernel
theorem dX9_init_27 : decode cX9_init 27 = .ok (.getfield 9, 3) := by decide +kernel
theorem dX9_init_30 : decode cX9_init 30 = .ok (.bipush 8, 2) := by decide +kernel
theorem dX9_init_32 : decode cX9_init 32 = .ok (.iload_n 2, 1) := by decide +kernel
theorem dX9_init_33 : decode cX9_init 33 = .ok (.iadd, 1) := by decide +kernel
theorem dX9_init_34 : decode cX9_init 34 = .ok (.aload_n 1, 1) := by decide +kernel
theorem dX9_init_35 : decode cX9_init 35 = .ok (.iload_n 2, 1) := by decide +kernel
theorem dX9_init_36 : decode cX9_init 36 = .ok (.iaload, 1) := by decide +kernel
theorem dX9_init_37 : decode cX9_init 37 = .ok (.iload_n 2, 1) := by decide +kernel
theorem dX9_init_38 : decode cX9_init 38 = .ok (.invokestatic 15, 3) := by decide +kernel
theorem dX9_init_41 : decode cX9_init 41 = .ok (.iastore, 1) := by decide +kernel
theorem dX9_init_42 : decode cX9_init 42 = .ok (.iinc 2 1, 3) := by decide +kernel
theorem dX9_init_45 : decode cX9_init 45 = .ok (.goto (-31), 3) := by decide +kernel
theorem dX9_init_48 : decode cX9_init 48 = .ok (.bipush 7, 2) := by decide +kernel
theorem dX9_init_50 : decode cX9_init 50 = .ok (.istore_n 2, 1) := by decide +kernel
theorem dX9_init_51 : decode cX9_init 51 = .ok (.iload_n 2, 1) := by decide +kernel
theorem dX9_init_52 : decode cX9_init 52 = .ok (.ifCond .le 36, 3) := by decide +kernel
theorem dX9_init_55 : decode cX9_init 55 = .ok (.aload_n 0, 1) := by decide +kernel
theorem dX9_init_56 : decode cX9_init 56 = .ok (.getfield 9, 3) := by decide +kernel
theorem dX9_init_59 : decode cX9_init 59 = .ok (.iload_n 2, 1) := by decide +kernel
theorem dX9_init_60 : decode cX9_init 60 = .ok (.aload_n 0, 1) := by decide +kernel
theorem dX9_init_61 : decode cX9_init 61 = .ok (.getfield 9, 3) := by decide +kernel
theorem dX9_init_64 : decode cX9_init 64 = .ok (.iconst 2, 1) := by decide +kernel
theorem dX9_init_65 : decode cX9_init 65 = .ok (.iload_n 2, 1) := by decide +kernel
theorem dX9_init_66 : decode cX9_init 66 = .ok (.imul, 1) := by decide +kernel
theorem dX9_init_67 : decode cX9_init 67 = .ok (.iaload, 1) := by decide +kernel
theorem dX9_init_68 : decode cX9_init 68 = .ok (.aload_n 0, 1) := by decide +kernel
theorem dX9_init_69 : decode cX9_init 69 = .ok (.getfield 9, 3) := by decide +kernel
theorem dX9_init_72 : decode cX9_init 72 = .ok (.iconst 2, 1) := by decide +kernel
theorem dX9_init_73 : decode cX9_init 73 = .ok (.iload_n 2, 1) := by decide +kernel
theorem dX9_init_74 : decode cX9_init 74 = .ok (.imul, 1) := by decide +kernel
theorem dX9_init_75 : decode cX9_init 75 = .ok (.iconst 1, 1) := by decide +kernel
theorem dX9_init_76 : decode cX9_init 76 = .ok (.iadd, 1) := by decide +kernel
theorem dX9_init_77 : decode cX9_init 77 = .ok (.iaload, 1) := by decide +kernel
theorem dX9_init_78 : decode cX9_init 78 = .ok (.invokestatic 15, 3) := by decide +kernel
theorem dX9_init_81 : decode cX9_init 81 = .ok (.iastore, 1) := by decide +kernel
theorem dX9_init_82 : decode cX9_init 82 = .ok (.iinc 2 (-1), 3) := by decide +kernel
theorem dX9_init_85 : decode cX9_init 85 = .ok (.goto (-34), 3) := by decide +kernel
theorem dX9_init_88 : decode cX9_init 88 = .ok (.return_, 1) := by decide +kernel
theorem dX9_hash_0 : decode cX9_hash 0 = .ok (.iload_n 0, 1) := by decide +kernel
theorem dX9_hash_1 : decode cX9_hash 1 = .ok (.bipush 31, 2) := by decide +kernel
theorem dX9_hash_3 : decode cX9_hash 3 = .ok (.imul, 1) := by decide +kernel
theorem dX9_hash_4 : decode cX9_hash 4 = .ok (.iload_n 1, 1) := by decide +kernel
theorem dX9_hash_5 : decode cX9_hash 5 = .ok (.iadd, 1) := by decide +kernel
theorem dX9_hash_6 : decode cX9_hash 6 = .ok (.ldc 19, 2) := by decide +kernel
theorem dX9_hash_8 : decode cX9_hash 8 = .ok (.imul, 1) := by decide +kernel
theorem dX9_hash_9 : decode cX9_hash 9 = .ok (.sipush 12345, 3) := by decide +kernel
theorem dX9_hash_12 : decode cX9_hash 12 = .ok (.iadd, 1) := by decide +kernel
theorem dX9_hash_13 : decode cX9_hash 13 = .ok (.istore_n 2, 1) := by decide +kernel
theorem dX9_hash_14 : decode cX9_hash 14 = .ok (.iload_n 2, 1) := by decide +kernel
theorem dX9_hash_15 : decode cX9_hash 15 = .ok (.iload_n 2, 1) := by decide +kernel
theorem dX9_hash_16 : decode cX9_hash 16 = .ok (.bipush 16, 2) := by decide +kernel
theorem dX9_hash_18 : decode cX9_hash 18 = .ok (.iushr, 1) := by decide +kernel
theorem dX9_hash_19 : decode cX9_hash 19 = .ok (.ixor, 1) := by decide +kernel
theorem dX9_hash_20 : decode cX9_hash 20 = .ok (.ireturn, 1) := by decide +kernel
set_option maxRecDepth 20000 in
theorem ggX9_climb_X9_hash : GoodIn wsX9_climb wsX9_hash := goodIn_r _ [4, 5] (by decide +kernel) (by decide +kernel)
set_option maxRecDepth 20000 in
theorem gX9_climb_X9_hash : GoodIn wsX9_climb (va_wsS RX9 15 yX9_hash wsX9_hash) := goodIn_app (goodIn_of _ (by decide +kernel)) ggX9_climb_X9_hash
set_option maxRecDepth 20000 in
theorem ggX9_climb_X9_above : GoodIn wsX9_climb wsX9_above := goodIn_r _ [8, 1, 2, 3, 4, 5] (by decide +kernel) (by decide +kernel)
set_option maxRecDepth 20000 in
theorem gX9_climb_X9_above : GoodIn wsX9_climb (va_wsS RX9 20 yX9_above wsX9_above) := goodIn_app (goodIn_of _ (by decide +kernel)) ggX9_climb_X9_above
theorem dX9_climb_0 : decode cX9_climb 0 = .ok (.bipush 8, 2) := by decide +kernel
theorem dX9_climb_2 : decode cX9_climb 2 = .ok (.iload_n 0, 1) := by decide +kernel
theorem dX9_climb_3 : decode cX9_climb 3 = .ok (.iadd, 1) := by decide +kernel
theorem dX9_climb_4 : decode cX9_climb 4 = .ok (.istore 5, 2) := by decide +kernel
theorem dX9_climb_6 : decode cX9_climb 6 = .ok (.iload 5, 2) := by decide +kernel
theorem dX9_climb_8 : decode cX9_climb 8 = .ok (.iload_n 1, 1) := by decide +kernel
theorem dX9_climb_9 : decode cX9_climb 9 = .ok (.iload_n 0, 1) := by decide +kernel
theorem dX9_climb_10 : decode cX9_climb 10 = .ok (.invokestatic 15, 3) := by decide +kernel
theorem dX9_climb_13 : decode cX9_climb 13 = .ok (.iload_n 2, 1) := by decide +kernel
theorem dX9_climb_14 : decode cX9_climb 14 = .ok (.invokestatic 20, 3) := by decide +kernel
theorem dX9_climb_17 : decode cX9_climb 17 = .ok (.istore 6, 2) := by decide +kernel
theorem dX9_climb_19 : decode cX9_climb 19 = .ok (.iload 5, 2) := by decide +kernel
theorem dX9_climb_21 : decode cX9_climb 21 = .ok (.iconst 1, 1) := by decide +kernel
theorem dX9_climb_22 : decode cX9_climb 22 = .ok (.ishr, 1) := by decide +kernel
theorem dX9_climb_23 : decode cX9_climb 23 = .ok (.iload 6, 2) := by decide +kernel
theorem dX9_climb_25 : decode cX9_climb 25 = .ok (.iload_n 3, 1) := by decide +kernel
theorem dX9_climb_26 : decode cX9_climb 26 = .ok (.invokestatic 20, 3) := by decide +kernel
theorem dX9_climb_29 : decode cX9_climb 29 = .ok (.istore 7, 2) := by decide +kernel
theorem dX9_climb_31 : decode cX9_climb 31 = .ok (.iload 5, 2) := by decide +kernel
theorem dX9_climb_33 : decode cX9_climb 33 = .ok (.iconst 2, 1) := by decide +kernel
theorem dX9_climb_34 : decode cX9_climb 34 = .ok (.ishr, 1) := by decide +kernel
theorem dX9_climb_35 : decode cX9_climb 35 = .ok (.iload 7, 2) := by decide +kernel
theorem dX9_climb_37 : decode cX9_climb 37 = .ok (.iload 4, 2) := by decide +kernel
theorem dX9_climb_39 : decode cX9_climb 39 = .ok (.invokestatic 20, 3) := by decide +kernel
theorem dX9_climb_42 : decode cX9_climb 42 = .ok (.ireturn, 1) := by decide +kernel
set_option maxRecDepth 20000 in
theorem ggX9_above_X9_hash : GoodIn wsX9_above wsX9_hash := goodIn_r _ [4, 5] (by decide +kernel) (by decide +kernel)
set_option maxRecDepth 20000 in
theorem gX9_above_X9_hash : GoodIn wsX9_above (va_wsS RX9 15 yX9_hash wsX9_hash) := goodIn_app (goodIn_of _ (by decide +kernel)) ggX9_above_X9_hash
theorem dX9_above_0 : decode cX9_above 0 = .ok (.iload_n 0, 1) := by decide +kernel
theorem dX9_above_1 : decode cX9_above 1 = .ok (.iconst 2, 1) := by decide +kernel
theorem dX9_above_2 : decode cX9_above 2 = .ok (.irem, 1) := by decide +kernel
theorem dX9_above_3 : decode cX9_above 3 = .ok (.ifCond .ne 11, 3) := by decide +kernel
theorem dX9_above_6 : decode cX9_above 6 = .ok (.iload_n 1, 1) := by decide +kernel
theorem dX9_above_7 : decode cX9_above 7 = .ok (.iload_n 2, 1) := by decide +kernel
theorem dX9_above_8 : decode cX9_above 8 = .ok (.invokestatic 15, 3) := by decide +kernel
theorem dX9_above_11 : decode cX9_above 11 = .ok (.goto 8, 3) := by decide +kernel
theorem dX9_above_14 : decode cX9_above 14 = .ok (.iload_n 2, 1) := by decide +kernel
theorem dX9_above_15 : decode cX9_above 15 = .ok (.iload_n 1, 1) := by decide +kernel
theorem dX9_above_16 : decode cX9_above 16 = .ok (.invokestatic 15, 3) := by decide +kernel
theorem dX9_above_19 : decode cX9_above 19 = .ok (.ireturn, 1) := by decide +kernel
theorem dX9_top_0 : decode cX9_top 0 = .ok (.aload_n 0, 1) := by decide +kernel
theorem dX9_top_1 : decode cX9_top 1 = .ok (.getfield 9, 3) := by decide +kernel
theorem dX9_top_4 : decode cX9_top 4 = .ok (.iconst 1, 1) := by decide +kernel
theorem dX9_top_5 : decode cX9_top 5 = .ok (.iaload, 1) := by decide +kernel
theorem dX9_top_6 : decode cX9_top 6 = .ok (.ireturn, 1) := by decide +kernel
theorem dX9_leaf_0 : decode cX9_leaf 0 = .ok (.iload_n 1, 1) := by decide +kernel
theorem dX9_leaf_1 : decode cX9_leaf 1 = .ok (.ifCond .lt 21, 3) := by decide +kernel
theorem dX9_leaf_4 : decode cX9_leaf 4 = .ok (.iload_n 1, 1) := by decide +kernel
theorem dX9_leaf_5 : decode cX9_leaf 5 = .ok (.bipush 6, 2) := by decide +kernel
theorem dX9_leaf_7 : decode cX9_leaf 7 = .ok (.if_icmp .ge 15, 3) := by decide +kernel
theorem dX9_leaf_10 : decode cX9_leaf 10 = .ok (.aload_n 0, 1) := by decide +kernel
theorem dX9_leaf_11 : decode cX9_leaf 11 = .ok (.getfield 9, 3) := by decide +kernel
theorem dX9_leaf_14 : decode cX9_leaf 14 = .ok (.bipush 8, 2) := by decide +kernel
theorem dX9_leaf_16 : decode cX9_leaf 16 = .ok (.iload_n 1, 1) := by decide +kernel
theorem dX9_leaf_17 : decode cX9_leaf 17 = .ok (.iadd, 1) := by decide +kernel
theorem dX9_leaf_18 : decode cX9_leaf 18 = .ok (.iaload, 1) := by decide +kernel
theorem dX9_leaf_19 : decode cX9_leaf 19 = .ok (.goto 4, 3) := by decide +kernel
theorem dX9_leaf_22 : decode cX9_leaf 22 = .ok (.iconst 0, 1) := by decide +kernel
theorem dX9_leaf_23 : decode cX9_leaf 23 = .ok (.ireturn, 1) := by decide +kernel
theorem dX9_neighbour_0 : decode cX9_neighbour 0 = .ok (.iload_n 1, 1) := by decide +kernel
theorem dX9_neighbour_1 : decode cX9_neighbour 1 = .ok (.ifCond .lt 18, 3) := by decide +kernel
theorem dX9_neighbour_4 : decode cX9_neighbour 4 = .ok (.iload_n 1, 1) := by decide +kernel
theorem dX9_neighbour_5 : decode cX9_neighbour 5 = .ok (.bipush 6, 2) := by decide +kernel
theorem dX9_neighbour_7 : decode cX9_neighbour 7 = .ok (.if_icmp .ge 12, 3) := by decide +kernel
theorem dX9_neighbour_10 : decode cX9_neighbour 10 = .ok (.iload_n 2, 1) := by decide +kernel
theorem dX9_neighbour_11 : decode cX9_neighbour 11 = .ok (.ifCond .lt 8, 3) := by decide +kernel
theorem dX9_neighbour_14 : decode cX9_neighbour 14 = .ok (.iload_n 2, 1) := by decide +kernel
theorem dX9_neighbour_15 : decode cX9_neighbour 15 = .ok (.iconst 3, 1) := by decide +kernel
theorem dX9_neighbour_16 : decode cX9_neighbour 16 = .ok (.if_icmp .lt 5, 3) := by decide +kernel
theorem dX9_neighbour_19 : decode cX9_neighbour 19 = .ok (.iconst 0, 1) := by decide +kernel
theorem dX9_neighbour_20 : decode cX9_neighbour 20 = .ok (.ireturn, 1) := by decide +kernel
theorem dX9_neighbour_21 : decode cX9_neighbour 21 = .ok (.aload_n 0, 1) := by decide +kernel
theorem dX9_neighbour_22 : decode cX9_neighbour 22 = .ok (.getfield 9, 3) := by decide +kernel
theorem dX9_neighbour_25 : decode cX9_neighbour 25 = .ok (.bipush 8, 2) := by decide +kernel
theorem dX9_neighbour_27 : decode cX9_neighbour 27 = .ok (.iload_n 1, 1) := by decide +kernel
theorem dX9_neighbour_28 : decode cX9_neighbour 28 = .ok (.iadd, 1) := by decide +kernel
theorem dX9_neighbour_29 : decode cX9_neighbour 29 = .ok (.iload_n 2, 1) := by decide +kernel
theorem dX9_neighbour_30 : decode cX9_neighbour 30 = .ok (.ishr, 1) := by decide +kernel
theorem dX9_neighbour_31 : decode cX9_neighbour 31 = .ok (.iconst 1, 1) := by decide +kernel
theorem dX9_neighbour_32 : decode cX9_neighbour 32 = .ok (.ixor, 1) := by decide +kernel
theorem dX9_neighbour_33 : decode cX9_neighbour 33 = .ok (.iaload, 1) := by decide +kernel
theorem dX9_neighbour_34 : decode cX9_neighbour 34 = .ok (.ireturn, 1) := by decide +kernel
set_option maxRecDepth 20000 in
theorem ggX10_init_X5_init : GoodIn wsX10_init wsX5_init := goodIn_r _ [35, 36, 2, 3, 37, 38, 39, 40, 41, 42, 43, 85, 86, 87, 88, 89] (by decide +kernel) (by decide +kernel)
set_option maxRecDepth 20000 in
theorem gX10_init_X5_init_n11 : GoodIn wsX10_init (wsX5_init) := ggX10_init_X5_init
set_option maxRecDepth 20000 in
theorem ggX10_init_X7_init : GoodIn wsX10_init wsX7_init := goodIn_r _ [46, 47, 2, 3, 48, 17, 18, 49, 50, 51, 52, 40, 53, 54, 55, 56, 57, 37, 58, 59, 108, 109, 110, 90, 91, 92, 93, 94, 95, 96] (by decide +kernel) (by decide +kernel)
set_option maxRecDepth 20000 in
theorem gX10_init_X7_init : GoodIn wsX10_init (wsX7_init) := ggX10_init_X7_init
set_option maxRecDepth 20000 in
theorem ggX10_init_X2_init : GoodIn wsX10_init wsX2_init := goodIn_r _ [61, 62, 2, 3, 63, 37, 64, 97] (by decide +kernel) (by decide +kernel)
set_option maxRecDepth 20000 in
theorem gX10_init_X2_init_n19 : GoodIn wsX10_init (wsX2_init) := ggX10_init_X2_init
set_option maxRecDepth 20000 in
theorem ggX10_init_X6_init : GoodIn wsX10_init wsX6_init := goodIn_r _ [56, 57, 2, 3, 37, 58, 59, 108, 109, 110] (by decide +kernel) (by decide +kernel)
set_option maxRecDepth 20000 in
theorem gX10_init_X6_init_n34 : GoodIn wsX10_init (wsX6_init) := ggX10_init_X6_init
set_option maxRecDepth 20000 in
theorem ggX10_init_X1_init : GoodIn wsX10_init wsX1_init := goodIn_r _ [67, 68, 2, 3, 69, 70, 71, 111, 112, 113] (by decide +kernel) (by decide +kernel)
set_option maxRecDepth 20000 in
theorem gX10_init_X1_init : GoodIn wsX10_init (wsX1_init) := ggX10_init_X1_init
set_option maxRecDepth 20000 in
theorem ggX10_init_X4_init : GoodIn wsX10_init wsX4_init := goodIn_r _ [74, 75, 2, 3, 37, 76, 77, 78, 114, 115] (by decide +kernel) (by decide +kernel)
set_option maxRecDepth 20000 in
theorem gX10_init_X4_init : GoodIn wsX10_init (wsX4_init) := ggX10_init_X4_init
set_option maxRecDepth 20000 in
theorem ggX10_init_X3_init : GoodIn wsX10_init wsX3_init := goodIn_r _ [81, 82, 2, 3, 37, 83, 84, 116, 117, 118] (by decide +kernel) (by decide +kernel)
set_option maxRecDepth 20000 in
theorem gX10_init_X3_init : GoodIn wsX10_init (wsX3_init) := ggX10_init_X3_init
theorem dX10_init_0 : decode cX10_init 0 = .ok (.aload_n 0, 1) := by decide +kernel
theorem dX10_init_1 : decode cX10_init 1 = .ok (.invokespecial 3, 3) := by decide +kernel
theorem dX10_init_4 : decode cX10_init 4 = .ok (.new 9, 3) := by decide +kernel
theorem dX10_init_7 : decode cX10_init 7 = .ok (.dup, 1) := by decide +kernel
theorem dX10_init_8 : decode cX10_init 8 = .ok (.invokespecial 11, 3) := by decide +kernel
theorem dX10_init_11 : decode cX10_init 11 = .ok (.astore_n 1, 1) := by decide +kernel
theorem dX10_init_12 : decode cX10_init 12 = .ok (.new 12, 3) := by decide +kernel
theorem dX10_init_15 : decode cX10_init 15 = .ok (.dup, 1) := by decide +kernel
theorem dX10_init_16 : decode cX10_init 16 = .ok (.aload_n 1, 1) := by decide +kernel
theorem dX10_init_17 : decode cX10_init 17 = .ok (.invokespecial 14, 3) := by decide +kernel
theorem dX10_init_20 : decode cX10_init 20 = .ok (.astore_n 2, 1) := by decide +kernel
theorem dX10_init_21 : decode cX10_init 21 = .ok (.new 17, 3) := by decide +kernel
theorem dX10_init_24 : decode cX10_init 24 = .ok (.dup, 1) := by decide +kernel
theorem dX10_init_25 : decode cX10_init 25 = .ok (.invokespecial 19, 3) := by decide +kernel
theorem dX10_init_28 : decode cX10_init 28 = .ok (.astore_n 3, 1) := by decide +kernel
theorem dX10_init_29 : decode cX10_init 29 = .ok (.aload_n 0, 1) := by decide +kernel
theorem dX10_init_30 : decode cX10_init 30 = .ok (.aload_n 1, 1) := by decide +kernel
theorem dX10_init_31 : decode cX10_init 31 = .ok (.putfield 20, 3) := by decide +kernel
theorem dX10_init_34 : decode cX10_init 34 = .ok (.aload_n 0, 1) := by decide +kernel
theorem dX10_init_35 : decode cX10_init 35 = .ok (.aload_n 2, 1) := by decide +kernel
theorem dX10_init_36 : decode cX10_init 36 = .ok (.putfield 24, 3) := by decide +kernel
theorem dX10_init_39 : decode cX10_init 39 = .ok (.aload_n 0, 1) := by decide +kernel
theorem dX10_init_40 : decode cX10_init 40 = .ok (.aload_n 3, 1) := by decide +kernel
theorem dX10_init_41 : decode cX10_init 41 = .ok (.putfield 28, 3) := by decide +kernel
theorem dX10_init_44 : decode cX10_init 44 = .ok (.aload_n 0, 1) := by decide +kernel
theorem dX10_init_45 : decode cX10_init 45 = .ok (.new 32, 3) := by decide +kernel
theorem dX10_init_48 : decode cX10_init 48 = .ok (.dup, 1) := by decide +kernel
theorem dX10_init_49 : decode cX10_init 49 = .ok (.invokespecial 34, 3) := by decide +kernel
theorem dX10_init_52 : decode cX10_init 52 = .ok (.putfield 35, 3) := by decide +kernel
theorem dX10_init_55 : decode cX10_init 55 = .ok (.aload_n 0, 1) := by decide +kernel
theorem dX10_init_56 : decode cX10_init 56 = .ok (.bipush 12, 2) := by decide +kernel
theorem dX10_init_58 : decode cX10_init 58 = .ok (.anewarray 39, 3) := by decide +kernel
theorem dX10_init_61 : decode cX10_init 61 = .ok (.putfield 41, 3) := by decide +kernel
theorem dX10_init_64 : decode cX10_init 64 = .ok (.aload_n 0, 1) := by decide +kernel
theorem dX10_init_65 : decode cX10_init 65 = .ok (.new 45, 3) := by decide +kernel
theorem dX10_init_68 : decode cX10_init 68 = .ok (.dup, 1) := by decide +kernel
theorem dX10_init_69 : decode cX10_init 69 = .ok (.aload_n 1, 1) := by decide +kernel
theorem dX10_init_70 : decode cX10_init 70 = .ok (.aload_n 2, 1) := by decide +kernel
theorem dX10_init_71 : decode cX10_init 71 = .ok (.aload_n 3, 1) := by decide +kernel
theorem dX10_init_72 : decode cX10_init 72 = .ok (.invokespecial 47, 3) := by decide +kernel
theorem dX10_init_75 : decode cX10_init 75 = .ok (.putfield 50, 3) := by decide +kernel
theorem dX10_init_78 : decode cX10_init 78 = .ok (.aload_n 0, 1) := by decide +kernel
theorem dX10_init_79 : decode cX10_init 79 = .ok (.new 54, 3) := by decide +kernel
theorem dX10_init_82 : decode cX10_init 82 = .ok (.dup, 1) := by decide +kernel
theorem dX10_init_83 : decode cX10_init 83 = .ok (.invokespecial 56, 3) := by decide +kernel
theorem dX10_init_86 : decode cX10_init 86 = .ok (.putfield 57, 3) := by decide +kernel
theorem dX10_init_89 : decode cX10_init 89 = .ok (.aload_n 0, 1) := by decide +kernel
theorem dX10_init_90 : decode cX10_init 90 = .ok (.new 61, 3) := by decide +kernel
theorem dX10_init_93 : decode cX10_init 93 = .ok (.dup, 1) := by decide +kernel
theorem dX10_init_94 : decode cX10_init 94 = .ok (.aload_n 1, 1) := by decide +kernel
theorem dX10_init_95 : decode cX10_init 95 = .ok (.invokespecial 63, 3) := by decide +kernel
theorem dX10_init_98 : decode cX10_init 98 = .ok (.putfield 64, 3) := by decide +kernel
theorem dX10_init_101 : decode cX10_init 101 = .ok (.return_, 1) := by decide +kernel
set_option maxRecDepth 20000 in
theorem ggX10_peer_X10_needBelow : GoodIn wsX10_peer wsX10_needBelow := goodIn_ca (goodIn_r _ [8, 9, 10] (by decide +kernel) (by decide +kernel)) (goodIn_sub (fun _ h => List.mem_cons_of_mem _ (List.mem_append_left _ (List.mem_append_right _ h))) (by decide +kernel))
set_option maxRecDepth 20000 in
theorem gX10_peer_X10_needBelow : GoodIn wsX10_peer (va_wsS RX10 68 yX10_needBelow wsX10_needBelow) := goodIn_app (goodIn_of _ (by decide +kernel)) ggX10_peer_X10_needBelow
set_option maxRecDepth 20000 in
theorem ggX10_peer_X10_needPeer : GoodIn wsX10_peer wsX10_needPeer := goodIn_ca (goodIn_r _ [14, 15, 16, 3, 17, 18, 19, 20, 21, 22, 119, 120, 121, 122, 123, 124, 125, 126, 127, 128, 129, 130, 131, 132, 133] (by decide +kernel) (by decide +kernel)) (goodIn_sub (fun _ h => List.mem_cons_of_mem _ (List.mem_append_right _ h)) (by decide +kernel))
set_option maxRecDepth 20000 in
theorem gX10_peer_X10_needPeer : GoodIn wsX10_peer (wsV RX10 72 RX10 yX10_needPeer wsX10_needPeer) := goodIn_app (goodIn_of _ (by decide +kernel)) ggX10_peer_X10_needPeer
set_option maxRecDepth 20000 in
theorem ggX10_peer_X5_isFull : GoodIn wsX10_peer wsX5_isFull := goodIn_r _ [26, 22, 129, 130, 131, 132, 133] (by decide +kernel) (by decide +kernel)
set_option maxRecDepth 20000 in
theorem gX10_peer_X5_isFull : GoodIn wsX10_peer (wsV RX10 76 RX5 yX5_isFull wsX5_isFull) := goodIn_app (goodIn_of _ (by decide +kernel)) ggX10_peer_X5_isFull
set_option maxRecDepth 20000 in
theorem ggX10_peer_X5_hasId : GoodIn wsX10_peer wsX5_hasId := goodIn_r _ [30, 22, 31, 129, 130, 131, 132, 133] (by decide +kernel) (by decide +kernel)
set_option maxRecDepth 20000 in
theorem gX10_peer_X5_hasId : GoodIn wsX10_peer (wsV RX10 80 RX5 yX5_hasId wsX5_hasId) := goodIn_app (goodIn_of _ (by decide +kernel)) ggX10_peer_X5_hasId
set_option maxRecDepth 20000 in
theorem ggX10_peer_X10_needOnline : GoodIn wsX10_peer wsX10_needOnline := goodIn_ca (goodIn_r _ [35, 1, 2, 3, 36, 37, 38, 20, 39, 40, 41, 18, 19, 21, 22, 119, 120, 121, 122, 123, 124, 125, 126, 127, 128, 129, 130, 131, 132, 133] (by decide +kernel) (by decide +kernel)) (goodIn_sub (fun _ h => List.mem_cons_of_mem _ (List.mem_append_left _ (List.mem_append_left _ (List.mem_append_right _ h)))) (by decide +kernel))
set_option maxRecDepth 20000 in
theorem gX10_peer_X10_needOnline : GoodIn wsX10_peer (wsV RX10 91 RX10 yX10_needOnline wsX10_needOnline) := goodIn_app (goodIn_of _ (by decide +kernel)) ggX10_peer_X10_needOnline
set_option maxRecDepth 20000 in
theorem ggX10_peer_X5_add : GoodIn wsX10_peer wsX5_add := goodIn_r _ [45, 22, 31, 46, 40, 47, 129, 130, 131, 132, 133] (by decide +kernel) (by decide +kernel)
set_option maxRecDepth 20000 in
theorem gX10_peer_X5_add : GoodIn wsX10_peer (wsV RX10 94 RX5 yX5_add wsX5_add) := goodIn_app (goodIn_of _ (by decide +kernel)) ggX10_peer_X5_add
set_option maxRecDepth 20000 in
theorem ggX10_peer_X5_hear : GoodIn wsX10_peer wsX5_hear := goodIn_r _ [51, 47, 31, 40, 41, 18, 19, 20, 21, 22, 52, 53, 54, 129, 130, 131, 132, 133] (by decide +kernel) (by decide +kernel)
set_option maxRecDepth 20000 in
theorem gX10_peer_X5_hear : GoodIn wsX10_peer (wsV RX10 98 RX5 yX5_hear wsX5_hear) := goodIn_app (goodIn_of _ (by decide +kernel)) ggX10_peer_X5_hear
set_option maxRecDepth 20000 in
theorem ggX10_peer_X7_run : GoodIn wsX10_peer wsX7_run := goodIn_r _ [59, 60, 61, 62, 63, 64, 65, 58, 66, 67, 68, 69, 70, 71, 72, 73, 74, 75, 76, 77, 78, 79, 20, 80, 47, 46, 31, 81, 41, 18, 19, 21, 22, 82, 83, 84, 85, 86, 87, 88, 89, 90, 91, 92, 93, 94, 95, 96, 97, 98, 99, 100, 101, 102, 103, 104, 105, 106, 107, 108, 109, 110, 111, 112, 113, 40, 114, 49, 50, 51, 52, 53, 54, 115, 116, 117, 118, 134, 135, 136, 137, 138, 139, 140, 141, 142, 143, 129, 130, 131, 132, 133] (by decide +kernel) (by decide +kernel)
set_option maxRecDepth 20000 in
theorem gX10_peer_X7_run : GoodIn wsX10_peer (wsV RX10 101 RX7 yX7_run wsX7_run) := goodIn_app (goodIn_of _ (by decide +kernel)) ggX10_peer_X7_run
theorem dX10_peer_0 : decode cX10_peer 0 = .ok (.iload_n 1, 1) := by decide +kernel
theorem dX10_peer_1 : decode cX10_peer 1 = .ok (.sipush 256, 3) := by decide +kernel
theorem dX10_peer_4 : decode cX10_peer 4 = .ok (.invokestatic 68, 3) := by decide +kernel
theorem dX10_peer_7 : decode cX10_peer 7 = .ok (.iload_n 2, 1) := by decide +kernel
theorem dX10_peer_8 : decode cX10_peer 8 = .ok (.iconst 3, 1) := by decide +kernel
theorem dX10_peer_9 : decode cX10_peer 9 = .ok (.invokestatic 68, 3) := by decide +kernel
theorem dX10_peer_12 : decode cX10_peer 12 = .ok (.iload_n 3, 1) := by decide +kernel
theorem dX10_peer_13 : decode cX10_peer 13 = .ok (.iconst (-1), 1) := by decide +kernel
theorem dX10_peer_14 : decode cX10_peer 14 = .ok (.if_icmp .eq 8, 3) := by decide +kernel
theorem dX10_peer_17 : decode cX10_peer 17 = .ok (.aload_n 0, 1) := by decide +kernel
theorem dX10_peer_18 : decode cX10_peer 18 = .ok (.iload_n 3, 1) := by decide +kernel
theorem dX10_peer_19 : decode cX10_peer 19 = .ok (.invokevirtual 72, 3) := by decide +kernel
theorem dX10_peer_22 : decode cX10_peer 22 = .ok (.aload_n 0, 1) := by decide +kernel
theorem dX10_peer_23 : decode cX10_peer 23 = .ok (.getfield 20, 3) := by decide +kernel
theorem dX10_peer_26 : decode cX10_peer 26 = .ok (.invokevirtual 76, 3) := by decide +kernel
theorem dX10_peer_29 : decode cX10_peer 29 = .ok (.ifCond .ne 14, 3) := by decide +kernel
theorem dX10_peer_32 : decode cX10_peer 32 = .ok (.aload_n 0, 1) := by decide +kernel
theorem dX10_peer_33 : decode cX10_peer 33 = .ok (.getfield 20, 3) := by decide +kernel
theorem dX10_peer_36 : decode cX10_peer 36 = .ok (.iload_n 1, 1) := by decide +kernel
theorem dX10_peer_37 : decode cX10_peer 37 = .ok (.invokevirtual 80, 3) := by decide +kernel
theorem dX10_peer_40 : decode cX10_peer 40 = .ok (.ifCond .eq 13, 3) := by decide +kernel
theorem dX10_peer_43 : decode cX10_peer 43 = .ok (.new 84, 3) := by decide +kernel
theorem dX10_peer_46 : decode cX10_peer 46 = .ok (.dup, 1) := by decide +kernel
theorem dX10_peer_47 : decode cX10_peer 47 = .ok (.ldc 86, 2) := by decide +kernel
theorem dX10_peer_49 : decode cX10_peer 49 = .ok (.invokespecial 88, 3) := by decide +kernel
theorem dX10_peer_52 : decode cX10_peer 52 = .ok (.athrow, 1) := by decide +kernel
theorem dX10_peer_53 : decode cX10_peer 53 = .ok (.iload_n 3, 1) := by decide +kernel
theorem dX10_peer_54 : decode cX10_peer 54 = .ok (.iconst (-1), 1) := by decide +kernel
theorem dX10_peer_55 : decode cX10_peer 55 = .ok (.if_icmp .eq 8, 3) := by decide +kernel
theorem dX10_peer_58 : decode cX10_peer 58 = .ok (.aload_n 0, 1) := by decide +kernel
theorem dX10_peer_59 : decode cX10_peer 59 = .ok (.iload_n 3, 1) := by decide +kernel
theorem dX10_peer_60 : decode cX10_peer 60 = .ok (.invokevirtual 91, 3) := by decide +kernel
theorem dX10_peer_63 : decode cX10_peer 63 = .ok (.aload_n 0, 1) := by decide +kernel
theorem dX10_peer_64 : decode cX10_peer 64 = .ok (.getfield 20, 3) := by decide +kernel
theorem dX10_peer_67 : decode cX10_peer 67 = .ok (.iload_n 1, 1) := by decide +kernel
theorem dX10_peer_68 : decode cX10_peer 68 = .ok (.iload_n 2, 1) := by decide +kernel
theorem dX10_peer_69 : decode cX10_peer 69 = .ok (.invokevirtual 94, 3) := by decide +kernel
theorem dX10_peer_72 : decode cX10_peer 72 = .ok (.istore 4, 2) := by decide +kernel
theorem dX10_peer_74 : decode cX10_peer 74 = .ok (.iload_n 3, 1) := by decide +kernel
theorem dX10_peer_75 : decode cX10_peer 75 = .ok (.iconst (-1), 1) := by decide +kernel
theorem dX10_peer_76 : decode cX10_peer 76 = .ok (.if_icmp .eq 34, 3) := by decide +kernel
theorem dX10_peer_79 : decode cX10_peer 79 = .ok (.aload_n 0, 1) := by decide +kernel
theorem dX10_peer_80 : decode cX10_peer 80 = .ok (.getfield 20, 3) := by decide +kernel
theorem dX10_peer_83 : decode cX10_peer 83 = .ok (.iload_n 3, 1) := by decide +kernel
theorem dX10_peer_84 : decode cX10_peer 84 = .ok (.iload 4, 2) := by decide +kernel
theorem dX10_peer_86 : decode cX10_peer 86 = .ok (.invokevirtual 98, 3) := by decide +kernel
theorem dX10_peer_89 : decode cX10_peer 89 = .ok (.aload_n 0, 1) := by decide +kernel
theorem dX10_peer_90 : decode cX10_peer 90 = .ok (.getfield 20, 3) := by decide +kernel
theorem dX10_peer_93 : decode cX10_peer 93 = .ok (.iload 4, 2) := by decide +kernel
theorem dX10_peer_95 : decode cX10_peer 95 = .ok (.iload_n 3, 1) := by decide +kernel
theorem dX10_peer_96 : decode cX10_peer 96 = .ok (.invokevirtual 98, 3) := by decide +kernel
theorem dX10_peer_99 : decode cX10_peer 99 = .ok (.aload_n 0, 1) := by decide +kernel
theorem dX10_peer_100 : decode cX10_peer 100 = .ok (.getfield 24, 3) := by decide +kernel
theorem dX10_peer_103 : decode cX10_peer 103 = .ok (.iload 4, 2) := by decide +kernel
theorem dX10_peer_105 : decode cX10_peer 105 = .ok (.iload_n 1, 1) := by decide +kernel
theorem dX10_peer_106 : decode cX10_peer 106 = .ok (.iconst 1, 1) := by decide +kernel
theorem dX10_peer_107 : decode cX10_peer 107 = .ok (.invokevirtual 101, 3) := by decide +kernel
theorem dX10_peer_110 : decode cX10_peer 110 = .ok (.iload 4, 2) := by decide +kernel
theorem dX10_peer_112 : decode cX10_peer 112 = .ok (.ireturn, 1) := by decide +kernel
set_option maxRecDepth 20000 in
theorem ggX10_turn_X10_needPeer : GoodIn wsX10_turn wsX10_needPeer := goodIn_ca (goodIn_r _ [6, 7, 8, 1, 9, 10, 11, 12, 13, 14, 25, 26, 27, 28, 29, 30, 31, 32, 33, 34, 35, 36, 37, 38, 39] (by decide +kernel) (by decide +kernel)) (goodIn_sub (fun _ h => List.mem_cons_of_mem _ (List.mem_append_right _ h)) (by decide +kernel))
set_option maxRecDepth 20000 in
theorem gX10_turn_X10_needPeer : GoodIn wsX10_turn (wsV RX10 72 RX10 yX10_needPeer wsX10_needPeer) := goodIn_app (goodIn_of _ (by decide +kernel)) ggX10_turn_X10_needPeer
set_option maxRecDepth 20000 in
theorem ggX10_turn_X5_isOnline : GoodIn wsX10_turn wsX5_isOnline := goodIn_r _ [18, 19, 20, 10, 11, 12, 13, 14, 35, 36, 37, 38, 39] (by decide +kernel) (by decide +kernel)
set_option maxRecDepth 20000 in
theorem gX10_turn_X5_isOnline : GoodIn wsX10_turn (wsV RX10 105 RX5 yX5_isOnline wsX5_isOnline) := goodIn_app (goodIn_of _ (by decide +kernel)) ggX10_turn_X5_isOnline
set_option maxRecDepth 20000 in
theorem ggX10_turn_X5_setOnline : GoodIn wsX10_turn wsX5_setOnline := goodIn_r _ [24, 19, 20, 10, 11, 12, 13, 14, 35, 36, 37, 38, 39] (by decide +kernel) (by decide +kernel)
set_option maxRecDepth 20000 in
theorem gX10_turn_X5_setOnline : GoodIn wsX10_turn (wsV RX10 108 RX5 yX5_setOnline wsX5_setOnline) := goodIn_app (goodIn_of _ (by decide +kernel)) ggX10_turn_X5_setOnline
theorem dX10_turn_0 : decode cX10_turn 0 = .ok (.aload_n 0, 1) := by decide +kernel
theorem dX10_turn_1 : decode cX10_turn 1 = .ok (.iload_n 1, 1) := by decide +kernel
theorem dX10_turn_2 : decode cX10_turn 2 = .ok (.invokevirtual 72, 3) := by decide +kernel
theorem dX10_turn_5 : decode cX10_turn 5 = .ok (.aload_n 0, 1) := by decide +kernel
theorem dX10_turn_6 : decode cX10_turn 6 = .ok (.getfield 20, 3) := by decide +kernel
theorem dX10_turn_9 : decode cX10_turn 9 = .ok (.iload_n 1, 1) := by decide +kernel
theorem dX10_turn_10 : decode cX10_turn 10 = .ok (.invokevirtual 105, 3) := by decide +kernel
theorem dX10_turn_13 : decode cX10_turn 13 = .ok (.istore_n 3, 1) := by decide +kernel
theorem dX10_turn_14 : decode cX10_turn 14 = .ok (.aload_n 0, 1) := by decide +kernel
theorem dX10_turn_15 : decode cX10_turn 15 = .ok (.getfield 20, 3) := by decide +kernel
theorem dX10_turn_18 : decode cX10_turn 18 = .ok (.iload_n 1, 1) := by decide +kernel
theorem dX10_turn_19 : decode cX10_turn 19 = .ok (.iload_n 2, 1) := by decide +kernel
theorem dX10_turn_20 : decode cX10_turn 20 = .ok (.invokevirtual 108, 3) := by decide +kernel
theorem dX10_turn_23 : decode cX10_turn 23 = .ok (.iload_n 3, 1) := by decide +kernel
theorem dX10_turn_24 : decode cX10_turn 24 = .ok (.ireturn, 1) := by decide +kernel
set_option maxRecDepth 20000 in
theorem ggX10_bucket_X10_needPeer : GoodIn wsX10_bucket wsX10_needPeer := goodIn_ca (goodIn_r _ [8, 1, 2, 3, 9, 10, 11, 12, 13, 14, 26, 27, 28, 29, 30, 31, 32, 33, 34, 35, 36, 37, 38, 39, 40] (by decide +kernel) (by decide +kernel)) (goodIn_sub (fun _ h => List.mem_cons_of_mem _ (List.mem_append_left _ (List.mem_append_right _ h))) (by decide +kernel))
set_option maxRecDepth 20000 in
theorem gX10_bucket_X10_needPeer : GoodIn wsX10_bucket (wsV RX10 72 RX10 yX10_needPeer wsX10_needPeer) := goodIn_app (goodIn_of _ (by decide +kernel)) ggX10_bucket_X10_needPeer
set_option maxRecDepth 20000 in
theorem ggX10_bucket_X10_needBelow : GoodIn wsX10_bucket wsX10_needBelow := goodIn_ca (goodIn_r _ [17, 18, 19] (by decide +kernel) (by decide +kernel)) (goodIn_sub (fun _ h => List.mem_cons_of_mem _ (List.mem_append_right _ h)) (by decide +kernel))
set_option maxRecDepth 20000 in
theorem gX10_bucket_X10_needBelow : GoodIn wsX10_bucket (va_wsS RX10 68 yX10_needBelow wsX10_needBelow) := goodIn_app (goodIn_of _ (by decide +kernel)) ggX10_bucket_X10_needBelow
set_option maxRecDepth 20000 in
theorem ggX10_bucket_X5_keptAt : GoodIn wsX10_bucket wsX5_keptAt := goodIn_r _ [23, 24, 25, 10, 11, 12, 13, 14, 36, 37, 38, 39, 40] (by decide +kernel) (by decide +kernel)
set_option maxRecDepth 20000 in
theorem gX10_bucket_X5_keptAt : GoodIn wsX10_bucket (wsV RX10 117 RX5 yX5_keptAt wsX5_keptAt) := goodIn_app (goodIn_of _ (by decide +kernel)) ggX10_bucket_X5_keptAt
theorem dX10_bucket_0 : decode cX10_bucket 0 = .ok (.aload_n 0, 1) := by decide +kernel
theorem dX10_bucket_1 : decode cX10_bucket 1 = .ok (.iload_n 1, 1) := by decide +kernel
theorem dX10_bucket_2 : decode cX10_bucket 2 = .ok (.invokevirtual 72, 3) := by decide +kernel
theorem dX10_bucket_5 : decode cX10_bucket 5 = .ok (.iload_n 3, 1) := by decide +kernel
theorem dX10_bucket_6 : decode cX10_bucket 6 = .ok (.ifCond .ge 13, 3) := by decide +kernel
theorem dX10_bucket_9 : decode cX10_bucket 9 = .ok (.new 112, 3) := by decide +kernel
theorem dX10_bucket_12 : decode cX10_bucket 12 = .ok (.dup, 1) := by decide +kernel
theorem dX10_bucket_13 : decode cX10_bucket 13 = .ok (.ldc 114, 2) := by decide +kernel
theorem dX10_bucket_15 : decode cX10_bucket 15 = .ok (.invokespecial 116, 3) := by decide +kernel
theorem dX10_bucket_18 : decode cX10_bucket 18 = .ok (.athrow, 1) := by decide +kernel
theorem dX10_bucket_19 : decode cX10_bucket 19 = .ok (.iload_n 2, 1) := by decide +kernel
theorem dX10_bucket_20 : decode cX10_bucket 20 = .ok (.bipush 8, 2) := by decide +kernel
theorem dX10_bucket_22 : decode cX10_bucket 22 = .ok (.invokestatic 68, 3) := by decide +kernel
theorem dX10_bucket_25 : decode cX10_bucket 25 = .ok (.iload_n 3, 1) := by decide +kernel
theorem dX10_bucket_26 : decode cX10_bucket 26 = .ok (.iconst 2, 1) := by decide +kernel
theorem dX10_bucket_27 : decode cX10_bucket 27 = .ok (.if_icmp .ge 19, 3) := by decide +kernel
theorem dX10_bucket_30 : decode cX10_bucket 30 = .ok (.aload_n 0, 1) := by decide +kernel
theorem dX10_bucket_31 : decode cX10_bucket 31 = .ok (.getfield 20, 3) := by decide +kernel
theorem dX10_bucket_34 : decode cX10_bucket 34 = .ok (.iload_n 1, 1) := by decide +kernel
theorem dX10_bucket_35 : decode cX10_bucket 35 = .ok (.iload_n 2, 1) := by decide +kernel
theorem dX10_bucket_36 : decode cX10_bucket 36 = .ok (.iconst 2, 1) := by decide +kernel
theorem dX10_bucket_37 : decode cX10_bucket 37 = .ok (.imul, 1) := by decide +kernel
theorem dX10_bucket_38 : decode cX10_bucket 38 = .ok (.iload_n 3, 1) := by decide +kernel
theorem dX10_bucket_39 : decode cX10_bucket 39 = .ok (.iadd, 1) := by decide +kernel
theorem dX10_bucket_40 : decode cX10_bucket 40 = .ok (.invokevirtual 117, 3) := by decide +kernel
theorem dX10_bucket_43 : decode cX10_bucket 43 = .ok (.goto 4, 3) := by decide +kernel
theorem dX10_bucket_46 : decode cX10_bucket 46 = .ok (.iconst (-1), 1) := by decide +kernel
theorem dX10_bucket_47 : decode cX10_bucket 47 = .ok (.ireturn, 1) := by decide +kernel
set_option maxRecDepth 20000 in
theorem ggX10_lookup_X10_needPeer : GoodIn wsX10_lookup wsX10_needPeer := goodIn_ca (goodIn_r _ [8, 9, 10, 11, 12, 13, 14, 15, 16, 17, 115, 116, 117, 118, 119, 120, 121, 122, 123, 124, 125, 126, 127, 128, 129] (by decide +kernel) (by decide +kernel)) (goodIn_sub (fun _ h => List.mem_cons_of_mem _ (List.mem_append_left _ (List.mem_append_right _ h))) (by decide +kernel))
set_option maxRecDepth 20000 in
theorem gX10_lookup_X10_needPeer : GoodIn wsX10_lookup (wsV RX10 72 RX10 yX10_needPeer wsX10_needPeer) := goodIn_app (goodIn_of _ (by decide +kernel)) ggX10_lookup_X10_needPeer
set_option maxRecDepth 20000 in
theorem ggX10_lookup_X10_needBelow : GoodIn wsX10_lookup wsX10_needBelow := goodIn_ca (goodIn_r _ [20, 1, 2] (by decide +kernel) (by decide +kernel)) (goodIn_sub (fun _ h => List.mem_cons_of_mem _ (List.mem_append_left _ (List.mem_append_left _ (List.mem_append_right _ h)))) (by decide +kernel))
set_option maxRecDepth 20000 in
theorem gX10_lookup_X10_needBelow : GoodIn wsX10_lookup (va_wsS RX10 68 yX10_needBelow wsX10_needBelow) := goodIn_app (goodIn_of _ (by decide +kernel)) ggX10_lookup_X10_needBelow
set_option maxRecDepth 20000 in
theorem ggX10_lookup_X10_needOnline : GoodIn wsX10_lookup wsX10_needOnline := goodIn_ca (goodIn_r _ [24, 25, 26, 11, 27, 28, 29, 15, 30, 31, 32, 13, 14, 16, 17, 115, 116, 117, 118, 119, 120, 121, 122, 123, 124, 125, 126, 127, 128, 129] (by decide +kernel) (by decide +kernel)) (goodIn_sub (fun _ h => List.mem_cons_of_mem _ (List.mem_append_right _ h)) (by decide +kernel))
set_option maxRecDepth 20000 in
theorem gX10_lookup_X10_needOnline : GoodIn wsX10_lookup (wsV RX10 91 RX10 yX10_needOnline wsX10_needOnline) := goodIn_app (goodIn_of _ (by decide +kernel)) ggX10_lookup_X10_needOnline
set_option maxRecDepth 20000 in
theorem ggX10_lookup_X7_run : GoodIn wsX10_lookup wsX7_run := goodIn_r _ [37, 38, 39, 40, 41, 42, 43, 36, 44, 45, 46, 47, 48, 49, 50, 51, 52, 53, 54, 55, 56, 57, 15, 58, 59, 60, 61, 62, 32, 13, 14, 16, 17, 63, 64, 65, 66, 67, 68, 69, 70, 71, 72, 73, 74, 75, 76, 77, 78, 79, 80, 81, 82, 83, 84, 85, 86, 87, 88, 89, 90, 91, 92, 93, 94, 31, 95, 96, 97, 98, 99, 100, 101, 102, 103, 104, 105, 130, 131, 132, 133, 134, 135, 136, 137, 138, 139, 125, 126, 127, 128, 129] (by decide +kernel) (by decide +kernel)
set_option maxRecDepth 20000 in
theorem gX10_lookup_X7_run : GoodIn wsX10_lookup (wsV RX10 101 RX7 yX7_run wsX7_run) := goodIn_app (goodIn_of _ (by decide +kernel)) ggX10_lookup_X7_run
set_option maxRecDepth 20000 in
theorem ggX10_lookup_X7_result : GoodIn wsX10_lookup wsX7_result := goodIn_r _ [109, 45, 130, 131, 132, 133, 134, 135, 136] (by decide +kernel) (by decide +kernel)
set_option maxRecDepth 20000 in
theorem gX10_lookup_X7_result : GoodIn wsX10_lookup (wsV RX10 125 RX7 yX7_result wsX7_result) := goodIn_app (goodIn_of _ (by decide +kernel)) ggX10_lookup_X7_result
set_option maxRecDepth 20000 in
theorem ggX10_lookup_X6_digits : GoodIn wsX10_lookup wsX6_digits := goodIn_r _ [113, 114, 70, 71, 52, 72, 54, 68, 137, 138, 139] (by decide +kernel) (by decide +kernel)
set_option maxRecDepth 20000 in
theorem gX10_lookup_X6_digits : GoodIn wsX10_lookup (wsV RX10 129 RX6 yX6_digits wsX6_digits) := goodIn_app (goodIn_of _ (by decide +kernel)) ggX10_lookup_X6_digits
theorem dX10_lookup_0 : decode cX10_lookup 0 = .ok (.aload_n 0, 1) := by decide +kernel
theorem dX10_lookup_1 : decode cX10_lookup 1 = .ok (.iload_n 1, 1) := by decide +kernel
theorem dX10_lookup_2 : decode cX10_lookup 2 = .ok (.invokevirtual 72, 3) := by decide +kernel
theorem dX10_lookup_5 : decode cX10_lookup 5 = .ok (.iload_n 2, 1) := by decide +kernel
theorem dX10_lookup_6 : decode cX10_lookup 6 = .ok (.sipush 256, 3) := by decide +kernel
theorem dX10_lookup_9 : decode cX10_lookup 9 = .ok (.invokestatic 68, 3) := by decide +kernel
theorem dX10_lookup_12 : decode cX10_lookup 12 = .ok (.iload_n 3, 1) := by decide +kernel
theorem dX10_lookup_13 : decode cX10_lookup 13 = .ok (.iconst 1, 1) := by decide +kernel
theorem dX10_lookup_14 : decode cX10_lookup 14 = .ok (.if_icmp .lt 8, 3) := by decide +kernel
theorem dX10_lookup_17 : decode cX10_lookup 17 = .ok (.iload_n 3, 1) := by decide +kernel
theorem dX10_lookup_18 : decode cX10_lookup 18 = .ok (.iconst 2, 1) := by decide +kernel
theorem dX10_lookup_19 : decode cX10_lookup 19 = .ok (.if_icmp .le 13, 3) := by decide +kernel
theorem dX10_lookup_22 : decode cX10_lookup 22 = .ok (.new 120, 3) := by decide +kernel
theorem dX10_lookup_25 : decode cX10_lookup 25 = .ok (.dup, 1) := by decide +kernel
theorem dX10_lookup_26 : decode cX10_lookup 26 = .ok (.ldc 122, 2) := by decide +kernel
theorem dX10_lookup_28 : decode cX10_lookup 28 = .ok (.invokespecial 124, 3) := by decide +kernel
theorem dX10_lookup_31 : decode cX10_lookup 31 = .ok (.athrow, 1) := by decide +kernel
theorem dX10_lookup_32 : decode cX10_lookup 32 = .ok (.aload_n 0, 1) := by decide +kernel
theorem dX10_lookup_33 : decode cX10_lookup 33 = .ok (.iload_n 1, 1) := by decide +kernel
theorem dX10_lookup_34 : decode cX10_lookup 34 = .ok (.invokevirtual 91, 3) := by decide +kernel
theorem dX10_lookup_37 : decode cX10_lookup 37 = .ok (.aload_n 0, 1) := by decide +kernel
theorem dX10_lookup_38 : decode cX10_lookup 38 = .ok (.getfield 24, 3) := by decide +kernel
theorem dX10_lookup_41 : decode cX10_lookup 41 = .ok (.iload_n 1, 1) := by decide +kernel
theorem dX10_lookup_42 : decode cX10_lookup 42 = .ok (.iload_n 2, 1) := by decide +kernel
theorem dX10_lookup_43 : decode cX10_lookup 43 = .ok (.iload_n 3, 1) := by decide +kernel
theorem dX10_lookup_44 : decode cX10_lookup 44 = .ok (.invokevirtual 101, 3) := by decide +kernel
theorem dX10_lookup_47 : decode cX10_lookup 47 = .ok (.aload_n 0, 1) := by decide +kernel
theorem dX10_lookup_48 : decode cX10_lookup 48 = .ok (.getfield 24, 3) := by decide +kernel
theorem dX10_lookup_51 : decode cX10_lookup 51 = .ok (.invokevirtual 125, 3) := by decide +kernel
theorem dX10_lookup_54 : decode cX10_lookup 54 = .ok (.invokevirtual 129, 3) := by decide +kernel
theorem dX10_lookup_57 : decode cX10_lookup 57 = .ok (.ireturn, 1) := by decide +kernel
set_option maxRecDepth 20000 in
theorem ggX10_asked_X7_askedCount : GoodIn wsX10_asked wsX7_askedCount := goodIn_r _ [6, 7, 18, 19, 20, 21, 22, 23, 24] (by decide +kernel) (by decide +kernel)
set_option maxRecDepth 20000 in
theorem gX10_asked_X7_askedCount : GoodIn wsX10_asked (wsV RX10 133 RX7 yX7_askedCount wsX7_askedCount) := goodIn_app (goodIn_of _ (by decide +kernel)) ggX10_asked_X7_askedCount
theorem dX10_asked_0 : decode cX10_asked 0 = .ok (.aload_n 0, 1) := by decide +kernel
theorem dX10_asked_1 : decode cX10_asked 1 = .ok (.getfield 24, 3) := by decide +kernel
theorem dX10_asked_4 : decode cX10_asked 4 = .ok (.invokevirtual 133, 3) := by decide +kernel
theorem dX10_asked_7 : decode cX10_asked 7 = .ok (.ireturn, 1) := by decide +kernel
set_option maxRecDepth 20000 in
theorem ggX10_closest_X10_needPeer : GoodIn wsX10_closest wsX10_needPeer := goodIn_ca (goodIn_r _ [7, 8, 9, 2, 10, 11, 12, 13, 14, 15, 53, 54, 55, 56, 57, 58, 59, 60, 61, 62, 63, 64, 65, 66, 67] (by decide +kernel) (by decide +kernel)) (goodIn_sub (fun _ h => List.mem_cons_of_mem _ (List.mem_append_left _ (List.mem_append_right _ h))) (by decide +kernel))
set_option maxRecDepth 20000 in
theorem gX10_closest_X10_needPeer : GoodIn wsX10_closest (wsV RX10 72 RX10 yX10_needPeer wsX10_needPeer) := goodIn_app (goodIn_of _ (by decide +kernel)) ggX10_closest_X10_needPeer
set_option maxRecDepth 20000 in
theorem ggX10_closest_X10_needBelow : GoodIn wsX10_closest wsX10_needBelow := goodIn_ca (goodIn_r _ [18, 19, 20] (by decide +kernel) (by decide +kernel)) (goodIn_sub (fun _ h => List.mem_cons_of_mem _ (List.mem_append_right _ h)) (by decide +kernel))
set_option maxRecDepth 20000 in
theorem gX10_closest_X10_needBelow : GoodIn wsX10_closest (va_wsS RX10 68 yX10_needBelow wsX10_needBelow) := goodIn_app (goodIn_of _ (by decide +kernel)) ggX10_closest_X10_needBelow
set_option maxRecDepth 20000 in
theorem ggX10_closest_X6_clear : GoodIn wsX10_closest wsX6_clear := goodIn_r _ [25, 26, 68, 69, 70] (by decide +kernel) (by decide +kernel)
set_option maxRecDepth 20000 in
theorem gX10_closest_X6_clear : GoodIn wsX10_closest (wsV RX10 136 RX6 yX6_clear wsX6_clear) := goodIn_app (goodIn_of _ (by decide +kernel)) ggX10_closest_X6_clear
set_option maxRecDepth 20000 in
theorem ggX10_closest_X5_answers : GoodIn wsX10_closest wsX5_answers := goodIn_r _ [30, 31, 32, 33, 11, 12, 13, 14, 15, 63, 64, 65, 66, 67] (by decide +kernel) (by decide +kernel)
set_option maxRecDepth 20000 in
theorem gX10_closest_X5_answers : GoodIn wsX10_closest (wsV RX10 139 RX5 yX5_answers wsX5_answers) := goodIn_app (goodIn_of _ (by decide +kernel)) ggX10_closest_X5_answers
set_option maxRecDepth 20000 in
theorem ggX10_closest_X5_distance : GoodIn wsX10_closest wsX5_distance := goodIn_r _ [37, 15, 38, 63, 64, 65, 66, 67] (by decide +kernel) (by decide +kernel)
set_option maxRecDepth 20000 in
theorem gX10_closest_X5_distance : GoodIn wsX10_closest (wsV RX10 142 RX5 yX5_distance wsX5_distance) := goodIn_app (goodIn_of _ (by decide +kernel)) ggX10_closest_X5_distance
set_option maxRecDepth 20000 in
theorem ggX10_closest_X6_add : GoodIn wsX10_closest wsX6_add := goodIn_r _ [42, 26, 43, 44, 68, 69, 70] (by decide +kernel) (by decide +kernel)
set_option maxRecDepth 20000 in
theorem gX10_closest_X6_add : GoodIn wsX10_closest (wsV RX10 145 RX6 yX6_add wsX6_add) := goodIn_app (goodIn_of _ (by decide +kernel)) ggX10_closest_X6_add
set_option maxRecDepth 20000 in
theorem ggX10_closest_X6_digits : GoodIn wsX10_closest wsX6_digits := goodIn_r _ [48, 49, 50, 51, 24, 52, 26, 44, 68, 69, 70] (by decide +kernel) (by decide +kernel)
set_option maxRecDepth 20000 in
theorem gX10_closest_X6_digits : GoodIn wsX10_closest (wsV RX10 129 RX6 yX6_digits wsX6_digits) := goodIn_app (goodIn_of _ (by decide +kernel)) ggX10_closest_X6_digits
theorem dX10_closest_0 : decode cX10_closest 0 = .ok (.aload_n 0, 1) := by decide +kernel
theorem dX10_closest_1 : decode cX10_closest 1 = .ok (.iload_n 1, 1) := by decide +kernel
theorem dX10_closest_2 : decode cX10_closest 2 = .ok (.invokevirtual 72, 3) := by decide +kernel
theorem dX10_closest_5 : decode cX10_closest 5 = .ok (.iload_n 2, 1) := by decide +kernel
theorem dX10_closest_6 : decode cX10_closest 6 = .ok (.sipush 256, 3) := by decide +kernel
theorem dX10_closest_9 : decode cX10_closest 9 = .ok (.invokestatic 68, 3) := by decide +kernel
theorem dX10_closest_12 : decode cX10_closest 12 = .ok (.aload_n 0, 1) := by decide +kernel
theorem dX10_closest_13 : decode cX10_closest 13 = .ok (.getfield 35, 3) := by decide +kernel
theorem dX10_closest_16 : decode cX10_closest 16 = .ok (.invokevirtual 136, 3) := by decide +kernel
theorem dX10_closest_19 : decode cX10_closest 19 = .ok (.iconst 0, 1) := by decide +kernel
theorem dX10_closest_20 : decode cX10_closest 20 = .ok (.istore_n 3, 1) := by decide +kernel
theorem dX10_closest_21 : decode cX10_closest 21 = .ok (.iload_n 3, 1) := by decide +kernel
theorem dX10_closest_22 : decode cX10_closest 22 = .ok (.bipush 16, 2) := by decide +kernel
theorem dX10_closest_24 : decode cX10_closest 24 = .ok (.if_icmp .ge 42, 3) := by decide +kernel
theorem dX10_closest_27 : decode cX10_closest 27 = .ok (.iload_n 3, 1) := by decide +kernel
theorem dX10_closest_28 : decode cX10_closest 28 = .ok (.iload_n 1, 1) := by decide +kernel
theorem dX10_closest_29 : decode cX10_closest 29 = .ok (.if_icmp .eq 31, 3) := by decide +kernel
theorem dX10_closest_32 : decode cX10_closest 32 = .ok (.aload_n 0, 1) := by decide +kernel
theorem dX10_closest_33 : decode cX10_closest 33 = .ok (.getfield 20, 3) := by decide +kernel
theorem dX10_closest_36 : decode cX10_closest 36 = .ok (.iload_n 3, 1) := by decide +kernel
theorem dX10_closest_37 : decode cX10_closest 37 = .ok (.invokevirtual 139, 3) := by decide +kernel
theorem dX10_closest_40 : decode cX10_closest 40 = .ok (.ifCond .eq 20, 3) := by decide +kernel
theorem dX10_closest_43 : decode cX10_closest 43 = .ok (.aload_n 0, 1) := by decide +kernel
theorem dX10_closest_44 : decode cX10_closest 44 = .ok (.getfield 35, 3) := by decide +kernel
theorem dX10_closest_47 : decode cX10_closest 47 = .ok (.iload_n 3, 1) := by decide +kernel
theorem dX10_closest_48 : decode cX10_closest 48 = .ok (.aload_n 0, 1) := by decide +kernel
theorem dX10_closest_49 : decode cX10_closest 49 = .ok (.getfield 20, 3) := by decide +kernel
theorem dX10_closest_52 : decode cX10_closest 52 = .ok (.iload_n 3, 1) := by decide +kernel
theorem dX10_closest_53 : decode cX10_closest 53 = .ok (.iload_n 2, 1) := by decide +kernel
theorem dX10_closest_54 : decode cX10_closest 54 = .ok (.invokevirtual 142, 3) := by decide +kernel
theorem dX10_closest_57 : decode cX10_closest 57 = .ok (.invokevirtual 145, 3) := by decide +kernel
theorem dX10_closest_60 : decode cX10_closest 60 = .ok (.iinc 3 1, 3) := by decide +kernel
theorem dX10_closest_63 : decode cX10_closest 63 = .ok (.goto (-42), 3) := by decide +kernel
theorem dX10_closest_66 : decode cX10_closest 66 = .ok (.aload_n 0, 1) := by decide +kernel
theorem dX10_closest_67 : decode cX10_closest 67 = .ok (.getfield 35, 3) := by decide +kernel
theorem dX10_closest_70 : decode cX10_closest 70 = .ok (.invokevirtual 129, 3) := by decide +kernel
theorem dX10_closest_73 : decode cX10_closest 73 = .ok (.ireturn, 1) := by decide +kernel
set_option maxRecDepth 20000 in
theorem ggX10_file_X10_needPeer : GoodIn wsX10_file wsX10_needPeer := goodIn_ca (goodIn_r _ [13, 14, 15, 16, 17, 18, 19, 20, 21, 22, 189, 190, 191, 192, 193, 194, 195, 196, 197, 198, 205, 206, 207, 208, 209] (by decide +kernel) (by decide +kernel)) (goodIn_sub (fun _ h => List.mem_cons_of_mem _ (List.mem_append_right _ h)) (by decide +kernel))
set_option maxRecDepth 20000 in
theorem gX10_file_X10_needPeer : GoodIn wsX10_file (wsV RX10 72 RX10 yX10_needPeer wsX10_needPeer) := goodIn_app (goodIn_of _ (by decide +kernel)) ggX10_file_X10_needPeer
set_option maxRecDepth 20000 in
theorem ggX10_file_X10_needOnline : GoodIn wsX10_file wsX10_needOnline := goodIn_ca (goodIn_r _ [26, 1, 2, 16, 27, 28, 29, 20, 30, 31, 32, 18, 19, 21, 22, 189, 190, 191, 192, 193, 194, 195, 196, 197, 198, 205, 206, 207, 208, 209] (by decide +kernel) (by decide +kernel)) (goodIn_sub (fun _ h => List.mem_cons_of_mem _ (List.mem_append_left _ (List.mem_append_right _ h))) (by decide +kernel))
set_option maxRecDepth 20000 in
theorem gX10_file_X10_needOnline : GoodIn wsX10_file (wsV RX10 91 RX10 yX10_needOnline wsX10_needOnline) := goodIn_app (goodIn_of _ (by decide +kernel)) ggX10_file_X10_needOnline
set_option maxRecDepth 20000 in
theorem ggX10_file_X8_init : GoodIn wsX10_file wsX8_init := goodIn_r _ [35, 36, 37, 38, 39, 40, 41, 42, 43, 44, 45, 46, 47, 48, 49, 50, 51, 52, 53, 54, 55, 56, 57, 58, 59, 60, 61, 62, 63, 64, 65, 66, 67, 68, 199, 200, 201, 202, 203, 204, 210] (by decide +kernel) (by decide +kernel)
set_option maxRecDepth 20000 in
theorem gX10_file_X8_init : GoodIn wsX10_file (wsX8_init) := ggX10_file_X8_init
set_option maxRecDepth 20000 in
theorem ggX10_file_X1_storeMissing : GoodIn wsX10_file wsX1_storeMissing := goodIn_r _ [73, 74, 75, 76, 77, 78, 7, 79, 40, 80, 81, 82, 83, 84, 85, 86, 44, 87, 88, 89, 90, 49, 91, 92, 93, 48, 94, 64, 95, 96, 97, 98, 99, 100, 101, 102, 103, 104, 105, 106, 107, 108, 109, 110, 111, 112, 113, 114, 115, 116, 117, 118, 119, 20, 120, 121, 122, 123, 124, 32, 18, 19, 21, 22, 125, 126, 127, 128, 129, 130, 131, 132, 133, 134, 135, 136, 137, 138, 139, 140, 141, 142, 143, 144, 145, 146, 147, 148, 149, 150, 151, 152, 153, 154, 155, 156, 31, 157, 158, 159, 160, 161, 162, 163, 164, 165, 166, 167, 168, 169, 170, 72, 171, 172, 173, 174, 175, 176, 177, 178, 179, 180, 181, 182, 183, 184, 185, 186, 187, 188, 42, 43, 211, 212, 213, 199, 200, 201, 202, 203, 204, 210, 214, 215, 216, 217, 218, 219, 220, 221, 222, 223, 205, 206, 207, 208, 209] (by decide +kernel) (by decide +kernel)
set_option maxRecDepth 20000 in
theorem gX10_file_X1_storeMissing : GoodIn wsX10_file (wsV RX10 155 RX1 yX1_storeMissing wsX1_storeMissing) := goodIn_app (goodIn_of _ (by decide +kernel)) ggX10_file_X1_storeMissing
theorem dX10_file_0 : decode cX10_file 0 = .ok (.aload_n 0, 1) := by decide +kernel
theorem dX10_file_1 : decode cX10_file 1 = .ok (.iload_n 1, 1) := by decide +kernel
theorem dX10_file_2 : decode cX10_file 2 = .ok (.invokevirtual 72, 3) := by decide +kernel
theorem dX10_file_5 : decode cX10_file 5 = .ok (.aload_n 0, 1) := by decide +kernel
theorem dX10_file_6 : decode cX10_file 6 = .ok (.iload_n 1, 1) := by decide +kernel
theorem dX10_file_7 : decode cX10_file 7 = .ok (.invokevirtual 91, 3) := by decide +kernel
theorem dX10_file_10 : decode cX10_file 10 = .ok (.aload_n 0, 1) := by decide +kernel
theorem dX10_file_11 : decode cX10_file 11 = .ok (.getfield 147, 3) := by decide +kernel
theorem dX10_file_14 : decode cX10_file 14 = .ok (.ifCond .lt 15, 3) := by decide +kernel
theorem dX10_file_17 : decode cX10_file 17 = .ok (.aload_n 0, 1) := by decide +kernel
theorem dX10_file_18 : decode cX10_file 18 = .ok (.getfield 147, 3) := by decide +kernel
theorem dX10_file_21 : decode cX10_file 21 = .ok (.aload_n 0, 1) := by decide +kernel
theorem dX10_file_22 : decode cX10_file 22 = .ok (.getfield 41, 3) := by decide +kernel
theorem dX10_file_25 : decode cX10_file 25 = .ok (.arraylength, 1) := by decide +kernel
theorem dX10_file_26 : decode cX10_file 26 = .ok (.if_icmp .lt 13, 3) := by decide +kernel
theorem dX10_file_29 : decode cX10_file 29 = .ok (.new 84, 3) := by decide +kernel
theorem dX10_file_32 : decode cX10_file 32 = .ok (.dup, 1) := by decide +kernel
theorem dX10_file_33 : decode cX10_file 33 = .ok (.ldc 151, 2) := by decide +kernel
theorem dX10_file_35 : decode cX10_file 35 = .ok (.invokespecial 88, 3) := by decide +kernel
theorem dX10_file_38 : decode cX10_file 38 = .ok (.athrow, 1) := by decide +kernel
theorem dX10_file_39 : decode cX10_file 39 = .ok (.new 39, 3) := by decide +kernel
theorem dX10_file_42 : decode cX10_file 42 = .ok (.dup, 1) := by decide +kernel
theorem dX10_file_43 : decode cX10_file 43 = .ok (.iload_n 1, 1) := by decide +kernel
theorem dX10_file_44 : decode cX10_file 44 = .ok (.iload_n 2, 1) := by decide +kernel
theorem dX10_file_45 : decode cX10_file 45 = .ok (.invokespecial 153, 3) := by decide +kernel
theorem dX10_file_48 : decode cX10_file 48 = .ok (.astore_n 3, 1) := by decide +kernel
theorem dX10_file_49 : decode cX10_file 49 = .ok (.aload_n 0, 1) := by decide +kernel
theorem dX10_file_50 : decode cX10_file 50 = .ok (.getfield 147, 3) := by decide +kernel
theorem dX10_file_53 : decode cX10_file 53 = .ok (.istore 4, 2) := by decide +kernel
theorem dX10_file_55 : decode cX10_file 55 = .ok (.aload_n 0, 1) := by decide +kernel
theorem dX10_file_56 : decode cX10_file 56 = .ok (.getfield 41, 3) := by decide +kernel
theorem dX10_file_59 : decode cX10_file 59 = .ok (.iload 4, 2) := by decide +kernel
theorem dX10_file_61 : decode cX10_file 61 = .ok (.aload_n 3, 1) := by decide +kernel
theorem dX10_file_62 : decode cX10_file 62 = .ok (.aastore, 1) := by decide +kernel
theorem dX10_file_63 : decode cX10_file 63 = .ok (.aload_n 0, 1) := by decide +kernel
theorem dX10_file_64 : decode cX10_file 64 = .ok (.dup, 1) := by decide +kernel
theorem dX10_file_65 : decode cX10_file 65 = .ok (.getfield 147, 3) := by decide +kernel
theorem dX10_file_68 : decode cX10_file 68 = .ok (.iconst 1, 1) := by decide +kernel
theorem dX10_file_69 : decode cX10_file 69 = .ok (.iadd, 1) := by decide +kernel
theorem dX10_file_70 : decode cX10_file 70 = .ok (.putfield 147, 3) := by decide +kernel
theorem dX10_file_73 : decode cX10_file 73 = .ok (.aload_n 0, 1) := by decide +kernel
theorem dX10_file_74 : decode cX10_file 74 = .ok (.getfield 50, 3) := by decide +kernel
theorem dX10_file_77 : decode cX10_file 77 = .ok (.aload_n 3, 1) := by decide +kernel
theorem dX10_file_78 : decode cX10_file 78 = .ok (.invokevirtual 155, 3) := by decide +kernel
theorem dX10_file_81 : decode cX10_file 81 = .ok (.iload 4, 2) := by decide +kernel
theorem dX10_file_83 : decode cX10_file 83 = .ok (.ireturn, 1) := by decide +kernel
set_option maxRecDepth 20000 in
theorem ggX10_piece_X10_fileAt : GoodIn wsX10_piece wsX10_fileAt := goodIn_ca (goodIn_r _ [7, 8, 9, 10, 38, 39, 40, 41, 42, 43, 44, 45, 46, 47] (by decide +kernel) (by decide +kernel)) (goodIn_sub (fun _ h => List.mem_cons_of_mem _ (List.mem_append_right _ h)) (by decide +kernel))
set_option maxRecDepth 20000 in
theorem gX10_piece_X10_fileAt : GoodIn wsX10_piece (wsV RX10 159 RX10 yX10_fileAt wsX10_fileAt) := goodIn_app (goodIn_of _ (by decide +kernel)) ggX10_piece_X10_fileAt
set_option maxRecDepth 20000 in
theorem ggX10_piece_X10_needPiece : GoodIn wsX10_piece wsX10_needPiece := goodIn_ca (goodIn_r _ [13, 8, 9] (by decide +kernel) (by decide +kernel)) (goodIn_sub (fun _ h => List.mem_cons_of_mem _ (List.mem_append_right _ h)) (by decide +kernel))
set_option maxRecDepth 20000 in
theorem gX10_piece_X10_needPiece : GoodIn wsX10_piece (va_wsS RX10 163 yX10_needPiece wsX10_needPiece) := goodIn_app (goodIn_of _ (by decide +kernel)) ggX10_piece_X10_needPiece
set_option maxRecDepth 20000 in
theorem ggX10_piece_X8_value : GoodIn wsX10_piece wsX8_value := goodIn_r _ [18, 19, 48, 49, 50, 51, 52, 53] (by decide +kernel) (by decide +kernel)
set_option maxRecDepth 20000 in
theorem gX10_piece_X8_value : GoodIn wsX10_piece (wsV RX10 166 RX8 yX8_value wsX8_value) := goodIn_app (goodIn_of _ (by decide +kernel)) ggX10_piece_X8_value
set_option maxRecDepth 20000 in
theorem ggX10_piece_X8_holder : GoodIn wsX10_piece wsX8_holder := goodIn_r _ [23, 24, 25, 26, 17, 27, 48, 49, 50, 51, 52, 53] (by decide +kernel) (by decide +kernel)
set_option maxRecDepth 20000 in
theorem gX10_piece_X8_holder : GoodIn wsX10_piece (wsV RX10 170 RX8 yX8_holder wsX8_holder) := goodIn_app (goodIn_of _ (by decide +kernel)) ggX10_piece_X8_holder
set_option maxRecDepth 20000 in
theorem ggX10_piece_X8_isKept : GoodIn wsX10_piece wsX8_isKept := goodIn_r _ [31, 32, 25, 26, 17, 27, 48, 49, 50, 51, 52, 53] (by decide +kernel) (by decide +kernel)
set_option maxRecDepth 20000 in
theorem gX10_piece_X8_isKept : GoodIn wsX10_piece (wsV RX10 173 RX8 yX8_isKept wsX8_isKept) := goodIn_app (goodIn_of _ (by decide +kernel)) ggX10_piece_X8_isKept
set_option maxRecDepth 20000 in
theorem ggX10_piece_X8_missed : GoodIn wsX10_piece wsX8_missed := goodIn_r _ [36, 37, 25, 26, 17, 27, 48, 49, 50, 51, 52, 53] (by decide +kernel) (by decide +kernel)
set_option maxRecDepth 20000 in
theorem gX10_piece_X8_missed : GoodIn wsX10_piece (wsV RX10 176 RX8 yX8_missed wsX8_missed) := goodIn_app (goodIn_of _ (by decide +kernel)) ggX10_piece_X8_missed
theorem dX10_piece_0 : decode cX10_piece 0 = .ok (.aload_n 0, 1) := by decide +kernel
theorem dX10_piece_1 : decode cX10_piece 1 = .ok (.iload_n 1, 1) := by decide +kernel
theorem dX10_piece_2 : decode cX10_piece 2 = .ok (.invokevirtual 159, 3) := by decide +kernel
theorem dX10_piece_5 : decode cX10_piece 5 = .ok (.astore 4, 2) := by decide +kernel
theorem dX10_piece_7 : decode cX10_piece 7 = .ok (.iload_n 2, 1) := by decide +kernel
theorem dX10_piece_8 : decode cX10_piece 8 = .ok (.invokestatic 163, 3) := by decide +kernel
theorem dX10_piece_11 : decode cX10_piece 11 = .ok (.iload_n 3, 1) := by decide +kernel
theorem dX10_piece_12 : decode cX10_piece 12 = .ok (.tableswitch 68 0 3 #[32, 39, 46, 61], 32) := by decide +kernel
theorem dX10_piece_44 : decode cX10_piece 44 = .ok (.aload 4, 2) := by decide +kernel
theorem dX10_piece_46 : decode cX10_piece 46 = .ok (.iload_n 2, 1) := by decide +kernel
theorem dX10_piece_47 : decode cX10_piece 47 = .ok (.invokevirtual 166, 3) := by decide +kernel
theorem dX10_piece_50 : decode cX10_piece 50 = .ok (.ireturn, 1) := by decide +kernel
theorem dX10_piece_51 : decode cX10_piece 51 = .ok (.aload 4, 2) := by decide +kernel
theorem dX10_piece_53 : decode cX10_piece 53 = .ok (.iload_n 2, 1) := by decide +kernel
theorem dX10_piece_54 : decode cX10_piece 54 = .ok (.invokevirtual 170, 3) := by decide +kernel
theorem dX10_piece_57 : decode cX10_piece 57 = .ok (.ireturn, 1) := by decide +kernel
theorem dX10_piece_58 : decode cX10_piece 58 = .ok (.aload 4, 2) := by decide +kernel
theorem dX10_piece_60 : decode cX10_piece 60 = .ok (.iload_n 2, 1) := by decide +kernel
theorem dX10_piece_61 : decode cX10_piece 61 = .ok (.invokevirtual 173, 3) := by decide +kernel
theorem dX10_piece_64 : decode cX10_piece 64 = .ok (.ifCond .eq 7, 3) := by decide +kernel
theorem dX10_piece_67 : decode cX10_piece 67 = .ok (.iconst 1, 1) := by decide +kernel
theorem dX10_piece_68 : decode cX10_piece 68 = .ok (.goto 4, 3) := by decide +kernel
theorem dX10_piece_71 : decode cX10_piece 71 = .ok (.iconst 0, 1) := by decide +kernel
theorem dX10_piece_72 : decode cX10_piece 72 = .ok (.ireturn, 1) := by decide +kernel
theorem dX10_piece_73 : decode cX10_piece 73 = .ok (.aload 4, 2) := by decide +kernel
theorem dX10_piece_75 : decode cX10_piece 75 = .ok (.iload_n 2, 1) := by decide +kernel
theorem dX10_piece_76 : decode cX10_piece 76 = .ok (.invokevirtual 176, 3) := by decide +kernel
theorem dX10_piece_79 : decode cX10_piece 79 = .ok (.ireturn, 1) := by decide +kernel
theorem dX10_piece_80 : decode cX10_piece 80 = .ok (.new 120, 3) := by decide +kernel
theorem dX10_piece_83 : decode cX10_piece 83 = .ok (.dup, 1) := by decide +kernel
theorem dX10_piece_84 : decode cX10_piece 84 = .ok (.ldc 179, 2) := by decide +kernel
theorem dX10_piece_86 : decode cX10_piece 86 = .ok (.invokespecial 124, 3) := by decide +kernel
theorem dX10_piece_89 : decode cX10_piece 89 = .ok (.athrow, 1) := by decide +kernel
set_option maxRecDepth 20000 in
theorem ggX10_spoil_X10_fileAt : GoodIn wsX10_spoil wsX10_fileAt := goodIn_ca (goodIn_r _ [7, 8, 9, 10, 32, 33, 34, 35, 36, 37, 38, 39, 40, 41] (by decide +kernel) (by decide +kernel)) (goodIn_sub (fun _ h => List.mem_cons_of_mem _ (List.mem_append_right _ h)) (by decide +kernel))
set_option maxRecDepth 20000 in
theorem gX10_spoil_X10_fileAt : GoodIn wsX10_spoil (wsV RX10 159 RX10 yX10_fileAt wsX10_fileAt) := goodIn_app (goodIn_of _ (by decide +kernel)) ggX10_spoil_X10_fileAt
set_option maxRecDepth 20000 in
theorem ggX10_spoil_X10_needPiece : GoodIn wsX10_spoil wsX10_needPiece := goodIn_ca (goodIn_r _ [13, 8, 9] (by decide +kernel) (by decide +kernel)) (goodIn_sub (fun _ h => List.mem_cons_of_mem _ (List.mem_append_right _ h)) (by decide +kernel))
set_option maxRecDepth 20000 in
theorem gX10_spoil_X10_needPiece : GoodIn wsX10_spoil (va_wsS RX10 163 yX10_needPiece wsX10_needPiece) := goodIn_app (goodIn_of _ (by decide +kernel)) ggX10_spoil_X10_needPiece
set_option maxRecDepth 20000 in
theorem ggX10_spoil_X8_isHeld : GoodIn wsX10_spoil wsX8_isHeld := goodIn_r _ [18, 19, 20, 21, 17, 22, 42, 43, 44, 45, 46, 47] (by decide +kernel) (by decide +kernel)
set_option maxRecDepth 20000 in
theorem gX10_spoil_X8_isHeld : GoodIn wsX10_spoil (wsV RX10 181 RX8 yX8_isHeld wsX8_isHeld) := goodIn_app (goodIn_of _ (by decide +kernel)) ggX10_spoil_X8_isHeld
set_option maxRecDepth 20000 in
theorem ggX10_spoil_X8_isKept : GoodIn wsX10_spoil wsX8_isKept := goodIn_r _ [26, 27, 20, 21, 17, 22, 42, 43, 44, 45, 46, 47] (by decide +kernel) (by decide +kernel)
set_option maxRecDepth 20000 in
theorem gX10_spoil_X8_isKept : GoodIn wsX10_spoil (wsV RX10 173 RX8 yX8_isKept wsX8_isKept) := goodIn_app (goodIn_of _ (by decide +kernel)) ggX10_spoil_X8_isKept
set_option maxRecDepth 20000 in
theorem ggX10_spoil_X8_throwAway : GoodIn wsX10_spoil wsX8_throwAway := goodIn_r _ [31, 27, 20, 21, 17, 22, 42, 43, 44, 45, 46, 47] (by decide +kernel) (by decide +kernel)
set_option maxRecDepth 20000 in
theorem gX10_spoil_X8_throwAway : GoodIn wsX10_spoil (wsV RX10 186 RX8 yX8_throwAway wsX8_throwAway) := goodIn_app (goodIn_of _ (by decide +kernel)) ggX10_spoil_X8_throwAway
theorem dX10_spoil_0 : decode cX10_spoil 0 = .ok (.aload_n 0, 1) := by decide +kernel
theorem dX10_spoil_1 : decode cX10_spoil 1 = .ok (.iload_n 1, 1) := by decide +kernel
theorem dX10_spoil_2 : decode cX10_spoil 2 = .ok (.invokevirtual 159, 3) := by decide +kernel
theorem dX10_spoil_5 : decode cX10_spoil 5 = .ok (.astore_n 3, 1) := by decide +kernel
theorem dX10_spoil_6 : decode cX10_spoil 6 = .ok (.iload_n 2, 1) := by decide +kernel
theorem dX10_spoil_7 : decode cX10_spoil 7 = .ok (.invokestatic 163, 3) := by decide +kernel
theorem dX10_spoil_10 : decode cX10_spoil 10 = .ok (.aload_n 3, 1) := by decide +kernel
theorem dX10_spoil_11 : decode cX10_spoil 11 = .ok (.iload_n 2, 1) := by decide +kernel
theorem dX10_spoil_12 : decode cX10_spoil 12 = .ok (.invokevirtual 181, 3) := by decide +kernel
theorem dX10_spoil_15 : decode cX10_spoil 15 = .ok (.ifCond .ne 13, 3) := by decide +kernel
theorem dX10_spoil_18 : decode cX10_spoil 18 = .ok (.new 84, 3) := by decide +kernel
theorem dX10_spoil_21 : decode cX10_spoil 21 = .ok (.dup, 1) := by decide +kernel
theorem dX10_spoil_22 : decode cX10_spoil 22 = .ok (.ldc 184, 2) := by decide +kernel
theorem dX10_spoil_24 : decode cX10_spoil 24 = .ok (.invokespecial 88, 3) := by decide +kernel
theorem dX10_spoil_27 : decode cX10_spoil 27 = .ok (.athrow, 1) := by decide +kernel
theorem dX10_spoil_28 : decode cX10_spoil 28 = .ok (.aload_n 3, 1) := by decide +kernel
theorem dX10_spoil_29 : decode cX10_spoil 29 = .ok (.iload_n 2, 1) := by decide +kernel
theorem dX10_spoil_30 : decode cX10_spoil 30 = .ok (.invokevirtual 173, 3) := by decide +kernel
theorem dX10_spoil_33 : decode cX10_spoil 33 = .ok (.istore 4, 2) := by decide +kernel
theorem dX10_spoil_35 : decode cX10_spoil 35 = .ok (.aload_n 3, 1) := by decide +kernel
theorem dX10_spoil_36 : decode cX10_spoil 36 = .ok (.iload_n 2, 1) := by decide +kernel
theorem dX10_spoil_37 : decode cX10_spoil 37 = .ok (.invokevirtual 186, 3) := by decide +kernel
theorem dX10_spoil_40 : decode cX10_spoil 40 = .ok (.iload 4, 2) := by decide +kernel
theorem dX10_spoil_42 : decode cX10_spoil 42 = .ok (.ireturn, 1) := by decide +kernel
set_option maxRecDepth 20000 in
theorem ggX10_root_X10_fileAt : GoodIn wsX10_root wsX10_fileAt := goodIn_ca (goodIn_r _ [5, 6, 7, 8, 21, 22, 23, 24, 25, 26, 27, 28, 29, 30] (by decide +kernel) (by decide +kernel)) (goodIn_sub (fun _ h => List.mem_cons_of_mem _ (List.mem_append_right _ h)) (by decide +kernel))
set_option maxRecDepth 20000 in
theorem gX10_root_X10_fileAt : GoodIn wsX10_root (wsV RX10 159 RX10 yX10_fileAt wsX10_fileAt) := goodIn_app (goodIn_of _ (by decide +kernel)) ggX10_root_X10_fileAt
set_option maxRecDepth 20000 in
theorem ggX10_root_X8_tree : GoodIn wsX10_root wsX8_tree := goodIn_r _ [13, 14, 31, 32, 33, 34, 35, 36] (by decide +kernel) (by decide +kernel)
set_option maxRecDepth 20000 in
theorem gX10_root_X8_tree : GoodIn wsX10_root (wsV RX10 189 RX8 yX8_tree wsX8_tree) := goodIn_app (goodIn_of _ (by decide +kernel)) ggX10_root_X8_tree
set_option maxRecDepth 20000 in
theorem ggX10_root_X9_top : GoodIn wsX10_root wsX9_top := goodIn_r _ [19, 20, 37] (by decide +kernel) (by decide +kernel)
set_option maxRecDepth 20000 in
theorem gX10_root_X9_top : GoodIn wsX10_root (wsV RX10 193 RX9 yX9_top wsX9_top) := goodIn_app (goodIn_of _ (by decide +kernel)) ggX10_root_X9_top
theorem dX10_root_0 : decode cX10_root 0 = .ok (.aload_n 0, 1) := by decide +kernel
theorem dX10_root_1 : decode cX10_root 1 = .ok (.iload_n 1, 1) := by decide +kernel
theorem dX10_root_2 : decode cX10_root 2 = .ok (.invokevirtual 159, 3) := by decide +kernel
theorem dX10_root_5 : decode cX10_root 5 = .ok (.invokevirtual 189, 3) := by decide +kernel
theorem dX10_root_8 : decode cX10_root 8 = .ok (.invokevirtual 193, 3) := by decide +kernel
theorem dX10_root_11 : decode cX10_root 11 = .ok (.ireturn, 1) := by decide +kernel
set_option maxRecDepth 20000 in
theorem ggX10_proof_X10_fileAt : GoodIn wsX10_proof wsX10_fileAt := goodIn_ca (goodIn_r _ [5, 6, 7, 8, 29, 30, 31, 32, 33, 34, 35, 36, 37, 38] (by decide +kernel) (by decide +kernel)) (goodIn_sub (fun _ h => List.mem_cons_of_mem _ (List.mem_append_left _ (List.mem_append_right _ h))) (by decide +kernel))
set_option maxRecDepth 20000 in
theorem gX10_proof_X10_fileAt : GoodIn wsX10_proof (wsV RX10 159 RX10 yX10_fileAt wsX10_fileAt) := goodIn_app (goodIn_of _ (by decide +kernel)) ggX10_proof_X10_fileAt
set_option maxRecDepth 20000 in
theorem ggX10_proof_X10_needPiece : GoodIn wsX10_proof wsX10_needPiece := goodIn_ca (goodIn_r _ [11, 6, 7] (by decide +kernel) (by decide +kernel)) (goodIn_sub (fun _ h => List.mem_cons_of_mem _ (List.mem_append_left _ (List.mem_append_right _ h))) (by decide +kernel))
set_option maxRecDepth 20000 in
theorem gX10_proof_X10_needPiece : GoodIn wsX10_proof (va_wsS RX10 163 yX10_needPiece wsX10_needPiece) := goodIn_app (goodIn_of _ (by decide +kernel)) ggX10_proof_X10_needPiece
set_option maxRecDepth 20000 in
theorem ggX10_proof_X10_needBelow : GoodIn wsX10_proof wsX10_needBelow := goodIn_ca (goodIn_r _ [14, 15, 16] (by decide +kernel) (by decide +kernel)) (goodIn_sub (fun _ h => List.mem_cons_of_mem _ (List.mem_append_right _ h)) (by decide +kernel))
set_option maxRecDepth 20000 in
theorem gX10_proof_X10_needBelow : GoodIn wsX10_proof (va_wsS RX10 68 yX10_needBelow wsX10_needBelow) := goodIn_app (goodIn_of _ (by decide +kernel)) ggX10_proof_X10_needBelow
set_option maxRecDepth 20000 in
theorem ggX10_proof_X8_tree : GoodIn wsX10_proof wsX8_tree := goodIn_r _ [21, 22, 39, 40, 41, 42, 43, 44] (by decide +kernel) (by decide +kernel)
set_option maxRecDepth 20000 in
theorem gX10_proof_X8_tree : GoodIn wsX10_proof (wsV RX10 189 RX8 yX8_tree wsX8_tree) := goodIn_app (goodIn_of _ (by decide +kernel)) ggX10_proof_X8_tree
set_option maxRecDepth 20000 in
theorem ggX10_proof_X9_neighbour : GoodIn wsX10_proof wsX9_neighbour := goodIn_r _ [27, 28, 45] (by decide +kernel) (by decide +kernel)
set_option maxRecDepth 20000 in
theorem gX10_proof_X9_neighbour : GoodIn wsX10_proof (wsV RX10 198 RX9 yX9_neighbour wsX9_neighbour) := goodIn_app (goodIn_of _ (by decide +kernel)) ggX10_proof_X9_neighbour
theorem dX10_proof_0 : decode cX10_proof 0 = .ok (.aload_n 0, 1) := by decide +kernel
theorem dX10_proof_1 : decode cX10_proof 1 = .ok (.iload_n 1, 1) := by decide +kernel
theorem dX10_proof_2 : decode cX10_proof 2 = .ok (.invokevirtual 159, 3) := by decide +kernel
theorem dX10_proof_5 : decode cX10_proof 5 = .ok (.astore 4, 2) := by decide +kernel
theorem dX10_proof_7 : decode cX10_proof 7 = .ok (.iload_n 2, 1) := by decide +kernel
theorem dX10_proof_8 : decode cX10_proof 8 = .ok (.invokestatic 163, 3) := by decide +kernel
theorem dX10_proof_11 : decode cX10_proof 11 = .ok (.iload_n 3, 1) := by decide +kernel
theorem dX10_proof_12 : decode cX10_proof 12 = .ok (.iconst 3, 1) := by decide +kernel
theorem dX10_proof_13 : decode cX10_proof 13 = .ok (.invokestatic 68, 3) := by decide +kernel
theorem dX10_proof_16 : decode cX10_proof 16 = .ok (.aload 4, 2) := by decide +kernel
theorem dX10_proof_18 : decode cX10_proof 18 = .ok (.invokevirtual 189, 3) := by decide +kernel
theorem dX10_proof_21 : decode cX10_proof 21 = .ok (.iload_n 2, 1) := by decide +kernel
theorem dX10_proof_22 : decode cX10_proof 22 = .ok (.iload_n 3, 1) := by decide +kernel
theorem dX10_proof_23 : decode cX10_proof 23 = .ok (.invokevirtual 198, 3) := by decide +kernel
theorem dX10_proof_26 : decode cX10_proof 26 = .ok (.ireturn, 1) := by decide +kernel
set_option maxRecDepth 20000 in
theorem ggX10_isProved_X10_fileAt : GoodIn wsX10_isProved wsX10_fileAt := goodIn_ca (goodIn_r _ [5, 6, 7, 8, 39, 40, 41, 42, 43, 44, 45, 46, 47, 48] (by decide +kernel) (by decide +kernel)) (goodIn_sub (fun _ h => List.mem_cons_of_mem _ (List.mem_append_left _ (List.mem_append_right _ h))) (by decide +kernel))
set_option maxRecDepth 20000 in
theorem gX10_isProved_X10_fileAt : GoodIn wsX10_isProved (wsV RX10 159 RX10 yX10_fileAt wsX10_fileAt) := goodIn_app (goodIn_of _ (by decide +kernel)) ggX10_isProved_X10_fileAt
set_option maxRecDepth 20000 in
theorem ggX10_isProved_X10_needPiece : GoodIn wsX10_isProved wsX10_needPiece := goodIn_ca (goodIn_r _ [11, 6, 7] (by decide +kernel) (by decide +kernel)) (goodIn_sub (fun _ h => List.mem_cons_of_mem _ (List.mem_append_left _ (List.mem_append_right _ h))) (by decide +kernel))
set_option maxRecDepth 20000 in
theorem gX10_isProved_X10_needPiece : GoodIn wsX10_isProved (va_wsS RX10 163 yX10_needPiece wsX10_needPiece) := goodIn_app (goodIn_of _ (by decide +kernel)) ggX10_isProved_X10_needPiece
set_option maxRecDepth 20000 in
theorem ggX10_isProved_X10_needBelow : GoodIn wsX10_isProved wsX10_needBelow := goodIn_ca (goodIn_r _ [14, 15, 16] (by decide +kernel) (by decide +kernel)) (goodIn_sub (fun _ h => List.mem_cons_of_mem _ (List.mem_append_right _ h)) (by decide +kernel))
set_option maxRecDepth 20000 in
theorem gX10_isProved_X10_needBelow : GoodIn wsX10_isProved (va_wsS RX10 68 yX10_needBelow wsX10_needBelow) := goodIn_app (goodIn_of _ (by decide +kernel)) ggX10_isProved_X10_needBelow
set_option maxRecDepth 20000 in
theorem ggX10_isProved_X8_tree : GoodIn wsX10_isProved wsX8_tree := goodIn_r _ [21, 22, 49, 50, 51, 52, 53, 54] (by decide +kernel) (by decide +kernel)
set_option maxRecDepth 20000 in
theorem gX10_isProved_X8_tree : GoodIn wsX10_isProved (wsV RX10 189 RX8 yX8_tree wsX8_tree) := goodIn_app (goodIn_of _ (by decide +kernel)) ggX10_isProved_X8_tree
set_option maxRecDepth 20000 in
theorem ggX10_isProved_X9_top : GoodIn wsX10_isProved wsX9_top := goodIn_r _ [27, 28, 55] (by decide +kernel) (by decide +kernel)
set_option maxRecDepth 20000 in
theorem gX10_isProved_X9_top : GoodIn wsX10_isProved (wsV RX10 193 RX9 yX9_top wsX9_top) := goodIn_app (goodIn_of _ (by decide +kernel)) ggX10_isProved_X9_top
set_option maxRecDepth 20000 in
theorem ggX10_isProved_X9_climb : GoodIn wsX10_isProved wsX9_climb := goodIn_r _ [31, 32, 33, 26, 34, 35, 36, 37, 38] (by decide +kernel) (by decide +kernel)
set_option maxRecDepth 20000 in
theorem gX10_isProved_X9_climb : GoodIn wsX10_isProved (va_wsS RX10 201 yX9_climb wsX9_climb) := goodIn_app (goodIn_of _ (by decide +kernel)) ggX10_isProved_X9_climb
theorem dX10_isProved_0 : decode cX10_isProved 0 = .ok (.aload_n 0, 1) := by decide +kernel
theorem dX10_isProved_1 : decode cX10_isProved 1 = .ok (.iload_n 1, 1) := by decide +kernel
theorem dX10_isProved_2 : decode cX10_isProved 2 = .ok (.invokevirtual 159, 3) := by decide +kernel
theorem dX10_isProved_5 : decode cX10_isProved 5 = .ok (.astore 7, 2) := by decide +kernel
theorem dX10_isProved_7 : decode cX10_isProved 7 = .ok (.iload_n 2, 1) := by decide +kernel
theorem dX10_isProved_8 : decode cX10_isProved 8 = .ok (.invokestatic 163, 3) := by decide +kernel
theorem dX10_isProved_11 : decode cX10_isProved 11 = .ok (.iload_n 3, 1) := by decide +kernel
theorem dX10_isProved_12 : decode cX10_isProved 12 = .ok (.sipush 256, 3) := by decide +kernel
theorem dX10_isProved_15 : decode cX10_isProved 15 = .ok (.invokestatic 68, 3) := by decide +kernel
theorem dX10_isProved_18 : decode cX10_isProved 18 = .ok (.aload 7, 2) := by decide +kernel
theorem dX10_isProved_20 : decode cX10_isProved 20 = .ok (.invokevirtual 189, 3) := by decide +kernel
theorem dX10_isProved_23 : decode cX10_isProved 23 = .ok (.invokevirtual 193, 3) := by decide +kernel
theorem dX10_isProved_26 : decode cX10_isProved 26 = .ok (.iload_n 2, 1) := by decide +kernel
theorem dX10_isProved_27 : decode cX10_isProved 27 = .ok (.iload_n 3, 1) := by decide +kernel
theorem dX10_isProved_28 : decode cX10_isProved 28 = .ok (.iload 4, 2) := by decide +kernel
theorem dX10_isProved_30 : decode cX10_isProved 30 = .ok (.iload 5, 2) := by decide +kernel
theorem dX10_isProved_32 : decode cX10_isProved 32 = .ok (.iload 6, 2) := by decide +kernel
theorem dX10_isProved_34 : decode cX10_isProved 34 = .ok (.invokestatic 201, 3) := by decide +kernel
theorem dX10_isProved_37 : decode cX10_isProved 37 = .ok (.if_icmp .ne 7, 3) := by decide +kernel
theorem dX10_isProved_40 : decode cX10_isProved 40 = .ok (.iconst 1, 1) := by decide +kernel
theorem dX10_isProved_41 : decode cX10_isProved 41 = .ok (.goto 4, 3) := by decide +kernel
theorem dX10_isProved_44 : decode cX10_isProved 44 = .ok (.iconst 0, 1) := by decide +kernel
theorem dX10_isProved_45 : decode cX10_isProved 45 = .ok (.ireturn, 1) := by decide +kernel
set_option maxRecDepth 20000 in
theorem ggX10_mend_X10_fileAt : GoodIn wsX10_mend wsX10_fileAt := goodIn_ca (goodIn_r _ [7, 8, 9, 10, 46, 47, 48, 49, 50, 51, 52, 53, 54, 55] (by decide +kernel) (by decide +kernel)) (goodIn_sub (fun _ h => List.mem_cons_of_mem _ (List.mem_append_right _ h)) (by decide +kernel))
set_option maxRecDepth 20000 in
theorem gX10_mend_X10_fileAt : GoodIn wsX10_mend (wsV RX10 159 RX10 yX10_fileAt wsX10_fileAt) := goodIn_app (goodIn_of _ (by decide +kernel)) ggX10_mend_X10_fileAt
set_option maxRecDepth 20000 in
theorem ggX10_mend_X10_needBelow : GoodIn wsX10_mend wsX10_needBelow := goodIn_ca (goodIn_r _ [13, 1, 2] (by decide +kernel) (by decide +kernel)) (goodIn_sub (fun _ h => List.mem_cons_of_mem _ (List.mem_append_left _ (List.mem_append_right _ h))) (by decide +kernel))
set_option maxRecDepth 20000 in
theorem gX10_mend_X10_needBelow : GoodIn wsX10_mend (va_wsS RX10 68 yX10_needBelow wsX10_needBelow) := goodIn_app (goodIn_of _ (by decide +kernel)) ggX10_mend_X10_needBelow
set_option maxRecDepth 20000 in
theorem ggX10_mend_J6_bitCount_0f7a4 : GoodIn wsX10_mend wsJ6_bitCount_0f7a4 := goodIn_r _ [17, 18, 19, 20] (by decide +kernel) (by decide +kernel)
set_option maxRecDepth 20000 in
theorem gX10_mend_J6_bitCount_0f7a4 : GoodIn wsX10_mend (va_wsS RX10 205 yJ6_bitCount_0f7a4 wsJ6_bitCount_0f7a4) := goodIn_app (goodIn_of _ (by decide +kernel)) ggX10_mend_J6_bitCount_0f7a4
set_option maxRecDepth 20000 in
theorem ggX10_mend_X8_mended : GoodIn wsX10_mend wsX8_mended := goodIn_r _ [25, 26, 27, 28, 29, 30, 31, 32, 33, 34, 35, 36, 37, 38, 39, 40, 41, 42, 43, 44, 45, 56, 57, 58, 59, 60, 61] (by decide +kernel) (by decide +kernel)
set_option maxRecDepth 20000 in
theorem gX10_mend_X8_mended : GoodIn wsX10_mend (wsV RX10 212 RX8 yX8_mended wsX8_mended) := goodIn_app (goodIn_of _ (by decide +kernel)) ggX10_mend_X8_mended
theorem dX10_mend_0 : decode cX10_mend 0 = .ok (.aload_n 0, 1) := by decide +kernel
theorem dX10_mend_1 : decode cX10_mend 1 = .ok (.iload_n 1, 1) := by decide +kernel
theorem dX10_mend_2 : decode cX10_mend 2 = .ok (.invokevirtual 159, 3) := by decide +kernel
theorem dX10_mend_5 : decode cX10_mend 5 = .ok (.astore_n 3, 1) := by decide +kernel
theorem dX10_mend_6 : decode cX10_mend 6 = .ok (.iload_n 2, 1) := by decide +kernel
theorem dX10_mend_7 : decode cX10_mend 7 = .ok (.bipush 64, 2) := by decide +kernel
theorem dX10_mend_9 : decode cX10_mend 9 = .ok (.invokestatic 68, 3) := by decide +kernel
theorem dX10_mend_12 : decode cX10_mend 12 = .ok (.iload_n 2, 1) := by decide +kernel
theorem dX10_mend_13 : decode cX10_mend 13 = .ok (.invokestatic 205, 3) := by decide +kernel
theorem dX10_mend_16 : decode cX10_mend 16 = .ok (.iconst 4, 1) := by decide +kernel
theorem dX10_mend_17 : decode cX10_mend 17 = .ok (.if_icmp .ge 13, 3) := by decide +kernel
theorem dX10_mend_20 : decode cX10_mend 20 = .ok (.new 120, 3) := by decide +kernel
theorem dX10_mend_23 : decode cX10_mend 23 = .ok (.dup, 1) := by decide +kernel
theorem dX10_mend_24 : decode cX10_mend 24 = .ok (.ldc 210, 2) := by decide +kernel
theorem dX10_mend_26 : decode cX10_mend 26 = .ok (.invokespecial 124, 3) := by decide +kernel
theorem dX10_mend_29 : decode cX10_mend 29 = .ok (.athrow, 1) := by decide +kernel
theorem dX10_mend_30 : decode cX10_mend 30 = .ok (.aload_n 3, 1) := by decide +kernel
theorem dX10_mend_31 : decode cX10_mend 31 = .ok (.iload_n 2, 1) := by decide +kernel
theorem dX10_mend_32 : decode cX10_mend 32 = .ok (.invokevirtual 212, 3) := by decide +kernel
theorem dX10_mend_35 : decode cX10_mend 35 = .ok (.ireturn, 1) := by decide +kernel
set_option maxRecDepth 20000 in
theorem ggX10_fetch_X10_needPeer : GoodIn wsX10_fetch wsX10_needPeer := goodIn_ca (goodIn_r _ [6, 7, 8, 9, 10, 11, 12, 13, 14, 15, 73, 74, 75, 76, 77, 78, 79, 80, 81, 82, 83, 84, 85, 86, 87] (by decide +kernel) (by decide +kernel)) (goodIn_sub (fun _ h => List.mem_cons_of_mem _ (List.mem_append_left _ (List.mem_append_right _ h))) (by decide +kernel))
set_option maxRecDepth 20000 in
theorem gX10_fetch_X10_needPeer : GoodIn wsX10_fetch (wsV RX10 72 RX10 yX10_needPeer wsX10_needPeer) := goodIn_app (goodIn_of _ (by decide +kernel)) ggX10_fetch_X10_needPeer
set_option maxRecDepth 20000 in
theorem ggX10_fetch_X10_fileAt : GoodIn wsX10_fetch wsX10_fileAt := goodIn_ca (goodIn_r _ [19, 7, 8, 20, 73, 74, 75, 76, 77, 78, 79, 80, 81, 82] (by decide +kernel) (by decide +kernel)) (goodIn_sub (fun _ h => List.mem_cons_of_mem _ (List.mem_append_left _ (List.mem_append_right _ h))) (by decide +kernel))
set_option maxRecDepth 20000 in
theorem gX10_fetch_X10_fileAt : GoodIn wsX10_fetch (wsV RX10 159 RX10 yX10_fileAt wsX10_fileAt) := goodIn_app (goodIn_of _ (by decide +kernel)) ggX10_fetch_X10_fileAt
set_option maxRecDepth 20000 in
theorem ggX10_fetch_X10_needOnline : GoodIn wsX10_fetch wsX10_needOnline := goodIn_ca (goodIn_r _ [24, 25, 26, 9, 27, 28, 29, 13, 30, 31, 32, 11, 12, 14, 15, 73, 74, 75, 76, 77, 78, 79, 80, 81, 82, 83, 84, 85, 86, 87] (by decide +kernel) (by decide +kernel)) (goodIn_sub (fun _ h => List.mem_cons_of_mem _ (List.mem_append_right _ h)) (by decide +kernel))
set_option maxRecDepth 20000 in
theorem gX10_fetch_X10_needOnline : GoodIn wsX10_fetch (wsV RX10 91 RX10 yX10_needOnline wsX10_needOnline) := goodIn_app (goodIn_of _ (by decide +kernel)) ggX10_fetch_X10_needOnline
set_option maxRecDepth 20000 in
theorem ggX10_fetch_X1_give : GoodIn wsX10_fetch wsX1_give := goodIn_r _ [37, 38, 39, 40, 41, 36, 42, 43, 44, 45, 46, 47, 48, 49, 50, 51, 52, 53, 54, 55, 56, 57, 58, 28, 29, 13, 30, 31, 32, 11, 12, 14, 15, 59, 60, 61, 62, 63, 64, 65, 66, 67, 68, 69, 70, 71, 72, 88, 89, 90, 91, 92, 93, 94, 95, 96, 83, 84, 85, 86, 87, 97] (by decide +kernel) (by decide +kernel)
set_option maxRecDepth 20000 in
theorem gX10_fetch_X1_give : GoodIn wsX10_fetch (wsV RX10 215 RX1 yX1_give wsX1_give) := goodIn_app (goodIn_of _ (by decide +kernel)) ggX10_fetch_X1_give
theorem dX10_fetch_0 : decode cX10_fetch 0 = .ok (.aload_n 0, 1) := by decide +kernel
theorem dX10_fetch_1 : decode cX10_fetch 1 = .ok (.iload_n 1, 1) := by decide +kernel
theorem dX10_fetch_2 : decode cX10_fetch 2 = .ok (.invokevirtual 72, 3) := by decide +kernel
theorem dX10_fetch_5 : decode cX10_fetch 5 = .ok (.aload_n 0, 1) := by decide +kernel
theorem dX10_fetch_6 : decode cX10_fetch 6 = .ok (.iload_n 2, 1) := by decide +kernel
theorem dX10_fetch_7 : decode cX10_fetch 7 = .ok (.invokevirtual 159, 3) := by decide +kernel
theorem dX10_fetch_10 : decode cX10_fetch 10 = .ok (.astore_n 3, 1) := by decide +kernel
theorem dX10_fetch_11 : decode cX10_fetch 11 = .ok (.aload_n 0, 1) := by decide +kernel
theorem dX10_fetch_12 : decode cX10_fetch 12 = .ok (.iload_n 1, 1) := by decide +kernel
theorem dX10_fetch_13 : decode cX10_fetch 13 = .ok (.invokevirtual 91, 3) := by decide +kernel
theorem dX10_fetch_16 : decode cX10_fetch 16 = .ok (.aload_n 0, 1) := by decide +kernel
theorem dX10_fetch_17 : decode cX10_fetch 17 = .ok (.getfield 50, 3) := by decide +kernel
theorem dX10_fetch_20 : decode cX10_fetch 20 = .ok (.aload_n 3, 1) := by decide +kernel
theorem dX10_fetch_21 : decode cX10_fetch 21 = .ok (.iload_n 1, 1) := by decide +kernel
theorem dX10_fetch_22 : decode cX10_fetch 22 = .ok (.invokevirtual 215, 3) := by decide +kernel
theorem dX10_fetch_25 : decode cX10_fetch 25 = .ok (.ireturn, 1) := by decide +kernel
set_option maxRecDepth 20000 in
theorem ggX10_pass_X1_challenge : GoodIn wsX10_pass wsX1_challenge := goodIn_r _ [10, 11, 12, 13, 14, 15, 16, 17, 18, 19, 20, 21, 22, 23, 24, 25, 26, 27, 28, 29, 30, 31, 32, 33, 34, 35, 36, 37, 38, 39, 9, 40, 41, 42, 43, 44, 45, 46, 47, 48, 49, 50, 51, 52, 53, 54, 55, 56, 57, 58, 59, 60, 61, 62, 63, 64, 65, 66, 67, 68, 69, 70, 71, 72, 73, 74, 75, 76, 197, 198, 199, 200, 201, 202, 203, 204, 205, 206, 207, 208, 209, 210, 211] (by decide +kernel) (by decide +kernel)
set_option maxRecDepth 20000 in
theorem gX10_pass_X1_challenge : GoodIn wsX10_pass (wsV RX10 224 RX1 yX1_challenge wsX1_challenge) := goodIn_app (goodIn_of _ (by decide +kernel)) ggX10_pass_X1_challenge
set_option maxRecDepth 20000 in
theorem ggX10_pass_X1_isToRepair : GoodIn wsX10_pass wsX1_isToRepair := goodIn_r _ [80, 11, 29, 30, 31, 15, 32, 33, 34, 35, 36, 46, 47, 48, 9, 49, 50, 51, 52, 53, 54, 42, 43, 44, 45, 18, 19, 20, 21, 22, 23, 24, 25, 26, 27, 28, 12, 13, 14, 16, 17, 197, 198, 199, 200, 201, 202, 203, 204, 205, 206, 207, 208, 209, 210] (by decide +kernel) (by decide +kernel)
set_option maxRecDepth 20000 in
theorem gX10_pass_X1_isToRepair : GoodIn wsX10_pass (wsV RX10 227 RX1 yX1_isToRepair wsX1_isToRepair) := goodIn_app (goodIn_of _ (by decide +kernel)) ggX10_pass_X1_isToRepair
set_option maxRecDepth 20000 in
theorem ggX10_pass_X1_storeMissing : GoodIn wsX10_pass wsX1_storeMissing := goodIn_r _ [84, 85, 11, 29, 30, 31, 15, 32, 33, 34, 35, 36, 12, 13, 14, 16, 17, 86, 87, 88, 89, 90, 91, 92, 93, 94, 95, 96, 97, 98, 99, 100, 101, 102, 103, 104, 105, 106, 107, 108, 109, 110, 111, 112, 113, 114, 115, 116, 117, 118, 119, 120, 121, 21, 122, 123, 124, 125, 126, 24, 25, 26, 27, 28, 127, 128, 129, 130, 131, 132, 133, 134, 135, 136, 137, 138, 139, 140, 141, 142, 143, 144, 145, 146, 147, 148, 149, 150, 151, 152, 153, 154, 155, 156, 157, 158, 23, 159, 160, 161, 162, 163, 164, 165, 166, 167, 168, 169, 170, 171, 172, 9, 173, 174, 175, 176, 177, 178, 179, 180, 181, 182, 183, 184, 185, 186, 73, 74, 75, 76, 54, 68, 197, 198, 199, 200, 201, 202, 203, 204, 205, 212, 213, 214, 215, 216, 217, 218, 219, 220, 221, 222, 206, 207, 208, 209, 210] (by decide +kernel) (by decide +kernel)
set_option maxRecDepth 20000 in
theorem gX10_pass_X1_storeMissing : GoodIn wsX10_pass (wsV RX10 155 RX1 yX1_storeMissing wsX1_storeMissing) := goodIn_app (goodIn_of _ (by decide +kernel)) ggX10_pass_X1_storeMissing
theorem dX10_pass_0 : decode cX10_pass 0 = .ok (.aload_n 0, 1) := by decide +kernel
theorem dX10_pass_1 : decode cX10_pass 1 = .ok (.getfield 219, 3) := by decide +kernel
theorem dX10_pass_4 : decode cX10_pass 4 = .ok (.sipush 500, 3) := by decide +kernel
theorem dX10_pass_7 : decode cX10_pass 7 = .ok (.if_icmp .lt 13, 3) := by decide +kernel
theorem dX10_pass_10 : decode cX10_pass 10 = .ok (.new 84, 3) := by decide +kernel
theorem dX10_pass_13 : decode cX10_pass 13 = .ok (.dup, 1) := by decide +kernel
theorem dX10_pass_14 : decode cX10_pass 14 = .ok (.ldc 222, 2) := by decide +kernel
theorem dX10_pass_16 : decode cX10_pass 16 = .ok (.invokespecial 88, 3) := by decide +kernel
theorem dX10_pass_19 : decode cX10_pass 19 = .ok (.athrow, 1) := by decide +kernel
theorem dX10_pass_20 : decode cX10_pass 20 = .ok (.aload_n 0, 1) := by decide +kernel
theorem dX10_pass_21 : decode cX10_pass 21 = .ok (.dup, 1) := by decide +kernel
theorem dX10_pass_22 : decode cX10_pass 22 = .ok (.getfield 219, 3) := by decide +kernel
theorem dX10_pass_25 : decode cX10_pass 25 = .ok (.iconst 1, 1) := by decide +kernel
theorem dX10_pass_26 : decode cX10_pass 26 = .ok (.iadd, 1) := by decide +kernel
theorem dX10_pass_27 : decode cX10_pass 27 = .ok (.putfield 219, 3) := by decide +kernel
theorem dX10_pass_30 : decode cX10_pass 30 = .ok (.iconst 0, 1) := by decide +kernel
theorem dX10_pass_31 : decode cX10_pass 31 = .ok (.istore_n 1, 1) := by decide +kernel
theorem dX10_pass_32 : decode cX10_pass 32 = .ok (.iload_n 1, 1) := by decide +kernel
theorem dX10_pass_33 : decode cX10_pass 33 = .ok (.aload_n 0, 1) := by decide +kernel
theorem dX10_pass_34 : decode cX10_pass 34 = .ok (.getfield 41, 3) := by decide +kernel
theorem dX10_pass_37 : decode cX10_pass 37 = .ok (.arraylength, 1) := by decide +kernel
theorem dX10_pass_38 : decode cX10_pass 38 = .ok (.if_icmp .ge 28, 3) := by decide +kernel
theorem dX10_pass_41 : decode cX10_pass 41 = .ok (.aload_n 0, 1) := by decide +kernel
theorem dX10_pass_42 : decode cX10_pass 42 = .ok (.getfield 41, 3) := by decide +kernel
theorem dX10_pass_45 : decode cX10_pass 45 = .ok (.iload_n 1, 1) := by decide +kernel
theorem dX10_pass_46 : decode cX10_pass 46 = .ok (.aaload, 1) := by decide +kernel
theorem dX10_pass_47 : decode cX10_pass 47 = .ok (.astore_n 2, 1) := by decide +kernel
theorem dX10_pass_48 : decode cX10_pass 48 = .ok (.aload_n 2, 1) := by decide +kernel
theorem dX10_pass_49 : decode cX10_pass 49 = .ok (.ifnull 11, 3) := by decide +kernel
theorem dX10_pass_52 : decode cX10_pass 52 = .ok (.aload_n 0, 1) := by decide +kernel
theorem dX10_pass_53 : decode cX10_pass 53 = .ok (.getfield 50, 3) := by decide +kernel
theorem dX10_pass_56 : decode cX10_pass 56 = .ok (.aload_n 2, 1) := by decide +kernel
theorem dX10_pass_57 : decode cX10_pass 57 = .ok (.invokevirtual 224, 3) := by decide +kernel
theorem dX10_pass_60 : decode cX10_pass 60 = .ok (.iinc 1 1, 3) := by decide +kernel
theorem dX10_pass_63 : decode cX10_pass 63 = .ok (.goto (-31), 3) := by decide +kernel
theorem dX10_pass_66 : decode cX10_pass 66 = .ok (.iconst 0, 1) := by decide +kernel
theorem dX10_pass_67 : decode cX10_pass 67 = .ok (.istore_n 1, 1) := by decide +kernel
theorem dX10_pass_68 : decode cX10_pass 68 = .ok (.iload_n 1, 1) := by decide +kernel
theorem dX10_pass_69 : decode cX10_pass 69 = .ok (.aload_n 0, 1) := by decide +kernel
theorem dX10_pass_70 : decode cX10_pass 70 = .ok (.getfield 41, 3) := by decide +kernel
theorem dX10_pass_73 : decode cX10_pass 73 = .ok (.arraylength, 1) := by decide +kernel
theorem dX10_pass_74 : decode cX10_pass 74 = .ok (.if_icmp .ge 39, 3) := by decide +kernel
theorem dX10_pass_77 : decode cX10_pass 77 = .ok (.aload_n 0, 1) := by decide +kernel
theorem dX10_pass_78 : decode cX10_pass 78 = .ok (.getfield 41, 3) := by decide +kernel
theorem dX10_pass_81 : decode cX10_pass 81 = .ok (.iload_n 1, 1) := by decide +kernel
theorem dX10_pass_82 : decode cX10_pass 82 = .ok (.aaload, 1) := by decide +kernel
theorem dX10_pass_83 : decode cX10_pass 83 = .ok (.astore_n 2, 1) := by decide +kernel
theorem dX10_pass_84 : decode cX10_pass 84 = .ok (.aload_n 2, 1) := by decide +kernel
theorem dX10_pass_85 : decode cX10_pass 85 = .ok (.ifnull 22, 3) := by decide +kernel
theorem dX10_pass_88 : decode cX10_pass 88 = .ok (.aload_n 0, 1) := by decide +kernel
theorem dX10_pass_89 : decode cX10_pass 89 = .ok (.getfield 50, 3) := by decide +kernel
theorem dX10_pass_92 : decode cX10_pass 92 = .ok (.aload_n 2, 1) := by decide +kernel
theorem dX10_pass_93 : decode cX10_pass 93 = .ok (.invokevirtual 227, 3) := by decide +kernel
theorem dX10_pass_96 : decode cX10_pass 96 = .ok (.ifCond .eq 11, 3) := by decide +kernel
theorem dX10_pass_99 : decode cX10_pass 99 = .ok (.aload_n 0, 1) := by decide +kernel
theorem dX10_pass_100 : decode cX10_pass 100 = .ok (.getfield 50, 3) := by decide +kernel
theorem dX10_pass_103 : decode cX10_pass 103 = .ok (.aload_n 2, 1) := by decide +kernel
theorem dX10_pass_104 : decode cX10_pass 104 = .ok (.invokevirtual 155, 3) := by decide +kernel
theorem dX10_pass_107 : decode cX10_pass 107 = .ok (.iinc 1 1, 3) := by decide +kernel
theorem dX10_pass_110 : decode cX10_pass 110 = .ok (.goto (-42), 3) := by decide +kernel
theorem dX10_pass_113 : decode cX10_pass 113 = .ok (.aload_n 0, 1) := by decide +kernel
theorem dX10_pass_114 : decode cX10_pass 114 = .ok (.getfield 219, 3) := by decide +kernel
theorem dX10_pass_117 : decode cX10_pass 117 = .ok (.ireturn, 1) := by decide +kernel
set_option maxRecDepth 20000 in
theorem ggX10_tell_X10_needPeer : GoodIn wsX10_tell wsX10_needPeer := goodIn_ca (goodIn_r _ [10, 11, 12, 5, 13, 14, 15, 16, 17, 18, 141, 142, 143, 144, 145, 146, 147, 148, 149, 150, 151, 152, 153, 154, 155] (by decide +kernel) (by decide +kernel)) (goodIn_sub (fun _ h => List.mem_cons_of_mem _ (List.mem_append_left _ (List.mem_append_right _ h))) (by decide +kernel))
set_option maxRecDepth 20000 in
theorem gX10_tell_X10_needPeer : GoodIn wsX10_tell (wsV RX10 72 RX10 yX10_needPeer wsX10_needPeer) := goodIn_app (goodIn_of _ (by decide +kernel)) ggX10_tell_X10_needPeer
set_option maxRecDepth 20000 in
theorem ggX10_tell_X10_needBelow : GoodIn wsX10_tell wsX10_needBelow := goodIn_ca (goodIn_r _ [21, 22, 23] (by decide +kernel) (by decide +kernel)) (goodIn_sub (fun _ h => List.mem_cons_of_mem _ (List.mem_append_right _ h)) (by decide +kernel))
set_option maxRecDepth 20000 in
theorem gX10_tell_X10_needBelow : GoodIn wsX10_tell (va_wsS RX10 68 yX10_needBelow wsX10_needBelow) := goodIn_app (goodIn_of _ (by decide +kernel)) ggX10_tell_X10_needBelow
set_option maxRecDepth 20000 in
theorem ggX10_tell_X10_needOnline : GoodIn wsX10_tell wsX10_needOnline := goodIn_ca (goodIn_r _ [27, 1, 2, 5, 28, 29, 30, 16, 31, 32, 33, 14, 15, 17, 18, 141, 142, 143, 144, 145, 146, 147, 148, 149, 150, 151, 152, 153, 154, 155] (by decide +kernel) (by decide +kernel)) (goodIn_sub (fun _ h => List.mem_cons_of_mem _ (List.mem_append_left _ (List.mem_append_left _ (List.mem_append_right _ h)))) (by decide +kernel))
set_option maxRecDepth 20000 in
theorem gX10_tell_X10_needOnline : GoodIn wsX10_tell (wsV RX10 91 RX10 yX10_needOnline wsX10_needOnline) := goodIn_app (goodIn_of _ (by decide +kernel)) ggX10_tell_X10_needOnline
set_option maxRecDepth 20000 in
theorem ggX10_tell_X4_mayTell : GoodIn wsX10_tell wsX4_mayTell := goodIn_r _ [38, 39, 40, 41, 37, 42, 156, 157] (by decide +kernel) (by decide +kernel)
set_option maxRecDepth 20000 in
theorem gX10_tell_X4_mayTell : GoodIn wsX10_tell (wsV RX10 231 RX4 yX4_mayTell wsX4_mayTell) := goodIn_app (goodIn_of _ (by decide +kernel)) ggX10_tell_X4_mayTell
set_option maxRecDepth 20000 in
theorem ggX10_tell_X4_claim : GoodIn wsX10_tell wsX4_claim := goodIn_r _ [46, 39, 47, 35, 36, 37, 38, 40, 41, 42, 156, 157] (by decide +kernel) (by decide +kernel)
set_option maxRecDepth 20000 in
theorem gX10_tell_X4_claim : GoodIn wsX10_tell (wsV RX10 237 RX4 yX4_claim wsX4_claim) := goodIn_app (goodIn_of _ (by decide +kernel)) ggX10_tell_X4_claim
set_option maxRecDepth 20000 in
theorem ggX10_tell_X7_run : GoodIn wsX10_tell wsX7_run := goodIn_r _ [52, 53, 54, 55, 56, 57, 58, 51, 59, 60, 61, 62, 63, 64, 65, 66, 67, 68, 69, 70, 71, 72, 16, 73, 74, 75, 76, 77, 33, 14, 15, 17, 18, 78, 79, 80, 81, 82, 83, 84, 85, 86, 87, 88, 89, 90, 91, 92, 93, 94, 95, 96, 97, 98, 99, 100, 101, 102, 103, 104, 105, 106, 107, 108, 109, 32, 110, 111, 112, 113, 114, 115, 116, 117, 118, 119, 120, 158, 159, 160, 161, 162, 163, 164, 165, 166, 167, 151, 152, 153, 154, 155] (by decide +kernel) (by decide +kernel)
set_option maxRecDepth 20000 in
theorem gX10_tell_X7_run : GoodIn wsX10_tell (wsV RX10 101 RX7 yX7_run wsX7_run) := goodIn_app (goodIn_of _ (by decide +kernel)) ggX10_tell_X7_run
set_option maxRecDepth 20000 in
theorem ggX10_tell_X7_result : GoodIn wsX10_tell wsX7_result := goodIn_r _ [124, 60, 158, 159, 160, 161, 162, 163, 164] (by decide +kernel) (by decide +kernel)
set_option maxRecDepth 20000 in
theorem gX10_tell_X7_result : GoodIn wsX10_tell (wsV RX10 125 RX7 yX7_result wsX7_result) := goodIn_app (goodIn_of _ (by decide +kernel)) ggX10_tell_X7_result
set_option maxRecDepth 20000 in
theorem ggX10_tell_X6_at : GoodIn wsX10_tell wsX6_at := goodIn_r _ [87, 69, 83, 165, 166, 167] (by decide +kernel) (by decide +kernel)
set_option maxRecDepth 20000 in
theorem gX10_tell_X6_at : GoodIn wsX10_tell (wsV RX10 240 RX6 yX6_at wsX6_at) := goodIn_app (goodIn_of _ (by decide +kernel)) ggX10_tell_X6_at
set_option maxRecDepth 20000 in
theorem ggX10_tell_X5_isHonest : GoodIn wsX10_tell wsX5_isHonest := goodIn_r _ [129, 75, 33, 14, 15, 16, 17, 18, 151, 152, 153, 154, 155] (by decide +kernel) (by decide +kernel)
set_option maxRecDepth 20000 in
theorem gX10_tell_X5_isHonest : GoodIn wsX10_tell (wsV RX10 243 RX5 yX5_isHonest wsX5_isHonest) := goodIn_app (goodIn_of _ (by decide +kernel)) ggX10_tell_X5_isHonest
set_option maxRecDepth 20000 in
theorem ggX10_tell_X4_keep : GoodIn wsX10_tell wsX4_keep := goodIn_r _ [133, 134, 135, 136, 37, 137, 40, 41, 42, 138, 139, 140, 156, 157] (by decide +kernel) (by decide +kernel)
set_option maxRecDepth 20000 in
theorem gX10_tell_X4_keep : GoodIn wsX10_tell (wsV RX10 246 RX4 yX4_keep wsX4_keep) := goodIn_app (goodIn_of _ (by decide +kernel)) ggX10_tell_X4_keep
theorem dX10_tell_0 : decode cX10_tell 0 = .ok (.aload_n 0, 1) := by decide +kernel
theorem dX10_tell_1 : decode cX10_tell 1 = .ok (.iload_n 1, 1) := by decide +kernel
theorem dX10_tell_2 : decode cX10_tell 2 = .ok (.invokevirtual 72, 3) := by decide +kernel
theorem dX10_tell_5 : decode cX10_tell 5 = .ok (.iload_n 2, 1) := by decide +kernel
theorem dX10_tell_6 : decode cX10_tell 6 = .ok (.sipush 256, 3) := by decide +kernel
theorem dX10_tell_9 : decode cX10_tell 9 = .ok (.invokestatic 68, 3) := by decide +kernel
theorem dX10_tell_12 : decode cX10_tell 12 = .ok (.iload_n 3, 1) := by decide +kernel
theorem dX10_tell_13 : decode cX10_tell 13 = .ok (.sipush 1000, 3) := by decide +kernel
theorem dX10_tell_16 : decode cX10_tell 16 = .ok (.invokestatic 68, 3) := by decide +kernel
theorem dX10_tell_19 : decode cX10_tell 19 = .ok (.iload 4, 2) := by decide +kernel
theorem dX10_tell_21 : decode cX10_tell 21 = .ok (.sipush 1000, 3) := by decide +kernel
theorem dX10_tell_24 : decode cX10_tell 24 = .ok (.invokestatic 68, 3) := by decide +kernel
theorem dX10_tell_27 : decode cX10_tell 27 = .ok (.aload_n 0, 1) := by decide +kernel
theorem dX10_tell_28 : decode cX10_tell 28 = .ok (.iload_n 1, 1) := by decide +kernel
theorem dX10_tell_29 : decode cX10_tell 29 = .ok (.invokevirtual 91, 3) := by decide +kernel
theorem dX10_tell_32 : decode cX10_tell 32 = .ok (.aload_n 0, 1) := by decide +kernel
theorem dX10_tell_33 : decode cX10_tell 33 = .ok (.getfield 57, 3) := by decide +kernel
theorem dX10_tell_36 : decode cX10_tell 36 = .ok (.iload_n 1, 1) := by decide +kernel
theorem dX10_tell_37 : decode cX10_tell 37 = .ok (.iload_n 2, 1) := by decide +kernel
theorem dX10_tell_38 : decode cX10_tell 38 = .ok (.invokevirtual 231, 3) := by decide +kernel
theorem dX10_tell_41 : decode cX10_tell 41 = .ok (.ifCond .ne 13, 3) := by decide +kernel
theorem dX10_tell_44 : decode cX10_tell 44 = .ok (.new 84, 3) := by decide +kernel
theorem dX10_tell_47 : decode cX10_tell 47 = .ok (.dup, 1) := by decide +kernel
theorem dX10_tell_48 : decode cX10_tell 48 = .ok (.ldc 235, 2) := by decide +kernel
theorem dX10_tell_50 : decode cX10_tell 50 = .ok (.invokespecial 88, 3) := by decide +kernel
theorem dX10_tell_53 : decode cX10_tell 53 = .ok (.athrow, 1) := by decide +kernel
theorem dX10_tell_54 : decode cX10_tell 54 = .ok (.aload_n 0, 1) := by decide +kernel
theorem dX10_tell_55 : decode cX10_tell 55 = .ok (.getfield 57, 3) := by decide +kernel
theorem dX10_tell_58 : decode cX10_tell 58 = .ok (.iload_n 1, 1) := by decide +kernel
theorem dX10_tell_59 : decode cX10_tell 59 = .ok (.iload_n 2, 1) := by decide +kernel
theorem dX10_tell_60 : decode cX10_tell 60 = .ok (.invokevirtual 237, 3) := by decide +kernel
theorem dX10_tell_63 : decode cX10_tell 63 = .ok (.aload_n 0, 1) := by decide +kernel
theorem dX10_tell_64 : decode cX10_tell 64 = .ok (.getfield 24, 3) := by decide +kernel
theorem dX10_tell_67 : decode cX10_tell 67 = .ok (.iload_n 1, 1) := by decide +kernel
theorem dX10_tell_68 : decode cX10_tell 68 = .ok (.iload_n 2, 1) := by decide +kernel
theorem dX10_tell_69 : decode cX10_tell 69 = .ok (.iconst 2, 1) := by decide +kernel
theorem dX10_tell_70 : decode cX10_tell 70 = .ok (.invokevirtual 101, 3) := by decide +kernel
theorem dX10_tell_73 : decode cX10_tell 73 = .ok (.iconst 0, 1) := by decide +kernel
theorem dX10_tell_74 : decode cX10_tell 74 = .ok (.istore 5, 2) := by decide +kernel
theorem dX10_tell_76 : decode cX10_tell 76 = .ok (.iconst 0, 1) := by decide +kernel
theorem dX10_tell_77 : decode cX10_tell 77 = .ok (.istore 6, 2) := by decide +kernel
theorem dX10_tell_79 : decode cX10_tell 79 = .ok (.iload 6, 2) := by decide +kernel
theorem dX10_tell_81 : decode cX10_tell 81 = .ok (.iconst 3, 1) := by decide +kernel
theorem dX10_tell_82 : decode cX10_tell 82 = .ok (.if_icmp .ge 54, 3) := by decide +kernel
theorem dX10_tell_85 : decode cX10_tell 85 = .ok (.aload_n 0, 1) := by decide +kernel
theorem dX10_tell_86 : decode cX10_tell 86 = .ok (.getfield 24, 3) := by decide +kernel
theorem dX10_tell_89 : decode cX10_tell 89 = .ok (.invokevirtual 125, 3) := by decide +kernel
theorem dX10_tell_92 : decode cX10_tell 92 = .ok (.iload 6, 2) := by decide +kernel
theorem dX10_tell_94 : decode cX10_tell 94 = .ok (.invokevirtual 240, 3) := by decide +kernel
theorem dX10_tell_97 : decode cX10_tell 97 = .ok (.istore 7, 2) := by decide +kernel
theorem dX10_tell_99 : decode cX10_tell 99 = .ok (.aload_n 0, 1) := by decide +kernel
theorem dX10_tell_100 : decode cX10_tell 100 = .ok (.getfield 20, 3) := by decide +kernel
theorem dX10_tell_103 : decode cX10_tell 103 = .ok (.iload 7, 2) := by decide +kernel
theorem dX10_tell_105 : decode cX10_tell 105 = .ok (.invokevirtual 243, 3) := by decide +kernel
theorem dX10_tell_108 : decode cX10_tell 108 = .ok (.ifCond .eq 22, 3) := by decide +kernel
theorem dX10_tell_111 : decode cX10_tell 111 = .ok (.aload_n 0, 1) := by decide +kernel
theorem dX10_tell_112 : decode cX10_tell 112 = .ok (.getfield 57, 3) := by decide +kernel
theorem dX10_tell_115 : decode cX10_tell 115 = .ok (.iload 7, 2) := by decide +kernel
theorem dX10_tell_117 : decode cX10_tell 117 = .ok (.iload_n 2, 1) := by decide +kernel
theorem dX10_tell_118 : decode cX10_tell 118 = .ok (.iload_n 3, 1) := by decide +kernel
theorem dX10_tell_119 : decode cX10_tell 119 = .ok (.iload 4, 2) := by decide +kernel
theorem dX10_tell_121 : decode cX10_tell 121 = .ok (.invokevirtual 246, 3) := by decide +kernel
theorem dX10_tell_124 : decode cX10_tell 124 = .ok (.ifCond .eq 6, 3) := by decide +kernel
theorem dX10_tell_127 : decode cX10_tell 127 = .ok (.iinc 5 1, 3) := by decide +kernel
theorem dX10_tell_130 : decode cX10_tell 130 = .ok (.iinc 6 1, 3) := by decide +kernel
theorem dX10_tell_133 : decode cX10_tell 133 = .ok (.goto (-54), 3) := by decide +kernel
theorem dX10_tell_136 : decode cX10_tell 136 = .ok (.iload 5, 2) := by decide +kernel
theorem dX10_tell_138 : decode cX10_tell 138 = .ok (.ireturn, 1) := by decide +kernel
set_option maxRecDepth 20000 in
theorem ggX10_name_X10_needPeer : GoodIn wsX10_name wsX10_needPeer := goodIn_ca (goodIn_r _ [8, 9, 10, 2, 11, 12, 13, 14, 15, 16, 131, 132, 133, 134, 135, 136, 137, 138, 139, 140, 141, 142, 143, 144, 145] (by decide +kernel) (by decide +kernel)) (goodIn_sub (fun _ h => List.mem_cons_of_mem _ (List.mem_append_left _ (List.mem_append_left _ (List.mem_append_right _ h)))) (by decide +kernel))
set_option maxRecDepth 20000 in
theorem gX10_name_X10_needPeer : GoodIn wsX10_name (wsV RX10 72 RX10 yX10_needPeer wsX10_needPeer) := goodIn_app (goodIn_of _ (by decide +kernel)) ggX10_name_X10_needPeer
set_option maxRecDepth 20000 in
theorem ggX10_name_X10_needBelow : GoodIn wsX10_name wsX10_needBelow := goodIn_ca (goodIn_r _ [19, 20, 21] (by decide +kernel) (by decide +kernel)) (goodIn_sub (fun _ h => List.mem_cons_of_mem _ (List.mem_append_left _ (List.mem_append_right _ h))) (by decide +kernel))
set_option maxRecDepth 20000 in
theorem gX10_name_X10_needBelow : GoodIn wsX10_name (va_wsS RX10 68 yX10_needBelow wsX10_needBelow) := goodIn_app (goodIn_of _ (by decide +kernel)) ggX10_name_X10_needBelow
set_option maxRecDepth 20000 in
theorem ggX10_name_X10_needOnline : GoodIn wsX10_name wsX10_needOnline := goodIn_ca (goodIn_r _ [25, 26, 27, 2, 28, 29, 30, 14, 31, 32, 33, 12, 13, 15, 16, 131, 132, 133, 134, 135, 136, 137, 138, 139, 140, 141, 142, 143, 144, 145] (by decide +kernel) (by decide +kernel)) (goodIn_sub (fun _ h => List.mem_cons_of_mem _ (List.mem_append_right _ h)) (by decide +kernel))
set_option maxRecDepth 20000 in
theorem gX10_name_X10_needOnline : GoodIn wsX10_name (wsV RX10 91 RX10 yX10_needOnline wsX10_needOnline) := goodIn_app (goodIn_of _ (by decide +kernel)) ggX10_name_X10_needOnline
set_option maxRecDepth 20000 in
theorem ggX10_name_X7_run : GoodIn wsX10_name wsX7_run := goodIn_r _ [38, 39, 40, 41, 42, 43, 44, 37, 45, 46, 47, 48, 49, 50, 51, 52, 53, 54, 55, 56, 57, 58, 14, 59, 60, 61, 62, 63, 33, 12, 13, 15, 16, 64, 65, 66, 67, 68, 69, 70, 71, 72, 73, 74, 75, 76, 77, 78, 79, 80, 81, 82, 83, 84, 85, 86, 87, 88, 89, 90, 91, 92, 93, 94, 95, 32, 96, 97, 98, 99, 100, 101, 102, 103, 104, 105, 106, 146, 147, 148, 149, 150, 151, 152, 153, 154, 155, 141, 142, 143, 144, 145] (by decide +kernel) (by decide +kernel)
set_option maxRecDepth 20000 in
theorem gX10_name_X7_run : GoodIn wsX10_name (wsV RX10 101 RX7 yX7_run wsX7_run) := goodIn_app (goodIn_of _ (by decide +kernel)) ggX10_name_X7_run
set_option maxRecDepth 20000 in
theorem ggX10_name_X7_result : GoodIn wsX10_name wsX7_result := goodIn_r _ [110, 46, 146, 147, 148, 149, 150, 151, 152] (by decide +kernel) (by decide +kernel)
set_option maxRecDepth 20000 in
theorem gX10_name_X7_result : GoodIn wsX10_name (wsV RX10 125 RX7 yX7_result wsX7_result) := goodIn_app (goodIn_of _ (by decide +kernel)) ggX10_name_X7_result
set_option maxRecDepth 20000 in
theorem ggX10_name_X6_at : GoodIn wsX10_name wsX6_at := goodIn_r _ [73, 55, 69, 153, 154, 155] (by decide +kernel) (by decide +kernel)
set_option maxRecDepth 20000 in
theorem gX10_name_X6_at : GoodIn wsX10_name (wsV RX10 240 RX6 yX6_at wsX6_at) := goodIn_app (goodIn_of _ (by decide +kernel)) ggX10_name_X6_at
set_option maxRecDepth 20000 in
theorem ggX10_name_X5_isHonest : GoodIn wsX10_name wsX5_isHonest := goodIn_r _ [115, 61, 33, 12, 13, 14, 15, 16, 141, 142, 143, 144, 145] (by decide +kernel) (by decide +kernel)
set_option maxRecDepth 20000 in
theorem gX10_name_X5_isHonest : GoodIn wsX10_name (wsV RX10 243 RX5 yX5_isHonest wsX5_isHonest) := goodIn_app (goodIn_of _ (by decide +kernel)) ggX10_name_X5_isHonest
set_option maxRecDepth 20000 in
theorem ggX10_name_X4_keptBy : GoodIn wsX10_name wsX4_keptBy := goodIn_r _ [120, 121, 122, 123, 119, 124, 125, 126, 127, 156, 157] (by decide +kernel) (by decide +kernel)
set_option maxRecDepth 20000 in
theorem gX10_name_X4_keptBy : GoodIn wsX10_name (wsV RX10 250 RX4 yX4_keptBy wsX4_keptBy) := goodIn_app (goodIn_of _ (by decide +kernel)) ggX10_name_X4_keptBy
set_option maxRecDepth 20000 in
theorem ggX10_name_X4_isNewer : GoodIn wsX10_name wsX4_isNewer := goodIn_r _ [130] (by decide +kernel) (by decide +kernel)
set_option maxRecDepth 20000 in
theorem gX10_name_X4_isNewer : GoodIn wsX10_name (va_wsS RX10 253 yX4_isNewer wsX4_isNewer) := goodIn_app (goodIn_of _ (by decide +kernel)) ggX10_name_X4_isNewer
theorem dX10_name_0 : decode cX10_name 0 = .ok (.aload_n 0, 1) := by decide +kernel
theorem dX10_name_1 : decode cX10_name 1 = .ok (.iload_n 1, 1) := by decide +kernel
theorem dX10_name_2 : decode cX10_name 2 = .ok (.invokevirtual 72, 3) := by decide +kernel
theorem dX10_name_5 : decode cX10_name 5 = .ok (.iload_n 2, 1) := by decide +kernel
theorem dX10_name_6 : decode cX10_name 6 = .ok (.sipush 256, 3) := by decide +kernel
theorem dX10_name_9 : decode cX10_name 9 = .ok (.invokestatic 68, 3) := by decide +kernel
theorem dX10_name_12 : decode cX10_name 12 = .ok (.aload_n 0, 1) := by decide +kernel
theorem dX10_name_13 : decode cX10_name 13 = .ok (.iload_n 1, 1) := by decide +kernel
theorem dX10_name_14 : decode cX10_name 14 = .ok (.invokevirtual 91, 3) := by decide +kernel
theorem dX10_name_17 : decode cX10_name 17 = .ok (.aload_n 0, 1) := by decide +kernel
theorem dX10_name_18 : decode cX10_name 18 = .ok (.getfield 24, 3) := by decide +kernel
theorem dX10_name_21 : decode cX10_name 21 = .ok (.iload_n 1, 1) := by decide +kernel
theorem dX10_name_22 : decode cX10_name 22 = .ok (.iload_n 2, 1) := by decide +kernel
theorem dX10_name_23 : decode cX10_name 23 = .ok (.iconst 2, 1) := by decide +kernel
theorem dX10_name_24 : decode cX10_name 24 = .ok (.invokevirtual 101, 3) := by decide +kernel
theorem dX10_name_27 : decode cX10_name 27 = .ok (.iconst (-1), 1) := by decide +kernel
theorem dX10_name_28 : decode cX10_name 28 = .ok (.istore_n 3, 1) := by decide +kernel
theorem dX10_name_29 : decode cX10_name 29 = .ok (.iconst 0, 1) := by decide +kernel
theorem dX10_name_30 : decode cX10_name 30 = .ok (.istore 4, 2) := by decide +kernel
theorem dX10_name_32 : decode cX10_name 32 = .ok (.iload 4, 2) := by decide +kernel
theorem dX10_name_34 : decode cX10_name 34 = .ok (.iconst 3, 1) := by decide +kernel
theorem dX10_name_35 : decode cX10_name 35 = .ok (.if_icmp .ge 63, 3) := by decide +kernel
theorem dX10_name_38 : decode cX10_name 38 = .ok (.aload_n 0, 1) := by decide +kernel
theorem dX10_name_39 : decode cX10_name 39 = .ok (.getfield 24, 3) := by decide +kernel
theorem dX10_name_42 : decode cX10_name 42 = .ok (.invokevirtual 125, 3) := by decide +kernel
theorem dX10_name_45 : decode cX10_name 45 = .ok (.iload 4, 2) := by decide +kernel
theorem dX10_name_47 : decode cX10_name 47 = .ok (.invokevirtual 240, 3) := by decide +kernel
theorem dX10_name_50 : decode cX10_name 50 = .ok (.istore 5, 2) := by decide +kernel
theorem dX10_name_52 : decode cX10_name 52 = .ok (.aload_n 0, 1) := by decide +kernel
theorem dX10_name_53 : decode cX10_name 53 = .ok (.getfield 20, 3) := by decide +kernel
theorem dX10_name_56 : decode cX10_name 56 = .ok (.iload 5, 2) := by decide +kernel
theorem dX10_name_58 : decode cX10_name 58 = .ok (.invokevirtual 243, 3) := by decide +kernel
theorem dX10_name_61 : decode cX10_name 61 = .ok (.ifCond .eq 16, 3) := by decide +kernel
theorem dX10_name_64 : decode cX10_name 64 = .ok (.aload_n 0, 1) := by decide +kernel
theorem dX10_name_65 : decode cX10_name 65 = .ok (.getfield 57, 3) := by decide +kernel
theorem dX10_name_68 : decode cX10_name 68 = .ok (.iload 5, 2) := by decide +kernel
theorem dX10_name_70 : decode cX10_name 70 = .ok (.iload_n 2, 1) := by decide +kernel
theorem dX10_name_71 : decode cX10_name 71 = .ok (.invokevirtual 250, 3) := by decide +kernel
theorem dX10_name_74 : decode cX10_name 74 = .ok (.goto 4, 3) := by decide +kernel
theorem dX10_name_77 : decode cX10_name 77 = .ok (.iconst (-1), 1) := by decide +kernel
theorem dX10_name_78 : decode cX10_name 78 = .ok (.istore 6, 2) := by decide +kernel
theorem dX10_name_80 : decode cX10_name 80 = .ok (.iload 6, 2) := by decide +kernel
theorem dX10_name_82 : decode cX10_name 82 = .ok (.iload_n 3, 1) := by decide +kernel
theorem dX10_name_83 : decode cX10_name 83 = .ok (.invokestatic 253, 3) := by decide +kernel
theorem dX10_name_86 : decode cX10_name 86 = .ok (.ifCond .eq 6, 3) := by decide +kernel
theorem dX10_name_89 : decode cX10_name 89 = .ok (.iload 6, 2) := by decide +kernel
theorem dX10_name_91 : decode cX10_name 91 = .ok (.istore_n 3, 1) := by decide +kernel
theorem dX10_name_92 : decode cX10_name 92 = .ok (.iinc 4 1, 3) := by decide +kernel
theorem dX10_name_95 : decode cX10_name 95 = .ok (.goto (-63), 3) := by decide +kernel
theorem dX10_name_98 : decode cX10_name 98 = .ok (.iload_n 3, 1) := by decide +kernel
theorem dX10_name_99 : decode cX10_name 99 = .ok (.ireturn, 1) := by decide +kernel
set_option maxRecDepth 20000 in
theorem ggX10_spread_X10_needPeer : GoodIn wsX10_spread wsX10_needPeer := goodIn_ca (goodIn_r _ [6, 7, 8, 9, 10, 11, 12, 13, 14, 15, 58, 59, 60, 61, 62, 63, 64, 65, 66, 67, 68, 69, 70, 71, 72] (by decide +kernel) (by decide +kernel)) (goodIn_sub (fun _ h => List.mem_cons_of_mem _ (List.mem_append_left _ (List.mem_append_right _ h))) (by decide +kernel))
set_option maxRecDepth 20000 in
theorem gX10_spread_X10_needPeer : GoodIn wsX10_spread (wsV RX10 72 RX10 yX10_needPeer wsX10_needPeer) := goodIn_app (goodIn_of _ (by decide +kernel)) ggX10_spread_X10_needPeer
set_option maxRecDepth 20000 in
theorem ggX10_spread_X10_needOnline : GoodIn wsX10_spread wsX10_needOnline := goodIn_ca (goodIn_r _ [19, 20, 21, 9, 22, 23, 24, 13, 25, 26, 27, 11, 12, 14, 15, 58, 59, 60, 61, 62, 63, 64, 65, 66, 67, 68, 69, 70, 71, 72] (by decide +kernel) (by decide +kernel)) (goodIn_sub (fun _ h => List.mem_cons_of_mem _ (List.mem_append_right _ h)) (by decide +kernel))
set_option maxRecDepth 20000 in
theorem gX10_spread_X10_needOnline : GoodIn wsX10_spread (wsV RX10 91 RX10 yX10_needOnline wsX10_needOnline) := goodIn_app (goodIn_of _ (by decide +kernel)) ggX10_spread_X10_needOnline
set_option maxRecDepth 20000 in
theorem ggX10_spread_X3_run : GoodIn wsX10_spread wsX3_run := goodIn_r _ [32, 33, 34, 35, 36, 37, 31, 38, 39, 40, 41, 42, 13, 43, 44, 27, 11, 12, 14, 15, 45, 46, 47, 48, 49, 50, 51, 52, 53, 54, 55, 56, 57, 26, 73, 74, 75, 68, 69, 70, 71, 72] (by decide +kernel) (by decide +kernel)
set_option maxRecDepth 20000 in
theorem gX10_spread_X3_run : GoodIn wsX10_spread (wsV RX10 256 RX3 yX3_run wsX3_run) := goodIn_app (goodIn_of _ (by decide +kernel)) ggX10_spread_X3_run
theorem dX10_spread_0 : decode cX10_spread 0 = .ok (.aload_n 0, 1) := by decide +kernel
theorem dX10_spread_1 : decode cX10_spread 1 = .ok (.iload_n 1, 1) := by decide +kernel
theorem dX10_spread_2 : decode cX10_spread 2 = .ok (.invokevirtual 72, 3) := by decide +kernel
theorem dX10_spread_5 : decode cX10_spread 5 = .ok (.aload_n 0, 1) := by decide +kernel
theorem dX10_spread_6 : decode cX10_spread 6 = .ok (.iload_n 1, 1) := by decide +kernel
theorem dX10_spread_7 : decode cX10_spread 7 = .ok (.invokevirtual 91, 3) := by decide +kernel
theorem dX10_spread_10 : decode cX10_spread 10 = .ok (.aload_n 0, 1) := by decide +kernel
theorem dX10_spread_11 : decode cX10_spread 11 = .ok (.getfield 64, 3) := by decide +kernel
theorem dX10_spread_14 : decode cX10_spread 14 = .ok (.iload_n 1, 1) := by decide +kernel
theorem dX10_spread_15 : decode cX10_spread 15 = .ok (.invokevirtual 256, 3) := by decide +kernel
theorem dX10_spread_18 : decode cX10_spread 18 = .ok (.ireturn, 1) := by decide +kernel
set_option maxRecDepth 20000 in
theorem ggX10_rounds_X3_roundCount : GoodIn wsX10_rounds wsX3_roundCount := goodIn_r _ [6, 7, 18, 19, 20] (by decide +kernel) (by decide +kernel)
set_option maxRecDepth 20000 in
theorem gX10_rounds_X3_roundCount : GoodIn wsX10_rounds (wsV RX10 258 RX3 yX3_roundCount wsX3_roundCount) := goodIn_app (goodIn_of _ (by decide +kernel)) ggX10_rounds_X3_roundCount
theorem dX10_rounds_0 : decode cX10_rounds 0 = .ok (.aload_n 0, 1) := by decide +kernel
theorem dX10_rounds_1 : decode cX10_rounds 1 = .ok (.getfield 64, 3) := by decide +kernel
theorem dX10_rounds_4 : decode cX10_rounds 4 = .ok (.invokevirtual 258, 3) := by decide +kernel
theorem dX10_rounds_7 : decode cX10_rounds 7 = .ok (.ireturn, 1) := by decide +kernel
set_option maxRecDepth 20000 in
theorem ggX10_owes_X10_needPeer : GoodIn wsX10_owes wsX10_needPeer := goodIn_ca (goodIn_r _ [6, 7, 8, 9, 10, 11, 12, 13, 14, 15, 25, 26, 27, 28, 29, 30, 31, 32, 33, 34, 35, 36, 37, 38, 39] (by decide +kernel) (by decide +kernel)) (goodIn_sub (fun _ h => List.mem_cons_of_mem _ (List.mem_append_right _ h)) (by decide +kernel))
set_option maxRecDepth 20000 in
theorem gX10_owes_X10_needPeer : GoodIn wsX10_owes (wsV RX10 72 RX10 yX10_needPeer wsX10_needPeer) := goodIn_app (goodIn_of _ (by decide +kernel)) ggX10_owes_X10_needPeer
set_option maxRecDepth 20000 in
theorem ggX10_owes_X2_debt : GoodIn wsX10_owes wsX2_debt := goodIn_r _ [20, 21, 22, 23, 19, 24, 40] (by decide +kernel) (by decide +kernel)
set_option maxRecDepth 20000 in
theorem gX10_owes_X2_debt : GoodIn wsX10_owes (wsV RX10 261 RX2 yX2_debt wsX2_debt) := goodIn_app (goodIn_of _ (by decide +kernel)) ggX10_owes_X2_debt
theorem dX10_owes_0 : decode cX10_owes 0 = .ok (.aload_n 0, 1) := by decide +kernel
theorem dX10_owes_1 : decode cX10_owes 1 = .ok (.iload_n 1, 1) := by decide +kernel
theorem dX10_owes_2 : decode cX10_owes 2 = .ok (.invokevirtual 72, 3) := by decide +kernel
theorem dX10_owes_5 : decode cX10_owes 5 = .ok (.aload_n 0, 1) := by decide +kernel
theorem dX10_owes_6 : decode cX10_owes 6 = .ok (.iload_n 2, 1) := by decide +kernel
theorem dX10_owes_7 : decode cX10_owes 7 = .ok (.invokevirtual 72, 3) := by decide +kernel
theorem dX10_owes_10 : decode cX10_owes 10 = .ok (.aload_n 0, 1) := by decide +kernel
theorem dX10_owes_11 : decode cX10_owes 11 = .ok (.getfield 28, 3) := by decide +kernel
theorem dX10_owes_14 : decode cX10_owes 14 = .ok (.iload_n 1, 1) := by decide +kernel
theorem dX10_owes_15 : decode cX10_owes 15 = .ok (.iload_n 2, 1) := by decide +kernel
theorem dX10_owes_16 : decode cX10_owes 16 = .ok (.invokevirtual 261, 3) := by decide +kernel
theorem dX10_owes_19 : decode cX10_owes 19 = .ok (.ireturn, 1) := by decide +kernel
set_option maxRecDepth 20000 in
theorem ggX10_net_X2_lessenRings : GoodIn wsX10_net wsX2_lessenRings := goodIn_r _ [6, 7, 8, 9, 5, 10, 11, 12, 13, 14, 15, 16, 17, 18, 19, 20, 21, 22, 23, 24, 25, 26, 27, 28, 29, 30, 41] (by decide +kernel) (by decide +kernel)
set_option maxRecDepth 20000 in
theorem gX10_net_X2_lessenRings : GoodIn wsX10_net (wsV RX10 264 RX2 yX2_lessenRings wsX2_lessenRings) := goodIn_app (goodIn_of _ (by decide +kernel)) ggX10_net_X2_lessenRings
theorem dX10_net_0 : decode cX10_net 0 = .ok (.aload_n 0, 1) := by decide +kernel
theorem dX10_net_1 : decode cX10_net 1 = .ok (.getfield 28, 3) := by decide +kernel
theorem dX10_net_4 : decode cX10_net 4 = .ok (.invokevirtual 264, 3) := by decide +kernel
theorem dX10_net_7 : decode cX10_net 7 = .ok (.ireturn, 1) := by decide +kernel
set_option maxRecDepth 20000 in
theorem ggX10_worth_X10_needPeer : GoodIn wsX10_worth wsX10_needPeer := goodIn_ca (goodIn_r _ [6, 7, 8, 9, 10, 11, 12, 13, 14, 15, 29, 30, 31, 32, 33, 34, 35, 36, 37, 38, 39, 40, 41, 42, 43] (by decide +kernel) (by decide +kernel)) (goodIn_sub (fun _ h => List.mem_cons_of_mem _ (List.mem_append_right _ h)) (by decide +kernel))
set_option maxRecDepth 20000 in
theorem gX10_worth_X10_needPeer : GoodIn wsX10_worth (wsV RX10 72 RX10 yX10_needPeer wsX10_needPeer) := goodIn_app (goodIn_of _ (by decide +kernel)) ggX10_worth_X10_needPeer
set_option maxRecDepth 20000 in
theorem ggX10_worth_X2_balance : GoodIn wsX10_worth wsX2_balance := goodIn_r _ [20, 21, 22, 23, 19, 24, 25, 26, 27, 28, 44] (by decide +kernel) (by decide +kernel)
set_option maxRecDepth 20000 in
theorem gX10_worth_X2_balance : GoodIn wsX10_worth (wsV RX10 267 RX2 yX2_balance wsX2_balance) := goodIn_app (goodIn_of _ (by decide +kernel)) ggX10_worth_X2_balance
theorem dX10_worth_0 : decode cX10_worth 0 = .ok (.aload_n 0, 1) := by decide +kernel
theorem dX10_worth_1 : decode cX10_worth 1 = .ok (.iload_n 1, 1) := by decide +kernel
theorem dX10_worth_2 : decode cX10_worth 2 = .ok (.invokevirtual 72, 3) := by decide +kernel
theorem dX10_worth_5 : decode cX10_worth 5 = .ok (.aload_n 0, 1) := by decide +kernel
theorem dX10_worth_6 : decode cX10_worth 6 = .ok (.getfield 28, 3) := by decide +kernel
theorem dX10_worth_9 : decode cX10_worth 9 = .ok (.iload_n 1, 1) := by decide +kernel
theorem dX10_worth_10 : decode cX10_worth 10 = .ok (.invokevirtual 267, 3) := by decide +kernel
theorem dX10_worth_13 : decode cX10_worth 13 = .ok (.ireturn, 1) := by decide +kernel
theorem dX10_needBelow_0 : decode cX10_needBelow 0 = .ok (.iload_n 0, 1) := by decide +kernel
theorem dX10_needBelow_1 : decode cX10_needBelow 1 = .ok (.ifCond .lt 8, 3) := by decide +kernel
theorem dX10_needBelow_4 : decode cX10_needBelow 4 = .ok (.iload_n 0, 1) := by decide +kernel
theorem dX10_needBelow_5 : decode cX10_needBelow 5 = .ok (.iload_n 1, 1) := by decide +kernel
theorem dX10_needBelow_6 : decode cX10_needBelow 6 = .ok (.if_icmp .lt 14, 3) := by decide +kernel
theorem dX10_needBelow_9 : decode cX10_needBelow 9 = .ok (.new 120, 3) := by decide +kernel
theorem dX10_needBelow_12 : decode cX10_needBelow 12 = .ok (.dup, 1) := by decide +kernel
theorem dX10_needBelow_13 : decode cX10_needBelow 13 = .ok (.ldc_w 270, 3) := by decide +kernel
theorem dX10_needBelow_16 : decode cX10_needBelow 16 = .ok (.invokespecial 124, 3) := by decide +kernel
theorem dX10_needBelow_19 : decode cX10_needBelow 19 = .ok (.athrow, 1) := by decide +kernel
theorem dX10_needBelow_20 : decode cX10_needBelow 20 = .ok (.return_, 1) := by decide +kernel
set_option maxRecDepth 20000 in
theorem ggX10_needPeer_X5_has : GoodIn wsX10_needPeer wsX5_has := goodIn_r _ [8, 9, 20, 21, 22, 23, 24] (by decide +kernel) (by decide +kernel)
set_option maxRecDepth 20000 in
theorem gX10_needPeer_X5_has : GoodIn wsX10_needPeer (wsV RX10 272 RX5 yX5_has wsX5_has) := goodIn_app (goodIn_of _ (by decide +kernel)) ggX10_needPeer_X5_has
theorem dX10_needPeer_0 : decode cX10_needPeer 0 = .ok (.aload_n 0, 1) := by decide +kernel
theorem dX10_needPeer_1 : decode cX10_needPeer 1 = .ok (.getfield 20, 3) := by decide +kernel
theorem dX10_needPeer_4 : decode cX10_needPeer 4 = .ok (.iload_n 1, 1) := by decide +kernel
theorem dX10_needPeer_5 : decode cX10_needPeer 5 = .ok (.invokevirtual 272, 3) := by decide +kernel
theorem dX10_needPeer_8 : decode cX10_needPeer 8 = .ok (.ifCond .ne 14, 3) := by decide +kernel
theorem dX10_needPeer_11 : decode cX10_needPeer 11 = .ok (.new 112, 3) := by decide +kernel
theorem dX10_needPeer_14 : decode cX10_needPeer 14 = .ok (.dup, 1) := by decide +kernel
theorem dX10_needPeer_15 : decode cX10_needPeer 15 = .ok (.ldc_w 275, 3) := by decide +kernel
theorem dX10_needPeer_18 : decode cX10_needPeer 18 = .ok (.invokespecial 116, 3) := by decide +kernel
theorem dX10_needPeer_21 : decode cX10_needPeer 21 = .ok (.athrow, 1) := by decide +kernel
theorem dX10_needPeer_22 : decode cX10_needPeer 22 = .ok (.return_, 1) := by decide +kernel
set_option maxRecDepth 20000 in
theorem ggX10_needOnline_X5_isOnline : GoodIn wsX10_needOnline wsX5_isOnline := goodIn_r _ [8, 9, 10, 11, 12, 7, 13, 14, 25, 26, 27, 28, 29] (by decide +kernel) (by decide +kernel)
set_option maxRecDepth 20000 in
theorem gX10_needOnline_X5_isOnline : GoodIn wsX10_needOnline (wsV RX10 105 RX5 yX5_isOnline wsX5_isOnline) := goodIn_app (goodIn_of _ (by decide +kernel)) ggX10_needOnline_X5_isOnline
theorem dX10_needOnline_0 : decode cX10_needOnline 0 = .ok (.aload_n 0, 1) := by decide +kernel
theorem dX10_needOnline_1 : decode cX10_needOnline 1 = .ok (.getfield 20, 3) := by decide +kernel
theorem dX10_needOnline_4 : decode cX10_needOnline 4 = .ok (.iload_n 1, 1) := by decide +kernel
theorem dX10_needOnline_5 : decode cX10_needOnline 5 = .ok (.invokevirtual 105, 3) := by decide +kernel
theorem dX10_needOnline_8 : decode cX10_needOnline 8 = .ok (.ifCond .ne 14, 3) := by decide +kernel
theorem dX10_needOnline_11 : decode cX10_needOnline 11 = .ok (.new 84, 3) := by decide +kernel
theorem dX10_needOnline_14 : decode cX10_needOnline 14 = .ok (.dup, 1) := by decide +kernel
theorem dX10_needOnline_15 : decode cX10_needOnline 15 = .ok (.ldc_w 277, 3) := by decide +kernel
theorem dX10_needOnline_18 : decode cX10_needOnline 18 = .ok (.invokespecial 88, 3) := by decide +kernel
theorem dX10_needOnline_21 : decode cX10_needOnline 21 = .ok (.athrow, 1) := by decide +kernel
theorem dX10_needOnline_22 : decode cX10_needOnline 22 = .ok (.return_, 1) := by decide +kernel
theorem dX10_needPiece_0 : decode cX10_needPiece 0 = .ok (.iload_n 0, 1) := by decide +kernel
theorem dX10_needPiece_1 : decode cX10_needPiece 1 = .ok (.ifCond .lt 9, 3) := by decide +kernel
theorem dX10_needPiece_4 : decode cX10_needPiece 4 = .ok (.iload_n 0, 1) := by decide +kernel
theorem dX10_needPiece_5 : decode cX10_needPiece 5 = .ok (.bipush 6, 2) := by decide +kernel
theorem dX10_needPiece_7 : decode cX10_needPiece 7 = .ok (.if_icmp .lt 14, 3) := by decide +kernel
theorem dX10_needPiece_10 : decode cX10_needPiece 10 = .ok (.new 112, 3) := by decide +kernel
theorem dX10_needPiece_13 : decode cX10_needPiece 13 = .ok (.dup, 1) := by decide +kernel
theorem dX10_needPiece_14 : decode cX10_needPiece 14 = .ok (.ldc_w 279, 3) := by decide +kernel
theorem dX10_needPiece_17 : decode cX10_needPiece 17 = .ok (.invokespecial 116, 3) := by decide +kernel
theorem dX10_needPiece_20 : decode cX10_needPiece 20 = .ok (.athrow, 1) := by decide +kernel
theorem dX10_needPiece_21 : decode cX10_needPiece 21 = .ok (.return_, 1) := by decide +kernel
theorem dX10_fileAt_0 : decode cX10_fileAt 0 = .ok (.iload_n 1, 1) := by decide +kernel
theorem dX10_fileAt_1 : decode cX10_fileAt 1 = .ok (.ifCond .lt 21, 3) := by decide +kernel
theorem dX10_fileAt_4 : decode cX10_fileAt 4 = .ok (.iload_n 1, 1) := by decide +kernel
theorem dX10_fileAt_5 : decode cX10_fileAt 5 = .ok (.aload_n 0, 1) := by decide +kernel
theorem dX10_fileAt_6 : decode cX10_fileAt 6 = .ok (.getfield 41, 3) := by decide +kernel
theorem dX10_fileAt_9 : decode cX10_fileAt 9 = .ok (.arraylength, 1) := by decide +kernel
theorem dX10_fileAt_10 : decode cX10_fileAt 10 = .ok (.if_icmp .ge 12, 3) := by decide +kernel
theorem dX10_fileAt_13 : decode cX10_fileAt 13 = .ok (.aload_n 0, 1) := by decide +kernel
theorem dX10_fileAt_14 : decode cX10_fileAt 14 = .ok (.getfield 41, 3) := by decide +kernel
theorem dX10_fileAt_17 : decode cX10_fileAt 17 = .ok (.iload_n 1, 1) := by decide +kernel
theorem dX10_fileAt_18 : decode cX10_fileAt 18 = .ok (.aaload, 1) := by decide +kernel
theorem dX10_fileAt_19 : decode cX10_fileAt 19 = .ok (.goto 4, 3) := by decide +kernel
theorem dX10_fileAt_22 : decode cX10_fileAt 22 = .ok (.aconst_null, 1) := by decide +kernel
theorem dX10_fileAt_23 : decode cX10_fileAt 23 = .ok (.astore_n 2, 1) := by decide +kernel
theorem dX10_fileAt_24 : decode cX10_fileAt 24 = .ok (.aload_n 2, 1) := by decide +kernel
theorem dX10_fileAt_25 : decode cX10_fileAt 25 = .ok (.ifnonnull 14, 3) := by decide +kernel
theorem dX10_fileAt_28 : decode cX10_fileAt 28 = .ok (.new 112, 3) := by decide +kernel
theorem dX10_fileAt_31 : decode cX10_fileAt 31 = .ok (.dup, 1) := by decide +kernel
theorem dX10_fileAt_32 : decode cX10_fileAt 32 = .ok (.ldc_w 281, 3) := by decide +kernel
theorem dX10_fileAt_35 : decode cX10_fileAt 35 = .ok (.invokespecial 116, 3) := by decide +kernel
theorem dX10_fileAt_38 : decode cX10_fileAt 38 = .ok (.athrow, 1) := by decide +kernel
theorem dX10_fileAt_39 : decode cX10_fileAt 39 = .ok (.aload_n 2, 1) := by decide +kernel
theorem dX10_fileAt_40 : decode cX10_fileAt 40 = .ok (.areturn, 1) := by decide +kernel
theorem dX11_init_0 : decode cX11_init 0 = .ok (.aload_n 0, 1) := by decide +kernel
theorem dX11_init_1 : decode cX11_init 1 = .ok (.invokespecial 1, 3) := by decide +kernel
theorem dX11_init_4 : decode cX11_init 4 = .ok (.aload_n 0, 1) := by decide +kernel
theorem dX11_init_5 : decode cX11_init 5 = .ok (.bipush 16, 2) := by decide +kernel
theorem dX11_init_7 : decode cX11_init 7 = .ok (.newarray .int, 2) := by decide +kernel
theorem dX11_init_9 : decode cX11_init 9 = .ok (.putfield 7, 3) := by decide +kernel
theorem dX11_init_12 : decode cX11_init 12 = .ok (.aload_n 0, 1) := by decide +kernel
theorem dX11_init_13 : decode cX11_init 13 = .ok (.bipush 16, 2) := by decide +kernel
theorem dX11_init_15 : decode cX11_init 15 = .ok (.newarray .int, 2) := by decide +kernel
theorem dX11_init_17 : decode cX11_init 17 = .ok (.putfield 13, 3) := by decide +kernel
theorem dX11_init_20 : decode cX11_init 20 = .ok (.aload_n 0, 1) := by decide +kernel
theorem dX11_init_21 : decode cX11_init 21 = .ok (.bipush 16, 2) := by decide +kernel
theorem dX11_init_23 : decode cX11_init 23 = .ok (.newarray .boolean, 2) := by decide +kernel
theorem dX11_init_25 : decode cX11_init 25 = .ok (.putfield 16, 3) := by decide +kernel
theorem dX11_init_28 : decode cX11_init 28 = .ok (.aload_n 0, 1) := by decide +kernel
theorem dX11_init_29 : decode cX11_init 29 = .ok (.sipush 256, 3) := by decide +kernel
theorem dX11_init_32 : decode cX11_init 32 = .ok (.newarray .int, 2) := by decide +kernel
theorem dX11_init_34 : decode cX11_init 34 = .ok (.putfield 20, 3) := by decide +kernel
theorem dX11_init_37 : decode cX11_init 37 = .ok (.aload_n 0, 1) := by decide +kernel
theorem dX11_init_38 : decode cX11_init 38 = .ok (.sipush 128, 3) := by decide +kernel
theorem dX11_init_41 : decode cX11_init 41 = .ok (.newarray .int, 2) := by decide +kernel
theorem dX11_init_43 : decode cX11_init 43 = .ok (.putfield 23, 3) := by decide +kernel
theorem dX11_init_46 : decode cX11_init 46 = .ok (.aload_n 0, 1) := by decide +kernel
theorem dX11_init_47 : decode cX11_init 47 = .ok (.bipush 32, 2) := by decide +kernel
theorem dX11_init_49 : decode cX11_init 49 = .ok (.newarray .boolean, 2) := by decide +kernel
theorem dX11_init_51 : decode cX11_init 51 = .ok (.putfield 26, 3) := by decide +kernel
theorem dX11_init_54 : decode cX11_init 54 = .ok (.aload_n 0, 1) := by decide +kernel
theorem dX11_init_55 : decode cX11_init 55 = .ok (.bipush 16, 2) := by decide +kernel
theorem dX11_init_57 : decode cX11_init 57 = .ok (.newarray .boolean, 2) := by decide +kernel
theorem dX11_init_59 : decode cX11_init 59 = .ok (.putfield 29, 3) := by decide +kernel
theorem dX11_init_62 : decode cX11_init 62 = .ok (.aload_n 0, 1) := by decide +kernel
theorem dX11_init_63 : decode cX11_init 63 = .ok (.bipush 16, 2) := by decide +kernel
theorem dX11_init_65 : decode cX11_init 65 = .ok (.newarray .boolean, 2) := by decide +kernel
theorem dX11_init_67 : decode cX11_init 67 = .ok (.putfield 32, 3) := by decide +kernel
theorem dX11_init_70 : decode cX11_init 70 = .ok (.aload_n 0, 1) := by decide +kernel
theorem dX11_init_71 : decode cX11_init 71 = .ok (.iconst 3, 1) := by decide +kernel
theorem dX11_init_72 : decode cX11_init 72 = .ok (.newarray .int, 2) := by decide +kernel
theorem dX11_init_74 : decode cX11_init 74 = .ok (.putfield 35, 3) := by decide +kernel
theorem dX11_init_77 : decode cX11_init 77 = .ok (.aload_n 0, 1) := by decide +kernel
theorem dX11_init_78 : decode cX11_init 78 = .ok (.iconst 3, 1) := by decide +kernel
theorem dX11_init_79 : decode cX11_init 79 = .ok (.newarray .int, 2) := by decide +kernel
theorem dX11_init_81 : decode cX11_init 81 = .ok (.putfield 38, 3) := by decide +kernel
theorem dX11_init_84 : decode cX11_init 84 = .ok (.aload_n 0, 1) := by decide +kernel
theorem dX11_init_85 : decode cX11_init 85 = .ok (.bipush 12, 2) := by decide +kernel
theorem dX11_init_87 : decode cX11_init 87 = .ok (.newarray .int, 2) := by decide +kernel
theorem dX11_init_89 : decode cX11_init 89 = .ok (.putfield 41, 3) := by decide +kernel
theorem dX11_init_92 : decode cX11_init 92 = .ok (.aload_n 0, 1) := by decide +kernel
theorem dX11_init_93 : decode cX11_init 93 = .ok (.bipush 72, 2) := by decide +kernel
theorem dX11_init_95 : decode cX11_init 95 = .ok (.newarray .int, 2) := by decide +kernel
theorem dX11_init_97 : decode cX11_init 97 = .ok (.putfield 44, 3) := by decide +kernel
theorem dX11_init_100 : decode cX11_init 100 = .ok (.aload_n 0, 1) := by decide +kernel
theorem dX11_init_101 : decode cX11_init 101 = .ok (.bipush 72, 2) := by decide +kernel
theorem dX11_init_103 : decode cX11_init 103 = .ok (.newarray .int, 2) := by decide +kernel
theorem dX11_init_105 : decode cX11_init 105 = .ok (.putfield 47, 3) := by decide +kernel
theorem dX11_init_108 : decode cX11_init 108 = .ok (.aload_n 0, 1) := by decide +kernel
theorem dX11_init_109 : decode cX11_init 109 = .ok (.bipush 72, 2) := by decide +kernel
theorem dX11_init_111 : decode cX11_init 111 = .ok (.newarray .boolean, 2) := by decide +kernel
theorem dX11_init_113 : decode cX11_init 113 = .ok (.putfield 50, 3) := by decide +kernel
theorem dX11_init_116 : decode cX11_init 116 = .ok (.aload_n 0, 1) := by decide +kernel
theorem dX11_init_117 : decode cX11_init 117 = .ok (.bipush 72, 2) := by decide +kernel
theorem dX11_init_119 : decode cX11_init 119 = .ok (.newarray .int, 2) := by decide +kernel
theorem dX11_init_121 : decode cX11_init 121 = .ok (.putfield 53, 3) := by decide +kernel
theorem dX11_init_124 : decode cX11_init 124 = .ok (.aload_n 0, 1) := by decide +kernel
theorem dX11_init_125 : decode cX11_init 125 = .ok (.bipush 16, 2) := by decide +kernel
theorem dX11_init_127 : decode cX11_init 127 = .ok (.newarray .int, 2) := by decide +kernel
theorem dX11_init_129 : decode cX11_init 129 = .ok (.putfield 56, 3) := by decide +kernel
theorem dX11_init_132 : decode cX11_init 132 = .ok (.aload_n 0, 1) := by decide +kernel
theorem dX11_init_133 : decode cX11_init 133 = .ok (.sipush 256, 3) := by decide +kernel
theorem dX11_init_136 : decode cX11_init 136 = .ok (.newarray .int, 2) := by decide +kernel
theorem dX11_init_138 : decode cX11_init 138 = .ok (.putfield 59, 3) := by decide +kernel
theorem dX11_init_141 : decode cX11_init 141 = .ok (.aload_n 0, 1) := by decide +kernel
theorem dX11_init_142 : decode cX11_init 142 = .ok (.sipush 4096, 3) := by decide +kernel
theorem dX11_init_145 : decode cX11_init 145 = .ok (.newarray .int, 2) := by decide +kernel
theorem dX11_init_147 : decode cX11_init 147 = .ok (.putfield 62, 3) := by decide +kernel
theorem dX11_init_150 : decode cX11_init 150 = .ok (.aload_n 0, 1) := by decide +kernel
theorem dX11_init_151 : decode cX11_init 151 = .ok (.sipush 4096, 3) := by decide +kernel
theorem dX11_init_154 : decode cX11_init 154 = .ok (.newarray .int, 2) := by decide +kernel
theorem dX11_init_156 : decode cX11_init 156 = .ok (.putfield 65, 3) := by decide +kernel
theorem dX11_init_159 : decode cX11_init 159 = .ok (.aload_n 0, 1) := by decide +kernel
theorem dX11_init_160 : decode cX11_init 160 = .ok (.bipush 16, 2) := by decide +kernel
theorem dX11_init_162 : decode cX11_init 162 = .ok (.newarray .int, 2) := by decide +kernel
theorem dX11_init_164 : decode cX11_init 164 = .ok (.putfield 68, 3) := by decide +kernel
theorem dX11_init_167 : decode cX11_init 167 = .ok (.aload_n 0, 1) := by decide +kernel
theorem dX11_init_168 : decode cX11_init 168 = .ok (.sipush 256, 3) := by decide +kernel
theorem dX11_init_171 : decode cX11_init 171 = .ok (.newarray .int, 2) := by decide +kernel
theorem dX11_init_173 : decode cX11_init 173 = .ok (.putfield 71, 3) := by decide +kernel
theorem dX11_init_176 : decode cX11_init 176 = .ok (.iconst 0, 1) := by decide +kernel
theorem dX11_init_177 : decode cX11_init 177 = .ok (.istore_n 1, 1) := by decide +kernel
theorem dX11_init_178 : decode cX11_init 178 = .ok (.iload_n 1, 1) := by decide +kernel
theorem dX11_init_179 : decode cX11_init 179 = .ok (.sipush 256, 3) := by decide +kernel
theorem dX11_init_182 : decode cX11_init 182 = .ok (.if_icmp .ge 16, 3) := by decide +kernel
theorem dX11_init_185 : decode cX11_init 185 = .ok (.aload_n 0, 1) := by decide +kernel
theorem dX11_init_186 : decode cX11_init 186 = .ok (.getfield 59, 3) := by decide +kernel
theorem dX11_init_189 : decode cX11_init 189 = .ok (.iload_n 1, 1) := by decide +kernel
theorem dX11_init_190 : decode cX11_init 190 = .ok (.iconst (-1), 1) := by decide +kernel
theorem dX11_init_191 : decode cX11_init 191 = .ok (.iastore, 1) := by decide +kernel
theorem dX11_init_192 : decode cX11_init 192 = .ok (.iinc 1 1, 3) := by decide +kernel
theorem dX11_init_195 : decode cX11_init 195 = .ok (.goto (-17), 3) := by decide +kernel
theorem dX11_init_198 : decode cX11_init 198 = .ok (.iconst 0, 1) := by decide +kernel
theorem dX11_init_199 : decode cX11_init 199 = .ok (.istore_n 1, 1) := by decide +kernel
theorem dX11_init_200 : decode cX11_init 200 = .ok (.iload_n 1, 1) := by decide +kernel
theorem dX11_init_201 : decode cX11_init 201 = .ok (.sipush 4096, 3) := by decide +kernel
theorem dX11_init_204 : decode cX11_init 204 = .ok (.if_icmp .ge 16, 3) := by decide +kernel
theorem dX11_init_207 : decode cX11_init 207 = .ok (.aload_n 0, 1) := by decide +kernel
theorem dX11_init_208 : decode cX11_init 208 = .ok (.getfield 62, 3) := by decide +kernel
theorem dX11_init_211 : decode cX11_init 211 = .ok (.iload_n 1, 1) := by decide +kernel
theorem dX11_init_212 : decode cX11_init 212 = .ok (.iconst (-1), 1) := by decide +kernel
theorem dX11_init_213 : decode cX11_init 213 = .ok (.iastore, 1) := by decide +kernel
theorem dX11_init_214 : decode cX11_init 214 = .ok (.iinc 1 1, 3) := by decide +kernel
theorem dX11_init_217 : decode cX11_init 217 = .ok (.goto (-17), 3) := by decide +kernel
theorem dX11_init_220 : decode cX11_init 220 = .ok (.return_, 1) := by decide +kernel
theorem dX11_thrown_0 : decode cX11_thrown 0 = .ok (.aload_n 0, 1) := by decide +kernel
theorem dX11_thrown_1 : decode cX11_thrown 1 = .ok (.getfield 74, 3) := by decide +kernel
theorem dX11_thrown_4 : decode cX11_thrown 4 = .ok (.ireturn, 1) := by decide +kernel
theorem dX11_holds_0 : decode cX11_holds 0 = .ok (.aload_n 0, 1) := by decide +kernel
theorem dX11_holds_1 : decode cX11_holds 1 = .ok (.iload_n 1, 1) := by decide +kernel
theorem dX11_holds_2 : decode cX11_holds 2 = .ok (.putfield 74, 3) := by decide +kernel
theorem dX11_holds_5 : decode cX11_holds 5 = .ok (.iload_n 1, 1) := by decide +kernel
theorem dX11_holds_6 : decode cX11_holds 6 = .ok (.ifCond .ne 7, 3) := by decide +kernel
theorem dX11_holds_9 : decode cX11_holds 9 = .ok (.iconst 1, 1) := by decide +kernel
theorem dX11_holds_10 : decode cX11_holds 10 = .ok (.goto 4, 3) := by decide +kernel
theorem dX11_holds_13 : decode cX11_holds 13 = .ok (.iconst 0, 1) := by decide +kernel
theorem dX11_holds_14 : decode cX11_holds 14 = .ok (.ireturn, 1) := by decide +kernel
theorem dX11_isIn_0 : decode cX11_isIn 0 = .ok (.iload_n 0, 1) := by decide +kernel
theorem dX11_isIn_1 : decode cX11_isIn 1 = .ok (.iload_n 1, 1) := by decide +kernel
theorem dX11_isIn_2 : decode cX11_isIn 2 = .ok (.if_icmp .lt 12, 3) := by decide +kernel
theorem dX11_isIn_5 : decode cX11_isIn 5 = .ok (.iload_n 0, 1) := by decide +kernel
theorem dX11_isIn_6 : decode cX11_isIn 6 = .ok (.iload_n 2, 1) := by decide +kernel
theorem dX11_isIn_7 : decode cX11_isIn 7 = .ok (.if_icmp .gt 7, 3) := by decide +kernel
theorem dX11_isIn_10 : decode cX11_isIn 10 = .ok (.iconst 1, 1) := by decide +kernel
theorem dX11_isIn_11 : decode cX11_isIn 11 = .ok (.goto 4, 3) := by decide +kernel
theorem dX11_isIn_14 : decode cX11_isIn 14 = .ok (.iconst 0, 1) := by decide +kernel
theorem dX11_isIn_15 : decode cX11_isIn 15 = .ok (.ireturn, 1) := by decide +kernel
set_option maxRecDepth 20000 in
theorem ggX11_isPeer_X11_isIn : GoodIn wsX11_isPeer wsX11_isIn := goodIn_r _ [5] (by decide +kernel) (by decide +kernel)
set_option maxRecDepth 20000 in
theorem gX11_isPeer_X11_isIn : GoodIn wsX11_isPeer (va_wsS RX11 81 yX11_isIn wsX11_isIn) := goodIn_app (goodIn_of _ (by decide +kernel)) ggX11_isPeer_X11_isIn
theorem dX11_isPeer_0 : decode cX11_isPeer 0 = .ok (.iload_n 1, 1) := by decide +kernel
theorem dX11_isPeer_1 : decode cX11_isPeer 1 = .ok (.iconst 0, 1) := by decide +kernel
theorem dX11_isPeer_2 : decode cX11_isPeer 2 = .ok (.aload_n 0, 1) := by decide +kernel
theorem dX11_isPeer_3 : decode cX11_isPeer 3 = .ok (.getfield 78, 3) := by decide +kernel
theorem dX11_isPeer_6 : decode cX11_isPeer 6 = .ok (.iconst 1, 1) := by decide +kernel
theorem dX11_isPeer_7 : decode cX11_isPeer 7 = .ok (.isub, 1) := by decide +kernel
theorem dX11_isPeer_8 : decode cX11_isPeer 8 = .ok (.invokestatic 81, 3) := by decide +kernel
theorem dX11_isPeer_11 : decode cX11_isPeer 11 = .ok (.ireturn, 1) := by decide +kernel
set_option maxRecDepth 20000 in
theorem ggX11_isFile_X11_isIn : GoodIn wsX11_isFile wsX11_isIn := goodIn_r _ [5] (by decide +kernel) (by decide +kernel)
set_option maxRecDepth 20000 in
theorem gX11_isFile_X11_isIn : GoodIn wsX11_isFile (va_wsS RX11 81 yX11_isIn wsX11_isIn) := goodIn_app (goodIn_of _ (by decide +kernel)) ggX11_isFile_X11_isIn
theorem dX11_isFile_0 : decode cX11_isFile 0 = .ok (.iload_n 1, 1) := by decide +kernel
theorem dX11_isFile_1 : decode cX11_isFile 1 = .ok (.iconst 0, 1) := by decide +kernel
theorem dX11_isFile_2 : decode cX11_isFile 2 = .ok (.aload_n 0, 1) := by decide +kernel
theorem dX11_isFile_3 : decode cX11_isFile 3 = .ok (.getfield 85, 3) := by decide +kernel
theorem dX11_isFile_6 : decode cX11_isFile 6 = .ok (.iconst 1, 1) := by decide +kernel
theorem dX11_isFile_7 : decode cX11_isFile 7 = .ok (.isub, 1) := by decide +kernel
theorem dX11_isFile_8 : decode cX11_isFile 8 = .ok (.invokestatic 81, 3) := by decide +kernel
theorem dX11_isFile_11 : decode cX11_isFile 11 = .ok (.ireturn, 1) := by decide +kernel
theorem dX11_bucketOf_0 : decode cX11_bucketOf 0 = .ok (.iload_n 0, 1) := by decide +kernel
theorem dX11_bucketOf_1 : decode cX11_bucketOf 1 = .ok (.iload_n 1, 1) := by decide +kernel
theorem dX11_bucketOf_2 : decode cX11_bucketOf 2 = .ok (.ixor, 1) := by decide +kernel
theorem dX11_bucketOf_3 : decode cX11_bucketOf 3 = .ok (.istore_n 2, 1) := by decide +kernel
theorem dX11_bucketOf_4 : decode cX11_bucketOf 4 = .ok (.iconst 0, 1) := by decide +kernel
theorem dX11_bucketOf_5 : decode cX11_bucketOf 5 = .ok (.istore_n 3, 1) := by decide +kernel
theorem dX11_bucketOf_6 : decode cX11_bucketOf 6 = .ok (.iload_n 2, 1) := by decide +kernel
theorem dX11_bucketOf_7 : decode cX11_bucketOf 7 = .ok (.iconst 1, 1) := by decide +kernel
theorem dX11_bucketOf_8 : decode cX11_bucketOf 8 = .ok (.if_icmp .le 13, 3) := by decide +kernel
theorem dX11_bucketOf_11 : decode cX11_bucketOf 11 = .ok (.iload_n 2, 1) := by decide +kernel
theorem dX11_bucketOf_12 : decode cX11_bucketOf 12 = .ok (.iconst 1, 1) := by decide +kernel
theorem dX11_bucketOf_13 : decode cX11_bucketOf 13 = .ok (.ishr, 1) := by decide +kernel
theorem dX11_bucketOf_14 : decode cX11_bucketOf 14 = .ok (.istore_n 2, 1) := by decide +kernel
theorem dX11_bucketOf_15 : decode cX11_bucketOf 15 = .ok (.iinc 3 1, 3) := by decide +kernel
theorem dX11_bucketOf_18 : decode cX11_bucketOf 18 = .ok (.goto (-12), 3) := by decide +kernel
theorem dX11_bucketOf_21 : decode cX11_bucketOf 21 = .ok (.iload_n 3, 1) := by decide +kernel
theorem dX11_bucketOf_22 : decode cX11_bucketOf 22 = .ok (.ireturn, 1) := by decide +kernel
set_option maxRecDepth 20000 in
theorem ggX11_hears_X11_bucketOf : GoodIn wsX11_hears wsX11_bucketOf := goodIn_r _ [8] (by decide +kernel) (by decide +kernel)
set_option maxRecDepth 20000 in
theorem gX11_hears_X11_bucketOf : GoodIn wsX11_hears (va_wsS RX11 88 yX11_bucketOf wsX11_bucketOf) := goodIn_app (goodIn_of _ (by decide +kernel)) ggX11_hears_X11_bucketOf
theorem dX11_hears_0 : decode cX11_hears 0 = .ok (.bipush 8, 2) := by decide +kernel
theorem dX11_hears_2 : decode cX11_hears 2 = .ok (.iload_n 1, 1) := by decide +kernel
theorem dX11_hears_3 : decode cX11_hears 3 = .ok (.imul, 1) := by decide +kernel
theorem dX11_hears_4 : decode cX11_hears 4 = .ok (.aload_n 0, 1) := by decide +kernel
theorem dX11_hears_5 : decode cX11_hears 5 = .ok (.getfield 7, 3) := by decide +kernel
theorem dX11_hears_8 : decode cX11_hears 8 = .ok (.iload_n 1, 1) := by decide +kernel
theorem dX11_hears_9 : decode cX11_hears 9 = .ok (.iaload, 1) := by decide +kernel
theorem dX11_hears_10 : decode cX11_hears 10 = .ok (.aload_n 0, 1) := by decide +kernel
theorem dX11_hears_11 : decode cX11_hears 11 = .ok (.getfield 7, 3) := by decide +kernel
theorem dX11_hears_14 : decode cX11_hears 14 = .ok (.iload_n 2, 1) := by decide +kernel
theorem dX11_hears_15 : decode cX11_hears 15 = .ok (.iaload, 1) := by decide +kernel
theorem dX11_hears_16 : decode cX11_hears 16 = .ok (.invokestatic 88, 3) := by decide +kernel
theorem dX11_hears_19 : decode cX11_hears 19 = .ok (.iadd, 1) := by decide +kernel
theorem dX11_hears_20 : decode cX11_hears 20 = .ok (.istore_n 3, 1) := by decide +kernel
theorem dX11_hears_21 : decode cX11_hears 21 = .ok (.iconst 2, 1) := by decide +kernel
theorem dX11_hears_22 : decode cX11_hears 22 = .ok (.iload_n 3, 1) := by decide +kernel
theorem dX11_hears_23 : decode cX11_hears 23 = .ok (.imul, 1) := by decide +kernel
theorem dX11_hears_24 : decode cX11_hears 24 = .ok (.istore 4, 2) := by decide +kernel
theorem dX11_hears_26 : decode cX11_hears 26 = .ok (.aload_n 0, 1) := by decide +kernel
theorem dX11_hears_27 : decode cX11_hears 27 = .ok (.getfield 23, 3) := by decide +kernel
theorem dX11_hears_30 : decode cX11_hears 30 = .ok (.iload_n 3, 1) := by decide +kernel
theorem dX11_hears_31 : decode cX11_hears 31 = .ok (.iaload, 1) := by decide +kernel
theorem dX11_hears_32 : decode cX11_hears 32 = .ok (.istore 5, 2) := by decide +kernel
theorem dX11_hears_34 : decode cX11_hears 34 = .ok (.iload 5, 2) := by decide +kernel
theorem dX11_hears_36 : decode cX11_hears 36 = .ok (.iconst 1, 1) := by decide +kernel
theorem dX11_hears_37 : decode cX11_hears 37 = .ok (.if_icmp .ne 14, 3) := by decide +kernel
theorem dX11_hears_40 : decode cX11_hears 40 = .ok (.aload_n 0, 1) := by decide +kernel
theorem dX11_hears_41 : decode cX11_hears 41 = .ok (.getfield 20, 3) := by decide +kernel
theorem dX11_hears_44 : decode cX11_hears 44 = .ok (.iload 4, 2) := by decide +kernel
theorem dX11_hears_46 : decode cX11_hears 46 = .ok (.iaload, 1) := by decide +kernel
theorem dX11_hears_47 : decode cX11_hears 47 = .ok (.iload_n 2, 1) := by decide +kernel
theorem dX11_hears_48 : decode cX11_hears 48 = .ok (.if_icmp .eq 22, 3) := by decide +kernel
theorem dX11_hears_51 : decode cX11_hears 51 = .ok (.iload 5, 2) := by decide +kernel
theorem dX11_hears_53 : decode cX11_hears 53 = .ok (.iconst 2, 1) := by decide +kernel
theorem dX11_hears_54 : decode cX11_hears 54 = .ok (.if_icmp .ne 17, 3) := by decide +kernel
theorem dX11_hears_57 : decode cX11_hears 57 = .ok (.aload_n 0, 1) := by decide +kernel
theorem dX11_hears_58 : decode cX11_hears 58 = .ok (.getfield 20, 3) := by decide +kernel
theorem dX11_hears_61 : decode cX11_hears 61 = .ok (.iload 4, 2) := by decide +kernel
theorem dX11_hears_63 : decode cX11_hears 63 = .ok (.iconst 1, 1) := by decide +kernel
theorem dX11_hears_64 : decode cX11_hears 64 = .ok (.iadd, 1) := by decide +kernel
theorem dX11_hears_65 : decode cX11_hears 65 = .ok (.iaload, 1) := by decide +kernel
theorem dX11_hears_66 : decode cX11_hears 66 = .ok (.iload_n 2, 1) := by decide +kernel
theorem dX11_hears_67 : decode cX11_hears 67 = .ok (.if_icmp .ne 4, 3) := by decide +kernel
theorem dX11_hears_70 : decode cX11_hears 70 = .ok (.return_, 1) := by decide +kernel
theorem dX11_hears_71 : decode cX11_hears 71 = .ok (.iload 5, 2) := by decide +kernel
theorem dX11_hears_73 : decode cX11_hears 73 = .ok (.iconst 2, 1) := by decide +kernel
theorem dX11_hears_74 : decode cX11_hears 74 = .ok (.if_icmp .ge 25, 3) := by decide +kernel
theorem dX11_hears_77 : decode cX11_hears 77 = .ok (.aload_n 0, 1) := by decide +kernel
theorem dX11_hears_78 : decode cX11_hears 78 = .ok (.getfield 20, 3) := by decide +kernel
theorem dX11_hears_81 : decode cX11_hears 81 = .ok (.iload 4, 2) := by decide +kernel
theorem dX11_hears_83 : decode cX11_hears 83 = .ok (.iload 5, 2) := by decide +kernel
theorem dX11_hears_85 : decode cX11_hears 85 = .ok (.iadd, 1) := by decide +kernel
theorem dX11_hears_86 : decode cX11_hears 86 = .ok (.iload_n 2, 1) := by decide +kernel
theorem dX11_hears_87 : decode cX11_hears 87 = .ok (.iastore, 1) := by decide +kernel
theorem dX11_hears_88 : decode cX11_hears 88 = .ok (.aload_n 0, 1) := by decide +kernel
theorem dX11_hears_89 : decode cX11_hears 89 = .ok (.getfield 23, 3) := by decide +kernel
theorem dX11_hears_92 : decode cX11_hears 92 = .ok (.iload_n 3, 1) := by decide +kernel
theorem dX11_hears_93 : decode cX11_hears 93 = .ok (.dup2, 1) := by decide +kernel
theorem dX11_hears_94 : decode cX11_hears 94 = .ok (.iaload, 1) := by decide +kernel
theorem dX11_hears_95 : decode cX11_hears 95 = .ok (.iconst 1, 1) := by decide +kernel
theorem dX11_hears_96 : decode cX11_hears 96 = .ok (.iadd, 1) := by decide +kernel
theorem dX11_hears_97 : decode cX11_hears 97 = .ok (.iastore, 1) := by decide +kernel
theorem dX11_hears_98 : decode cX11_hears 98 = .ok (.return_, 1) := by decide +kernel
theorem dX11_hears_99 : decode cX11_hears 99 = .ok (.aload_n 0, 1) := by decide +kernel
theorem dX11_hears_100 : decode cX11_hears 100 = .ok (.getfield 20, 3) := by decide +kernel
theorem dX11_hears_103 : decode cX11_hears 103 = .ok (.iload 4, 2) := by decide +kernel
theorem dX11_hears_105 : decode cX11_hears 105 = .ok (.iaload, 1) := by decide +kernel
theorem dX11_hears_106 : decode cX11_hears 106 = .ok (.iload_n 2, 1) := by decide +kernel
theorem dX11_hears_107 : decode cX11_hears 107 = .ok (.if_icmp .ne 7, 3) := by decide +kernel
theorem dX11_hears_110 : decode cX11_hears 110 = .ok (.iconst 1, 1) := by decide +kernel
theorem dX11_hears_111 : decode cX11_hears 111 = .ok (.goto 4, 3) := by decide +kernel
theorem dX11_hears_114 : decode cX11_hears 114 = .ok (.iconst 0, 1) := by decide +kernel
theorem dX11_hears_115 : decode cX11_hears 115 = .ok (.istore 6, 2) := by decide +kernel
theorem dX11_hears_117 : decode cX11_hears 117 = .ok (.aload_n 0, 1) := by decide +kernel
theorem dX11_hears_118 : decode cX11_hears 118 = .ok (.getfield 20, 3) := by decide +kernel
theorem dX11_hears_121 : decode cX11_hears 121 = .ok (.iload 4, 2) := by decide +kernel
theorem dX11_hears_123 : decode cX11_hears 123 = .ok (.iaload, 1) := by decide +kernel
theorem dX11_hears_124 : decode cX11_hears 124 = .ok (.istore 7, 2) := by decide +kernel
theorem dX11_hears_126 : decode cX11_hears 126 = .ok (.aload_n 0, 1) := by decide +kernel
theorem dX11_hears_127 : decode cX11_hears 127 = .ok (.getfield 20, 3) := by decide +kernel
theorem dX11_hears_130 : decode cX11_hears 130 = .ok (.iload 4, 2) := by decide +kernel
theorem dX11_hears_132 : decode cX11_hears 132 = .ok (.aload_n 0, 1) := by decide +kernel
theorem dX11_hears_133 : decode cX11_hears 133 = .ok (.getfield 20, 3) := by decide +kernel
theorem dX11_hears_136 : decode cX11_hears 136 = .ok (.iload 4, 2) := by decide +kernel
theorem dX11_hears_138 : decode cX11_hears 138 = .ok (.iconst 1, 1) := by decide +kernel
theorem dX11_hears_139 : decode cX11_hears 139 = .ok (.iadd, 1) := by decide +kernel
theorem dX11_hears_140 : decode cX11_hears 140 = .ok (.iaload, 1) := by decide +kernel
theorem dX11_hears_141 : decode cX11_hears 141 = .ok (.iastore, 1) := by decide +kernel
theorem dX11_hears_142 : decode cX11_hears 142 = .ok (.aload_n 0, 1) := by decide +kernel
theorem dX11_hears_143 : decode cX11_hears 143 = .ok (.getfield 20, 3) := by decide +kernel
theorem dX11_hears_146 : decode cX11_hears 146 = .ok (.iload 4, 2) := by decide +kernel
theorem dX11_hears_148 : decode cX11_hears 148 = .ok (.iconst 1, 1) := by decide +kernel
theorem dX11_hears_149 : decode cX11_hears 149 = .ok (.iadd, 1) := by decide +kernel
theorem dX11_hears_150 : decode cX11_hears 150 = .ok (.iload 6, 2) := by decide +kernel
theorem dX11_hears_152 : decode cX11_hears 152 = .ok (.ifCond .ne 13, 3) := by decide +kernel
theorem dX11_hears_155 : decode cX11_hears 155 = .ok (.aload_n 0, 1) := by decide +kernel
theorem dX11_hears_156 : decode cX11_hears 156 = .ok (.getfield 16, 3) := by decide +kernel
theorem dX11_hears_159 : decode cX11_hears 159 = .ok (.iload 7, 2) := by decide +kernel
theorem dX11_hears_161 : decode cX11_hears 161 = .ok (.baload, 1) := by decide +kernel
theorem dX11_hears_162 : decode cX11_hears 162 = .ok (.ifCond .ne 7, 3) := by decide +kernel
theorem dX11_hears_165 : decode cX11_hears 165 = .ok (.iload_n 2, 1) := by decide +kernel
theorem dX11_hears_166 : decode cX11_hears 166 = .ok (.goto 5, 3) := by decide +kernel
theorem dX11_hears_169 : decode cX11_hears 169 = .ok (.iload 7, 2) := by decide +kernel
theorem dX11_hears_171 : decode cX11_hears 171 = .ok (.iastore, 1) := by decide +kernel
theorem dX11_hears_172 : decode cX11_hears 172 = .ok (.return_, 1) := by decide +kernel
theorem dX11_keepsPeer_0 : decode cX11_keepsPeer 0 = .ok (.iconst 0, 1) := by decide +kernel
theorem dX11_keepsPeer_1 : decode cX11_keepsPeer 1 = .ok (.istore_n 3, 1) := by decide +kernel
theorem dX11_keepsPeer_2 : decode cX11_keepsPeer 2 = .ok (.iconst 0, 1) := by decide +kernel
theorem dX11_keepsPeer_3 : decode cX11_keepsPeer 3 = .ok (.istore 4, 2) := by decide +kernel
theorem dX11_keepsPeer_5 : decode cX11_keepsPeer 5 = .ok (.iload 4, 2) := by decide +kernel
theorem dX11_keepsPeer_7 : decode cX11_keepsPeer 7 = .ok (.bipush 16, 2) := by decide +kernel
theorem dX11_keepsPeer_9 : decode cX11_keepsPeer 9 = .ok (.if_icmp .ge 62, 3) := by decide +kernel
theorem dX11_keepsPeer_12 : decode cX11_keepsPeer 12 = .ok (.bipush 8, 2) := by decide +kernel
theorem dX11_keepsPeer_14 : decode cX11_keepsPeer 14 = .ok (.iload_n 1, 1) := by decide +kernel
theorem dX11_keepsPeer_15 : decode cX11_keepsPeer 15 = .ok (.imul, 1) := by decide +kernel
theorem dX11_keepsPeer_16 : decode cX11_keepsPeer 16 = .ok (.iload 4, 2) := by decide +kernel
theorem dX11_keepsPeer_18 : decode cX11_keepsPeer 18 = .ok (.iconst 2, 1) := by decide +kernel
theorem dX11_keepsPeer_19 : decode cX11_keepsPeer 19 = .ok (.idiv, 1) := by decide +kernel
theorem dX11_keepsPeer_20 : decode cX11_keepsPeer 20 = .ok (.iadd, 1) := by decide +kernel
theorem dX11_keepsPeer_21 : decode cX11_keepsPeer 21 = .ok (.istore 5, 2) := by decide +kernel
theorem dX11_keepsPeer_23 : decode cX11_keepsPeer 23 = .ok (.iload_n 3, 1) := by decide +kernel
theorem dX11_keepsPeer_24 : decode cX11_keepsPeer 24 = .ok (.ifCond .ne 35, 3) := by decide +kernel
theorem dX11_keepsPeer_27 : decode cX11_keepsPeer 27 = .ok (.iload 4, 2) := by decide +kernel
theorem dX11_keepsPeer_29 : decode cX11_keepsPeer 29 = .ok (.iconst 2, 1) := by decide +kernel
theorem dX11_keepsPeer_30 : decode cX11_keepsPeer 30 = .ok (.irem, 1) := by decide +kernel
theorem dX11_keepsPeer_31 : decode cX11_keepsPeer 31 = .ok (.aload_n 0, 1) := by decide +kernel
theorem dX11_keepsPeer_32 : decode cX11_keepsPeer 32 = .ok (.getfield 23, 3) := by decide +kernel
theorem dX11_keepsPeer_35 : decode cX11_keepsPeer 35 = .ok (.iload 5, 2) := by decide +kernel
theorem dX11_keepsPeer_37 : decode cX11_keepsPeer 37 = .ok (.iaload, 1) := by decide +kernel
theorem dX11_keepsPeer_38 : decode cX11_keepsPeer 38 = .ok (.if_icmp .ge 25, 3) := by decide +kernel
theorem dX11_keepsPeer_41 : decode cX11_keepsPeer 41 = .ok (.aload_n 0, 1) := by decide +kernel
theorem dX11_keepsPeer_42 : decode cX11_keepsPeer 42 = .ok (.getfield 20, 3) := by decide +kernel
theorem dX11_keepsPeer_45 : decode cX11_keepsPeer 45 = .ok (.iconst 2, 1) := by decide +kernel
theorem dX11_keepsPeer_46 : decode cX11_keepsPeer 46 = .ok (.iload 5, 2) := by decide +kernel
theorem dX11_keepsPeer_48 : decode cX11_keepsPeer 48 = .ok (.imul, 1) := by decide +kernel
theorem dX11_keepsPeer_49 : decode cX11_keepsPeer 49 = .ok (.iload 4, 2) := by decide +kernel
theorem dX11_keepsPeer_51 : decode cX11_keepsPeer 51 = .ok (.iconst 2, 1) := by decide +kernel
theorem dX11_keepsPeer_52 : decode cX11_keepsPeer 52 = .ok (.irem, 1) := by decide +kernel
theorem dX11_keepsPeer_53 : decode cX11_keepsPeer 53 = .ok (.iadd, 1) := by decide +kernel
theorem dX11_keepsPeer_54 : decode cX11_keepsPeer 54 = .ok (.iaload, 1) := by decide +kernel
theorem dX11_keepsPeer_55 : decode cX11_keepsPeer 55 = .ok (.iload_n 2, 1) := by decide +kernel
theorem dX11_keepsPeer_56 : decode cX11_keepsPeer 56 = .ok (.if_icmp .ne 7, 3) := by decide +kernel
theorem dX11_keepsPeer_59 : decode cX11_keepsPeer 59 = .ok (.iconst 1, 1) := by decide +kernel
theorem dX11_keepsPeer_60 : decode cX11_keepsPeer 60 = .ok (.goto 4, 3) := by decide +kernel
theorem dX11_keepsPeer_63 : decode cX11_keepsPeer 63 = .ok (.iconst 0, 1) := by decide +kernel
theorem dX11_keepsPeer_64 : decode cX11_keepsPeer 64 = .ok (.istore_n 3, 1) := by decide +kernel
theorem dX11_keepsPeer_65 : decode cX11_keepsPeer 65 = .ok (.iinc 4 1, 3) := by decide +kernel
theorem dX11_keepsPeer_68 : decode cX11_keepsPeer 68 = .ok (.goto (-63), 3) := by decide +kernel
theorem dX11_keepsPeer_71 : decode cX11_keepsPeer 71 = .ok (.iload_n 3, 1) := by decide +kernel
theorem dX11_keepsPeer_72 : decode cX11_keepsPeer 72 = .ok (.ireturn, 1) := by decide +kernel
theorem dX11_picks_0 : decode cX11_picks 0 = .ok (.iconst 0, 1) := by decide +kernel
theorem dX11_picks_1 : decode cX11_picks 1 = .ok (.istore_n 3, 1) := by decide +kernel
theorem dX11_picks_2 : decode cX11_picks 2 = .ok (.iconst 0, 1) := by decide +kernel
theorem dX11_picks_3 : decode cX11_picks 3 = .ok (.istore 4, 2) := by decide +kernel
theorem dX11_picks_5 : decode cX11_picks 5 = .ok (.iconst (-1), 1) := by decide +kernel
theorem dX11_picks_6 : decode cX11_picks 6 = .ok (.istore 5, 2) := by decide +kernel
theorem dX11_picks_8 : decode cX11_picks 8 = .ok (.iload_n 3, 1) := by decide +kernel
theorem dX11_picks_9 : decode cX11_picks 9 = .ok (.iconst 3, 1) := by decide +kernel
theorem dX11_picks_10 : decode cX11_picks 10 = .ok (.if_icmp .ge 152, 3) := by decide +kernel
theorem dX11_picks_13 : decode cX11_picks 13 = .ok (.iconst (-1), 1) := by decide +kernel
theorem dX11_picks_14 : decode cX11_picks 14 = .ok (.istore 6, 2) := by decide +kernel
theorem dX11_picks_16 : decode cX11_picks 16 = .ok (.iconst 0, 1) := by decide +kernel
theorem dX11_picks_17 : decode cX11_picks 17 = .ok (.istore 7, 2) := by decide +kernel
theorem dX11_picks_19 : decode cX11_picks 19 = .ok (.iload 7, 2) := by decide +kernel
theorem dX11_picks_21 : decode cX11_picks 21 = .ok (.aload_n 0, 1) := by decide +kernel
theorem dX11_picks_22 : decode cX11_picks 22 = .ok (.getfield 78, 3) := by decide +kernel
theorem dX11_picks_25 : decode cX11_picks 25 = .ok (.if_icmp .ge 83, 3) := by decide +kernel
theorem dX11_picks_28 : decode cX11_picks 28 = .ok (.aload_n 0, 1) := by decide +kernel
theorem dX11_picks_29 : decode cX11_picks 29 = .ok (.getfield 7, 3) := by decide +kernel
theorem dX11_picks_32 : decode cX11_picks 32 = .ok (.iload 7, 2) := by decide +kernel
theorem dX11_picks_34 : decode cX11_picks 34 = .ok (.iaload, 1) := by decide +kernel
theorem dX11_picks_35 : decode cX11_picks 35 = .ok (.iload_n 2, 1) := by decide +kernel
theorem dX11_picks_36 : decode cX11_picks 36 = .ok (.ixor, 1) := by decide +kernel
theorem dX11_picks_37 : decode cX11_picks 37 = .ok (.istore 8, 2) := by decide +kernel
theorem dX11_picks_39 : decode cX11_picks 39 = .ok (.aload_n 0, 1) := by decide +kernel
theorem dX11_picks_40 : decode cX11_picks 40 = .ok (.getfield 26, 3) := by decide +kernel
theorem dX11_picks_43 : decode cX11_picks 43 = .ok (.bipush 16, 2) := by decide +kernel
theorem dX11_picks_45 : decode cX11_picks 45 = .ok (.iload_n 1, 1) := by decide +kernel
theorem dX11_picks_46 : decode cX11_picks 46 = .ok (.imul, 1) := by decide +kernel
theorem dX11_picks_47 : decode cX11_picks 47 = .ok (.iload 7, 2) := by decide +kernel
theorem dX11_picks_49 : decode cX11_picks 49 = .ok (.iadd, 1) := by decide +kernel
theorem dX11_picks_50 : decode cX11_picks 50 = .ok (.baload, 1) := by decide +kernel
theorem dX11_picks_51 : decode cX11_picks 51 = .ok (.ifCond .eq 14, 3) := by decide +kernel
theorem dX11_picks_54 : decode cX11_picks 54 = .ok (.iload 8, 2) := by decide +kernel
theorem dX11_picks_56 : decode cX11_picks 56 = .ok (.iload 5, 2) := by decide +kernel
theorem dX11_picks_58 : decode cX11_picks 58 = .ok (.if_icmp .le 7, 3) := by decide +kernel
theorem dX11_picks_61 : decode cX11_picks 61 = .ok (.iconst 1, 1) := by decide +kernel
theorem dX11_picks_62 : decode cX11_picks 62 = .ok (.goto 4, 3) := by decide +kernel
theorem dX11_picks_65 : decode cX11_picks 65 = .ok (.iconst 0, 1) := by decide +kernel
theorem dX11_picks_66 : decode cX11_picks 66 = .ok (.istore 9, 2) := by decide +kernel
theorem dX11_picks_68 : decode cX11_picks 68 = .ok (.iload 9, 2) := by decide +kernel
theorem dX11_picks_70 : decode cX11_picks 70 = .ok (.ifCond .eq 28, 3) := by decide +kernel
theorem dX11_picks_73 : decode cX11_picks 73 = .ok (.iload 6, 2) := by decide +kernel
theorem dX11_picks_75 : decode cX11_picks 75 = .ok (.iconst (-1), 1) := by decide +kernel
theorem dX11_picks_76 : decode cX11_picks 76 = .ok (.if_icmp .eq 17, 3) := by decide +kernel
theorem dX11_picks_79 : decode cX11_picks 79 = .ok (.iload 8, 2) := by decide +kernel
theorem dX11_picks_81 : decode cX11_picks 81 = .ok (.aload_n 0, 1) := by decide +kernel
theorem dX11_picks_82 : decode cX11_picks 82 = .ok (.getfield 7, 3) := by decide +kernel
theorem dX11_picks_85 : decode cX11_picks 85 = .ok (.iload 6, 2) := by decide +kernel
theorem dX11_picks_87 : decode cX11_picks 87 = .ok (.iaload, 1) := by decide +kernel
theorem dX11_picks_88 : decode cX11_picks 88 = .ok (.iload_n 2, 1) := by decide +kernel
theorem dX11_picks_89 : decode cX11_picks 89 = .ok (.ixor, 1) := by decide +kernel
theorem dX11_picks_90 : decode cX11_picks 90 = .ok (.if_icmp .ge 8, 3) := by decide +kernel
theorem dX11_picks_93 : decode cX11_picks 93 = .ok (.iload 7, 2) := by decide +kernel
theorem dX11_picks_95 : decode cX11_picks 95 = .ok (.goto 5, 3) := by decide +kernel
theorem dX11_picks_98 : decode cX11_picks 98 = .ok (.iload 6, 2) := by decide +kernel
theorem dX11_picks_100 : decode cX11_picks 100 = .ok (.istore 6, 2) := by decide +kernel
theorem dX11_picks_102 : decode cX11_picks 102 = .ok (.iinc 7 1, 3) := by decide +kernel
theorem dX11_picks_105 : decode cX11_picks 105 = .ok (.goto (-86), 3) := by decide +kernel
theorem dX11_picks_108 : decode cX11_picks 108 = .ok (.iload 6, 2) := by decide +kernel
theorem dX11_picks_110 : decode cX11_picks 110 = .ok (.iconst (-1), 1) := by decide +kernel
theorem dX11_picks_111 : decode cX11_picks 111 = .ok (.if_icmp .ne 6, 3) := by decide +kernel
theorem dX11_picks_114 : decode cX11_picks 114 = .ok (.iload 4, 2) := by decide +kernel
theorem dX11_picks_116 : decode cX11_picks 116 = .ok (.ireturn, 1) := by decide +kernel
theorem dX11_picks_117 : decode cX11_picks 117 = .ok (.aload_n 0, 1) := by decide +kernel
theorem dX11_picks_118 : decode cX11_picks 118 = .ok (.getfield 7, 3) := by decide +kernel
theorem dX11_picks_121 : decode cX11_picks 121 = .ok (.iload 6, 2) := by decide +kernel
theorem dX11_picks_123 : decode cX11_picks 123 = .ok (.iaload, 1) := by decide +kernel
theorem dX11_picks_124 : decode cX11_picks 124 = .ok (.iload_n 2, 1) := by decide +kernel
theorem dX11_picks_125 : decode cX11_picks 125 = .ok (.ixor, 1) := by decide +kernel
theorem dX11_picks_126 : decode cX11_picks 126 = .ok (.istore 5, 2) := by decide +kernel
theorem dX11_picks_128 : decode cX11_picks 128 = .ok (.iinc 3 1, 3) := by decide +kernel
theorem dX11_picks_131 : decode cX11_picks 131 = .ok (.aload_n 0, 1) := by decide +kernel
theorem dX11_picks_132 : decode cX11_picks 132 = .ok (.getfield 29, 3) := by decide +kernel
theorem dX11_picks_135 : decode cX11_picks 135 = .ok (.iload 6, 2) := by decide +kernel
theorem dX11_picks_137 : decode cX11_picks 137 = .ok (.baload, 1) := by decide +kernel
theorem dX11_picks_138 : decode cX11_picks 138 = .ok (.ifCond .ne 21, 3) := by decide +kernel
theorem dX11_picks_141 : decode cX11_picks 141 = .ok (.iload 4, 2) := by decide +kernel
theorem dX11_picks_143 : decode cX11_picks 143 = .ok (.iconst 2, 1) := by decide +kernel
theorem dX11_picks_144 : decode cX11_picks 144 = .ok (.if_icmp .ge 15, 3) := by decide +kernel
theorem dX11_picks_147 : decode cX11_picks 147 = .ok (.aload_n 0, 1) := by decide +kernel
theorem dX11_picks_148 : decode cX11_picks 148 = .ok (.getfield 35, 3) := by decide +kernel
theorem dX11_picks_151 : decode cX11_picks 151 = .ok (.iload 4, 2) := by decide +kernel
theorem dX11_picks_153 : decode cX11_picks 153 = .ok (.iload 6, 2) := by decide +kernel
theorem dX11_picks_155 : decode cX11_picks 155 = .ok (.iastore, 1) := by decide +kernel
theorem dX11_picks_156 : decode cX11_picks 156 = .ok (.iinc 4 1, 3) := by decide +kernel
theorem dX11_picks_159 : decode cX11_picks 159 = .ok (.goto (-151), 3) := by decide +kernel
theorem dX11_picks_162 : decode cX11_picks 162 = .ok (.iload 4, 2) := by decide +kernel
theorem dX11_picks_164 : decode cX11_picks 164 = .ok (.ireturn, 1) := by decide +kernel
set_option maxRecDepth 20000 in
theorem ggX11_asks_X11_hears : GoodIn wsX11_asks wsX11_hears := goodIn_r _ [13, 7, 14, 15, 3, 16, 17, 12, 18, 23, 24, 25, 26, 27, 28, 29, 30, 31, 32, 33, 34, 35, 36, 37, 38, 39, 40, 41, 42, 43, 44, 45, 46, 47, 48, 49, 50] (by decide +kernel) (by decide +kernel)
set_option maxRecDepth 20000 in
theorem gX11_asks_X11_hears : GoodIn wsX11_asks (wsV RX11 95 RX11 yX11_hears wsX11_hears) := goodIn_app (goodIn_of _ (by decide +kernel)) ggX11_asks_X11_hears
set_option maxRecDepth 20000 in
theorem ggX11_asks_X11_keepsPeer : GoodIn wsX11_asks wsX11_keepsPeer := goodIn_r _ [22, 14, 15, 23, 24, 25, 26, 27, 28, 29, 30, 31, 32, 33, 34, 35, 36, 37, 38, 39, 40, 41, 42, 43, 44, 45, 46, 47, 48, 49, 50] (by decide +kernel) (by decide +kernel)
set_option maxRecDepth 20000 in
theorem gX11_asks_X11_keepsPeer : GoodIn wsX11_asks (wsV RX11 99 RX11 yX11_keepsPeer wsX11_keepsPeer) := goodIn_app (goodIn_of _ (by decide +kernel)) ggX11_asks_X11_keepsPeer
theorem dX11_asks_0 : decode cX11_asks 0 = .ok (.aload_n 0, 1) := by decide +kernel
theorem dX11_asks_1 : decode cX11_asks 1 = .ok (.getfield 29, 3) := by decide +kernel
theorem dX11_asks_4 : decode cX11_asks 4 = .ok (.iload_n 2, 1) := by decide +kernel
theorem dX11_asks_5 : decode cX11_asks 5 = .ok (.iconst 1, 1) := by decide +kernel
theorem dX11_asks_6 : decode cX11_asks 6 = .ok (.bastore, 1) := by decide +kernel
theorem dX11_asks_7 : decode cX11_asks 7 = .ok (.aload_n 0, 1) := by decide +kernel
theorem dX11_asks_8 : decode cX11_asks 8 = .ok (.dup, 1) := by decide +kernel
theorem dX11_asks_9 : decode cX11_asks 9 = .ok (.getfield 92, 3) := by decide +kernel
theorem dX11_asks_12 : decode cX11_asks 12 = .ok (.iconst 1, 1) := by decide +kernel
theorem dX11_asks_13 : decode cX11_asks 13 = .ok (.iadd, 1) := by decide +kernel
theorem dX11_asks_14 : decode cX11_asks 14 = .ok (.putfield 92, 3) := by decide +kernel
theorem dX11_asks_17 : decode cX11_asks 17 = .ok (.aload_n 0, 1) := by decide +kernel
theorem dX11_asks_18 : decode cX11_asks 18 = .ok (.getfield 16, 3) := by decide +kernel
theorem dX11_asks_21 : decode cX11_asks 21 = .ok (.iload_n 2, 1) := by decide +kernel
theorem dX11_asks_22 : decode cX11_asks 22 = .ok (.baload, 1) := by decide +kernel
theorem dX11_asks_23 : decode cX11_asks 23 = .ok (.ifCond .eq 13, 3) := by decide +kernel
theorem dX11_asks_26 : decode cX11_asks 26 = .ok (.aload_n 0, 1) := by decide +kernel
theorem dX11_asks_27 : decode cX11_asks 27 = .ok (.getfield 13, 3) := by decide +kernel
theorem dX11_asks_30 : decode cX11_asks 30 = .ok (.iload_n 2, 1) := by decide +kernel
theorem dX11_asks_31 : decode cX11_asks 31 = .ok (.iaload, 1) := by decide +kernel
theorem dX11_asks_32 : decode cX11_asks 32 = .ok (.iconst 1, 1) := by decide +kernel
theorem dX11_asks_33 : decode cX11_asks 33 = .ok (.if_icmp .ne 4, 3) := by decide +kernel
theorem dX11_asks_36 : decode cX11_asks 36 = .ok (.return_, 1) := by decide +kernel
theorem dX11_asks_37 : decode cX11_asks 37 = .ok (.aload_n 0, 1) := by decide +kernel
theorem dX11_asks_38 : decode cX11_asks 38 = .ok (.iload_n 2, 1) := by decide +kernel
theorem dX11_asks_39 : decode cX11_asks 39 = .ok (.iload_n 1, 1) := by decide +kernel
theorem dX11_asks_40 : decode cX11_asks 40 = .ok (.invokevirtual 95, 3) := by decide +kernel
theorem dX11_asks_43 : decode cX11_asks 43 = .ok (.aload_n 0, 1) := by decide +kernel
theorem dX11_asks_44 : decode cX11_asks 44 = .ok (.iload_n 1, 1) := by decide +kernel
theorem dX11_asks_45 : decode cX11_asks 45 = .ok (.iload_n 2, 1) := by decide +kernel
theorem dX11_asks_46 : decode cX11_asks 46 = .ok (.invokevirtual 95, 3) := by decide +kernel
theorem dX11_asks_49 : decode cX11_asks 49 = .ok (.aload_n 0, 1) := by decide +kernel
theorem dX11_asks_50 : decode cX11_asks 50 = .ok (.getfield 32, 3) := by decide +kernel
theorem dX11_asks_53 : decode cX11_asks 53 = .ok (.iload_n 2, 1) := by decide +kernel
theorem dX11_asks_54 : decode cX11_asks 54 = .ok (.iconst 1, 1) := by decide +kernel
theorem dX11_asks_55 : decode cX11_asks 55 = .ok (.bastore, 1) := by decide +kernel
theorem dX11_asks_56 : decode cX11_asks 56 = .ok (.iconst (-1), 1) := by decide +kernel
theorem dX11_asks_57 : decode cX11_asks 57 = .ok (.istore 5, 2) := by decide +kernel
theorem dX11_asks_59 : decode cX11_asks 59 = .ok (.iconst 0, 1) := by decide +kernel
theorem dX11_asks_60 : decode cX11_asks 60 = .ok (.istore 6, 2) := by decide +kernel
theorem dX11_asks_62 : decode cX11_asks 62 = .ok (.iload 6, 2) := by decide +kernel
theorem dX11_asks_64 : decode cX11_asks 64 = .ok (.iconst 3, 1) := by decide +kernel
theorem dX11_asks_65 : decode cX11_asks 65 = .ok (.if_icmp .ge 179, 3) := by decide +kernel
theorem dX11_asks_68 : decode cX11_asks 68 = .ok (.iconst (-1), 1) := by decide +kernel
theorem dX11_asks_69 : decode cX11_asks 69 = .ok (.istore 7, 2) := by decide +kernel
theorem dX11_asks_71 : decode cX11_asks 71 = .ok (.iconst 0, 1) := by decide +kernel
theorem dX11_asks_72 : decode cX11_asks 72 = .ok (.istore 8, 2) := by decide +kernel
theorem dX11_asks_74 : decode cX11_asks 74 = .ok (.iload 8, 2) := by decide +kernel
theorem dX11_asks_76 : decode cX11_asks 76 = .ok (.aload_n 0, 1) := by decide +kernel
theorem dX11_asks_77 : decode cX11_asks 77 = .ok (.getfield 78, 3) := by decide +kernel
theorem dX11_asks_80 : decode cX11_asks 80 = .ok (.if_icmp .ge 101, 3) := by decide +kernel
theorem dX11_asks_83 : decode cX11_asks 83 = .ok (.aload_n 0, 1) := by decide +kernel
theorem dX11_asks_84 : decode cX11_asks 84 = .ok (.getfield 7, 3) := by decide +kernel
theorem dX11_asks_87 : decode cX11_asks 87 = .ok (.iload 8, 2) := by decide +kernel
theorem dX11_asks_89 : decode cX11_asks 89 = .ok (.iaload, 1) := by decide +kernel
theorem dX11_asks_90 : decode cX11_asks 90 = .ok (.iload 4, 2) := by decide +kernel
theorem dX11_asks_92 : decode cX11_asks 92 = .ok (.ixor, 1) := by decide +kernel
theorem dX11_asks_93 : decode cX11_asks 93 = .ok (.istore 9, 2) := by decide +kernel
theorem dX11_asks_95 : decode cX11_asks 95 = .ok (.aload_n 0, 1) := by decide +kernel
theorem dX11_asks_96 : decode cX11_asks 96 = .ok (.iload_n 2, 1) := by decide +kernel
theorem dX11_asks_97 : decode cX11_asks 97 = .ok (.iload 8, 2) := by decide +kernel
theorem dX11_asks_99 : decode cX11_asks 99 = .ok (.invokevirtual 99, 3) := by decide +kernel
theorem dX11_asks_102 : decode cX11_asks 102 = .ok (.ifCond .eq 35, 3) := by decide +kernel
theorem dX11_asks_105 : decode cX11_asks 105 = .ok (.iload 9, 2) := by decide +kernel
theorem dX11_asks_107 : decode cX11_asks 107 = .ok (.iload 5, 2) := by decide +kernel
theorem dX11_asks_109 : decode cX11_asks 109 = .ok (.if_icmp .le 28, 3) := by decide +kernel
theorem dX11_asks_112 : decode cX11_asks 112 = .ok (.aload_n 0, 1) := by decide +kernel
theorem dX11_asks_113 : decode cX11_asks 113 = .ok (.getfield 13, 3) := by decide +kernel
theorem dX11_asks_116 : decode cX11_asks 116 = .ok (.iload_n 2, 1) := by decide +kernel
theorem dX11_asks_117 : decode cX11_asks 117 = .ok (.iaload, 1) := by decide +kernel
theorem dX11_asks_118 : decode cX11_asks 118 = .ok (.iconst 2, 1) := by decide +kernel
theorem dX11_asks_119 : decode cX11_asks 119 = .ok (.if_icmp .ne 14, 3) := by decide +kernel
theorem dX11_asks_122 : decode cX11_asks 122 = .ok (.aload_n 0, 1) := by decide +kernel
theorem dX11_asks_123 : decode cX11_asks 123 = .ok (.getfield 13, 3) := by decide +kernel
theorem dX11_asks_126 : decode cX11_asks 126 = .ok (.iload 8, 2) := by decide +kernel
theorem dX11_asks_128 : decode cX11_asks 128 = .ok (.iaload, 1) := by decide +kernel
theorem dX11_asks_129 : decode cX11_asks 129 = .ok (.iconst 2, 1) := by decide +kernel
theorem dX11_asks_130 : decode cX11_asks 130 = .ok (.if_icmp .ne 7, 3) := by decide +kernel
theorem dX11_asks_133 : decode cX11_asks 133 = .ok (.iconst 1, 1) := by decide +kernel
theorem dX11_asks_134 : decode cX11_asks 134 = .ok (.goto 4, 3) := by decide +kernel
theorem dX11_asks_137 : decode cX11_asks 137 = .ok (.iconst 0, 1) := by decide +kernel
theorem dX11_asks_138 : decode cX11_asks 138 = .ok (.istore 10, 2) := by decide +kernel
theorem dX11_asks_140 : decode cX11_asks 140 = .ok (.iload 10, 2) := by decide +kernel
theorem dX11_asks_142 : decode cX11_asks 142 = .ok (.ifCond .eq 29, 3) := by decide +kernel
theorem dX11_asks_145 : decode cX11_asks 145 = .ok (.iload 7, 2) := by decide +kernel
theorem dX11_asks_147 : decode cX11_asks 147 = .ok (.iconst (-1), 1) := by decide +kernel
theorem dX11_asks_148 : decode cX11_asks 148 = .ok (.if_icmp .eq 18, 3) := by decide +kernel
theorem dX11_asks_151 : decode cX11_asks 151 = .ok (.iload 9, 2) := by decide +kernel
theorem dX11_asks_153 : decode cX11_asks 153 = .ok (.aload_n 0, 1) := by decide +kernel
theorem dX11_asks_154 : decode cX11_asks 154 = .ok (.getfield 7, 3) := by decide +kernel
theorem dX11_asks_157 : decode cX11_asks 157 = .ok (.iload 7, 2) := by decide +kernel
theorem dX11_asks_159 : decode cX11_asks 159 = .ok (.iaload, 1) := by decide +kernel
theorem dX11_asks_160 : decode cX11_asks 160 = .ok (.iload 4, 2) := by decide +kernel
theorem dX11_asks_162 : decode cX11_asks 162 = .ok (.ixor, 1) := by decide +kernel
theorem dX11_asks_163 : decode cX11_asks 163 = .ok (.if_icmp .ge 8, 3) := by decide +kernel
theorem dX11_asks_166 : decode cX11_asks 166 = .ok (.iload 8, 2) := by decide +kernel
theorem dX11_asks_168 : decode cX11_asks 168 = .ok (.goto 5, 3) := by decide +kernel
theorem dX11_asks_171 : decode cX11_asks 171 = .ok (.iload 7, 2) := by decide +kernel
theorem dX11_asks_173 : decode cX11_asks 173 = .ok (.istore 7, 2) := by decide +kernel
theorem dX11_asks_175 : decode cX11_asks 175 = .ok (.iinc 8 1, 3) := by decide +kernel
theorem dX11_asks_178 : decode cX11_asks 178 = .ok (.goto (-104), 3) := by decide +kernel
theorem dX11_asks_181 : decode cX11_asks 181 = .ok (.iload 7, 2) := by decide +kernel
theorem dX11_asks_183 : decode cX11_asks 183 = .ok (.iconst (-1), 1) := by decide +kernel
theorem dX11_asks_184 : decode cX11_asks 184 = .ok (.if_icmp .ne 4, 3) := by decide +kernel
theorem dX11_asks_187 : decode cX11_asks 187 = .ok (.return_, 1) := by decide +kernel
theorem dX11_asks_188 : decode cX11_asks 188 = .ok (.aload_n 0, 1) := by decide +kernel
theorem dX11_asks_189 : decode cX11_asks 189 = .ok (.getfield 7, 3) := by decide +kernel
theorem dX11_asks_192 : decode cX11_asks 192 = .ok (.iload 7, 2) := by decide +kernel
theorem dX11_asks_194 : decode cX11_asks 194 = .ok (.iaload, 1) := by decide +kernel
theorem dX11_asks_195 : decode cX11_asks 195 = .ok (.iload 4, 2) := by decide +kernel
theorem dX11_asks_197 : decode cX11_asks 197 = .ok (.ixor, 1) := by decide +kernel
theorem dX11_asks_198 : decode cX11_asks 198 = .ok (.istore 5, 2) := by decide +kernel
theorem dX11_asks_200 : decode cX11_asks 200 = .ok (.aload_n 0, 1) := by decide +kernel
theorem dX11_asks_201 : decode cX11_asks 201 = .ok (.getfield 26, 3) := by decide +kernel
theorem dX11_asks_204 : decode cX11_asks 204 = .ok (.bipush 16, 2) := by decide +kernel
theorem dX11_asks_206 : decode cX11_asks 206 = .ok (.iload_n 3, 1) := by decide +kernel
theorem dX11_asks_207 : decode cX11_asks 207 = .ok (.imul, 1) := by decide +kernel
theorem dX11_asks_208 : decode cX11_asks 208 = .ok (.iload 7, 2) := by decide +kernel
theorem dX11_asks_210 : decode cX11_asks 210 = .ok (.iadd, 1) := by decide +kernel
theorem dX11_asks_211 : decode cX11_asks 211 = .ok (.aload_n 0, 1) := by decide +kernel
theorem dX11_asks_212 : decode cX11_asks 212 = .ok (.getfield 26, 3) := by decide +kernel
theorem dX11_asks_215 : decode cX11_asks 215 = .ok (.bipush 16, 2) := by decide +kernel
theorem dX11_asks_217 : decode cX11_asks 217 = .ok (.iload_n 3, 1) := by decide +kernel
theorem dX11_asks_218 : decode cX11_asks 218 = .ok (.imul, 1) := by decide +kernel
theorem dX11_asks_219 : decode cX11_asks 219 = .ok (.iload 7, 2) := by decide +kernel
theorem dX11_asks_221 : decode cX11_asks 221 = .ok (.iadd, 1) := by decide +kernel
theorem dX11_asks_222 : decode cX11_asks 222 = .ok (.baload, 1) := by decide +kernel
theorem dX11_asks_223 : decode cX11_asks 223 = .ok (.ifCond .ne 9, 3) := by decide +kernel
theorem dX11_asks_226 : decode cX11_asks 226 = .ok (.iload 7, 2) := by decide +kernel
theorem dX11_asks_228 : decode cX11_asks 228 = .ok (.iload_n 1, 1) := by decide +kernel
theorem dX11_asks_229 : decode cX11_asks 229 = .ok (.if_icmp .eq 7, 3) := by decide +kernel
theorem dX11_asks_232 : decode cX11_asks 232 = .ok (.iconst 1, 1) := by decide +kernel
theorem dX11_asks_233 : decode cX11_asks 233 = .ok (.goto 4, 3) := by decide +kernel
theorem dX11_asks_236 : decode cX11_asks 236 = .ok (.iconst 0, 1) := by decide +kernel
theorem dX11_asks_237 : decode cX11_asks 237 = .ok (.bastore, 1) := by decide +kernel
theorem dX11_asks_238 : decode cX11_asks 238 = .ok (.iinc 6 1, 3) := by decide +kernel
theorem dX11_asks_241 : decode cX11_asks 241 = .ok (.goto (-179), 3) := by decide +kernel
theorem dX11_asks_244 : decode cX11_asks 244 = .ok (.return_, 1) := by decide +kernel
set_option maxRecDepth 20000 in
theorem ggX11_looksUp_X11_keepsPeer : GoodIn wsX11_looksUp wsX11_keepsPeer := goodIn_r _ [12, 13, 14, 38, 39, 40, 41, 42, 43, 44, 45, 46, 47, 48, 49, 50, 51, 52, 53, 54, 55, 56, 57, 58, 59, 60, 61, 62, 63, 64, 65] (by decide +kernel) (by decide +kernel)
set_option maxRecDepth 20000 in
theorem gX11_looksUp_X11_keepsPeer : GoodIn wsX11_looksUp (wsV RX11 99 RX11 yX11_keepsPeer wsX11_keepsPeer) := goodIn_app (goodIn_of _ (by decide +kernel)) ggX11_looksUp_X11_keepsPeer
set_option maxRecDepth 20000 in
theorem ggX11_looksUp_X11_picks : GoodIn wsX11_looksUp wsX11_picks := goodIn_r _ [18, 5, 6, 2, 3, 7, 38, 39, 40, 41, 42, 43, 44, 45, 46, 47, 48, 49, 50, 51, 52, 53, 54, 55, 56, 57, 58, 59, 60, 61, 62, 63, 64, 65] (by decide +kernel) (by decide +kernel)
set_option maxRecDepth 20000 in
theorem gX11_looksUp_X11_picks : GoodIn wsX11_looksUp (wsV RX11 103 RX11 yX11_picks wsX11_picks) := goodIn_app (goodIn_of _ (by decide +kernel)) ggX11_looksUp_X11_picks
set_option maxRecDepth 20000 in
theorem ggX11_looksUp_X11_asks : GoodIn wsX11_looksUp wsX11_asks := goodIn_r _ [22, 3, 1, 23, 24, 4, 5, 6, 2, 25, 26, 27, 11, 28, 13, 14, 29, 30, 31, 8, 9, 10, 12, 38, 39, 40, 41, 42, 43, 44, 45, 46, 47, 48, 49, 50, 51, 52, 53, 54, 55, 56, 57, 58, 59, 60, 61, 62, 63, 64, 65] (by decide +kernel) (by decide +kernel)
set_option maxRecDepth 20000 in
theorem gX11_looksUp_X11_asks : GoodIn wsX11_looksUp (wsV RX11 106 RX11 yX11_asks wsX11_asks) := goodIn_app (goodIn_of _ (by decide +kernel)) ggX11_looksUp_X11_asks
set_option maxRecDepth 20000 in
theorem ggX11_looksUp_X11_closestOf : GoodIn wsX11_looksUp wsX11_closestOf := goodIn_r _ [35, 36, 5, 6, 4, 37, 38, 39, 40, 41, 42, 43, 44, 45, 46, 47, 48, 49, 50, 51, 52, 53, 54, 55, 56, 57, 58, 59, 60, 61, 62, 63, 64, 65] (by decide +kernel) (by decide +kernel)
set_option maxRecDepth 20000 in
theorem gX11_looksUp_X11_closestOf : GoodIn wsX11_looksUp (wsV RX11 110 RX11 yX11_closestOf wsX11_closestOf) := goodIn_app (goodIn_of _ (by decide +kernel)) ggX11_looksUp_X11_closestOf
theorem dX11_looksUp_0 : decode cX11_looksUp 0 = .ok (.aload_n 0, 1) := by decide +kernel
theorem dX11_looksUp_1 : decode cX11_looksUp 1 = .ok (.iconst 0, 1) := by decide +kernel
theorem dX11_looksUp_2 : decode cX11_looksUp 2 = .ok (.putfield 92, 3) := by decide +kernel
theorem dX11_looksUp_5 : decode cX11_looksUp 5 = .ok (.iconst 0, 1) := by decide +kernel
theorem dX11_looksUp_6 : decode cX11_looksUp 6 = .ok (.istore 4, 2) := by decide +kernel
theorem dX11_looksUp_8 : decode cX11_looksUp 8 = .ok (.iload 4, 2) := by decide +kernel
theorem dX11_looksUp_10 : decode cX11_looksUp 10 = .ok (.bipush 16, 2) := by decide +kernel
theorem dX11_looksUp_12 : decode cX11_looksUp 12 = .ok (.if_icmp .ge 44, 3) := by decide +kernel
theorem dX11_looksUp_15 : decode cX11_looksUp 15 = .ok (.aload_n 0, 1) := by decide +kernel
theorem dX11_looksUp_16 : decode cX11_looksUp 16 = .ok (.getfield 26, 3) := by decide +kernel
theorem dX11_looksUp_19 : decode cX11_looksUp 19 = .ok (.iload 4, 2) := by decide +kernel
theorem dX11_looksUp_21 : decode cX11_looksUp 21 = .ok (.iconst 0, 1) := by decide +kernel
theorem dX11_looksUp_22 : decode cX11_looksUp 22 = .ok (.bastore, 1) := by decide +kernel
theorem dX11_looksUp_23 : decode cX11_looksUp 23 = .ok (.aload_n 0, 1) := by decide +kernel
theorem dX11_looksUp_24 : decode cX11_looksUp 24 = .ok (.getfield 26, 3) := by decide +kernel
theorem dX11_looksUp_27 : decode cX11_looksUp 27 = .ok (.bipush 16, 2) := by decide +kernel
theorem dX11_looksUp_29 : decode cX11_looksUp 29 = .ok (.iload 4, 2) := by decide +kernel
theorem dX11_looksUp_31 : decode cX11_looksUp 31 = .ok (.iadd, 1) := by decide +kernel
theorem dX11_looksUp_32 : decode cX11_looksUp 32 = .ok (.iconst 0, 1) := by decide +kernel
theorem dX11_looksUp_33 : decode cX11_looksUp 33 = .ok (.bastore, 1) := by decide +kernel
theorem dX11_looksUp_34 : decode cX11_looksUp 34 = .ok (.aload_n 0, 1) := by decide +kernel
theorem dX11_looksUp_35 : decode cX11_looksUp 35 = .ok (.getfield 29, 3) := by decide +kernel
theorem dX11_looksUp_38 : decode cX11_looksUp 38 = .ok (.iload 4, 2) := by decide +kernel
theorem dX11_looksUp_40 : decode cX11_looksUp 40 = .ok (.iconst 0, 1) := by decide +kernel
theorem dX11_looksUp_41 : decode cX11_looksUp 41 = .ok (.bastore, 1) := by decide +kernel
theorem dX11_looksUp_42 : decode cX11_looksUp 42 = .ok (.aload_n 0, 1) := by decide +kernel
theorem dX11_looksUp_43 : decode cX11_looksUp 43 = .ok (.getfield 32, 3) := by decide +kernel
theorem dX11_looksUp_46 : decode cX11_looksUp 46 = .ok (.iload 4, 2) := by decide +kernel
theorem dX11_looksUp_48 : decode cX11_looksUp 48 = .ok (.iconst 0, 1) := by decide +kernel
theorem dX11_looksUp_49 : decode cX11_looksUp 49 = .ok (.bastore, 1) := by decide +kernel
theorem dX11_looksUp_50 : decode cX11_looksUp 50 = .ok (.iinc 4 1, 3) := by decide +kernel
theorem dX11_looksUp_53 : decode cX11_looksUp 53 = .ok (.goto (-45), 3) := by decide +kernel
theorem dX11_looksUp_56 : decode cX11_looksUp 56 = .ok (.iconst (-1), 1) := by decide +kernel
theorem dX11_looksUp_57 : decode cX11_looksUp 57 = .ok (.istore 4, 2) := by decide +kernel
theorem dX11_looksUp_59 : decode cX11_looksUp 59 = .ok (.iconst 0, 1) := by decide +kernel
theorem dX11_looksUp_60 : decode cX11_looksUp 60 = .ok (.istore 5, 2) := by decide +kernel
theorem dX11_looksUp_62 : decode cX11_looksUp 62 = .ok (.iload 5, 2) := by decide +kernel
theorem dX11_looksUp_64 : decode cX11_looksUp 64 = .ok (.aload_n 0, 1) := by decide +kernel
theorem dX11_looksUp_65 : decode cX11_looksUp 65 = .ok (.getfield 78, 3) := by decide +kernel
theorem dX11_looksUp_68 : decode cX11_looksUp 68 = .ok (.if_icmp .ge 141, 3) := by decide +kernel
theorem dX11_looksUp_71 : decode cX11_looksUp 71 = .ok (.iconst (-1), 1) := by decide +kernel
theorem dX11_looksUp_72 : decode cX11_looksUp 72 = .ok (.istore 6, 2) := by decide +kernel
theorem dX11_looksUp_74 : decode cX11_looksUp 74 = .ok (.iconst 0, 1) := by decide +kernel
theorem dX11_looksUp_75 : decode cX11_looksUp 75 = .ok (.istore 7, 2) := by decide +kernel
theorem dX11_looksUp_77 : decode cX11_looksUp 77 = .ok (.iload 7, 2) := by decide +kernel
theorem dX11_looksUp_79 : decode cX11_looksUp 79 = .ok (.aload_n 0, 1) := by decide +kernel
theorem dX11_looksUp_80 : decode cX11_looksUp 80 = .ok (.getfield 78, 3) := by decide +kernel
theorem dX11_looksUp_83 : decode cX11_looksUp 83 = .ok (.if_icmp .ge 78, 3) := by decide +kernel
theorem dX11_looksUp_86 : decode cX11_looksUp 86 = .ok (.aload_n 0, 1) := by decide +kernel
theorem dX11_looksUp_87 : decode cX11_looksUp 87 = .ok (.getfield 7, 3) := by decide +kernel
theorem dX11_looksUp_90 : decode cX11_looksUp 90 = .ok (.iload 7, 2) := by decide +kernel
theorem dX11_looksUp_92 : decode cX11_looksUp 92 = .ok (.iaload, 1) := by decide +kernel
theorem dX11_looksUp_93 : decode cX11_looksUp 93 = .ok (.iload_n 2, 1) := by decide +kernel
theorem dX11_looksUp_94 : decode cX11_looksUp 94 = .ok (.ixor, 1) := by decide +kernel
theorem dX11_looksUp_95 : decode cX11_looksUp 95 = .ok (.istore 8, 2) := by decide +kernel
theorem dX11_looksUp_97 : decode cX11_looksUp 97 = .ok (.aload_n 0, 1) := by decide +kernel
theorem dX11_looksUp_98 : decode cX11_looksUp 98 = .ok (.iload_n 1, 1) := by decide +kernel
theorem dX11_looksUp_99 : decode cX11_looksUp 99 = .ok (.iload 7, 2) := by decide +kernel
theorem dX11_looksUp_101 : decode cX11_looksUp 101 = .ok (.invokevirtual 99, 3) := by decide +kernel
theorem dX11_looksUp_104 : decode cX11_looksUp 104 = .ok (.ifCond .eq 14, 3) := by decide +kernel
theorem dX11_looksUp_107 : decode cX11_looksUp 107 = .ok (.iload 8, 2) := by decide +kernel
theorem dX11_looksUp_109 : decode cX11_looksUp 109 = .ok (.iload 4, 2) := by decide +kernel
theorem dX11_looksUp_111 : decode cX11_looksUp 111 = .ok (.if_icmp .le 7, 3) := by decide +kernel
theorem dX11_looksUp_114 : decode cX11_looksUp 114 = .ok (.iconst 1, 1) := by decide +kernel
theorem dX11_looksUp_115 : decode cX11_looksUp 115 = .ok (.goto 4, 3) := by decide +kernel
theorem dX11_looksUp_118 : decode cX11_looksUp 118 = .ok (.iconst 0, 1) := by decide +kernel
theorem dX11_looksUp_119 : decode cX11_looksUp 119 = .ok (.istore 9, 2) := by decide +kernel
theorem dX11_looksUp_121 : decode cX11_looksUp 121 = .ok (.iload 9, 2) := by decide +kernel
theorem dX11_looksUp_123 : decode cX11_looksUp 123 = .ok (.ifCond .eq 28, 3) := by decide +kernel
theorem dX11_looksUp_126 : decode cX11_looksUp 126 = .ok (.iload 6, 2) := by decide +kernel
theorem dX11_looksUp_128 : decode cX11_looksUp 128 = .ok (.iconst (-1), 1) := by decide +kernel
theorem dX11_looksUp_129 : decode cX11_looksUp 129 = .ok (.if_icmp .eq 17, 3) := by decide +kernel
theorem dX11_looksUp_132 : decode cX11_looksUp 132 = .ok (.iload 8, 2) := by decide +kernel
theorem dX11_looksUp_134 : decode cX11_looksUp 134 = .ok (.aload_n 0, 1) := by decide +kernel
theorem dX11_looksUp_135 : decode cX11_looksUp 135 = .ok (.getfield 7, 3) := by decide +kernel
theorem dX11_looksUp_138 : decode cX11_looksUp 138 = .ok (.iload 6, 2) := by decide +kernel
theorem dX11_looksUp_140 : decode cX11_looksUp 140 = .ok (.iaload, 1) := by decide +kernel
theorem dX11_looksUp_141 : decode cX11_looksUp 141 = .ok (.iload_n 2, 1) := by decide +kernel
theorem dX11_looksUp_142 : decode cX11_looksUp 142 = .ok (.ixor, 1) := by decide +kernel
theorem dX11_looksUp_143 : decode cX11_looksUp 143 = .ok (.if_icmp .ge 8, 3) := by decide +kernel
theorem dX11_looksUp_146 : decode cX11_looksUp 146 = .ok (.iload 7, 2) := by decide +kernel
theorem dX11_looksUp_148 : decode cX11_looksUp 148 = .ok (.goto 5, 3) := by decide +kernel
theorem dX11_looksUp_151 : decode cX11_looksUp 151 = .ok (.iload 6, 2) := by decide +kernel
theorem dX11_looksUp_153 : decode cX11_looksUp 153 = .ok (.istore 6, 2) := by decide +kernel
theorem dX11_looksUp_155 : decode cX11_looksUp 155 = .ok (.iinc 7 1, 3) := by decide +kernel
theorem dX11_looksUp_158 : decode cX11_looksUp 158 = .ok (.goto (-81), 3) := by decide +kernel
theorem dX11_looksUp_161 : decode cX11_looksUp 161 = .ok (.iload 6, 2) := by decide +kernel
theorem dX11_looksUp_163 : decode cX11_looksUp 163 = .ok (.iconst (-1), 1) := by decide +kernel
theorem dX11_looksUp_164 : decode cX11_looksUp 164 = .ok (.if_icmp .eq 39, 3) := by decide +kernel
theorem dX11_looksUp_167 : decode cX11_looksUp 167 = .ok (.aload_n 0, 1) := by decide +kernel
theorem dX11_looksUp_168 : decode cX11_looksUp 168 = .ok (.getfield 26, 3) := by decide +kernel
theorem dX11_looksUp_171 : decode cX11_looksUp 171 = .ok (.bipush 16, 2) := by decide +kernel
theorem dX11_looksUp_173 : decode cX11_looksUp 173 = .ok (.iload_n 3, 1) := by decide +kernel
theorem dX11_looksUp_174 : decode cX11_looksUp 174 = .ok (.iconst 2, 1) := by decide +kernel
theorem dX11_looksUp_175 : decode cX11_looksUp 175 = .ok (.if_icmp .ne 10, 3) := by decide +kernel
theorem dX11_looksUp_178 : decode cX11_looksUp 178 = .ok (.iload 5, 2) := by decide +kernel
theorem dX11_looksUp_180 : decode cX11_looksUp 180 = .ok (.iconst 2, 1) := by decide +kernel
theorem dX11_looksUp_181 : decode cX11_looksUp 181 = .ok (.irem, 1) := by decide +kernel
theorem dX11_looksUp_182 : decode cX11_looksUp 182 = .ok (.goto 4, 3) := by decide +kernel
theorem dX11_looksUp_185 : decode cX11_looksUp 185 = .ok (.iconst 0, 1) := by decide +kernel
theorem dX11_looksUp_186 : decode cX11_looksUp 186 = .ok (.imul, 1) := by decide +kernel
theorem dX11_looksUp_187 : decode cX11_looksUp 187 = .ok (.iload 6, 2) := by decide +kernel
theorem dX11_looksUp_189 : decode cX11_looksUp 189 = .ok (.iadd, 1) := by decide +kernel
theorem dX11_looksUp_190 : decode cX11_looksUp 190 = .ok (.iconst 1, 1) := by decide +kernel
theorem dX11_looksUp_191 : decode cX11_looksUp 191 = .ok (.bastore, 1) := by decide +kernel
theorem dX11_looksUp_192 : decode cX11_looksUp 192 = .ok (.aload_n 0, 1) := by decide +kernel
theorem dX11_looksUp_193 : decode cX11_looksUp 193 = .ok (.getfield 7, 3) := by decide +kernel
theorem dX11_looksUp_196 : decode cX11_looksUp 196 = .ok (.iload 6, 2) := by decide +kernel
theorem dX11_looksUp_198 : decode cX11_looksUp 198 = .ok (.iaload, 1) := by decide +kernel
theorem dX11_looksUp_199 : decode cX11_looksUp 199 = .ok (.iload_n 2, 1) := by decide +kernel
theorem dX11_looksUp_200 : decode cX11_looksUp 200 = .ok (.ixor, 1) := by decide +kernel
theorem dX11_looksUp_201 : decode cX11_looksUp 201 = .ok (.istore 4, 2) := by decide +kernel
theorem dX11_looksUp_203 : decode cX11_looksUp 203 = .ok (.iinc 5 1, 3) := by decide +kernel
theorem dX11_looksUp_206 : decode cX11_looksUp 206 = .ok (.goto (-144), 3) := by decide +kernel
theorem dX11_looksUp_209 : decode cX11_looksUp 209 = .ok (.iconst 1, 1) := by decide +kernel
theorem dX11_looksUp_210 : decode cX11_looksUp 210 = .ok (.istore 5, 2) := by decide +kernel
theorem dX11_looksUp_212 : decode cX11_looksUp 212 = .ok (.iload 5, 2) := by decide +kernel
theorem dX11_looksUp_214 : decode cX11_looksUp 214 = .ok (.ifCond .eq 97, 3) := by decide +kernel
theorem dX11_looksUp_217 : decode cX11_looksUp 217 = .ok (.iconst 0, 1) := by decide +kernel
theorem dX11_looksUp_218 : decode cX11_looksUp 218 = .ok (.istore 5, 2) := by decide +kernel
theorem dX11_looksUp_220 : decode cX11_looksUp 220 = .ok (.iconst 0, 1) := by decide +kernel
theorem dX11_looksUp_221 : decode cX11_looksUp 221 = .ok (.istore 6, 2) := by decide +kernel
theorem dX11_looksUp_223 : decode cX11_looksUp 223 = .ok (.iload 6, 2) := by decide +kernel
theorem dX11_looksUp_225 : decode cX11_looksUp 225 = .ok (.iload_n 3, 1) := by decide +kernel
theorem dX11_looksUp_226 : decode cX11_looksUp 226 = .ok (.if_icmp .ge 82, 3) := by decide +kernel
theorem dX11_looksUp_229 : decode cX11_looksUp 229 = .ok (.aload_n 0, 1) := by decide +kernel
theorem dX11_looksUp_230 : decode cX11_looksUp 230 = .ok (.iload 6, 2) := by decide +kernel
theorem dX11_looksUp_232 : decode cX11_looksUp 232 = .ok (.iload_n 2, 1) := by decide +kernel
theorem dX11_looksUp_233 : decode cX11_looksUp 233 = .ok (.invokevirtual 103, 3) := by decide +kernel
theorem dX11_looksUp_236 : decode cX11_looksUp 236 = .ok (.istore 7, 2) := by decide +kernel
theorem dX11_looksUp_238 : decode cX11_looksUp 238 = .ok (.aload_n 0, 1) := by decide +kernel
theorem dX11_looksUp_239 : decode cX11_looksUp 239 = .ok (.getfield 35, 3) := by decide +kernel
theorem dX11_looksUp_242 : decode cX11_looksUp 242 = .ok (.iconst 0, 1) := by decide +kernel
theorem dX11_looksUp_243 : decode cX11_looksUp 243 = .ok (.iaload, 1) := by decide +kernel
theorem dX11_looksUp_244 : decode cX11_looksUp 244 = .ok (.istore 8, 2) := by decide +kernel
theorem dX11_looksUp_246 : decode cX11_looksUp 246 = .ok (.aload_n 0, 1) := by decide +kernel
theorem dX11_looksUp_247 : decode cX11_looksUp 247 = .ok (.getfield 35, 3) := by decide +kernel
theorem dX11_looksUp_250 : decode cX11_looksUp 250 = .ok (.iconst 1, 1) := by decide +kernel
theorem dX11_looksUp_251 : decode cX11_looksUp 251 = .ok (.iaload, 1) := by decide +kernel
theorem dX11_looksUp_252 : decode cX11_looksUp 252 = .ok (.istore 9, 2) := by decide +kernel
theorem dX11_looksUp_254 : decode cX11_looksUp 254 = .ok (.iload 7, 2) := by decide +kernel
theorem dX11_looksUp_256 : decode cX11_looksUp 256 = .ok (.ifCond .le 13, 3) := by decide +kernel
theorem dX11_looksUp_259 : decode cX11_looksUp 259 = .ok (.aload_n 0, 1) := by decide +kernel
theorem dX11_looksUp_260 : decode cX11_looksUp 260 = .ok (.iload_n 1, 1) := by decide +kernel
theorem dX11_looksUp_261 : decode cX11_looksUp 261 = .ok (.iload 8, 2) := by decide +kernel
theorem dX11_looksUp_263 : decode cX11_looksUp 263 = .ok (.iload 6, 2) := by decide +kernel
theorem dX11_looksUp_265 : decode cX11_looksUp 265 = .ok (.iload_n 2, 1) := by decide +kernel
theorem dX11_looksUp_266 : decode cX11_looksUp 266 = .ok (.invokevirtual 106, 3) := by decide +kernel
theorem dX11_looksUp_269 : decode cX11_looksUp 269 = .ok (.iload 7, 2) := by decide +kernel
theorem dX11_looksUp_271 : decode cX11_looksUp 271 = .ok (.iconst 1, 1) := by decide +kernel
theorem dX11_looksUp_272 : decode cX11_looksUp 272 = .ok (.if_icmp .le 13, 3) := by decide +kernel
theorem dX11_looksUp_275 : decode cX11_looksUp 275 = .ok (.aload_n 0, 1) := by decide +kernel
theorem dX11_looksUp_276 : decode cX11_looksUp 276 = .ok (.iload_n 1, 1) := by decide +kernel
theorem dX11_looksUp_277 : decode cX11_looksUp 277 = .ok (.iload 9, 2) := by decide +kernel
theorem dX11_looksUp_279 : decode cX11_looksUp 279 = .ok (.iload 6, 2) := by decide +kernel
theorem dX11_looksUp_281 : decode cX11_looksUp 281 = .ok (.iload_n 2, 1) := by decide +kernel
theorem dX11_looksUp_282 : decode cX11_looksUp 282 = .ok (.invokevirtual 106, 3) := by decide +kernel
theorem dX11_looksUp_285 : decode cX11_looksUp 285 = .ok (.iload 5, 2) := by decide +kernel
theorem dX11_looksUp_287 : decode cX11_looksUp 287 = .ok (.ifCond .ne 8, 3) := by decide +kernel
theorem dX11_looksUp_290 : decode cX11_looksUp 290 = .ok (.iload 7, 2) := by decide +kernel
theorem dX11_looksUp_292 : decode cX11_looksUp 292 = .ok (.ifCond .le 7, 3) := by decide +kernel
theorem dX11_looksUp_295 : decode cX11_looksUp 295 = .ok (.iconst 1, 1) := by decide +kernel
theorem dX11_looksUp_296 : decode cX11_looksUp 296 = .ok (.goto 4, 3) := by decide +kernel
theorem dX11_looksUp_299 : decode cX11_looksUp 299 = .ok (.iconst 0, 1) := by decide +kernel
theorem dX11_looksUp_300 : decode cX11_looksUp 300 = .ok (.istore 5, 2) := by decide +kernel
theorem dX11_looksUp_302 : decode cX11_looksUp 302 = .ok (.iinc 6 1, 3) := by decide +kernel
theorem dX11_looksUp_305 : decode cX11_looksUp 305 = .ok (.goto (-82), 3) := by decide +kernel
theorem dX11_looksUp_308 : decode cX11_looksUp 308 = .ok (.goto (-96), 3) := by decide +kernel
theorem dX11_looksUp_311 : decode cX11_looksUp 311 = .ok (.aload_n 0, 1) := by decide +kernel
theorem dX11_looksUp_312 : decode cX11_looksUp 312 = .ok (.iload_n 2, 1) := by decide +kernel
theorem dX11_looksUp_313 : decode cX11_looksUp 313 = .ok (.invokevirtual 110, 3) := by decide +kernel
theorem dX11_looksUp_316 : decode cX11_looksUp 316 = .ok (.return_, 1) := by decide +kernel
theorem dX11_closestOf_0 : decode cX11_closestOf 0 = .ok (.aload_n 0, 1) := by decide +kernel
theorem dX11_closestOf_1 : decode cX11_closestOf 1 = .ok (.iconst 0, 1) := by decide +kernel
theorem dX11_closestOf_2 : decode cX11_closestOf 2 = .ok (.putfield 114, 3) := by decide +kernel
theorem dX11_closestOf_5 : decode cX11_closestOf 5 = .ok (.iconst (-1), 1) := by decide +kernel
theorem dX11_closestOf_6 : decode cX11_closestOf 6 = .ok (.istore_n 2, 1) := by decide +kernel
theorem dX11_closestOf_7 : decode cX11_closestOf 7 = .ok (.iconst 0, 1) := by decide +kernel
theorem dX11_closestOf_8 : decode cX11_closestOf 8 = .ok (.istore_n 3, 1) := by decide +kernel
theorem dX11_closestOf_9 : decode cX11_closestOf 9 = .ok (.iload_n 3, 1) := by decide +kernel
theorem dX11_closestOf_10 : decode cX11_closestOf 10 = .ok (.iconst 3, 1) := by decide +kernel
theorem dX11_closestOf_11 : decode cX11_closestOf 11 = .ok (.if_icmp .ge 135, 3) := by decide +kernel
theorem dX11_closestOf_14 : decode cX11_closestOf 14 = .ok (.iconst (-1), 1) := by decide +kernel
theorem dX11_closestOf_15 : decode cX11_closestOf 15 = .ok (.istore 4, 2) := by decide +kernel
theorem dX11_closestOf_17 : decode cX11_closestOf 17 = .ok (.iconst 0, 1) := by decide +kernel
theorem dX11_closestOf_18 : decode cX11_closestOf 18 = .ok (.istore 5, 2) := by decide +kernel
theorem dX11_closestOf_20 : decode cX11_closestOf 20 = .ok (.iload 5, 2) := by decide +kernel
theorem dX11_closestOf_22 : decode cX11_closestOf 22 = .ok (.aload_n 0, 1) := by decide +kernel
theorem dX11_closestOf_23 : decode cX11_closestOf 23 = .ok (.getfield 78, 3) := by decide +kernel
theorem dX11_closestOf_26 : decode cX11_closestOf 26 = .ok (.if_icmp .ge 77, 3) := by decide +kernel
theorem dX11_closestOf_29 : decode cX11_closestOf 29 = .ok (.aload_n 0, 1) := by decide +kernel
theorem dX11_closestOf_30 : decode cX11_closestOf 30 = .ok (.getfield 7, 3) := by decide +kernel
theorem dX11_closestOf_33 : decode cX11_closestOf 33 = .ok (.iload 5, 2) := by decide +kernel
theorem dX11_closestOf_35 : decode cX11_closestOf 35 = .ok (.iaload, 1) := by decide +kernel
theorem dX11_closestOf_36 : decode cX11_closestOf 36 = .ok (.iload_n 1, 1) := by decide +kernel
theorem dX11_closestOf_37 : decode cX11_closestOf 37 = .ok (.ixor, 1) := by decide +kernel
theorem dX11_closestOf_38 : decode cX11_closestOf 38 = .ok (.istore 6, 2) := by decide +kernel
theorem dX11_closestOf_40 : decode cX11_closestOf 40 = .ok (.aload_n 0, 1) := by decide +kernel
theorem dX11_closestOf_41 : decode cX11_closestOf 41 = .ok (.getfield 32, 3) := by decide +kernel
theorem dX11_closestOf_44 : decode cX11_closestOf 44 = .ok (.iload 5, 2) := by decide +kernel
theorem dX11_closestOf_46 : decode cX11_closestOf 46 = .ok (.baload, 1) := by decide +kernel
theorem dX11_closestOf_47 : decode cX11_closestOf 47 = .ok (.ifCond .eq 13, 3) := by decide +kernel
theorem dX11_closestOf_50 : decode cX11_closestOf 50 = .ok (.iload 6, 2) := by decide +kernel
theorem dX11_closestOf_52 : decode cX11_closestOf 52 = .ok (.iload_n 2, 1) := by decide +kernel
theorem dX11_closestOf_53 : decode cX11_closestOf 53 = .ok (.if_icmp .le 7, 3) := by decide +kernel
theorem dX11_closestOf_56 : decode cX11_closestOf 56 = .ok (.iconst 1, 1) := by decide +kernel
theorem dX11_closestOf_57 : decode cX11_closestOf 57 = .ok (.goto 4, 3) := by decide +kernel
theorem dX11_closestOf_60 : decode cX11_closestOf 60 = .ok (.iconst 0, 1) := by decide +kernel
theorem dX11_closestOf_61 : decode cX11_closestOf 61 = .ok (.istore 7, 2) := by decide +kernel
theorem dX11_closestOf_63 : decode cX11_closestOf 63 = .ok (.iload 7, 2) := by decide +kernel
theorem dX11_closestOf_65 : decode cX11_closestOf 65 = .ok (.ifCond .eq 28, 3) := by decide +kernel
theorem dX11_closestOf_68 : decode cX11_closestOf 68 = .ok (.iload 4, 2) := by decide +kernel
theorem dX11_closestOf_70 : decode cX11_closestOf 70 = .ok (.iconst (-1), 1) := by decide +kernel
theorem dX11_closestOf_71 : decode cX11_closestOf 71 = .ok (.if_icmp .eq 17, 3) := by decide +kernel
theorem dX11_closestOf_74 : decode cX11_closestOf 74 = .ok (.iload 6, 2) := by decide +kernel
theorem dX11_closestOf_76 : decode cX11_closestOf 76 = .ok (.aload_n 0, 1) := by decide +kernel
theorem dX11_closestOf_77 : decode cX11_closestOf 77 = .ok (.getfield 7, 3) := by decide +kernel
theorem dX11_closestOf_80 : decode cX11_closestOf 80 = .ok (.iload 4, 2) := by decide +kernel
theorem dX11_closestOf_82 : decode cX11_closestOf 82 = .ok (.iaload, 1) := by decide +kernel
theorem dX11_closestOf_83 : decode cX11_closestOf 83 = .ok (.iload_n 1, 1) := by decide +kernel
theorem dX11_closestOf_84 : decode cX11_closestOf 84 = .ok (.ixor, 1) := by decide +kernel
theorem dX11_closestOf_85 : decode cX11_closestOf 85 = .ok (.if_icmp .ge 8, 3) := by decide +kernel
theorem dX11_closestOf_88 : decode cX11_closestOf 88 = .ok (.iload 5, 2) := by decide +kernel
theorem dX11_closestOf_90 : decode cX11_closestOf 90 = .ok (.goto 5, 3) := by decide +kernel
theorem dX11_closestOf_93 : decode cX11_closestOf 93 = .ok (.iload 4, 2) := by decide +kernel
theorem dX11_closestOf_95 : decode cX11_closestOf 95 = .ok (.istore 4, 2) := by decide +kernel
theorem dX11_closestOf_97 : decode cX11_closestOf 97 = .ok (.iinc 5 1, 3) := by decide +kernel
theorem dX11_closestOf_100 : decode cX11_closestOf 100 = .ok (.goto (-80), 3) := by decide +kernel
theorem dX11_closestOf_103 : decode cX11_closestOf 103 = .ok (.iload 4, 2) := by decide +kernel
theorem dX11_closestOf_105 : decode cX11_closestOf 105 = .ok (.iconst (-1), 1) := by decide +kernel
theorem dX11_closestOf_106 : decode cX11_closestOf 106 = .ok (.if_icmp .eq 34, 3) := by decide +kernel
theorem dX11_closestOf_109 : decode cX11_closestOf 109 = .ok (.aload_n 0, 1) := by decide +kernel
theorem dX11_closestOf_110 : decode cX11_closestOf 110 = .ok (.getfield 38, 3) := by decide +kernel
theorem dX11_closestOf_113 : decode cX11_closestOf 113 = .ok (.aload_n 0, 1) := by decide +kernel
theorem dX11_closestOf_114 : decode cX11_closestOf 114 = .ok (.getfield 114, 3) := by decide +kernel
theorem dX11_closestOf_117 : decode cX11_closestOf 117 = .ok (.iload 4, 2) := by decide +kernel
theorem dX11_closestOf_119 : decode cX11_closestOf 119 = .ok (.iastore, 1) := by decide +kernel
theorem dX11_closestOf_120 : decode cX11_closestOf 120 = .ok (.aload_n 0, 1) := by decide +kernel
theorem dX11_closestOf_121 : decode cX11_closestOf 121 = .ok (.dup, 1) := by decide +kernel
theorem dX11_closestOf_122 : decode cX11_closestOf 122 = .ok (.getfield 114, 3) := by decide +kernel
theorem dX11_closestOf_125 : decode cX11_closestOf 125 = .ok (.iconst 1, 1) := by decide +kernel
theorem dX11_closestOf_126 : decode cX11_closestOf 126 = .ok (.iadd, 1) := by decide +kernel
theorem dX11_closestOf_127 : decode cX11_closestOf 127 = .ok (.putfield 114, 3) := by decide +kernel
theorem dX11_closestOf_130 : decode cX11_closestOf 130 = .ok (.aload_n 0, 1) := by decide +kernel
theorem dX11_closestOf_131 : decode cX11_closestOf 131 = .ok (.getfield 7, 3) := by decide +kernel
theorem dX11_closestOf_134 : decode cX11_closestOf 134 = .ok (.iload 4, 2) := by decide +kernel
theorem dX11_closestOf_136 : decode cX11_closestOf 136 = .ok (.iaload, 1) := by decide +kernel
theorem dX11_closestOf_137 : decode cX11_closestOf 137 = .ok (.iload_n 1, 1) := by decide +kernel
theorem dX11_closestOf_138 : decode cX11_closestOf 138 = .ok (.ixor, 1) := by decide +kernel
theorem dX11_closestOf_139 : decode cX11_closestOf 139 = .ok (.istore_n 2, 1) := by decide +kernel
theorem dX11_closestOf_140 : decode cX11_closestOf 140 = .ok (.iinc 3 1, 3) := by decide +kernel
theorem dX11_closestOf_143 : decode cX11_closestOf 143 = .ok (.goto (-134), 3) := by decide +kernel
theorem dX11_closestOf_146 : decode cX11_closestOf 146 = .ok (.return_, 1) := by decide +kernel
theorem dX11_told_0 : decode cX11_told 0 = .ok (.iconst 0, 1) := by decide +kernel
theorem dX11_told_1 : decode cX11_told 1 = .ok (.istore_n 1, 1) := by decide +kernel
theorem dX11_told_2 : decode cX11_told 2 = .ok (.aload_n 0, 1) := by decide +kernel
theorem dX11_told_3 : decode cX11_told 3 = .ok (.getfield 114, 3) := by decide +kernel
theorem dX11_told_6 : decode cX11_told 6 = .ok (.iconst 1, 1) := by decide +kernel
theorem dX11_told_7 : decode cX11_told 7 = .ok (.isub, 1) := by decide +kernel
theorem dX11_told_8 : decode cX11_told 8 = .ok (.istore_n 2, 1) := by decide +kernel
theorem dX11_told_9 : decode cX11_told 9 = .ok (.iload_n 2, 1) := by decide +kernel
theorem dX11_told_10 : decode cX11_told 10 = .ok (.ifCond .lt 23, 3) := by decide +kernel
theorem dX11_told_13 : decode cX11_told 13 = .ok (.bipush 32, 2) := by decide +kernel
theorem dX11_told_15 : decode cX11_told 15 = .ok (.iload_n 1, 1) := by decide +kernel
theorem dX11_told_16 : decode cX11_told 16 = .ok (.imul, 1) := by decide +kernel
theorem dX11_told_17 : decode cX11_told 17 = .ok (.aload_n 0, 1) := by decide +kernel
theorem dX11_told_18 : decode cX11_told 18 = .ok (.getfield 38, 3) := by decide +kernel
theorem dX11_told_21 : decode cX11_told 21 = .ok (.iload_n 2, 1) := by decide +kernel
theorem dX11_told_22 : decode cX11_told 22 = .ok (.iaload, 1) := by decide +kernel
theorem dX11_told_23 : decode cX11_told 23 = .ok (.iadd, 1) := by decide +kernel
theorem dX11_told_24 : decode cX11_told 24 = .ok (.iconst 1, 1) := by decide +kernel
theorem dX11_told_25 : decode cX11_told 25 = .ok (.iadd, 1) := by decide +kernel
theorem dX11_told_26 : decode cX11_told 26 = .ok (.istore_n 1, 1) := by decide +kernel
theorem dX11_told_27 : decode cX11_told 27 = .ok (.iinc 2 (-1), 3) := by decide +kernel
theorem dX11_told_30 : decode cX11_told 30 = .ok (.goto (-21), 3) := by decide +kernel
theorem dX11_told_33 : decode cX11_told 33 = .ok (.iload_n 1, 1) := by decide +kernel
theorem dX11_told_34 : decode cX11_told 34 = .ok (.ireturn, 1) := by decide +kernel
theorem dX11_isId_0 : decode cX11_isId 0 = .ok (.iconst 0, 1) := by decide +kernel
theorem dX11_isId_1 : decode cX11_isId 1 = .ok (.istore_n 2, 1) := by decide +kernel
theorem dX11_isId_2 : decode cX11_isId 2 = .ok (.iconst 0, 1) := by decide +kernel
theorem dX11_isId_3 : decode cX11_isId 3 = .ok (.istore_n 3, 1) := by decide +kernel
theorem dX11_isId_4 : decode cX11_isId 4 = .ok (.iload_n 3, 1) := by decide +kernel
theorem dX11_isId_5 : decode cX11_isId 5 = .ok (.aload_n 0, 1) := by decide +kernel
theorem dX11_isId_6 : decode cX11_isId 6 = .ok (.getfield 78, 3) := by decide +kernel
theorem dX11_isId_9 : decode cX11_isId 9 = .ok (.if_icmp .ge 29, 3) := by decide +kernel
theorem dX11_isId_12 : decode cX11_isId 12 = .ok (.iload_n 2, 1) := by decide +kernel
theorem dX11_isId_13 : decode cX11_isId 13 = .ok (.ifCond .ne 13, 3) := by decide +kernel
theorem dX11_isId_16 : decode cX11_isId 16 = .ok (.aload_n 0, 1) := by decide +kernel
theorem dX11_isId_17 : decode cX11_isId 17 = .ok (.getfield 7, 3) := by decide +kernel
theorem dX11_isId_20 : decode cX11_isId 20 = .ok (.iload_n 3, 1) := by decide +kernel
theorem dX11_isId_21 : decode cX11_isId 21 = .ok (.iaload, 1) := by decide +kernel
theorem dX11_isId_22 : decode cX11_isId 22 = .ok (.iload_n 1, 1) := by decide +kernel
theorem dX11_isId_23 : decode cX11_isId 23 = .ok (.if_icmp .ne 7, 3) := by decide +kernel
theorem dX11_isId_26 : decode cX11_isId 26 = .ok (.iconst 1, 1) := by decide +kernel
theorem dX11_isId_27 : decode cX11_isId 27 = .ok (.goto 4, 3) := by decide +kernel
theorem dX11_isId_30 : decode cX11_isId 30 = .ok (.iconst 0, 1) := by decide +kernel
theorem dX11_isId_31 : decode cX11_isId 31 = .ok (.istore_n 2, 1) := by decide +kernel
theorem dX11_isId_32 : decode cX11_isId 32 = .ok (.iinc 3 1, 3) := by decide +kernel
