theorem dX11_isId_35 : decode cX11_isId 35 = .ok (.goto (-31), 3) := by decide +kernel
theorem dX11_isId_38 : decode cX11_isId 38 = .ok (.iload_n 2, 1) := by decide +kernel
theorem dX11_isId_39 : decode cX11_isId 39 = .ok (.ireturn, 1) := by decide +kernel
set_option maxRecDepth 20000 in
theorem ggX11_peer_X11_isIn : GoodIn wsX11_peer wsX11_isIn := goodIn_r _ [8] (by decide +kernel) (by decide +kernel)
set_option maxRecDepth 20000 in
theorem gX11_peer_X11_isIn : GoodIn wsX11_peer (va_wsS RX11 81 yX11_isIn wsX11_isIn) := goodIn_app (goodIn_of _ (by decide +kernel)) ggX11_peer_X11_isIn
set_option maxRecDepth 20000 in
theorem ggX11_peer_X11_isPeer : GoodIn wsX11_peer wsX11_isPeer := goodIn_r _ [12, 1, 5, 6, 7, 8, 58, 59, 60, 61, 62, 63, 64, 65, 66, 67, 68, 69, 70, 71, 72, 73, 74, 75, 76, 77, 78, 79, 80, 81, 82, 83, 84, 85] (by decide +kernel) (by decide +kernel)
set_option maxRecDepth 20000 in
theorem gX11_peer_X11_isPeer : GoodIn wsX11_peer (wsV RX11 117 RX11 yX11_isPeer wsX11_isPeer) := goodIn_app (goodIn_of _ (by decide +kernel)) ggX11_peer_X11_isPeer
set_option maxRecDepth 20000 in
theorem ggX11_peer_X11_isId : GoodIn wsX11_peer wsX11_isId := goodIn_r _ [16, 1, 3, 58, 59, 60, 61, 62, 63, 64, 65, 66, 67, 68, 69, 70, 71, 72, 73, 74, 75, 76, 77, 78, 79, 80, 81, 82, 83, 84, 85] (by decide +kernel) (by decide +kernel)
set_option maxRecDepth 20000 in
theorem gX11_peer_X11_isId : GoodIn wsX11_peer (wsV RX11 121 RX11 yX11_isId wsX11_isId) := goodIn_app (goodIn_of _ (by decide +kernel)) ggX11_peer_X11_isId
set_option maxRecDepth 20000 in
theorem ggX11_peer_X11_holds : GoodIn wsX11_peer wsX11_holds := goodIn_r _ [20, 21, 58, 59, 60, 61, 62, 63, 64, 65, 66, 67, 68, 69, 70, 71, 72, 73, 74, 75, 76, 77, 78, 79, 80, 81, 82, 83, 84, 85] (by decide +kernel) (by decide +kernel)
set_option maxRecDepth 20000 in
theorem gX11_peer_X11_holds : GoodIn wsX11_peer (wsV RX11 124 RX11 yX11_holds wsX11_holds) := goodIn_app (goodIn_of _ (by decide +kernel)) ggX11_peer_X11_holds
set_option maxRecDepth 20000 in
theorem ggX11_peer_X11_hears : GoodIn wsX11_peer wsX11_hears := goodIn_r _ [25, 3, 26, 27, 2, 28, 29, 7, 30, 58, 59, 60, 61, 62, 63, 64, 65, 66, 67, 68, 69, 70, 71, 72, 73, 74, 75, 76, 77, 78, 79, 80, 81, 82, 83, 84, 85] (by decide +kernel) (by decide +kernel)
set_option maxRecDepth 20000 in
theorem gX11_peer_X11_hears : GoodIn wsX11_peer (wsV RX11 95 RX11 yX11_hears wsX11_hears) := goodIn_app (goodIn_of _ (by decide +kernel)) ggX11_peer_X11_hears
set_option maxRecDepth 20000 in
theorem ggX11_peer_X11_looksUp : GoodIn wsX11_peer wsX11_looksUp := goodIn_r _ [34, 35, 36, 37, 38, 1, 3, 39, 40, 41, 42, 7, 43, 26, 27, 44, 45, 46, 47, 48, 49, 50, 51, 2, 4, 22, 23, 24, 25, 28, 29, 30, 52, 53, 54, 55, 56, 57, 58, 59, 60, 61, 62, 63, 64, 65, 66, 67, 68, 69, 70, 71, 72, 73, 74, 75, 76, 77, 78, 79, 80, 81, 82, 83, 84, 85] (by decide +kernel) (by decide +kernel)
set_option maxRecDepth 20000 in
theorem gX11_peer_X11_looksUp : GoodIn wsX11_peer (wsV RX11 127 RX11 yX11_looksUp wsX11_looksUp) := goodIn_app (goodIn_of _ (by decide +kernel)) ggX11_peer_X11_looksUp
theorem dX11_peer_0 : decode cX11_peer 0 = .ok (.iload_n 1, 1) := by decide +kernel
theorem dX11_peer_1 : decode cX11_peer 1 = .ok (.iconst 0, 1) := by decide +kernel
theorem dX11_peer_2 : decode cX11_peer 2 = .ok (.sipush 255, 3) := by decide +kernel
theorem dX11_peer_5 : decode cX11_peer 5 = .ok (.invokestatic 81, 3) := by decide +kernel
theorem dX11_peer_8 : decode cX11_peer 8 = .ok (.ifCond .eq 16, 3) := by decide +kernel
theorem dX11_peer_11 : decode cX11_peer 11 = .ok (.iload_n 2, 1) := by decide +kernel
theorem dX11_peer_12 : decode cX11_peer 12 = .ok (.iconst 0, 1) := by decide +kernel
theorem dX11_peer_13 : decode cX11_peer 13 = .ok (.iconst 2, 1) := by decide +kernel
theorem dX11_peer_14 : decode cX11_peer 14 = .ok (.invokestatic 81, 3) := by decide +kernel
theorem dX11_peer_17 : decode cX11_peer 17 = .ok (.ifCond .eq 7, 3) := by decide +kernel
theorem dX11_peer_20 : decode cX11_peer 20 = .ok (.iconst 1, 1) := by decide +kernel
theorem dX11_peer_21 : decode cX11_peer 21 = .ok (.goto 4, 3) := by decide +kernel
theorem dX11_peer_24 : decode cX11_peer 24 = .ok (.iconst 0, 1) := by decide +kernel
theorem dX11_peer_25 : decode cX11_peer 25 = .ok (.istore 4, 2) := by decide +kernel
theorem dX11_peer_27 : decode cX11_peer 27 = .ok (.iload_n 3, 1) := by decide +kernel
theorem dX11_peer_28 : decode cX11_peer 28 = .ok (.iconst (-1), 1) := by decide +kernel
theorem dX11_peer_29 : decode cX11_peer 29 = .ok (.if_icmp .eq 11, 3) := by decide +kernel
theorem dX11_peer_32 : decode cX11_peer 32 = .ok (.aload_n 0, 1) := by decide +kernel
theorem dX11_peer_33 : decode cX11_peer 33 = .ok (.iload_n 3, 1) := by decide +kernel
theorem dX11_peer_34 : decode cX11_peer 34 = .ok (.invokevirtual 117, 3) := by decide +kernel
theorem dX11_peer_37 : decode cX11_peer 37 = .ok (.ifCond .eq 7, 3) := by decide +kernel
theorem dX11_peer_40 : decode cX11_peer 40 = .ok (.iconst 1, 1) := by decide +kernel
theorem dX11_peer_41 : decode cX11_peer 41 = .ok (.goto 4, 3) := by decide +kernel
theorem dX11_peer_44 : decode cX11_peer 44 = .ok (.iconst 0, 1) := by decide +kernel
theorem dX11_peer_45 : decode cX11_peer 45 = .ok (.istore 5, 2) := by decide +kernel
theorem dX11_peer_47 : decode cX11_peer 47 = .ok (.iload 5, 2) := by decide +kernel
theorem dX11_peer_49 : decode cX11_peer 49 = .ok (.ifCond .eq 38, 3) := by decide +kernel
theorem dX11_peer_52 : decode cX11_peer 52 = .ok (.aload_n 0, 1) := by decide +kernel
theorem dX11_peer_53 : decode cX11_peer 53 = .ok (.getfield 78, 3) := by decide +kernel
theorem dX11_peer_56 : decode cX11_peer 56 = .ok (.bipush 16, 2) := by decide +kernel
theorem dX11_peer_58 : decode cX11_peer 58 = .ok (.if_icmp .ge 29, 3) := by decide +kernel
theorem dX11_peer_61 : decode cX11_peer 61 = .ok (.aload_n 0, 1) := by decide +kernel
theorem dX11_peer_62 : decode cX11_peer 62 = .ok (.iload_n 1, 1) := by decide +kernel
theorem dX11_peer_63 : decode cX11_peer 63 = .ok (.invokevirtual 121, 3) := by decide +kernel
theorem dX11_peer_66 : decode cX11_peer 66 = .ok (.ifCond .ne 21, 3) := by decide +kernel
theorem dX11_peer_69 : decode cX11_peer 69 = .ok (.iload_n 3, 1) := by decide +kernel
theorem dX11_peer_70 : decode cX11_peer 70 = .ok (.iconst (-1), 1) := by decide +kernel
theorem dX11_peer_71 : decode cX11_peer 71 = .ok (.if_icmp .eq 12, 3) := by decide +kernel
theorem dX11_peer_74 : decode cX11_peer 74 = .ok (.aload_n 0, 1) := by decide +kernel
theorem dX11_peer_75 : decode cX11_peer 75 = .ok (.getfield 16, 3) := by decide +kernel
theorem dX11_peer_78 : decode cX11_peer 78 = .ok (.iload_n 3, 1) := by decide +kernel
theorem dX11_peer_79 : decode cX11_peer 79 = .ok (.baload, 1) := by decide +kernel
theorem dX11_peer_80 : decode cX11_peer 80 = .ok (.ifCond .eq 7, 3) := by decide +kernel
theorem dX11_peer_83 : decode cX11_peer 83 = .ok (.iconst 1, 1) := by decide +kernel
theorem dX11_peer_84 : decode cX11_peer 84 = .ok (.goto 4, 3) := by decide +kernel
theorem dX11_peer_87 : decode cX11_peer 87 = .ok (.iconst 0, 1) := by decide +kernel
theorem dX11_peer_88 : decode cX11_peer 88 = .ok (.istore 6, 2) := by decide +kernel
theorem dX11_peer_90 : decode cX11_peer 90 = .ok (.aload_n 0, 1) := by decide +kernel
theorem dX11_peer_91 : decode cX11_peer 91 = .ok (.iload 4, 2) := by decide +kernel
theorem dX11_peer_93 : decode cX11_peer 93 = .ok (.ifCond .ne 7, 3) := by decide +kernel
theorem dX11_peer_96 : decode cX11_peer 96 = .ok (.iconst 1, 1) := by decide +kernel
theorem dX11_peer_97 : decode cX11_peer 97 = .ok (.goto 22, 3) := by decide +kernel
theorem dX11_peer_100 : decode cX11_peer 100 = .ok (.iload 5, 2) := by decide +kernel
theorem dX11_peer_102 : decode cX11_peer 102 = .ok (.ifCond .ne 7, 3) := by decide +kernel
theorem dX11_peer_105 : decode cX11_peer 105 = .ok (.iconst 2, 1) := by decide +kernel
theorem dX11_peer_106 : decode cX11_peer 106 = .ok (.goto 13, 3) := by decide +kernel
theorem dX11_peer_109 : decode cX11_peer 109 = .ok (.iload 6, 2) := by decide +kernel
theorem dX11_peer_111 : decode cX11_peer 111 = .ok (.ifCond .eq 7, 3) := by decide +kernel
theorem dX11_peer_114 : decode cX11_peer 114 = .ok (.iconst 0, 1) := by decide +kernel
theorem dX11_peer_115 : decode cX11_peer 115 = .ok (.goto 4, 3) := by decide +kernel
theorem dX11_peer_118 : decode cX11_peer 118 = .ok (.iconst 3, 1) := by decide +kernel
theorem dX11_peer_119 : decode cX11_peer 119 = .ok (.invokevirtual 124, 3) := by decide +kernel
theorem dX11_peer_122 : decode cX11_peer 122 = .ok (.ifCond .ne 5, 3) := by decide +kernel
theorem dX11_peer_125 : decode cX11_peer 125 = .ok (.iconst 0, 1) := by decide +kernel
theorem dX11_peer_126 : decode cX11_peer 126 = .ok (.ireturn, 1) := by decide +kernel
theorem dX11_peer_127 : decode cX11_peer 127 = .ok (.aload_n 0, 1) := by decide +kernel
theorem dX11_peer_128 : decode cX11_peer 128 = .ok (.getfield 78, 3) := by decide +kernel
theorem dX11_peer_131 : decode cX11_peer 131 = .ok (.istore 7, 2) := by decide +kernel
theorem dX11_peer_133 : decode cX11_peer 133 = .ok (.aload_n 0, 1) := by decide +kernel
theorem dX11_peer_134 : decode cX11_peer 134 = .ok (.getfield 7, 3) := by decide +kernel
theorem dX11_peer_137 : decode cX11_peer 137 = .ok (.iload 7, 2) := by decide +kernel
theorem dX11_peer_139 : decode cX11_peer 139 = .ok (.iload_n 1, 1) := by decide +kernel
theorem dX11_peer_140 : decode cX11_peer 140 = .ok (.iastore, 1) := by decide +kernel
theorem dX11_peer_141 : decode cX11_peer 141 = .ok (.aload_n 0, 1) := by decide +kernel
theorem dX11_peer_142 : decode cX11_peer 142 = .ok (.getfield 13, 3) := by decide +kernel
theorem dX11_peer_145 : decode cX11_peer 145 = .ok (.iload 7, 2) := by decide +kernel
theorem dX11_peer_147 : decode cX11_peer 147 = .ok (.iload_n 2, 1) := by decide +kernel
theorem dX11_peer_148 : decode cX11_peer 148 = .ok (.iastore, 1) := by decide +kernel
theorem dX11_peer_149 : decode cX11_peer 149 = .ok (.aload_n 0, 1) := by decide +kernel
theorem dX11_peer_150 : decode cX11_peer 150 = .ok (.getfield 16, 3) := by decide +kernel
theorem dX11_peer_153 : decode cX11_peer 153 = .ok (.iload 7, 2) := by decide +kernel
theorem dX11_peer_155 : decode cX11_peer 155 = .ok (.iconst 1, 1) := by decide +kernel
theorem dX11_peer_156 : decode cX11_peer 156 = .ok (.bastore, 1) := by decide +kernel
theorem dX11_peer_157 : decode cX11_peer 157 = .ok (.aload_n 0, 1) := by decide +kernel
theorem dX11_peer_158 : decode cX11_peer 158 = .ok (.dup, 1) := by decide +kernel
theorem dX11_peer_159 : decode cX11_peer 159 = .ok (.getfield 78, 3) := by decide +kernel
theorem dX11_peer_162 : decode cX11_peer 162 = .ok (.iconst 1, 1) := by decide +kernel
theorem dX11_peer_163 : decode cX11_peer 163 = .ok (.iadd, 1) := by decide +kernel
theorem dX11_peer_164 : decode cX11_peer 164 = .ok (.putfield 78, 3) := by decide +kernel
theorem dX11_peer_167 : decode cX11_peer 167 = .ok (.iload_n 3, 1) := by decide +kernel
theorem dX11_peer_168 : decode cX11_peer 168 = .ok (.iconst (-1), 1) := by decide +kernel
theorem dX11_peer_169 : decode cX11_peer 169 = .ok (.if_icmp .eq 25, 3) := by decide +kernel
theorem dX11_peer_172 : decode cX11_peer 172 = .ok (.aload_n 0, 1) := by decide +kernel
theorem dX11_peer_173 : decode cX11_peer 173 = .ok (.iload 7, 2) := by decide +kernel
theorem dX11_peer_175 : decode cX11_peer 175 = .ok (.iload_n 3, 1) := by decide +kernel
theorem dX11_peer_176 : decode cX11_peer 176 = .ok (.invokevirtual 95, 3) := by decide +kernel
theorem dX11_peer_179 : decode cX11_peer 179 = .ok (.aload_n 0, 1) := by decide +kernel
theorem dX11_peer_180 : decode cX11_peer 180 = .ok (.iload_n 3, 1) := by decide +kernel
theorem dX11_peer_181 : decode cX11_peer 181 = .ok (.iload 7, 2) := by decide +kernel
theorem dX11_peer_183 : decode cX11_peer 183 = .ok (.invokevirtual 95, 3) := by decide +kernel
theorem dX11_peer_186 : decode cX11_peer 186 = .ok (.aload_n 0, 1) := by decide +kernel
theorem dX11_peer_187 : decode cX11_peer 187 = .ok (.iload 7, 2) := by decide +kernel
theorem dX11_peer_189 : decode cX11_peer 189 = .ok (.iload_n 1, 1) := by decide +kernel
theorem dX11_peer_190 : decode cX11_peer 190 = .ok (.iconst 1, 1) := by decide +kernel
theorem dX11_peer_191 : decode cX11_peer 191 = .ok (.invokevirtual 127, 3) := by decide +kernel
theorem dX11_peer_194 : decode cX11_peer 194 = .ok (.iload 7, 2) := by decide +kernel
theorem dX11_peer_196 : decode cX11_peer 196 = .ok (.ireturn, 1) := by decide +kernel
set_option maxRecDepth 20000 in
theorem ggX11_turn_X11_isPeer : GoodIn wsX11_turn wsX11_isPeer := goodIn_r _ [6, 7, 8, 9, 5, 10, 16, 17, 18, 19, 20, 21, 22, 23, 24, 25, 26, 27, 28, 29, 30, 31, 32, 33, 34, 35, 36, 37, 38, 39, 40, 41, 42, 43] (by decide +kernel) (by decide +kernel)
set_option maxRecDepth 20000 in
theorem gX11_turn_X11_isPeer : GoodIn wsX11_turn (wsV RX11 117 RX11 yX11_isPeer wsX11_isPeer) := goodIn_app (goodIn_of _ (by decide +kernel)) ggX11_turn_X11_isPeer
set_option maxRecDepth 20000 in
theorem ggX11_turn_X11_holds : GoodIn wsX11_turn wsX11_holds := goodIn_r _ [14, 15, 16, 17, 18, 19, 20, 21, 22, 23, 24, 25, 26, 27, 28, 29, 30, 31, 32, 33, 34, 35, 36, 37, 38, 39, 40, 41, 42, 43] (by decide +kernel) (by decide +kernel)
set_option maxRecDepth 20000 in
theorem gX11_turn_X11_holds : GoodIn wsX11_turn (wsV RX11 124 RX11 yX11_holds wsX11_holds) := goodIn_app (goodIn_of _ (by decide +kernel)) ggX11_turn_X11_holds
theorem dX11_turn_0 : decode cX11_turn 0 = .ok (.aload_n 0, 1) := by decide +kernel
theorem dX11_turn_1 : decode cX11_turn 1 = .ok (.aload_n 0, 1) := by decide +kernel
theorem dX11_turn_2 : decode cX11_turn 2 = .ok (.iload_n 1, 1) := by decide +kernel
theorem dX11_turn_3 : decode cX11_turn 3 = .ok (.invokevirtual 117, 3) := by decide +kernel
theorem dX11_turn_6 : decode cX11_turn 6 = .ok (.ifCond .eq 7, 3) := by decide +kernel
theorem dX11_turn_9 : decode cX11_turn 9 = .ok (.iconst 0, 1) := by decide +kernel
theorem dX11_turn_10 : decode cX11_turn 10 = .ok (.goto 4, 3) := by decide +kernel
theorem dX11_turn_13 : decode cX11_turn 13 = .ok (.iconst 1, 1) := by decide +kernel
theorem dX11_turn_14 : decode cX11_turn 14 = .ok (.invokevirtual 124, 3) := by decide +kernel
theorem dX11_turn_17 : decode cX11_turn 17 = .ok (.ifCond .ne 5, 3) := by decide +kernel
theorem dX11_turn_20 : decode cX11_turn 20 = .ok (.iconst 0, 1) := by decide +kernel
theorem dX11_turn_21 : decode cX11_turn 21 = .ok (.ireturn, 1) := by decide +kernel
theorem dX11_turn_22 : decode cX11_turn 22 = .ok (.aload_n 0, 1) := by decide +kernel
theorem dX11_turn_23 : decode cX11_turn 23 = .ok (.getfield 16, 3) := by decide +kernel
theorem dX11_turn_26 : decode cX11_turn 26 = .ok (.iload_n 1, 1) := by decide +kernel
theorem dX11_turn_27 : decode cX11_turn 27 = .ok (.baload, 1) := by decide +kernel
theorem dX11_turn_28 : decode cX11_turn 28 = .ok (.istore_n 3, 1) := by decide +kernel
theorem dX11_turn_29 : decode cX11_turn 29 = .ok (.aload_n 0, 1) := by decide +kernel
theorem dX11_turn_30 : decode cX11_turn 30 = .ok (.getfield 16, 3) := by decide +kernel
theorem dX11_turn_33 : decode cX11_turn 33 = .ok (.iload_n 1, 1) := by decide +kernel
theorem dX11_turn_34 : decode cX11_turn 34 = .ok (.iload_n 2, 1) := by decide +kernel
theorem dX11_turn_35 : decode cX11_turn 35 = .ok (.bastore, 1) := by decide +kernel
theorem dX11_turn_36 : decode cX11_turn 36 = .ok (.iload_n 3, 1) := by decide +kernel
theorem dX11_turn_37 : decode cX11_turn 37 = .ok (.ireturn, 1) := by decide +kernel
set_option maxRecDepth 20000 in
theorem ggX11_bucket_X11_isPeer : GoodIn wsX11_bucket wsX11_isPeer := goodIn_r _ [7, 8, 9, 10, 6, 11, 17, 18, 19, 20, 21, 22, 23, 24, 25, 26, 27, 28, 29, 30, 31, 32, 33, 34, 35, 36, 37, 38, 39, 40, 41, 42, 43, 44] (by decide +kernel) (by decide +kernel)
set_option maxRecDepth 20000 in
theorem gX11_bucket_X11_isPeer : GoodIn wsX11_bucket (wsV RX11 117 RX11 yX11_isPeer wsX11_isPeer) := goodIn_app (goodIn_of _ (by decide +kernel)) ggX11_bucket_X11_isPeer
set_option maxRecDepth 20000 in
theorem ggX11_bucket_X11_isIn : GoodIn wsX11_bucket wsX11_isIn := goodIn_r _ [11] (by decide +kernel) (by decide +kernel)
set_option maxRecDepth 20000 in
theorem gX11_bucket_X11_isIn : GoodIn wsX11_bucket (va_wsS RX11 81 yX11_isIn wsX11_isIn) := goodIn_app (goodIn_of _ (by decide +kernel)) ggX11_bucket_X11_isIn
set_option maxRecDepth 20000 in
theorem ggX11_bucket_X11_holds : GoodIn wsX11_bucket wsX11_holds := goodIn_r _ [15, 16, 17, 18, 19, 20, 21, 22, 23, 24, 25, 26, 27, 28, 29, 30, 31, 32, 33, 34, 35, 36, 37, 38, 39, 40, 41, 42, 43, 44] (by decide +kernel) (by decide +kernel)
set_option maxRecDepth 20000 in
theorem gX11_bucket_X11_holds : GoodIn wsX11_bucket (wsV RX11 124 RX11 yX11_holds wsX11_holds) := goodIn_app (goodIn_of _ (by decide +kernel)) ggX11_bucket_X11_holds
theorem dX11_bucket_0 : decode cX11_bucket 0 = .ok (.aload_n 0, 1) := by decide +kernel
theorem dX11_bucket_1 : decode cX11_bucket 1 = .ok (.aload_n 0, 1) := by decide +kernel
theorem dX11_bucket_2 : decode cX11_bucket 2 = .ok (.iload_n 1, 1) := by decide +kernel
theorem dX11_bucket_3 : decode cX11_bucket 3 = .ok (.invokevirtual 117, 3) := by decide +kernel
theorem dX11_bucket_6 : decode cX11_bucket 6 = .ok (.ifCond .eq 7, 3) := by decide +kernel
theorem dX11_bucket_9 : decode cX11_bucket 9 = .ok (.iload_n 3, 1) := by decide +kernel
theorem dX11_bucket_10 : decode cX11_bucket 10 = .ok (.ifCond .ge 7, 3) := by decide +kernel
theorem dX11_bucket_13 : decode cX11_bucket 13 = .ok (.iconst 1, 1) := by decide +kernel
theorem dX11_bucket_14 : decode cX11_bucket 14 = .ok (.goto 18, 3) := by decide +kernel
theorem dX11_bucket_17 : decode cX11_bucket 17 = .ok (.iload_n 2, 1) := by decide +kernel
theorem dX11_bucket_18 : decode cX11_bucket 18 = .ok (.iconst 0, 1) := by decide +kernel
theorem dX11_bucket_19 : decode cX11_bucket 19 = .ok (.bipush 7, 2) := by decide +kernel
theorem dX11_bucket_21 : decode cX11_bucket 21 = .ok (.invokestatic 81, 3) := by decide +kernel
theorem dX11_bucket_24 : decode cX11_bucket 24 = .ok (.ifCond .eq 7, 3) := by decide +kernel
theorem dX11_bucket_27 : decode cX11_bucket 27 = .ok (.iconst 0, 1) := by decide +kernel
theorem dX11_bucket_28 : decode cX11_bucket 28 = .ok (.goto 4, 3) := by decide +kernel
theorem dX11_bucket_31 : decode cX11_bucket 31 = .ok (.iconst 2, 1) := by decide +kernel
theorem dX11_bucket_32 : decode cX11_bucket 32 = .ok (.invokevirtual 124, 3) := by decide +kernel
theorem dX11_bucket_35 : decode cX11_bucket 35 = .ok (.ifCond .ne 5, 3) := by decide +kernel
theorem dX11_bucket_38 : decode cX11_bucket 38 = .ok (.iconst 0, 1) := by decide +kernel
theorem dX11_bucket_39 : decode cX11_bucket 39 = .ok (.ireturn, 1) := by decide +kernel
theorem dX11_bucket_40 : decode cX11_bucket 40 = .ok (.bipush 8, 2) := by decide +kernel
theorem dX11_bucket_42 : decode cX11_bucket 42 = .ok (.iload_n 1, 1) := by decide +kernel
theorem dX11_bucket_43 : decode cX11_bucket 43 = .ok (.imul, 1) := by decide +kernel
theorem dX11_bucket_44 : decode cX11_bucket 44 = .ok (.iload_n 2, 1) := by decide +kernel
theorem dX11_bucket_45 : decode cX11_bucket 45 = .ok (.iadd, 1) := by decide +kernel
theorem dX11_bucket_46 : decode cX11_bucket 46 = .ok (.istore 4, 2) := by decide +kernel
theorem dX11_bucket_48 : decode cX11_bucket 48 = .ok (.iload_n 3, 1) := by decide +kernel
theorem dX11_bucket_49 : decode cX11_bucket 49 = .ok (.aload_n 0, 1) := by decide +kernel
theorem dX11_bucket_50 : decode cX11_bucket 50 = .ok (.getfield 23, 3) := by decide +kernel
theorem dX11_bucket_53 : decode cX11_bucket 53 = .ok (.iload 4, 2) := by decide +kernel
theorem dX11_bucket_55 : decode cX11_bucket 55 = .ok (.iaload, 1) := by decide +kernel
theorem dX11_bucket_56 : decode cX11_bucket 56 = .ok (.if_icmp .ge 17, 3) := by decide +kernel
theorem dX11_bucket_59 : decode cX11_bucket 59 = .ok (.aload_n 0, 1) := by decide +kernel
theorem dX11_bucket_60 : decode cX11_bucket 60 = .ok (.getfield 20, 3) := by decide +kernel
theorem dX11_bucket_63 : decode cX11_bucket 63 = .ok (.iconst 2, 1) := by decide +kernel
theorem dX11_bucket_64 : decode cX11_bucket 64 = .ok (.iload 4, 2) := by decide +kernel
theorem dX11_bucket_66 : decode cX11_bucket 66 = .ok (.imul, 1) := by decide +kernel
theorem dX11_bucket_67 : decode cX11_bucket 67 = .ok (.iload_n 3, 1) := by decide +kernel
theorem dX11_bucket_68 : decode cX11_bucket 68 = .ok (.iadd, 1) := by decide +kernel
theorem dX11_bucket_69 : decode cX11_bucket 69 = .ok (.iaload, 1) := by decide +kernel
theorem dX11_bucket_70 : decode cX11_bucket 70 = .ok (.goto 4, 3) := by decide +kernel
theorem dX11_bucket_73 : decode cX11_bucket 73 = .ok (.iconst (-1), 1) := by decide +kernel
theorem dX11_bucket_74 : decode cX11_bucket 74 = .ok (.ireturn, 1) := by decide +kernel
set_option maxRecDepth 20000 in
theorem ggX11_lookup_X11_isPeer : GoodIn wsX11_lookup wsX11_isPeer := goodIn_r _ [6, 7, 8, 9, 5, 10, 58, 59, 60, 61, 62, 63, 64, 65, 66, 67, 68, 69, 70, 71, 72, 73, 74, 75, 76, 77, 78, 79, 80, 81, 82, 83, 84, 85] (by decide +kernel) (by decide +kernel)
set_option maxRecDepth 20000 in
theorem gX11_lookup_X11_isPeer : GoodIn wsX11_lookup (wsV RX11 117 RX11 yX11_isPeer wsX11_isPeer) := goodIn_app (goodIn_of _ (by decide +kernel)) ggX11_lookup_X11_isPeer
set_option maxRecDepth 20000 in
theorem ggX11_lookup_X11_isIn : GoodIn wsX11_lookup wsX11_isIn := goodIn_r _ [10] (by decide +kernel) (by decide +kernel)
set_option maxRecDepth 20000 in
theorem gX11_lookup_X11_isIn : GoodIn wsX11_lookup (va_wsS RX11 81 yX11_isIn wsX11_isIn) := goodIn_app (goodIn_of _ (by decide +kernel)) ggX11_lookup_X11_isIn
set_option maxRecDepth 20000 in
theorem ggX11_lookup_X11_holds : GoodIn wsX11_lookup wsX11_holds := goodIn_r _ [14, 15, 58, 59, 60, 61, 62, 63, 64, 65, 66, 67, 68, 69, 70, 71, 72, 73, 74, 75, 76, 77, 78, 79, 80, 81, 82, 83, 84, 85] (by decide +kernel) (by decide +kernel)
set_option maxRecDepth 20000 in
theorem gX11_lookup_X11_holds : GoodIn wsX11_lookup (wsV RX11 124 RX11 yX11_holds wsX11_holds) := goodIn_app (goodIn_of _ (by decide +kernel)) ggX11_lookup_X11_holds
set_option maxRecDepth 20000 in
theorem ggX11_lookup_X11_looksUp : GoodIn wsX11_lookup wsX11_looksUp := goodIn_r _ [19, 20, 21, 22, 23, 7, 24, 25, 26, 27, 28, 5, 29, 30, 31, 32, 33, 34, 35, 36, 37, 38, 39, 1, 40, 41, 42, 43, 44, 45, 46, 47, 48, 49, 50, 51, 52, 53, 58, 59, 60, 61, 62, 63, 64, 65, 66, 67, 68, 69, 70, 71, 72, 73, 74, 75, 76, 77, 78, 79, 80, 81, 82, 83, 84, 85] (by decide +kernel) (by decide +kernel)
set_option maxRecDepth 20000 in
theorem gX11_lookup_X11_looksUp : GoodIn wsX11_lookup (wsV RX11 127 RX11 yX11_looksUp wsX11_looksUp) := goodIn_app (goodIn_of _ (by decide +kernel)) ggX11_lookup_X11_looksUp
set_option maxRecDepth 20000 in
theorem ggX11_lookup_X11_told : GoodIn wsX11_lookup wsX11_told := goodIn_r _ [57, 52, 53, 58, 59, 60, 61, 62, 63, 64, 65, 66, 67, 68, 69, 70, 71, 72, 73, 74, 75, 76, 77, 78, 79, 80, 81, 82, 83, 84, 85] (by decide +kernel) (by decide +kernel)
set_option maxRecDepth 20000 in
theorem gX11_lookup_X11_told : GoodIn wsX11_lookup (wsV RX11 131 RX11 yX11_told wsX11_told) := goodIn_app (goodIn_of _ (by decide +kernel)) ggX11_lookup_X11_told
theorem dX11_lookup_0 : decode cX11_lookup 0 = .ok (.aload_n 0, 1) := by decide +kernel
theorem dX11_lookup_1 : decode cX11_lookup 1 = .ok (.iload_n 1, 1) := by decide +kernel
theorem dX11_lookup_2 : decode cX11_lookup 2 = .ok (.invokevirtual 117, 3) := by decide +kernel
theorem dX11_lookup_5 : decode cX11_lookup 5 = .ok (.istore 4, 2) := by decide +kernel
theorem dX11_lookup_7 : decode cX11_lookup 7 = .ok (.iload_n 2, 1) := by decide +kernel
theorem dX11_lookup_8 : decode cX11_lookup 8 = .ok (.iconst 0, 1) := by decide +kernel
theorem dX11_lookup_9 : decode cX11_lookup 9 = .ok (.sipush 255, 3) := by decide +kernel
theorem dX11_lookup_12 : decode cX11_lookup 12 = .ok (.invokestatic 81, 3) := by decide +kernel
theorem dX11_lookup_15 : decode cX11_lookup 15 = .ok (.ifCond .eq 16, 3) := by decide +kernel
theorem dX11_lookup_18 : decode cX11_lookup 18 = .ok (.iload_n 3, 1) := by decide +kernel
theorem dX11_lookup_19 : decode cX11_lookup 19 = .ok (.iconst 1, 1) := by decide +kernel
theorem dX11_lookup_20 : decode cX11_lookup 20 = .ok (.iconst 2, 1) := by decide +kernel
theorem dX11_lookup_21 : decode cX11_lookup 21 = .ok (.invokestatic 81, 3) := by decide +kernel
theorem dX11_lookup_24 : decode cX11_lookup 24 = .ok (.ifCond .eq 7, 3) := by decide +kernel
theorem dX11_lookup_27 : decode cX11_lookup 27 = .ok (.iconst 1, 1) := by decide +kernel
theorem dX11_lookup_28 : decode cX11_lookup 28 = .ok (.goto 4, 3) := by decide +kernel
theorem dX11_lookup_31 : decode cX11_lookup 31 = .ok (.iconst 0, 1) := by decide +kernel
theorem dX11_lookup_32 : decode cX11_lookup 32 = .ok (.istore 5, 2) := by decide +kernel
theorem dX11_lookup_34 : decode cX11_lookup 34 = .ok (.aload_n 0, 1) := by decide +kernel
theorem dX11_lookup_35 : decode cX11_lookup 35 = .ok (.iload 4, 2) := by decide +kernel
theorem dX11_lookup_37 : decode cX11_lookup 37 = .ok (.ifCond .ne 7, 3) := by decide +kernel
theorem dX11_lookup_40 : decode cX11_lookup 40 = .ok (.iconst 1, 1) := by decide +kernel
theorem dX11_lookup_41 : decode cX11_lookup 41 = .ok (.goto 26, 3) := by decide +kernel
theorem dX11_lookup_44 : decode cX11_lookup 44 = .ok (.iload 5, 2) := by decide +kernel
theorem dX11_lookup_46 : decode cX11_lookup 46 = .ok (.ifCond .ne 7, 3) := by decide +kernel
theorem dX11_lookup_49 : decode cX11_lookup 49 = .ok (.iconst 2, 1) := by decide +kernel
theorem dX11_lookup_50 : decode cX11_lookup 50 = .ok (.goto 17, 3) := by decide +kernel
theorem dX11_lookup_53 : decode cX11_lookup 53 = .ok (.aload_n 0, 1) := by decide +kernel
theorem dX11_lookup_54 : decode cX11_lookup 54 = .ok (.getfield 16, 3) := by decide +kernel
theorem dX11_lookup_57 : decode cX11_lookup 57 = .ok (.iload_n 1, 1) := by decide +kernel
theorem dX11_lookup_58 : decode cX11_lookup 58 = .ok (.baload, 1) := by decide +kernel
theorem dX11_lookup_59 : decode cX11_lookup 59 = .ok (.ifCond .eq 7, 3) := by decide +kernel
theorem dX11_lookup_62 : decode cX11_lookup 62 = .ok (.iconst 0, 1) := by decide +kernel
theorem dX11_lookup_63 : decode cX11_lookup 63 = .ok (.goto 4, 3) := by decide +kernel
theorem dX11_lookup_66 : decode cX11_lookup 66 = .ok (.iconst 3, 1) := by decide +kernel
theorem dX11_lookup_67 : decode cX11_lookup 67 = .ok (.invokevirtual 124, 3) := by decide +kernel
theorem dX11_lookup_70 : decode cX11_lookup 70 = .ok (.ifCond .ne 5, 3) := by decide +kernel
theorem dX11_lookup_73 : decode cX11_lookup 73 = .ok (.iconst 0, 1) := by decide +kernel
theorem dX11_lookup_74 : decode cX11_lookup 74 = .ok (.ireturn, 1) := by decide +kernel
theorem dX11_lookup_75 : decode cX11_lookup 75 = .ok (.aload_n 0, 1) := by decide +kernel
theorem dX11_lookup_76 : decode cX11_lookup 76 = .ok (.iload_n 1, 1) := by decide +kernel
theorem dX11_lookup_77 : decode cX11_lookup 77 = .ok (.iload_n 2, 1) := by decide +kernel
theorem dX11_lookup_78 : decode cX11_lookup 78 = .ok (.iload_n 3, 1) := by decide +kernel
theorem dX11_lookup_79 : decode cX11_lookup 79 = .ok (.invokevirtual 127, 3) := by decide +kernel
theorem dX11_lookup_82 : decode cX11_lookup 82 = .ok (.aload_n 0, 1) := by decide +kernel
theorem dX11_lookup_83 : decode cX11_lookup 83 = .ok (.invokevirtual 131, 3) := by decide +kernel
theorem dX11_lookup_86 : decode cX11_lookup 86 = .ok (.ireturn, 1) := by decide +kernel
theorem dX11_asked_0 : decode cX11_asked 0 = .ok (.aload_n 0, 1) := by decide +kernel
theorem dX11_asked_1 : decode cX11_asked 1 = .ok (.iconst 0, 1) := by decide +kernel
theorem dX11_asked_2 : decode cX11_asked 2 = .ok (.putfield 74, 3) := by decide +kernel
theorem dX11_asked_5 : decode cX11_asked 5 = .ok (.aload_n 0, 1) := by decide +kernel
theorem dX11_asked_6 : decode cX11_asked 6 = .ok (.getfield 92, 3) := by decide +kernel
theorem dX11_asked_9 : decode cX11_asked 9 = .ok (.ireturn, 1) := by decide +kernel
set_option maxRecDepth 20000 in
theorem ggX11_closest_X11_isPeer : GoodIn wsX11_closest wsX11_isPeer := goodIn_r _ [9, 2, 10, 11, 8, 12, 29, 30, 31, 32, 33, 34, 35, 36, 37, 38, 39, 40, 41, 42, 43, 44, 45, 46, 47, 48, 49, 50, 51, 52, 53, 54, 55, 56] (by decide +kernel) (by decide +kernel)
set_option maxRecDepth 20000 in
theorem gX11_closest_X11_isPeer : GoodIn wsX11_closest (wsV RX11 117 RX11 yX11_isPeer wsX11_isPeer) := goodIn_app (goodIn_of _ (by decide +kernel)) ggX11_closest_X11_isPeer
set_option maxRecDepth 20000 in
theorem ggX11_closest_X11_isIn : GoodIn wsX11_closest wsX11_isIn := goodIn_r _ [12] (by decide +kernel) (by decide +kernel)
set_option maxRecDepth 20000 in
theorem gX11_closest_X11_isIn : GoodIn wsX11_closest (va_wsS RX11 81 yX11_isIn wsX11_isIn) := goodIn_app (goodIn_of _ (by decide +kernel)) ggX11_closest_X11_isIn
set_option maxRecDepth 20000 in
theorem ggX11_closest_X11_holds : GoodIn wsX11_closest wsX11_holds := goodIn_r _ [16, 17, 29, 30, 31, 32, 33, 34, 35, 36, 37, 38, 39, 40, 41, 42, 43, 44, 45, 46, 47, 48, 49, 50, 51, 52, 53, 54, 55, 56] (by decide +kernel) (by decide +kernel)
set_option maxRecDepth 20000 in
theorem gX11_closest_X11_holds : GoodIn wsX11_closest (wsV RX11 124 RX11 yX11_holds wsX11_holds) := goodIn_app (goodIn_of _ (by decide +kernel)) ggX11_closest_X11_holds
set_option maxRecDepth 20000 in
theorem ggX11_closest_X11_closestOf : GoodIn wsX11_closest wsX11_closestOf := goodIn_r _ [21, 22, 2, 23, 1, 24, 29, 30, 31, 32, 33, 34, 35, 36, 37, 38, 39, 40, 41, 42, 43, 44, 45, 46, 47, 48, 49, 50, 51, 52, 53, 54, 55, 56] (by decide +kernel) (by decide +kernel)
set_option maxRecDepth 20000 in
theorem gX11_closest_X11_closestOf : GoodIn wsX11_closest (wsV RX11 110 RX11 yX11_closestOf wsX11_closestOf) := goodIn_app (goodIn_of _ (by decide +kernel)) ggX11_closest_X11_closestOf
set_option maxRecDepth 20000 in
theorem ggX11_closest_X11_told : GoodIn wsX11_closest wsX11_told := goodIn_r _ [28, 22, 24, 29, 30, 31, 32, 33, 34, 35, 36, 37, 38, 39, 40, 41, 42, 43, 44, 45, 46, 47, 48, 49, 50, 51, 52, 53, 54, 55, 56] (by decide +kernel) (by decide +kernel)
set_option maxRecDepth 20000 in
theorem gX11_closest_X11_told : GoodIn wsX11_closest (wsV RX11 131 RX11 yX11_told wsX11_told) := goodIn_app (goodIn_of _ (by decide +kernel)) ggX11_closest_X11_told
theorem dX11_closest_0 : decode cX11_closest 0 = .ok (.aload_n 0, 1) := by decide +kernel
theorem dX11_closest_1 : decode cX11_closest 1 = .ok (.aload_n 0, 1) := by decide +kernel
theorem dX11_closest_2 : decode cX11_closest 2 = .ok (.iload_n 1, 1) := by decide +kernel
theorem dX11_closest_3 : decode cX11_closest 3 = .ok (.invokevirtual 117, 3) := by decide +kernel
theorem dX11_closest_6 : decode cX11_closest 6 = .ok (.ifCond .ne 7, 3) := by decide +kernel
theorem dX11_closest_9 : decode cX11_closest 9 = .ok (.iconst 1, 1) := by decide +kernel
theorem dX11_closest_10 : decode cX11_closest 10 = .ok (.goto 19, 3) := by decide +kernel
theorem dX11_closest_13 : decode cX11_closest 13 = .ok (.iload_n 2, 1) := by decide +kernel
theorem dX11_closest_14 : decode cX11_closest 14 = .ok (.iconst 0, 1) := by decide +kernel
theorem dX11_closest_15 : decode cX11_closest 15 = .ok (.sipush 255, 3) := by decide +kernel
theorem dX11_closest_18 : decode cX11_closest 18 = .ok (.invokestatic 81, 3) := by decide +kernel
theorem dX11_closest_21 : decode cX11_closest 21 = .ok (.ifCond .eq 7, 3) := by decide +kernel
theorem dX11_closest_24 : decode cX11_closest 24 = .ok (.iconst 0, 1) := by decide +kernel
theorem dX11_closest_25 : decode cX11_closest 25 = .ok (.goto 4, 3) := by decide +kernel
theorem dX11_closest_28 : decode cX11_closest 28 = .ok (.iconst 2, 1) := by decide +kernel
theorem dX11_closest_29 : decode cX11_closest 29 = .ok (.invokevirtual 124, 3) := by decide +kernel
theorem dX11_closest_32 : decode cX11_closest 32 = .ok (.ifCond .ne 5, 3) := by decide +kernel
theorem dX11_closest_35 : decode cX11_closest 35 = .ok (.iconst 0, 1) := by decide +kernel
theorem dX11_closest_36 : decode cX11_closest 36 = .ok (.ireturn, 1) := by decide +kernel
theorem dX11_closest_37 : decode cX11_closest 37 = .ok (.iconst 0, 1) := by decide +kernel
theorem dX11_closest_38 : decode cX11_closest 38 = .ok (.istore_n 3, 1) := by decide +kernel
theorem dX11_closest_39 : decode cX11_closest 39 = .ok (.iload_n 3, 1) := by decide +kernel
theorem dX11_closest_40 : decode cX11_closest 40 = .ok (.bipush 16, 2) := by decide +kernel
theorem dX11_closest_42 : decode cX11_closest 42 = .ok (.if_icmp .ge 52, 3) := by decide +kernel
theorem dX11_closest_45 : decode cX11_closest 45 = .ok (.aload_n 0, 1) := by decide +kernel
theorem dX11_closest_46 : decode cX11_closest 46 = .ok (.getfield 32, 3) := by decide +kernel
theorem dX11_closest_49 : decode cX11_closest 49 = .ok (.iload_n 3, 1) := by decide +kernel
theorem dX11_closest_50 : decode cX11_closest 50 = .ok (.iload_n 3, 1) := by decide +kernel
theorem dX11_closest_51 : decode cX11_closest 51 = .ok (.aload_n 0, 1) := by decide +kernel
theorem dX11_closest_52 : decode cX11_closest 52 = .ok (.getfield 78, 3) := by decide +kernel
theorem dX11_closest_55 : decode cX11_closest 55 = .ok (.if_icmp .ge 31, 3) := by decide +kernel
theorem dX11_closest_58 : decode cX11_closest 58 = .ok (.iload_n 3, 1) := by decide +kernel
theorem dX11_closest_59 : decode cX11_closest 59 = .ok (.iload_n 1, 1) := by decide +kernel
theorem dX11_closest_60 : decode cX11_closest 60 = .ok (.if_icmp .eq 26, 3) := by decide +kernel
theorem dX11_closest_63 : decode cX11_closest 63 = .ok (.aload_n 0, 1) := by decide +kernel
theorem dX11_closest_64 : decode cX11_closest 64 = .ok (.getfield 16, 3) := by decide +kernel
theorem dX11_closest_67 : decode cX11_closest 67 = .ok (.iload_n 3, 1) := by decide +kernel
theorem dX11_closest_68 : decode cX11_closest 68 = .ok (.baload, 1) := by decide +kernel
theorem dX11_closest_69 : decode cX11_closest 69 = .ok (.ifCond .eq 17, 3) := by decide +kernel
theorem dX11_closest_72 : decode cX11_closest 72 = .ok (.aload_n 0, 1) := by decide +kernel
theorem dX11_closest_73 : decode cX11_closest 73 = .ok (.getfield 13, 3) := by decide +kernel
theorem dX11_closest_76 : decode cX11_closest 76 = .ok (.iload_n 3, 1) := by decide +kernel
theorem dX11_closest_77 : decode cX11_closest 77 = .ok (.iaload, 1) := by decide +kernel
theorem dX11_closest_78 : decode cX11_closest 78 = .ok (.iconst 1, 1) := by decide +kernel
theorem dX11_closest_79 : decode cX11_closest 79 = .ok (.if_icmp .eq 7, 3) := by decide +kernel
theorem dX11_closest_82 : decode cX11_closest 82 = .ok (.iconst 1, 1) := by decide +kernel
theorem dX11_closest_83 : decode cX11_closest 83 = .ok (.goto 4, 3) := by decide +kernel
theorem dX11_closest_86 : decode cX11_closest 86 = .ok (.iconst 0, 1) := by decide +kernel
theorem dX11_closest_87 : decode cX11_closest 87 = .ok (.bastore, 1) := by decide +kernel
theorem dX11_closest_88 : decode cX11_closest 88 = .ok (.iinc 3 1, 3) := by decide +kernel
theorem dX11_closest_91 : decode cX11_closest 91 = .ok (.goto (-52), 3) := by decide +kernel
theorem dX11_closest_94 : decode cX11_closest 94 = .ok (.aload_n 0, 1) := by decide +kernel
theorem dX11_closest_95 : decode cX11_closest 95 = .ok (.iload_n 2, 1) := by decide +kernel
theorem dX11_closest_96 : decode cX11_closest 96 = .ok (.invokevirtual 110, 3) := by decide +kernel
theorem dX11_closest_99 : decode cX11_closest 99 = .ok (.aload_n 0, 1) := by decide +kernel
theorem dX11_closest_100 : decode cX11_closest 100 = .ok (.invokevirtual 131, 3) := by decide +kernel
theorem dX11_closest_103 : decode cX11_closest 103 = .ok (.ireturn, 1) := by decide +kernel
theorem dX11_twice_0 : decode cX11_twice 0 = .ok (.iload_n 0, 1) := by decide +kernel
theorem dX11_twice_1 : decode cX11_twice 1 = .ok (.sipush 128, 3) := by decide +kernel
theorem dX11_twice_4 : decode cX11_twice 4 = .ok (.if_icmp .ge 9, 3) := by decide +kernel
theorem dX11_twice_7 : decode cX11_twice 7 = .ok (.iconst 2, 1) := by decide +kernel
theorem dX11_twice_8 : decode cX11_twice 8 = .ok (.iload_n 0, 1) := by decide +kernel
theorem dX11_twice_9 : decode cX11_twice 9 = .ok (.imul, 1) := by decide +kernel
theorem dX11_twice_10 : decode cX11_twice 10 = .ok (.goto 10, 3) := by decide +kernel
theorem dX11_twice_13 : decode cX11_twice 13 = .ok (.iconst 2, 1) := by decide +kernel
theorem dX11_twice_14 : decode cX11_twice 14 = .ok (.iload_n 0, 1) := by decide +kernel
theorem dX11_twice_15 : decode cX11_twice 15 = .ok (.imul, 1) := by decide +kernel
theorem dX11_twice_16 : decode cX11_twice 16 = .ok (.sipush 285, 3) := by decide +kernel
theorem dX11_twice_19 : decode cX11_twice 19 = .ok (.ixor, 1) := by decide +kernel
theorem dX11_twice_20 : decode cX11_twice 20 = .ok (.ireturn, 1) := by decide +kernel
set_option maxRecDepth 20000 in
theorem ggX11_times_X11_twice : GoodIn wsX11_times wsX11_twice := goodIn_r _ [4] (by decide +kernel) (by decide +kernel)
set_option maxRecDepth 20000 in
theorem gX11_times_X11_twice : GoodIn wsX11_times (va_wsS RX11 135 yX11_twice wsX11_twice) := goodIn_app (goodIn_of _ (by decide +kernel)) ggX11_times_X11_twice
theorem dX11_times_0 : decode cX11_times 0 = .ok (.iconst 0, 1) := by decide +kernel
theorem dX11_times_1 : decode cX11_times 1 = .ok (.istore_n 2, 1) := by decide +kernel
theorem dX11_times_2 : decode cX11_times 2 = .ok (.iload_n 0, 1) := by decide +kernel
theorem dX11_times_3 : decode cX11_times 3 = .ok (.istore_n 3, 1) := by decide +kernel
theorem dX11_times_4 : decode cX11_times 4 = .ok (.iload_n 1, 1) := by decide +kernel
theorem dX11_times_5 : decode cX11_times 5 = .ok (.istore 4, 2) := by decide +kernel
theorem dX11_times_7 : decode cX11_times 7 = .ok (.iload 4, 2) := by decide +kernel
theorem dX11_times_9 : decode cX11_times 9 = .ok (.ifCond .le 33, 3) := by decide +kernel
theorem dX11_times_12 : decode cX11_times 12 = .ok (.iload_n 2, 1) := by decide +kernel
theorem dX11_times_13 : decode cX11_times 13 = .ok (.iload 4, 2) := by decide +kernel
theorem dX11_times_15 : decode cX11_times 15 = .ok (.iconst 2, 1) := by decide +kernel
theorem dX11_times_16 : decode cX11_times 16 = .ok (.irem, 1) := by decide +kernel
theorem dX11_times_17 : decode cX11_times 17 = .ok (.iconst 1, 1) := by decide +kernel
theorem dX11_times_18 : decode cX11_times 18 = .ok (.if_icmp .ne 7, 3) := by decide +kernel
theorem dX11_times_21 : decode cX11_times 21 = .ok (.iload_n 3, 1) := by decide +kernel
theorem dX11_times_22 : decode cX11_times 22 = .ok (.goto 4, 3) := by decide +kernel
theorem dX11_times_25 : decode cX11_times 25 = .ok (.iconst 0, 1) := by decide +kernel
theorem dX11_times_26 : decode cX11_times 26 = .ok (.ixor, 1) := by decide +kernel
theorem dX11_times_27 : decode cX11_times 27 = .ok (.istore_n 2, 1) := by decide +kernel
theorem dX11_times_28 : decode cX11_times 28 = .ok (.iload_n 3, 1) := by decide +kernel
theorem dX11_times_29 : decode cX11_times 29 = .ok (.invokestatic 135, 3) := by decide +kernel
theorem dX11_times_32 : decode cX11_times 32 = .ok (.istore_n 3, 1) := by decide +kernel
theorem dX11_times_33 : decode cX11_times 33 = .ok (.iload 4, 2) := by decide +kernel
theorem dX11_times_35 : decode cX11_times 35 = .ok (.iconst 2, 1) := by decide +kernel
theorem dX11_times_36 : decode cX11_times 36 = .ok (.idiv, 1) := by decide +kernel
theorem dX11_times_37 : decode cX11_times 37 = .ok (.istore 4, 2) := by decide +kernel
theorem dX11_times_39 : decode cX11_times 39 = .ok (.goto (-32), 3) := by decide +kernel
theorem dX11_times_42 : decode cX11_times 42 = .ok (.iload_n 2, 1) := by decide +kernel
theorem dX11_times_43 : decode cX11_times 43 = .ok (.ireturn, 1) := by decide +kernel
theorem dX11_hash_0 : decode cX11_hash 0 = .ok (.iload_n 0, 1) := by decide +kernel
theorem dX11_hash_1 : decode cX11_hash 1 = .ok (.bipush 31, 2) := by decide +kernel
theorem dX11_hash_3 : decode cX11_hash 3 = .ok (.imul, 1) := by decide +kernel
theorem dX11_hash_4 : decode cX11_hash 4 = .ok (.iload_n 1, 1) := by decide +kernel
theorem dX11_hash_5 : decode cX11_hash 5 = .ok (.iadd, 1) := by decide +kernel
theorem dX11_hash_6 : decode cX11_hash 6 = .ok (.ldc 139, 2) := by decide +kernel
theorem dX11_hash_8 : decode cX11_hash 8 = .ok (.imul, 1) := by decide +kernel
theorem dX11_hash_9 : decode cX11_hash 9 = .ok (.sipush 12345, 3) := by decide +kernel
theorem dX11_hash_12 : decode cX11_hash 12 = .ok (.iadd, 1) := by decide +kernel
theorem dX11_hash_13 : decode cX11_hash 13 = .ok (.istore_n 2, 1) := by decide +kernel
theorem dX11_hash_14 : decode cX11_hash 14 = .ok (.iload_n 2, 1) := by decide +kernel
theorem dX11_hash_15 : decode cX11_hash 15 = .ok (.iload_n 2, 1) := by decide +kernel
theorem dX11_hash_16 : decode cX11_hash 16 = .ok (.bipush 16, 2) := by decide +kernel
theorem dX11_hash_18 : decode cX11_hash 18 = .ok (.iushr, 1) := by decide +kernel
theorem dX11_hash_19 : decode cX11_hash 19 = .ok (.ixor, 1) := by decide +kernel
theorem dX11_hash_20 : decode cX11_hash 20 = .ok (.ireturn, 1) := by decide +kernel
set_option maxRecDepth 20000 in
theorem ggX11_laysTree_X11_hash : GoodIn wsX11_laysTree wsX11_hash := goodIn_r _ [6, 7] (by decide +kernel) (by decide +kernel)
set_option maxRecDepth 20000 in
theorem gX11_laysTree_X11_hash : GoodIn wsX11_laysTree (va_wsS RX11 140 yX11_hash wsX11_hash) := goodIn_app (goodIn_of _ (by decide +kernel)) ggX11_laysTree_X11_hash
theorem dX11_laysTree_0 : decode cX11_laysTree 0 = .ok (.iconst 0, 1) := by decide +kernel
theorem dX11_laysTree_1 : decode cX11_laysTree 1 = .ok (.istore_n 2, 1) := by decide +kernel
theorem dX11_laysTree_2 : decode cX11_laysTree 2 = .ok (.iload_n 2, 1) := by decide +kernel
theorem dX11_laysTree_3 : decode cX11_laysTree 3 = .ok (.bipush 8, 2) := by decide +kernel
theorem dX11_laysTree_5 : decode cX11_laysTree 5 = .ok (.if_icmp .ge 43, 3) := by decide +kernel
theorem dX11_laysTree_8 : decode cX11_laysTree 8 = .ok (.aload_n 0, 1) := by decide +kernel
theorem dX11_laysTree_9 : decode cX11_laysTree 9 = .ok (.getfield 56, 3) := by decide +kernel
theorem dX11_laysTree_12 : decode cX11_laysTree 12 = .ok (.bipush 8, 2) := by decide +kernel
theorem dX11_laysTree_14 : decode cX11_laysTree 14 = .ok (.iload_n 2, 1) := by decide +kernel
theorem dX11_laysTree_15 : decode cX11_laysTree 15 = .ok (.iadd, 1) := by decide +kernel
theorem dX11_laysTree_16 : decode cX11_laysTree 16 = .ok (.iload_n 2, 1) := by decide +kernel
theorem dX11_laysTree_17 : decode cX11_laysTree 17 = .ok (.bipush 6, 2) := by decide +kernel
theorem dX11_laysTree_19 : decode cX11_laysTree 19 = .ok (.if_icmp .ge 21, 3) := by decide +kernel
theorem dX11_laysTree_22 : decode cX11_laysTree 22 = .ok (.aload_n 0, 1) := by decide +kernel
theorem dX11_laysTree_23 : decode cX11_laysTree 23 = .ok (.getfield 44, 3) := by decide +kernel
theorem dX11_laysTree_26 : decode cX11_laysTree 26 = .ok (.bipush 6, 2) := by decide +kernel
theorem dX11_laysTree_28 : decode cX11_laysTree 28 = .ok (.iload_n 1, 1) := by decide +kernel
theorem dX11_laysTree_29 : decode cX11_laysTree 29 = .ok (.imul, 1) := by decide +kernel
theorem dX11_laysTree_30 : decode cX11_laysTree 30 = .ok (.iload_n 2, 1) := by decide +kernel
theorem dX11_laysTree_31 : decode cX11_laysTree 31 = .ok (.iadd, 1) := by decide +kernel
theorem dX11_laysTree_32 : decode cX11_laysTree 32 = .ok (.iaload, 1) := by decide +kernel
theorem dX11_laysTree_33 : decode cX11_laysTree 33 = .ok (.iload_n 2, 1) := by decide +kernel
theorem dX11_laysTree_34 : decode cX11_laysTree 34 = .ok (.invokestatic 140, 3) := by decide +kernel
theorem dX11_laysTree_37 : decode cX11_laysTree 37 = .ok (.goto 4, 3) := by decide +kernel
theorem dX11_laysTree_40 : decode cX11_laysTree 40 = .ok (.iconst 0, 1) := by decide +kernel
theorem dX11_laysTree_41 : decode cX11_laysTree 41 = .ok (.iastore, 1) := by decide +kernel
theorem dX11_laysTree_42 : decode cX11_laysTree 42 = .ok (.iinc 2 1, 3) := by decide +kernel
theorem dX11_laysTree_45 : decode cX11_laysTree 45 = .ok (.goto (-43), 3) := by decide +kernel
theorem dX11_laysTree_48 : decode cX11_laysTree 48 = .ok (.bipush 7, 2) := by decide +kernel
theorem dX11_laysTree_50 : decode cX11_laysTree 50 = .ok (.istore_n 2, 1) := by decide +kernel
theorem dX11_laysTree_51 : decode cX11_laysTree 51 = .ok (.iload_n 2, 1) := by decide +kernel
theorem dX11_laysTree_52 : decode cX11_laysTree 52 = .ok (.ifCond .le 36, 3) := by decide +kernel
theorem dX11_laysTree_55 : decode cX11_laysTree 55 = .ok (.aload_n 0, 1) := by decide +kernel
theorem dX11_laysTree_56 : decode cX11_laysTree 56 = .ok (.getfield 56, 3) := by decide +kernel
theorem dX11_laysTree_59 : decode cX11_laysTree 59 = .ok (.iload_n 2, 1) := by decide +kernel
theorem dX11_laysTree_60 : decode cX11_laysTree 60 = .ok (.aload_n 0, 1) := by decide +kernel
theorem dX11_laysTree_61 : decode cX11_laysTree 61 = .ok (.getfield 56, 3) := by decide +kernel
theorem dX11_laysTree_64 : decode cX11_laysTree 64 = .ok (.iconst 2, 1) := by decide +kernel
theorem dX11_laysTree_65 : decode cX11_laysTree 65 = .ok (.iload_n 2, 1) := by decide +kernel
theorem dX11_laysTree_66 : decode cX11_laysTree 66 = .ok (.imul, 1) := by decide +kernel
theorem dX11_laysTree_67 : decode cX11_laysTree 67 = .ok (.iaload, 1) := by decide +kernel
theorem dX11_laysTree_68 : decode cX11_laysTree 68 = .ok (.aload_n 0, 1) := by decide +kernel
theorem dX11_laysTree_69 : decode cX11_laysTree 69 = .ok (.getfield 56, 3) := by decide +kernel
theorem dX11_laysTree_72 : decode cX11_laysTree 72 = .ok (.iconst 2, 1) := by decide +kernel
theorem dX11_laysTree_73 : decode cX11_laysTree 73 = .ok (.iload_n 2, 1) := by decide +kernel
theorem dX11_laysTree_74 : decode cX11_laysTree 74 = .ok (.imul, 1) := by decide +kernel
theorem dX11_laysTree_75 : decode cX11_laysTree 75 = .ok (.iconst 1, 1) := by decide +kernel
theorem dX11_laysTree_76 : decode cX11_laysTree 76 = .ok (.iadd, 1) := by decide +kernel
theorem dX11_laysTree_77 : decode cX11_laysTree 77 = .ok (.iaload, 1) := by decide +kernel
theorem dX11_laysTree_78 : decode cX11_laysTree 78 = .ok (.invokestatic 140, 3) := by decide +kernel
theorem dX11_laysTree_81 : decode cX11_laysTree 81 = .ok (.iastore, 1) := by decide +kernel
theorem dX11_laysTree_82 : decode cX11_laysTree 82 = .ok (.iinc 2 (-1), 3) := by decide +kernel
theorem dX11_laysTree_85 : decode cX11_laysTree 85 = .ok (.goto (-34), 3) := by decide +kernel
theorem dX11_laysTree_88 : decode cX11_laysTree 88 = .ok (.return_, 1) := by decide +kernel
set_option maxRecDepth 20000 in
theorem ggX11_stores_X11_hash : GoodIn wsX11_stores wsX11_hash := goodIn_r _ [12, 13] (by decide +kernel) (by decide +kernel)
set_option maxRecDepth 20000 in
theorem gX11_stores_X11_hash : GoodIn wsX11_stores (va_wsS RX11 140 yX11_hash wsX11_hash) := goodIn_app (goodIn_of _ (by decide +kernel)) ggX11_stores_X11_hash
set_option maxRecDepth 20000 in
theorem ggX11_stores_X11_looksUp : GoodIn wsX11_stores wsX11_looksUp := goodIn_r _ [17, 18, 19, 20, 21, 22, 23, 24, 25, 26, 27, 11, 28, 29, 30, 31, 32, 33, 34, 35, 36, 37, 38, 39, 8, 40, 41, 42, 43, 44, 45, 46, 47, 48, 49, 50, 6, 7, 51, 52, 53, 54, 55, 56, 57, 58, 59, 60, 61, 62, 63, 64, 65, 66, 67, 68, 69, 70, 71, 72, 73, 74, 75, 76, 77, 78] (by decide +kernel) (by decide +kernel)
set_option maxRecDepth 20000 in
theorem gX11_stores_X11_looksUp : GoodIn wsX11_stores (wsV RX11 127 RX11 yX11_looksUp wsX11_looksUp) := goodIn_app (goodIn_of _ (by decide +kernel)) ggX11_stores_X11_looksUp
theorem dX11_stores_0 : decode cX11_stores 0 = .ok (.bipush 6, 2) := by decide +kernel
theorem dX11_stores_2 : decode cX11_stores 2 = .ok (.iload_n 1, 1) := by decide +kernel
theorem dX11_stores_3 : decode cX11_stores 3 = .ok (.imul, 1) := by decide +kernel
theorem dX11_stores_4 : decode cX11_stores 4 = .ok (.iload_n 2, 1) := by decide +kernel
theorem dX11_stores_5 : decode cX11_stores 5 = .ok (.iadd, 1) := by decide +kernel
theorem dX11_stores_6 : decode cX11_stores 6 = .ok (.istore_n 3, 1) := by decide +kernel
theorem dX11_stores_7 : decode cX11_stores 7 = .ok (.aload_n 0, 1) := by decide +kernel
theorem dX11_stores_8 : decode cX11_stores 8 = .ok (.getfield 44, 3) := by decide +kernel
theorem dX11_stores_11 : decode cX11_stores 11 = .ok (.iload_n 3, 1) := by decide +kernel
theorem dX11_stores_12 : decode cX11_stores 12 = .ok (.iaload, 1) := by decide +kernel
theorem dX11_stores_13 : decode cX11_stores 13 = .ok (.iload_n 2, 1) := by decide +kernel
theorem dX11_stores_14 : decode cX11_stores 14 = .ok (.invokestatic 140, 3) := by decide +kernel
theorem dX11_stores_17 : decode cX11_stores 17 = .ok (.sipush 255, 3) := by decide +kernel
theorem dX11_stores_20 : decode cX11_stores 20 = .ok (.iand, 1) := by decide +kernel
theorem dX11_stores_21 : decode cX11_stores 21 = .ok (.istore 4, 2) := by decide +kernel
theorem dX11_stores_23 : decode cX11_stores 23 = .ok (.aload_n 0, 1) := by decide +kernel
theorem dX11_stores_24 : decode cX11_stores 24 = .ok (.aload_n 0, 1) := by decide +kernel
theorem dX11_stores_25 : decode cX11_stores 25 = .ok (.getfield 41, 3) := by decide +kernel
theorem dX11_stores_28 : decode cX11_stores 28 = .ok (.iload_n 1, 1) := by decide +kernel
theorem dX11_stores_29 : decode cX11_stores 29 = .ok (.iaload, 1) := by decide +kernel
theorem dX11_stores_30 : decode cX11_stores 30 = .ok (.iload 4, 2) := by decide +kernel
theorem dX11_stores_32 : decode cX11_stores 32 = .ok (.iconst 2, 1) := by decide +kernel
theorem dX11_stores_33 : decode cX11_stores 33 = .ok (.invokevirtual 127, 3) := by decide +kernel
theorem dX11_stores_36 : decode cX11_stores 36 = .ok (.aload_n 0, 1) := by decide +kernel
theorem dX11_stores_37 : decode cX11_stores 37 = .ok (.getfield 47, 3) := by decide +kernel
theorem dX11_stores_40 : decode cX11_stores 40 = .ok (.iload_n 3, 1) := by decide +kernel
theorem dX11_stores_41 : decode cX11_stores 41 = .ok (.iconst (-1), 1) := by decide +kernel
theorem dX11_stores_42 : decode cX11_stores 42 = .ok (.iastore, 1) := by decide +kernel
theorem dX11_stores_43 : decode cX11_stores 43 = .ok (.aload_n 0, 1) := by decide +kernel
theorem dX11_stores_44 : decode cX11_stores 44 = .ok (.getfield 53, 3) := by decide +kernel
theorem dX11_stores_47 : decode cX11_stores 47 = .ok (.iload_n 3, 1) := by decide +kernel
theorem dX11_stores_48 : decode cX11_stores 48 = .ok (.iconst 0, 1) := by decide +kernel
theorem dX11_stores_49 : decode cX11_stores 49 = .ok (.iastore, 1) := by decide +kernel
theorem dX11_stores_50 : decode cX11_stores 50 = .ok (.aload_n 0, 1) := by decide +kernel
theorem dX11_stores_51 : decode cX11_stores 51 = .ok (.getfield 50, 3) := by decide +kernel
theorem dX11_stores_54 : decode cX11_stores 54 = .ok (.iload_n 3, 1) := by decide +kernel
theorem dX11_stores_55 : decode cX11_stores 55 = .ok (.iconst 0, 1) := by decide +kernel
theorem dX11_stores_56 : decode cX11_stores 56 = .ok (.bastore, 1) := by decide +kernel
theorem dX11_stores_57 : decode cX11_stores 57 = .ok (.iconst 0, 1) := by decide +kernel
theorem dX11_stores_58 : decode cX11_stores 58 = .ok (.istore 5, 2) := by decide +kernel
theorem dX11_stores_60 : decode cX11_stores 60 = .ok (.iload 5, 2) := by decide +kernel
theorem dX11_stores_62 : decode cX11_stores 62 = .ok (.aload_n 0, 1) := by decide +kernel
theorem dX11_stores_63 : decode cX11_stores 63 = .ok (.getfield 114, 3) := by decide +kernel
theorem dX11_stores_66 : decode cX11_stores 66 = .ok (.if_icmp .ge 136, 3) := by decide +kernel
theorem dX11_stores_69 : decode cX11_stores 69 = .ok (.aload_n 0, 1) := by decide +kernel
theorem dX11_stores_70 : decode cX11_stores 70 = .ok (.getfield 47, 3) := by decide +kernel
theorem dX11_stores_73 : decode cX11_stores 73 = .ok (.iload_n 3, 1) := by decide +kernel
theorem dX11_stores_74 : decode cX11_stores 74 = .ok (.iaload, 1) := by decide +kernel
theorem dX11_stores_75 : decode cX11_stores 75 = .ok (.iconst (-1), 1) := by decide +kernel
theorem dX11_stores_76 : decode cX11_stores 76 = .ok (.if_icmp .ne 126, 3) := by decide +kernel
theorem dX11_stores_79 : decode cX11_stores 79 = .ok (.aload_n 0, 1) := by decide +kernel
theorem dX11_stores_80 : decode cX11_stores 80 = .ok (.getfield 38, 3) := by decide +kernel
theorem dX11_stores_83 : decode cX11_stores 83 = .ok (.iload 5, 2) := by decide +kernel
theorem dX11_stores_85 : decode cX11_stores 85 = .ok (.iaload, 1) := by decide +kernel
theorem dX11_stores_86 : decode cX11_stores 86 = .ok (.aload_n 0, 1) := by decide +kernel
theorem dX11_stores_87 : decode cX11_stores 87 = .ok (.getfield 41, 3) := by decide +kernel
theorem dX11_stores_90 : decode cX11_stores 90 = .ok (.iload_n 1, 1) := by decide +kernel
theorem dX11_stores_91 : decode cX11_stores 91 = .ok (.iaload, 1) := by decide +kernel
theorem dX11_stores_92 : decode cX11_stores 92 = .ok (.if_icmp .eq 7, 3) := by decide +kernel
theorem dX11_stores_95 : decode cX11_stores 95 = .ok (.iconst 1, 1) := by decide +kernel
theorem dX11_stores_96 : decode cX11_stores 96 = .ok (.goto 4, 3) := by decide +kernel
theorem dX11_stores_99 : decode cX11_stores 99 = .ok (.iconst 0, 1) := by decide +kernel
theorem dX11_stores_100 : decode cX11_stores 100 = .ok (.istore 6, 2) := by decide +kernel
theorem dX11_stores_102 : decode cX11_stores 102 = .ok (.iconst 0, 1) := by decide +kernel
theorem dX11_stores_103 : decode cX11_stores 103 = .ok (.istore 7, 2) := by decide +kernel
theorem dX11_stores_105 : decode cX11_stores 105 = .ok (.iload 7, 2) := by decide +kernel
theorem dX11_stores_107 : decode cX11_stores 107 = .ok (.bipush 6, 2) := by decide +kernel
theorem dX11_stores_109 : decode cX11_stores 109 = .ok (.if_icmp .ge 43, 3) := by decide +kernel
theorem dX11_stores_112 : decode cX11_stores 112 = .ok (.iload 6, 2) := by decide +kernel
theorem dX11_stores_114 : decode cX11_stores 114 = .ok (.ifCond .eq 29, 3) := by decide +kernel
theorem dX11_stores_117 : decode cX11_stores 117 = .ok (.aload_n 0, 1) := by decide +kernel
theorem dX11_stores_118 : decode cX11_stores 118 = .ok (.getfield 47, 3) := by decide +kernel
theorem dX11_stores_121 : decode cX11_stores 121 = .ok (.bipush 6, 2) := by decide +kernel
theorem dX11_stores_123 : decode cX11_stores 123 = .ok (.iload_n 1, 1) := by decide +kernel
theorem dX11_stores_124 : decode cX11_stores 124 = .ok (.imul, 1) := by decide +kernel
theorem dX11_stores_125 : decode cX11_stores 125 = .ok (.iload 7, 2) := by decide +kernel
theorem dX11_stores_127 : decode cX11_stores 127 = .ok (.iadd, 1) := by decide +kernel
theorem dX11_stores_128 : decode cX11_stores 128 = .ok (.iaload, 1) := by decide +kernel
theorem dX11_stores_129 : decode cX11_stores 129 = .ok (.aload_n 0, 1) := by decide +kernel
theorem dX11_stores_130 : decode cX11_stores 130 = .ok (.getfield 38, 3) := by decide +kernel
theorem dX11_stores_133 : decode cX11_stores 133 = .ok (.iload 5, 2) := by decide +kernel
theorem dX11_stores_135 : decode cX11_stores 135 = .ok (.iaload, 1) := by decide +kernel
theorem dX11_stores_136 : decode cX11_stores 136 = .ok (.if_icmp .eq 7, 3) := by decide +kernel
theorem dX11_stores_139 : decode cX11_stores 139 = .ok (.iconst 1, 1) := by decide +kernel
theorem dX11_stores_140 : decode cX11_stores 140 = .ok (.goto 4, 3) := by decide +kernel
theorem dX11_stores_143 : decode cX11_stores 143 = .ok (.iconst 0, 1) := by decide +kernel
theorem dX11_stores_144 : decode cX11_stores 144 = .ok (.istore 6, 2) := by decide +kernel
theorem dX11_stores_146 : decode cX11_stores 146 = .ok (.iinc 7 1, 3) := by decide +kernel
theorem dX11_stores_149 : decode cX11_stores 149 = .ok (.goto (-44), 3) := by decide +kernel
theorem dX11_stores_152 : decode cX11_stores 152 = .ok (.iload 6, 2) := by decide +kernel
theorem dX11_stores_154 : decode cX11_stores 154 = .ok (.ifCond .eq 42, 3) := by decide +kernel
theorem dX11_stores_157 : decode cX11_stores 157 = .ok (.aload_n 0, 1) := by decide +kernel
theorem dX11_stores_158 : decode cX11_stores 158 = .ok (.getfield 47, 3) := by decide +kernel
theorem dX11_stores_161 : decode cX11_stores 161 = .ok (.iload_n 3, 1) := by decide +kernel
theorem dX11_stores_162 : decode cX11_stores 162 = .ok (.aload_n 0, 1) := by decide +kernel
theorem dX11_stores_163 : decode cX11_stores 163 = .ok (.getfield 38, 3) := by decide +kernel
theorem dX11_stores_166 : decode cX11_stores 166 = .ok (.iload 5, 2) := by decide +kernel
theorem dX11_stores_168 : decode cX11_stores 168 = .ok (.iaload, 1) := by decide +kernel
theorem dX11_stores_169 : decode cX11_stores 169 = .ok (.iastore, 1) := by decide +kernel
theorem dX11_stores_170 : decode cX11_stores 170 = .ok (.aload_n 0, 1) := by decide +kernel
theorem dX11_stores_171 : decode cX11_stores 171 = .ok (.getfield 50, 3) := by decide +kernel
theorem dX11_stores_174 : decode cX11_stores 174 = .ok (.iload_n 3, 1) := by decide +kernel
theorem dX11_stores_175 : decode cX11_stores 175 = .ok (.aload_n 0, 1) := by decide +kernel
theorem dX11_stores_176 : decode cX11_stores 176 = .ok (.getfield 13, 3) := by decide +kernel
theorem dX11_stores_179 : decode cX11_stores 179 = .ok (.aload_n 0, 1) := by decide +kernel
theorem dX11_stores_180 : decode cX11_stores 180 = .ok (.getfield 38, 3) := by decide +kernel
theorem dX11_stores_183 : decode cX11_stores 183 = .ok (.iload 5, 2) := by decide +kernel
theorem dX11_stores_185 : decode cX11_stores 185 = .ok (.iaload, 1) := by decide +kernel
theorem dX11_stores_186 : decode cX11_stores 186 = .ok (.iaload, 1) := by decide +kernel
theorem dX11_stores_187 : decode cX11_stores 187 = .ok (.ifCond .ne 7, 3) := by decide +kernel
theorem dX11_stores_190 : decode cX11_stores 190 = .ok (.iconst 1, 1) := by decide +kernel
theorem dX11_stores_191 : decode cX11_stores 191 = .ok (.goto 4, 3) := by decide +kernel
theorem dX11_stores_194 : decode cX11_stores 194 = .ok (.iconst 0, 1) := by decide +kernel
theorem dX11_stores_195 : decode cX11_stores 195 = .ok (.bastore, 1) := by decide +kernel
theorem dX11_stores_196 : decode cX11_stores 196 = .ok (.iinc 5 1, 3) := by decide +kernel
theorem dX11_stores_199 : decode cX11_stores 199 = .ok (.goto (-139), 3) := by decide +kernel
theorem dX11_stores_202 : decode cX11_stores 202 = .ok (.return_, 1) := by decide +kernel
set_option maxRecDepth 20000 in
theorem ggX11_file_X11_isPeer : GoodIn wsX11_file wsX11_isPeer := goodIn_r _ [10, 11, 12, 13, 9, 14, 74, 75, 76, 77, 78, 79, 80, 81, 82, 83, 84, 85, 86, 87, 88, 89, 90, 91, 92, 93, 94, 95, 96, 97, 98, 99, 100, 101] (by decide +kernel) (by decide +kernel)
set_option maxRecDepth 20000 in
theorem gX11_file_X11_isPeer : GoodIn wsX11_file (wsV RX11 117 RX11 yX11_isPeer wsX11_isPeer) := goodIn_app (goodIn_of _ (by decide +kernel)) ggX11_file_X11_isPeer
set_option maxRecDepth 20000 in
theorem ggX11_file_X11_holds : GoodIn wsX11_file wsX11_holds := goodIn_r _ [18, 19, 74, 75, 76, 77, 78, 79, 80, 81, 82, 83, 84, 85, 86, 87, 88, 89, 90, 91, 92, 93, 94, 95, 96, 97, 98, 99, 100, 101] (by decide +kernel) (by decide +kernel)
set_option maxRecDepth 20000 in
theorem gX11_file_X11_holds : GoodIn wsX11_file (wsV RX11 124 RX11 yX11_holds wsX11_holds) := goodIn_app (goodIn_of _ (by decide +kernel)) ggX11_file_X11_holds
set_option maxRecDepth 20000 in
theorem ggX11_file_X11_times : GoodIn wsX11_file wsX11_times := goodIn_r _ [22, 23, 24, 9, 25] (by decide +kernel) (by decide +kernel)
set_option maxRecDepth 20000 in
theorem gX11_file_X11_times : GoodIn wsX11_file (va_wsS RX11 143 yX11_times wsX11_times) := goodIn_app (goodIn_of _ (by decide +kernel)) ggX11_file_X11_times
set_option maxRecDepth 20000 in
theorem ggX11_file_X11_stores : GoodIn wsX11_file wsX11_stores := goodIn_r _ [29, 4, 3, 5, 30, 31, 32, 33, 34, 35, 36, 9, 37, 38, 39, 40, 41, 42, 43, 44, 45, 46, 11, 47, 48, 49, 50, 51, 52, 53, 54, 55, 56, 57, 58, 59, 60, 61, 62, 1, 63, 64, 65, 66, 67, 68, 69, 70, 71, 72, 73, 74, 75, 76, 77, 78, 79, 80, 81, 82, 83, 84, 85, 86, 87, 88, 89, 90, 91, 92, 93, 94, 95, 96, 97, 98, 99, 100, 101] (by decide +kernel) (by decide +kernel)
set_option maxRecDepth 20000 in
theorem gX11_file_X11_stores : GoodIn wsX11_file (wsV RX11 146 RX11 yX11_stores wsX11_stores) := goodIn_app (goodIn_of _ (by decide +kernel)) ggX11_file_X11_stores
theorem dX11_file_0 : decode cX11_file 0 = .ok (.aload_n 0, 1) := by decide +kernel
theorem dX11_file_1 : decode cX11_file 1 = .ok (.iload_n 1, 1) := by decide +kernel
theorem dX11_file_2 : decode cX11_file 2 = .ok (.invokevirtual 117, 3) := by decide +kernel
theorem dX11_file_5 : decode cX11_file 5 = .ok (.istore_n 3, 1) := by decide +kernel
theorem dX11_file_6 : decode cX11_file 6 = .ok (.aload_n 0, 1) := by decide +kernel
theorem dX11_file_7 : decode cX11_file 7 = .ok (.iload_n 3, 1) := by decide +kernel
theorem dX11_file_8 : decode cX11_file 8 = .ok (.ifCond .ne 7, 3) := by decide +kernel
theorem dX11_file_11 : decode cX11_file 11 = .ok (.iconst 1, 1) := by decide +kernel
theorem dX11_file_12 : decode cX11_file 12 = .ok (.goto 26, 3) := by decide +kernel
theorem dX11_file_15 : decode cX11_file 15 = .ok (.aload_n 0, 1) := by decide +kernel
theorem dX11_file_16 : decode cX11_file 16 = .ok (.getfield 16, 3) := by decide +kernel
theorem dX11_file_19 : decode cX11_file 19 = .ok (.iload_n 1, 1) := by decide +kernel
theorem dX11_file_20 : decode cX11_file 20 = .ok (.baload, 1) := by decide +kernel
theorem dX11_file_21 : decode cX11_file 21 = .ok (.ifCond .eq 16, 3) := by decide +kernel
theorem dX11_file_24 : decode cX11_file 24 = .ok (.aload_n 0, 1) := by decide +kernel
theorem dX11_file_25 : decode cX11_file 25 = .ok (.getfield 85, 3) := by decide +kernel
theorem dX11_file_28 : decode cX11_file 28 = .ok (.bipush 12, 2) := by decide +kernel
theorem dX11_file_30 : decode cX11_file 30 = .ok (.if_icmp .ge 7, 3) := by decide +kernel
theorem dX11_file_33 : decode cX11_file 33 = .ok (.iconst 0, 1) := by decide +kernel
theorem dX11_file_34 : decode cX11_file 34 = .ok (.goto 4, 3) := by decide +kernel
theorem dX11_file_37 : decode cX11_file 37 = .ok (.iconst 2, 1) := by decide +kernel
theorem dX11_file_38 : decode cX11_file 38 = .ok (.invokevirtual 124, 3) := by decide +kernel
theorem dX11_file_41 : decode cX11_file 41 = .ok (.ifCond .ne 5, 3) := by decide +kernel
theorem dX11_file_44 : decode cX11_file 44 = .ok (.iconst 0, 1) := by decide +kernel
theorem dX11_file_45 : decode cX11_file 45 = .ok (.ireturn, 1) := by decide +kernel
theorem dX11_file_46 : decode cX11_file 46 = .ok (.aload_n 0, 1) := by decide +kernel
theorem dX11_file_47 : decode cX11_file 47 = .ok (.getfield 85, 3) := by decide +kernel
theorem dX11_file_50 : decode cX11_file 50 = .ok (.istore 4, 2) := by decide +kernel
theorem dX11_file_52 : decode cX11_file 52 = .ok (.bipush 6, 2) := by decide +kernel
theorem dX11_file_54 : decode cX11_file 54 = .ok (.iload 4, 2) := by decide +kernel
theorem dX11_file_56 : decode cX11_file 56 = .ok (.imul, 1) := by decide +kernel
theorem dX11_file_57 : decode cX11_file 57 = .ok (.istore 5, 2) := by decide +kernel
theorem dX11_file_59 : decode cX11_file 59 = .ok (.aload_n 0, 1) := by decide +kernel
theorem dX11_file_60 : decode cX11_file 60 = .ok (.dup, 1) := by decide +kernel
theorem dX11_file_61 : decode cX11_file 61 = .ok (.getfield 85, 3) := by decide +kernel
theorem dX11_file_64 : decode cX11_file 64 = .ok (.iconst 1, 1) := by decide +kernel
theorem dX11_file_65 : decode cX11_file 65 = .ok (.iadd, 1) := by decide +kernel
theorem dX11_file_66 : decode cX11_file 66 = .ok (.putfield 85, 3) := by decide +kernel
theorem dX11_file_69 : decode cX11_file 69 = .ok (.aload_n 0, 1) := by decide +kernel
theorem dX11_file_70 : decode cX11_file 70 = .ok (.getfield 41, 3) := by decide +kernel
theorem dX11_file_73 : decode cX11_file 73 = .ok (.iload 4, 2) := by decide +kernel
theorem dX11_file_75 : decode cX11_file 75 = .ok (.iload_n 1, 1) := by decide +kernel
theorem dX11_file_76 : decode cX11_file 76 = .ok (.iastore, 1) := by decide +kernel
theorem dX11_file_77 : decode cX11_file 77 = .ok (.aload_n 0, 1) := by decide +kernel
theorem dX11_file_78 : decode cX11_file 78 = .ok (.getfield 44, 3) := by decide +kernel
theorem dX11_file_81 : decode cX11_file 81 = .ok (.iload 5, 2) := by decide +kernel
theorem dX11_file_83 : decode cX11_file 83 = .ok (.iconst 4, 1) := by decide +kernel
theorem dX11_file_84 : decode cX11_file 84 = .ok (.iadd, 1) := by decide +kernel
theorem dX11_file_85 : decode cX11_file 85 = .ok (.iconst 0, 1) := by decide +kernel
theorem dX11_file_86 : decode cX11_file 86 = .ok (.iastore, 1) := by decide +kernel
theorem dX11_file_87 : decode cX11_file 87 = .ok (.aload_n 0, 1) := by decide +kernel
theorem dX11_file_88 : decode cX11_file 88 = .ok (.getfield 44, 3) := by decide +kernel
theorem dX11_file_91 : decode cX11_file 91 = .ok (.iload 5, 2) := by decide +kernel
theorem dX11_file_93 : decode cX11_file 93 = .ok (.iconst 5, 1) := by decide +kernel
theorem dX11_file_94 : decode cX11_file 94 = .ok (.iadd, 1) := by decide +kernel
theorem dX11_file_95 : decode cX11_file 95 = .ok (.iconst 0, 1) := by decide +kernel
theorem dX11_file_96 : decode cX11_file 96 = .ok (.iastore, 1) := by decide +kernel
theorem dX11_file_97 : decode cX11_file 97 = .ok (.iconst 0, 1) := by decide +kernel
theorem dX11_file_98 : decode cX11_file 98 = .ok (.istore 6, 2) := by decide +kernel
theorem dX11_file_100 : decode cX11_file 100 = .ok (.iload 6, 2) := by decide +kernel
theorem dX11_file_102 : decode cX11_file 102 = .ok (.iconst 4, 1) := by decide +kernel
theorem dX11_file_103 : decode cX11_file 103 = .ok (.if_icmp .ge 69, 3) := by decide +kernel
theorem dX11_file_106 : decode cX11_file 106 = .ok (.iload_n 2, 1) := by decide +kernel
theorem dX11_file_107 : decode cX11_file 107 = .ok (.bipush 8, 2) := by decide +kernel
theorem dX11_file_109 : decode cX11_file 109 = .ok (.iload 6, 2) := by decide +kernel
theorem dX11_file_111 : decode cX11_file 111 = .ok (.imul, 1) := by decide +kernel
theorem dX11_file_112 : decode cX11_file 112 = .ok (.ishr, 1) := by decide +kernel
theorem dX11_file_113 : decode cX11_file 113 = .ok (.sipush 255, 3) := by decide +kernel
theorem dX11_file_116 : decode cX11_file 116 = .ok (.iand, 1) := by decide +kernel
theorem dX11_file_117 : decode cX11_file 117 = .ok (.istore 7, 2) := by decide +kernel
theorem dX11_file_119 : decode cX11_file 119 = .ok (.aload_n 0, 1) := by decide +kernel
theorem dX11_file_120 : decode cX11_file 120 = .ok (.getfield 44, 3) := by decide +kernel
theorem dX11_file_123 : decode cX11_file 123 = .ok (.iload 5, 2) := by decide +kernel
theorem dX11_file_125 : decode cX11_file 125 = .ok (.iload 6, 2) := by decide +kernel
theorem dX11_file_127 : decode cX11_file 127 = .ok (.iadd, 1) := by decide +kernel
theorem dX11_file_128 : decode cX11_file 128 = .ok (.iload 7, 2) := by decide +kernel
theorem dX11_file_130 : decode cX11_file 130 = .ok (.iastore, 1) := by decide +kernel
theorem dX11_file_131 : decode cX11_file 131 = .ok (.aload_n 0, 1) := by decide +kernel
theorem dX11_file_132 : decode cX11_file 132 = .ok (.getfield 44, 3) := by decide +kernel
theorem dX11_file_135 : decode cX11_file 135 = .ok (.iload 5, 2) := by decide +kernel
theorem dX11_file_137 : decode cX11_file 137 = .ok (.iconst 4, 1) := by decide +kernel
theorem dX11_file_138 : decode cX11_file 138 = .ok (.iadd, 1) := by decide +kernel
theorem dX11_file_139 : decode cX11_file 139 = .ok (.dup2, 1) := by decide +kernel
theorem dX11_file_140 : decode cX11_file 140 = .ok (.iaload, 1) := by decide +kernel
theorem dX11_file_141 : decode cX11_file 141 = .ok (.iload 7, 2) := by decide +kernel
theorem dX11_file_143 : decode cX11_file 143 = .ok (.ixor, 1) := by decide +kernel
theorem dX11_file_144 : decode cX11_file 144 = .ok (.iastore, 1) := by decide +kernel
theorem dX11_file_145 : decode cX11_file 145 = .ok (.aload_n 0, 1) := by decide +kernel
theorem dX11_file_146 : decode cX11_file 146 = .ok (.getfield 44, 3) := by decide +kernel
theorem dX11_file_149 : decode cX11_file 149 = .ok (.iload 5, 2) := by decide +kernel
theorem dX11_file_151 : decode cX11_file 151 = .ok (.iconst 5, 1) := by decide +kernel
theorem dX11_file_152 : decode cX11_file 152 = .ok (.iadd, 1) := by decide +kernel
theorem dX11_file_153 : decode cX11_file 153 = .ok (.dup2, 1) := by decide +kernel
theorem dX11_file_154 : decode cX11_file 154 = .ok (.iaload, 1) := by decide +kernel
theorem dX11_file_155 : decode cX11_file 155 = .ok (.iload 7, 2) := by decide +kernel
theorem dX11_file_157 : decode cX11_file 157 = .ok (.iconst 1, 1) := by decide +kernel
theorem dX11_file_158 : decode cX11_file 158 = .ok (.iload 6, 2) := by decide +kernel
theorem dX11_file_160 : decode cX11_file 160 = .ok (.ishl, 1) := by decide +kernel
theorem dX11_file_161 : decode cX11_file 161 = .ok (.invokestatic 143, 3) := by decide +kernel
theorem dX11_file_164 : decode cX11_file 164 = .ok (.ixor, 1) := by decide +kernel
theorem dX11_file_165 : decode cX11_file 165 = .ok (.iastore, 1) := by decide +kernel
theorem dX11_file_166 : decode cX11_file 166 = .ok (.iinc 6 1, 3) := by decide +kernel
theorem dX11_file_169 : decode cX11_file 169 = .ok (.goto (-69), 3) := by decide +kernel
theorem dX11_file_172 : decode cX11_file 172 = .ok (.iconst 0, 1) := by decide +kernel
theorem dX11_file_173 : decode cX11_file 173 = .ok (.istore 6, 2) := by decide +kernel
theorem dX11_file_175 : decode cX11_file 175 = .ok (.iload 6, 2) := by decide +kernel
theorem dX11_file_177 : decode cX11_file 177 = .ok (.bipush 6, 2) := by decide +kernel
theorem dX11_file_179 : decode cX11_file 179 = .ok (.if_icmp .ge 20, 3) := by decide +kernel
theorem dX11_file_182 : decode cX11_file 182 = .ok (.aload_n 0, 1) := by decide +kernel
theorem dX11_file_183 : decode cX11_file 183 = .ok (.getfield 47, 3) := by decide +kernel
theorem dX11_file_186 : decode cX11_file 186 = .ok (.iload 5, 2) := by decide +kernel
theorem dX11_file_188 : decode cX11_file 188 = .ok (.iload 6, 2) := by decide +kernel
theorem dX11_file_190 : decode cX11_file 190 = .ok (.iadd, 1) := by decide +kernel
theorem dX11_file_191 : decode cX11_file 191 = .ok (.iconst (-1), 1) := by decide +kernel
theorem dX11_file_192 : decode cX11_file 192 = .ok (.iastore, 1) := by decide +kernel
theorem dX11_file_193 : decode cX11_file 193 = .ok (.iinc 6 1, 3) := by decide +kernel
theorem dX11_file_196 : decode cX11_file 196 = .ok (.goto (-21), 3) := by decide +kernel
theorem dX11_file_199 : decode cX11_file 199 = .ok (.iconst 0, 1) := by decide +kernel
theorem dX11_file_200 : decode cX11_file 200 = .ok (.istore 6, 2) := by decide +kernel
theorem dX11_file_202 : decode cX11_file 202 = .ok (.iload 6, 2) := by decide +kernel
theorem dX11_file_204 : decode cX11_file 204 = .ok (.bipush 6, 2) := by decide +kernel
theorem dX11_file_206 : decode cX11_file 206 = .ok (.if_icmp .ge 17, 3) := by decide +kernel
theorem dX11_file_209 : decode cX11_file 209 = .ok (.aload_n 0, 1) := by decide +kernel
theorem dX11_file_210 : decode cX11_file 210 = .ok (.iload 4, 2) := by decide +kernel
theorem dX11_file_212 : decode cX11_file 212 = .ok (.iload 6, 2) := by decide +kernel
theorem dX11_file_214 : decode cX11_file 214 = .ok (.invokevirtual 146, 3) := by decide +kernel
theorem dX11_file_217 : decode cX11_file 217 = .ok (.iinc 6 1, 3) := by decide +kernel
theorem dX11_file_220 : decode cX11_file 220 = .ok (.goto (-18), 3) := by decide +kernel
theorem dX11_file_223 : decode cX11_file 223 = .ok (.iload 4, 2) := by decide +kernel
theorem dX11_file_225 : decode cX11_file 225 = .ok (.ireturn, 1) := by decide +kernel
set_option maxRecDepth 20000 in
theorem ggX11_isAsked_X11_isFile : GoodIn wsX11_isAsked wsX11_isFile := goodIn_r _ [5, 6, 7, 8, 4, 9, 10, 11, 12, 13, 14, 15, 16, 17, 18, 19, 20, 21, 22, 23, 24, 25, 26, 27, 28, 29, 30, 31, 32, 33, 34, 35, 36, 37] (by decide +kernel) (by decide +kernel)
set_option maxRecDepth 20000 in
theorem gX11_isAsked_X11_isFile : GoodIn wsX11_isAsked (wsV RX11 149 RX11 yX11_isFile wsX11_isFile) := goodIn_app (goodIn_of _ (by decide +kernel)) ggX11_isAsked_X11_isFile
set_option maxRecDepth 20000 in
theorem ggX11_isAsked_X11_isIn : GoodIn wsX11_isAsked wsX11_isIn := goodIn_r _ [9] (by decide +kernel) (by decide +kernel)
set_option maxRecDepth 20000 in
theorem gX11_isAsked_X11_isIn : GoodIn wsX11_isAsked (va_wsS RX11 81 yX11_isIn wsX11_isIn) := goodIn_app (goodIn_of _ (by decide +kernel)) ggX11_isAsked_X11_isIn
theorem dX11_isAsked_0 : decode cX11_isAsked 0 = .ok (.aload_n 0, 1) := by decide +kernel
theorem dX11_isAsked_1 : decode cX11_isAsked 1 = .ok (.iload_n 1, 1) := by decide +kernel
theorem dX11_isAsked_2 : decode cX11_isAsked 2 = .ok (.invokevirtual 149, 3) := by decide +kernel
theorem dX11_isAsked_5 : decode cX11_isAsked 5 = .ok (.ifCond .eq 16, 3) := by decide +kernel
theorem dX11_isAsked_8 : decode cX11_isAsked 8 = .ok (.iload_n 2, 1) := by decide +kernel
theorem dX11_isAsked_9 : decode cX11_isAsked 9 = .ok (.iconst 0, 1) := by decide +kernel
theorem dX11_isAsked_10 : decode cX11_isAsked 10 = .ok (.iconst 5, 1) := by decide +kernel
theorem dX11_isAsked_11 : decode cX11_isAsked 11 = .ok (.invokestatic 81, 3) := by decide +kernel
theorem dX11_isAsked_14 : decode cX11_isAsked 14 = .ok (.ifCond .eq 7, 3) := by decide +kernel
theorem dX11_isAsked_17 : decode cX11_isAsked 17 = .ok (.iconst 1, 1) := by decide +kernel
theorem dX11_isAsked_18 : decode cX11_isAsked 18 = .ok (.goto 4, 3) := by decide +kernel
theorem dX11_isAsked_21 : decode cX11_isAsked 21 = .ok (.iconst 0, 1) := by decide +kernel
theorem dX11_isAsked_22 : decode cX11_isAsked 22 = .ok (.ireturn, 1) := by decide +kernel
set_option maxRecDepth 20000 in
theorem ggX11_piece_X11_isAsked : GoodIn wsX11_piece wsX11_isAsked := goodIn_r _ [9, 10, 11, 12, 8, 13, 14, 15, 16, 17, 23, 24, 25, 26, 27, 28, 29, 30, 31, 32, 33, 34, 35, 36, 37, 38, 39, 40, 41, 42, 43, 44, 45, 46, 47, 48, 49, 50] (by decide +kernel) (by decide +kernel)
set_option maxRecDepth 20000 in
theorem gX11_piece_X11_isAsked : GoodIn wsX11_piece (wsV RX11 152 RX11 yX11_isAsked wsX11_isAsked) := goodIn_app (goodIn_of _ (by decide +kernel)) ggX11_piece_X11_isAsked
set_option maxRecDepth 20000 in
theorem ggX11_piece_X11_isIn : GoodIn wsX11_piece wsX11_isIn := goodIn_r _ [17] (by decide +kernel) (by decide +kernel)
set_option maxRecDepth 20000 in
theorem gX11_piece_X11_isIn : GoodIn wsX11_piece (va_wsS RX11 81 yX11_isIn wsX11_isIn) := goodIn_app (goodIn_of _ (by decide +kernel)) ggX11_piece_X11_isIn
set_option maxRecDepth 20000 in
theorem ggX11_piece_X11_holds : GoodIn wsX11_piece wsX11_holds := goodIn_r _ [21, 22, 23, 24, 25, 26, 27, 28, 29, 30, 31, 32, 33, 34, 35, 36, 37, 38, 39, 40, 41, 42, 43, 44, 45, 46, 47, 48, 49, 50] (by decide +kernel) (by decide +kernel)
set_option maxRecDepth 20000 in
theorem gX11_piece_X11_holds : GoodIn wsX11_piece (wsV RX11 124 RX11 yX11_holds wsX11_holds) := goodIn_app (goodIn_of _ (by decide +kernel)) ggX11_piece_X11_holds
theorem dX11_piece_0 : decode cX11_piece 0 = .ok (.aload_n 0, 1) := by decide +kernel
theorem dX11_piece_1 : decode cX11_piece 1 = .ok (.aload_n 0, 1) := by decide +kernel
theorem dX11_piece_2 : decode cX11_piece 2 = .ok (.iload_n 1, 1) := by decide +kernel
theorem dX11_piece_3 : decode cX11_piece 3 = .ok (.iload_n 2, 1) := by decide +kernel
theorem dX11_piece_4 : decode cX11_piece 4 = .ok (.invokevirtual 152, 3) := by decide +kernel
theorem dX11_piece_7 : decode cX11_piece 7 = .ok (.ifCond .ne 7, 3) := by decide +kernel
theorem dX11_piece_10 : decode cX11_piece 10 = .ok (.iconst 1, 1) := by decide +kernel
theorem dX11_piece_11 : decode cX11_piece 11 = .ok (.goto 17, 3) := by decide +kernel
theorem dX11_piece_14 : decode cX11_piece 14 = .ok (.iload_n 3, 1) := by decide +kernel
theorem dX11_piece_15 : decode cX11_piece 15 = .ok (.iconst 0, 1) := by decide +kernel
theorem dX11_piece_16 : decode cX11_piece 16 = .ok (.iconst 3, 1) := by decide +kernel
theorem dX11_piece_17 : decode cX11_piece 17 = .ok (.invokestatic 81, 3) := by decide +kernel
theorem dX11_piece_20 : decode cX11_piece 20 = .ok (.ifCond .eq 7, 3) := by decide +kernel
theorem dX11_piece_23 : decode cX11_piece 23 = .ok (.iconst 0, 1) := by decide +kernel
theorem dX11_piece_24 : decode cX11_piece 24 = .ok (.goto 4, 3) := by decide +kernel
theorem dX11_piece_27 : decode cX11_piece 27 = .ok (.iconst 2, 1) := by decide +kernel
theorem dX11_piece_28 : decode cX11_piece 28 = .ok (.invokevirtual 124, 3) := by decide +kernel
theorem dX11_piece_31 : decode cX11_piece 31 = .ok (.ifCond .ne 5, 3) := by decide +kernel
theorem dX11_piece_34 : decode cX11_piece 34 = .ok (.iconst 0, 1) := by decide +kernel
theorem dX11_piece_35 : decode cX11_piece 35 = .ok (.ireturn, 1) := by decide +kernel
theorem dX11_piece_36 : decode cX11_piece 36 = .ok (.bipush 6, 2) := by decide +kernel
theorem dX11_piece_38 : decode cX11_piece 38 = .ok (.iload_n 1, 1) := by decide +kernel
theorem dX11_piece_39 : decode cX11_piece 39 = .ok (.imul, 1) := by decide +kernel
theorem dX11_piece_40 : decode cX11_piece 40 = .ok (.iload_n 2, 1) := by decide +kernel
theorem dX11_piece_41 : decode cX11_piece 41 = .ok (.iadd, 1) := by decide +kernel
theorem dX11_piece_42 : decode cX11_piece 42 = .ok (.istore 4, 2) := by decide +kernel
theorem dX11_piece_44 : decode cX11_piece 44 = .ok (.iload_n 3, 1) := by decide +kernel
theorem dX11_piece_45 : decode cX11_piece 45 = .ok (.ifCond .ne 13, 3) := by decide +kernel
theorem dX11_piece_48 : decode cX11_piece 48 = .ok (.aload_n 0, 1) := by decide +kernel
theorem dX11_piece_49 : decode cX11_piece 49 = .ok (.getfield 44, 3) := by decide +kernel
theorem dX11_piece_52 : decode cX11_piece 52 = .ok (.iload 4, 2) := by decide +kernel
theorem dX11_piece_54 : decode cX11_piece 54 = .ok (.iaload, 1) := by decide +kernel
theorem dX11_piece_55 : decode cX11_piece 55 = .ok (.goto 48, 3) := by decide +kernel
theorem dX11_piece_58 : decode cX11_piece 58 = .ok (.iload_n 3, 1) := by decide +kernel
theorem dX11_piece_59 : decode cX11_piece 59 = .ok (.iconst 1, 1) := by decide +kernel
theorem dX11_piece_60 : decode cX11_piece 60 = .ok (.if_icmp .ne 13, 3) := by decide +kernel
theorem dX11_piece_63 : decode cX11_piece 63 = .ok (.aload_n 0, 1) := by decide +kernel
theorem dX11_piece_64 : decode cX11_piece 64 = .ok (.getfield 47, 3) := by decide +kernel
theorem dX11_piece_67 : decode cX11_piece 67 = .ok (.iload 4, 2) := by decide +kernel
theorem dX11_piece_69 : decode cX11_piece 69 = .ok (.iaload, 1) := by decide +kernel
theorem dX11_piece_70 : decode cX11_piece 70 = .ok (.goto 33, 3) := by decide +kernel
theorem dX11_piece_73 : decode cX11_piece 73 = .ok (.iload_n 3, 1) := by decide +kernel
theorem dX11_piece_74 : decode cX11_piece 74 = .ok (.iconst 2, 1) := by decide +kernel
theorem dX11_piece_75 : decode cX11_piece 75 = .ok (.if_icmp .ne 21, 3) := by decide +kernel
theorem dX11_piece_78 : decode cX11_piece 78 = .ok (.aload_n 0, 1) := by decide +kernel
theorem dX11_piece_79 : decode cX11_piece 79 = .ok (.getfield 50, 3) := by decide +kernel
theorem dX11_piece_82 : decode cX11_piece 82 = .ok (.iload 4, 2) := by decide +kernel
theorem dX11_piece_84 : decode cX11_piece 84 = .ok (.baload, 1) := by decide +kernel
theorem dX11_piece_85 : decode cX11_piece 85 = .ok (.ifCond .eq 7, 3) := by decide +kernel
theorem dX11_piece_88 : decode cX11_piece 88 = .ok (.iconst 1, 1) := by decide +kernel
theorem dX11_piece_89 : decode cX11_piece 89 = .ok (.goto 14, 3) := by decide +kernel
theorem dX11_piece_92 : decode cX11_piece 92 = .ok (.iconst 0, 1) := by decide +kernel
theorem dX11_piece_93 : decode cX11_piece 93 = .ok (.goto 10, 3) := by decide +kernel
theorem dX11_piece_96 : decode cX11_piece 96 = .ok (.aload_n 0, 1) := by decide +kernel
theorem dX11_piece_97 : decode cX11_piece 97 = .ok (.getfield 53, 3) := by decide +kernel
theorem dX11_piece_100 : decode cX11_piece 100 = .ok (.iload 4, 2) := by decide +kernel
theorem dX11_piece_102 : decode cX11_piece 102 = .ok (.iaload, 1) := by decide +kernel
theorem dX11_piece_103 : decode cX11_piece 103 = .ok (.ireturn, 1) := by decide +kernel
set_option maxRecDepth 20000 in
theorem ggX11_spoil_X11_isAsked : GoodIn wsX11_spoil wsX11_isAsked := goodIn_r _ [7, 8, 9, 10, 6, 11, 12, 13, 14, 15, 21, 22, 23, 24, 25, 26, 27, 28, 29, 30, 31, 32, 33, 34, 35, 36, 37, 38, 39, 40, 41, 42, 43, 44, 45, 46, 47, 48] (by decide +kernel) (by decide +kernel)
set_option maxRecDepth 20000 in
theorem gX11_spoil_X11_isAsked : GoodIn wsX11_spoil (wsV RX11 152 RX11 yX11_isAsked wsX11_isAsked) := goodIn_app (goodIn_of _ (by decide +kernel)) ggX11_spoil_X11_isAsked
set_option maxRecDepth 20000 in
theorem ggX11_spoil_X11_holds : GoodIn wsX11_spoil wsX11_holds := goodIn_r _ [19, 20, 21, 22, 23, 24, 25, 26, 27, 28, 29, 30, 31, 32, 33, 34, 35, 36, 37, 38, 39, 40, 41, 42, 43, 44, 45, 46, 47, 48] (by decide +kernel) (by decide +kernel)
set_option maxRecDepth 20000 in
theorem gX11_spoil_X11_holds : GoodIn wsX11_spoil (wsV RX11 124 RX11 yX11_holds wsX11_holds) := goodIn_app (goodIn_of _ (by decide +kernel)) ggX11_spoil_X11_holds
theorem dX11_spoil_0 : decode cX11_spoil 0 = .ok (.aload_n 0, 1) := by decide +kernel
theorem dX11_spoil_1 : decode cX11_spoil 1 = .ok (.iload_n 1, 1) := by decide +kernel
theorem dX11_spoil_2 : decode cX11_spoil 2 = .ok (.iload_n 2, 1) := by decide +kernel
theorem dX11_spoil_3 : decode cX11_spoil 3 = .ok (.invokevirtual 152, 3) := by decide +kernel
theorem dX11_spoil_6 : decode cX11_spoil 6 = .ok (.istore_n 3, 1) := by decide +kernel
theorem dX11_spoil_7 : decode cX11_spoil 7 = .ok (.aload_n 0, 1) := by decide +kernel
theorem dX11_spoil_8 : decode cX11_spoil 8 = .ok (.iload_n 3, 1) := by decide +kernel
theorem dX11_spoil_9 : decode cX11_spoil 9 = .ok (.ifCond .ne 7, 3) := by decide +kernel
theorem dX11_spoil_12 : decode cX11_spoil 12 = .ok (.iconst 1, 1) := by decide +kernel
theorem dX11_spoil_13 : decode cX11_spoil 13 = .ok (.goto 23, 3) := by decide +kernel
theorem dX11_spoil_16 : decode cX11_spoil 16 = .ok (.aload_n 0, 1) := by decide +kernel
theorem dX11_spoil_17 : decode cX11_spoil 17 = .ok (.getfield 47, 3) := by decide +kernel
theorem dX11_spoil_20 : decode cX11_spoil 20 = .ok (.bipush 6, 2) := by decide +kernel
theorem dX11_spoil_22 : decode cX11_spoil 22 = .ok (.iload_n 1, 1) := by decide +kernel
theorem dX11_spoil_23 : decode cX11_spoil 23 = .ok (.imul, 1) := by decide +kernel
theorem dX11_spoil_24 : decode cX11_spoil 24 = .ok (.iload_n 2, 1) := by decide +kernel
theorem dX11_spoil_25 : decode cX11_spoil 25 = .ok (.iadd, 1) := by decide +kernel
theorem dX11_spoil_26 : decode cX11_spoil 26 = .ok (.iaload, 1) := by decide +kernel
theorem dX11_spoil_27 : decode cX11_spoil 27 = .ok (.iconst (-1), 1) := by decide +kernel
theorem dX11_spoil_28 : decode cX11_spoil 28 = .ok (.if_icmp .ne 7, 3) := by decide +kernel
theorem dX11_spoil_31 : decode cX11_spoil 31 = .ok (.iconst 2, 1) := by decide +kernel
theorem dX11_spoil_32 : decode cX11_spoil 32 = .ok (.goto 4, 3) := by decide +kernel
theorem dX11_spoil_35 : decode cX11_spoil 35 = .ok (.iconst 0, 1) := by decide +kernel
theorem dX11_spoil_36 : decode cX11_spoil 36 = .ok (.invokevirtual 124, 3) := by decide +kernel
theorem dX11_spoil_39 : decode cX11_spoil 39 = .ok (.ifCond .ne 5, 3) := by decide +kernel
theorem dX11_spoil_42 : decode cX11_spoil 42 = .ok (.iconst 0, 1) := by decide +kernel
theorem dX11_spoil_43 : decode cX11_spoil 43 = .ok (.ireturn, 1) := by decide +kernel
theorem dX11_spoil_44 : decode cX11_spoil 44 = .ok (.aload_n 0, 1) := by decide +kernel
theorem dX11_spoil_45 : decode cX11_spoil 45 = .ok (.getfield 50, 3) := by decide +kernel
theorem dX11_spoil_48 : decode cX11_spoil 48 = .ok (.bipush 6, 2) := by decide +kernel
theorem dX11_spoil_50 : decode cX11_spoil 50 = .ok (.iload_n 1, 1) := by decide +kernel
theorem dX11_spoil_51 : decode cX11_spoil 51 = .ok (.imul, 1) := by decide +kernel
theorem dX11_spoil_52 : decode cX11_spoil 52 = .ok (.iload_n 2, 1) := by decide +kernel
theorem dX11_spoil_53 : decode cX11_spoil 53 = .ok (.iadd, 1) := by decide +kernel
theorem dX11_spoil_54 : decode cX11_spoil 54 = .ok (.baload, 1) := by decide +kernel
theorem dX11_spoil_55 : decode cX11_spoil 55 = .ok (.istore 4, 2) := by decide +kernel
theorem dX11_spoil_57 : decode cX11_spoil 57 = .ok (.aload_n 0, 1) := by decide +kernel
theorem dX11_spoil_58 : decode cX11_spoil 58 = .ok (.getfield 50, 3) := by decide +kernel
theorem dX11_spoil_61 : decode cX11_spoil 61 = .ok (.bipush 6, 2) := by decide +kernel
theorem dX11_spoil_63 : decode cX11_spoil 63 = .ok (.iload_n 1, 1) := by decide +kernel
theorem dX11_spoil_64 : decode cX11_spoil 64 = .ok (.imul, 1) := by decide +kernel
theorem dX11_spoil_65 : decode cX11_spoil 65 = .ok (.iload_n 2, 1) := by decide +kernel
theorem dX11_spoil_66 : decode cX11_spoil 66 = .ok (.iadd, 1) := by decide +kernel
theorem dX11_spoil_67 : decode cX11_spoil 67 = .ok (.iconst 0, 1) := by decide +kernel
theorem dX11_spoil_68 : decode cX11_spoil 68 = .ok (.bastore, 1) := by decide +kernel
theorem dX11_spoil_69 : decode cX11_spoil 69 = .ok (.iload 4, 2) := by decide +kernel
theorem dX11_spoil_71 : decode cX11_spoil 71 = .ok (.ireturn, 1) := by decide +kernel
set_option maxRecDepth 20000 in
theorem ggX11_root_X11_isFile : GoodIn wsX11_root wsX11_isFile := goodIn_r _ [6, 7, 8, 9, 5, 10, 25, 26, 27, 28, 29, 30, 31, 32, 33, 34, 35, 36, 37, 38, 39, 40, 41, 42, 43, 44, 45, 46, 47, 48, 49, 50, 51, 52] (by decide +kernel) (by decide +kernel)
set_option maxRecDepth 20000 in
theorem gX11_root_X11_isFile : GoodIn wsX11_root (wsV RX11 149 RX11 yX11_isFile wsX11_isFile) := goodIn_app (goodIn_of _ (by decide +kernel)) ggX11_root_X11_isFile
set_option maxRecDepth 20000 in
theorem ggX11_root_X11_holds : GoodIn wsX11_root wsX11_holds := goodIn_r _ [14, 15, 25, 26, 27, 28, 29, 30, 31, 32, 33, 34, 35, 36, 37, 38, 39, 40, 41, 42, 43, 44, 45, 46, 47, 48, 49, 50, 51, 52] (by decide +kernel) (by decide +kernel)
set_option maxRecDepth 20000 in
theorem gX11_root_X11_holds : GoodIn wsX11_root (wsV RX11 124 RX11 yX11_holds wsX11_holds) := goodIn_app (goodIn_of _ (by decide +kernel)) ggX11_root_X11_holds
set_option maxRecDepth 20000 in
theorem ggX11_root_X11_laysTree : GoodIn wsX11_root wsX11_laysTree := goodIn_r _ [19, 1, 20, 21, 22, 5, 23, 24, 25, 26, 27, 28, 29, 30, 31, 32, 33, 34, 35, 36, 37, 38, 39, 40, 41, 42, 43, 44, 45, 46, 47, 48, 49, 50, 51, 52] (by decide +kernel) (by decide +kernel)
set_option maxRecDepth 20000 in
theorem gX11_root_X11_laysTree : GoodIn wsX11_root (wsV RX11 155 RX11 yX11_laysTree wsX11_laysTree) := goodIn_app (goodIn_of _ (by decide +kernel)) ggX11_root_X11_laysTree
theorem dX11_root_0 : decode cX11_root 0 = .ok (.aload_n 0, 1) := by decide +kernel
theorem dX11_root_1 : decode cX11_root 1 = .ok (.aload_n 0, 1) := by decide +kernel
theorem dX11_root_2 : decode cX11_root 2 = .ok (.iload_n 1, 1) := by decide +kernel
theorem dX11_root_3 : decode cX11_root 3 = .ok (.invokevirtual 149, 3) := by decide +kernel
theorem dX11_root_6 : decode cX11_root 6 = .ok (.ifCond .eq 7, 3) := by decide +kernel
theorem dX11_root_9 : decode cX11_root 9 = .ok (.iconst 0, 1) := by decide +kernel
theorem dX11_root_10 : decode cX11_root 10 = .ok (.goto 4, 3) := by decide +kernel
theorem dX11_root_13 : decode cX11_root 13 = .ok (.iconst 1, 1) := by decide +kernel
theorem dX11_root_14 : decode cX11_root 14 = .ok (.invokevirtual 124, 3) := by decide +kernel
theorem dX11_root_17 : decode cX11_root 17 = .ok (.ifCond .ne 5, 3) := by decide +kernel
theorem dX11_root_20 : decode cX11_root 20 = .ok (.iconst 0, 1) := by decide +kernel
theorem dX11_root_21 : decode cX11_root 21 = .ok (.ireturn, 1) := by decide +kernel
theorem dX11_root_22 : decode cX11_root 22 = .ok (.aload_n 0, 1) := by decide +kernel
theorem dX11_root_23 : decode cX11_root 23 = .ok (.iload_n 1, 1) := by decide +kernel
theorem dX11_root_24 : decode cX11_root 24 = .ok (.invokevirtual 155, 3) := by decide +kernel
theorem dX11_root_27 : decode cX11_root 27 = .ok (.aload_n 0, 1) := by decide +kernel
theorem dX11_root_28 : decode cX11_root 28 = .ok (.getfield 56, 3) := by decide +kernel
theorem dX11_root_31 : decode cX11_root 31 = .ok (.iconst 1, 1) := by decide +kernel
theorem dX11_root_32 : decode cX11_root 32 = .ok (.iaload, 1) := by decide +kernel
theorem dX11_root_33 : decode cX11_root 33 = .ok (.ireturn, 1) := by decide +kernel
set_option maxRecDepth 20000 in
theorem ggX11_proof_X11_isAsked : GoodIn wsX11_proof wsX11_isAsked := goodIn_r _ [6, 7, 8, 9, 5, 10, 11, 12, 13, 14, 29, 30, 31, 32, 33, 34, 35, 36, 37, 38, 39, 40, 41, 42, 43, 44, 45, 46, 47, 48, 49, 50, 51, 52, 53, 54, 55, 56] (by decide +kernel) (by decide +kernel)
set_option maxRecDepth 20000 in
theorem gX11_proof_X11_isAsked : GoodIn wsX11_proof (wsV RX11 152 RX11 yX11_isAsked wsX11_isAsked) := goodIn_app (goodIn_of _ (by decide +kernel)) ggX11_proof_X11_isAsked
set_option maxRecDepth 20000 in
theorem ggX11_proof_X11_isIn : GoodIn wsX11_proof wsX11_isIn := goodIn_r _ [14] (by decide +kernel) (by decide +kernel)
set_option maxRecDepth 20000 in
theorem gX11_proof_X11_isIn : GoodIn wsX11_proof (va_wsS RX11 81 yX11_isIn wsX11_isIn) := goodIn_app (goodIn_of _ (by decide +kernel)) ggX11_proof_X11_isIn
set_option maxRecDepth 20000 in
theorem ggX11_proof_X11_holds : GoodIn wsX11_proof wsX11_holds := goodIn_r _ [18, 19, 29, 30, 31, 32, 33, 34, 35, 36, 37, 38, 39, 40, 41, 42, 43, 44, 45, 46, 47, 48, 49, 50, 51, 52, 53, 54, 55, 56] (by decide +kernel) (by decide +kernel)
set_option maxRecDepth 20000 in
theorem gX11_proof_X11_holds : GoodIn wsX11_proof (wsV RX11 124 RX11 yX11_holds wsX11_holds) := goodIn_app (goodIn_of _ (by decide +kernel)) ggX11_proof_X11_holds
set_option maxRecDepth 20000 in
theorem ggX11_proof_X11_laysTree : GoodIn wsX11_proof wsX11_laysTree := goodIn_r _ [23, 1, 24, 25, 26, 5, 27, 28, 29, 30, 31, 32, 33, 34, 35, 36, 37, 38, 39, 40, 41, 42, 43, 44, 45, 46, 47, 48, 49, 50, 51, 52, 53, 54, 55, 56] (by decide +kernel) (by decide +kernel)
set_option maxRecDepth 20000 in
theorem gX11_proof_X11_laysTree : GoodIn wsX11_proof (wsV RX11 155 RX11 yX11_laysTree wsX11_laysTree) := goodIn_app (goodIn_of _ (by decide +kernel)) ggX11_proof_X11_laysTree
theorem dX11_proof_0 : decode cX11_proof 0 = .ok (.aload_n 0, 1) := by decide +kernel
theorem dX11_proof_1 : decode cX11_proof 1 = .ok (.aload_n 0, 1) := by decide +kernel
theorem dX11_proof_2 : decode cX11_proof 2 = .ok (.iload_n 1, 1) := by decide +kernel
theorem dX11_proof_3 : decode cX11_proof 3 = .ok (.iload_n 2, 1) := by decide +kernel
theorem dX11_proof_4 : decode cX11_proof 4 = .ok (.invokevirtual 152, 3) := by decide +kernel
theorem dX11_proof_7 : decode cX11_proof 7 = .ok (.ifCond .ne 7, 3) := by decide +kernel
theorem dX11_proof_10 : decode cX11_proof 10 = .ok (.iconst 1, 1) := by decide +kernel
theorem dX11_proof_11 : decode cX11_proof 11 = .ok (.goto 17, 3) := by decide +kernel
theorem dX11_proof_14 : decode cX11_proof 14 = .ok (.iload_n 3, 1) := by decide +kernel
theorem dX11_proof_15 : decode cX11_proof 15 = .ok (.iconst 0, 1) := by decide +kernel
theorem dX11_proof_16 : decode cX11_proof 16 = .ok (.iconst 2, 1) := by decide +kernel
theorem dX11_proof_17 : decode cX11_proof 17 = .ok (.invokestatic 81, 3) := by decide +kernel
theorem dX11_proof_20 : decode cX11_proof 20 = .ok (.ifCond .eq 7, 3) := by decide +kernel
theorem dX11_proof_23 : decode cX11_proof 23 = .ok (.iconst 0, 1) := by decide +kernel
theorem dX11_proof_24 : decode cX11_proof 24 = .ok (.goto 4, 3) := by decide +kernel
theorem dX11_proof_27 : decode cX11_proof 27 = .ok (.iconst 2, 1) := by decide +kernel
theorem dX11_proof_28 : decode cX11_proof 28 = .ok (.invokevirtual 124, 3) := by decide +kernel
theorem dX11_proof_31 : decode cX11_proof 31 = .ok (.ifCond .ne 5, 3) := by decide +kernel
theorem dX11_proof_34 : decode cX11_proof 34 = .ok (.iconst 0, 1) := by decide +kernel
theorem dX11_proof_35 : decode cX11_proof 35 = .ok (.ireturn, 1) := by decide +kernel
theorem dX11_proof_36 : decode cX11_proof 36 = .ok (.aload_n 0, 1) := by decide +kernel
theorem dX11_proof_37 : decode cX11_proof 37 = .ok (.iload_n 1, 1) := by decide +kernel
theorem dX11_proof_38 : decode cX11_proof 38 = .ok (.invokevirtual 155, 3) := by decide +kernel
theorem dX11_proof_41 : decode cX11_proof 41 = .ok (.aload_n 0, 1) := by decide +kernel
theorem dX11_proof_42 : decode cX11_proof 42 = .ok (.getfield 56, 3) := by decide +kernel
theorem dX11_proof_45 : decode cX11_proof 45 = .ok (.bipush 8, 2) := by decide +kernel
theorem dX11_proof_47 : decode cX11_proof 47 = .ok (.iload_n 2, 1) := by decide +kernel
theorem dX11_proof_48 : decode cX11_proof 48 = .ok (.iadd, 1) := by decide +kernel
theorem dX11_proof_49 : decode cX11_proof 49 = .ok (.iload_n 3, 1) := by decide +kernel
theorem dX11_proof_50 : decode cX11_proof 50 = .ok (.ishr, 1) := by decide +kernel
theorem dX11_proof_51 : decode cX11_proof 51 = .ok (.iconst 1, 1) := by decide +kernel
theorem dX11_proof_52 : decode cX11_proof 52 = .ok (.ixor, 1) := by decide +kernel
theorem dX11_proof_53 : decode cX11_proof 53 = .ok (.iaload, 1) := by decide +kernel
theorem dX11_proof_54 : decode cX11_proof 54 = .ok (.ireturn, 1) := by decide +kernel
set_option maxRecDepth 20000 in
theorem ggX11_isProved_X11_isAsked : GoodIn wsX11_isProved wsX11_isAsked := goodIn_r _ [6, 7, 8, 9, 5, 10, 11, 12, 13, 14, 29, 30, 31, 32, 33, 34, 35, 36, 37, 38, 39, 40, 41, 42, 43, 44, 45, 46, 47, 48, 49, 50, 51, 52, 53, 54, 55, 56] (by decide +kernel) (by decide +kernel)
set_option maxRecDepth 20000 in
theorem gX11_isProved_X11_isAsked : GoodIn wsX11_isProved (wsV RX11 152 RX11 yX11_isAsked wsX11_isAsked) := goodIn_app (goodIn_of _ (by decide +kernel)) ggX11_isProved_X11_isAsked
set_option maxRecDepth 20000 in
theorem ggX11_isProved_X11_isIn : GoodIn wsX11_isProved wsX11_isIn := goodIn_r _ [14] (by decide +kernel) (by decide +kernel)
set_option maxRecDepth 20000 in
theorem gX11_isProved_X11_isIn : GoodIn wsX11_isProved (va_wsS RX11 81 yX11_isIn wsX11_isIn) := goodIn_app (goodIn_of _ (by decide +kernel)) ggX11_isProved_X11_isIn
set_option maxRecDepth 20000 in
theorem ggX11_isProved_X11_holds : GoodIn wsX11_isProved wsX11_holds := goodIn_r _ [18, 19, 29, 30, 31, 32, 33, 34, 35, 36, 37, 38, 39, 40, 41, 42, 43, 44, 45, 46, 47, 48, 49, 50, 51, 52, 53, 54, 55, 56] (by decide +kernel) (by decide +kernel)
set_option maxRecDepth 20000 in
theorem gX11_isProved_X11_holds : GoodIn wsX11_isProved (wsV RX11 124 RX11 yX11_holds wsX11_holds) := goodIn_app (goodIn_of _ (by decide +kernel)) ggX11_isProved_X11_holds
set_option maxRecDepth 20000 in
theorem ggX11_isProved_X11_laysTree : GoodIn wsX11_isProved wsX11_laysTree := goodIn_r _ [23, 1, 24, 25, 26, 5, 27, 28, 29, 30, 31, 32, 33, 34, 35, 36, 37, 38, 39, 40, 41, 42, 43, 44, 45, 46, 47, 48, 49, 50, 51, 52, 53, 54, 55, 56] (by decide +kernel) (by decide +kernel)
set_option maxRecDepth 20000 in
theorem gX11_isProved_X11_laysTree : GoodIn wsX11_isProved (wsV RX11 155 RX11 yX11_laysTree wsX11_laysTree) := goodIn_app (goodIn_of _ (by decide +kernel)) ggX11_isProved_X11_laysTree
set_option maxRecDepth 20000 in
theorem ggX11_isProved_X11_hash : GoodIn wsX11_isProved wsX11_hash := goodIn_r _ [27, 28] (by decide +kernel) (by decide +kernel)
set_option maxRecDepth 20000 in
theorem gX11_isProved_X11_hash : GoodIn wsX11_isProved (va_wsS RX11 140 yX11_hash wsX11_hash) := goodIn_app (goodIn_of _ (by decide +kernel)) ggX11_isProved_X11_hash
theorem dX11_isProved_0 : decode cX11_isProved 0 = .ok (.aload_n 0, 1) := by decide +kernel
theorem dX11_isProved_1 : decode cX11_isProved 1 = .ok (.aload_n 0, 1) := by decide +kernel
theorem dX11_isProved_2 : decode cX11_isProved 2 = .ok (.iload_n 1, 1) := by decide +kernel
theorem dX11_isProved_3 : decode cX11_isProved 3 = .ok (.iload_n 2, 1) := by decide +kernel
theorem dX11_isProved_4 : decode cX11_isProved 4 = .ok (.invokevirtual 152, 3) := by decide +kernel
theorem dX11_isProved_7 : decode cX11_isProved 7 = .ok (.ifCond .ne 7, 3) := by decide +kernel
theorem dX11_isProved_10 : decode cX11_isProved 10 = .ok (.iconst 1, 1) := by decide +kernel
theorem dX11_isProved_11 : decode cX11_isProved 11 = .ok (.goto 19, 3) := by decide +kernel
theorem dX11_isProved_14 : decode cX11_isProved 14 = .ok (.iload_n 3, 1) := by decide +kernel
theorem dX11_isProved_15 : decode cX11_isProved 15 = .ok (.iconst 0, 1) := by decide +kernel
theorem dX11_isProved_16 : decode cX11_isProved 16 = .ok (.sipush 255, 3) := by decide +kernel
theorem dX11_isProved_19 : decode cX11_isProved 19 = .ok (.invokestatic 81, 3) := by decide +kernel
theorem dX11_isProved_22 : decode cX11_isProved 22 = .ok (.ifCond .eq 7, 3) := by decide +kernel
theorem dX11_isProved_25 : decode cX11_isProved 25 = .ok (.iconst 0, 1) := by decide +kernel
theorem dX11_isProved_26 : decode cX11_isProved 26 = .ok (.goto 4, 3) := by decide +kernel
theorem dX11_isProved_29 : decode cX11_isProved 29 = .ok (.iconst 2, 1) := by decide +kernel
theorem dX11_isProved_30 : decode cX11_isProved 30 = .ok (.invokevirtual 124, 3) := by decide +kernel
theorem dX11_isProved_33 : decode cX11_isProved 33 = .ok (.ifCond .ne 5, 3) := by decide +kernel
theorem dX11_isProved_36 : decode cX11_isProved 36 = .ok (.iconst 0, 1) := by decide +kernel
theorem dX11_isProved_37 : decode cX11_isProved 37 = .ok (.ireturn, 1) := by decide +kernel
theorem dX11_isProved_38 : decode cX11_isProved 38 = .ok (.aload_n 0, 1) := by decide +kernel
theorem dX11_isProved_39 : decode cX11_isProved 39 = .ok (.iload_n 1, 1) := by decide +kernel
theorem dX11_isProved_40 : decode cX11_isProved 40 = .ok (.invokevirtual 155, 3) := by decide +kernel
theorem dX11_isProved_43 : decode cX11_isProved 43 = .ok (.iload_n 3, 1) := by decide +kernel
theorem dX11_isProved_44 : decode cX11_isProved 44 = .ok (.iload_n 2, 1) := by decide +kernel
theorem dX11_isProved_45 : decode cX11_isProved 45 = .ok (.invokestatic 140, 3) := by decide +kernel
theorem dX11_isProved_48 : decode cX11_isProved 48 = .ok (.istore 7, 2) := by decide +kernel
theorem dX11_isProved_50 : decode cX11_isProved 50 = .ok (.iconst 0, 1) := by decide +kernel
theorem dX11_isProved_51 : decode cX11_isProved 51 = .ok (.istore 8, 2) := by decide +kernel
theorem dX11_isProved_53 : decode cX11_isProved 53 = .ok (.iload 8, 2) := by decide +kernel
theorem dX11_isProved_55 : decode cX11_isProved 55 = .ok (.iconst 3, 1) := by decide +kernel
theorem dX11_isProved_56 : decode cX11_isProved 56 = .ok (.if_icmp .ge 62, 3) := by decide +kernel
theorem dX11_isProved_59 : decode cX11_isProved 59 = .ok (.iload 8, 2) := by decide +kernel
theorem dX11_isProved_61 : decode cX11_isProved 61 = .ok (.ifCond .ne 8, 3) := by decide +kernel
theorem dX11_isProved_64 : decode cX11_isProved 64 = .ok (.iload 4, 2) := by decide +kernel
theorem dX11_isProved_66 : decode cX11_isProved 66 = .ok (.goto 16, 3) := by decide +kernel
theorem dX11_isProved_69 : decode cX11_isProved 69 = .ok (.iload 8, 2) := by decide +kernel
theorem dX11_isProved_71 : decode cX11_isProved 71 = .ok (.iconst 1, 1) := by decide +kernel
theorem dX11_isProved_72 : decode cX11_isProved 72 = .ok (.if_icmp .ne 8, 3) := by decide +kernel
theorem dX11_isProved_75 : decode cX11_isProved 75 = .ok (.iload 5, 2) := by decide +kernel
theorem dX11_isProved_77 : decode cX11_isProved 77 = .ok (.goto 5, 3) := by decide +kernel
theorem dX11_isProved_80 : decode cX11_isProved 80 = .ok (.iload 6, 2) := by decide +kernel
theorem dX11_isProved_82 : decode cX11_isProved 82 = .ok (.istore 9, 2) := by decide +kernel
theorem dX11_isProved_84 : decode cX11_isProved 84 = .ok (.iload_n 2, 1) := by decide +kernel
theorem dX11_isProved_85 : decode cX11_isProved 85 = .ok (.iload 8, 2) := by decide +kernel
theorem dX11_isProved_87 : decode cX11_isProved 87 = .ok (.ishr, 1) := by decide +kernel
theorem dX11_isProved_88 : decode cX11_isProved 88 = .ok (.iconst 1, 1) := by decide +kernel
theorem dX11_isProved_89 : decode cX11_isProved 89 = .ok (.iand, 1) := by decide +kernel
theorem dX11_isProved_90 : decode cX11_isProved 90 = .ok (.ifCond .ne 13, 3) := by decide +kernel
theorem dX11_isProved_93 : decode cX11_isProved 93 = .ok (.iload 7, 2) := by decide +kernel
theorem dX11_isProved_95 : decode cX11_isProved 95 = .ok (.iload 9, 2) := by decide +kernel
theorem dX11_isProved_97 : decode cX11_isProved 97 = .ok (.invokestatic 140, 3) := by decide +kernel
theorem dX11_isProved_100 : decode cX11_isProved 100 = .ok (.goto 10, 3) := by decide +kernel
theorem dX11_isProved_103 : decode cX11_isProved 103 = .ok (.iload 9, 2) := by decide +kernel
theorem dX11_isProved_105 : decode cX11_isProved 105 = .ok (.iload 7, 2) := by decide +kernel
theorem dX11_isProved_107 : decode cX11_isProved 107 = .ok (.invokestatic 140, 3) := by decide +kernel
theorem dX11_isProved_110 : decode cX11_isProved 110 = .ok (.istore 7, 2) := by decide +kernel
theorem dX11_isProved_112 : decode cX11_isProved 112 = .ok (.iinc 8 1, 3) := by decide +kernel
theorem dX11_isProved_115 : decode cX11_isProved 115 = .ok (.goto (-62), 3) := by decide +kernel
theorem dX11_isProved_118 : decode cX11_isProved 118 = .ok (.iload 7, 2) := by decide +kernel
theorem dX11_isProved_120 : decode cX11_isProved 120 = .ok (.aload_n 0, 1) := by decide +kernel
theorem dX11_isProved_121 : decode cX11_isProved 121 = .ok (.getfield 56, 3) := by decide +kernel
theorem dX11_isProved_124 : decode cX11_isProved 124 = .ok (.iconst 1, 1) := by decide +kernel
theorem dX11_isProved_125 : decode cX11_isProved 125 = .ok (.iaload, 1) := by decide +kernel
theorem dX11_isProved_126 : decode cX11_isProved 126 = .ok (.if_icmp .ne 7, 3) := by decide +kernel
theorem dX11_isProved_129 : decode cX11_isProved 129 = .ok (.iconst 1, 1) := by decide +kernel
theorem dX11_isProved_130 : decode cX11_isProved 130 = .ok (.goto 4, 3) := by decide +kernel
theorem dX11_isProved_133 : decode cX11_isProved 133 = .ok (.iconst 0, 1) := by decide +kernel
theorem dX11_isProved_134 : decode cX11_isProved 134 = .ok (.ireturn, 1) := by decide +kernel
theorem dX11_count_0 : decode cX11_count 0 = .ok (.iconst 0, 1) := by decide +kernel
theorem dX11_count_1 : decode cX11_count 1 = .ok (.istore_n 1, 1) := by decide +kernel
theorem dX11_count_2 : decode cX11_count 2 = .ok (.iconst 0, 1) := by decide +kernel
theorem dX11_count_3 : decode cX11_count 3 = .ok (.istore_n 2, 1) := by decide +kernel
theorem dX11_count_4 : decode cX11_count 4 = .ok (.iload_n 2, 1) := by decide +kernel
theorem dX11_count_5 : decode cX11_count 5 = .ok (.bipush 6, 2) := by decide +kernel
theorem dX11_count_7 : decode cX11_count 7 = .ok (.if_icmp .ge 17, 3) := by decide +kernel
theorem dX11_count_10 : decode cX11_count 10 = .ok (.iload_n 1, 1) := by decide +kernel
theorem dX11_count_11 : decode cX11_count 11 = .ok (.iload_n 0, 1) := by decide +kernel
theorem dX11_count_12 : decode cX11_count 12 = .ok (.iload_n 2, 1) := by decide +kernel
theorem dX11_count_13 : decode cX11_count 13 = .ok (.ishr, 1) := by decide +kernel
theorem dX11_count_14 : decode cX11_count 14 = .ok (.iconst 1, 1) := by decide +kernel
theorem dX11_count_15 : decode cX11_count 15 = .ok (.iand, 1) := by decide +kernel
theorem dX11_count_16 : decode cX11_count 16 = .ok (.iadd, 1) := by decide +kernel
theorem dX11_count_17 : decode cX11_count 17 = .ok (.istore_n 1, 1) := by decide +kernel
theorem dX11_count_18 : decode cX11_count 18 = .ok (.iinc 2 1, 3) := by decide +kernel
theorem dX11_count_21 : decode cX11_count 21 = .ok (.goto (-17), 3) := by decide +kernel
theorem dX11_count_24 : decode cX11_count 24 = .ok (.iload_n 1, 1) := by decide +kernel
theorem dX11_count_25 : decode cX11_count 25 = .ok (.ireturn, 1) := by decide +kernel
set_option maxRecDepth 20000 in
theorem ggX11_mend_X11_isFile : GoodIn wsX11_mend wsX11_isFile := goodIn_r _ [6, 7, 8, 9, 5, 10, 19, 20, 21, 22, 23, 24, 25, 26, 27, 28, 29, 30, 31, 32, 33, 34, 35, 36, 37, 38, 39, 40, 41, 42, 43, 44, 45, 46] (by decide +kernel) (by decide +kernel)
set_option maxRecDepth 20000 in
theorem gX11_mend_X11_isFile : GoodIn wsX11_mend (wsV RX11 149 RX11 yX11_isFile wsX11_isFile) := goodIn_app (goodIn_of _ (by decide +kernel)) ggX11_mend_X11_isFile
set_option maxRecDepth 20000 in
theorem ggX11_mend_X11_isIn : GoodIn wsX11_mend wsX11_isIn := goodIn_r _ [10] (by decide +kernel) (by decide +kernel)
set_option maxRecDepth 20000 in
theorem gX11_mend_X11_isIn : GoodIn wsX11_mend (va_wsS RX11 81 yX11_isIn wsX11_isIn) := goodIn_app (goodIn_of _ (by decide +kernel)) ggX11_mend_X11_isIn
set_option maxRecDepth 20000 in
theorem ggX11_mend_X11_count : GoodIn wsX11_mend wsX11_count := goodIn_r _ [13] (by decide +kernel) (by decide +kernel)
set_option maxRecDepth 20000 in
theorem gX11_mend_X11_count : GoodIn wsX11_mend (va_wsS RX11 158 yX11_count wsX11_count) := goodIn_app (goodIn_of _ (by decide +kernel)) ggX11_mend_X11_count
set_option maxRecDepth 20000 in
theorem ggX11_mend_X11_holds : GoodIn wsX11_mend wsX11_holds := goodIn_r _ [17, 18, 19, 20, 21, 22, 23, 24, 25, 26, 27, 28, 29, 30, 31, 32, 33, 34, 35, 36, 37, 38, 39, 40, 41, 42, 43, 44, 45, 46] (by decide +kernel) (by decide +kernel)
set_option maxRecDepth 20000 in
theorem gX11_mend_X11_holds : GoodIn wsX11_mend (wsV RX11 124 RX11 yX11_holds wsX11_holds) := goodIn_app (goodIn_of _ (by decide +kernel)) ggX11_mend_X11_holds
theorem dX11_mend_0 : decode cX11_mend 0 = .ok (.aload_n 0, 1) := by decide +kernel
theorem dX11_mend_1 : decode cX11_mend 1 = .ok (.aload_n 0, 1) := by decide +kernel
theorem dX11_mend_2 : decode cX11_mend 2 = .ok (.iload_n 1, 1) := by decide +kernel
theorem dX11_mend_3 : decode cX11_mend 3 = .ok (.invokevirtual 149, 3) := by decide +kernel
theorem dX11_mend_6 : decode cX11_mend 6 = .ok (.ifCond .ne 7, 3) := by decide +kernel
theorem dX11_mend_9 : decode cX11_mend 9 = .ok (.iconst 1, 1) := by decide +kernel
theorem dX11_mend_10 : decode cX11_mend 10 = .ok (.goto 26, 3) := by decide +kernel
theorem dX11_mend_13 : decode cX11_mend 13 = .ok (.iload_n 2, 1) := by decide +kernel
theorem dX11_mend_14 : decode cX11_mend 14 = .ok (.iconst 0, 1) := by decide +kernel
theorem dX11_mend_15 : decode cX11_mend 15 = .ok (.bipush 63, 2) := by decide +kernel
theorem dX11_mend_17 : decode cX11_mend 17 = .ok (.invokestatic 81, 3) := by decide +kernel
theorem dX11_mend_20 : decode cX11_mend 20 = .ok (.ifCond .eq 15, 3) := by decide +kernel
theorem dX11_mend_23 : decode cX11_mend 23 = .ok (.iload_n 2, 1) := by decide +kernel
theorem dX11_mend_24 : decode cX11_mend 24 = .ok (.invokestatic 158, 3) := by decide +kernel
theorem dX11_mend_27 : decode cX11_mend 27 = .ok (.iconst 3, 1) := by decide +kernel
theorem dX11_mend_28 : decode cX11_mend 28 = .ok (.if_icmp .le 7, 3) := by decide +kernel
theorem dX11_mend_31 : decode cX11_mend 31 = .ok (.iconst 0, 1) := by decide +kernel
theorem dX11_mend_32 : decode cX11_mend 32 = .ok (.goto 4, 3) := by decide +kernel
theorem dX11_mend_35 : decode cX11_mend 35 = .ok (.iconst 2, 1) := by decide +kernel
theorem dX11_mend_36 : decode cX11_mend 36 = .ok (.invokevirtual 124, 3) := by decide +kernel
theorem dX11_mend_39 : decode cX11_mend 39 = .ok (.ifCond .ne 5, 3) := by decide +kernel
theorem dX11_mend_42 : decode cX11_mend 42 = .ok (.iconst 0, 1) := by decide +kernel
theorem dX11_mend_43 : decode cX11_mend 43 = .ok (.ireturn, 1) := by decide +kernel
theorem dX11_mend_44 : decode cX11_mend 44 = .ok (.bipush 6, 2) := by decide +kernel
theorem dX11_mend_46 : decode cX11_mend 46 = .ok (.iload_n 1, 1) := by decide +kernel
theorem dX11_mend_47 : decode cX11_mend 47 = .ok (.imul, 1) := by decide +kernel
theorem dX11_mend_48 : decode cX11_mend 48 = .ok (.istore_n 3, 1) := by decide +kernel
theorem dX11_mend_49 : decode cX11_mend 49 = .ok (.aload_n 0, 1) := by decide +kernel
theorem dX11_mend_50 : decode cX11_mend 50 = .ok (.getfield 44, 3) := by decide +kernel
theorem dX11_mend_53 : decode cX11_mend 53 = .ok (.iload_n 3, 1) := by decide +kernel
theorem dX11_mend_54 : decode cX11_mend 54 = .ok (.iaload, 1) := by decide +kernel
theorem dX11_mend_55 : decode cX11_mend 55 = .ok (.aload_n 0, 1) := by decide +kernel
theorem dX11_mend_56 : decode cX11_mend 56 = .ok (.getfield 44, 3) := by decide +kernel
theorem dX11_mend_59 : decode cX11_mend 59 = .ok (.iload_n 3, 1) := by decide +kernel
theorem dX11_mend_60 : decode cX11_mend 60 = .ok (.iconst 1, 1) := by decide +kernel
theorem dX11_mend_61 : decode cX11_mend 61 = .ok (.iadd, 1) := by decide +kernel
theorem dX11_mend_62 : decode cX11_mend 62 = .ok (.iaload, 1) := by decide +kernel
theorem dX11_mend_63 : decode cX11_mend 63 = .ok (.bipush 8, 2) := by decide +kernel
theorem dX11_mend_65 : decode cX11_mend 65 = .ok (.ishl, 1) := by decide +kernel
theorem dX11_mend_66 : decode cX11_mend 66 = .ok (.ior, 1) := by decide +kernel
theorem dX11_mend_67 : decode cX11_mend 67 = .ok (.aload_n 0, 1) := by decide +kernel
theorem dX11_mend_68 : decode cX11_mend 68 = .ok (.getfield 44, 3) := by decide +kernel
theorem dX11_mend_71 : decode cX11_mend 71 = .ok (.iload_n 3, 1) := by decide +kernel
theorem dX11_mend_72 : decode cX11_mend 72 = .ok (.iconst 2, 1) := by decide +kernel
theorem dX11_mend_73 : decode cX11_mend 73 = .ok (.iadd, 1) := by decide +kernel
theorem dX11_mend_74 : decode cX11_mend 74 = .ok (.iaload, 1) := by decide +kernel
theorem dX11_mend_75 : decode cX11_mend 75 = .ok (.bipush 16, 2) := by decide +kernel
theorem dX11_mend_77 : decode cX11_mend 77 = .ok (.ishl, 1) := by decide +kernel
theorem dX11_mend_78 : decode cX11_mend 78 = .ok (.ior, 1) := by decide +kernel
theorem dX11_mend_79 : decode cX11_mend 79 = .ok (.aload_n 0, 1) := by decide +kernel
theorem dX11_mend_80 : decode cX11_mend 80 = .ok (.getfield 44, 3) := by decide +kernel
theorem dX11_mend_83 : decode cX11_mend 83 = .ok (.iload_n 3, 1) := by decide +kernel
theorem dX11_mend_84 : decode cX11_mend 84 = .ok (.iconst 3, 1) := by decide +kernel
theorem dX11_mend_85 : decode cX11_mend 85 = .ok (.iadd, 1) := by decide +kernel
theorem dX11_mend_86 : decode cX11_mend 86 = .ok (.iaload, 1) := by decide +kernel
theorem dX11_mend_87 : decode cX11_mend 87 = .ok (.bipush 24, 2) := by decide +kernel
theorem dX11_mend_89 : decode cX11_mend 89 = .ok (.ishl, 1) := by decide +kernel
theorem dX11_mend_90 : decode cX11_mend 90 = .ok (.ior, 1) := by decide +kernel
theorem dX11_mend_91 : decode cX11_mend 91 = .ok (.ireturn, 1) := by decide +kernel
theorem dX11_isThere_0 : decode cX11_isThere 0 = .ok (.aload_n 0, 1) := by decide +kernel
theorem dX11_isThere_1 : decode cX11_isThere 1 = .ok (.getfield 47, 3) := by decide +kernel
theorem dX11_isThere_4 : decode cX11_isThere 4 = .ok (.iload_n 1, 1) := by decide +kernel
theorem dX11_isThere_5 : decode cX11_isThere 5 = .ok (.iaload, 1) := by decide +kernel
theorem dX11_isThere_6 : decode cX11_isThere 6 = .ok (.iconst (-1), 1) := by decide +kernel
theorem dX11_isThere_7 : decode cX11_isThere 7 = .ok (.if_icmp .eq 30, 3) := by decide +kernel
theorem dX11_isThere_10 : decode cX11_isThere 10 = .ok (.aload_n 0, 1) := by decide +kernel
theorem dX11_isThere_11 : decode cX11_isThere 11 = .ok (.getfield 50, 3) := by decide +kernel
theorem dX11_isThere_14 : decode cX11_isThere 14 = .ok (.iload_n 1, 1) := by decide +kernel
theorem dX11_isThere_15 : decode cX11_isThere 15 = .ok (.baload, 1) := by decide +kernel
theorem dX11_isThere_16 : decode cX11_isThere 16 = .ok (.ifCond .eq 21, 3) := by decide +kernel
theorem dX11_isThere_19 : decode cX11_isThere 19 = .ok (.aload_n 0, 1) := by decide +kernel
theorem dX11_isThere_20 : decode cX11_isThere 20 = .ok (.getfield 16, 3) := by decide +kernel
theorem dX11_isThere_23 : decode cX11_isThere 23 = .ok (.aload_n 0, 1) := by decide +kernel
theorem dX11_isThere_24 : decode cX11_isThere 24 = .ok (.getfield 47, 3) := by decide +kernel
theorem dX11_isThere_27 : decode cX11_isThere 27 = .ok (.iload_n 1, 1) := by decide +kernel
theorem dX11_isThere_28 : decode cX11_isThere 28 = .ok (.iaload, 1) := by decide +kernel
theorem dX11_isThere_29 : decode cX11_isThere 29 = .ok (.baload, 1) := by decide +kernel
theorem dX11_isThere_30 : decode cX11_isThere 30 = .ok (.ifCond .eq 7, 3) := by decide +kernel
theorem dX11_isThere_33 : decode cX11_isThere 33 = .ok (.iconst 1, 1) := by decide +kernel
theorem dX11_isThere_34 : decode cX11_isThere 34 = .ok (.goto 4, 3) := by decide +kernel
theorem dX11_isThere_37 : decode cX11_isThere 37 = .ok (.iconst 0, 1) := by decide +kernel
theorem dX11_isThere_38 : decode cX11_isThere 38 = .ok (.ireturn, 1) := by decide +kernel
set_option maxRecDepth 20000 in
theorem ggX11_fetch_X11_isPeer : GoodIn wsX11_fetch wsX11_isPeer := goodIn_r _ [9, 10, 11, 12, 8, 13, 29, 30, 31, 32, 33, 34, 35, 36, 37, 38, 39, 40, 41, 42, 43, 44, 45, 46, 47, 48, 49, 50, 51, 52, 53, 54, 55, 56] (by decide +kernel) (by decide +kernel)
set_option maxRecDepth 20000 in
theorem gX11_fetch_X11_isPeer : GoodIn wsX11_fetch (wsV RX11 117 RX11 yX11_isPeer wsX11_isPeer) := goodIn_app (goodIn_of _ (by decide +kernel)) ggX11_fetch_X11_isPeer
set_option maxRecDepth 20000 in
theorem ggX11_fetch_X11_isFile : GoodIn wsX11_fetch wsX11_isFile := goodIn_r _ [17, 18, 11, 12, 8, 13, 29, 30, 31, 32, 33, 34, 35, 36, 37, 38, 39, 40, 41, 42, 43, 44, 45, 46, 47, 48, 49, 50, 51, 52, 53, 54, 55, 56] (by decide +kernel) (by decide +kernel)
set_option maxRecDepth 20000 in
theorem gX11_fetch_X11_isFile : GoodIn wsX11_fetch (wsV RX11 149 RX11 yX11_isFile wsX11_isFile) := goodIn_app (goodIn_of _ (by decide +kernel)) ggX11_fetch_X11_isFile
set_option maxRecDepth 20000 in
theorem ggX11_fetch_X11_holds : GoodIn wsX11_fetch wsX11_holds := goodIn_r _ [22, 23, 29, 30, 31, 32, 33, 34, 35, 36, 37, 38, 39, 40, 41, 42, 43, 44, 45, 46, 47, 48, 49, 50, 51, 52, 53, 54, 55, 56] (by decide +kernel) (by decide +kernel)
set_option maxRecDepth 20000 in
theorem gX11_fetch_X11_holds : GoodIn wsX11_fetch (wsV RX11 124 RX11 yX11_holds wsX11_holds) := goodIn_app (goodIn_of _ (by decide +kernel)) ggX11_fetch_X11_holds
set_option maxRecDepth 20000 in
theorem ggX11_fetch_X11_isThere : GoodIn wsX11_fetch wsX11_isThere := goodIn_r _ [27, 4, 28, 1, 29, 30, 31, 32, 33, 34, 35, 36, 37, 38, 39, 40, 41, 42, 43, 44, 45, 46, 47, 48, 49, 50, 51, 52, 53, 54, 55, 56] (by decide +kernel) (by decide +kernel)
set_option maxRecDepth 20000 in
theorem gX11_fetch_X11_isThere : GoodIn wsX11_fetch (wsV RX11 161 RX11 yX11_isThere wsX11_isThere) := goodIn_app (goodIn_of _ (by decide +kernel)) ggX11_fetch_X11_isThere
theorem dX11_fetch_0 : decode cX11_fetch 0 = .ok (.aload_n 0, 1) := by decide +kernel
theorem dX11_fetch_1 : decode cX11_fetch 1 = .ok (.iload_n 1, 1) := by decide +kernel
theorem dX11_fetch_2 : decode cX11_fetch 2 = .ok (.invokevirtual 117, 3) := by decide +kernel
theorem dX11_fetch_5 : decode cX11_fetch 5 = .ok (.ifCond .eq 15, 3) := by decide +kernel
theorem dX11_fetch_8 : decode cX11_fetch 8 = .ok (.aload_n 0, 1) := by decide +kernel
theorem dX11_fetch_9 : decode cX11_fetch 9 = .ok (.iload_n 2, 1) := by decide +kernel
theorem dX11_fetch_10 : decode cX11_fetch 10 = .ok (.invokevirtual 149, 3) := by decide +kernel
theorem dX11_fetch_13 : decode cX11_fetch 13 = .ok (.ifCond .eq 7, 3) := by decide +kernel
theorem dX11_fetch_16 : decode cX11_fetch 16 = .ok (.iconst 1, 1) := by decide +kernel
theorem dX11_fetch_17 : decode cX11_fetch 17 = .ok (.goto 4, 3) := by decide +kernel
theorem dX11_fetch_20 : decode cX11_fetch 20 = .ok (.iconst 0, 1) := by decide +kernel
theorem dX11_fetch_21 : decode cX11_fetch 21 = .ok (.istore_n 3, 1) := by decide +kernel
theorem dX11_fetch_22 : decode cX11_fetch 22 = .ok (.aload_n 0, 1) := by decide +kernel
theorem dX11_fetch_23 : decode cX11_fetch 23 = .ok (.iload_n 3, 1) := by decide +kernel
theorem dX11_fetch_24 : decode cX11_fetch 24 = .ok (.ifCond .ne 7, 3) := by decide +kernel
theorem dX11_fetch_27 : decode cX11_fetch 27 = .ok (.iconst 1, 1) := by decide +kernel
theorem dX11_fetch_28 : decode cX11_fetch 28 = .ok (.goto 17, 3) := by decide +kernel
theorem dX11_fetch_31 : decode cX11_fetch 31 = .ok (.aload_n 0, 1) := by decide +kernel
theorem dX11_fetch_32 : decode cX11_fetch 32 = .ok (.getfield 16, 3) := by decide +kernel
theorem dX11_fetch_35 : decode cX11_fetch 35 = .ok (.iload_n 1, 1) := by decide +kernel
theorem dX11_fetch_36 : decode cX11_fetch 36 = .ok (.baload, 1) := by decide +kernel
theorem dX11_fetch_37 : decode cX11_fetch 37 = .ok (.ifCond .eq 7, 3) := by decide +kernel
theorem dX11_fetch_40 : decode cX11_fetch 40 = .ok (.iconst 0, 1) := by decide +kernel
theorem dX11_fetch_41 : decode cX11_fetch 41 = .ok (.goto 4, 3) := by decide +kernel
theorem dX11_fetch_44 : decode cX11_fetch 44 = .ok (.iconst 2, 1) := by decide +kernel
theorem dX11_fetch_45 : decode cX11_fetch 45 = .ok (.invokevirtual 124, 3) := by decide +kernel
theorem dX11_fetch_48 : decode cX11_fetch 48 = .ok (.ifCond .ne 5, 3) := by decide +kernel
theorem dX11_fetch_51 : decode cX11_fetch 51 = .ok (.iconst 0, 1) := by decide +kernel
theorem dX11_fetch_52 : decode cX11_fetch 52 = .ok (.ireturn, 1) := by decide +kernel
theorem dX11_fetch_53 : decode cX11_fetch 53 = .ok (.iconst 0, 1) := by decide +kernel
theorem dX11_fetch_54 : decode cX11_fetch 54 = .ok (.istore 4, 2) := by decide +kernel
theorem dX11_fetch_56 : decode cX11_fetch 56 = .ok (.bipush 6, 2) := by decide +kernel
theorem dX11_fetch_58 : decode cX11_fetch 58 = .ok (.iload_n 2, 1) := by decide +kernel
theorem dX11_fetch_59 : decode cX11_fetch 59 = .ok (.imul, 1) := by decide +kernel
theorem dX11_fetch_60 : decode cX11_fetch 60 = .ok (.istore 5, 2) := by decide +kernel
theorem dX11_fetch_62 : decode cX11_fetch 62 = .ok (.iload 5, 2) := by decide +kernel
theorem dX11_fetch_64 : decode cX11_fetch 64 = .ok (.bipush 6, 2) := by decide +kernel
theorem dX11_fetch_66 : decode cX11_fetch 66 = .ok (.iload_n 2, 1) := by decide +kernel
theorem dX11_fetch_67 : decode cX11_fetch 67 = .ok (.imul, 1) := by decide +kernel
theorem dX11_fetch_68 : decode cX11_fetch 68 = .ok (.bipush 6, 2) := by decide +kernel
theorem dX11_fetch_70 : decode cX11_fetch 70 = .ok (.iadd, 1) := by decide +kernel
theorem dX11_fetch_71 : decode cX11_fetch 71 = .ok (.if_icmp .ge 28, 3) := by decide +kernel
theorem dX11_fetch_74 : decode cX11_fetch 74 = .ok (.iload 4, 2) := by decide +kernel
theorem dX11_fetch_76 : decode cX11_fetch 76 = .ok (.aload_n 0, 1) := by decide +kernel
theorem dX11_fetch_77 : decode cX11_fetch 77 = .ok (.iload 5, 2) := by decide +kernel
theorem dX11_fetch_79 : decode cX11_fetch 79 = .ok (.invokevirtual 161, 3) := by decide +kernel
theorem dX11_fetch_82 : decode cX11_fetch 82 = .ok (.ifCond .eq 7, 3) := by decide +kernel
theorem dX11_fetch_85 : decode cX11_fetch 85 = .ok (.iconst 1, 1) := by decide +kernel
theorem dX11_fetch_86 : decode cX11_fetch 86 = .ok (.goto 4, 3) := by decide +kernel
theorem dX11_fetch_89 : decode cX11_fetch 89 = .ok (.iconst 0, 1) := by decide +kernel
theorem dX11_fetch_90 : decode cX11_fetch 90 = .ok (.iadd, 1) := by decide +kernel
theorem dX11_fetch_91 : decode cX11_fetch 91 = .ok (.istore 4, 2) := by decide +kernel
theorem dX11_fetch_93 : decode cX11_fetch 93 = .ok (.iinc 5 1, 3) := by decide +kernel
theorem dX11_fetch_96 : decode cX11_fetch 96 = .ok (.goto (-34), 3) := by decide +kernel
theorem dX11_fetch_99 : decode cX11_fetch 99 = .ok (.aload_n 0, 1) := by decide +kernel
theorem dX11_fetch_100 : decode cX11_fetch 100 = .ok (.getfield 41, 3) := by decide +kernel
theorem dX11_fetch_103 : decode cX11_fetch 103 = .ok (.iload_n 2, 1) := by decide +kernel
theorem dX11_fetch_104 : decode cX11_fetch 104 = .ok (.iaload, 1) := by decide +kernel
theorem dX11_fetch_105 : decode cX11_fetch 105 = .ok (.iload_n 1, 1) := by decide +kernel
theorem dX11_fetch_106 : decode cX11_fetch 106 = .ok (.if_icmp .eq 9, 3) := by decide +kernel
theorem dX11_fetch_109 : decode cX11_fetch 109 = .ok (.iload 4, 2) := by decide +kernel
theorem dX11_fetch_111 : decode cX11_fetch 111 = .ok (.iconst 4, 1) := by decide +kernel
theorem dX11_fetch_112 : decode cX11_fetch 112 = .ok (.if_icmp .ge 5, 3) := by decide +kernel
theorem dX11_fetch_115 : decode cX11_fetch 115 = .ok (.iconst 0, 1) := by decide +kernel
theorem dX11_fetch_116 : decode cX11_fetch 116 = .ok (.ireturn, 1) := by decide +kernel
theorem dX11_fetch_117 : decode cX11_fetch 117 = .ok (.iconst 0, 1) := by decide +kernel
theorem dX11_fetch_118 : decode cX11_fetch 118 = .ok (.istore 4, 2) := by decide +kernel
theorem dX11_fetch_120 : decode cX11_fetch 120 = .ok (.bipush 6, 2) := by decide +kernel
theorem dX11_fetch_122 : decode cX11_fetch 122 = .ok (.iload_n 2, 1) := by decide +kernel
theorem dX11_fetch_123 : decode cX11_fetch 123 = .ok (.imul, 1) := by decide +kernel
theorem dX11_fetch_124 : decode cX11_fetch 124 = .ok (.istore 5, 2) := by decide +kernel
theorem dX11_fetch_126 : decode cX11_fetch 126 = .ok (.iload 5, 2) := by decide +kernel
theorem dX11_fetch_128 : decode cX11_fetch 128 = .ok (.bipush 6, 2) := by decide +kernel
theorem dX11_fetch_130 : decode cX11_fetch 130 = .ok (.iload_n 2, 1) := by decide +kernel
theorem dX11_fetch_131 : decode cX11_fetch 131 = .ok (.imul, 1) := by decide +kernel
theorem dX11_fetch_132 : decode cX11_fetch 132 = .ok (.bipush 6, 2) := by decide +kernel
theorem dX11_fetch_134 : decode cX11_fetch 134 = .ok (.iadd, 1) := by decide +kernel
theorem dX11_fetch_135 : decode cX11_fetch 135 = .ok (.if_icmp .ge 63, 3) := by decide +kernel
theorem dX11_fetch_138 : decode cX11_fetch 138 = .ok (.iload 4, 2) := by decide +kernel
theorem dX11_fetch_140 : decode cX11_fetch 140 = .ok (.iconst 4, 1) := by decide +kernel
theorem dX11_fetch_141 : decode cX11_fetch 141 = .ok (.if_icmp .ge 57, 3) := by decide +kernel
theorem dX11_fetch_144 : decode cX11_fetch 144 = .ok (.aload_n 0, 1) := by decide +kernel
theorem dX11_fetch_145 : decode cX11_fetch 145 = .ok (.iload 5, 2) := by decide +kernel
theorem dX11_fetch_147 : decode cX11_fetch 147 = .ok (.invokevirtual 161, 3) := by decide +kernel
theorem dX11_fetch_150 : decode cX11_fetch 150 = .ok (.ifCond .eq 42, 3) := by decide +kernel
theorem dX11_fetch_153 : decode cX11_fetch 153 = .ok (.aload_n 0, 1) := by decide +kernel
theorem dX11_fetch_154 : decode cX11_fetch 154 = .ok (.getfield 71, 3) := by decide +kernel
theorem dX11_fetch_157 : decode cX11_fetch 157 = .ok (.bipush 16, 2) := by decide +kernel
theorem dX11_fetch_159 : decode cX11_fetch 159 = .ok (.iload_n 1, 1) := by decide +kernel
theorem dX11_fetch_160 : decode cX11_fetch 160 = .ok (.imul, 1) := by decide +kernel
theorem dX11_fetch_161 : decode cX11_fetch 161 = .ok (.aload_n 0, 1) := by decide +kernel
theorem dX11_fetch_162 : decode cX11_fetch 162 = .ok (.getfield 47, 3) := by decide +kernel
theorem dX11_fetch_165 : decode cX11_fetch 165 = .ok (.iload 5, 2) := by decide +kernel
theorem dX11_fetch_167 : decode cX11_fetch 167 = .ok (.iaload, 1) := by decide +kernel
theorem dX11_fetch_168 : decode cX11_fetch 168 = .ok (.iadd, 1) := by decide +kernel
theorem dX11_fetch_169 : decode cX11_fetch 169 = .ok (.dup2, 1) := by decide +kernel
theorem dX11_fetch_170 : decode cX11_fetch 170 = .ok (.iaload, 1) := by decide +kernel
theorem dX11_fetch_171 : decode cX11_fetch 171 = .ok (.aload_n 0, 1) := by decide +kernel
theorem dX11_fetch_172 : decode cX11_fetch 172 = .ok (.getfield 47, 3) := by decide +kernel
theorem dX11_fetch_175 : decode cX11_fetch 175 = .ok (.iload 5, 2) := by decide +kernel
theorem dX11_fetch_177 : decode cX11_fetch 177 = .ok (.iaload, 1) := by decide +kernel
theorem dX11_fetch_178 : decode cX11_fetch 178 = .ok (.iload_n 1, 1) := by decide +kernel
theorem dX11_fetch_179 : decode cX11_fetch 179 = .ok (.if_icmp .ne 7, 3) := by decide +kernel
theorem dX11_fetch_182 : decode cX11_fetch 182 = .ok (.iconst 0, 1) := by decide +kernel
theorem dX11_fetch_183 : decode cX11_fetch 183 = .ok (.goto 4, 3) := by decide +kernel
theorem dX11_fetch_186 : decode cX11_fetch 186 = .ok (.iconst 1, 1) := by decide +kernel
theorem dX11_fetch_187 : decode cX11_fetch 187 = .ok (.iadd, 1) := by decide +kernel
theorem dX11_fetch_188 : decode cX11_fetch 188 = .ok (.iastore, 1) := by decide +kernel
theorem dX11_fetch_189 : decode cX11_fetch 189 = .ok (.iinc 4 1, 3) := by decide +kernel
theorem dX11_fetch_192 : decode cX11_fetch 192 = .ok (.iinc 5 1, 3) := by decide +kernel
theorem dX11_fetch_195 : decode cX11_fetch 195 = .ok (.goto (-69), 3) := by decide +kernel
theorem dX11_fetch_198 : decode cX11_fetch 198 = .ok (.iload 4, 2) := by decide +kernel
theorem dX11_fetch_200 : decode cX11_fetch 200 = .ok (.ireturn, 1) := by decide +kernel
set_option maxRecDepth 20000 in
theorem ggX11_challenges_X11_isThere : GoodIn wsX11_challenges wsX11_isThere := goodIn_r _ [11, 2, 6, 3, 12, 13, 14, 15, 16, 17, 18, 19, 20, 21, 22, 23, 24, 25, 26, 27, 28, 29, 30, 31, 32, 33, 34, 35, 36, 37, 38, 39] (by decide +kernel) (by decide +kernel)
set_option maxRecDepth 20000 in
theorem gX11_challenges_X11_isThere : GoodIn wsX11_challenges (wsV RX11 161 RX11 yX11_isThere wsX11_isThere) := goodIn_app (goodIn_of _ (by decide +kernel)) ggX11_challenges_X11_isThere
theorem dX11_challenges_0 : decode cX11_challenges 0 = .ok (.aload_n 0, 1) := by decide +kernel
theorem dX11_challenges_1 : decode cX11_challenges 1 = .ok (.getfield 41, 3) := by decide +kernel
theorem dX11_challenges_4 : decode cX11_challenges 4 = .ok (.iload_n 1, 1) := by decide +kernel
theorem dX11_challenges_5 : decode cX11_challenges 5 = .ok (.bipush 6, 2) := by decide +kernel
theorem dX11_challenges_7 : decode cX11_challenges 7 = .ok (.idiv, 1) := by decide +kernel
theorem dX11_challenges_8 : decode cX11_challenges 8 = .ok (.iaload, 1) := by decide +kernel
theorem dX11_challenges_9 : decode cX11_challenges 9 = .ok (.istore_n 2, 1) := by decide +kernel
theorem dX11_challenges_10 : decode cX11_challenges 10 = .ok (.aload_n 0, 1) := by decide +kernel
theorem dX11_challenges_11 : decode cX11_challenges 11 = .ok (.getfield 47, 3) := by decide +kernel
theorem dX11_challenges_14 : decode cX11_challenges 14 = .ok (.iload_n 1, 1) := by decide +kernel
theorem dX11_challenges_15 : decode cX11_challenges 15 = .ok (.iaload, 1) := by decide +kernel
theorem dX11_challenges_16 : decode cX11_challenges 16 = .ok (.iconst (-1), 1) := by decide +kernel
theorem dX11_challenges_17 : decode cX11_challenges 17 = .ok (.if_icmp .eq 12, 3) := by decide +kernel
theorem dX11_challenges_20 : decode cX11_challenges 20 = .ok (.aload_n 0, 1) := by decide +kernel
theorem dX11_challenges_21 : decode cX11_challenges 21 = .ok (.getfield 16, 3) := by decide +kernel
theorem dX11_challenges_24 : decode cX11_challenges 24 = .ok (.iload_n 2, 1) := by decide +kernel
theorem dX11_challenges_25 : decode cX11_challenges 25 = .ok (.baload, 1) := by decide +kernel
theorem dX11_challenges_26 : decode cX11_challenges 26 = .ok (.ifCond .ne 4, 3) := by decide +kernel
theorem dX11_challenges_29 : decode cX11_challenges 29 = .ok (.return_, 1) := by decide +kernel
theorem dX11_challenges_30 : decode cX11_challenges 30 = .ok (.aload_n 0, 1) := by decide +kernel
theorem dX11_challenges_31 : decode cX11_challenges 31 = .ok (.iload_n 1, 1) := by decide +kernel
theorem dX11_challenges_32 : decode cX11_challenges 32 = .ok (.invokevirtual 161, 3) := by decide +kernel
theorem dX11_challenges_35 : decode cX11_challenges 35 = .ok (.ifCond .eq 31, 3) := by decide +kernel
theorem dX11_challenges_38 : decode cX11_challenges 38 = .ok (.aload_n 0, 1) := by decide +kernel
theorem dX11_challenges_39 : decode cX11_challenges 39 = .ok (.getfield 71, 3) := by decide +kernel
theorem dX11_challenges_42 : decode cX11_challenges 42 = .ok (.bipush 16, 2) := by decide +kernel
theorem dX11_challenges_44 : decode cX11_challenges 44 = .ok (.iload_n 2, 1) := by decide +kernel
theorem dX11_challenges_45 : decode cX11_challenges 45 = .ok (.imul, 1) := by decide +kernel
theorem dX11_challenges_46 : decode cX11_challenges 46 = .ok (.aload_n 0, 1) := by decide +kernel
theorem dX11_challenges_47 : decode cX11_challenges 47 = .ok (.getfield 47, 3) := by decide +kernel
theorem dX11_challenges_50 : decode cX11_challenges 50 = .ok (.iload_n 1, 1) := by decide +kernel
theorem dX11_challenges_51 : decode cX11_challenges 51 = .ok (.iaload, 1) := by decide +kernel
theorem dX11_challenges_52 : decode cX11_challenges 52 = .ok (.iadd, 1) := by decide +kernel
theorem dX11_challenges_53 : decode cX11_challenges 53 = .ok (.dup2, 1) := by decide +kernel
theorem dX11_challenges_54 : decode cX11_challenges 54 = .ok (.iaload, 1) := by decide +kernel
theorem dX11_challenges_55 : decode cX11_challenges 55 = .ok (.iconst 3, 1) := by decide +kernel
theorem dX11_challenges_56 : decode cX11_challenges 56 = .ok (.iadd, 1) := by decide +kernel
theorem dX11_challenges_57 : decode cX11_challenges 57 = .ok (.iastore, 1) := by decide +kernel
theorem dX11_challenges_58 : decode cX11_challenges 58 = .ok (.aload_n 0, 1) := by decide +kernel
theorem dX11_challenges_59 : decode cX11_challenges 59 = .ok (.getfield 53, 3) := by decide +kernel
theorem dX11_challenges_62 : decode cX11_challenges 62 = .ok (.iload_n 1, 1) := by decide +kernel
theorem dX11_challenges_63 : decode cX11_challenges 63 = .ok (.iconst 0, 1) := by decide +kernel
theorem dX11_challenges_64 : decode cX11_challenges 64 = .ok (.iastore, 1) := by decide +kernel
theorem dX11_challenges_65 : decode cX11_challenges 65 = .ok (.return_, 1) := by decide +kernel
theorem dX11_challenges_66 : decode cX11_challenges 66 = .ok (.aload_n 0, 1) := by decide +kernel
theorem dX11_challenges_67 : decode cX11_challenges 67 = .ok (.getfield 53, 3) := by decide +kernel
theorem dX11_challenges_70 : decode cX11_challenges 70 = .ok (.iload_n 1, 1) := by decide +kernel
theorem dX11_challenges_71 : decode cX11_challenges 71 = .ok (.dup2, 1) := by decide +kernel
theorem dX11_challenges_72 : decode cX11_challenges 72 = .ok (.iaload, 1) := by decide +kernel
theorem dX11_challenges_73 : decode cX11_challenges 73 = .ok (.iconst 1, 1) := by decide +kernel
theorem dX11_challenges_74 : decode cX11_challenges 74 = .ok (.iadd, 1) := by decide +kernel
theorem dX11_challenges_75 : decode cX11_challenges 75 = .ok (.iastore, 1) := by decide +kernel
theorem dX11_challenges_76 : decode cX11_challenges 76 = .ok (.aload_n 0, 1) := by decide +kernel
theorem dX11_challenges_77 : decode cX11_challenges 77 = .ok (.getfield 53, 3) := by decide +kernel
theorem dX11_challenges_80 : decode cX11_challenges 80 = .ok (.iload_n 1, 1) := by decide +kernel
theorem dX11_challenges_81 : decode cX11_challenges 81 = .ok (.iaload, 1) := by decide +kernel
theorem dX11_challenges_82 : decode cX11_challenges 82 = .ok (.iconst 3, 1) := by decide +kernel
theorem dX11_challenges_83 : decode cX11_challenges 83 = .ok (.if_icmp .ne 45, 3) := by decide +kernel
theorem dX11_challenges_86 : decode cX11_challenges 86 = .ok (.aload_n 0, 1) := by decide +kernel
theorem dX11_challenges_87 : decode cX11_challenges 87 = .ok (.getfield 71, 3) := by decide +kernel
theorem dX11_challenges_90 : decode cX11_challenges 90 = .ok (.bipush 16, 2) := by decide +kernel
theorem dX11_challenges_92 : decode cX11_challenges 92 = .ok (.aload_n 0, 1) := by decide +kernel
theorem dX11_challenges_93 : decode cX11_challenges 93 = .ok (.getfield 47, 3) := by decide +kernel
theorem dX11_challenges_96 : decode cX11_challenges 96 = .ok (.iload_n 1, 1) := by decide +kernel
theorem dX11_challenges_97 : decode cX11_challenges 97 = .ok (.iaload, 1) := by decide +kernel
theorem dX11_challenges_98 : decode cX11_challenges 98 = .ok (.imul, 1) := by decide +kernel
theorem dX11_challenges_99 : decode cX11_challenges 99 = .ok (.iload_n 2, 1) := by decide +kernel
theorem dX11_challenges_100 : decode cX11_challenges 100 = .ok (.iadd, 1) := by decide +kernel
theorem dX11_challenges_101 : decode cX11_challenges 101 = .ok (.dup2, 1) := by decide +kernel
theorem dX11_challenges_102 : decode cX11_challenges 102 = .ok (.iaload, 1) := by decide +kernel
theorem dX11_challenges_103 : decode cX11_challenges 103 = .ok (.bipush 10, 2) := by decide +kernel
theorem dX11_challenges_105 : decode cX11_challenges 105 = .ok (.iadd, 1) := by decide +kernel
theorem dX11_challenges_106 : decode cX11_challenges 106 = .ok (.iastore, 1) := by decide +kernel
theorem dX11_challenges_107 : decode cX11_challenges 107 = .ok (.aload_n 0, 1) := by decide +kernel
theorem dX11_challenges_108 : decode cX11_challenges 108 = .ok (.getfield 47, 3) := by decide +kernel
theorem dX11_challenges_111 : decode cX11_challenges 111 = .ok (.iload_n 1, 1) := by decide +kernel
theorem dX11_challenges_112 : decode cX11_challenges 112 = .ok (.iconst (-1), 1) := by decide +kernel
theorem dX11_challenges_113 : decode cX11_challenges 113 = .ok (.iastore, 1) := by decide +kernel
theorem dX11_challenges_114 : decode cX11_challenges 114 = .ok (.aload_n 0, 1) := by decide +kernel
theorem dX11_challenges_115 : decode cX11_challenges 115 = .ok (.getfield 50, 3) := by decide +kernel
theorem dX11_challenges_118 : decode cX11_challenges 118 = .ok (.iload_n 1, 1) := by decide +kernel
theorem dX11_challenges_119 : decode cX11_challenges 119 = .ok (.iconst 0, 1) := by decide +kernel
theorem dX11_challenges_120 : decode cX11_challenges 120 = .ok (.bastore, 1) := by decide +kernel
theorem dX11_challenges_121 : decode cX11_challenges 121 = .ok (.aload_n 0, 1) := by decide +kernel
theorem dX11_challenges_122 : decode cX11_challenges 122 = .ok (.getfield 53, 3) := by decide +kernel
theorem dX11_challenges_125 : decode cX11_challenges 125 = .ok (.iload_n 1, 1) := by decide +kernel
theorem dX11_challenges_126 : decode cX11_challenges 126 = .ok (.iconst 0, 1) := by decide +kernel
theorem dX11_challenges_127 : decode cX11_challenges 127 = .ok (.iastore, 1) := by decide +kernel
theorem dX11_challenges_128 : decode cX11_challenges 128 = .ok (.return_, 1) := by decide +kernel
set_option maxRecDepth 20000 in
theorem ggX11_repairs_X11_isThere : GoodIn wsX11_repairs wsX11_isThere := goodIn_r _ [8, 1, 9, 2, 59, 60, 61, 62, 63, 64, 65, 66, 67, 68, 69, 70, 71, 72, 73, 74, 75, 76, 77, 78, 79, 80, 81, 82, 83, 84, 85, 86] (by decide +kernel) (by decide +kernel)
set_option maxRecDepth 20000 in
theorem gX11_repairs_X11_isThere : GoodIn wsX11_repairs (wsV RX11 161 RX11 yX11_isThere wsX11_isThere) := goodIn_app (goodIn_of _ (by decide +kernel)) ggX11_repairs_X11_isThere
set_option maxRecDepth 20000 in
theorem ggX11_repairs_X11_stores : GoodIn wsX11_repairs wsX11_stores := goodIn_r _ [13, 14, 3, 1, 15, 9, 16, 17, 18, 19, 20, 7, 21, 22, 23, 24, 25, 26, 27, 28, 29, 30, 31, 32, 33, 34, 35, 36, 37, 38, 39, 40, 41, 42, 43, 44, 45, 46, 47, 2, 48, 49, 50, 51, 52, 53, 54, 55, 56, 57, 58, 59, 60, 61, 62, 63, 64, 65, 66, 67, 68, 69, 70, 71, 72, 73, 74, 75, 76, 77, 78, 79, 80, 81, 82, 83, 84, 85, 86] (by decide +kernel) (by decide +kernel)
set_option maxRecDepth 20000 in
theorem gX11_repairs_X11_stores : GoodIn wsX11_repairs (wsV RX11 146 RX11 yX11_stores wsX11_stores) := goodIn_app (goodIn_of _ (by decide +kernel)) ggX11_repairs_X11_stores
theorem dX11_repairs_0 : decode cX11_repairs 0 = .ok (.iconst 0, 1) := by decide +kernel
theorem dX11_repairs_1 : decode cX11_repairs 1 = .ok (.istore_n 2, 1) := by decide +kernel
theorem dX11_repairs_2 : decode cX11_repairs 2 = .ok (.iconst 0, 1) := by decide +kernel
theorem dX11_repairs_3 : decode cX11_repairs 3 = .ok (.istore_n 3, 1) := by decide +kernel
theorem dX11_repairs_4 : decode cX11_repairs 4 = .ok (.bipush 6, 2) := by decide +kernel
theorem dX11_repairs_6 : decode cX11_repairs 6 = .ok (.iload_n 1, 1) := by decide +kernel
theorem dX11_repairs_7 : decode cX11_repairs 7 = .ok (.imul, 1) := by decide +kernel
theorem dX11_repairs_8 : decode cX11_repairs 8 = .ok (.istore 4, 2) := by decide +kernel
theorem dX11_repairs_10 : decode cX11_repairs 10 = .ok (.iload 4, 2) := by decide +kernel
theorem dX11_repairs_12 : decode cX11_repairs 12 = .ok (.bipush 6, 2) := by decide +kernel
theorem dX11_repairs_14 : decode cX11_repairs 14 = .ok (.iload_n 1, 1) := by decide +kernel
theorem dX11_repairs_15 : decode cX11_repairs 15 = .ok (.imul, 1) := by decide +kernel
theorem dX11_repairs_16 : decode cX11_repairs 16 = .ok (.bipush 6, 2) := by decide +kernel
theorem dX11_repairs_18 : decode cX11_repairs 18 = .ok (.iadd, 1) := by decide +kernel
theorem dX11_repairs_19 : decode cX11_repairs 19 = .ok (.if_icmp .ge 45, 3) := by decide +kernel
theorem dX11_repairs_22 : decode cX11_repairs 22 = .ok (.iload_n 2, 1) := by decide +kernel
theorem dX11_repairs_23 : decode cX11_repairs 23 = .ok (.aload_n 0, 1) := by decide +kernel
theorem dX11_repairs_24 : decode cX11_repairs 24 = .ok (.getfield 47, 3) := by decide +kernel
theorem dX11_repairs_27 : decode cX11_repairs 27 = .ok (.iload 4, 2) := by decide +kernel
theorem dX11_repairs_29 : decode cX11_repairs 29 = .ok (.iaload, 1) := by decide +kernel
theorem dX11_repairs_30 : decode cX11_repairs 30 = .ok (.iconst (-1), 1) := by decide +kernel
theorem dX11_repairs_31 : decode cX11_repairs 31 = .ok (.if_icmp .ne 7, 3) := by decide +kernel
theorem dX11_repairs_34 : decode cX11_repairs 34 = .ok (.iconst 0, 1) := by decide +kernel
theorem dX11_repairs_35 : decode cX11_repairs 35 = .ok (.goto 4, 3) := by decide +kernel
theorem dX11_repairs_38 : decode cX11_repairs 38 = .ok (.iconst 1, 1) := by decide +kernel
theorem dX11_repairs_39 : decode cX11_repairs 39 = .ok (.iadd, 1) := by decide +kernel
theorem dX11_repairs_40 : decode cX11_repairs 40 = .ok (.istore_n 2, 1) := by decide +kernel
theorem dX11_repairs_41 : decode cX11_repairs 41 = .ok (.iload_n 3, 1) := by decide +kernel
theorem dX11_repairs_42 : decode cX11_repairs 42 = .ok (.aload_n 0, 1) := by decide +kernel
theorem dX11_repairs_43 : decode cX11_repairs 43 = .ok (.iload 4, 2) := by decide +kernel
theorem dX11_repairs_45 : decode cX11_repairs 45 = .ok (.invokevirtual 161, 3) := by decide +kernel
theorem dX11_repairs_48 : decode cX11_repairs 48 = .ok (.ifCond .eq 7, 3) := by decide +kernel
theorem dX11_repairs_51 : decode cX11_repairs 51 = .ok (.iconst 1, 1) := by decide +kernel
theorem dX11_repairs_52 : decode cX11_repairs 52 = .ok (.goto 4, 3) := by decide +kernel
theorem dX11_repairs_55 : decode cX11_repairs 55 = .ok (.iconst 0, 1) := by decide +kernel
theorem dX11_repairs_56 : decode cX11_repairs 56 = .ok (.iadd, 1) := by decide +kernel
theorem dX11_repairs_57 : decode cX11_repairs 57 = .ok (.istore_n 3, 1) := by decide +kernel
theorem dX11_repairs_58 : decode cX11_repairs 58 = .ok (.iinc 4 1, 3) := by decide +kernel
theorem dX11_repairs_61 : decode cX11_repairs 61 = .ok (.goto (-51), 3) := by decide +kernel
theorem dX11_repairs_64 : decode cX11_repairs 64 = .ok (.iconst 0, 1) := by decide +kernel
theorem dX11_repairs_65 : decode cX11_repairs 65 = .ok (.istore 4, 2) := by decide +kernel
theorem dX11_repairs_67 : decode cX11_repairs 67 = .ok (.iload 4, 2) := by decide +kernel
theorem dX11_repairs_69 : decode cX11_repairs 69 = .ok (.bipush 6, 2) := by decide +kernel
theorem dX11_repairs_71 : decode cX11_repairs 71 = .ok (.if_icmp .ge 56, 3) := by decide +kernel
theorem dX11_repairs_74 : decode cX11_repairs 74 = .ok (.aload_n 0, 1) := by decide +kernel
theorem dX11_repairs_75 : decode cX11_repairs 75 = .ok (.getfield 16, 3) := by decide +kernel
theorem dX11_repairs_78 : decode cX11_repairs 78 = .ok (.aload_n 0, 1) := by decide +kernel
theorem dX11_repairs_79 : decode cX11_repairs 79 = .ok (.getfield 41, 3) := by decide +kernel
theorem dX11_repairs_82 : decode cX11_repairs 82 = .ok (.iload_n 1, 1) := by decide +kernel
theorem dX11_repairs_83 : decode cX11_repairs 83 = .ok (.iaload, 1) := by decide +kernel
theorem dX11_repairs_84 : decode cX11_repairs 84 = .ok (.baload, 1) := by decide +kernel
theorem dX11_repairs_85 : decode cX11_repairs 85 = .ok (.ifCond .eq 42, 3) := by decide +kernel
theorem dX11_repairs_88 : decode cX11_repairs 88 = .ok (.iload_n 2, 1) := by decide +kernel
theorem dX11_repairs_89 : decode cX11_repairs 89 = .ok (.iconst 4, 1) := by decide +kernel
theorem dX11_repairs_90 : decode cX11_repairs 90 = .ok (.if_icmp .gt 37, 3) := by decide +kernel
theorem dX11_repairs_93 : decode cX11_repairs 93 = .ok (.iload_n 3, 1) := by decide +kernel
theorem dX11_repairs_94 : decode cX11_repairs 94 = .ok (.iconst 4, 1) := by decide +kernel
theorem dX11_repairs_95 : decode cX11_repairs 95 = .ok (.if_icmp .lt 32, 3) := by decide +kernel
theorem dX11_repairs_98 : decode cX11_repairs 98 = .ok (.aload_n 0, 1) := by decide +kernel
theorem dX11_repairs_99 : decode cX11_repairs 99 = .ok (.getfield 47, 3) := by decide +kernel
theorem dX11_repairs_102 : decode cX11_repairs 102 = .ok (.bipush 6, 2) := by decide +kernel
theorem dX11_repairs_104 : decode cX11_repairs 104 = .ok (.iload_n 1, 1) := by decide +kernel
theorem dX11_repairs_105 : decode cX11_repairs 105 = .ok (.imul, 1) := by decide +kernel
theorem dX11_repairs_106 : decode cX11_repairs 106 = .ok (.iload 4, 2) := by decide +kernel
theorem dX11_repairs_108 : decode cX11_repairs 108 = .ok (.iadd, 1) := by decide +kernel
theorem dX11_repairs_109 : decode cX11_repairs 109 = .ok (.iaload, 1) := by decide +kernel
theorem dX11_repairs_110 : decode cX11_repairs 110 = .ok (.iconst (-1), 1) := by decide +kernel
theorem dX11_repairs_111 : decode cX11_repairs 111 = .ok (.if_icmp .ne 10, 3) := by decide +kernel
theorem dX11_repairs_114 : decode cX11_repairs 114 = .ok (.aload_n 0, 1) := by decide +kernel
theorem dX11_repairs_115 : decode cX11_repairs 115 = .ok (.iload_n 1, 1) := by decide +kernel
theorem dX11_repairs_116 : decode cX11_repairs 116 = .ok (.iload 4, 2) := by decide +kernel
theorem dX11_repairs_118 : decode cX11_repairs 118 = .ok (.invokevirtual 146, 3) := by decide +kernel
theorem dX11_repairs_121 : decode cX11_repairs 121 = .ok (.iinc 4 1, 3) := by decide +kernel
theorem dX11_repairs_124 : decode cX11_repairs 124 = .ok (.goto (-57), 3) := by decide +kernel
theorem dX11_repairs_127 : decode cX11_repairs 127 = .ok (.return_, 1) := by decide +kernel
set_option maxRecDepth 20000 in
theorem ggX11_pass_X11_holds : GoodIn wsX11_pass wsX11_holds := goodIn_r _ [7, 8, 75, 76, 77, 78, 79, 80, 81, 82, 83, 84, 85, 86, 87, 88, 89, 90, 91, 92, 93, 94, 95, 96, 97, 98, 99, 100, 101, 102] (by decide +kernel) (by decide +kernel)
set_option maxRecDepth 20000 in
theorem gX11_pass_X11_holds : GoodIn wsX11_pass (wsV RX11 124 RX11 yX11_holds wsX11_holds) := goodIn_app (goodIn_of _ (by decide +kernel)) ggX11_pass_X11_holds
set_option maxRecDepth 20000 in
theorem ggX11_pass_X11_challenges : GoodIn wsX11_pass wsX11_challenges := goodIn_r _ [12, 13, 14, 15, 16, 17, 18, 19, 20, 21, 6, 22, 75, 76, 77, 78, 79, 80, 81, 82, 83, 84, 85, 86, 87, 88, 89, 90, 91, 92, 93, 94, 95, 96, 97, 98, 99, 100, 101, 102] (by decide +kernel) (by decide +kernel)
set_option maxRecDepth 20000 in
theorem gX11_pass_X11_challenges : GoodIn wsX11_pass (wsV RX11 167 RX11 yX11_challenges wsX11_challenges) := goodIn_app (goodIn_of _ (by decide +kernel)) ggX11_pass_X11_challenges
set_option maxRecDepth 20000 in
theorem ggX11_pass_X11_repairs : GoodIn wsX11_pass wsX11_repairs := goodIn_r _ [26, 14, 15, 13, 19, 20, 21, 6, 22, 18, 27, 28, 29, 30, 31, 17, 32, 33, 34, 35, 36, 37, 38, 39, 40, 41, 42, 43, 44, 45, 46, 47, 48, 49, 50, 51, 52, 53, 54, 55, 56, 57, 58, 59, 60, 61, 62, 63, 64, 65, 66, 67, 68, 69, 70, 71, 72, 73, 74, 75, 76, 77, 78, 79, 80, 81, 82, 83, 84, 85, 86, 87, 88, 89, 90, 91, 92, 93, 94, 95, 96, 97, 98, 99, 100, 101, 102] (by decide +kernel) (by decide +kernel)
set_option maxRecDepth 20000 in
theorem gX11_pass_X11_repairs : GoodIn wsX11_pass (wsV RX11 170 RX11 yX11_repairs wsX11_repairs) := goodIn_app (goodIn_of _ (by decide +kernel)) ggX11_pass_X11_repairs
theorem dX11_pass_0 : decode cX11_pass 0 = .ok (.aload_n 0, 1) := by decide +kernel
theorem dX11_pass_1 : decode cX11_pass 1 = .ok (.aload_n 0, 1) := by decide +kernel
theorem dX11_pass_2 : decode cX11_pass 2 = .ok (.getfield 164, 3) := by decide +kernel
theorem dX11_pass_5 : decode cX11_pass 5 = .ok (.sipush 500, 3) := by decide +kernel
theorem dX11_pass_8 : decode cX11_pass 8 = .ok (.if_icmp .ne 7, 3) := by decide +kernel
theorem dX11_pass_11 : decode cX11_pass 11 = .ok (.iconst 1, 1) := by decide +kernel
theorem dX11_pass_12 : decode cX11_pass 12 = .ok (.goto 4, 3) := by decide +kernel
theorem dX11_pass_15 : decode cX11_pass 15 = .ok (.iconst 0, 1) := by decide +kernel
theorem dX11_pass_16 : decode cX11_pass 16 = .ok (.invokevirtual 124, 3) := by decide +kernel
theorem dX11_pass_19 : decode cX11_pass 19 = .ok (.ifCond .ne 5, 3) := by decide +kernel
theorem dX11_pass_22 : decode cX11_pass 22 = .ok (.iconst 0, 1) := by decide +kernel
theorem dX11_pass_23 : decode cX11_pass 23 = .ok (.ireturn, 1) := by decide +kernel
theorem dX11_pass_24 : decode cX11_pass 24 = .ok (.iconst 0, 1) := by decide +kernel
theorem dX11_pass_25 : decode cX11_pass 25 = .ok (.istore_n 1, 1) := by decide +kernel
theorem dX11_pass_26 : decode cX11_pass 26 = .ok (.iload_n 1, 1) := by decide +kernel
theorem dX11_pass_27 : decode cX11_pass 27 = .ok (.bipush 6, 2) := by decide +kernel
theorem dX11_pass_29 : decode cX11_pass 29 = .ok (.aload_n 0, 1) := by decide +kernel
theorem dX11_pass_30 : decode cX11_pass 30 = .ok (.getfield 85, 3) := by decide +kernel
theorem dX11_pass_33 : decode cX11_pass 33 = .ok (.imul, 1) := by decide +kernel
theorem dX11_pass_34 : decode cX11_pass 34 = .ok (.if_icmp .ge 14, 3) := by decide +kernel
theorem dX11_pass_37 : decode cX11_pass 37 = .ok (.aload_n 0, 1) := by decide +kernel
theorem dX11_pass_38 : decode cX11_pass 38 = .ok (.iload_n 1, 1) := by decide +kernel
theorem dX11_pass_39 : decode cX11_pass 39 = .ok (.invokevirtual 167, 3) := by decide +kernel
theorem dX11_pass_42 : decode cX11_pass 42 = .ok (.iinc 1 1, 3) := by decide +kernel
theorem dX11_pass_45 : decode cX11_pass 45 = .ok (.goto (-19), 3) := by decide +kernel
theorem dX11_pass_48 : decode cX11_pass 48 = .ok (.iconst 0, 1) := by decide +kernel
theorem dX11_pass_49 : decode cX11_pass 49 = .ok (.istore_n 1, 1) := by decide +kernel
theorem dX11_pass_50 : decode cX11_pass 50 = .ok (.iload_n 1, 1) := by decide +kernel
theorem dX11_pass_51 : decode cX11_pass 51 = .ok (.aload_n 0, 1) := by decide +kernel
theorem dX11_pass_52 : decode cX11_pass 52 = .ok (.getfield 85, 3) := by decide +kernel
theorem dX11_pass_55 : decode cX11_pass 55 = .ok (.if_icmp .ge 14, 3) := by decide +kernel
theorem dX11_pass_58 : decode cX11_pass 58 = .ok (.aload_n 0, 1) := by decide +kernel
theorem dX11_pass_59 : decode cX11_pass 59 = .ok (.iload_n 1, 1) := by decide +kernel
theorem dX11_pass_60 : decode cX11_pass 60 = .ok (.invokevirtual 170, 3) := by decide +kernel
theorem dX11_pass_63 : decode cX11_pass 63 = .ok (.iinc 1 1, 3) := by decide +kernel
theorem dX11_pass_66 : decode cX11_pass 66 = .ok (.goto (-16), 3) := by decide +kernel
theorem dX11_pass_69 : decode cX11_pass 69 = .ok (.aload_n 0, 1) := by decide +kernel
theorem dX11_pass_70 : decode cX11_pass 70 = .ok (.dup, 1) := by decide +kernel
theorem dX11_pass_71 : decode cX11_pass 71 = .ok (.getfield 164, 3) := by decide +kernel
theorem dX11_pass_74 : decode cX11_pass 74 = .ok (.iconst 1, 1) := by decide +kernel
theorem dX11_pass_75 : decode cX11_pass 75 = .ok (.iadd, 1) := by decide +kernel
theorem dX11_pass_76 : decode cX11_pass 76 = .ok (.putfield 164, 3) := by decide +kernel
theorem dX11_pass_79 : decode cX11_pass 79 = .ok (.aload_n 0, 1) := by decide +kernel
theorem dX11_pass_80 : decode cX11_pass 80 = .ok (.getfield 164, 3) := by decide +kernel
theorem dX11_pass_83 : decode cX11_pass 83 = .ok (.ireturn, 1) := by decide +kernel
set_option maxRecDepth 20000 in
theorem ggX11_tell_X11_isPeer : GoodIn wsX11_tell wsX11_isPeer := goodIn_r _ [12, 13, 14, 15, 11, 16, 57, 58, 59, 60, 61, 62, 63, 64, 65, 66, 67, 68, 69, 70, 71, 72, 73, 74, 75, 76, 77, 78, 79, 80, 81, 82, 83, 84] (by decide +kernel) (by decide +kernel)
set_option maxRecDepth 20000 in
theorem gX11_tell_X11_isPeer : GoodIn wsX11_tell (wsV RX11 117 RX11 yX11_isPeer wsX11_isPeer) := goodIn_app (goodIn_of _ (by decide +kernel)) ggX11_tell_X11_isPeer
set_option maxRecDepth 20000 in
theorem ggX11_tell_X11_isIn : GoodIn wsX11_tell wsX11_isIn := goodIn_r _ [16] (by decide +kernel) (by decide +kernel)
set_option maxRecDepth 20000 in
theorem gX11_tell_X11_isIn : GoodIn wsX11_tell (va_wsS RX11 81 yX11_isIn wsX11_isIn) := goodIn_app (goodIn_of _ (by decide +kernel)) ggX11_tell_X11_isIn
set_option maxRecDepth 20000 in
theorem ggX11_tell_X11_holds : GoodIn wsX11_tell wsX11_holds := goodIn_r _ [20, 21, 57, 58, 59, 60, 61, 62, 63, 64, 65, 66, 67, 68, 69, 70, 71, 72, 73, 74, 75, 76, 77, 78, 79, 80, 81, 82, 83, 84] (by decide +kernel) (by decide +kernel)
set_option maxRecDepth 20000 in
theorem gX11_tell_X11_holds : GoodIn wsX11_tell (wsV RX11 124 RX11 yX11_holds wsX11_holds) := goodIn_app (goodIn_of _ (by decide +kernel)) ggX11_tell_X11_holds
set_option maxRecDepth 20000 in
theorem ggX11_tell_X11_looksUp : GoodIn wsX11_tell wsX11_looksUp := goodIn_r _ [25, 26, 27, 28, 29, 13, 30, 31, 32, 33, 34, 11, 35, 36, 37, 38, 39, 40, 41, 42, 43, 44, 45, 1, 5, 46, 47, 48, 49, 50, 51, 52, 53, 54, 55, 56, 3, 4, 57, 58, 59, 60, 61, 62, 63, 64, 65, 66, 67, 68, 69, 70, 71, 72, 73, 74, 75, 76, 77, 78, 79, 80, 81, 82, 83, 84] (by decide +kernel) (by decide +kernel)
set_option maxRecDepth 20000 in
theorem gX11_tell_X11_looksUp : GoodIn wsX11_tell (wsV RX11 127 RX11 yX11_looksUp wsX11_looksUp) := goodIn_app (goodIn_of _ (by decide +kernel)) ggX11_tell_X11_looksUp
theorem dX11_tell_0 : decode cX11_tell 0 = .ok (.aload_n 0, 1) := by decide +kernel
theorem dX11_tell_1 : decode cX11_tell 1 = .ok (.iload_n 1, 1) := by decide +kernel
theorem dX11_tell_2 : decode cX11_tell 2 = .ok (.invokevirtual 117, 3) := by decide +kernel
theorem dX11_tell_5 : decode cX11_tell 5 = .ok (.istore 5, 2) := by decide +kernel
theorem dX11_tell_7 : decode cX11_tell 7 = .ok (.iload_n 2, 1) := by decide +kernel
theorem dX11_tell_8 : decode cX11_tell 8 = .ok (.iconst 0, 1) := by decide +kernel
theorem dX11_tell_9 : decode cX11_tell 9 = .ok (.sipush 255, 3) := by decide +kernel
theorem dX11_tell_12 : decode cX11_tell 12 = .ok (.invokestatic 81, 3) := by decide +kernel
theorem dX11_tell_15 : decode cX11_tell 15 = .ok (.ifCond .eq 30, 3) := by decide +kernel
theorem dX11_tell_18 : decode cX11_tell 18 = .ok (.iload_n 3, 1) := by decide +kernel
theorem dX11_tell_19 : decode cX11_tell 19 = .ok (.iconst 0, 1) := by decide +kernel
theorem dX11_tell_20 : decode cX11_tell 20 = .ok (.sipush 999, 3) := by decide +kernel
theorem dX11_tell_23 : decode cX11_tell 23 = .ok (.invokestatic 81, 3) := by decide +kernel
theorem dX11_tell_26 : decode cX11_tell 26 = .ok (.ifCond .eq 19, 3) := by decide +kernel
theorem dX11_tell_29 : decode cX11_tell 29 = .ok (.iload 4, 2) := by decide +kernel
theorem dX11_tell_31 : decode cX11_tell 31 = .ok (.iconst 0, 1) := by decide +kernel
theorem dX11_tell_32 : decode cX11_tell 32 = .ok (.sipush 999, 3) := by decide +kernel
theorem dX11_tell_35 : decode cX11_tell 35 = .ok (.invokestatic 81, 3) := by decide +kernel
theorem dX11_tell_38 : decode cX11_tell 38 = .ok (.ifCond .eq 7, 3) := by decide +kernel
theorem dX11_tell_41 : decode cX11_tell 41 = .ok (.iconst 1, 1) := by decide +kernel
theorem dX11_tell_42 : decode cX11_tell 42 = .ok (.goto 4, 3) := by decide +kernel
theorem dX11_tell_45 : decode cX11_tell 45 = .ok (.iconst 0, 1) := by decide +kernel
theorem dX11_tell_46 : decode cX11_tell 46 = .ok (.istore 6, 2) := by decide +kernel
theorem dX11_tell_48 : decode cX11_tell 48 = .ok (.iload 5, 2) := by decide +kernel
theorem dX11_tell_50 : decode cX11_tell 50 = .ok (.ifCond .eq 41, 3) := by decide +kernel
theorem dX11_tell_53 : decode cX11_tell 53 = .ok (.iload 6, 2) := by decide +kernel
theorem dX11_tell_55 : decode cX11_tell 55 = .ok (.ifCond .eq 36, 3) := by decide +kernel
theorem dX11_tell_58 : decode cX11_tell 58 = .ok (.aload_n 0, 1) := by decide +kernel
theorem dX11_tell_59 : decode cX11_tell 59 = .ok (.getfield 16, 3) := by decide +kernel
theorem dX11_tell_62 : decode cX11_tell 62 = .ok (.iload_n 1, 1) := by decide +kernel
theorem dX11_tell_63 : decode cX11_tell 63 = .ok (.baload, 1) := by decide +kernel
theorem dX11_tell_64 : decode cX11_tell 64 = .ok (.ifCond .eq 27, 3) := by decide +kernel
theorem dX11_tell_67 : decode cX11_tell 67 = .ok (.aload_n 0, 1) := by decide +kernel
theorem dX11_tell_68 : decode cX11_tell 68 = .ok (.getfield 59, 3) := by decide +kernel
theorem dX11_tell_71 : decode cX11_tell 71 = .ok (.iload_n 2, 1) := by decide +kernel
theorem dX11_tell_72 : decode cX11_tell 72 = .ok (.iaload, 1) := by decide +kernel
theorem dX11_tell_73 : decode cX11_tell 73 = .ok (.iconst (-1), 1) := by decide +kernel
theorem dX11_tell_74 : decode cX11_tell 74 = .ok (.if_icmp .eq 13, 3) := by decide +kernel
theorem dX11_tell_77 : decode cX11_tell 77 = .ok (.aload_n 0, 1) := by decide +kernel
theorem dX11_tell_78 : decode cX11_tell 78 = .ok (.getfield 59, 3) := by decide +kernel
theorem dX11_tell_81 : decode cX11_tell 81 = .ok (.iload_n 2, 1) := by decide +kernel
theorem dX11_tell_82 : decode cX11_tell 82 = .ok (.iaload, 1) := by decide +kernel
theorem dX11_tell_83 : decode cX11_tell 83 = .ok (.iload_n 1, 1) := by decide +kernel
theorem dX11_tell_84 : decode cX11_tell 84 = .ok (.if_icmp .ne 7, 3) := by decide +kernel
theorem dX11_tell_87 : decode cX11_tell 87 = .ok (.iconst 1, 1) := by decide +kernel
theorem dX11_tell_88 : decode cX11_tell 88 = .ok (.goto 4, 3) := by decide +kernel
theorem dX11_tell_91 : decode cX11_tell 91 = .ok (.iconst 0, 1) := by decide +kernel
theorem dX11_tell_92 : decode cX11_tell 92 = .ok (.istore 7, 2) := by decide +kernel
theorem dX11_tell_94 : decode cX11_tell 94 = .ok (.aload_n 0, 1) := by decide +kernel
theorem dX11_tell_95 : decode cX11_tell 95 = .ok (.iload 5, 2) := by decide +kernel
theorem dX11_tell_97 : decode cX11_tell 97 = .ok (.ifCond .ne 7, 3) := by decide +kernel
theorem dX11_tell_100 : decode cX11_tell 100 = .ok (.iconst 1, 1) := by decide +kernel
theorem dX11_tell_101 : decode cX11_tell 101 = .ok (.goto 22, 3) := by decide +kernel
theorem dX11_tell_104 : decode cX11_tell 104 = .ok (.iload 6, 2) := by decide +kernel
theorem dX11_tell_106 : decode cX11_tell 106 = .ok (.ifCond .ne 7, 3) := by decide +kernel
theorem dX11_tell_109 : decode cX11_tell 109 = .ok (.iconst 2, 1) := by decide +kernel
theorem dX11_tell_110 : decode cX11_tell 110 = .ok (.goto 13, 3) := by decide +kernel
theorem dX11_tell_113 : decode cX11_tell 113 = .ok (.iload 7, 2) := by decide +kernel
theorem dX11_tell_115 : decode cX11_tell 115 = .ok (.ifCond .eq 7, 3) := by decide +kernel
theorem dX11_tell_118 : decode cX11_tell 118 = .ok (.iconst 0, 1) := by decide +kernel
theorem dX11_tell_119 : decode cX11_tell 119 = .ok (.goto 4, 3) := by decide +kernel
theorem dX11_tell_122 : decode cX11_tell 122 = .ok (.iconst 3, 1) := by decide +kernel
theorem dX11_tell_123 : decode cX11_tell 123 = .ok (.invokevirtual 124, 3) := by decide +kernel
theorem dX11_tell_126 : decode cX11_tell 126 = .ok (.ifCond .ne 5, 3) := by decide +kernel
theorem dX11_tell_129 : decode cX11_tell 129 = .ok (.iconst 0, 1) := by decide +kernel
theorem dX11_tell_130 : decode cX11_tell 130 = .ok (.ireturn, 1) := by decide +kernel
theorem dX11_tell_131 : decode cX11_tell 131 = .ok (.aload_n 0, 1) := by decide +kernel
theorem dX11_tell_132 : decode cX11_tell 132 = .ok (.getfield 59, 3) := by decide +kernel
theorem dX11_tell_135 : decode cX11_tell 135 = .ok (.iload_n 2, 1) := by decide +kernel
theorem dX11_tell_136 : decode cX11_tell 136 = .ok (.iload_n 1, 1) := by decide +kernel
theorem dX11_tell_137 : decode cX11_tell 137 = .ok (.iastore, 1) := by decide +kernel
theorem dX11_tell_138 : decode cX11_tell 138 = .ok (.aload_n 0, 1) := by decide +kernel
theorem dX11_tell_139 : decode cX11_tell 139 = .ok (.iload_n 1, 1) := by decide +kernel
theorem dX11_tell_140 : decode cX11_tell 140 = .ok (.iload_n 2, 1) := by decide +kernel
theorem dX11_tell_141 : decode cX11_tell 141 = .ok (.iconst 2, 1) := by decide +kernel
theorem dX11_tell_142 : decode cX11_tell 142 = .ok (.invokevirtual 127, 3) := by decide +kernel
theorem dX11_tell_145 : decode cX11_tell 145 = .ok (.iconst 0, 1) := by decide +kernel
theorem dX11_tell_146 : decode cX11_tell 146 = .ok (.istore 8, 2) := by decide +kernel
theorem dX11_tell_148 : decode cX11_tell 148 = .ok (.iconst 0, 1) := by decide +kernel
theorem dX11_tell_149 : decode cX11_tell 149 = .ok (.istore 9, 2) := by decide +kernel
theorem dX11_tell_151 : decode cX11_tell 151 = .ok (.iload 9, 2) := by decide +kernel
theorem dX11_tell_153 : decode cX11_tell 153 = .ok (.aload_n 0, 1) := by decide +kernel
theorem dX11_tell_154 : decode cX11_tell 154 = .ok (.getfield 114, 3) := by decide +kernel
theorem dX11_tell_157 : decode cX11_tell 157 = .ok (.if_icmp .ge 70, 3) := by decide +kernel
theorem dX11_tell_160 : decode cX11_tell 160 = .ok (.sipush 256, 3) := by decide +kernel
theorem dX11_tell_163 : decode cX11_tell 163 = .ok (.aload_n 0, 1) := by decide +kernel
theorem dX11_tell_164 : decode cX11_tell 164 = .ok (.getfield 38, 3) := by decide +kernel
theorem dX11_tell_167 : decode cX11_tell 167 = .ok (.iload 9, 2) := by decide +kernel
theorem dX11_tell_169 : decode cX11_tell 169 = .ok (.iaload, 1) := by decide +kernel
theorem dX11_tell_170 : decode cX11_tell 170 = .ok (.imul, 1) := by decide +kernel
theorem dX11_tell_171 : decode cX11_tell 171 = .ok (.iload_n 2, 1) := by decide +kernel
theorem dX11_tell_172 : decode cX11_tell 172 = .ok (.iadd, 1) := by decide +kernel
theorem dX11_tell_173 : decode cX11_tell 173 = .ok (.istore 10, 2) := by decide +kernel
theorem dX11_tell_175 : decode cX11_tell 175 = .ok (.aload_n 0, 1) := by decide +kernel
theorem dX11_tell_176 : decode cX11_tell 176 = .ok (.getfield 13, 3) := by decide +kernel
theorem dX11_tell_179 : decode cX11_tell 179 = .ok (.aload_n 0, 1) := by decide +kernel
theorem dX11_tell_180 : decode cX11_tell 180 = .ok (.getfield 38, 3) := by decide +kernel
theorem dX11_tell_183 : decode cX11_tell 183 = .ok (.iload 9, 2) := by decide +kernel
theorem dX11_tell_185 : decode cX11_tell 185 = .ok (.iaload, 1) := by decide +kernel
theorem dX11_tell_186 : decode cX11_tell 186 = .ok (.iaload, 1) := by decide +kernel
theorem dX11_tell_187 : decode cX11_tell 187 = .ok (.ifCond .ne 34, 3) := by decide +kernel
theorem dX11_tell_190 : decode cX11_tell 190 = .ok (.aload_n 0, 1) := by decide +kernel
theorem dX11_tell_191 : decode cX11_tell 191 = .ok (.getfield 62, 3) := by decide +kernel
theorem dX11_tell_194 : decode cX11_tell 194 = .ok (.iload 10, 2) := by decide +kernel
theorem dX11_tell_196 : decode cX11_tell 196 = .ok (.iaload, 1) := by decide +kernel
theorem dX11_tell_197 : decode cX11_tell 197 = .ok (.iload_n 3, 1) := by decide +kernel
theorem dX11_tell_198 : decode cX11_tell 198 = .ok (.if_icmp .ge 23, 3) := by decide +kernel
theorem dX11_tell_201 : decode cX11_tell 201 = .ok (.aload_n 0, 1) := by decide +kernel
theorem dX11_tell_202 : decode cX11_tell 202 = .ok (.getfield 62, 3) := by decide +kernel
theorem dX11_tell_205 : decode cX11_tell 205 = .ok (.iload 10, 2) := by decide +kernel
theorem dX11_tell_207 : decode cX11_tell 207 = .ok (.iload_n 3, 1) := by decide +kernel
theorem dX11_tell_208 : decode cX11_tell 208 = .ok (.iastore, 1) := by decide +kernel
theorem dX11_tell_209 : decode cX11_tell 209 = .ok (.aload_n 0, 1) := by decide +kernel
theorem dX11_tell_210 : decode cX11_tell 210 = .ok (.getfield 65, 3) := by decide +kernel
theorem dX11_tell_213 : decode cX11_tell 213 = .ok (.iload 10, 2) := by decide +kernel
theorem dX11_tell_215 : decode cX11_tell 215 = .ok (.iload 4, 2) := by decide +kernel
theorem dX11_tell_217 : decode cX11_tell 217 = .ok (.iastore, 1) := by decide +kernel
theorem dX11_tell_218 : decode cX11_tell 218 = .ok (.iinc 8 1, 3) := by decide +kernel
theorem dX11_tell_221 : decode cX11_tell 221 = .ok (.iinc 9 1, 3) := by decide +kernel
theorem dX11_tell_224 : decode cX11_tell 224 = .ok (.goto (-73), 3) := by decide +kernel
theorem dX11_tell_227 : decode cX11_tell 227 = .ok (.iload 8, 2) := by decide +kernel
theorem dX11_tell_229 : decode cX11_tell 229 = .ok (.ireturn, 1) := by decide +kernel
set_option maxRecDepth 20000 in
theorem ggX11_name_X11_isPeer : GoodIn wsX11_name wsX11_isPeer := goodIn_r _ [11, 12, 13, 14, 10, 15, 56, 57, 58, 59, 60, 61, 62, 63, 64, 65, 66, 67, 68, 69, 70, 71, 72, 73, 74, 75, 76, 77, 78, 79, 80, 81, 82, 83] (by decide +kernel) (by decide +kernel)
set_option maxRecDepth 20000 in
theorem gX11_name_X11_isPeer : GoodIn wsX11_name (wsV RX11 117 RX11 yX11_isPeer wsX11_isPeer) := goodIn_app (goodIn_of _ (by decide +kernel)) ggX11_name_X11_isPeer
set_option maxRecDepth 20000 in
theorem ggX11_name_X11_isIn : GoodIn wsX11_name wsX11_isIn := goodIn_r _ [15] (by decide +kernel) (by decide +kernel)
set_option maxRecDepth 20000 in
theorem gX11_name_X11_isIn : GoodIn wsX11_name (va_wsS RX11 81 yX11_isIn wsX11_isIn) := goodIn_app (goodIn_of _ (by decide +kernel)) ggX11_name_X11_isIn
set_option maxRecDepth 20000 in
theorem ggX11_name_X11_holds : GoodIn wsX11_name wsX11_holds := goodIn_r _ [19, 20, 56, 57, 58, 59, 60, 61, 62, 63, 64, 65, 66, 67, 68, 69, 70, 71, 72, 73, 74, 75, 76, 77, 78, 79, 80, 81, 82, 83] (by decide +kernel) (by decide +kernel)
set_option maxRecDepth 20000 in
theorem gX11_name_X11_holds : GoodIn wsX11_name (wsV RX11 124 RX11 yX11_holds wsX11_holds) := goodIn_app (goodIn_of _ (by decide +kernel)) ggX11_name_X11_holds
set_option maxRecDepth 20000 in
theorem ggX11_name_X11_looksUp : GoodIn wsX11_name wsX11_looksUp := goodIn_r _ [24, 25, 26, 27, 28, 12, 29, 30, 31, 32, 33, 10, 34, 35, 36, 37, 38, 39, 40, 41, 42, 43, 44, 1, 4, 45, 46, 47, 48, 49, 50, 51, 52, 53, 54, 55, 2, 3, 56, 57, 58, 59, 60, 61, 62, 63, 64, 65, 66, 67, 68, 69, 70, 71, 72, 73, 74, 75, 76, 77, 78, 79, 80, 81, 82, 83] (by decide +kernel) (by decide +kernel)
set_option maxRecDepth 20000 in
theorem gX11_name_X11_looksUp : GoodIn wsX11_name (wsV RX11 127 RX11 yX11_looksUp wsX11_looksUp) := goodIn_app (goodIn_of _ (by decide +kernel)) ggX11_name_X11_looksUp
theorem dX11_name_0 : decode cX11_name 0 = .ok (.aload_n 0, 1) := by decide +kernel
theorem dX11_name_1 : decode cX11_name 1 = .ok (.iload_n 1, 1) := by decide +kernel
theorem dX11_name_2 : decode cX11_name 2 = .ok (.invokevirtual 117, 3) := by decide +kernel
theorem dX11_name_5 : decode cX11_name 5 = .ok (.istore_n 3, 1) := by decide +kernel
theorem dX11_name_6 : decode cX11_name 6 = .ok (.iload_n 2, 1) := by decide +kernel
theorem dX11_name_7 : decode cX11_name 7 = .ok (.iconst 0, 1) := by decide +kernel
theorem dX11_name_8 : decode cX11_name 8 = .ok (.sipush 255, 3) := by decide +kernel
theorem dX11_name_11 : decode cX11_name 11 = .ok (.invokestatic 81, 3) := by decide +kernel
theorem dX11_name_14 : decode cX11_name 14 = .ok (.istore 4, 2) := by decide +kernel
theorem dX11_name_16 : decode cX11_name 16 = .ok (.aload_n 0, 1) := by decide +kernel
theorem dX11_name_17 : decode cX11_name 17 = .ok (.iload_n 3, 1) := by decide +kernel
theorem dX11_name_18 : decode cX11_name 18 = .ok (.ifCond .ne 7, 3) := by decide +kernel
theorem dX11_name_21 : decode cX11_name 21 = .ok (.iconst 1, 1) := by decide +kernel
theorem dX11_name_22 : decode cX11_name 22 = .ok (.goto 26, 3) := by decide +kernel
theorem dX11_name_25 : decode cX11_name 25 = .ok (.iload 4, 2) := by decide +kernel
theorem dX11_name_27 : decode cX11_name 27 = .ok (.ifCond .ne 7, 3) := by decide +kernel
theorem dX11_name_30 : decode cX11_name 30 = .ok (.iconst 2, 1) := by decide +kernel
theorem dX11_name_31 : decode cX11_name 31 = .ok (.goto 17, 3) := by decide +kernel
theorem dX11_name_34 : decode cX11_name 34 = .ok (.aload_n 0, 1) := by decide +kernel
theorem dX11_name_35 : decode cX11_name 35 = .ok (.getfield 16, 3) := by decide +kernel
theorem dX11_name_38 : decode cX11_name 38 = .ok (.iload_n 1, 1) := by decide +kernel
theorem dX11_name_39 : decode cX11_name 39 = .ok (.baload, 1) := by decide +kernel
theorem dX11_name_40 : decode cX11_name 40 = .ok (.ifCond .eq 7, 3) := by decide +kernel
theorem dX11_name_43 : decode cX11_name 43 = .ok (.iconst 0, 1) := by decide +kernel
theorem dX11_name_44 : decode cX11_name 44 = .ok (.goto 4, 3) := by decide +kernel
theorem dX11_name_47 : decode cX11_name 47 = .ok (.iconst 3, 1) := by decide +kernel
theorem dX11_name_48 : decode cX11_name 48 = .ok (.invokevirtual 124, 3) := by decide +kernel
theorem dX11_name_51 : decode cX11_name 51 = .ok (.ifCond .ne 5, 3) := by decide +kernel
theorem dX11_name_54 : decode cX11_name 54 = .ok (.iconst 0, 1) := by decide +kernel
theorem dX11_name_55 : decode cX11_name 55 = .ok (.ireturn, 1) := by decide +kernel
theorem dX11_name_56 : decode cX11_name 56 = .ok (.aload_n 0, 1) := by decide +kernel
theorem dX11_name_57 : decode cX11_name 57 = .ok (.iload_n 1, 1) := by decide +kernel
theorem dX11_name_58 : decode cX11_name 58 = .ok (.iload_n 2, 1) := by decide +kernel
theorem dX11_name_59 : decode cX11_name 59 = .ok (.iconst 2, 1) := by decide +kernel
theorem dX11_name_60 : decode cX11_name 60 = .ok (.invokevirtual 127, 3) := by decide +kernel
theorem dX11_name_63 : decode cX11_name 63 = .ok (.iconst (-1), 1) := by decide +kernel
theorem dX11_name_64 : decode cX11_name 64 = .ok (.istore 5, 2) := by decide +kernel
theorem dX11_name_66 : decode cX11_name 66 = .ok (.iconst 0, 1) := by decide +kernel
theorem dX11_name_67 : decode cX11_name 67 = .ok (.istore 6, 2) := by decide +kernel
theorem dX11_name_69 : decode cX11_name 69 = .ok (.iload 6, 2) := by decide +kernel
theorem dX11_name_71 : decode cX11_name 71 = .ok (.aload_n 0, 1) := by decide +kernel
theorem dX11_name_72 : decode cX11_name 72 = .ok (.getfield 114, 3) := by decide +kernel
theorem dX11_name_75 : decode cX11_name 75 = .ok (.if_icmp .ge 94, 3) := by decide +kernel
theorem dX11_name_78 : decode cX11_name 78 = .ok (.sipush 256, 3) := by decide +kernel
theorem dX11_name_81 : decode cX11_name 81 = .ok (.aload_n 0, 1) := by decide +kernel
theorem dX11_name_82 : decode cX11_name 82 = .ok (.getfield 38, 3) := by decide +kernel
theorem dX11_name_85 : decode cX11_name 85 = .ok (.iload 6, 2) := by decide +kernel
theorem dX11_name_87 : decode cX11_name 87 = .ok (.iaload, 1) := by decide +kernel
theorem dX11_name_88 : decode cX11_name 88 = .ok (.imul, 1) := by decide +kernel
theorem dX11_name_89 : decode cX11_name 89 = .ok (.iload_n 2, 1) := by decide +kernel
theorem dX11_name_90 : decode cX11_name 90 = .ok (.iadd, 1) := by decide +kernel
theorem dX11_name_91 : decode cX11_name 91 = .ok (.istore 7, 2) := by decide +kernel
theorem dX11_name_93 : decode cX11_name 93 = .ok (.aload_n 0, 1) := by decide +kernel
theorem dX11_name_94 : decode cX11_name 94 = .ok (.getfield 13, 3) := by decide +kernel
theorem dX11_name_97 : decode cX11_name 97 = .ok (.aload_n 0, 1) := by decide +kernel
theorem dX11_name_98 : decode cX11_name 98 = .ok (.getfield 38, 3) := by decide +kernel
theorem dX11_name_101 : decode cX11_name 101 = .ok (.iload 6, 2) := by decide +kernel
theorem dX11_name_103 : decode cX11_name 103 = .ok (.iaload, 1) := by decide +kernel
theorem dX11_name_104 : decode cX11_name 104 = .ok (.iaload, 1) := by decide +kernel
theorem dX11_name_105 : decode cX11_name 105 = .ok (.ifCond .ne 18, 3) := by decide +kernel
theorem dX11_name_108 : decode cX11_name 108 = .ok (.aload_n 0, 1) := by decide +kernel
theorem dX11_name_109 : decode cX11_name 109 = .ok (.getfield 62, 3) := by decide +kernel
theorem dX11_name_112 : decode cX11_name 112 = .ok (.iload 7, 2) := by decide +kernel
theorem dX11_name_114 : decode cX11_name 114 = .ok (.iaload, 1) := by decide +kernel
theorem dX11_name_115 : decode cX11_name 115 = .ok (.iconst (-1), 1) := by decide +kernel
theorem dX11_name_116 : decode cX11_name 116 = .ok (.if_icmp .eq 7, 3) := by decide +kernel
theorem dX11_name_119 : decode cX11_name 119 = .ok (.iconst 1, 1) := by decide +kernel
theorem dX11_name_120 : decode cX11_name 120 = .ok (.goto 4, 3) := by decide +kernel
theorem dX11_name_123 : decode cX11_name 123 = .ok (.iconst 0, 1) := by decide +kernel
theorem dX11_name_124 : decode cX11_name 124 = .ok (.istore 8, 2) := by decide +kernel
theorem dX11_name_126 : decode cX11_name 126 = .ok (.iload 8, 2) := by decide +kernel
theorem dX11_name_128 : decode cX11_name 128 = .ok (.ifCond .eq 31, 3) := by decide +kernel
theorem dX11_name_131 : decode cX11_name 131 = .ok (.iload 5, 2) := by decide +kernel
theorem dX11_name_133 : decode cX11_name 133 = .ok (.iconst (-1), 1) := by decide +kernel
theorem dX11_name_134 : decode cX11_name 134 = .ok (.if_icmp .eq 20, 3) := by decide +kernel
theorem dX11_name_137 : decode cX11_name 137 = .ok (.aload_n 0, 1) := by decide +kernel
theorem dX11_name_138 : decode cX11_name 138 = .ok (.getfield 62, 3) := by decide +kernel
theorem dX11_name_141 : decode cX11_name 141 = .ok (.iload 7, 2) := by decide +kernel
theorem dX11_name_143 : decode cX11_name 143 = .ok (.iaload, 1) := by decide +kernel
theorem dX11_name_144 : decode cX11_name 144 = .ok (.aload_n 0, 1) := by decide +kernel
theorem dX11_name_145 : decode cX11_name 145 = .ok (.getfield 62, 3) := by decide +kernel
theorem dX11_name_148 : decode cX11_name 148 = .ok (.iload 5, 2) := by decide +kernel
theorem dX11_name_150 : decode cX11_name 150 = .ok (.iaload, 1) := by decide +kernel
theorem dX11_name_151 : decode cX11_name 151 = .ok (.if_icmp .le 8, 3) := by decide +kernel
theorem dX11_name_154 : decode cX11_name 154 = .ok (.iload 7, 2) := by decide +kernel
theorem dX11_name_156 : decode cX11_name 156 = .ok (.goto 5, 3) := by decide +kernel
theorem dX11_name_159 : decode cX11_name 159 = .ok (.iload 5, 2) := by decide +kernel
theorem dX11_name_161 : decode cX11_name 161 = .ok (.istore 5, 2) := by decide +kernel
theorem dX11_name_163 : decode cX11_name 163 = .ok (.iinc 6 1, 3) := by decide +kernel
theorem dX11_name_166 : decode cX11_name 166 = .ok (.goto (-97), 3) := by decide +kernel
theorem dX11_name_169 : decode cX11_name 169 = .ok (.iload 5, 2) := by decide +kernel
theorem dX11_name_171 : decode cX11_name 171 = .ok (.iconst (-1), 1) := by decide +kernel
theorem dX11_name_172 : decode cX11_name 172 = .ok (.if_icmp .ne 7, 3) := by decide +kernel
theorem dX11_name_175 : decode cX11_name 175 = .ok (.iconst (-1), 1) := by decide +kernel
theorem dX11_name_176 : decode cX11_name 176 = .ok (.goto 22, 3) := by decide +kernel
theorem dX11_name_179 : decode cX11_name 179 = .ok (.sipush 1000, 3) := by decide +kernel
theorem dX11_name_182 : decode cX11_name 182 = .ok (.aload_n 0, 1) := by decide +kernel
theorem dX11_name_183 : decode cX11_name 183 = .ok (.getfield 62, 3) := by decide +kernel
theorem dX11_name_186 : decode cX11_name 186 = .ok (.iload 5, 2) := by decide +kernel
theorem dX11_name_188 : decode cX11_name 188 = .ok (.iaload, 1) := by decide +kernel
theorem dX11_name_189 : decode cX11_name 189 = .ok (.imul, 1) := by decide +kernel
theorem dX11_name_190 : decode cX11_name 190 = .ok (.aload_n 0, 1) := by decide +kernel
theorem dX11_name_191 : decode cX11_name 191 = .ok (.getfield 65, 3) := by decide +kernel
theorem dX11_name_194 : decode cX11_name 194 = .ok (.iload 5, 2) := by decide +kernel
theorem dX11_name_196 : decode cX11_name 196 = .ok (.iaload, 1) := by decide +kernel
theorem dX11_name_197 : decode cX11_name 197 = .ok (.iadd, 1) := by decide +kernel
theorem dX11_name_198 : decode cX11_name 198 = .ok (.ireturn, 1) := by decide +kernel
set_option maxRecDepth 20000 in
theorem ggX11_spread_X11_isPeer : GoodIn wsX11_spread wsX11_isPeer := goodIn_r _ [10, 4, 11, 12, 9, 13, 25, 26, 27, 28, 29, 30, 31, 32, 33, 34, 35, 36, 37, 38, 39, 40, 41, 42, 43, 44, 45, 46, 47, 48, 49, 50, 51, 52] (by decide +kernel) (by decide +kernel)
set_option maxRecDepth 20000 in
theorem gX11_spread_X11_isPeer : GoodIn wsX11_spread (wsV RX11 117 RX11 yX11_isPeer wsX11_isPeer) := goodIn_app (goodIn_of _ (by decide +kernel)) ggX11_spread_X11_isPeer
set_option maxRecDepth 20000 in
theorem ggX11_spread_X11_holds : GoodIn wsX11_spread wsX11_holds := goodIn_r _ [17, 18, 25, 26, 27, 28, 29, 30, 31, 32, 33, 34, 35, 36, 37, 38, 39, 40, 41, 42, 43, 44, 45, 46, 47, 48, 49, 50, 51, 52] (by decide +kernel) (by decide +kernel)
set_option maxRecDepth 20000 in
theorem gX11_spread_X11_holds : GoodIn wsX11_spread (wsV RX11 124 RX11 yX11_holds wsX11_holds) := goodIn_app (goodIn_of _ (by decide +kernel)) ggX11_spread_X11_holds
set_option maxRecDepth 20000 in
theorem ggX11_spread_X11_keepsPeer : GoodIn wsX11_spread wsX11_keepsPeer := goodIn_r _ [22, 23, 24, 25, 26, 27, 28, 29, 30, 31, 32, 33, 34, 35, 36, 37, 38, 39, 40, 41, 42, 43, 44, 45, 46, 47, 48, 49, 50, 51, 52] (by decide +kernel) (by decide +kernel)
set_option maxRecDepth 20000 in
theorem gX11_spread_X11_keepsPeer : GoodIn wsX11_spread (wsV RX11 99 RX11 yX11_keepsPeer wsX11_keepsPeer) := goodIn_app (goodIn_of _ (by decide +kernel)) ggX11_spread_X11_keepsPeer
theorem dX11_spread_0 : decode cX11_spread 0 = .ok (.aload_n 0, 1) := by decide +kernel
theorem dX11_spread_1 : decode cX11_spread 1 = .ok (.iload_n 1, 1) := by decide +kernel
theorem dX11_spread_2 : decode cX11_spread 2 = .ok (.invokevirtual 117, 3) := by decide +kernel
theorem dX11_spread_5 : decode cX11_spread 5 = .ok (.istore_n 2, 1) := by decide +kernel
theorem dX11_spread_6 : decode cX11_spread 6 = .ok (.aload_n 0, 1) := by decide +kernel
theorem dX11_spread_7 : decode cX11_spread 7 = .ok (.iload_n 2, 1) := by decide +kernel
theorem dX11_spread_8 : decode cX11_spread 8 = .ok (.ifCond .ne 7, 3) := by decide +kernel
theorem dX11_spread_11 : decode cX11_spread 11 = .ok (.iconst 1, 1) := by decide +kernel
theorem dX11_spread_12 : decode cX11_spread 12 = .ok (.goto 17, 3) := by decide +kernel
theorem dX11_spread_15 : decode cX11_spread 15 = .ok (.aload_n 0, 1) := by decide +kernel
theorem dX11_spread_16 : decode cX11_spread 16 = .ok (.getfield 16, 3) := by decide +kernel
theorem dX11_spread_19 : decode cX11_spread 19 = .ok (.iload_n 1, 1) := by decide +kernel
theorem dX11_spread_20 : decode cX11_spread 20 = .ok (.baload, 1) := by decide +kernel
theorem dX11_spread_21 : decode cX11_spread 21 = .ok (.ifCond .eq 7, 3) := by decide +kernel
theorem dX11_spread_24 : decode cX11_spread 24 = .ok (.iconst 0, 1) := by decide +kernel
theorem dX11_spread_25 : decode cX11_spread 25 = .ok (.goto 4, 3) := by decide +kernel
theorem dX11_spread_28 : decode cX11_spread 28 = .ok (.iconst 2, 1) := by decide +kernel
theorem dX11_spread_29 : decode cX11_spread 29 = .ok (.invokevirtual 124, 3) := by decide +kernel
theorem dX11_spread_32 : decode cX11_spread 32 = .ok (.ifCond .ne 5, 3) := by decide +kernel
theorem dX11_spread_35 : decode cX11_spread 35 = .ok (.iconst 0, 1) := by decide +kernel
theorem dX11_spread_36 : decode cX11_spread 36 = .ok (.ireturn, 1) := by decide +kernel
theorem dX11_spread_37 : decode cX11_spread 37 = .ok (.iconst 0, 1) := by decide +kernel
theorem dX11_spread_38 : decode cX11_spread 38 = .ok (.istore_n 3, 1) := by decide +kernel
theorem dX11_spread_39 : decode cX11_spread 39 = .ok (.iload_n 3, 1) := by decide +kernel
theorem dX11_spread_40 : decode cX11_spread 40 = .ok (.bipush 16, 2) := by decide +kernel
theorem dX11_spread_42 : decode cX11_spread 42 = .ok (.if_icmp .ge 16, 3) := by decide +kernel
theorem dX11_spread_45 : decode cX11_spread 45 = .ok (.aload_n 0, 1) := by decide +kernel
theorem dX11_spread_46 : decode cX11_spread 46 = .ok (.getfield 68, 3) := by decide +kernel
theorem dX11_spread_49 : decode cX11_spread 49 = .ok (.iload_n 3, 1) := by decide +kernel
theorem dX11_spread_50 : decode cX11_spread 50 = .ok (.iconst (-1), 1) := by decide +kernel
theorem dX11_spread_51 : decode cX11_spread 51 = .ok (.iastore, 1) := by decide +kernel
theorem dX11_spread_52 : decode cX11_spread 52 = .ok (.iinc 3 1, 3) := by decide +kernel
theorem dX11_spread_55 : decode cX11_spread 55 = .ok (.goto (-16), 3) := by decide +kernel
theorem dX11_spread_58 : decode cX11_spread 58 = .ok (.aload_n 0, 1) := by decide +kernel
theorem dX11_spread_59 : decode cX11_spread 59 = .ok (.getfield 68, 3) := by decide +kernel
theorem dX11_spread_62 : decode cX11_spread 62 = .ok (.iload_n 1, 1) := by decide +kernel
theorem dX11_spread_63 : decode cX11_spread 63 = .ok (.iconst 0, 1) := by decide +kernel
theorem dX11_spread_64 : decode cX11_spread 64 = .ok (.iastore, 1) := by decide +kernel
theorem dX11_spread_65 : decode cX11_spread 65 = .ok (.aload_n 0, 1) := by decide +kernel
theorem dX11_spread_66 : decode cX11_spread 66 = .ok (.iconst 0, 1) := by decide +kernel
theorem dX11_spread_67 : decode cX11_spread 67 = .ok (.putfield 173, 3) := by decide +kernel
theorem dX11_spread_70 : decode cX11_spread 70 = .ok (.iconst 0, 1) := by decide +kernel
theorem dX11_spread_71 : decode cX11_spread 71 = .ok (.istore_n 3, 1) := by decide +kernel
theorem dX11_spread_72 : decode cX11_spread 72 = .ok (.iconst 1, 1) := by decide +kernel
theorem dX11_spread_73 : decode cX11_spread 73 = .ok (.istore 4, 2) := by decide +kernel
theorem dX11_spread_75 : decode cX11_spread 75 = .ok (.iconst 1, 1) := by decide +kernel
theorem dX11_spread_76 : decode cX11_spread 76 = .ok (.istore 5, 2) := by decide +kernel
theorem dX11_spread_78 : decode cX11_spread 78 = .ok (.iload 4, 2) := by decide +kernel
theorem dX11_spread_80 : decode cX11_spread 80 = .ok (.ifCond .eq 154, 3) := by decide +kernel
theorem dX11_spread_83 : decode cX11_spread 83 = .ok (.iconst 0, 1) := by decide +kernel
theorem dX11_spread_84 : decode cX11_spread 84 = .ok (.istore 4, 2) := by decide +kernel
theorem dX11_spread_86 : decode cX11_spread 86 = .ok (.iconst 0, 1) := by decide +kernel
theorem dX11_spread_87 : decode cX11_spread 87 = .ok (.istore 6, 2) := by decide +kernel
theorem dX11_spread_89 : decode cX11_spread 89 = .ok (.iload 6, 2) := by decide +kernel
theorem dX11_spread_91 : decode cX11_spread 91 = .ok (.aload_n 0, 1) := by decide +kernel
theorem dX11_spread_92 : decode cX11_spread 92 = .ok (.getfield 78, 3) := by decide +kernel
theorem dX11_spread_95 : decode cX11_spread 95 = .ok (.if_icmp .ge 133, 3) := by decide +kernel
theorem dX11_spread_98 : decode cX11_spread 98 = .ok (.aload_n 0, 1) := by decide +kernel
theorem dX11_spread_99 : decode cX11_spread 99 = .ok (.getfield 68, 3) := by decide +kernel
theorem dX11_spread_102 : decode cX11_spread 102 = .ok (.iload 6, 2) := by decide +kernel
theorem dX11_spread_104 : decode cX11_spread 104 = .ok (.iaload, 1) := by decide +kernel
theorem dX11_spread_105 : decode cX11_spread 105 = .ok (.iload 5, 2) := by decide +kernel
theorem dX11_spread_107 : decode cX11_spread 107 = .ok (.iconst 1, 1) := by decide +kernel
theorem dX11_spread_108 : decode cX11_spread 108 = .ok (.isub, 1) := by decide +kernel
theorem dX11_spread_109 : decode cX11_spread 109 = .ok (.if_icmp .ne 23, 3) := by decide +kernel
theorem dX11_spread_112 : decode cX11_spread 112 = .ok (.iload 5, 2) := by decide +kernel
theorem dX11_spread_114 : decode cX11_spread 114 = .ok (.iconst 1, 1) := by decide +kernel
theorem dX11_spread_115 : decode cX11_spread 115 = .ok (.if_icmp .eq 13, 3) := by decide +kernel
theorem dX11_spread_118 : decode cX11_spread 118 = .ok (.aload_n 0, 1) := by decide +kernel
theorem dX11_spread_119 : decode cX11_spread 119 = .ok (.getfield 13, 3) := by decide +kernel
theorem dX11_spread_122 : decode cX11_spread 122 = .ok (.iload 6, 2) := by decide +kernel
theorem dX11_spread_124 : decode cX11_spread 124 = .ok (.iaload, 1) := by decide +kernel
theorem dX11_spread_125 : decode cX11_spread 125 = .ok (.ifCond .ne 7, 3) := by decide +kernel
theorem dX11_spread_128 : decode cX11_spread 128 = .ok (.iconst 1, 1) := by decide +kernel
theorem dX11_spread_129 : decode cX11_spread 129 = .ok (.goto 4, 3) := by decide +kernel
theorem dX11_spread_132 : decode cX11_spread 132 = .ok (.iconst 0, 1) := by decide +kernel
theorem dX11_spread_133 : decode cX11_spread 133 = .ok (.istore 7, 2) := by decide +kernel
theorem dX11_spread_135 : decode cX11_spread 135 = .ok (.iconst 0, 1) := by decide +kernel
theorem dX11_spread_136 : decode cX11_spread 136 = .ok (.istore 8, 2) := by decide +kernel
theorem dX11_spread_138 : decode cX11_spread 138 = .ok (.iload 8, 2) := by decide +kernel
theorem dX11_spread_140 : decode cX11_spread 140 = .ok (.aload_n 0, 1) := by decide +kernel
theorem dX11_spread_141 : decode cX11_spread 141 = .ok (.getfield 78, 3) := by decide +kernel
theorem dX11_spread_144 : decode cX11_spread 144 = .ok (.if_icmp .ge 78, 3) := by decide +kernel
theorem dX11_spread_147 : decode cX11_spread 147 = .ok (.iload 7, 2) := by decide +kernel
theorem dX11_spread_149 : decode cX11_spread 149 = .ok (.ifCond .eq 73, 3) := by decide +kernel
theorem dX11_spread_152 : decode cX11_spread 152 = .ok (.aload_n 0, 1) := by decide +kernel
theorem dX11_spread_153 : decode cX11_spread 153 = .ok (.getfield 68, 3) := by decide +kernel
theorem dX11_spread_156 : decode cX11_spread 156 = .ok (.iload 8, 2) := by decide +kernel
theorem dX11_spread_158 : decode cX11_spread 158 = .ok (.iaload, 1) := by decide +kernel
theorem dX11_spread_159 : decode cX11_spread 159 = .ok (.iconst (-1), 1) := by decide +kernel
theorem dX11_spread_160 : decode cX11_spread 160 = .ok (.if_icmp .ne 56, 3) := by decide +kernel
theorem dX11_spread_163 : decode cX11_spread 163 = .ok (.aload_n 0, 1) := by decide +kernel
theorem dX11_spread_164 : decode cX11_spread 164 = .ok (.getfield 16, 3) := by decide +kernel
theorem dX11_spread_167 : decode cX11_spread 167 = .ok (.iload 8, 2) := by decide +kernel
theorem dX11_spread_169 : decode cX11_spread 169 = .ok (.baload, 1) := by decide +kernel
theorem dX11_spread_170 : decode cX11_spread 170 = .ok (.ifCond .eq 46, 3) := by decide +kernel
theorem dX11_spread_173 : decode cX11_spread 173 = .ok (.aload_n 0, 1) := by decide +kernel
theorem dX11_spread_174 : decode cX11_spread 174 = .ok (.getfield 13, 3) := by decide +kernel
theorem dX11_spread_177 : decode cX11_spread 177 = .ok (.iload 8, 2) := by decide +kernel
theorem dX11_spread_179 : decode cX11_spread 179 = .ok (.iaload, 1) := by decide +kernel
theorem dX11_spread_180 : decode cX11_spread 180 = .ok (.iconst 1, 1) := by decide +kernel
theorem dX11_spread_181 : decode cX11_spread 181 = .ok (.if_icmp .eq 35, 3) := by decide +kernel
theorem dX11_spread_184 : decode cX11_spread 184 = .ok (.aload_n 0, 1) := by decide +kernel
theorem dX11_spread_185 : decode cX11_spread 185 = .ok (.iload 6, 2) := by decide +kernel
theorem dX11_spread_187 : decode cX11_spread 187 = .ok (.iload 8, 2) := by decide +kernel
theorem dX11_spread_189 : decode cX11_spread 189 = .ok (.invokevirtual 99, 3) := by decide +kernel
theorem dX11_spread_192 : decode cX11_spread 192 = .ok (.ifCond .eq 24, 3) := by decide +kernel
theorem dX11_spread_195 : decode cX11_spread 195 = .ok (.aload_n 0, 1) := by decide +kernel
theorem dX11_spread_196 : decode cX11_spread 196 = .ok (.getfield 68, 3) := by decide +kernel
theorem dX11_spread_199 : decode cX11_spread 199 = .ok (.iload 8, 2) := by decide +kernel
theorem dX11_spread_201 : decode cX11_spread 201 = .ok (.iload 5, 2) := by decide +kernel
theorem dX11_spread_203 : decode cX11_spread 203 = .ok (.iastore, 1) := by decide +kernel
theorem dX11_spread_204 : decode cX11_spread 204 = .ok (.aload_n 0, 1) := by decide +kernel
theorem dX11_spread_205 : decode cX11_spread 205 = .ok (.iload 5, 2) := by decide +kernel
theorem dX11_spread_207 : decode cX11_spread 207 = .ok (.putfield 173, 3) := by decide +kernel
theorem dX11_spread_210 : decode cX11_spread 210 = .ok (.iconst 1, 1) := by decide +kernel
theorem dX11_spread_211 : decode cX11_spread 211 = .ok (.istore 4, 2) := by decide +kernel
theorem dX11_spread_213 : decode cX11_spread 213 = .ok (.iinc 3 1, 3) := by decide +kernel
theorem dX11_spread_216 : decode cX11_spread 216 = .ok (.iinc 8 1, 3) := by decide +kernel
theorem dX11_spread_219 : decode cX11_spread 219 = .ok (.goto (-81), 3) := by decide +kernel
theorem dX11_spread_222 : decode cX11_spread 222 = .ok (.iinc 6 1, 3) := by decide +kernel
theorem dX11_spread_225 : decode cX11_spread 225 = .ok (.goto (-136), 3) := by decide +kernel
theorem dX11_spread_228 : decode cX11_spread 228 = .ok (.iinc 5 1, 3) := by decide +kernel
theorem dX11_spread_231 : decode cX11_spread 231 = .ok (.goto (-153), 3) := by decide +kernel
theorem dX11_spread_234 : decode cX11_spread 234 = .ok (.iload_n 3, 1) := by decide +kernel
theorem dX11_spread_235 : decode cX11_spread 235 = .ok (.ireturn, 1) := by decide +kernel
theorem dX11_rounds_0 : decode cX11_rounds 0 = .ok (.aload_n 0, 1) := by decide +kernel
theorem dX11_rounds_1 : decode cX11_rounds 1 = .ok (.iconst 0, 1) := by decide +kernel
theorem dX11_rounds_2 : decode cX11_rounds 2 = .ok (.putfield 74, 3) := by decide +kernel
theorem dX11_rounds_5 : decode cX11_rounds 5 = .ok (.aload_n 0, 1) := by decide +kernel
theorem dX11_rounds_6 : decode cX11_rounds 6 = .ok (.getfield 173, 3) := by decide +kernel
theorem dX11_rounds_9 : decode cX11_rounds 9 = .ok (.ireturn, 1) := by decide +kernel
set_option maxRecDepth 20000 in
theorem ggX11_owes_X11_isPeer : GoodIn wsX11_owes wsX11_isPeer := goodIn_r _ [6, 7, 8, 9, 5, 10, 16, 17, 18, 19, 20, 21, 22, 23, 24, 25, 26, 27, 28, 29, 30, 31, 32, 33, 34, 35, 36, 37, 38, 39, 40, 41, 42, 43] (by decide +kernel) (by decide +kernel)
set_option maxRecDepth 20000 in
theorem gX11_owes_X11_isPeer : GoodIn wsX11_owes (wsV RX11 117 RX11 yX11_isPeer wsX11_isPeer) := goodIn_app (goodIn_of _ (by decide +kernel)) ggX11_owes_X11_isPeer
set_option maxRecDepth 20000 in
theorem ggX11_owes_X11_holds : GoodIn wsX11_owes wsX11_holds := goodIn_r _ [14, 15, 16, 17, 18, 19, 20, 21, 22, 23, 24, 25, 26, 27, 28, 29, 30, 31, 32, 33, 34, 35, 36, 37, 38, 39, 40, 41, 42, 43] (by decide +kernel) (by decide +kernel)
set_option maxRecDepth 20000 in
theorem gX11_owes_X11_holds : GoodIn wsX11_owes (wsV RX11 124 RX11 yX11_holds wsX11_holds) := goodIn_app (goodIn_of _ (by decide +kernel)) ggX11_owes_X11_holds
theorem dX11_owes_0 : decode cX11_owes 0 = .ok (.aload_n 0, 1) := by decide +kernel
theorem dX11_owes_1 : decode cX11_owes 1 = .ok (.aload_n 0, 1) := by decide +kernel
theorem dX11_owes_2 : decode cX11_owes 2 = .ok (.iload_n 1, 1) := by decide +kernel
theorem dX11_owes_3 : decode cX11_owes 3 = .ok (.invokevirtual 117, 3) := by decide +kernel
theorem dX11_owes_6 : decode cX11_owes 6 = .ok (.ifCond .eq 15, 3) := by decide +kernel
theorem dX11_owes_9 : decode cX11_owes 9 = .ok (.aload_n 0, 1) := by decide +kernel
theorem dX11_owes_10 : decode cX11_owes 10 = .ok (.iload_n 2, 1) := by decide +kernel
theorem dX11_owes_11 : decode cX11_owes 11 = .ok (.invokevirtual 117, 3) := by decide +kernel
theorem dX11_owes_14 : decode cX11_owes 14 = .ok (.ifCond .eq 7, 3) := by decide +kernel
theorem dX11_owes_17 : decode cX11_owes 17 = .ok (.iconst 0, 1) := by decide +kernel
theorem dX11_owes_18 : decode cX11_owes 18 = .ok (.goto 4, 3) := by decide +kernel
theorem dX11_owes_21 : decode cX11_owes 21 = .ok (.iconst 1, 1) := by decide +kernel
theorem dX11_owes_22 : decode cX11_owes 22 = .ok (.invokevirtual 124, 3) := by decide +kernel
theorem dX11_owes_25 : decode cX11_owes 25 = .ok (.ifCond .eq 17, 3) := by decide +kernel
theorem dX11_owes_28 : decode cX11_owes 28 = .ok (.aload_n 0, 1) := by decide +kernel
theorem dX11_owes_29 : decode cX11_owes 29 = .ok (.getfield 71, 3) := by decide +kernel
theorem dX11_owes_32 : decode cX11_owes 32 = .ok (.bipush 16, 2) := by decide +kernel
theorem dX11_owes_34 : decode cX11_owes 34 = .ok (.iload_n 1, 1) := by decide +kernel
theorem dX11_owes_35 : decode cX11_owes 35 = .ok (.imul, 1) := by decide +kernel
theorem dX11_owes_36 : decode cX11_owes 36 = .ok (.iload_n 2, 1) := by decide +kernel
theorem dX11_owes_37 : decode cX11_owes 37 = .ok (.iadd, 1) := by decide +kernel
theorem dX11_owes_38 : decode cX11_owes 38 = .ok (.iaload, 1) := by decide +kernel
theorem dX11_owes_39 : decode cX11_owes 39 = .ok (.goto 4, 3) := by decide +kernel
theorem dX11_owes_42 : decode cX11_owes 42 = .ok (.iconst 0, 1) := by decide +kernel
theorem dX11_owes_43 : decode cX11_owes 43 = .ok (.ireturn, 1) := by decide +kernel
theorem dX11_lessens_0 : decode cX11_lessens 0 = .ok (.bipush 16, 2) := by decide +kernel
theorem dX11_lessens_2 : decode cX11_lessens 2 = .ok (.iload_n 1, 1) := by decide +kernel
theorem dX11_lessens_3 : decode cX11_lessens 3 = .ok (.imul, 1) := by decide +kernel
theorem dX11_lessens_4 : decode cX11_lessens 4 = .ok (.iload_n 2, 1) := by decide +kernel
theorem dX11_lessens_5 : decode cX11_lessens 5 = .ok (.iadd, 1) := by decide +kernel
theorem dX11_lessens_6 : decode cX11_lessens 6 = .ok (.istore 4, 2) := by decide +kernel
theorem dX11_lessens_8 : decode cX11_lessens 8 = .ok (.bipush 16, 2) := by decide +kernel
theorem dX11_lessens_10 : decode cX11_lessens 10 = .ok (.iload_n 2, 1) := by decide +kernel
theorem dX11_lessens_11 : decode cX11_lessens 11 = .ok (.imul, 1) := by decide +kernel
theorem dX11_lessens_12 : decode cX11_lessens 12 = .ok (.iload_n 3, 1) := by decide +kernel
theorem dX11_lessens_13 : decode cX11_lessens 13 = .ok (.iload_n 1, 1) := by decide +kernel
theorem dX11_lessens_14 : decode cX11_lessens 14 = .ok (.if_icmp .ne 7, 3) := by decide +kernel
theorem dX11_lessens_17 : decode cX11_lessens 17 = .ok (.iload_n 1, 1) := by decide +kernel
theorem dX11_lessens_18 : decode cX11_lessens 18 = .ok (.goto 4, 3) := by decide +kernel
theorem dX11_lessens_21 : decode cX11_lessens 21 = .ok (.iload_n 3, 1) := by decide +kernel
theorem dX11_lessens_22 : decode cX11_lessens 22 = .ok (.iadd, 1) := by decide +kernel
theorem dX11_lessens_23 : decode cX11_lessens 23 = .ok (.istore 5, 2) := by decide +kernel
theorem dX11_lessens_25 : decode cX11_lessens 25 = .ok (.iload_n 3, 1) := by decide +kernel
theorem dX11_lessens_26 : decode cX11_lessens 26 = .ok (.iload_n 1, 1) := by decide +kernel
theorem dX11_lessens_27 : decode cX11_lessens 27 = .ok (.if_icmp .ne 8, 3) := by decide +kernel
theorem dX11_lessens_30 : decode cX11_lessens 30 = .ok (.iload 5, 2) := by decide +kernel
theorem dX11_lessens_32 : decode cX11_lessens 32 = .ok (.goto 9, 3) := by decide +kernel
theorem dX11_lessens_35 : decode cX11_lessens 35 = .ok (.bipush 16, 2) := by decide +kernel
theorem dX11_lessens_37 : decode cX11_lessens 37 = .ok (.iload_n 3, 1) := by decide +kernel
theorem dX11_lessens_38 : decode cX11_lessens 38 = .ok (.imul, 1) := by decide +kernel
theorem dX11_lessens_39 : decode cX11_lessens 39 = .ok (.iload_n 1, 1) := by decide +kernel
theorem dX11_lessens_40 : decode cX11_lessens 40 = .ok (.iadd, 1) := by decide +kernel
theorem dX11_lessens_41 : decode cX11_lessens 41 = .ok (.istore 6, 2) := by decide +kernel
theorem dX11_lessens_43 : decode cX11_lessens 43 = .ok (.aload_n 0, 1) := by decide +kernel
theorem dX11_lessens_44 : decode cX11_lessens 44 = .ok (.getfield 71, 3) := by decide +kernel
theorem dX11_lessens_47 : decode cX11_lessens 47 = .ok (.iload 4, 2) := by decide +kernel
theorem dX11_lessens_49 : decode cX11_lessens 49 = .ok (.iaload, 1) := by decide +kernel
theorem dX11_lessens_50 : decode cX11_lessens 50 = .ok (.aload_n 0, 1) := by decide +kernel
theorem dX11_lessens_51 : decode cX11_lessens 51 = .ok (.getfield 71, 3) := by decide +kernel
theorem dX11_lessens_54 : decode cX11_lessens 54 = .ok (.iload 5, 2) := by decide +kernel
theorem dX11_lessens_56 : decode cX11_lessens 56 = .ok (.iaload, 1) := by decide +kernel
theorem dX11_lessens_57 : decode cX11_lessens 57 = .ok (.if_icmp .ge 13, 3) := by decide +kernel
theorem dX11_lessens_60 : decode cX11_lessens 60 = .ok (.aload_n 0, 1) := by decide +kernel
theorem dX11_lessens_61 : decode cX11_lessens 61 = .ok (.getfield 71, 3) := by decide +kernel
theorem dX11_lessens_64 : decode cX11_lessens 64 = .ok (.iload 4, 2) := by decide +kernel
theorem dX11_lessens_66 : decode cX11_lessens 66 = .ok (.iaload, 1) := by decide +kernel
theorem dX11_lessens_67 : decode cX11_lessens 67 = .ok (.goto 10, 3) := by decide +kernel
theorem dX11_lessens_70 : decode cX11_lessens 70 = .ok (.aload_n 0, 1) := by decide +kernel
theorem dX11_lessens_71 : decode cX11_lessens 71 = .ok (.getfield 71, 3) := by decide +kernel
theorem dX11_lessens_74 : decode cX11_lessens 74 = .ok (.iload 5, 2) := by decide +kernel
theorem dX11_lessens_76 : decode cX11_lessens 76 = .ok (.iaload, 1) := by decide +kernel
theorem dX11_lessens_77 : decode cX11_lessens 77 = .ok (.istore 7, 2) := by decide +kernel
theorem dX11_lessens_79 : decode cX11_lessens 79 = .ok (.aload_n 0, 1) := by decide +kernel
theorem dX11_lessens_80 : decode cX11_lessens 80 = .ok (.getfield 71, 3) := by decide +kernel
theorem dX11_lessens_83 : decode cX11_lessens 83 = .ok (.iload 6, 2) := by decide +kernel
theorem dX11_lessens_85 : decode cX11_lessens 85 = .ok (.iaload, 1) := by decide +kernel
theorem dX11_lessens_86 : decode cX11_lessens 86 = .ok (.iload 7, 2) := by decide +kernel
theorem dX11_lessens_88 : decode cX11_lessens 88 = .ok (.if_icmp .ge 13, 3) := by decide +kernel
theorem dX11_lessens_91 : decode cX11_lessens 91 = .ok (.aload_n 0, 1) := by decide +kernel
theorem dX11_lessens_92 : decode cX11_lessens 92 = .ok (.getfield 71, 3) := by decide +kernel
theorem dX11_lessens_95 : decode cX11_lessens 95 = .ok (.iload 6, 2) := by decide +kernel
theorem dX11_lessens_97 : decode cX11_lessens 97 = .ok (.iaload, 1) := by decide +kernel
theorem dX11_lessens_98 : decode cX11_lessens 98 = .ok (.goto 5, 3) := by decide +kernel
theorem dX11_lessens_101 : decode cX11_lessens 101 = .ok (.iload 7, 2) := by decide +kernel
theorem dX11_lessens_103 : decode cX11_lessens 103 = .ok (.istore 7, 2) := by decide +kernel
theorem dX11_lessens_105 : decode cX11_lessens 105 = .ok (.aload_n 0, 1) := by decide +kernel
theorem dX11_lessens_106 : decode cX11_lessens 106 = .ok (.getfield 71, 3) := by decide +kernel
theorem dX11_lessens_109 : decode cX11_lessens 109 = .ok (.iload 4, 2) := by decide +kernel
theorem dX11_lessens_111 : decode cX11_lessens 111 = .ok (.dup2, 1) := by decide +kernel
theorem dX11_lessens_112 : decode cX11_lessens 112 = .ok (.iaload, 1) := by decide +kernel
theorem dX11_lessens_113 : decode cX11_lessens 113 = .ok (.iload 7, 2) := by decide +kernel
theorem dX11_lessens_115 : decode cX11_lessens 115 = .ok (.isub, 1) := by decide +kernel
theorem dX11_lessens_116 : decode cX11_lessens 116 = .ok (.iastore, 1) := by decide +kernel
theorem dX11_lessens_117 : decode cX11_lessens 117 = .ok (.aload_n 0, 1) := by decide +kernel
theorem dX11_lessens_118 : decode cX11_lessens 118 = .ok (.getfield 71, 3) := by decide +kernel
theorem dX11_lessens_121 : decode cX11_lessens 121 = .ok (.iload 5, 2) := by decide +kernel
theorem dX11_lessens_123 : decode cX11_lessens 123 = .ok (.dup2, 1) := by decide +kernel
theorem dX11_lessens_124 : decode cX11_lessens 124 = .ok (.iaload, 1) := by decide +kernel
theorem dX11_lessens_125 : decode cX11_lessens 125 = .ok (.iload 7, 2) := by decide +kernel
theorem dX11_lessens_127 : decode cX11_lessens 127 = .ok (.isub, 1) := by decide +kernel
theorem dX11_lessens_128 : decode cX11_lessens 128 = .ok (.iastore, 1) := by decide +kernel
theorem dX11_lessens_129 : decode cX11_lessens 129 = .ok (.aload_n 0, 1) := by decide +kernel
theorem dX11_lessens_130 : decode cX11_lessens 130 = .ok (.getfield 71, 3) := by decide +kernel
theorem dX11_lessens_133 : decode cX11_lessens 133 = .ok (.iload 6, 2) := by decide +kernel
theorem dX11_lessens_135 : decode cX11_lessens 135 = .ok (.dup2, 1) := by decide +kernel
theorem dX11_lessens_136 : decode cX11_lessens 136 = .ok (.iaload, 1) := by decide +kernel
theorem dX11_lessens_137 : decode cX11_lessens 137 = .ok (.iload_n 3, 1) := by decide +kernel
theorem dX11_lessens_138 : decode cX11_lessens 138 = .ok (.iload_n 1, 1) := by decide +kernel
theorem dX11_lessens_139 : decode cX11_lessens 139 = .ok (.if_icmp .ne 7, 3) := by decide +kernel
theorem dX11_lessens_142 : decode cX11_lessens 142 = .ok (.iconst 0, 1) := by decide +kernel
theorem dX11_lessens_143 : decode cX11_lessens 143 = .ok (.goto 5, 3) := by decide +kernel
theorem dX11_lessens_146 : decode cX11_lessens 146 = .ok (.iload 7, 2) := by decide +kernel
theorem dX11_lessens_148 : decode cX11_lessens 148 = .ok (.isub, 1) := by decide +kernel
theorem dX11_lessens_149 : decode cX11_lessens 149 = .ok (.iastore, 1) := by decide +kernel
theorem dX11_lessens_150 : decode cX11_lessens 150 = .ok (.iload 7, 2) := by decide +kernel
theorem dX11_lessens_152 : decode cX11_lessens 152 = .ok (.iload_n 3, 1) := by decide +kernel
theorem dX11_lessens_153 : decode cX11_lessens 153 = .ok (.iload_n 1, 1) := by decide +kernel
theorem dX11_lessens_154 : decode cX11_lessens 154 = .ok (.if_icmp .ne 7, 3) := by decide +kernel
theorem dX11_lessens_157 : decode cX11_lessens 157 = .ok (.iconst 2, 1) := by decide +kernel
theorem dX11_lessens_158 : decode cX11_lessens 158 = .ok (.goto 4, 3) := by decide +kernel
theorem dX11_lessens_161 : decode cX11_lessens 161 = .ok (.iconst 3, 1) := by decide +kernel
theorem dX11_lessens_162 : decode cX11_lessens 162 = .ok (.imul, 1) := by decide +kernel
theorem dX11_lessens_163 : decode cX11_lessens 163 = .ok (.ireturn, 1) := by decide +kernel
set_option maxRecDepth 20000 in
theorem ggX11_nets_X11_lessens : GoodIn wsX11_nets wsX11_lessens := goodIn_r _ [6, 7, 8, 9, 10, 11, 12, 13, 14, 15, 16, 17, 18, 19, 20, 21, 22, 23, 24, 25, 26, 27, 28, 29, 30, 31, 32, 33, 34, 35] (by decide +kernel) (by decide +kernel)
set_option maxRecDepth 20000 in
theorem gX11_nets_X11_lessens : GoodIn wsX11_nets (wsV RX11 176 RX11 yX11_lessens wsX11_lessens) := goodIn_app (goodIn_of _ (by decide +kernel)) ggX11_nets_X11_lessens
theorem dX11_nets_0 : decode cX11_nets 0 = .ok (.iconst 0, 1) := by decide +kernel
theorem dX11_nets_1 : decode cX11_nets 1 = .ok (.istore_n 1, 1) := by decide +kernel
theorem dX11_nets_2 : decode cX11_nets 2 = .ok (.iload_n 1, 1) := by decide +kernel
theorem dX11_nets_3 : decode cX11_nets 3 = .ok (.aload_n 0, 1) := by decide +kernel
theorem dX11_nets_4 : decode cX11_nets 4 = .ok (.getfield 78, 3) := by decide +kernel
theorem dX11_nets_7 : decode cX11_nets 7 = .ok (.if_icmp .ge 41, 3) := by decide +kernel
theorem dX11_nets_10 : decode cX11_nets 10 = .ok (.iload_n 1, 1) := by decide +kernel
theorem dX11_nets_11 : decode cX11_nets 11 = .ok (.iconst 1, 1) := by decide +kernel
theorem dX11_nets_12 : decode cX11_nets 12 = .ok (.iadd, 1) := by decide +kernel
theorem dX11_nets_13 : decode cX11_nets 13 = .ok (.istore_n 2, 1) := by decide +kernel
theorem dX11_nets_14 : decode cX11_nets 14 = .ok (.iload_n 2, 1) := by decide +kernel
theorem dX11_nets_15 : decode cX11_nets 15 = .ok (.aload_n 0, 1) := by decide +kernel
theorem dX11_nets_16 : decode cX11_nets 16 = .ok (.getfield 78, 3) := by decide +kernel
theorem dX11_nets_19 : decode cX11_nets 19 = .ok (.if_icmp .ge 23, 3) := by decide +kernel
theorem dX11_nets_22 : decode cX11_nets 22 = .ok (.aload_n 0, 1) := by decide +kernel
theorem dX11_nets_23 : decode cX11_nets 23 = .ok (.iload_n 1, 1) := by decide +kernel
theorem dX11_nets_24 : decode cX11_nets 24 = .ok (.iload_n 2, 1) := by decide +kernel
theorem dX11_nets_25 : decode cX11_nets 25 = .ok (.iload_n 1, 1) := by decide +kernel
theorem dX11_nets_26 : decode cX11_nets 26 = .ok (.invokevirtual 176, 3) := by decide +kernel
theorem dX11_nets_29 : decode cX11_nets 29 = .ok (.istore_n 3, 1) := by decide +kernel
theorem dX11_nets_30 : decode cX11_nets 30 = .ok (.iload_n 3, 1) := by decide +kernel
theorem dX11_nets_31 : decode cX11_nets 31 = .ok (.ifCond .le 5, 3) := by decide +kernel
theorem dX11_nets_34 : decode cX11_nets 34 = .ok (.iload_n 3, 1) := by decide +kernel
theorem dX11_nets_35 : decode cX11_nets 35 = .ok (.ireturn, 1) := by decide +kernel
theorem dX11_nets_36 : decode cX11_nets 36 = .ok (.iinc 2 1, 3) := by decide +kernel
theorem dX11_nets_39 : decode cX11_nets 39 = .ok (.goto (-25), 3) := by decide +kernel
theorem dX11_nets_42 : decode cX11_nets 42 = .ok (.iinc 1 1, 3) := by decide +kernel
theorem dX11_nets_45 : decode cX11_nets 45 = .ok (.goto (-43), 3) := by decide +kernel
theorem dX11_nets_48 : decode cX11_nets 48 = .ok (.iconst 0, 1) := by decide +kernel
theorem dX11_nets_49 : decode cX11_nets 49 = .ok (.istore_n 1, 1) := by decide +kernel
theorem dX11_nets_50 : decode cX11_nets 50 = .ok (.iload_n 1, 1) := by decide +kernel
theorem dX11_nets_51 : decode cX11_nets 51 = .ok (.aload_n 0, 1) := by decide +kernel
theorem dX11_nets_52 : decode cX11_nets 52 = .ok (.getfield 78, 3) := by decide +kernel
theorem dX11_nets_55 : decode cX11_nets 55 = .ok (.if_icmp .ge 71, 3) := by decide +kernel
theorem dX11_nets_58 : decode cX11_nets 58 = .ok (.iload_n 1, 1) := by decide +kernel
theorem dX11_nets_59 : decode cX11_nets 59 = .ok (.iconst 1, 1) := by decide +kernel
theorem dX11_nets_60 : decode cX11_nets 60 = .ok (.iadd, 1) := by decide +kernel
theorem dX11_nets_61 : decode cX11_nets 61 = .ok (.istore_n 2, 1) := by decide +kernel
theorem dX11_nets_62 : decode cX11_nets 62 = .ok (.iload_n 2, 1) := by decide +kernel
theorem dX11_nets_63 : decode cX11_nets 63 = .ok (.aload_n 0, 1) := by decide +kernel
theorem dX11_nets_64 : decode cX11_nets 64 = .ok (.getfield 78, 3) := by decide +kernel
theorem dX11_nets_67 : decode cX11_nets 67 = .ok (.if_icmp .ge 53, 3) := by decide +kernel
theorem dX11_nets_70 : decode cX11_nets 70 = .ok (.iload_n 1, 1) := by decide +kernel
theorem dX11_nets_71 : decode cX11_nets 71 = .ok (.iconst 1, 1) := by decide +kernel
theorem dX11_nets_72 : decode cX11_nets 72 = .ok (.iadd, 1) := by decide +kernel
theorem dX11_nets_73 : decode cX11_nets 73 = .ok (.istore_n 3, 1) := by decide +kernel
theorem dX11_nets_74 : decode cX11_nets 74 = .ok (.iload_n 3, 1) := by decide +kernel
theorem dX11_nets_75 : decode cX11_nets 75 = .ok (.aload_n 0, 1) := by decide +kernel
theorem dX11_nets_76 : decode cX11_nets 76 = .ok (.getfield 78, 3) := by decide +kernel
theorem dX11_nets_79 : decode cX11_nets 79 = .ok (.if_icmp .ge 35, 3) := by decide +kernel
theorem dX11_nets_82 : decode cX11_nets 82 = .ok (.iload_n 3, 1) := by decide +kernel
theorem dX11_nets_83 : decode cX11_nets 83 = .ok (.iload_n 2, 1) := by decide +kernel
theorem dX11_nets_84 : decode cX11_nets 84 = .ok (.if_icmp .ne 7, 3) := by decide +kernel
theorem dX11_nets_87 : decode cX11_nets 87 = .ok (.iconst 0, 1) := by decide +kernel
theorem dX11_nets_88 : decode cX11_nets 88 = .ok (.goto 10, 3) := by decide +kernel
theorem dX11_nets_91 : decode cX11_nets 91 = .ok (.aload_n 0, 1) := by decide +kernel
theorem dX11_nets_92 : decode cX11_nets 92 = .ok (.iload_n 1, 1) := by decide +kernel
theorem dX11_nets_93 : decode cX11_nets 93 = .ok (.iload_n 2, 1) := by decide +kernel
theorem dX11_nets_94 : decode cX11_nets 94 = .ok (.iload_n 3, 1) := by decide +kernel
theorem dX11_nets_95 : decode cX11_nets 95 = .ok (.invokevirtual 176, 3) := by decide +kernel
theorem dX11_nets_98 : decode cX11_nets 98 = .ok (.istore 4, 2) := by decide +kernel
theorem dX11_nets_100 : decode cX11_nets 100 = .ok (.iload 4, 2) := by decide +kernel
theorem dX11_nets_102 : decode cX11_nets 102 = .ok (.ifCond .le 6, 3) := by decide +kernel
theorem dX11_nets_105 : decode cX11_nets 105 = .ok (.iload 4, 2) := by decide +kernel
theorem dX11_nets_107 : decode cX11_nets 107 = .ok (.ireturn, 1) := by decide +kernel
theorem dX11_nets_108 : decode cX11_nets 108 = .ok (.iinc 3 1, 3) := by decide +kernel
theorem dX11_nets_111 : decode cX11_nets 111 = .ok (.goto (-37), 3) := by decide +kernel
theorem dX11_nets_114 : decode cX11_nets 114 = .ok (.iinc 2 1, 3) := by decide +kernel
theorem dX11_nets_117 : decode cX11_nets 117 = .ok (.goto (-55), 3) := by decide +kernel
theorem dX11_nets_120 : decode cX11_nets 120 = .ok (.iinc 1 1, 3) := by decide +kernel
theorem dX11_nets_123 : decode cX11_nets 123 = .ok (.goto (-73), 3) := by decide +kernel
theorem dX11_nets_126 : decode cX11_nets 126 = .ok (.iconst 0, 1) := by decide +kernel
theorem dX11_nets_127 : decode cX11_nets 127 = .ok (.ireturn, 1) := by decide +kernel
set_option maxRecDepth 20000 in
theorem ggX11_net_X11_nets : GoodIn wsX11_net wsX11_nets := goodIn_r _ [6, 7, 8, 9, 10, 5, 11, 12, 13, 14, 15, 16, 17, 18, 19, 20, 21, 22, 23, 24, 25, 26, 27, 28, 29, 30, 31, 32, 33, 34, 35, 36, 37, 38, 39, 40] (by decide +kernel) (by decide +kernel)
set_option maxRecDepth 20000 in
theorem gX11_net_X11_nets : GoodIn wsX11_net (wsV RX11 180 RX11 yX11_nets wsX11_nets) := goodIn_app (goodIn_of _ (by decide +kernel)) ggX11_net_X11_nets
theorem dX11_net_0 : decode cX11_net 0 = .ok (.aload_n 0, 1) := by decide +kernel
theorem dX11_net_1 : decode cX11_net 1 = .ok (.iconst 0, 1) := by decide +kernel
theorem dX11_net_2 : decode cX11_net 2 = .ok (.putfield 74, 3) := by decide +kernel
theorem dX11_net_5 : decode cX11_net 5 = .ok (.iconst 0, 1) := by decide +kernel
theorem dX11_net_6 : decode cX11_net 6 = .ok (.istore_n 1, 1) := by decide +kernel
theorem dX11_net_7 : decode cX11_net 7 = .ok (.aload_n 0, 1) := by decide +kernel
theorem dX11_net_8 : decode cX11_net 8 = .ok (.invokevirtual 180, 3) := by decide +kernel
theorem dX11_net_11 : decode cX11_net 11 = .ok (.istore_n 2, 1) := by decide +kernel
theorem dX11_net_12 : decode cX11_net 12 = .ok (.iload_n 2, 1) := by decide +kernel
theorem dX11_net_13 : decode cX11_net 13 = .ok (.ifCond .le 15, 3) := by decide +kernel
theorem dX11_net_16 : decode cX11_net 16 = .ok (.iload_n 1, 1) := by decide +kernel
theorem dX11_net_17 : decode cX11_net 17 = .ok (.iload_n 2, 1) := by decide +kernel
theorem dX11_net_18 : decode cX11_net 18 = .ok (.iadd, 1) := by decide +kernel
theorem dX11_net_19 : decode cX11_net 19 = .ok (.istore_n 1, 1) := by decide +kernel
theorem dX11_net_20 : decode cX11_net 20 = .ok (.aload_n 0, 1) := by decide +kernel
theorem dX11_net_21 : decode cX11_net 21 = .ok (.invokevirtual 180, 3) := by decide +kernel
theorem dX11_net_24 : decode cX11_net 24 = .ok (.istore_n 2, 1) := by decide +kernel
theorem dX11_net_25 : decode cX11_net 25 = .ok (.goto (-13), 3) := by decide +kernel
theorem dX11_net_28 : decode cX11_net 28 = .ok (.iload_n 1, 1) := by decide +kernel
theorem dX11_net_29 : decode cX11_net 29 = .ok (.ireturn, 1) := by decide +kernel
set_option maxRecDepth 20000 in
theorem ggX11_worth_X11_isPeer : GoodIn wsX11_worth wsX11_isPeer := goodIn_r _ [7, 1, 8, 9, 6, 10, 16, 17, 18, 19, 20, 21, 22, 23, 24, 25, 26, 27, 28, 29, 30, 31, 32, 33, 34, 35, 36, 37, 38, 39, 40, 41, 42, 43] (by decide +kernel) (by decide +kernel)
set_option maxRecDepth 20000 in
theorem gX11_worth_X11_isPeer : GoodIn wsX11_worth (wsV RX11 117 RX11 yX11_isPeer wsX11_isPeer) := goodIn_app (goodIn_of _ (by decide +kernel)) ggX11_worth_X11_isPeer
set_option maxRecDepth 20000 in
theorem ggX11_worth_X11_holds : GoodIn wsX11_worth wsX11_holds := goodIn_r _ [14, 15, 16, 17, 18, 19, 20, 21, 22, 23, 24, 25, 26, 27, 28, 29, 30, 31, 32, 33, 34, 35, 36, 37, 38, 39, 40, 41, 42, 43] (by decide +kernel) (by decide +kernel)
set_option maxRecDepth 20000 in
theorem gX11_worth_X11_holds : GoodIn wsX11_worth (wsV RX11 124 RX11 yX11_holds wsX11_holds) := goodIn_app (goodIn_of _ (by decide +kernel)) ggX11_worth_X11_holds
theorem dX11_worth_0 : decode cX11_worth 0 = .ok (.aload_n 0, 1) := by decide +kernel
theorem dX11_worth_1 : decode cX11_worth 1 = .ok (.aload_n 0, 1) := by decide +kernel
theorem dX11_worth_2 : decode cX11_worth 2 = .ok (.iload_n 1, 1) := by decide +kernel
theorem dX11_worth_3 : decode cX11_worth 3 = .ok (.invokevirtual 117, 3) := by decide +kernel
theorem dX11_worth_6 : decode cX11_worth 6 = .ok (.ifCond .eq 7, 3) := by decide +kernel
theorem dX11_worth_9 : decode cX11_worth 9 = .ok (.iconst 0, 1) := by decide +kernel
theorem dX11_worth_10 : decode cX11_worth 10 = .ok (.goto 4, 3) := by decide +kernel
theorem dX11_worth_13 : decode cX11_worth 13 = .ok (.iconst 1, 1) := by decide +kernel
theorem dX11_worth_14 : decode cX11_worth 14 = .ok (.invokevirtual 124, 3) := by decide +kernel
theorem dX11_worth_17 : decode cX11_worth 17 = .ok (.ifCond .ne 5, 3) := by decide +kernel
theorem dX11_worth_20 : decode cX11_worth 20 = .ok (.iconst 0, 1) := by decide +kernel
theorem dX11_worth_21 : decode cX11_worth 21 = .ok (.ireturn, 1) := by decide +kernel
theorem dX11_worth_22 : decode cX11_worth 22 = .ok (.iconst 0, 1) := by decide +kernel
theorem dX11_worth_23 : decode cX11_worth 23 = .ok (.istore_n 2, 1) := by decide +kernel
theorem dX11_worth_24 : decode cX11_worth 24 = .ok (.iconst 0, 1) := by decide +kernel
theorem dX11_worth_25 : decode cX11_worth 25 = .ok (.istore_n 3, 1) := by decide +kernel
theorem dX11_worth_26 : decode cX11_worth 26 = .ok (.iload_n 3, 1) := by decide +kernel
theorem dX11_worth_27 : decode cX11_worth 27 = .ok (.aload_n 0, 1) := by decide +kernel
theorem dX11_worth_28 : decode cX11_worth 28 = .ok (.getfield 78, 3) := by decide +kernel
theorem dX11_worth_31 : decode cX11_worth 31 = .ok (.if_icmp .ge 35, 3) := by decide +kernel
theorem dX11_worth_34 : decode cX11_worth 34 = .ok (.iload_n 2, 1) := by decide +kernel
theorem dX11_worth_35 : decode cX11_worth 35 = .ok (.aload_n 0, 1) := by decide +kernel
theorem dX11_worth_36 : decode cX11_worth 36 = .ok (.getfield 71, 3) := by decide +kernel
theorem dX11_worth_39 : decode cX11_worth 39 = .ok (.bipush 16, 2) := by decide +kernel
theorem dX11_worth_41 : decode cX11_worth 41 = .ok (.iload_n 3, 1) := by decide +kernel
theorem dX11_worth_42 : decode cX11_worth 42 = .ok (.imul, 1) := by decide +kernel
theorem dX11_worth_43 : decode cX11_worth 43 = .ok (.iload_n 1, 1) := by decide +kernel
theorem dX11_worth_44 : decode cX11_worth 44 = .ok (.iadd, 1) := by decide +kernel
theorem dX11_worth_45 : decode cX11_worth 45 = .ok (.iaload, 1) := by decide +kernel
theorem dX11_worth_46 : decode cX11_worth 46 = .ok (.aload_n 0, 1) := by decide +kernel
theorem dX11_worth_47 : decode cX11_worth 47 = .ok (.getfield 71, 3) := by decide +kernel
theorem dX11_worth_50 : decode cX11_worth 50 = .ok (.bipush 16, 2) := by decide +kernel
theorem dX11_worth_52 : decode cX11_worth 52 = .ok (.iload_n 1, 1) := by decide +kernel
theorem dX11_worth_53 : decode cX11_worth 53 = .ok (.imul, 1) := by decide +kernel
theorem dX11_worth_54 : decode cX11_worth 54 = .ok (.iload_n 3, 1) := by decide +kernel
theorem dX11_worth_55 : decode cX11_worth 55 = .ok (.iadd, 1) := by decide +kernel
theorem dX11_worth_56 : decode cX11_worth 56 = .ok (.iaload, 1) := by decide +kernel
theorem dX11_worth_57 : decode cX11_worth 57 = .ok (.isub, 1) := by decide +kernel
theorem dX11_worth_58 : decode cX11_worth 58 = .ok (.iadd, 1) := by decide +kernel
theorem dX11_worth_59 : decode cX11_worth 59 = .ok (.istore_n 2, 1) := by decide +kernel
theorem dX11_worth_60 : decode cX11_worth 60 = .ok (.iinc 3 1, 3) := by decide +kernel
theorem dX11_worth_63 : decode cX11_worth 63 = .ok (.goto (-37), 3) := by decide +kernel
theorem dX11_worth_66 : decode cX11_worth 66 = .ok (.iload_n 2, 1) := by decide +kernel
theorem dX11_worth_67 : decode cX11_worth 67 = .ok (.ireturn, 1) := by decide +kernel
theorem dJ6_bitCount_0f7a4_0 : decode cJ6_bitCount_0f7a4 0 = .ok (.iload_n 0, 1) := by decide +kernel
theorem dJ6_bitCount_0f7a4_1 : decode cJ6_bitCount_0f7a4 1 = .ok (.iload_n 0, 1) := by decide +kernel
theorem dJ6_bitCount_0f7a4_2 : decode cJ6_bitCount_0f7a4 2 = .ok (.iconst 1, 1) := by decide +kernel
theorem dJ6_bitCount_0f7a4_3 : decode cJ6_bitCount_0f7a4 3 = .ok (.iushr, 1) := by decide +kernel
theorem dJ6_bitCount_0f7a4_4 : decode cJ6_bitCount_0f7a4 4 = .ok (.ldc_w 265, 3) := by decide +kernel
theorem dJ6_bitCount_0f7a4_7 : decode cJ6_bitCount_0f7a4 7 = .ok (.iand, 1) := by decide +kernel
theorem dJ6_bitCount_0f7a4_8 : decode cJ6_bitCount_0f7a4 8 = .ok (.isub, 1) := by decide +kernel
theorem dJ6_bitCount_0f7a4_9 : decode cJ6_bitCount_0f7a4 9 = .ok (.istore_n 0, 1) := by decide +kernel
theorem dJ6_bitCount_0f7a4_10 : decode cJ6_bitCount_0f7a4 10 = .ok (.iload_n 0, 1) := by decide +kernel
theorem dJ6_bitCount_0f7a4_11 : decode cJ6_bitCount_0f7a4 11 = .ok (.ldc_w 266, 3) := by decide +kernel
theorem dJ6_bitCount_0f7a4_14 : decode cJ6_bitCount_0f7a4 14 = .ok (.iand, 1) := by decide +kernel
theorem dJ6_bitCount_0f7a4_15 : decode cJ6_bitCount_0f7a4 15 = .ok (.iload_n 0, 1) := by decide +kernel
theorem dJ6_bitCount_0f7a4_16 : decode cJ6_bitCount_0f7a4 16 = .ok (.iconst 2, 1) := by decide +kernel
theorem dJ6_bitCount_0f7a4_17 : decode cJ6_bitCount_0f7a4 17 = .ok (.iushr, 1) := by decide +kernel
theorem dJ6_bitCount_0f7a4_18 : decode cJ6_bitCount_0f7a4 18 = .ok (.ldc_w 266, 3) := by decide +kernel
theorem dJ6_bitCount_0f7a4_21 : decode cJ6_bitCount_0f7a4 21 = .ok (.iand, 1) := by decide +kernel
theorem dJ6_bitCount_0f7a4_22 : decode cJ6_bitCount_0f7a4 22 = .ok (.iadd, 1) := by decide +kernel
theorem dJ6_bitCount_0f7a4_23 : decode cJ6_bitCount_0f7a4 23 = .ok (.istore_n 0, 1) := by decide +kernel
theorem dJ6_bitCount_0f7a4_24 : decode cJ6_bitCount_0f7a4 24 = .ok (.iload_n 0, 1) := by decide +kernel
theorem dJ6_bitCount_0f7a4_25 : decode cJ6_bitCount_0f7a4 25 = .ok (.iload_n 0, 1) := by decide +kernel
theorem dJ6_bitCount_0f7a4_26 : decode cJ6_bitCount_0f7a4 26 = .ok (.iconst 4, 1) := by decide +kernel
theorem dJ6_bitCount_0f7a4_27 : decode cJ6_bitCount_0f7a4 27 = .ok (.iushr, 1) := by decide +kernel
theorem dJ6_bitCount_0f7a4_28 : decode cJ6_bitCount_0f7a4 28 = .ok (.iadd, 1) := by decide +kernel
theorem dJ6_bitCount_0f7a4_29 : decode cJ6_bitCount_0f7a4 29 = .ok (.ldc_w 267, 3) := by decide +kernel
theorem dJ6_bitCount_0f7a4_32 : decode cJ6_bitCount_0f7a4 32 = .ok (.iand, 1) := by decide +kernel
theorem dJ6_bitCount_0f7a4_33 : decode cJ6_bitCount_0f7a4 33 = .ok (.istore_n 0, 1) := by decide +kernel
theorem dJ6_bitCount_0f7a4_34 : decode cJ6_bitCount_0f7a4 34 = .ok (.iload_n 0, 1) := by decide +kernel
theorem dJ6_bitCount_0f7a4_35 : decode cJ6_bitCount_0f7a4 35 = .ok (.iload_n 0, 1) := by decide +kernel
theorem dJ6_bitCount_0f7a4_36 : decode cJ6_bitCount_0f7a4 36 = .ok (.bipush 8, 2) := by decide +kernel
theorem dJ6_bitCount_0f7a4_38 : decode cJ6_bitCount_0f7a4 38 = .ok (.iushr, 1) := by decide +kernel
theorem dJ6_bitCount_0f7a4_39 : decode cJ6_bitCount_0f7a4 39 = .ok (.iadd, 1) := by decide +kernel
theorem dJ6_bitCount_0f7a4_40 : decode cJ6_bitCount_0f7a4 40 = .ok (.istore_n 0, 1) := by decide +kernel
theorem dJ6_bitCount_0f7a4_41 : decode cJ6_bitCount_0f7a4 41 = .ok (.iload_n 0, 1) := by decide +kernel
theorem dJ6_bitCount_0f7a4_42 : decode cJ6_bitCount_0f7a4 42 = .ok (.iload_n 0, 1) := by decide +kernel
theorem dJ6_bitCount_0f7a4_43 : decode cJ6_bitCount_0f7a4 43 = .ok (.bipush 16, 2) := by decide +kernel
theorem dJ6_bitCount_0f7a4_45 : decode cJ6_bitCount_0f7a4 45 = .ok (.iushr, 1) := by decide +kernel
theorem dJ6_bitCount_0f7a4_46 : decode cJ6_bitCount_0f7a4 46 = .ok (.iadd, 1) := by decide +kernel
theorem dJ6_bitCount_0f7a4_47 : decode cJ6_bitCount_0f7a4 47 = .ok (.istore_n 0, 1) := by decide +kernel
theorem dJ6_bitCount_0f7a4_48 : decode cJ6_bitCount_0f7a4 48 = .ok (.iload_n 0, 1) := by decide +kernel
theorem dJ6_bitCount_0f7a4_49 : decode cJ6_bitCount_0f7a4 49 = .ok (.bipush 63, 2) := by decide +kernel
theorem dJ6_bitCount_0f7a4_51 : decode cJ6_bitCount_0f7a4 51 = .ok (.iand, 1) := by decide +kernel
theorem dJ6_bitCount_0f7a4_52 : decode cJ6_bitCount_0f7a4 52 = .ok (.ireturn, 1) := by decide +kernel
theorem dJ9_min_7cf53_0 : decode cJ9_min_7cf53 0 = .ok (.iload_n 0, 1) := by decide +kernel
theorem dJ9_min_7cf53_1 : decode cJ9_min_7cf53 1 = .ok (.iload_n 1, 1) := by decide +kernel
theorem dJ9_min_7cf53_2 : decode cJ9_min_7cf53 2 = .ok (.if_icmp .gt 7, 3) := by decide +kernel
theorem dJ9_min_7cf53_5 : decode cJ9_min_7cf53 5 = .ok (.iload_n 0, 1) := by decide +kernel
theorem dJ9_min_7cf53_6 : decode cJ9_min_7cf53 6 = .ok (.goto 4, 3) := by decide +kernel
theorem dJ9_min_7cf53_9 : decode cJ9_min_7cf53 9 = .ok (.iload_n 1, 1) := by decide +kernel
theorem dJ9_min_7cf53_10 : decode cJ9_min_7cf53 10 = .ok (.ireturn, 1) := by decide +kernel
