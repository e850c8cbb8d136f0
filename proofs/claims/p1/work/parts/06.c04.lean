theorem dX12_best_44 : decode cX12_best 44 = .ok (.istore 5, 2) := by decide +kernel
theorem dX12_best_46 : decode cX12_best 46 = .ok (.iload 5, 2) := by decide +kernel
theorem dX12_best_48 : decode cX12_best 48 = .ok (.iload_n 3, 1) := by decide +kernel
theorem dX12_best_49 : decode cX12_best 49 = .ok (.if_icmp .gt 6, 3) := by decide +kernel
theorem dX12_best_52 : decode cX12_best 52 = .ok (.goto 9, 3) := by decide +kernel
theorem dX12_best_55 : decode cX12_best 55 = .ok (.iload 4, 2) := by decide +kernel
theorem dX12_best_57 : decode cX12_best 57 = .ok (.istore_n 2, 1) := by decide +kernel
theorem dX12_best_58 : decode cX12_best 58 = .ok (.iload 5, 2) := by decide +kernel
theorem dX12_best_60 : decode cX12_best 60 = .ok (.istore_n 3, 1) := by decide +kernel
theorem dX12_best_61 : decode cX12_best 61 = .ok (.iinc 4 1, 3) := by decide +kernel
theorem dX12_best_64 : decode cX12_best 64 = .ok (.goto (-42), 3) := by decide +kernel
theorem dX12_best_67 : decode cX12_best 67 = .ok (.iload_n 2, 1) := by decide +kernel
theorem dX12_best_68 : decode cX12_best 68 = .ok (.ireturn, 1) := by decide +kernel
theorem dX12_wayAt_0 : decode cX12_wayAt 0 = .ok (.iload_n 0, 1) := by decide +kernel
theorem dX12_wayAt_1 : decode cX12_wayAt 1 = .ok (.ifCond .ne 7, 3) := by decide +kernel
theorem dX12_wayAt_4 : decode cX12_wayAt 4 = .ok (.iconst 4, 1) := by decide +kernel
theorem dX12_wayAt_5 : decode cX12_wayAt 5 = .ok (.goto 6, 3) := by decide +kernel
theorem dX12_wayAt_8 : decode cX12_wayAt 8 = .ok (.iload_n 0, 1) := by decide +kernel
theorem dX12_wayAt_9 : decode cX12_wayAt 9 = .ok (.iconst 1, 1) := by decide +kernel
theorem dX12_wayAt_10 : decode cX12_wayAt 10 = .ok (.isub, 1) := by decide +kernel
theorem dX12_wayAt_11 : decode cX12_wayAt 11 = .ok (.ireturn, 1) := by decide +kernel
set_option maxRecDepth 20000 in
theorem ggX12_comesTo_X12_beside : GoodIn wsX12_comesTo wsX12_beside := goodIn_r _ [6, 7, 8, 9, 10, 5, 11, 12, 13, 14, 15, 16, 17, 18, 19, 20, 21, 22, 23, 24, 25, 26, 27, 28, 29, 30, 31, 32, 33, 34, 35, 36, 37, 38, 39, 40, 41, 42, 43, 44, 45, 46, 47, 48, 49, 50, 51, 52, 53, 54, 55, 56, 57, 58, 59, 60, 61, 62, 63, 64, 65, 66, 67, 68, 69, 70, 71, 72, 73, 74, 75, 76, 77, 78, 79, 80, 81, 82, 83, 84, 85, 86, 87, 88, 89, 90, 91, 92, 93, 94, 95, 96, 97, 98] (by decide +kernel) (by decide +kernel)
set_option maxRecDepth 20000 in
theorem gX12_comesTo_X12_beside : GoodIn wsX12_comesTo (wsV RX12 466 RX12 yX12_beside wsX12_beside) := goodIn_app (goodIn_of _ (by decide +kernel)) ggX12_comesTo_X12_beside
theorem dX12_comesTo_0 : decode cX12_comesTo 0 = .ok (.iload_n 2, 1) := by decide +kernel
theorem dX12_comesTo_1 : decode cX12_comesTo 1 = .ok (.iconst 4, 1) := by decide +kernel
theorem dX12_comesTo_2 : decode cX12_comesTo 2 = .ok (.if_icmp .ne 12, 3) := by decide +kernel
theorem dX12_comesTo_5 : decode cX12_comesTo 5 = .ok (.aload_n 0, 1) := by decide +kernel
theorem dX12_comesTo_6 : decode cX12_comesTo 6 = .ok (.getfield 88, 3) := by decide +kernel
theorem dX12_comesTo_9 : decode cX12_comesTo 9 = .ok (.iload_n 1, 1) := by decide +kernel
theorem dX12_comesTo_10 : decode cX12_comesTo 10 = .ok (.iaload, 1) := by decide +kernel
theorem dX12_comesTo_11 : decode cX12_comesTo 11 = .ok (.goto 14, 3) := by decide +kernel
theorem dX12_comesTo_14 : decode cX12_comesTo 14 = .ok (.aload_n 0, 1) := by decide +kernel
theorem dX12_comesTo_15 : decode cX12_comesTo 15 = .ok (.aload_n 0, 1) := by decide +kernel
theorem dX12_comesTo_16 : decode cX12_comesTo 16 = .ok (.getfield 88, 3) := by decide +kernel
theorem dX12_comesTo_19 : decode cX12_comesTo 19 = .ok (.iload_n 1, 1) := by decide +kernel
theorem dX12_comesTo_20 : decode cX12_comesTo 20 = .ok (.iaload, 1) := by decide +kernel
theorem dX12_comesTo_21 : decode cX12_comesTo 21 = .ok (.iload_n 2, 1) := by decide +kernel
theorem dX12_comesTo_22 : decode cX12_comesTo 22 = .ok (.invokevirtual 466, 3) := by decide +kernel
theorem dX12_comesTo_25 : decode cX12_comesTo 25 = .ok (.ireturn, 1) := by decide +kernel
set_option maxRecDepth 20000 in
theorem ggX12_layGame_X12_wayAt : GoodIn wsX12_layGame wsX12_wayAt := goodIn_r _ [8] (by decide +kernel) (by decide +kernel)
set_option maxRecDepth 20000 in
theorem gX12_layGame_X12_wayAt : GoodIn wsX12_layGame (va_wsS RX12 485 yX12_wayAt wsX12_wayAt) := goodIn_app (goodIn_of _ (by decide +kernel)) ggX12_layGame_X12_wayAt
set_option maxRecDepth 20000 in
theorem ggX12_layGame_X12_comesTo : GoodIn wsX12_layGame wsX12_comesTo := goodIn_r _ [12, 13, 14, 15, 16, 7, 17, 18, 19, 20, 21, 22, 100, 101, 102, 103, 104, 105, 106, 107, 108, 109, 110, 111, 112, 113, 114, 115, 116, 117, 118, 119, 120, 121, 122, 123, 124, 125, 126, 127, 128, 129, 130, 131, 132, 133, 134, 135, 136, 137, 138, 139, 140, 141, 142, 143, 144, 145, 146, 147, 148, 149, 150, 151, 152, 153, 154, 155, 156, 157, 158, 159, 160, 161, 162, 163, 164, 165, 166, 167, 168, 169, 170, 171, 172, 173, 174, 175, 176, 177, 178, 179, 180, 181, 182, 183, 184, 185, 186] (by decide +kernel) (by decide +kernel)
set_option maxRecDepth 20000 in
theorem gX12_layGame_X12_comesTo : GoodIn wsX12_layGame (wsV RX12 488 RX12 yX12_comesTo wsX12_comesTo) := goodIn_app (goodIn_of _ (by decide +kernel)) ggX12_layGame_X12_comesTo
set_option maxRecDepth 20000 in
theorem ggX12_layGame_X12_isToCome : GoodIn wsX12_layGame wsX12_isToCome := goodIn_r _ [26, 27, 28, 29, 30, 7, 31, 3, 100, 101, 102, 103, 104, 105, 106, 107, 108, 109, 110, 111, 112, 113, 114, 115, 116, 117, 118, 119, 120, 121, 122, 123, 124, 125, 126, 127, 128, 129, 130, 131, 132, 133, 134, 135, 136, 137, 138, 139, 140, 141, 142, 143, 144, 145, 146, 147, 148, 149, 150, 151, 152, 153, 154, 155, 156, 157, 158, 159, 160, 161, 162, 163, 164, 165, 166, 167, 168, 169, 170, 171, 172, 173, 174, 175, 176, 177, 178, 179, 180, 181, 182, 183, 184, 185, 186] (by decide +kernel) (by decide +kernel)
set_option maxRecDepth 20000 in
theorem gX12_layGame_X12_isToCome : GoodIn wsX12_layGame (wsV RX12 476 RX12 yX12_isToCome wsX12_isToCome) := goodIn_app (goodIn_of _ (by decide +kernel)) ggX12_layGame_X12_isToCome
set_option maxRecDepth 20000 in
theorem ggX12_layGame_X12_peakAt : GoodIn wsX12_layGame wsX12_peakAt := goodIn_r _ [35, 36, 37, 18, 38, 39, 40, 7, 41, 42, 43, 44, 45, 46, 47, 48, 49, 50, 51, 52, 53, 54, 55, 56, 57, 58, 59, 60, 61, 62, 63, 64, 65, 66, 67, 68, 69, 70, 71, 72, 73, 74, 75, 76, 77, 78, 100, 101, 102, 103, 104, 105, 106, 107, 108, 109, 110, 111, 112, 113, 114, 115, 116, 117, 118, 119, 120, 121, 122, 123, 124, 125, 126, 127, 128, 129, 130, 131, 132, 133, 134, 135, 136, 137, 138, 139, 140, 141, 142, 143, 144, 145, 146, 147, 148, 149, 150, 151, 152, 153, 154, 155, 156, 157, 158, 159, 160, 161, 162, 163, 164, 165, 166, 167, 168, 169, 170, 171, 172, 173, 174, 175, 176, 177, 178, 179, 180, 181, 182, 183, 184, 185, 186] (by decide +kernel) (by decide +kernel)
set_option maxRecDepth 20000 in
theorem gX12_layGame_X12_peakAt : GoodIn wsX12_layGame (wsV RX12 400 RX12 yX12_peakAt wsX12_peakAt) := goodIn_app (goodIn_of _ (by decide +kernel)) ggX12_layGame_X12_peakAt
set_option maxRecDepth 20000 in
theorem ggX12_layGame_X12_far : GoodIn wsX12_layGame wsX12_far := goodIn_r _ [82, 18, 100, 101, 102, 103, 104, 105, 106, 107, 108, 109, 110, 111, 112, 113, 114, 115, 116, 117, 118, 119, 120, 121, 122, 123, 124, 125, 126, 127, 128, 129, 130, 131, 132, 133, 134, 135, 136, 137, 138, 139, 140, 141, 142, 143, 144, 145, 146, 147, 148, 149, 150, 151, 152, 153, 154, 155, 156, 157, 158, 159, 160, 161, 162, 163, 164, 165, 166, 167, 168, 169, 170, 171, 172, 173, 174, 175, 176, 177, 178, 179, 180, 181, 182, 183, 184, 185, 186] (by decide +kernel) (by decide +kernel)
set_option maxRecDepth 20000 in
theorem gX12_layGame_X12_far : GoodIn wsX12_layGame (wsV RX12 403 RX12 yX12_far wsX12_far) := goodIn_app (goodIn_of _ (by decide +kernel)) ggX12_layGame_X12_far
set_option maxRecDepth 20000 in
theorem ggX12_layGame_X12_gainOf : GoodIn wsX12_layGame wsX12_gainOf := goodIn_r _ [86, 43, 87, 88, 89, 7, 90, 91, 92, 93, 94, 4, 18, 32, 33, 34, 35, 36, 37, 38, 39, 40, 41, 42, 44, 45, 46, 47, 48, 49, 50, 51, 52, 53, 54, 55, 56, 57, 58, 59, 60, 61, 62, 63, 64, 65, 66, 67, 68, 69, 70, 71, 72, 73, 74, 75, 76, 77, 78, 79, 80, 81, 82, 95, 96, 97, 98, 99, 100, 101, 102, 103, 104, 105, 106, 107, 108, 109, 110, 111, 112, 113, 114, 115, 116, 117, 118, 119, 120, 121, 122, 123, 124, 125, 126, 127, 128, 129, 130, 131, 132, 133, 134, 135, 136, 137, 138, 139, 140, 141, 142, 143, 144, 145, 146, 147, 148, 149, 150, 151, 152, 153, 154, 155, 156, 157, 158, 159, 160, 161, 162, 163, 164, 165, 166, 167, 168, 169, 170, 171, 172, 173, 174, 175, 176, 177, 178, 179, 180, 181, 182, 183, 184, 185, 186] (by decide +kernel) (by decide +kernel)
set_option maxRecDepth 20000 in
theorem gX12_layGame_X12_gainOf : GoodIn wsX12_layGame (wsV RX12 479 RX12 yX12_gainOf wsX12_gainOf) := goodIn_app (goodIn_of _ (by decide +kernel)) ggX12_layGame_X12_gainOf
theorem dX12_layGame_0 : decode cX12_layGame 0 = .ok (.iconst 0, 1) := by decide +kernel
theorem dX12_layGame_1 : decode cX12_layGame 1 = .ok (.istore_n 3, 1) := by decide +kernel
theorem dX12_layGame_2 : decode cX12_layGame 2 = .ok (.iload_n 3, 1) := by decide +kernel
theorem dX12_layGame_3 : decode cX12_layGame 3 = .ok (.bipush 25, 2) := by decide +kernel
theorem dX12_layGame_5 : decode cX12_layGame 5 = .ok (.if_icmp .ge 197, 3) := by decide +kernel
theorem dX12_layGame_8 : decode cX12_layGame 8 = .ok (.aload_n 0, 1) := by decide +kernel
theorem dX12_layGame_9 : decode cX12_layGame 9 = .ok (.iload_n 1, 1) := by decide +kernel
theorem dX12_layGame_10 : decode cX12_layGame 10 = .ok (.iload_n 3, 1) := by decide +kernel
theorem dX12_layGame_11 : decode cX12_layGame 11 = .ok (.iconst 5, 1) := by decide +kernel
theorem dX12_layGame_12 : decode cX12_layGame 12 = .ok (.idiv, 1) := by decide +kernel
theorem dX12_layGame_13 : decode cX12_layGame 13 = .ok (.invokestatic 485, 3) := by decide +kernel
theorem dX12_layGame_16 : decode cX12_layGame 16 = .ok (.invokevirtual 488, 3) := by decide +kernel
theorem dX12_layGame_19 : decode cX12_layGame 19 = .ok (.istore 4, 2) := by decide +kernel
theorem dX12_layGame_21 : decode cX12_layGame 21 = .ok (.aload_n 0, 1) := by decide +kernel
theorem dX12_layGame_22 : decode cX12_layGame 22 = .ok (.iload_n 2, 1) := by decide +kernel
theorem dX12_layGame_23 : decode cX12_layGame 23 = .ok (.iload_n 3, 1) := by decide +kernel
theorem dX12_layGame_24 : decode cX12_layGame 24 = .ok (.iconst 5, 1) := by decide +kernel
theorem dX12_layGame_25 : decode cX12_layGame 25 = .ok (.irem, 1) := by decide +kernel
theorem dX12_layGame_26 : decode cX12_layGame 26 = .ok (.invokestatic 485, 3) := by decide +kernel
theorem dX12_layGame_29 : decode cX12_layGame 29 = .ok (.invokevirtual 488, 3) := by decide +kernel
theorem dX12_layGame_32 : decode cX12_layGame 32 = .ok (.istore 5, 2) := by decide +kernel
theorem dX12_layGame_34 : decode cX12_layGame 34 = .ok (.aload_n 0, 1) := by decide +kernel
theorem dX12_layGame_35 : decode cX12_layGame 35 = .ok (.getfield 121, 3) := by decide +kernel
theorem dX12_layGame_38 : decode cX12_layGame 38 = .ok (.iload_n 3, 1) := by decide +kernel
theorem dX12_layGame_39 : decode cX12_layGame 39 = .ok (.iconst (-1), 1) := by decide +kernel
theorem dX12_layGame_40 : decode cX12_layGame 40 = .ok (.iastore, 1) := by decide +kernel
theorem dX12_layGame_41 : decode cX12_layGame 41 = .ok (.aload_n 0, 1) := by decide +kernel
theorem dX12_layGame_42 : decode cX12_layGame 42 = .ok (.getfield 124, 3) := by decide +kernel
theorem dX12_layGame_45 : decode cX12_layGame 45 = .ok (.iload_n 3, 1) := by decide +kernel
theorem dX12_layGame_46 : decode cX12_layGame 46 = .ok (.iconst (-1), 1) := by decide +kernel
theorem dX12_layGame_47 : decode cX12_layGame 47 = .ok (.iastore, 1) := by decide +kernel
theorem dX12_layGame_48 : decode cX12_layGame 48 = .ok (.iload 4, 2) := by decide +kernel
theorem dX12_layGame_50 : decode cX12_layGame 50 = .ok (.ifCond .lt 146, 3) := by decide +kernel
theorem dX12_layGame_53 : decode cX12_layGame 53 = .ok (.iload 5, 2) := by decide +kernel
theorem dX12_layGame_55 : decode cX12_layGame 55 = .ok (.ifCond .ge 6, 3) := by decide +kernel
theorem dX12_layGame_58 : decode cX12_layGame 58 = .ok (.goto 138, 3) := by decide +kernel
theorem dX12_layGame_61 : decode cX12_layGame 61 = .ok (.aload_n 0, 1) := by decide +kernel
theorem dX12_layGame_62 : decode cX12_layGame 62 = .ok (.getfield 121, 3) := by decide +kernel
theorem dX12_layGame_65 : decode cX12_layGame 65 = .ok (.iload_n 3, 1) := by decide +kernel
theorem dX12_layGame_66 : decode cX12_layGame 66 = .ok (.iconst 0, 1) := by decide +kernel
theorem dX12_layGame_67 : decode cX12_layGame 67 = .ok (.iastore, 1) := by decide +kernel
theorem dX12_layGame_68 : decode cX12_layGame 68 = .ok (.aload_n 0, 1) := by decide +kernel
theorem dX12_layGame_69 : decode cX12_layGame 69 = .ok (.getfield 124, 3) := by decide +kernel
theorem dX12_layGame_72 : decode cX12_layGame 72 = .ok (.iload_n 3, 1) := by decide +kernel
theorem dX12_layGame_73 : decode cX12_layGame 73 = .ok (.iconst 0, 1) := by decide +kernel
theorem dX12_layGame_74 : decode cX12_layGame 74 = .ok (.iastore, 1) := by decide +kernel
theorem dX12_layGame_75 : decode cX12_layGame 75 = .ok (.iconst 0, 1) := by decide +kernel
theorem dX12_layGame_76 : decode cX12_layGame 76 = .ok (.istore 6, 2) := by decide +kernel
theorem dX12_layGame_78 : decode cX12_layGame 78 = .ok (.iload 6, 2) := by decide +kernel
theorem dX12_layGame_80 : decode cX12_layGame 80 = .ok (.aload_n 0, 1) := by decide +kernel
theorem dX12_layGame_81 : decode cX12_layGame 81 = .ok (.getfield 253, 3) := by decide +kernel
theorem dX12_layGame_84 : decode cX12_layGame 84 = .ok (.if_icmp .ge 112, 3) := by decide +kernel
theorem dX12_layGame_87 : decode cX12_layGame 87 = .ok (.aload_n 0, 1) := by decide +kernel
theorem dX12_layGame_88 : decode cX12_layGame 88 = .ok (.iload 6, 2) := by decide +kernel
theorem dX12_layGame_90 : decode cX12_layGame 90 = .ok (.invokevirtual 476, 3) := by decide +kernel
theorem dX12_layGame_93 : decode cX12_layGame 93 = .ok (.ifCond .ne 6, 3) := by decide +kernel
theorem dX12_layGame_96 : decode cX12_layGame 96 = .ok (.goto 94, 3) := by decide +kernel
theorem dX12_layGame_99 : decode cX12_layGame 99 = .ok (.aload_n 0, 1) := by decide +kernel
theorem dX12_layGame_100 : decode cX12_layGame 100 = .ok (.aload_n 0, 1) := by decide +kernel
theorem dX12_layGame_101 : decode cX12_layGame 101 = .ok (.getfield 48, 3) := by decide +kernel
theorem dX12_layGame_104 : decode cX12_layGame 104 = .ok (.iload 6, 2) := by decide +kernel
theorem dX12_layGame_106 : decode cX12_layGame 106 = .ok (.iaload, 1) := by decide +kernel
theorem dX12_layGame_107 : decode cX12_layGame 107 = .ok (.invokevirtual 400, 3) := by decide +kernel
theorem dX12_layGame_110 : decode cX12_layGame 110 = .ok (.istore 7, 2) := by decide +kernel
theorem dX12_layGame_112 : decode cX12_layGame 112 = .ok (.aload_n 0, 1) := by decide +kernel
theorem dX12_layGame_113 : decode cX12_layGame 113 = .ok (.iload 4, 2) := by decide +kernel
theorem dX12_layGame_115 : decode cX12_layGame 115 = .ok (.iload 7, 2) := by decide +kernel
theorem dX12_layGame_117 : decode cX12_layGame 117 = .ok (.invokevirtual 403, 3) := by decide +kernel
theorem dX12_layGame_120 : decode cX12_layGame 120 = .ok (.istore 8, 2) := by decide +kernel
theorem dX12_layGame_122 : decode cX12_layGame 122 = .ok (.aload_n 0, 1) := by decide +kernel
theorem dX12_layGame_123 : decode cX12_layGame 123 = .ok (.iload 5, 2) := by decide +kernel
theorem dX12_layGame_125 : decode cX12_layGame 125 = .ok (.iload 7, 2) := by decide +kernel
theorem dX12_layGame_127 : decode cX12_layGame 127 = .ok (.invokevirtual 403, 3) := by decide +kernel
theorem dX12_layGame_130 : decode cX12_layGame 130 = .ok (.istore 9, 2) := by decide +kernel
theorem dX12_layGame_132 : decode cX12_layGame 132 = .ok (.iload 8, 2) := by decide +kernel
theorem dX12_layGame_134 : decode cX12_layGame 134 = .ok (.iload 9, 2) := by decide +kernel
theorem dX12_layGame_136 : decode cX12_layGame 136 = .ok (.if_icmp .lt 15, 3) := by decide +kernel
theorem dX12_layGame_139 : decode cX12_layGame 139 = .ok (.iload 8, 2) := by decide +kernel
theorem dX12_layGame_141 : decode cX12_layGame 141 = .ok (.iload 9, 2) := by decide +kernel
theorem dX12_layGame_143 : decode cX12_layGame 143 = .ok (.if_icmp .ne 29, 3) := by decide +kernel
theorem dX12_layGame_146 : decode cX12_layGame 146 = .ok (.iload_n 1, 1) := by decide +kernel
theorem dX12_layGame_147 : decode cX12_layGame 147 = .ok (.iload_n 2, 1) := by decide +kernel
theorem dX12_layGame_148 : decode cX12_layGame 148 = .ok (.if_icmp .ge 24, 3) := by decide +kernel
theorem dX12_layGame_151 : decode cX12_layGame 151 = .ok (.aload_n 0, 1) := by decide +kernel
theorem dX12_layGame_152 : decode cX12_layGame 152 = .ok (.getfield 121, 3) := by decide +kernel
theorem dX12_layGame_155 : decode cX12_layGame 155 = .ok (.iload_n 3, 1) := by decide +kernel
theorem dX12_layGame_156 : decode cX12_layGame 156 = .ok (.dup2, 1) := by decide +kernel
theorem dX12_layGame_157 : decode cX12_layGame 157 = .ok (.iaload, 1) := by decide +kernel
theorem dX12_layGame_158 : decode cX12_layGame 158 = .ok (.aload_n 0, 1) := by decide +kernel
theorem dX12_layGame_159 : decode cX12_layGame 159 = .ok (.iload_n 1, 1) := by decide +kernel
theorem dX12_layGame_160 : decode cX12_layGame 160 = .ok (.iload 6, 2) := by decide +kernel
theorem dX12_layGame_162 : decode cX12_layGame 162 = .ok (.iload 4, 2) := by decide +kernel
theorem dX12_layGame_164 : decode cX12_layGame 164 = .ok (.invokevirtual 479, 3) := by decide +kernel
theorem dX12_layGame_167 : decode cX12_layGame 167 = .ok (.iadd, 1) := by decide +kernel
theorem dX12_layGame_168 : decode cX12_layGame 168 = .ok (.iastore, 1) := by decide +kernel
theorem dX12_layGame_169 : decode cX12_layGame 169 = .ok (.goto 21, 3) := by decide +kernel
theorem dX12_layGame_172 : decode cX12_layGame 172 = .ok (.aload_n 0, 1) := by decide +kernel
theorem dX12_layGame_173 : decode cX12_layGame 173 = .ok (.getfield 124, 3) := by decide +kernel
theorem dX12_layGame_176 : decode cX12_layGame 176 = .ok (.iload_n 3, 1) := by decide +kernel
theorem dX12_layGame_177 : decode cX12_layGame 177 = .ok (.dup2, 1) := by decide +kernel
theorem dX12_layGame_178 : decode cX12_layGame 178 = .ok (.iaload, 1) := by decide +kernel
theorem dX12_layGame_179 : decode cX12_layGame 179 = .ok (.aload_n 0, 1) := by decide +kernel
theorem dX12_layGame_180 : decode cX12_layGame 180 = .ok (.iload_n 2, 1) := by decide +kernel
theorem dX12_layGame_181 : decode cX12_layGame 181 = .ok (.iload 6, 2) := by decide +kernel
theorem dX12_layGame_183 : decode cX12_layGame 183 = .ok (.iload 5, 2) := by decide +kernel
theorem dX12_layGame_185 : decode cX12_layGame 185 = .ok (.invokevirtual 479, 3) := by decide +kernel
theorem dX12_layGame_188 : decode cX12_layGame 188 = .ok (.iadd, 1) := by decide +kernel
theorem dX12_layGame_189 : decode cX12_layGame 189 = .ok (.iastore, 1) := by decide +kernel
theorem dX12_layGame_190 : decode cX12_layGame 190 = .ok (.iinc 6 1, 3) := by decide +kernel
theorem dX12_layGame_193 : decode cX12_layGame 193 = .ok (.goto (-115), 3) := by decide +kernel
theorem dX12_layGame_196 : decode cX12_layGame 196 = .ok (.iinc 3 1, 3) := by decide +kernel
theorem dX12_layGame_199 : decode cX12_layGame 199 = .ok (.goto (-197), 3) := by decide +kernel
theorem dX12_layGame_202 : decode cX12_layGame 202 = .ok (.return_, 1) := by decide +kernel
theorem dX12_isRest_0 : decode cX12_isRest 0 = .ok (.aload_n 0, 1) := by decide +kernel
theorem dX12_isRest_1 : decode cX12_isRest 1 = .ok (.getfield 121, 3) := by decide +kernel
theorem dX12_isRest_4 : decode cX12_isRest 4 = .ok (.iload_n 1, 1) := by decide +kernel
theorem dX12_isRest_5 : decode cX12_isRest 5 = .ok (.iaload, 1) := by decide +kernel
theorem dX12_isRest_6 : decode cX12_isRest 6 = .ok (.ifCond .ge 5, 3) := by decide +kernel
theorem dX12_isRest_9 : decode cX12_isRest 9 = .ok (.iconst 0, 1) := by decide +kernel
theorem dX12_isRest_10 : decode cX12_isRest 10 = .ok (.ireturn, 1) := by decide +kernel
theorem dX12_isRest_11 : decode cX12_isRest 11 = .ok (.iconst 0, 1) := by decide +kernel
theorem dX12_isRest_12 : decode cX12_isRest 12 = .ok (.istore_n 2, 1) := by decide +kernel
theorem dX12_isRest_13 : decode cX12_isRest 13 = .ok (.iload_n 2, 1) := by decide +kernel
theorem dX12_isRest_14 : decode cX12_isRest 14 = .ok (.iconst 5, 1) := by decide +kernel
theorem dX12_isRest_15 : decode cX12_isRest 15 = .ok (.if_icmp .ge 53, 3) := by decide +kernel
theorem dX12_isRest_18 : decode cX12_isRest 18 = .ok (.aload_n 0, 1) := by decide +kernel
theorem dX12_isRest_19 : decode cX12_isRest 19 = .ok (.getfield 121, 3) := by decide +kernel
theorem dX12_isRest_22 : decode cX12_isRest 22 = .ok (.iconst 5, 1) := by decide +kernel
theorem dX12_isRest_23 : decode cX12_isRest 23 = .ok (.iload_n 2, 1) := by decide +kernel
theorem dX12_isRest_24 : decode cX12_isRest 24 = .ok (.imul, 1) := by decide +kernel
theorem dX12_isRest_25 : decode cX12_isRest 25 = .ok (.iload_n 1, 1) := by decide +kernel
theorem dX12_isRest_26 : decode cX12_isRest 26 = .ok (.iconst 5, 1) := by decide +kernel
theorem dX12_isRest_27 : decode cX12_isRest 27 = .ok (.irem, 1) := by decide +kernel
theorem dX12_isRest_28 : decode cX12_isRest 28 = .ok (.iadd, 1) := by decide +kernel
theorem dX12_isRest_29 : decode cX12_isRest 29 = .ok (.iaload, 1) := by decide +kernel
theorem dX12_isRest_30 : decode cX12_isRest 30 = .ok (.aload_n 0, 1) := by decide +kernel
theorem dX12_isRest_31 : decode cX12_isRest 31 = .ok (.getfield 121, 3) := by decide +kernel
theorem dX12_isRest_34 : decode cX12_isRest 34 = .ok (.iload_n 1, 1) := by decide +kernel
theorem dX12_isRest_35 : decode cX12_isRest 35 = .ok (.iaload, 1) := by decide +kernel
theorem dX12_isRest_36 : decode cX12_isRest 36 = .ok (.if_icmp .gt 24, 3) := by decide +kernel
theorem dX12_isRest_39 : decode cX12_isRest 39 = .ok (.aload_n 0, 1) := by decide +kernel
theorem dX12_isRest_40 : decode cX12_isRest 40 = .ok (.getfield 124, 3) := by decide +kernel
theorem dX12_isRest_43 : decode cX12_isRest 43 = .ok (.iload_n 1, 1) := by decide +kernel
theorem dX12_isRest_44 : decode cX12_isRest 44 = .ok (.iconst 5, 1) := by decide +kernel
theorem dX12_isRest_45 : decode cX12_isRest 45 = .ok (.idiv, 1) := by decide +kernel
theorem dX12_isRest_46 : decode cX12_isRest 46 = .ok (.iconst 5, 1) := by decide +kernel
theorem dX12_isRest_47 : decode cX12_isRest 47 = .ok (.imul, 1) := by decide +kernel
theorem dX12_isRest_48 : decode cX12_isRest 48 = .ok (.iload_n 2, 1) := by decide +kernel
theorem dX12_isRest_49 : decode cX12_isRest 49 = .ok (.iadd, 1) := by decide +kernel
theorem dX12_isRest_50 : decode cX12_isRest 50 = .ok (.iaload, 1) := by decide +kernel
theorem dX12_isRest_51 : decode cX12_isRest 51 = .ok (.aload_n 0, 1) := by decide +kernel
theorem dX12_isRest_52 : decode cX12_isRest 52 = .ok (.getfield 124, 3) := by decide +kernel
theorem dX12_isRest_55 : decode cX12_isRest 55 = .ok (.iload_n 1, 1) := by decide +kernel
theorem dX12_isRest_56 : decode cX12_isRest 56 = .ok (.iaload, 1) := by decide +kernel
theorem dX12_isRest_57 : decode cX12_isRest 57 = .ok (.if_icmp .le 5, 3) := by decide +kernel
theorem dX12_isRest_60 : decode cX12_isRest 60 = .ok (.iconst 0, 1) := by decide +kernel
theorem dX12_isRest_61 : decode cX12_isRest 61 = .ok (.ireturn, 1) := by decide +kernel
theorem dX12_isRest_62 : decode cX12_isRest 62 = .ok (.iinc 2 1, 3) := by decide +kernel
theorem dX12_isRest_65 : decode cX12_isRest 65 = .ok (.goto (-52), 3) := by decide +kernel
theorem dX12_isRest_68 : decode cX12_isRest 68 = .ok (.iconst 1, 1) := by decide +kernel
theorem dX12_isRest_69 : decode cX12_isRest 69 = .ok (.ireturn, 1) := by decide +kernel
set_option maxRecDepth 20000 in
theorem ggX12_restAt_X12_layGame : GoodIn wsX12_restAt wsX12_layGame := goodIn_r _ [5, 6, 7, 8, 9, 10, 11, 4, 12, 13, 14, 15, 16, 17, 18, 19, 20, 21, 22, 23, 24, 25, 26, 27, 28, 29, 30, 31, 32, 33, 34, 35, 36, 37, 38, 39, 40, 41, 42, 43, 44, 45, 46, 47, 48, 49, 50, 51, 52, 53, 54, 55, 56, 57, 58, 59, 60, 61, 62, 63, 64, 65, 66, 67, 68, 69, 70, 71, 72, 73, 74, 75, 76, 77, 78, 79, 80, 81, 82, 83, 84, 85, 86, 87, 88, 89, 90, 91, 92, 93, 94, 95, 96, 97, 98, 99, 100, 101, 102, 103, 108, 109, 110, 111, 112, 113, 114, 115, 116, 117, 118, 119, 120, 121, 122, 123, 124, 125, 126, 127, 128, 129, 130, 131, 132, 133, 134, 135, 136, 137, 138, 139, 140, 141, 142, 143, 144, 145, 146, 147, 148, 149, 150, 151, 152, 153, 154, 155, 156, 157, 158, 159, 160, 161, 162, 163, 164, 165, 166, 167, 168, 169, 170, 171, 172, 173, 174, 175, 176, 177, 178, 179, 180, 181, 182, 183, 184, 185, 186, 187, 188, 189, 190, 191, 192, 193, 194] (by decide +kernel) (by decide +kernel)
set_option maxRecDepth 20000 in
theorem gX12_restAt_X12_layGame : GoodIn wsX12_restAt (wsV RX12 491 RX12 yX12_layGame wsX12_layGame) := goodIn_app (goodIn_of _ (by decide +kernel)) ggX12_restAt_X12_layGame
set_option maxRecDepth 20000 in
theorem ggX12_restAt_X12_isRest : GoodIn wsX12_restAt wsX12_isRest := goodIn_r _ [107, 6, 7, 108, 109, 110, 111, 112, 113, 114, 115, 116, 117, 118, 119, 120, 121, 122, 123, 124, 125, 126, 127, 128, 129, 130, 131, 132, 133, 134, 135, 136, 137, 138, 139, 140, 141, 142, 143, 144, 145, 146, 147, 148, 149, 150, 151, 152, 153, 154, 155, 156, 157, 158, 159, 160, 161, 162, 163, 164, 165, 166, 167, 168, 169, 170, 171, 172, 173, 174, 175, 176, 177, 178, 179, 180, 181, 182, 183, 184, 185, 186, 187, 188, 189, 190, 191, 192, 193, 194] (by decide +kernel) (by decide +kernel)
set_option maxRecDepth 20000 in
theorem gX12_restAt_X12_isRest : GoodIn wsX12_restAt (wsV RX12 494 RX12 yX12_isRest wsX12_isRest) := goodIn_app (goodIn_of _ (by decide +kernel)) ggX12_restAt_X12_isRest
set_option maxRecDepth 20000 in
theorem ggX12_restAt_X12_wayAt : GoodIn wsX12_restAt wsX12_wayAt := goodIn_r _ [12] (by decide +kernel) (by decide +kernel)
set_option maxRecDepth 20000 in
theorem gX12_restAt_X12_wayAt : GoodIn wsX12_restAt (va_wsS RX12 485 yX12_wayAt wsX12_wayAt) := goodIn_app (goodIn_of _ (by decide +kernel)) ggX12_restAt_X12_wayAt
theorem dX12_restAt_0 : decode cX12_restAt 0 = .ok (.aload_n 0, 1) := by decide +kernel
theorem dX12_restAt_1 : decode cX12_restAt 1 = .ok (.iload_n 1, 1) := by decide +kernel
theorem dX12_restAt_2 : decode cX12_restAt 2 = .ok (.iload_n 2, 1) := by decide +kernel
theorem dX12_restAt_3 : decode cX12_restAt 3 = .ok (.invokevirtual 491, 3) := by decide +kernel
theorem dX12_restAt_6 : decode cX12_restAt 6 = .ok (.iconst 0, 1) := by decide +kernel
theorem dX12_restAt_7 : decode cX12_restAt 7 = .ok (.istore 4, 2) := by decide +kernel
theorem dX12_restAt_9 : decode cX12_restAt 9 = .ok (.iconst 0, 1) := by decide +kernel
theorem dX12_restAt_10 : decode cX12_restAt 10 = .ok (.istore 5, 2) := by decide +kernel
theorem dX12_restAt_12 : decode cX12_restAt 12 = .ok (.iload 5, 2) := by decide +kernel
theorem dX12_restAt_14 : decode cX12_restAt 14 = .ok (.bipush 25, 2) := by decide +kernel
theorem dX12_restAt_16 : decode cX12_restAt 16 = .ok (.if_icmp .ge 49, 3) := by decide +kernel
theorem dX12_restAt_19 : decode cX12_restAt 19 = .ok (.aload_n 0, 1) := by decide +kernel
theorem dX12_restAt_20 : decode cX12_restAt 20 = .ok (.iload 5, 2) := by decide +kernel
theorem dX12_restAt_22 : decode cX12_restAt 22 = .ok (.invokevirtual 494, 3) := by decide +kernel
theorem dX12_restAt_25 : decode cX12_restAt 25 = .ok (.ifCond .ne 6, 3) := by decide +kernel
theorem dX12_restAt_28 : decode cX12_restAt 28 = .ok (.goto 31, 3) := by decide +kernel
theorem dX12_restAt_31 : decode cX12_restAt 31 = .ok (.iload 4, 2) := by decide +kernel
theorem dX12_restAt_33 : decode cX12_restAt 33 = .ok (.iload_n 3, 1) := by decide +kernel
theorem dX12_restAt_34 : decode cX12_restAt 34 = .ok (.if_icmp .ne 22, 3) := by decide +kernel
theorem dX12_restAt_37 : decode cX12_restAt 37 = .ok (.bipush 10, 2) := by decide +kernel
theorem dX12_restAt_39 : decode cX12_restAt 39 = .ok (.iload 5, 2) := by decide +kernel
theorem dX12_restAt_41 : decode cX12_restAt 41 = .ok (.iconst 5, 1) := by decide +kernel
theorem dX12_restAt_42 : decode cX12_restAt 42 = .ok (.idiv, 1) := by decide +kernel
theorem dX12_restAt_43 : decode cX12_restAt 43 = .ok (.invokestatic 485, 3) := by decide +kernel
theorem dX12_restAt_46 : decode cX12_restAt 46 = .ok (.imul, 1) := by decide +kernel
theorem dX12_restAt_47 : decode cX12_restAt 47 = .ok (.iload 5, 2) := by decide +kernel
theorem dX12_restAt_49 : decode cX12_restAt 49 = .ok (.iconst 5, 1) := by decide +kernel
theorem dX12_restAt_50 : decode cX12_restAt 50 = .ok (.irem, 1) := by decide +kernel
theorem dX12_restAt_51 : decode cX12_restAt 51 = .ok (.invokestatic 485, 3) := by decide +kernel
theorem dX12_restAt_54 : decode cX12_restAt 54 = .ok (.iadd, 1) := by decide +kernel
theorem dX12_restAt_55 : decode cX12_restAt 55 = .ok (.ireturn, 1) := by decide +kernel
theorem dX12_restAt_56 : decode cX12_restAt 56 = .ok (.iinc 4 1, 3) := by decide +kernel
theorem dX12_restAt_59 : decode cX12_restAt 59 = .ok (.iinc 5 1, 3) := by decide +kernel
theorem dX12_restAt_62 : decode cX12_restAt 62 = .ok (.goto (-50), 3) := by decide +kernel
theorem dX12_restAt_65 : decode cX12_restAt 65 = .ok (.iload_n 3, 1) := by decide +kernel
theorem dX12_restAt_66 : decode cX12_restAt 66 = .ok (.ifCond .ge 8, 3) := by decide +kernel
theorem dX12_restAt_69 : decode cX12_restAt 69 = .ok (.iload 4, 2) := by decide +kernel
theorem dX12_restAt_71 : decode cX12_restAt 71 = .ok (.goto 5, 3) := by decide +kernel
theorem dX12_restAt_74 : decode cX12_restAt 74 = .ok (.bipush (-2), 2) := by decide +kernel
theorem dX12_restAt_76 : decode cX12_restAt 76 = .ok (.ireturn, 1) := by decide +kernel
set_option maxRecDepth 20000 in
theorem ggX12_rests_X12_isSurfer : GoodIn wsX12_rests wsX12_isSurfer := goodIn_r _ [6, 7, 118, 119, 120, 121, 122, 123, 124, 125, 126, 127, 128, 129, 130, 131, 132, 133, 134, 135, 136, 137, 138, 139, 140, 141, 142, 143, 144, 145, 146, 147, 148, 149, 150, 151, 152, 153, 154, 155, 156, 157, 158, 159, 160, 161, 162, 163, 164, 165, 166, 167, 168, 169, 170, 171, 172, 173, 174, 175, 176, 177, 178, 179, 180, 181, 182, 183, 184, 185, 186, 187, 188, 189, 190, 191, 192, 193, 194, 195, 196, 197, 198, 199, 200, 201, 202, 203, 204] (by decide +kernel) (by decide +kernel)
set_option maxRecDepth 20000 in
theorem gX12_rests_X12_isSurfer : GoodIn wsX12_rests (wsV RX12 413 RX12 yX12_isSurfer wsX12_isSurfer) := goodIn_app (goodIn_of _ (by decide +kernel)) ggX12_rests_X12_isSurfer
set_option maxRecDepth 20000 in
theorem ggX12_rests_X12_restAt : GoodIn wsX12_rests wsX12_restAt := goodIn_r _ [11, 12, 13, 14, 5, 15, 16, 17, 18, 19, 20, 21, 22, 23, 24, 25, 26, 27, 28, 29, 30, 31, 32, 33, 34, 35, 36, 37, 38, 39, 40, 41, 42, 43, 44, 45, 46, 47, 48, 49, 50, 51, 52, 53, 54, 55, 56, 57, 58, 59, 60, 61, 62, 63, 64, 65, 66, 67, 68, 69, 70, 71, 72, 73, 74, 75, 76, 77, 78, 79, 80, 81, 82, 83, 84, 85, 86, 87, 88, 89, 90, 91, 92, 93, 94, 95, 96, 97, 98, 99, 100, 101, 102, 103, 104, 105, 106, 107, 108, 109, 110, 111, 112, 113, 114, 115, 116, 117, 118, 119, 120, 121, 122, 123, 124, 125, 126, 127, 128, 129, 130, 131, 132, 133, 134, 135, 136, 137, 138, 139, 140, 141, 142, 143, 144, 145, 146, 147, 148, 149, 150, 151, 152, 153, 154, 155, 156, 157, 158, 159, 160, 161, 162, 163, 164, 165, 166, 167, 168, 169, 170, 171, 172, 173, 174, 175, 176, 177, 178, 179, 180, 181, 182, 183, 184, 185, 186, 187, 188, 189, 190, 191, 192, 193, 194, 195, 196, 197, 198, 199, 200, 201, 202, 203, 204] (by decide +kernel) (by decide +kernel)
set_option maxRecDepth 20000 in
theorem gX12_rests_X12_restAt : GoodIn wsX12_rests (wsV RX12 497 RX12 yX12_restAt wsX12_restAt) := goodIn_app (goodIn_of _ (by decide +kernel)) ggX12_rests_X12_restAt
theorem dX12_rests_0 : decode cX12_rests 0 = .ok (.aload_n 0, 1) := by decide +kernel
theorem dX12_rests_1 : decode cX12_rests 1 = .ok (.iconst 0, 1) := by decide +kernel
theorem dX12_rests_2 : decode cX12_rests 2 = .ok (.putfield 154, 3) := by decide +kernel
theorem dX12_rests_5 : decode cX12_rests 5 = .ok (.aload_n 0, 1) := by decide +kernel
theorem dX12_rests_6 : decode cX12_rests 6 = .ok (.iload_n 1, 1) := by decide +kernel
theorem dX12_rests_7 : decode cX12_rests 7 = .ok (.invokevirtual 413, 3) := by decide +kernel
theorem dX12_rests_10 : decode cX12_rests 10 = .ok (.ifCond .eq 26, 3) := by decide +kernel
theorem dX12_rests_13 : decode cX12_rests 13 = .ok (.aload_n 0, 1) := by decide +kernel
theorem dX12_rests_14 : decode cX12_rests 14 = .ok (.iload_n 2, 1) := by decide +kernel
theorem dX12_rests_15 : decode cX12_rests 15 = .ok (.invokevirtual 413, 3) := by decide +kernel
theorem dX12_rests_18 : decode cX12_rests 18 = .ok (.ifCond .eq 18, 3) := by decide +kernel
theorem dX12_rests_21 : decode cX12_rests 21 = .ok (.iload_n 1, 1) := by decide +kernel
theorem dX12_rests_22 : decode cX12_rests 22 = .ok (.iload_n 2, 1) := by decide +kernel
theorem dX12_rests_23 : decode cX12_rests 23 = .ok (.if_icmp .eq 13, 3) := by decide +kernel
theorem dX12_rests_26 : decode cX12_rests 26 = .ok (.aload_n 0, 1) := by decide +kernel
theorem dX12_rests_27 : decode cX12_rests 27 = .ok (.iload_n 1, 1) := by decide +kernel
theorem dX12_rests_28 : decode cX12_rests 28 = .ok (.iload_n 2, 1) := by decide +kernel
theorem dX12_rests_29 : decode cX12_rests 29 = .ok (.iconst (-1), 1) := by decide +kernel
theorem dX12_rests_30 : decode cX12_rests 30 = .ok (.invokevirtual 497, 3) := by decide +kernel
theorem dX12_rests_33 : decode cX12_rests 33 = .ok (.goto 4, 3) := by decide +kernel
theorem dX12_rests_36 : decode cX12_rests 36 = .ok (.iconst (-1), 1) := by decide +kernel
theorem dX12_rests_37 : decode cX12_rests 37 = .ok (.ireturn, 1) := by decide +kernel
set_option maxRecDepth 20000 in
theorem ggX12_rest_X12_isSurfer : GoodIn wsX12_rest wsX12_isSurfer := goodIn_r _ [6, 7, 118, 119, 120, 121, 122, 123, 124, 125, 126, 127, 128, 129, 130, 131, 132, 133, 134, 135, 136, 137, 138, 139, 140, 141, 142, 143, 144, 145, 146, 147, 148, 149, 150, 151, 152, 153, 154, 155, 156, 157, 158, 159, 160, 161, 162, 163, 164, 165, 166, 167, 168, 169, 170, 171, 172, 173, 174, 175, 176, 177, 178, 179, 180, 181, 182, 183, 184, 185, 186, 187, 188, 189, 190, 191, 192, 193, 194, 195, 196, 197, 198, 199, 200, 201, 202, 203, 204] (by decide +kernel) (by decide +kernel)
set_option maxRecDepth 20000 in
theorem gX12_rest_X12_isSurfer : GoodIn wsX12_rest (wsV RX12 413 RX12 yX12_isSurfer wsX12_isSurfer) := goodIn_app (goodIn_of _ (by decide +kernel)) ggX12_rest_X12_isSurfer
set_option maxRecDepth 20000 in
theorem ggX12_rest_X12_restAt : GoodIn wsX12_rest wsX12_restAt := goodIn_r _ [11, 12, 13, 14, 5, 15, 16, 17, 18, 19, 20, 21, 22, 23, 24, 25, 26, 27, 28, 29, 30, 31, 32, 33, 34, 35, 36, 37, 38, 39, 40, 41, 42, 43, 44, 45, 46, 47, 48, 49, 50, 51, 52, 53, 54, 55, 56, 57, 58, 59, 60, 61, 62, 63, 64, 65, 66, 67, 68, 69, 70, 71, 72, 73, 74, 75, 76, 77, 78, 79, 80, 81, 82, 83, 84, 85, 86, 87, 88, 89, 90, 91, 92, 93, 94, 95, 96, 97, 98, 99, 100, 101, 102, 103, 104, 105, 106, 107, 108, 109, 110, 111, 112, 113, 114, 115, 116, 117, 118, 119, 120, 121, 122, 123, 124, 125, 126, 127, 128, 129, 130, 131, 132, 133, 134, 135, 136, 137, 138, 139, 140, 141, 142, 143, 144, 145, 146, 147, 148, 149, 150, 151, 152, 153, 154, 155, 156, 157, 158, 159, 160, 161, 162, 163, 164, 165, 166, 167, 168, 169, 170, 171, 172, 173, 174, 175, 176, 177, 178, 179, 180, 181, 182, 183, 184, 185, 186, 187, 188, 189, 190, 191, 192, 193, 194, 195, 196, 197, 198, 199, 200, 201, 202, 203, 204] (by decide +kernel) (by decide +kernel)
set_option maxRecDepth 20000 in
theorem gX12_rest_X12_restAt : GoodIn wsX12_rest (wsV RX12 497 RX12 yX12_restAt wsX12_restAt) := goodIn_app (goodIn_of _ (by decide +kernel)) ggX12_rest_X12_restAt
theorem dX12_rest_0 : decode cX12_rest 0 = .ok (.aload_n 0, 1) := by decide +kernel
theorem dX12_rest_1 : decode cX12_rest 1 = .ok (.iconst 0, 1) := by decide +kernel
theorem dX12_rest_2 : decode cX12_rest 2 = .ok (.putfield 154, 3) := by decide +kernel
theorem dX12_rest_5 : decode cX12_rest 5 = .ok (.aload_n 0, 1) := by decide +kernel
theorem dX12_rest_6 : decode cX12_rest 6 = .ok (.iload_n 1, 1) := by decide +kernel
theorem dX12_rest_7 : decode cX12_rest 7 = .ok (.invokevirtual 413, 3) := by decide +kernel
theorem dX12_rest_10 : decode cX12_rest 10 = .ok (.ifCond .eq 30, 3) := by decide +kernel
theorem dX12_rest_13 : decode cX12_rest 13 = .ok (.aload_n 0, 1) := by decide +kernel
theorem dX12_rest_14 : decode cX12_rest 14 = .ok (.iload_n 2, 1) := by decide +kernel
theorem dX12_rest_15 : decode cX12_rest 15 = .ok (.invokevirtual 413, 3) := by decide +kernel
theorem dX12_rest_18 : decode cX12_rest 18 = .ok (.ifCond .eq 22, 3) := by decide +kernel
theorem dX12_rest_21 : decode cX12_rest 21 = .ok (.iload_n 1, 1) := by decide +kernel
theorem dX12_rest_22 : decode cX12_rest 22 = .ok (.iload_n 2, 1) := by decide +kernel
theorem dX12_rest_23 : decode cX12_rest 23 = .ok (.if_icmp .eq 17, 3) := by decide +kernel
theorem dX12_rest_26 : decode cX12_rest 26 = .ok (.iload_n 3, 1) := by decide +kernel
theorem dX12_rest_27 : decode cX12_rest 27 = .ok (.ifCond .lt 13, 3) := by decide +kernel
theorem dX12_rest_30 : decode cX12_rest 30 = .ok (.aload_n 0, 1) := by decide +kernel
theorem dX12_rest_31 : decode cX12_rest 31 = .ok (.iload_n 1, 1) := by decide +kernel
theorem dX12_rest_32 : decode cX12_rest 32 = .ok (.iload_n 2, 1) := by decide +kernel
theorem dX12_rest_33 : decode cX12_rest 33 = .ok (.iload_n 3, 1) := by decide +kernel
theorem dX12_rest_34 : decode cX12_rest 34 = .ok (.invokevirtual 497, 3) := by decide +kernel
theorem dX12_rest_37 : decode cX12_rest 37 = .ok (.goto 4, 3) := by decide +kernel
theorem dX12_rest_40 : decode cX12_rest 40 = .ok (.iconst (-1), 1) := by decide +kernel
theorem dX12_rest_41 : decode cX12_rest 41 = .ok (.ireturn, 1) := by decide +kernel
theorem dX12_setEnd_0 : decode cX12_setEnd 0 = .ok (.iload_n 1, 1) := by decide +kernel
theorem dX12_setEnd_1 : decode cX12_setEnd 1 = .ok (.iconst 1, 1) := by decide +kernel
theorem dX12_setEnd_2 : decode cX12_setEnd 2 = .ok (.iadd, 1) := by decide +kernel
theorem dX12_setEnd_3 : decode cX12_setEnd 3 = .ok (.aload_n 0, 1) := by decide +kernel
theorem dX12_setEnd_4 : decode cX12_setEnd 4 = .ok (.getfield 250, 3) := by decide +kernel
theorem dX12_setEnd_7 : decode cX12_setEnd 7 = .ok (.if_icmp .ge 14, 3) := by decide +kernel
theorem dX12_setEnd_10 : decode cX12_setEnd 10 = .ok (.aload_n 0, 1) := by decide +kernel
theorem dX12_setEnd_11 : decode cX12_setEnd 11 = .ok (.getfield 45, 3) := by decide +kernel
theorem dX12_setEnd_14 : decode cX12_setEnd 14 = .ok (.iload_n 1, 1) := by decide +kernel
theorem dX12_setEnd_15 : decode cX12_setEnd 15 = .ok (.iconst 1, 1) := by decide +kernel
theorem dX12_setEnd_16 : decode cX12_setEnd 16 = .ok (.iadd, 1) := by decide +kernel
theorem dX12_setEnd_17 : decode cX12_setEnd 17 = .ok (.iaload, 1) := by decide +kernel
theorem dX12_setEnd_18 : decode cX12_setEnd 18 = .ok (.goto 7, 3) := by decide +kernel
theorem dX12_setEnd_21 : decode cX12_setEnd 21 = .ok (.aload_n 0, 1) := by decide +kernel
theorem dX12_setEnd_22 : decode cX12_setEnd 22 = .ok (.getfield 253, 3) := by decide +kernel
theorem dX12_setEnd_25 : decode cX12_setEnd 25 = .ok (.ireturn, 1) := by decide +kernel
set_option maxRecDepth 20000 in
theorem ggX12_rank__X12_isIn : GoodIn wsX12_rank_ wsX12_isIn := goodIn_r _ [8] (by decide +kernel) (by decide +kernel)
set_option maxRecDepth 20000 in
theorem gX12_rank__X12_isIn : GoodIn wsX12_rank_ (va_wsS RX12 199 yX12_isIn wsX12_isIn) := goodIn_app (goodIn_of _ (by decide +kernel)) ggX12_rank__X12_isIn
set_option maxRecDepth 20000 in
theorem ggX12_rank__X12_setEnd : GoodIn wsX12_rank_ wsX12_setEnd := goodIn_r _ [12, 2, 3, 13, 14, 15, 16, 17, 18, 19, 20, 21, 22, 23, 24, 25, 26, 27, 28, 29, 30, 31, 32, 33, 34, 35, 36, 37, 38, 39, 40, 41, 42, 43, 44, 45, 46, 47, 48, 49, 50, 51, 52, 53, 54, 55, 56, 57, 58, 59, 60, 61, 62, 63, 64, 65, 66, 67, 68, 69, 70, 71, 72, 73, 74, 75, 76, 77, 78, 79, 80, 81, 82, 83, 84, 85, 86, 87, 88, 89, 90, 91, 92, 93, 94, 95, 96, 97, 98, 99, 100] (by decide +kernel) (by decide +kernel)
set_option maxRecDepth 20000 in
theorem gX12_rank__X12_setEnd : GoodIn wsX12_rank_ (wsV RX12 500 RX12 yX12_setEnd wsX12_setEnd) := goodIn_app (goodIn_of _ (by decide +kernel)) ggX12_rank__X12_setEnd
theorem dX12_rank__0 : decode cX12_rank_ 0 = .ok (.aload_n 0, 1) := by decide +kernel
theorem dX12_rank__1 : decode cX12_rank_ 1 = .ok (.iconst 0, 1) := by decide +kernel
theorem dX12_rank__2 : decode cX12_rank_ 2 = .ok (.putfield 154, 3) := by decide +kernel
theorem dX12_rank__5 : decode cX12_rank_ 5 = .ok (.iload_n 1, 1) := by decide +kernel
theorem dX12_rank__6 : decode cX12_rank_ 6 = .ok (.iconst 1, 1) := by decide +kernel
theorem dX12_rank__7 : decode cX12_rank_ 7 = .ok (.bipush 7, 2) := by decide +kernel
theorem dX12_rank__9 : decode cX12_rank_ 9 = .ok (.invokestatic 199, 3) := by decide +kernel
theorem dX12_rank__12 : decode cX12_rank_ 12 = .ok (.ifCond .eq 12, 3) := by decide +kernel
theorem dX12_rank__15 : decode cX12_rank_ 15 = .ok (.iload_n 2, 1) := by decide +kernel
theorem dX12_rank__16 : decode cX12_rank_ 16 = .ok (.iconst 0, 1) := by decide +kernel
theorem dX12_rank__17 : decode cX12_rank_ 17 = .ok (.iconst 1, 1) := by decide +kernel
theorem dX12_rank__18 : decode cX12_rank_ 18 = .ok (.invokestatic 199, 3) := by decide +kernel
theorem dX12_rank__21 : decode cX12_rank_ 21 = .ok (.ifCond .ne 5, 3) := by decide +kernel
theorem dX12_rank__24 : decode cX12_rank_ 24 = .ok (.iconst (-1), 1) := by decide +kernel
theorem dX12_rank__25 : decode cX12_rank_ 25 = .ok (.ireturn, 1) := by decide +kernel
theorem dX12_rank__26 : decode cX12_rank_ 26 = .ok (.iconst 0, 1) := by decide +kernel
theorem dX12_rank__27 : decode cX12_rank_ 27 = .ok (.istore_n 3, 1) := by decide +kernel
theorem dX12_rank__28 : decode cX12_rank_ 28 = .ok (.iconst 0, 1) := by decide +kernel
theorem dX12_rank__29 : decode cX12_rank_ 29 = .ok (.istore 4, 2) := by decide +kernel
theorem dX12_rank__31 : decode cX12_rank_ 31 = .ok (.iconst 0, 1) := by decide +kernel
theorem dX12_rank__32 : decode cX12_rank_ 32 = .ok (.istore 5, 2) := by decide +kernel
theorem dX12_rank__34 : decode cX12_rank_ 34 = .ok (.iload 5, 2) := by decide +kernel
theorem dX12_rank__36 : decode cX12_rank_ 36 = .ok (.aload_n 0, 1) := by decide +kernel
theorem dX12_rank__37 : decode cX12_rank_ 37 = .ok (.getfield 250, 3) := by decide +kernel
theorem dX12_rank__40 : decode cX12_rank_ 40 = .ok (.if_icmp .ge 119, 3) := by decide +kernel
theorem dX12_rank__43 : decode cX12_rank_ 43 = .ok (.aload_n 0, 1) := by decide +kernel
theorem dX12_rank__44 : decode cX12_rank_ 44 = .ok (.iload 5, 2) := by decide +kernel
theorem dX12_rank__46 : decode cX12_rank_ 46 = .ok (.invokevirtual 500, 3) := by decide +kernel
theorem dX12_rank__49 : decode cX12_rank_ 49 = .ok (.aload_n 0, 1) := by decide +kernel
theorem dX12_rank__50 : decode cX12_rank_ 50 = .ok (.getfield 45, 3) := by decide +kernel
theorem dX12_rank__53 : decode cX12_rank_ 53 = .ok (.iload 5, 2) := by decide +kernel
theorem dX12_rank__55 : decode cX12_rank_ 55 = .ok (.iaload, 1) := by decide +kernel
theorem dX12_rank__56 : decode cX12_rank_ 56 = .ok (.isub, 1) := by decide +kernel
theorem dX12_rank__57 : decode cX12_rank_ 57 = .ok (.iload_n 1, 1) := by decide +kernel
theorem dX12_rank__58 : decode cX12_rank_ 58 = .ok (.if_icmp .ge 6, 3) := by decide +kernel
theorem dX12_rank__61 : decode cX12_rank_ 61 = .ok (.goto 92, 3) := by decide +kernel
theorem dX12_rank__64 : decode cX12_rank_ 64 = .ok (.iinc 3 1, 3) := by decide +kernel
theorem dX12_rank__67 : decode cX12_rank_ 67 = .ok (.iconst 0, 1) := by decide +kernel
theorem dX12_rank__68 : decode cX12_rank_ 68 = .ok (.istore 6, 2) := by decide +kernel
theorem dX12_rank__70 : decode cX12_rank_ 70 = .ok (.aload_n 0, 1) := by decide +kernel
theorem dX12_rank__71 : decode cX12_rank_ 71 = .ok (.getfield 45, 3) := by decide +kernel
theorem dX12_rank__74 : decode cX12_rank_ 74 = .ok (.iload 5, 2) := by decide +kernel
theorem dX12_rank__76 : decode cX12_rank_ 76 = .ok (.iaload, 1) := by decide +kernel
theorem dX12_rank__77 : decode cX12_rank_ 77 = .ok (.istore 7, 2) := by decide +kernel
theorem dX12_rank__79 : decode cX12_rank_ 79 = .ok (.iload 7, 2) := by decide +kernel
theorem dX12_rank__81 : decode cX12_rank_ 81 = .ok (.aload_n 0, 1) := by decide +kernel
theorem dX12_rank__82 : decode cX12_rank_ 82 = .ok (.iload 5, 2) := by decide +kernel
theorem dX12_rank__84 : decode cX12_rank_ 84 = .ok (.invokevirtual 500, 3) := by decide +kernel
theorem dX12_rank__87 : decode cX12_rank_ 87 = .ok (.if_icmp .ge 35, 3) := by decide +kernel
theorem dX12_rank__90 : decode cX12_rank_ 90 = .ok (.aload_n 0, 1) := by decide +kernel
theorem dX12_rank__91 : decode cX12_rank_ 91 = .ok (.getfield 51, 3) := by decide +kernel
theorem dX12_rank__94 : decode cX12_rank_ 94 = .ok (.iload 7, 2) := by decide +kernel
theorem dX12_rank__96 : decode cX12_rank_ 96 = .ok (.iaload, 1) := by decide +kernel
theorem dX12_rank__97 : decode cX12_rank_ 97 = .ok (.iload 6, 2) := by decide +kernel
theorem dX12_rank__99 : decode cX12_rank_ 99 = .ok (.if_icmp .le 13, 3) := by decide +kernel
theorem dX12_rank__102 : decode cX12_rank_ 102 = .ok (.aload_n 0, 1) := by decide +kernel
theorem dX12_rank__103 : decode cX12_rank_ 103 = .ok (.getfield 51, 3) := by decide +kernel
theorem dX12_rank__106 : decode cX12_rank_ 106 = .ok (.iload 7, 2) := by decide +kernel
theorem dX12_rank__108 : decode cX12_rank_ 108 = .ok (.iaload, 1) := by decide +kernel
theorem dX12_rank__109 : decode cX12_rank_ 109 = .ok (.goto 5, 3) := by decide +kernel
theorem dX12_rank__112 : decode cX12_rank_ 112 = .ok (.iload 6, 2) := by decide +kernel
theorem dX12_rank__114 : decode cX12_rank_ 114 = .ok (.istore 6, 2) := by decide +kernel
theorem dX12_rank__116 : decode cX12_rank_ 116 = .ok (.iinc 7 1, 3) := by decide +kernel
theorem dX12_rank__119 : decode cX12_rank_ 119 = .ok (.goto (-40), 3) := by decide +kernel
theorem dX12_rank__122 : decode cX12_rank_ 122 = .ok (.iload 4, 2) := by decide +kernel
theorem dX12_rank__124 : decode cX12_rank_ 124 = .ok (.aload_n 0, 1) := by decide +kernel
theorem dX12_rank__125 : decode cX12_rank_ 125 = .ok (.getfield 51, 3) := by decide +kernel
theorem dX12_rank__128 : decode cX12_rank_ 128 = .ok (.aload_n 0, 1) := by decide +kernel
theorem dX12_rank__129 : decode cX12_rank_ 129 = .ok (.getfield 45, 3) := by decide +kernel
theorem dX12_rank__132 : decode cX12_rank_ 132 = .ok (.iload 5, 2) := by decide +kernel
theorem dX12_rank__134 : decode cX12_rank_ 134 = .ok (.iaload, 1) := by decide +kernel
theorem dX12_rank__135 : decode cX12_rank_ 135 = .ok (.iload_n 1, 1) := by decide +kernel
theorem dX12_rank__136 : decode cX12_rank_ 136 = .ok (.iadd, 1) := by decide +kernel
theorem dX12_rank__137 : decode cX12_rank_ 137 = .ok (.iconst 1, 1) := by decide +kernel
theorem dX12_rank__138 : decode cX12_rank_ 138 = .ok (.isub, 1) := by decide +kernel
theorem dX12_rank__139 : decode cX12_rank_ 139 = .ok (.iaload, 1) := by decide +kernel
theorem dX12_rank__140 : decode cX12_rank_ 140 = .ok (.iload 6, 2) := by decide +kernel
theorem dX12_rank__142 : decode cX12_rank_ 142 = .ok (.if_icmp .ne 7, 3) := by decide +kernel
theorem dX12_rank__145 : decode cX12_rank_ 145 = .ok (.iconst 1, 1) := by decide +kernel
theorem dX12_rank__146 : decode cX12_rank_ 146 = .ok (.goto 4, 3) := by decide +kernel
theorem dX12_rank__149 : decode cX12_rank_ 149 = .ok (.iconst 0, 1) := by decide +kernel
theorem dX12_rank__150 : decode cX12_rank_ 150 = .ok (.iadd, 1) := by decide +kernel
theorem dX12_rank__151 : decode cX12_rank_ 151 = .ok (.istore 4, 2) := by decide +kernel
theorem dX12_rank__153 : decode cX12_rank_ 153 = .ok (.iinc 5 1, 3) := by decide +kernel
theorem dX12_rank__156 : decode cX12_rank_ 156 = .ok (.goto (-122), 3) := by decide +kernel
theorem dX12_rank__159 : decode cX12_rank_ 159 = .ok (.iload_n 2, 1) := by decide +kernel
theorem dX12_rank__160 : decode cX12_rank_ 160 = .ok (.ifCond .ne 8, 3) := by decide +kernel
theorem dX12_rank__163 : decode cX12_rank_ 163 = .ok (.iload 4, 2) := by decide +kernel
theorem dX12_rank__165 : decode cX12_rank_ 165 = .ok (.goto 4, 3) := by decide +kernel
theorem dX12_rank__168 : decode cX12_rank_ 168 = .ok (.iload_n 3, 1) := by decide +kernel
theorem dX12_rank__169 : decode cX12_rank_ 169 = .ok (.ireturn, 1) := by decide +kernel
theorem dX12_next_0 : decode cX12_next 0 = .ok (.aload_n 0, 1) := by decide +kernel
theorem dX12_next_1 : decode cX12_next 1 = .ok (.iconst 0, 1) := by decide +kernel
theorem dX12_next_2 : decode cX12_next 2 = .ok (.putfield 154, 3) := by decide +kernel
theorem dX12_next_5 : decode cX12_next 5 = .ok (.iconst 0, 1) := by decide +kernel
theorem dX12_next_6 : decode cX12_next 6 = .ok (.istore_n 1, 1) := by decide +kernel
theorem dX12_next_7 : decode cX12_next 7 = .ok (.iload_n 1, 1) := by decide +kernel
theorem dX12_next_8 : decode cX12_next 8 = .ok (.aload_n 0, 1) := by decide +kernel
theorem dX12_next_9 : decode cX12_next 9 = .ok (.getfield 250, 3) := by decide +kernel
theorem dX12_next_12 : decode cX12_next 12 = .ok (.if_icmp .ge 48, 3) := by decide +kernel
theorem dX12_next_15 : decode cX12_next 15 = .ok (.aload_n 0, 1) := by decide +kernel
theorem dX12_next_16 : decode cX12_next 16 = .ok (.getfield 48, 3) := by decide +kernel
theorem dX12_next_19 : decode cX12_next 19 = .ok (.aload_n 0, 1) := by decide +kernel
theorem dX12_next_20 : decode cX12_next 20 = .ok (.getfield 45, 3) := by decide +kernel
theorem dX12_next_23 : decode cX12_next 23 = .ok (.iload_n 1, 1) := by decide +kernel
theorem dX12_next_24 : decode cX12_next 24 = .ok (.iaload, 1) := by decide +kernel
theorem dX12_next_25 : decode cX12_next 25 = .ok (.iaload, 1) := by decide +kernel
theorem dX12_next_26 : decode cX12_next 26 = .ok (.aload_n 0, 1) := by decide +kernel
theorem dX12_next_27 : decode cX12_next 27 = .ok (.getfield 106, 3) := by decide +kernel
theorem dX12_next_30 : decode cX12_next 30 = .ok (.iconst 0, 1) := by decide +kernel
theorem dX12_next_31 : decode cX12_next 31 = .ok (.iaload, 1) := by decide +kernel
theorem dX12_next_32 : decode cX12_next 32 = .ok (.if_icmp .lt 22, 3) := by decide +kernel
theorem dX12_next_35 : decode cX12_next 35 = .ok (.aload_n 0, 1) := by decide +kernel
theorem dX12_next_36 : decode cX12_next 36 = .ok (.getfield 48, 3) := by decide +kernel
theorem dX12_next_39 : decode cX12_next 39 = .ok (.aload_n 0, 1) := by decide +kernel
theorem dX12_next_40 : decode cX12_next 40 = .ok (.getfield 45, 3) := by decide +kernel
theorem dX12_next_43 : decode cX12_next 43 = .ok (.iload_n 1, 1) := by decide +kernel
theorem dX12_next_44 : decode cX12_next 44 = .ok (.iaload, 1) := by decide +kernel
theorem dX12_next_45 : decode cX12_next 45 = .ok (.iaload, 1) := by decide +kernel
theorem dX12_next_46 : decode cX12_next 46 = .ok (.aload_n 0, 1) := by decide +kernel
theorem dX12_next_47 : decode cX12_next 47 = .ok (.getfield 106, 3) := by decide +kernel
theorem dX12_next_50 : decode cX12_next 50 = .ok (.iconst 0, 1) := by decide +kernel
theorem dX12_next_51 : decode cX12_next 51 = .ok (.iaload, 1) := by decide +kernel
theorem dX12_next_52 : decode cX12_next 52 = .ok (.isub, 1) := by decide +kernel
theorem dX12_next_53 : decode cX12_next 53 = .ok (.ireturn, 1) := by decide +kernel
theorem dX12_next_54 : decode cX12_next 54 = .ok (.iinc 1 1, 3) := by decide +kernel
theorem dX12_next_57 : decode cX12_next 57 = .ok (.goto (-50), 3) := by decide +kernel
theorem dX12_next_60 : decode cX12_next 60 = .ok (.bipush (-2), 2) := by decide +kernel
theorem dX12_next_62 : decode cX12_next 62 = .ok (.ireturn, 1) := by decide +kernel
set_option maxRecDepth 20000 in
theorem ggX12_gaps_X12_isIn : GoodIn wsX12_gaps wsX12_isIn := goodIn_r _ [8] (by decide +kernel) (by decide +kernel)
set_option maxRecDepth 20000 in
theorem gX12_gaps_X12_isIn : GoodIn wsX12_gaps (va_wsS RX12 199 yX12_isIn wsX12_isIn) := goodIn_app (goodIn_of _ (by decide +kernel)) ggX12_gaps_X12_isIn
theorem dX12_gaps_0 : decode cX12_gaps 0 = .ok (.aload_n 0, 1) := by decide +kernel
theorem dX12_gaps_1 : decode cX12_gaps 1 = .ok (.iconst 0, 1) := by decide +kernel
theorem dX12_gaps_2 : decode cX12_gaps 2 = .ok (.putfield 154, 3) := by decide +kernel
theorem dX12_gaps_5 : decode cX12_gaps 5 = .ok (.iload_n 1, 1) := by decide +kernel
theorem dX12_gaps_6 : decode cX12_gaps 6 = .ok (.iconst 0, 1) := by decide +kernel
theorem dX12_gaps_7 : decode cX12_gaps 7 = .ok (.bipush 99, 2) := by decide +kernel
theorem dX12_gaps_9 : decode cX12_gaps 9 = .ok (.invokestatic 199, 3) := by decide +kernel
theorem dX12_gaps_12 : decode cX12_gaps 12 = .ok (.ifCond .eq 12, 3) := by decide +kernel
theorem dX12_gaps_15 : decode cX12_gaps 15 = .ok (.iload_n 2, 1) := by decide +kernel
theorem dX12_gaps_16 : decode cX12_gaps 16 = .ok (.iconst 0, 1) := by decide +kernel
theorem dX12_gaps_17 : decode cX12_gaps 17 = .ok (.iconst 1, 1) := by decide +kernel
theorem dX12_gaps_18 : decode cX12_gaps 18 = .ok (.invokestatic 199, 3) := by decide +kernel
theorem dX12_gaps_21 : decode cX12_gaps 21 = .ok (.ifCond .ne 5, 3) := by decide +kernel
theorem dX12_gaps_24 : decode cX12_gaps 24 = .ok (.iconst (-1), 1) := by decide +kernel
theorem dX12_gaps_25 : decode cX12_gaps 25 = .ok (.ireturn, 1) := by decide +kernel
theorem dX12_gaps_26 : decode cX12_gaps 26 = .ok (.iconst 0, 1) := by decide +kernel
theorem dX12_gaps_27 : decode cX12_gaps 27 = .ok (.istore_n 3, 1) := by decide +kernel
theorem dX12_gaps_28 : decode cX12_gaps 28 = .ok (.iconst 1, 1) := by decide +kernel
theorem dX12_gaps_29 : decode cX12_gaps 29 = .ok (.istore 4, 2) := by decide +kernel
theorem dX12_gaps_31 : decode cX12_gaps 31 = .ok (.iload 4, 2) := by decide +kernel
theorem dX12_gaps_33 : decode cX12_gaps 33 = .ok (.aload_n 0, 1) := by decide +kernel
theorem dX12_gaps_34 : decode cX12_gaps 34 = .ok (.getfield 250, 3) := by decide +kernel
theorem dX12_gaps_37 : decode cX12_gaps 37 = .ok (.if_icmp .ge 48, 3) := by decide +kernel
theorem dX12_gaps_40 : decode cX12_gaps 40 = .ok (.iload_n 3, 1) := by decide +kernel
theorem dX12_gaps_41 : decode cX12_gaps 41 = .ok (.aload_n 0, 1) := by decide +kernel
theorem dX12_gaps_42 : decode cX12_gaps 42 = .ok (.getfield 48, 3) := by decide +kernel
theorem dX12_gaps_45 : decode cX12_gaps 45 = .ok (.aload_n 0, 1) := by decide +kernel
theorem dX12_gaps_46 : decode cX12_gaps 46 = .ok (.getfield 45, 3) := by decide +kernel
theorem dX12_gaps_49 : decode cX12_gaps 49 = .ok (.iload 4, 2) := by decide +kernel
theorem dX12_gaps_51 : decode cX12_gaps 51 = .ok (.iaload, 1) := by decide +kernel
theorem dX12_gaps_52 : decode cX12_gaps 52 = .ok (.iaload, 1) := by decide +kernel
theorem dX12_gaps_53 : decode cX12_gaps 53 = .ok (.aload_n 0, 1) := by decide +kernel
theorem dX12_gaps_54 : decode cX12_gaps 54 = .ok (.getfield 48, 3) := by decide +kernel
theorem dX12_gaps_57 : decode cX12_gaps 57 = .ok (.aload_n 0, 1) := by decide +kernel
theorem dX12_gaps_58 : decode cX12_gaps 58 = .ok (.getfield 45, 3) := by decide +kernel
theorem dX12_gaps_61 : decode cX12_gaps 61 = .ok (.iload 4, 2) := by decide +kernel
theorem dX12_gaps_63 : decode cX12_gaps 63 = .ok (.iaload, 1) := by decide +kernel
theorem dX12_gaps_64 : decode cX12_gaps 64 = .ok (.iconst 1, 1) := by decide +kernel
theorem dX12_gaps_65 : decode cX12_gaps 65 = .ok (.isub, 1) := by decide +kernel
theorem dX12_gaps_66 : decode cX12_gaps 66 = .ok (.iaload, 1) := by decide +kernel
theorem dX12_gaps_67 : decode cX12_gaps 67 = .ok (.isub, 1) := by decide +kernel
theorem dX12_gaps_68 : decode cX12_gaps 68 = .ok (.iload_n 1, 1) := by decide +kernel
theorem dX12_gaps_69 : decode cX12_gaps 69 = .ok (.if_icmp .gt 7, 3) := by decide +kernel
theorem dX12_gaps_72 : decode cX12_gaps 72 = .ok (.iconst 1, 1) := by decide +kernel
theorem dX12_gaps_73 : decode cX12_gaps 73 = .ok (.goto 4, 3) := by decide +kernel
theorem dX12_gaps_76 : decode cX12_gaps 76 = .ok (.iconst 0, 1) := by decide +kernel
theorem dX12_gaps_77 : decode cX12_gaps 77 = .ok (.iadd, 1) := by decide +kernel
theorem dX12_gaps_78 : decode cX12_gaps 78 = .ok (.istore_n 3, 1) := by decide +kernel
theorem dX12_gaps_79 : decode cX12_gaps 79 = .ok (.iinc 4 1, 3) := by decide +kernel
theorem dX12_gaps_82 : decode cX12_gaps 82 = .ok (.goto (-51), 3) := by decide +kernel
theorem dX12_gaps_85 : decode cX12_gaps 85 = .ok (.iload_n 2, 1) := by decide +kernel
theorem dX12_gaps_86 : decode cX12_gaps 86 = .ok (.ifCond .ne 7, 3) := by decide +kernel
theorem dX12_gaps_89 : decode cX12_gaps 89 = .ok (.iload_n 3, 1) := by decide +kernel
theorem dX12_gaps_90 : decode cX12_gaps 90 = .ok (.goto 21, 3) := by decide +kernel
theorem dX12_gaps_93 : decode cX12_gaps 93 = .ok (.aload_n 0, 1) := by decide +kernel
theorem dX12_gaps_94 : decode cX12_gaps 94 = .ok (.getfield 250, 3) := by decide +kernel
theorem dX12_gaps_97 : decode cX12_gaps 97 = .ok (.iconst 2, 1) := by decide +kernel
theorem dX12_gaps_98 : decode cX12_gaps 98 = .ok (.if_icmp .ge 7, 3) := by decide +kernel
theorem dX12_gaps_101 : decode cX12_gaps 101 = .ok (.iconst 0, 1) := by decide +kernel
theorem dX12_gaps_102 : decode cX12_gaps 102 = .ok (.goto 9, 3) := by decide +kernel
theorem dX12_gaps_105 : decode cX12_gaps 105 = .ok (.aload_n 0, 1) := by decide +kernel
theorem dX12_gaps_106 : decode cX12_gaps 106 = .ok (.getfield 250, 3) := by decide +kernel
theorem dX12_gaps_109 : decode cX12_gaps 109 = .ok (.iconst 1, 1) := by decide +kernel
theorem dX12_gaps_110 : decode cX12_gaps 110 = .ok (.isub, 1) := by decide +kernel
theorem dX12_gaps_111 : decode cX12_gaps 111 = .ok (.ireturn, 1) := by decide +kernel
set_option maxRecDepth 20000 in
theorem ggX12_layPlan_X12_awayOf : GoodIn wsX12_layPlan wsX12_awayOf := goodIn_r _ [10, 3, 11, 12, 13, 9, 14, 15, 16, 17, 18, 19, 20, 21, 22, 23, 24, 25, 26, 27, 28, 29, 30, 31, 32, 33, 34, 35, 36, 37, 38, 39, 40, 41, 42, 43, 44, 45, 46, 47, 48, 49, 50, 51, 52, 53, 54, 55, 56, 57, 80, 81, 82, 83, 84, 85, 86, 87, 88, 89, 90, 91, 92, 93, 94, 95, 96, 97, 98, 99, 100, 101, 102, 103, 104, 105, 106, 107, 108, 109, 110, 111, 112, 113, 114, 115, 116, 117, 118, 119, 120, 121, 122, 123, 124, 125, 126, 127, 128, 129, 130, 131, 132, 133, 134, 135, 136, 137, 138, 139, 140, 141, 142, 143, 144, 145, 146, 147, 148, 149, 150, 151, 152, 153, 154, 155, 156, 157, 158, 159, 160, 161, 162, 163, 164, 165, 166] (by decide +kernel) (by decide +kernel)
set_option maxRecDepth 20000 in
theorem gX12_layPlan_X12_awayOf : GoodIn wsX12_layPlan (wsV RX12 450 RX12 yX12_awayOf wsX12_awayOf) := goodIn_app (goodIn_of _ (by decide +kernel)) ggX12_layPlan_X12_awayOf
set_option maxRecDepth 20000 in
theorem ggX12_layPlan_X12_gainOf : GoodIn wsX12_layPlan wsX12_gainOf := goodIn_r _ [61, 22, 62, 63, 64, 9, 65, 66, 67, 68, 69, 3, 70, 71, 72, 73, 74, 75, 15, 17, 18, 19, 20, 21, 23, 24, 25, 26, 27, 28, 29, 30, 31, 32, 33, 34, 35, 36, 37, 38, 39, 40, 41, 42, 43, 44, 45, 46, 47, 48, 49, 50, 51, 52, 53, 54, 55, 56, 57, 76, 77, 78, 79, 11, 12, 13, 14, 16, 80, 81, 82, 83, 84, 85, 86, 87, 88, 89, 90, 91, 92, 93, 94, 95, 96, 97, 98, 99, 100, 101, 102, 103, 104, 105, 106, 107, 108, 109, 110, 111, 112, 113, 114, 115, 116, 117, 118, 119, 120, 121, 122, 123, 124, 125, 126, 127, 128, 129, 130, 131, 132, 133, 134, 135, 136, 137, 138, 139, 140, 141, 142, 143, 144, 145, 146, 147, 148, 149, 150, 151, 152, 153, 154, 155, 156, 157, 158, 159, 160, 161, 162, 163, 164, 165, 166] (by decide +kernel) (by decide +kernel)
set_option maxRecDepth 20000 in
theorem gX12_layPlan_X12_gainOf : GoodIn wsX12_layPlan (wsV RX12 479 RX12 yX12_gainOf wsX12_gainOf) := goodIn_app (goodIn_of _ (by decide +kernel)) ggX12_layPlan_X12_gainOf
theorem dX12_layPlan_0 : decode cX12_layPlan 0 = .ok (.aload_n 0, 1) := by decide +kernel
theorem dX12_layPlan_1 : decode cX12_layPlan 1 = .ok (.getfield 127, 3) := by decide +kernel
theorem dX12_layPlan_4 : decode cX12_layPlan 4 = .ok (.aload_n 0, 1) := by decide +kernel
theorem dX12_layPlan_5 : decode cX12_layPlan 5 = .ok (.getfield 253, 3) := by decide +kernel
theorem dX12_layPlan_8 : decode cX12_layPlan 8 = .ok (.iconst 0, 1) := by decide +kernel
theorem dX12_layPlan_9 : decode cX12_layPlan 9 = .ok (.iastore, 1) := by decide +kernel
theorem dX12_layPlan_10 : decode cX12_layPlan 10 = .ok (.aload_n 0, 1) := by decide +kernel
theorem dX12_layPlan_11 : decode cX12_layPlan 11 = .ok (.getfield 253, 3) := by decide +kernel
theorem dX12_layPlan_14 : decode cX12_layPlan 14 = .ok (.iconst 1, 1) := by decide +kernel
theorem dX12_layPlan_15 : decode cX12_layPlan 15 = .ok (.isub, 1) := by decide +kernel
theorem dX12_layPlan_16 : decode cX12_layPlan 16 = .ok (.istore_n 2, 1) := by decide +kernel
theorem dX12_layPlan_17 : decode cX12_layPlan 17 = .ok (.iload_n 2, 1) := by decide +kernel
theorem dX12_layPlan_18 : decode cX12_layPlan 18 = .ok (.ifCond .lt 113, 3) := by decide +kernel
theorem dX12_layPlan_21 : decode cX12_layPlan 21 = .ok (.iload_n 2, 1) := by decide +kernel
theorem dX12_layPlan_22 : decode cX12_layPlan 22 = .ok (.iconst 1, 1) := by decide +kernel
theorem dX12_layPlan_23 : decode cX12_layPlan 23 = .ok (.iadd, 1) := by decide +kernel
theorem dX12_layPlan_24 : decode cX12_layPlan 24 = .ok (.istore_n 3, 1) := by decide +kernel
theorem dX12_layPlan_25 : decode cX12_layPlan 25 = .ok (.aload_n 0, 1) := by decide +kernel
theorem dX12_layPlan_26 : decode cX12_layPlan 26 = .ok (.iload_n 1, 1) := by decide +kernel
theorem dX12_layPlan_27 : decode cX12_layPlan 27 = .ok (.iload_n 2, 1) := by decide +kernel
theorem dX12_layPlan_28 : decode cX12_layPlan 28 = .ok (.invokevirtual 450, 3) := by decide +kernel
theorem dX12_layPlan_31 : decode cX12_layPlan 31 = .ok (.istore 4, 2) := by decide +kernel
theorem dX12_layPlan_33 : decode cX12_layPlan 33 = .ok (.iload_n 3, 1) := by decide +kernel
theorem dX12_layPlan_34 : decode cX12_layPlan 34 = .ok (.aload_n 0, 1) := by decide +kernel
theorem dX12_layPlan_35 : decode cX12_layPlan 35 = .ok (.getfield 253, 3) := by decide +kernel
theorem dX12_layPlan_38 : decode cX12_layPlan 38 = .ok (.if_icmp .ge 27, 3) := by decide +kernel
theorem dX12_layPlan_41 : decode cX12_layPlan 41 = .ok (.aload_n 0, 1) := by decide +kernel
theorem dX12_layPlan_42 : decode cX12_layPlan 42 = .ok (.getfield 48, 3) := by decide +kernel
theorem dX12_layPlan_45 : decode cX12_layPlan 45 = .ok (.iload_n 3, 1) := by decide +kernel
theorem dX12_layPlan_46 : decode cX12_layPlan 46 = .ok (.iaload, 1) := by decide +kernel
theorem dX12_layPlan_47 : decode cX12_layPlan 47 = .ok (.aload_n 0, 1) := by decide +kernel
theorem dX12_layPlan_48 : decode cX12_layPlan 48 = .ok (.getfield 48, 3) := by decide +kernel
theorem dX12_layPlan_51 : decode cX12_layPlan 51 = .ok (.iload_n 2, 1) := by decide +kernel
theorem dX12_layPlan_52 : decode cX12_layPlan 52 = .ok (.iaload, 1) := by decide +kernel
theorem dX12_layPlan_53 : decode cX12_layPlan 53 = .ok (.iload 4, 2) := by decide +kernel
theorem dX12_layPlan_55 : decode cX12_layPlan 55 = .ok (.iadd, 1) := by decide +kernel
theorem dX12_layPlan_56 : decode cX12_layPlan 56 = .ok (.if_icmp .ge 9, 3) := by decide +kernel
theorem dX12_layPlan_59 : decode cX12_layPlan 59 = .ok (.iinc 3 1, 3) := by decide +kernel
theorem dX12_layPlan_62 : decode cX12_layPlan 62 = .ok (.goto (-29), 3) := by decide +kernel
theorem dX12_layPlan_65 : decode cX12_layPlan 65 = .ok (.aload_n 0, 1) := by decide +kernel
theorem dX12_layPlan_66 : decode cX12_layPlan 66 = .ok (.getfield 130, 3) := by decide +kernel
theorem dX12_layPlan_69 : decode cX12_layPlan 69 = .ok (.iload_n 2, 1) := by decide +kernel
theorem dX12_layPlan_70 : decode cX12_layPlan 70 = .ok (.iload_n 3, 1) := by decide +kernel
theorem dX12_layPlan_71 : decode cX12_layPlan 71 = .ok (.iastore, 1) := by decide +kernel
theorem dX12_layPlan_72 : decode cX12_layPlan 72 = .ok (.aload_n 0, 1) := by decide +kernel
theorem dX12_layPlan_73 : decode cX12_layPlan 73 = .ok (.iload_n 1, 1) := by decide +kernel
theorem dX12_layPlan_74 : decode cX12_layPlan 74 = .ok (.iload_n 2, 1) := by decide +kernel
theorem dX12_layPlan_75 : decode cX12_layPlan 75 = .ok (.aload_n 0, 1) := by decide +kernel
theorem dX12_layPlan_76 : decode cX12_layPlan 76 = .ok (.getfield 88, 3) := by decide +kernel
theorem dX12_layPlan_79 : decode cX12_layPlan 79 = .ok (.iload_n 1, 1) := by decide +kernel
theorem dX12_layPlan_80 : decode cX12_layPlan 80 = .ok (.iaload, 1) := by decide +kernel
theorem dX12_layPlan_81 : decode cX12_layPlan 81 = .ok (.invokevirtual 479, 3) := by decide +kernel
theorem dX12_layPlan_84 : decode cX12_layPlan 84 = .ok (.aload_n 0, 1) := by decide +kernel
theorem dX12_layPlan_85 : decode cX12_layPlan 85 = .ok (.getfield 127, 3) := by decide +kernel
theorem dX12_layPlan_88 : decode cX12_layPlan 88 = .ok (.iload_n 3, 1) := by decide +kernel
theorem dX12_layPlan_89 : decode cX12_layPlan 89 = .ok (.iaload, 1) := by decide +kernel
theorem dX12_layPlan_90 : decode cX12_layPlan 90 = .ok (.iadd, 1) := by decide +kernel
theorem dX12_layPlan_91 : decode cX12_layPlan 91 = .ok (.istore 5, 2) := by decide +kernel
theorem dX12_layPlan_93 : decode cX12_layPlan 93 = .ok (.aload_n 0, 1) := by decide +kernel
theorem dX12_layPlan_94 : decode cX12_layPlan 94 = .ok (.getfield 127, 3) := by decide +kernel
theorem dX12_layPlan_97 : decode cX12_layPlan 97 = .ok (.iload_n 2, 1) := by decide +kernel
theorem dX12_layPlan_98 : decode cX12_layPlan 98 = .ok (.iload 5, 2) := by decide +kernel
theorem dX12_layPlan_100 : decode cX12_layPlan 100 = .ok (.aload_n 0, 1) := by decide +kernel
theorem dX12_layPlan_101 : decode cX12_layPlan 101 = .ok (.getfield 127, 3) := by decide +kernel
theorem dX12_layPlan_104 : decode cX12_layPlan 104 = .ok (.iload_n 2, 1) := by decide +kernel
theorem dX12_layPlan_105 : decode cX12_layPlan 105 = .ok (.iconst 1, 1) := by decide +kernel
theorem dX12_layPlan_106 : decode cX12_layPlan 106 = .ok (.iadd, 1) := by decide +kernel
theorem dX12_layPlan_107 : decode cX12_layPlan 107 = .ok (.iaload, 1) := by decide +kernel
theorem dX12_layPlan_108 : decode cX12_layPlan 108 = .ok (.if_icmp .lt 8, 3) := by decide +kernel
theorem dX12_layPlan_111 : decode cX12_layPlan 111 = .ok (.iload 5, 2) := by decide +kernel
theorem dX12_layPlan_113 : decode cX12_layPlan 113 = .ok (.goto 11, 3) := by decide +kernel
theorem dX12_layPlan_116 : decode cX12_layPlan 116 = .ok (.aload_n 0, 1) := by decide +kernel
theorem dX12_layPlan_117 : decode cX12_layPlan 117 = .ok (.getfield 127, 3) := by decide +kernel
theorem dX12_layPlan_120 : decode cX12_layPlan 120 = .ok (.iload_n 2, 1) := by decide +kernel
theorem dX12_layPlan_121 : decode cX12_layPlan 121 = .ok (.iconst 1, 1) := by decide +kernel
theorem dX12_layPlan_122 : decode cX12_layPlan 122 = .ok (.iadd, 1) := by decide +kernel
theorem dX12_layPlan_123 : decode cX12_layPlan 123 = .ok (.iaload, 1) := by decide +kernel
theorem dX12_layPlan_124 : decode cX12_layPlan 124 = .ok (.iastore, 1) := by decide +kernel
theorem dX12_layPlan_125 : decode cX12_layPlan 125 = .ok (.iinc 2 (-1), 3) := by decide +kernel
theorem dX12_layPlan_128 : decode cX12_layPlan 128 = .ok (.goto (-111), 3) := by decide +kernel
theorem dX12_layPlan_131 : decode cX12_layPlan 131 = .ok (.return_, 1) := by decide +kernel
theorem dX12_firstToCome_0 : decode cX12_firstToCome 0 = .ok (.iconst 0, 1) := by decide +kernel
theorem dX12_firstToCome_1 : decode cX12_firstToCome 1 = .ok (.istore_n 1, 1) := by decide +kernel
theorem dX12_firstToCome_2 : decode cX12_firstToCome 2 = .ok (.iload_n 1, 1) := by decide +kernel
theorem dX12_firstToCome_3 : decode cX12_firstToCome 3 = .ok (.aload_n 0, 1) := by decide +kernel
theorem dX12_firstToCome_4 : decode cX12_firstToCome 4 = .ok (.getfield 253, 3) := by decide +kernel
theorem dX12_firstToCome_7 : decode cX12_firstToCome 7 = .ok (.if_icmp .ge 20, 3) := by decide +kernel
theorem dX12_firstToCome_10 : decode cX12_firstToCome 10 = .ok (.aload_n 0, 1) := by decide +kernel
theorem dX12_firstToCome_11 : decode cX12_firstToCome 11 = .ok (.getfield 103, 3) := by decide +kernel
theorem dX12_firstToCome_14 : decode cX12_firstToCome 14 = .ok (.iload_n 1, 1) := by decide +kernel
theorem dX12_firstToCome_15 : decode cX12_firstToCome 15 = .ok (.iaload, 1) := by decide +kernel
theorem dX12_firstToCome_16 : decode cX12_firstToCome 16 = .ok (.bipush (-2), 2) := by decide +kernel
theorem dX12_firstToCome_18 : decode cX12_firstToCome 18 = .ok (.if_icmp .eq 9, 3) := by decide +kernel
theorem dX12_firstToCome_21 : decode cX12_firstToCome 21 = .ok (.iinc 1 1, 3) := by decide +kernel
theorem dX12_firstToCome_24 : decode cX12_firstToCome 24 = .ok (.goto (-22), 3) := by decide +kernel
theorem dX12_firstToCome_27 : decode cX12_firstToCome 27 = .ok (.iload_n 1, 1) := by decide +kernel
theorem dX12_firstToCome_28 : decode cX12_firstToCome 28 = .ok (.ireturn, 1) := by decide +kernel
set_option maxRecDepth 20000 in
theorem ggX12_plan_X12_isSurfer : GoodIn wsX12_plan wsX12_isSurfer := goodIn_r _ [7, 8, 95, 96, 97, 98, 99, 100, 101, 102, 103, 104, 105, 106, 107, 108, 109, 110, 111, 112, 113, 114, 115, 116, 117, 118, 119, 120, 121, 122, 123, 124, 125, 126, 127, 128, 129, 130, 131, 132, 133, 134, 135, 136, 137, 138, 139, 140, 141, 142, 143, 144, 145, 146, 147, 148, 149, 150, 151, 152, 153, 154, 155, 156, 157, 158, 159, 160, 161, 162, 163, 164, 165, 166, 167, 168, 169, 170, 171, 172, 173, 174, 175, 176, 177, 178, 179, 180, 181] (by decide +kernel) (by decide +kernel)
set_option maxRecDepth 20000 in
theorem gX12_plan_X12_isSurfer : GoodIn wsX12_plan (wsV RX12 413 RX12 yX12_isSurfer wsX12_isSurfer) := goodIn_app (goodIn_of _ (by decide +kernel)) ggX12_plan_X12_isSurfer
set_option maxRecDepth 20000 in
theorem ggX12_plan_X12_layPlan : GoodIn wsX12_plan wsX12_layPlan := goodIn_r _ [12, 2, 13, 14, 15, 16, 17, 18, 19, 6, 20, 21, 22, 23, 24, 25, 26, 27, 28, 29, 30, 31, 32, 33, 34, 35, 36, 37, 38, 39, 40, 41, 42, 43, 44, 45, 46, 47, 48, 49, 50, 51, 52, 53, 54, 55, 56, 57, 58, 59, 60, 61, 62, 63, 64, 65, 66, 67, 68, 69, 70, 71, 72, 73, 74, 75, 76, 77, 78, 79, 80, 81, 82, 83, 84, 85, 86, 87, 88, 89, 95, 96, 97, 98, 99, 100, 101, 102, 103, 104, 105, 106, 107, 108, 109, 110, 111, 112, 113, 114, 115, 116, 117, 118, 119, 120, 121, 122, 123, 124, 125, 126, 127, 128, 129, 130, 131, 132, 133, 134, 135, 136, 137, 138, 139, 140, 141, 142, 143, 144, 145, 146, 147, 148, 149, 150, 151, 152, 153, 154, 155, 156, 157, 158, 159, 160, 161, 162, 163, 164, 165, 166, 167, 168, 169, 170, 171, 172, 173, 174, 175, 176, 177, 178, 179, 180, 181] (by decide +kernel) (by decide +kernel)
set_option maxRecDepth 20000 in
theorem gX12_plan_X12_layPlan : GoodIn wsX12_plan (wsV RX12 503 RX12 yX12_layPlan wsX12_layPlan) := goodIn_app (goodIn_of _ (by decide +kernel)) ggX12_plan_X12_layPlan
set_option maxRecDepth 20000 in
theorem ggX12_plan_X12_firstToCome : GoodIn wsX12_plan wsX12_firstToCome := goodIn_r _ [93, 13, 94, 95, 96, 97, 98, 99, 100, 101, 102, 103, 104, 105, 106, 107, 108, 109, 110, 111, 112, 113, 114, 115, 116, 117, 118, 119, 120, 121, 122, 123, 124, 125, 126, 127, 128, 129, 130, 131, 132, 133, 134, 135, 136, 137, 138, 139, 140, 141, 142, 143, 144, 145, 146, 147, 148, 149, 150, 151, 152, 153, 154, 155, 156, 157, 158, 159, 160, 161, 162, 163, 164, 165, 166, 167, 168, 169, 170, 171, 172, 173, 174, 175, 176, 177, 178, 179, 180, 181] (by decide +kernel) (by decide +kernel)
set_option maxRecDepth 20000 in
theorem gX12_plan_X12_firstToCome : GoodIn wsX12_plan (wsV RX12 506 RX12 yX12_firstToCome wsX12_firstToCome) := goodIn_app (goodIn_of _ (by decide +kernel)) ggX12_plan_X12_firstToCome
theorem dX12_plan_0 : decode cX12_plan 0 = .ok (.aload_n 0, 1) := by decide +kernel
theorem dX12_plan_1 : decode cX12_plan 1 = .ok (.iconst 0, 1) := by decide +kernel
theorem dX12_plan_2 : decode cX12_plan 2 = .ok (.putfield 154, 3) := by decide +kernel
theorem dX12_plan_5 : decode cX12_plan 5 = .ok (.aload_n 0, 1) := by decide +kernel
theorem dX12_plan_6 : decode cX12_plan 6 = .ok (.iload_n 1, 1) := by decide +kernel
theorem dX12_plan_7 : decode cX12_plan 7 = .ok (.invokevirtual 413, 3) := by decide +kernel
theorem dX12_plan_10 : decode cX12_plan 10 = .ok (.ifCond .ne 5, 3) := by decide +kernel
theorem dX12_plan_13 : decode cX12_plan 13 = .ok (.iconst (-1), 1) := by decide +kernel
theorem dX12_plan_14 : decode cX12_plan 14 = .ok (.ireturn, 1) := by decide +kernel
theorem dX12_plan_15 : decode cX12_plan 15 = .ok (.aload_n 0, 1) := by decide +kernel
theorem dX12_plan_16 : decode cX12_plan 16 = .ok (.iload_n 1, 1) := by decide +kernel
theorem dX12_plan_17 : decode cX12_plan 17 = .ok (.invokevirtual 503, 3) := by decide +kernel
theorem dX12_plan_20 : decode cX12_plan 20 = .ok (.aload_n 0, 1) := by decide +kernel
theorem dX12_plan_21 : decode cX12_plan 21 = .ok (.getfield 127, 3) := by decide +kernel
theorem dX12_plan_24 : decode cX12_plan 24 = .ok (.aload_n 0, 1) := by decide +kernel
theorem dX12_plan_25 : decode cX12_plan 25 = .ok (.invokevirtual 506, 3) := by decide +kernel
theorem dX12_plan_28 : decode cX12_plan 28 = .ok (.iaload, 1) := by decide +kernel
theorem dX12_plan_29 : decode cX12_plan 29 = .ok (.ireturn, 1) := by decide +kernel
set_option maxRecDepth 20000 in
theorem ggX12_planned_X12_isSurfer : GoodIn wsX12_planned wsX12_isSurfer := goodIn_r _ [10, 11, 95, 96, 97, 98, 99, 100, 101, 102, 103, 104, 105, 106, 107, 108, 109, 110, 111, 112, 113, 114, 115, 116, 117, 118, 119, 120, 121, 122, 123, 124, 125, 126, 127, 128, 129, 130, 131, 132, 133, 134, 135, 136, 137, 138, 139, 140, 141, 142, 143, 144, 145, 146, 147, 148, 149, 150, 151, 152, 153, 154, 155, 156, 157, 158, 159, 160, 161, 162, 163, 164, 165, 166, 167, 168, 169, 170, 171, 172, 173, 174, 175, 176, 177, 178, 179, 180, 181] (by decide +kernel) (by decide +kernel)
set_option maxRecDepth 20000 in
theorem gX12_planned_X12_isSurfer : GoodIn wsX12_planned (wsV RX12 413 RX12 yX12_isSurfer wsX12_isSurfer) := goodIn_app (goodIn_of _ (by decide +kernel)) ggX12_planned_X12_isSurfer
set_option maxRecDepth 20000 in
theorem ggX12_planned_X12_layPlan : GoodIn wsX12_planned wsX12_layPlan := goodIn_r _ [15, 4, 2, 16, 5, 3, 17, 18, 19, 9, 20, 21, 22, 23, 24, 25, 26, 27, 28, 29, 30, 31, 32, 33, 34, 35, 36, 37, 38, 39, 40, 41, 42, 43, 44, 45, 46, 47, 48, 49, 50, 51, 52, 53, 54, 55, 56, 57, 58, 59, 60, 61, 62, 63, 64, 65, 66, 67, 68, 69, 70, 71, 72, 73, 74, 75, 76, 77, 78, 79, 80, 81, 82, 83, 84, 85, 86, 87, 88, 89, 95, 96, 97, 98, 99, 100, 101, 102, 103, 104, 105, 106, 107, 108, 109, 110, 111, 112, 113, 114, 115, 116, 117, 118, 119, 120, 121, 122, 123, 124, 125, 126, 127, 128, 129, 130, 131, 132, 133, 134, 135, 136, 137, 138, 139, 140, 141, 142, 143, 144, 145, 146, 147, 148, 149, 150, 151, 152, 153, 154, 155, 156, 157, 158, 159, 160, 161, 162, 163, 164, 165, 166, 167, 168, 169, 170, 171, 172, 173, 174, 175, 176, 177, 178, 179, 180, 181] (by decide +kernel) (by decide +kernel)
set_option maxRecDepth 20000 in
theorem gX12_planned_X12_layPlan : GoodIn wsX12_planned (wsV RX12 503 RX12 yX12_layPlan wsX12_layPlan) := goodIn_app (goodIn_of _ (by decide +kernel)) ggX12_planned_X12_layPlan
set_option maxRecDepth 20000 in
theorem ggX12_planned_X12_firstToCome : GoodIn wsX12_planned wsX12_firstToCome := goodIn_r _ [93, 2, 94, 95, 96, 97, 98, 99, 100, 101, 102, 103, 104, 105, 106, 107, 108, 109, 110, 111, 112, 113, 114, 115, 116, 117, 118, 119, 120, 121, 122, 123, 124, 125, 126, 127, 128, 129, 130, 131, 132, 133, 134, 135, 136, 137, 138, 139, 140, 141, 142, 143, 144, 145, 146, 147, 148, 149, 150, 151, 152, 153, 154, 155, 156, 157, 158, 159, 160, 161, 162, 163, 164, 165, 166, 167, 168, 169, 170, 171, 172, 173, 174, 175, 176, 177, 178, 179, 180, 181] (by decide +kernel) (by decide +kernel)
set_option maxRecDepth 20000 in
theorem gX12_planned_X12_firstToCome : GoodIn wsX12_planned (wsV RX12 506 RX12 yX12_firstToCome wsX12_firstToCome) := goodIn_app (goodIn_of _ (by decide +kernel)) ggX12_planned_X12_firstToCome
set_option maxRecDepth 20000 in
theorem ggX12_planned_X12_gainOf : GoodIn wsX12_planned wsX12_gainOf := goodIn_r _ [71, 32, 72, 73, 74, 9, 75, 76, 77, 78, 79, 16, 80, 81, 82, 83, 84, 85, 25, 27, 28, 29, 30, 31, 33, 34, 35, 36, 37, 38, 39, 40, 41, 42, 43, 44, 45, 46, 47, 48, 49, 50, 51, 52, 53, 54, 55, 56, 57, 58, 59, 60, 61, 62, 63, 64, 65, 66, 67, 86, 87, 88, 89, 21, 22, 23, 24, 26, 95, 96, 97, 98, 99, 100, 101, 102, 103, 104, 105, 106, 107, 108, 109, 110, 111, 112, 113, 114, 115, 116, 117, 118, 119, 120, 121, 122, 123, 124, 125, 126, 127, 128, 129, 130, 131, 132, 133, 134, 135, 136, 137, 138, 139, 140, 141, 142, 143, 144, 145, 146, 147, 148, 149, 150, 151, 152, 153, 154, 155, 156, 157, 158, 159, 160, 161, 162, 163, 164, 165, 166, 167, 168, 169, 170, 171, 172, 173, 174, 175, 176, 177, 178, 179, 180, 181] (by decide +kernel) (by decide +kernel)
set_option maxRecDepth 20000 in
theorem gX12_planned_X12_gainOf : GoodIn wsX12_planned (wsV RX12 479 RX12 yX12_gainOf wsX12_gainOf) := goodIn_app (goodIn_of _ (by decide +kernel)) ggX12_planned_X12_gainOf
theorem dX12_planned_0 : decode cX12_planned 0 = .ok (.aload_n 0, 1) := by decide +kernel
theorem dX12_planned_1 : decode cX12_planned 1 = .ok (.iconst 0, 1) := by decide +kernel
theorem dX12_planned_2 : decode cX12_planned 2 = .ok (.putfield 154, 3) := by decide +kernel
theorem dX12_planned_5 : decode cX12_planned 5 = .ok (.aload_n 0, 1) := by decide +kernel
theorem dX12_planned_6 : decode cX12_planned 6 = .ok (.iload_n 1, 1) := by decide +kernel
theorem dX12_planned_7 : decode cX12_planned 7 = .ok (.invokevirtual 413, 3) := by decide +kernel
theorem dX12_planned_10 : decode cX12_planned 10 = .ok (.ifCond .eq 7, 3) := by decide +kernel
theorem dX12_planned_13 : decode cX12_planned 13 = .ok (.iload_n 2, 1) := by decide +kernel
theorem dX12_planned_14 : decode cX12_planned 14 = .ok (.ifCond .ge 5, 3) := by decide +kernel
theorem dX12_planned_17 : decode cX12_planned 17 = .ok (.iconst (-1), 1) := by decide +kernel
theorem dX12_planned_18 : decode cX12_planned 18 = .ok (.ireturn, 1) := by decide +kernel
theorem dX12_planned_19 : decode cX12_planned 19 = .ok (.aload_n 0, 1) := by decide +kernel
theorem dX12_planned_20 : decode cX12_planned 20 = .ok (.iload_n 1, 1) := by decide +kernel
theorem dX12_planned_21 : decode cX12_planned 21 = .ok (.invokevirtual 503, 3) := by decide +kernel
theorem dX12_planned_24 : decode cX12_planned 24 = .ok (.iload_n 2, 1) := by decide +kernel
theorem dX12_planned_25 : decode cX12_planned 25 = .ok (.istore_n 3, 1) := by decide +kernel
theorem dX12_planned_26 : decode cX12_planned 26 = .ok (.aload_n 0, 1) := by decide +kernel
theorem dX12_planned_27 : decode cX12_planned 27 = .ok (.invokevirtual 506, 3) := by decide +kernel
theorem dX12_planned_30 : decode cX12_planned 30 = .ok (.istore 4, 2) := by decide +kernel
theorem dX12_planned_32 : decode cX12_planned 32 = .ok (.iload 4, 2) := by decide +kernel
theorem dX12_planned_34 : decode cX12_planned 34 = .ok (.aload_n 0, 1) := by decide +kernel
theorem dX12_planned_35 : decode cX12_planned 35 = .ok (.getfield 253, 3) := by decide +kernel
theorem dX12_planned_38 : decode cX12_planned 38 = .ok (.if_icmp .ge 97, 3) := by decide +kernel
theorem dX12_planned_41 : decode cX12_planned 41 = .ok (.aload_n 0, 1) := by decide +kernel
theorem dX12_planned_42 : decode cX12_planned 42 = .ok (.iload_n 1, 1) := by decide +kernel
theorem dX12_planned_43 : decode cX12_planned 43 = .ok (.iload 4, 2) := by decide +kernel
theorem dX12_planned_45 : decode cX12_planned 45 = .ok (.aload_n 0, 1) := by decide +kernel
theorem dX12_planned_46 : decode cX12_planned 46 = .ok (.getfield 88, 3) := by decide +kernel
theorem dX12_planned_49 : decode cX12_planned 49 = .ok (.iload_n 1, 1) := by decide +kernel
theorem dX12_planned_50 : decode cX12_planned 50 = .ok (.iaload, 1) := by decide +kernel
theorem dX12_planned_51 : decode cX12_planned 51 = .ok (.invokevirtual 479, 3) := by decide +kernel
theorem dX12_planned_54 : decode cX12_planned 54 = .ok (.aload_n 0, 1) := by decide +kernel
theorem dX12_planned_55 : decode cX12_planned 55 = .ok (.getfield 127, 3) := by decide +kernel
theorem dX12_planned_58 : decode cX12_planned 58 = .ok (.aload_n 0, 1) := by decide +kernel
theorem dX12_planned_59 : decode cX12_planned 59 = .ok (.getfield 130, 3) := by decide +kernel
theorem dX12_planned_62 : decode cX12_planned 62 = .ok (.iload 4, 2) := by decide +kernel
theorem dX12_planned_64 : decode cX12_planned 64 = .ok (.iaload, 1) := by decide +kernel
theorem dX12_planned_65 : decode cX12_planned 65 = .ok (.iaload, 1) := by decide +kernel
theorem dX12_planned_66 : decode cX12_planned 66 = .ok (.iadd, 1) := by decide +kernel
theorem dX12_planned_67 : decode cX12_planned 67 = .ok (.aload_n 0, 1) := by decide +kernel
theorem dX12_planned_68 : decode cX12_planned 68 = .ok (.getfield 127, 3) := by decide +kernel
theorem dX12_planned_71 : decode cX12_planned 71 = .ok (.iload 4, 2) := by decide +kernel
theorem dX12_planned_73 : decode cX12_planned 73 = .ok (.iconst 1, 1) := by decide +kernel
theorem dX12_planned_74 : decode cX12_planned 74 = .ok (.iadd, 1) := by decide +kernel
theorem dX12_planned_75 : decode cX12_planned 75 = .ok (.iaload, 1) := by decide +kernel
theorem dX12_planned_76 : decode cX12_planned 76 = .ok (.if_icmp .lt 7, 3) := by decide +kernel
theorem dX12_planned_79 : decode cX12_planned 79 = .ok (.iconst 1, 1) := by decide +kernel
theorem dX12_planned_80 : decode cX12_planned 80 = .ok (.goto 4, 3) := by decide +kernel
theorem dX12_planned_83 : decode cX12_planned 83 = .ok (.iconst 0, 1) := by decide +kernel
theorem dX12_planned_84 : decode cX12_planned 84 = .ok (.istore 5, 2) := by decide +kernel
theorem dX12_planned_86 : decode cX12_planned 86 = .ok (.iload 5, 2) := by decide +kernel
theorem dX12_planned_88 : decode cX12_planned 88 = .ok (.ifCond .eq 10, 3) := by decide +kernel
theorem dX12_planned_91 : decode cX12_planned 91 = .ok (.iload_n 3, 1) := by decide +kernel
theorem dX12_planned_92 : decode cX12_planned 92 = .ok (.ifCond .ne 6, 3) := by decide +kernel
theorem dX12_planned_95 : decode cX12_planned 95 = .ok (.iload 4, 2) := by decide +kernel
theorem dX12_planned_97 : decode cX12_planned 97 = .ok (.ireturn, 1) := by decide +kernel
theorem dX12_planned_98 : decode cX12_planned 98 = .ok (.iload_n 3, 1) := by decide +kernel
theorem dX12_planned_99 : decode cX12_planned 99 = .ok (.iload 5, 2) := by decide +kernel
theorem dX12_planned_101 : decode cX12_planned 101 = .ok (.ifCond .eq 7, 3) := by decide +kernel
theorem dX12_planned_104 : decode cX12_planned 104 = .ok (.iconst 1, 1) := by decide +kernel
theorem dX12_planned_105 : decode cX12_planned 105 = .ok (.goto 4, 3) := by decide +kernel
theorem dX12_planned_108 : decode cX12_planned 108 = .ok (.iconst 0, 1) := by decide +kernel
theorem dX12_planned_109 : decode cX12_planned 109 = .ok (.isub, 1) := by decide +kernel
theorem dX12_planned_110 : decode cX12_planned 110 = .ok (.istore_n 3, 1) := by decide +kernel
theorem dX12_planned_111 : decode cX12_planned 111 = .ok (.iload 5, 2) := by decide +kernel
theorem dX12_planned_113 : decode cX12_planned 113 = .ok (.ifCond .eq 13, 3) := by decide +kernel
theorem dX12_planned_116 : decode cX12_planned 116 = .ok (.aload_n 0, 1) := by decide +kernel
theorem dX12_planned_117 : decode cX12_planned 117 = .ok (.getfield 130, 3) := by decide +kernel
theorem dX12_planned_120 : decode cX12_planned 120 = .ok (.iload 4, 2) := by decide +kernel
theorem dX12_planned_122 : decode cX12_planned 122 = .ok (.iaload, 1) := by decide +kernel
theorem dX12_planned_123 : decode cX12_planned 123 = .ok (.goto 7, 3) := by decide +kernel
theorem dX12_planned_126 : decode cX12_planned 126 = .ok (.iload 4, 2) := by decide +kernel
theorem dX12_planned_128 : decode cX12_planned 128 = .ok (.iconst 1, 1) := by decide +kernel
theorem dX12_planned_129 : decode cX12_planned 129 = .ok (.iadd, 1) := by decide +kernel
theorem dX12_planned_130 : decode cX12_planned 130 = .ok (.istore 4, 2) := by decide +kernel
theorem dX12_planned_132 : decode cX12_planned 132 = .ok (.goto (-100), 3) := by decide +kernel
theorem dX12_planned_135 : decode cX12_planned 135 = .ok (.bipush (-2), 2) := by decide +kernel
theorem dX12_planned_137 : decode cX12_planned 137 = .ok (.ireturn, 1) := by decide +kernel
set_option maxRecDepth 20000 in
theorem ggX12_go_X12_isSurfer : GoodIn wsX12_go wsX12_isSurfer := goodIn_r _ [11, 12, 111, 112, 113, 114, 115, 116, 117, 118, 119, 120, 121, 122, 123, 124, 125, 126, 127, 128, 129, 130, 131, 132, 133, 134, 135, 136, 137, 138, 139, 140, 141, 142, 143, 144, 145, 146, 147, 148, 149, 150, 151, 152, 153, 154, 155, 156, 157, 158, 159, 160, 161, 162, 163, 164, 165, 166, 167, 168, 169, 170, 171, 172, 173, 174, 175, 176, 177, 178, 179, 180, 181, 182, 183, 184, 185, 186, 187, 188, 189, 190, 191, 192, 193, 194, 195, 196, 197] (by decide +kernel) (by decide +kernel)
set_option maxRecDepth 20000 in
theorem gX12_go_X12_isSurfer : GoodIn wsX12_go (wsV RX12 413 RX12 yX12_isSurfer wsX12_isSurfer) := goodIn_app (goodIn_of _ (by decide +kernel)) ggX12_go_X12_isSurfer
set_option maxRecDepth 20000 in
theorem ggX12_go_X12_isToCome : GoodIn wsX12_go wsX12_isToCome := goodIn_r _ [16, 17, 18, 19, 20, 10, 21, 22, 111, 112, 113, 114, 115, 116, 117, 118, 119, 120, 121, 122, 123, 124, 125, 126, 127, 128, 129, 130, 131, 132, 133, 134, 135, 136, 137, 138, 139, 140, 141, 142, 143, 144, 145, 146, 147, 148, 149, 150, 151, 152, 153, 154, 155, 156, 157, 158, 159, 160, 161, 162, 163, 164, 165, 166, 167, 168, 169, 170, 171, 172, 173, 174, 175, 176, 177, 178, 179, 180, 181, 182, 183, 184, 185, 186, 187, 188, 189, 190, 191, 192, 193, 194, 195, 196, 197] (by decide +kernel) (by decide +kernel)
set_option maxRecDepth 20000 in
theorem gX12_go_X12_isToCome : GoodIn wsX12_go (wsV RX12 476 RX12 yX12_isToCome wsX12_isToCome) := goodIn_app (goodIn_of _ (by decide +kernel)) ggX12_go_X12_isToCome
set_option maxRecDepth 20000 in
theorem ggX12_go_X12_isIn : GoodIn wsX12_go wsX12_isIn := goodIn_r _ [25] (by decide +kernel) (by decide +kernel)
set_option maxRecDepth 20000 in
theorem gX12_go_X12_isIn : GoodIn wsX12_go (va_wsS RX12 199 yX12_isIn wsX12_isIn) := goodIn_app (goodIn_of _ (by decide +kernel)) ggX12_go_X12_isIn
set_option maxRecDepth 20000 in
theorem ggX12_go_X12_layOrder : GoodIn wsX12_go wsX12_layOrder := goodIn_r _ [29, 3, 12, 5, 30, 31, 32, 10, 33, 34, 35, 36, 6, 37, 38, 39, 40, 41, 42, 43, 44, 45, 46, 47, 48, 49, 50, 51, 52, 53, 54, 55, 56, 57, 58, 59, 60, 61, 62, 63, 64, 65, 66, 67, 68, 69, 70, 71, 72, 73, 74, 75, 76, 77, 78, 79, 80, 81, 82, 83, 84, 85, 86, 87, 88, 89, 90, 91, 92, 93, 94, 95, 96, 97, 98, 99, 100, 101, 102, 103, 104, 105, 106, 22, 17, 111, 112, 113, 114, 115, 116, 117, 118, 119, 120, 121, 122, 123, 124, 125, 126, 127, 128, 129, 130, 131, 132, 133, 134, 135, 136, 137, 138, 139, 140, 141, 142, 143, 144, 145, 146, 147, 148, 149, 150, 151, 152, 153, 154, 155, 156, 157, 158, 159, 160, 161, 162, 163, 164, 165, 166, 167, 168, 169, 170, 171, 172, 173, 174, 175, 176, 177, 178, 179, 180, 181, 182, 183, 184, 185, 186, 187, 188, 189, 190, 191, 192, 193, 194, 195, 196, 197] (by decide +kernel) (by decide +kernel)
set_option maxRecDepth 20000 in
theorem gX12_go_X12_layOrder : GoodIn wsX12_go (wsV RX12 453 RX12 yX12_layOrder wsX12_layOrder) := goodIn_app (goodIn_of _ (by decide +kernel)) ggX12_go_X12_layOrder
set_option maxRecDepth 20000 in
theorem ggX12_go_X12_gainOf : GoodIn wsX12_go wsX12_gainOf := goodIn_r _ [110, 57, 37, 38, 39, 10, 40, 41, 42, 43, 44, 45, 46, 47, 48, 49, 50, 51, 35, 52, 53, 54, 55, 56, 58, 59, 60, 61, 62, 63, 64, 65, 66, 67, 68, 69, 70, 71, 72, 73, 74, 75, 76, 77, 78, 79, 80, 81, 82, 83, 84, 85, 86, 87, 88, 89, 90, 91, 92, 93, 94, 95, 96, 97, 98, 99, 100, 101, 111, 112, 113, 114, 115, 116, 117, 118, 119, 120, 121, 122, 123, 124, 125, 126, 127, 128, 129, 130, 131, 132, 133, 134, 135, 136, 137, 138, 139, 140, 141, 142, 143, 144, 145, 146, 147, 148, 149, 150, 151, 152, 153, 154, 155, 156, 157, 158, 159, 160, 161, 162, 163, 164, 165, 166, 167, 168, 169, 170, 171, 172, 173, 174, 175, 176, 177, 178, 179, 180, 181, 182, 183, 184, 185, 186, 187, 188, 189, 190, 191, 192, 193, 194, 195, 196, 197] (by decide +kernel) (by decide +kernel)
set_option maxRecDepth 20000 in
theorem gX12_go_X12_gainOf : GoodIn wsX12_go (wsV RX12 479 RX12 yX12_gainOf wsX12_gainOf) := goodIn_app (goodIn_of _ (by decide +kernel)) ggX12_go_X12_gainOf
theorem dX12_go_0 : decode cX12_go 0 = .ok (.aload_n 0, 1) := by decide +kernel
theorem dX12_go_1 : decode cX12_go 1 = .ok (.iconst 0, 1) := by decide +kernel
theorem dX12_go_2 : decode cX12_go 2 = .ok (.putfield 154, 3) := by decide +kernel
theorem dX12_go_5 : decode cX12_go 5 = .ok (.aload_n 0, 1) := by decide +kernel
theorem dX12_go_6 : decode cX12_go 6 = .ok (.iload_n 1, 1) := by decide +kernel
theorem dX12_go_7 : decode cX12_go 7 = .ok (.invokevirtual 413, 3) := by decide +kernel
theorem dX12_go_10 : decode cX12_go 10 = .ok (.ifCond .eq 22, 3) := by decide +kernel
theorem dX12_go_13 : decode cX12_go 13 = .ok (.aload_n 0, 1) := by decide +kernel
theorem dX12_go_14 : decode cX12_go 14 = .ok (.iload_n 2, 1) := by decide +kernel
theorem dX12_go_15 : decode cX12_go 15 = .ok (.invokevirtual 476, 3) := by decide +kernel
theorem dX12_go_18 : decode cX12_go 18 = .ok (.ifCond .eq 14, 3) := by decide +kernel
theorem dX12_go_21 : decode cX12_go 21 = .ok (.iload_n 3, 1) := by decide +kernel
theorem dX12_go_22 : decode cX12_go 22 = .ok (.iconst 0, 1) := by decide +kernel
theorem dX12_go_23 : decode cX12_go 23 = .ok (.sipush 999, 3) := by decide +kernel
theorem dX12_go_26 : decode cX12_go 26 = .ok (.invokestatic 199, 3) := by decide +kernel
theorem dX12_go_29 : decode cX12_go 29 = .ok (.ifCond .ne 5, 3) := by decide +kernel
theorem dX12_go_32 : decode cX12_go 32 = .ok (.iconst (-1), 1) := by decide +kernel
theorem dX12_go_33 : decode cX12_go 33 = .ok (.ireturn, 1) := by decide +kernel
theorem dX12_go_34 : decode cX12_go 34 = .ok (.aload_n 0, 1) := by decide +kernel
theorem dX12_go_35 : decode cX12_go 35 = .ok (.iconst 0, 1) := by decide +kernel
theorem dX12_go_36 : decode cX12_go 36 = .ok (.iload_n 2, 1) := by decide +kernel
theorem dX12_go_37 : decode cX12_go 37 = .ok (.aload_n 0, 1) := by decide +kernel
theorem dX12_go_38 : decode cX12_go 38 = .ok (.getfield 369, 3) := by decide +kernel
theorem dX12_go_41 : decode cX12_go 41 = .ok (.invokevirtual 453, 3) := by decide +kernel
theorem dX12_go_44 : decode cX12_go 44 = .ok (.bipush 100, 2) := by decide +kernel
theorem dX12_go_46 : decode cX12_go 46 = .ok (.istore 4, 2) := by decide +kernel
theorem dX12_go_48 : decode cX12_go 48 = .ok (.iconst 0, 1) := by decide +kernel
theorem dX12_go_49 : decode cX12_go 49 = .ok (.istore 5, 2) := by decide +kernel
theorem dX12_go_51 : decode cX12_go 51 = .ok (.iconst 0, 1) := by decide +kernel
theorem dX12_go_52 : decode cX12_go 52 = .ok (.istore 6, 2) := by decide +kernel
theorem dX12_go_54 : decode cX12_go 54 = .ok (.iload 6, 2) := by decide +kernel
theorem dX12_go_56 : decode cX12_go 56 = .ok (.aload_n 0, 1) := by decide +kernel
theorem dX12_go_57 : decode cX12_go 57 = .ok (.getfield 433, 3) := by decide +kernel
theorem dX12_go_60 : decode cX12_go 60 = .ok (.if_icmp .ge 60, 3) := by decide +kernel
theorem dX12_go_63 : decode cX12_go 63 = .ok (.iload 5, 2) := by decide +kernel
theorem dX12_go_65 : decode cX12_go 65 = .ok (.ifCond .eq 26, 3) := by decide +kernel
theorem dX12_go_68 : decode cX12_go 68 = .ok (.iload 4, 2) := by decide +kernel
theorem dX12_go_70 : decode cX12_go 70 = .ok (.bipush 100, 2) := by decide +kernel
theorem dX12_go_72 : decode cX12_go 72 = .ok (.aload_n 0, 1) := by decide +kernel
theorem dX12_go_73 : decode cX12_go 73 = .ok (.getfield 39, 3) := by decide +kernel
theorem dX12_go_76 : decode cX12_go 76 = .ok (.aload_n 0, 1) := by decide +kernel
theorem dX12_go_77 : decode cX12_go 77 = .ok (.getfield 118, 3) := by decide +kernel
theorem dX12_go_80 : decode cX12_go 80 = .ok (.iload 6, 2) := by decide +kernel
theorem dX12_go_82 : decode cX12_go 82 = .ok (.iaload, 1) := by decide +kernel
theorem dX12_go_83 : decode cX12_go 83 = .ok (.iaload, 1) := by decide +kernel
theorem dX12_go_84 : decode cX12_go 84 = .ok (.isub, 1) := by decide +kernel
theorem dX12_go_85 : decode cX12_go 85 = .ok (.imul, 1) := by decide +kernel
theorem dX12_go_86 : decode cX12_go 86 = .ok (.bipush 100, 2) := by decide +kernel
theorem dX12_go_88 : decode cX12_go 88 = .ok (.idiv, 1) := by decide +kernel
theorem dX12_go_89 : decode cX12_go 89 = .ok (.istore 4, 2) := by decide +kernel
theorem dX12_go_91 : decode cX12_go 91 = .ok (.iload 5, 2) := by decide +kernel
theorem dX12_go_93 : decode cX12_go 93 = .ok (.ifCond .ne 14, 3) := by decide +kernel
theorem dX12_go_96 : decode cX12_go 96 = .ok (.aload_n 0, 1) := by decide +kernel
theorem dX12_go_97 : decode cX12_go 97 = .ok (.getfield 118, 3) := by decide +kernel
theorem dX12_go_100 : decode cX12_go 100 = .ok (.iload 6, 2) := by decide +kernel
theorem dX12_go_102 : decode cX12_go 102 = .ok (.iaload, 1) := by decide +kernel
theorem dX12_go_103 : decode cX12_go 103 = .ok (.iload_n 1, 1) := by decide +kernel
theorem dX12_go_104 : decode cX12_go 104 = .ok (.if_icmp .ne 7, 3) := by decide +kernel
theorem dX12_go_107 : decode cX12_go 107 = .ok (.iconst 1, 1) := by decide +kernel
theorem dX12_go_108 : decode cX12_go 108 = .ok (.goto 4, 3) := by decide +kernel
theorem dX12_go_111 : decode cX12_go 111 = .ok (.iconst 0, 1) := by decide +kernel
theorem dX12_go_112 : decode cX12_go 112 = .ok (.istore 5, 2) := by decide +kernel
theorem dX12_go_114 : decode cX12_go 114 = .ok (.iinc 6 1, 3) := by decide +kernel
theorem dX12_go_117 : decode cX12_go 117 = .ok (.goto (-63), 3) := by decide +kernel
theorem dX12_go_120 : decode cX12_go 120 = .ok (.aload_n 0, 1) := by decide +kernel
theorem dX12_go_121 : decode cX12_go 121 = .ok (.iload_n 1, 1) := by decide +kernel
theorem dX12_go_122 : decode cX12_go 122 = .ok (.iload_n 2, 1) := by decide +kernel
theorem dX12_go_123 : decode cX12_go 123 = .ok (.aload_n 0, 1) := by decide +kernel
theorem dX12_go_124 : decode cX12_go 124 = .ok (.getfield 88, 3) := by decide +kernel
theorem dX12_go_127 : decode cX12_go 127 = .ok (.iload_n 1, 1) := by decide +kernel
theorem dX12_go_128 : decode cX12_go 128 = .ok (.iaload, 1) := by decide +kernel
theorem dX12_go_129 : decode cX12_go 129 = .ok (.invokevirtual 479, 3) := by decide +kernel
theorem dX12_go_132 : decode cX12_go 132 = .ok (.iload_n 3, 1) := by decide +kernel
theorem dX12_go_133 : decode cX12_go 133 = .ok (.bipush 100, 2) := by decide +kernel
theorem dX12_go_135 : decode cX12_go 135 = .ok (.iload 4, 2) := by decide +kernel
theorem dX12_go_137 : decode cX12_go 137 = .ok (.isub, 1) := by decide +kernel
theorem dX12_go_138 : decode cX12_go 138 = .ok (.imul, 1) := by decide +kernel
theorem dX12_go_139 : decode cX12_go 139 = .ok (.if_icmp .le 7, 3) := by decide +kernel
theorem dX12_go_142 : decode cX12_go 142 = .ok (.iconst 1, 1) := by decide +kernel
theorem dX12_go_143 : decode cX12_go 143 = .ok (.goto 4, 3) := by decide +kernel
theorem dX12_go_146 : decode cX12_go 146 = .ok (.iconst 0, 1) := by decide +kernel
theorem dX12_go_147 : decode cX12_go 147 = .ok (.ireturn, 1) := by decide +kernel
set_option maxRecDepth 20000 in
theorem ggX12_give_X12_isSurfer : GoodIn wsX12_give wsX12_isSurfer := goodIn_r _ [7, 8, 12, 13, 14, 15, 16, 17, 18, 19, 20, 21, 22, 23, 24, 25, 26, 27, 28, 29, 30, 31, 32, 33, 34, 35, 36, 37, 38, 39, 40, 41, 42, 43, 44, 45, 46, 47, 48, 49, 50, 51, 52, 53, 54, 55, 56, 57, 58, 59, 60, 61, 62, 63, 64, 65, 66, 67, 68, 69, 70, 71, 72, 73, 74, 75, 76, 77, 78, 79, 80, 81, 82, 83, 84, 85, 86, 87, 88, 89, 90, 91, 92, 93, 94, 95, 96, 97, 98] (by decide +kernel) (by decide +kernel)
set_option maxRecDepth 20000 in
theorem gX12_give_X12_isSurfer : GoodIn wsX12_give (wsV RX12 413 RX12 yX12_isSurfer wsX12_isSurfer) := goodIn_app (goodIn_of _ (by decide +kernel)) ggX12_give_X12_isSurfer
set_option maxRecDepth 20000 in
theorem ggX12_give_X12_isIn : GoodIn wsX12_give wsX12_isIn := goodIn_r _ [11] (by decide +kernel) (by decide +kernel)
set_option maxRecDepth 20000 in
theorem gX12_give_X12_isIn : GoodIn wsX12_give (va_wsS RX12 199 yX12_isIn wsX12_isIn) := goodIn_app (goodIn_of _ (by decide +kernel)) ggX12_give_X12_isIn
theorem dX12_give_0 : decode cX12_give 0 = .ok (.aload_n 0, 1) := by decide +kernel
theorem dX12_give_1 : decode cX12_give 1 = .ok (.iconst 0, 1) := by decide +kernel
theorem dX12_give_2 : decode cX12_give 2 = .ok (.putfield 154, 3) := by decide +kernel
theorem dX12_give_5 : decode cX12_give 5 = .ok (.aload_n 0, 1) := by decide +kernel
theorem dX12_give_6 : decode cX12_give 6 = .ok (.iload_n 1, 1) := by decide +kernel
theorem dX12_give_7 : decode cX12_give 7 = .ok (.invokevirtual 413, 3) := by decide +kernel
theorem dX12_give_10 : decode cX12_give 10 = .ok (.ifCond .eq 26, 3) := by decide +kernel
theorem dX12_give_13 : decode cX12_give 13 = .ok (.aload_n 0, 1) := by decide +kernel
theorem dX12_give_14 : decode cX12_give 14 = .ok (.iload_n 2, 1) := by decide +kernel
theorem dX12_give_15 : decode cX12_give 15 = .ok (.invokevirtual 413, 3) := by decide +kernel
theorem dX12_give_18 : decode cX12_give 18 = .ok (.ifCond .eq 18, 3) := by decide +kernel
theorem dX12_give_21 : decode cX12_give 21 = .ok (.iload_n 1, 1) := by decide +kernel
theorem dX12_give_22 : decode cX12_give 22 = .ok (.iload_n 2, 1) := by decide +kernel
theorem dX12_give_23 : decode cX12_give 23 = .ok (.if_icmp .eq 13, 3) := by decide +kernel
theorem dX12_give_26 : decode cX12_give 26 = .ok (.iload_n 3, 1) := by decide +kernel
theorem dX12_give_27 : decode cX12_give 27 = .ok (.iconst 0, 1) := by decide +kernel
theorem dX12_give_28 : decode cX12_give 28 = .ok (.bipush 99, 2) := by decide +kernel
theorem dX12_give_30 : decode cX12_give 30 = .ok (.invokestatic 199, 3) := by decide +kernel
theorem dX12_give_33 : decode cX12_give 33 = .ok (.ifCond .ne 5, 3) := by decide +kernel
theorem dX12_give_36 : decode cX12_give 36 = .ok (.iconst (-1), 1) := by decide +kernel
theorem dX12_give_37 : decode cX12_give 37 = .ok (.ireturn, 1) := by decide +kernel
theorem dX12_give_38 : decode cX12_give 38 = .ok (.aload_n 0, 1) := by decide +kernel
theorem dX12_give_39 : decode cX12_give 39 = .ok (.getfield 42, 3) := by decide +kernel
theorem dX12_give_42 : decode cX12_give 42 = .ok (.iload_n 2, 1) := by decide +kernel
theorem dX12_give_43 : decode cX12_give 43 = .ok (.iaload, 1) := by decide +kernel
theorem dX12_give_44 : decode cX12_give 44 = .ok (.iload_n 3, 1) := by decide +kernel
theorem dX12_give_45 : decode cX12_give 45 = .ok (.imul, 1) := by decide +kernel
theorem dX12_give_46 : decode cX12_give 46 = .ok (.bipush 100, 2) := by decide +kernel
theorem dX12_give_48 : decode cX12_give 48 = .ok (.if_icmp .le 7, 3) := by decide +kernel
theorem dX12_give_51 : decode cX12_give 51 = .ok (.iconst 1, 1) := by decide +kernel
theorem dX12_give_52 : decode cX12_give 52 = .ok (.goto 4, 3) := by decide +kernel
theorem dX12_give_55 : decode cX12_give 55 = .ok (.iconst 0, 1) := by decide +kernel
theorem dX12_give_56 : decode cX12_give 56 = .ok (.ireturn, 1) := by decide +kernel
theorem dX12_unlike_0 : decode cX12_unlike 0 = .ok (.iconst 0, 1) := by decide +kernel
theorem dX12_unlike_1 : decode cX12_unlike 1 = .ok (.istore_n 2, 1) := by decide +kernel
theorem dX12_unlike_2 : decode cX12_unlike 2 = .ok (.bipush 99, 2) := by decide +kernel
theorem dX12_unlike_4 : decode cX12_unlike 4 = .ok (.istore_n 3, 1) := by decide +kernel
theorem dX12_unlike_5 : decode cX12_unlike 5 = .ok (.iconst 0, 1) := by decide +kernel
theorem dX12_unlike_6 : decode cX12_unlike 6 = .ok (.istore 4, 2) := by decide +kernel
theorem dX12_unlike_8 : decode cX12_unlike 8 = .ok (.iload 4, 2) := by decide +kernel
theorem dX12_unlike_10 : decode cX12_unlike 10 = .ok (.aload_n 0, 1) := by decide +kernel
theorem dX12_unlike_11 : decode cX12_unlike 11 = .ok (.getfield 247, 3) := by decide +kernel
theorem dX12_unlike_14 : decode cX12_unlike 14 = .ok (.if_icmp .ge 71, 3) := by decide +kernel
theorem dX12_unlike_17 : decode cX12_unlike 17 = .ok (.aload_n 0, 1) := by decide +kernel
theorem dX12_unlike_18 : decode cX12_unlike 18 = .ok (.getfield 91, 3) := by decide +kernel
theorem dX12_unlike_21 : decode cX12_unlike 21 = .ok (.iconst 5, 1) := by decide +kernel
theorem dX12_unlike_22 : decode cX12_unlike 22 = .ok (.iload_n 1, 1) := by decide +kernel
theorem dX12_unlike_23 : decode cX12_unlike 23 = .ok (.imul, 1) := by decide +kernel
theorem dX12_unlike_24 : decode cX12_unlike 24 = .ok (.iload 4, 2) := by decide +kernel
theorem dX12_unlike_26 : decode cX12_unlike 26 = .ok (.iadd, 1) := by decide +kernel
theorem dX12_unlike_27 : decode cX12_unlike 27 = .ok (.iaload, 1) := by decide +kernel
theorem dX12_unlike_28 : decode cX12_unlike 28 = .ok (.iload_n 2, 1) := by decide +kernel
theorem dX12_unlike_29 : decode cX12_unlike 29 = .ok (.if_icmp .le 17, 3) := by decide +kernel
theorem dX12_unlike_32 : decode cX12_unlike 32 = .ok (.aload_n 0, 1) := by decide +kernel
theorem dX12_unlike_33 : decode cX12_unlike 33 = .ok (.getfield 91, 3) := by decide +kernel
theorem dX12_unlike_36 : decode cX12_unlike 36 = .ok (.iconst 5, 1) := by decide +kernel
theorem dX12_unlike_37 : decode cX12_unlike 37 = .ok (.iload_n 1, 1) := by decide +kernel
theorem dX12_unlike_38 : decode cX12_unlike 38 = .ok (.imul, 1) := by decide +kernel
theorem dX12_unlike_39 : decode cX12_unlike 39 = .ok (.iload 4, 2) := by decide +kernel
theorem dX12_unlike_41 : decode cX12_unlike 41 = .ok (.iadd, 1) := by decide +kernel
theorem dX12_unlike_42 : decode cX12_unlike 42 = .ok (.iaload, 1) := by decide +kernel
theorem dX12_unlike_43 : decode cX12_unlike 43 = .ok (.goto 4, 3) := by decide +kernel
theorem dX12_unlike_46 : decode cX12_unlike 46 = .ok (.iload_n 2, 1) := by decide +kernel
theorem dX12_unlike_47 : decode cX12_unlike 47 = .ok (.istore_n 2, 1) := by decide +kernel
theorem dX12_unlike_48 : decode cX12_unlike 48 = .ok (.aload_n 0, 1) := by decide +kernel
theorem dX12_unlike_49 : decode cX12_unlike 49 = .ok (.getfield 91, 3) := by decide +kernel
theorem dX12_unlike_52 : decode cX12_unlike 52 = .ok (.iconst 5, 1) := by decide +kernel
theorem dX12_unlike_53 : decode cX12_unlike 53 = .ok (.iload_n 1, 1) := by decide +kernel
theorem dX12_unlike_54 : decode cX12_unlike 54 = .ok (.imul, 1) := by decide +kernel
theorem dX12_unlike_55 : decode cX12_unlike 55 = .ok (.iload 4, 2) := by decide +kernel
theorem dX12_unlike_57 : decode cX12_unlike 57 = .ok (.iadd, 1) := by decide +kernel
theorem dX12_unlike_58 : decode cX12_unlike 58 = .ok (.iaload, 1) := by decide +kernel
theorem dX12_unlike_59 : decode cX12_unlike 59 = .ok (.iload_n 3, 1) := by decide +kernel
theorem dX12_unlike_60 : decode cX12_unlike 60 = .ok (.if_icmp .ge 17, 3) := by decide +kernel
theorem dX12_unlike_63 : decode cX12_unlike 63 = .ok (.aload_n 0, 1) := by decide +kernel
theorem dX12_unlike_64 : decode cX12_unlike 64 = .ok (.getfield 91, 3) := by decide +kernel
theorem dX12_unlike_67 : decode cX12_unlike 67 = .ok (.iconst 5, 1) := by decide +kernel
theorem dX12_unlike_68 : decode cX12_unlike 68 = .ok (.iload_n 1, 1) := by decide +kernel
theorem dX12_unlike_69 : decode cX12_unlike 69 = .ok (.imul, 1) := by decide +kernel
theorem dX12_unlike_70 : decode cX12_unlike 70 = .ok (.iload 4, 2) := by decide +kernel
theorem dX12_unlike_72 : decode cX12_unlike 72 = .ok (.iadd, 1) := by decide +kernel
theorem dX12_unlike_73 : decode cX12_unlike 73 = .ok (.iaload, 1) := by decide +kernel
theorem dX12_unlike_74 : decode cX12_unlike 74 = .ok (.goto 4, 3) := by decide +kernel
theorem dX12_unlike_77 : decode cX12_unlike 77 = .ok (.iload_n 3, 1) := by decide +kernel
theorem dX12_unlike_78 : decode cX12_unlike 78 = .ok (.istore_n 3, 1) := by decide +kernel
theorem dX12_unlike_79 : decode cX12_unlike 79 = .ok (.iinc 4 1, 3) := by decide +kernel
theorem dX12_unlike_82 : decode cX12_unlike 82 = .ok (.goto (-74), 3) := by decide +kernel
theorem dX12_unlike_85 : decode cX12_unlike 85 = .ok (.aload_n 0, 1) := by decide +kernel
theorem dX12_unlike_86 : decode cX12_unlike 86 = .ok (.getfield 247, 3) := by decide +kernel
theorem dX12_unlike_89 : decode cX12_unlike 89 = .ok (.ifCond .ne 7, 3) := by decide +kernel
theorem dX12_unlike_92 : decode cX12_unlike 92 = .ok (.iconst 0, 1) := by decide +kernel
theorem dX12_unlike_93 : decode cX12_unlike 93 = .ok (.goto 6, 3) := by decide +kernel
theorem dX12_unlike_96 : decode cX12_unlike 96 = .ok (.iload_n 2, 1) := by decide +kernel
theorem dX12_unlike_97 : decode cX12_unlike 97 = .ok (.iload_n 3, 1) := by decide +kernel
theorem dX12_unlike_98 : decode cX12_unlike 98 = .ok (.isub, 1) := by decide +kernel
theorem dX12_unlike_99 : decode cX12_unlike 99 = .ok (.ireturn, 1) := by decide +kernel
set_option maxRecDepth 20000 in
theorem ggX12_goesOn_X12_aMinute : GoodIn wsX12_goesOn wsX12_aMinute := goodIn_r _ [8, 1, 3, 2, 9, 10, 11, 12, 13, 7, 14, 15, 16, 17, 18, 19, 20, 21, 22, 23, 24, 25, 26, 27, 28, 29, 30, 31, 32, 33, 34, 35, 36, 37, 38, 39, 40, 41, 42, 43, 44, 45, 46, 47, 48, 49, 50, 51, 52, 53, 54, 55, 56, 57, 58, 59, 60, 61, 62, 63, 64, 65, 66, 67, 68, 69, 70, 71, 72, 73, 74, 75, 76, 77, 78, 79, 80, 81, 82, 83, 84, 85, 86, 87, 88, 89, 90, 91, 92, 93, 94, 95, 96, 97, 98, 99, 100, 101, 102, 103, 104, 105, 106, 107, 108, 109, 110, 111, 112, 113, 114, 115, 116, 117, 118, 119, 120, 121, 122, 123, 124, 125, 126, 127, 128, 129, 130, 131, 132, 133, 134, 135, 136, 137, 138, 139, 140, 141, 142, 143, 144, 145, 146, 147, 148, 149, 150, 151, 152, 153, 154, 155, 156, 157, 158, 159, 160, 161, 162, 163, 164, 165, 166, 167, 168, 169, 170, 171, 172, 173, 174, 175, 176, 177, 178, 179, 180, 181, 182, 183, 184, 185, 186, 187, 188, 189, 190, 191, 192, 193, 194, 195, 196, 197, 198, 199, 200, 201, 202, 203, 204, 205] (by decide +kernel) (by decide +kernel)
set_option maxRecDepth 20000 in
theorem gX12_goesOn_X12_aMinute : GoodIn wsX12_goesOn (wsV RX12 472 RX12 yX12_aMinute wsX12_aMinute) := goodIn_app (goodIn_of _ (by decide +kernel)) ggX12_goesOn_X12_aMinute
theorem dX12_goesOn_0 : decode cX12_goesOn 0 = .ok (.aload_n 0, 1) := by decide +kernel
theorem dX12_goesOn_1 : decode cX12_goesOn 1 = .ok (.getfield 253, 3) := by decide +kernel
theorem dX12_goesOn_4 : decode cX12_goesOn 4 = .ok (.ifCond .le 32, 3) := by decide +kernel
theorem dX12_goesOn_7 : decode cX12_goesOn 7 = .ok (.aload_n 0, 1) := by decide +kernel
theorem dX12_goesOn_8 : decode cX12_goesOn 8 = .ok (.getfield 106, 3) := by decide +kernel
theorem dX12_goesOn_11 : decode cX12_goesOn 11 = .ok (.iconst 1, 1) := by decide +kernel
theorem dX12_goesOn_12 : decode cX12_goesOn 12 = .ok (.iaload, 1) := by decide +kernel
theorem dX12_goesOn_13 : decode cX12_goesOn 13 = .ok (.aload_n 0, 1) := by decide +kernel
theorem dX12_goesOn_14 : decode cX12_goesOn 14 = .ok (.getfield 48, 3) := by decide +kernel
theorem dX12_goesOn_17 : decode cX12_goesOn 17 = .ok (.aload_n 0, 1) := by decide +kernel
theorem dX12_goesOn_18 : decode cX12_goesOn 18 = .ok (.getfield 253, 3) := by decide +kernel
theorem dX12_goesOn_21 : decode cX12_goesOn 21 = .ok (.iconst 1, 1) := by decide +kernel
theorem dX12_goesOn_22 : decode cX12_goesOn 22 = .ok (.isub, 1) := by decide +kernel
theorem dX12_goesOn_23 : decode cX12_goesOn 23 = .ok (.iaload, 1) := by decide +kernel
theorem dX12_goesOn_24 : decode cX12_goesOn 24 = .ok (.if_icmp .gt 12, 3) := by decide +kernel
theorem dX12_goesOn_27 : decode cX12_goesOn 27 = .ok (.aload_n 0, 1) := by decide +kernel
theorem dX12_goesOn_28 : decode cX12_goesOn 28 = .ok (.iconst 1, 1) := by decide +kernel
theorem dX12_goesOn_29 : decode cX12_goesOn 29 = .ok (.iload_n 1, 1) := by decide +kernel
theorem dX12_goesOn_30 : decode cX12_goesOn 30 = .ok (.invokevirtual 472, 3) := by decide +kernel
theorem dX12_goesOn_33 : decode cX12_goesOn 33 = .ok (.goto (-33), 3) := by decide +kernel
theorem dX12_goesOn_36 : decode cX12_goesOn 36 = .ok (.return_, 1) := by decide +kernel
set_option maxRecDepth 20000 in
theorem ggX12_run_X12_layTried : GoodIn wsX12_run wsX12_layTried := goodIn_r _ [6, 7, 8, 9, 10, 11, 12, 13, 14, 127, 128, 129, 130, 131, 132, 133, 134, 135, 136, 137, 138, 139, 140, 141, 142, 143, 144, 145, 146, 147, 148, 149, 150, 151, 152, 153, 154, 155, 156, 157, 158, 159, 160, 161, 162, 163, 164, 165, 166, 167, 168, 169, 170, 171, 172, 173, 174, 175, 176, 177, 178, 179, 180, 181, 182, 183, 184, 185, 186, 187, 188, 189, 190, 191, 192, 193, 194, 195, 196, 197, 198, 199, 200, 201, 202, 203, 204, 205, 206, 207, 208, 209, 210, 211, 212, 213] (by decide +kernel) (by decide +kernel)
set_option maxRecDepth 20000 in
theorem gX12_run_X12_layTried : GoodIn wsX12_run (wsV RX12 509 RX12 yX12_layTried wsX12_layTried) := goodIn_app (goodIn_of _ (by decide +kernel)) ggX12_run_X12_layTried
set_option maxRecDepth 20000 in
theorem ggX12_run_X12_goesOn : GoodIn wsX12_run wsX12_goesOn := goodIn_r _ [18, 19, 12, 20, 21, 22, 23, 5, 24, 25, 10, 26, 27, 28, 29, 30, 31, 7, 11, 14, 32, 33, 13, 9, 8, 34, 35, 36, 37, 38, 39, 40, 41, 42, 43, 44, 45, 46, 47, 48, 49, 50, 51, 52, 53, 54, 55, 56, 57, 58, 59, 60, 61, 62, 63, 64, 65, 66, 67, 68, 69, 70, 71, 72, 73, 74, 75, 76, 77, 78, 79, 80, 81, 82, 83, 84, 85, 86, 87, 88, 89, 90, 91, 92, 93, 94, 95, 96, 97, 98, 99, 100, 101, 102, 103, 104, 105, 106, 107, 108, 109, 110, 111, 112, 113, 114, 1, 115, 116, 117, 118, 119, 120, 121, 122, 123, 124, 125, 126, 127, 128, 129, 130, 131, 132, 133, 134, 135, 136, 137, 138, 139, 140, 141, 142, 143, 144, 145, 146, 147, 148, 149, 150, 151, 152, 153, 154, 155, 156, 157, 158, 159, 160, 161, 162, 163, 164, 165, 166, 167, 168, 169, 170, 171, 172, 173, 174, 175, 176, 177, 178, 179, 180, 181, 182, 183, 184, 185, 186, 187, 188, 189, 190, 191, 192, 193, 194, 195, 196, 197, 198, 199, 200, 201, 202, 203, 204, 205, 206, 207, 208, 209, 210, 211, 212, 213] (by decide +kernel) (by decide +kernel)
set_option maxRecDepth 20000 in
theorem gX12_run_X12_goesOn : GoodIn wsX12_run (wsV RX12 512 RX12 yX12_goesOn wsX12_goesOn) := goodIn_app (goodIn_of _ (by decide +kernel)) ggX12_run_X12_goesOn
theorem dX12_run_0 : decode cX12_run 0 = .ok (.aload_n 0, 1) := by decide +kernel
theorem dX12_run_1 : decode cX12_run 1 = .ok (.getfield 372, 3) := by decide +kernel
theorem dX12_run_4 : decode cX12_run 4 = .ok (.lstore_n 3, 1) := by decide +kernel
theorem dX12_run_5 : decode cX12_run 5 = .ok (.aload_n 0, 1) := by decide +kernel
theorem dX12_run_6 : decode cX12_run 6 = .ok (.iload_n 2, 1) := by decide +kernel
theorem dX12_run_7 : decode cX12_run 7 = .ok (.i2l, 1) := by decide +kernel
theorem dX12_run_8 : decode cX12_run 8 = .ok (.putfield 372, 3) := by decide +kernel
theorem dX12_run_11 : decode cX12_run 11 = .ok (.aload_n 0, 1) := by decide +kernel
theorem dX12_run_12 : decode cX12_run 12 = .ok (.invokevirtual 509, 3) := by decide +kernel
theorem dX12_run_15 : decode cX12_run 15 = .ok (.aload_n 0, 1) := by decide +kernel
theorem dX12_run_16 : decode cX12_run 16 = .ok (.iload_n 1, 1) := by decide +kernel
theorem dX12_run_17 : decode cX12_run 17 = .ok (.invokevirtual 512, 3) := by decide +kernel
theorem dX12_run_20 : decode cX12_run 20 = .ok (.aload_n 0, 1) := by decide +kernel
theorem dX12_run_21 : decode cX12_run 21 = .ok (.lload_n 3, 1) := by decide +kernel
theorem dX12_run_22 : decode cX12_run 22 = .ok (.putfield 372, 3) := by decide +kernel
theorem dX12_run_25 : decode cX12_run 25 = .ok (.return_, 1) := by decide +kernel
set_option maxRecDepth 20000 in
theorem ggX12_table_X12_isIn : GoodIn wsX12_table wsX12_isIn := goodIn_r _ [9] (by decide +kernel) (by decide +kernel)
set_option maxRecDepth 20000 in
theorem gX12_table_X12_isIn : GoodIn wsX12_table (va_wsS RX12 199 yX12_isIn wsX12_isIn) := goodIn_app (goodIn_of _ (by decide +kernel)) ggX12_table_X12_isIn
set_option maxRecDepth 20000 in
theorem ggX12_table_X12_run : GoodIn wsX12_table wsX12_run := goodIn_r _ [13, 14, 15, 16, 17, 8, 18, 19, 3, 20, 21, 22, 23, 4, 5, 24, 25, 26, 27, 28, 29, 30, 31, 32, 33, 2, 34, 35, 36, 37, 38, 39, 40, 41, 42, 43, 44, 45, 46, 47, 48, 49, 50, 51, 52, 53, 54, 55, 56, 57, 58, 59, 60, 61, 62, 63, 64, 65, 66, 67, 68, 69, 70, 71, 72, 73, 74, 75, 76, 77, 78, 79, 80, 81, 82, 83, 84, 85, 86, 87, 88, 89, 90, 91, 92, 93, 94, 95, 96, 97, 98, 99, 100, 101, 102, 103, 104, 105, 106, 107, 108, 109, 110, 111, 112, 113, 114, 115, 116, 117, 118, 119, 120, 121, 122, 123, 124, 125, 126, 127, 128, 129, 130, 131, 132, 133, 134, 139, 140, 141, 142, 143, 144, 145, 146, 147, 148, 149, 150, 151, 152, 153, 154, 155, 156, 157, 158, 159, 160, 161, 162, 163, 164, 165, 166, 167, 168, 169, 170, 171, 172, 173, 174, 175, 176, 177, 178, 179, 180, 181, 182, 183, 184, 185, 186, 187, 188, 189, 190, 191, 192, 193, 194, 195, 196, 197, 198, 199, 200, 201, 202, 203, 204, 205, 206, 207, 208, 209, 210, 211, 212, 213, 214, 215, 216, 217, 218, 219, 220, 221, 222, 223, 224, 225] (by decide +kernel) (by decide +kernel)
set_option maxRecDepth 20000 in
theorem gX12_table_X12_run : GoodIn wsX12_table (wsV RX12 515 RX12 yX12_run wsX12_run) := goodIn_app (goodIn_of _ (by decide +kernel)) ggX12_table_X12_run
set_option maxRecDepth 20000 in
theorem ggX12_table_X12_unlike : GoodIn wsX12_table wsX12_unlike := goodIn_r _ [138, 2, 3, 139, 140, 141, 142, 143, 144, 145, 146, 147, 148, 149, 150, 151, 152, 153, 154, 155, 156, 157, 158, 159, 160, 161, 162, 163, 164, 165, 166, 167, 168, 169, 170, 171, 172, 173, 174, 175, 176, 177, 178, 179, 180, 181, 182, 183, 184, 185, 186, 187, 188, 189, 190, 191, 192, 193, 194, 195, 196, 197, 198, 199, 200, 201, 202, 203, 204, 205, 206, 207, 208, 209, 210, 211, 212, 213, 214, 215, 216, 217, 218, 219, 220, 221, 222, 223, 224, 225] (by decide +kernel) (by decide +kernel)
set_option maxRecDepth 20000 in
theorem gX12_table_X12_unlike : GoodIn wsX12_table (wsV RX12 518 RX12 yX12_unlike wsX12_unlike) := goodIn_app (goodIn_of _ (by decide +kernel)) ggX12_table_X12_unlike
theorem dX12_table_0 : decode cX12_table 0 = .ok (.aload_n 0, 1) := by decide +kernel
theorem dX12_table_1 : decode cX12_table 1 = .ok (.iconst 0, 1) := by decide +kernel
theorem dX12_table_2 : decode cX12_table 2 = .ok (.putfield 154, 3) := by decide +kernel
theorem dX12_table_5 : decode cX12_table 5 = .ok (.iload_n 1, 1) := by decide +kernel
theorem dX12_table_6 : decode cX12_table 6 = .ok (.iconst 0, 1) := by decide +kernel
theorem dX12_table_7 : decode cX12_table 7 = .ok (.iconst 3, 1) := by decide +kernel
theorem dX12_table_8 : decode cX12_table 8 = .ok (.invokestatic 199, 3) := by decide +kernel
theorem dX12_table_11 : decode cX12_table 11 = .ok (.ifCond .eq 30, 3) := by decide +kernel
theorem dX12_table_14 : decode cX12_table 14 = .ok (.iload_n 2, 1) := by decide +kernel
theorem dX12_table_15 : decode cX12_table 15 = .ok (.ifCond .lt 26, 3) := by decide +kernel
theorem dX12_table_18 : decode cX12_table 18 = .ok (.iload_n 3, 1) := by decide +kernel
theorem dX12_table_19 : decode cX12_table 19 = .ok (.iconst 0, 1) := by decide +kernel
theorem dX12_table_20 : decode cX12_table 20 = .ok (.bipush 7, 2) := by decide +kernel
theorem dX12_table_22 : decode cX12_table 22 = .ok (.invokestatic 199, 3) := by decide +kernel
theorem dX12_table_25 : decode cX12_table 25 = .ok (.ifCond .eq 16, 3) := by decide +kernel
theorem dX12_table_28 : decode cX12_table 28 = .ok (.iload_n 3, 1) := by decide +kernel
theorem dX12_table_29 : decode cX12_table 29 = .ok (.iconst 5, 1) := by decide +kernel
theorem dX12_table_30 : decode cX12_table 30 = .ok (.if_icmp .ge 13, 3) := by decide +kernel
theorem dX12_table_33 : decode cX12_table 33 = .ok (.iload_n 3, 1) := by decide +kernel
theorem dX12_table_34 : decode cX12_table 34 = .ok (.aload_n 0, 1) := by decide +kernel
theorem dX12_table_35 : decode cX12_table 35 = .ok (.getfield 247, 3) := by decide +kernel
theorem dX12_table_38 : decode cX12_table 38 = .ok (.if_icmp .lt 5, 3) := by decide +kernel
theorem dX12_table_41 : decode cX12_table 41 = .ok (.iconst (-1), 1) := by decide +kernel
theorem dX12_table_42 : decode cX12_table 42 = .ok (.ireturn, 1) := by decide +kernel
theorem dX12_table_43 : decode cX12_table 43 = .ok (.aload_n 0, 1) := by decide +kernel
theorem dX12_table_44 : decode cX12_table 44 = .ok (.iload_n 1, 1) := by decide +kernel
theorem dX12_table_45 : decode cX12_table 45 = .ok (.iload_n 2, 1) := by decide +kernel
theorem dX12_table_46 : decode cX12_table 46 = .ok (.invokevirtual 515, 3) := by decide +kernel
theorem dX12_table_49 : decode cX12_table 49 = .ok (.iload_n 3, 1) := by decide +kernel
theorem dX12_table_50 : decode cX12_table 50 = .ok (.iconst 5, 1) := by decide +kernel
theorem dX12_table_51 : decode cX12_table 51 = .ok (.if_icmp .ge 14, 3) := by decide +kernel
theorem dX12_table_54 : decode cX12_table 54 = .ok (.aload_n 0, 1) := by decide +kernel
theorem dX12_table_55 : decode cX12_table 55 = .ok (.getfield 91, 3) := by decide +kernel
theorem dX12_table_58 : decode cX12_table 58 = .ok (.iconst 5, 1) := by decide +kernel
theorem dX12_table_59 : decode cX12_table 59 = .ok (.iload_n 3, 1) := by decide +kernel
theorem dX12_table_60 : decode cX12_table 60 = .ok (.iadd, 1) := by decide +kernel
theorem dX12_table_61 : decode cX12_table 61 = .ok (.iaload, 1) := by decide +kernel
theorem dX12_table_62 : decode cX12_table 62 = .ok (.goto 37, 3) := by decide +kernel
theorem dX12_table_65 : decode cX12_table 65 = .ok (.iload_n 3, 1) := by decide +kernel
theorem dX12_table_66 : decode cX12_table 66 = .ok (.iconst 5, 1) := by decide +kernel
theorem dX12_table_67 : decode cX12_table 67 = .ok (.if_icmp .ne 12, 3) := by decide +kernel
theorem dX12_table_70 : decode cX12_table 70 = .ok (.aload_n 0, 1) := by decide +kernel
theorem dX12_table_71 : decode cX12_table 71 = .ok (.getfield 109, 3) := by decide +kernel
theorem dX12_table_74 : decode cX12_table 74 = .ok (.iconst 1, 1) := by decide +kernel
theorem dX12_table_75 : decode cX12_table 75 = .ok (.iaload, 1) := by decide +kernel
theorem dX12_table_76 : decode cX12_table 76 = .ok (.goto 23, 3) := by decide +kernel
theorem dX12_table_79 : decode cX12_table 79 = .ok (.iload_n 3, 1) := by decide +kernel
theorem dX12_table_80 : decode cX12_table 80 = .ok (.bipush 6, 2) := by decide +kernel
theorem dX12_table_82 : decode cX12_table 82 = .ok (.if_icmp .ne 12, 3) := by decide +kernel
theorem dX12_table_85 : decode cX12_table 85 = .ok (.aload_n 0, 1) := by decide +kernel
theorem dX12_table_86 : decode cX12_table 86 = .ok (.getfield 112, 3) := by decide +kernel
theorem dX12_table_89 : decode cX12_table 89 = .ok (.iconst 1, 1) := by decide +kernel
theorem dX12_table_90 : decode cX12_table 90 = .ok (.iaload, 1) := by decide +kernel
theorem dX12_table_91 : decode cX12_table 91 = .ok (.goto 8, 3) := by decide +kernel
theorem dX12_table_94 : decode cX12_table 94 = .ok (.aload_n 0, 1) := by decide +kernel
theorem dX12_table_95 : decode cX12_table 95 = .ok (.iconst 1, 1) := by decide +kernel
theorem dX12_table_96 : decode cX12_table 96 = .ok (.invokevirtual 518, 3) := by decide +kernel
theorem dX12_table_99 : decode cX12_table 99 = .ok (.ireturn, 1) := by decide +kernel
set_option maxRecDepth 20000 in
theorem ggX12_fairest_X12_run : GoodIn wsX12_fairest wsX12_run := goodIn_r _ [8, 9, 10, 11, 12, 7, 13, 14, 15, 16, 17, 18, 19, 2, 3, 20, 21, 22, 23, 24, 25, 26, 27, 28, 29, 30, 31, 32, 33, 34, 35, 36, 37, 38, 39, 40, 41, 42, 43, 44, 45, 46, 47, 48, 49, 50, 51, 52, 53, 54, 55, 56, 57, 58, 59, 60, 61, 62, 63, 64, 65, 66, 67, 68, 69, 70, 71, 72, 73, 74, 75, 76, 77, 78, 79, 80, 81, 82, 83, 84, 85, 86, 87, 88, 89, 90, 91, 92, 93, 94, 95, 96, 97, 98, 99, 100, 101, 102, 103, 104, 105, 106, 107, 108, 109, 110, 111, 112, 113, 114, 115, 116, 117, 118, 119, 120, 121, 122, 123, 124, 125, 126, 127, 128, 129, 130, 131, 136, 137, 138, 139, 140, 141, 142, 143, 144, 145, 146, 147, 148, 149, 150, 151, 152, 153, 154, 155, 156, 157, 158, 159, 160, 161, 162, 163, 164, 165, 166, 167, 168, 169, 170, 171, 172, 173, 174, 175, 176, 177, 178, 179, 180, 181, 182, 183, 184, 185, 186, 187, 188, 189, 190, 191, 192, 193, 194, 195, 196, 197, 198, 199, 200, 201, 202, 203, 204, 205, 206, 207, 208, 209, 210, 211, 212, 213, 214, 215, 216, 217, 218, 219, 220, 221, 222] (by decide +kernel) (by decide +kernel)
set_option maxRecDepth 20000 in
theorem gX12_fairest_X12_run : GoodIn wsX12_fairest (wsV RX12 515 RX12 yX12_run wsX12_run) := goodIn_app (goodIn_of _ (by decide +kernel)) ggX12_fairest_X12_run
set_option maxRecDepth 20000 in
theorem ggX12_fairest_X12_unlike : GoodIn wsX12_fairest wsX12_unlike := goodIn_r _ [135, 30, 15, 136, 137, 138, 139, 140, 141, 142, 143, 144, 145, 146, 147, 148, 149, 150, 151, 152, 153, 154, 155, 156, 157, 158, 159, 160, 161, 162, 163, 164, 165, 166, 167, 168, 169, 170, 171, 172, 173, 174, 175, 176, 177, 178, 179, 180, 181, 182, 183, 184, 185, 186, 187, 188, 189, 190, 191, 192, 193, 194, 195, 196, 197, 198, 199, 200, 201, 202, 203, 204, 205, 206, 207, 208, 209, 210, 211, 212, 213, 214, 215, 216, 217, 218, 219, 220, 221, 222] (by decide +kernel) (by decide +kernel)
set_option maxRecDepth 20000 in
theorem gX12_fairest_X12_unlike : GoodIn wsX12_fairest (wsV RX12 518 RX12 yX12_unlike wsX12_unlike) := goodIn_app (goodIn_of _ (by decide +kernel)) ggX12_fairest_X12_unlike
theorem dX12_fairest_0 : decode cX12_fairest 0 = .ok (.aload_n 0, 1) := by decide +kernel
theorem dX12_fairest_1 : decode cX12_fairest 1 = .ok (.iconst 0, 1) := by decide +kernel
theorem dX12_fairest_2 : decode cX12_fairest 2 = .ok (.putfield 154, 3) := by decide +kernel
theorem dX12_fairest_5 : decode cX12_fairest 5 = .ok (.iload_n 1, 1) := by decide +kernel
theorem dX12_fairest_6 : decode cX12_fairest 6 = .ok (.ifCond .ge 5, 3) := by decide +kernel
theorem dX12_fairest_9 : decode cX12_fairest 9 = .ok (.iconst (-1), 1) := by decide +kernel
theorem dX12_fairest_10 : decode cX12_fairest 10 = .ok (.ireturn, 1) := by decide +kernel
theorem dX12_fairest_11 : decode cX12_fairest 11 = .ok (.iconst (-1), 1) := by decide +kernel
theorem dX12_fairest_12 : decode cX12_fairest 12 = .ok (.istore_n 2, 1) := by decide +kernel
theorem dX12_fairest_13 : decode cX12_fairest 13 = .ok (.iconst 0, 1) := by decide +kernel
theorem dX12_fairest_14 : decode cX12_fairest 14 = .ok (.istore_n 3, 1) := by decide +kernel
theorem dX12_fairest_15 : decode cX12_fairest 15 = .ok (.iconst 0, 1) := by decide +kernel
theorem dX12_fairest_16 : decode cX12_fairest 16 = .ok (.istore 4, 2) := by decide +kernel
theorem dX12_fairest_18 : decode cX12_fairest 18 = .ok (.iload 4, 2) := by decide +kernel
theorem dX12_fairest_20 : decode cX12_fairest 20 = .ok (.iconst 4, 1) := by decide +kernel
theorem dX12_fairest_21 : decode cX12_fairest 21 = .ok (.if_icmp .ge 60, 3) := by decide +kernel
theorem dX12_fairest_24 : decode cX12_fairest 24 = .ok (.aload_n 0, 1) := by decide +kernel
theorem dX12_fairest_25 : decode cX12_fairest 25 = .ok (.iload 4, 2) := by decide +kernel
theorem dX12_fairest_27 : decode cX12_fairest 27 = .ok (.iload_n 1, 1) := by decide +kernel
theorem dX12_fairest_28 : decode cX12_fairest 28 = .ok (.invokevirtual 515, 3) := by decide +kernel
theorem dX12_fairest_31 : decode cX12_fairest 31 = .ok (.sipush 1000, 3) := by decide +kernel
theorem dX12_fairest_34 : decode cX12_fairest 34 = .ok (.aload_n 0, 1) := by decide +kernel
theorem dX12_fairest_35 : decode cX12_fairest 35 = .ok (.iconst 1, 1) := by decide +kernel
theorem dX12_fairest_36 : decode cX12_fairest 36 = .ok (.invokevirtual 518, 3) := by decide +kernel
theorem dX12_fairest_39 : decode cX12_fairest 39 = .ok (.imul, 1) := by decide +kernel
theorem dX12_fairest_40 : decode cX12_fairest 40 = .ok (.aload_n 0, 1) := by decide +kernel
theorem dX12_fairest_41 : decode cX12_fairest 41 = .ok (.getfield 109, 3) := by decide +kernel
theorem dX12_fairest_44 : decode cX12_fairest 44 = .ok (.iconst 1, 1) := by decide +kernel
theorem dX12_fairest_45 : decode cX12_fairest 45 = .ok (.iaload, 1) := by decide +kernel
theorem dX12_fairest_46 : decode cX12_fairest 46 = .ok (.iadd, 1) := by decide +kernel
theorem dX12_fairest_47 : decode cX12_fairest 47 = .ok (.aload_n 0, 1) := by decide +kernel
theorem dX12_fairest_48 : decode cX12_fairest 48 = .ok (.getfield 112, 3) := by decide +kernel
theorem dX12_fairest_51 : decode cX12_fairest 51 = .ok (.iconst 1, 1) := by decide +kernel
theorem dX12_fairest_52 : decode cX12_fairest 52 = .ok (.iaload, 1) := by decide +kernel
theorem dX12_fairest_53 : decode cX12_fairest 53 = .ok (.iadd, 1) := by decide +kernel
theorem dX12_fairest_54 : decode cX12_fairest 54 = .ok (.istore 5, 2) := by decide +kernel
theorem dX12_fairest_56 : decode cX12_fairest 56 = .ok (.iload_n 2, 1) := by decide +kernel
theorem dX12_fairest_57 : decode cX12_fairest 57 = .ok (.ifCond .lt 12, 3) := by decide +kernel
theorem dX12_fairest_60 : decode cX12_fairest 60 = .ok (.iload 5, 2) := by decide +kernel
theorem dX12_fairest_62 : decode cX12_fairest 62 = .ok (.iload_n 3, 1) := by decide +kernel
theorem dX12_fairest_63 : decode cX12_fairest 63 = .ok (.if_icmp .lt 6, 3) := by decide +kernel
theorem dX12_fairest_66 : decode cX12_fairest 66 = .ok (.goto 9, 3) := by decide +kernel
theorem dX12_fairest_69 : decode cX12_fairest 69 = .ok (.iload 4, 2) := by decide +kernel
theorem dX12_fairest_71 : decode cX12_fairest 71 = .ok (.istore_n 2, 1) := by decide +kernel
theorem dX12_fairest_72 : decode cX12_fairest 72 = .ok (.iload 5, 2) := by decide +kernel
theorem dX12_fairest_74 : decode cX12_fairest 74 = .ok (.istore_n 3, 1) := by decide +kernel
theorem dX12_fairest_75 : decode cX12_fairest 75 = .ok (.iinc 4 1, 3) := by decide +kernel
theorem dX12_fairest_78 : decode cX12_fairest 78 = .ok (.goto (-60), 3) := by decide +kernel
theorem dX12_fairest_81 : decode cX12_fairest 81 = .ok (.iload_n 2, 1) := by decide +kernel
theorem dX12_fairest_82 : decode cX12_fairest 82 = .ok (.ireturn, 1) := by decide +kernel
set_option maxRecDepth 20000 in
theorem ggX12_over_X12_isSurfer : GoodIn wsX12_over wsX12_isSurfer := goodIn_r _ [11, 12, 85, 86, 87, 88, 89, 90, 91, 92, 93, 94, 95, 96, 97, 98, 99, 100, 101, 102, 103, 104, 105, 106, 107, 108, 109, 110, 111, 112, 113, 114, 115, 116, 117, 118, 119, 120, 121, 122, 123, 124, 125, 126, 127, 128, 129, 130, 131, 132, 133, 134, 135, 136, 137, 138, 139, 140, 141, 142, 143, 144, 145, 146, 147, 148, 149, 150, 151, 152, 153, 154, 155, 156, 157, 158, 159, 160, 161, 162, 163, 164, 165, 166, 167, 168, 169, 170, 171] (by decide +kernel) (by decide +kernel)
set_option maxRecDepth 20000 in
theorem gX12_over_X12_isSurfer : GoodIn wsX12_over (wsV RX12 413 RX12 yX12_isSurfer wsX12_isSurfer) := goodIn_app (goodIn_of _ (by decide +kernel)) ggX12_over_X12_isSurfer
set_option maxRecDepth 20000 in
theorem ggX12_over_X12_seatFrom : GoodIn wsX12_over wsX12_seatFrom := goodIn_r _ [16, 3, 4, 17, 18, 19, 10, 20, 21, 22, 23, 24, 25, 26, 27, 28, 29, 30, 31, 32, 33, 34, 2, 35, 36, 37, 38, 39, 40, 41, 42, 43, 44, 45, 46, 47, 48, 49, 50, 51, 52, 53, 54, 55, 56, 57, 58, 59, 60, 61, 62, 63, 64, 65, 66, 67, 68, 69, 70, 71, 72, 73, 74, 75, 76, 77, 78, 79, 80, 81, 82, 83, 84, 85, 86, 87, 88, 89, 90, 91, 92, 93, 94, 95, 96, 97, 98, 99, 100, 101, 102, 103, 104, 105, 106, 107, 108, 109, 110, 111, 112, 113, 114, 115, 116, 117, 118, 119, 120, 121, 122, 123, 124, 125, 126, 127, 128, 129, 130, 131, 132, 133, 134, 135, 136, 137, 138, 139, 140, 141, 142, 143, 144, 145, 146, 147, 148, 149, 150, 151, 152, 153, 154, 155, 156, 157, 158, 159, 160, 161, 162, 163, 164, 165, 166, 167, 168, 169, 170, 171] (by decide +kernel) (by decide +kernel)
set_option maxRecDepth 20000 in
theorem gX12_over_X12_seatFrom : GoodIn wsX12_over (wsV RX12 482 RX12 yX12_seatFrom wsX12_seatFrom) := goodIn_app (goodIn_of _ (by decide +kernel)) ggX12_over_X12_seatFrom
theorem dX12_over_0 : decode cX12_over 0 = .ok (.aload_n 0, 1) := by decide +kernel
theorem dX12_over_1 : decode cX12_over 1 = .ok (.iconst 0, 1) := by decide +kernel
theorem dX12_over_2 : decode cX12_over 2 = .ok (.putfield 154, 3) := by decide +kernel
theorem dX12_over_5 : decode cX12_over 5 = .ok (.aload_n 0, 1) := by decide +kernel
theorem dX12_over_6 : decode cX12_over 6 = .ok (.iload_n 1, 1) := by decide +kernel
theorem dX12_over_7 : decode cX12_over 7 = .ok (.invokevirtual 413, 3) := by decide +kernel
theorem dX12_over_10 : decode cX12_over 10 = .ok (.ifCond .eq 19, 3) := by decide +kernel
theorem dX12_over_13 : decode cX12_over 13 = .ok (.aload_n 0, 1) := by decide +kernel
theorem dX12_over_14 : decode cX12_over 14 = .ok (.getfield 24, 3) := by decide +kernel
theorem dX12_over_17 : decode cX12_over 17 = .ok (.iconst 2, 1) := by decide +kernel
theorem dX12_over_18 : decode cX12_over 18 = .ok (.iaload, 1) := by decide +kernel
theorem dX12_over_19 : decode cX12_over 19 = .ok (.ifCond .eq 10, 3) := by decide +kernel
theorem dX12_over_22 : decode cX12_over 22 = .ok (.aload_n 0, 1) := by decide +kernel
theorem dX12_over_23 : decode cX12_over 23 = .ok (.getfield 253, 3) := by decide +kernel
theorem dX12_over_26 : decode cX12_over 26 = .ok (.ifCond .ne 5, 3) := by decide +kernel
theorem dX12_over_29 : decode cX12_over 29 = .ok (.iconst (-1), 1) := by decide +kernel
theorem dX12_over_30 : decode cX12_over 30 = .ok (.ireturn, 1) := by decide +kernel
theorem dX12_over_31 : decode cX12_over 31 = .ok (.aload_n 0, 1) := by decide +kernel
theorem dX12_over_32 : decode cX12_over 32 = .ok (.getfield 48, 3) := by decide +kernel
theorem dX12_over_35 : decode cX12_over 35 = .ok (.aload_n 0, 1) := by decide +kernel
theorem dX12_over_36 : decode cX12_over 36 = .ok (.getfield 253, 3) := by decide +kernel
theorem dX12_over_39 : decode cX12_over 39 = .ok (.iconst 1, 1) := by decide +kernel
theorem dX12_over_40 : decode cX12_over 40 = .ok (.isub, 1) := by decide +kernel
theorem dX12_over_41 : decode cX12_over 41 = .ok (.iaload, 1) := by decide +kernel
theorem dX12_over_42 : decode cX12_over 42 = .ok (.istore_n 2, 1) := by decide +kernel
theorem dX12_over_43 : decode cX12_over 43 = .ok (.aload_n 0, 1) := by decide +kernel
theorem dX12_over_44 : decode cX12_over 44 = .ok (.getfield 106, 3) := by decide +kernel
theorem dX12_over_47 : decode cX12_over 47 = .ok (.iconst 0, 1) := by decide +kernel
theorem dX12_over_48 : decode cX12_over 48 = .ok (.iaload, 1) := by decide +kernel
theorem dX12_over_49 : decode cX12_over 49 = .ok (.istore_n 3, 1) := by decide +kernel
theorem dX12_over_50 : decode cX12_over 50 = .ok (.iload_n 3, 1) := by decide +kernel
theorem dX12_over_51 : decode cX12_over 51 = .ok (.iload_n 2, 1) := by decide +kernel
theorem dX12_over_52 : decode cX12_over 52 = .ok (.if_icmp .gt 72, 3) := by decide +kernel
theorem dX12_over_55 : decode cX12_over 55 = .ok (.iload_n 2, 1) := by decide +kernel
theorem dX12_over_56 : decode cX12_over 56 = .ok (.iload_n 3, 1) := by decide +kernel
theorem dX12_over_57 : decode cX12_over 57 = .ok (.isub, 1) := by decide +kernel
theorem dX12_over_58 : decode cX12_over 58 = .ok (.aload_n 0, 1) := by decide +kernel
theorem dX12_over_59 : decode cX12_over 59 = .ok (.getfield 24, 3) := by decide +kernel
theorem dX12_over_62 : decode cX12_over 62 = .ok (.iconst 2, 1) := by decide +kernel
theorem dX12_over_63 : decode cX12_over 63 = .ok (.iaload, 1) := by decide +kernel
theorem dX12_over_64 : decode cX12_over 64 = .ok (.isub, 1) := by decide +kernel
theorem dX12_over_65 : decode cX12_over 65 = .ok (.istore 4, 2) := by decide +kernel
theorem dX12_over_67 : decode cX12_over 67 = .ok (.iload 4, 2) := by decide +kernel
theorem dX12_over_69 : decode cX12_over 69 = .ok (.ifCond .ge 7, 3) := by decide +kernel
theorem dX12_over_72 : decode cX12_over 72 = .ok (.iconst 0, 1) := by decide +kernel
theorem dX12_over_73 : decode cX12_over 73 = .ok (.goto 14, 3) := by decide +kernel
theorem dX12_over_76 : decode cX12_over 76 = .ok (.iload 4, 2) := by decide +kernel
theorem dX12_over_78 : decode cX12_over 78 = .ok (.aload_n 0, 1) := by decide +kernel
theorem dX12_over_79 : decode cX12_over 79 = .ok (.getfield 24, 3) := by decide +kernel
theorem dX12_over_82 : decode cX12_over 82 = .ok (.iconst 3, 1) := by decide +kernel
theorem dX12_over_83 : decode cX12_over 83 = .ok (.iaload, 1) := by decide +kernel
theorem dX12_over_84 : decode cX12_over 84 = .ok (.idiv, 1) := by decide +kernel
theorem dX12_over_85 : decode cX12_over 85 = .ok (.iconst 1, 1) := by decide +kernel
theorem dX12_over_86 : decode cX12_over 86 = .ok (.iadd, 1) := by decide +kernel
theorem dX12_over_87 : decode cX12_over 87 = .ok (.istore 5, 2) := by decide +kernel
theorem dX12_over_89 : decode cX12_over 89 = .ok (.bipush 100, 2) := by decide +kernel
theorem dX12_over_91 : decode cX12_over 91 = .ok (.aload_n 0, 1) := by decide +kernel
theorem dX12_over_92 : decode cX12_over 92 = .ok (.getfield 24, 3) := by decide +kernel
theorem dX12_over_95 : decode cX12_over 95 = .ok (.iconst 4, 1) := by decide +kernel
theorem dX12_over_96 : decode cX12_over 96 = .ok (.iaload, 1) := by decide +kernel
theorem dX12_over_97 : decode cX12_over 97 = .ok (.imul, 1) := by decide +kernel
theorem dX12_over_98 : decode cX12_over 98 = .ok (.iload 5, 2) := by decide +kernel
theorem dX12_over_100 : decode cX12_over 100 = .ok (.imul, 1) := by decide +kernel
theorem dX12_over_101 : decode cX12_over 101 = .ok (.aload_n 0, 1) := by decide +kernel
theorem dX12_over_102 : decode cX12_over 102 = .ok (.iload_n 1, 1) := by decide +kernel
theorem dX12_over_103 : decode cX12_over 103 = .ok (.aload_n 0, 1) := by decide +kernel
theorem dX12_over_104 : decode cX12_over 104 = .ok (.getfield 88, 3) := by decide +kernel
theorem dX12_over_107 : decode cX12_over 107 = .ok (.iload_n 1, 1) := by decide +kernel
theorem dX12_over_108 : decode cX12_over 108 = .ok (.iaload, 1) := by decide +kernel
theorem dX12_over_109 : decode cX12_over 109 = .ok (.iload_n 3, 1) := by decide +kernel
theorem dX12_over_110 : decode cX12_over 110 = .ok (.invokevirtual 482, 3) := by decide +kernel
theorem dX12_over_113 : decode cX12_over 113 = .ok (.if_icmp .le 5, 3) := by decide +kernel
theorem dX12_over_116 : decode cX12_over 116 = .ok (.iload_n 3, 1) := by decide +kernel
theorem dX12_over_117 : decode cX12_over 117 = .ok (.ireturn, 1) := by decide +kernel
theorem dX12_over_118 : decode cX12_over 118 = .ok (.iinc 3 1, 3) := by decide +kernel
theorem dX12_over_121 : decode cX12_over 121 = .ok (.goto (-71), 3) := by decide +kernel
theorem dX12_over_124 : decode cX12_over 124 = .ok (.bipush (-2), 2) := by decide +kernel
theorem dX12_over_126 : decode cX12_over 126 = .ok (.ireturn, 1) := by decide +kernel
set_option maxRecDepth 20000 in
theorem ggX12_shares_X12_isIn : GoodIn wsX12_shares wsX12_isIn := goodIn_r _ [6] (by decide +kernel) (by decide +kernel)
set_option maxRecDepth 20000 in
theorem gX12_shares_X12_isIn : GoodIn wsX12_shares (va_wsS RX12 199 yX12_isIn wsX12_isIn) := goodIn_app (goodIn_of _ (by decide +kernel)) ggX12_shares_X12_isIn
set_option maxRecDepth 20000 in
theorem ggX12_shares_X12_unlike : GoodIn wsX12_shares wsX12_unlike := goodIn_r _ [10, 2, 11, 16, 17, 18, 19, 20, 21, 22, 23, 24, 25, 26, 27, 28, 29, 30, 31, 32, 33, 34, 35, 36, 37, 38, 39, 40, 41, 42, 43, 44, 45, 46, 47, 48, 49, 50, 51, 52, 53, 54, 55, 56, 57, 58, 59, 60, 61, 62, 63, 64, 65, 66, 67, 68, 69, 70, 71, 72, 73, 74, 75, 76, 77, 78, 79, 80, 81, 82, 83, 84, 85, 86, 87, 88, 89, 90, 91, 92, 93, 94, 95, 96, 97, 98, 99, 100, 101, 102] (by decide +kernel) (by decide +kernel)
set_option maxRecDepth 20000 in
theorem gX12_shares_X12_unlike : GoodIn wsX12_shares (wsV RX12 518 RX12 yX12_unlike wsX12_unlike) := goodIn_app (goodIn_of _ (by decide +kernel)) ggX12_shares_X12_unlike
set_option maxRecDepth 20000 in
theorem ggX12_shares_X12_allHad : GoodIn wsX12_shares wsX12_allHad := goodIn_r _ [15, 2, 11, 16, 17, 18, 19, 20, 21, 22, 23, 24, 25, 26, 27, 28, 29, 30, 31, 32, 33, 34, 35, 36, 37, 38, 39, 40, 41, 42, 43, 44, 45, 46, 47, 48, 49, 50, 51, 52, 53, 54, 55, 56, 57, 58, 59, 60, 61, 62, 63, 64, 65, 66, 67, 68, 69, 70, 71, 72, 73, 74, 75, 76, 77, 78, 79, 80, 81, 82, 83, 84, 85, 86, 87, 88, 89, 90, 91, 92, 93, 94, 95, 96, 97, 98, 99, 100, 101, 102] (by decide +kernel) (by decide +kernel)
set_option maxRecDepth 20000 in
theorem gX12_shares_X12_allHad : GoodIn wsX12_shares (wsV RX12 521 RX12 yX12_allHad wsX12_allHad) := goodIn_app (goodIn_of _ (by decide +kernel)) ggX12_shares_X12_allHad
theorem dX12_shares_0 : decode cX12_shares 0 = .ok (.aload_n 0, 1) := by decide +kernel
theorem dX12_shares_1 : decode cX12_shares 1 = .ok (.iconst 0, 1) := by decide +kernel
theorem dX12_shares_2 : decode cX12_shares 2 = .ok (.putfield 154, 3) := by decide +kernel
theorem dX12_shares_5 : decode cX12_shares 5 = .ok (.aload_n 0, 1) := by decide +kernel
theorem dX12_shares_6 : decode cX12_shares 6 = .ok (.getfield 247, 3) := by decide +kernel
theorem dX12_shares_9 : decode cX12_shares 9 = .ok (.ifCond .eq 12, 3) := by decide +kernel
theorem dX12_shares_12 : decode cX12_shares 12 = .ok (.iload_n 1, 1) := by decide +kernel
theorem dX12_shares_13 : decode cX12_shares 13 = .ok (.iconst 0, 1) := by decide +kernel
theorem dX12_shares_14 : decode cX12_shares 14 = .ok (.iconst 1, 1) := by decide +kernel
theorem dX12_shares_15 : decode cX12_shares 15 = .ok (.invokestatic 199, 3) := by decide +kernel
theorem dX12_shares_18 : decode cX12_shares 18 = .ok (.ifCond .ne 5, 3) := by decide +kernel
theorem dX12_shares_21 : decode cX12_shares 21 = .ok (.iconst (-1), 1) := by decide +kernel
theorem dX12_shares_22 : decode cX12_shares 22 = .ok (.ireturn, 1) := by decide +kernel
theorem dX12_shares_23 : decode cX12_shares 23 = .ok (.iload_n 1, 1) := by decide +kernel
theorem dX12_shares_24 : decode cX12_shares 24 = .ok (.ifCond .ne 11, 3) := by decide +kernel
theorem dX12_shares_27 : decode cX12_shares 27 = .ok (.aload_n 0, 1) := by decide +kernel
theorem dX12_shares_28 : decode cX12_shares 28 = .ok (.iconst 0, 1) := by decide +kernel
theorem dX12_shares_29 : decode cX12_shares 29 = .ok (.invokevirtual 518, 3) := by decide +kernel
theorem dX12_shares_32 : decode cX12_shares 32 = .ok (.goto 8, 3) := by decide +kernel
theorem dX12_shares_35 : decode cX12_shares 35 = .ok (.aload_n 0, 1) := by decide +kernel
theorem dX12_shares_36 : decode cX12_shares 36 = .ok (.iconst 0, 1) := by decide +kernel
theorem dX12_shares_37 : decode cX12_shares 37 = .ok (.invokevirtual 521, 3) := by decide +kernel
theorem dX12_shares_40 : decode cX12_shares 40 = .ok (.ireturn, 1) := by decide +kernel
theorem dX12_allHad_0 : decode cX12_allHad 0 = .ok (.iconst 0, 1) := by decide +kernel
theorem dX12_allHad_1 : decode cX12_allHad 1 = .ok (.istore_n 2, 1) := by decide +kernel
theorem dX12_allHad_2 : decode cX12_allHad 2 = .ok (.iconst 0, 1) := by decide +kernel
theorem dX12_allHad_3 : decode cX12_allHad 3 = .ok (.istore_n 3, 1) := by decide +kernel
theorem dX12_allHad_4 : decode cX12_allHad 4 = .ok (.iload_n 3, 1) := by decide +kernel
theorem dX12_allHad_5 : decode cX12_allHad 5 = .ok (.aload_n 0, 1) := by decide +kernel
theorem dX12_allHad_6 : decode cX12_allHad 6 = .ok (.getfield 247, 3) := by decide +kernel
theorem dX12_allHad_9 : decode cX12_allHad 9 = .ok (.if_icmp .ge 22, 3) := by decide +kernel
theorem dX12_allHad_12 : decode cX12_allHad 12 = .ok (.iload_n 2, 1) := by decide +kernel
theorem dX12_allHad_13 : decode cX12_allHad 13 = .ok (.aload_n 0, 1) := by decide +kernel
theorem dX12_allHad_14 : decode cX12_allHad 14 = .ok (.getfield 91, 3) := by decide +kernel
theorem dX12_allHad_17 : decode cX12_allHad 17 = .ok (.iconst 5, 1) := by decide +kernel
theorem dX12_allHad_18 : decode cX12_allHad 18 = .ok (.iload_n 1, 1) := by decide +kernel
theorem dX12_allHad_19 : decode cX12_allHad 19 = .ok (.imul, 1) := by decide +kernel
theorem dX12_allHad_20 : decode cX12_allHad 20 = .ok (.iload_n 3, 1) := by decide +kernel
theorem dX12_allHad_21 : decode cX12_allHad 21 = .ok (.iadd, 1) := by decide +kernel
theorem dX12_allHad_22 : decode cX12_allHad 22 = .ok (.iaload, 1) := by decide +kernel
theorem dX12_allHad_23 : decode cX12_allHad 23 = .ok (.iadd, 1) := by decide +kernel
theorem dX12_allHad_24 : decode cX12_allHad 24 = .ok (.istore_n 2, 1) := by decide +kernel
theorem dX12_allHad_25 : decode cX12_allHad 25 = .ok (.iinc 3 1, 3) := by decide +kernel
theorem dX12_allHad_28 : decode cX12_allHad 28 = .ok (.goto (-24), 3) := by decide +kernel
theorem dX12_allHad_31 : decode cX12_allHad 31 = .ok (.iload_n 2, 1) := by decide +kernel
theorem dX12_allHad_32 : decode cX12_allHad 32 = .ok (.ireturn, 1) := by decide +kernel
theorem dX12_noted_0 : decode cX12_noted 0 = .ok (.aload_n 0, 1) := by decide +kernel
theorem dX12_noted_1 : decode cX12_noted 1 = .ok (.getfield 136, 3) := by decide +kernel
theorem dX12_noted_4 : decode cX12_noted 4 = .ok (.iconst 3, 1) := by decide +kernel
theorem dX12_noted_5 : decode cX12_noted 5 = .ok (.aload_n 0, 1) := by decide +kernel
theorem dX12_noted_6 : decode cX12_noted 6 = .ok (.getfield 376, 3) := by decide +kernel
theorem dX12_noted_9 : decode cX12_noted 9 = .ok (.imul, 1) := by decide +kernel
theorem dX12_noted_10 : decode cX12_noted 10 = .ok (.iload_n 1, 1) := by decide +kernel
theorem dX12_noted_11 : decode cX12_noted 11 = .ok (.iastore, 1) := by decide +kernel
theorem dX12_noted_12 : decode cX12_noted 12 = .ok (.aload_n 0, 1) := by decide +kernel
theorem dX12_noted_13 : decode cX12_noted 13 = .ok (.getfield 136, 3) := by decide +kernel
theorem dX12_noted_16 : decode cX12_noted 16 = .ok (.iconst 3, 1) := by decide +kernel
theorem dX12_noted_17 : decode cX12_noted 17 = .ok (.aload_n 0, 1) := by decide +kernel
theorem dX12_noted_18 : decode cX12_noted 18 = .ok (.getfield 376, 3) := by decide +kernel
theorem dX12_noted_21 : decode cX12_noted 21 = .ok (.imul, 1) := by decide +kernel
theorem dX12_noted_22 : decode cX12_noted 22 = .ok (.iconst 1, 1) := by decide +kernel
theorem dX12_noted_23 : decode cX12_noted 23 = .ok (.iadd, 1) := by decide +kernel
theorem dX12_noted_24 : decode cX12_noted 24 = .ok (.iload_n 2, 1) := by decide +kernel
theorem dX12_noted_25 : decode cX12_noted 25 = .ok (.iastore, 1) := by decide +kernel
theorem dX12_noted_26 : decode cX12_noted 26 = .ok (.aload_n 0, 1) := by decide +kernel
theorem dX12_noted_27 : decode cX12_noted 27 = .ok (.getfield 136, 3) := by decide +kernel
theorem dX12_noted_30 : decode cX12_noted 30 = .ok (.iconst 3, 1) := by decide +kernel
theorem dX12_noted_31 : decode cX12_noted 31 = .ok (.aload_n 0, 1) := by decide +kernel
theorem dX12_noted_32 : decode cX12_noted 32 = .ok (.getfield 376, 3) := by decide +kernel
theorem dX12_noted_35 : decode cX12_noted 35 = .ok (.imul, 1) := by decide +kernel
theorem dX12_noted_36 : decode cX12_noted 36 = .ok (.iconst 2, 1) := by decide +kernel
theorem dX12_noted_37 : decode cX12_noted 37 = .ok (.iadd, 1) := by decide +kernel
theorem dX12_noted_38 : decode cX12_noted 38 = .ok (.iload_n 3, 1) := by decide +kernel
theorem dX12_noted_39 : decode cX12_noted 39 = .ok (.iastore, 1) := by decide +kernel
theorem dX12_noted_40 : decode cX12_noted 40 = .ok (.aload_n 0, 1) := by decide +kernel
theorem dX12_noted_41 : decode cX12_noted 41 = .ok (.dup, 1) := by decide +kernel
theorem dX12_noted_42 : decode cX12_noted 42 = .ok (.getfield 376, 3) := by decide +kernel
theorem dX12_noted_45 : decode cX12_noted 45 = .ok (.iconst 1, 1) := by decide +kernel
theorem dX12_noted_46 : decode cX12_noted 46 = .ok (.iadd, 1) := by decide +kernel
theorem dX12_noted_47 : decode cX12_noted 47 = .ok (.putfield 376, 3) := by decide +kernel
theorem dX12_noted_50 : decode cX12_noted 50 = .ok (.aload_n 0, 1) := by decide +kernel
theorem dX12_noted_51 : decode cX12_noted 51 = .ok (.getfield 376, 3) := by decide +kernel
theorem dX12_noted_54 : decode cX12_noted 54 = .ok (.iconst 1, 1) := by decide +kernel
theorem dX12_noted_55 : decode cX12_noted 55 = .ok (.isub, 1) := by decide +kernel
theorem dX12_noted_56 : decode cX12_noted 56 = .ok (.ireturn, 1) := by decide +kernel
set_option maxRecDepth 20000 in
theorem ggX12_note_X12_isIn : GoodIn wsX12_note wsX12_isIn := goodIn_r _ [6] (by decide +kernel) (by decide +kernel)
set_option maxRecDepth 20000 in
theorem gX12_note_X12_isIn : GoodIn wsX12_note (va_wsS RX12 199 yX12_isIn wsX12_isIn) := goodIn_app (goodIn_of _ (by decide +kernel)) ggX12_note_X12_isIn
set_option maxRecDepth 20000 in
theorem ggX12_note_X12_isSurfer : GoodIn wsX12_note wsX12_isSurfer := goodIn_r _ [10, 11, 27, 28, 29, 30, 31, 32, 33, 34, 35, 36, 37, 38, 39, 40, 41, 42, 43, 44, 45, 46, 47, 48, 49, 50, 51, 52, 53, 54, 55, 56, 57, 58, 59, 60, 61, 62, 63, 64, 65, 66, 67, 68, 69, 70, 71, 72, 73, 74, 75, 76, 77, 78, 79, 80, 81, 82, 83, 84, 85, 86, 87, 88, 89, 90, 91, 92, 93, 94, 95, 96, 97, 98, 99, 100, 101, 102, 103, 104, 105, 106, 107, 108, 109, 110, 111, 112, 113] (by decide +kernel) (by decide +kernel)
set_option maxRecDepth 20000 in
theorem gX12_note_X12_isSurfer : GoodIn wsX12_note (wsV RX12 413 RX12 yX12_isSurfer wsX12_isSurfer) := goodIn_app (goodIn_of _ (by decide +kernel)) ggX12_note_X12_isSurfer
set_option maxRecDepth 20000 in
theorem ggX12_note_X12_isCell : GoodIn wsX12_note wsX12_isCell := goodIn_r _ [15, 16, 17, 18, 5, 19, 20, 21, 27, 28, 29, 30, 31, 32, 33, 34, 35, 36, 37, 38, 39, 40, 41, 42, 43, 44, 45, 46, 47, 48, 49, 50, 51, 52, 53, 54, 55, 56, 57, 58, 59, 60, 61, 62, 63, 64, 65, 66, 67, 68, 69, 70, 71, 72, 73, 74, 75, 76, 77, 78, 79, 80, 81, 82, 83, 84, 85, 86, 87, 88, 89, 90, 91, 92, 93, 94, 95, 96, 97, 98, 99, 100, 101, 102, 103, 104, 105, 106, 107, 108, 109, 110, 111, 112, 113] (by decide +kernel) (by decide +kernel)
set_option maxRecDepth 20000 in
theorem gX12_note_X12_isCell : GoodIn wsX12_note (wsV RX12 422 RX12 yX12_isCell wsX12_isCell) := goodIn_app (goodIn_of _ (by decide +kernel)) ggX12_note_X12_isCell
set_option maxRecDepth 20000 in
theorem ggX12_note_X12_noted : GoodIn wsX12_note wsX12_noted := goodIn_r _ [25, 26, 2, 27, 28, 29, 30, 31, 32, 33, 34, 35, 36, 37, 38, 39, 40, 41, 42, 43, 44, 45, 46, 47, 48, 49, 50, 51, 52, 53, 54, 55, 56, 57, 58, 59, 60, 61, 62, 63, 64, 65, 66, 67, 68, 69, 70, 71, 72, 73, 74, 75, 76, 77, 78, 79, 80, 81, 82, 83, 84, 85, 86, 87, 88, 89, 90, 91, 92, 93, 94, 95, 96, 97, 98, 99, 100, 101, 102, 103, 104, 105, 106, 107, 108, 109, 110, 111, 112, 113] (by decide +kernel) (by decide +kernel)
set_option maxRecDepth 20000 in
theorem gX12_note_X12_noted : GoodIn wsX12_note (wsV RX12 524 RX12 yX12_noted wsX12_noted) := goodIn_app (goodIn_of _ (by decide +kernel)) ggX12_note_X12_noted
theorem dX12_note_0 : decode cX12_note 0 = .ok (.aload_n 0, 1) := by decide +kernel
theorem dX12_note_1 : decode cX12_note 1 = .ok (.iconst 0, 1) := by decide +kernel
theorem dX12_note_2 : decode cX12_note 2 = .ok (.putfield 154, 3) := by decide +kernel
theorem dX12_note_5 : decode cX12_note 5 = .ok (.aload_n 0, 1) := by decide +kernel
theorem dX12_note_6 : decode cX12_note 6 = .ok (.getfield 376, 3) := by decide +kernel
theorem dX12_note_9 : decode cX12_note 9 = .ok (.bipush 24, 2) := by decide +kernel
theorem dX12_note_11 : decode cX12_note 11 = .ok (.if_icmp .eq 30, 3) := by decide +kernel
theorem dX12_note_14 : decode cX12_note 14 = .ok (.iload_n 1, 1) := by decide +kernel
theorem dX12_note_15 : decode cX12_note 15 = .ok (.iconst 0, 1) := by decide +kernel
theorem dX12_note_16 : decode cX12_note 16 = .ok (.sipush 199, 3) := by decide +kernel
theorem dX12_note_19 : decode cX12_note 19 = .ok (.invokestatic 199, 3) := by decide +kernel
theorem dX12_note_22 : decode cX12_note 22 = .ok (.ifCond .eq 19, 3) := by decide +kernel
theorem dX12_note_25 : decode cX12_note 25 = .ok (.aload_n 0, 1) := by decide +kernel
theorem dX12_note_26 : decode cX12_note 26 = .ok (.iload_n 2, 1) := by decide +kernel
theorem dX12_note_27 : decode cX12_note 27 = .ok (.invokevirtual 413, 3) := by decide +kernel
theorem dX12_note_30 : decode cX12_note 30 = .ok (.ifCond .eq 11, 3) := by decide +kernel
theorem dX12_note_33 : decode cX12_note 33 = .ok (.aload_n 0, 1) := by decide +kernel
theorem dX12_note_34 : decode cX12_note 34 = .ok (.iload_n 3, 1) := by decide +kernel
theorem dX12_note_35 : decode cX12_note 35 = .ok (.invokevirtual 422, 3) := by decide +kernel
theorem dX12_note_38 : decode cX12_note 38 = .ok (.ifCond .ne 7, 3) := by decide +kernel
theorem dX12_note_41 : decode cX12_note 41 = .ok (.iconst (-1), 1) := by decide +kernel
theorem dX12_note_42 : decode cX12_note 42 = .ok (.goto 10, 3) := by decide +kernel
theorem dX12_note_45 : decode cX12_note 45 = .ok (.aload_n 0, 1) := by decide +kernel
theorem dX12_note_46 : decode cX12_note 46 = .ok (.iload_n 1, 1) := by decide +kernel
theorem dX12_note_47 : decode cX12_note 47 = .ok (.iload_n 2, 1) := by decide +kernel
theorem dX12_note_48 : decode cX12_note 48 = .ok (.iload_n 3, 1) := by decide +kernel
theorem dX12_note_49 : decode cX12_note 49 = .ok (.invokevirtual 524, 3) := by decide +kernel
theorem dX12_note_52 : decode cX12_note 52 = .ok (.ireturn, 1) := by decide +kernel
set_option maxRecDepth 20000 in
theorem ggX12_strike_X12_noted : GoodIn wsX12_strike wsX12_noted := goodIn_r _ [7, 8, 2, 9, 10, 11, 12, 13, 14, 15, 16, 17, 18, 19, 20, 21, 22, 23, 24, 25, 26, 27, 28, 29, 30, 31, 32, 33, 34, 35, 36, 37, 38, 39, 40, 41, 42, 43, 44, 45, 46, 47, 48, 49, 50, 51, 52, 53, 54, 55, 56, 57, 58, 59, 60, 61, 62, 63, 64, 65, 66, 67, 68, 69, 70, 71, 72, 73, 74, 75, 76, 77, 78, 79, 80, 81, 82, 83, 84, 85, 86, 87, 88, 89, 90, 91, 92, 93, 94, 95] (by decide +kernel) (by decide +kernel)
set_option maxRecDepth 20000 in
theorem gX12_strike_X12_noted : GoodIn wsX12_strike (wsV RX12 524 RX12 yX12_noted wsX12_noted) := goodIn_app (goodIn_of _ (by decide +kernel)) ggX12_strike_X12_noted
theorem dX12_strike_0 : decode cX12_strike 0 = .ok (.aload_n 0, 1) := by decide +kernel
theorem dX12_strike_1 : decode cX12_strike 1 = .ok (.iconst 0, 1) := by decide +kernel
theorem dX12_strike_2 : decode cX12_strike 2 = .ok (.putfield 154, 3) := by decide +kernel
theorem dX12_strike_5 : decode cX12_strike 5 = .ok (.aload_n 0, 1) := by decide +kernel
theorem dX12_strike_6 : decode cX12_strike 6 = .ok (.getfield 376, 3) := by decide +kernel
theorem dX12_strike_9 : decode cX12_strike 9 = .ok (.bipush 24, 2) := by decide +kernel
theorem dX12_strike_11 : decode cX12_strike 11 = .ok (.if_icmp .eq 15, 3) := by decide +kernel
theorem dX12_strike_14 : decode cX12_strike 14 = .ok (.iload_n 1, 1) := by decide +kernel
theorem dX12_strike_15 : decode cX12_strike 15 = .ok (.ifCond .lt 11, 3) := by decide +kernel
theorem dX12_strike_18 : decode cX12_strike 18 = .ok (.iload_n 1, 1) := by decide +kernel
theorem dX12_strike_19 : decode cX12_strike 19 = .ok (.aload_n 0, 1) := by decide +kernel
theorem dX12_strike_20 : decode cX12_strike 20 = .ok (.getfield 376, 3) := by decide +kernel
theorem dX12_strike_23 : decode cX12_strike 23 = .ok (.if_icmp .lt 7, 3) := by decide +kernel
theorem dX12_strike_26 : decode cX12_strike 26 = .ok (.iconst (-1), 1) := by decide +kernel
theorem dX12_strike_27 : decode cX12_strike 27 = .ok (.goto 10, 3) := by decide +kernel
theorem dX12_strike_30 : decode cX12_strike 30 = .ok (.aload_n 0, 1) := by decide +kernel
theorem dX12_strike_31 : decode cX12_strike 31 = .ok (.iconst (-1), 1) := by decide +kernel
theorem dX12_strike_32 : decode cX12_strike 32 = .ok (.iload_n 1, 1) := by decide +kernel
theorem dX12_strike_33 : decode cX12_strike 33 = .ok (.iconst 0, 1) := by decide +kernel
theorem dX12_strike_34 : decode cX12_strike 34 = .ok (.invokevirtual 524, 3) := by decide +kernel
theorem dX12_strike_37 : decode cX12_strike 37 = .ok (.ireturn, 1) := by decide +kernel
set_option maxRecDepth 20000 in
theorem ggX12_known_X12_isIn : GoodIn wsX12_known wsX12_isIn := goodIn_r _ [7] (by decide +kernel) (by decide +kernel)
set_option maxRecDepth 20000 in
theorem gX12_known_X12_isIn : GoodIn wsX12_known (va_wsS RX12 199 yX12_isIn wsX12_isIn) := goodIn_app (goodIn_of _ (by decide +kernel)) ggX12_known_X12_isIn
theorem dX12_known_0 : decode cX12_known 0 = .ok (.aload_n 0, 1) := by decide +kernel
theorem dX12_known_1 : decode cX12_known 1 = .ok (.iconst 0, 1) := by decide +kernel
theorem dX12_known_2 : decode cX12_known 2 = .ok (.putfield 154, 3) := by decide +kernel
theorem dX12_known_5 : decode cX12_known 5 = .ok (.iload_n 1, 1) := by decide +kernel
theorem dX12_known_6 : decode cX12_known 6 = .ok (.iconst (-1), 1) := by decide +kernel
theorem dX12_known_7 : decode cX12_known 7 = .ok (.aload_n 0, 1) := by decide +kernel
theorem dX12_known_8 : decode cX12_known 8 = .ok (.getfield 376, 3) := by decide +kernel
theorem dX12_known_11 : decode cX12_known 11 = .ok (.invokestatic 199, 3) := by decide +kernel
theorem dX12_known_14 : decode cX12_known 14 = .ok (.ifCond .ne 5, 3) := by decide +kernel
theorem dX12_known_17 : decode cX12_known 17 = .ok (.iconst 0, 1) := by decide +kernel
theorem dX12_known_18 : decode cX12_known 18 = .ok (.ireturn, 1) := by decide +kernel
theorem dX12_known_19 : decode cX12_known 19 = .ok (.aload_n 0, 1) := by decide +kernel
theorem dX12_known_20 : decode cX12_known 20 = .ok (.iload_n 1, 1) := by decide +kernel
theorem dX12_known_21 : decode cX12_known 21 = .ok (.putfield 133, 3) := by decide +kernel
theorem dX12_known_24 : decode cX12_known 24 = .ok (.iconst 1, 1) := by decide +kernel
theorem dX12_known_25 : decode cX12_known 25 = .ok (.ireturn, 1) := by decide +kernel
theorem dX12_knownBy_0 : decode cX12_knownBy 0 = .ok (.aload_n 0, 1) := by decide +kernel
theorem dX12_knownBy_1 : decode cX12_knownBy 1 = .ok (.getfield 133, 3) := by decide +kernel
theorem dX12_knownBy_4 : decode cX12_knownBy 4 = .ok (.ifCond .ge 10, 3) := by decide +kernel
theorem dX12_knownBy_7 : decode cX12_knownBy 7 = .ok (.aload_n 0, 1) := by decide +kernel
theorem dX12_knownBy_8 : decode cX12_knownBy 8 = .ok (.getfield 376, 3) := by decide +kernel
theorem dX12_knownBy_11 : decode cX12_knownBy 11 = .ok (.goto 7, 3) := by decide +kernel
theorem dX12_knownBy_14 : decode cX12_knownBy 14 = .ok (.aload_n 0, 1) := by decide +kernel
theorem dX12_knownBy_15 : decode cX12_knownBy 15 = .ok (.getfield 133, 3) := by decide +kernel
theorem dX12_knownBy_18 : decode cX12_knownBy 18 = .ok (.ireturn, 1) := by decide +kernel
theorem dX12_beginsFrom_0 : decode cX12_beginsFrom 0 = .ok (.iconst 0, 1) := by decide +kernel
theorem dX12_beginsFrom_1 : decode cX12_beginsFrom 1 = .ok (.istore_n 2, 1) := by decide +kernel
theorem dX12_beginsFrom_2 : decode cX12_beginsFrom 2 = .ok (.iload_n 2, 1) := by decide +kernel
theorem dX12_beginsFrom_3 : decode cX12_beginsFrom 3 = .ok (.aload_n 0, 1) := by decide +kernel
theorem dX12_beginsFrom_4 : decode cX12_beginsFrom 4 = .ok (.getfield 250, 3) := by decide +kernel
theorem dX12_beginsFrom_7 : decode cX12_beginsFrom 7 = .ok (.if_icmp .ge 36, 3) := by decide +kernel
theorem dX12_beginsFrom_10 : decode cX12_beginsFrom 10 = .ok (.aload_n 0, 1) := by decide +kernel
theorem dX12_beginsFrom_11 : decode cX12_beginsFrom 11 = .ok (.getfield 48, 3) := by decide +kernel
theorem dX12_beginsFrom_14 : decode cX12_beginsFrom 14 = .ok (.aload_n 0, 1) := by decide +kernel
theorem dX12_beginsFrom_15 : decode cX12_beginsFrom 15 = .ok (.getfield 45, 3) := by decide +kernel
theorem dX12_beginsFrom_18 : decode cX12_beginsFrom 18 = .ok (.iload_n 2, 1) := by decide +kernel
theorem dX12_beginsFrom_19 : decode cX12_beginsFrom 19 = .ok (.iaload, 1) := by decide +kernel
theorem dX12_beginsFrom_20 : decode cX12_beginsFrom 20 = .ok (.iaload, 1) := by decide +kernel
theorem dX12_beginsFrom_21 : decode cX12_beginsFrom 21 = .ok (.iload_n 1, 1) := by decide +kernel
theorem dX12_beginsFrom_22 : decode cX12_beginsFrom 22 = .ok (.if_icmp .lt 15, 3) := by decide +kernel
theorem dX12_beginsFrom_25 : decode cX12_beginsFrom 25 = .ok (.aload_n 0, 1) := by decide +kernel
theorem dX12_beginsFrom_26 : decode cX12_beginsFrom 26 = .ok (.getfield 48, 3) := by decide +kernel
theorem dX12_beginsFrom_29 : decode cX12_beginsFrom 29 = .ok (.aload_n 0, 1) := by decide +kernel
theorem dX12_beginsFrom_30 : decode cX12_beginsFrom 30 = .ok (.getfield 45, 3) := by decide +kernel
theorem dX12_beginsFrom_33 : decode cX12_beginsFrom 33 = .ok (.iload_n 2, 1) := by decide +kernel
theorem dX12_beginsFrom_34 : decode cX12_beginsFrom 34 = .ok (.iaload, 1) := by decide +kernel
theorem dX12_beginsFrom_35 : decode cX12_beginsFrom 35 = .ok (.iaload, 1) := by decide +kernel
theorem dX12_beginsFrom_36 : decode cX12_beginsFrom 36 = .ok (.ireturn, 1) := by decide +kernel
theorem dX12_beginsFrom_37 : decode cX12_beginsFrom 37 = .ok (.iinc 2 1, 3) := by decide +kernel
theorem dX12_beginsFrom_40 : decode cX12_beginsFrom 40 = .ok (.goto (-38), 3) := by decide +kernel
theorem dX12_beginsFrom_43 : decode cX12_beginsFrom 43 = .ok (.iconst (-1), 1) := by decide +kernel
theorem dX12_beginsFrom_44 : decode cX12_beginsFrom 44 = .ok (.ireturn, 1) := by decide +kernel
set_option maxRecDepth 20000 in
theorem ggX12_locals_X12_isIn : GoodIn wsX12_locals wsX12_isIn := goodIn_r _ [7] (by decide +kernel) (by decide +kernel)
set_option maxRecDepth 20000 in
theorem gX12_locals_X12_isIn : GoodIn wsX12_locals (va_wsS RX12 199 yX12_isIn wsX12_isIn) := goodIn_app (goodIn_of _ (by decide +kernel)) ggX12_locals_X12_isIn
set_option maxRecDepth 20000 in
theorem ggX12_locals_X12_knownBy : GoodIn wsX12_locals wsX12_knownBy := goodIn_r _ [11, 12, 13, 72, 73, 74, 75, 76, 77, 78, 79, 80, 81, 82, 83, 84, 85, 86, 87, 88, 89, 90, 91, 92, 93, 94, 95, 96, 97, 98, 99, 100, 101, 102, 103, 104, 105, 106, 107, 108, 109, 110, 111, 112, 113, 114, 115, 116, 117, 118, 119, 120, 121, 122, 123, 124, 125, 126, 127, 128, 129, 130, 131, 132, 133, 134, 135, 136, 137, 138, 139, 140, 141, 142, 143, 144, 145, 146, 147, 148, 149, 150, 151, 152, 153, 154, 155, 156, 157, 158] (by decide +kernel) (by decide +kernel)
set_option maxRecDepth 20000 in
theorem gX12_locals_X12_knownBy : GoodIn wsX12_locals (wsV RX12 527 RX12 yX12_knownBy wsX12_knownBy) := goodIn_app (goodIn_of _ (by decide +kernel)) ggX12_locals_X12_knownBy
set_option maxRecDepth 20000 in
theorem ggX12_locals_X12_beginsFrom : GoodIn wsX12_locals wsX12_beginsFrom := goodIn_r _ [17, 18, 19, 20, 72, 73, 74, 75, 76, 77, 78, 79, 80, 81, 82, 83, 84, 85, 86, 87, 88, 89, 90, 91, 92, 93, 94, 95, 96, 97, 98, 99, 100, 101, 102, 103, 104, 105, 106, 107, 108, 109, 110, 111, 112, 113, 114, 115, 116, 117, 118, 119, 120, 121, 122, 123, 124, 125, 126, 127, 128, 129, 130, 131, 132, 133, 134, 135, 136, 137, 138, 139, 140, 141, 142, 143, 144, 145, 146, 147, 148, 149, 150, 151, 152, 153, 154, 155, 156, 157, 158] (by decide +kernel) (by decide +kernel)
set_option maxRecDepth 20000 in
theorem gX12_locals_X12_beginsFrom : GoodIn wsX12_locals (wsV RX12 530 RX12 yX12_beginsFrom wsX12_beginsFrom) := goodIn_app (goodIn_of _ (by decide +kernel)) ggX12_locals_X12_beginsFrom
set_option maxRecDepth 20000 in
theorem ggX12_locals_X12_peakAt : GoodIn wsX12_locals wsX12_peakAt := goodIn_r _ [24, 25, 26, 27, 28, 29, 30, 6, 31, 32, 33, 20, 34, 35, 36, 37, 38, 39, 40, 41, 42, 43, 44, 45, 46, 47, 48, 49, 50, 51, 52, 53, 54, 55, 56, 57, 58, 59, 60, 61, 62, 63, 64, 65, 66, 67, 72, 73, 74, 75, 76, 77, 78, 79, 80, 81, 82, 83, 84, 85, 86, 87, 88, 89, 90, 91, 92, 93, 94, 95, 96, 97, 98, 99, 100, 101, 102, 103, 104, 105, 106, 107, 108, 109, 110, 111, 112, 113, 114, 115, 116, 117, 118, 119, 120, 121, 122, 123, 124, 125, 126, 127, 128, 129, 130, 131, 132, 133, 134, 135, 136, 137, 138, 139, 140, 141, 142, 143, 144, 145, 146, 147, 148, 149, 150, 151, 152, 153, 154, 155, 156, 157, 158] (by decide +kernel) (by decide +kernel)
set_option maxRecDepth 20000 in
theorem gX12_locals_X12_peakAt : GoodIn wsX12_locals (wsV RX12 400 RX12 yX12_peakAt wsX12_peakAt) := goodIn_app (goodIn_of _ (by decide +kernel)) ggX12_locals_X12_peakAt
set_option maxRecDepth 20000 in
theorem ggX12_locals_X12_far : GoodIn wsX12_locals wsX12_far := goodIn_r _ [71, 27, 72, 73, 74, 75, 76, 77, 78, 79, 80, 81, 82, 83, 84, 85, 86, 87, 88, 89, 90, 91, 92, 93, 94, 95, 96, 97, 98, 99, 100, 101, 102, 103, 104, 105, 106, 107, 108, 109, 110, 111, 112, 113, 114, 115, 116, 117, 118, 119, 120, 121, 122, 123, 124, 125, 126, 127, 128, 129, 130, 131, 132, 133, 134, 135, 136, 137, 138, 139, 140, 141, 142, 143, 144, 145, 146, 147, 148, 149, 150, 151, 152, 153, 154, 155, 156, 157, 158] (by decide +kernel) (by decide +kernel)
set_option maxRecDepth 20000 in
theorem gX12_locals_X12_far : GoodIn wsX12_locals (wsV RX12 403 RX12 yX12_far wsX12_far) := goodIn_app (goodIn_of _ (by decide +kernel)) ggX12_locals_X12_far
theorem dX12_locals_0 : decode cX12_locals 0 = .ok (.aload_n 0, 1) := by decide +kernel
theorem dX12_locals_1 : decode cX12_locals 1 = .ok (.iconst 0, 1) := by decide +kernel
theorem dX12_locals_2 : decode cX12_locals 2 = .ok (.putfield 154, 3) := by decide +kernel
theorem dX12_locals_5 : decode cX12_locals 5 = .ok (.iload_n 1, 1) := by decide +kernel
theorem dX12_locals_6 : decode cX12_locals 6 = .ok (.iconst 0, 1) := by decide +kernel
theorem dX12_locals_7 : decode cX12_locals 7 = .ok (.bipush 12, 2) := by decide +kernel
theorem dX12_locals_9 : decode cX12_locals 9 = .ok (.invokestatic 199, 3) := by decide +kernel
theorem dX12_locals_12 : decode cX12_locals 12 = .ok (.ifCond .ne 5, 3) := by decide +kernel
theorem dX12_locals_15 : decode cX12_locals 15 = .ok (.iconst (-1), 1) := by decide +kernel
theorem dX12_locals_16 : decode cX12_locals 16 = .ok (.ireturn, 1) := by decide +kernel
theorem dX12_locals_17 : decode cX12_locals 17 = .ok (.iconst 0, 1) := by decide +kernel
theorem dX12_locals_18 : decode cX12_locals 18 = .ok (.istore_n 2, 1) := by decide +kernel
theorem dX12_locals_19 : decode cX12_locals 19 = .ok (.iload_n 2, 1) := by decide +kernel
theorem dX12_locals_20 : decode cX12_locals 20 = .ok (.aload_n 0, 1) := by decide +kernel
theorem dX12_locals_21 : decode cX12_locals 21 = .ok (.invokevirtual 527, 3) := by decide +kernel
theorem dX12_locals_24 : decode cX12_locals 24 = .ok (.if_icmp .ge 16, 3) := by decide +kernel
theorem dX12_locals_27 : decode cX12_locals 27 = .ok (.aload_n 0, 1) := by decide +kernel
theorem dX12_locals_28 : decode cX12_locals 28 = .ok (.getfield 139, 3) := by decide +kernel
theorem dX12_locals_31 : decode cX12_locals 31 = .ok (.iload_n 2, 1) := by decide +kernel
theorem dX12_locals_32 : decode cX12_locals 32 = .ok (.iconst 1, 1) := by decide +kernel
theorem dX12_locals_33 : decode cX12_locals 33 = .ok (.bastore, 1) := by decide +kernel
theorem dX12_locals_34 : decode cX12_locals 34 = .ok (.iinc 2 1, 3) := by decide +kernel
theorem dX12_locals_37 : decode cX12_locals 37 = .ok (.goto (-18), 3) := by decide +kernel
theorem dX12_locals_40 : decode cX12_locals 40 = .ok (.aload_n 0, 1) := by decide +kernel
theorem dX12_locals_41 : decode cX12_locals 41 = .ok (.invokevirtual 527, 3) := by decide +kernel
theorem dX12_locals_44 : decode cX12_locals 44 = .ok (.iconst 1, 1) := by decide +kernel
theorem dX12_locals_45 : decode cX12_locals 45 = .ok (.isub, 1) := by decide +kernel
theorem dX12_locals_46 : decode cX12_locals 46 = .ok (.istore_n 2, 1) := by decide +kernel
theorem dX12_locals_47 : decode cX12_locals 47 = .ok (.iload_n 2, 1) := by decide +kernel
theorem dX12_locals_48 : decode cX12_locals 48 = .ok (.ifCond .lt 45, 3) := by decide +kernel
theorem dX12_locals_51 : decode cX12_locals 51 = .ok (.aload_n 0, 1) := by decide +kernel
theorem dX12_locals_52 : decode cX12_locals 52 = .ok (.getfield 139, 3) := by decide +kernel
theorem dX12_locals_55 : decode cX12_locals 55 = .ok (.iload_n 2, 1) := by decide +kernel
theorem dX12_locals_56 : decode cX12_locals 56 = .ok (.baload, 1) := by decide +kernel
theorem dX12_locals_57 : decode cX12_locals 57 = .ok (.ifCond .eq 30, 3) := by decide +kernel
theorem dX12_locals_60 : decode cX12_locals 60 = .ok (.aload_n 0, 1) := by decide +kernel
theorem dX12_locals_61 : decode cX12_locals 61 = .ok (.getfield 136, 3) := by decide +kernel
theorem dX12_locals_64 : decode cX12_locals 64 = .ok (.iconst 3, 1) := by decide +kernel
theorem dX12_locals_65 : decode cX12_locals 65 = .ok (.iload_n 2, 1) := by decide +kernel
theorem dX12_locals_66 : decode cX12_locals 66 = .ok (.imul, 1) := by decide +kernel
theorem dX12_locals_67 : decode cX12_locals 67 = .ok (.iaload, 1) := by decide +kernel
theorem dX12_locals_68 : decode cX12_locals 68 = .ok (.ifCond .ge 19, 3) := by decide +kernel
theorem dX12_locals_71 : decode cX12_locals 71 = .ok (.aload_n 0, 1) := by decide +kernel
theorem dX12_locals_72 : decode cX12_locals 72 = .ok (.getfield 139, 3) := by decide +kernel
theorem dX12_locals_75 : decode cX12_locals 75 = .ok (.aload_n 0, 1) := by decide +kernel
theorem dX12_locals_76 : decode cX12_locals 76 = .ok (.getfield 136, 3) := by decide +kernel
theorem dX12_locals_79 : decode cX12_locals 79 = .ok (.iconst 3, 1) := by decide +kernel
theorem dX12_locals_80 : decode cX12_locals 80 = .ok (.iload_n 2, 1) := by decide +kernel
theorem dX12_locals_81 : decode cX12_locals 81 = .ok (.imul, 1) := by decide +kernel
theorem dX12_locals_82 : decode cX12_locals 82 = .ok (.iconst 1, 1) := by decide +kernel
theorem dX12_locals_83 : decode cX12_locals 83 = .ok (.iadd, 1) := by decide +kernel
theorem dX12_locals_84 : decode cX12_locals 84 = .ok (.iaload, 1) := by decide +kernel
theorem dX12_locals_85 : decode cX12_locals 85 = .ok (.iconst 0, 1) := by decide +kernel
theorem dX12_locals_86 : decode cX12_locals 86 = .ok (.bastore, 1) := by decide +kernel
theorem dX12_locals_87 : decode cX12_locals 87 = .ok (.iinc 2 (-1), 3) := by decide +kernel
theorem dX12_locals_90 : decode cX12_locals 90 = .ok (.goto (-43), 3) := by decide +kernel
theorem dX12_locals_93 : decode cX12_locals 93 = .ok (.iconst 0, 1) := by decide +kernel
theorem dX12_locals_94 : decode cX12_locals 94 = .ok (.istore_n 2, 1) := by decide +kernel
theorem dX12_locals_95 : decode cX12_locals 95 = .ok (.iconst 0, 1) := by decide +kernel
theorem dX12_locals_96 : decode cX12_locals 96 = .ok (.istore_n 3, 1) := by decide +kernel
theorem dX12_locals_97 : decode cX12_locals 97 = .ok (.iconst 0, 1) := by decide +kernel
theorem dX12_locals_98 : decode cX12_locals 98 = .ok (.istore 4, 2) := by decide +kernel
theorem dX12_locals_100 : decode cX12_locals 100 = .ok (.iload 4, 2) := by decide +kernel
theorem dX12_locals_102 : decode cX12_locals 102 = .ok (.aload_n 0, 1) := by decide +kernel
theorem dX12_locals_103 : decode cX12_locals 103 = .ok (.invokevirtual 527, 3) := by decide +kernel
theorem dX12_locals_106 : decode cX12_locals 106 = .ok (.if_icmp .ge 114, 3) := by decide +kernel
theorem dX12_locals_109 : decode cX12_locals 109 = .ok (.aload_n 0, 1) := by decide +kernel
theorem dX12_locals_110 : decode cX12_locals 110 = .ok (.getfield 139, 3) := by decide +kernel
theorem dX12_locals_113 : decode cX12_locals 113 = .ok (.iload 4, 2) := by decide +kernel
theorem dX12_locals_115 : decode cX12_locals 115 = .ok (.baload, 1) := by decide +kernel
theorem dX12_locals_116 : decode cX12_locals 116 = .ok (.ifCond .eq 98, 3) := by decide +kernel
theorem dX12_locals_119 : decode cX12_locals 119 = .ok (.aload_n 0, 1) := by decide +kernel
theorem dX12_locals_120 : decode cX12_locals 120 = .ok (.getfield 136, 3) := by decide +kernel
theorem dX12_locals_123 : decode cX12_locals 123 = .ok (.iconst 3, 1) := by decide +kernel
theorem dX12_locals_124 : decode cX12_locals 124 = .ok (.iload 4, 2) := by decide +kernel
theorem dX12_locals_126 : decode cX12_locals 126 = .ok (.imul, 1) := by decide +kernel
theorem dX12_locals_127 : decode cX12_locals 127 = .ok (.iaload, 1) := by decide +kernel
theorem dX12_locals_128 : decode cX12_locals 128 = .ok (.ifCond .ge 6, 3) := by decide +kernel
theorem dX12_locals_131 : decode cX12_locals 131 = .ok (.goto 83, 3) := by decide +kernel
theorem dX12_locals_134 : decode cX12_locals 134 = .ok (.aload_n 0, 1) := by decide +kernel
theorem dX12_locals_135 : decode cX12_locals 135 = .ok (.aload_n 0, 1) := by decide +kernel
theorem dX12_locals_136 : decode cX12_locals 136 = .ok (.getfield 136, 3) := by decide +kernel
theorem dX12_locals_139 : decode cX12_locals 139 = .ok (.iconst 3, 1) := by decide +kernel
theorem dX12_locals_140 : decode cX12_locals 140 = .ok (.iload 4, 2) := by decide +kernel
theorem dX12_locals_142 : decode cX12_locals 142 = .ok (.imul, 1) := by decide +kernel
theorem dX12_locals_143 : decode cX12_locals 143 = .ok (.iaload, 1) := by decide +kernel
theorem dX12_locals_144 : decode cX12_locals 144 = .ok (.invokevirtual 530, 3) := by decide +kernel
theorem dX12_locals_147 : decode cX12_locals 147 = .ok (.istore 5, 2) := by decide +kernel
theorem dX12_locals_149 : decode cX12_locals 149 = .ok (.iload 5, 2) := by decide +kernel
theorem dX12_locals_151 : decode cX12_locals 151 = .ok (.ifCond .ge 6, 3) := by decide +kernel
theorem dX12_locals_154 : decode cX12_locals 154 = .ok (.goto 60, 3) := by decide +kernel
theorem dX12_locals_157 : decode cX12_locals 157 = .ok (.iload_n 2, 1) := by decide +kernel
theorem dX12_locals_158 : decode cX12_locals 158 = .ok (.iconst 1, 1) := by decide +kernel
theorem dX12_locals_159 : decode cX12_locals 159 = .ok (.aload_n 0, 1) := by decide +kernel
theorem dX12_locals_160 : decode cX12_locals 160 = .ok (.getfield 136, 3) := by decide +kernel
theorem dX12_locals_163 : decode cX12_locals 163 = .ok (.iconst 3, 1) := by decide +kernel
theorem dX12_locals_164 : decode cX12_locals 164 = .ok (.iload 4, 2) := by decide +kernel
theorem dX12_locals_166 : decode cX12_locals 166 = .ok (.imul, 1) := by decide +kernel
theorem dX12_locals_167 : decode cX12_locals 167 = .ok (.iconst 1, 1) := by decide +kernel
theorem dX12_locals_168 : decode cX12_locals 168 = .ok (.iadd, 1) := by decide +kernel
theorem dX12_locals_169 : decode cX12_locals 169 = .ok (.iaload, 1) := by decide +kernel
theorem dX12_locals_170 : decode cX12_locals 170 = .ok (.ishl, 1) := by decide +kernel
theorem dX12_locals_171 : decode cX12_locals 171 = .ok (.ior, 1) := by decide +kernel
theorem dX12_locals_172 : decode cX12_locals 172 = .ok (.istore_n 2, 1) := by decide +kernel
theorem dX12_locals_173 : decode cX12_locals 173 = .ok (.aload_n 0, 1) := by decide +kernel
theorem dX12_locals_174 : decode cX12_locals 174 = .ok (.aload_n 0, 1) := by decide +kernel
theorem dX12_locals_175 : decode cX12_locals 175 = .ok (.getfield 136, 3) := by decide +kernel
theorem dX12_locals_178 : decode cX12_locals 178 = .ok (.iconst 3, 1) := by decide +kernel
theorem dX12_locals_179 : decode cX12_locals 179 = .ok (.iload 4, 2) := by decide +kernel
theorem dX12_locals_181 : decode cX12_locals 181 = .ok (.imul, 1) := by decide +kernel
theorem dX12_locals_182 : decode cX12_locals 182 = .ok (.iconst 2, 1) := by decide +kernel
theorem dX12_locals_183 : decode cX12_locals 183 = .ok (.iadd, 1) := by decide +kernel
theorem dX12_locals_184 : decode cX12_locals 184 = .ok (.iaload, 1) := by decide +kernel
theorem dX12_locals_185 : decode cX12_locals 185 = .ok (.aload_n 0, 1) := by decide +kernel
theorem dX12_locals_186 : decode cX12_locals 186 = .ok (.iload 5, 2) := by decide +kernel
theorem dX12_locals_188 : decode cX12_locals 188 = .ok (.invokevirtual 400, 3) := by decide +kernel
theorem dX12_locals_191 : decode cX12_locals 191 = .ok (.invokevirtual 403, 3) := by decide +kernel
theorem dX12_locals_194 : decode cX12_locals 194 = .ok (.iload_n 1, 1) := by decide +kernel
theorem dX12_locals_195 : decode cX12_locals 195 = .ok (.if_icmp .le 19, 3) := by decide +kernel
theorem dX12_locals_198 : decode cX12_locals 198 = .ok (.iload_n 3, 1) := by decide +kernel
theorem dX12_locals_199 : decode cX12_locals 199 = .ok (.iconst 1, 1) := by decide +kernel
theorem dX12_locals_200 : decode cX12_locals 200 = .ok (.aload_n 0, 1) := by decide +kernel
theorem dX12_locals_201 : decode cX12_locals 201 = .ok (.getfield 136, 3) := by decide +kernel
theorem dX12_locals_204 : decode cX12_locals 204 = .ok (.iconst 3, 1) := by decide +kernel
theorem dX12_locals_205 : decode cX12_locals 205 = .ok (.iload 4, 2) := by decide +kernel
theorem dX12_locals_207 : decode cX12_locals 207 = .ok (.imul, 1) := by decide +kernel
theorem dX12_locals_208 : decode cX12_locals 208 = .ok (.iconst 1, 1) := by decide +kernel
theorem dX12_locals_209 : decode cX12_locals 209 = .ok (.iadd, 1) := by decide +kernel
theorem dX12_locals_210 : decode cX12_locals 210 = .ok (.iaload, 1) := by decide +kernel
theorem dX12_locals_211 : decode cX12_locals 211 = .ok (.ishl, 1) := by decide +kernel
theorem dX12_locals_212 : decode cX12_locals 212 = .ok (.ior, 1) := by decide +kernel
theorem dX12_locals_213 : decode cX12_locals 213 = .ok (.istore_n 3, 1) := by decide +kernel
theorem dX12_locals_214 : decode cX12_locals 214 = .ok (.iinc 4 1, 3) := by decide +kernel
theorem dX12_locals_217 : decode cX12_locals 217 = .ok (.goto (-117), 3) := by decide +kernel
theorem dX12_locals_220 : decode cX12_locals 220 = .ok (.iload_n 2, 1) := by decide +kernel
theorem dX12_locals_221 : decode cX12_locals 221 = .ok (.iload_n 3, 1) := by decide +kernel
theorem dX12_locals_222 : decode cX12_locals 222 = .ok (.iconst (-1), 1) := by decide +kernel
theorem dX12_locals_223 : decode cX12_locals 223 = .ok (.ixor, 1) := by decide +kernel
theorem dX12_locals_224 : decode cX12_locals 224 = .ok (.iand, 1) := by decide +kernel
theorem dX12_locals_225 : decode cX12_locals 225 = .ok (.ireturn, 1) := by decide +kernel
set_option maxRecDepth 20000 in
theorem ggX12_chance_X12_isSurfer : GoodIn wsX12_chance wsX12_isSurfer := goodIn_r _ [9, 10, 136, 137, 138, 139, 140, 141, 142, 143, 144, 145, 146, 147, 148, 149, 150, 151, 152, 153, 154, 155, 156, 157, 158, 159, 160, 161, 162, 163, 164, 165, 166, 167, 168, 169, 170, 171, 172, 173, 174, 175, 176, 177, 178, 179, 180, 181, 182, 183, 184, 185, 186, 187, 188, 189, 190, 191, 192, 193, 194, 195, 196, 197, 198, 199, 200, 201, 202, 203, 204, 205, 206, 207, 208, 209, 210, 211, 212, 213, 214, 215, 216, 217, 218, 219, 220, 221, 222] (by decide +kernel) (by decide +kernel)
set_option maxRecDepth 20000 in
theorem gX12_chance_X12_isSurfer : GoodIn wsX12_chance (wsV RX12 413 RX12 yX12_isSurfer wsX12_isSurfer) := goodIn_app (goodIn_of _ (by decide +kernel)) ggX12_chance_X12_isSurfer
set_option maxRecDepth 20000 in
theorem ggX12_chance_X12_isIn : GoodIn wsX12_chance wsX12_isIn := goodIn_r _ [13] (by decide +kernel) (by decide +kernel)
set_option maxRecDepth 20000 in
theorem gX12_chance_X12_isIn : GoodIn wsX12_chance (va_wsS RX12 199 yX12_isIn wsX12_isIn) := goodIn_app (goodIn_of _ (by decide +kernel)) ggX12_chance_X12_isIn
set_option maxRecDepth 20000 in
theorem ggX12_chance_X12_layTried : GoodIn wsX12_chance wsX12_layTried := goodIn_r _ [17, 18, 4, 19, 20, 21, 22, 23, 24, 136, 137, 138, 139, 140, 141, 142, 143, 144, 145, 146, 147, 148, 149, 150, 151, 152, 153, 154, 155, 156, 157, 158, 159, 160, 161, 162, 163, 164, 165, 166, 167, 168, 169, 170, 171, 172, 173, 174, 175, 176, 177, 178, 179, 180, 181, 182, 183, 184, 185, 186, 187, 188, 189, 190, 191, 192, 193, 194, 195, 196, 197, 198, 199, 200, 201, 202, 203, 204, 205, 206, 207, 208, 209, 210, 211, 212, 213, 214, 215, 216, 217, 218, 219, 220, 221, 222] (by decide +kernel) (by decide +kernel)
set_option maxRecDepth 20000 in
theorem gX12_chance_X12_layTried : GoodIn wsX12_chance (wsV RX12 509 RX12 yX12_layTried wsX12_layTried) := goodIn_app (goodIn_of _ (by decide +kernel)) ggX12_chance_X12_layTried
set_option maxRecDepth 20000 in
theorem ggX12_chance_X12_goesOn : GoodIn wsX12_chance wsX12_goesOn := goodIn_r _ [28, 29, 22, 30, 31, 32, 33, 8, 34, 10, 20, 35, 36, 37, 38, 39, 40, 18, 21, 24, 41, 42, 23, 19, 4, 43, 44, 45, 46, 47, 48, 49, 50, 51, 52, 53, 54, 55, 56, 57, 58, 59, 60, 61, 62, 63, 64, 65, 66, 67, 68, 69, 70, 71, 72, 73, 74, 75, 76, 77, 78, 79, 80, 81, 82, 83, 84, 85, 86, 87, 88, 89, 90, 91, 92, 93, 94, 95, 96, 97, 98, 99, 100, 101, 102, 103, 104, 105, 106, 107, 108, 109, 110, 111, 112, 113, 114, 115, 116, 117, 118, 119, 120, 121, 122, 123, 2, 124, 125, 126, 127, 128, 129, 130, 131, 132, 133, 134, 135, 136, 137, 138, 139, 140, 141, 142, 143, 144, 145, 146, 147, 148, 149, 150, 151, 152, 153, 154, 155, 156, 157, 158, 159, 160, 161, 162, 163, 164, 165, 166, 167, 168, 169, 170, 171, 172, 173, 174, 175, 176, 177, 178, 179, 180, 181, 182, 183, 184, 185, 186, 187, 188, 189, 190, 191, 192, 193, 194, 195, 196, 197, 198, 199, 200, 201, 202, 203, 204, 205, 206, 207, 208, 209, 210, 211, 212, 213, 214, 215, 216, 217, 218, 219, 220, 221, 222] (by decide +kernel) (by decide +kernel)
set_option maxRecDepth 20000 in
theorem gX12_chance_X12_goesOn : GoodIn wsX12_chance (wsV RX12 512 RX12 yX12_goesOn wsX12_goesOn) := goodIn_app (goodIn_of _ (by decide +kernel)) ggX12_chance_X12_goesOn
theorem dX12_chance_0 : decode cX12_chance 0 = .ok (.aload_n 0, 1) := by decide +kernel
theorem dX12_chance_1 : decode cX12_chance 1 = .ok (.iconst 0, 1) := by decide +kernel
theorem dX12_chance_2 : decode cX12_chance 2 = .ok (.putfield 154, 3) := by decide +kernel
theorem dX12_chance_5 : decode cX12_chance 5 = .ok (.iload_n 1, 1) := by decide +kernel
theorem dX12_chance_6 : decode cX12_chance 6 = .ok (.ifCond .lt 21, 3) := by decide +kernel
theorem dX12_chance_9 : decode cX12_chance 9 = .ok (.aload_n 0, 1) := by decide +kernel
theorem dX12_chance_10 : decode cX12_chance 10 = .ok (.iload_n 2, 1) := by decide +kernel
theorem dX12_chance_11 : decode cX12_chance 11 = .ok (.invokevirtual 413, 3) := by decide +kernel
theorem dX12_chance_14 : decode cX12_chance 14 = .ok (.ifCond .eq 13, 3) := by decide +kernel
theorem dX12_chance_17 : decode cX12_chance 17 = .ok (.iload_n 3, 1) := by decide +kernel
theorem dX12_chance_18 : decode cX12_chance 18 = .ok (.iconst 0, 1) := by decide +kernel
theorem dX12_chance_19 : decode cX12_chance 19 = .ok (.bipush 28, 2) := by decide +kernel
theorem dX12_chance_21 : decode cX12_chance 21 = .ok (.invokestatic 199, 3) := by decide +kernel
theorem dX12_chance_24 : decode cX12_chance 24 = .ok (.ifCond .ne 5, 3) := by decide +kernel
theorem dX12_chance_27 : decode cX12_chance 27 = .ok (.iconst (-1), 1) := by decide +kernel
theorem dX12_chance_28 : decode cX12_chance 28 = .ok (.ireturn, 1) := by decide +kernel
theorem dX12_chance_29 : decode cX12_chance 29 = .ok (.aload_n 0, 1) := by decide +kernel
theorem dX12_chance_30 : decode cX12_chance 30 = .ok (.getfield 372, 3) := by decide +kernel
theorem dX12_chance_33 : decode cX12_chance 33 = .ok (.lstore 4, 2) := by decide +kernel
theorem dX12_chance_35 : decode cX12_chance 35 = .ok (.aload_n 0, 1) := by decide +kernel
theorem dX12_chance_36 : decode cX12_chance 36 = .ok (.iload_n 1, 1) := by decide +kernel
theorem dX12_chance_37 : decode cX12_chance 37 = .ok (.i2l, 1) := by decide +kernel
theorem dX12_chance_38 : decode cX12_chance 38 = .ok (.putfield 372, 3) := by decide +kernel
theorem dX12_chance_41 : decode cX12_chance 41 = .ok (.iconst 0, 1) := by decide +kernel
theorem dX12_chance_42 : decode cX12_chance 42 = .ok (.istore 6, 2) := by decide +kernel
theorem dX12_chance_44 : decode cX12_chance 44 = .ok (.iconst 0, 1) := by decide +kernel
theorem dX12_chance_45 : decode cX12_chance 45 = .ok (.istore 7, 2) := by decide +kernel
theorem dX12_chance_47 : decode cX12_chance 47 = .ok (.iload 7, 2) := by decide +kernel
theorem dX12_chance_49 : decode cX12_chance 49 = .ok (.bipush 10, 2) := by decide +kernel
theorem dX12_chance_51 : decode cX12_chance 51 = .ok (.if_icmp .ge 43, 3) := by decide +kernel
theorem dX12_chance_54 : decode cX12_chance 54 = .ok (.aload_n 0, 1) := by decide +kernel
theorem dX12_chance_55 : decode cX12_chance 55 = .ok (.invokevirtual 509, 3) := by decide +kernel
theorem dX12_chance_58 : decode cX12_chance 58 = .ok (.aload_n 0, 1) := by decide +kernel
theorem dX12_chance_59 : decode cX12_chance 59 = .ok (.aload_n 0, 1) := by decide +kernel
theorem dX12_chance_60 : decode cX12_chance 60 = .ok (.getfield 369, 3) := by decide +kernel
theorem dX12_chance_63 : decode cX12_chance 63 = .ok (.invokevirtual 512, 3) := by decide +kernel
theorem dX12_chance_66 : decode cX12_chance 66 = .ok (.iload 6, 2) := by decide +kernel
theorem dX12_chance_68 : decode cX12_chance 68 = .ok (.aload_n 0, 1) := by decide +kernel
theorem dX12_chance_69 : decode cX12_chance 69 = .ok (.getfield 91, 3) := by decide +kernel
theorem dX12_chance_72 : decode cX12_chance 72 = .ok (.iconst 5, 1) := by decide +kernel
theorem dX12_chance_73 : decode cX12_chance 73 = .ok (.iload_n 2, 1) := by decide +kernel
theorem dX12_chance_74 : decode cX12_chance 74 = .ok (.iadd, 1) := by decide +kernel
theorem dX12_chance_75 : decode cX12_chance 75 = .ok (.iaload, 1) := by decide +kernel
theorem dX12_chance_76 : decode cX12_chance 76 = .ok (.iload_n 3, 1) := by decide +kernel
theorem dX12_chance_77 : decode cX12_chance 77 = .ok (.if_icmp .lt 7, 3) := by decide +kernel
theorem dX12_chance_80 : decode cX12_chance 80 = .ok (.iconst 1, 1) := by decide +kernel
theorem dX12_chance_81 : decode cX12_chance 81 = .ok (.goto 4, 3) := by decide +kernel
theorem dX12_chance_84 : decode cX12_chance 84 = .ok (.iconst 0, 1) := by decide +kernel
theorem dX12_chance_85 : decode cX12_chance 85 = .ok (.iadd, 1) := by decide +kernel
theorem dX12_chance_86 : decode cX12_chance 86 = .ok (.istore 6, 2) := by decide +kernel
theorem dX12_chance_88 : decode cX12_chance 88 = .ok (.iinc 7 1, 3) := by decide +kernel
theorem dX12_chance_91 : decode cX12_chance 91 = .ok (.goto (-44), 3) := by decide +kernel
theorem dX12_chance_94 : decode cX12_chance 94 = .ok (.aload_n 0, 1) := by decide +kernel
theorem dX12_chance_95 : decode cX12_chance 95 = .ok (.lload 4, 2) := by decide +kernel
theorem dX12_chance_97 : decode cX12_chance 97 = .ok (.putfield 372, 3) := by decide +kernel
theorem dX12_chance_100 : decode cX12_chance 100 = .ok (.iload 6, 2) := by decide +kernel
theorem dX12_chance_102 : decode cX12_chance 102 = .ok (.ireturn, 1) := by decide +kernel
set_option maxRecDepth 20000 in
theorem ggX12_tried_X12_isIn : GoodIn wsX12_tried wsX12_isIn := goodIn_r _ [11] (by decide +kernel) (by decide +kernel)
set_option maxRecDepth 20000 in
theorem gX12_tried_X12_isIn : GoodIn wsX12_tried (va_wsS RX12 199 yX12_isIn wsX12_isIn) := goodIn_app (goodIn_of _ (by decide +kernel)) ggX12_tried_X12_isIn
set_option maxRecDepth 20000 in
theorem ggX12_tried_X12_isSurfer : GoodIn wsX12_tried wsX12_isSurfer := goodIn_r _ [15, 5, 140, 141, 142, 143, 144, 145, 146, 147, 148, 149, 150, 151, 152, 153, 154, 155, 156, 157, 158, 159, 160, 161, 162, 163, 164, 165, 166, 167, 168, 169, 170, 171, 172, 173, 174, 175, 176, 177, 178, 179, 180, 181, 182, 183, 184, 185, 186, 187, 188, 189, 190, 191, 192, 193, 194, 195, 196, 197, 198, 199, 200, 201, 202, 203, 204, 205, 206, 207, 208, 209, 210, 211, 212, 213, 214, 215, 216, 217, 218, 219, 220, 221, 222, 223, 224, 225, 226] (by decide +kernel) (by decide +kernel)
set_option maxRecDepth 20000 in
theorem gX12_tried_X12_isSurfer : GoodIn wsX12_tried (wsV RX12 413 RX12 yX12_isSurfer wsX12_isSurfer) := goodIn_app (goodIn_of _ (by decide +kernel)) ggX12_tried_X12_isSurfer
set_option maxRecDepth 20000 in
theorem ggX12_tried_X12_layTried : GoodIn wsX12_tried wsX12_layTried := goodIn_r _ [19, 6, 20, 21, 22, 23, 24, 25, 26, 140, 141, 142, 143, 144, 145, 146, 147, 148, 149, 150, 151, 152, 153, 154, 155, 156, 157, 158, 159, 160, 161, 162, 163, 164, 165, 166, 167, 168, 169, 170, 171, 172, 173, 174, 175, 176, 177, 178, 179, 180, 181, 182, 183, 184, 185, 186, 187, 188, 189, 190, 191, 192, 193, 194, 195, 196, 197, 198, 199, 200, 201, 202, 203, 204, 205, 206, 207, 208, 209, 210, 211, 212, 213, 214, 215, 216, 217, 218, 219, 220, 221, 222, 223, 224, 225, 226] (by decide +kernel) (by decide +kernel)
set_option maxRecDepth 20000 in
theorem gX12_tried_X12_layTried : GoodIn wsX12_tried (wsV RX12 509 RX12 yX12_layTried wsX12_layTried) := goodIn_app (goodIn_of _ (by decide +kernel)) ggX12_tried_X12_layTried
set_option maxRecDepth 20000 in
theorem ggX12_tried_X12_goesOn : GoodIn wsX12_tried wsX12_goesOn := goodIn_r _ [30, 31, 24, 32, 33, 34, 35, 10, 36, 5, 22, 37, 38, 39, 40, 41, 42, 6, 23, 26, 3, 43, 25, 21, 20, 44, 45, 46, 47, 48, 49, 50, 51, 4, 52, 53, 54, 55, 56, 57, 58, 59, 60, 61, 62, 63, 64, 65, 66, 67, 68, 69, 70, 71, 72, 73, 74, 75, 76, 77, 78, 79, 80, 81, 82, 83, 84, 85, 86, 87, 88, 89, 90, 91, 92, 93, 94, 95, 96, 97, 98, 99, 100, 101, 102, 103, 104, 105, 106, 107, 108, 109, 110, 111, 112, 113, 114, 115, 116, 117, 118, 119, 120, 121, 122, 123, 2, 124, 125, 126, 127, 128, 129, 130, 131, 132, 133, 134, 135, 140, 141, 142, 143, 144, 145, 146, 147, 148, 149, 150, 151, 152, 153, 154, 155, 156, 157, 158, 159, 160, 161, 162, 163, 164, 165, 166, 167, 168, 169, 170, 171, 172, 173, 174, 175, 176, 177, 178, 179, 180, 181, 182, 183, 184, 185, 186, 187, 188, 189, 190, 191, 192, 193, 194, 195, 196, 197, 198, 199, 200, 201, 202, 203, 204, 205, 206, 207, 208, 209, 210, 211, 212, 213, 214, 215, 216, 217, 218, 219, 220, 221, 222, 223, 224, 225, 226] (by decide +kernel) (by decide +kernel)
set_option maxRecDepth 20000 in
theorem gX12_tried_X12_goesOn : GoodIn wsX12_tried (wsV RX12 512 RX12 yX12_goesOn wsX12_goesOn) := goodIn_app (goodIn_of _ (by decide +kernel)) ggX12_tried_X12_goesOn
set_option maxRecDepth 20000 in
theorem ggX12_tried_X12_allHad : GoodIn wsX12_tried wsX12_allHad := goodIn_r _ [139, 5, 20, 140, 141, 142, 143, 144, 145, 146, 147, 148, 149, 150, 151, 152, 153, 154, 155, 156, 157, 158, 159, 160, 161, 162, 163, 164, 165, 166, 167, 168, 169, 170, 171, 172, 173, 174, 175, 176, 177, 178, 179, 180, 181, 182, 183, 184, 185, 186, 187, 188, 189, 190, 191, 192, 193, 194, 195, 196, 197, 198, 199, 200, 201, 202, 203, 204, 205, 206, 207, 208, 209, 210, 211, 212, 213, 214, 215, 216, 217, 218, 219, 220, 221, 222, 223, 224, 225, 226] (by decide +kernel) (by decide +kernel)
set_option maxRecDepth 20000 in
theorem gX12_tried_X12_allHad : GoodIn wsX12_tried (wsV RX12 521 RX12 yX12_allHad wsX12_allHad) := goodIn_app (goodIn_of _ (by decide +kernel)) ggX12_tried_X12_allHad
theorem dX12_tried_0 : decode cX12_tried 0 = .ok (.aload_n 0, 1) := by decide +kernel
theorem dX12_tried_1 : decode cX12_tried 1 = .ok (.iconst 0, 1) := by decide +kernel
theorem dX12_tried_2 : decode cX12_tried 2 = .ok (.putfield 154, 3) := by decide +kernel
theorem dX12_tried_5 : decode cX12_tried 5 = .ok (.iload_n 1, 1) := by decide +kernel
theorem dX12_tried_6 : decode cX12_tried 6 = .ok (.iconst 0, 1) := by decide +kernel
theorem dX12_tried_7 : decode cX12_tried 7 = .ok (.iconst 4, 1) := by decide +kernel
theorem dX12_tried_8 : decode cX12_tried 8 = .ok (.invokestatic 199, 3) := by decide +kernel
theorem dX12_tried_11 : decode cX12_tried 11 = .ok (.ifCond .eq 7, 3) := by decide +kernel
theorem dX12_tried_14 : decode cX12_tried 14 = .ok (.iload_n 3, 1) := by decide +kernel
theorem dX12_tried_15 : decode cX12_tried 15 = .ok (.ifCond .ge 5, 3) := by decide +kernel
theorem dX12_tried_18 : decode cX12_tried 18 = .ok (.iconst (-1), 1) := by decide +kernel
theorem dX12_tried_19 : decode cX12_tried 19 = .ok (.ireturn, 1) := by decide +kernel
theorem dX12_tried_20 : decode cX12_tried 20 = .ok (.iload_n 1, 1) := by decide +kernel
theorem dX12_tried_21 : decode cX12_tried 21 = .ok (.iconst 1, 1) := by decide +kernel
theorem dX12_tried_22 : decode cX12_tried 22 = .ok (.if_icmp .eq 8, 3) := by decide +kernel
theorem dX12_tried_25 : decode cX12_tried 25 = .ok (.iload_n 1, 1) := by decide +kernel
theorem dX12_tried_26 : decode cX12_tried 26 = .ok (.iconst 4, 1) := by decide +kernel
theorem dX12_tried_27 : decode cX12_tried 27 = .ok (.if_icmp .ne 14, 3) := by decide +kernel
theorem dX12_tried_30 : decode cX12_tried 30 = .ok (.aload_n 0, 1) := by decide +kernel
theorem dX12_tried_31 : decode cX12_tried 31 = .ok (.iload_n 2, 1) := by decide +kernel
theorem dX12_tried_32 : decode cX12_tried 32 = .ok (.invokevirtual 413, 3) := by decide +kernel
theorem dX12_tried_35 : decode cX12_tried 35 = .ok (.ifCond .ne 12, 3) := by decide +kernel
theorem dX12_tried_38 : decode cX12_tried 38 = .ok (.goto 7, 3) := by decide +kernel
theorem dX12_tried_41 : decode cX12_tried 41 = .ok (.iload_n 2, 1) := by decide +kernel
theorem dX12_tried_42 : decode cX12_tried 42 = .ok (.ifCond .eq 5, 3) := by decide +kernel
theorem dX12_tried_45 : decode cX12_tried 45 = .ok (.iconst (-1), 1) := by decide +kernel
theorem dX12_tried_46 : decode cX12_tried 46 = .ok (.ireturn, 1) := by decide +kernel
theorem dX12_tried_47 : decode cX12_tried 47 = .ok (.aload_n 0, 1) := by decide +kernel
theorem dX12_tried_48 : decode cX12_tried 48 = .ok (.getfield 372, 3) := by decide +kernel
theorem dX12_tried_51 : decode cX12_tried 51 = .ok (.lstore 4, 2) := by decide +kernel
theorem dX12_tried_53 : decode cX12_tried 53 = .ok (.aload_n 0, 1) := by decide +kernel
theorem dX12_tried_54 : decode cX12_tried 54 = .ok (.iload_n 3, 1) := by decide +kernel
theorem dX12_tried_55 : decode cX12_tried 55 = .ok (.i2l, 1) := by decide +kernel
theorem dX12_tried_56 : decode cX12_tried 56 = .ok (.putfield 372, 3) := by decide +kernel
theorem dX12_tried_59 : decode cX12_tried 59 = .ok (.aload_n 0, 1) := by decide +kernel
theorem dX12_tried_60 : decode cX12_tried 60 = .ok (.invokevirtual 509, 3) := by decide +kernel
theorem dX12_tried_63 : decode cX12_tried 63 = .ok (.aload_n 0, 1) := by decide +kernel
theorem dX12_tried_64 : decode cX12_tried 64 = .ok (.iload_n 1, 1) := by decide +kernel
theorem dX12_tried_65 : decode cX12_tried 65 = .ok (.putfield 115, 3) := by decide +kernel
theorem dX12_tried_68 : decode cX12_tried 68 = .ok (.aload_n 0, 1) := by decide +kernel
theorem dX12_tried_69 : decode cX12_tried 69 = .ok (.iload_n 2, 1) := by decide +kernel
theorem dX12_tried_70 : decode cX12_tried 70 = .ok (.putfield 430, 3) := by decide +kernel
theorem dX12_tried_73 : decode cX12_tried 73 = .ok (.iconst 0, 1) := by decide +kernel
theorem dX12_tried_74 : decode cX12_tried 74 = .ok (.istore 6, 2) := by decide +kernel
theorem dX12_tried_76 : decode cX12_tried 76 = .ok (.iload 6, 2) := by decide +kernel
theorem dX12_tried_78 : decode cX12_tried 78 = .ok (.aload_n 0, 1) := by decide +kernel
theorem dX12_tried_79 : decode cX12_tried 79 = .ok (.getfield 247, 3) := by decide +kernel
theorem dX12_tried_82 : decode cX12_tried 82 = .ok (.if_icmp .ge 29, 3) := by decide +kernel
theorem dX12_tried_85 : decode cX12_tried 85 = .ok (.iload_n 1, 1) := by decide +kernel
theorem dX12_tried_86 : decode cX12_tried 86 = .ok (.iconst 4, 1) := by decide +kernel
theorem dX12_tried_87 : decode cX12_tried 87 = .ok (.if_icmp .ne 24, 3) := by decide +kernel
theorem dX12_tried_90 : decode cX12_tried 90 = .ok (.aload_n 0, 1) := by decide +kernel
theorem dX12_tried_91 : decode cX12_tried 91 = .ok (.getfield 88, 3) := by decide +kernel
theorem dX12_tried_94 : decode cX12_tried 94 = .ok (.iconst 5, 1) := by decide +kernel
theorem dX12_tried_95 : decode cX12_tried 95 = .ok (.iload 6, 2) := by decide +kernel
theorem dX12_tried_97 : decode cX12_tried 97 = .ok (.iadd, 1) := by decide +kernel
theorem dX12_tried_98 : decode cX12_tried 98 = .ok (.aload_n 0, 1) := by decide +kernel
theorem dX12_tried_99 : decode cX12_tried 99 = .ok (.getfield 88, 3) := by decide +kernel
theorem dX12_tried_102 : decode cX12_tried 102 = .ok (.iload_n 2, 1) := by decide +kernel
theorem dX12_tried_103 : decode cX12_tried 103 = .ok (.iaload, 1) := by decide +kernel
theorem dX12_tried_104 : decode cX12_tried 104 = .ok (.iastore, 1) := by decide +kernel
theorem dX12_tried_105 : decode cX12_tried 105 = .ok (.iinc 6 1, 3) := by decide +kernel
theorem dX12_tried_108 : decode cX12_tried 108 = .ok (.goto (-32), 3) := by decide +kernel
theorem dX12_tried_111 : decode cX12_tried 111 = .ok (.aload_n 0, 1) := by decide +kernel
theorem dX12_tried_112 : decode cX12_tried 112 = .ok (.aload_n 0, 1) := by decide +kernel
theorem dX12_tried_113 : decode cX12_tried 113 = .ok (.getfield 369, 3) := by decide +kernel
theorem dX12_tried_116 : decode cX12_tried 116 = .ok (.invokevirtual 512, 3) := by decide +kernel
theorem dX12_tried_119 : decode cX12_tried 119 = .ok (.aload_n 0, 1) := by decide +kernel
theorem dX12_tried_120 : decode cX12_tried 120 = .ok (.iconst (-1), 1) := by decide +kernel
theorem dX12_tried_121 : decode cX12_tried 121 = .ok (.putfield 115, 3) := by decide +kernel
theorem dX12_tried_124 : decode cX12_tried 124 = .ok (.aload_n 0, 1) := by decide +kernel
theorem dX12_tried_125 : decode cX12_tried 125 = .ok (.lload 4, 2) := by decide +kernel
theorem dX12_tried_127 : decode cX12_tried 127 = .ok (.putfield 372, 3) := by decide +kernel
theorem dX12_tried_130 : decode cX12_tried 130 = .ok (.aload_n 0, 1) := by decide +kernel
theorem dX12_tried_131 : decode cX12_tried 131 = .ok (.iconst 1, 1) := by decide +kernel
theorem dX12_tried_132 : decode cX12_tried 132 = .ok (.invokevirtual 521, 3) := by decide +kernel
theorem dX12_tried_135 : decode cX12_tried 135 = .ok (.ireturn, 1) := by decide +kernel
theorem dX12_remember_0 : decode cX12_remember 0 = .ok (.aload_n 0, 1) := by decide +kernel
theorem dX12_remember_1 : decode cX12_remember 1 = .ok (.getfield 379, 3) := by decide +kernel
theorem dX12_remember_4 : decode cX12_remember 4 = .ok (.bipush 20, 2) := by decide +kernel
theorem dX12_remember_6 : decode cX12_remember 6 = .ok (.if_icmp .ne 43, 3) := by decide +kernel
theorem dX12_remember_9 : decode cX12_remember 9 = .ok (.iconst 0, 1) := by decide +kernel
theorem dX12_remember_10 : decode cX12_remember 10 = .ok (.istore_n 1, 1) := by decide +kernel
theorem dX12_remember_11 : decode cX12_remember 11 = .ok (.iload_n 1, 1) := by decide +kernel
theorem dX12_remember_12 : decode cX12_remember 12 = .ok (.sipush 209, 3) := by decide +kernel
theorem dX12_remember_15 : decode cX12_remember 15 = .ok (.if_icmp .ge 24, 3) := by decide +kernel
theorem dX12_remember_18 : decode cX12_remember 18 = .ok (.aload_n 0, 1) := by decide +kernel
theorem dX12_remember_19 : decode cX12_remember 19 = .ok (.getfield 142, 3) := by decide +kernel
theorem dX12_remember_22 : decode cX12_remember 22 = .ok (.iload_n 1, 1) := by decide +kernel
theorem dX12_remember_23 : decode cX12_remember 23 = .ok (.aload_n 0, 1) := by decide +kernel
theorem dX12_remember_24 : decode cX12_remember 24 = .ok (.getfield 142, 3) := by decide +kernel
theorem dX12_remember_27 : decode cX12_remember 27 = .ok (.iload_n 1, 1) := by decide +kernel
theorem dX12_remember_28 : decode cX12_remember 28 = .ok (.bipush 11, 2) := by decide +kernel
theorem dX12_remember_30 : decode cX12_remember 30 = .ok (.iadd, 1) := by decide +kernel
theorem dX12_remember_31 : decode cX12_remember 31 = .ok (.iaload, 1) := by decide +kernel
theorem dX12_remember_32 : decode cX12_remember 32 = .ok (.iastore, 1) := by decide +kernel
theorem dX12_remember_33 : decode cX12_remember 33 = .ok (.iinc 1 1, 3) := by decide +kernel
theorem dX12_remember_36 : decode cX12_remember 36 = .ok (.goto (-25), 3) := by decide +kernel
theorem dX12_remember_39 : decode cX12_remember 39 = .ok (.aload_n 0, 1) := by decide +kernel
theorem dX12_remember_40 : decode cX12_remember 40 = .ok (.dup, 1) := by decide +kernel
theorem dX12_remember_41 : decode cX12_remember 41 = .ok (.getfield 379, 3) := by decide +kernel
theorem dX12_remember_44 : decode cX12_remember 44 = .ok (.iconst 1, 1) := by decide +kernel
theorem dX12_remember_45 : decode cX12_remember 45 = .ok (.isub, 1) := by decide +kernel
theorem dX12_remember_46 : decode cX12_remember 46 = .ok (.putfield 379, 3) := by decide +kernel
theorem dX12_remember_49 : decode cX12_remember 49 = .ok (.iconst 0, 1) := by decide +kernel
theorem dX12_remember_50 : decode cX12_remember 50 = .ok (.istore_n 1, 1) := by decide +kernel
theorem dX12_remember_51 : decode cX12_remember 51 = .ok (.iload_n 1, 1) := by decide +kernel
theorem dX12_remember_52 : decode cX12_remember 52 = .ok (.iconst 5, 1) := by decide +kernel
theorem dX12_remember_53 : decode cX12_remember 53 = .ok (.if_icmp .ge 51, 3) := by decide +kernel
theorem dX12_remember_56 : decode cX12_remember 56 = .ok (.aload_n 0, 1) := by decide +kernel
theorem dX12_remember_57 : decode cX12_remember 57 = .ok (.getfield 142, 3) := by decide +kernel
theorem dX12_remember_60 : decode cX12_remember 60 = .ok (.bipush 11, 2) := by decide +kernel
theorem dX12_remember_62 : decode cX12_remember 62 = .ok (.aload_n 0, 1) := by decide +kernel
theorem dX12_remember_63 : decode cX12_remember 63 = .ok (.getfield 379, 3) := by decide +kernel
theorem dX12_remember_66 : decode cX12_remember 66 = .ok (.imul, 1) := by decide +kernel
theorem dX12_remember_67 : decode cX12_remember 67 = .ok (.iload_n 1, 1) := by decide +kernel
theorem dX12_remember_68 : decode cX12_remember 68 = .ok (.iadd, 1) := by decide +kernel
theorem dX12_remember_69 : decode cX12_remember 69 = .ok (.aload_n 0, 1) := by decide +kernel
theorem dX12_remember_70 : decode cX12_remember 70 = .ok (.getfield 88, 3) := by decide +kernel
theorem dX12_remember_73 : decode cX12_remember 73 = .ok (.iload_n 1, 1) := by decide +kernel
theorem dX12_remember_74 : decode cX12_remember 74 = .ok (.iaload, 1) := by decide +kernel
theorem dX12_remember_75 : decode cX12_remember 75 = .ok (.iastore, 1) := by decide +kernel
theorem dX12_remember_76 : decode cX12_remember 76 = .ok (.aload_n 0, 1) := by decide +kernel
theorem dX12_remember_77 : decode cX12_remember 77 = .ok (.getfield 142, 3) := by decide +kernel
theorem dX12_remember_80 : decode cX12_remember 80 = .ok (.bipush 11, 2) := by decide +kernel
theorem dX12_remember_82 : decode cX12_remember 82 = .ok (.aload_n 0, 1) := by decide +kernel
theorem dX12_remember_83 : decode cX12_remember 83 = .ok (.getfield 379, 3) := by decide +kernel
theorem dX12_remember_86 : decode cX12_remember 86 = .ok (.imul, 1) := by decide +kernel
theorem dX12_remember_87 : decode cX12_remember 87 = .ok (.iconst 5, 1) := by decide +kernel
theorem dX12_remember_88 : decode cX12_remember 88 = .ok (.iadd, 1) := by decide +kernel
theorem dX12_remember_89 : decode cX12_remember 89 = .ok (.iload_n 1, 1) := by decide +kernel
theorem dX12_remember_90 : decode cX12_remember 90 = .ok (.iadd, 1) := by decide +kernel
theorem dX12_remember_91 : decode cX12_remember 91 = .ok (.aload_n 0, 1) := by decide +kernel
theorem dX12_remember_92 : decode cX12_remember 92 = .ok (.getfield 100, 3) := by decide +kernel
theorem dX12_remember_95 : decode cX12_remember 95 = .ok (.iload_n 1, 1) := by decide +kernel
theorem dX12_remember_96 : decode cX12_remember 96 = .ok (.iaload, 1) := by decide +kernel
theorem dX12_remember_97 : decode cX12_remember 97 = .ok (.iastore, 1) := by decide +kernel
theorem dX12_remember_98 : decode cX12_remember 98 = .ok (.iinc 1 1, 3) := by decide +kernel
theorem dX12_remember_101 : decode cX12_remember 101 = .ok (.goto (-50), 3) := by decide +kernel
theorem dX12_remember_104 : decode cX12_remember 104 = .ok (.aload_n 0, 1) := by decide +kernel
theorem dX12_remember_105 : decode cX12_remember 105 = .ok (.getfield 142, 3) := by decide +kernel
theorem dX12_remember_108 : decode cX12_remember 108 = .ok (.bipush 11, 2) := by decide +kernel
theorem dX12_remember_110 : decode cX12_remember 110 = .ok (.aload_n 0, 1) := by decide +kernel
theorem dX12_remember_111 : decode cX12_remember 111 = .ok (.getfield 379, 3) := by decide +kernel
theorem dX12_remember_114 : decode cX12_remember 114 = .ok (.imul, 1) := by decide +kernel
theorem dX12_remember_115 : decode cX12_remember 115 = .ok (.bipush 10, 2) := by decide +kernel
theorem dX12_remember_117 : decode cX12_remember 117 = .ok (.iadd, 1) := by decide +kernel
theorem dX12_remember_118 : decode cX12_remember 118 = .ok (.aload_n 0, 1) := by decide +kernel
theorem dX12_remember_119 : decode cX12_remember 119 = .ok (.getfield 369, 3) := by decide +kernel
theorem dX12_remember_122 : decode cX12_remember 122 = .ok (.iastore, 1) := by decide +kernel
theorem dX12_remember_123 : decode cX12_remember 123 = .ok (.aload_n 0, 1) := by decide +kernel
theorem dX12_remember_124 : decode cX12_remember 124 = .ok (.dup, 1) := by decide +kernel
theorem dX12_remember_125 : decode cX12_remember 125 = .ok (.getfield 379, 3) := by decide +kernel
theorem dX12_remember_128 : decode cX12_remember 128 = .ok (.iconst 1, 1) := by decide +kernel
theorem dX12_remember_129 : decode cX12_remember 129 = .ok (.iadd, 1) := by decide +kernel
theorem dX12_remember_130 : decode cX12_remember 130 = .ok (.putfield 379, 3) := by decide +kernel
theorem dX12_remember_133 : decode cX12_remember 133 = .ok (.return_, 1) := by decide +kernel
theorem dX12_undo_0 : decode cX12_undo 0 = .ok (.aload_n 0, 1) := by decide +kernel
theorem dX12_undo_1 : decode cX12_undo 1 = .ok (.iconst 0, 1) := by decide +kernel
theorem dX12_undo_2 : decode cX12_undo 2 = .ok (.putfield 154, 3) := by decide +kernel
theorem dX12_undo_5 : decode cX12_undo 5 = .ok (.aload_n 0, 1) := by decide +kernel
theorem dX12_undo_6 : decode cX12_undo 6 = .ok (.getfield 379, 3) := by decide +kernel
theorem dX12_undo_9 : decode cX12_undo 9 = .ok (.ifCond .ne 5, 3) := by decide +kernel
theorem dX12_undo_12 : decode cX12_undo 12 = .ok (.iconst (-1), 1) := by decide +kernel
theorem dX12_undo_13 : decode cX12_undo 13 = .ok (.ireturn, 1) := by decide +kernel
theorem dX12_undo_14 : decode cX12_undo 14 = .ok (.aload_n 0, 1) := by decide +kernel
theorem dX12_undo_15 : decode cX12_undo 15 = .ok (.dup, 1) := by decide +kernel
theorem dX12_undo_16 : decode cX12_undo 16 = .ok (.getfield 379, 3) := by decide +kernel
theorem dX12_undo_19 : decode cX12_undo 19 = .ok (.iconst 1, 1) := by decide +kernel
theorem dX12_undo_20 : decode cX12_undo 20 = .ok (.isub, 1) := by decide +kernel
theorem dX12_undo_21 : decode cX12_undo 21 = .ok (.putfield 379, 3) := by decide +kernel
theorem dX12_undo_24 : decode cX12_undo 24 = .ok (.iconst 0, 1) := by decide +kernel
theorem dX12_undo_25 : decode cX12_undo 25 = .ok (.istore_n 1, 1) := by decide +kernel
theorem dX12_undo_26 : decode cX12_undo 26 = .ok (.iload_n 1, 1) := by decide +kernel
theorem dX12_undo_27 : decode cX12_undo 27 = .ok (.iconst 5, 1) := by decide +kernel
theorem dX12_undo_28 : decode cX12_undo 28 = .ok (.if_icmp .ge 51, 3) := by decide +kernel
theorem dX12_undo_31 : decode cX12_undo 31 = .ok (.aload_n 0, 1) := by decide +kernel
theorem dX12_undo_32 : decode cX12_undo 32 = .ok (.getfield 88, 3) := by decide +kernel
theorem dX12_undo_35 : decode cX12_undo 35 = .ok (.iload_n 1, 1) := by decide +kernel
theorem dX12_undo_36 : decode cX12_undo 36 = .ok (.aload_n 0, 1) := by decide +kernel
theorem dX12_undo_37 : decode cX12_undo 37 = .ok (.getfield 142, 3) := by decide +kernel
theorem dX12_undo_40 : decode cX12_undo 40 = .ok (.bipush 11, 2) := by decide +kernel
theorem dX12_undo_42 : decode cX12_undo 42 = .ok (.aload_n 0, 1) := by decide +kernel
theorem dX12_undo_43 : decode cX12_undo 43 = .ok (.getfield 379, 3) := by decide +kernel
theorem dX12_undo_46 : decode cX12_undo 46 = .ok (.imul, 1) := by decide +kernel
theorem dX12_undo_47 : decode cX12_undo 47 = .ok (.iload_n 1, 1) := by decide +kernel
theorem dX12_undo_48 : decode cX12_undo 48 = .ok (.iadd, 1) := by decide +kernel
theorem dX12_undo_49 : decode cX12_undo 49 = .ok (.iaload, 1) := by decide +kernel
theorem dX12_undo_50 : decode cX12_undo 50 = .ok (.iastore, 1) := by decide +kernel
theorem dX12_undo_51 : decode cX12_undo 51 = .ok (.aload_n 0, 1) := by decide +kernel
theorem dX12_undo_52 : decode cX12_undo 52 = .ok (.getfield 100, 3) := by decide +kernel
theorem dX12_undo_55 : decode cX12_undo 55 = .ok (.iload_n 1, 1) := by decide +kernel
theorem dX12_undo_56 : decode cX12_undo 56 = .ok (.aload_n 0, 1) := by decide +kernel
theorem dX12_undo_57 : decode cX12_undo 57 = .ok (.getfield 142, 3) := by decide +kernel
theorem dX12_undo_60 : decode cX12_undo 60 = .ok (.bipush 11, 2) := by decide +kernel
theorem dX12_undo_62 : decode cX12_undo 62 = .ok (.aload_n 0, 1) := by decide +kernel
theorem dX12_undo_63 : decode cX12_undo 63 = .ok (.getfield 379, 3) := by decide +kernel
theorem dX12_undo_66 : decode cX12_undo 66 = .ok (.imul, 1) := by decide +kernel
theorem dX12_undo_67 : decode cX12_undo 67 = .ok (.iconst 5, 1) := by decide +kernel
theorem dX12_undo_68 : decode cX12_undo 68 = .ok (.iadd, 1) := by decide +kernel
theorem dX12_undo_69 : decode cX12_undo 69 = .ok (.iload_n 1, 1) := by decide +kernel
theorem dX12_undo_70 : decode cX12_undo 70 = .ok (.iadd, 1) := by decide +kernel
theorem dX12_undo_71 : decode cX12_undo 71 = .ok (.iaload, 1) := by decide +kernel
theorem dX12_undo_72 : decode cX12_undo 72 = .ok (.iastore, 1) := by decide +kernel
theorem dX12_undo_73 : decode cX12_undo 73 = .ok (.iinc 1 1, 3) := by decide +kernel
theorem dX12_undo_76 : decode cX12_undo 76 = .ok (.goto (-50), 3) := by decide +kernel
theorem dX12_undo_79 : decode cX12_undo 79 = .ok (.aload_n 0, 1) := by decide +kernel
theorem dX12_undo_80 : decode cX12_undo 80 = .ok (.aload_n 0, 1) := by decide +kernel
theorem dX12_undo_81 : decode cX12_undo 81 = .ok (.getfield 142, 3) := by decide +kernel
theorem dX12_undo_84 : decode cX12_undo 84 = .ok (.bipush 11, 2) := by decide +kernel
theorem dX12_undo_86 : decode cX12_undo 86 = .ok (.aload_n 0, 1) := by decide +kernel
theorem dX12_undo_87 : decode cX12_undo 87 = .ok (.getfield 379, 3) := by decide +kernel
theorem dX12_undo_90 : decode cX12_undo 90 = .ok (.imul, 1) := by decide +kernel
theorem dX12_undo_91 : decode cX12_undo 91 = .ok (.bipush 10, 2) := by decide +kernel
theorem dX12_undo_93 : decode cX12_undo 93 = .ok (.iadd, 1) := by decide +kernel
theorem dX12_undo_94 : decode cX12_undo 94 = .ok (.iaload, 1) := by decide +kernel
theorem dX12_undo_95 : decode cX12_undo 95 = .ok (.putfield 369, 3) := by decide +kernel
theorem dX12_undo_98 : decode cX12_undo 98 = .ok (.aload_n 0, 1) := by decide +kernel
theorem dX12_undo_99 : decode cX12_undo 99 = .ok (.getfield 379, 3) := by decide +kernel
theorem dX12_undo_102 : decode cX12_undo 102 = .ok (.ireturn, 1) := by decide +kernel
theorem dX12_keep_0 : decode cX12_keep 0 = .ok (.aload_n 0, 1) := by decide +kernel
theorem dX12_keep_1 : decode cX12_keep 1 = .ok (.iconst 0, 1) := by decide +kernel
theorem dX12_keep_2 : decode cX12_keep 2 = .ok (.putfield 154, 3) := by decide +kernel
theorem dX12_keep_5 : decode cX12_keep 5 = .ok (.aload_n 0, 1) := by decide +kernel
theorem dX12_keep_6 : decode cX12_keep 6 = .ok (.iconst 1, 1) := by decide +kernel
theorem dX12_keep_7 : decode cX12_keep 7 = .ok (.putfield 382, 3) := by decide +kernel
theorem dX12_keep_10 : decode cX12_keep 10 = .ok (.iconst 0, 1) := by decide +kernel
theorem dX12_keep_11 : decode cX12_keep 11 = .ok (.istore_n 1, 1) := by decide +kernel
theorem dX12_keep_12 : decode cX12_keep 12 = .ok (.iload_n 1, 1) := by decide +kernel
theorem dX12_keep_13 : decode cX12_keep 13 = .ok (.iconst 5, 1) := by decide +kernel
theorem dX12_keep_14 : decode cX12_keep 14 = .ok (.if_icmp .ge 80, 3) := by decide +kernel
theorem dX12_keep_17 : decode cX12_keep 17 = .ok (.aload_n 0, 1) := by decide +kernel
theorem dX12_keep_18 : decode cX12_keep 18 = .ok (.getfield 145, 3) := by decide +kernel
theorem dX12_keep_21 : decode cX12_keep 21 = .ok (.iload_n 1, 1) := by decide +kernel
theorem dX12_keep_22 : decode cX12_keep 22 = .ok (.aload_n 0, 1) := by decide +kernel
theorem dX12_keep_23 : decode cX12_keep 23 = .ok (.getfield 88, 3) := by decide +kernel
theorem dX12_keep_26 : decode cX12_keep 26 = .ok (.iload_n 1, 1) := by decide +kernel
theorem dX12_keep_27 : decode cX12_keep 27 = .ok (.iaload, 1) := by decide +kernel
theorem dX12_keep_28 : decode cX12_keep 28 = .ok (.iastore, 1) := by decide +kernel
theorem dX12_keep_29 : decode cX12_keep 29 = .ok (.aload_n 0, 1) := by decide +kernel
theorem dX12_keep_30 : decode cX12_keep 30 = .ok (.getfield 145, 3) := by decide +kernel
theorem dX12_keep_33 : decode cX12_keep 33 = .ok (.iconst 5, 1) := by decide +kernel
theorem dX12_keep_34 : decode cX12_keep 34 = .ok (.iload_n 1, 1) := by decide +kernel
theorem dX12_keep_35 : decode cX12_keep 35 = .ok (.iadd, 1) := by decide +kernel
theorem dX12_keep_36 : decode cX12_keep 36 = .ok (.aload_n 0, 1) := by decide +kernel
theorem dX12_keep_37 : decode cX12_keep 37 = .ok (.getfield 91, 3) := by decide +kernel
theorem dX12_keep_40 : decode cX12_keep 40 = .ok (.iload_n 1, 1) := by decide +kernel
theorem dX12_keep_41 : decode cX12_keep 41 = .ok (.iaload, 1) := by decide +kernel
theorem dX12_keep_42 : decode cX12_keep 42 = .ok (.iastore, 1) := by decide +kernel
theorem dX12_keep_43 : decode cX12_keep 43 = .ok (.aload_n 0, 1) := by decide +kernel
theorem dX12_keep_44 : decode cX12_keep 44 = .ok (.getfield 145, 3) := by decide +kernel
theorem dX12_keep_47 : decode cX12_keep 47 = .ok (.bipush 10, 2) := by decide +kernel
theorem dX12_keep_49 : decode cX12_keep 49 = .ok (.iload_n 1, 1) := by decide +kernel
theorem dX12_keep_50 : decode cX12_keep 50 = .ok (.iadd, 1) := by decide +kernel
theorem dX12_keep_51 : decode cX12_keep 51 = .ok (.aload_n 0, 1) := by decide +kernel
theorem dX12_keep_52 : decode cX12_keep 52 = .ok (.getfield 94, 3) := by decide +kernel
theorem dX12_keep_55 : decode cX12_keep 55 = .ok (.iload_n 1, 1) := by decide +kernel
theorem dX12_keep_56 : decode cX12_keep 56 = .ok (.iaload, 1) := by decide +kernel
theorem dX12_keep_57 : decode cX12_keep 57 = .ok (.iastore, 1) := by decide +kernel
theorem dX12_keep_58 : decode cX12_keep 58 = .ok (.aload_n 0, 1) := by decide +kernel
theorem dX12_keep_59 : decode cX12_keep 59 = .ok (.getfield 145, 3) := by decide +kernel
theorem dX12_keep_62 : decode cX12_keep 62 = .ok (.bipush 15, 2) := by decide +kernel
theorem dX12_keep_64 : decode cX12_keep 64 = .ok (.iload_n 1, 1) := by decide +kernel
theorem dX12_keep_65 : decode cX12_keep 65 = .ok (.iadd, 1) := by decide +kernel
theorem dX12_keep_66 : decode cX12_keep 66 = .ok (.aload_n 0, 1) := by decide +kernel
theorem dX12_keep_67 : decode cX12_keep 67 = .ok (.getfield 97, 3) := by decide +kernel
theorem dX12_keep_70 : decode cX12_keep 70 = .ok (.iload_n 1, 1) := by decide +kernel
theorem dX12_keep_71 : decode cX12_keep 71 = .ok (.iaload, 1) := by decide +kernel
theorem dX12_keep_72 : decode cX12_keep 72 = .ok (.iastore, 1) := by decide +kernel
theorem dX12_keep_73 : decode cX12_keep 73 = .ok (.aload_n 0, 1) := by decide +kernel
theorem dX12_keep_74 : decode cX12_keep 74 = .ok (.getfield 145, 3) := by decide +kernel
theorem dX12_keep_77 : decode cX12_keep 77 = .ok (.bipush 20, 2) := by decide +kernel
theorem dX12_keep_79 : decode cX12_keep 79 = .ok (.iload_n 1, 1) := by decide +kernel
theorem dX12_keep_80 : decode cX12_keep 80 = .ok (.iadd, 1) := by decide +kernel
theorem dX12_keep_81 : decode cX12_keep 81 = .ok (.aload_n 0, 1) := by decide +kernel
theorem dX12_keep_82 : decode cX12_keep 82 = .ok (.getfield 100, 3) := by decide +kernel
theorem dX12_keep_85 : decode cX12_keep 85 = .ok (.iload_n 1, 1) := by decide +kernel
theorem dX12_keep_86 : decode cX12_keep 86 = .ok (.iaload, 1) := by decide +kernel
theorem dX12_keep_87 : decode cX12_keep 87 = .ok (.iastore, 1) := by decide +kernel
theorem dX12_keep_88 : decode cX12_keep 88 = .ok (.iinc 1 1, 3) := by decide +kernel
theorem dX12_keep_91 : decode cX12_keep 91 = .ok (.goto (-79), 3) := by decide +kernel
theorem dX12_keep_94 : decode cX12_keep 94 = .ok (.iconst 0, 1) := by decide +kernel
theorem dX12_keep_95 : decode cX12_keep 95 = .ok (.istore_n 1, 1) := by decide +kernel
theorem dX12_keep_96 : decode cX12_keep 96 = .ok (.iload_n 1, 1) := by decide +kernel
theorem dX12_keep_97 : decode cX12_keep 97 = .ok (.bipush 28, 2) := by decide +kernel
theorem dX12_keep_99 : decode cX12_keep 99 = .ok (.if_icmp .ge 24, 3) := by decide +kernel
theorem dX12_keep_102 : decode cX12_keep 102 = .ok (.aload_n 0, 1) := by decide +kernel
theorem dX12_keep_103 : decode cX12_keep 103 = .ok (.getfield 145, 3) := by decide +kernel
theorem dX12_keep_106 : decode cX12_keep 106 = .ok (.bipush 25, 2) := by decide +kernel
theorem dX12_keep_108 : decode cX12_keep 108 = .ok (.iload_n 1, 1) := by decide +kernel
theorem dX12_keep_109 : decode cX12_keep 109 = .ok (.iadd, 1) := by decide +kernel
theorem dX12_keep_110 : decode cX12_keep 110 = .ok (.aload_n 0, 1) := by decide +kernel
theorem dX12_keep_111 : decode cX12_keep 111 = .ok (.getfield 103, 3) := by decide +kernel
theorem dX12_keep_114 : decode cX12_keep 114 = .ok (.iload_n 1, 1) := by decide +kernel
theorem dX12_keep_115 : decode cX12_keep 115 = .ok (.iaload, 1) := by decide +kernel
theorem dX12_keep_116 : decode cX12_keep 116 = .ok (.iastore, 1) := by decide +kernel
theorem dX12_keep_117 : decode cX12_keep 117 = .ok (.iinc 1 1, 3) := by decide +kernel
theorem dX12_keep_120 : decode cX12_keep 120 = .ok (.goto (-24), 3) := by decide +kernel
theorem dX12_keep_123 : decode cX12_keep 123 = .ok (.aload_n 0, 1) := by decide +kernel
theorem dX12_keep_124 : decode cX12_keep 124 = .ok (.aload_n 0, 1) := by decide +kernel
theorem dX12_keep_125 : decode cX12_keep 125 = .ok (.getfield 106, 3) := by decide +kernel
theorem dX12_keep_128 : decode cX12_keep 128 = .ok (.iconst 0, 1) := by decide +kernel
theorem dX12_keep_129 : decode cX12_keep 129 = .ok (.iaload, 1) := by decide +kernel
theorem dX12_keep_130 : decode cX12_keep 130 = .ok (.putfield 533, 3) := by decide +kernel
theorem dX12_keep_133 : decode cX12_keep 133 = .ok (.aload_n 0, 1) := by decide +kernel
theorem dX12_keep_134 : decode cX12_keep 134 = .ok (.aload_n 0, 1) := by decide +kernel
theorem dX12_keep_135 : decode cX12_keep 135 = .ok (.getfield 369, 3) := by decide +kernel
theorem dX12_keep_138 : decode cX12_keep 138 = .ok (.putfield 536, 3) := by decide +kernel
theorem dX12_keep_141 : decode cX12_keep 141 = .ok (.aload_n 0, 1) := by decide +kernel
theorem dX12_keep_142 : decode cX12_keep 142 = .ok (.aload_n 0, 1) := by decide +kernel
theorem dX12_keep_143 : decode cX12_keep 143 = .ok (.getfield 109, 3) := by decide +kernel
theorem dX12_keep_146 : decode cX12_keep 146 = .ok (.iconst 0, 1) := by decide +kernel
theorem dX12_keep_147 : decode cX12_keep 147 = .ok (.iaload, 1) := by decide +kernel
theorem dX12_keep_148 : decode cX12_keep 148 = .ok (.putfield 539, 3) := by decide +kernel
theorem dX12_keep_151 : decode cX12_keep 151 = .ok (.aload_n 0, 1) := by decide +kernel
theorem dX12_keep_152 : decode cX12_keep 152 = .ok (.aload_n 0, 1) := by decide +kernel
theorem dX12_keep_153 : decode cX12_keep 153 = .ok (.getfield 112, 3) := by decide +kernel
theorem dX12_keep_156 : decode cX12_keep 156 = .ok (.iconst 0, 1) := by decide +kernel
theorem dX12_keep_157 : decode cX12_keep 157 = .ok (.iaload, 1) := by decide +kernel
theorem dX12_keep_158 : decode cX12_keep 158 = .ok (.putfield 542, 3) := by decide +kernel
theorem dX12_keep_161 : decode cX12_keep 161 = .ok (.aload_n 0, 1) := by decide +kernel
theorem dX12_keep_162 : decode cX12_keep 162 = .ok (.aload_n 0, 1) := by decide +kernel
theorem dX12_keep_163 : decode cX12_keep 163 = .ok (.getfield 372, 3) := by decide +kernel
theorem dX12_keep_166 : decode cX12_keep 166 = .ok (.putfield 545, 3) := by decide +kernel
theorem dX12_keep_169 : decode cX12_keep 169 = .ok (.aload_n 0, 1) := by decide +kernel
theorem dX12_keep_170 : decode cX12_keep 170 = .ok (.getfield 106, 3) := by decide +kernel
theorem dX12_keep_173 : decode cX12_keep 173 = .ok (.iconst 0, 1) := by decide +kernel
theorem dX12_keep_174 : decode cX12_keep 174 = .ok (.iaload, 1) := by decide +kernel
theorem dX12_keep_175 : decode cX12_keep 175 = .ok (.ireturn, 1) := by decide +kernel
theorem dX12_back_0 : decode cX12_back 0 = .ok (.aload_n 0, 1) := by decide +kernel
theorem dX12_back_1 : decode cX12_back 1 = .ok (.iconst 0, 1) := by decide +kernel
theorem dX12_back_2 : decode cX12_back 2 = .ok (.putfield 154, 3) := by decide +kernel
theorem dX12_back_5 : decode cX12_back 5 = .ok (.aload_n 0, 1) := by decide +kernel
theorem dX12_back_6 : decode cX12_back 6 = .ok (.getfield 382, 3) := by decide +kernel
theorem dX12_back_9 : decode cX12_back 9 = .ok (.ifCond .ne 5, 3) := by decide +kernel
theorem dX12_back_12 : decode cX12_back 12 = .ok (.iconst (-1), 1) := by decide +kernel
theorem dX12_back_13 : decode cX12_back 13 = .ok (.ireturn, 1) := by decide +kernel
theorem dX12_back_14 : decode cX12_back 14 = .ok (.iconst 0, 1) := by decide +kernel
theorem dX12_back_15 : decode cX12_back 15 = .ok (.istore_n 1, 1) := by decide +kernel
theorem dX12_back_16 : decode cX12_back 16 = .ok (.iload_n 1, 1) := by decide +kernel
theorem dX12_back_17 : decode cX12_back 17 = .ok (.iconst 5, 1) := by decide +kernel
theorem dX12_back_18 : decode cX12_back 18 = .ok (.if_icmp .ge 80, 3) := by decide +kernel
theorem dX12_back_21 : decode cX12_back 21 = .ok (.aload_n 0, 1) := by decide +kernel
theorem dX12_back_22 : decode cX12_back 22 = .ok (.getfield 88, 3) := by decide +kernel
theorem dX12_back_25 : decode cX12_back 25 = .ok (.iload_n 1, 1) := by decide +kernel
theorem dX12_back_26 : decode cX12_back 26 = .ok (.aload_n 0, 1) := by decide +kernel
theorem dX12_back_27 : decode cX12_back 27 = .ok (.getfield 145, 3) := by decide +kernel
theorem dX12_back_30 : decode cX12_back 30 = .ok (.iload_n 1, 1) := by decide +kernel
theorem dX12_back_31 : decode cX12_back 31 = .ok (.iaload, 1) := by decide +kernel
theorem dX12_back_32 : decode cX12_back 32 = .ok (.iastore, 1) := by decide +kernel
theorem dX12_back_33 : decode cX12_back 33 = .ok (.aload_n 0, 1) := by decide +kernel
theorem dX12_back_34 : decode cX12_back 34 = .ok (.getfield 91, 3) := by decide +kernel
theorem dX12_back_37 : decode cX12_back 37 = .ok (.iload_n 1, 1) := by decide +kernel
theorem dX12_back_38 : decode cX12_back 38 = .ok (.aload_n 0, 1) := by decide +kernel
theorem dX12_back_39 : decode cX12_back 39 = .ok (.getfield 145, 3) := by decide +kernel
theorem dX12_back_42 : decode cX12_back 42 = .ok (.iconst 5, 1) := by decide +kernel
theorem dX12_back_43 : decode cX12_back 43 = .ok (.iload_n 1, 1) := by decide +kernel
theorem dX12_back_44 : decode cX12_back 44 = .ok (.iadd, 1) := by decide +kernel
theorem dX12_back_45 : decode cX12_back 45 = .ok (.iaload, 1) := by decide +kernel
theorem dX12_back_46 : decode cX12_back 46 = .ok (.iastore, 1) := by decide +kernel
theorem dX12_back_47 : decode cX12_back 47 = .ok (.aload_n 0, 1) := by decide +kernel
theorem dX12_back_48 : decode cX12_back 48 = .ok (.getfield 94, 3) := by decide +kernel
theorem dX12_back_51 : decode cX12_back 51 = .ok (.iload_n 1, 1) := by decide +kernel
theorem dX12_back_52 : decode cX12_back 52 = .ok (.aload_n 0, 1) := by decide +kernel
theorem dX12_back_53 : decode cX12_back 53 = .ok (.getfield 145, 3) := by decide +kernel
theorem dX12_back_56 : decode cX12_back 56 = .ok (.bipush 10, 2) := by decide +kernel
theorem dX12_back_58 : decode cX12_back 58 = .ok (.iload_n 1, 1) := by decide +kernel
theorem dX12_back_59 : decode cX12_back 59 = .ok (.iadd, 1) := by decide +kernel
theorem dX12_back_60 : decode cX12_back 60 = .ok (.iaload, 1) := by decide +kernel
theorem dX12_back_61 : decode cX12_back 61 = .ok (.iastore, 1) := by decide +kernel
theorem dX12_back_62 : decode cX12_back 62 = .ok (.aload_n 0, 1) := by decide +kernel
theorem dX12_back_63 : decode cX12_back 63 = .ok (.getfield 97, 3) := by decide +kernel
theorem dX12_back_66 : decode cX12_back 66 = .ok (.iload_n 1, 1) := by decide +kernel
theorem dX12_back_67 : decode cX12_back 67 = .ok (.aload_n 0, 1) := by decide +kernel
theorem dX12_back_68 : decode cX12_back 68 = .ok (.getfield 145, 3) := by decide +kernel
theorem dX12_back_71 : decode cX12_back 71 = .ok (.bipush 15, 2) := by decide +kernel
theorem dX12_back_73 : decode cX12_back 73 = .ok (.iload_n 1, 1) := by decide +kernel
theorem dX12_back_74 : decode cX12_back 74 = .ok (.iadd, 1) := by decide +kernel
theorem dX12_back_75 : decode cX12_back 75 = .ok (.iaload, 1) := by decide +kernel
theorem dX12_back_76 : decode cX12_back 76 = .ok (.iastore, 1) := by decide +kernel
theorem dX12_back_77 : decode cX12_back 77 = .ok (.aload_n 0, 1) := by decide +kernel
theorem dX12_back_78 : decode cX12_back 78 = .ok (.getfield 100, 3) := by decide +kernel
theorem dX12_back_81 : decode cX12_back 81 = .ok (.iload_n 1, 1) := by decide +kernel
theorem dX12_back_82 : decode cX12_back 82 = .ok (.aload_n 0, 1) := by decide +kernel
theorem dX12_back_83 : decode cX12_back 83 = .ok (.getfield 145, 3) := by decide +kernel
theorem dX12_back_86 : decode cX12_back 86 = .ok (.bipush 20, 2) := by decide +kernel
theorem dX12_back_88 : decode cX12_back 88 = .ok (.iload_n 1, 1) := by decide +kernel
theorem dX12_back_89 : decode cX12_back 89 = .ok (.iadd, 1) := by decide +kernel
theorem dX12_back_90 : decode cX12_back 90 = .ok (.iaload, 1) := by decide +kernel
theorem dX12_back_91 : decode cX12_back 91 = .ok (.iastore, 1) := by decide +kernel
theorem dX12_back_92 : decode cX12_back 92 = .ok (.iinc 1 1, 3) := by decide +kernel
theorem dX12_back_95 : decode cX12_back 95 = .ok (.goto (-79), 3) := by decide +kernel
theorem dX12_back_98 : decode cX12_back 98 = .ok (.iconst 0, 1) := by decide +kernel
theorem dX12_back_99 : decode cX12_back 99 = .ok (.istore_n 1, 1) := by decide +kernel
theorem dX12_back_100 : decode cX12_back 100 = .ok (.iload_n 1, 1) := by decide +kernel
theorem dX12_back_101 : decode cX12_back 101 = .ok (.bipush 28, 2) := by decide +kernel
theorem dX12_back_103 : decode cX12_back 103 = .ok (.if_icmp .ge 24, 3) := by decide +kernel
theorem dX12_back_106 : decode cX12_back 106 = .ok (.aload_n 0, 1) := by decide +kernel
theorem dX12_back_107 : decode cX12_back 107 = .ok (.getfield 103, 3) := by decide +kernel
theorem dX12_back_110 : decode cX12_back 110 = .ok (.iload_n 1, 1) := by decide +kernel
theorem dX12_back_111 : decode cX12_back 111 = .ok (.aload_n 0, 1) := by decide +kernel
theorem dX12_back_112 : decode cX12_back 112 = .ok (.getfield 145, 3) := by decide +kernel
theorem dX12_back_115 : decode cX12_back 115 = .ok (.bipush 25, 2) := by decide +kernel
theorem dX12_back_117 : decode cX12_back 117 = .ok (.iload_n 1, 1) := by decide +kernel
theorem dX12_back_118 : decode cX12_back 118 = .ok (.iadd, 1) := by decide +kernel
theorem dX12_back_119 : decode cX12_back 119 = .ok (.iaload, 1) := by decide +kernel
theorem dX12_back_120 : decode cX12_back 120 = .ok (.iastore, 1) := by decide +kernel
theorem dX12_back_121 : decode cX12_back 121 = .ok (.iinc 1 1, 3) := by decide +kernel
theorem dX12_back_124 : decode cX12_back 124 = .ok (.goto (-24), 3) := by decide +kernel
theorem dX12_back_127 : decode cX12_back 127 = .ok (.aload_n 0, 1) := by decide +kernel
theorem dX12_back_128 : decode cX12_back 128 = .ok (.getfield 106, 3) := by decide +kernel
theorem dX12_back_131 : decode cX12_back 131 = .ok (.iconst 0, 1) := by decide +kernel
theorem dX12_back_132 : decode cX12_back 132 = .ok (.aload_n 0, 1) := by decide +kernel
theorem dX12_back_133 : decode cX12_back 133 = .ok (.getfield 533, 3) := by decide +kernel
theorem dX12_back_136 : decode cX12_back 136 = .ok (.iastore, 1) := by decide +kernel
theorem dX12_back_137 : decode cX12_back 137 = .ok (.aload_n 0, 1) := by decide +kernel
theorem dX12_back_138 : decode cX12_back 138 = .ok (.aload_n 0, 1) := by decide +kernel
theorem dX12_back_139 : decode cX12_back 139 = .ok (.getfield 536, 3) := by decide +kernel
theorem dX12_back_142 : decode cX12_back 142 = .ok (.putfield 369, 3) := by decide +kernel
theorem dX12_back_145 : decode cX12_back 145 = .ok (.aload_n 0, 1) := by decide +kernel
theorem dX12_back_146 : decode cX12_back 146 = .ok (.getfield 109, 3) := by decide +kernel
theorem dX12_back_149 : decode cX12_back 149 = .ok (.iconst 0, 1) := by decide +kernel
theorem dX12_back_150 : decode cX12_back 150 = .ok (.aload_n 0, 1) := by decide +kernel
theorem dX12_back_151 : decode cX12_back 151 = .ok (.getfield 539, 3) := by decide +kernel
theorem dX12_back_154 : decode cX12_back 154 = .ok (.iastore, 1) := by decide +kernel
theorem dX12_back_155 : decode cX12_back 155 = .ok (.aload_n 0, 1) := by decide +kernel
theorem dX12_back_156 : decode cX12_back 156 = .ok (.getfield 112, 3) := by decide +kernel
theorem dX12_back_159 : decode cX12_back 159 = .ok (.iconst 0, 1) := by decide +kernel
theorem dX12_back_160 : decode cX12_back 160 = .ok (.aload_n 0, 1) := by decide +kernel
theorem dX12_back_161 : decode cX12_back 161 = .ok (.getfield 542, 3) := by decide +kernel
theorem dX12_back_164 : decode cX12_back 164 = .ok (.iastore, 1) := by decide +kernel
theorem dX12_back_165 : decode cX12_back 165 = .ok (.aload_n 0, 1) := by decide +kernel
theorem dX12_back_166 : decode cX12_back 166 = .ok (.aload_n 0, 1) := by decide +kernel
theorem dX12_back_167 : decode cX12_back 167 = .ok (.getfield 545, 3) := by decide +kernel
theorem dX12_back_170 : decode cX12_back 170 = .ok (.putfield 372, 3) := by decide +kernel
theorem dX12_back_173 : decode cX12_back 173 = .ok (.aload_n 0, 1) := by decide +kernel
theorem dX12_back_174 : decode cX12_back 174 = .ok (.iconst 0, 1) := by decide +kernel
theorem dX12_back_175 : decode cX12_back 175 = .ok (.putfield 379, 3) := by decide +kernel
theorem dX12_back_178 : decode cX12_back 178 = .ok (.aload_n 0, 1) := by decide +kernel
theorem dX12_back_179 : decode cX12_back 179 = .ok (.getfield 106, 3) := by decide +kernel
theorem dX12_back_182 : decode cX12_back 182 = .ok (.iconst 0, 1) := by decide +kernel
theorem dX12_back_183 : decode cX12_back 183 = .ok (.iaload, 1) := by decide +kernel
theorem dX12_back_184 : decode cX12_back 184 = .ok (.ireturn, 1) := by decide +kernel
set_option maxRecDepth 20000 in
theorem ggX12_count_X12_firstToCome : GoodIn wsX12_count wsX12_firstToCome := goodIn_r _ [18, 6, 19, 25, 26, 27, 28, 29, 30, 31, 32, 33, 34, 35, 36, 37, 38, 39, 40, 41, 42, 43, 44, 45, 46, 47, 48, 49, 50, 51, 52, 53, 54, 55, 56, 57, 58, 59, 60, 61, 62, 63, 64, 65, 66, 67, 68, 69, 70, 71, 72, 73, 74, 75, 76, 77, 78, 79, 80, 81, 82, 83, 84, 85, 86, 87, 88, 89, 90, 91, 92, 93, 94, 95, 96, 97, 98, 99, 100, 101, 102, 103, 104, 105, 106, 107, 108, 109, 110, 111] (by decide +kernel) (by decide +kernel)
set_option maxRecDepth 20000 in
theorem gX12_count_X12_firstToCome : GoodIn wsX12_count (wsV RX12 506 RX12 yX12_firstToCome wsX12_firstToCome) := goodIn_app (goodIn_of _ (by decide +kernel)) ggX12_count_X12_firstToCome
set_option maxRecDepth 20000 in
theorem ggX12_count_X12_knownBy : GoodIn wsX12_count wsX12_knownBy := goodIn_r _ [23, 24, 12, 25, 26, 27, 28, 29, 30, 31, 32, 33, 34, 35, 36, 37, 38, 39, 40, 41, 42, 43, 44, 45, 46, 47, 48, 49, 50, 51, 52, 53, 54, 55, 56, 57, 58, 59, 60, 61, 62, 63, 64, 65, 66, 67, 68, 69, 70, 71, 72, 73, 74, 75, 76, 77, 78, 79, 80, 81, 82, 83, 84, 85, 86, 87, 88, 89, 90, 91, 92, 93, 94, 95, 96, 97, 98, 99, 100, 101, 102, 103, 104, 105, 106, 107, 108, 109, 110, 111] (by decide +kernel) (by decide +kernel)
set_option maxRecDepth 20000 in
theorem gX12_count_X12_knownBy : GoodIn wsX12_count (wsV RX12 527 RX12 yX12_knownBy wsX12_knownBy) := goodIn_app (goodIn_of _ (by decide +kernel)) ggX12_count_X12_knownBy
theorem dX12_count_0 : decode cX12_count 0 = .ok (.aload_n 0, 1) := by decide +kernel
theorem dX12_count_1 : decode cX12_count 1 = .ok (.iconst 0, 1) := by decide +kernel
theorem dX12_count_2 : decode cX12_count 2 = .ok (.putfield 154, 3) := by decide +kernel
theorem dX12_count_5 : decode cX12_count 5 = .ok (.iload_n 1, 1) := by decide +kernel
theorem dX12_count_6 : decode cX12_count 6 = .ok (.tableswitch 151 0 13 #[70, 75, 80, 85, 90, 95, 100, 107, 112, 119, 126, 136, 141, 146], 70) := by decide +kernel
theorem dX12_count_76 : decode cX12_count 76 = .ok (.aload_n 0, 1) := by decide +kernel
theorem dX12_count_77 : decode cX12_count 77 = .ok (.getfield 241, 3) := by decide +kernel
theorem dX12_count_80 : decode cX12_count 80 = .ok (.ireturn, 1) := by decide +kernel
theorem dX12_count_81 : decode cX12_count 81 = .ok (.aload_n 0, 1) := by decide +kernel
theorem dX12_count_82 : decode cX12_count 82 = .ok (.getfield 244, 3) := by decide +kernel
theorem dX12_count_85 : decode cX12_count 85 = .ok (.ireturn, 1) := by decide +kernel
theorem dX12_count_86 : decode cX12_count 86 = .ok (.aload_n 0, 1) := by decide +kernel
theorem dX12_count_87 : decode cX12_count 87 = .ok (.getfield 247, 3) := by decide +kernel
theorem dX12_count_90 : decode cX12_count 90 = .ok (.ireturn, 1) := by decide +kernel
theorem dX12_count_91 : decode cX12_count 91 = .ok (.aload_n 0, 1) := by decide +kernel
theorem dX12_count_92 : decode cX12_count 92 = .ok (.getfield 250, 3) := by decide +kernel
theorem dX12_count_95 : decode cX12_count 95 = .ok (.ireturn, 1) := by decide +kernel
theorem dX12_count_96 : decode cX12_count 96 = .ok (.aload_n 0, 1) := by decide +kernel
theorem dX12_count_97 : decode cX12_count 97 = .ok (.getfield 253, 3) := by decide +kernel
theorem dX12_count_100 : decode cX12_count 100 = .ok (.ireturn, 1) := by decide +kernel
theorem dX12_count_101 : decode cX12_count 101 = .ok (.aload_n 0, 1) := by decide +kernel
theorem dX12_count_102 : decode cX12_count 102 = .ok (.getfield 256, 3) := by decide +kernel
theorem dX12_count_105 : decode cX12_count 105 = .ok (.ireturn, 1) := by decide +kernel
theorem dX12_count_106 : decode cX12_count 106 = .ok (.aload_n 0, 1) := by decide +kernel
theorem dX12_count_107 : decode cX12_count 107 = .ok (.getfield 106, 3) := by decide +kernel
theorem dX12_count_110 : decode cX12_count 110 = .ok (.iconst 0, 1) := by decide +kernel
theorem dX12_count_111 : decode cX12_count 111 = .ok (.iaload, 1) := by decide +kernel
theorem dX12_count_112 : decode cX12_count 112 = .ok (.ireturn, 1) := by decide +kernel
theorem dX12_count_113 : decode cX12_count 113 = .ok (.aload_n 0, 1) := by decide +kernel
theorem dX12_count_114 : decode cX12_count 114 = .ok (.getfield 369, 3) := by decide +kernel
theorem dX12_count_117 : decode cX12_count 117 = .ok (.ireturn, 1) := by decide +kernel
theorem dX12_count_118 : decode cX12_count 118 = .ok (.aload_n 0, 1) := by decide +kernel
theorem dX12_count_119 : decode cX12_count 119 = .ok (.getfield 109, 3) := by decide +kernel
theorem dX12_count_122 : decode cX12_count 122 = .ok (.iconst 0, 1) := by decide +kernel
theorem dX12_count_123 : decode cX12_count 123 = .ok (.iaload, 1) := by decide +kernel
theorem dX12_count_124 : decode cX12_count 124 = .ok (.ireturn, 1) := by decide +kernel
theorem dX12_count_125 : decode cX12_count 125 = .ok (.aload_n 0, 1) := by decide +kernel
theorem dX12_count_126 : decode cX12_count 126 = .ok (.getfield 112, 3) := by decide +kernel
theorem dX12_count_129 : decode cX12_count 129 = .ok (.iconst 0, 1) := by decide +kernel
theorem dX12_count_130 : decode cX12_count 130 = .ok (.iaload, 1) := by decide +kernel
theorem dX12_count_131 : decode cX12_count 131 = .ok (.ireturn, 1) := by decide +kernel
theorem dX12_count_132 : decode cX12_count 132 = .ok (.aload_n 0, 1) := by decide +kernel
theorem dX12_count_133 : decode cX12_count 133 = .ok (.getfield 253, 3) := by decide +kernel
theorem dX12_count_136 : decode cX12_count 136 = .ok (.aload_n 0, 1) := by decide +kernel
theorem dX12_count_137 : decode cX12_count 137 = .ok (.invokevirtual 506, 3) := by decide +kernel
theorem dX12_count_140 : decode cX12_count 140 = .ok (.isub, 1) := by decide +kernel
theorem dX12_count_141 : decode cX12_count 141 = .ok (.ireturn, 1) := by decide +kernel
theorem dX12_count_142 : decode cX12_count 142 = .ok (.aload_n 0, 1) := by decide +kernel
theorem dX12_count_143 : decode cX12_count 143 = .ok (.getfield 376, 3) := by decide +kernel
theorem dX12_count_146 : decode cX12_count 146 = .ok (.ireturn, 1) := by decide +kernel
theorem dX12_count_147 : decode cX12_count 147 = .ok (.aload_n 0, 1) := by decide +kernel
theorem dX12_count_148 : decode cX12_count 148 = .ok (.invokevirtual 527, 3) := by decide +kernel
theorem dX12_count_151 : decode cX12_count 151 = .ok (.ireturn, 1) := by decide +kernel
theorem dX12_count_152 : decode cX12_count 152 = .ok (.aload_n 0, 1) := by decide +kernel
theorem dX12_count_153 : decode cX12_count 153 = .ok (.getfield 379, 3) := by decide +kernel
theorem dX12_count_156 : decode cX12_count 156 = .ok (.ireturn, 1) := by decide +kernel
theorem dX12_count_157 : decode cX12_count 157 = .ok (.iconst (-1), 1) := by decide +kernel
theorem dX12_count_158 : decode cX12_count 158 = .ok (.ireturn, 1) := by decide +kernel
theorem dJ9_abs_0f7a4_0 : decode cJ9_abs_0f7a4 0 = .ok (.iload_n 0, 1) := by decide +kernel
theorem dJ9_abs_0f7a4_1 : decode cJ9_abs_0f7a4 1 = .ok (.ifCond .ge 8, 3) := by decide +kernel
theorem dJ9_abs_0f7a4_4 : decode cJ9_abs_0f7a4 4 = .ok (.iload_n 0, 1) := by decide +kernel
theorem dJ9_abs_0f7a4_5 : decode cJ9_abs_0f7a4 5 = .ok (.ineg, 1) := by decide +kernel
theorem dJ9_abs_0f7a4_6 : decode cJ9_abs_0f7a4 6 = .ok (.goto 4, 3) := by decide +kernel
theorem dJ9_abs_0f7a4_9 : decode cJ9_abs_0f7a4 9 = .ok (.iload_n 0, 1) := by decide +kernel
theorem dJ9_abs_0f7a4_10 : decode cJ9_abs_0f7a4 10 = .ok (.ireturn, 1) := by decide +kernel
theorem dJ9_max_7cf53_0 : decode cJ9_max_7cf53 0 = .ok (.iload_n 0, 1) := by decide +kernel
theorem dJ9_max_7cf53_1 : decode cJ9_max_7cf53 1 = .ok (.iload_n 1, 1) := by decide +kernel
theorem dJ9_max_7cf53_2 : decode cJ9_max_7cf53 2 = .ok (.if_icmp .lt 7, 3) := by decide +kernel
theorem dJ9_max_7cf53_5 : decode cJ9_max_7cf53 5 = .ok (.iload_n 0, 1) := by decide +kernel
theorem dJ9_max_7cf53_6 : decode cJ9_max_7cf53 6 = .ok (.goto 4, 3) := by decide +kernel
theorem dJ9_max_7cf53_9 : decode cJ9_max_7cf53 9 = .ok (.iload_n 1, 1) := by decide +kernel
theorem dJ9_max_7cf53_10 : decode cJ9_max_7cf53 10 = .ok (.ireturn, 1) := by decide +kernel
theorem dJ9_max_f86c9_0 : decode cJ9_max_f86c9 0 = .ok (.lload_n 0, 1) := by decide +kernel
theorem dJ9_max_f86c9_1 : decode cJ9_max_f86c9 1 = .ok (.lload_n 2, 1) := by decide +kernel
theorem dJ9_max_f86c9_2 : decode cJ9_max_f86c9 2 = .ok (.lcmp, 1) := by decide +kernel
theorem dJ9_max_f86c9_3 : decode cJ9_max_f86c9 3 = .ok (.ifCond .lt 7, 3) := by decide +kernel
theorem dJ9_max_f86c9_6 : decode cJ9_max_f86c9 6 = .ok (.lload_n 0, 1) := by decide +kernel
theorem dJ9_max_f86c9_7 : decode cJ9_max_f86c9 7 = .ok (.goto 4, 3) := by decide +kernel
theorem dJ9_max_f86c9_10 : decode cJ9_max_f86c9 10 = .ok (.lload_n 2, 1) := by decide +kernel
theorem dJ9_max_f86c9_11 : decode cJ9_max_f86c9 11 = .ok (.lreturn, 1) := by decide +kernel
theorem dJ9_min_7cf53_0 : decode cJ9_min_7cf53 0 = .ok (.iload_n 0, 1) := by decide +kernel
theorem dJ9_min_7cf53_1 : decode cJ9_min_7cf53 1 = .ok (.iload_n 1, 1) := by decide +kernel
theorem dJ9_min_7cf53_2 : decode cJ9_min_7cf53 2 = .ok (.if_icmp .gt 7, 3) := by decide +kernel
theorem dJ9_min_7cf53_5 : decode cJ9_min_7cf53 5 = .ok (.iload_n 0, 1) := by decide +kernel
theorem dJ9_min_7cf53_6 : decode cJ9_min_7cf53 6 = .ok (.goto 4, 3) := by decide +kernel
theorem dJ9_min_7cf53_9 : decode cJ9_min_7cf53 9 = .ok (.iload_n 1, 1) := by decide +kernel
theorem dJ9_min_7cf53_10 : decode cJ9_min_7cf53 10 = .ok (.ireturn, 1) := by decide +kernel
theorem dJ9_min_f86c9_0 : decode cJ9_min_f86c9 0 = .ok (.lload_n 0, 1) := by decide +kernel
theorem dJ9_min_f86c9_1 : decode cJ9_min_f86c9 1 = .ok (.lload_n 2, 1) := by decide +kernel
theorem dJ9_min_f86c9_2 : decode cJ9_min_f86c9 2 = .ok (.lcmp, 1) := by decide +kernel
theorem dJ9_min_f86c9_3 : decode cJ9_min_f86c9 3 = .ok (.ifCond .gt 7, 3) := by decide +kernel
theorem dJ9_min_f86c9_6 : decode cJ9_min_f86c9 6 = .ok (.lload_n 0, 1) := by decide +kernel
theorem dJ9_min_f86c9_7 : decode cJ9_min_f86c9 7 = .ok (.goto 4, 3) := by decide +kernel
theorem dJ9_min_f86c9_10 : decode cJ9_min_f86c9 10 = .ok (.lload_n 2, 1) := by decide +kernel
theorem dJ9_min_f86c9_11 : decode cJ9_min_f86c9 11 = .ok (.lreturn, 1) := by decide +kernel
set_option maxRecDepth 20000 in
theorem ggJ0_charAt_5068e_J0_isLatin1_aae02 : GoodIn wsJ0_charAt_5068e wsJ0_isLatin1_aae02 := goodIn_r _ [6, 7, 8] (by decide +kernel) (by decide +kernel)
set_option maxRecDepth 20000 in
theorem gJ0_charAt_5068e_J0_isLatin1_aae02 : GoodIn wsJ0_charAt_5068e (wsV RJ0 492 RJ0 yJ0_isLatin1_aae02 wsJ0_isLatin1_aae02) := goodIn_app (goodIn_of _ (by decide +kernel)) ggJ0_charAt_5068e_J0_isLatin1_aae02
set_option maxRecDepth 20000 in
theorem ggJ0_charAt_5068e_J1_charAt_3b067 : GoodIn wsJ0_charAt_5068e wsJ1_charAt_3b067 := goodIn_r _ [12, 13, 14, 5, 15, 16, 17, 18, 19, 20] (by decide +kernel) (by decide +kernel)
set_option maxRecDepth 20000 in
theorem gJ0_charAt_5068e_J1_charAt_3b067 : GoodIn wsJ0_charAt_5068e (va_wsS RJ0 495 yJ1_charAt_3b067 wsJ1_charAt_3b067) := goodIn_app (goodIn_of _ (by decide +kernel)) ggJ0_charAt_5068e_J1_charAt_3b067
set_option maxRecDepth 20000 in
theorem ggJ0_charAt_5068e_J2_charAt_3b067 : GoodIn wsJ0_charAt_5068e wsJ2_charAt_3b067 := goodIn_r _ [24, 25, 26, 23, 27, 28, 29, 30, 31, 14, 5, 15, 16, 17, 18, 19, 20, 32, 33, 34, 35, 36, 37] (by decide +kernel) (by decide +kernel)
set_option maxRecDepth 20000 in
theorem gJ0_charAt_5068e_J2_charAt_3b067 : GoodIn wsJ0_charAt_5068e (va_wsS RJ0 498 yJ2_charAt_3b067 wsJ2_charAt_3b067) := goodIn_app (goodIn_of _ (by decide +kernel)) ggJ0_charAt_5068e_J2_charAt_3b067
theorem dJ0_charAt_5068e_0 : decode cJ0_charAt_5068e 0 = .ok (.aload_n 0, 1) := by decide +kernel
theorem dJ0_charAt_5068e_1 : decode cJ0_charAt_5068e 1 = .ok (.invokevirtual 492, 3) := by decide +kernel
theorem dJ0_charAt_5068e_4 : decode cJ0_charAt_5068e 4 = .ok (.ifCond .eq 12, 3) := by decide +kernel
theorem dJ0_charAt_5068e_7 : decode cJ0_charAt_5068e 7 = .ok (.aload_n 0, 1) := by decide +kernel
theorem dJ0_charAt_5068e_8 : decode cJ0_charAt_5068e 8 = .ok (.getfield 9, 3) := by decide +kernel
theorem dJ0_charAt_5068e_11 : decode cJ0_charAt_5068e 11 = .ok (.iload_n 1, 1) := by decide +kernel
theorem dJ0_charAt_5068e_12 : decode cJ0_charAt_5068e 12 = .ok (.invokestatic 495, 3) := by decide +kernel
theorem dJ0_charAt_5068e_15 : decode cJ0_charAt_5068e 15 = .ok (.ireturn, 1) := by decide +kernel
theorem dJ0_charAt_5068e_16 : decode cJ0_charAt_5068e 16 = .ok (.aload_n 0, 1) := by decide +kernel
theorem dJ0_charAt_5068e_17 : decode cJ0_charAt_5068e 17 = .ok (.getfield 9, 3) := by decide +kernel
theorem dJ0_charAt_5068e_20 : decode cJ0_charAt_5068e 20 = .ok (.iload_n 1, 1) := by decide +kernel
theorem dJ0_charAt_5068e_21 : decode cJ0_charAt_5068e 21 = .ok (.invokestatic 498, 3) := by decide +kernel
theorem dJ0_charAt_5068e_24 : decode cJ0_charAt_5068e 24 = .ok (.ireturn, 1) := by decide +kernel
theorem dJ0_isLatin1_aae02_0 : decode cJ0_isLatin1_aae02 0 = .ok (.getstatic 38, 3) := by decide +kernel
theorem dJ0_isLatin1_aae02_3 : decode cJ0_isLatin1_aae02 3 = .ok (.ifCond .eq 14, 3) := by decide +kernel
theorem dJ0_isLatin1_aae02_6 : decode cJ0_isLatin1_aae02 6 = .ok (.aload_n 0, 1) := by decide +kernel
theorem dJ0_isLatin1_aae02_7 : decode cJ0_isLatin1_aae02 7 = .ok (.getfield 15, 3) := by decide +kernel
theorem dJ0_isLatin1_aae02_10 : decode cJ0_isLatin1_aae02 10 = .ok (.ifCond .ne 7, 3) := by decide +kernel
theorem dJ0_isLatin1_aae02_13 : decode cJ0_isLatin1_aae02 13 = .ok (.iconst 1, 1) := by decide +kernel
theorem dJ0_isLatin1_aae02_14 : decode cJ0_isLatin1_aae02 14 = .ok (.goto 4, 3) := by decide +kernel
theorem dJ0_isLatin1_aae02_17 : decode cJ0_isLatin1_aae02 17 = .ok (.iconst 0, 1) := by decide +kernel
theorem dJ0_isLatin1_aae02_18 : decode cJ0_isLatin1_aae02 18 = .ok (.ireturn, 1) := by decide +kernel
set_option maxRecDepth 20000 in
theorem ggJ0_checkIndex_df160_J3_checkIndex_8e157 : GoodIn wsJ0_checkIndex_df160 wsJ3_checkIndex_8e157 := goodIn_r _ [5] (by decide +kernel) (by decide +kernel)
set_option maxRecDepth 20000 in
theorem gJ0_checkIndex_df160_J3_checkIndex_8e157 : GoodIn wsJ0_checkIndex_df160 (va_wsS RJ0 1059 yJ3_checkIndex_8e157 wsJ3_checkIndex_8e157) := goodIn_app (goodIn_of _ (by decide +kernel)) ggJ0_checkIndex_df160_J3_checkIndex_8e157
theorem dJ0_checkIndex_df160_0 : decode cJ0_checkIndex_df160 0 = .ok (.iload_n 0, 1) := by decide +kernel
theorem dJ0_checkIndex_df160_1 : decode cJ0_checkIndex_df160 1 = .ok (.iload_n 1, 1) := by decide +kernel
theorem dJ0_checkIndex_df160_2 : decode cJ0_checkIndex_df160 2 = .ok (.getstatic 1053, 3) := by decide +kernel
theorem dJ0_checkIndex_df160_5 : decode cJ0_checkIndex_df160 5 = .ok (.invokestatic 1059, 3) := by decide +kernel
theorem dJ0_checkIndex_df160_8 : decode cJ0_checkIndex_df160 8 = .ok (.pop, 1) := by decide +kernel
theorem dJ0_checkIndex_df160_9 : decode cJ0_checkIndex_df160 9 = .ok (.return_, 1) := by decide +kernel
set_option maxRecDepth 20000 in
theorem ggJ1_charAt_3b067_J0_checkIndex_df160 : GoodIn wsJ1_charAt_3b067 wsJ0_checkIndex_df160 := goodIn_r _ [4, 5, 6, 7, 8, 9] (by decide +kernel) (by decide +kernel)
set_option maxRecDepth 20000 in
theorem gJ1_charAt_3b067_J0_checkIndex_df160 : GoodIn wsJ1_charAt_3b067 (va_wsS RJ1 9 yJ0_checkIndex_df160 wsJ0_checkIndex_df160) := goodIn_app (goodIn_of _ (by decide +kernel)) ggJ1_charAt_3b067_J0_checkIndex_df160
theorem dJ1_charAt_3b067_0 : decode cJ1_charAt_3b067 0 = .ok (.iload_n 1, 1) := by decide +kernel
theorem dJ1_charAt_3b067_1 : decode cJ1_charAt_3b067 1 = .ok (.aload_n 0, 1) := by decide +kernel
theorem dJ1_charAt_3b067_2 : decode cJ1_charAt_3b067 2 = .ok (.arraylength, 1) := by decide +kernel
theorem dJ1_charAt_3b067_3 : decode cJ1_charAt_3b067 3 = .ok (.invokestatic 9, 3) := by decide +kernel
theorem dJ1_charAt_3b067_6 : decode cJ1_charAt_3b067 6 = .ok (.aload_n 0, 1) := by decide +kernel
theorem dJ1_charAt_3b067_7 : decode cJ1_charAt_3b067 7 = .ok (.iload_n 1, 1) := by decide +kernel
theorem dJ1_charAt_3b067_8 : decode cJ1_charAt_3b067 8 = .ok (.baload, 1) := by decide +kernel
theorem dJ1_charAt_3b067_9 : decode cJ1_charAt_3b067 9 = .ok (.sipush 255, 3) := by decide +kernel
theorem dJ1_charAt_3b067_12 : decode cJ1_charAt_3b067 12 = .ok (.iand, 1) := by decide +kernel
theorem dJ1_charAt_3b067_13 : decode cJ1_charAt_3b067 13 = .ok (.i2c, 1) := by decide +kernel
theorem dJ1_charAt_3b067_14 : decode cJ1_charAt_3b067 14 = .ok (.ireturn, 1) := by decide +kernel
set_option maxRecDepth 20000 in
theorem ggJ2_getChar_3b067_J2_length_9d52b : GoodIn wsJ2_getChar_3b067 wsJ2_length_9d52b := goodIn_r _ [7] (by decide +kernel) (by decide +kernel)
set_option maxRecDepth 20000 in
theorem gJ2_getChar_3b067_J2_length_9d52b : GoodIn wsJ2_getChar_3b067 (va_wsS RJ2 48 yJ2_length_9d52b wsJ2_length_9d52b) := goodIn_app (goodIn_of _ (by decide +kernel)) ggJ2_getChar_3b067_J2_length_9d52b
theorem dJ2_getChar_3b067_0 : decode cJ2_getChar_3b067 0 = .ok (.getstatic 44, 3) := by decide +kernel
theorem dJ2_getChar_3b067_3 : decode cJ2_getChar_3b067 3 = .ok (.ifCond .ne 25, 3) := by decide +kernel
theorem dJ2_getChar_3b067_6 : decode cJ2_getChar_3b067 6 = .ok (.iload_n 1, 1) := by decide +kernel
theorem dJ2_getChar_3b067_7 : decode cJ2_getChar_3b067 7 = .ok (.ifCond .lt 11, 3) := by decide +kernel
theorem dJ2_getChar_3b067_10 : decode cJ2_getChar_3b067 10 = .ok (.iload_n 1, 1) := by decide +kernel
theorem dJ2_getChar_3b067_11 : decode cJ2_getChar_3b067 11 = .ok (.aload_n 0, 1) := by decide +kernel
theorem dJ2_getChar_3b067_12 : decode cJ2_getChar_3b067 12 = .ok (.invokestatic 48, 3) := by decide +kernel
theorem dJ2_getChar_3b067_15 : decode cJ2_getChar_3b067 15 = .ok (.if_icmp .lt 13, 3) := by decide +kernel
theorem dJ2_getChar_3b067_18 : decode cJ2_getChar_3b067 18 = .ok (.new 52, 3) := by decide +kernel
theorem dJ2_getChar_3b067_21 : decode cJ2_getChar_3b067 21 = .ok (.dup, 1) := by decide +kernel
theorem dJ2_getChar_3b067_22 : decode cJ2_getChar_3b067 22 = .ok (.ldc 54, 2) := by decide +kernel
theorem dJ2_getChar_3b067_24 : decode cJ2_getChar_3b067 24 = .ok (.invokespecial 56, 3) := by decide +kernel
theorem dJ2_getChar_3b067_27 : decode cJ2_getChar_3b067 27 = .ok (.athrow, 1) := by decide +kernel
theorem dJ2_getChar_3b067_28 : decode cJ2_getChar_3b067 28 = .ok (.iload_n 1, 1) := by decide +kernel
theorem dJ2_getChar_3b067_29 : decode cJ2_getChar_3b067 29 = .ok (.iconst 1, 1) := by decide +kernel
theorem dJ2_getChar_3b067_30 : decode cJ2_getChar_3b067 30 = .ok (.ishl, 1) := by decide +kernel
theorem dJ2_getChar_3b067_31 : decode cJ2_getChar_3b067 31 = .ok (.istore_n 1, 1) := by decide +kernel
theorem dJ2_getChar_3b067_32 : decode cJ2_getChar_3b067 32 = .ok (.aload_n 0, 1) := by decide +kernel
theorem dJ2_getChar_3b067_33 : decode cJ2_getChar_3b067 33 = .ok (.iload_n 1, 1) := by decide +kernel
theorem dJ2_getChar_3b067_34 : decode cJ2_getChar_3b067 34 = .ok (.iinc 1 1, 3) := by decide +kernel
theorem dJ2_getChar_3b067_37 : decode cJ2_getChar_3b067 37 = .ok (.baload, 1) := by decide +kernel
theorem dJ2_getChar_3b067_38 : decode cJ2_getChar_3b067 38 = .ok (.sipush 255, 3) := by decide +kernel
theorem dJ2_getChar_3b067_41 : decode cJ2_getChar_3b067 41 = .ok (.iand, 1) := by decide +kernel
theorem dJ2_getChar_3b067_42 : decode cJ2_getChar_3b067 42 = .ok (.getstatic 59, 3) := by decide +kernel
theorem dJ2_getChar_3b067_45 : decode cJ2_getChar_3b067 45 = .ok (.ishl, 1) := by decide +kernel
theorem dJ2_getChar_3b067_46 : decode cJ2_getChar_3b067 46 = .ok (.aload_n 0, 1) := by decide +kernel
theorem dJ2_getChar_3b067_47 : decode cJ2_getChar_3b067 47 = .ok (.iload_n 1, 1) := by decide +kernel
theorem dJ2_getChar_3b067_48 : decode cJ2_getChar_3b067 48 = .ok (.baload, 1) := by decide +kernel
theorem dJ2_getChar_3b067_49 : decode cJ2_getChar_3b067 49 = .ok (.sipush 255, 3) := by decide +kernel
theorem dJ2_getChar_3b067_52 : decode cJ2_getChar_3b067 52 = .ok (.iand, 1) := by decide +kernel
theorem dJ2_getChar_3b067_53 : decode cJ2_getChar_3b067 53 = .ok (.getstatic 63, 3) := by decide +kernel
theorem dJ2_getChar_3b067_56 : decode cJ2_getChar_3b067 56 = .ok (.ishl, 1) := by decide +kernel
theorem dJ2_getChar_3b067_57 : decode cJ2_getChar_3b067 57 = .ok (.ior, 1) := by decide +kernel
theorem dJ2_getChar_3b067_58 : decode cJ2_getChar_3b067 58 = .ok (.i2c, 1) := by decide +kernel
theorem dJ2_getChar_3b067_59 : decode cJ2_getChar_3b067 59 = .ok (.ireturn, 1) := by decide +kernel
theorem dJ2_length_9d52b_0 : decode cJ2_length_9d52b 0 = .ok (.aload_n 0, 1) := by decide +kernel
theorem dJ2_length_9d52b_1 : decode cJ2_length_9d52b 1 = .ok (.arraylength, 1) := by decide +kernel
theorem dJ2_length_9d52b_2 : decode cJ2_length_9d52b 2 = .ok (.iconst 1, 1) := by decide +kernel
theorem dJ2_length_9d52b_3 : decode cJ2_length_9d52b 3 = .ok (.ishr, 1) := by decide +kernel
theorem dJ2_length_9d52b_4 : decode cJ2_length_9d52b 4 = .ok (.ireturn, 1) := by decide +kernel
set_option maxRecDepth 20000 in
theorem ggJ2_charAt_3b067_J2_checkIndex_2214a : GoodIn wsJ2_charAt_3b067 wsJ2_checkIndex_2214a := goodIn_r _ [4, 5, 6, 3, 7, 8, 9, 10, 11, 12, 13, 14, 15, 16] (by decide +kernel) (by decide +kernel)
set_option maxRecDepth 20000 in
theorem gJ2_charAt_3b067_J2_checkIndex_2214a : GoodIn wsJ2_charAt_3b067 (va_wsS RJ2 67 yJ2_checkIndex_2214a wsJ2_checkIndex_2214a) := goodIn_app (goodIn_of _ (by decide +kernel)) ggJ2_charAt_3b067_J2_checkIndex_2214a
set_option maxRecDepth 20000 in
theorem ggJ2_charAt_3b067_J2_getChar_3b067 : GoodIn wsJ2_charAt_3b067 wsJ2_getChar_3b067 := goodIn_r _ [19, 20, 21, 22, 5, 6, 3, 7] (by decide +kernel) (by decide +kernel)
set_option maxRecDepth 20000 in
theorem gJ2_charAt_3b067_J2_getChar_3b067 : GoodIn wsJ2_charAt_3b067 (va_wsS RJ2 71 yJ2_getChar_3b067 wsJ2_getChar_3b067) := goodIn_app (goodIn_of _ (by decide +kernel)) ggJ2_charAt_3b067_J2_getChar_3b067
theorem dJ2_charAt_3b067_0 : decode cJ2_charAt_3b067 0 = .ok (.iload_n 1, 1) := by decide +kernel
theorem dJ2_charAt_3b067_1 : decode cJ2_charAt_3b067 1 = .ok (.aload_n 0, 1) := by decide +kernel
theorem dJ2_charAt_3b067_2 : decode cJ2_charAt_3b067 2 = .ok (.invokestatic 67, 3) := by decide +kernel
theorem dJ2_charAt_3b067_5 : decode cJ2_charAt_3b067 5 = .ok (.aload_n 0, 1) := by decide +kernel
theorem dJ2_charAt_3b067_6 : decode cJ2_charAt_3b067 6 = .ok (.iload_n 1, 1) := by decide +kernel
theorem dJ2_charAt_3b067_7 : decode cJ2_charAt_3b067 7 = .ok (.invokestatic 71, 3) := by decide +kernel
theorem dJ2_charAt_3b067_10 : decode cJ2_charAt_3b067 10 = .ok (.ireturn, 1) := by decide +kernel
set_option maxRecDepth 20000 in
theorem ggJ2_checkIndex_2214a_J2_length_9d52b : GoodIn wsJ2_checkIndex_2214a wsJ2_length_9d52b := goodIn_r _ [4] (by decide +kernel) (by decide +kernel)
set_option maxRecDepth 20000 in
theorem gJ2_checkIndex_2214a_J2_length_9d52b : GoodIn wsJ2_checkIndex_2214a (va_wsS RJ2 48 yJ2_length_9d52b wsJ2_length_9d52b) := goodIn_app (goodIn_of _ (by decide +kernel)) ggJ2_checkIndex_2214a_J2_length_9d52b
set_option maxRecDepth 20000 in
theorem ggJ2_checkIndex_2214a_J0_checkIndex_df160 : GoodIn wsJ2_checkIndex_2214a wsJ0_checkIndex_df160 := goodIn_r _ [8, 9, 10, 11, 12, 13] (by decide +kernel) (by decide +kernel)
set_option maxRecDepth 20000 in
theorem gJ2_checkIndex_2214a_J0_checkIndex_df160 : GoodIn wsJ2_checkIndex_2214a (va_wsS RJ2 414 yJ0_checkIndex_df160 wsJ0_checkIndex_df160) := goodIn_app (goodIn_of _ (by decide +kernel)) ggJ2_checkIndex_2214a_J0_checkIndex_df160
theorem dJ2_checkIndex_2214a_0 : decode cJ2_checkIndex_2214a 0 = .ok (.iload_n 0, 1) := by decide +kernel
theorem dJ2_checkIndex_2214a_1 : decode cJ2_checkIndex_2214a 1 = .ok (.aload_n 1, 1) := by decide +kernel
theorem dJ2_checkIndex_2214a_2 : decode cJ2_checkIndex_2214a 2 = .ok (.invokestatic 48, 3) := by decide +kernel
theorem dJ2_checkIndex_2214a_5 : decode cJ2_checkIndex_2214a 5 = .ok (.invokestatic 414, 3) := by decide +kernel
theorem dJ2_checkIndex_2214a_8 : decode cJ2_checkIndex_2214a 8 = .ok (.return_, 1) := by decide +kernel
theorem dJ3_checkIndex_8e157_0 : decode cJ3_checkIndex_8e157 0 = .ok (.iload_n 0, 1) := by decide +kernel
theorem dJ3_checkIndex_8e157_1 : decode cJ3_checkIndex_8e157 1 = .ok (.ifCond .lt 8, 3) := by decide +kernel
theorem dJ3_checkIndex_8e157_4 : decode cJ3_checkIndex_8e157 4 = .ok (.iload_n 0, 1) := by decide +kernel
theorem dJ3_checkIndex_8e157_5 : decode cJ3_checkIndex_8e157 5 = .ok (.iload_n 1, 1) := by decide +kernel
theorem dJ3_checkIndex_8e157_6 : decode cJ3_checkIndex_8e157 6 = .ok (.if_icmp .lt 10, 3) := by decide +kernel
theorem dJ3_checkIndex_8e157_9 : decode cJ3_checkIndex_8e157 9 = .ok (.aload_n 2, 1) := by decide +kernel
theorem dJ3_checkIndex_8e157_10 : decode cJ3_checkIndex_8e157 10 = .ok (.iload_n 0, 1) := by decide +kernel
theorem dJ3_checkIndex_8e157_11 : decode cJ3_checkIndex_8e157 11 = .ok (.iload_n 1, 1) := by decide +kernel
theorem dJ3_checkIndex_8e157_12 : decode cJ3_checkIndex_8e157 12 = .ok (.invokestatic 95, 3) := by decide +kernel
theorem dJ3_checkIndex_8e157_15 : decode cJ3_checkIndex_8e157 15 = .ok (.athrow, 1) := by decide +kernel
theorem dJ3_checkIndex_8e157_16 : decode cJ3_checkIndex_8e157 16 = .ok (.iload_n 0, 1) := by decide +kernel
theorem dJ3_checkIndex_8e157_17 : decode cJ3_checkIndex_8e157 17 = .ok (.ireturn, 1) := by decide +kernel
set_option maxRecDepth 20000 in
theorem ggL_look_X11_look : GoodIn wsL_look wsX11_look := goodIn_ca (goodIn_ca (goodIn_r _ [7, 8, 9, 10, 11, 12, 13, 14, 15, 16, 17, 18, 19, 20, 21, 22, 23, 6, 24, 25, 26, 27, 28, 29, 30, 31, 32, 33, 34, 35, 36, 37, 38, 39, 40, 41, 42, 43, 44, 45, 46, 47, 48, 49, 50, 51, 52, 53, 54, 55, 56, 57, 58, 59, 60, 61, 62, 63, 64, 65, 66, 67, 68, 69, 70, 71, 72, 73, 74, 75, 76, 77, 78, 79, 80, 81, 82, 83, 84, 85, 86, 87, 88, 89, 90, 91, 92, 93, 94, 95, 96, 97, 98, 99, 100, 101, 102, 103, 104, 105, 106, 107, 108, 109, 110, 111, 112, 113, 114, 115, 116, 117, 118, 119, 120, 121, 122, 123, 124, 125, 126, 127, 128, 129, 130, 131, 132, 133, 134, 135, 136, 137, 138, 139, 140, 141, 142, 143] (by decide +kernel) (by decide +kernel)) (goodIn_sub (fun _ h => List.mem_cons_of_mem _ (List.mem_append_left _ (List.mem_append_right _ h))) (by decide +kernel))) (goodIn_sub (fun _ h => List.mem_cons_of_mem _ (List.mem_append_right _ h)) (by decide +kernel))
set_option maxRecDepth 20000 in
theorem gL_look_X11_look : GoodIn wsL_look (wsV RL 7 RX11 yX11_look wsX11_look) := goodIn_app (goodIn_of _ (by decide +kernel)) ggL_look_X11_look
theorem dL_look_0 : decode cL_look 0 = .ok (.aload_n 3, 1) := by decide +kernel
theorem dL_look_1 : decode cL_look 1 = .ok (.iconst 0, 1) := by decide +kernel
theorem dL_look_2 : decode cL_look 2 = .ok (.aload_n 0, 1) := by decide +kernel
theorem dL_look_3 : decode cL_look 3 = .ok (.iload_n 1, 1) := by decide +kernel
theorem dL_look_4 : decode cL_look 4 = .ok (.iload_n 2, 1) := by decide +kernel
theorem dL_look_5 : decode cL_look 5 = .ok (.invokevirtual 7, 3) := by decide +kernel
theorem dL_look_8 : decode cL_look 8 = .ok (.i2l, 1) := by decide +kernel
theorem dL_look_9 : decode cL_look 9 = .ok (.lastore, 1) := by decide +kernel
theorem dL_look_10 : decode cL_look 10 = .ok (.goto 11, 3) := by decide +kernel
theorem dL_look_13 : decode cL_look 13 = .ok (.astore 4, 2) := by decide +kernel
theorem dL_look_15 : decode cL_look 15 = .ok (.iconst 1, 1) := by decide +kernel
theorem dL_look_16 : decode cL_look 16 = .ok (.ireturn, 1) := by decide +kernel
theorem dL_look_17 : decode cL_look 17 = .ok (.astore 4, 2) := by decide +kernel
theorem dL_look_19 : decode cL_look 19 = .ok (.iconst 2, 1) := by decide +kernel
theorem dL_look_20 : decode cL_look 20 = .ok (.ireturn, 1) := by decide +kernel
theorem dL_look_21 : decode cL_look 21 = .ok (.iconst 0, 1) := by decide +kernel
theorem dL_look_22 : decode cL_look 22 = .ok (.ireturn, 1) := by decide +kernel
set_option maxRecDepth 20000 in
theorem ggL_law_X11_init : GoodIn wsL_law wsX11_init := goodIn_r _ [9, 10, 11, 12, 13, 14, 15, 16, 17, 18, 19, 20, 21, 22, 23, 24, 25, 26, 27, 28, 29, 30, 31, 32, 33, 34, 35, 36, 37, 38, 39, 40, 41, 42, 43, 44, 45, 46, 47, 48, 49, 50, 51, 52, 53, 54, 55, 56, 57, 58, 59, 60, 61, 62, 63, 64, 65, 66, 67, 68, 69, 70, 71, 72, 73, 74, 75, 76, 77, 78, 79, 80, 81, 82, 83, 84, 85, 86, 87, 88, 89, 90, 91, 92, 93, 94, 95, 96, 97, 98, 99, 100, 101, 102, 103, 104, 105, 106, 107, 108, 109, 110, 111, 112, 113, 114, 115, 116, 117, 118, 119, 120, 121, 122, 123, 124, 125, 126, 127, 128, 129, 130, 131, 132, 133, 134, 135, 136, 137, 138, 139, 140, 141, 142, 143, 144, 145, 146, 147, 148, 149, 150, 151, 152, 153, 154, 155, 156, 157, 158, 159, 160, 161, 162, 6, 163, 164, 165, 166, 167, 168, 169, 170, 171, 172, 173, 174, 175, 176, 177, 178, 179, 180, 181, 182, 183, 184, 185, 186, 187, 188, 189, 190, 191, 192, 193, 194, 195, 196, 197, 198, 199, 200, 201, 202, 203, 204, 205, 206, 207, 208, 1612, 1613, 1614, 1615, 1616, 1617, 1618, 1619, 1620, 1621, 1622, 1623, 1624, 1625, 1713, 1714, 1715, 1716, 1717, 1718, 1719, 1720, 1721, 1722, 1723, 1724, 1725, 1726, 1727, 1728, 1729, 1730, 1731, 1732, 1733, 1734, 1735, 1736, 1737, 1738, 1739, 1740, 1741, 1742, 1743, 1744, 1745, 1746, 1747, 1748, 1749, 1750, 1751, 1752, 1753, 1754, 1755, 1756, 1757, 1758, 1759, 1760, 1761, 1762, 1763, 1764, 1765, 1766, 1767, 1768, 1769, 1770, 1771, 1772, 1773, 1774, 1775, 1776, 1777, 1778, 1779, 1780, 1781, 1782, 1783, 1784, 1785, 1786, 1787, 1788, 1789, 1790, 1791, 1792, 1793, 1794, 1795, 1796, 1797, 1798, 1799, 1800, 1801, 1802, 1803, 1804, 1805] (by decide +kernel) (by decide +kernel)
set_option maxRecDepth 20000 in
theorem gL_law_X11_init : GoodIn wsL_law (wsX11_init) := ggL_law_X11_init
set_option maxRecDepth 20000 in
theorem ggL_law_X12_init : GoodIn wsL_law wsX12_init := goodIn_r _ [211, 212, 11, 12, 69, 213, 214, 215, 187, 216, 217, 218, 219, 220, 221, 222, 223, 224, 225, 226, 227, 228, 229, 230, 231, 232, 233, 234, 235, 6, 236, 237, 238, 239, 240, 241, 242, 243, 244, 245, 246, 247, 248, 249, 250, 251, 252, 253, 254, 255, 256, 257, 258, 259, 260, 5, 261, 262, 263, 264, 265, 266, 267, 268, 269, 270, 271, 272, 273, 274, 275, 276, 277, 278, 279, 280, 281, 282, 283, 284, 285, 286, 287, 288, 289, 290, 291, 1626, 1627, 1628, 1629, 1630, 1631, 1632, 1633, 1634, 1635, 1636, 1637, 1638, 1639, 1640, 1641, 1642, 1643, 1644, 1645, 1646, 1647, 1648, 1649, 1650, 1651, 1652, 1653, 1654, 1655, 1656, 1657, 1658, 1659, 1660, 1661, 1662, 1663, 1664, 1665, 1666, 1667, 1668, 1669, 1670, 1671, 1672, 1673, 1674, 1675, 1676, 1677, 1678, 1679, 1680, 1681, 1682, 1683, 1684, 1685, 1686, 1687, 1688, 1689, 1690, 1691, 1692, 1693, 1694, 1695, 1696, 1697, 1698, 1699, 1700, 1701, 1702, 1703, 1704, 1705, 1706, 1707, 1708, 1709, 1710, 1711, 1712] (by decide +kernel) (by decide +kernel)
set_option maxRecDepth 20000 in
theorem gL_law_X12_init : GoodIn wsL_law (wsX12_init) := ggL_law_X12_init
set_option maxRecDepth 20000 in
theorem ggL_law_X11_feed : GoodIn wsL_law wsX11_feed := goodIn_r _ [295, 296, 297, 298, 299, 2, 300, 14, 1612, 1613, 1614, 1615, 1616, 1617, 1618, 1619, 1620, 1621, 1622, 1623, 1624, 1625] (by decide +kernel) (by decide +kernel)
set_option maxRecDepth 20000 in
theorem gL_law_X11_feed : GoodIn wsL_law (wsV RL 21 RX11 yX11_feed wsX11_feed) := goodIn_app (goodIn_of _ (by decide +kernel)) ggL_law_X11_feed
set_option maxRecDepth 20000 in
theorem ggL_law_X12_feed : GoodIn wsL_law wsX12_feed := goodIn_r _ [304, 305, 306, 213, 1626, 1627, 1628, 1629, 1630, 1631, 1632, 1633, 1634, 1635, 1636, 1637, 1638, 1639, 1640, 1641, 1642, 1643, 1644, 1645, 1646, 1647, 1648, 1649, 1650, 1651, 1652, 1653, 1654, 1655, 1656, 1657, 1658, 1659, 1660, 1661, 1662, 1663, 1664, 1665, 1666, 1667, 1668, 1669, 1670, 1671, 1672, 1673, 1674, 1675, 1676, 1677, 1678, 1679, 1680, 1681, 1682, 1683, 1684, 1685, 1686, 1687, 1688, 1689, 1690, 1691, 1692, 1693, 1694, 1695, 1696, 1697, 1698, 1699, 1700, 1701, 1702, 1703, 1704, 1705, 1706, 1707, 1708, 1709, 1710, 1711, 1712] (by decide +kernel) (by decide +kernel)
set_option maxRecDepth 20000 in
theorem gL_law_X12_feed : GoodIn wsL_law (wsV RL 25 RX12 yX12_feed wsX12_feed) := goodIn_app (goodIn_of _ (by decide +kernel)) ggL_law_X12_feed
set_option maxRecDepth 20000 in
theorem ggL_law_X11_text : GoodIn wsL_law wsX11_text := goodIn_r _ [310, 296, 23, 14, 19, 18, 311, 312, 313, 314, 22, 315, 95, 316, 101, 317, 318, 99, 319, 320, 321, 322, 323, 17, 324, 63, 64, 325, 326, 54, 327, 58, 328, 329, 330, 331, 332, 60, 333, 334, 335, 336, 337, 57, 338, 339, 340, 341, 342, 343, 62, 344, 345, 346, 347, 348, 349, 98, 350, 107, 351, 352, 353, 354, 355, 356, 357, 358, 359, 360, 361, 362, 363, 364, 365, 366, 367, 149, 150, 151, 368, 369, 370, 371, 152, 153, 154, 372, 373, 374, 375, 106, 376, 377, 378, 379, 380, 381, 382, 383, 384, 385, 386, 387, 388, 389, 390, 391, 392, 393, 394, 395, 396, 397, 398, 399, 400, 401, 402, 403, 404, 405, 406, 407, 408, 409, 410, 411, 412, 413, 414, 415, 416, 417, 418, 419, 420, 421, 422, 423, 424, 425, 426, 427, 428, 429, 430, 431, 432, 433, 434, 435, 436, 437, 438, 439, 440, 441, 53, 442, 443, 70, 444, 445, 446, 447, 71, 72, 73, 74, 75, 448, 449, 450, 451, 452, 453, 454, 455, 456, 457, 81, 458, 459, 460, 461, 82, 80, 462, 463, 464, 465, 466, 467, 468, 469, 83, 84, 85, 470, 471, 472, 473, 474, 475, 476, 477, 478, 479, 480, 481, 482, 483, 484, 485, 486, 487, 488, 489, 490, 491, 492, 493, 494, 495, 496, 497, 498, 499, 500, 501, 502, 503, 504, 505, 100, 506, 507, 508, 509, 510, 511, 512, 90, 513, 514, 515, 516, 517, 518, 519, 520, 521, 522, 523, 524, 525, 526, 527, 528, 529, 530, 531, 532, 533, 534, 535, 536, 537, 538, 539, 540, 541, 542, 543, 544, 2, 545, 27, 32, 38, 546, 547, 42, 548, 549, 550, 551, 552, 26, 553, 159, 554, 555, 160, 556, 557, 558, 559, 560, 161, 561, 562, 162, 563, 564, 565, 566, 567, 568, 569, 570, 571, 572, 573, 574, 575, 576, 577, 578, 579, 580, 581, 582, 163, 583, 164, 584, 585, 586, 587, 588, 589, 590, 591, 592, 593, 594, 595, 596, 597, 598, 599, 600, 601, 602, 31, 603, 604, 605, 606, 607, 608, 609, 610, 172, 611, 612, 173, 174, 175, 176, 177, 1612, 1613, 1614, 1615, 1616, 1617, 1618, 1619, 1620, 1621, 1622, 1623, 1624, 1625, 1713, 1714, 1715, 1716, 1717, 1718, 1719, 1720, 1721, 1722, 1723, 1724, 1725, 1726, 1727, 1728, 1729, 1730, 1731, 1732, 1733, 1734, 1735, 1736, 1737, 1799, 1800, 1801, 1802, 1803, 1804, 1805, 1781, 1782, 1783, 1784, 1785, 1786, 1787, 1788, 1789, 1790, 1791, 1792, 1793, 1794, 1795, 1796, 1797, 1798, 1758, 1759, 1760, 1761, 1762, 1763, 1764, 1765, 1766, 1767, 1738, 1739, 1740, 1741, 1742, 1743, 1744, 1745, 1746, 1747, 1748, 1749, 1750, 1751, 1752, 1753, 1754, 1755, 1756, 1757] (by decide +kernel) (by decide +kernel)
set_option maxRecDepth 20000 in
theorem gL_law_X11_text : GoodIn wsL_law (wsV RL 26 RX11 yX11_text wsX11_text) := goodIn_app (goodIn_of _ (by decide +kernel)) ggL_law_X11_text
set_option maxRecDepth 20000 in
theorem ggL_law_X12_text : GoodIn wsL_law wsX12_text := goodIn_r _ [616, 305, 306, 617, 618, 215, 619, 620, 258, 259, 260, 5, 261, 262, 263, 264, 265, 266, 267, 268, 269, 216, 217, 228, 621, 622, 623, 624, 213, 625, 626, 627, 628, 629, 630, 631, 632, 633, 634, 635, 214, 636, 637, 638, 639, 640, 641, 642, 643, 644, 645, 646, 647, 648, 649, 650, 651, 229, 230, 652, 653, 654, 655, 656, 657, 658, 659, 660, 661, 662, 663, 664, 665, 666, 667, 668, 669, 670, 671, 218, 219, 672, 220, 221, 222, 223, 673, 674, 675, 676, 677, 678, 679, 680, 681, 682, 683, 225, 224, 226, 227, 684, 685, 686, 687, 688, 689, 690, 691, 692, 693, 694, 695, 696, 697, 698, 699, 700, 701, 702, 703, 704, 705, 706, 707, 708, 709, 710, 711, 712, 234, 713, 714, 715, 716, 717, 718, 719, 720, 721, 722, 723, 724, 725, 726, 727, 728, 231, 232, 233, 235, 729, 730, 731, 732, 733, 734, 735, 736, 737, 738, 739, 740, 741, 742, 743, 270, 271, 272, 273, 274, 275, 276, 277, 278, 279, 280, 281, 282, 283, 284, 285, 286, 238, 239, 240, 241, 242, 243, 244, 245, 246, 287, 288, 247, 289, 253, 290, 291, 1626, 1627, 1628, 1629, 1630, 1631, 1632, 1633, 1634, 1635, 1636, 1637, 1638, 1639, 1640, 1641, 1642, 1643, 1644, 1645, 1646, 1647, 1648, 1649, 1650, 1651, 1652, 1653, 1654, 1655, 1656, 1657, 1658, 1659, 1660, 1661, 1662, 1663, 1664, 1665, 1666, 1667, 1668, 1669, 1670, 1671, 1672, 1673, 1674, 1675, 1676, 1677, 1678, 1679, 1680, 1681, 1682, 1683, 1684, 1685, 1686, 1687, 1688, 1689, 1690, 1691, 1692, 1693, 1694, 1695, 1696, 1697, 1698, 1699, 1700, 1701, 1702, 1703, 1704, 1705, 1706, 1707, 1708, 1709, 1710, 1711, 1712] (by decide +kernel) (by decide +kernel)
set_option maxRecDepth 20000 in
theorem gL_law_X12_text : GoodIn wsL_law (wsV RL 30 RX12 yX12_text wsX12_text) := goodIn_app (goodIn_of _ (by decide +kernel)) ggL_law_X12_text
set_option maxRecDepth 20000 in
theorem ggL_law_X11_fault : GoodIn wsL_law wsX11_fault := goodIn_r _ [747, 23, 748, 749, 1612, 1613, 1614, 1615, 1616, 1617, 1618, 1619, 1620, 1621, 1622, 1623, 1624, 1625, 1727, 1728, 1729, 1730, 1731, 1732, 1733, 1734, 1735, 1736, 1737] (by decide +kernel) (by decide +kernel)
set_option maxRecDepth 20000 in
theorem gL_law_X11_fault : GoodIn wsL_law (wsV RL 31 RX11 yX11_fault wsX11_fault) := goodIn_app (goodIn_of _ (by decide +kernel)) ggL_law_X11_fault
set_option maxRecDepth 20000 in
theorem ggL_law_X12_fault : GoodIn wsL_law wsX12_fault := goodIn_r _ [753, 305, 618, 215, 1626, 1627, 1628, 1629, 1630, 1631, 1632, 1633, 1634, 1635, 1636, 1637, 1638, 1639, 1640, 1641, 1642, 1643, 1644, 1645, 1646, 1647, 1648, 1649, 1650, 1651, 1652, 1653, 1654, 1655, 1656, 1657, 1658, 1659, 1660, 1661, 1662, 1663, 1664, 1665, 1666, 1667, 1668, 1669, 1670, 1671, 1672, 1673, 1674, 1675, 1676, 1677, 1678, 1679, 1680, 1681, 1682, 1683, 1684, 1685, 1686, 1687, 1688, 1689, 1690, 1691, 1692, 1693, 1694, 1695, 1696, 1697, 1698, 1699, 1700, 1701, 1702, 1703, 1704, 1705, 1706, 1707, 1708, 1709, 1710, 1711, 1712] (by decide +kernel) (by decide +kernel)
set_option maxRecDepth 20000 in
theorem gL_law_X12_fault : GoodIn wsL_law (wsV RL 34 RX12 yX12_fault wsX12_fault) := goodIn_app (goodIn_of _ (by decide +kernel)) ggL_law_X12_fault
set_option maxRecDepth 20000 in
theorem ggL_law_X11_named : GoodIn wsL_law wsX11_named := goodIn_r _ [757, 18, 758, 759, 760, 1612, 1613, 1614, 1615, 1616, 1617, 1618, 1619, 1620, 1621, 1622, 1623, 1624, 1625, 1713, 1714, 1715, 1716, 1717, 1718, 1719, 1720, 1721, 1722, 1723, 1724, 1725, 1726, 1781, 1782, 1783, 1784, 1785, 1786, 1787] (by decide +kernel) (by decide +kernel)
set_option maxRecDepth 20000 in
theorem gL_law_X11_named : GoodIn wsL_law (wsV RL 35 RX11 yX11_named wsX11_named) := goodIn_app (goodIn_of _ (by decide +kernel)) ggL_law_X11_named
set_option maxRecDepth 20000 in
theorem ggL_law_X12_named : GoodIn wsL_law wsX12_named := goodIn_r _ [764, 305, 218, 276, 673, 674, 5, 675, 1626, 1627, 1628, 1629, 1630, 1631, 1632, 1633, 1634, 1635, 1636, 1637, 1638, 1639, 1640, 1641, 1642, 1643, 1644, 1645, 1646, 1647, 1648, 1649, 1650, 1651, 1652, 1653, 1654, 1655, 1656, 1657, 1658, 1659, 1660, 1661, 1662, 1663, 1664, 1665, 1666, 1667, 1668, 1669, 1670, 1671, 1672, 1673, 1674, 1675, 1676, 1677, 1678, 1679, 1680, 1681, 1682, 1683, 1684, 1685, 1686, 1687, 1688, 1689, 1690, 1691, 1692, 1693, 1694, 1695, 1696, 1697, 1698, 1699, 1700, 1701, 1702, 1703, 1704, 1705, 1706, 1707, 1708, 1709, 1710, 1711, 1712] (by decide +kernel) (by decide +kernel)
set_option maxRecDepth 20000 in
theorem gL_law_X12_named : GoodIn wsL_law (wsV RL 38 RX12 yX12_named wsX12_named) := goodIn_app (goodIn_of _ (by decide +kernel)) ggL_law_X12_named
set_option maxRecDepth 20000 in
theorem ggL_law_L_look : GoodIn wsL_law wsL_look := goodIn_ca (goodIn_ca (goodIn_r _ [768, 769, 770, 771, 772, 773, 2, 774, 775, 776, 777, 778, 32, 779, 780, 781, 782, 18, 758, 783, 784, 785, 786, 787, 788, 759, 789, 790, 791, 792, 27, 793, 794, 565, 566, 26, 567, 159, 568, 569, 570, 571, 572, 573, 353, 574, 575, 576, 577, 578, 579, 580, 581, 582, 163, 583, 164, 584, 585, 586, 62, 587, 345, 90, 588, 589, 590, 591, 592, 593, 594, 595, 596, 597, 598, 599, 795, 796, 797, 17, 798, 63, 799, 800, 801, 326, 1612, 1613, 1614, 1615, 1616, 1617, 1618, 1619, 1620, 1621, 1622, 1623, 1624, 1625, 1747, 1748, 1749, 1750, 1751, 1752, 1753, 1754, 1755, 1756, 1757, 1713, 1714, 1715, 1716, 1717, 1718, 1719, 1720, 1721, 1722, 1723, 1724, 1725, 1726, 1781, 1782, 1783, 1784, 1785, 1786, 1787, 1738, 1739, 1740, 1741, 1742, 1743, 1744, 1745, 1746, 1796, 1797, 1798] (by decide +kernel) (by decide +kernel)) (goodIn_sub (fun _ h => List.mem_append_left _ (List.mem_append_right _ h)) (by decide +kernel))) (goodIn_sub (fun _ h => List.mem_append_right _ h) (by decide +kernel))
set_option maxRecDepth 20000 in
theorem gL_law_L_look : GoodIn wsL_law (va_wsS RL 39 yL_look wsL_look) := goodIn_app (goodIn_of _ (by decide +kernel)) ggL_law_L_look
set_option maxRecDepth 20000 in
theorem ggL_law_X12_look : GoodIn wsL_law wsX12_look := goodIn_r _ [805, 305, 238, 239, 240, 241, 242, 244, 806, 807, 808, 5, 809, 276, 810, 811, 812, 813, 814, 815, 816, 817, 217, 247, 274, 818, 819, 820, 821, 236, 226, 224, 227, 822, 823, 824, 825, 228, 826, 827, 828, 829, 830, 229, 230, 237, 831, 832, 833, 834, 231, 232, 233, 835, 836, 837, 838, 839, 840, 841, 842, 843, 844, 845, 846, 847, 848, 849, 850, 851, 1626, 1627, 1628, 1629, 1630, 1631, 1632, 1633, 1634, 1635, 1636, 1637, 1638, 1639, 1640, 1641, 1642, 1643, 1644, 1645, 1646, 1647, 1648, 1649, 1650, 1651, 1652, 1653, 1654, 1655, 1656, 1657, 1658, 1659, 1660, 1661, 1662, 1663, 1664, 1665, 1666, 1667, 1668, 1669, 1670, 1671, 1672, 1673, 1674, 1675, 1676, 1677, 1678, 1679, 1680, 1681, 1682, 1683, 1684, 1685, 1686, 1687, 1688, 1689, 1690, 1691, 1692, 1693, 1694, 1695, 1696, 1697, 1698, 1699, 1700, 1701, 1702, 1703, 1704, 1705, 1706, 1707, 1708, 1709, 1710, 1711, 1712] (by decide +kernel) (by decide +kernel)
set_option maxRecDepth 20000 in
theorem gL_law_X12_look : GoodIn wsL_law (wsV RL 44 RX12 yX12_look wsX12_look) := goodIn_app (goodIn_of _ (by decide +kernel)) ggL_law_X12_look
set_option maxRecDepth 20000 in
theorem ggL_law_X12_thrown : GoodIn wsL_law wsX12_thrown := goodIn_r _ [855, 305, 1626, 1627, 1628, 1629, 1630, 1631, 1632, 1633, 1634, 1635, 1636, 1637, 1638, 1639, 1640, 1641, 1642, 1643, 1644, 1645, 1646, 1647, 1648, 1649, 1650, 1651, 1652, 1653, 1654, 1655, 1656, 1657, 1658, 1659, 1660, 1661, 1662, 1663, 1664, 1665, 1666, 1667, 1668, 1669, 1670, 1671, 1672, 1673, 1674, 1675, 1676, 1677, 1678, 1679, 1680, 1681, 1682, 1683, 1684, 1685, 1686, 1687, 1688, 1689, 1690, 1691, 1692, 1693, 1694, 1695, 1696, 1697, 1698, 1699, 1700, 1701, 1702, 1703, 1704, 1705, 1706, 1707, 1708, 1709, 1710, 1711, 1712] (by decide +kernel) (by decide +kernel)
set_option maxRecDepth 20000 in
theorem gL_law_X12_thrown : GoodIn wsL_law (wsV RL 45 RX12 yX12_thrown wsX12_thrown) := goodIn_app (goodIn_of _ (by decide +kernel)) ggL_law_X12_thrown
set_option maxRecDepth 20000 in
theorem ggL_law_X11_wave : GoodIn wsL_law wsX11_wave := goodIn_r _ [859, 18, 860, 861, 862, 863, 864, 32, 865, 866, 867, 868, 2, 869, 870, 1612, 1613, 1614, 1615, 1616, 1617, 1618, 1619, 1620, 1621, 1622, 1623, 1624, 1625, 1713, 1714, 1715, 1716, 1717, 1718, 1719, 1720, 1721, 1722, 1723, 1724, 1725, 1726, 1788, 1789, 1790, 1791, 1792, 1793, 1794, 1795, 1747, 1748, 1749, 1750, 1751, 1752, 1753, 1754, 1755, 1756, 1757] (by decide +kernel) (by decide +kernel)
set_option maxRecDepth 20000 in
theorem gL_law_X11_wave : GoodIn wsL_law (wsV RL 49 RX11 yX11_wave wsX11_wave) := goodIn_app (goodIn_of _ (by decide +kernel)) ggL_law_X11_wave
set_option maxRecDepth 20000 in
theorem ggL_law_X12_wave : GoodIn wsL_law wsX12_wave := goodIn_r _ [874, 305, 225, 226, 227, 224, 243, 875, 876, 877, 5, 878, 278, 1626, 1627, 1628, 1629, 1630, 1631, 1632, 1633, 1634, 1635, 1636, 1637, 1638, 1639, 1640, 1641, 1642, 1643, 1644, 1645, 1646, 1647, 1648, 1649, 1650, 1651, 1652, 1653, 1654, 1655, 1656, 1657, 1658, 1659, 1660, 1661, 1662, 1663, 1664, 1665, 1666, 1667, 1668, 1669, 1670, 1671, 1672, 1673, 1674, 1675, 1676, 1677, 1678, 1679, 1680, 1681, 1682, 1683, 1684, 1685, 1686, 1687, 1688, 1689, 1690, 1691, 1692, 1693, 1694, 1695, 1696, 1697, 1698, 1699, 1700, 1701, 1702, 1703, 1704, 1705, 1706, 1707, 1708, 1709, 1710, 1711, 1712] (by decide +kernel) (by decide +kernel)
set_option maxRecDepth 20000 in
theorem gL_law_X12_wave : GoodIn wsL_law (wsV RL 52 RX12 yX12_wave wsX12_wave) := goodIn_app (goodIn_of _ (by decide +kernel)) ggL_law_X12_wave
set_option maxRecDepth 20000 in
theorem ggL_law_X11_peak : GoodIn wsL_law wsX11_peak := goodIn_r _ [882, 18, 883, 884, 27, 794, 565, 566, 26, 567, 159, 568, 569, 570, 571, 572, 573, 353, 574, 575, 576, 577, 578, 579, 580, 581, 582, 163, 583, 164, 584, 585, 586, 62, 587, 345, 90, 588, 589, 590, 591, 592, 593, 594, 595, 596, 597, 598, 599, 1612, 1613, 1614, 1615, 1616, 1617, 1618, 1619, 1620, 1621, 1622, 1623, 1624, 1625, 1713, 1714, 1715, 1716, 1717, 1718, 1719, 1720, 1721, 1722, 1723, 1724, 1725, 1726, 1738, 1739, 1740, 1741, 1742, 1743, 1744, 1745, 1746, 1796, 1797, 1798] (by decide +kernel) (by decide +kernel)
set_option maxRecDepth 20000 in
theorem gL_law_X11_peak : GoodIn wsL_law (wsV RL 53 RX11 yX11_peak wsX11_peak) := goodIn_app (goodIn_of _ (by decide +kernel)) ggL_law_X11_peak
set_option maxRecDepth 20000 in
theorem ggL_law_X12_peak : GoodIn wsL_law wsX12_peak := goodIn_r _ [888, 305, 665, 666, 5, 667, 814, 815, 816, 817, 217, 247, 274, 818, 819, 820, 821, 236, 226, 224, 227, 822, 823, 824, 825, 228, 826, 827, 828, 829, 830, 229, 230, 237, 831, 832, 833, 834, 231, 232, 233, 835, 836, 837, 838, 839, 840, 841, 842, 843, 844, 845, 846, 847, 1626, 1627, 1628, 1629, 1630, 1631, 1632, 1633, 1634, 1635, 1636, 1637, 1638, 1639, 1640, 1641, 1642, 1643, 1644, 1645, 1646, 1647, 1648, 1649, 1650, 1651, 1652, 1653, 1654, 1655, 1656, 1657, 1658, 1659, 1660, 1661, 1662, 1663, 1664, 1665, 1666, 1667, 1668, 1669, 1670, 1671, 1672, 1673, 1674, 1675, 1676, 1677, 1678, 1679, 1680, 1681, 1682, 1683, 1684, 1685, 1686, 1687, 1688, 1689, 1690, 1691, 1692, 1693, 1694, 1695, 1696, 1697, 1698, 1699, 1700, 1701, 1702, 1703, 1704, 1705, 1706, 1707, 1708, 1709, 1710, 1711, 1712] (by decide +kernel) (by decide +kernel)
set_option maxRecDepth 20000 in
theorem gL_law_X12_peak : GoodIn wsL_law (wsV RL 56 RX12 yX12_peak wsX12_peak) := goodIn_app (goodIn_of _ (by decide +kernel)) ggL_law_X12_peak
set_option maxRecDepth 20000 in
theorem ggL_law_X11_odds : GoodIn wsL_law wsX11_odds := goodIn_r _ [892, 27, 785, 786, 787, 2, 788, 18, 758, 759, 866, 867, 868, 869, 860, 870, 893, 894, 895, 896, 897, 898, 899, 17, 900, 63, 64, 901, 902, 903, 26, 904, 159, 583, 163, 164, 569, 905, 906, 353, 907, 908, 572, 573, 574, 575, 576, 577, 909, 910, 911, 912, 162, 913, 914, 915, 916, 917, 160, 561, 918, 563, 919, 920, 796, 797, 798, 799, 800, 801, 326, 921, 922, 923, 924, 584, 585, 586, 62, 587, 345, 90, 588, 589, 590, 591, 592, 593, 594, 595, 596, 597, 598, 599, 925, 926, 927, 928, 1612, 1613, 1614, 1615, 1616, 1617, 1618, 1619, 1620, 1621, 1622, 1623, 1624, 1625, 1713, 1714, 1715, 1716, 1717, 1718, 1719, 1720, 1721, 1722, 1723, 1724, 1725, 1726, 1781, 1782, 1783, 1784, 1785, 1786, 1787, 1788, 1789, 1790, 1791, 1792, 1793, 1794, 1795, 1738, 1739, 1740, 1741, 1742, 1743, 1744, 1745, 1746, 1796, 1797, 1798] (by decide +kernel) (by decide +kernel)
set_option maxRecDepth 20000 in
theorem gL_law_X11_odds : GoodIn wsL_law (wsV RL 57 RX11 yX11_odds wsX11_odds) := goodIn_app (goodIn_of _ (by decide +kernel)) ggL_law_X11_odds
set_option maxRecDepth 20000 in
theorem ggL_law_X12_odds : GoodIn wsL_law wsX12_odds := goodIn_r _ [932, 305, 806, 807, 808, 5, 809, 276, 875, 876, 877, 878, 278, 933, 934, 935, 936, 937, 938, 939, 940, 274, 275, 941, 942, 943, 944, 945, 946, 947, 948, 225, 814, 815, 816, 817, 217, 247, 818, 819, 820, 821, 236, 226, 224, 227, 822, 823, 824, 825, 228, 826, 827, 828, 829, 830, 229, 230, 237, 831, 832, 833, 834, 231, 232, 233, 835, 836, 837, 838, 839, 840, 841, 842, 843, 844, 845, 846, 847, 848, 849, 850, 851, 949, 950, 951, 952, 220, 1626, 1627, 1628, 1629, 1630, 1631, 1632, 1633, 1634, 1635, 1636, 1637, 1638, 1639, 1640, 1641, 1642, 1643, 1644, 1645, 1646, 1647, 1648, 1649, 1650, 1651, 1652, 1653, 1654, 1655, 1656, 1657, 1658, 1659, 1660, 1661, 1662, 1663, 1664, 1665, 1666, 1667, 1668, 1669, 1670, 1671, 1672, 1673, 1674, 1675, 1676, 1677, 1678, 1679, 1680, 1681, 1682, 1683, 1684, 1685, 1686, 1687, 1688, 1689, 1690, 1691, 1692, 1693, 1694, 1695, 1696, 1697, 1698, 1699, 1700, 1701, 1702, 1703, 1704, 1705, 1706, 1707, 1708, 1709, 1710, 1711, 1712] (by decide +kernel) (by decide +kernel)
set_option maxRecDepth 20000 in
theorem gL_law_X12_odds : GoodIn wsL_law (wsV RL 61 RX12 yX12_odds wsX12_odds) := goodIn_app (goodIn_of _ (by decide +kernel)) ggL_law_X12_odds
set_option maxRecDepth 20000 in
theorem ggL_law_X11_law : GoodIn wsL_law wsX11_law := goodIn_r _ [956, 27, 32, 793, 957, 779, 958, 580, 581, 26, 582, 163, 159, 583, 164, 584, 585, 586, 62, 587, 345, 90, 588, 589, 590, 591, 592, 593, 594, 595, 596, 597, 598, 599, 785, 786, 787, 2, 788, 18, 758, 759, 866, 867, 868, 869, 860, 870, 959, 960, 961, 962, 909, 910, 911, 912, 162, 913, 914, 915, 916, 917, 160, 561, 918, 563, 919, 920, 796, 797, 17, 798, 63, 799, 800, 353, 801, 326, 921, 922, 923, 924, 963, 964, 965, 966, 1612, 1613, 1614, 1615, 1616, 1617, 1618, 1619, 1620, 1621, 1622, 1623, 1624, 1625, 1747, 1748, 1749, 1750, 1751, 1752, 1753, 1754, 1755, 1756, 1757, 1738, 1739, 1740, 1741, 1742, 1743, 1744, 1745, 1746, 1713, 1714, 1715, 1716, 1717, 1718, 1719, 1720, 1721, 1722, 1723, 1724, 1725, 1726, 1796, 1797, 1798, 1781, 1782, 1783, 1784, 1785, 1786, 1787, 1788, 1789, 1790, 1791, 1792, 1793, 1794, 1795] (by decide +kernel) (by decide +kernel)
set_option maxRecDepth 20000 in
theorem gL_law_X11_law : GoodIn wsL_law (wsV RL 62 RX11 yX11_law wsX11_law) := goodIn_app (goodIn_of _ (by decide +kernel)) ggL_law_X11_law
set_option maxRecDepth 20000 in
theorem ggL_law_X12_law : GoodIn wsL_law wsX12_law := goodIn_r _ [970, 305, 971, 228, 238, 220, 225, 244, 826, 665, 666, 5, 667, 806, 807, 808, 809, 276, 875, 876, 877, 878, 278, 945, 946, 947, 948, 274, 814, 815, 816, 817, 217, 247, 818, 819, 820, 821, 236, 226, 224, 227, 822, 823, 824, 825, 827, 828, 829, 830, 229, 230, 237, 831, 832, 833, 834, 231, 232, 233, 835, 836, 837, 838, 839, 840, 841, 842, 843, 844, 845, 846, 847, 848, 849, 850, 851, 949, 950, 951, 952, 1626, 1627, 1628, 1629, 1630, 1631, 1632, 1633, 1634, 1635, 1636, 1637, 1638, 1639, 1640, 1641, 1642, 1643, 1644, 1645, 1646, 1647, 1648, 1649, 1650, 1651, 1652, 1653, 1654, 1655, 1656, 1657, 1658, 1659, 1660, 1661, 1662, 1663, 1664, 1665, 1666, 1667, 1668, 1669, 1670, 1671, 1672, 1673, 1674, 1675, 1676, 1677, 1678, 1679, 1680, 1681, 1682, 1683, 1684, 1685, 1686, 1687, 1688, 1689, 1690, 1691, 1692, 1693, 1694, 1695, 1696, 1697, 1698, 1699, 1700, 1701, 1702, 1703, 1704, 1705, 1706, 1707, 1708, 1709, 1710, 1711, 1712] (by decide +kernel) (by decide +kernel)
set_option maxRecDepth 20000 in
theorem gL_law_X12_law : GoodIn wsL_law (wsV RL 66 RX12 yX12_law wsX12_law) := goodIn_app (goodIn_of _ (by decide +kernel)) ggL_law_X12_law
set_option maxRecDepth 20000 in
theorem ggL_law_X11_stroke : GoodIn wsL_law wsX11_stroke := goodIn_r _ [975, 32, 779, 18, 793, 784, 758, 783, 42, 785, 786, 787, 2, 788, 759, 976, 977, 978, 17, 979, 63, 64, 980, 981, 982, 983, 984, 922, 923, 924, 985, 986, 987, 31, 988, 175, 989, 990, 991, 41, 992, 993, 193, 994, 557, 558, 559, 194, 1612, 1613, 1614, 1615, 1616, 1617, 1618, 1619, 1620, 1621, 1622, 1623, 1624, 1625, 1747, 1748, 1749, 1750, 1751, 1752, 1753, 1754, 1755, 1756, 1757, 1713, 1714, 1715, 1716, 1717, 1718, 1719, 1720, 1721, 1722, 1723, 1724, 1725, 1726, 1781, 1782, 1783, 1784, 1785, 1786, 1787, 1765, 1766, 1767] (by decide +kernel) (by decide +kernel)
set_option maxRecDepth 20000 in
theorem gL_law_X11_stroke : GoodIn wsL_law (wsV RL 67 RX11 yX11_stroke wsX11_stroke) := goodIn_app (goodIn_of _ (by decide +kernel)) ggL_law_X11_stroke
set_option maxRecDepth 20000 in
theorem ggL_law_X12_stroke : GoodIn wsL_law wsX12_stroke := goodIn_r _ [998, 305, 238, 241, 242, 806, 807, 808, 5, 809, 276, 665, 666, 667, 999, 1000, 1001, 1002, 274, 275, 1003, 1004, 1005, 1006, 290, 256, 287, 1626, 1627, 1628, 1629, 1630, 1631, 1632, 1633, 1634, 1635, 1636, 1637, 1638, 1639, 1640, 1641, 1642, 1643, 1644, 1645, 1646, 1647, 1648, 1649, 1650, 1651, 1652, 1653, 1654, 1655, 1656, 1657, 1658, 1659, 1660, 1661, 1662, 1663, 1664, 1665, 1666, 1667, 1668, 1669, 1670, 1671, 1672, 1673, 1674, 1675, 1676, 1677, 1678, 1679, 1680, 1681, 1682, 1683, 1684, 1685, 1686, 1687, 1688, 1689, 1690, 1691, 1692, 1693, 1694, 1695, 1696, 1697, 1698, 1699, 1700, 1701, 1702, 1703, 1704, 1705, 1706, 1707, 1708, 1709, 1710, 1711, 1712] (by decide +kernel) (by decide +kernel)
set_option maxRecDepth 20000 in
theorem gL_law_X12_stroke : GoodIn wsL_law (wsV RL 70 RX12 yX12_stroke wsX12_stroke) := goodIn_app (goodIn_of _ (by decide +kernel)) ggL_law_X12_stroke
set_option maxRecDepth 20000 in
theorem ggL_law_X11_rule : GoodIn wsL_law wsX11_rule := goodIn_r _ [1010, 32, 1011, 42, 1012, 1013, 1014, 2, 1015, 989, 990, 991, 41, 992, 993, 193, 994, 557, 558, 559, 194, 1612, 1613, 1614, 1615, 1616, 1617, 1618, 1619, 1620, 1621, 1622, 1623, 1624, 1625, 1747, 1748, 1749, 1750, 1751, 1752, 1753, 1754, 1755, 1756, 1757, 1765, 1766, 1767] (by decide +kernel) (by decide +kernel)
set_option maxRecDepth 20000 in
theorem gL_law_X11_rule : GoodIn wsL_law (wsV RL 71 RX11 yX11_rule wsX11_rule) := goodIn_app (goodIn_of _ (by decide +kernel)) ggL_law_X11_rule
set_option maxRecDepth 20000 in
theorem ggL_law_X12_rule : GoodIn wsL_law wsX12_rule := goodIn_r _ [1019, 305, 287, 665, 666, 5, 667, 1003, 1004, 1005, 1006, 290, 256, 238, 242, 1626, 1627, 1628, 1629, 1630, 1631, 1632, 1633, 1634, 1635, 1636, 1637, 1638, 1639, 1640, 1641, 1642, 1643, 1644, 1645, 1646, 1647, 1648, 1649, 1650, 1651, 1652, 1653, 1654, 1655, 1656, 1657, 1658, 1659, 1660, 1661, 1662, 1663, 1664, 1665, 1666, 1667, 1668, 1669, 1670, 1671, 1672, 1673, 1674, 1675, 1676, 1677, 1678, 1679, 1680, 1681, 1682, 1683, 1684, 1685, 1686, 1687, 1688, 1689, 1690, 1691, 1692, 1693, 1694, 1695, 1696, 1697, 1698, 1699, 1700, 1701, 1702, 1703, 1704, 1705, 1706, 1707, 1708, 1709, 1710, 1711, 1712] (by decide +kernel) (by decide +kernel)
set_option maxRecDepth 20000 in
theorem gL_law_X12_rule : GoodIn wsL_law (wsV RL 75 RX12 yX12_rule wsX12_rule) := goodIn_app (goodIn_of _ (by decide +kernel)) ggL_law_X12_rule
set_option maxRecDepth 20000 in
theorem ggL_law_X11_minutes : GoodIn wsL_law wsX11_minutes := goodIn_r _ [1023, 32, 793, 1024, 1025, 1026, 2, 1027, 18, 860, 870, 861, 27, 758, 759, 42, 548, 1028, 1029, 1030, 57, 1031, 340, 82, 1032, 1033, 1034, 26, 1035, 159, 561, 563, 1036, 1037, 165, 1038, 1039, 1040, 1041, 1042, 1043, 1044, 554, 1045, 166, 1046, 167, 1047, 986, 987, 31, 988, 175, 1048, 902, 903, 904, 583, 163, 164, 569, 905, 906, 353, 907, 908, 572, 573, 574, 575, 576, 577, 909, 910, 911, 912, 162, 913, 914, 915, 916, 917, 160, 918, 919, 920, 796, 797, 17, 798, 63, 799, 800, 801, 326, 921, 922, 923, 924, 584, 585, 586, 62, 587, 345, 90, 588, 589, 590, 591, 592, 593, 594, 595, 596, 597, 598, 599, 925, 926, 927, 928, 1049, 1050, 1051, 1052, 1053, 1054, 1055, 1056, 1057, 1058, 562, 1059, 1060, 1061, 1062, 1063, 1064, 1065, 1066, 1067, 1068, 1069, 1070, 608, 1071, 1072, 1073, 1074, 1075, 1076, 1077, 161, 1078, 1079, 1080, 1081, 1082, 1083, 1084, 1085, 1086, 1087, 1088, 1089, 1090, 1091, 604, 176, 1092, 1612, 1613, 1614, 1615, 1616, 1617, 1618, 1619, 1620, 1621, 1622, 1623, 1624, 1625, 1747, 1748, 1749, 1750, 1751, 1752, 1753, 1754, 1755, 1756, 1757, 1713, 1714, 1715, 1716, 1717, 1718, 1719, 1720, 1721, 1722, 1723, 1724, 1725, 1726, 1788, 1789, 1790, 1791, 1792, 1793, 1794, 1795, 1781, 1782, 1783, 1784, 1785, 1786, 1787, 1765, 1766, 1767, 1738, 1739, 1740, 1741, 1742, 1743, 1744, 1745, 1746, 1796, 1797, 1798] (by decide +kernel) (by decide +kernel)
set_option maxRecDepth 20000 in
theorem gL_law_X11_minutes : GoodIn wsL_law (wsV RL 76 RX11 yX11_minutes wsX11_minutes) := goodIn_app (goodIn_of _ (by decide +kernel)) ggL_law_X11_minutes
set_option maxRecDepth 20000 in
theorem ggL_law_X12_minutes : GoodIn wsL_law wsX12_minutes := goodIn_r _ [1096, 305, 244, 287, 276, 242, 221, 290, 665, 666, 5, 667, 1097, 1098, 1099, 1100, 278, 225, 241, 1101, 1102, 1103, 1104, 1105, 248, 238, 243, 246, 247, 222, 245, 240, 239, 1106, 1107, 1108, 1109, 1110, 1111, 1112, 1113, 1114, 941, 942, 943, 944, 945, 946, 947, 948, 274, 814, 815, 816, 817, 217, 818, 819, 820, 821, 236, 226, 224, 227, 822, 823, 824, 825, 228, 826, 827, 828, 829, 830, 229, 230, 237, 831, 832, 833, 834, 231, 232, 233, 835, 836, 837, 838, 839, 840, 841, 842, 843, 844, 845, 846, 847, 848, 849, 850, 851, 949, 950, 951, 952, 220, 1115, 1116, 1117, 1118, 1119, 1120, 1121, 1122, 288, 1123, 1124, 1125, 1126, 1127, 1128, 1129, 1130, 1131, 1132, 1133, 1134, 1626, 1627, 1628, 1629, 1630, 1631, 1632, 1633, 1634, 1635, 1636, 1637, 1638, 1639, 1640, 1641, 1642, 1643, 1644, 1645, 1646, 1647, 1648, 1649, 1650, 1651, 1652, 1653, 1654, 1655, 1656, 1657, 1658, 1659, 1660, 1661, 1662, 1663, 1664, 1665, 1666, 1667, 1668, 1669, 1670, 1671, 1672, 1673, 1674, 1675, 1676, 1677, 1678, 1679, 1680, 1681, 1682, 1683, 1684, 1685, 1686, 1687, 1688, 1689, 1690, 1691, 1692, 1693, 1694, 1695, 1696, 1697, 1698, 1699, 1700, 1701, 1702, 1703, 1704, 1705, 1706, 1707, 1708, 1709, 1710, 1711, 1712] (by decide +kernel) (by decide +kernel)
set_option maxRecDepth 20000 in
theorem gL_law_X12_minutes : GoodIn wsL_law (wsV RL 79 RX12 yX12_minutes wsX12_minutes) := goodIn_app (goodIn_of _ (by decide +kernel)) ggL_law_X12_minutes
set_option maxRecDepth 20000 in
theorem ggL_law_X11_order : GoodIn wsL_law wsX11_order := goodIn_r _ [1138, 27, 32, 793, 1139, 1140, 1141, 1142, 2, 1143, 18, 860, 861, 866, 867, 868, 869, 870, 1144, 1042, 1043, 26, 1044, 159, 554, 1045, 166, 1046, 167, 1047, 986, 987, 31, 988, 175, 1048, 902, 903, 904, 583, 163, 164, 569, 905, 906, 353, 907, 908, 572, 573, 574, 575, 576, 577, 909, 910, 911, 912, 162, 913, 914, 915, 916, 917, 160, 561, 918, 563, 919, 920, 796, 797, 17, 798, 63, 799, 800, 801, 326, 921, 922, 923, 924, 584, 585, 586, 62, 587, 345, 90, 588, 589, 590, 591, 592, 593, 594, 595, 596, 597, 598, 599, 925, 926, 927, 928, 1049, 1050, 1051, 1052, 1053, 1038, 1054, 1055, 1056, 1057, 1058, 562, 1036, 1059, 1060, 1061, 1062, 165, 1612, 1613, 1614, 1615, 1616, 1617, 1618, 1619, 1620, 1621, 1622, 1623, 1624, 1625, 1747, 1748, 1749, 1750, 1751, 1752, 1753, 1754, 1755, 1756, 1757, 1738, 1739, 1740, 1741, 1742, 1743, 1744, 1745, 1746, 1713, 1714, 1715, 1716, 1717, 1718, 1719, 1720, 1721, 1722, 1723, 1724, 1725, 1726, 1788, 1789, 1790, 1791, 1792, 1793, 1794, 1795, 1781, 1782, 1783, 1784, 1785, 1786, 1787, 1796, 1797, 1798] (by decide +kernel) (by decide +kernel)
set_option maxRecDepth 20000 in
theorem gL_law_X11_order : GoodIn wsL_law (wsV RL 80 RX11 yX11_order wsX11_order) := goodIn_app (goodIn_of _ (by decide +kernel)) ggL_law_X11_order
set_option maxRecDepth 20000 in
theorem ggL_law_X12_order : GoodIn wsL_law wsX12_order := goodIn_r _ [1148, 305, 287, 1105, 248, 1149, 1150, 1151, 5, 1152, 243, 875, 876, 877, 878, 278, 1106, 1107, 1108, 1109, 276, 1110, 1111, 1112, 1113, 241, 247, 1114, 238, 941, 942, 943, 944, 945, 946, 947, 948, 225, 274, 814, 815, 816, 817, 217, 818, 819, 820, 821, 236, 226, 224, 227, 822, 823, 824, 825, 228, 826, 827, 828, 829, 830, 229, 230, 237, 831, 832, 833, 834, 231, 232, 233, 835, 836, 837, 838, 839, 840, 841, 842, 843, 844, 845, 846, 847, 848, 849, 850, 851, 949, 950, 951, 952, 220, 1115, 1116, 1117, 1118, 239, 1626, 1627, 1628, 1629, 1630, 1631, 1632, 1633, 1634, 1635, 1636, 1637, 1638, 1639, 1640, 1641, 1642, 1643, 1644, 1645, 1646, 1647, 1648, 1649, 1650, 1651, 1652, 1653, 1654, 1655, 1656, 1657, 1658, 1659, 1660, 1661, 1662, 1663, 1664, 1665, 1666, 1667, 1668, 1669, 1670, 1671, 1672, 1673, 1674, 1675, 1676, 1677, 1678, 1679, 1680, 1681, 1682, 1683, 1684, 1685, 1686, 1687, 1688, 1689, 1690, 1691, 1692, 1693, 1694, 1695, 1696, 1697, 1698, 1699, 1700, 1701, 1702, 1703, 1704, 1705, 1706, 1707, 1708, 1709, 1710, 1711, 1712] (by decide +kernel) (by decide +kernel)
set_option maxRecDepth 20000 in
theorem gL_law_X12_order : GoodIn wsL_law (wsV RL 83 RX12 yX12_order wsX12_order) := goodIn_app (goodIn_of _ (by decide +kernel)) ggL_law_X12_order
set_option maxRecDepth 20000 in
theorem ggL_law_X11_deeper : GoodIn wsL_law wsX11_deeper := goodIn_r _ [1156, 785, 786, 787, 2, 788, 18, 758, 759, 789, 790, 791, 792, 32, 779, 27, 793, 794, 565, 566, 26, 567, 159, 568, 569, 570, 571, 572, 573, 353, 574, 575, 576, 577, 578, 579, 580, 581, 582, 163, 583, 164, 584, 585, 586, 62, 587, 345, 90, 588, 589, 590, 591, 592, 593, 594, 595, 596, 597, 598, 599, 795, 796, 797, 17, 798, 63, 799, 800, 801, 326, 1612, 1613, 1614, 1615, 1616, 1617, 1618, 1619, 1620, 1621, 1622, 1623, 1624, 1625, 1713, 1714, 1715, 1716, 1717, 1718, 1719, 1720, 1721, 1722, 1723, 1724, 1725, 1726, 1781, 1782, 1783, 1784, 1785, 1786, 1787, 1747, 1748, 1749, 1750, 1751, 1752, 1753, 1754, 1755, 1756, 1757, 1738, 1739, 1740, 1741, 1742, 1743, 1744, 1745, 1746, 1796, 1797, 1798] (by decide +kernel) (by decide +kernel)
set_option maxRecDepth 20000 in
theorem gL_law_X11_deeper : GoodIn wsL_law (wsV RL 84 RX11 yX11_deeper wsX11_deeper) := goodIn_app (goodIn_of _ (by decide +kernel)) ggL_law_X11_deeper
set_option maxRecDepth 20000 in
theorem ggL_law_X12_deeper : GoodIn wsL_law wsX12_deeper := goodIn_r _ [1160, 305, 244, 238, 806, 807, 808, 5, 809, 276, 814, 815, 816, 817, 217, 247, 274, 818, 819, 820, 821, 236, 226, 224, 227, 822, 823, 824, 825, 228, 826, 827, 828, 829, 830, 229, 230, 237, 831, 832, 833, 834, 231, 232, 233, 835, 836, 837, 838, 839, 840, 841, 842, 843, 844, 845, 846, 847, 848, 849, 850, 851, 1626, 1627, 1628, 1629, 1630, 1631, 1632, 1633, 1634, 1635, 1636, 1637, 1638, 1639, 1640, 1641, 1642, 1643, 1644, 1645, 1646, 1647, 1648, 1649, 1650, 1651, 1652, 1653, 1654, 1655, 1656, 1657, 1658, 1659, 1660, 1661, 1662, 1663, 1664, 1665, 1666, 1667, 1668, 1669, 1670, 1671, 1672, 1673, 1674, 1675, 1676, 1677, 1678, 1679, 1680, 1681, 1682, 1683, 1684, 1685, 1686, 1687, 1688, 1689, 1690, 1691, 1692, 1693, 1694, 1695, 1696, 1697, 1698, 1699, 1700, 1701, 1702, 1703, 1704, 1705, 1706, 1707, 1708, 1709, 1710, 1711, 1712] (by decide +kernel) (by decide +kernel)
set_option maxRecDepth 20000 in
theorem gL_law_X12_deeper : GoodIn wsL_law (wsV RL 87 RX12 yX12_deeper wsX12_deeper) := goodIn_app (goodIn_of _ (by decide +kernel)) ggL_law_X12_deeper
set_option maxRecDepth 20000 in
theorem ggL_law_X11_seat : GoodIn wsL_law wsX11_seat := goodIn_r _ [1164, 27, 785, 786, 787, 2, 788, 18, 758, 759, 893, 894, 895, 896, 897, 898, 899, 17, 900, 63, 64, 1165, 1166, 1167, 1168, 860, 32, 793, 1028, 1029, 1030, 57, 1031, 340, 82, 1169, 1170, 1171, 26, 1172, 159, 561, 562, 1173, 1174, 1175, 1176, 918, 1048, 902, 903, 904, 583, 163, 164, 569, 905, 906, 353, 907, 908, 572, 573, 574, 575, 576, 577, 909, 910, 911, 912, 162, 913, 914, 915, 916, 917, 160, 563, 919, 920, 796, 797, 798, 799, 800, 801, 326, 921, 922, 923, 924, 584, 585, 586, 62, 587, 345, 90, 588, 589, 590, 591, 592, 593, 594, 595, 596, 597, 598, 599, 925, 926, 927, 928, 1612, 1613, 1614, 1615, 1616, 1617, 1618, 1619, 1620, 1621, 1622, 1623, 1624, 1625, 1713, 1714, 1715, 1716, 1717, 1718, 1719, 1720, 1721, 1722, 1723, 1724, 1725, 1726, 1781, 1782, 1783, 1784, 1785, 1786, 1787, 1747, 1748, 1749, 1750, 1751, 1752, 1753, 1754, 1755, 1756, 1757, 1788, 1789, 1790, 1791, 1792, 1793, 1794, 1795, 1738, 1739, 1740, 1741, 1742, 1743, 1744, 1745, 1746, 1796, 1797, 1798] (by decide +kernel) (by decide +kernel)
set_option maxRecDepth 20000 in
theorem gL_law_X11_seat : GoodIn wsL_law (wsV RL 88 RX11 yX11_seat wsX11_seat) := goodIn_app (goodIn_of _ (by decide +kernel)) ggL_law_X11_seat
set_option maxRecDepth 20000 in
theorem ggL_law_X12_seat : GoodIn wsL_law wsX12_seat := goodIn_r _ [1180, 305, 244, 806, 807, 808, 5, 809, 276, 933, 934, 935, 936, 937, 938, 939, 940, 274, 275, 1181, 1182, 1183, 1184, 278, 225, 1185, 1186, 1187, 1188, 226, 941, 942, 943, 944, 945, 946, 947, 948, 814, 815, 816, 817, 217, 247, 818, 819, 820, 821, 236, 224, 227, 822, 823, 824, 825, 228, 826, 827, 828, 829, 830, 229, 230, 237, 831, 832, 833, 834, 231, 232, 233, 835, 836, 837, 838, 839, 840, 841, 842, 843, 844, 845, 846, 847, 848, 849, 850, 851, 949, 950, 951, 952, 220, 1626, 1627, 1628, 1629, 1630, 1631, 1632, 1633, 1634, 1635, 1636, 1637, 1638, 1639, 1640, 1641, 1642, 1643, 1644, 1645, 1646, 1647, 1648, 1649, 1650, 1651, 1652, 1653, 1654, 1655, 1656, 1657, 1658, 1659, 1660, 1661, 1662, 1663, 1664, 1665, 1666, 1667, 1668, 1669, 1670, 1671, 1672, 1673, 1674, 1675, 1676, 1677, 1678, 1679, 1680, 1681, 1682, 1683, 1684, 1685, 1686, 1687, 1688, 1689, 1690, 1691, 1692, 1693, 1694, 1695, 1696, 1697, 1698, 1699, 1700, 1701, 1702, 1703, 1704, 1705, 1706, 1707, 1708, 1709, 1710, 1711, 1712] (by decide +kernel) (by decide +kernel)
set_option maxRecDepth 20000 in
theorem gL_law_X12_seat : GoodIn wsL_law (wsV RL 91 RX12 yX12_seat wsX12_seat) := goodIn_app (goodIn_of _ (by decide +kernel)) ggL_law_X12_seat
set_option maxRecDepth 20000 in
theorem ggL_law_X11_best : GoodIn wsL_law wsX11_best := goodIn_r _ [1192, 18, 27, 785, 786, 787, 2, 788, 758, 759, 897, 898, 899, 17, 900, 63, 64, 1165, 1166, 1167, 1168, 860, 32, 793, 1028, 1029, 1030, 57, 1031, 340, 82, 1169, 1170, 1171, 26, 1172, 159, 561, 562, 1173, 1174, 1175, 1176, 918, 1048, 902, 903, 904, 583, 163, 164, 569, 905, 906, 353, 907, 908, 572, 573, 574, 575, 576, 577, 909, 910, 911, 912, 162, 913, 914, 915, 916, 917, 160, 563, 919, 920, 796, 797, 798, 799, 800, 801, 326, 921, 922, 923, 924, 584, 585, 586, 62, 587, 345, 90, 588, 589, 590, 591, 592, 593, 594, 595, 596, 597, 598, 599, 925, 926, 927, 928, 1612, 1613, 1614, 1615, 1616, 1617, 1618, 1619, 1620, 1621, 1622, 1623, 1624, 1625, 1713, 1714, 1715, 1716, 1717, 1718, 1719, 1720, 1721, 1722, 1723, 1724, 1725, 1726, 1781, 1782, 1783, 1784, 1785, 1786, 1787, 1747, 1748, 1749, 1750, 1751, 1752, 1753, 1754, 1755, 1756, 1757, 1788, 1789, 1790, 1791, 1792, 1793, 1794, 1795, 1738, 1739, 1740, 1741, 1742, 1743, 1744, 1745, 1746, 1796, 1797, 1798] (by decide +kernel) (by decide +kernel)
set_option maxRecDepth 20000 in
theorem gL_law_X11_best : GoodIn wsL_law (wsV RL 92 RX11 yX11_best wsX11_best) := goodIn_app (goodIn_of _ (by decide +kernel)) ggL_law_X11_best
set_option maxRecDepth 20000 in
theorem ggL_law_X12_best : GoodIn wsL_law wsX12_best := goodIn_r _ [1196, 305, 244, 806, 807, 808, 5, 809, 276, 937, 938, 939, 940, 274, 275, 1181, 1182, 1183, 1184, 278, 225, 1185, 1186, 1187, 1188, 226, 941, 942, 943, 944, 945, 946, 947, 948, 814, 815, 816, 817, 217, 247, 818, 819, 820, 821, 236, 224, 227, 822, 823, 824, 825, 228, 826, 827, 828, 829, 830, 229, 230, 237, 831, 832, 833, 834, 231, 232, 233, 835, 836, 837, 838, 839, 840, 841, 842, 843, 844, 845, 846, 847, 848, 849, 850, 851, 949, 950, 951, 952, 220, 1626, 1627, 1628, 1629, 1630, 1631, 1632, 1633, 1634, 1635, 1636, 1637, 1638, 1639, 1640, 1641, 1642, 1643, 1644, 1645, 1646, 1647, 1648, 1649, 1650, 1651, 1652, 1653, 1654, 1655, 1656, 1657, 1658, 1659, 1660, 1661, 1662, 1663, 1664, 1665, 1666, 1667, 1668, 1669, 1670, 1671, 1672, 1673, 1674, 1675, 1676, 1677, 1678, 1679, 1680, 1681, 1682, 1683, 1684, 1685, 1686, 1687, 1688, 1689, 1690, 1691, 1692, 1693, 1694, 1695, 1696, 1697, 1698, 1699, 1700, 1701, 1702, 1703, 1704, 1705, 1706, 1707, 1708, 1709, 1710, 1711, 1712] (by decide +kernel) (by decide +kernel)
set_option maxRecDepth 20000 in
theorem gL_law_X12_best : GoodIn wsL_law (wsV RL 95 RX12 yX12_best wsX12_best) := goodIn_app (goodIn_of _ (by decide +kernel)) ggL_law_X12_best
set_option maxRecDepth 20000 in
theorem ggL_law_X11_rests : GoodIn wsL_law wsX11_rests := goodIn_r _ [1200, 46, 27, 32, 1201, 785, 786, 787, 2, 788, 18, 758, 759, 1202, 1203, 1204, 45, 1205, 1206, 1207, 1208, 1209, 1210, 1029, 1030, 57, 1031, 340, 82, 1211, 1212, 1213, 1214, 1215, 199, 200, 201, 1216, 977, 978, 17, 979, 63, 64, 980, 981, 982, 983, 984, 922, 923, 924, 1217, 926, 927, 26, 928, 159, 162, 920, 796, 797, 798, 799, 800, 353, 801, 326, 1218, 1174, 1175, 1176, 561, 918, 1048, 902, 903, 904, 583, 163, 164, 569, 905, 906, 907, 908, 572, 573, 574, 575, 576, 577, 909, 910, 911, 912, 913, 914, 915, 916, 917, 160, 563, 919, 921, 584, 585, 586, 62, 587, 345, 90, 588, 589, 590, 591, 592, 593, 594, 595, 596, 597, 598, 599, 925, 1219, 1220, 1221, 1222, 202, 203, 1223, 1224, 1225, 1226, 1227, 204, 1228, 1229, 1230, 1231, 1612, 1613, 1614, 1615, 1616, 1617, 1618, 1619, 1620, 1621, 1622, 1623, 1624, 1625, 1768, 1769, 1770, 1771, 1772, 1773, 1774, 1775, 1776, 1777, 1778, 1779, 1780, 1713, 1714, 1715, 1716, 1717, 1718, 1719, 1720, 1721, 1722, 1723, 1724, 1725, 1726, 1781, 1782, 1783, 1784, 1785, 1786, 1787, 1738, 1739, 1740, 1741, 1742, 1743, 1744, 1745, 1746, 1747, 1748, 1749, 1750, 1751, 1752, 1753, 1754, 1755, 1756, 1757, 1788, 1789, 1790, 1791, 1792, 1793, 1794, 1795, 1796, 1797, 1798] (by decide +kernel) (by decide +kernel)
set_option maxRecDepth 20000 in
theorem gL_law_X11_rests : GoodIn wsL_law (wsV RL 96 RX11 yX11_rests wsX11_rests) := goodIn_app (goodIn_of _ (by decide +kernel)) ggL_law_X11_rests
set_option maxRecDepth 20000 in
theorem ggL_law_X12_rests : GoodIn wsL_law wsX12_rests := goodIn_r _ [1235, 305, 806, 807, 808, 5, 809, 276, 1236, 1237, 1238, 1239, 1240, 1241, 1242, 1243, 249, 250, 278, 225, 1244, 1245, 1246, 1247, 1248, 1249, 1250, 238, 999, 1000, 1001, 1002, 274, 275, 665, 666, 667, 1149, 1150, 1151, 1152, 243, 875, 876, 877, 878, 814, 815, 816, 817, 217, 247, 818, 819, 820, 821, 236, 226, 224, 227, 822, 823, 824, 825, 228, 826, 827, 828, 829, 830, 229, 230, 237, 831, 832, 833, 834, 231, 232, 233, 835, 836, 837, 838, 839, 840, 841, 842, 843, 844, 845, 846, 847, 848, 849, 850, 851, 1185, 1186, 1187, 1188, 941, 942, 943, 944, 945, 946, 947, 948, 949, 950, 951, 952, 220, 1251, 1252, 1253, 1254, 1626, 1627, 1628, 1629, 1630, 1631, 1632, 1633, 1634, 1635, 1636, 1637, 1638, 1639, 1640, 1641, 1642, 1643, 1644, 1645, 1646, 1647, 1648, 1649, 1650, 1651, 1652, 1653, 1654, 1655, 1656, 1657, 1658, 1659, 1660, 1661, 1662, 1663, 1664, 1665, 1666, 1667, 1668, 1669, 1670, 1671, 1672, 1673, 1674, 1675, 1676, 1677, 1678, 1679, 1680, 1681, 1682, 1683, 1684, 1685, 1686, 1687, 1688, 1689, 1690, 1691, 1692, 1693, 1694, 1695, 1696, 1697, 1698, 1699, 1700, 1701, 1702, 1703, 1704, 1705, 1706, 1707, 1708, 1709, 1710, 1711, 1712] (by decide +kernel) (by decide +kernel)
set_option maxRecDepth 20000 in
theorem gL_law_X12_rests : GoodIn wsL_law (wsV RL 99 RX12 yX12_rests wsX12_rests) := goodIn_app (goodIn_of _ (by decide +kernel)) ggL_law_X12_rests
set_option maxRecDepth 20000 in
theorem ggL_law_X11_rest : GoodIn wsL_law wsX11_rest := goodIn_r _ [1258, 46, 27, 32, 1201, 1259, 785, 786, 787, 2, 788, 18, 758, 759, 1202, 1203, 1204, 45, 1205, 1206, 1207, 1208, 1209, 1210, 1029, 1030, 57, 1031, 340, 82, 1211, 1212, 1213, 1214, 1215, 199, 200, 201, 1216, 977, 978, 17, 979, 63, 64, 980, 981, 982, 983, 984, 922, 923, 924, 1217, 926, 927, 26, 928, 159, 162, 920, 796, 797, 798, 799, 800, 353, 801, 326, 1218, 1174, 1175, 1176, 561, 918, 1048, 902, 903, 904, 583, 163, 164, 569, 905, 906, 907, 908, 572, 573, 574, 575, 576, 577, 909, 910, 911, 912, 913, 914, 915, 916, 917, 160, 563, 919, 921, 584, 585, 586, 62, 587, 345, 90, 588, 589, 590, 591, 592, 593, 594, 595, 596, 597, 598, 599, 925, 1219, 1220, 1221, 1222, 202, 203, 1223, 1224, 1225, 1226, 1227, 204, 1228, 1229, 1230, 1231, 1612, 1613, 1614, 1615, 1616, 1617, 1618, 1619, 1620, 1621, 1622, 1623, 1624, 1625, 1768, 1769, 1770, 1771, 1772, 1773, 1774, 1775, 1776, 1777, 1778, 1779, 1780, 1713, 1714, 1715, 1716, 1717, 1718, 1719, 1720, 1721, 1722, 1723, 1724, 1725, 1726, 1781, 1782, 1783, 1784, 1785, 1786, 1787, 1738, 1739, 1740, 1741, 1742, 1743, 1744, 1745, 1746, 1747, 1748, 1749, 1750, 1751, 1752, 1753, 1754, 1755, 1756, 1757, 1788, 1789, 1790, 1791, 1792, 1793, 1794, 1795, 1796, 1797, 1798] (by decide +kernel) (by decide +kernel)
set_option maxRecDepth 20000 in
theorem gL_law_X11_rest : GoodIn wsL_law (wsV RL 100 RX11 yX11_rest wsX11_rest) := goodIn_app (goodIn_of _ (by decide +kernel)) ggL_law_X11_rest
set_option maxRecDepth 20000 in
theorem ggL_law_X12_rest : GoodIn wsL_law wsX12_rest := goodIn_r _ [1263, 305, 806, 807, 808, 5, 809, 276, 1236, 1237, 1238, 1239, 1240, 1241, 1242, 1243, 249, 250, 278, 225, 1244, 1245, 1246, 1247, 1248, 1249, 1250, 238, 999, 1000, 1001, 1002, 274, 275, 665, 666, 667, 1149, 1150, 1151, 1152, 243, 875, 876, 877, 878, 814, 815, 816, 817, 217, 247, 818, 819, 820, 821, 236, 226, 224, 227, 822, 823, 824, 825, 228, 826, 827, 828, 829, 830, 229, 230, 237, 831, 832, 833, 834, 231, 232, 233, 835, 836, 837, 838, 839, 840, 841, 842, 843, 844, 845, 846, 847, 848, 849, 850, 851, 1185, 1186, 1187, 1188, 941, 942, 943, 944, 945, 946, 947, 948, 949, 950, 951, 952, 220, 1251, 1252, 1253, 1254, 1626, 1627, 1628, 1629, 1630, 1631, 1632, 1633, 1634, 1635, 1636, 1637, 1638, 1639, 1640, 1641, 1642, 1643, 1644, 1645, 1646, 1647, 1648, 1649, 1650, 1651, 1652, 1653, 1654, 1655, 1656, 1657, 1658, 1659, 1660, 1661, 1662, 1663, 1664, 1665, 1666, 1667, 1668, 1669, 1670, 1671, 1672, 1673, 1674, 1675, 1676, 1677, 1678, 1679, 1680, 1681, 1682, 1683, 1684, 1685, 1686, 1687, 1688, 1689, 1690, 1691, 1692, 1693, 1694, 1695, 1696, 1697, 1698, 1699, 1700, 1701, 1702, 1703, 1704, 1705, 1706, 1707, 1708, 1709, 1710, 1711, 1712] (by decide +kernel) (by decide +kernel)
set_option maxRecDepth 20000 in
theorem gL_law_X12_rest : GoodIn wsL_law (wsV RL 103 RX12 yX12_rest wsX12_rest) := goodIn_app (goodIn_of _ (by decide +kernel)) ggL_law_X12_rest
set_option maxRecDepth 20000 in
theorem ggL_law_X11_rank : GoodIn wsL_law wsX11_rank := goodIn_r _ [1267, 18, 860, 1268, 1269, 1270, 1271, 57, 1272, 81, 1273, 1274, 1275, 1276, 80, 83, 1612, 1613, 1614, 1615, 1616, 1617, 1618, 1619, 1620, 1621, 1622, 1623, 1624, 1625, 1713, 1714, 1715, 1716, 1717, 1718, 1719, 1720, 1721, 1722, 1723, 1724, 1725, 1726, 1788, 1789, 1790, 1791, 1792, 1793, 1794, 1795] (by decide +kernel) (by decide +kernel)
set_option maxRecDepth 20000 in
theorem gL_law_X11_rank : GoodIn wsL_law (wsV RL 104 RX11 yX11_rank wsX11_rank) := goodIn_app (goodIn_of _ (by decide +kernel)) ggL_law_X11_rank
set_option maxRecDepth 20000 in
theorem ggL_law_X12_rank_ : GoodIn wsL_law wsX12_rank_ := goodIn_r _ [1280, 305, 277, 224, 226, 665, 666, 5, 667, 1281, 1282, 1283, 1284, 278, 1626, 1627, 1628, 1629, 1630, 1631, 1632, 1633, 1634, 1635, 1636, 1637, 1638, 1639, 1640, 1641, 1642, 1643, 1644, 1645, 1646, 1647, 1648, 1649, 1650, 1651, 1652, 1653, 1654, 1655, 1656, 1657, 1658, 1659, 1660, 1661, 1662, 1663, 1664, 1665, 1666, 1667, 1668, 1669, 1670, 1671, 1672, 1673, 1674, 1675, 1676, 1677, 1678, 1679, 1680, 1681, 1682, 1683, 1684, 1685, 1686, 1687, 1688, 1689, 1690, 1691, 1692, 1693, 1694, 1695, 1696, 1697, 1698, 1699, 1700, 1701, 1702, 1703, 1704, 1705, 1706, 1707, 1708, 1709, 1710, 1711, 1712] (by decide +kernel) (by decide +kernel)
set_option maxRecDepth 20000 in
theorem gL_law_X12_rank_ : GoodIn wsL_law (wsV RL 107 RX12 yX12_rank_ wsX12_rank_) := goodIn_app (goodIn_of _ (by decide +kernel)) ggL_law_X12_rank_
set_option maxRecDepth 20000 in
theorem ggL_law_X11_plan : GoodIn wsL_law wsX11_plan := goodIn_r _ [1288, 46, 27, 32, 1289, 785, 786, 787, 2, 788, 18, 758, 759, 1290, 1291, 1292, 45, 1293, 1206, 1207, 1208, 205, 1209, 206, 1294, 1215, 207, 1295, 906, 353, 907, 1296, 1210, 1029, 1030, 57, 1031, 340, 82, 1297, 1084, 1085, 26, 1086, 159, 583, 163, 164, 569, 1087, 572, 573, 574, 575, 576, 577, 914, 915, 916, 917, 160, 561, 918, 563, 919, 584, 585, 586, 62, 587, 345, 90, 588, 589, 590, 591, 592, 593, 594, 595, 596, 597, 598, 599, 1218, 1174, 1175, 1176, 1048, 902, 903, 904, 905, 908, 909, 910, 911, 912, 162, 913, 920, 796, 797, 17, 798, 63, 799, 800, 801, 326, 921, 922, 923, 924, 925, 926, 927, 928, 1298, 1299, 1300, 1301, 1302, 208, 1612, 1613, 1614, 1615, 1616, 1617, 1618, 1619, 1620, 1621, 1622, 1623, 1624, 1625, 1768, 1769, 1770, 1771, 1772, 1773, 1774, 1775, 1776, 1777, 1778, 1779, 1780, 1713, 1714, 1715, 1716, 1717, 1718, 1719, 1720, 1721, 1722, 1723, 1724, 1725, 1726, 1781, 1782, 1783, 1784, 1785, 1786, 1787, 1738, 1739, 1740, 1741, 1742, 1743, 1744, 1745, 1746, 1747, 1748, 1749, 1750, 1751, 1752, 1753, 1754, 1755, 1756, 1757, 1788, 1789, 1790, 1791, 1792, 1793, 1794, 1795, 1796, 1797, 1798] (by decide +kernel) (by decide +kernel)
set_option maxRecDepth 20000 in
theorem gL_law_X11_plan : GoodIn wsL_law (wsV RL 108 RX11 yX11_plan wsX11_plan) := goodIn_app (goodIn_of _ (by decide +kernel)) ggL_law_X11_plan
set_option maxRecDepth 20000 in
theorem ggL_law_X12_plan : GoodIn wsL_law wsX12_plan := goodIn_r _ [1306, 305, 251, 806, 807, 808, 5, 809, 276, 1307, 1308, 1309, 1310, 278, 225, 252, 238, 1131, 1132, 1133, 1134, 949, 950, 951, 952, 247, 220, 818, 819, 820, 821, 236, 226, 224, 227, 822, 823, 824, 825, 228, 826, 827, 828, 829, 830, 229, 230, 237, 831, 832, 833, 834, 231, 232, 233, 835, 836, 837, 838, 839, 840, 841, 842, 843, 844, 845, 846, 847, 1185, 1186, 1187, 1188, 941, 942, 943, 944, 945, 946, 947, 948, 274, 814, 815, 816, 817, 217, 848, 849, 850, 851, 1311, 1312, 1313, 1314, 243, 1626, 1627, 1628, 1629, 1630, 1631, 1632, 1633, 1634, 1635, 1636, 1637, 1638, 1639, 1640, 1641, 1642, 1643, 1644, 1645, 1646, 1647, 1648, 1649, 1650, 1651, 1652, 1653, 1654, 1655, 1656, 1657, 1658, 1659, 1660, 1661, 1662, 1663, 1664, 1665, 1666, 1667, 1668, 1669, 1670, 1671, 1672, 1673, 1674, 1675, 1676, 1677, 1678, 1679, 1680, 1681, 1682, 1683, 1684, 1685, 1686, 1687, 1688, 1689, 1690, 1691, 1692, 1693, 1694, 1695, 1696, 1697, 1698, 1699, 1700, 1701, 1702, 1703, 1704, 1705, 1706, 1707, 1708, 1709, 1710, 1711, 1712] (by decide +kernel) (by decide +kernel)
set_option maxRecDepth 20000 in
theorem gL_law_X12_plan : GoodIn wsL_law (wsV RL 111 RX12 yX12_plan wsX12_plan) := goodIn_app (goodIn_of _ (by decide +kernel)) ggL_law_X12_plan
set_option maxRecDepth 20000 in
theorem ggL_law_X11_planned : GoodIn wsL_law wsX11_planned := goodIn_r _ [1318, 46, 27, 32, 1319, 1320, 785, 786, 787, 2, 788, 18, 758, 759, 1290, 1291, 1292, 45, 1293, 1206, 1207, 1208, 205, 1209, 206, 1294, 1215, 207, 1295, 906, 353, 907, 1296, 1210, 1029, 1030, 57, 1031, 340, 82, 1297, 1084, 1085, 26, 1086, 159, 583, 163, 164, 569, 1087, 572, 573, 574, 575, 576, 577, 914, 915, 916, 917, 160, 561, 918, 563, 919, 584, 585, 586, 62, 587, 345, 90, 588, 589, 590, 591, 592, 593, 594, 595, 596, 597, 598, 599, 1218, 1174, 1175, 1176, 1048, 902, 903, 904, 905, 908, 909, 910, 911, 912, 162, 913, 920, 796, 797, 17, 798, 63, 799, 800, 801, 326, 921, 922, 923, 924, 925, 926, 927, 928, 1298, 1299, 1300, 1301, 1302, 208, 1612, 1613, 1614, 1615, 1616, 1617, 1618, 1619, 1620, 1621, 1622, 1623, 1624, 1625, 1768, 1769, 1770, 1771, 1772, 1773, 1774, 1775, 1776, 1777, 1778, 1779, 1780, 1713, 1714, 1715, 1716, 1717, 1718, 1719, 1720, 1721, 1722, 1723, 1724, 1725, 1726, 1781, 1782, 1783, 1784, 1785, 1786, 1787, 1738, 1739, 1740, 1741, 1742, 1743, 1744, 1745, 1746, 1747, 1748, 1749, 1750, 1751, 1752, 1753, 1754, 1755, 1756, 1757, 1788, 1789, 1790, 1791, 1792, 1793, 1794, 1795, 1796, 1797, 1798] (by decide +kernel) (by decide +kernel)
set_option maxRecDepth 20000 in
theorem gL_law_X11_planned : GoodIn wsL_law (wsV RL 112 RX11 yX11_planned wsX11_planned) := goodIn_app (goodIn_of _ (by decide +kernel)) ggL_law_X11_planned
set_option maxRecDepth 20000 in
theorem ggL_law_X12_planned : GoodIn wsL_law wsX12_planned := goodIn_r _ [1324, 305, 278, 238, 251, 252, 806, 807, 808, 5, 809, 276, 1307, 1308, 1309, 1310, 225, 1131, 1132, 1133, 1134, 949, 950, 951, 952, 247, 220, 818, 819, 820, 821, 236, 226, 224, 227, 822, 823, 824, 825, 228, 826, 827, 828, 829, 830, 229, 230, 237, 831, 832, 833, 834, 231, 232, 233, 835, 836, 837, 838, 839, 840, 841, 842, 843, 844, 845, 846, 847, 1185, 1186, 1187, 1188, 941, 942, 943, 944, 945, 946, 947, 948, 274, 814, 815, 816, 817, 217, 848, 849, 850, 851, 1311, 1312, 1313, 1314, 243, 1626, 1627, 1628, 1629, 1630, 1631, 1632, 1633, 1634, 1635, 1636, 1637, 1638, 1639, 1640, 1641, 1642, 1643, 1644, 1645, 1646, 1647, 1648, 1649, 1650, 1651, 1652, 1653, 1654, 1655, 1656, 1657, 1658, 1659, 1660, 1661, 1662, 1663, 1664, 1665, 1666, 1667, 1668, 1669, 1670, 1671, 1672, 1673, 1674, 1675, 1676, 1677, 1678, 1679, 1680, 1681, 1682, 1683, 1684, 1685, 1686, 1687, 1688, 1689, 1690, 1691, 1692, 1693, 1694, 1695, 1696, 1697, 1698, 1699, 1700, 1701, 1702, 1703, 1704, 1705, 1706, 1707, 1708, 1709, 1710, 1711, 1712] (by decide +kernel) (by decide +kernel)
set_option maxRecDepth 20000 in
theorem gL_law_X12_planned : GoodIn wsL_law (wsV RL 115 RX12 yX12_planned wsX12_planned) := goodIn_app (goodIn_of _ (by decide +kernel)) ggL_law_X12_planned
set_option maxRecDepth 20000 in
theorem ggL_law_X11_go : GoodIn wsL_law wsX11_go := goodIn_r _ [1328, 27, 32, 779, 785, 786, 787, 2, 788, 18, 758, 759, 1140, 1141, 1142, 1143, 860, 861, 793, 866, 867, 868, 869, 870, 1329, 1174, 1175, 26, 1176, 159, 561, 918, 1048, 902, 903, 904, 583, 163, 164, 569, 905, 906, 353, 907, 908, 572, 573, 574, 575, 576, 577, 909, 910, 911, 912, 162, 913, 914, 915, 916, 917, 160, 563, 919, 920, 796, 797, 17, 798, 63, 799, 800, 801, 326, 921, 922, 923, 924, 584, 585, 586, 62, 587, 345, 90, 588, 589, 590, 591, 592, 593, 594, 595, 596, 597, 598, 599, 925, 926, 927, 928, 1330, 1331, 1332, 1333, 1334, 165, 167, 161, 1041, 1042, 1043, 1044, 554, 1045, 166, 1046, 1047, 986, 987, 31, 988, 175, 1049, 1050, 1051, 1052, 1053, 1038, 1054, 1055, 1056, 1057, 1058, 562, 1036, 1059, 1060, 1061, 1062, 1612, 1613, 1614, 1615, 1616, 1617, 1618, 1619, 1620, 1621, 1622, 1623, 1624, 1625, 1747, 1748, 1749, 1750, 1751, 1752, 1753, 1754, 1755, 1756, 1757, 1713, 1714, 1715, 1716, 1717, 1718, 1719, 1720, 1721, 1722, 1723, 1724, 1725, 1726, 1781, 1782, 1783, 1784, 1785, 1786, 1787, 1788, 1789, 1790, 1791, 1792, 1793, 1794, 1795, 1738, 1739, 1740, 1741, 1742, 1743, 1744, 1745, 1746, 1796, 1797, 1798] (by decide +kernel) (by decide +kernel)
set_option maxRecDepth 20000 in
theorem gL_law_X11_go : GoodIn wsL_law (wsV RL 116 RX11 yX11_go wsX11_go) := goodIn_app (goodIn_of _ (by decide +kernel)) ggL_law_X11_go
set_option maxRecDepth 20000 in
theorem ggL_law_X12_go : GoodIn wsL_law wsX12_go := goodIn_r _ [1338, 305, 287, 1105, 222, 248, 238, 806, 807, 808, 5, 809, 276, 1149, 1150, 1151, 1152, 243, 875, 876, 877, 878, 278, 665, 666, 667, 1106, 1107, 1108, 1109, 1110, 1111, 1112, 1113, 241, 247, 1114, 941, 942, 943, 944, 945, 946, 947, 948, 225, 274, 814, 815, 816, 817, 217, 818, 819, 820, 821, 236, 226, 224, 227, 822, 823, 824, 825, 228, 826, 827, 828, 829, 830, 229, 230, 237, 831, 832, 833, 834, 231, 232, 233, 835, 836, 837, 838, 839, 840, 841, 842, 843, 844, 845, 846, 847, 848, 849, 850, 851, 949, 950, 951, 952, 220, 1115, 1116, 1117, 1118, 239, 1185, 1186, 1187, 1188, 1626, 1627, 1628, 1629, 1630, 1631, 1632, 1633, 1634, 1635, 1636, 1637, 1638, 1639, 1640, 1641, 1642, 1643, 1644, 1645, 1646, 1647, 1648, 1649, 1650, 1651, 1652, 1653, 1654, 1655, 1656, 1657, 1658, 1659, 1660, 1661, 1662, 1663, 1664, 1665, 1666, 1667, 1668, 1669, 1670, 1671, 1672, 1673, 1674, 1675, 1676, 1677, 1678, 1679, 1680, 1681, 1682, 1683, 1684, 1685, 1686, 1687, 1688, 1689, 1690, 1691, 1692, 1693, 1694, 1695, 1696, 1697, 1698, 1699, 1700, 1701, 1702, 1703, 1704, 1705, 1706, 1707, 1708, 1709, 1710, 1711, 1712] (by decide +kernel) (by decide +kernel)
set_option maxRecDepth 20000 in
theorem gL_law_X12_go : GoodIn wsL_law (wsV RL 119 RX12 yX12_go wsX12_go) := goodIn_app (goodIn_of _ (by decide +kernel)) ggL_law_X12_go
set_option maxRecDepth 20000 in
theorem ggL_law_X11_give : GoodIn wsL_law wsX11_give := goodIn_r _ [1342, 18, 758, 1343, 785, 786, 787, 2, 788, 759, 1612, 1613, 1614, 1615, 1616, 1617, 1618, 1619, 1620, 1621, 1622, 1623, 1624, 1625, 1713, 1714, 1715, 1716, 1717, 1718, 1719, 1720, 1721, 1722, 1723, 1724, 1725, 1726, 1781, 1782, 1783, 1784, 1785, 1786, 1787] (by decide +kernel) (by decide +kernel)
set_option maxRecDepth 20000 in
theorem gL_law_X11_give : GoodIn wsL_law (wsV RL 120 RX11 yX11_give wsX11_give) := goodIn_app (goodIn_of _ (by decide +kernel)) ggL_law_X11_give
set_option maxRecDepth 20000 in
theorem ggL_law_X12_give : GoodIn wsL_law wsX12_give := goodIn_r _ [1347, 305, 223, 806, 807, 808, 5, 809, 276, 665, 666, 667, 1626, 1627, 1628, 1629, 1630, 1631, 1632, 1633, 1634, 1635, 1636, 1637, 1638, 1639, 1640, 1641, 1642, 1643, 1644, 1645, 1646, 1647, 1648, 1649, 1650, 1651, 1652, 1653, 1654, 1655, 1656, 1657, 1658, 1659, 1660, 1661, 1662, 1663, 1664, 1665, 1666, 1667, 1668, 1669, 1670, 1671, 1672, 1673, 1674, 1675, 1676, 1677, 1678, 1679, 1680, 1681, 1682, 1683, 1684, 1685, 1686, 1687, 1688, 1689, 1690, 1691, 1692, 1693, 1694, 1695, 1696, 1697, 1698, 1699, 1700, 1701, 1702, 1703, 1704, 1705, 1706, 1707, 1708, 1709, 1710, 1711, 1712] (by decide +kernel) (by decide +kernel)
set_option maxRecDepth 20000 in
theorem gL_law_X12_give : GoodIn wsL_law (wsV RL 123 RX12 yX12_give wsX12_give) := goodIn_app (goodIn_of _ (by decide +kernel)) ggL_law_X12_give
set_option maxRecDepth 20000 in
theorem ggL_law_X11_table : GoodIn wsL_law wsX11_table := goodIn_r _ [1351, 33, 1352, 1353, 18, 758, 759, 780, 1012, 1013, 1014, 2, 1015, 785, 786, 787, 788, 1354, 1355, 1356, 1357, 32, 860, 870, 27, 1358, 1359, 1360, 31, 1361, 606, 608, 609, 610, 1362, 1363, 1364, 1365, 604, 172, 1366, 557, 558, 559, 173, 174, 175, 176, 177, 1165, 1166, 1167, 1168, 793, 1028, 1029, 1030, 57, 1031, 340, 82, 1032, 1033, 1034, 26, 1035, 159, 561, 563, 1036, 1037, 165, 1038, 1039, 1040, 1041, 1042, 1043, 1044, 554, 1045, 166, 1046, 167, 1047, 986, 987, 988, 1048, 902, 903, 904, 583, 163, 164, 569, 905, 906, 353, 907, 908, 572, 573, 574, 575, 576, 577, 909, 910, 911, 912, 162, 913, 914, 915, 916, 917, 160, 918, 919, 920, 796, 797, 17, 798, 63, 799, 800, 801, 326, 921, 922, 923, 924, 584, 585, 586, 62, 587, 345, 90, 588, 589, 590, 591, 592, 593, 594, 595, 596, 597, 598, 599, 925, 926, 927, 928, 1049, 1050, 1051, 1052, 1053, 1054, 1055, 1056, 1057, 1058, 562, 1059, 1060, 1061, 1062, 1063, 1064, 1065, 1066, 1067, 1068, 1069, 1070, 1071, 1072, 1073, 1074, 1075, 1076, 1077, 161, 1078, 1079, 1080, 1081, 1082, 1083, 1084, 1085, 1086, 1087, 1367, 1368, 1369, 1370, 1371, 1372, 352, 354, 1612, 1613, 1614, 1615, 1616, 1617, 1618, 1619, 1620, 1621, 1622, 1623, 1624, 1625, 1747, 1748, 1749, 1750, 1751, 1752, 1753, 1754, 1755, 1756, 1757, 1713, 1714, 1715, 1716, 1717, 1718, 1719, 1720, 1721, 1722, 1723, 1724, 1725, 1726, 1781, 1782, 1783, 1784, 1785, 1786, 1787, 1788, 1789, 1790, 1791, 1792, 1793, 1794, 1795, 1738, 1739, 1740, 1741, 1742, 1743, 1744, 1745, 1746, 1796, 1797, 1798] (by decide +kernel) (by decide +kernel)
set_option maxRecDepth 20000 in
theorem gL_law_X11_table : GoodIn wsL_law (wsV RL 124 RX11 yX11_table wsX11_table) := goodIn_app (goodIn_of _ (by decide +kernel)) ggL_law_X11_table
set_option maxRecDepth 20000 in
theorem ggL_law_X12_table : GoodIn wsL_law wsX12_table := goodIn_r _ [1376, 305, 276, 239, 245, 246, 665, 666, 5, 667, 1377, 1378, 1379, 1380, 288, 1381, 1382, 1383, 1384, 238, 240, 241, 243, 244, 1385, 1386, 1387, 1388, 278, 225, 1097, 1098, 1099, 1100, 1101, 1102, 1103, 1104, 1105, 248, 247, 222, 1106, 1107, 1108, 1109, 1110, 1111, 1112, 1113, 1114, 941, 942, 943, 944, 945, 946, 947, 948, 274, 814, 815, 816, 817, 217, 818, 819, 820, 821, 236, 226, 224, 227, 822, 823, 824, 825, 228, 826, 827, 828, 829, 830, 229, 230, 237, 831, 832, 833, 834, 231, 232, 233, 835, 836, 837, 838, 839, 840, 841, 842, 843, 844, 845, 846, 847, 848, 849, 850, 851, 949, 950, 951, 952, 220, 1115, 1116, 1117, 1118, 1119, 1120, 1121, 1122, 1123, 1124, 1125, 1126, 1127, 1128, 1129, 1130, 1131, 1132, 1133, 1134, 1389, 1390, 1391, 1392, 1626, 1627, 1628, 1629, 1630, 1631, 1632, 1633, 1634, 1635, 1636, 1637, 1638, 1639, 1640, 1641, 1642, 1643, 1644, 1645, 1646, 1647, 1648, 1649, 1650, 1651, 1652, 1653, 1654, 1655, 1656, 1657, 1658, 1659, 1660, 1661, 1662, 1663, 1664, 1665, 1666, 1667, 1668, 1669, 1670, 1671, 1672, 1673, 1674, 1675, 1676, 1677, 1678, 1679, 1680, 1681, 1682, 1683, 1684, 1685, 1686, 1687, 1688, 1689, 1690, 1691, 1692, 1693, 1694, 1695, 1696, 1697, 1698, 1699, 1700, 1701, 1702, 1703, 1704, 1705, 1706, 1707, 1708, 1709, 1710, 1711, 1712] (by decide +kernel) (by decide +kernel)
set_option maxRecDepth 20000 in
theorem gL_law_X12_table : GoodIn wsL_law (wsV RL 127 RX12 yX12_table wsX12_table) := goodIn_app (goodIn_of _ (by decide +kernel)) ggL_law_X12_table
set_option maxRecDepth 20000 in
theorem ggL_law_X11_fairest : GoodIn wsL_law wsX11_fairest := goodIn_r _ [1396, 33, 18, 758, 759, 1352, 1353, 1354, 1355, 1356, 2, 1357, 32, 860, 870, 27, 1358, 1359, 1360, 31, 1361, 606, 608, 609, 610, 1362, 1363, 1364, 1365, 604, 172, 1366, 557, 558, 559, 173, 174, 175, 176, 177, 1165, 1166, 1167, 1168, 793, 1028, 1029, 1030, 57, 1031, 340, 82, 1032, 1033, 1034, 26, 1035, 159, 561, 563, 1036, 1037, 165, 1038, 1039, 1040, 1041, 1042, 1043, 1044, 554, 1045, 166, 1046, 167, 1047, 986, 987, 988, 1048, 902, 903, 904, 583, 163, 164, 569, 905, 906, 353, 907, 908, 572, 573, 574, 575, 576, 577, 909, 910, 911, 912, 162, 913, 914, 915, 916, 917, 160, 918, 919, 920, 796, 797, 17, 798, 63, 799, 800, 801, 326, 921, 922, 923, 924, 584, 585, 586, 62, 587, 345, 90, 588, 589, 590, 591, 592, 593, 594, 595, 596, 597, 598, 599, 925, 926, 927, 928, 1049, 1050, 1051, 1052, 1053, 1054, 1055, 1056, 1057, 1058, 562, 1059, 1060, 1061, 1062, 1063, 1064, 1065, 1066, 1067, 1068, 1069, 1070, 1071, 1072, 1073, 1074, 1075, 1076, 1077, 161, 1078, 1079, 1080, 1081, 1082, 1083, 1084, 1085, 1086, 1087, 1367, 1368, 1369, 1370, 1371, 1372, 352, 354, 1612, 1613, 1614, 1615, 1616, 1617, 1618, 1619, 1620, 1621, 1622, 1623, 1624, 1625, 1713, 1714, 1715, 1716, 1717, 1718, 1719, 1720, 1721, 1722, 1723, 1724, 1725, 1726, 1781, 1782, 1783, 1784, 1785, 1786, 1787, 1747, 1748, 1749, 1750, 1751, 1752, 1753, 1754, 1755, 1756, 1757, 1788, 1789, 1790, 1791, 1792, 1793, 1794, 1795, 1738, 1739, 1740, 1741, 1742, 1743, 1744, 1745, 1746, 1796, 1797, 1798] (by decide +kernel) (by decide +kernel)
set_option maxRecDepth 20000 in
theorem gL_law_X11_fairest : GoodIn wsL_law (wsV RL 128 RX11 yX11_fairest wsX11_fairest) := goodIn_app (goodIn_of _ (by decide +kernel)) ggL_law_X11_fairest
set_option maxRecDepth 20000 in
theorem ggL_law_X12_fairest : GoodIn wsL_law wsX12_fairest := goodIn_r _ [1400, 305, 245, 246, 1377, 1378, 1379, 5, 1380, 288, 1381, 1382, 1383, 1384, 238, 239, 240, 241, 243, 244, 1385, 1386, 1387, 1388, 278, 225, 1097, 1098, 1099, 1100, 276, 1101, 1102, 1103, 1104, 1105, 248, 247, 222, 1106, 1107, 1108, 1109, 1110, 1111, 1112, 1113, 1114, 941, 942, 943, 944, 945, 946, 947, 948, 274, 814, 815, 816, 817, 217, 818, 819, 820, 821, 236, 226, 224, 227, 822, 823, 824, 825, 228, 826, 827, 828, 829, 830, 229, 230, 237, 831, 832, 833, 834, 231, 232, 233, 835, 836, 837, 838, 839, 840, 841, 842, 843, 844, 845, 846, 847, 848, 849, 850, 851, 949, 950, 951, 952, 220, 1115, 1116, 1117, 1118, 1119, 1120, 1121, 1122, 1123, 1124, 1125, 1126, 1127, 1128, 1129, 1130, 1131, 1132, 1133, 1134, 1389, 1390, 1391, 1392, 1626, 1627, 1628, 1629, 1630, 1631, 1632, 1633, 1634, 1635, 1636, 1637, 1638, 1639, 1640, 1641, 1642, 1643, 1644, 1645, 1646, 1647, 1648, 1649, 1650, 1651, 1652, 1653, 1654, 1655, 1656, 1657, 1658, 1659, 1660, 1661, 1662, 1663, 1664, 1665, 1666, 1667, 1668, 1669, 1670, 1671, 1672, 1673, 1674, 1675, 1676, 1677, 1678, 1679, 1680, 1681, 1682, 1683, 1684, 1685, 1686, 1687, 1688, 1689, 1690, 1691, 1692, 1693, 1694, 1695, 1696, 1697, 1698, 1699, 1700, 1701, 1702, 1703, 1704, 1705, 1706, 1707, 1708, 1709, 1710, 1711, 1712] (by decide +kernel) (by decide +kernel)
set_option maxRecDepth 20000 in
theorem gL_law_X12_fairest : GoodIn wsL_law (wsV RL 131 RX12 yX12_fairest wsX12_fairest) := goodIn_app (goodIn_of _ (by decide +kernel)) ggL_law_X12_fairest
set_option maxRecDepth 20000 in
theorem ggL_law_X11_over : GoodIn wsL_law wsX11_over := goodIn_r _ [1404, 18, 1405, 860, 870, 861, 27, 32, 779, 793, 1406, 785, 786, 787, 2, 788, 758, 759, 1165, 1166, 1167, 1168, 1028, 1029, 1030, 57, 1031, 340, 82, 1169, 1170, 1171, 26, 1172, 159, 561, 562, 1173, 1174, 1175, 1176, 918, 1048, 902, 903, 904, 583, 163, 164, 569, 905, 906, 353, 907, 908, 572, 573, 574, 575, 576, 577, 909, 910, 911, 912, 162, 913, 914, 915, 916, 917, 160, 563, 919, 920, 796, 797, 17, 798, 63, 799, 800, 801, 326, 921, 922, 923, 924, 584, 585, 586, 62, 587, 345, 90, 588, 589, 590, 591, 592, 593, 594, 595, 596, 597, 598, 599, 925, 926, 927, 928, 1407, 1408, 1409, 1410, 328, 329, 1329, 1612, 1613, 1614, 1615, 1616, 1617, 1618, 1619, 1620, 1621, 1622, 1623, 1624, 1625, 1713, 1714, 1715, 1716, 1717, 1718, 1719, 1720, 1721, 1722, 1723, 1724, 1725, 1726, 1788, 1789, 1790, 1791, 1792, 1793, 1794, 1795, 1747, 1748, 1749, 1750, 1751, 1752, 1753, 1754, 1755, 1756, 1757, 1781, 1782, 1783, 1784, 1785, 1786, 1787, 1738, 1739, 1740, 1741, 1742, 1743, 1744, 1745, 1746, 1796, 1797, 1798] (by decide +kernel) (by decide +kernel)
set_option maxRecDepth 20000 in
theorem gL_law_X11_over : GoodIn wsL_law (wsV RL 132 RX11 yX11_over wsX11_over) := goodIn_app (goodIn_of _ (by decide +kernel)) ggL_law_X11_over
set_option maxRecDepth 20000 in
theorem ggL_law_X12_over : GoodIn wsL_law wsX12_over := goodIn_r _ [1414, 305, 217, 278, 225, 244, 238, 806, 807, 808, 5, 809, 276, 1181, 1182, 1183, 1184, 1185, 1186, 1187, 1188, 226, 941, 942, 943, 944, 945, 946, 947, 948, 274, 814, 815, 816, 817, 247, 818, 819, 820, 821, 236, 224, 227, 822, 823, 824, 825, 228, 826, 827, 828, 829, 830, 229, 230, 237, 831, 832, 833, 834, 231, 232, 233, 835, 836, 837, 838, 839, 840, 841, 842, 843, 844, 845, 846, 847, 848, 849, 850, 851, 949, 950, 951, 952, 220, 1626, 1627, 1628, 1629, 1630, 1631, 1632, 1633, 1634, 1635, 1636, 1637, 1638, 1639, 1640, 1641, 1642, 1643, 1644, 1645, 1646, 1647, 1648, 1649, 1650, 1651, 1652, 1653, 1654, 1655, 1656, 1657, 1658, 1659, 1660, 1661, 1662, 1663, 1664, 1665, 1666, 1667, 1668, 1669, 1670, 1671, 1672, 1673, 1674, 1675, 1676, 1677, 1678, 1679, 1680, 1681, 1682, 1683, 1684, 1685, 1686, 1687, 1688, 1689, 1690, 1691, 1692, 1693, 1694, 1695, 1696, 1697, 1698, 1699, 1700, 1701, 1702, 1703, 1704, 1705, 1706, 1707, 1708, 1709, 1710, 1711, 1712] (by decide +kernel) (by decide +kernel)
set_option maxRecDepth 20000 in
theorem gL_law_X12_over : GoodIn wsL_law (wsV RL 135 RX12 yX12_over wsX12_over) := goodIn_app (goodIn_of _ (by decide +kernel)) ggL_law_X12_over
set_option maxRecDepth 20000 in
theorem ggL_law_X11_next : GoodIn wsL_law wsX11_next := goodIn_r _ [1418, 18, 860, 32, 793, 1419, 1420, 1421, 57, 1422, 339, 458, 459, 460, 461, 82, 80, 1423, 1612, 1613, 1614, 1615, 1616, 1617, 1618, 1619, 1620, 1621, 1622, 1623, 1624, 1625, 1713, 1714, 1715, 1716, 1717, 1718, 1719, 1720, 1721, 1722, 1723, 1724, 1725, 1726, 1747, 1748, 1749, 1750, 1751, 1752, 1753, 1754, 1755, 1756, 1757, 1788, 1789, 1790, 1791, 1792, 1793, 1794, 1795] (by decide +kernel) (by decide +kernel)
set_option maxRecDepth 20000 in
theorem gL_law_X11_next : GoodIn wsL_law (wsV RL 136 RX11 yX11_next wsX11_next) := goodIn_app (goodIn_of _ (by decide +kernel)) ggL_law_X11_next
set_option maxRecDepth 20000 in
theorem ggL_law_X12_next : GoodIn wsL_law wsX12_next := goodIn_r _ [1427, 305, 277, 225, 224, 244, 1626, 1627, 1628, 1629, 1630, 1631, 1632, 1633, 1634, 1635, 1636, 1637, 1638, 1639, 1640, 1641, 1642, 1643, 1644, 1645, 1646, 1647, 1648, 1649, 1650, 1651, 1652, 1653, 1654, 1655, 1656, 1657, 1658, 1659, 1660, 1661, 1662, 1663, 1664, 1665, 1666, 1667, 1668, 1669, 1670, 1671, 1672, 1673, 1674, 1675, 1676, 1677, 1678, 1679, 1680, 1681, 1682, 1683, 1684, 1685, 1686, 1687, 1688, 1689, 1690, 1691, 1692, 1693, 1694, 1695, 1696, 1697, 1698, 1699, 1700, 1701, 1702, 1703, 1704, 1705, 1706, 1707, 1708, 1709, 1710, 1711, 1712] (by decide +kernel) (by decide +kernel)
set_option maxRecDepth 20000 in
theorem gL_law_X12_next : GoodIn wsL_law (wsV RL 139 RX12 yX12_next wsX12_next) := goodIn_app (goodIn_of _ (by decide +kernel)) ggL_law_X12_next
set_option maxRecDepth 20000 in
theorem ggL_law_X11_gaps : GoodIn wsL_law wsX11_gaps := goodIn_r _ [1431, 18, 860, 1268, 1423, 459, 460, 57, 461, 82, 80, 1432, 455, 456, 457, 81, 458, 1612, 1613, 1614, 1615, 1616, 1617, 1618, 1619, 1620, 1621, 1622, 1623, 1624, 1625, 1713, 1714, 1715, 1716, 1717, 1718, 1719, 1720, 1721, 1722, 1723, 1724, 1725, 1726, 1788, 1789, 1790, 1791, 1792, 1793, 1794, 1795] (by decide +kernel) (by decide +kernel)
set_option maxRecDepth 20000 in
theorem gL_law_X11_gaps : GoodIn wsL_law (wsV RL 140 RX11 yX11_gaps wsX11_gaps) := goodIn_app (goodIn_of _ (by decide +kernel)) ggL_law_X11_gaps
set_option maxRecDepth 20000 in
theorem ggL_law_X12_gaps : GoodIn wsL_law wsX12_gaps := goodIn_r _ [1436, 305, 277, 225, 224, 665, 666, 5, 667, 1626, 1627, 1628, 1629, 1630, 1631, 1632, 1633, 1634, 1635, 1636, 1637, 1638, 1639, 1640, 1641, 1642, 1643, 1644, 1645, 1646, 1647, 1648, 1649, 1650, 1651, 1652, 1653, 1654, 1655, 1656, 1657, 1658, 1659, 1660, 1661, 1662, 1663, 1664, 1665, 1666, 1667, 1668, 1669, 1670, 1671, 1672, 1673, 1674, 1675, 1676, 1677, 1678, 1679, 1680, 1681, 1682, 1683, 1684, 1685, 1686, 1687, 1688, 1689, 1690, 1691, 1692, 1693, 1694, 1695, 1696, 1697, 1698, 1699, 1700, 1701, 1702, 1703, 1704, 1705, 1706, 1707, 1708, 1709, 1710, 1711, 1712] (by decide +kernel) (by decide +kernel)
set_option maxRecDepth 20000 in
theorem gL_law_X12_gaps : GoodIn wsL_law (wsV RL 143 RX12 yX12_gaps wsX12_gaps) := goodIn_app (goodIn_of _ (by decide +kernel)) ggL_law_X12_gaps
set_option maxRecDepth 20000 in
theorem ggL_law_X11_shares : GoodIn wsL_law wsX11_shares := goodIn_r _ [1440, 18, 758, 759, 32, 1367, 1368, 1369, 31, 1370, 173, 1371, 906, 353, 907, 1372, 352, 354, 1441, 1442, 1443, 1444, 1612, 1613, 1614, 1615, 1616, 1617, 1618, 1619, 1620, 1621, 1622, 1623, 1624, 1625, 1713, 1714, 1715, 1716, 1717, 1718, 1719, 1720, 1721, 1722, 1723, 1724, 1725, 1726, 1781, 1782, 1783, 1784, 1785, 1786, 1787, 1747, 1748, 1749, 1750, 1751, 1752, 1753, 1754, 1755, 1756, 1757] (by decide +kernel) (by decide +kernel)
set_option maxRecDepth 20000 in
theorem gL_law_X11_shares : GoodIn wsL_law (wsV RL 144 RX11 yX11_shares wsX11_shares) := goodIn_app (goodIn_of _ (by decide +kernel)) ggL_law_X11_shares
set_option maxRecDepth 20000 in
theorem ggL_law_X12_shares : GoodIn wsL_law wsX12_shares := goodIn_r _ [1448, 305, 276, 665, 666, 5, 667, 1389, 1390, 1391, 1392, 239, 1449, 1450, 1451, 1452, 1626, 1627, 1628, 1629, 1630, 1631, 1632, 1633, 1634, 1635, 1636, 1637, 1638, 1639, 1640, 1641, 1642, 1643, 1644, 1645, 1646, 1647, 1648, 1649, 1650, 1651, 1652, 1653, 1654, 1655, 1656, 1657, 1658, 1659, 1660, 1661, 1662, 1663, 1664, 1665, 1666, 1667, 1668, 1669, 1670, 1671, 1672, 1673, 1674, 1675, 1676, 1677, 1678, 1679, 1680, 1681, 1682, 1683, 1684, 1685, 1686, 1687, 1688, 1689, 1690, 1691, 1692, 1693, 1694, 1695, 1696, 1697, 1698, 1699, 1700, 1701, 1702, 1703, 1704, 1705, 1706, 1707, 1708, 1709, 1710, 1711, 1712] (by decide +kernel) (by decide +kernel)
set_option maxRecDepth 20000 in
theorem gL_law_X12_shares : GoodIn wsL_law (wsV RL 147 RX12 yX12_shares wsX12_shares) := goodIn_app (goodIn_of _ (by decide +kernel)) ggL_law_X12_shares
set_option maxRecDepth 20000 in
theorem ggL_law_X11_note : GoodIn wsL_law wsX11_note := goodIn_r _ [1456, 38, 785, 786, 787, 2, 788, 18, 758, 759, 893, 894, 895, 896, 897, 898, 899, 17, 900, 63, 64, 1457, 1458, 1459, 37, 1460, 1461, 183, 184, 185, 186, 1612, 1613, 1614, 1615, 1616, 1617, 1618, 1619, 1620, 1621, 1622, 1623, 1624, 1625, 1713, 1714, 1715, 1716, 1717, 1718, 1719, 1720, 1721, 1722, 1723, 1724, 1725, 1726, 1781, 1782, 1783, 1784, 1785, 1786, 1787, 1758, 1759, 1760, 1761, 1762, 1763, 1764] (by decide +kernel) (by decide +kernel)
set_option maxRecDepth 20000 in
theorem gL_law_X11_note : GoodIn wsL_law (wsV RL 148 RX11 yX11_note wsX11_note) := goodIn_app (goodIn_of _ (by decide +kernel)) ggL_law_X11_note
set_option maxRecDepth 20000 in
theorem ggL_law_X12_note : GoodIn wsL_law wsX12_note := goodIn_r _ [1465, 305, 289, 665, 666, 5, 667, 806, 807, 808, 809, 276, 933, 934, 935, 936, 937, 938, 939, 940, 274, 275, 1466, 1467, 1468, 1469, 254, 1626, 1627, 1628, 1629, 1630, 1631, 1632, 1633, 1634, 1635, 1636, 1637, 1638, 1639, 1640, 1641, 1642, 1643, 1644, 1645, 1646, 1647, 1648, 1649, 1650, 1651, 1652, 1653, 1654, 1655, 1656, 1657, 1658, 1659, 1660, 1661, 1662, 1663, 1664, 1665, 1666, 1667, 1668, 1669, 1670, 1671, 1672, 1673, 1674, 1675, 1676, 1677, 1678, 1679, 1680, 1681, 1682, 1683, 1684, 1685, 1686, 1687, 1688, 1689, 1690, 1691, 1692, 1693, 1694, 1695, 1696, 1697, 1698, 1699, 1700, 1701, 1702, 1703, 1704, 1705, 1706, 1707, 1708, 1709, 1710, 1711, 1712] (by decide +kernel) (by decide +kernel)
set_option maxRecDepth 20000 in
theorem gL_law_X12_note : GoodIn wsL_law (wsV RL 151 RX12 yX12_note wsX12_note) := goodIn_app (goodIn_of _ (by decide +kernel)) ggL_law_X12_note
set_option maxRecDepth 20000 in
theorem ggL_law_X11_strike : GoodIn wsL_law wsX11_strike := goodIn_r _ [1473, 38, 546, 1474, 1475, 1476, 37, 1477, 1461, 184, 186, 1612, 1613, 1614, 1615, 1616, 1617, 1618, 1619, 1620, 1621, 1622, 1623, 1624, 1625, 1758, 1759, 1760, 1761, 1762, 1763, 1764] (by decide +kernel) (by decide +kernel)
set_option maxRecDepth 20000 in
theorem gL_law_X11_strike : GoodIn wsL_law (wsV RL 152 RX11 yX11_strike wsX11_strike) := goodIn_app (goodIn_of _ (by decide +kernel)) ggL_law_X11_strike
set_option maxRecDepth 20000 in
theorem ggL_law_X12_strike : GoodIn wsL_law wsX12_strike := goodIn_r _ [1481, 305, 289, 1466, 1467, 1468, 5, 1469, 254, 1626, 1627, 1628, 1629, 1630, 1631, 1632, 1633, 1634, 1635, 1636, 1637, 1638, 1639, 1640, 1641, 1642, 1643, 1644, 1645, 1646, 1647, 1648, 1649, 1650, 1651, 1652, 1653, 1654, 1655, 1656, 1657, 1658, 1659, 1660, 1661, 1662, 1663, 1664, 1665, 1666, 1667, 1668, 1669, 1670, 1671, 1672, 1673, 1674, 1675, 1676, 1677, 1678, 1679, 1680, 1681, 1682, 1683, 1684, 1685, 1686, 1687, 1688, 1689, 1690, 1691, 1692, 1693, 1694, 1695, 1696, 1697, 1698, 1699, 1700, 1701, 1702, 1703, 1704, 1705, 1706, 1707, 1708, 1709, 1710, 1711, 1712] (by decide +kernel) (by decide +kernel)
set_option maxRecDepth 20000 in
theorem gL_law_X12_strike : GoodIn wsL_law (wsV RL 155 RX12 yX12_strike wsX12_strike) := goodIn_app (goodIn_of _ (by decide +kernel)) ggL_law_X12_strike
set_option maxRecDepth 20000 in
theorem ggL_law_X11_known : GoodIn wsL_law wsX11_known := goodIn_r _ [1485, 38, 546, 547, 1612, 1613, 1614, 1615, 1616, 1617, 1618, 1619, 1620, 1621, 1622, 1623, 1624, 1625, 1758, 1759, 1760, 1761, 1762, 1763, 1764] (by decide +kernel) (by decide +kernel)
set_option maxRecDepth 20000 in
theorem gL_law_X11_known : GoodIn wsL_law (wsV RL 156 RX11 yX11_known wsX11_known) := goodIn_app (goodIn_of _ (by decide +kernel)) ggL_law_X11_known
set_option maxRecDepth 20000 in
theorem ggL_law_X12_known : GoodIn wsL_law wsX12_known := goodIn_r _ [1489, 305, 289, 253, 665, 666, 5, 667, 1626, 1627, 1628, 1629, 1630, 1631, 1632, 1633, 1634, 1635, 1636, 1637, 1638, 1639, 1640, 1641, 1642, 1643, 1644, 1645, 1646, 1647, 1648, 1649, 1650, 1651, 1652, 1653, 1654, 1655, 1656, 1657, 1658, 1659, 1660, 1661, 1662, 1663, 1664, 1665, 1666, 1667, 1668, 1669, 1670, 1671, 1672, 1673, 1674, 1675, 1676, 1677, 1678, 1679, 1680, 1681, 1682, 1683, 1684, 1685, 1686, 1687, 1688, 1689, 1690, 1691, 1692, 1693, 1694, 1695, 1696, 1697, 1698, 1699, 1700, 1701, 1702, 1703, 1704, 1705, 1706, 1707, 1708, 1709, 1710, 1711, 1712] (by decide +kernel) (by decide +kernel)
set_option maxRecDepth 20000 in
theorem gL_law_X12_known : GoodIn wsL_law (wsV RL 159 RX12 yX12_known wsX12_known) := goodIn_app (goodIn_of _ (by decide +kernel)) ggL_law_X12_known
set_option maxRecDepth 20000 in
theorem ggL_law_X11_locals : GoodIn wsL_law wsX11_locals := goodIn_r _ [1493, 38, 18, 860, 1494, 1495, 27, 1496, 1497, 1498, 1499, 1500, 37, 1501, 188, 186, 1502, 1503, 1504, 1505, 182, 1461, 1506, 1507, 1508, 1509, 1510, 1419, 1420, 1421, 57, 1422, 339, 458, 459, 460, 461, 82, 80, 1511, 926, 927, 26, 928, 159, 162, 920, 796, 797, 17, 798, 63, 799, 800, 353, 801, 326, 1612, 1613, 1614, 1615, 1616, 1617, 1618, 1619, 1620, 1621, 1622, 1623, 1624, 1625, 1713, 1714, 1715, 1716, 1717, 1718, 1719, 1720, 1721, 1722, 1723, 1724, 1725, 1726, 1758, 1759, 1760, 1761, 1762, 1763, 1764, 1788, 1789, 1790, 1791, 1792, 1793, 1794, 1795, 1738, 1739, 1740, 1741, 1742, 1743, 1744, 1745, 1746] (by decide +kernel) (by decide +kernel)
set_option maxRecDepth 20000 in
theorem gL_law_X11_locals : GoodIn wsL_law (wsV RL 160 RX11 yX11_locals wsX11_locals) := goodIn_app (goodIn_of _ (by decide +kernel)) ggL_law_X11_locals
set_option maxRecDepth 20000 in
theorem ggL_law_X12_locals : GoodIn wsL_law wsX12_locals := goodIn_r _ [1515, 305, 255, 254, 665, 666, 5, 667, 1516, 1517, 1518, 1519, 253, 289, 1520, 1521, 1522, 1523, 277, 225, 224, 814, 815, 816, 817, 217, 247, 274, 818, 819, 820, 821, 236, 226, 227, 822, 823, 824, 825, 228, 826, 827, 828, 829, 830, 229, 230, 237, 831, 832, 833, 834, 231, 232, 233, 835, 836, 837, 838, 839, 840, 841, 842, 843, 844, 845, 846, 847, 848, 849, 850, 851, 1626, 1627, 1628, 1629, 1630, 1631, 1632, 1633, 1634, 1635, 1636, 1637, 1638, 1639, 1640, 1641, 1642, 1643, 1644, 1645, 1646, 1647, 1648, 1649, 1650, 1651, 1652, 1653, 1654, 1655, 1656, 1657, 1658, 1659, 1660, 1661, 1662, 1663, 1664, 1665, 1666, 1667, 1668, 1669, 1670, 1671, 1672, 1673, 1674, 1675, 1676, 1677, 1678, 1679, 1680, 1681, 1682, 1683, 1684, 1685, 1686, 1687, 1688, 1689, 1690, 1691, 1692, 1693, 1694, 1695, 1696, 1697, 1698, 1699, 1700, 1701, 1702, 1703, 1704, 1705, 1706, 1707, 1708, 1709, 1710, 1711, 1712] (by decide +kernel) (by decide +kernel)
set_option maxRecDepth 20000 in
theorem gL_law_X12_locals : GoodIn wsL_law (wsV RL 163 RX12 yX12_locals wsX12_locals) := goodIn_app (goodIn_of _ (by decide +kernel)) ggL_law_X12_locals
set_option maxRecDepth 20000 in
theorem ggL_law_X11_chance : GoodIn wsL_law wsX11_chance := goodIn_r _ [1527, 32, 1011, 33, 1528, 780, 785, 786, 787, 2, 788, 18, 758, 759, 1354, 1355, 1356, 1357, 860, 870, 27, 1358, 1359, 1360, 31, 1361, 606, 608, 609, 610, 1362, 1363, 1364, 1365, 604, 172, 1366, 557, 558, 559, 173, 174, 175, 176, 177, 1165, 1166, 1167, 1168, 793, 1028, 1029, 1030, 57, 1031, 340, 82, 1032, 1033, 1034, 26, 1035, 159, 561, 563, 1036, 1037, 165, 1038, 1039, 1040, 1041, 1042, 1043, 1044, 554, 1045, 166, 1046, 167, 1047, 986, 987, 988, 1048, 902, 903, 904, 583, 163, 164, 569, 905, 906, 353, 907, 908, 572, 573, 574, 575, 576, 577, 909, 910, 911, 912, 162, 913, 914, 915, 916, 917, 160, 918, 919, 920, 796, 797, 17, 798, 63, 799, 800, 801, 326, 921, 922, 923, 924, 584, 585, 586, 62, 587, 345, 90, 588, 589, 590, 591, 592, 593, 594, 595, 596, 597, 598, 599, 925, 926, 927, 928, 1049, 1050, 1051, 1052, 1053, 1054, 1055, 1056, 1057, 1058, 562, 1059, 1060, 1061, 1062, 1063, 1064, 1065, 1066, 1067, 1068, 1069, 1070, 1071, 1072, 1073, 1074, 1075, 1076, 1077, 161, 1078, 1079, 1080, 1081, 1082, 1083, 1084, 1085, 1086, 1087, 1612, 1613, 1614, 1615, 1616, 1617, 1618, 1619, 1620, 1621, 1622, 1623, 1624, 1625, 1747, 1748, 1749, 1750, 1751, 1752, 1753, 1754, 1755, 1756, 1757, 1713, 1714, 1715, 1716, 1717, 1718, 1719, 1720, 1721, 1722, 1723, 1724, 1725, 1726, 1781, 1782, 1783, 1784, 1785, 1786, 1787, 1788, 1789, 1790, 1791, 1792, 1793, 1794, 1795, 1738, 1739, 1740, 1741, 1742, 1743, 1744, 1745, 1746, 1796, 1797, 1798] (by decide +kernel) (by decide +kernel)
set_option maxRecDepth 20000 in
theorem gL_law_X11_chance : GoodIn wsL_law (wsV RL 164 RX11 yX11_chance wsX11_chance) := goodIn_app (goodIn_of _ (by decide +kernel)) ggL_law_X11_chance
set_option maxRecDepth 20000 in
theorem ggL_law_X12_chance : GoodIn wsL_law wsX12_chance := goodIn_r _ [1532, 305, 288, 287, 239, 806, 807, 808, 5, 809, 276, 665, 666, 667, 1381, 1382, 1383, 1384, 238, 240, 241, 243, 244, 245, 246, 1385, 1386, 1387, 1388, 278, 225, 1097, 1098, 1099, 1100, 1101, 1102, 1103, 1104, 1105, 248, 247, 222, 1106, 1107, 1108, 1109, 1110, 1111, 1112, 1113, 1114, 941, 942, 943, 944, 945, 946, 947, 948, 274, 814, 815, 816, 817, 217, 818, 819, 820, 821, 236, 226, 224, 227, 822, 823, 824, 825, 228, 826, 827, 828, 829, 830, 229, 230, 237, 831, 832, 833, 834, 231, 232, 233, 835, 836, 837, 838, 839, 840, 841, 842, 843, 844, 845, 846, 847, 848, 849, 850, 851, 949, 950, 951, 952, 220, 1115, 1116, 1117, 1118, 1119, 1120, 1121, 1122, 1123, 1124, 1125, 1126, 1127, 1128, 1129, 1130, 1131, 1132, 1133, 1134, 1626, 1627, 1628, 1629, 1630, 1631, 1632, 1633, 1634, 1635, 1636, 1637, 1638, 1639, 1640, 1641, 1642, 1643, 1644, 1645, 1646, 1647, 1648, 1649, 1650, 1651, 1652, 1653, 1654, 1655, 1656, 1657, 1658, 1659, 1660, 1661, 1662, 1663, 1664, 1665, 1666, 1667, 1668, 1669, 1670, 1671, 1672, 1673, 1674, 1675, 1676, 1677, 1678, 1679, 1680, 1681, 1682, 1683, 1684, 1685, 1686, 1687, 1688, 1689, 1690, 1691, 1692, 1693, 1694, 1695, 1696, 1697, 1698, 1699, 1700, 1701, 1702, 1703, 1704, 1705, 1706, 1707, 1708, 1709, 1710, 1711, 1712] (by decide +kernel) (by decide +kernel)
set_option maxRecDepth 20000 in
theorem gL_law_X12_chance : GoodIn wsL_law (wsV RL 167 RX12 yX12_chance wsX12_chance) := goodIn_app (goodIn_of _ (by decide +kernel)) ggL_law_X12_chance
set_option maxRecDepth 20000 in
theorem ggL_law_X11_tried : GoodIn wsL_law wsX11_tried := goodIn_r _ [1536, 33, 32, 1011, 28, 27, 18, 860, 870, 758, 759, 785, 786, 787, 2, 788, 1358, 1359, 1360, 31, 1361, 606, 608, 609, 610, 1362, 1363, 1364, 1365, 604, 172, 1366, 557, 558, 559, 173, 174, 175, 176, 177, 1537, 1538, 1539, 26, 1540, 159, 160, 556, 161, 162, 1541, 1542, 1543, 1544, 779, 1545, 1546, 1547, 1548, 1549, 1550, 1551, 1552, 1553, 1554, 1555, 1556, 1557, 568, 1558, 1559, 1560, 1561, 1562, 1563, 1564, 1565, 1165, 1166, 1167, 1168, 793, 1028, 1029, 1030, 57, 1031, 340, 82, 1032, 1033, 1034, 1035, 561, 563, 1036, 1037, 165, 1038, 1039, 1040, 1041, 1042, 1043, 1044, 554, 1045, 166, 1046, 167, 1047, 986, 987, 988, 1048, 902, 903, 904, 583, 163, 164, 569, 905, 906, 353, 907, 908, 572, 573, 574, 575, 576, 577, 909, 910, 911, 912, 913, 914, 915, 916, 917, 918, 919, 920, 796, 797, 17, 798, 63, 799, 800, 801, 326, 921, 922, 923, 924, 584, 585, 586, 62, 587, 345, 90, 588, 589, 590, 591, 592, 593, 594, 595, 596, 597, 598, 599, 925, 926, 927, 928, 1049, 1050, 1051, 1052, 1053, 1054, 1055, 1056, 1057, 1058, 562, 1059, 1060, 1061, 1062, 1063, 1064, 1065, 1066, 1067, 1068, 1069, 1070, 1071, 1072, 1073, 1074, 1075, 1076, 1077, 1078, 1079, 1080, 1081, 1082, 1083, 1084, 1085, 1086, 1087, 1441, 1442, 1443, 1444, 1612, 1613, 1614, 1615, 1616, 1617, 1618, 1619, 1620, 1621, 1622, 1623, 1624, 1625, 1747, 1748, 1749, 1750, 1751, 1752, 1753, 1754, 1755, 1756, 1757, 1713, 1714, 1715, 1716, 1717, 1718, 1719, 1720, 1721, 1722, 1723, 1724, 1725, 1726, 1788, 1789, 1790, 1791, 1792, 1793, 1794, 1795, 1781, 1782, 1783, 1784, 1785, 1786, 1787, 1738, 1739, 1740, 1741, 1742, 1743, 1744, 1745, 1746, 1796, 1797, 1798] (by decide +kernel) (by decide +kernel)
set_option maxRecDepth 20000 in
theorem gL_law_X11_tried : GoodIn wsL_law (wsV RL 168 RX11 yX11_tried wsX11_tried) := goodIn_app (goodIn_of _ (by decide +kernel)) ggL_law_X11_tried
set_option maxRecDepth 20000 in
theorem ggL_law_X12_tried : GoodIn wsL_law wsX12_tried := goodIn_r _ [1569, 305, 288, 247, 1114, 276, 238, 287, 665, 666, 5, 667, 806, 807, 808, 809, 1381, 1382, 1383, 1384, 239, 240, 241, 243, 244, 245, 246, 1385, 1386, 1387, 1388, 278, 225, 1097, 1098, 1099, 1100, 1101, 1102, 1103, 1104, 1105, 248, 222, 1106, 1107, 1108, 1109, 1110, 1111, 1112, 1113, 941, 942, 943, 944, 945, 946, 947, 948, 274, 814, 815, 816, 817, 217, 818, 819, 820, 821, 236, 226, 224, 227, 822, 823, 824, 825, 228, 826, 827, 828, 829, 830, 229, 230, 237, 831, 832, 833, 834, 231, 232, 233, 835, 836, 837, 838, 839, 840, 841, 842, 843, 844, 845, 846, 847, 848, 849, 850, 851, 949, 950, 951, 952, 220, 1115, 1116, 1117, 1118, 1119, 1120, 1121, 1122, 1123, 1124, 1125, 1126, 1127, 1128, 1129, 1130, 1131, 1132, 1133, 1134, 1449, 1450, 1451, 1452, 1626, 1627, 1628, 1629, 1630, 1631, 1632, 1633, 1634, 1635, 1636, 1637, 1638, 1639, 1640, 1641, 1642, 1643, 1644, 1645, 1646, 1647, 1648, 1649, 1650, 1651, 1652, 1653, 1654, 1655, 1656, 1657, 1658, 1659, 1660, 1661, 1662, 1663, 1664, 1665, 1666, 1667, 1668, 1669, 1670, 1671, 1672, 1673, 1674, 1675, 1676, 1677, 1678, 1679, 1680, 1681, 1682, 1683, 1684, 1685, 1686, 1687, 1688, 1689, 1690, 1691, 1692, 1693, 1694, 1695, 1696, 1697, 1698, 1699, 1700, 1701, 1702, 1703, 1704, 1705, 1706, 1707, 1708, 1709, 1710, 1711, 1712] (by decide +kernel) (by decide +kernel)
set_option maxRecDepth 20000 in
theorem gL_law_X12_tried : GoodIn wsL_law (wsV RL 171 RX12 yX12_tried wsX12_tried) := goodIn_app (goodIn_of _ (by decide +kernel)) ggL_law_X12_tried
set_option maxRecDepth 20000 in
theorem ggL_law_X11_undo : GoodIn wsL_law wsX11_undo := goodIn_r _ [1573, 42, 548, 1574, 1575, 32, 1011, 779, 784, 1612, 1613, 1614, 1615, 1616, 1617, 1618, 1619, 1620, 1621, 1622, 1623, 1624, 1625, 1765, 1766, 1767, 1747, 1748, 1749, 1750, 1751, 1752, 1753, 1754, 1755, 1756, 1757] (by decide +kernel) (by decide +kernel)
set_option maxRecDepth 20000 in
theorem gL_law_X11_undo : GoodIn wsL_law (wsV RL 172 RX11 yX11_undo wsX11_undo) := goodIn_app (goodIn_of _ (by decide +kernel)) ggL_law_X11_undo
set_option maxRecDepth 20000 in
theorem ggL_law_X12_undo : GoodIn wsL_law wsX12_undo := goodIn_r _ [1579, 305, 290, 238, 256, 242, 287, 1626, 1627, 1628, 1629, 1630, 1631, 1632, 1633, 1634, 1635, 1636, 1637, 1638, 1639, 1640, 1641, 1642, 1643, 1644, 1645, 1646, 1647, 1648, 1649, 1650, 1651, 1652, 1653, 1654, 1655, 1656, 1657, 1658, 1659, 1660, 1661, 1662, 1663, 1664, 1665, 1666, 1667, 1668, 1669, 1670, 1671, 1672, 1673, 1674, 1675, 1676, 1677, 1678, 1679, 1680, 1681, 1682, 1683, 1684, 1685, 1686, 1687, 1688, 1689, 1690, 1691, 1692, 1693, 1694, 1695, 1696, 1697, 1698, 1699, 1700, 1701, 1702, 1703, 1704, 1705, 1706, 1707, 1708, 1709, 1710, 1711, 1712] (by decide +kernel) (by decide +kernel)
set_option maxRecDepth 20000 in
theorem gL_law_X12_undo : GoodIn wsL_law (wsV RL 175 RX12 yX12_undo wsX12_undo) := goodIn_app (goodIn_of _ (by decide +kernel)) ggL_law_X12_undo
set_option maxRecDepth 20000 in
theorem ggL_law_X11_keep : GoodIn wsL_law wsX11_keep := goodIn_r _ [1583, 34, 32, 549, 793, 1584, 1363, 1364, 31, 1365, 604, 606, 608, 609, 610, 172, 1366, 557, 558, 559, 173, 174, 175, 176, 177, 1612, 1613, 1614, 1615, 1616, 1617, 1618, 1619, 1620, 1621, 1622, 1623, 1624, 1625, 1747, 1748, 1749, 1750, 1751, 1752, 1753, 1754, 1755, 1756, 1757] (by decide +kernel) (by decide +kernel)
set_option maxRecDepth 20000 in
theorem gL_law_X11_keep : GoodIn wsL_law (wsV RL 176 RX11 yX11_keep wsX11_keep) := goodIn_app (goodIn_of _ (by decide +kernel)) ggL_law_X11_keep
set_option maxRecDepth 20000 in
theorem ggL_law_X12_keep : GoodIn wsL_law wsX12_keep := goodIn_r _ [1588, 305, 291, 257, 238, 239, 240, 241, 242, 243, 244, 1589, 287, 1590, 245, 1591, 246, 1592, 288, 1593, 1626, 1627, 1628, 1629, 1630, 1631, 1632, 1633, 1634, 1635, 1636, 1637, 1638, 1639, 1640, 1641, 1642, 1643, 1644, 1645, 1646, 1647, 1648, 1649, 1650, 1651, 1652, 1653, 1654, 1655, 1656, 1657, 1658, 1659, 1660, 1661, 1662, 1663, 1664, 1665, 1666, 1667, 1668, 1669, 1670, 1671, 1672, 1673, 1674, 1675, 1676, 1677, 1678, 1679, 1680, 1681, 1682, 1683, 1684, 1685, 1686, 1687, 1688, 1689, 1690, 1691, 1692, 1693, 1694, 1695, 1696, 1697, 1698, 1699, 1700, 1701, 1702, 1703, 1704, 1705, 1706, 1707, 1708, 1709, 1710, 1711, 1712] (by decide +kernel) (by decide +kernel)
set_option maxRecDepth 20000 in
theorem gL_law_X12_keep : GoodIn wsL_law (wsV RL 179 RX12 yX12_keep wsX12_keep) := goodIn_app (goodIn_of _ (by decide +kernel)) ggL_law_X12_keep
set_option maxRecDepth 20000 in
theorem ggL_law_X11_back : GoodIn wsL_law wsX11_back := goodIn_r _ [1597, 549, 32, 34, 42, 548, 793, 1584, 1363, 1364, 31, 1365, 604, 606, 608, 609, 610, 172, 1366, 557, 558, 559, 173, 174, 175, 176, 177, 1612, 1613, 1614, 1615, 1616, 1617, 1618, 1619, 1620, 1621, 1622, 1623, 1624, 1625, 1765, 1766, 1767, 1747, 1748, 1749, 1750, 1751, 1752, 1753, 1754, 1755, 1756, 1757] (by decide +kernel) (by decide +kernel)
set_option maxRecDepth 20000 in
theorem gL_law_X11_back : GoodIn wsL_law (wsV RL 180 RX11 yX11_back wsX11_back) := goodIn_app (goodIn_of _ (by decide +kernel)) ggL_law_X11_back
set_option maxRecDepth 20000 in
theorem ggL_law_X12_back : GoodIn wsL_law wsX12_back := goodIn_r _ [1601, 305, 291, 238, 257, 239, 240, 241, 242, 243, 244, 1589, 1590, 287, 245, 1591, 246, 1592, 1593, 288, 290, 1626, 1627, 1628, 1629, 1630, 1631, 1632, 1633, 1634, 1635, 1636, 1637, 1638, 1639, 1640, 1641, 1642, 1643, 1644, 1645, 1646, 1647, 1648, 1649, 1650, 1651, 1652, 1653, 1654, 1655, 1656, 1657, 1658, 1659, 1660, 1661, 1662, 1663, 1664, 1665, 1666, 1667, 1668, 1669, 1670, 1671, 1672, 1673, 1674, 1675, 1676, 1677, 1678, 1679, 1680, 1681, 1682, 1683, 1684, 1685, 1686, 1687, 1688, 1689, 1690, 1691, 1692, 1693, 1694, 1695, 1696, 1697, 1698, 1699, 1700, 1701, 1702, 1703, 1704, 1705, 1706, 1707, 1708, 1709, 1710, 1711, 1712] (by decide +kernel) (by decide +kernel)
set_option maxRecDepth 20000 in
theorem gL_law_X12_back : GoodIn wsL_law (wsV RL 183 RX12 yX12_back wsX12_back) := goodIn_app (goodIn_of _ (by decide +kernel)) ggL_law_X12_back
set_option maxRecDepth 20000 in
theorem ggL_law_X11_count : GoodIn wsL_law wsX11_count := goodIn_r _ [1605, 18, 884, 1606, 758, 759, 860, 1268, 870, 1607, 32, 793, 1011, 1352, 1353, 38, 546, 42, 548, 1165, 1166, 1167, 2, 1168, 1028, 1029, 1030, 57, 1031, 340, 82, 1506, 1503, 1504, 37, 1505, 182, 1461, 1612, 1613, 1614, 1615, 1616, 1617, 1618, 1619, 1620, 1621, 1622, 1623, 1624, 1625, 1713, 1714, 1715, 1716, 1717, 1718, 1719, 1720, 1721, 1722, 1723, 1724, 1725, 1726, 1781, 1782, 1783, 1784, 1785, 1786, 1787, 1788, 1789, 1790, 1791, 1792, 1793, 1794, 1795, 1747, 1748, 1749, 1750, 1751, 1752, 1753, 1754, 1755, 1756, 1757, 1758, 1759, 1760, 1761, 1762, 1763, 1764, 1765, 1766, 1767] (by decide +kernel) (by decide +kernel)
set_option maxRecDepth 20000 in
theorem gL_law_X11_count : GoodIn wsL_law (wsV RL 184 RX11 yX11_count wsX11_count) := goodIn_app (goodIn_of _ (by decide +kernel)) ggL_law_X11_count
set_option maxRecDepth 20000 in
theorem ggL_law_X12_count : GoodIn wsL_law wsX12_count := goodIn_r _ [1611, 305, 274, 275, 276, 277, 278, 279, 244, 287, 245, 246, 289, 290, 1311, 1312, 1313, 5, 1314, 243, 1516, 1517, 1518, 1519, 253, 1626, 1627, 1628, 1629, 1630, 1631, 1632, 1633, 1634, 1635, 1636, 1637, 1638, 1639, 1640, 1641, 1642, 1643, 1644, 1645, 1646, 1647, 1648, 1649, 1650, 1651, 1652, 1653, 1654, 1655, 1656, 1657, 1658, 1659, 1660, 1661, 1662, 1663, 1664, 1665, 1666, 1667, 1668, 1669, 1670, 1671, 1672, 1673, 1674, 1675, 1676, 1677, 1678, 1679, 1680, 1681, 1682, 1683, 1684, 1685, 1686, 1687, 1688, 1689, 1690, 1691, 1692, 1693, 1694, 1695, 1696, 1697, 1698, 1699, 1700, 1701, 1702, 1703, 1704, 1705, 1706, 1707, 1708, 1709, 1710, 1711, 1712] (by decide +kernel) (by decide +kernel)
set_option maxRecDepth 20000 in
theorem gL_law_X12_count : GoodIn wsL_law (wsV RL 187 RX12 yX12_count wsX12_count) := goodIn_app (goodIn_of _ (by decide +kernel)) ggL_law_X12_count
theorem dL_law_0 : decode cL_law 0 = .ok (.new 8, 3) := by decide +kernel
theorem dL_law_3 : decode cL_law 3 = .ok (.dup, 1) := by decide +kernel
theorem dL_law_4 : decode cL_law 4 = .ok (.invokespecial 17, 3) := by decide +kernel
theorem dL_law_7 : decode cL_law 7 = .ok (.astore_n 1, 1) := by decide +kernel
theorem dL_law_8 : decode cL_law 8 = .ok (.new 18, 3) := by decide +kernel
theorem dL_law_11 : decode cL_law 11 = .ok (.dup, 1) := by decide +kernel
theorem dL_law_12 : decode cL_law 12 = .ok (.invokespecial 20, 3) := by decide +kernel
theorem dL_law_15 : decode cL_law 15 = .ok (.astore_n 2, 1) := by decide +kernel
theorem dL_law_16 : decode cL_law 16 = .ok (.iconst 1, 1) := by decide +kernel
theorem dL_law_17 : decode cL_law 17 = .ok (.newarray .long, 2) := by decide +kernel
theorem dL_law_19 : decode cL_law 19 = .ok (.astore_n 3, 1) := by decide +kernel
theorem dL_law_20 : decode cL_law 20 = .ok (.iconst 0, 1) := by decide +kernel
theorem dL_law_21 : decode cL_law 21 = .ok (.istore 4, 2) := by decide +kernel
theorem dL_law_23 : decode cL_law 23 = .ok (.iload 4, 2) := by decide +kernel
theorem dL_law_25 : decode cL_law 25 = .ok (.aload_n 0, 1) := by decide +kernel
theorem dL_law_26 : decode cL_law 26 = .ok (.arraylength, 1) := by decide +kernel
theorem dL_law_27 : decode cL_law 27 = .ok (.bipush 6, 2) := by decide +kernel
theorem dL_law_29 : decode cL_law 29 = .ok (.isub, 1) := by decide +kernel
theorem dL_law_30 : decode cL_law 30 = .ok (.if_icmp .gt 1531, 3) := by decide +kernel
theorem dL_law_33 : decode cL_law 33 = .ok (.aload_n 0, 1) := by decide +kernel
theorem dL_law_34 : decode cL_law 34 = .ok (.iload 4, 2) := by decide +kernel
theorem dL_law_36 : decode cL_law 36 = .ok (.iaload, 1) := by decide +kernel
theorem dL_law_37 : decode cL_law 37 = .ok (.bipush 63, 2) := by decide +kernel
theorem dL_law_39 : decode cL_law 39 = .ok (.iand, 1) := by decide +kernel
theorem dL_law_40 : decode cL_law 40 = .ok (.tableswitch 1515 0 38 #[172, 245, 270, 295, 320, 388, 425, 450, 499, 549, 586, 611, 636, 673, 710, 747, 772, 809, 858, 895, 920, 957, 1006, 1055, 1104, 1129, 1154, 1167, 1204, 1229, 1278, 1303, 1328, 1353, 1402, 1451, 1464, 1477, 1490], 172) := by decide +kernel
theorem dL_law_212 : decode cL_law 212 = .ok (.aload_n 1, 1) := by decide +kernel
theorem dL_law_213 : decode cL_law 213 = .ok (.aload_n 0, 1) := by decide +kernel
theorem dL_law_214 : decode cL_law 214 = .ok (.iload 4, 2) := by decide +kernel
theorem dL_law_216 : decode cL_law 216 = .ok (.iconst 1, 1) := by decide +kernel
theorem dL_law_217 : decode cL_law 217 = .ok (.iadd, 1) := by decide +kernel
theorem dL_law_218 : decode cL_law 218 = .ok (.iaload, 1) := by decide +kernel
theorem dL_law_219 : decode cL_law 219 = .ok (.aload_n 0, 1) := by decide +kernel
theorem dL_law_220 : decode cL_law 220 = .ok (.iload 4, 2) := by decide +kernel
theorem dL_law_222 : decode cL_law 222 = .ok (.iconst 2, 1) := by decide +kernel
theorem dL_law_223 : decode cL_law 223 = .ok (.iadd, 1) := by decide +kernel
theorem dL_law_224 : decode cL_law 224 = .ok (.iaload, 1) := by decide +kernel
theorem dL_law_225 : decode cL_law 225 = .ok (.aload_n 0, 1) := by decide +kernel
theorem dL_law_226 : decode cL_law 226 = .ok (.iload 4, 2) := by decide +kernel
theorem dL_law_228 : decode cL_law 228 = .ok (.iconst 3, 1) := by decide +kernel
theorem dL_law_229 : decode cL_law 229 = .ok (.iadd, 1) := by decide +kernel
theorem dL_law_230 : decode cL_law 230 = .ok (.iaload, 1) := by decide +kernel
theorem dL_law_231 : decode cL_law 231 = .ok (.aload_n 0, 1) := by decide +kernel
theorem dL_law_232 : decode cL_law 232 = .ok (.iload 4, 2) := by decide +kernel
theorem dL_law_234 : decode cL_law 234 = .ok (.iconst 4, 1) := by decide +kernel
theorem dL_law_235 : decode cL_law 235 = .ok (.iadd, 1) := by decide +kernel
theorem dL_law_236 : decode cL_law 236 = .ok (.iaload, 1) := by decide +kernel
theorem dL_law_237 : decode cL_law 237 = .ok (.aload_n 0, 1) := by decide +kernel
theorem dL_law_238 : decode cL_law 238 = .ok (.iload 4, 2) := by decide +kernel
theorem dL_law_240 : decode cL_law 240 = .ok (.iconst 5, 1) := by decide +kernel
theorem dL_law_241 : decode cL_law 241 = .ok (.iadd, 1) := by decide +kernel
theorem dL_law_242 : decode cL_law 242 = .ok (.iaload, 1) := by decide +kernel
theorem dL_law_243 : decode cL_law 243 = .ok (.invokevirtual 21, 3) := by decide +kernel
theorem dL_law_246 : decode cL_law 246 = .ok (.aload_n 2, 1) := by decide +kernel
theorem dL_law_247 : decode cL_law 247 = .ok (.aload_n 0, 1) := by decide +kernel
theorem dL_law_248 : decode cL_law 248 = .ok (.iload 4, 2) := by decide +kernel
theorem dL_law_250 : decode cL_law 250 = .ok (.iconst 1, 1) := by decide +kernel
theorem dL_law_251 : decode cL_law 251 = .ok (.iadd, 1) := by decide +kernel
theorem dL_law_252 : decode cL_law 252 = .ok (.iaload, 1) := by decide +kernel
theorem dL_law_253 : decode cL_law 253 = .ok (.aload_n 0, 1) := by decide +kernel
theorem dL_law_254 : decode cL_law 254 = .ok (.iload 4, 2) := by decide +kernel
theorem dL_law_256 : decode cL_law 256 = .ok (.iconst 2, 1) := by decide +kernel
theorem dL_law_257 : decode cL_law 257 = .ok (.iadd, 1) := by decide +kernel
theorem dL_law_258 : decode cL_law 258 = .ok (.iaload, 1) := by decide +kernel
theorem dL_law_259 : decode cL_law 259 = .ok (.aload_n 0, 1) := by decide +kernel
theorem dL_law_260 : decode cL_law 260 = .ok (.iload 4, 2) := by decide +kernel
theorem dL_law_262 : decode cL_law 262 = .ok (.iconst 3, 1) := by decide +kernel
theorem dL_law_263 : decode cL_law 263 = .ok (.iadd, 1) := by decide +kernel
theorem dL_law_264 : decode cL_law 264 = .ok (.iaload, 1) := by decide +kernel
theorem dL_law_265 : decode cL_law 265 = .ok (.aload_n 0, 1) := by decide +kernel
theorem dL_law_266 : decode cL_law 266 = .ok (.iload 4, 2) := by decide +kernel
theorem dL_law_268 : decode cL_law 268 = .ok (.iconst 4, 1) := by decide +kernel
theorem dL_law_269 : decode cL_law 269 = .ok (.iadd, 1) := by decide +kernel
theorem dL_law_270 : decode cL_law 270 = .ok (.iaload, 1) := by decide +kernel
theorem dL_law_271 : decode cL_law 271 = .ok (.aload_n 0, 1) := by decide +kernel
theorem dL_law_272 : decode cL_law 272 = .ok (.iload 4, 2) := by decide +kernel
theorem dL_law_274 : decode cL_law 274 = .ok (.iconst 5, 1) := by decide +kernel
theorem dL_law_275 : decode cL_law 275 = .ok (.iadd, 1) := by decide +kernel
theorem dL_law_276 : decode cL_law 276 = .ok (.iaload, 1) := by decide +kernel
theorem dL_law_277 : decode cL_law 277 = .ok (.invokevirtual 25, 3) := by decide +kernel
theorem dL_law_280 : decode cL_law 280 = .ok (.if_icmp .eq 1275, 3) := by decide +kernel
theorem dL_law_283 : decode cL_law 283 = .ok (.iconst 0, 1) := by decide +kernel
theorem dL_law_284 : decode cL_law 284 = .ok (.ireturn, 1) := by decide +kernel
theorem dL_law_285 : decode cL_law 285 = .ok (.aload_n 1, 1) := by decide +kernel
theorem dL_law_286 : decode cL_law 286 = .ok (.aload_n 0, 1) := by decide +kernel
theorem dL_law_287 : decode cL_law 287 = .ok (.iload 4, 2) := by decide +kernel
theorem dL_law_289 : decode cL_law 289 = .ok (.iconst 1, 1) := by decide +kernel
theorem dL_law_290 : decode cL_law 290 = .ok (.iadd, 1) := by decide +kernel
theorem dL_law_291 : decode cL_law 291 = .ok (.iaload, 1) := by decide +kernel
theorem dL_law_292 : decode cL_law 292 = .ok (.invokevirtual 26, 3) := by decide +kernel
theorem dL_law_295 : decode cL_law 295 = .ok (.aload_n 2, 1) := by decide +kernel
theorem dL_law_296 : decode cL_law 296 = .ok (.aload_n 0, 1) := by decide +kernel
theorem dL_law_297 : decode cL_law 297 = .ok (.iload 4, 2) := by decide +kernel
theorem dL_law_299 : decode cL_law 299 = .ok (.iconst 1, 1) := by decide +kernel
theorem dL_law_300 : decode cL_law 300 = .ok (.iadd, 1) := by decide +kernel
theorem dL_law_301 : decode cL_law 301 = .ok (.iaload, 1) := by decide +kernel
theorem dL_law_302 : decode cL_law 302 = .ok (.invokevirtual 30, 3) := by decide +kernel
theorem dL_law_305 : decode cL_law 305 = .ok (.if_icmp .eq 1250, 3) := by decide +kernel
theorem dL_law_308 : decode cL_law 308 = .ok (.iconst 0, 1) := by decide +kernel
theorem dL_law_309 : decode cL_law 309 = .ok (.ireturn, 1) := by decide +kernel
theorem dL_law_310 : decode cL_law 310 = .ok (.aload_n 1, 1) := by decide +kernel
theorem dL_law_311 : decode cL_law 311 = .ok (.aload_n 0, 1) := by decide +kernel
theorem dL_law_312 : decode cL_law 312 = .ok (.iload 4, 2) := by decide +kernel
theorem dL_law_314 : decode cL_law 314 = .ok (.iconst 1, 1) := by decide +kernel
theorem dL_law_315 : decode cL_law 315 = .ok (.iadd, 1) := by decide +kernel
theorem dL_law_316 : decode cL_law 316 = .ok (.iaload, 1) := by decide +kernel
theorem dL_law_317 : decode cL_law 317 = .ok (.invokevirtual 31, 3) := by decide +kernel
theorem dL_law_320 : decode cL_law 320 = .ok (.aload_n 2, 1) := by decide +kernel
theorem dL_law_321 : decode cL_law 321 = .ok (.aload_n 0, 1) := by decide +kernel
theorem dL_law_322 : decode cL_law 322 = .ok (.iload 4, 2) := by decide +kernel
theorem dL_law_324 : decode cL_law 324 = .ok (.iconst 1, 1) := by decide +kernel
theorem dL_law_325 : decode cL_law 325 = .ok (.iadd, 1) := by decide +kernel
theorem dL_law_326 : decode cL_law 326 = .ok (.iaload, 1) := by decide +kernel
theorem dL_law_327 : decode cL_law 327 = .ok (.invokevirtual 34, 3) := by decide +kernel
theorem dL_law_330 : decode cL_law 330 = .ok (.if_icmp .eq 1225, 3) := by decide +kernel
theorem dL_law_333 : decode cL_law 333 = .ok (.iconst 0, 1) := by decide +kernel
theorem dL_law_334 : decode cL_law 334 = .ok (.ireturn, 1) := by decide +kernel
theorem dL_law_335 : decode cL_law 335 = .ok (.aload_n 1, 1) := by decide +kernel
theorem dL_law_336 : decode cL_law 336 = .ok (.aload_n 0, 1) := by decide +kernel
theorem dL_law_337 : decode cL_law 337 = .ok (.iload 4, 2) := by decide +kernel
theorem dL_law_339 : decode cL_law 339 = .ok (.iconst 1, 1) := by decide +kernel
theorem dL_law_340 : decode cL_law 340 = .ok (.iadd, 1) := by decide +kernel
theorem dL_law_341 : decode cL_law 341 = .ok (.iaload, 1) := by decide +kernel
theorem dL_law_342 : decode cL_law 342 = .ok (.invokevirtual 35, 3) := by decide +kernel
theorem dL_law_345 : decode cL_law 345 = .ok (.aload_n 2, 1) := by decide +kernel
theorem dL_law_346 : decode cL_law 346 = .ok (.aload_n 0, 1) := by decide +kernel
theorem dL_law_347 : decode cL_law 347 = .ok (.iload 4, 2) := by decide +kernel
theorem dL_law_349 : decode cL_law 349 = .ok (.iconst 1, 1) := by decide +kernel
theorem dL_law_350 : decode cL_law 350 = .ok (.iadd, 1) := by decide +kernel
theorem dL_law_351 : decode cL_law 351 = .ok (.iaload, 1) := by decide +kernel
theorem dL_law_352 : decode cL_law 352 = .ok (.invokevirtual 38, 3) := by decide +kernel
theorem dL_law_355 : decode cL_law 355 = .ok (.if_icmp .eq 1200, 3) := by decide +kernel
theorem dL_law_358 : decode cL_law 358 = .ok (.iconst 0, 1) := by decide +kernel
theorem dL_law_359 : decode cL_law 359 = .ok (.ireturn, 1) := by decide +kernel
theorem dL_law_360 : decode cL_law 360 = .ok (.aload_n 1, 1) := by decide +kernel
theorem dL_law_361 : decode cL_law 361 = .ok (.aload_n 0, 1) := by decide +kernel
theorem dL_law_362 : decode cL_law 362 = .ok (.iload 4, 2) := by decide +kernel
theorem dL_law_364 : decode cL_law 364 = .ok (.iconst 1, 1) := by decide +kernel
theorem dL_law_365 : decode cL_law 365 = .ok (.iadd, 1) := by decide +kernel
theorem dL_law_366 : decode cL_law 366 = .ok (.iaload, 1) := by decide +kernel
theorem dL_law_367 : decode cL_law 367 = .ok (.aload_n 0, 1) := by decide +kernel
theorem dL_law_368 : decode cL_law 368 = .ok (.iload 4, 2) := by decide +kernel
theorem dL_law_370 : decode cL_law 370 = .ok (.iconst 2, 1) := by decide +kernel
theorem dL_law_371 : decode cL_law 371 = .ok (.iadd, 1) := by decide +kernel
theorem dL_law_372 : decode cL_law 372 = .ok (.iaload, 1) := by decide +kernel
theorem dL_law_373 : decode cL_law 373 = .ok (.aload_n 3, 1) := by decide +kernel
theorem dL_law_374 : decode cL_law 374 = .ok (.invokestatic 39, 3) := by decide +kernel
theorem dL_law_377 : decode cL_law 377 = .ok (.istore 5, 2) := by decide +kernel
theorem dL_law_379 : decode cL_law 379 = .ok (.aload_n 2, 1) := by decide +kernel
theorem dL_law_380 : decode cL_law 380 = .ok (.aload_n 0, 1) := by decide +kernel
theorem dL_law_381 : decode cL_law 381 = .ok (.iload 4, 2) := by decide +kernel
theorem dL_law_383 : decode cL_law 383 = .ok (.iconst 1, 1) := by decide +kernel
theorem dL_law_384 : decode cL_law 384 = .ok (.iadd, 1) := by decide +kernel
theorem dL_law_385 : decode cL_law 385 = .ok (.iaload, 1) := by decide +kernel
theorem dL_law_386 : decode cL_law 386 = .ok (.aload_n 0, 1) := by decide +kernel
theorem dL_law_387 : decode cL_law 387 = .ok (.iload 4, 2) := by decide +kernel
theorem dL_law_389 : decode cL_law 389 = .ok (.iconst 2, 1) := by decide +kernel
theorem dL_law_390 : decode cL_law 390 = .ok (.iadd, 1) := by decide +kernel
theorem dL_law_391 : decode cL_law 391 = .ok (.iaload, 1) := by decide +kernel
theorem dL_law_392 : decode cL_law 392 = .ok (.invokevirtual 44, 3) := by decide +kernel
theorem dL_law_395 : decode cL_law 395 = .ok (.istore 6, 2) := by decide +kernel
theorem dL_law_397 : decode cL_law 397 = .ok (.aload_n 2, 1) := by decide +kernel
theorem dL_law_398 : decode cL_law 398 = .ok (.invokevirtual 45, 3) := by decide +kernel
theorem dL_law_401 : decode cL_law 401 = .ok (.iload 5, 2) := by decide +kernel
theorem dL_law_403 : decode cL_law 403 = .ok (.if_icmp .eq 5, 3) := by decide +kernel
theorem dL_law_406 : decode cL_law 406 = .ok (.iconst 0, 1) := by decide +kernel
theorem dL_law_407 : decode cL_law 407 = .ok (.ireturn, 1) := by decide +kernel
theorem dL_law_408 : decode cL_law 408 = .ok (.iload 5, 2) := by decide +kernel
theorem dL_law_410 : decode cL_law 410 = .ok (.ifCond .ne 15, 3) := by decide +kernel
theorem dL_law_413 : decode cL_law 413 = .ok (.aload_n 3, 1) := by decide +kernel
theorem dL_law_414 : decode cL_law 414 = .ok (.iconst 0, 1) := by decide +kernel
theorem dL_law_415 : decode cL_law 415 = .ok (.laload, 1) := by decide +kernel
theorem dL_law_416 : decode cL_law 416 = .ok (.iload 6, 2) := by decide +kernel
theorem dL_law_418 : decode cL_law 418 = .ok (.i2l, 1) := by decide +kernel
theorem dL_law_419 : decode cL_law 419 = .ok (.lcmp, 1) := by decide +kernel
theorem dL_law_420 : decode cL_law 420 = .ok (.ifCond .eq 5, 3) := by decide +kernel
theorem dL_law_423 : decode cL_law 423 = .ok (.iconst 0, 1) := by decide +kernel
theorem dL_law_424 : decode cL_law 424 = .ok (.ireturn, 1) := by decide +kernel
theorem dL_law_425 : decode cL_law 425 = .ok (.goto 1130, 3) := by decide +kernel
theorem dL_law_428 : decode cL_law 428 = .ok (.aload_n 1, 1) := by decide +kernel
theorem dL_law_429 : decode cL_law 429 = .ok (.aload_n 0, 1) := by decide +kernel
theorem dL_law_430 : decode cL_law 430 = .ok (.iload 4, 2) := by decide +kernel
theorem dL_law_432 : decode cL_law 432 = .ok (.iconst 1, 1) := by decide +kernel
theorem dL_law_433 : decode cL_law 433 = .ok (.iadd, 1) := by decide +kernel
theorem dL_law_434 : decode cL_law 434 = .ok (.iaload, 1) := by decide +kernel
theorem dL_law_435 : decode cL_law 435 = .ok (.aload_n 0, 1) := by decide +kernel
theorem dL_law_436 : decode cL_law 436 = .ok (.iload 4, 2) := by decide +kernel
theorem dL_law_438 : decode cL_law 438 = .ok (.iconst 2, 1) := by decide +kernel
theorem dL_law_439 : decode cL_law 439 = .ok (.iadd, 1) := by decide +kernel
theorem dL_law_440 : decode cL_law 440 = .ok (.iaload, 1) := by decide +kernel
theorem dL_law_441 : decode cL_law 441 = .ok (.invokevirtual 49, 3) := by decide +kernel
theorem dL_law_444 : decode cL_law 444 = .ok (.aload_n 2, 1) := by decide +kernel
theorem dL_law_445 : decode cL_law 445 = .ok (.aload_n 0, 1) := by decide +kernel
theorem dL_law_446 : decode cL_law 446 = .ok (.iload 4, 2) := by decide +kernel
theorem dL_law_448 : decode cL_law 448 = .ok (.iconst 1, 1) := by decide +kernel
theorem dL_law_449 : decode cL_law 449 = .ok (.iadd, 1) := by decide +kernel
theorem dL_law_450 : decode cL_law 450 = .ok (.iaload, 1) := by decide +kernel
theorem dL_law_451 : decode cL_law 451 = .ok (.aload_n 0, 1) := by decide +kernel
theorem dL_law_452 : decode cL_law 452 = .ok (.iload 4, 2) := by decide +kernel
theorem dL_law_454 : decode cL_law 454 = .ok (.iconst 2, 1) := by decide +kernel
theorem dL_law_455 : decode cL_law 455 = .ok (.iadd, 1) := by decide +kernel
theorem dL_law_456 : decode cL_law 456 = .ok (.iaload, 1) := by decide +kernel
theorem dL_law_457 : decode cL_law 457 = .ok (.invokevirtual 52, 3) := by decide +kernel
theorem dL_law_460 : decode cL_law 460 = .ok (.if_icmp .eq 1095, 3) := by decide +kernel
theorem dL_law_463 : decode cL_law 463 = .ok (.iconst 0, 1) := by decide +kernel
theorem dL_law_464 : decode cL_law 464 = .ok (.ireturn, 1) := by decide +kernel
theorem dL_law_465 : decode cL_law 465 = .ok (.aload_n 1, 1) := by decide +kernel
theorem dL_law_466 : decode cL_law 466 = .ok (.aload_n 0, 1) := by decide +kernel
theorem dL_law_467 : decode cL_law 467 = .ok (.iload 4, 2) := by decide +kernel
theorem dL_law_469 : decode cL_law 469 = .ok (.iconst 1, 1) := by decide +kernel
theorem dL_law_470 : decode cL_law 470 = .ok (.iadd, 1) := by decide +kernel
theorem dL_law_471 : decode cL_law 471 = .ok (.iaload, 1) := by decide +kernel
theorem dL_law_472 : decode cL_law 472 = .ok (.invokevirtual 53, 3) := by decide +kernel
theorem dL_law_475 : decode cL_law 475 = .ok (.aload_n 2, 1) := by decide +kernel
theorem dL_law_476 : decode cL_law 476 = .ok (.aload_n 0, 1) := by decide +kernel
theorem dL_law_477 : decode cL_law 477 = .ok (.iload 4, 2) := by decide +kernel
theorem dL_law_479 : decode cL_law 479 = .ok (.iconst 1, 1) := by decide +kernel
theorem dL_law_480 : decode cL_law 480 = .ok (.iadd, 1) := by decide +kernel
theorem dL_law_481 : decode cL_law 481 = .ok (.iaload, 1) := by decide +kernel
theorem dL_law_482 : decode cL_law 482 = .ok (.invokevirtual 56, 3) := by decide +kernel
theorem dL_law_485 : decode cL_law 485 = .ok (.if_icmp .eq 1070, 3) := by decide +kernel
theorem dL_law_488 : decode cL_law 488 = .ok (.iconst 0, 1) := by decide +kernel
theorem dL_law_489 : decode cL_law 489 = .ok (.ireturn, 1) := by decide +kernel
theorem dL_law_490 : decode cL_law 490 = .ok (.aload_n 1, 1) := by decide +kernel
theorem dL_law_491 : decode cL_law 491 = .ok (.aload_n 0, 1) := by decide +kernel
theorem dL_law_492 : decode cL_law 492 = .ok (.iload 4, 2) := by decide +kernel
theorem dL_law_494 : decode cL_law 494 = .ok (.iconst 1, 1) := by decide +kernel
theorem dL_law_495 : decode cL_law 495 = .ok (.iadd, 1) := by decide +kernel
theorem dL_law_496 : decode cL_law 496 = .ok (.iaload, 1) := by decide +kernel
theorem dL_law_497 : decode cL_law 497 = .ok (.aload_n 0, 1) := by decide +kernel
theorem dL_law_498 : decode cL_law 498 = .ok (.iload 4, 2) := by decide +kernel
theorem dL_law_500 : decode cL_law 500 = .ok (.iconst 2, 1) := by decide +kernel
