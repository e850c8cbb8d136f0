theorem dX11_fairest_9 : decode cX11_fairest 9 = .ok (.istore_n 3, 1) := by decide +kernel
theorem dX11_fairest_10 : decode cX11_fairest 10 = .ok (.iconst 0, 1) := by decide +kernel
theorem dX11_fairest_11 : decode cX11_fairest 11 = .ok (.istore 4, 2) := by decide +kernel
theorem dX11_fairest_13 : decode cX11_fairest 13 = .ok (.iconst 0, 1) := by decide +kernel
theorem dX11_fairest_14 : decode cX11_fairest 14 = .ok (.istore 5, 2) := by decide +kernel
theorem dX11_fairest_16 : decode cX11_fairest 16 = .ok (.iload 5, 2) := by decide +kernel
theorem dX11_fairest_18 : decode cX11_fairest 18 = .ok (.iconst 4, 1) := by decide +kernel
theorem dX11_fairest_19 : decode cX11_fairest 19 = .ok (.if_icmp .ge 86, 3) := by decide +kernel
theorem dX11_fairest_22 : decode cX11_fairest 22 = .ok (.aload_n 0, 1) := by decide +kernel
theorem dX11_fairest_23 : decode cX11_fairest 23 = .ok (.iload 5, 2) := by decide +kernel
theorem dX11_fairest_25 : decode cX11_fairest 25 = .ok (.iload_n 1, 1) := by decide +kernel
theorem dX11_fairest_26 : decode cX11_fairest 26 = .ok (.invokevirtual 284, 3) := by decide +kernel
theorem dX11_fairest_29 : decode cX11_fairest 29 = .ok (.aload_n 0, 1) := by decide +kernel
theorem dX11_fairest_30 : decode cX11_fairest 30 = .ok (.getfield 51, 3) := by decide +kernel
theorem dX11_fairest_33 : decode cX11_fairest 33 = .ok (.aload_n 0, 1) := by decide +kernel
theorem dX11_fairest_34 : decode cX11_fairest 34 = .ok (.getfield 18, 3) := by decide +kernel
theorem dX11_fairest_37 : decode cX11_fairest 37 = .ok (.getfield 102, 3) := by decide +kernel
theorem dX11_fairest_40 : decode cX11_fairest 40 = .ok (.getfield 106, 3) := by decide +kernel
theorem dX11_fairest_43 : decode cX11_fairest 43 = .ok (.invokevirtual 293, 3) := by decide +kernel
theorem dX11_fairest_46 : decode cX11_fairest 46 = .ok (.istore 6, 2) := by decide +kernel
theorem dX11_fairest_48 : decode cX11_fairest 48 = .ok (.aload_n 0, 1) := by decide +kernel
theorem dX11_fairest_49 : decode cX11_fairest 49 = .ok (.getfield 51, 3) := by decide +kernel
theorem dX11_fairest_52 : decode cX11_fairest 52 = .ok (.getfield 287, 3) := by decide +kernel
theorem dX11_fairest_55 : decode cX11_fairest 55 = .ok (.aload_n 0, 1) := by decide +kernel
theorem dX11_fairest_56 : decode cX11_fairest 56 = .ok (.getfield 51, 3) := by decide +kernel
theorem dX11_fairest_59 : decode cX11_fairest 59 = .ok (.getfield 290, 3) := by decide +kernel
theorem dX11_fairest_62 : decode cX11_fairest 62 = .ok (.iadd, 1) := by decide +kernel
theorem dX11_fairest_63 : decode cX11_fairest 63 = .ok (.istore 7, 2) := by decide +kernel
theorem dX11_fairest_65 : decode cX11_fairest 65 = .ok (.iload_n 2, 1) := by decide +kernel
theorem dX11_fairest_66 : decode cX11_fairest 66 = .ok (.iconst (-1), 1) := by decide +kernel
theorem dX11_fairest_67 : decode cX11_fairest 67 = .ok (.if_icmp .eq 22, 3) := by decide +kernel
theorem dX11_fairest_70 : decode cX11_fairest 70 = .ok (.iload 6, 2) := by decide +kernel
theorem dX11_fairest_72 : decode cX11_fairest 72 = .ok (.iload_n 3, 1) := by decide +kernel
theorem dX11_fairest_73 : decode cX11_fairest 73 = .ok (.if_icmp .lt 16, 3) := by decide +kernel
theorem dX11_fairest_76 : decode cX11_fairest 76 = .ok (.iload 6, 2) := by decide +kernel
theorem dX11_fairest_78 : decode cX11_fairest 78 = .ok (.iload_n 3, 1) := by decide +kernel
theorem dX11_fairest_79 : decode cX11_fairest 79 = .ok (.if_icmp .ne 20, 3) := by decide +kernel
theorem dX11_fairest_82 : decode cX11_fairest 82 = .ok (.iload 7, 2) := by decide +kernel
theorem dX11_fairest_84 : decode cX11_fairest 84 = .ok (.iload 4, 2) := by decide +kernel
theorem dX11_fairest_86 : decode cX11_fairest 86 = .ok (.if_icmp .ge 13, 3) := by decide +kernel
theorem dX11_fairest_89 : decode cX11_fairest 89 = .ok (.iload 5, 2) := by decide +kernel
theorem dX11_fairest_91 : decode cX11_fairest 91 = .ok (.istore_n 2, 1) := by decide +kernel
theorem dX11_fairest_92 : decode cX11_fairest 92 = .ok (.iload 6, 2) := by decide +kernel
theorem dX11_fairest_94 : decode cX11_fairest 94 = .ok (.istore_n 3, 1) := by decide +kernel
theorem dX11_fairest_95 : decode cX11_fairest 95 = .ok (.iload 7, 2) := by decide +kernel
theorem dX11_fairest_97 : decode cX11_fairest 97 = .ok (.istore 4, 2) := by decide +kernel
theorem dX11_fairest_99 : decode cX11_fairest 99 = .ok (.iinc 5 1, 3) := by decide +kernel
theorem dX11_fairest_102 : decode cX11_fairest 102 = .ok (.goto (-86), 3) := by decide +kernel
theorem dX11_fairest_105 : decode cX11_fairest 105 = .ok (.iload_n 2, 1) := by decide +kernel
theorem dX11_fairest_106 : decode cX11_fairest 106 = .ok (.ireturn, 1) := by decide +kernel
set_option maxRecDepth 20000 in
theorem ggX11_over_X11_isSurfer : GoodIn wsX11_over wsX11_isSurfer := goodIn_r _ [15, 1, 16, 17, 118, 119, 120, 121, 122, 123, 124, 125, 126, 127, 128, 129, 130, 131, 132, 133, 134, 135, 136, 137, 138, 139, 140, 141, 142, 143, 144, 145, 165, 166, 167, 168, 169, 170, 171] (by decide +kernel) (by decide +kernel)
set_option maxRecDepth 20000 in
theorem gX11_over_X11_isSurfer : GoodIn wsX11_over (wsV RX11 115 RX11 yX11_isSurfer wsX11_isSurfer) := goodIn_app (goodIn_of _ (by decide +kernel)) ggX11_over_X11_isSurfer
set_option maxRecDepth 20000 in
theorem ggX11_over_X11_firstToCome : GoodIn wsX11_over wsX11_firstToCome := goodIn_r _ [21, 1, 3, 7, 9, 22, 23, 24, 25, 26, 27, 28, 118, 119, 120, 121, 122, 123, 124, 125, 126, 127, 128, 129, 130, 131, 132, 133, 134, 135, 136, 137, 138, 139, 140, 141, 142, 143, 144, 145, 154, 155, 156, 157, 158, 159, 160, 161, 162, 163, 164, 146, 147, 148, 149, 150, 151, 152, 153] (by decide +kernel) (by decide +kernel)
set_option maxRecDepth 20000 in
theorem gX11_over_X11_firstToCome : GoodIn wsX11_over (wsV RX11 233 RX11 yX11_firstToCome wsX11_firstToCome) := goodIn_app (goodIn_of _ (by decide +kernel)) ggX11_over_X11_firstToCome
set_option maxRecDepth 20000 in
theorem ggX11_over_X6_seatFrom : GoodIn wsX11_over wsX6_seatFrom := goodIn_r _ [33, 34, 35, 36, 37, 38, 39, 32, 40, 41, 42, 43, 44, 45, 46, 47, 48, 49, 50, 51, 52, 53, 54, 55, 56, 57, 58, 59, 60, 61, 62, 63, 64, 65, 66, 67, 68, 69, 70, 71, 72, 73, 74, 75, 76, 77, 78, 79, 80, 81, 82, 83, 84, 85, 86, 87, 88, 89, 90, 91, 92, 93, 94, 95, 96, 97, 98, 99, 100, 101, 102, 103, 104, 105, 106, 107, 108, 109, 110, 172, 173, 174, 175, 176, 177, 178, 179, 180, 132, 133, 134, 135, 136, 137, 138, 139, 140, 141, 142, 143, 144, 145, 146, 147, 148, 149, 150, 151, 152, 153, 181, 182, 183] (by decide +kernel) (by decide +kernel)
set_option maxRecDepth 20000 in
theorem gX11_over_X6_seatFrom : GoodIn wsX11_over (wsV RX11 237 RX6 yX6_seatFrom wsX6_seatFrom) := goodIn_app (goodIn_of _ (by decide +kernel)) ggX11_over_X6_seatFrom
set_option maxRecDepth 20000 in
theorem ggX11_over_X8_bankWaves : GoodIn wsX11_over wsX8_bankWaves := goodIn_r _ [114, 115, 116, 132, 133, 134, 135, 136, 137, 138, 139, 140, 141, 142, 143, 144, 145] (by decide +kernel) (by decide +kernel)
set_option maxRecDepth 20000 in
theorem gX11_over_X8_bankWaves : GoodIn wsX11_over (wsV RX11 305 RX8 yX8_bankWaves wsX8_bankWaves) := goodIn_app (goodIn_of _ (by decide +kernel)) ggX11_over_X8_bankWaves
set_option maxRecDepth 20000 in
theorem ggX11_over_X6_worthAt : GoodIn wsX11_over wsX6_worthAt := goodIn_r _ [40, 34, 35, 41, 42, 43, 44, 32, 45, 46, 47, 48, 49, 50, 51, 52, 53, 54, 55, 56, 57, 58, 59, 60, 61, 62, 63, 64, 65, 66, 67, 68, 69, 70, 71, 72, 73, 74, 75, 76, 77, 78, 79, 80, 81, 82, 83, 84, 85, 86, 87, 88, 89, 90, 91, 92, 93, 94, 95, 96, 97, 98, 99, 100, 101, 102, 103, 104, 105, 106, 107, 108, 109, 110, 172, 173, 174, 175, 176, 177, 178, 179, 180, 132, 133, 134, 135, 136, 137, 138, 139, 140, 141, 142, 143, 144, 145, 146, 147, 148, 149, 150, 151, 152, 153, 181, 182, 183] (by decide +kernel) (by decide +kernel)
set_option maxRecDepth 20000 in
theorem gX11_over_X6_worthAt : GoodIn wsX11_over (wsV RX11 275 RX6 yX6_worthAt wsX6_worthAt) := goodIn_app (goodIn_of _ (by decide +kernel)) ggX11_over_X6_worthAt
theorem dX11_over_0 : decode cX11_over 0 = .ok (.aload_n 0, 1) := by decide +kernel
theorem dX11_over_1 : decode cX11_over 1 = .ok (.iload_n 1, 1) := by decide +kernel
theorem dX11_over_2 : decode cX11_over 2 = .ok (.invokevirtual 115, 3) := by decide +kernel
theorem dX11_over_5 : decode cX11_over 5 = .ok (.ifCond .eq 28, 3) := by decide +kernel
theorem dX11_over_8 : decode cX11_over 8 = .ok (.aload_n 0, 1) := by decide +kernel
theorem dX11_over_9 : decode cX11_over 9 = .ok (.getfield 18, 3) := by decide +kernel
theorem dX11_over_12 : decode cX11_over 12 = .ok (.getfield 296, 3) := by decide +kernel
theorem dX11_over_15 : decode cX11_over 15 = .ok (.iconst 1, 1) := by decide +kernel
theorem dX11_over_16 : decode cX11_over 16 = .ok (.if_icmp .lt 17, 3) := by decide +kernel
theorem dX11_over_19 : decode cX11_over 19 = .ok (.aload_n 0, 1) := by decide +kernel
theorem dX11_over_20 : decode cX11_over 20 = .ok (.getfield 18, 3) := by decide +kernel
theorem dX11_over_23 : decode cX11_over 23 = .ok (.getfield 150, 3) := by decide +kernel
theorem dX11_over_26 : decode cX11_over 26 = .ok (.getfield 299, 3) := by decide +kernel
theorem dX11_over_29 : decode cX11_over 29 = .ok (.iconst 1, 1) := by decide +kernel
theorem dX11_over_30 : decode cX11_over 30 = .ok (.if_icmp .ge 5, 3) := by decide +kernel
theorem dX11_over_33 : decode cX11_over 33 = .ok (.iconst (-1), 1) := by decide +kernel
theorem dX11_over_34 : decode cX11_over 34 = .ok (.ireturn, 1) := by decide +kernel
theorem dX11_over_35 : decode cX11_over 35 = .ok (.aload_n 0, 1) := by decide +kernel
theorem dX11_over_36 : decode cX11_over 36 = .ok (.getfield 18, 3) := by decide +kernel
theorem dX11_over_39 : decode cX11_over 39 = .ok (.getfield 150, 3) := by decide +kernel
theorem dX11_over_42 : decode cX11_over 42 = .ok (.getfield 154, 3) := by decide +kernel
theorem dX11_over_45 : decode cX11_over 45 = .ok (.aload_n 0, 1) := by decide +kernel
theorem dX11_over_46 : decode cX11_over 46 = .ok (.getfield 18, 3) := by decide +kernel
theorem dX11_over_49 : decode cX11_over 49 = .ok (.getfield 150, 3) := by decide +kernel
theorem dX11_over_52 : decode cX11_over 52 = .ok (.getfield 299, 3) := by decide +kernel
theorem dX11_over_55 : decode cX11_over 55 = .ok (.iconst 1, 1) := by decide +kernel
theorem dX11_over_56 : decode cX11_over 56 = .ok (.isub, 1) := by decide +kernel
theorem dX11_over_57 : decode cX11_over 57 = .ok (.iaload, 1) := by decide +kernel
theorem dX11_over_58 : decode cX11_over 58 = .ok (.istore_n 2, 1) := by decide +kernel
theorem dX11_over_59 : decode cX11_over 59 = .ok (.aload_n 0, 1) := by decide +kernel
theorem dX11_over_60 : decode cX11_over 60 = .ok (.invokevirtual 233, 3) := by decide +kernel
theorem dX11_over_63 : decode cX11_over 63 = .ok (.istore_n 3, 1) := by decide +kernel
theorem dX11_over_64 : decode cX11_over 64 = .ok (.aload_n 0, 1) := by decide +kernel
theorem dX11_over_65 : decode cX11_over 65 = .ok (.getfield 37, 3) := by decide +kernel
theorem dX11_over_68 : decode cX11_over 68 = .ok (.iload_n 1, 1) := by decide +kernel
theorem dX11_over_69 : decode cX11_over 69 = .ok (.aload_n 0, 1) := by decide +kernel
theorem dX11_over_70 : decode cX11_over 70 = .ok (.getfield 47, 3) := by decide +kernel
theorem dX11_over_73 : decode cX11_over 73 = .ok (.getfield 122, 3) := by decide +kernel
theorem dX11_over_76 : decode cX11_over 76 = .ok (.iload_n 1, 1) := by decide +kernel
theorem dX11_over_77 : decode cX11_over 77 = .ok (.iaload, 1) := by decide +kernel
theorem dX11_over_78 : decode cX11_over 78 = .ok (.iload_n 3, 1) := by decide +kernel
theorem dX11_over_79 : decode cX11_over 79 = .ok (.invokevirtual 237, 3) := by decide +kernel
theorem dX11_over_82 : decode cX11_over 82 = .ok (.istore 4, 2) := by decide +kernel
theorem dX11_over_84 : decode cX11_over 84 = .ok (.aload_n 0, 1) := by decide +kernel
theorem dX11_over_85 : decode cX11_over 85 = .ok (.getfield 47, 3) := by decide +kernel
theorem dX11_over_88 : decode cX11_over 88 = .ok (.getfield 186, 3) := by decide +kernel
theorem dX11_over_91 : decode cX11_over 91 = .ok (.istore 5, 2) := by decide +kernel
theorem dX11_over_93 : decode cX11_over 93 = .ok (.iload 5, 2) := by decide +kernel
theorem dX11_over_95 : decode cX11_over 95 = .ok (.iload_n 2, 1) := by decide +kernel
theorem dX11_over_96 : decode cX11_over 96 = .ok (.if_icmp .gt 95, 3) := by decide +kernel
theorem dX11_over_99 : decode cX11_over 99 = .ok (.bipush 100, 2) := by decide +kernel
theorem dX11_over_101 : decode cX11_over 101 = .ok (.aload_n 0, 1) := by decide +kernel
theorem dX11_over_102 : decode cX11_over 102 = .ok (.getfield 18, 3) := by decide +kernel
theorem dX11_over_105 : decode cX11_over 105 = .ok (.getfield 302, 3) := by decide +kernel
theorem dX11_over_108 : decode cX11_over 108 = .ok (.imul, 1) := by decide +kernel
theorem dX11_over_109 : decode cX11_over 109 = .ok (.aload_n 0, 1) := by decide +kernel
theorem dX11_over_110 : decode cX11_over 110 = .ok (.getfield 18, 3) := by decide +kernel
theorem dX11_over_113 : decode cX11_over 113 = .ok (.iload 5, 2) := by decide +kernel
theorem dX11_over_115 : decode cX11_over 115 = .ok (.iload_n 2, 1) := by decide +kernel
theorem dX11_over_116 : decode cX11_over 116 = .ok (.invokevirtual 305, 3) := by decide +kernel
theorem dX11_over_119 : decode cX11_over 119 = .ok (.imul, 1) := by decide +kernel
theorem dX11_over_120 : decode cX11_over 120 = .ok (.iload 4, 2) := by decide +kernel
theorem dX11_over_122 : decode cX11_over 122 = .ok (.if_icmp .le 6, 3) := by decide +kernel
theorem dX11_over_125 : decode cX11_over 125 = .ok (.iload 5, 2) := by decide +kernel
theorem dX11_over_127 : decode cX11_over 127 = .ok (.ireturn, 1) := by decide +kernel
theorem dX11_over_128 : decode cX11_over 128 = .ok (.iload_n 3, 1) := by decide +kernel
theorem dX11_over_129 : decode cX11_over 129 = .ok (.aload_n 0, 1) := by decide +kernel
theorem dX11_over_130 : decode cX11_over 130 = .ok (.getfield 18, 3) := by decide +kernel
theorem dX11_over_133 : decode cX11_over 133 = .ok (.getfield 150, 3) := by decide +kernel
theorem dX11_over_136 : decode cX11_over 136 = .ok (.getfield 299, 3) := by decide +kernel
theorem dX11_over_139 : decode cX11_over 139 = .ok (.if_icmp .ge 46, 3) := by decide +kernel
theorem dX11_over_142 : decode cX11_over 142 = .ok (.aload_n 0, 1) := by decide +kernel
theorem dX11_over_143 : decode cX11_over 143 = .ok (.getfield 18, 3) := by decide +kernel
theorem dX11_over_146 : decode cX11_over 146 = .ok (.getfield 150, 3) := by decide +kernel
theorem dX11_over_149 : decode cX11_over 149 = .ok (.getfield 154, 3) := by decide +kernel
theorem dX11_over_152 : decode cX11_over 152 = .ok (.iload_n 3, 1) := by decide +kernel
theorem dX11_over_153 : decode cX11_over 153 = .ok (.iaload, 1) := by decide +kernel
theorem dX11_over_154 : decode cX11_over 154 = .ok (.iload 5, 2) := by decide +kernel
theorem dX11_over_156 : decode cX11_over 156 = .ok (.if_icmp .ne 29, 3) := by decide +kernel
theorem dX11_over_159 : decode cX11_over 159 = .ok (.iload 4, 2) := by decide +kernel
theorem dX11_over_161 : decode cX11_over 161 = .ok (.aload_n 0, 1) := by decide +kernel
theorem dX11_over_162 : decode cX11_over 162 = .ok (.getfield 37, 3) := by decide +kernel
theorem dX11_over_165 : decode cX11_over 165 = .ok (.iload_n 1, 1) := by decide +kernel
theorem dX11_over_166 : decode cX11_over 166 = .ok (.iload_n 3, 1) := by decide +kernel
theorem dX11_over_167 : decode cX11_over 167 = .ok (.aload_n 0, 1) := by decide +kernel
theorem dX11_over_168 : decode cX11_over 168 = .ok (.getfield 47, 3) := by decide +kernel
theorem dX11_over_171 : decode cX11_over 171 = .ok (.getfield 122, 3) := by decide +kernel
theorem dX11_over_174 : decode cX11_over 174 = .ok (.iload_n 1, 1) := by decide +kernel
theorem dX11_over_175 : decode cX11_over 175 = .ok (.iaload, 1) := by decide +kernel
theorem dX11_over_176 : decode cX11_over 176 = .ok (.invokevirtual 275, 3) := by decide +kernel
theorem dX11_over_179 : decode cX11_over 179 = .ok (.isub, 1) := by decide +kernel
theorem dX11_over_180 : decode cX11_over 180 = .ok (.istore 4, 2) := by decide +kernel
theorem dX11_over_182 : decode cX11_over 182 = .ok (.iinc 3 1, 3) := by decide +kernel
theorem dX11_over_185 : decode cX11_over 185 = .ok (.iinc 5 1, 3) := by decide +kernel
theorem dX11_over_188 : decode cX11_over 188 = .ok (.goto (-95), 3) := by decide +kernel
theorem dX11_over_191 : decode cX11_over 191 = .ok (.bipush (-2), 2) := by decide +kernel
theorem dX11_over_193 : decode cX11_over 193 = .ok (.ireturn, 1) := by decide +kernel
set_option maxRecDepth 20000 in
theorem ggX11_next_X10_setFrom : GoodIn wsX11_next wsX10_setFrom := goodIn_r _ [9, 10, 11, 12, 13, 8, 14, 15, 16, 57, 58, 59, 60, 61, 62, 63, 64] (by decide +kernel) (by decide +kernel)
set_option maxRecDepth 20000 in
theorem gX11_next_X10_setFrom : GoodIn wsX11_next (wsV RX11 308 RX10 yX10_setFrom wsX10_setFrom) := goodIn_app (goodIn_of _ (by decide +kernel)) ggX11_next_X10_setFrom
set_option maxRecDepth 20000 in
theorem ggX11_next_X10_firstMinute : GoodIn wsX11_next wsX10_firstMinute := goodIn_r _ [14, 15, 16, 57, 58, 59, 60, 61, 62, 63, 64] (by decide +kernel) (by decide +kernel)
set_option maxRecDepth 20000 in
theorem gX11_next_X10_firstMinute : GoodIn wsX11_next (wsV RX11 311 RX10 yX10_firstMinute wsX10_firstMinute) := goodIn_app (goodIn_of _ (by decide +kernel)) ggX11_next_X10_firstMinute
theorem dX11_next_0 : decode cX11_next 0 = .ok (.aload_n 0, 1) := by decide +kernel
theorem dX11_next_1 : decode cX11_next 1 = .ok (.getfield 18, 3) := by decide +kernel
theorem dX11_next_4 : decode cX11_next 4 = .ok (.getfield 150, 3) := by decide +kernel
theorem dX11_next_7 : decode cX11_next 7 = .ok (.aload_n 0, 1) := by decide +kernel
theorem dX11_next_8 : decode cX11_next 8 = .ok (.getfield 47, 3) := by decide +kernel
theorem dX11_next_11 : decode cX11_next 11 = .ok (.getfield 186, 3) := by decide +kernel
theorem dX11_next_14 : decode cX11_next 14 = .ok (.invokevirtual 308, 3) := by decide +kernel
theorem dX11_next_17 : decode cX11_next 17 = .ok (.istore_n 1, 1) := by decide +kernel
theorem dX11_next_18 : decode cX11_next 18 = .ok (.iload_n 1, 1) := by decide +kernel
theorem dX11_next_19 : decode cX11_next 19 = .ok (.iconst (-1), 1) := by decide +kernel
theorem dX11_next_20 : decode cX11_next 20 = .ok (.if_icmp .ne 8, 3) := by decide +kernel
theorem dX11_next_23 : decode cX11_next 23 = .ok (.bipush (-2), 2) := by decide +kernel
theorem dX11_next_25 : decode cX11_next 25 = .ok (.goto 22, 3) := by decide +kernel
theorem dX11_next_28 : decode cX11_next 28 = .ok (.aload_n 0, 1) := by decide +kernel
theorem dX11_next_29 : decode cX11_next 29 = .ok (.getfield 18, 3) := by decide +kernel
theorem dX11_next_32 : decode cX11_next 32 = .ok (.getfield 150, 3) := by decide +kernel
theorem dX11_next_35 : decode cX11_next 35 = .ok (.iload_n 1, 1) := by decide +kernel
theorem dX11_next_36 : decode cX11_next 36 = .ok (.invokevirtual 311, 3) := by decide +kernel
theorem dX11_next_39 : decode cX11_next 39 = .ok (.aload_n 0, 1) := by decide +kernel
theorem dX11_next_40 : decode cX11_next 40 = .ok (.getfield 47, 3) := by decide +kernel
theorem dX11_next_43 : decode cX11_next 43 = .ok (.getfield 186, 3) := by decide +kernel
theorem dX11_next_46 : decode cX11_next 46 = .ok (.isub, 1) := by decide +kernel
theorem dX11_next_47 : decode cX11_next 47 = .ok (.ireturn, 1) := by decide +kernel
set_option maxRecDepth 20000 in
theorem ggX11_gaps_X10_firstMinute : GoodIn wsX11_gaps wsX10_firstMinute := goodIn_r _ [8, 9, 10, 45, 46, 47, 48, 49, 50, 51, 52] (by decide +kernel) (by decide +kernel)
set_option maxRecDepth 20000 in
theorem gX11_gaps_X10_firstMinute : GoodIn wsX11_gaps (wsV RX11 311 RX10 yX10_firstMinute wsX10_firstMinute) := goodIn_app (goodIn_of _ (by decide +kernel)) ggX11_gaps_X10_firstMinute
set_option maxRecDepth 20000 in
theorem ggX11_gaps_X10_lastMinute : GoodIn wsX11_gaps wsX10_lastMinute := goodIn_r _ [14, 15, 16, 5, 6, 7, 8, 9, 10, 45, 46, 47, 48, 49, 50, 51, 52] (by decide +kernel) (by decide +kernel)
set_option maxRecDepth 20000 in
theorem gX11_gaps_X10_lastMinute : GoodIn wsX11_gaps (wsV RX11 314 RX10 yX10_lastMinute wsX10_lastMinute) := goodIn_app (goodIn_of _ (by decide +kernel)) ggX11_gaps_X10_lastMinute
theorem dX11_gaps_0 : decode cX11_gaps 0 = .ok (.iload_n 1, 1) := by decide +kernel
theorem dX11_gaps_1 : decode cX11_gaps 1 = .ok (.ifCond .lt 18, 3) := by decide +kernel
theorem dX11_gaps_4 : decode cX11_gaps 4 = .ok (.iload_n 1, 1) := by decide +kernel
theorem dX11_gaps_5 : decode cX11_gaps 5 = .ok (.bipush 99, 2) := by decide +kernel
theorem dX11_gaps_7 : decode cX11_gaps 7 = .ok (.if_icmp .gt 12, 3) := by decide +kernel
theorem dX11_gaps_10 : decode cX11_gaps 10 = .ok (.iload_n 2, 1) := by decide +kernel
theorem dX11_gaps_11 : decode cX11_gaps 11 = .ok (.ifCond .lt 8, 3) := by decide +kernel
theorem dX11_gaps_14 : decode cX11_gaps 14 = .ok (.iload_n 2, 1) := by decide +kernel
theorem dX11_gaps_15 : decode cX11_gaps 15 = .ok (.iconst 1, 1) := by decide +kernel
theorem dX11_gaps_16 : decode cX11_gaps 16 = .ok (.if_icmp .le 5, 3) := by decide +kernel
theorem dX11_gaps_19 : decode cX11_gaps 19 = .ok (.iconst (-1), 1) := by decide +kernel
theorem dX11_gaps_20 : decode cX11_gaps 20 = .ok (.ireturn, 1) := by decide +kernel
theorem dX11_gaps_21 : decode cX11_gaps 21 = .ok (.iconst 0, 1) := by decide +kernel
theorem dX11_gaps_22 : decode cX11_gaps 22 = .ok (.istore_n 3, 1) := by decide +kernel
theorem dX11_gaps_23 : decode cX11_gaps 23 = .ok (.iconst 1, 1) := by decide +kernel
theorem dX11_gaps_24 : decode cX11_gaps 24 = .ok (.istore 4, 2) := by decide +kernel
theorem dX11_gaps_26 : decode cX11_gaps 26 = .ok (.iload 4, 2) := by decide +kernel
theorem dX11_gaps_28 : decode cX11_gaps 28 = .ok (.aload_n 0, 1) := by decide +kernel
theorem dX11_gaps_29 : decode cX11_gaps 29 = .ok (.getfield 18, 3) := by decide +kernel
theorem dX11_gaps_32 : decode cX11_gaps 32 = .ok (.getfield 150, 3) := by decide +kernel
theorem dX11_gaps_35 : decode cX11_gaps 35 = .ok (.getfield 253, 3) := by decide +kernel
theorem dX11_gaps_38 : decode cX11_gaps 38 = .ok (.if_icmp .ge 52, 3) := by decide +kernel
theorem dX11_gaps_41 : decode cX11_gaps 41 = .ok (.aload_n 0, 1) := by decide +kernel
theorem dX11_gaps_42 : decode cX11_gaps 42 = .ok (.getfield 18, 3) := by decide +kernel
theorem dX11_gaps_45 : decode cX11_gaps 45 = .ok (.getfield 150, 3) := by decide +kernel
theorem dX11_gaps_48 : decode cX11_gaps 48 = .ok (.iload 4, 2) := by decide +kernel
theorem dX11_gaps_50 : decode cX11_gaps 50 = .ok (.invokevirtual 311, 3) := by decide +kernel
theorem dX11_gaps_53 : decode cX11_gaps 53 = .ok (.aload_n 0, 1) := by decide +kernel
theorem dX11_gaps_54 : decode cX11_gaps 54 = .ok (.getfield 18, 3) := by decide +kernel
theorem dX11_gaps_57 : decode cX11_gaps 57 = .ok (.getfield 150, 3) := by decide +kernel
theorem dX11_gaps_60 : decode cX11_gaps 60 = .ok (.iload 4, 2) := by decide +kernel
theorem dX11_gaps_62 : decode cX11_gaps 62 = .ok (.iconst 1, 1) := by decide +kernel
theorem dX11_gaps_63 : decode cX11_gaps 63 = .ok (.isub, 1) := by decide +kernel
theorem dX11_gaps_64 : decode cX11_gaps 64 = .ok (.invokevirtual 314, 3) := by decide +kernel
theorem dX11_gaps_67 : decode cX11_gaps 67 = .ok (.isub, 1) := by decide +kernel
theorem dX11_gaps_68 : decode cX11_gaps 68 = .ok (.istore 5, 2) := by decide +kernel
theorem dX11_gaps_70 : decode cX11_gaps 70 = .ok (.iload_n 2, 1) := by decide +kernel
theorem dX11_gaps_71 : decode cX11_gaps 71 = .ok (.iconst 1, 1) := by decide +kernel
theorem dX11_gaps_72 : decode cX11_gaps 72 = .ok (.if_icmp .eq 9, 3) := by decide +kernel
theorem dX11_gaps_75 : decode cX11_gaps 75 = .ok (.iload 5, 2) := by decide +kernel
theorem dX11_gaps_77 : decode cX11_gaps 77 = .ok (.iload_n 1, 1) := by decide +kernel
theorem dX11_gaps_78 : decode cX11_gaps 78 = .ok (.if_icmp .gt 6, 3) := by decide +kernel
theorem dX11_gaps_81 : decode cX11_gaps 81 = .ok (.iinc 3 1, 3) := by decide +kernel
theorem dX11_gaps_84 : decode cX11_gaps 84 = .ok (.iinc 4 1, 3) := by decide +kernel
theorem dX11_gaps_87 : decode cX11_gaps 87 = .ok (.goto (-61), 3) := by decide +kernel
theorem dX11_gaps_90 : decode cX11_gaps 90 = .ok (.iload_n 3, 1) := by decide +kernel
theorem dX11_gaps_91 : decode cX11_gaps 91 = .ok (.ireturn, 1) := by decide +kernel
set_option maxRecDepth 20000 in
theorem ggX11_shares_X4_unlike : GoodIn wsX11_shares wsX4_unlike := goodIn_r _ [9, 10, 11, 12, 13, 14, 15, 16, 17, 57, 58, 59, 60, 61, 62, 63, 64, 65, 66, 67] (by decide +kernel) (by decide +kernel)
set_option maxRecDepth 20000 in
theorem gX11_shares_X4_unlike : GoodIn wsX11_shares (wsV RX11 293 RX4 yX4_unlike wsX4_unlike) := goodIn_app (goodIn_of _ (by decide +kernel)) ggX11_shares_X4_unlike
set_option maxRecDepth 20000 in
theorem ggX11_shares_X4_hadInSum : GoodIn wsX11_shares wsX4_hadInSum := goodIn_r _ [21, 10, 57, 58, 59, 60, 61, 62, 63, 64, 65, 66, 67] (by decide +kernel) (by decide +kernel)
set_option maxRecDepth 20000 in
theorem gX11_shares_X4_hadInSum : GoodIn wsX11_shares (wsV RX11 317 RX4 yX4_hadInSum wsX4_hadInSum) := goodIn_app (goodIn_of _ (by decide +kernel)) ggX11_shares_X4_hadInSum
theorem dX11_shares_0 : decode cX11_shares 0 = .ok (.iload_n 1, 1) := by decide +kernel
theorem dX11_shares_1 : decode cX11_shares 1 = .ok (.ifCond .lt 22, 3) := by decide +kernel
theorem dX11_shares_4 : decode cX11_shares 4 = .ok (.iload_n 1, 1) := by decide +kernel
theorem dX11_shares_5 : decode cX11_shares 5 = .ok (.iconst 1, 1) := by decide +kernel
theorem dX11_shares_6 : decode cX11_shares 6 = .ok (.if_icmp .gt 17, 3) := by decide +kernel
theorem dX11_shares_9 : decode cX11_shares 9 = .ok (.aload_n 0, 1) := by decide +kernel
theorem dX11_shares_10 : decode cX11_shares 10 = .ok (.getfield 18, 3) := by decide +kernel
theorem dX11_shares_13 : decode cX11_shares 13 = .ok (.getfield 102, 3) := by decide +kernel
theorem dX11_shares_16 : decode cX11_shares 16 = .ok (.getfield 106, 3) := by decide +kernel
theorem dX11_shares_19 : decode cX11_shares 19 = .ok (.iconst 1, 1) := by decide +kernel
theorem dX11_shares_20 : decode cX11_shares 20 = .ok (.if_icmp .ge 5, 3) := by decide +kernel
theorem dX11_shares_23 : decode cX11_shares 23 = .ok (.iconst (-1), 1) := by decide +kernel
theorem dX11_shares_24 : decode cX11_shares 24 = .ok (.ireturn, 1) := by decide +kernel
theorem dX11_shares_25 : decode cX11_shares 25 = .ok (.iload_n 1, 1) := by decide +kernel
theorem dX11_shares_26 : decode cX11_shares 26 = .ok (.ifCond .ne 23, 3) := by decide +kernel
theorem dX11_shares_29 : decode cX11_shares 29 = .ok (.aload_n 0, 1) := by decide +kernel
theorem dX11_shares_30 : decode cX11_shares 30 = .ok (.getfield 47, 3) := by decide +kernel
theorem dX11_shares_33 : decode cX11_shares 33 = .ok (.aload_n 0, 1) := by decide +kernel
theorem dX11_shares_34 : decode cX11_shares 34 = .ok (.getfield 18, 3) := by decide +kernel
theorem dX11_shares_37 : decode cX11_shares 37 = .ok (.getfield 102, 3) := by decide +kernel
theorem dX11_shares_40 : decode cX11_shares 40 = .ok (.getfield 106, 3) := by decide +kernel
theorem dX11_shares_43 : decode cX11_shares 43 = .ok (.invokevirtual 293, 3) := by decide +kernel
theorem dX11_shares_46 : decode cX11_shares 46 = .ok (.goto 20, 3) := by decide +kernel
theorem dX11_shares_49 : decode cX11_shares 49 = .ok (.aload_n 0, 1) := by decide +kernel
theorem dX11_shares_50 : decode cX11_shares 50 = .ok (.getfield 47, 3) := by decide +kernel
theorem dX11_shares_53 : decode cX11_shares 53 = .ok (.aload_n 0, 1) := by decide +kernel
theorem dX11_shares_54 : decode cX11_shares 54 = .ok (.getfield 18, 3) := by decide +kernel
theorem dX11_shares_57 : decode cX11_shares 57 = .ok (.getfield 102, 3) := by decide +kernel
theorem dX11_shares_60 : decode cX11_shares 60 = .ok (.getfield 106, 3) := by decide +kernel
theorem dX11_shares_63 : decode cX11_shares 63 = .ok (.invokevirtual 317, 3) := by decide +kernel
theorem dX11_shares_66 : decode cX11_shares 66 = .ok (.ireturn, 1) := by decide +kernel
set_option maxRecDepth 20000 in
theorem ggX11_note_X11_isSurfer : GoodIn wsX11_note wsX11_isSurfer := goodIn_r _ [6, 7, 8, 9, 31, 32, 33, 34, 35, 36, 37, 38, 39, 40, 41, 42, 43, 44, 45, 46, 47, 48, 49, 50, 51, 52, 53, 54, 55, 56, 57, 58, 59, 60, 61, 62, 63, 64, 65] (by decide +kernel) (by decide +kernel)
set_option maxRecDepth 20000 in
theorem gX11_note_X11_isSurfer : GoodIn wsX11_note (wsV RX11 115 RX11 yX11_isSurfer wsX11_isSurfer) := goodIn_app (goodIn_of _ (by decide +kernel)) ggX11_note_X11_isSurfer
set_option maxRecDepth 20000 in
theorem ggX11_note_X11_isCell : GoodIn wsX11_note wsX11_isCell := goodIn_r _ [13, 7, 14, 15, 16, 17, 18, 19, 20, 31, 32, 33, 34, 35, 36, 37, 38, 39, 40, 41, 42, 43, 44, 45, 46, 47, 48, 49, 50, 51, 52, 53, 54, 55, 56, 57, 58] (by decide +kernel) (by decide +kernel)
set_option maxRecDepth 20000 in
theorem gX11_note_X11_isCell : GoodIn wsX11_note (wsV RX11 179 RX11 yX11_isCell wsX11_isCell) := goodIn_app (goodIn_of _ (by decide +kernel)) ggX11_note_X11_isCell
set_option maxRecDepth 20000 in
theorem ggX11_note_X3_addSeat : GoodIn wsX11_note wsX3_addSeat := goodIn_r _ [25, 26, 27, 28, 29, 30, 66, 67, 68, 69, 70, 71, 72] (by decide +kernel) (by decide +kernel)
set_option maxRecDepth 20000 in
theorem gX11_note_X3_addSeat : GoodIn wsX11_note (wsV RX11 320 RX3 yX3_addSeat wsX3_addSeat) := goodIn_app (goodIn_of _ (by decide +kernel)) ggX11_note_X3_addSeat
theorem dX11_note_0 : decode cX11_note 0 = .ok (.iload_n 1, 1) := by decide +kernel
theorem dX11_note_1 : decode cX11_note 1 = .ok (.ifCond .lt 26, 3) := by decide +kernel
theorem dX11_note_4 : decode cX11_note 4 = .ok (.iload_n 1, 1) := by decide +kernel
theorem dX11_note_5 : decode cX11_note 5 = .ok (.sipush 199, 3) := by decide +kernel
theorem dX11_note_8 : decode cX11_note 8 = .ok (.if_icmp .gt 19, 3) := by decide +kernel
theorem dX11_note_11 : decode cX11_note 11 = .ok (.aload_n 0, 1) := by decide +kernel
theorem dX11_note_12 : decode cX11_note 12 = .ok (.iload_n 2, 1) := by decide +kernel
theorem dX11_note_13 : decode cX11_note 13 = .ok (.invokevirtual 115, 3) := by decide +kernel
theorem dX11_note_16 : decode cX11_note 16 = .ok (.ifCond .eq 11, 3) := by decide +kernel
theorem dX11_note_19 : decode cX11_note 19 = .ok (.aload_n 0, 1) := by decide +kernel
theorem dX11_note_20 : decode cX11_note 20 = .ok (.iload_n 3, 1) := by decide +kernel
theorem dX11_note_21 : decode cX11_note 21 = .ok (.invokevirtual 179, 3) := by decide +kernel
theorem dX11_note_24 : decode cX11_note 24 = .ok (.ifCond .ne 5, 3) := by decide +kernel
theorem dX11_note_27 : decode cX11_note 27 = .ok (.iconst (-1), 1) := by decide +kernel
theorem dX11_note_28 : decode cX11_note 28 = .ok (.ireturn, 1) := by decide +kernel
theorem dX11_note_29 : decode cX11_note 29 = .ok (.aload_n 0, 1) := by decide +kernel
theorem dX11_note_30 : decode cX11_note 30 = .ok (.getfield 60, 3) := by decide +kernel
theorem dX11_note_33 : decode cX11_note 33 = .ok (.iload_n 1, 1) := by decide +kernel
theorem dX11_note_34 : decode cX11_note 34 = .ok (.iload_n 2, 1) := by decide +kernel
theorem dX11_note_35 : decode cX11_note 35 = .ok (.iload_n 3, 1) := by decide +kernel
theorem dX11_note_36 : decode cX11_note 36 = .ok (.invokevirtual 320, 3) := by decide +kernel
theorem dX11_note_39 : decode cX11_note 39 = .ok (.ireturn, 1) := by decide +kernel
set_option maxRecDepth 20000 in
theorem ggX11_strike_X3_addStrike : GoodIn wsX11_strike wsX3_addStrike := goodIn_r _ [7, 8, 9, 10, 25, 26, 27, 28, 29, 30, 31] (by decide +kernel) (by decide +kernel)
set_option maxRecDepth 20000 in
theorem gX11_strike_X3_addStrike : GoodIn wsX11_strike (wsV RX11 324 RX3 yX3_addStrike wsX3_addStrike) := goodIn_app (goodIn_of _ (by decide +kernel)) ggX11_strike_X3_addStrike
theorem dX11_strike_0 : decode cX11_strike 0 = .ok (.iload_n 1, 1) := by decide +kernel
theorem dX11_strike_1 : decode cX11_strike 1 = .ok (.ifCond .lt 14, 3) := by decide +kernel
theorem dX11_strike_4 : decode cX11_strike 4 = .ok (.iload_n 1, 1) := by decide +kernel
theorem dX11_strike_5 : decode cX11_strike 5 = .ok (.aload_n 0, 1) := by decide +kernel
theorem dX11_strike_6 : decode cX11_strike 6 = .ok (.getfield 60, 3) := by decide +kernel
theorem dX11_strike_9 : decode cX11_strike 9 = .ok (.getfield 323, 3) := by decide +kernel
theorem dX11_strike_12 : decode cX11_strike 12 = .ok (.if_icmp .lt 5, 3) := by decide +kernel
theorem dX11_strike_15 : decode cX11_strike 15 = .ok (.iconst (-1), 1) := by decide +kernel
theorem dX11_strike_16 : decode cX11_strike 16 = .ok (.ireturn, 1) := by decide +kernel
theorem dX11_strike_17 : decode cX11_strike 17 = .ok (.aload_n 0, 1) := by decide +kernel
theorem dX11_strike_18 : decode cX11_strike 18 = .ok (.getfield 60, 3) := by decide +kernel
theorem dX11_strike_21 : decode cX11_strike 21 = .ok (.iload_n 1, 1) := by decide +kernel
theorem dX11_strike_22 : decode cX11_strike 22 = .ok (.invokevirtual 324, 3) := by decide +kernel
theorem dX11_strike_25 : decode cX11_strike 25 = .ok (.ireturn, 1) := by decide +kernel
theorem dX11_known_0 : decode cX11_known 0 = .ok (.iload_n 1, 1) := by decide +kernel
theorem dX11_known_1 : decode cX11_known 1 = .ok (.iconst (-1), 1) := by decide +kernel
theorem dX11_known_2 : decode cX11_known 2 = .ok (.if_icmp .lt 14, 3) := by decide +kernel
theorem dX11_known_5 : decode cX11_known 5 = .ok (.iload_n 1, 1) := by decide +kernel
theorem dX11_known_6 : decode cX11_known 6 = .ok (.aload_n 0, 1) := by decide +kernel
theorem dX11_known_7 : decode cX11_known 7 = .ok (.getfield 60, 3) := by decide +kernel
theorem dX11_known_10 : decode cX11_known 10 = .ok (.getfield 323, 3) := by decide +kernel
theorem dX11_known_13 : decode cX11_known 13 = .ok (.if_icmp .le 5, 3) := by decide +kernel
theorem dX11_known_16 : decode cX11_known 16 = .ok (.iconst 0, 1) := by decide +kernel
theorem dX11_known_17 : decode cX11_known 17 = .ok (.ireturn, 1) := by decide +kernel
theorem dX11_known_18 : decode cX11_known 18 = .ok (.aload_n 0, 1) := by decide +kernel
theorem dX11_known_19 : decode cX11_known 19 = .ok (.getfield 60, 3) := by decide +kernel
theorem dX11_known_22 : decode cX11_known 22 = .ok (.iload_n 1, 1) := by decide +kernel
theorem dX11_known_23 : decode cX11_known 23 = .ok (.putfield 327, 3) := by decide +kernel
theorem dX11_known_26 : decode cX11_known 26 = .ok (.iconst 1, 1) := by decide +kernel
theorem dX11_known_27 : decode cX11_known 27 = .ok (.ireturn, 1) := by decide +kernel
set_option maxRecDepth 20000 in
theorem ggX11_locals_X3_findStruck : GoodIn wsX11_locals wsX3_findStruck := goodIn_r _ [13, 14, 15, 16, 17, 18, 12, 19, 20, 21, 85, 86, 87, 88, 89, 90, 91] (by decide +kernel) (by decide +kernel)
set_option maxRecDepth 20000 in
theorem gX11_locals_X3_findStruck : GoodIn wsX11_locals (wsV RX11 330 RX3 yX3_findStruck wsX3_findStruck) := goodIn_app (goodIn_of _ (by decide +kernel)) ggX11_locals_X3_findStruck
set_option maxRecDepth 20000 in
theorem ggX11_locals_X3_howManyKnown : GoodIn wsX11_locals wsX3_howManyKnown := goodIn_r _ [19, 20, 21, 85, 86, 87, 88, 89, 90, 91] (by decide +kernel) (by decide +kernel)
set_option maxRecDepth 20000 in
theorem gX11_locals_X3_howManyKnown : GoodIn wsX11_locals (wsV RX11 333 RX3 yX3_howManyKnown wsX3_howManyKnown) := goodIn_app (goodIn_of _ (by decide +kernel)) ggX11_locals_X3_howManyKnown
set_option maxRecDepth 20000 in
theorem ggX11_locals_X3_isKnownSeat : GoodIn wsX11_locals wsX3_isKnownSeat := goodIn_r _ [26, 14, 15, 85, 86, 87, 88, 89, 90, 91] (by decide +kernel) (by decide +kernel)
set_option maxRecDepth 20000 in
theorem gX11_locals_X3_isKnownSeat : GoodIn wsX11_locals (wsV RX11 336 RX3 yX3_isKnownSeat wsX3_isKnownSeat) := goodIn_app (goodIn_of _ (by decide +kernel)) ggX11_locals_X3_isKnownSeat
set_option maxRecDepth 20000 in
theorem ggX11_locals_X10_setFrom : GoodIn wsX11_locals wsX10_setFrom := goodIn_r _ [31, 32, 33, 34, 35, 30, 36, 37, 38, 92, 93, 94, 95, 96, 97, 98, 99] (by decide +kernel) (by decide +kernel)
set_option maxRecDepth 20000 in
theorem gX11_locals_X10_setFrom : GoodIn wsX11_locals (wsV RX11 308 RX10 yX10_setFrom wsX10_setFrom) := goodIn_app (goodIn_of _ (by decide +kernel)) ggX11_locals_X10_setFrom
set_option maxRecDepth 20000 in
theorem ggX11_locals_X6_farOf : GoodIn wsX11_locals wsX6_farOf := goodIn_r _ [43, 44, 45, 46, 47, 48, 49, 50, 51, 52, 53, 54, 55, 56, 100, 101, 102, 103, 104, 105, 106, 107, 108, 71, 72, 73, 74, 75, 76, 77, 78, 79, 80, 81, 82, 83, 84] (by decide +kernel) (by decide +kernel)
set_option maxRecDepth 20000 in
theorem gX11_locals_X6_farOf : GoodIn wsX11_locals (wsV RX11 347 RX6 yX6_farOf wsX6_farOf) := goodIn_app (goodIn_of _ (by decide +kernel)) ggX11_locals_X6_farOf
theorem dX11_locals_0 : decode cX11_locals 0 = .ok (.iload_n 1, 1) := by decide +kernel
theorem dX11_locals_1 : decode cX11_locals 1 = .ok (.ifCond .lt 9, 3) := by decide +kernel
theorem dX11_locals_4 : decode cX11_locals 4 = .ok (.iload_n 1, 1) := by decide +kernel
theorem dX11_locals_5 : decode cX11_locals 5 = .ok (.bipush 12, 2) := by decide +kernel
theorem dX11_locals_7 : decode cX11_locals 7 = .ok (.if_icmp .le 5, 3) := by decide +kernel
theorem dX11_locals_10 : decode cX11_locals 10 = .ok (.iconst (-1), 1) := by decide +kernel
theorem dX11_locals_11 : decode cX11_locals 11 = .ok (.ireturn, 1) := by decide +kernel
theorem dX11_locals_12 : decode cX11_locals 12 = .ok (.aload_n 0, 1) := by decide +kernel
theorem dX11_locals_13 : decode cX11_locals 13 = .ok (.getfield 60, 3) := by decide +kernel
theorem dX11_locals_16 : decode cX11_locals 16 = .ok (.invokevirtual 330, 3) := by decide +kernel
theorem dX11_locals_19 : decode cX11_locals 19 = .ok (.iconst 0, 1) := by decide +kernel
theorem dX11_locals_20 : decode cX11_locals 20 = .ok (.istore_n 2, 1) := by decide +kernel
theorem dX11_locals_21 : decode cX11_locals 21 = .ok (.iconst 0, 1) := by decide +kernel
theorem dX11_locals_22 : decode cX11_locals 22 = .ok (.istore_n 3, 1) := by decide +kernel
theorem dX11_locals_23 : decode cX11_locals 23 = .ok (.iconst 0, 1) := by decide +kernel
theorem dX11_locals_24 : decode cX11_locals 24 = .ok (.istore 4, 2) := by decide +kernel
theorem dX11_locals_26 : decode cX11_locals 26 = .ok (.iload 4, 2) := by decide +kernel
theorem dX11_locals_28 : decode cX11_locals 28 = .ok (.aload_n 0, 1) := by decide +kernel
theorem dX11_locals_29 : decode cX11_locals 29 = .ok (.getfield 60, 3) := by decide +kernel
theorem dX11_locals_32 : decode cX11_locals 32 = .ok (.invokevirtual 333, 3) := by decide +kernel
theorem dX11_locals_35 : decode cX11_locals 35 = .ok (.if_icmp .ge 114, 3) := by decide +kernel
theorem dX11_locals_38 : decode cX11_locals 38 = .ok (.aload_n 0, 1) := by decide +kernel
theorem dX11_locals_39 : decode cX11_locals 39 = .ok (.getfield 60, 3) := by decide +kernel
theorem dX11_locals_42 : decode cX11_locals 42 = .ok (.iload 4, 2) := by decide +kernel
theorem dX11_locals_44 : decode cX11_locals 44 = .ok (.invokevirtual 336, 3) := by decide +kernel
theorem dX11_locals_47 : decode cX11_locals 47 = .ok (.ifCond .eq 26, 3) := by decide +kernel
theorem dX11_locals_50 : decode cX11_locals 50 = .ok (.aload_n 0, 1) := by decide +kernel
theorem dX11_locals_51 : decode cX11_locals 51 = .ok (.getfield 18, 3) := by decide +kernel
theorem dX11_locals_54 : decode cX11_locals 54 = .ok (.getfield 150, 3) := by decide +kernel
theorem dX11_locals_57 : decode cX11_locals 57 = .ok (.aload_n 0, 1) := by decide +kernel
theorem dX11_locals_58 : decode cX11_locals 58 = .ok (.getfield 60, 3) := by decide +kernel
theorem dX11_locals_61 : decode cX11_locals 61 = .ok (.getfield 339, 3) := by decide +kernel
theorem dX11_locals_64 : decode cX11_locals 64 = .ok (.iload 4, 2) := by decide +kernel
theorem dX11_locals_66 : decode cX11_locals 66 = .ok (.iaload, 1) := by decide +kernel
theorem dX11_locals_67 : decode cX11_locals 67 = .ok (.invokevirtual 308, 3) := by decide +kernel
theorem dX11_locals_70 : decode cX11_locals 70 = .ok (.goto 4, 3) := by decide +kernel
theorem dX11_locals_73 : decode cX11_locals 73 = .ok (.iconst (-1), 1) := by decide +kernel
theorem dX11_locals_74 : decode cX11_locals 74 = .ok (.istore 5, 2) := by decide +kernel
theorem dX11_locals_76 : decode cX11_locals 76 = .ok (.iload 5, 2) := by decide +kernel
theorem dX11_locals_78 : decode cX11_locals 78 = .ok (.iconst (-1), 1) := by decide +kernel
theorem dX11_locals_79 : decode cX11_locals 79 = .ok (.if_icmp .eq 64, 3) := by decide +kernel
theorem dX11_locals_82 : decode cX11_locals 82 = .ok (.iconst 1, 1) := by decide +kernel
theorem dX11_locals_83 : decode cX11_locals 83 = .ok (.aload_n 0, 1) := by decide +kernel
theorem dX11_locals_84 : decode cX11_locals 84 = .ok (.getfield 60, 3) := by decide +kernel
theorem dX11_locals_87 : decode cX11_locals 87 = .ok (.getfield 340, 3) := by decide +kernel
theorem dX11_locals_90 : decode cX11_locals 90 = .ok (.iload 4, 2) := by decide +kernel
theorem dX11_locals_92 : decode cX11_locals 92 = .ok (.iaload, 1) := by decide +kernel
theorem dX11_locals_93 : decode cX11_locals 93 = .ok (.ishl, 1) := by decide +kernel
theorem dX11_locals_94 : decode cX11_locals 94 = .ok (.istore 6, 2) := by decide +kernel
theorem dX11_locals_96 : decode cX11_locals 96 = .ok (.aload_n 0, 1) := by decide +kernel
theorem dX11_locals_97 : decode cX11_locals 97 = .ok (.getfield 37, 3) := by decide +kernel
theorem dX11_locals_100 : decode cX11_locals 100 = .ok (.aload_n 0, 1) := by decide +kernel
theorem dX11_locals_101 : decode cX11_locals 101 = .ok (.getfield 60, 3) := by decide +kernel
theorem dX11_locals_104 : decode cX11_locals 104 = .ok (.getfield 343, 3) := by decide +kernel
theorem dX11_locals_107 : decode cX11_locals 107 = .ok (.iload 4, 2) := by decide +kernel
theorem dX11_locals_109 : decode cX11_locals 109 = .ok (.iaload, 1) := by decide +kernel
theorem dX11_locals_110 : decode cX11_locals 110 = .ok (.aload_n 0, 1) := by decide +kernel
theorem dX11_locals_111 : decode cX11_locals 111 = .ok (.getfield 18, 3) := by decide +kernel
theorem dX11_locals_114 : decode cX11_locals 114 = .ok (.getfield 150, 3) := by decide +kernel
theorem dX11_locals_117 : decode cX11_locals 117 = .ok (.getfield 344, 3) := by decide +kernel
theorem dX11_locals_120 : decode cX11_locals 120 = .ok (.iload 5, 2) := by decide +kernel
theorem dX11_locals_122 : decode cX11_locals 122 = .ok (.iaload, 1) := by decide +kernel
theorem dX11_locals_123 : decode cX11_locals 123 = .ok (.invokevirtual 347, 3) := by decide +kernel
theorem dX11_locals_126 : decode cX11_locals 126 = .ok (.iload_n 1, 1) := by decide +kernel
theorem dX11_locals_127 : decode cX11_locals 127 = .ok (.if_icmp .gt 11, 3) := by decide +kernel
theorem dX11_locals_130 : decode cX11_locals 130 = .ok (.iload_n 2, 1) := by decide +kernel
theorem dX11_locals_131 : decode cX11_locals 131 = .ok (.iload 6, 2) := by decide +kernel
theorem dX11_locals_133 : decode cX11_locals 133 = .ok (.ior, 1) := by decide +kernel
theorem dX11_locals_134 : decode cX11_locals 134 = .ok (.istore_n 2, 1) := by decide +kernel
theorem dX11_locals_135 : decode cX11_locals 135 = .ok (.goto 8, 3) := by decide +kernel
theorem dX11_locals_138 : decode cX11_locals 138 = .ok (.iload_n 3, 1) := by decide +kernel
theorem dX11_locals_139 : decode cX11_locals 139 = .ok (.iload 6, 2) := by decide +kernel
theorem dX11_locals_141 : decode cX11_locals 141 = .ok (.ior, 1) := by decide +kernel
theorem dX11_locals_142 : decode cX11_locals 142 = .ok (.istore_n 3, 1) := by decide +kernel
theorem dX11_locals_143 : decode cX11_locals 143 = .ok (.iinc 4 1, 3) := by decide +kernel
theorem dX11_locals_146 : decode cX11_locals 146 = .ok (.goto (-120), 3) := by decide +kernel
theorem dX11_locals_149 : decode cX11_locals 149 = .ok (.iload_n 2, 1) := by decide +kernel
theorem dX11_locals_150 : decode cX11_locals 150 = .ok (.iload_n 3, 1) := by decide +kernel
theorem dX11_locals_151 : decode cX11_locals 151 = .ok (.iconst (-1), 1) := by decide +kernel
theorem dX11_locals_152 : decode cX11_locals 152 = .ok (.ixor, 1) := by decide +kernel
theorem dX11_locals_153 : decode cX11_locals 153 = .ok (.iand, 1) := by decide +kernel
theorem dX11_locals_154 : decode cX11_locals 154 = .ok (.ireturn, 1) := by decide +kernel
set_option maxRecDepth 20000 in
theorem ggX11_chance_X11_isSurfer : GoodIn wsX11_chance wsX11_isSurfer := goodIn_r _ [10, 11, 12, 13, 194, 195, 196, 197, 198, 199, 200, 201, 202, 203, 204, 205, 206, 207, 219, 220, 221, 222, 223, 224, 225, 226, 227, 228, 229, 230, 231, 232, 233, 234, 235, 236, 237, 238, 239] (by decide +kernel) (by decide +kernel)
set_option maxRecDepth 20000 in
theorem gX11_chance_X11_isSurfer : GoodIn wsX11_chance (wsV RX11 115 RX11 yX11_isSurfer wsX11_isSurfer) := goodIn_app (goodIn_of _ (by decide +kernel)) ggX11_chance_X11_isSurfer
set_option maxRecDepth 20000 in
theorem ggX11_chance_X11_runBy : GoodIn wsX11_chance wsX11_runBy := goodIn_r _ [17, 3, 1, 11, 18, 19, 20, 21, 22, 23, 24, 25, 26, 27, 28, 29, 30, 31, 32, 33, 34, 35, 36, 37, 38, 39, 40, 41, 42, 43, 44, 45, 46, 47, 9, 48, 49, 50, 51, 52, 53, 54, 55, 56, 57, 58, 59, 60, 61, 62, 63, 64, 65, 66, 67, 68, 69, 70, 71, 72, 73, 74, 75, 76, 77, 78, 79, 80, 81, 82, 83, 84, 85, 86, 87, 88, 89, 90, 91, 92, 93, 94, 95, 96, 97, 98, 99, 100, 101, 102, 103, 104, 105, 106, 107, 108, 109, 110, 111, 112, 113, 114, 115, 116, 117, 118, 119, 120, 121, 122, 123, 124, 125, 126, 127, 128, 129, 130, 131, 132, 133, 134, 135, 136, 137, 138, 139, 140, 141, 142, 143, 144, 145, 146, 147, 148, 149, 150, 151, 152, 153, 154, 155, 156, 157, 158, 159, 160, 161, 162, 163, 164, 165, 166, 167, 168, 169, 170, 171, 172, 173, 174, 175, 176, 177, 178, 179, 180, 181, 182, 183, 184, 185, 186, 187, 188, 189, 190, 191, 192, 193, 194, 195, 196, 197, 198, 199, 200, 201, 202, 203, 204, 205, 206, 207, 219, 220, 221, 222, 223, 224, 225, 226, 227, 228, 229, 230, 231, 232, 240, 241, 242, 243, 244, 245, 246, 247, 208, 209, 210, 211, 212, 213, 214, 215, 216, 217, 218, 248, 249, 250, 251, 252, 253, 254, 255, 256, 233, 234, 235, 236, 237, 238, 239, 257, 258, 259] (by decide +kernel) (by decide +kernel)
set_option maxRecDepth 20000 in
theorem gX11_chance_X11_runBy : GoodIn wsX11_chance (wsV RX11 284 RX11 yX11_runBy wsX11_runBy) := goodIn_app (goodIn_of _ (by decide +kernel)) ggX11_chance_X11_runBy
theorem dX11_chance_0 : decode cX11_chance 0 = .ok (.iload_n 1, 1) := by decide +kernel
theorem dX11_chance_1 : decode cX11_chance 1 = .ok (.ifCond .lt 21, 3) := by decide +kernel
theorem dX11_chance_4 : decode cX11_chance 4 = .ok (.aload_n 0, 1) := by decide +kernel
theorem dX11_chance_5 : decode cX11_chance 5 = .ok (.iload_n 2, 1) := by decide +kernel
theorem dX11_chance_6 : decode cX11_chance 6 = .ok (.invokevirtual 115, 3) := by decide +kernel
theorem dX11_chance_9 : decode cX11_chance 9 = .ok (.ifCond .eq 13, 3) := by decide +kernel
theorem dX11_chance_12 : decode cX11_chance 12 = .ok (.iload_n 3, 1) := by decide +kernel
theorem dX11_chance_13 : decode cX11_chance 13 = .ok (.ifCond .lt 9, 3) := by decide +kernel
theorem dX11_chance_16 : decode cX11_chance 16 = .ok (.iload_n 3, 1) := by decide +kernel
theorem dX11_chance_17 : decode cX11_chance 17 = .ok (.bipush 28, 2) := by decide +kernel
theorem dX11_chance_19 : decode cX11_chance 19 = .ok (.if_icmp .le 5, 3) := by decide +kernel
theorem dX11_chance_22 : decode cX11_chance 22 = .ok (.iconst (-1), 1) := by decide +kernel
theorem dX11_chance_23 : decode cX11_chance 23 = .ok (.ireturn, 1) := by decide +kernel
theorem dX11_chance_24 : decode cX11_chance 24 = .ok (.iconst 0, 1) := by decide +kernel
theorem dX11_chance_25 : decode cX11_chance 25 = .ok (.istore 4, 2) := by decide +kernel
theorem dX11_chance_27 : decode cX11_chance 27 = .ok (.iload_n 1, 1) := by decide +kernel
theorem dX11_chance_28 : decode cX11_chance 28 = .ok (.istore 5, 2) := by decide +kernel
theorem dX11_chance_30 : decode cX11_chance 30 = .ok (.iconst 0, 1) := by decide +kernel
theorem dX11_chance_31 : decode cX11_chance 31 = .ok (.istore 6, 2) := by decide +kernel
theorem dX11_chance_33 : decode cX11_chance 33 = .ok (.iload 6, 2) := by decide +kernel
theorem dX11_chance_35 : decode cX11_chance 35 = .ok (.bipush 10, 2) := by decide +kernel
theorem dX11_chance_37 : decode cX11_chance 37 = .ok (.if_icmp .ge 47, 3) := by decide +kernel
theorem dX11_chance_40 : decode cX11_chance 40 = .ok (.aload_n 0, 1) := by decide +kernel
theorem dX11_chance_41 : decode cX11_chance 41 = .ok (.aload_n 0, 1) := by decide +kernel
theorem dX11_chance_42 : decode cX11_chance 42 = .ok (.getfield 47, 3) := by decide +kernel
theorem dX11_chance_45 : decode cX11_chance 45 = .ok (.getfield 217, 3) := by decide +kernel
theorem dX11_chance_48 : decode cX11_chance 48 = .ok (.iload 5, 2) := by decide +kernel
theorem dX11_chance_50 : decode cX11_chance 50 = .ok (.invokevirtual 284, 3) := by decide +kernel
theorem dX11_chance_53 : decode cX11_chance 53 = .ok (.aload_n 0, 1) := by decide +kernel
theorem dX11_chance_54 : decode cX11_chance 54 = .ok (.getfield 51, 3) := by decide +kernel
theorem dX11_chance_57 : decode cX11_chance 57 = .ok (.getfield 350, 3) := by decide +kernel
theorem dX11_chance_60 : decode cX11_chance 60 = .ok (.istore 5, 2) := by decide +kernel
theorem dX11_chance_62 : decode cX11_chance 62 = .ok (.aload_n 0, 1) := by decide +kernel
theorem dX11_chance_63 : decode cX11_chance 63 = .ok (.getfield 51, 3) := by decide +kernel
theorem dX11_chance_66 : decode cX11_chance 66 = .ok (.getfield 125, 3) := by decide +kernel
theorem dX11_chance_69 : decode cX11_chance 69 = .ok (.iload_n 2, 1) := by decide +kernel
theorem dX11_chance_70 : decode cX11_chance 70 = .ok (.iaload, 1) := by decide +kernel
theorem dX11_chance_71 : decode cX11_chance 71 = .ok (.iload_n 3, 1) := by decide +kernel
theorem dX11_chance_72 : decode cX11_chance 72 = .ok (.if_icmp .lt 6, 3) := by decide +kernel
theorem dX11_chance_75 : decode cX11_chance 75 = .ok (.iinc 4 1, 3) := by decide +kernel
theorem dX11_chance_78 : decode cX11_chance 78 = .ok (.iinc 6 1, 3) := by decide +kernel
theorem dX11_chance_81 : decode cX11_chance 81 = .ok (.goto (-48), 3) := by decide +kernel
theorem dX11_chance_84 : decode cX11_chance 84 = .ok (.iload 4, 2) := by decide +kernel
theorem dX11_chance_86 : decode cX11_chance 86 = .ok (.ireturn, 1) := by decide +kernel
set_option maxRecDepth 20000 in
theorem ggX11_tried_X11_isSurfer : GoodIn wsX11_tried wsX11_isSurfer := goodIn_r _ [15, 6, 9, 10, 225, 226, 227, 228, 229, 230, 231, 232, 233, 234, 235, 236, 237, 238, 250, 251, 252, 253, 254, 255, 256, 257, 258, 259, 260, 261, 262, 263, 272, 273, 274, 275, 276, 277, 278] (by decide +kernel) (by decide +kernel)
set_option maxRecDepth 20000 in
theorem gX11_tried_X11_isSurfer : GoodIn wsX11_tried (wsV RX11 115 RX11 yX11_isSurfer wsX11_isSurfer) := goodIn_app (goodIn_of _ (by decide +kernel)) ggX11_tried_X11_isSurfer
set_option maxRecDepth 20000 in
theorem ggX11_tried_X4_takeForRun : GoodIn wsX11_tried wsX4_takeForRun := goodIn_r _ [20, 21, 22, 23, 24, 25, 26, 27, 19, 28, 29, 30, 31, 32, 33, 34, 35, 36, 37, 38, 39, 239, 240, 241, 242, 243, 244, 245, 246, 247, 248, 249] (by decide +kernel) (by decide +kernel)
set_option maxRecDepth 20000 in
theorem gX11_tried_X4_takeForRun : GoodIn wsX11_tried (wsV RX11 353 RX4 yX4_takeForRun wsX4_takeForRun) := goodIn_app (goodIn_of _ (by decide +kernel)) ggX11_tried_X4_takeForRun
set_option maxRecDepth 20000 in
theorem ggX11_tried_X6_takeOver : GoodIn wsX11_tried wsX6_takeOver := goodIn_r _ [44, 45, 46, 47, 32, 33, 34, 48, 49, 279, 280, 281, 282, 283, 284, 285, 286, 287] (by decide +kernel) (by decide +kernel)
set_option maxRecDepth 20000 in
theorem gX11_tried_X6_takeOver : GoodIn wsX11_tried (wsV RX11 357 RX6 yX6_takeOver wsX6_takeOver) := goodIn_app (goodIn_of _ (by decide +kernel)) ggX11_tried_X6_takeOver
set_option maxRecDepth 20000 in
theorem ggX11_tried_X11_changeTrial : GoodIn wsX11_tried wsX11_changeTrial := goodIn_r _ [53, 4, 1, 54, 55, 56, 57, 43, 58, 48, 59, 60, 61, 19, 62, 37, 63, 64, 65, 66, 67, 49, 45, 68, 69, 70, 71, 72, 46, 73, 74, 75, 76, 30, 225, 226, 227, 228, 229, 230, 231, 232, 233, 234, 235, 236, 237, 238, 239, 240, 241, 242, 243, 244, 245, 246, 247, 248, 249, 279, 280, 281, 282, 283, 284, 285, 286, 287, 250, 251, 252, 253, 254, 255, 256, 257, 258, 259, 260, 261, 262, 263] (by decide +kernel) (by decide +kernel)
set_option maxRecDepth 20000 in
theorem gX11_tried_X11_changeTrial : GoodIn wsX11_tried (wsV RX11 361 RX11 yX11_changeTrial wsX11_changeTrial) := goodIn_app (goodIn_of _ (by decide +kernel)) ggX11_tried_X11_changeTrial
set_option maxRecDepth 20000 in
theorem ggX11_tried_X11_firstToCome : GoodIn wsX11_tried wsX11_firstToCome := goodIn_r _ [80, 6, 7, 2, 81, 82, 83, 84, 85, 86, 87, 88, 225, 226, 227, 228, 229, 230, 231, 232, 233, 234, 235, 236, 237, 238, 250, 251, 252, 253, 254, 255, 256, 257, 258, 259, 260, 261, 262, 263, 239, 240, 241, 242, 243, 244, 245, 246, 247, 248, 249, 264, 265, 266, 267, 268, 269, 270, 271] (by decide +kernel) (by decide +kernel)
set_option maxRecDepth 20000 in
theorem gX11_tried_X11_firstToCome : GoodIn wsX11_tried (wsV RX11 233 RX11 yX11_firstToCome wsX11_firstToCome) := goodIn_app (goodIn_of _ (by decide +kernel)) ggX11_tried_X11_firstToCome
set_option maxRecDepth 20000 in
theorem ggX11_tried_X6_bringWave : GoodIn wsX11_tried wsX6_bringWave := goodIn_r _ [92, 45, 93, 94, 95, 96, 97, 98, 99, 100, 101, 102, 103, 43, 104, 105, 106, 107, 108, 109, 110, 111, 112, 19, 113, 37, 114, 115, 116, 117, 118, 119, 120, 121, 122, 123, 124, 125, 126, 127, 128, 129, 130, 131, 132, 133, 134, 135, 136, 49, 137, 138, 139, 140, 141, 46, 142, 143, 144, 145, 146, 147, 148, 149, 150, 151, 152, 153, 154, 155, 156, 157, 158, 159, 160, 161, 162, 163, 164, 165, 166, 167, 168, 169, 170, 171, 172, 173, 174, 175, 176, 177, 178, 179, 180, 181, 182, 183, 184, 185, 186, 187, 188, 189, 190, 191, 192, 193, 194, 195, 196, 197, 198, 199, 200, 201, 202, 203, 22, 204, 205, 206, 207, 208, 209, 210, 48, 211, 212, 213, 214, 215, 216, 217, 218, 219, 220, 279, 280, 281, 282, 283, 284, 285, 286, 287, 250, 251, 252, 253, 254, 255, 256, 257, 258, 259, 260, 261, 262, 263, 264, 265, 266, 267, 268, 269, 270, 271, 239, 240, 241, 242, 243, 244, 245, 246, 247, 248, 249, 272, 273, 274, 275, 276, 277, 278, 288, 289, 290] (by decide +kernel) (by decide +kernel)
set_option maxRecDepth 20000 in
theorem gX11_tried_X6_bringWave : GoodIn wsX11_tried (wsV RX11 364 RX6 yX6_bringWave wsX6_bringWave) := goodIn_app (goodIn_of _ (by decide +kernel)) ggX11_tried_X6_bringWave
set_option maxRecDepth 20000 in
theorem ggX11_tried_X4_hadInSum : GoodIn wsX11_tried wsX4_hadInSum := goodIn_r _ [224, 35, 239, 240, 241, 242, 243, 244, 245, 246, 247, 248, 249] (by decide +kernel) (by decide +kernel)
set_option maxRecDepth 20000 in
theorem gX11_tried_X4_hadInSum : GoodIn wsX11_tried (wsV RX11 317 RX4 yX4_hadInSum wsX4_hadInSum) := goodIn_app (goodIn_of _ (by decide +kernel)) ggX11_tried_X4_hadInSum
theorem dX11_tried_0 : decode cX11_tried 0 = .ok (.iload_n 1, 1) := by decide +kernel
theorem dX11_tried_1 : decode cX11_tried 1 = .ok (.ifCond .lt 12, 3) := by decide +kernel
theorem dX11_tried_4 : decode cX11_tried 4 = .ok (.iload_n 1, 1) := by decide +kernel
theorem dX11_tried_5 : decode cX11_tried 5 = .ok (.iconst 4, 1) := by decide +kernel
theorem dX11_tried_6 : decode cX11_tried 6 = .ok (.if_icmp .gt 7, 3) := by decide +kernel
theorem dX11_tried_9 : decode cX11_tried 9 = .ok (.iload_n 3, 1) := by decide +kernel
theorem dX11_tried_10 : decode cX11_tried 10 = .ok (.ifCond .ge 5, 3) := by decide +kernel
theorem dX11_tried_13 : decode cX11_tried 13 = .ok (.iconst (-1), 1) := by decide +kernel
theorem dX11_tried_14 : decode cX11_tried 14 = .ok (.ireturn, 1) := by decide +kernel
theorem dX11_tried_15 : decode cX11_tried 15 = .ok (.iload_n 1, 1) := by decide +kernel
theorem dX11_tried_16 : decode cX11_tried 16 = .ok (.iconst 1, 1) := by decide +kernel
theorem dX11_tried_17 : decode cX11_tried 17 = .ok (.if_icmp .eq 8, 3) := by decide +kernel
theorem dX11_tried_20 : decode cX11_tried 20 = .ok (.iload_n 1, 1) := by decide +kernel
theorem dX11_tried_21 : decode cX11_tried 21 = .ok (.iconst 4, 1) := by decide +kernel
theorem dX11_tried_22 : decode cX11_tried 22 = .ok (.if_icmp .ne 7, 3) := by decide +kernel
theorem dX11_tried_25 : decode cX11_tried 25 = .ok (.iconst 1, 1) := by decide +kernel
theorem dX11_tried_26 : decode cX11_tried 26 = .ok (.goto 4, 3) := by decide +kernel
theorem dX11_tried_29 : decode cX11_tried 29 = .ok (.iconst 0, 1) := by decide +kernel
theorem dX11_tried_30 : decode cX11_tried 30 = .ok (.istore 4, 2) := by decide +kernel
theorem dX11_tried_32 : decode cX11_tried 32 = .ok (.iload 4, 2) := by decide +kernel
theorem dX11_tried_34 : decode cX11_tried 34 = .ok (.ifCond .eq 14, 3) := by decide +kernel
theorem dX11_tried_37 : decode cX11_tried 37 = .ok (.aload_n 0, 1) := by decide +kernel
theorem dX11_tried_38 : decode cX11_tried 38 = .ok (.iload_n 2, 1) := by decide +kernel
theorem dX11_tried_39 : decode cX11_tried 39 = .ok (.invokevirtual 115, 3) := by decide +kernel
theorem dX11_tried_42 : decode cX11_tried 42 = .ok (.ifCond .ne 12, 3) := by decide +kernel
theorem dX11_tried_45 : decode cX11_tried 45 = .ok (.goto 7, 3) := by decide +kernel
theorem dX11_tried_48 : decode cX11_tried 48 = .ok (.iload_n 2, 1) := by decide +kernel
theorem dX11_tried_49 : decode cX11_tried 49 = .ok (.ifCond .eq 5, 3) := by decide +kernel
theorem dX11_tried_52 : decode cX11_tried 52 = .ok (.iconst (-1), 1) := by decide +kernel
theorem dX11_tried_53 : decode cX11_tried 53 = .ok (.ireturn, 1) := by decide +kernel
theorem dX11_tried_54 : decode cX11_tried 54 = .ok (.aload_n 0, 1) := by decide +kernel
theorem dX11_tried_55 : decode cX11_tried 55 = .ok (.getfield 51, 3) := by decide +kernel
theorem dX11_tried_58 : decode cX11_tried 58 = .ok (.aload_n 0, 1) := by decide +kernel
theorem dX11_tried_59 : decode cX11_tried 59 = .ok (.getfield 47, 3) := by decide +kernel
theorem dX11_tried_62 : decode cX11_tried 62 = .ok (.aload_n 0, 1) := by decide +kernel
theorem dX11_tried_63 : decode cX11_tried 63 = .ok (.getfield 47, 3) := by decide +kernel
theorem dX11_tried_66 : decode cX11_tried 66 = .ok (.getfield 217, 3) := by decide +kernel
theorem dX11_tried_69 : decode cX11_tried 69 = .ok (.iload_n 3, 1) := by decide +kernel
theorem dX11_tried_70 : decode cX11_tried 70 = .ok (.invokevirtual 353, 3) := by decide +kernel
theorem dX11_tried_73 : decode cX11_tried 73 = .ok (.aload_n 0, 1) := by decide +kernel
theorem dX11_tried_74 : decode cX11_tried 74 = .ok (.getfield 41, 3) := by decide +kernel
theorem dX11_tried_77 : decode cX11_tried 77 = .ok (.aload_n 0, 1) := by decide +kernel
theorem dX11_tried_78 : decode cX11_tried 78 = .ok (.getfield 37, 3) := by decide +kernel
theorem dX11_tried_81 : decode cX11_tried 81 = .ok (.invokevirtual 357, 3) := by decide +kernel
theorem dX11_tried_84 : decode cX11_tried 84 = .ok (.aload_n 0, 1) := by decide +kernel
theorem dX11_tried_85 : decode cX11_tried 85 = .ok (.iload_n 1, 1) := by decide +kernel
theorem dX11_tried_86 : decode cX11_tried 86 = .ok (.iload_n 2, 1) := by decide +kernel
theorem dX11_tried_87 : decode cX11_tried 87 = .ok (.invokevirtual 361, 3) := by decide +kernel
theorem dX11_tried_90 : decode cX11_tried 90 = .ok (.aload_n 0, 1) := by decide +kernel
theorem dX11_tried_91 : decode cX11_tried 91 = .ok (.invokevirtual 233, 3) := by decide +kernel
theorem dX11_tried_94 : decode cX11_tried 94 = .ok (.istore 5, 2) := by decide +kernel
theorem dX11_tried_96 : decode cX11_tried 96 = .ok (.iload 5, 2) := by decide +kernel
theorem dX11_tried_98 : decode cX11_tried 98 = .ok (.aload_n 0, 1) := by decide +kernel
theorem dX11_tried_99 : decode cX11_tried 99 = .ok (.getfield 18, 3) := by decide +kernel
theorem dX11_tried_102 : decode cX11_tried 102 = .ok (.getfield 150, 3) := by decide +kernel
theorem dX11_tried_105 : decode cX11_tried 105 = .ok (.getfield 299, 3) := by decide +kernel
theorem dX11_tried_108 : decode cX11_tried 108 = .ok (.if_icmp .ge 22, 3) := by decide +kernel
theorem dX11_tried_111 : decode cX11_tried 111 = .ok (.aload_n 0, 1) := by decide +kernel
theorem dX11_tried_112 : decode cX11_tried 112 = .ok (.getfield 41, 3) := by decide +kernel
theorem dX11_tried_115 : decode cX11_tried 115 = .ok (.aload_n 0, 1) := by decide +kernel
theorem dX11_tried_116 : decode cX11_tried 116 = .ok (.getfield 51, 3) := by decide +kernel
theorem dX11_tried_119 : decode cX11_tried 119 = .ok (.iload 5, 2) := by decide +kernel
theorem dX11_tried_121 : decode cX11_tried 121 = .ok (.invokevirtual 364, 3) := by decide +kernel
theorem dX11_tried_124 : decode cX11_tried 124 = .ok (.iinc 5 1, 3) := by decide +kernel
theorem dX11_tried_127 : decode cX11_tried 127 = .ok (.goto (-31), 3) := by decide +kernel
theorem dX11_tried_130 : decode cX11_tried 130 = .ok (.aload_n 0, 1) := by decide +kernel
theorem dX11_tried_131 : decode cX11_tried 131 = .ok (.getfield 51, 3) := by decide +kernel
theorem dX11_tried_134 : decode cX11_tried 134 = .ok (.aload_n 0, 1) := by decide +kernel
theorem dX11_tried_135 : decode cX11_tried 135 = .ok (.getfield 18, 3) := by decide +kernel
theorem dX11_tried_138 : decode cX11_tried 138 = .ok (.getfield 102, 3) := by decide +kernel
theorem dX11_tried_141 : decode cX11_tried 141 = .ok (.getfield 106, 3) := by decide +kernel
theorem dX11_tried_144 : decode cX11_tried 144 = .ok (.invokevirtual 317, 3) := by decide +kernel
theorem dX11_tried_147 : decode cX11_tried 147 = .ok (.ireturn, 1) := by decide +kernel
theorem dX11_undo_0 : decode cX11_undo 0 = .ok (.aload_n 0, 1) := by decide +kernel
theorem dX11_undo_1 : decode cX11_undo 1 = .ok (.getfield 67, 3) := by decide +kernel
theorem dX11_undo_4 : decode cX11_undo 4 = .ok (.getfield 368, 3) := by decide +kernel
theorem dX11_undo_7 : decode cX11_undo 7 = .ok (.iconst 1, 1) := by decide +kernel
theorem dX11_undo_8 : decode cX11_undo 8 = .ok (.if_icmp .ge 5, 3) := by decide +kernel
theorem dX11_undo_11 : decode cX11_undo 11 = .ok (.iconst (-1), 1) := by decide +kernel
theorem dX11_undo_12 : decode cX11_undo 12 = .ok (.ireturn, 1) := by decide +kernel
theorem dX11_undo_13 : decode cX11_undo 13 = .ok (.aload_n 0, 1) := by decide +kernel
theorem dX11_undo_14 : decode cX11_undo 14 = .ok (.getfield 67, 3) := by decide +kernel
theorem dX11_undo_17 : decode cX11_undo 17 = .ok (.dup, 1) := by decide +kernel
theorem dX11_undo_18 : decode cX11_undo 18 = .ok (.getfield 368, 3) := by decide +kernel
theorem dX11_undo_21 : decode cX11_undo 21 = .ok (.iconst 1, 1) := by decide +kernel
theorem dX11_undo_22 : decode cX11_undo 22 = .ok (.isub, 1) := by decide +kernel
theorem dX11_undo_23 : decode cX11_undo 23 = .ok (.putfield 368, 3) := by decide +kernel
theorem dX11_undo_26 : decode cX11_undo 26 = .ok (.aload_n 0, 1) := by decide +kernel
theorem dX11_undo_27 : decode cX11_undo 27 = .ok (.getfield 67, 3) := by decide +kernel
theorem dX11_undo_30 : decode cX11_undo 30 = .ok (.getfield 369, 3) := by decide +kernel
theorem dX11_undo_33 : decode cX11_undo 33 = .ok (.aload_n 0, 1) := by decide +kernel
theorem dX11_undo_34 : decode cX11_undo 34 = .ok (.getfield 67, 3) := by decide +kernel
theorem dX11_undo_37 : decode cX11_undo 37 = .ok (.getfield 368, 3) := by decide +kernel
theorem dX11_undo_40 : decode cX11_undo 40 = .ok (.iaload, 1) := by decide +kernel
theorem dX11_undo_41 : decode cX11_undo 41 = .ok (.istore_n 1, 1) := by decide +kernel
theorem dX11_undo_42 : decode cX11_undo 42 = .ok (.aload_n 0, 1) := by decide +kernel
theorem dX11_undo_43 : decode cX11_undo 43 = .ok (.getfield 67, 3) := by decide +kernel
theorem dX11_undo_46 : decode cX11_undo 46 = .ok (.getfield 370, 3) := by decide +kernel
theorem dX11_undo_49 : decode cX11_undo 49 = .ok (.aload_n 0, 1) := by decide +kernel
theorem dX11_undo_50 : decode cX11_undo 50 = .ok (.getfield 67, 3) := by decide +kernel
theorem dX11_undo_53 : decode cX11_undo 53 = .ok (.getfield 368, 3) := by decide +kernel
theorem dX11_undo_56 : decode cX11_undo 56 = .ok (.iaload, 1) := by decide +kernel
theorem dX11_undo_57 : decode cX11_undo 57 = .ok (.istore_n 2, 1) := by decide +kernel
theorem dX11_undo_58 : decode cX11_undo 58 = .ok (.iload_n 1, 1) := by decide +kernel
theorem dX11_undo_59 : decode cX11_undo 59 = .ok (.iconst (-1), 1) := by decide +kernel
theorem dX11_undo_60 : decode cX11_undo 60 = .ok (.if_icmp .ne 14, 3) := by decide +kernel
theorem dX11_undo_63 : decode cX11_undo 63 = .ok (.aload_n 0, 1) := by decide +kernel
theorem dX11_undo_64 : decode cX11_undo 64 = .ok (.getfield 47, 3) := by decide +kernel
theorem dX11_undo_67 : decode cX11_undo 67 = .ok (.iload_n 2, 1) := by decide +kernel
theorem dX11_undo_68 : decode cX11_undo 68 = .ok (.putfield 217, 3) := by decide +kernel
theorem dX11_undo_71 : decode cX11_undo 71 = .ok (.goto 26, 3) := by decide +kernel
theorem dX11_undo_74 : decode cX11_undo 74 = .ok (.aload_n 0, 1) := by decide +kernel
theorem dX11_undo_75 : decode cX11_undo 75 = .ok (.getfield 47, 3) := by decide +kernel
theorem dX11_undo_78 : decode cX11_undo 78 = .ok (.getfield 122, 3) := by decide +kernel
theorem dX11_undo_81 : decode cX11_undo 81 = .ok (.iload_n 1, 1) := by decide +kernel
theorem dX11_undo_82 : decode cX11_undo 82 = .ok (.iload_n 2, 1) := by decide +kernel
theorem dX11_undo_83 : decode cX11_undo 83 = .ok (.iastore, 1) := by decide +kernel
theorem dX11_undo_84 : decode cX11_undo 84 = .ok (.aload_n 0, 1) := by decide +kernel
theorem dX11_undo_85 : decode cX11_undo 85 = .ok (.getfield 47, 3) := by decide +kernel
theorem dX11_undo_88 : decode cX11_undo 88 = .ok (.getfield 137, 3) := by decide +kernel
theorem dX11_undo_91 : decode cX11_undo 91 = .ok (.iload_n 1, 1) := by decide +kernel
theorem dX11_undo_92 : decode cX11_undo 92 = .ok (.dup2, 1) := by decide +kernel
theorem dX11_undo_93 : decode cX11_undo 93 = .ok (.iaload, 1) := by decide +kernel
theorem dX11_undo_94 : decode cX11_undo 94 = .ok (.iconst 1, 1) := by decide +kernel
theorem dX11_undo_95 : decode cX11_undo 95 = .ok (.isub, 1) := by decide +kernel
theorem dX11_undo_96 : decode cX11_undo 96 = .ok (.iastore, 1) := by decide +kernel
theorem dX11_undo_97 : decode cX11_undo 97 = .ok (.aload_n 0, 1) := by decide +kernel
theorem dX11_undo_98 : decode cX11_undo 98 = .ok (.getfield 67, 3) := by decide +kernel
theorem dX11_undo_101 : decode cX11_undo 101 = .ok (.getfield 368, 3) := by decide +kernel
theorem dX11_undo_104 : decode cX11_undo 104 = .ok (.ireturn, 1) := by decide +kernel
set_option maxRecDepth 20000 in
theorem ggX11_keep_X4_takeAll : GoodIn wsX11_keep wsX4_takeAll := goodIn_r _ [9, 10, 11, 12, 13, 14, 15, 16, 17, 18, 19, 20, 21, 22, 23, 24, 39, 40, 41, 42, 43, 44, 45, 46, 47, 48, 49] (by decide +kernel) (by decide +kernel)
set_option maxRecDepth 20000 in
theorem gX11_keep_X4_takeAll : GoodIn wsX11_keep (wsV RX11 373 RX4 yX4_takeAll wsX4_takeAll) := goodIn_app (goodIn_of _ (by decide +kernel)) ggX11_keep_X4_takeAll
theorem dX11_keep_0 : decode cX11_keep 0 = .ok (.aload_n 0, 1) := by decide +kernel
theorem dX11_keep_1 : decode cX11_keep 1 = .ok (.getfield 54, 3) := by decide +kernel
theorem dX11_keep_4 : decode cX11_keep 4 = .ok (.aload_n 0, 1) := by decide +kernel
theorem dX11_keep_5 : decode cX11_keep 5 = .ok (.getfield 47, 3) := by decide +kernel
theorem dX11_keep_8 : decode cX11_keep 8 = .ok (.invokevirtual 373, 3) := by decide +kernel
theorem dX11_keep_11 : decode cX11_keep 11 = .ok (.aload_n 0, 1) := by decide +kernel
theorem dX11_keep_12 : decode cX11_keep 12 = .ok (.iconst 1, 1) := by decide +kernel
theorem dX11_keep_13 : decode cX11_keep 13 = .ok (.putfield 377, 3) := by decide +kernel
theorem dX11_keep_16 : decode cX11_keep 16 = .ok (.aload_n 0, 1) := by decide +kernel
theorem dX11_keep_17 : decode cX11_keep 17 = .ok (.getfield 47, 3) := by decide +kernel
theorem dX11_keep_20 : decode cX11_keep 20 = .ok (.getfield 186, 3) := by decide +kernel
theorem dX11_keep_23 : decode cX11_keep 23 = .ok (.ireturn, 1) := by decide +kernel
set_option maxRecDepth 20000 in
theorem ggX11_back_X4_takeAll : GoodIn wsX11_back wsX4_takeAll := goodIn_r _ [11, 12, 13, 14, 15, 16, 17, 18, 19, 20, 21, 22, 23, 24, 25, 26, 44, 45, 46, 47, 48, 49, 50, 51, 52, 53, 54] (by decide +kernel) (by decide +kernel)
set_option maxRecDepth 20000 in
theorem gX11_back_X4_takeAll : GoodIn wsX11_back (wsV RX11 373 RX4 yX4_takeAll wsX4_takeAll) := goodIn_app (goodIn_of _ (by decide +kernel)) ggX11_back_X4_takeAll
theorem dX11_back_0 : decode cX11_back 0 = .ok (.aload_n 0, 1) := by decide +kernel
theorem dX11_back_1 : decode cX11_back 1 = .ok (.getfield 377, 3) := by decide +kernel
theorem dX11_back_4 : decode cX11_back 4 = .ok (.ifCond .ne 5, 3) := by decide +kernel
theorem dX11_back_7 : decode cX11_back 7 = .ok (.iconst (-1), 1) := by decide +kernel
theorem dX11_back_8 : decode cX11_back 8 = .ok (.ireturn, 1) := by decide +kernel
theorem dX11_back_9 : decode cX11_back 9 = .ok (.aload_n 0, 1) := by decide +kernel
theorem dX11_back_10 : decode cX11_back 10 = .ok (.getfield 47, 3) := by decide +kernel
theorem dX11_back_13 : decode cX11_back 13 = .ok (.aload_n 0, 1) := by decide +kernel
theorem dX11_back_14 : decode cX11_back 14 = .ok (.getfield 54, 3) := by decide +kernel
theorem dX11_back_17 : decode cX11_back 17 = .ok (.invokevirtual 373, 3) := by decide +kernel
theorem dX11_back_20 : decode cX11_back 20 = .ok (.aload_n 0, 1) := by decide +kernel
theorem dX11_back_21 : decode cX11_back 21 = .ok (.getfield 67, 3) := by decide +kernel
theorem dX11_back_24 : decode cX11_back 24 = .ok (.iconst 0, 1) := by decide +kernel
theorem dX11_back_25 : decode cX11_back 25 = .ok (.putfield 368, 3) := by decide +kernel
theorem dX11_back_28 : decode cX11_back 28 = .ok (.aload_n 0, 1) := by decide +kernel
theorem dX11_back_29 : decode cX11_back 29 = .ok (.getfield 47, 3) := by decide +kernel
theorem dX11_back_32 : decode cX11_back 32 = .ok (.getfield 186, 3) := by decide +kernel
theorem dX11_back_35 : decode cX11_back 35 = .ok (.ireturn, 1) := by decide +kernel
set_option maxRecDepth 20000 in
theorem ggX11_count_X11_firstToCome : GoodIn wsX11_count wsX11_firstToCome := goodIn_r _ [23, 1, 6, 10, 11, 24, 25, 26, 27, 28, 29, 30, 38, 39, 40, 41, 42, 43, 44, 45, 46, 47, 48, 49, 50, 51, 52, 53, 54, 55, 56, 57, 58, 59, 60, 61, 62, 63, 64, 65, 81, 82, 83, 84, 85, 86, 87, 88, 89, 90, 91, 73, 74, 75, 76, 77, 78, 79, 80] (by decide +kernel) (by decide +kernel)
set_option maxRecDepth 20000 in
theorem gX11_count_X11_firstToCome : GoodIn wsX11_count (wsV RX11 233 RX11 yX11_firstToCome wsX11_firstToCome) := goodIn_app (goodIn_of _ (by decide +kernel)) ggX11_count_X11_firstToCome
set_option maxRecDepth 20000 in
theorem ggX11_count_X3_howManyKnown : GoodIn wsX11_count wsX3_howManyKnown := goodIn_r _ [35, 36, 37, 92, 93, 94, 95, 96, 97, 98] (by decide +kernel) (by decide +kernel)
set_option maxRecDepth 20000 in
theorem gX11_count_X3_howManyKnown : GoodIn wsX11_count (wsV RX11 333 RX3 yX3_howManyKnown wsX3_howManyKnown) := goodIn_app (goodIn_of _ (by decide +kernel)) ggX11_count_X3_howManyKnown
theorem dX11_count_0 : decode cX11_count 0 = .ok (.iload_n 1, 1) := by decide +kernel
theorem dX11_count_1 : decode cX11_count 1 = .ok (.tableswitch 200 0 13 #[71, 79, 87, 98, 109, 120, 128, 136, 144, 152, 160, 176, 184, 192], 71) := by decide +kernel
theorem dX11_count_72 : decode cX11_count 72 = .ok (.aload_n 0, 1) := by decide +kernel
theorem dX11_count_73 : decode cX11_count 73 = .ok (.getfield 18, 3) := by decide +kernel
theorem dX11_count_76 : decode cX11_count 76 = .ok (.getfield 173, 3) := by decide +kernel
theorem dX11_count_79 : decode cX11_count 79 = .ok (.ireturn, 1) := by decide +kernel
theorem dX11_count_80 : decode cX11_count 80 = .ok (.aload_n 0, 1) := by decide +kernel
theorem dX11_count_81 : decode cX11_count 81 = .ok (.getfield 18, 3) := by decide +kernel
theorem dX11_count_84 : decode cX11_count 84 = .ok (.getfield 381, 3) := by decide +kernel
theorem dX11_count_87 : decode cX11_count 87 = .ok (.ireturn, 1) := by decide +kernel
theorem dX11_count_88 : decode cX11_count 88 = .ok (.aload_n 0, 1) := by decide +kernel
theorem dX11_count_89 : decode cX11_count 89 = .ok (.getfield 18, 3) := by decide +kernel
theorem dX11_count_92 : decode cX11_count 92 = .ok (.getfield 102, 3) := by decide +kernel
theorem dX11_count_95 : decode cX11_count 95 = .ok (.getfield 106, 3) := by decide +kernel
theorem dX11_count_98 : decode cX11_count 98 = .ok (.ireturn, 1) := by decide +kernel
theorem dX11_count_99 : decode cX11_count 99 = .ok (.aload_n 0, 1) := by decide +kernel
theorem dX11_count_100 : decode cX11_count 100 = .ok (.getfield 18, 3) := by decide +kernel
theorem dX11_count_103 : decode cX11_count 103 = .ok (.getfield 150, 3) := by decide +kernel
theorem dX11_count_106 : decode cX11_count 106 = .ok (.getfield 253, 3) := by decide +kernel
theorem dX11_count_109 : decode cX11_count 109 = .ok (.ireturn, 1) := by decide +kernel
theorem dX11_count_110 : decode cX11_count 110 = .ok (.aload_n 0, 1) := by decide +kernel
theorem dX11_count_111 : decode cX11_count 111 = .ok (.getfield 18, 3) := by decide +kernel
theorem dX11_count_114 : decode cX11_count 114 = .ok (.getfield 150, 3) := by decide +kernel
theorem dX11_count_117 : decode cX11_count 117 = .ok (.getfield 299, 3) := by decide +kernel
theorem dX11_count_120 : decode cX11_count 120 = .ok (.ireturn, 1) := by decide +kernel
theorem dX11_count_121 : decode cX11_count 121 = .ok (.aload_n 0, 1) := by decide +kernel
theorem dX11_count_122 : decode cX11_count 122 = .ok (.getfield 18, 3) := by decide +kernel
theorem dX11_count_125 : decode cX11_count 125 = .ok (.getfield 384, 3) := by decide +kernel
theorem dX11_count_128 : decode cX11_count 128 = .ok (.ireturn, 1) := by decide +kernel
theorem dX11_count_129 : decode cX11_count 129 = .ok (.aload_n 0, 1) := by decide +kernel
theorem dX11_count_130 : decode cX11_count 130 = .ok (.getfield 47, 3) := by decide +kernel
theorem dX11_count_133 : decode cX11_count 133 = .ok (.getfield 186, 3) := by decide +kernel
theorem dX11_count_136 : decode cX11_count 136 = .ok (.ireturn, 1) := by decide +kernel
theorem dX11_count_137 : decode cX11_count 137 = .ok (.aload_n 0, 1) := by decide +kernel
theorem dX11_count_138 : decode cX11_count 138 = .ok (.getfield 47, 3) := by decide +kernel
theorem dX11_count_141 : decode cX11_count 141 = .ok (.getfield 217, 3) := by decide +kernel
theorem dX11_count_144 : decode cX11_count 144 = .ok (.ireturn, 1) := by decide +kernel
theorem dX11_count_145 : decode cX11_count 145 = .ok (.aload_n 0, 1) := by decide +kernel
theorem dX11_count_146 : decode cX11_count 146 = .ok (.getfield 47, 3) := by decide +kernel
theorem dX11_count_149 : decode cX11_count 149 = .ok (.getfield 287, 3) := by decide +kernel
theorem dX11_count_152 : decode cX11_count 152 = .ok (.ireturn, 1) := by decide +kernel
theorem dX11_count_153 : decode cX11_count 153 = .ok (.aload_n 0, 1) := by decide +kernel
theorem dX11_count_154 : decode cX11_count 154 = .ok (.getfield 47, 3) := by decide +kernel
theorem dX11_count_157 : decode cX11_count 157 = .ok (.getfield 290, 3) := by decide +kernel
theorem dX11_count_160 : decode cX11_count 160 = .ok (.ireturn, 1) := by decide +kernel
theorem dX11_count_161 : decode cX11_count 161 = .ok (.aload_n 0, 1) := by decide +kernel
theorem dX11_count_162 : decode cX11_count 162 = .ok (.getfield 18, 3) := by decide +kernel
theorem dX11_count_165 : decode cX11_count 165 = .ok (.getfield 150, 3) := by decide +kernel
theorem dX11_count_168 : decode cX11_count 168 = .ok (.getfield 299, 3) := by decide +kernel
theorem dX11_count_171 : decode cX11_count 171 = .ok (.aload_n 0, 1) := by decide +kernel
theorem dX11_count_172 : decode cX11_count 172 = .ok (.invokevirtual 233, 3) := by decide +kernel
theorem dX11_count_175 : decode cX11_count 175 = .ok (.isub, 1) := by decide +kernel
theorem dX11_count_176 : decode cX11_count 176 = .ok (.ireturn, 1) := by decide +kernel
theorem dX11_count_177 : decode cX11_count 177 = .ok (.aload_n 0, 1) := by decide +kernel
theorem dX11_count_178 : decode cX11_count 178 = .ok (.getfield 60, 3) := by decide +kernel
theorem dX11_count_181 : decode cX11_count 181 = .ok (.getfield 323, 3) := by decide +kernel
theorem dX11_count_184 : decode cX11_count 184 = .ok (.ireturn, 1) := by decide +kernel
theorem dX11_count_185 : decode cX11_count 185 = .ok (.aload_n 0, 1) := by decide +kernel
theorem dX11_count_186 : decode cX11_count 186 = .ok (.getfield 60, 3) := by decide +kernel
theorem dX11_count_189 : decode cX11_count 189 = .ok (.invokevirtual 333, 3) := by decide +kernel
theorem dX11_count_192 : decode cX11_count 192 = .ok (.ireturn, 1) := by decide +kernel
theorem dX11_count_193 : decode cX11_count 193 = .ok (.aload_n 0, 1) := by decide +kernel
theorem dX11_count_194 : decode cX11_count 194 = .ok (.getfield 67, 3) := by decide +kernel
theorem dX11_count_197 : decode cX11_count 197 = .ok (.getfield 368, 3) := by decide +kernel
theorem dX11_count_200 : decode cX11_count 200 = .ok (.ireturn, 1) := by decide +kernel
theorem dX11_count_201 : decode cX11_count 201 = .ok (.iconst (-1), 1) := by decide +kernel
theorem dX11_count_202 : decode cX11_count 202 = .ok (.ireturn, 1) := by decide +kernel
theorem dX11_isSurfer_0 : decode cX11_isSurfer 0 = .ok (.iload_n 1, 1) := by decide +kernel
theorem dX11_isSurfer_1 : decode cX11_isSurfer 1 = .ok (.ifCond .lt 21, 3) := by decide +kernel
theorem dX11_isSurfer_4 : decode cX11_isSurfer 4 = .ok (.iload_n 1, 1) := by decide +kernel
theorem dX11_isSurfer_5 : decode cX11_isSurfer 5 = .ok (.aload_n 0, 1) := by decide +kernel
theorem dX11_isSurfer_6 : decode cX11_isSurfer 6 = .ok (.getfield 18, 3) := by decide +kernel
theorem dX11_isSurfer_9 : decode cX11_isSurfer 9 = .ok (.getfield 102, 3) := by decide +kernel
theorem dX11_isSurfer_12 : decode cX11_isSurfer 12 = .ok (.getfield 106, 3) := by decide +kernel
theorem dX11_isSurfer_15 : decode cX11_isSurfer 15 = .ok (.if_icmp .ge 7, 3) := by decide +kernel
theorem dX11_isSurfer_18 : decode cX11_isSurfer 18 = .ok (.iconst 1, 1) := by decide +kernel
theorem dX11_isSurfer_19 : decode cX11_isSurfer 19 = .ok (.goto 4, 3) := by decide +kernel
theorem dX11_isSurfer_22 : decode cX11_isSurfer 22 = .ok (.iconst 0, 1) := by decide +kernel
theorem dX11_isSurfer_23 : decode cX11_isSurfer 23 = .ok (.ireturn, 1) := by decide +kernel
theorem dX11_isWave_0 : decode cX11_isWave 0 = .ok (.iload_n 1, 1) := by decide +kernel
theorem dX11_isWave_1 : decode cX11_isWave 1 = .ok (.ifCond .lt 21, 3) := by decide +kernel
theorem dX11_isWave_4 : decode cX11_isWave 4 = .ok (.iload_n 1, 1) := by decide +kernel
theorem dX11_isWave_5 : decode cX11_isWave 5 = .ok (.aload_n 0, 1) := by decide +kernel
theorem dX11_isWave_6 : decode cX11_isWave 6 = .ok (.getfield 18, 3) := by decide +kernel
theorem dX11_isWave_9 : decode cX11_isWave 9 = .ok (.getfield 150, 3) := by decide +kernel
theorem dX11_isWave_12 : decode cX11_isWave 12 = .ok (.getfield 299, 3) := by decide +kernel
theorem dX11_isWave_15 : decode cX11_isWave 15 = .ok (.if_icmp .ge 7, 3) := by decide +kernel
theorem dX11_isWave_18 : decode cX11_isWave 18 = .ok (.iconst 1, 1) := by decide +kernel
theorem dX11_isWave_19 : decode cX11_isWave 19 = .ok (.goto 4, 3) := by decide +kernel
theorem dX11_isWave_22 : decode cX11_isWave 22 = .ok (.iconst 0, 1) := by decide +kernel
theorem dX11_isWave_23 : decode cX11_isWave 23 = .ok (.ireturn, 1) := by decide +kernel
set_option maxRecDepth 20000 in
theorem ggX11_isToCome_X11_isWave : GoodIn wsX11_isToCome wsX11_isWave := goodIn_r _ [10, 1, 2, 11, 12, 13, 14, 15, 16, 17, 18, 19, 20, 21, 22, 23, 24, 25, 26, 27, 28, 29, 30, 31, 32, 33, 34, 35, 36, 37, 38, 39, 40, 41, 42, 43, 44, 45, 46, 47] (by decide +kernel) (by decide +kernel)
set_option maxRecDepth 20000 in
theorem gX11_isToCome_X11_isWave : GoodIn wsX11_isToCome (wsV RX11 147 RX11 yX11_isWave wsX11_isWave) := goodIn_app (goodIn_of _ (by decide +kernel)) ggX11_isToCome_X11_isWave
theorem dX11_isToCome_0 : decode cX11_isToCome 0 = .ok (.aload_n 0, 1) := by decide +kernel
theorem dX11_isToCome_1 : decode cX11_isToCome 1 = .ok (.iload_n 1, 1) := by decide +kernel
theorem dX11_isToCome_2 : decode cX11_isToCome 2 = .ok (.invokevirtual 147, 3) := by decide +kernel
theorem dX11_isToCome_5 : decode cX11_isToCome 5 = .ok (.ifCond .eq 29, 3) := by decide +kernel
theorem dX11_isToCome_8 : decode cX11_isToCome 8 = .ok (.aload_n 0, 1) := by decide +kernel
theorem dX11_isToCome_9 : decode cX11_isToCome 9 = .ok (.getfield 18, 3) := by decide +kernel
theorem dX11_isToCome_12 : decode cX11_isToCome 12 = .ok (.getfield 150, 3) := by decide +kernel
theorem dX11_isToCome_15 : decode cX11_isToCome 15 = .ok (.getfield 154, 3) := by decide +kernel
theorem dX11_isToCome_18 : decode cX11_isToCome 18 = .ok (.iload_n 1, 1) := by decide +kernel
theorem dX11_isToCome_19 : decode cX11_isToCome 19 = .ok (.iaload, 1) := by decide +kernel
theorem dX11_isToCome_20 : decode cX11_isToCome 20 = .ok (.aload_n 0, 1) := by decide +kernel
theorem dX11_isToCome_21 : decode cX11_isToCome 21 = .ok (.getfield 47, 3) := by decide +kernel
theorem dX11_isToCome_24 : decode cX11_isToCome 24 = .ok (.getfield 186, 3) := by decide +kernel
theorem dX11_isToCome_27 : decode cX11_isToCome 27 = .ok (.if_icmp .lt 7, 3) := by decide +kernel
theorem dX11_isToCome_30 : decode cX11_isToCome 30 = .ok (.iconst 1, 1) := by decide +kernel
theorem dX11_isToCome_31 : decode cX11_isToCome 31 = .ok (.goto 4, 3) := by decide +kernel
theorem dX11_isToCome_34 : decode cX11_isToCome 34 = .ok (.iconst 0, 1) := by decide +kernel
theorem dX11_isToCome_35 : decode cX11_isToCome 35 = .ok (.ireturn, 1) := by decide +kernel
set_option maxRecDepth 20000 in
theorem ggX11_isCell_X8_cells : GoodIn wsX11_isCell wsX8_cells := goodIn_r _ [6, 7, 8, 23, 24, 25, 26, 27, 28, 29, 30, 31, 32, 33, 34, 35, 36] (by decide +kernel) (by decide +kernel)
set_option maxRecDepth 20000 in
theorem gX11_isCell_X8_cells : GoodIn wsX11_isCell (wsV RX11 240 RX8 yX8_cells wsX8_cells) := goodIn_app (goodIn_of _ (by decide +kernel)) ggX11_isCell_X8_cells
theorem dX11_isCell_0 : decode cX11_isCell 0 = .ok (.iload_n 1, 1) := by decide +kernel
theorem dX11_isCell_1 : decode cX11_isCell 1 = .ok (.ifCond .lt 18, 3) := by decide +kernel
theorem dX11_isCell_4 : decode cX11_isCell 4 = .ok (.iload_n 1, 1) := by decide +kernel
theorem dX11_isCell_5 : decode cX11_isCell 5 = .ok (.aload_n 0, 1) := by decide +kernel
theorem dX11_isCell_6 : decode cX11_isCell 6 = .ok (.getfield 18, 3) := by decide +kernel
theorem dX11_isCell_9 : decode cX11_isCell 9 = .ok (.invokevirtual 240, 3) := by decide +kernel
theorem dX11_isCell_12 : decode cX11_isCell 12 = .ok (.if_icmp .ge 7, 3) := by decide +kernel
theorem dX11_isCell_15 : decode cX11_isCell 15 = .ok (.iconst 1, 1) := by decide +kernel
theorem dX11_isCell_16 : decode cX11_isCell 16 = .ok (.goto 4, 3) := by decide +kernel
theorem dX11_isCell_19 : decode cX11_isCell 19 = .ok (.iconst 0, 1) := by decide +kernel
theorem dX11_isCell_20 : decode cX11_isCell 20 = .ok (.ireturn, 1) := by decide +kernel
theorem dX11_isRule_0 : decode cX11_isRule 0 = .ok (.iload_n 1, 1) := by decide +kernel
theorem dX11_isRule_1 : decode cX11_isRule 1 = .ok (.ifCond .lt 12, 3) := by decide +kernel
theorem dX11_isRule_4 : decode cX11_isRule 4 = .ok (.iload_n 1, 1) := by decide +kernel
theorem dX11_isRule_5 : decode cX11_isRule 5 = .ok (.iconst 4, 1) := by decide +kernel
theorem dX11_isRule_6 : decode cX11_isRule 6 = .ok (.if_icmp .ge 7, 3) := by decide +kernel
theorem dX11_isRule_9 : decode cX11_isRule 9 = .ok (.iconst 1, 1) := by decide +kernel
theorem dX11_isRule_10 : decode cX11_isRule 10 = .ok (.goto 4, 3) := by decide +kernel
theorem dX11_isRule_13 : decode cX11_isRule 13 = .ok (.iconst 0, 1) := by decide +kernel
theorem dX11_isRule_14 : decode cX11_isRule 14 = .ok (.ireturn, 1) := by decide +kernel
set_option maxRecDepth 20000 in
theorem ggX11_firstToCome_X10_firstFrom : GoodIn wsX11_firstToCome wsX10_firstFrom := goodIn_r _ [9, 10, 11, 51, 52, 53, 54, 55, 56, 57, 58] (by decide +kernel) (by decide +kernel)
set_option maxRecDepth 20000 in
theorem gX11_firstToCome_X10_firstFrom : GoodIn wsX11_firstToCome (wsV RX11 387 RX10 yX10_firstFrom wsX10_firstFrom) := goodIn_app (goodIn_of _ (by decide +kernel)) ggX11_firstToCome_X10_firstFrom
theorem dX11_firstToCome_0 : decode cX11_firstToCome 0 = .ok (.aload_n 0, 1) := by decide +kernel
theorem dX11_firstToCome_1 : decode cX11_firstToCome 1 = .ok (.getfield 18, 3) := by decide +kernel
theorem dX11_firstToCome_4 : decode cX11_firstToCome 4 = .ok (.getfield 150, 3) := by decide +kernel
theorem dX11_firstToCome_7 : decode cX11_firstToCome 7 = .ok (.aload_n 0, 1) := by decide +kernel
theorem dX11_firstToCome_8 : decode cX11_firstToCome 8 = .ok (.getfield 47, 3) := by decide +kernel
theorem dX11_firstToCome_11 : decode cX11_firstToCome 11 = .ok (.getfield 186, 3) := by decide +kernel
theorem dX11_firstToCome_14 : decode cX11_firstToCome 14 = .ok (.invokevirtual 387, 3) := by decide +kernel
theorem dX11_firstToCome_17 : decode cX11_firstToCome 17 = .ok (.ireturn, 1) := by decide +kernel
set_option maxRecDepth 20000 in
theorem ggX11_farNow_X6_peakXAt : GoodIn wsX11_farNow wsX6_peakXAt := goodIn_r _ [10, 11, 12, 13, 14, 15, 16, 17, 18, 19, 20, 21, 22, 23, 24, 25, 26, 9, 27, 28, 29, 30, 31, 32, 33, 34, 35, 36, 37, 38, 39, 40, 41, 42, 43, 44, 45, 46, 47, 48, 49, 85, 86, 87, 88, 89, 90, 91, 92, 93, 94, 95, 96, 97, 98, 99, 100, 101, 102, 103, 104, 105, 106, 107, 108, 109, 110] (by decide +kernel) (by decide +kernel)
set_option maxRecDepth 20000 in
theorem gX11_farNow_X6_peakXAt : GoodIn wsX11_farNow (wsV RX11 176 RX6 yX6_peakXAt wsX6_peakXAt) := goodIn_app (goodIn_of _ (by decide +kernel)) ggX11_farNow_X6_peakXAt
set_option maxRecDepth 20000 in
theorem ggX11_farNow_X8_farFrom : GoodIn wsX11_farNow wsX8_farFrom := goodIn_r _ [54, 55, 56, 57, 18, 58, 59, 94, 95, 96, 97, 98, 99, 100, 101, 102, 103, 104, 105, 106, 107] (by decide +kernel) (by decide +kernel)
set_option maxRecDepth 20000 in
theorem gX11_farNow_X8_farFrom : GoodIn wsX11_farNow (wsV RX11 390 RX8 yX8_farFrom wsX8_farFrom) := goodIn_app (goodIn_of _ (by decide +kernel)) ggX11_farNow_X8_farFrom
theorem dX11_farNow_0 : decode cX11_farNow 0 = .ok (.aload_n 0, 1) := by decide +kernel
theorem dX11_farNow_1 : decode cX11_farNow 1 = .ok (.getfield 18, 3) := by decide +kernel
theorem dX11_farNow_4 : decode cX11_farNow 4 = .ok (.aload_n 0, 1) := by decide +kernel
theorem dX11_farNow_5 : decode cX11_farNow 5 = .ok (.getfield 47, 3) := by decide +kernel
theorem dX11_farNow_8 : decode cX11_farNow 8 = .ok (.getfield 122, 3) := by decide +kernel
theorem dX11_farNow_11 : decode cX11_farNow 11 = .ok (.iload_n 1, 1) := by decide +kernel
theorem dX11_farNow_12 : decode cX11_farNow 12 = .ok (.iaload, 1) := by decide +kernel
theorem dX11_farNow_13 : decode cX11_farNow 13 = .ok (.aload_n 0, 1) := by decide +kernel
theorem dX11_farNow_14 : decode cX11_farNow 14 = .ok (.getfield 37, 3) := by decide +kernel
theorem dX11_farNow_17 : decode cX11_farNow 17 = .ok (.aload_n 0, 1) := by decide +kernel
theorem dX11_farNow_18 : decode cX11_farNow 18 = .ok (.getfield 47, 3) := by decide +kernel
theorem dX11_farNow_21 : decode cX11_farNow 21 = .ok (.getfield 186, 3) := by decide +kernel
theorem dX11_farNow_24 : decode cX11_farNow 24 = .ok (.invokevirtual 176, 3) := by decide +kernel
theorem dX11_farNow_27 : decode cX11_farNow 27 = .ok (.invokevirtual 390, 3) := by decide +kernel
theorem dX11_farNow_30 : decode cX11_farNow 30 = .ok (.ireturn, 1) := by decide +kernel
theorem dX11_putOnTape_0 : decode cX11_putOnTape 0 = .ok (.bipush 24, 2) := by decide +kernel
theorem dX11_putOnTape_2 : decode cX11_putOnTape 2 = .ok (.istore_n 2, 1) := by decide +kernel
theorem dX11_putOnTape_3 : decode cX11_putOnTape 3 = .ok (.iload_n 2, 1) := by decide +kernel
theorem dX11_putOnTape_4 : decode cX11_putOnTape 4 = .ok (.ifCond .lt 42, 3) := by decide +kernel
theorem dX11_putOnTape_7 : decode cX11_putOnTape 7 = .ok (.aload_n 0, 1) := by decide +kernel
theorem dX11_putOnTape_8 : decode cX11_putOnTape 8 = .ok (.getfield 78, 3) := by decide +kernel
theorem dX11_putOnTape_11 : decode cX11_putOnTape 11 = .ok (.sipush 700, 3) := by decide +kernel
theorem dX11_putOnTape_14 : decode cX11_putOnTape 14 = .ok (.if_icmp .ge 32, 3) := by decide +kernel
theorem dX11_putOnTape_17 : decode cX11_putOnTape 17 = .ok (.aload_n 0, 1) := by decide +kernel
theorem dX11_putOnTape_18 : decode cX11_putOnTape 18 = .ok (.getfield 11, 3) := by decide +kernel
theorem dX11_putOnTape_21 : decode cX11_putOnTape 21 = .ok (.aload_n 0, 1) := by decide +kernel
theorem dX11_putOnTape_22 : decode cX11_putOnTape 22 = .ok (.getfield 78, 3) := by decide +kernel
theorem dX11_putOnTape_25 : decode cX11_putOnTape 25 = .ok (.iload_n 1, 1) := by decide +kernel
theorem dX11_putOnTape_26 : decode cX11_putOnTape 26 = .ok (.iload_n 2, 1) := by decide +kernel
theorem dX11_putOnTape_27 : decode cX11_putOnTape 27 = .ok (.ishr, 1) := by decide +kernel
theorem dX11_putOnTape_28 : decode cX11_putOnTape 28 = .ok (.i2b, 1) := by decide +kernel
theorem dX11_putOnTape_29 : decode cX11_putOnTape 29 = .ok (.bastore, 1) := by decide +kernel
theorem dX11_putOnTape_30 : decode cX11_putOnTape 30 = .ok (.aload_n 0, 1) := by decide +kernel
theorem dX11_putOnTape_31 : decode cX11_putOnTape 31 = .ok (.dup, 1) := by decide +kernel
theorem dX11_putOnTape_32 : decode cX11_putOnTape 32 = .ok (.getfield 78, 3) := by decide +kernel
theorem dX11_putOnTape_35 : decode cX11_putOnTape 35 = .ok (.iconst 1, 1) := by decide +kernel
theorem dX11_putOnTape_36 : decode cX11_putOnTape 36 = .ok (.iadd, 1) := by decide +kernel
theorem dX11_putOnTape_37 : decode cX11_putOnTape 37 = .ok (.putfield 78, 3) := by decide +kernel
theorem dX11_putOnTape_40 : decode cX11_putOnTape 40 = .ok (.iinc 2 (-8), 3) := by decide +kernel
theorem dX11_putOnTape_43 : decode cX11_putOnTape 43 = .ok (.goto (-40), 3) := by decide +kernel
theorem dX11_putOnTape_46 : decode cX11_putOnTape 46 = .ok (.return_, 1) := by decide +kernel
set_option maxRecDepth 20000 in
theorem ggX11_beginAnew_X6_takeAsTold : GoodIn wsX11_beginAnew wsX6_takeAsTold := goodIn_r _ [14, 15, 16, 17, 18, 19, 20, 21, 22, 23, 24, 25, 26, 27, 28, 29, 30, 31, 13, 32, 33, 34, 35, 36, 37, 38, 39, 40, 41, 42, 43, 44, 45, 46, 47, 48, 49, 50, 51, 52, 53, 54, 55, 56, 57, 58, 59, 60, 61, 62, 63, 64, 65, 66, 67, 68, 69, 70, 115, 116, 117, 118, 119, 120, 121, 122, 123, 124, 125, 126, 127, 128, 129, 130, 131, 132, 133, 134, 135, 136, 137, 138, 139, 140, 141, 142, 143, 144, 145, 146, 147, 148, 149, 150, 151, 152, 153, 154, 155] (by decide +kernel) (by decide +kernel)
set_option maxRecDepth 20000 in
theorem gX11_beginAnew_X6_takeAsTold : GoodIn wsX11_beginAnew (wsV RX11 393 RX6 yX6_takeAsTold wsX6_takeAsTold) := goodIn_app (goodIn_of _ (by decide +kernel)) ggX11_beginAnew_X6_takeAsTold
set_option maxRecDepth 20000 in
theorem ggX11_beginAnew_X4_begin : GoodIn wsX11_beginAnew wsX4_begin := goodIn_r _ [75, 76, 77, 78, 79, 80, 81, 82, 83, 84, 85, 86, 87, 88, 89, 90, 156, 157, 158, 159, 160, 161, 162, 163, 164, 165, 166, 124, 125, 126, 127, 128, 129, 130, 131, 132, 133, 134, 135, 136, 137, 138, 139, 140, 141, 142, 143, 144] (by decide +kernel) (by decide +kernel)
set_option maxRecDepth 20000 in
theorem gX11_beginAnew_X4_begin : GoodIn wsX11_beginAnew (wsV RX11 396 RX4 yX4_begin wsX4_begin) := goodIn_app (goodIn_of _ (by decide +kernel)) ggX11_beginAnew_X4_begin
theorem dX11_beginAnew_0 : decode cX11_beginAnew 0 = .ok (.aload_n 0, 1) := by decide +kernel
theorem dX11_beginAnew_1 : decode cX11_beginAnew 1 = .ok (.getfield 37, 3) := by decide +kernel
theorem dX11_beginAnew_4 : decode cX11_beginAnew 4 = .ok (.aload_n 0, 1) := by decide +kernel
theorem dX11_beginAnew_5 : decode cX11_beginAnew 5 = .ok (.getfield 18, 3) := by decide +kernel
theorem dX11_beginAnew_8 : decode cX11_beginAnew 8 = .ok (.invokevirtual 393, 3) := by decide +kernel
theorem dX11_beginAnew_11 : decode cX11_beginAnew 11 = .ok (.aload_n 0, 1) := by decide +kernel
theorem dX11_beginAnew_12 : decode cX11_beginAnew 12 = .ok (.getfield 47, 3) := by decide +kernel
theorem dX11_beginAnew_15 : decode cX11_beginAnew 15 = .ok (.aload_n 0, 1) := by decide +kernel
theorem dX11_beginAnew_16 : decode cX11_beginAnew 16 = .ok (.getfield 18, 3) := by decide +kernel
theorem dX11_beginAnew_19 : decode cX11_beginAnew 19 = .ok (.invokevirtual 396, 3) := by decide +kernel
theorem dX11_beginAnew_22 : decode cX11_beginAnew 22 = .ok (.aload_n 0, 1) := by decide +kernel
theorem dX11_beginAnew_23 : decode cX11_beginAnew 23 = .ok (.getfield 60, 3) := by decide +kernel
theorem dX11_beginAnew_26 : decode cX11_beginAnew 26 = .ok (.iconst 0, 1) := by decide +kernel
theorem dX11_beginAnew_27 : decode cX11_beginAnew 27 = .ok (.putfield 323, 3) := by decide +kernel
theorem dX11_beginAnew_30 : decode cX11_beginAnew 30 = .ok (.aload_n 0, 1) := by decide +kernel
theorem dX11_beginAnew_31 : decode cX11_beginAnew 31 = .ok (.getfield 60, 3) := by decide +kernel
theorem dX11_beginAnew_34 : decode cX11_beginAnew 34 = .ok (.iconst (-1), 1) := by decide +kernel
theorem dX11_beginAnew_35 : decode cX11_beginAnew 35 = .ok (.putfield 327, 3) := by decide +kernel
theorem dX11_beginAnew_38 : decode cX11_beginAnew 38 = .ok (.aload_n 0, 1) := by decide +kernel
theorem dX11_beginAnew_39 : decode cX11_beginAnew 39 = .ok (.getfield 67, 3) := by decide +kernel
theorem dX11_beginAnew_42 : decode cX11_beginAnew 42 = .ok (.iconst 0, 1) := by decide +kernel
theorem dX11_beginAnew_43 : decode cX11_beginAnew 43 = .ok (.putfield 368, 3) := by decide +kernel
theorem dX11_beginAnew_46 : decode cX11_beginAnew 46 = .ok (.aload_n 0, 1) := by decide +kernel
theorem dX11_beginAnew_47 : decode cX11_beginAnew 47 = .ok (.iconst 0, 1) := by decide +kernel
theorem dX11_beginAnew_48 : decode cX11_beginAnew 48 = .ok (.putfield 377, 3) := by decide +kernel
theorem dX11_beginAnew_51 : decode cX11_beginAnew 51 = .ok (.return_, 1) := by decide +kernel
set_option maxRecDepth 20000 in
theorem ggX11_passMinute_X10_firstFrom : GoodIn wsX11_passMinute wsX10_firstFrom := goodIn_r _ [16, 17, 18, 205, 206, 207, 208, 209, 210, 211, 212] (by decide +kernel) (by decide +kernel)
set_option maxRecDepth 20000 in
theorem gX11_passMinute_X10_firstFrom : GoodIn wsX11_passMinute (wsV RX11 387 RX10 yX10_firstFrom wsX10_firstFrom) := goodIn_app (goodIn_of _ (by decide +kernel)) ggX11_passMinute_X10_firstFrom
set_option maxRecDepth 20000 in
theorem ggX11_passMinute_X6_bringWave : GoodIn wsX11_passMinute wsX6_bringWave := goodIn_r _ [23, 24, 25, 26, 27, 28, 29, 30, 31, 32, 33, 34, 35, 22, 36, 37, 38, 39, 40, 41, 42, 43, 44, 45, 46, 47, 48, 49, 50, 51, 52, 53, 54, 55, 56, 57, 58, 59, 60, 61, 62, 63, 64, 65, 66, 67, 68, 69, 70, 71, 72, 73, 74, 75, 76, 77, 78, 79, 80, 81, 82, 83, 84, 85, 86, 87, 88, 89, 90, 91, 92, 93, 94, 95, 96, 97, 98, 99, 100, 101, 102, 103, 104, 105, 106, 107, 108, 109, 110, 111, 112, 113, 114, 115, 116, 117, 118, 119, 120, 121, 122, 123, 124, 125, 126, 127, 128, 129, 130, 131, 132, 133, 134, 135, 136, 137, 138, 139, 140, 141, 142, 143, 144, 145, 146, 147, 148, 149, 150, 151, 152, 153, 154, 155, 156, 157, 158, 223, 224, 225, 226, 227, 228, 229, 230, 231, 180, 181, 182, 183, 184, 185, 186, 187, 188, 189, 190, 191, 192, 193, 205, 206, 207, 208, 209, 210, 211, 212, 194, 195, 196, 197, 198, 199, 200, 201, 202, 203, 204, 213, 214, 215, 216, 217, 218, 219, 232, 233, 234] (by decide +kernel) (by decide +kernel)
set_option maxRecDepth 20000 in
theorem gX11_passMinute_X6_bringWave : GoodIn wsX11_passMinute (wsV RX11 364 RX6 yX6_bringWave wsX6_bringWave) := goodIn_app (goodIn_of _ (by decide +kernel)) ggX11_passMinute_X6_bringWave
set_option maxRecDepth 20000 in
theorem ggX11_passMinute_X4_beginMinute : GoodIn wsX11_passMinute wsX4_beginMinute := goodIn_r _ [162, 163, 47, 164, 165, 43, 44, 45, 46, 194, 195, 196, 197, 198, 199, 200, 201, 202, 203, 204] (by decide +kernel) (by decide +kernel)
set_option maxRecDepth 20000 in
theorem gX11_passMinute_X4_beginMinute : GoodIn wsX11_passMinute (wsV RX11 399 RX4 yX4_beginMinute wsX4_beginMinute) := goodIn_app (goodIn_of _ (by decide +kernel)) ggX11_passMinute_X4_beginMinute
theorem dX11_passMinute_0 : decode cX11_passMinute 0 = .ok (.aload_n 0, 1) := by decide +kernel
theorem dX11_passMinute_1 : decode cX11_passMinute 1 = .ok (.getfield 18, 3) := by decide +kernel
theorem dX11_passMinute_4 : decode cX11_passMinute 4 = .ok (.getfield 150, 3) := by decide +kernel
theorem dX11_passMinute_7 : decode cX11_passMinute 7 = .ok (.aload_n 0, 1) := by decide +kernel
theorem dX11_passMinute_8 : decode cX11_passMinute 8 = .ok (.getfield 47, 3) := by decide +kernel
theorem dX11_passMinute_11 : decode cX11_passMinute 11 = .ok (.getfield 186, 3) := by decide +kernel
theorem dX11_passMinute_14 : decode cX11_passMinute 14 = .ok (.invokevirtual 387, 3) := by decide +kernel
theorem dX11_passMinute_17 : decode cX11_passMinute 17 = .ok (.istore_n 1, 1) := by decide +kernel
theorem dX11_passMinute_18 : decode cX11_passMinute 18 = .ok (.iload_n 1, 1) := by decide +kernel
theorem dX11_passMinute_19 : decode cX11_passMinute 19 = .ok (.aload_n 0, 1) := by decide +kernel
theorem dX11_passMinute_20 : decode cX11_passMinute 20 = .ok (.getfield 18, 3) := by decide +kernel
theorem dX11_passMinute_23 : decode cX11_passMinute 23 = .ok (.getfield 150, 3) := by decide +kernel
theorem dX11_passMinute_26 : decode cX11_passMinute 26 = .ok (.getfield 299, 3) := by decide +kernel
theorem dX11_passMinute_29 : decode cX11_passMinute 29 = .ok (.if_icmp .ge 37, 3) := by decide +kernel
theorem dX11_passMinute_32 : decode cX11_passMinute 32 = .ok (.aload_n 0, 1) := by decide +kernel
theorem dX11_passMinute_33 : decode cX11_passMinute 33 = .ok (.getfield 18, 3) := by decide +kernel
theorem dX11_passMinute_36 : decode cX11_passMinute 36 = .ok (.getfield 150, 3) := by decide +kernel
theorem dX11_passMinute_39 : decode cX11_passMinute 39 = .ok (.getfield 154, 3) := by decide +kernel
theorem dX11_passMinute_42 : decode cX11_passMinute 42 = .ok (.iload_n 1, 1) := by decide +kernel
theorem dX11_passMinute_43 : decode cX11_passMinute 43 = .ok (.iaload, 1) := by decide +kernel
theorem dX11_passMinute_44 : decode cX11_passMinute 44 = .ok (.aload_n 0, 1) := by decide +kernel
theorem dX11_passMinute_45 : decode cX11_passMinute 45 = .ok (.getfield 47, 3) := by decide +kernel
theorem dX11_passMinute_48 : decode cX11_passMinute 48 = .ok (.getfield 186, 3) := by decide +kernel
theorem dX11_passMinute_51 : decode cX11_passMinute 51 = .ok (.if_icmp .ne 15, 3) := by decide +kernel
theorem dX11_passMinute_54 : decode cX11_passMinute 54 = .ok (.aload_n 0, 1) := by decide +kernel
theorem dX11_passMinute_55 : decode cX11_passMinute 55 = .ok (.getfield 37, 3) := by decide +kernel
theorem dX11_passMinute_58 : decode cX11_passMinute 58 = .ok (.aload_n 0, 1) := by decide +kernel
theorem dX11_passMinute_59 : decode cX11_passMinute 59 = .ok (.getfield 47, 3) := by decide +kernel
theorem dX11_passMinute_62 : decode cX11_passMinute 62 = .ok (.iload_n 1, 1) := by decide +kernel
theorem dX11_passMinute_63 : decode cX11_passMinute 63 = .ok (.invokevirtual 364, 3) := by decide +kernel
theorem dX11_passMinute_66 : decode cX11_passMinute 66 = .ok (.aload_n 0, 1) := by decide +kernel
theorem dX11_passMinute_67 : decode cX11_passMinute 67 = .ok (.getfield 47, 3) := by decide +kernel
theorem dX11_passMinute_70 : decode cX11_passMinute 70 = .ok (.aload_n 0, 1) := by decide +kernel
theorem dX11_passMinute_71 : decode cX11_passMinute 71 = .ok (.getfield 18, 3) := by decide +kernel
theorem dX11_passMinute_74 : decode cX11_passMinute 74 = .ok (.getfield 102, 3) := by decide +kernel
theorem dX11_passMinute_77 : decode cX11_passMinute 77 = .ok (.getfield 106, 3) := by decide +kernel
theorem dX11_passMinute_80 : decode cX11_passMinute 80 = .ok (.invokevirtual 399, 3) := by decide +kernel
theorem dX11_passMinute_83 : decode cX11_passMinute 83 = .ok (.aload_n 0, 1) := by decide +kernel
theorem dX11_passMinute_84 : decode cX11_passMinute 84 = .ok (.getfield 67, 3) := by decide +kernel
theorem dX11_passMinute_87 : decode cX11_passMinute 87 = .ok (.iconst 0, 1) := by decide +kernel
theorem dX11_passMinute_88 : decode cX11_passMinute 88 = .ok (.putfield 368, 3) := by decide +kernel
theorem dX11_passMinute_91 : decode cX11_passMinute 91 = .ok (.return_, 1) := by decide +kernel
set_option maxRecDepth 20000 in
theorem ggX11_runBy_X4_takeForRun : GoodIn wsX11_runBy wsX4_takeForRun := goodIn_r _ [11, 12, 13, 14, 15, 16, 17, 18, 10, 19, 20, 21, 22, 23, 24, 25, 26, 27, 28, 29, 30, 217, 218, 219, 220, 221, 222, 223, 224, 225, 226, 227] (by decide +kernel) (by decide +kernel)
set_option maxRecDepth 20000 in
theorem gX11_runBy_X4_takeForRun : GoodIn wsX11_runBy (wsV RX11 353 RX4 yX4_takeForRun wsX4_takeForRun) := goodIn_app (goodIn_of _ (by decide +kernel)) ggX11_runBy_X4_takeForRun
set_option maxRecDepth 20000 in
theorem ggX11_runBy_X11_firstToCome : GoodIn wsX11_runBy wsX11_firstToCome := goodIn_r _ [35, 3, 4, 2, 36, 37, 38, 39, 40, 41, 42, 43, 181, 182, 183, 184, 185, 186, 187, 188, 189, 190, 191, 192, 193, 194, 195, 196, 197, 198, 199, 200, 201, 202, 203, 204, 205, 206, 207, 208, 217, 218, 219, 220, 221, 222, 223, 224, 225, 226, 227, 209, 210, 211, 212, 213, 214, 215, 216] (by decide +kernel) (by decide +kernel)
set_option maxRecDepth 20000 in
theorem gX11_runBy_X11_firstToCome : GoodIn wsX11_runBy (wsV RX11 233 RX11 yX11_firstToCome wsX11_firstToCome) := goodIn_app (goodIn_of _ (by decide +kernel)) ggX11_runBy_X11_firstToCome
set_option maxRecDepth 20000 in
theorem ggX11_runBy_X6_bringWave : GoodIn wsX11_runBy wsX6_bringWave := goodIn_r _ [48, 49, 50, 51, 52, 53, 54, 55, 56, 57, 58, 59, 60, 47, 61, 62, 63, 64, 65, 66, 67, 68, 69, 10, 70, 28, 71, 72, 73, 74, 75, 76, 77, 78, 79, 80, 81, 82, 83, 84, 85, 86, 87, 88, 89, 90, 91, 92, 93, 94, 95, 96, 97, 98, 99, 100, 101, 102, 103, 104, 105, 106, 107, 108, 109, 110, 111, 112, 113, 114, 115, 116, 117, 118, 119, 120, 121, 122, 123, 124, 125, 126, 127, 128, 129, 130, 131, 132, 133, 134, 135, 136, 137, 138, 139, 140, 141, 142, 143, 144, 145, 146, 147, 148, 149, 150, 151, 152, 153, 154, 155, 156, 157, 158, 159, 160, 161, 162, 13, 163, 164, 165, 166, 167, 168, 169, 170, 171, 172, 173, 174, 175, 176, 177, 178, 179, 180, 228, 229, 230, 231, 232, 233, 234, 235, 236, 195, 196, 197, 198, 199, 200, 201, 202, 203, 204, 205, 206, 207, 208, 209, 210, 211, 212, 213, 214, 215, 216, 217, 218, 219, 220, 221, 222, 223, 224, 225, 226, 227, 237, 238, 239, 240, 241, 242, 243, 244, 245, 246] (by decide +kernel) (by decide +kernel)
set_option maxRecDepth 20000 in
theorem gX11_runBy_X6_bringWave : GoodIn wsX11_runBy (wsV RX11 364 RX6 yX6_bringWave wsX6_bringWave) := goodIn_app (goodIn_of _ (by decide +kernel)) ggX11_runBy_X6_bringWave
theorem dX11_runBy_0 : decode cX11_runBy 0 = .ok (.aload_n 0, 1) := by decide +kernel
theorem dX11_runBy_1 : decode cX11_runBy 1 = .ok (.getfield 51, 3) := by decide +kernel
theorem dX11_runBy_4 : decode cX11_runBy 4 = .ok (.aload_n 0, 1) := by decide +kernel
theorem dX11_runBy_5 : decode cX11_runBy 5 = .ok (.getfield 47, 3) := by decide +kernel
theorem dX11_runBy_8 : decode cX11_runBy 8 = .ok (.iload_n 1, 1) := by decide +kernel
theorem dX11_runBy_9 : decode cX11_runBy 9 = .ok (.iload_n 2, 1) := by decide +kernel
theorem dX11_runBy_10 : decode cX11_runBy 10 = .ok (.invokevirtual 353, 3) := by decide +kernel
theorem dX11_runBy_13 : decode cX11_runBy 13 = .ok (.aload_n 0, 1) := by decide +kernel
theorem dX11_runBy_14 : decode cX11_runBy 14 = .ok (.invokevirtual 233, 3) := by decide +kernel
theorem dX11_runBy_17 : decode cX11_runBy 17 = .ok (.istore_n 3, 1) := by decide +kernel
theorem dX11_runBy_18 : decode cX11_runBy 18 = .ok (.iload_n 3, 1) := by decide +kernel
theorem dX11_runBy_19 : decode cX11_runBy 19 = .ok (.aload_n 0, 1) := by decide +kernel
theorem dX11_runBy_20 : decode cX11_runBy 20 = .ok (.getfield 18, 3) := by decide +kernel
theorem dX11_runBy_23 : decode cX11_runBy 23 = .ok (.getfield 150, 3) := by decide +kernel
theorem dX11_runBy_26 : decode cX11_runBy 26 = .ok (.getfield 299, 3) := by decide +kernel
theorem dX11_runBy_29 : decode cX11_runBy 29 = .ok (.if_icmp .ge 21, 3) := by decide +kernel
theorem dX11_runBy_32 : decode cX11_runBy 32 = .ok (.aload_n 0, 1) := by decide +kernel
theorem dX11_runBy_33 : decode cX11_runBy 33 = .ok (.getfield 37, 3) := by decide +kernel
theorem dX11_runBy_36 : decode cX11_runBy 36 = .ok (.aload_n 0, 1) := by decide +kernel
theorem dX11_runBy_37 : decode cX11_runBy 37 = .ok (.getfield 51, 3) := by decide +kernel
theorem dX11_runBy_40 : decode cX11_runBy 40 = .ok (.iload_n 3, 1) := by decide +kernel
theorem dX11_runBy_41 : decode cX11_runBy 41 = .ok (.invokevirtual 364, 3) := by decide +kernel
theorem dX11_runBy_44 : decode cX11_runBy 44 = .ok (.iinc 3 1, 3) := by decide +kernel
theorem dX11_runBy_47 : decode cX11_runBy 47 = .ok (.goto (-29), 3) := by decide +kernel
theorem dX11_runBy_50 : decode cX11_runBy 50 = .ok (.return_, 1) := by decide +kernel
set_option maxRecDepth 20000 in
theorem ggX11_changeTrial_X6_makeNobodyBold : GoodIn wsX11_changeTrial wsX6_makeNobodyBold := goodIn_r _ [8, 9, 59, 60, 61, 62, 63, 64, 65, 66, 67] (by decide +kernel) (by decide +kernel)
set_option maxRecDepth 20000 in
theorem gX11_changeTrial_X6_makeNobodyBold : GoodIn wsX11_changeTrial (wsV RX11 402 RX6 yX6_makeNobodyBold wsX6_makeNobodyBold) := goodIn_app (goodIn_of _ (by decide +kernel)) ggX11_changeTrial_X6_makeNobodyBold
set_option maxRecDepth 20000 in
theorem ggX11_changeTrial_X4_leaveOut : GoodIn wsX11_changeTrial wsX4_leaveOut := goodIn_r _ [14, 15, 16, 48, 49, 50, 51, 52, 53, 54, 55, 56, 57, 58] (by decide +kernel) (by decide +kernel)
set_option maxRecDepth 20000 in
theorem gX11_changeTrial_X4_leaveOut : GoodIn wsX11_changeTrial (wsV RX11 405 RX4 yX4_leaveOut wsX4_leaveOut) := goodIn_app (goodIn_of _ (by decide +kernel)) ggX11_changeTrial_X4_leaveOut
set_option maxRecDepth 20000 in
theorem ggX11_changeTrial_X6_holdPeak : GoodIn wsX11_changeTrial wsX6_holdPeak := goodIn_r _ [20, 21, 22, 23, 59, 60, 61, 62, 63, 64, 65, 66, 67, 68, 69, 70, 71, 72, 73, 74, 75, 76, 77, 78, 79, 80, 81] (by decide +kernel) (by decide +kernel)
set_option maxRecDepth 20000 in
theorem gX11_changeTrial_X6_holdPeak : GoodIn wsX11_changeTrial (wsV RX11 408 RX6 yX6_holdPeak wsX6_holdPeak) := goodIn_app (goodIn_of _ (by decide +kernel)) ggX11_changeTrial_X6_holdPeak
set_option maxRecDepth 20000 in
theorem ggX11_changeTrial_X6_giveBoards : GoodIn wsX11_changeTrial wsX6_giveBoards := goodIn_r _ [27, 28, 59, 60, 61, 62, 63, 64, 65, 66, 67] (by decide +kernel) (by decide +kernel)
set_option maxRecDepth 20000 in
theorem gX11_changeTrial_X6_giveBoards : GoodIn wsX11_changeTrial (wsV RX11 411 RX6 yX6_giveBoards wsX6_giveBoards) := goodIn_app (goodIn_of _ (by decide +kernel)) ggX11_changeTrial_X6_giveBoards
set_option maxRecDepth 20000 in
theorem ggX11_changeTrial_X4_seatAll : GoodIn wsX11_changeTrial wsX4_seatAll := goodIn_r _ [32, 33, 48, 49, 50, 51, 52, 53, 54, 55, 56, 57, 58] (by decide +kernel) (by decide +kernel)
set_option maxRecDepth 20000 in
theorem gX11_changeTrial_X4_seatAll : GoodIn wsX11_changeTrial (wsV RX11 414 RX4 yX4_seatAll wsX4_seatAll) := goodIn_app (goodIn_of _ (by decide +kernel)) ggX11_changeTrial_X4_seatAll
theorem dX11_changeTrial_0 : decode cX11_changeTrial 0 = .ok (.iload_n 1, 1) := by decide +kernel
theorem dX11_changeTrial_1 : decode cX11_changeTrial 1 = .ok (.tableswitch 74 0 3 #[31, 41, 52, 62], 31) := by decide +kernel
theorem dX11_changeTrial_32 : decode cX11_changeTrial 32 = .ok (.aload_n 0, 1) := by decide +kernel
theorem dX11_changeTrial_33 : decode cX11_changeTrial 33 = .ok (.getfield 41, 3) := by decide +kernel
theorem dX11_changeTrial_36 : decode cX11_changeTrial 36 = .ok (.invokevirtual 402, 3) := by decide +kernel
theorem dX11_changeTrial_39 : decode cX11_changeTrial 39 = .ok (.goto 52, 3) := by decide +kernel
theorem dX11_changeTrial_42 : decode cX11_changeTrial 42 = .ok (.aload_n 0, 1) := by decide +kernel
theorem dX11_changeTrial_43 : decode cX11_changeTrial 43 = .ok (.getfield 51, 3) := by decide +kernel
theorem dX11_changeTrial_46 : decode cX11_changeTrial 46 = .ok (.iload_n 2, 1) := by decide +kernel
theorem dX11_changeTrial_47 : decode cX11_changeTrial 47 = .ok (.invokevirtual 405, 3) := by decide +kernel
theorem dX11_changeTrial_50 : decode cX11_changeTrial 50 = .ok (.goto 41, 3) := by decide +kernel
theorem dX11_changeTrial_53 : decode cX11_changeTrial 53 = .ok (.aload_n 0, 1) := by decide +kernel
theorem dX11_changeTrial_54 : decode cX11_changeTrial 54 = .ok (.getfield 41, 3) := by decide +kernel
theorem dX11_changeTrial_57 : decode cX11_changeTrial 57 = .ok (.invokevirtual 408, 3) := by decide +kernel
theorem dX11_changeTrial_60 : decode cX11_changeTrial 60 = .ok (.goto 31, 3) := by decide +kernel
theorem dX11_changeTrial_63 : decode cX11_changeTrial 63 = .ok (.aload_n 0, 1) := by decide +kernel
theorem dX11_changeTrial_64 : decode cX11_changeTrial 64 = .ok (.getfield 41, 3) := by decide +kernel
theorem dX11_changeTrial_67 : decode cX11_changeTrial 67 = .ok (.bipush 9, 2) := by decide +kernel
theorem dX11_changeTrial_69 : decode cX11_changeTrial 69 = .ok (.invokevirtual 411, 3) := by decide +kernel
theorem dX11_changeTrial_72 : decode cX11_changeTrial 72 = .ok (.goto 19, 3) := by decide +kernel
theorem dX11_changeTrial_75 : decode cX11_changeTrial 75 = .ok (.aload_n 0, 1) := by decide +kernel
theorem dX11_changeTrial_76 : decode cX11_changeTrial 76 = .ok (.getfield 51, 3) := by decide +kernel
theorem dX11_changeTrial_79 : decode cX11_changeTrial 79 = .ok (.aload_n 0, 1) := by decide +kernel
theorem dX11_changeTrial_80 : decode cX11_changeTrial 80 = .ok (.getfield 51, 3) := by decide +kernel
theorem dX11_changeTrial_83 : decode cX11_changeTrial 83 = .ok (.getfield 122, 3) := by decide +kernel
theorem dX11_changeTrial_86 : decode cX11_changeTrial 86 = .ok (.iload_n 2, 1) := by decide +kernel
theorem dX11_changeTrial_87 : decode cX11_changeTrial 87 = .ok (.iaload, 1) := by decide +kernel
theorem dX11_changeTrial_88 : decode cX11_changeTrial 88 = .ok (.invokevirtual 414, 3) := by decide +kernel
theorem dX11_changeTrial_91 : decode cX11_changeTrial 91 = .ok (.return_, 1) := by decide +kernel
set_option maxRecDepth 20000 in
theorem ggX12_init_X12_plain : GoodIn wsX12_init wsX12_plain := goodIn_r _ [56, 57, 58, 59, 60, 61, 62, 63, 64, 9, 10, 21, 87, 88, 89, 90, 91, 92, 93, 94, 95, 96, 97, 98, 99, 100, 101, 102, 103, 104, 105, 106, 107, 108, 109, 110, 111, 112, 113, 114, 115, 116, 117, 118, 119, 120, 121, 122, 123, 124, 125, 126, 127, 128, 129, 130, 131, 132, 133, 134, 135, 136, 137, 138, 139, 140, 141, 142, 143, 144, 145, 146, 147, 148, 149, 150, 151, 152, 153, 154, 155, 156, 157, 158, 159, 160, 161, 162, 163, 164, 165, 166, 167, 168, 169, 170, 171, 172, 173] (by decide +kernel) (by decide +kernel)
set_option maxRecDepth 20000 in
theorem gX12_init_X12_plain : GoodIn wsX12_init (wsV RX12 148 RX12 yX12_plain wsX12_plain) := goodIn_app (goodIn_of _ (by decide +kernel)) ggX12_init_X12_plain
set_option maxRecDepth 20000 in
theorem ggX12_init_X12_keepText : GoodIn wsX12_init wsX12_keepText := goodIn_r _ [68, 57, 69, 58, 70, 59, 71, 60, 72, 61, 73, 62, 74, 10, 11, 12, 13, 14, 15, 16, 17, 18, 19, 20, 21, 22, 23, 24, 25, 26, 75, 76, 55, 77, 78, 79, 80, 81, 32, 33, 34, 35, 36, 37, 38, 39, 40, 82, 83, 41, 84, 47, 85, 86, 87, 88, 89, 90, 91, 92, 93, 94, 95, 96, 97, 98, 99, 100, 101, 102, 103, 104, 105, 106, 107, 108, 109, 110, 111, 112, 113, 114, 115, 116, 117, 118, 119, 120, 121, 122, 123, 124, 125, 126, 127, 128, 129, 130, 131, 132, 133, 134, 135, 136, 137, 138, 139, 140, 141, 142, 143, 144, 145, 146, 147, 148, 149, 150, 151, 152, 153, 154, 155, 156, 157, 158, 159, 160, 161, 162, 163, 164, 165, 166, 167, 168, 169, 170, 171, 172, 173] (by decide +kernel) (by decide +kernel)
set_option maxRecDepth 20000 in
theorem gX12_init_X12_keepText : GoodIn wsX12_init (wsV RX12 151 RX12 yX12_keepText wsX12_keepText) := goodIn_app (goodIn_of _ (by decide +kernel)) ggX12_init_X12_keepText
theorem dX12_init_0 : decode cX12_init 0 = .ok (.aload_n 0, 1) := by decide +kernel
theorem dX12_init_1 : decode cX12_init 1 = .ok (.invokespecial 1, 3) := by decide +kernel
theorem dX12_init_4 : decode cX12_init 4 = .ok (.aload_n 0, 1) := by decide +kernel
theorem dX12_init_5 : decode cX12_init 5 = .ok (.sipush 700, 3) := by decide +kernel
theorem dX12_init_8 : decode cX12_init 8 = .ok (.newarray .int, 2) := by decide +kernel
theorem dX12_init_10 : decode cX12_init 10 = .ok (.putfield 7, 3) := by decide +kernel
theorem dX12_init_13 : decode cX12_init 13 = .ok (.aload_n 0, 1) := by decide +kernel
theorem dX12_init_14 : decode cX12_init 14 = .ok (.bipush 120, 2) := by decide +kernel
theorem dX12_init_16 : decode cX12_init 16 = .ok (.newarray .int, 2) := by decide +kernel
theorem dX12_init_18 : decode cX12_init 18 = .ok (.dup, 1) := by decide +kernel
theorem dX12_init_19 : decode cX12_init 19 = .ok (.iconst 0, 1) := by decide +kernel
theorem dX12_init_20 : decode cX12_init 20 = .ok (.bipush 115, 2) := by decide +kernel
theorem dX12_init_22 : decode cX12_init 22 = .ok (.iastore, 1) := by decide +kernel
theorem dX12_init_23 : decode cX12_init 23 = .ok (.dup, 1) := by decide +kernel
theorem dX12_init_24 : decode cX12_init 24 = .ok (.iconst 1, 1) := by decide +kernel
theorem dX12_init_25 : decode cX12_init 25 = .ok (.bipush 101, 2) := by decide +kernel
theorem dX12_init_27 : decode cX12_init 27 = .ok (.iastore, 1) := by decide +kernel
theorem dX12_init_28 : decode cX12_init 28 = .ok (.dup, 1) := by decide +kernel
theorem dX12_init_29 : decode cX12_init 29 = .ok (.iconst 2, 1) := by decide +kernel
theorem dX12_init_30 : decode cX12_init 30 = .ok (.bipush 97, 2) := by decide +kernel
theorem dX12_init_32 : decode cX12_init 32 = .ok (.iastore, 1) := by decide +kernel
theorem dX12_init_33 : decode cX12_init 33 = .ok (.dup, 1) := by decide +kernel
theorem dX12_init_34 : decode cX12_init 34 = .ok (.iconst 3, 1) := by decide +kernel
theorem dX12_init_35 : decode cX12_init 35 = .ok (.bipush 32, 2) := by decide +kernel
theorem dX12_init_37 : decode cX12_init 37 = .ok (.iastore, 1) := by decide +kernel
theorem dX12_init_38 : decode cX12_init 38 = .ok (.dup, 1) := by decide +kernel
theorem dX12_init_39 : decode cX12_init 39 = .ok (.iconst 4, 1) := by decide +kernel
theorem dX12_init_40 : decode cX12_init 40 = .ok (.bipush 112, 2) := by decide +kernel
theorem dX12_init_42 : decode cX12_init 42 = .ok (.iastore, 1) := by decide +kernel
theorem dX12_init_43 : decode cX12_init 43 = .ok (.dup, 1) := by decide +kernel
theorem dX12_init_44 : decode cX12_init 44 = .ok (.iconst 5, 1) := by decide +kernel
theorem dX12_init_45 : decode cX12_init 45 = .ok (.bipush 101, 2) := by decide +kernel
theorem dX12_init_47 : decode cX12_init 47 = .ok (.iastore, 1) := by decide +kernel
theorem dX12_init_48 : decode cX12_init 48 = .ok (.dup, 1) := by decide +kernel
theorem dX12_init_49 : decode cX12_init 49 = .ok (.bipush 6, 2) := by decide +kernel
theorem dX12_init_51 : decode cX12_init 51 = .ok (.bipush 97, 2) := by decide +kernel
theorem dX12_init_53 : decode cX12_init 53 = .ok (.iastore, 1) := by decide +kernel
theorem dX12_init_54 : decode cX12_init 54 = .ok (.dup, 1) := by decide +kernel
theorem dX12_init_55 : decode cX12_init 55 = .ok (.bipush 7, 2) := by decide +kernel
theorem dX12_init_57 : decode cX12_init 57 = .ok (.bipush 107, 2) := by decide +kernel
theorem dX12_init_59 : decode cX12_init 59 = .ok (.iastore, 1) := by decide +kernel
theorem dX12_init_60 : decode cX12_init 60 = .ok (.dup, 1) := by decide +kernel
theorem dX12_init_61 : decode cX12_init 61 = .ok (.bipush 8, 2) := by decide +kernel
theorem dX12_init_63 : decode cX12_init 63 = .ok (.bipush 32, 2) := by decide +kernel
theorem dX12_init_65 : decode cX12_init 65 = .ok (.iastore, 1) := by decide +kernel
theorem dX12_init_66 : decode cX12_init 66 = .ok (.dup, 1) := by decide +kernel
theorem dX12_init_67 : decode cX12_init 67 = .ok (.bipush 9, 2) := by decide +kernel
theorem dX12_init_69 : decode cX12_init 69 = .ok (.bipush 115, 2) := by decide +kernel
theorem dX12_init_71 : decode cX12_init 71 = .ok (.iastore, 1) := by decide +kernel
theorem dX12_init_72 : decode cX12_init 72 = .ok (.dup, 1) := by decide +kernel
theorem dX12_init_73 : decode cX12_init 73 = .ok (.bipush 10, 2) := by decide +kernel
theorem dX12_init_75 : decode cX12_init 75 = .ok (.bipush 117, 2) := by decide +kernel
theorem dX12_init_77 : decode cX12_init 77 = .ok (.iastore, 1) := by decide +kernel
theorem dX12_init_78 : decode cX12_init 78 = .ok (.dup, 1) := by decide +kernel
theorem dX12_init_79 : decode cX12_init 79 = .ok (.bipush 11, 2) := by decide +kernel
theorem dX12_init_81 : decode cX12_init 81 = .ok (.bipush 114, 2) := by decide +kernel
theorem dX12_init_83 : decode cX12_init 83 = .ok (.iastore, 1) := by decide +kernel
theorem dX12_init_84 : decode cX12_init 84 = .ok (.dup, 1) := by decide +kernel
theorem dX12_init_85 : decode cX12_init 85 = .ok (.bipush 12, 2) := by decide +kernel
theorem dX12_init_87 : decode cX12_init 87 = .ok (.bipush 102, 2) := by decide +kernel
theorem dX12_init_89 : decode cX12_init 89 = .ok (.iastore, 1) := by decide +kernel
theorem dX12_init_90 : decode cX12_init 90 = .ok (.dup, 1) := by decide +kernel
theorem dX12_init_91 : decode cX12_init 91 = .ok (.bipush 13, 2) := by decide +kernel
theorem dX12_init_93 : decode cX12_init 93 = .ok (.bipush 101, 2) := by decide +kernel
theorem dX12_init_95 : decode cX12_init 95 = .ok (.iastore, 1) := by decide +kernel
theorem dX12_init_96 : decode cX12_init 96 = .ok (.dup, 1) := by decide +kernel
theorem dX12_init_97 : decode cX12_init 97 = .ok (.bipush 14, 2) := by decide +kernel
theorem dX12_init_99 : decode cX12_init 99 = .ok (.bipush 114, 2) := by decide +kernel
theorem dX12_init_101 : decode cX12_init 101 = .ok (.iastore, 1) := by decide +kernel
theorem dX12_init_102 : decode cX12_init 102 = .ok (.dup, 1) := by decide +kernel
theorem dX12_init_103 : decode cX12_init 103 = .ok (.bipush 15, 2) := by decide +kernel
theorem dX12_init_105 : decode cX12_init 105 = .ok (.bipush 32, 2) := by decide +kernel
theorem dX12_init_107 : decode cX12_init 107 = .ok (.iastore, 1) := by decide +kernel
theorem dX12_init_108 : decode cX12_init 108 = .ok (.dup, 1) := by decide +kernel
theorem dX12_init_109 : decode cX12_init 109 = .ok (.bipush 16, 2) := by decide +kernel
theorem dX12_init_111 : decode cX12_init 111 = .ok (.bipush 115, 2) := by decide +kernel
theorem dX12_init_113 : decode cX12_init 113 = .ok (.iastore, 1) := by decide +kernel
theorem dX12_init_114 : decode cX12_init 114 = .ok (.dup, 1) := by decide +kernel
theorem dX12_init_115 : decode cX12_init 115 = .ok (.bipush 17, 2) := by decide +kernel
theorem dX12_init_117 : decode cX12_init 117 = .ok (.bipush 101, 2) := by decide +kernel
theorem dX12_init_119 : decode cX12_init 119 = .ok (.iastore, 1) := by decide +kernel
theorem dX12_init_120 : decode cX12_init 120 = .ok (.dup, 1) := by decide +kernel
theorem dX12_init_121 : decode cX12_init 121 = .ok (.bipush 18, 2) := by decide +kernel
theorem dX12_init_123 : decode cX12_init 123 = .ok (.bipush 116, 2) := by decide +kernel
theorem dX12_init_125 : decode cX12_init 125 = .ok (.iastore, 1) := by decide +kernel
theorem dX12_init_126 : decode cX12_init 126 = .ok (.dup, 1) := by decide +kernel
theorem dX12_init_127 : decode cX12_init 127 = .ok (.bipush 19, 2) := by decide +kernel
theorem dX12_init_129 : decode cX12_init 129 = .ok (.bipush 32, 2) := by decide +kernel
theorem dX12_init_131 : decode cX12_init 131 = .ok (.iastore, 1) := by decide +kernel
theorem dX12_init_132 : decode cX12_init 132 = .ok (.dup, 1) := by decide +kernel
theorem dX12_init_133 : decode cX12_init 133 = .ok (.bipush 20, 2) := by decide +kernel
theorem dX12_init_135 : decode cX12_init 135 = .ok (.bipush 98, 2) := by decide +kernel
theorem dX12_init_137 : decode cX12_init 137 = .ok (.iastore, 1) := by decide +kernel
theorem dX12_init_138 : decode cX12_init 138 = .ok (.dup, 1) := by decide +kernel
theorem dX12_init_139 : decode cX12_init 139 = .ok (.bipush 21, 2) := by decide +kernel
theorem dX12_init_141 : decode cX12_init 141 = .ok (.bipush 97, 2) := by decide +kernel
theorem dX12_init_143 : decode cX12_init 143 = .ok (.iastore, 1) := by decide +kernel
theorem dX12_init_144 : decode cX12_init 144 = .ok (.dup, 1) := by decide +kernel
theorem dX12_init_145 : decode cX12_init 145 = .ok (.bipush 22, 2) := by decide +kernel
theorem dX12_init_147 : decode cX12_init 147 = .ok (.bipush 110, 2) := by decide +kernel
theorem dX12_init_149 : decode cX12_init 149 = .ok (.iastore, 1) := by decide +kernel
theorem dX12_init_150 : decode cX12_init 150 = .ok (.dup, 1) := by decide +kernel
theorem dX12_init_151 : decode cX12_init 151 = .ok (.bipush 23, 2) := by decide +kernel
theorem dX12_init_153 : decode cX12_init 153 = .ok (.bipush 107, 2) := by decide +kernel
theorem dX12_init_155 : decode cX12_init 155 = .ok (.iastore, 1) := by decide +kernel
theorem dX12_init_156 : decode cX12_init 156 = .ok (.dup, 1) := by decide +kernel
theorem dX12_init_157 : decode cX12_init 157 = .ok (.bipush 24, 2) := by decide +kernel
theorem dX12_init_159 : decode cX12_init 159 = .ok (.bipush 32, 2) := by decide +kernel
theorem dX12_init_161 : decode cX12_init 161 = .ok (.iastore, 1) := by decide +kernel
theorem dX12_init_162 : decode cX12_init 162 = .ok (.dup, 1) := by decide +kernel
theorem dX12_init_163 : decode cX12_init 163 = .ok (.bipush 25, 2) := by decide +kernel
theorem dX12_init_165 : decode cX12_init 165 = .ok (.bipush 114, 2) := by decide +kernel
theorem dX12_init_167 : decode cX12_init 167 = .ok (.iastore, 1) := by decide +kernel
theorem dX12_init_168 : decode cX12_init 168 = .ok (.dup, 1) := by decide +kernel
theorem dX12_init_169 : decode cX12_init 169 = .ok (.bipush 26, 2) := by decide +kernel
theorem dX12_init_171 : decode cX12_init 171 = .ok (.bipush 117, 2) := by decide +kernel
theorem dX12_init_173 : decode cX12_init 173 = .ok (.iastore, 1) := by decide +kernel
theorem dX12_init_174 : decode cX12_init 174 = .ok (.dup, 1) := by decide +kernel
theorem dX12_init_175 : decode cX12_init 175 = .ok (.bipush 27, 2) := by decide +kernel
theorem dX12_init_177 : decode cX12_init 177 = .ok (.bipush 108, 2) := by decide +kernel
theorem dX12_init_179 : decode cX12_init 179 = .ok (.iastore, 1) := by decide +kernel
theorem dX12_init_180 : decode cX12_init 180 = .ok (.dup, 1) := by decide +kernel
theorem dX12_init_181 : decode cX12_init 181 = .ok (.bipush 28, 2) := by decide +kernel
theorem dX12_init_183 : decode cX12_init 183 = .ok (.bipush 101, 2) := by decide +kernel
theorem dX12_init_185 : decode cX12_init 185 = .ok (.iastore, 1) := by decide +kernel
theorem dX12_init_186 : decode cX12_init 186 = .ok (.dup, 1) := by decide +kernel
theorem dX12_init_187 : decode cX12_init 187 = .ok (.bipush 29, 2) := by decide +kernel
theorem dX12_init_189 : decode cX12_init 189 = .ok (.bipush 32, 2) := by decide +kernel
theorem dX12_init_191 : decode cX12_init 191 = .ok (.iastore, 1) := by decide +kernel
theorem dX12_init_192 : decode cX12_init 192 = .ok (.dup, 1) := by decide +kernel
theorem dX12_init_193 : decode cX12_init 193 = .ok (.bipush 30, 2) := by decide +kernel
theorem dX12_init_195 : decode cX12_init 195 = .ok (.bipush 115, 2) := by decide +kernel
theorem dX12_init_197 : decode cX12_init 197 = .ok (.iastore, 1) := by decide +kernel
theorem dX12_init_198 : decode cX12_init 198 = .ok (.dup, 1) := by decide +kernel
theorem dX12_init_199 : decode cX12_init 199 = .ok (.bipush 31, 2) := by decide +kernel
theorem dX12_init_201 : decode cX12_init 201 = .ok (.bipush 101, 2) := by decide +kernel
theorem dX12_init_203 : decode cX12_init 203 = .ok (.iastore, 1) := by decide +kernel
theorem dX12_init_204 : decode cX12_init 204 = .ok (.dup, 1) := by decide +kernel
theorem dX12_init_205 : decode cX12_init 205 = .ok (.bipush 32, 2) := by decide +kernel
theorem dX12_init_207 : decode cX12_init 207 = .ok (.bipush 101, 2) := by decide +kernel
theorem dX12_init_209 : decode cX12_init 209 = .ok (.iastore, 1) := by decide +kernel
theorem dX12_init_210 : decode cX12_init 210 = .ok (.dup, 1) := by decide +kernel
theorem dX12_init_211 : decode cX12_init 211 = .ok (.bipush 33, 2) := by decide +kernel
theorem dX12_init_213 : decode cX12_init 213 = .ok (.bipush 100, 2) := by decide +kernel
theorem dX12_init_215 : decode cX12_init 215 = .ok (.iastore, 1) := by decide +kernel
theorem dX12_init_216 : decode cX12_init 216 = .ok (.dup, 1) := by decide +kernel
theorem dX12_init_217 : decode cX12_init 217 = .ok (.bipush 34, 2) := by decide +kernel
theorem dX12_init_219 : decode cX12_init 219 = .ok (.bipush 32, 2) := by decide +kernel
theorem dX12_init_221 : decode cX12_init 221 = .ok (.iastore, 1) := by decide +kernel
theorem dX12_init_222 : decode cX12_init 222 = .ok (.dup, 1) := by decide +kernel
theorem dX12_init_223 : decode cX12_init 223 = .ok (.bipush 35, 2) := by decide +kernel
theorem dX12_init_225 : decode cX12_init 225 = .ok (.bipush 108, 2) := by decide +kernel
theorem dX12_init_227 : decode cX12_init 227 = .ok (.iastore, 1) := by decide +kernel
theorem dX12_init_228 : decode cX12_init 228 = .ok (.dup, 1) := by decide +kernel
theorem dX12_init_229 : decode cX12_init 229 = .ok (.bipush 36, 2) := by decide +kernel
theorem dX12_init_231 : decode cX12_init 231 = .ok (.bipush 97, 2) := by decide +kernel
theorem dX12_init_233 : decode cX12_init 233 = .ok (.iastore, 1) := by decide +kernel
theorem dX12_init_234 : decode cX12_init 234 = .ok (.dup, 1) := by decide +kernel
theorem dX12_init_235 : decode cX12_init 235 = .ok (.bipush 37, 2) := by decide +kernel
theorem dX12_init_237 : decode cX12_init 237 = .ok (.bipush 119, 2) := by decide +kernel
theorem dX12_init_239 : decode cX12_init 239 = .ok (.iastore, 1) := by decide +kernel
theorem dX12_init_240 : decode cX12_init 240 = .ok (.dup, 1) := by decide +kernel
theorem dX12_init_241 : decode cX12_init 241 = .ok (.bipush 38, 2) := by decide +kernel
theorem dX12_init_243 : decode cX12_init 243 = .ok (.bipush 32, 2) := by decide +kernel
theorem dX12_init_245 : decode cX12_init 245 = .ok (.iastore, 1) := by decide +kernel
theorem dX12_init_246 : decode cX12_init 246 = .ok (.dup, 1) := by decide +kernel
theorem dX12_init_247 : decode cX12_init 247 = .ok (.bipush 39, 2) := by decide +kernel
theorem dX12_init_249 : decode cX12_init 249 = .ok (.bipush 100, 2) := by decide +kernel
theorem dX12_init_251 : decode cX12_init 251 = .ok (.iastore, 1) := by decide +kernel
theorem dX12_init_252 : decode cX12_init 252 = .ok (.dup, 1) := by decide +kernel
theorem dX12_init_253 : decode cX12_init 253 = .ok (.bipush 40, 2) := by decide +kernel
theorem dX12_init_255 : decode cX12_init 255 = .ok (.bipush 101, 2) := by decide +kernel
theorem dX12_init_257 : decode cX12_init 257 = .ok (.iastore, 1) := by decide +kernel
theorem dX12_init_258 : decode cX12_init 258 = .ok (.dup, 1) := by decide +kernel
theorem dX12_init_259 : decode cX12_init 259 = .ok (.bipush 41, 2) := by decide +kernel
theorem dX12_init_261 : decode cX12_init 261 = .ok (.bipush 101, 2) := by decide +kernel
theorem dX12_init_263 : decode cX12_init 263 = .ok (.iastore, 1) := by decide +kernel
theorem dX12_init_264 : decode cX12_init 264 = .ok (.dup, 1) := by decide +kernel
theorem dX12_init_265 : decode cX12_init 265 = .ok (.bipush 42, 2) := by decide +kernel
theorem dX12_init_267 : decode cX12_init 267 = .ok (.bipush 112, 2) := by decide +kernel
theorem dX12_init_269 : decode cX12_init 269 = .ok (.iastore, 1) := by decide +kernel
theorem dX12_init_270 : decode cX12_init 270 = .ok (.dup, 1) := by decide +kernel
theorem dX12_init_271 : decode cX12_init 271 = .ok (.bipush 43, 2) := by decide +kernel
theorem dX12_init_273 : decode cX12_init 273 = .ok (.bipush 32, 2) := by decide +kernel
theorem dX12_init_275 : decode cX12_init 275 = .ok (.iastore, 1) := by decide +kernel
theorem dX12_init_276 : decode cX12_init 276 = .ok (.dup, 1) := by decide +kernel
theorem dX12_init_277 : decode cX12_init 277 = .ok (.bipush 44, 2) := by decide +kernel
theorem dX12_init_279 : decode cX12_init 279 = .ok (.bipush 116, 2) := by decide +kernel
theorem dX12_init_281 : decode cX12_init 281 = .ok (.iastore, 1) := by decide +kernel
theorem dX12_init_282 : decode cX12_init 282 = .ok (.dup, 1) := by decide +kernel
theorem dX12_init_283 : decode cX12_init 283 = .ok (.bipush 45, 2) := by decide +kernel
theorem dX12_init_285 : decode cX12_init 285 = .ok (.bipush 117, 2) := by decide +kernel
theorem dX12_init_287 : decode cX12_init 287 = .ok (.iastore, 1) := by decide +kernel
theorem dX12_init_288 : decode cX12_init 288 = .ok (.dup, 1) := by decide +kernel
theorem dX12_init_289 : decode cX12_init 289 = .ok (.bipush 46, 2) := by decide +kernel
theorem dX12_init_291 : decode cX12_init 291 = .ok (.bipush 114, 2) := by decide +kernel
theorem dX12_init_293 : decode cX12_init 293 = .ok (.iastore, 1) := by decide +kernel
theorem dX12_init_294 : decode cX12_init 294 = .ok (.dup, 1) := by decide +kernel
theorem dX12_init_295 : decode cX12_init 295 = .ok (.bipush 47, 2) := by decide +kernel
theorem dX12_init_297 : decode cX12_init 297 = .ok (.bipush 110, 2) := by decide +kernel
theorem dX12_init_299 : decode cX12_init 299 = .ok (.iastore, 1) := by decide +kernel
theorem dX12_init_300 : decode cX12_init 300 = .ok (.dup, 1) := by decide +kernel
theorem dX12_init_301 : decode cX12_init 301 = .ok (.bipush 48, 2) := by decide +kernel
theorem dX12_init_303 : decode cX12_init 303 = .ok (.bipush 115, 2) := by decide +kernel
theorem dX12_init_305 : decode cX12_init 305 = .ok (.iastore, 1) := by decide +kernel
theorem dX12_init_306 : decode cX12_init 306 = .ok (.dup, 1) := by decide +kernel
theorem dX12_init_307 : decode cX12_init 307 = .ok (.bipush 49, 2) := by decide +kernel
theorem dX12_init_309 : decode cX12_init 309 = .ok (.bipush 32, 2) := by decide +kernel
theorem dX12_init_311 : decode cX12_init 311 = .ok (.iastore, 1) := by decide +kernel
theorem dX12_init_312 : decode cX12_init 312 = .ok (.dup, 1) := by decide +kernel
theorem dX12_init_313 : decode cX12_init 313 = .ok (.bipush 50, 2) := by decide +kernel
theorem dX12_init_315 : decode cX12_init 315 = .ok (.bipush 101, 2) := by decide +kernel
theorem dX12_init_317 : decode cX12_init 317 = .ok (.iastore, 1) := by decide +kernel
theorem dX12_init_318 : decode cX12_init 318 = .ok (.dup, 1) := by decide +kernel
theorem dX12_init_319 : decode cX12_init 319 = .ok (.bipush 51, 2) := by decide +kernel
theorem dX12_init_321 : decode cX12_init 321 = .ok (.bipush 97, 2) := by decide +kernel
theorem dX12_init_323 : decode cX12_init 323 = .ok (.iastore, 1) := by decide +kernel
theorem dX12_init_324 : decode cX12_init 324 = .ok (.dup, 1) := by decide +kernel
theorem dX12_init_325 : decode cX12_init 325 = .ok (.bipush 52, 2) := by decide +kernel
theorem dX12_init_327 : decode cX12_init 327 = .ok (.bipush 99, 2) := by decide +kernel
theorem dX12_init_329 : decode cX12_init 329 = .ok (.iastore, 1) := by decide +kernel
theorem dX12_init_330 : decode cX12_init 330 = .ok (.dup, 1) := by decide +kernel
theorem dX12_init_331 : decode cX12_init 331 = .ok (.bipush 53, 2) := by decide +kernel
theorem dX12_init_333 : decode cX12_init 333 = .ok (.bipush 104, 2) := by decide +kernel
theorem dX12_init_335 : decode cX12_init 335 = .ok (.iastore, 1) := by decide +kernel
theorem dX12_init_336 : decode cX12_init 336 = .ok (.dup, 1) := by decide +kernel
theorem dX12_init_337 : decode cX12_init 337 = .ok (.bipush 54, 2) := by decide +kernel
theorem dX12_init_339 : decode cX12_init 339 = .ok (.bipush 32, 2) := by decide +kernel
theorem dX12_init_341 : decode cX12_init 341 = .ok (.iastore, 1) := by decide +kernel
theorem dX12_init_342 : decode cX12_init 342 = .ok (.dup, 1) := by decide +kernel
theorem dX12_init_343 : decode cX12_init 343 = .ok (.bipush 55, 2) := by decide +kernel
theorem dX12_init_345 : decode cX12_init 345 = .ok (.bipush 111, 2) := by decide +kernel
theorem dX12_init_347 : decode cX12_init 347 = .ok (.iastore, 1) := by decide +kernel
theorem dX12_init_348 : decode cX12_init 348 = .ok (.dup, 1) := by decide +kernel
theorem dX12_init_349 : decode cX12_init 349 = .ok (.bipush 56, 2) := by decide +kernel
theorem dX12_init_351 : decode cX12_init 351 = .ok (.bipush 117, 2) := by decide +kernel
theorem dX12_init_353 : decode cX12_init 353 = .ok (.iastore, 1) := by decide +kernel
theorem dX12_init_354 : decode cX12_init 354 = .ok (.dup, 1) := by decide +kernel
theorem dX12_init_355 : decode cX12_init 355 = .ok (.bipush 57, 2) := by decide +kernel
theorem dX12_init_357 : decode cX12_init 357 = .ok (.bipush 116, 2) := by decide +kernel
theorem dX12_init_359 : decode cX12_init 359 = .ok (.iastore, 1) := by decide +kernel
theorem dX12_init_360 : decode cX12_init 360 = .ok (.dup, 1) := by decide +kernel
theorem dX12_init_361 : decode cX12_init 361 = .ok (.bipush 58, 2) := by decide +kernel
theorem dX12_init_363 : decode cX12_init 363 = .ok (.bipush 32, 2) := by decide +kernel
theorem dX12_init_365 : decode cX12_init 365 = .ok (.iastore, 1) := by decide +kernel
theorem dX12_init_366 : decode cX12_init 366 = .ok (.dup, 1) := by decide +kernel
theorem dX12_init_367 : decode cX12_init 367 = .ok (.bipush 59, 2) := by decide +kernel
theorem dX12_init_369 : decode cX12_init 369 = .ok (.bipush 99, 2) := by decide +kernel
theorem dX12_init_371 : decode cX12_init 371 = .ok (.iastore, 1) := by decide +kernel
theorem dX12_init_372 : decode cX12_init 372 = .ok (.dup, 1) := by decide +kernel
theorem dX12_init_373 : decode cX12_init 373 = .ok (.bipush 60, 2) := by decide +kernel
theorem dX12_init_375 : decode cX12_init 375 = .ok (.bipush 97, 2) := by decide +kernel
theorem dX12_init_377 : decode cX12_init 377 = .ok (.iastore, 1) := by decide +kernel
theorem dX12_init_378 : decode cX12_init 378 = .ok (.dup, 1) := by decide +kernel
theorem dX12_init_379 : decode cX12_init 379 = .ok (.bipush 61, 2) := by decide +kernel
theorem dX12_init_381 : decode cX12_init 381 = .ok (.bipush 116, 2) := by decide +kernel
theorem dX12_init_383 : decode cX12_init 383 = .ok (.iastore, 1) := by decide +kernel
theorem dX12_init_384 : decode cX12_init 384 = .ok (.dup, 1) := by decide +kernel
theorem dX12_init_385 : decode cX12_init 385 = .ok (.bipush 62, 2) := by decide +kernel
theorem dX12_init_387 : decode cX12_init 387 = .ok (.bipush 99, 2) := by decide +kernel
theorem dX12_init_389 : decode cX12_init 389 = .ok (.iastore, 1) := by decide +kernel
theorem dX12_init_390 : decode cX12_init 390 = .ok (.dup, 1) := by decide +kernel
theorem dX12_init_391 : decode cX12_init 391 = .ok (.bipush 63, 2) := by decide +kernel
theorem dX12_init_393 : decode cX12_init 393 = .ok (.bipush 104, 2) := by decide +kernel
theorem dX12_init_395 : decode cX12_init 395 = .ok (.iastore, 1) := by decide +kernel
theorem dX12_init_396 : decode cX12_init 396 = .ok (.dup, 1) := by decide +kernel
theorem dX12_init_397 : decode cX12_init 397 = .ok (.bipush 64, 2) := by decide +kernel
theorem dX12_init_399 : decode cX12_init 399 = .ok (.bipush 32, 2) := by decide +kernel
theorem dX12_init_401 : decode cX12_init 401 = .ok (.iastore, 1) := by decide +kernel
theorem dX12_init_402 : decode cX12_init 402 = .ok (.dup, 1) := by decide +kernel
theorem dX12_init_403 : decode cX12_init 403 = .ok (.bipush 65, 2) := by decide +kernel
theorem dX12_init_405 : decode cX12_init 405 = .ok (.bipush 100, 2) := by decide +kernel
theorem dX12_init_407 : decode cX12_init 407 = .ok (.iastore, 1) := by decide +kernel
theorem dX12_init_408 : decode cX12_init 408 = .ok (.dup, 1) := by decide +kernel
theorem dX12_init_409 : decode cX12_init 409 = .ok (.bipush 66, 2) := by decide +kernel
theorem dX12_init_411 : decode cX12_init 411 = .ok (.bipush 114, 2) := by decide +kernel
theorem dX12_init_413 : decode cX12_init 413 = .ok (.iastore, 1) := by decide +kernel
theorem dX12_init_414 : decode cX12_init 414 = .ok (.dup, 1) := by decide +kernel
theorem dX12_init_415 : decode cX12_init 415 = .ok (.bipush 67, 2) := by decide +kernel
theorem dX12_init_417 : decode cX12_init 417 = .ok (.bipush 105, 2) := by decide +kernel
theorem dX12_init_419 : decode cX12_init 419 = .ok (.iastore, 1) := by decide +kernel
theorem dX12_init_420 : decode cX12_init 420 = .ok (.dup, 1) := by decide +kernel
theorem dX12_init_421 : decode cX12_init 421 = .ok (.bipush 68, 2) := by decide +kernel
theorem dX12_init_423 : decode cX12_init 423 = .ok (.bipush 102, 2) := by decide +kernel
theorem dX12_init_425 : decode cX12_init 425 = .ok (.iastore, 1) := by decide +kernel
theorem dX12_init_426 : decode cX12_init 426 = .ok (.dup, 1) := by decide +kernel
theorem dX12_init_427 : decode cX12_init 427 = .ok (.bipush 69, 2) := by decide +kernel
theorem dX12_init_429 : decode cX12_init 429 = .ok (.bipush 116, 2) := by decide +kernel
theorem dX12_init_431 : decode cX12_init 431 = .ok (.iastore, 1) := by decide +kernel
theorem dX12_init_432 : decode cX12_init 432 = .ok (.dup, 1) := by decide +kernel
theorem dX12_init_433 : decode cX12_init 433 = .ok (.bipush 70, 2) := by decide +kernel
theorem dX12_init_435 : decode cX12_init 435 = .ok (.bipush 32, 2) := by decide +kernel
theorem dX12_init_437 : decode cX12_init 437 = .ok (.iastore, 1) := by decide +kernel
theorem dX12_init_438 : decode cX12_init 438 = .ok (.dup, 1) := by decide +kernel
theorem dX12_init_439 : decode cX12_init 439 = .ok (.bipush 71, 2) := by decide +kernel
theorem dX12_init_441 : decode cX12_init 441 = .ok (.bipush 97, 2) := by decide +kernel
theorem dX12_init_443 : decode cX12_init 443 = .ok (.iastore, 1) := by decide +kernel
theorem dX12_init_444 : decode cX12_init 444 = .ok (.dup, 1) := by decide +kernel
theorem dX12_init_445 : decode cX12_init 445 = .ok (.bipush 72, 2) := by decide +kernel
theorem dX12_init_447 : decode cX12_init 447 = .ok (.bipush 119, 2) := by decide +kernel
theorem dX12_init_449 : decode cX12_init 449 = .ok (.iastore, 1) := by decide +kernel
theorem dX12_init_450 : decode cX12_init 450 = .ok (.dup, 1) := by decide +kernel
theorem dX12_init_451 : decode cX12_init 451 = .ok (.bipush 73, 2) := by decide +kernel
theorem dX12_init_453 : decode cX12_init 453 = .ok (.bipush 97, 2) := by decide +kernel
theorem dX12_init_455 : decode cX12_init 455 = .ok (.iastore, 1) := by decide +kernel
theorem dX12_init_456 : decode cX12_init 456 = .ok (.dup, 1) := by decide +kernel
theorem dX12_init_457 : decode cX12_init 457 = .ok (.bipush 74, 2) := by decide +kernel
theorem dX12_init_459 : decode cX12_init 459 = .ok (.bipush 121, 2) := by decide +kernel
theorem dX12_init_461 : decode cX12_init 461 = .ok (.iastore, 1) := by decide +kernel
theorem dX12_init_462 : decode cX12_init 462 = .ok (.dup, 1) := by decide +kernel
theorem dX12_init_463 : decode cX12_init 463 = .ok (.bipush 75, 2) := by decide +kernel
theorem dX12_init_465 : decode cX12_init 465 = .ok (.bipush 32, 2) := by decide +kernel
theorem dX12_init_467 : decode cX12_init 467 = .ok (.iastore, 1) := by decide +kernel
theorem dX12_init_468 : decode cX12_init 468 = .ok (.dup, 1) := by decide +kernel
theorem dX12_init_469 : decode cX12_init 469 = .ok (.bipush 76, 2) := by decide +kernel
theorem dX12_init_471 : decode cX12_init 471 = .ok (.bipush 97, 2) := by decide +kernel
theorem dX12_init_473 : decode cX12_init 473 = .ok (.iastore, 1) := by decide +kernel
theorem dX12_init_474 : decode cX12_init 474 = .ok (.dup, 1) := by decide +kernel
theorem dX12_init_475 : decode cX12_init 475 = .ok (.bipush 77, 2) := by decide +kernel
theorem dX12_init_477 : decode cX12_init 477 = .ok (.bipush 110, 2) := by decide +kernel
theorem dX12_init_479 : decode cX12_init 479 = .ok (.iastore, 1) := by decide +kernel
theorem dX12_init_480 : decode cX12_init 480 = .ok (.dup, 1) := by decide +kernel
theorem dX12_init_481 : decode cX12_init 481 = .ok (.bipush 78, 2) := by decide +kernel
theorem dX12_init_483 : decode cX12_init 483 = .ok (.bipush 100, 2) := by decide +kernel
theorem dX12_init_485 : decode cX12_init 485 = .ok (.iastore, 1) := by decide +kernel
theorem dX12_init_486 : decode cX12_init 486 = .ok (.dup, 1) := by decide +kernel
theorem dX12_init_487 : decode cX12_init 487 = .ok (.bipush 79, 2) := by decide +kernel
theorem dX12_init_489 : decode cX12_init 489 = .ok (.bipush 32, 2) := by decide +kernel
theorem dX12_init_491 : decode cX12_init 491 = .ok (.iastore, 1) := by decide +kernel
theorem dX12_init_492 : decode cX12_init 492 = .ok (.dup, 1) := by decide +kernel
theorem dX12_init_493 : decode cX12_init 493 = .ok (.bipush 80, 2) := by decide +kernel
theorem dX12_init_495 : decode cX12_init 495 = .ok (.bipush 111, 2) := by decide +kernel
theorem dX12_init_497 : decode cX12_init 497 = .ok (.iastore, 1) := by decide +kernel
theorem dX12_init_498 : decode cX12_init 498 = .ok (.dup, 1) := by decide +kernel
theorem dX12_init_499 : decode cX12_init 499 = .ok (.bipush 81, 2) := by decide +kernel
theorem dX12_init_501 : decode cX12_init 501 = .ok (.bipush 114, 2) := by decide +kernel
theorem dX12_init_503 : decode cX12_init 503 = .ok (.iastore, 1) := by decide +kernel
theorem dX12_init_504 : decode cX12_init 504 = .ok (.dup, 1) := by decide +kernel
theorem dX12_init_505 : decode cX12_init 505 = .ok (.bipush 82, 2) := by decide +kernel
theorem dX12_init_507 : decode cX12_init 507 = .ok (.bipush 32, 2) := by decide +kernel
theorem dX12_init_509 : decode cX12_init 509 = .ok (.iastore, 1) := by decide +kernel
theorem dX12_init_510 : decode cX12_init 510 = .ok (.dup, 1) := by decide +kernel
theorem dX12_init_511 : decode cX12_init 511 = .ok (.bipush 83, 2) := by decide +kernel
theorem dX12_init_513 : decode cX12_init 513 = .ok (.bipush 110, 2) := by decide +kernel
theorem dX12_init_515 : decode cX12_init 515 = .ok (.iastore, 1) := by decide +kernel
theorem dX12_init_516 : decode cX12_init 516 = .ok (.dup, 1) := by decide +kernel
theorem dX12_init_517 : decode cX12_init 517 = .ok (.bipush 84, 2) := by decide +kernel
theorem dX12_init_519 : decode cX12_init 519 = .ok (.bipush 111, 2) := by decide +kernel
theorem dX12_init_521 : decode cX12_init 521 = .ok (.iastore, 1) := by decide +kernel
theorem dX12_init_522 : decode cX12_init 522 = .ok (.dup, 1) := by decide +kernel
theorem dX12_init_523 : decode cX12_init 523 = .ok (.bipush 85, 2) := by decide +kernel
theorem dX12_init_525 : decode cX12_init 525 = .ok (.bipush 116, 2) := by decide +kernel
theorem dX12_init_527 : decode cX12_init 527 = .ok (.iastore, 1) := by decide +kernel
theorem dX12_init_528 : decode cX12_init 528 = .ok (.dup, 1) := by decide +kernel
theorem dX12_init_529 : decode cX12_init 529 = .ok (.bipush 86, 2) := by decide +kernel
theorem dX12_init_531 : decode cX12_init 531 = .ok (.bipush 32, 2) := by decide +kernel
theorem dX12_init_533 : decode cX12_init 533 = .ok (.iastore, 1) := by decide +kernel
theorem dX12_init_534 : decode cX12_init 534 = .ok (.dup, 1) := by decide +kernel
theorem dX12_init_535 : decode cX12_init 535 = .ok (.bipush 87, 2) := by decide +kernel
theorem dX12_init_537 : decode cX12_init 537 = .ok (.bipush 102, 2) := by decide +kernel
theorem dX12_init_539 : decode cX12_init 539 = .ok (.iastore, 1) := by decide +kernel
theorem dX12_init_540 : decode cX12_init 540 = .ok (.dup, 1) := by decide +kernel
theorem dX12_init_541 : decode cX12_init 541 = .ok (.bipush 88, 2) := by decide +kernel
theorem dX12_init_543 : decode cX12_init 543 = .ok (.bipush 97, 2) := by decide +kernel
theorem dX12_init_545 : decode cX12_init 545 = .ok (.iastore, 1) := by decide +kernel
theorem dX12_init_546 : decode cX12_init 546 = .ok (.dup, 1) := by decide +kernel
theorem dX12_init_547 : decode cX12_init 547 = .ok (.bipush 89, 2) := by decide +kernel
theorem dX12_init_549 : decode cX12_init 549 = .ok (.bipush 114, 2) := by decide +kernel
theorem dX12_init_551 : decode cX12_init 551 = .ok (.iastore, 1) := by decide +kernel
theorem dX12_init_552 : decode cX12_init 552 = .ok (.dup, 1) := by decide +kernel
theorem dX12_init_553 : decode cX12_init 553 = .ok (.bipush 90, 2) := by decide +kernel
theorem dX12_init_555 : decode cX12_init 555 = .ok (.bipush 32, 2) := by decide +kernel
theorem dX12_init_557 : decode cX12_init 557 = .ok (.iastore, 1) := by decide +kernel
theorem dX12_init_558 : decode cX12_init 558 = .ok (.dup, 1) := by decide +kernel
theorem dX12_init_559 : decode cX12_init 559 = .ok (.bipush 91, 2) := by decide +kernel
theorem dX12_init_561 : decode cX12_init 561 = .ok (.bipush 115, 2) := by decide +kernel
theorem dX12_init_563 : decode cX12_init 563 = .ok (.iastore, 1) := by decide +kernel
theorem dX12_init_564 : decode cX12_init 564 = .ok (.dup, 1) := by decide +kernel
theorem dX12_init_565 : decode cX12_init 565 = .ok (.bipush 92, 2) := by decide +kernel
theorem dX12_init_567 : decode cX12_init 567 = .ok (.bipush 105, 2) := by decide +kernel
theorem dX12_init_569 : decode cX12_init 569 = .ok (.iastore, 1) := by decide +kernel
theorem dX12_init_570 : decode cX12_init 570 = .ok (.dup, 1) := by decide +kernel
theorem dX12_init_571 : decode cX12_init 571 = .ok (.bipush 93, 2) := by decide +kernel
theorem dX12_init_573 : decode cX12_init 573 = .ok (.bipush 100, 2) := by decide +kernel
theorem dX12_init_575 : decode cX12_init 575 = .ok (.iastore, 1) := by decide +kernel
theorem dX12_init_576 : decode cX12_init 576 = .ok (.dup, 1) := by decide +kernel
theorem dX12_init_577 : decode cX12_init 577 = .ok (.bipush 94, 2) := by decide +kernel
theorem dX12_init_579 : decode cX12_init 579 = .ok (.bipush 101, 2) := by decide +kernel
theorem dX12_init_581 : decode cX12_init 581 = .ok (.iastore, 1) := by decide +kernel
theorem dX12_init_582 : decode cX12_init 582 = .ok (.dup, 1) := by decide +kernel
theorem dX12_init_583 : decode cX12_init 583 = .ok (.bipush 95, 2) := by decide +kernel
theorem dX12_init_585 : decode cX12_init 585 = .ok (.bipush 32, 2) := by decide +kernel
theorem dX12_init_587 : decode cX12_init 587 = .ok (.iastore, 1) := by decide +kernel
theorem dX12_init_588 : decode cX12_init 588 = .ok (.dup, 1) := by decide +kernel
theorem dX12_init_589 : decode cX12_init 589 = .ok (.bipush 96, 2) := by decide +kernel
theorem dX12_init_591 : decode cX12_init 591 = .ok (.bipush 98, 2) := by decide +kernel
theorem dX12_init_593 : decode cX12_init 593 = .ok (.iastore, 1) := by decide +kernel
theorem dX12_init_594 : decode cX12_init 594 = .ok (.dup, 1) := by decide +kernel
theorem dX12_init_595 : decode cX12_init 595 = .ok (.bipush 97, 2) := by decide +kernel
theorem dX12_init_597 : decode cX12_init 597 = .ok (.bipush 111, 2) := by decide +kernel
theorem dX12_init_599 : decode cX12_init 599 = .ok (.iastore, 1) := by decide +kernel
theorem dX12_init_600 : decode cX12_init 600 = .ok (.dup, 1) := by decide +kernel
theorem dX12_init_601 : decode cX12_init 601 = .ok (.bipush 98, 2) := by decide +kernel
theorem dX12_init_603 : decode cX12_init 603 = .ok (.bipush 97, 2) := by decide +kernel
theorem dX12_init_605 : decode cX12_init 605 = .ok (.iastore, 1) := by decide +kernel
theorem dX12_init_606 : decode cX12_init 606 = .ok (.dup, 1) := by decide +kernel
theorem dX12_init_607 : decode cX12_init 607 = .ok (.bipush 99, 2) := by decide +kernel
theorem dX12_init_609 : decode cX12_init 609 = .ok (.bipush 114, 2) := by decide +kernel
theorem dX12_init_611 : decode cX12_init 611 = .ok (.iastore, 1) := by decide +kernel
theorem dX12_init_612 : decode cX12_init 612 = .ok (.dup, 1) := by decide +kernel
theorem dX12_init_613 : decode cX12_init 613 = .ok (.bipush 100, 2) := by decide +kernel
theorem dX12_init_615 : decode cX12_init 615 = .ok (.bipush 100, 2) := by decide +kernel
theorem dX12_init_617 : decode cX12_init 617 = .ok (.iastore, 1) := by decide +kernel
theorem dX12_init_618 : decode cX12_init 618 = .ok (.dup, 1) := by decide +kernel
theorem dX12_init_619 : decode cX12_init 619 = .ok (.bipush 101, 2) := by decide +kernel
theorem dX12_init_621 : decode cX12_init 621 = .ok (.bipush 32, 2) := by decide +kernel
theorem dX12_init_623 : decode cX12_init 623 = .ok (.iastore, 1) := by decide +kernel
theorem dX12_init_624 : decode cX12_init 624 = .ok (.dup, 1) := by decide +kernel
theorem dX12_init_625 : decode cX12_init 625 = .ok (.bipush 102, 2) := by decide +kernel
theorem dX12_init_627 : decode cX12_init 627 = .ok (.bipush 115, 2) := by decide +kernel
theorem dX12_init_629 : decode cX12_init 629 = .ok (.iastore, 1) := by decide +kernel
theorem dX12_init_630 : decode cX12_init 630 = .ok (.dup, 1) := by decide +kernel
theorem dX12_init_631 : decode cX12_init 631 = .ok (.bipush 103, 2) := by decide +kernel
theorem dX12_init_633 : decode cX12_init 633 = .ok (.bipush 105, 2) := by decide +kernel
theorem dX12_init_635 : decode cX12_init 635 = .ok (.iastore, 1) := by decide +kernel
theorem dX12_init_636 : decode cX12_init 636 = .ok (.dup, 1) := by decide +kernel
theorem dX12_init_637 : decode cX12_init 637 = .ok (.bipush 104, 2) := by decide +kernel
theorem dX12_init_639 : decode cX12_init 639 = .ok (.bipush 122, 2) := by decide +kernel
theorem dX12_init_641 : decode cX12_init 641 = .ok (.iastore, 1) := by decide +kernel
theorem dX12_init_642 : decode cX12_init 642 = .ok (.dup, 1) := by decide +kernel
theorem dX12_init_643 : decode cX12_init 643 = .ok (.bipush 105, 2) := by decide +kernel
theorem dX12_init_645 : decode cX12_init 645 = .ok (.bipush 101, 2) := by decide +kernel
theorem dX12_init_647 : decode cX12_init 647 = .ok (.iastore, 1) := by decide +kernel
theorem dX12_init_648 : decode cX12_init 648 = .ok (.dup, 1) := by decide +kernel
theorem dX12_init_649 : decode cX12_init 649 = .ok (.bipush 106, 2) := by decide +kernel
theorem dX12_init_651 : decode cX12_init 651 = .ok (.bipush 32, 2) := by decide +kernel
theorem dX12_init_653 : decode cX12_init 653 = .ok (.iastore, 1) := by decide +kernel
theorem dX12_init_654 : decode cX12_init 654 = .ok (.dup, 1) := by decide +kernel
theorem dX12_init_655 : decode cX12_init 655 = .ok (.bipush 107, 2) := by decide +kernel
theorem dX12_init_657 : decode cX12_init 657 = .ok (.bipush 109, 2) := by decide +kernel
theorem dX12_init_659 : decode cX12_init 659 = .ok (.iastore, 1) := by decide +kernel
theorem dX12_init_660 : decode cX12_init 660 = .ok (.dup, 1) := by decide +kernel
theorem dX12_init_661 : decode cX12_init 661 = .ok (.bipush 108, 2) := by decide +kernel
theorem dX12_init_663 : decode cX12_init 663 = .ok (.bipush 105, 2) := by decide +kernel
theorem dX12_init_665 : decode cX12_init 665 = .ok (.iastore, 1) := by decide +kernel
theorem dX12_init_666 : decode cX12_init 666 = .ok (.dup, 1) := by decide +kernel
theorem dX12_init_667 : decode cX12_init 667 = .ok (.bipush 109, 2) := by decide +kernel
theorem dX12_init_669 : decode cX12_init 669 = .ok (.bipush 110, 2) := by decide +kernel
theorem dX12_init_671 : decode cX12_init 671 = .ok (.iastore, 1) := by decide +kernel
theorem dX12_init_672 : decode cX12_init 672 = .ok (.dup, 1) := by decide +kernel
theorem dX12_init_673 : decode cX12_init 673 = .ok (.bipush 110, 2) := by decide +kernel
theorem dX12_init_675 : decode cX12_init 675 = .ok (.bipush 117, 2) := by decide +kernel
theorem dX12_init_677 : decode cX12_init 677 = .ok (.iastore, 1) := by decide +kernel
theorem dX12_init_678 : decode cX12_init 678 = .ok (.dup, 1) := by decide +kernel
theorem dX12_init_679 : decode cX12_init 679 = .ok (.bipush 111, 2) := by decide +kernel
theorem dX12_init_681 : decode cX12_init 681 = .ok (.bipush 116, 2) := by decide +kernel
theorem dX12_init_683 : decode cX12_init 683 = .ok (.iastore, 1) := by decide +kernel
theorem dX12_init_684 : decode cX12_init 684 = .ok (.dup, 1) := by decide +kernel
theorem dX12_init_685 : decode cX12_init 685 = .ok (.bipush 112, 2) := by decide +kernel
theorem dX12_init_687 : decode cX12_init 687 = .ok (.bipush 101, 2) := by decide +kernel
theorem dX12_init_689 : decode cX12_init 689 = .ok (.iastore, 1) := by decide +kernel
theorem dX12_init_690 : decode cX12_init 690 = .ok (.dup, 1) := by decide +kernel
theorem dX12_init_691 : decode cX12_init 691 = .ok (.bipush 113, 2) := by decide +kernel
theorem dX12_init_693 : decode cX12_init 693 = .ok (.bipush 32, 2) := by decide +kernel
theorem dX12_init_695 : decode cX12_init 695 = .ok (.iastore, 1) := by decide +kernel
theorem dX12_init_696 : decode cX12_init 696 = .ok (.dup, 1) := by decide +kernel
theorem dX12_init_697 : decode cX12_init 697 = .ok (.bipush 114, 2) := by decide +kernel
theorem dX12_init_699 : decode cX12_init 699 = .ok (.bipush 119, 2) := by decide +kernel
theorem dX12_init_701 : decode cX12_init 701 = .ok (.iastore, 1) := by decide +kernel
theorem dX12_init_702 : decode cX12_init 702 = .ok (.dup, 1) := by decide +kernel
theorem dX12_init_703 : decode cX12_init 703 = .ok (.bipush 115, 2) := by decide +kernel
theorem dX12_init_705 : decode cX12_init 705 = .ok (.bipush 104, 2) := by decide +kernel
theorem dX12_init_707 : decode cX12_init 707 = .ok (.iastore, 1) := by decide +kernel
theorem dX12_init_708 : decode cX12_init 708 = .ok (.dup, 1) := by decide +kernel
theorem dX12_init_709 : decode cX12_init 709 = .ok (.bipush 116, 2) := by decide +kernel
theorem dX12_init_711 : decode cX12_init 711 = .ok (.bipush 105, 2) := by decide +kernel
theorem dX12_init_713 : decode cX12_init 713 = .ok (.iastore, 1) := by decide +kernel
theorem dX12_init_714 : decode cX12_init 714 = .ok (.dup, 1) := by decide +kernel
theorem dX12_init_715 : decode cX12_init 715 = .ok (.bipush 117, 2) := by decide +kernel
theorem dX12_init_717 : decode cX12_init 717 = .ok (.bipush 99, 2) := by decide +kernel
theorem dX12_init_719 : decode cX12_init 719 = .ok (.iastore, 1) := by decide +kernel
theorem dX12_init_720 : decode cX12_init 720 = .ok (.dup, 1) := by decide +kernel
theorem dX12_init_721 : decode cX12_init 721 = .ok (.bipush 118, 2) := by decide +kernel
theorem dX12_init_723 : decode cX12_init 723 = .ok (.bipush 104, 2) := by decide +kernel
theorem dX12_init_725 : decode cX12_init 725 = .ok (.iastore, 1) := by decide +kernel
theorem dX12_init_726 : decode cX12_init 726 = .ok (.dup, 1) := by decide +kernel
theorem dX12_init_727 : decode cX12_init 727 = .ok (.bipush 119, 2) := by decide +kernel
theorem dX12_init_729 : decode cX12_init 729 = .ok (.bipush 32, 2) := by decide +kernel
theorem dX12_init_731 : decode cX12_init 731 = .ok (.iastore, 1) := by decide +kernel
theorem dX12_init_732 : decode cX12_init 732 = .ok (.putfield 13, 3) := by decide +kernel
theorem dX12_init_735 : decode cX12_init 735 = .ok (.aload_n 0, 1) := by decide +kernel
theorem dX12_init_736 : decode cX12_init 736 = .ok (.iconst (-1), 1) := by decide +kernel
theorem dX12_init_737 : decode cX12_init 737 = .ok (.putfield 16, 3) := by decide +kernel
theorem dX12_init_740 : decode cX12_init 740 = .ok (.aload_n 0, 1) := by decide +kernel
theorem dX12_init_741 : decode cX12_init 741 = .ok (.iconst 5, 1) := by decide +kernel
theorem dX12_init_742 : decode cX12_init 742 = .ok (.newarray .boolean, 2) := by decide +kernel
theorem dX12_init_744 : decode cX12_init 744 = .ok (.putfield 20, 3) := by decide +kernel
theorem dX12_init_747 : decode cX12_init 747 = .ok (.aload_n 0, 1) := by decide +kernel
theorem dX12_init_748 : decode cX12_init 748 = .ok (.bipush 14, 2) := by decide +kernel
theorem dX12_init_750 : decode cX12_init 750 = .ok (.newarray .int, 2) := by decide +kernel
theorem dX12_init_752 : decode cX12_init 752 = .ok (.putfield 24, 3) := by decide +kernel
theorem dX12_init_755 : decode cX12_init 755 = .ok (.aload_n 0, 1) := by decide +kernel
theorem dX12_init_756 : decode cX12_init 756 = .ok (.bipush 10, 2) := by decide +kernel
theorem dX12_init_758 : decode cX12_init 758 = .ok (.newarray .int, 2) := by decide +kernel
theorem dX12_init_760 : decode cX12_init 760 = .ok (.putfield 27, 3) := by decide +kernel
theorem dX12_init_763 : decode cX12_init 763 = .ok (.aload_n 0, 1) := by decide +kernel
theorem dX12_init_764 : decode cX12_init 764 = .ok (.bipush 10, 2) := by decide +kernel
theorem dX12_init_766 : decode cX12_init 766 = .ok (.newarray .int, 2) := by decide +kernel
theorem dX12_init_768 : decode cX12_init 768 = .ok (.putfield 30, 3) := by decide +kernel
theorem dX12_init_771 : decode cX12_init 771 = .ok (.aload_n 0, 1) := by decide +kernel
theorem dX12_init_772 : decode cX12_init 772 = .ok (.bipush 10, 2) := by decide +kernel
theorem dX12_init_774 : decode cX12_init 774 = .ok (.newarray .int, 2) := by decide +kernel
theorem dX12_init_776 : decode cX12_init 776 = .ok (.putfield 33, 3) := by decide +kernel
theorem dX12_init_779 : decode cX12_init 779 = .ok (.aload_n 0, 1) := by decide +kernel
theorem dX12_init_780 : decode cX12_init 780 = .ok (.bipush 10, 2) := by decide +kernel
theorem dX12_init_782 : decode cX12_init 782 = .ok (.newarray .int, 2) := by decide +kernel
theorem dX12_init_784 : decode cX12_init 784 = .ok (.putfield 36, 3) := by decide +kernel
theorem dX12_init_787 : decode cX12_init 787 = .ok (.aload_n 0, 1) := by decide +kernel
theorem dX12_init_788 : decode cX12_init 788 = .ok (.bipush 10, 2) := by decide +kernel
theorem dX12_init_790 : decode cX12_init 790 = .ok (.newarray .int, 2) := by decide +kernel
theorem dX12_init_792 : decode cX12_init 792 = .ok (.putfield 39, 3) := by decide +kernel
theorem dX12_init_795 : decode cX12_init 795 = .ok (.aload_n 0, 1) := by decide +kernel
theorem dX12_init_796 : decode cX12_init 796 = .ok (.bipush 10, 2) := by decide +kernel
theorem dX12_init_798 : decode cX12_init 798 = .ok (.newarray .int, 2) := by decide +kernel
theorem dX12_init_800 : decode cX12_init 800 = .ok (.putfield 42, 3) := by decide +kernel
theorem dX12_init_803 : decode cX12_init 803 = .ok (.aload_n 0, 1) := by decide +kernel
theorem dX12_init_804 : decode cX12_init 804 = .ok (.bipush 8, 2) := by decide +kernel
theorem dX12_init_806 : decode cX12_init 806 = .ok (.newarray .int, 2) := by decide +kernel
theorem dX12_init_808 : decode cX12_init 808 = .ok (.putfield 45, 3) := by decide +kernel
theorem dX12_init_811 : decode cX12_init 811 = .ok (.aload_n 0, 1) := by decide +kernel
theorem dX12_init_812 : decode cX12_init 812 = .ok (.bipush 56, 2) := by decide +kernel
theorem dX12_init_814 : decode cX12_init 814 = .ok (.newarray .int, 2) := by decide +kernel
theorem dX12_init_816 : decode cX12_init 816 = .ok (.putfield 48, 3) := by decide +kernel
theorem dX12_init_819 : decode cX12_init 819 = .ok (.aload_n 0, 1) := by decide +kernel
theorem dX12_init_820 : decode cX12_init 820 = .ok (.bipush 56, 2) := by decide +kernel
theorem dX12_init_822 : decode cX12_init 822 = .ok (.newarray .int, 2) := by decide +kernel
theorem dX12_init_824 : decode cX12_init 824 = .ok (.putfield 51, 3) := by decide +kernel
theorem dX12_init_827 : decode cX12_init 827 = .ok (.aload_n 0, 1) := by decide +kernel
theorem dX12_init_828 : decode cX12_init 828 = .ok (.bipush 56, 2) := by decide +kernel
theorem dX12_init_830 : decode cX12_init 830 = .ok (.newarray .int, 2) := by decide +kernel
theorem dX12_init_832 : decode cX12_init 832 = .ok (.putfield 54, 3) := by decide +kernel
theorem dX12_init_835 : decode cX12_init 835 = .ok (.aload_n 0, 1) := by decide +kernel
theorem dX12_init_836 : decode cX12_init 836 = .ok (.bipush 6, 2) := by decide +kernel
theorem dX12_init_838 : decode cX12_init 838 = .ok (.newarray .boolean, 2) := by decide +kernel
theorem dX12_init_840 : decode cX12_init 840 = .ok (.putfield 57, 3) := by decide +kernel
theorem dX12_init_843 : decode cX12_init 843 = .ok (.aload_n 0, 1) := by decide +kernel
theorem dX12_init_844 : decode cX12_init 844 = .ok (.bipush 6, 2) := by decide +kernel
theorem dX12_init_846 : decode cX12_init 846 = .ok (.newarray .int, 2) := by decide +kernel
theorem dX12_init_848 : decode cX12_init 848 = .ok (.putfield 60, 3) := by decide +kernel
theorem dX12_init_851 : decode cX12_init 851 = .ok (.aload_n 0, 1) := by decide +kernel
theorem dX12_init_852 : decode cX12_init 852 = .ok (.bipush 6, 2) := by decide +kernel
theorem dX12_init_854 : decode cX12_init 854 = .ok (.newarray .int, 2) := by decide +kernel
theorem dX12_init_856 : decode cX12_init 856 = .ok (.putfield 63, 3) := by decide +kernel
theorem dX12_init_859 : decode cX12_init 859 = .ok (.aload_n 0, 1) := by decide +kernel
theorem dX12_init_860 : decode cX12_init 860 = .ok (.sipush 128, 3) := by decide +kernel
theorem dX12_init_863 : decode cX12_init 863 = .ok (.newarray .int, 2) := by decide +kernel
theorem dX12_init_865 : decode cX12_init 865 = .ok (.putfield 66, 3) := by decide +kernel
theorem dX12_init_868 : decode cX12_init 868 = .ok (.aload_n 0, 1) := by decide +kernel
theorem dX12_init_869 : decode cX12_init 869 = .ok (.sipush 128, 3) := by decide +kernel
theorem dX12_init_872 : decode cX12_init 872 = .ok (.newarray .int, 2) := by decide +kernel
theorem dX12_init_874 : decode cX12_init 874 = .ok (.putfield 69, 3) := by decide +kernel
theorem dX12_init_877 : decode cX12_init 877 = .ok (.aload_n 0, 1) := by decide +kernel
theorem dX12_init_878 : decode cX12_init 878 = .ok (.sipush 128, 3) := by decide +kernel
theorem dX12_init_881 : decode cX12_init 881 = .ok (.newarray .int, 2) := by decide +kernel
theorem dX12_init_883 : decode cX12_init 883 = .ok (.putfield 72, 3) := by decide +kernel
theorem dX12_init_886 : decode cX12_init 886 = .ok (.aload_n 0, 1) := by decide +kernel
theorem dX12_init_887 : decode cX12_init 887 = .ok (.bipush 96, 2) := by decide +kernel
theorem dX12_init_889 : decode cX12_init 889 = .ok (.newarray .int, 2) := by decide +kernel
theorem dX12_init_891 : decode cX12_init 891 = .ok (.putfield 75, 3) := by decide +kernel
theorem dX12_init_894 : decode cX12_init 894 = .ok (.aload_n 0, 1) := by decide +kernel
theorem dX12_init_895 : decode cX12_init 895 = .ok (.bipush 96, 2) := by decide +kernel
theorem dX12_init_897 : decode cX12_init 897 = .ok (.newarray .int, 2) := by decide +kernel
theorem dX12_init_899 : decode cX12_init 899 = .ok (.putfield 78, 3) := by decide +kernel
theorem dX12_init_902 : decode cX12_init 902 = .ok (.aload_n 0, 1) := by decide +kernel
theorem dX12_init_903 : decode cX12_init 903 = .ok (.bipush 6, 2) := by decide +kernel
theorem dX12_init_905 : decode cX12_init 905 = .ok (.newarray .long, 2) := by decide +kernel
theorem dX12_init_907 : decode cX12_init 907 = .ok (.putfield 81, 3) := by decide +kernel
theorem dX12_init_910 : decode cX12_init 910 = .ok (.aload_n 0, 1) := by decide +kernel
theorem dX12_init_911 : decode cX12_init 911 = .ok (.bipush 64, 2) := by decide +kernel
theorem dX12_init_913 : decode cX12_init 913 = .ok (.newarray .long, 2) := by decide +kernel
theorem dX12_init_915 : decode cX12_init 915 = .ok (.putfield 85, 3) := by decide +kernel
theorem dX12_init_918 : decode cX12_init 918 = .ok (.aload_n 0, 1) := by decide +kernel
theorem dX12_init_919 : decode cX12_init 919 = .ok (.bipush 10, 2) := by decide +kernel
theorem dX12_init_921 : decode cX12_init 921 = .ok (.newarray .int, 2) := by decide +kernel
theorem dX12_init_923 : decode cX12_init 923 = .ok (.putfield 88, 3) := by decide +kernel
theorem dX12_init_926 : decode cX12_init 926 = .ok (.aload_n 0, 1) := by decide +kernel
theorem dX12_init_927 : decode cX12_init 927 = .ok (.bipush 10, 2) := by decide +kernel
theorem dX12_init_929 : decode cX12_init 929 = .ok (.newarray .int, 2) := by decide +kernel
theorem dX12_init_931 : decode cX12_init 931 = .ok (.putfield 91, 3) := by decide +kernel
theorem dX12_init_934 : decode cX12_init 934 = .ok (.aload_n 0, 1) := by decide +kernel
theorem dX12_init_935 : decode cX12_init 935 = .ok (.bipush 10, 2) := by decide +kernel
theorem dX12_init_937 : decode cX12_init 937 = .ok (.newarray .int, 2) := by decide +kernel
theorem dX12_init_939 : decode cX12_init 939 = .ok (.putfield 94, 3) := by decide +kernel
theorem dX12_init_942 : decode cX12_init 942 = .ok (.aload_n 0, 1) := by decide +kernel
theorem dX12_init_943 : decode cX12_init 943 = .ok (.bipush 10, 2) := by decide +kernel
theorem dX12_init_945 : decode cX12_init 945 = .ok (.newarray .int, 2) := by decide +kernel
theorem dX12_init_947 : decode cX12_init 947 = .ok (.putfield 97, 3) := by decide +kernel
theorem dX12_init_950 : decode cX12_init 950 = .ok (.aload_n 0, 1) := by decide +kernel
theorem dX12_init_951 : decode cX12_init 951 = .ok (.iconst 5, 1) := by decide +kernel
theorem dX12_init_952 : decode cX12_init 952 = .ok (.newarray .int, 2) := by decide +kernel
theorem dX12_init_954 : decode cX12_init 954 = .ok (.putfield 100, 3) := by decide +kernel
theorem dX12_init_957 : decode cX12_init 957 = .ok (.aload_n 0, 1) := by decide +kernel
theorem dX12_init_958 : decode cX12_init 958 = .ok (.bipush 56, 2) := by decide +kernel
theorem dX12_init_960 : decode cX12_init 960 = .ok (.newarray .int, 2) := by decide +kernel
theorem dX12_init_962 : decode cX12_init 962 = .ok (.putfield 103, 3) := by decide +kernel
theorem dX12_init_965 : decode cX12_init 965 = .ok (.aload_n 0, 1) := by decide +kernel
theorem dX12_init_966 : decode cX12_init 966 = .ok (.iconst 2, 1) := by decide +kernel
theorem dX12_init_967 : decode cX12_init 967 = .ok (.newarray .int, 2) := by decide +kernel
theorem dX12_init_969 : decode cX12_init 969 = .ok (.putfield 106, 3) := by decide +kernel
theorem dX12_init_972 : decode cX12_init 972 = .ok (.aload_n 0, 1) := by decide +kernel
theorem dX12_init_973 : decode cX12_init 973 = .ok (.iconst 2, 1) := by decide +kernel
theorem dX12_init_974 : decode cX12_init 974 = .ok (.newarray .int, 2) := by decide +kernel
theorem dX12_init_976 : decode cX12_init 976 = .ok (.putfield 109, 3) := by decide +kernel
theorem dX12_init_979 : decode cX12_init 979 = .ok (.aload_n 0, 1) := by decide +kernel
theorem dX12_init_980 : decode cX12_init 980 = .ok (.iconst 2, 1) := by decide +kernel
theorem dX12_init_981 : decode cX12_init 981 = .ok (.newarray .int, 2) := by decide +kernel
theorem dX12_init_983 : decode cX12_init 983 = .ok (.putfield 112, 3) := by decide +kernel
theorem dX12_init_986 : decode cX12_init 986 = .ok (.aload_n 0, 1) := by decide +kernel
theorem dX12_init_987 : decode cX12_init 987 = .ok (.iconst (-1), 1) := by decide +kernel
theorem dX12_init_988 : decode cX12_init 988 = .ok (.putfield 115, 3) := by decide +kernel
theorem dX12_init_991 : decode cX12_init 991 = .ok (.aload_n 0, 1) := by decide +kernel
theorem dX12_init_992 : decode cX12_init 992 = .ok (.iconst 5, 1) := by decide +kernel
theorem dX12_init_993 : decode cX12_init 993 = .ok (.newarray .int, 2) := by decide +kernel
theorem dX12_init_995 : decode cX12_init 995 = .ok (.putfield 118, 3) := by decide +kernel
theorem dX12_init_998 : decode cX12_init 998 = .ok (.aload_n 0, 1) := by decide +kernel
theorem dX12_init_999 : decode cX12_init 999 = .ok (.bipush 25, 2) := by decide +kernel
theorem dX12_init_1001 : decode cX12_init 1001 = .ok (.newarray .int, 2) := by decide +kernel
theorem dX12_init_1003 : decode cX12_init 1003 = .ok (.putfield 121, 3) := by decide +kernel
theorem dX12_init_1006 : decode cX12_init 1006 = .ok (.aload_n 0, 1) := by decide +kernel
theorem dX12_init_1007 : decode cX12_init 1007 = .ok (.bipush 25, 2) := by decide +kernel
theorem dX12_init_1009 : decode cX12_init 1009 = .ok (.newarray .int, 2) := by decide +kernel
theorem dX12_init_1011 : decode cX12_init 1011 = .ok (.putfield 124, 3) := by decide +kernel
theorem dX12_init_1014 : decode cX12_init 1014 = .ok (.aload_n 0, 1) := by decide +kernel
theorem dX12_init_1015 : decode cX12_init 1015 = .ok (.bipush 29, 2) := by decide +kernel
theorem dX12_init_1017 : decode cX12_init 1017 = .ok (.newarray .int, 2) := by decide +kernel
theorem dX12_init_1019 : decode cX12_init 1019 = .ok (.putfield 127, 3) := by decide +kernel
theorem dX12_init_1022 : decode cX12_init 1022 = .ok (.aload_n 0, 1) := by decide +kernel
theorem dX12_init_1023 : decode cX12_init 1023 = .ok (.bipush 28, 2) := by decide +kernel
theorem dX12_init_1025 : decode cX12_init 1025 = .ok (.newarray .int, 2) := by decide +kernel
theorem dX12_init_1027 : decode cX12_init 1027 = .ok (.putfield 130, 3) := by decide +kernel
theorem dX12_init_1030 : decode cX12_init 1030 = .ok (.aload_n 0, 1) := by decide +kernel
theorem dX12_init_1031 : decode cX12_init 1031 = .ok (.iconst (-1), 1) := by decide +kernel
theorem dX12_init_1032 : decode cX12_init 1032 = .ok (.putfield 133, 3) := by decide +kernel
theorem dX12_init_1035 : decode cX12_init 1035 = .ok (.aload_n 0, 1) := by decide +kernel
theorem dX12_init_1036 : decode cX12_init 1036 = .ok (.bipush 72, 2) := by decide +kernel
theorem dX12_init_1038 : decode cX12_init 1038 = .ok (.newarray .int, 2) := by decide +kernel
theorem dX12_init_1040 : decode cX12_init 1040 = .ok (.putfield 136, 3) := by decide +kernel
theorem dX12_init_1043 : decode cX12_init 1043 = .ok (.aload_n 0, 1) := by decide +kernel
theorem dX12_init_1044 : decode cX12_init 1044 = .ok (.bipush 24, 2) := by decide +kernel
theorem dX12_init_1046 : decode cX12_init 1046 = .ok (.newarray .boolean, 2) := by decide +kernel
theorem dX12_init_1048 : decode cX12_init 1048 = .ok (.putfield 139, 3) := by decide +kernel
theorem dX12_init_1051 : decode cX12_init 1051 = .ok (.aload_n 0, 1) := by decide +kernel
theorem dX12_init_1052 : decode cX12_init 1052 = .ok (.sipush 220, 3) := by decide +kernel
theorem dX12_init_1055 : decode cX12_init 1055 = .ok (.newarray .int, 2) := by decide +kernel
theorem dX12_init_1057 : decode cX12_init 1057 = .ok (.putfield 142, 3) := by decide +kernel
theorem dX12_init_1060 : decode cX12_init 1060 = .ok (.aload_n 0, 1) := by decide +kernel
theorem dX12_init_1061 : decode cX12_init 1061 = .ok (.bipush 53, 2) := by decide +kernel
theorem dX12_init_1063 : decode cX12_init 1063 = .ok (.newarray .int, 2) := by decide +kernel
theorem dX12_init_1065 : decode cX12_init 1065 = .ok (.putfield 145, 3) := by decide +kernel
theorem dX12_init_1068 : decode cX12_init 1068 = .ok (.aload_n 0, 1) := by decide +kernel
theorem dX12_init_1069 : decode cX12_init 1069 = .ok (.invokevirtual 148, 3) := by decide +kernel
theorem dX12_init_1072 : decode cX12_init 1072 = .ok (.aload_n 0, 1) := by decide +kernel
theorem dX12_init_1073 : decode cX12_init 1073 = .ok (.invokevirtual 151, 3) := by decide +kernel
theorem dX12_init_1076 : decode cX12_init 1076 = .ok (.return_, 1) := by decide +kernel
theorem dX12_thrown_0 : decode cX12_thrown 0 = .ok (.aload_n 0, 1) := by decide +kernel
theorem dX12_thrown_1 : decode cX12_thrown 1 = .ok (.getfield 154, 3) := by decide +kernel
theorem dX12_thrown_4 : decode cX12_thrown 4 = .ok (.ireturn, 1) := by decide +kernel
theorem dX12_feed_0 : decode cX12_feed 0 = .ok (.aload_n 0, 1) := by decide +kernel
theorem dX12_feed_1 : decode cX12_feed 1 = .ok (.iconst 0, 1) := by decide +kernel
theorem dX12_feed_2 : decode cX12_feed 2 = .ok (.putfield 154, 3) := by decide +kernel
theorem dX12_feed_5 : decode cX12_feed 5 = .ok (.aload_n 0, 1) := by decide +kernel
theorem dX12_feed_6 : decode cX12_feed 6 = .ok (.getfield 157, 3) := by decide +kernel
theorem dX12_feed_9 : decode cX12_feed 9 = .ok (.bipush 20, 2) := by decide +kernel
theorem dX12_feed_11 : decode cX12_feed 11 = .ok (.iadd, 1) := by decide +kernel
theorem dX12_feed_12 : decode cX12_feed 12 = .ok (.sipush 700, 3) := by decide +kernel
theorem dX12_feed_15 : decode cX12_feed 15 = .ok (.if_icmp .le 5, 3) := by decide +kernel
theorem dX12_feed_18 : decode cX12_feed 18 = .ok (.iconst (-1), 1) := by decide +kernel
theorem dX12_feed_19 : decode cX12_feed 19 = .ok (.ireturn, 1) := by decide +kernel
theorem dX12_feed_20 : decode cX12_feed 20 = .ok (.iconst 0, 1) := by decide +kernel
theorem dX12_feed_21 : decode cX12_feed 21 = .ok (.istore 6, 2) := by decide +kernel
theorem dX12_feed_23 : decode cX12_feed 23 = .ok (.iload 6, 2) := by decide +kernel
theorem dX12_feed_25 : decode cX12_feed 25 = .ok (.bipush 20, 2) := by decide +kernel
theorem dX12_feed_27 : decode cX12_feed 27 = .ok (.if_icmp .ge 86, 3) := by decide +kernel
theorem dX12_feed_30 : decode cX12_feed 30 = .ok (.iload 6, 2) := by decide +kernel
theorem dX12_feed_32 : decode cX12_feed 32 = .ok (.iconst 4, 1) := by decide +kernel
theorem dX12_feed_33 : decode cX12_feed 33 = .ok (.if_icmp .ge 7, 3) := by decide +kernel
theorem dX12_feed_36 : decode cX12_feed 36 = .ok (.iload_n 1, 1) := by decide +kernel
theorem dX12_feed_37 : decode cX12_feed 37 = .ok (.goto 39, 3) := by decide +kernel
theorem dX12_feed_40 : decode cX12_feed 40 = .ok (.iload 6, 2) := by decide +kernel
theorem dX12_feed_42 : decode cX12_feed 42 = .ok (.bipush 8, 2) := by decide +kernel
theorem dX12_feed_44 : decode cX12_feed 44 = .ok (.if_icmp .ge 7, 3) := by decide +kernel
theorem dX12_feed_47 : decode cX12_feed 47 = .ok (.iload_n 2, 1) := by decide +kernel
theorem dX12_feed_48 : decode cX12_feed 48 = .ok (.goto 28, 3) := by decide +kernel
theorem dX12_feed_51 : decode cX12_feed 51 = .ok (.iload 6, 2) := by decide +kernel
theorem dX12_feed_53 : decode cX12_feed 53 = .ok (.bipush 12, 2) := by decide +kernel
theorem dX12_feed_55 : decode cX12_feed 55 = .ok (.if_icmp .ge 7, 3) := by decide +kernel
theorem dX12_feed_58 : decode cX12_feed 58 = .ok (.iload_n 3, 1) := by decide +kernel
theorem dX12_feed_59 : decode cX12_feed 59 = .ok (.goto 17, 3) := by decide +kernel
theorem dX12_feed_62 : decode cX12_feed 62 = .ok (.iload 6, 2) := by decide +kernel
theorem dX12_feed_64 : decode cX12_feed 64 = .ok (.bipush 16, 2) := by decide +kernel
theorem dX12_feed_66 : decode cX12_feed 66 = .ok (.if_icmp .ge 8, 3) := by decide +kernel
theorem dX12_feed_69 : decode cX12_feed 69 = .ok (.iload 4, 2) := by decide +kernel
theorem dX12_feed_71 : decode cX12_feed 71 = .ok (.goto 5, 3) := by decide +kernel
theorem dX12_feed_74 : decode cX12_feed 74 = .ok (.iload 5, 2) := by decide +kernel
theorem dX12_feed_76 : decode cX12_feed 76 = .ok (.istore 7, 2) := by decide +kernel
theorem dX12_feed_78 : decode cX12_feed 78 = .ok (.aload_n 0, 1) := by decide +kernel
theorem dX12_feed_79 : decode cX12_feed 79 = .ok (.getfield 7, 3) := by decide +kernel
theorem dX12_feed_82 : decode cX12_feed 82 = .ok (.aload_n 0, 1) := by decide +kernel
theorem dX12_feed_83 : decode cX12_feed 83 = .ok (.getfield 157, 3) := by decide +kernel
theorem dX12_feed_86 : decode cX12_feed 86 = .ok (.iload 6, 2) := by decide +kernel
theorem dX12_feed_88 : decode cX12_feed 88 = .ok (.iadd, 1) := by decide +kernel
theorem dX12_feed_89 : decode cX12_feed 89 = .ok (.iload 7, 2) := by decide +kernel
theorem dX12_feed_91 : decode cX12_feed 91 = .ok (.bipush 24, 2) := by decide +kernel
theorem dX12_feed_93 : decode cX12_feed 93 = .ok (.bipush 8, 2) := by decide +kernel
theorem dX12_feed_95 : decode cX12_feed 95 = .ok (.iload 6, 2) := by decide +kernel
theorem dX12_feed_97 : decode cX12_feed 97 = .ok (.iconst 4, 1) := by decide +kernel
theorem dX12_feed_98 : decode cX12_feed 98 = .ok (.irem, 1) := by decide +kernel
theorem dX12_feed_99 : decode cX12_feed 99 = .ok (.imul, 1) := by decide +kernel
theorem dX12_feed_100 : decode cX12_feed 100 = .ok (.isub, 1) := by decide +kernel
theorem dX12_feed_101 : decode cX12_feed 101 = .ok (.ishr, 1) := by decide +kernel
theorem dX12_feed_102 : decode cX12_feed 102 = .ok (.sipush 255, 3) := by decide +kernel
theorem dX12_feed_105 : decode cX12_feed 105 = .ok (.iand, 1) := by decide +kernel
theorem dX12_feed_106 : decode cX12_feed 106 = .ok (.iastore, 1) := by decide +kernel
theorem dX12_feed_107 : decode cX12_feed 107 = .ok (.iinc 6 1, 3) := by decide +kernel
theorem dX12_feed_110 : decode cX12_feed 110 = .ok (.goto (-87), 3) := by decide +kernel
theorem dX12_feed_113 : decode cX12_feed 113 = .ok (.aload_n 0, 1) := by decide +kernel
theorem dX12_feed_114 : decode cX12_feed 114 = .ok (.dup, 1) := by decide +kernel
theorem dX12_feed_115 : decode cX12_feed 115 = .ok (.getfield 157, 3) := by decide +kernel
theorem dX12_feed_118 : decode cX12_feed 118 = .ok (.bipush 20, 2) := by decide +kernel
theorem dX12_feed_120 : decode cX12_feed 120 = .ok (.iadd, 1) := by decide +kernel
theorem dX12_feed_121 : decode cX12_feed 121 = .ok (.putfield 157, 3) := by decide +kernel
theorem dX12_feed_124 : decode cX12_feed 124 = .ok (.aload_n 0, 1) := by decide +kernel
theorem dX12_feed_125 : decode cX12_feed 125 = .ok (.getfield 157, 3) := by decide +kernel
theorem dX12_feed_128 : decode cX12_feed 128 = .ok (.ireturn, 1) := by decide +kernel
theorem dX12_isIn_0 : decode cX12_isIn 0 = .ok (.iload_n 0, 1) := by decide +kernel
theorem dX12_isIn_1 : decode cX12_isIn 1 = .ok (.iload_n 1, 1) := by decide +kernel
theorem dX12_isIn_2 : decode cX12_isIn 2 = .ok (.if_icmp .lt 12, 3) := by decide +kernel
theorem dX12_isIn_5 : decode cX12_isIn 5 = .ok (.iload_n 0, 1) := by decide +kernel
theorem dX12_isIn_6 : decode cX12_isIn 6 = .ok (.iload_n 2, 1) := by decide +kernel
theorem dX12_isIn_7 : decode cX12_isIn 7 = .ok (.if_icmp .gt 7, 3) := by decide +kernel
theorem dX12_isIn_10 : decode cX12_isIn 10 = .ok (.iconst 1, 1) := by decide +kernel
theorem dX12_isIn_11 : decode cX12_isIn 11 = .ok (.goto 4, 3) := by decide +kernel
theorem dX12_isIn_14 : decode cX12_isIn 14 = .ok (.iconst 0, 1) := by decide +kernel
theorem dX12_isIn_15 : decode cX12_isIn 15 = .ok (.ireturn, 1) := by decide +kernel
theorem dX12_wrong_0 : decode cX12_wrong 0 = .ok (.aload_n 0, 1) := by decide +kernel
theorem dX12_wrong_1 : decode cX12_wrong 1 = .ok (.iload_n 1, 1) := by decide +kernel
theorem dX12_wrong_2 : decode cX12_wrong 2 = .ok (.putfield 160, 3) := by decide +kernel
theorem dX12_wrong_5 : decode cX12_wrong 5 = .ok (.aload_n 0, 1) := by decide +kernel
theorem dX12_wrong_6 : decode cX12_wrong 6 = .ok (.aload_n 0, 1) := by decide +kernel
theorem dX12_wrong_7 : decode cX12_wrong 7 = .ok (.getfield 163, 3) := by decide +kernel
theorem dX12_wrong_10 : decode cX12_wrong 10 = .ok (.putfield 16, 3) := by decide +kernel
theorem dX12_wrong_13 : decode cX12_wrong 13 = .ok (.iconst 0, 1) := by decide +kernel
theorem dX12_wrong_14 : decode cX12_wrong 14 = .ok (.ireturn, 1) := by decide +kernel
theorem dX12_wordAt_0 : decode cX12_wordAt 0 = .ok (.iconst 0, 1) := by decide +kernel
theorem dX12_wordAt_1 : decode cX12_wordAt 1 = .ok (.istore_n 3, 1) := by decide +kernel
theorem dX12_wordAt_2 : decode cX12_wordAt 2 = .ok (.iconst 0, 1) := by decide +kernel
theorem dX12_wordAt_3 : decode cX12_wordAt 3 = .ok (.istore 4, 2) := by decide +kernel
theorem dX12_wordAt_5 : decode cX12_wordAt 5 = .ok (.iload 4, 2) := by decide +kernel
theorem dX12_wordAt_7 : decode cX12_wordAt 7 = .ok (.aload_n 0, 1) := by decide +kernel
theorem dX12_wordAt_8 : decode cX12_wordAt 8 = .ok (.getfield 13, 3) := by decide +kernel
theorem dX12_wordAt_11 : decode cX12_wordAt 11 = .ok (.arraylength, 1) := by decide +kernel
theorem dX12_wordAt_12 : decode cX12_wordAt 12 = .ok (.if_icmp .ge 114, 3) := by decide +kernel
theorem dX12_wordAt_15 : decode cX12_wordAt 15 = .ok (.iconst 0, 1) := by decide +kernel
theorem dX12_wordAt_16 : decode cX12_wordAt 16 = .ok (.istore 5, 2) := by decide +kernel
theorem dX12_wordAt_18 : decode cX12_wordAt 18 = .ok (.aload_n 0, 1) := by decide +kernel
theorem dX12_wordAt_19 : decode cX12_wordAt 19 = .ok (.getfield 13, 3) := by decide +kernel
theorem dX12_wordAt_22 : decode cX12_wordAt 22 = .ok (.iload 4, 2) := by decide +kernel
theorem dX12_wordAt_24 : decode cX12_wordAt 24 = .ok (.iload 5, 2) := by decide +kernel
theorem dX12_wordAt_26 : decode cX12_wordAt 26 = .ok (.iadd, 1) := by decide +kernel
theorem dX12_wordAt_27 : decode cX12_wordAt 27 = .ok (.iaload, 1) := by decide +kernel
theorem dX12_wordAt_28 : decode cX12_wordAt 28 = .ok (.bipush 32, 2) := by decide +kernel
theorem dX12_wordAt_30 : decode cX12_wordAt 30 = .ok (.if_icmp .eq 9, 3) := by decide +kernel
theorem dX12_wordAt_33 : decode cX12_wordAt 33 = .ok (.iinc 5 1, 3) := by decide +kernel
theorem dX12_wordAt_36 : decode cX12_wordAt 36 = .ok (.goto (-18), 3) := by decide +kernel
theorem dX12_wordAt_39 : decode cX12_wordAt 39 = .ok (.iload 5, 2) := by decide +kernel
theorem dX12_wordAt_41 : decode cX12_wordAt 41 = .ok (.iload_n 2, 1) := by decide +kernel
theorem dX12_wordAt_42 : decode cX12_wordAt 42 = .ok (.iload_n 1, 1) := by decide +kernel
theorem dX12_wordAt_43 : decode cX12_wordAt 43 = .ok (.isub, 1) := by decide +kernel
theorem dX12_wordAt_44 : decode cX12_wordAt 44 = .ok (.if_icmp .ne 7, 3) := by decide +kernel
theorem dX12_wordAt_47 : decode cX12_wordAt 47 = .ok (.iconst 1, 1) := by decide +kernel
theorem dX12_wordAt_48 : decode cX12_wordAt 48 = .ok (.goto 4, 3) := by decide +kernel
theorem dX12_wordAt_51 : decode cX12_wordAt 51 = .ok (.iconst 0, 1) := by decide +kernel
theorem dX12_wordAt_52 : decode cX12_wordAt 52 = .ok (.istore 6, 2) := by decide +kernel
theorem dX12_wordAt_54 : decode cX12_wordAt 54 = .ok (.iconst 0, 1) := by decide +kernel
theorem dX12_wordAt_55 : decode cX12_wordAt 55 = .ok (.istore 7, 2) := by decide +kernel
theorem dX12_wordAt_57 : decode cX12_wordAt 57 = .ok (.iload 7, 2) := by decide +kernel
theorem dX12_wordAt_59 : decode cX12_wordAt 59 = .ok (.iload 5, 2) := by decide +kernel
theorem dX12_wordAt_61 : decode cX12_wordAt 61 = .ok (.if_icmp .ge 43, 3) := by decide +kernel
theorem dX12_wordAt_64 : decode cX12_wordAt 64 = .ok (.iload 6, 2) := by decide +kernel
theorem dX12_wordAt_66 : decode cX12_wordAt 66 = .ok (.ifCond .eq 38, 3) := by decide +kernel
theorem dX12_wordAt_69 : decode cX12_wordAt 69 = .ok (.aload_n 0, 1) := by decide +kernel
theorem dX12_wordAt_70 : decode cX12_wordAt 70 = .ok (.getfield 13, 3) := by decide +kernel
theorem dX12_wordAt_73 : decode cX12_wordAt 73 = .ok (.iload 4, 2) := by decide +kernel
theorem dX12_wordAt_75 : decode cX12_wordAt 75 = .ok (.iload 7, 2) := by decide +kernel
theorem dX12_wordAt_77 : decode cX12_wordAt 77 = .ok (.iadd, 1) := by decide +kernel
theorem dX12_wordAt_78 : decode cX12_wordAt 78 = .ok (.iaload, 1) := by decide +kernel
theorem dX12_wordAt_79 : decode cX12_wordAt 79 = .ok (.aload_n 0, 1) := by decide +kernel
theorem dX12_wordAt_80 : decode cX12_wordAt 80 = .ok (.getfield 7, 3) := by decide +kernel
theorem dX12_wordAt_83 : decode cX12_wordAt 83 = .ok (.iload_n 1, 1) := by decide +kernel
theorem dX12_wordAt_84 : decode cX12_wordAt 84 = .ok (.iload 7, 2) := by decide +kernel
theorem dX12_wordAt_86 : decode cX12_wordAt 86 = .ok (.iadd, 1) := by decide +kernel
theorem dX12_wordAt_87 : decode cX12_wordAt 87 = .ok (.iaload, 1) := by decide +kernel
theorem dX12_wordAt_88 : decode cX12_wordAt 88 = .ok (.if_icmp .ne 7, 3) := by decide +kernel
theorem dX12_wordAt_91 : decode cX12_wordAt 91 = .ok (.iconst 1, 1) := by decide +kernel
theorem dX12_wordAt_92 : decode cX12_wordAt 92 = .ok (.goto 4, 3) := by decide +kernel
theorem dX12_wordAt_95 : decode cX12_wordAt 95 = .ok (.iconst 0, 1) := by decide +kernel
theorem dX12_wordAt_96 : decode cX12_wordAt 96 = .ok (.istore 6, 2) := by decide +kernel
theorem dX12_wordAt_98 : decode cX12_wordAt 98 = .ok (.iinc 7 1, 3) := by decide +kernel
theorem dX12_wordAt_101 : decode cX12_wordAt 101 = .ok (.goto (-44), 3) := by decide +kernel
theorem dX12_wordAt_104 : decode cX12_wordAt 104 = .ok (.iload 6, 2) := by decide +kernel
theorem dX12_wordAt_106 : decode cX12_wordAt 106 = .ok (.ifCond .eq 5, 3) := by decide +kernel
theorem dX12_wordAt_109 : decode cX12_wordAt 109 = .ok (.iload_n 3, 1) := by decide +kernel
theorem dX12_wordAt_110 : decode cX12_wordAt 110 = .ok (.ireturn, 1) := by decide +kernel
theorem dX12_wordAt_111 : decode cX12_wordAt 111 = .ok (.iload 4, 2) := by decide +kernel
theorem dX12_wordAt_113 : decode cX12_wordAt 113 = .ok (.iload 5, 2) := by decide +kernel
theorem dX12_wordAt_115 : decode cX12_wordAt 115 = .ok (.iconst 1, 1) := by decide +kernel
theorem dX12_wordAt_116 : decode cX12_wordAt 116 = .ok (.iadd, 1) := by decide +kernel
theorem dX12_wordAt_117 : decode cX12_wordAt 117 = .ok (.iadd, 1) := by decide +kernel
theorem dX12_wordAt_118 : decode cX12_wordAt 118 = .ok (.istore 4, 2) := by decide +kernel
theorem dX12_wordAt_120 : decode cX12_wordAt 120 = .ok (.iinc 3 1, 3) := by decide +kernel
theorem dX12_wordAt_123 : decode cX12_wordAt 123 = .ok (.goto (-118), 3) := by decide +kernel
theorem dX12_wordAt_126 : decode cX12_wordAt 126 = .ok (.iconst (-1), 1) := by decide +kernel
theorem dX12_wordAt_127 : decode cX12_wordAt 127 = .ok (.ireturn, 1) := by decide +kernel
theorem dX12_isSmall_0 : decode cX12_isSmall 0 = .ok (.iload_n 1, 1) := by decide +kernel
theorem dX12_isSmall_1 : decode cX12_isSmall 1 = .ok (.aload_n 0, 1) := by decide +kernel
theorem dX12_isSmall_2 : decode cX12_isSmall 2 = .ok (.getfield 166, 3) := by decide +kernel
theorem dX12_isSmall_5 : decode cX12_isSmall 5 = .ok (.if_icmp .ge 29, 3) := by decide +kernel
theorem dX12_isSmall_8 : decode cX12_isSmall 8 = .ok (.aload_n 0, 1) := by decide +kernel
theorem dX12_isSmall_9 : decode cX12_isSmall 9 = .ok (.getfield 7, 3) := by decide +kernel
theorem dX12_isSmall_12 : decode cX12_isSmall 12 = .ok (.iload_n 1, 1) := by decide +kernel
theorem dX12_isSmall_13 : decode cX12_isSmall 13 = .ok (.iaload, 1) := by decide +kernel
theorem dX12_isSmall_14 : decode cX12_isSmall 14 = .ok (.bipush 97, 2) := by decide +kernel
theorem dX12_isSmall_16 : decode cX12_isSmall 16 = .ok (.if_icmp .lt 18, 3) := by decide +kernel
theorem dX12_isSmall_19 : decode cX12_isSmall 19 = .ok (.aload_n 0, 1) := by decide +kernel
theorem dX12_isSmall_20 : decode cX12_isSmall 20 = .ok (.getfield 7, 3) := by decide +kernel
theorem dX12_isSmall_23 : decode cX12_isSmall 23 = .ok (.iload_n 1, 1) := by decide +kernel
theorem dX12_isSmall_24 : decode cX12_isSmall 24 = .ok (.iaload, 1) := by decide +kernel
theorem dX12_isSmall_25 : decode cX12_isSmall 25 = .ok (.bipush 122, 2) := by decide +kernel
theorem dX12_isSmall_27 : decode cX12_isSmall 27 = .ok (.if_icmp .gt 7, 3) := by decide +kernel
theorem dX12_isSmall_30 : decode cX12_isSmall 30 = .ok (.iconst 1, 1) := by decide +kernel
theorem dX12_isSmall_31 : decode cX12_isSmall 31 = .ok (.goto 4, 3) := by decide +kernel
theorem dX12_isSmall_34 : decode cX12_isSmall 34 = .ok (.iconst 0, 1) := by decide +kernel
theorem dX12_isSmall_35 : decode cX12_isSmall 35 = .ok (.ireturn, 1) := by decide +kernel
theorem dX12_isDigit_0 : decode cX12_isDigit 0 = .ok (.iload_n 1, 1) := by decide +kernel
theorem dX12_isDigit_1 : decode cX12_isDigit 1 = .ok (.aload_n 0, 1) := by decide +kernel
theorem dX12_isDigit_2 : decode cX12_isDigit 2 = .ok (.getfield 166, 3) := by decide +kernel
theorem dX12_isDigit_5 : decode cX12_isDigit 5 = .ok (.if_icmp .ge 29, 3) := by decide +kernel
theorem dX12_isDigit_8 : decode cX12_isDigit 8 = .ok (.aload_n 0, 1) := by decide +kernel
theorem dX12_isDigit_9 : decode cX12_isDigit 9 = .ok (.getfield 7, 3) := by decide +kernel
theorem dX12_isDigit_12 : decode cX12_isDigit 12 = .ok (.iload_n 1, 1) := by decide +kernel
theorem dX12_isDigit_13 : decode cX12_isDigit 13 = .ok (.iaload, 1) := by decide +kernel
theorem dX12_isDigit_14 : decode cX12_isDigit 14 = .ok (.bipush 48, 2) := by decide +kernel
theorem dX12_isDigit_16 : decode cX12_isDigit 16 = .ok (.if_icmp .lt 18, 3) := by decide +kernel
theorem dX12_isDigit_19 : decode cX12_isDigit 19 = .ok (.aload_n 0, 1) := by decide +kernel
theorem dX12_isDigit_20 : decode cX12_isDigit 20 = .ok (.getfield 7, 3) := by decide +kernel
theorem dX12_isDigit_23 : decode cX12_isDigit 23 = .ok (.iload_n 1, 1) := by decide +kernel
theorem dX12_isDigit_24 : decode cX12_isDigit 24 = .ok (.iaload, 1) := by decide +kernel
theorem dX12_isDigit_25 : decode cX12_isDigit 25 = .ok (.bipush 57, 2) := by decide +kernel
theorem dX12_isDigit_27 : decode cX12_isDigit 27 = .ok (.if_icmp .gt 7, 3) := by decide +kernel
theorem dX12_isDigit_30 : decode cX12_isDigit 30 = .ok (.iconst 1, 1) := by decide +kernel
theorem dX12_isDigit_31 : decode cX12_isDigit 31 = .ok (.goto 4, 3) := by decide +kernel
theorem dX12_isDigit_34 : decode cX12_isDigit 34 = .ok (.iconst 0, 1) := by decide +kernel
theorem dX12_isDigit_35 : decode cX12_isDigit 35 = .ok (.ireturn, 1) := by decide +kernel
set_option maxRecDepth 20000 in
theorem ggX12_token_X12_isSmall : GoodIn wsX12_token wsX12_isSmall := goodIn_r _ [12, 2, 3, 30, 31, 32, 33, 34, 35, 36, 37, 38, 39, 40, 41, 42, 43, 44, 45, 46, 47, 48, 49, 50, 51, 52, 53, 54, 55, 56, 57, 58, 59, 60, 61, 62, 63, 64, 65, 66, 67, 68, 69, 70, 71, 72, 73, 74, 75, 76, 77, 78, 79, 80, 81, 82, 83, 84, 85, 86, 87, 88, 89, 90, 91, 92, 93, 94, 95, 96, 97, 98, 99, 100, 101, 102, 103, 104, 105, 106, 107, 108, 109, 110, 111, 112, 113, 114, 115, 116] (by decide +kernel) (by decide +kernel)
set_option maxRecDepth 20000 in
theorem gX12_token_X12_isSmall : GoodIn wsX12_token (wsV RX12 175 RX12 yX12_isSmall wsX12_isSmall) := goodIn_app (goodIn_of _ (by decide +kernel)) ggX12_token_X12_isSmall
set_option maxRecDepth 20000 in
theorem ggX12_token_X12_wordAt : GoodIn wsX12_token wsX12_wordAt := goodIn_r _ [16, 17, 3, 30, 31, 32, 33, 34, 35, 36, 37, 38, 39, 40, 41, 42, 43, 44, 45, 46, 47, 48, 49, 50, 51, 52, 53, 54, 55, 56, 57, 58, 59, 60, 61, 62, 63, 64, 65, 66, 67, 68, 69, 70, 71, 72, 73, 74, 75, 76, 77, 78, 79, 80, 81, 82, 83, 84, 85, 86, 87, 88, 89, 90, 91, 92, 93, 94, 95, 96, 97, 98, 99, 100, 101, 102, 103, 104, 105, 106, 107, 108, 109, 110, 111, 112, 113, 114, 115, 116] (by decide +kernel) (by decide +kernel)
set_option maxRecDepth 20000 in
theorem gX12_token_X12_wordAt : GoodIn wsX12_token (wsV RX12 179 RX12 yX12_wordAt wsX12_wordAt) := goodIn_app (goodIn_of _ (by decide +kernel)) ggX12_token_X12_wordAt
set_option maxRecDepth 20000 in
theorem ggX12_token_X12_packed : GoodIn wsX12_token wsX12_packed := goodIn_r _ [21, 3, 30, 31, 32, 33, 34, 35, 36, 37, 38, 39, 40, 41, 42, 43, 44, 45, 46, 47, 48, 49, 50, 51, 52, 53, 54, 55, 56, 57, 58, 59, 60, 61, 62, 63, 64, 65, 66, 67, 68, 69, 70, 71, 72, 73, 74, 75, 76, 77, 78, 79, 80, 81, 82, 83, 84, 85, 86, 87, 88, 89, 90, 91, 92, 93, 94, 95, 96, 97, 98, 99, 100, 101, 102, 103, 104, 105, 106, 107, 108, 109, 110, 111, 112, 113, 114, 115, 116] (by decide +kernel) (by decide +kernel)
set_option maxRecDepth 20000 in
theorem gX12_token_X12_packed : GoodIn wsX12_token (wsV RX12 186 RX12 yX12_packed wsX12_packed) := goodIn_app (goodIn_of _ (by decide +kernel)) ggX12_token_X12_packed
set_option maxRecDepth 20000 in
theorem ggX12_token_X12_isDigit : GoodIn wsX12_token wsX12_isDigit := goodIn_r _ [25, 2, 3, 30, 31, 32, 33, 34, 35, 36, 37, 38, 39, 40, 41, 42, 43, 44, 45, 46, 47, 48, 49, 50, 51, 52, 53, 54, 55, 56, 57, 58, 59, 60, 61, 62, 63, 64, 65, 66, 67, 68, 69, 70, 71, 72, 73, 74, 75, 76, 77, 78, 79, 80, 81, 82, 83, 84, 85, 86, 87, 88, 89, 90, 91, 92, 93, 94, 95, 96, 97, 98, 99, 100, 101, 102, 103, 104, 105, 106, 107, 108, 109, 110, 111, 112, 113, 114, 115, 116] (by decide +kernel) (by decide +kernel)
set_option maxRecDepth 20000 in
theorem gX12_token_X12_isDigit : GoodIn wsX12_token (wsV RX12 189 RX12 yX12_isDigit wsX12_isDigit) := goodIn_app (goodIn_of _ (by decide +kernel)) ggX12_token_X12_isDigit
set_option maxRecDepth 20000 in
theorem ggX12_token_X12_signToken : GoodIn wsX12_token wsX12_signToken := goodIn_r _ [29, 3, 1, 6, 2, 5, 30, 31, 32, 33, 34, 35, 36, 37, 38, 39, 40, 41, 42, 43, 44, 45, 46, 47, 48, 49, 50, 51, 52, 53, 54, 55, 56, 57, 58, 59, 60, 61, 62, 63, 64, 65, 66, 67, 68, 69, 70, 71, 72, 73, 74, 75, 76, 77, 78, 79, 80, 81, 82, 83, 84, 85, 86, 87, 88, 89, 90, 91, 92, 93, 94, 95, 96, 97, 98, 99, 100, 101, 102, 103, 104, 105, 106, 107, 108, 109, 110, 111, 112, 113, 114, 115, 116] (by decide +kernel) (by decide +kernel)
set_option maxRecDepth 20000 in
theorem gX12_token_X12_signToken : GoodIn wsX12_token (wsV RX12 193 RX12 yX12_signToken wsX12_signToken) := goodIn_app (goodIn_of _ (by decide +kernel)) ggX12_token_X12_signToken
theorem dX12_token_0 : decode cX12_token 0 = .ok (.aload_n 0, 1) := by decide +kernel
theorem dX12_token_1 : decode cX12_token 1 = .ok (.getfield 169, 3) := by decide +kernel
theorem dX12_token_4 : decode cX12_token 4 = .ok (.aload_n 0, 1) := by decide +kernel
theorem dX12_token_5 : decode cX12_token 5 = .ok (.getfield 166, 3) := by decide +kernel
theorem dX12_token_8 : decode cX12_token 8 = .ok (.if_icmp .ge 44, 3) := by decide +kernel
theorem dX12_token_11 : decode cX12_token 11 = .ok (.aload_n 0, 1) := by decide +kernel
theorem dX12_token_12 : decode cX12_token 12 = .ok (.getfield 7, 3) := by decide +kernel
theorem dX12_token_15 : decode cX12_token 15 = .ok (.aload_n 0, 1) := by decide +kernel
theorem dX12_token_16 : decode cX12_token 16 = .ok (.getfield 169, 3) := by decide +kernel
theorem dX12_token_19 : decode cX12_token 19 = .ok (.iaload, 1) := by decide +kernel
theorem dX12_token_20 : decode cX12_token 20 = .ok (.bipush 10, 2) := by decide +kernel
theorem dX12_token_22 : decode cX12_token 22 = .ok (.if_icmp .eq 17, 3) := by decide +kernel
theorem dX12_token_25 : decode cX12_token 25 = .ok (.aload_n 0, 1) := by decide +kernel
theorem dX12_token_26 : decode cX12_token 26 = .ok (.getfield 7, 3) := by decide +kernel
theorem dX12_token_29 : decode cX12_token 29 = .ok (.aload_n 0, 1) := by decide +kernel
theorem dX12_token_30 : decode cX12_token 30 = .ok (.getfield 169, 3) := by decide +kernel
theorem dX12_token_33 : decode cX12_token 33 = .ok (.iaload, 1) := by decide +kernel
theorem dX12_token_34 : decode cX12_token 34 = .ok (.bipush 32, 2) := by decide +kernel
theorem dX12_token_36 : decode cX12_token 36 = .ok (.if_icmp .ne 16, 3) := by decide +kernel
theorem dX12_token_39 : decode cX12_token 39 = .ok (.aload_n 0, 1) := by decide +kernel
theorem dX12_token_40 : decode cX12_token 40 = .ok (.dup, 1) := by decide +kernel
theorem dX12_token_41 : decode cX12_token 41 = .ok (.getfield 169, 3) := by decide +kernel
theorem dX12_token_44 : decode cX12_token 44 = .ok (.iconst 1, 1) := by decide +kernel
theorem dX12_token_45 : decode cX12_token 45 = .ok (.iadd, 1) := by decide +kernel
theorem dX12_token_46 : decode cX12_token 46 = .ok (.putfield 169, 3) := by decide +kernel
theorem dX12_token_49 : decode cX12_token 49 = .ok (.goto (-49), 3) := by decide +kernel
theorem dX12_token_52 : decode cX12_token 52 = .ok (.aload_n 0, 1) := by decide +kernel
theorem dX12_token_53 : decode cX12_token 53 = .ok (.aload_n 0, 1) := by decide +kernel
theorem dX12_token_54 : decode cX12_token 54 = .ok (.getfield 169, 3) := by decide +kernel
theorem dX12_token_57 : decode cX12_token 57 = .ok (.putfield 163, 3) := by decide +kernel
theorem dX12_token_60 : decode cX12_token 60 = .ok (.aload_n 0, 1) := by decide +kernel
theorem dX12_token_61 : decode cX12_token 61 = .ok (.getfield 169, 3) := by decide +kernel
theorem dX12_token_64 : decode cX12_token 64 = .ok (.aload_n 0, 1) := by decide +kernel
theorem dX12_token_65 : decode cX12_token 65 = .ok (.getfield 166, 3) := by decide +kernel
theorem dX12_token_68 : decode cX12_token 68 = .ok (.if_icmp .ne 11, 3) := by decide +kernel
theorem dX12_token_71 : decode cX12_token 71 = .ok (.aload_n 0, 1) := by decide +kernel
theorem dX12_token_72 : decode cX12_token 72 = .ok (.iconst 0, 1) := by decide +kernel
theorem dX12_token_73 : decode cX12_token 73 = .ok (.putfield 172, 3) := by decide +kernel
theorem dX12_token_76 : decode cX12_token 76 = .ok (.goto 205, 3) := by decide +kernel
theorem dX12_token_79 : decode cX12_token 79 = .ok (.aload_n 0, 1) := by decide +kernel
theorem dX12_token_80 : decode cX12_token 80 = .ok (.aload_n 0, 1) := by decide +kernel
theorem dX12_token_81 : decode cX12_token 81 = .ok (.getfield 169, 3) := by decide +kernel
theorem dX12_token_84 : decode cX12_token 84 = .ok (.invokevirtual 175, 3) := by decide +kernel
theorem dX12_token_87 : decode cX12_token 87 = .ok (.ifCond .eq 105, 3) := by decide +kernel
theorem dX12_token_90 : decode cX12_token 90 = .ok (.aload_n 0, 1) := by decide +kernel
theorem dX12_token_91 : decode cX12_token 91 = .ok (.aload_n 0, 1) := by decide +kernel
theorem dX12_token_92 : decode cX12_token 92 = .ok (.getfield 169, 3) := by decide +kernel
theorem dX12_token_95 : decode cX12_token 95 = .ok (.invokevirtual 175, 3) := by decide +kernel
theorem dX12_token_98 : decode cX12_token 98 = .ok (.ifCond .eq 16, 3) := by decide +kernel
theorem dX12_token_101 : decode cX12_token 101 = .ok (.aload_n 0, 1) := by decide +kernel
theorem dX12_token_102 : decode cX12_token 102 = .ok (.dup, 1) := by decide +kernel
theorem dX12_token_103 : decode cX12_token 103 = .ok (.getfield 169, 3) := by decide +kernel
theorem dX12_token_106 : decode cX12_token 106 = .ok (.iconst 1, 1) := by decide +kernel
theorem dX12_token_107 : decode cX12_token 107 = .ok (.iadd, 1) := by decide +kernel
theorem dX12_token_108 : decode cX12_token 108 = .ok (.putfield 169, 3) := by decide +kernel
theorem dX12_token_111 : decode cX12_token 111 = .ok (.goto (-21), 3) := by decide +kernel
theorem dX12_token_114 : decode cX12_token 114 = .ok (.aload_n 0, 1) := by decide +kernel
theorem dX12_token_115 : decode cX12_token 115 = .ok (.aload_n 0, 1) := by decide +kernel
theorem dX12_token_116 : decode cX12_token 116 = .ok (.aload_n 0, 1) := by decide +kernel
theorem dX12_token_117 : decode cX12_token 117 = .ok (.getfield 163, 3) := by decide +kernel
theorem dX12_token_120 : decode cX12_token 120 = .ok (.aload_n 0, 1) := by decide +kernel
theorem dX12_token_121 : decode cX12_token 121 = .ok (.getfield 169, 3) := by decide +kernel
theorem dX12_token_124 : decode cX12_token 124 = .ok (.invokevirtual 179, 3) := by decide +kernel
theorem dX12_token_127 : decode cX12_token 127 = .ok (.putfield 183, 3) := by decide +kernel
theorem dX12_token_130 : decode cX12_token 130 = .ok (.aload_n 0, 1) := by decide +kernel
theorem dX12_token_131 : decode cX12_token 131 = .ok (.aload_n 0, 1) := by decide +kernel
theorem dX12_token_132 : decode cX12_token 132 = .ok (.getfield 183, 3) := by decide +kernel
theorem dX12_token_135 : decode cX12_token 135 = .ok (.ifCond .lt 7, 3) := by decide +kernel
theorem dX12_token_138 : decode cX12_token 138 = .ok (.iconst 1, 1) := by decide +kernel
theorem dX12_token_139 : decode cX12_token 139 = .ok (.goto 23, 3) := by decide +kernel
theorem dX12_token_142 : decode cX12_token 142 = .ok (.aload_n 0, 1) := by decide +kernel
theorem dX12_token_143 : decode cX12_token 143 = .ok (.getfield 169, 3) := by decide +kernel
theorem dX12_token_146 : decode cX12_token 146 = .ok (.aload_n 0, 1) := by decide +kernel
theorem dX12_token_147 : decode cX12_token 147 = .ok (.getfield 163, 3) := by decide +kernel
theorem dX12_token_150 : decode cX12_token 150 = .ok (.isub, 1) := by decide +kernel
theorem dX12_token_151 : decode cX12_token 151 = .ok (.bipush 6, 2) := by decide +kernel
theorem dX12_token_153 : decode cX12_token 153 = .ok (.if_icmp .le 8, 3) := by decide +kernel
theorem dX12_token_156 : decode cX12_token 156 = .ok (.bipush 6, 2) := by decide +kernel
theorem dX12_token_158 : decode cX12_token 158 = .ok (.goto 4, 3) := by decide +kernel
theorem dX12_token_161 : decode cX12_token 161 = .ok (.iconst 2, 1) := by decide +kernel
theorem dX12_token_162 : decode cX12_token 162 = .ok (.putfield 172, 3) := by decide +kernel
theorem dX12_token_165 : decode cX12_token 165 = .ok (.aload_n 0, 1) := by decide +kernel
theorem dX12_token_166 : decode cX12_token 166 = .ok (.getfield 172, 3) := by decide +kernel
theorem dX12_token_169 : decode cX12_token 169 = .ok (.iconst 2, 1) := by decide +kernel
theorem dX12_token_170 : decode cX12_token 170 = .ok (.if_icmp .ne 111, 3) := by decide +kernel
theorem dX12_token_173 : decode cX12_token 173 = .ok (.aload_n 0, 1) := by decide +kernel
theorem dX12_token_174 : decode cX12_token 174 = .ok (.aload_n 0, 1) := by decide +kernel
theorem dX12_token_175 : decode cX12_token 175 = .ok (.aload_n 0, 1) := by decide +kernel
theorem dX12_token_176 : decode cX12_token 176 = .ok (.getfield 163, 3) := by decide +kernel
theorem dX12_token_179 : decode cX12_token 179 = .ok (.aload_n 0, 1) := by decide +kernel
theorem dX12_token_180 : decode cX12_token 180 = .ok (.getfield 169, 3) := by decide +kernel
theorem dX12_token_183 : decode cX12_token 183 = .ok (.invokevirtual 186, 3) := by decide +kernel
theorem dX12_token_186 : decode cX12_token 186 = .ok (.putfield 183, 3) := by decide +kernel
theorem dX12_token_189 : decode cX12_token 189 = .ok (.goto 92, 3) := by decide +kernel
theorem dX12_token_192 : decode cX12_token 192 = .ok (.aload_n 0, 1) := by decide +kernel
theorem dX12_token_193 : decode cX12_token 193 = .ok (.aload_n 0, 1) := by decide +kernel
theorem dX12_token_194 : decode cX12_token 194 = .ok (.getfield 169, 3) := by decide +kernel
theorem dX12_token_197 : decode cX12_token 197 = .ok (.invokevirtual 189, 3) := by decide +kernel
theorem dX12_token_200 : decode cX12_token 200 = .ok (.ifCond .eq 77, 3) := by decide +kernel
theorem dX12_token_203 : decode cX12_token 203 = .ok (.aload_n 0, 1) := by decide +kernel
theorem dX12_token_204 : decode cX12_token 204 = .ok (.iconst 3, 1) := by decide +kernel
theorem dX12_token_205 : decode cX12_token 205 = .ok (.putfield 172, 3) := by decide +kernel
theorem dX12_token_208 : decode cX12_token 208 = .ok (.aload_n 0, 1) := by decide +kernel
theorem dX12_token_209 : decode cX12_token 209 = .ok (.iconst 0, 1) := by decide +kernel
theorem dX12_token_210 : decode cX12_token 210 = .ok (.putfield 183, 3) := by decide +kernel
theorem dX12_token_213 : decode cX12_token 213 = .ok (.aload_n 0, 1) := by decide +kernel
theorem dX12_token_214 : decode cX12_token 214 = .ok (.aload_n 0, 1) := by decide +kernel
theorem dX12_token_215 : decode cX12_token 215 = .ok (.getfield 169, 3) := by decide +kernel
theorem dX12_token_218 : decode cX12_token 218 = .ok (.invokevirtual 189, 3) := by decide +kernel
theorem dX12_token_221 : decode cX12_token 221 = .ok (.ifCond .eq 60, 3) := by decide +kernel
theorem dX12_token_224 : decode cX12_token 224 = .ok (.aload_n 0, 1) := by decide +kernel
theorem dX12_token_225 : decode cX12_token 225 = .ok (.aload_n 0, 1) := by decide +kernel
theorem dX12_token_226 : decode cX12_token 226 = .ok (.getfield 183, 3) := by decide +kernel
theorem dX12_token_229 : decode cX12_token 229 = .ok (.ldc 192, 2) := by decide +kernel
theorem dX12_token_231 : decode cX12_token 231 = .ok (.if_icmp .le 10, 3) := by decide +kernel
theorem dX12_token_234 : decode cX12_token 234 = .ok (.aload_n 0, 1) := by decide +kernel
theorem dX12_token_235 : decode cX12_token 235 = .ok (.getfield 183, 3) := by decide +kernel
theorem dX12_token_238 : decode cX12_token 238 = .ok (.goto 23, 3) := by decide +kernel
theorem dX12_token_241 : decode cX12_token 241 = .ok (.bipush 10, 2) := by decide +kernel
theorem dX12_token_243 : decode cX12_token 243 = .ok (.aload_n 0, 1) := by decide +kernel
theorem dX12_token_244 : decode cX12_token 244 = .ok (.getfield 183, 3) := by decide +kernel
theorem dX12_token_247 : decode cX12_token 247 = .ok (.imul, 1) := by decide +kernel
theorem dX12_token_248 : decode cX12_token 248 = .ok (.aload_n 0, 1) := by decide +kernel
theorem dX12_token_249 : decode cX12_token 249 = .ok (.getfield 7, 3) := by decide +kernel
theorem dX12_token_252 : decode cX12_token 252 = .ok (.aload_n 0, 1) := by decide +kernel
theorem dX12_token_253 : decode cX12_token 253 = .ok (.getfield 169, 3) := by decide +kernel
theorem dX12_token_256 : decode cX12_token 256 = .ok (.iaload, 1) := by decide +kernel
theorem dX12_token_257 : decode cX12_token 257 = .ok (.iadd, 1) := by decide +kernel
theorem dX12_token_258 : decode cX12_token 258 = .ok (.bipush 48, 2) := by decide +kernel
theorem dX12_token_260 : decode cX12_token 260 = .ok (.isub, 1) := by decide +kernel
theorem dX12_token_261 : decode cX12_token 261 = .ok (.putfield 183, 3) := by decide +kernel
theorem dX12_token_264 : decode cX12_token 264 = .ok (.aload_n 0, 1) := by decide +kernel
theorem dX12_token_265 : decode cX12_token 265 = .ok (.dup, 1) := by decide +kernel
theorem dX12_token_266 : decode cX12_token 266 = .ok (.getfield 169, 3) := by decide +kernel
theorem dX12_token_269 : decode cX12_token 269 = .ok (.iconst 1, 1) := by decide +kernel
theorem dX12_token_270 : decode cX12_token 270 = .ok (.iadd, 1) := by decide +kernel
theorem dX12_token_271 : decode cX12_token 271 = .ok (.putfield 169, 3) := by decide +kernel
theorem dX12_token_274 : decode cX12_token 274 = .ok (.goto (-61), 3) := by decide +kernel
theorem dX12_token_277 : decode cX12_token 277 = .ok (.aload_n 0, 1) := by decide +kernel
theorem dX12_token_278 : decode cX12_token 278 = .ok (.invokevirtual 193, 3) := by decide +kernel
theorem dX12_token_281 : decode cX12_token 281 = .ok (.return_, 1) := by decide +kernel
theorem dX12_signToken_0 : decode cX12_signToken 0 = .ok (.aload_n 0, 1) := by decide +kernel
theorem dX12_signToken_1 : decode cX12_signToken 1 = .ok (.aload_n 0, 1) := by decide +kernel
theorem dX12_signToken_2 : decode cX12_signToken 2 = .ok (.getfield 7, 3) := by decide +kernel
theorem dX12_signToken_5 : decode cX12_signToken 5 = .ok (.aload_n 0, 1) := by decide +kernel
theorem dX12_signToken_6 : decode cX12_signToken 6 = .ok (.getfield 169, 3) := by decide +kernel
theorem dX12_signToken_9 : decode cX12_signToken 9 = .ok (.iaload, 1) := by decide +kernel
theorem dX12_signToken_10 : decode cX12_signToken 10 = .ok (.putfield 183, 3) := by decide +kernel
theorem dX12_signToken_13 : decode cX12_signToken 13 = .ok (.aload_n 0, 1) := by decide +kernel
theorem dX12_signToken_14 : decode cX12_signToken 14 = .ok (.dup, 1) := by decide +kernel
theorem dX12_signToken_15 : decode cX12_signToken 15 = .ok (.getfield 169, 3) := by decide +kernel
theorem dX12_signToken_18 : decode cX12_signToken 18 = .ok (.iconst 1, 1) := by decide +kernel
theorem dX12_signToken_19 : decode cX12_signToken 19 = .ok (.iadd, 1) := by decide +kernel
theorem dX12_signToken_20 : decode cX12_signToken 20 = .ok (.putfield 169, 3) := by decide +kernel
theorem dX12_signToken_23 : decode cX12_signToken 23 = .ok (.aload_n 0, 1) := by decide +kernel
theorem dX12_signToken_24 : decode cX12_signToken 24 = .ok (.getfield 183, 3) := by decide +kernel
theorem dX12_signToken_27 : decode cX12_signToken 27 = .ok (.bipush 60, 2) := by decide +kernel
theorem dX12_signToken_29 : decode cX12_signToken 29 = .ok (.if_icmp .eq 21, 3) := by decide +kernel
theorem dX12_signToken_32 : decode cX12_signToken 32 = .ok (.aload_n 0, 1) := by decide +kernel
theorem dX12_signToken_33 : decode cX12_signToken 33 = .ok (.getfield 183, 3) := by decide +kernel
theorem dX12_signToken_36 : decode cX12_signToken 36 = .ok (.bipush 62, 2) := by decide +kernel
theorem dX12_signToken_38 : decode cX12_signToken 38 = .ok (.if_icmp .eq 12, 3) := by decide +kernel
theorem dX12_signToken_41 : decode cX12_signToken 41 = .ok (.aload_n 0, 1) := by decide +kernel
theorem dX12_signToken_42 : decode cX12_signToken 42 = .ok (.getfield 183, 3) := by decide +kernel
theorem dX12_signToken_45 : decode cX12_signToken 45 = .ok (.bipush 61, 2) := by decide +kernel
theorem dX12_signToken_47 : decode cX12_signToken 47 = .ok (.if_icmp .ne 151, 3) := by decide +kernel
theorem dX12_signToken_50 : decode cX12_signToken 50 = .ok (.aload_n 0, 1) := by decide +kernel
theorem dX12_signToken_51 : decode cX12_signToken 51 = .ok (.getfield 169, 3) := by decide +kernel
theorem dX12_signToken_54 : decode cX12_signToken 54 = .ok (.aload_n 0, 1) := by decide +kernel
theorem dX12_signToken_55 : decode cX12_signToken 55 = .ok (.getfield 166, 3) := by decide +kernel
theorem dX12_signToken_58 : decode cX12_signToken 58 = .ok (.if_icmp .ge 15, 3) := by decide +kernel
theorem dX12_signToken_61 : decode cX12_signToken 61 = .ok (.aload_n 0, 1) := by decide +kernel
theorem dX12_signToken_62 : decode cX12_signToken 62 = .ok (.getfield 7, 3) := by decide +kernel
theorem dX12_signToken_65 : decode cX12_signToken 65 = .ok (.aload_n 0, 1) := by decide +kernel
theorem dX12_signToken_66 : decode cX12_signToken 66 = .ok (.getfield 169, 3) := by decide +kernel
theorem dX12_signToken_69 : decode cX12_signToken 69 = .ok (.iaload, 1) := by decide +kernel
theorem dX12_signToken_70 : decode cX12_signToken 70 = .ok (.goto 4, 3) := by decide +kernel
theorem dX12_signToken_73 : decode cX12_signToken 73 = .ok (.iconst 0, 1) := by decide +kernel
theorem dX12_signToken_74 : decode cX12_signToken 74 = .ok (.istore_n 1, 1) := by decide +kernel
theorem dX12_signToken_75 : decode cX12_signToken 75 = .ok (.aload_n 0, 1) := by decide +kernel
theorem dX12_signToken_76 : decode cX12_signToken 76 = .ok (.getfield 183, 3) := by decide +kernel
theorem dX12_signToken_79 : decode cX12_signToken 79 = .ok (.bipush 61, 2) := by decide +kernel
theorem dX12_signToken_81 : decode cX12_signToken 81 = .ok (.if_icmp .eq 13, 3) := by decide +kernel
theorem dX12_signToken_84 : decode cX12_signToken 84 = .ok (.iload_n 1, 1) := by decide +kernel
theorem dX12_signToken_85 : decode cX12_signToken 85 = .ok (.bipush 61, 2) := by decide +kernel
theorem dX12_signToken_87 : decode cX12_signToken 87 = .ok (.if_icmp .ne 7, 3) := by decide +kernel
theorem dX12_signToken_90 : decode cX12_signToken 90 = .ok (.iconst 1, 1) := by decide +kernel
theorem dX12_signToken_91 : decode cX12_signToken 91 = .ok (.goto 4, 3) := by decide +kernel
theorem dX12_signToken_94 : decode cX12_signToken 94 = .ok (.iconst 0, 1) := by decide +kernel
theorem dX12_signToken_95 : decode cX12_signToken 95 = .ok (.istore_n 2, 1) := by decide +kernel
theorem dX12_signToken_96 : decode cX12_signToken 96 = .ok (.aload_n 0, 1) := by decide +kernel
theorem dX12_signToken_97 : decode cX12_signToken 97 = .ok (.getfield 183, 3) := by decide +kernel
theorem dX12_signToken_100 : decode cX12_signToken 100 = .ok (.bipush 60, 2) := by decide +kernel
theorem dX12_signToken_102 : decode cX12_signToken 102 = .ok (.if_icmp .ne 13, 3) := by decide +kernel
theorem dX12_signToken_105 : decode cX12_signToken 105 = .ok (.iload_n 1, 1) := by decide +kernel
theorem dX12_signToken_106 : decode cX12_signToken 106 = .ok (.bipush 62, 2) := by decide +kernel
theorem dX12_signToken_108 : decode cX12_signToken 108 = .ok (.if_icmp .ne 7, 3) := by decide +kernel
theorem dX12_signToken_111 : decode cX12_signToken 111 = .ok (.iconst 1, 1) := by decide +kernel
theorem dX12_signToken_112 : decode cX12_signToken 112 = .ok (.goto 4, 3) := by decide +kernel
theorem dX12_signToken_115 : decode cX12_signToken 115 = .ok (.iconst 0, 1) := by decide +kernel
theorem dX12_signToken_116 : decode cX12_signToken 116 = .ok (.istore_n 3, 1) := by decide +kernel
theorem dX12_signToken_117 : decode cX12_signToken 117 = .ok (.iload_n 2, 1) := by decide +kernel
theorem dX12_signToken_118 : decode cX12_signToken 118 = .ok (.ifCond .ne 7, 3) := by decide +kernel
theorem dX12_signToken_121 : decode cX12_signToken 121 = .ok (.iload_n 3, 1) := by decide +kernel
theorem dX12_signToken_122 : decode cX12_signToken 122 = .ok (.ifCond .eq 13, 3) := by decide +kernel
theorem dX12_signToken_125 : decode cX12_signToken 125 = .ok (.aload_n 0, 1) := by decide +kernel
theorem dX12_signToken_126 : decode cX12_signToken 126 = .ok (.dup, 1) := by decide +kernel
theorem dX12_signToken_127 : decode cX12_signToken 127 = .ok (.getfield 169, 3) := by decide +kernel
theorem dX12_signToken_130 : decode cX12_signToken 130 = .ok (.iconst 1, 1) := by decide +kernel
theorem dX12_signToken_131 : decode cX12_signToken 131 = .ok (.iadd, 1) := by decide +kernel
theorem dX12_signToken_132 : decode cX12_signToken 132 = .ok (.putfield 169, 3) := by decide +kernel
theorem dX12_signToken_135 : decode cX12_signToken 135 = .ok (.aload_n 0, 1) := by decide +kernel
theorem dX12_signToken_136 : decode cX12_signToken 136 = .ok (.iconst 5, 1) := by decide +kernel
theorem dX12_signToken_137 : decode cX12_signToken 137 = .ok (.putfield 172, 3) := by decide +kernel
theorem dX12_signToken_140 : decode cX12_signToken 140 = .ok (.aload_n 0, 1) := by decide +kernel
theorem dX12_signToken_141 : decode cX12_signToken 141 = .ok (.aload_n 0, 1) := by decide +kernel
theorem dX12_signToken_142 : decode cX12_signToken 142 = .ok (.getfield 183, 3) := by decide +kernel
theorem dX12_signToken_145 : decode cX12_signToken 145 = .ok (.bipush 61, 2) := by decide +kernel
theorem dX12_signToken_147 : decode cX12_signToken 147 = .ok (.if_icmp .ne 7, 3) := by decide +kernel
theorem dX12_signToken_150 : decode cX12_signToken 150 = .ok (.iconst 2, 1) := by decide +kernel
theorem dX12_signToken_151 : decode cX12_signToken 151 = .ok (.goto 41, 3) := by decide +kernel
theorem dX12_signToken_154 : decode cX12_signToken 154 = .ok (.aload_n 0, 1) := by decide +kernel
theorem dX12_signToken_155 : decode cX12_signToken 155 = .ok (.getfield 183, 3) := by decide +kernel
theorem dX12_signToken_158 : decode cX12_signToken 158 = .ok (.bipush 60, 2) := by decide +kernel
theorem dX12_signToken_160 : decode cX12_signToken 160 = .ok (.if_icmp .ne 23, 3) := by decide +kernel
theorem dX12_signToken_163 : decode cX12_signToken 163 = .ok (.iload_n 2, 1) := by decide +kernel
theorem dX12_signToken_164 : decode cX12_signToken 164 = .ok (.ifCond .eq 7, 3) := by decide +kernel
theorem dX12_signToken_167 : decode cX12_signToken 167 = .ok (.iconst 1, 1) := by decide +kernel
theorem dX12_signToken_168 : decode cX12_signToken 168 = .ok (.goto 24, 3) := by decide +kernel
theorem dX12_signToken_171 : decode cX12_signToken 171 = .ok (.iload_n 3, 1) := by decide +kernel
theorem dX12_signToken_172 : decode cX12_signToken 172 = .ok (.ifCond .eq 7, 3) := by decide +kernel
theorem dX12_signToken_175 : decode cX12_signToken 175 = .ok (.iconst 3, 1) := by decide +kernel
theorem dX12_signToken_176 : decode cX12_signToken 176 = .ok (.goto 16, 3) := by decide +kernel
theorem dX12_signToken_179 : decode cX12_signToken 179 = .ok (.iconst 0, 1) := by decide +kernel
theorem dX12_signToken_180 : decode cX12_signToken 180 = .ok (.goto 12, 3) := by decide +kernel
theorem dX12_signToken_183 : decode cX12_signToken 183 = .ok (.iload_n 2, 1) := by decide +kernel
theorem dX12_signToken_184 : decode cX12_signToken 184 = .ok (.ifCond .eq 7, 3) := by decide +kernel
theorem dX12_signToken_187 : decode cX12_signToken 187 = .ok (.iconst 4, 1) := by decide +kernel
theorem dX12_signToken_188 : decode cX12_signToken 188 = .ok (.goto 4, 3) := by decide +kernel
theorem dX12_signToken_191 : decode cX12_signToken 191 = .ok (.iconst 5, 1) := by decide +kernel
theorem dX12_signToken_192 : decode cX12_signToken 192 = .ok (.putfield 183, 3) := by decide +kernel
theorem dX12_signToken_195 : decode cX12_signToken 195 = .ok (.goto 95, 3) := by decide +kernel
theorem dX12_signToken_198 : decode cX12_signToken 198 = .ok (.aload_n 0, 1) := by decide +kernel
theorem dX12_signToken_199 : decode cX12_signToken 199 = .ok (.getfield 183, 3) := by decide +kernel
theorem dX12_signToken_202 : decode cX12_signToken 202 = .ok (.bipush 59, 2) := by decide +kernel
theorem dX12_signToken_204 : decode cX12_signToken 204 = .ok (.if_icmp .eq 66, 3) := by decide +kernel
theorem dX12_signToken_207 : decode cX12_signToken 207 = .ok (.aload_n 0, 1) := by decide +kernel
theorem dX12_signToken_208 : decode cX12_signToken 208 = .ok (.getfield 183, 3) := by decide +kernel
theorem dX12_signToken_211 : decode cX12_signToken 211 = .ok (.bipush 40, 2) := by decide +kernel
theorem dX12_signToken_213 : decode cX12_signToken 213 = .ok (.if_icmp .eq 57, 3) := by decide +kernel
theorem dX12_signToken_216 : decode cX12_signToken 216 = .ok (.aload_n 0, 1) := by decide +kernel
theorem dX12_signToken_217 : decode cX12_signToken 217 = .ok (.getfield 183, 3) := by decide +kernel
theorem dX12_signToken_220 : decode cX12_signToken 220 = .ok (.bipush 41, 2) := by decide +kernel
theorem dX12_signToken_222 : decode cX12_signToken 222 = .ok (.if_icmp .eq 48, 3) := by decide +kernel
theorem dX12_signToken_225 : decode cX12_signToken 225 = .ok (.aload_n 0, 1) := by decide +kernel
theorem dX12_signToken_226 : decode cX12_signToken 226 = .ok (.getfield 183, 3) := by decide +kernel
theorem dX12_signToken_229 : decode cX12_signToken 229 = .ok (.bipush 43, 2) := by decide +kernel
theorem dX12_signToken_231 : decode cX12_signToken 231 = .ok (.if_icmp .eq 39, 3) := by decide +kernel
theorem dX12_signToken_234 : decode cX12_signToken 234 = .ok (.aload_n 0, 1) := by decide +kernel
theorem dX12_signToken_235 : decode cX12_signToken 235 = .ok (.getfield 183, 3) := by decide +kernel
theorem dX12_signToken_238 : decode cX12_signToken 238 = .ok (.bipush 45, 2) := by decide +kernel
theorem dX12_signToken_240 : decode cX12_signToken 240 = .ok (.if_icmp .eq 30, 3) := by decide +kernel
theorem dX12_signToken_243 : decode cX12_signToken 243 = .ok (.aload_n 0, 1) := by decide +kernel
theorem dX12_signToken_244 : decode cX12_signToken 244 = .ok (.getfield 183, 3) := by decide +kernel
theorem dX12_signToken_247 : decode cX12_signToken 247 = .ok (.bipush 42, 2) := by decide +kernel
theorem dX12_signToken_249 : decode cX12_signToken 249 = .ok (.if_icmp .eq 21, 3) := by decide +kernel
theorem dX12_signToken_252 : decode cX12_signToken 252 = .ok (.aload_n 0, 1) := by decide +kernel
theorem dX12_signToken_253 : decode cX12_signToken 253 = .ok (.getfield 183, 3) := by decide +kernel
theorem dX12_signToken_256 : decode cX12_signToken 256 = .ok (.bipush 47, 2) := by decide +kernel
theorem dX12_signToken_258 : decode cX12_signToken 258 = .ok (.if_icmp .eq 12, 3) := by decide +kernel
theorem dX12_signToken_261 : decode cX12_signToken 261 = .ok (.aload_n 0, 1) := by decide +kernel
theorem dX12_signToken_262 : decode cX12_signToken 262 = .ok (.getfield 183, 3) := by decide +kernel
theorem dX12_signToken_265 : decode cX12_signToken 265 = .ok (.bipush 37, 2) := by decide +kernel
theorem dX12_signToken_267 : decode cX12_signToken 267 = .ok (.if_icmp .ne 7, 3) := by decide +kernel
theorem dX12_signToken_270 : decode cX12_signToken 270 = .ok (.iconst 1, 1) := by decide +kernel
theorem dX12_signToken_271 : decode cX12_signToken 271 = .ok (.goto 4, 3) := by decide +kernel
theorem dX12_signToken_274 : decode cX12_signToken 274 = .ok (.iconst 0, 1) := by decide +kernel
theorem dX12_signToken_275 : decode cX12_signToken 275 = .ok (.istore_n 1, 1) := by decide +kernel
theorem dX12_signToken_276 : decode cX12_signToken 276 = .ok (.aload_n 0, 1) := by decide +kernel
theorem dX12_signToken_277 : decode cX12_signToken 277 = .ok (.iload_n 1, 1) := by decide +kernel
theorem dX12_signToken_278 : decode cX12_signToken 278 = .ok (.ifCond .eq 7, 3) := by decide +kernel
theorem dX12_signToken_281 : decode cX12_signToken 281 = .ok (.iconst 4, 1) := by decide +kernel
theorem dX12_signToken_282 : decode cX12_signToken 282 = .ok (.goto 5, 3) := by decide +kernel
theorem dX12_signToken_285 : decode cX12_signToken 285 = .ok (.bipush 6, 2) := by decide +kernel
theorem dX12_signToken_287 : decode cX12_signToken 287 = .ok (.putfield 172, 3) := by decide +kernel
theorem dX12_signToken_290 : decode cX12_signToken 290 = .ok (.return_, 1) := by decide +kernel
theorem dX12_packed_0 : decode cX12_packed 0 = .ok (.iconst 0, 1) := by decide +kernel
theorem dX12_packed_1 : decode cX12_packed 1 = .ok (.istore_n 3, 1) := by decide +kernel
theorem dX12_packed_2 : decode cX12_packed 2 = .ok (.iload_n 1, 1) := by decide +kernel
theorem dX12_packed_3 : decode cX12_packed 3 = .ok (.istore 4, 2) := by decide +kernel
theorem dX12_packed_5 : decode cX12_packed 5 = .ok (.iload 4, 2) := by decide +kernel
theorem dX12_packed_7 : decode cX12_packed 7 = .ok (.iload_n 1, 1) := by decide +kernel
theorem dX12_packed_8 : decode cX12_packed 8 = .ok (.bipush 6, 2) := by decide +kernel
theorem dX12_packed_10 : decode cX12_packed 10 = .ok (.iadd, 1) := by decide +kernel
theorem dX12_packed_11 : decode cX12_packed 11 = .ok (.if_icmp .ge 34, 3) := by decide +kernel
theorem dX12_packed_14 : decode cX12_packed 14 = .ok (.iload_n 3, 1) := by decide +kernel
theorem dX12_packed_15 : decode cX12_packed 15 = .ok (.iconst 5, 1) := by decide +kernel
theorem dX12_packed_16 : decode cX12_packed 16 = .ok (.ishl, 1) := by decide +kernel
theorem dX12_packed_17 : decode cX12_packed 17 = .ok (.iload 4, 2) := by decide +kernel
theorem dX12_packed_19 : decode cX12_packed 19 = .ok (.iload_n 2, 1) := by decide +kernel
theorem dX12_packed_20 : decode cX12_packed 20 = .ok (.if_icmp .ge 16, 3) := by decide +kernel
theorem dX12_packed_23 : decode cX12_packed 23 = .ok (.aload_n 0, 1) := by decide +kernel
theorem dX12_packed_24 : decode cX12_packed 24 = .ok (.getfield 7, 3) := by decide +kernel
theorem dX12_packed_27 : decode cX12_packed 27 = .ok (.iload 4, 2) := by decide +kernel
theorem dX12_packed_29 : decode cX12_packed 29 = .ok (.iaload, 1) := by decide +kernel
theorem dX12_packed_30 : decode cX12_packed 30 = .ok (.bipush 96, 2) := by decide +kernel
theorem dX12_packed_32 : decode cX12_packed 32 = .ok (.isub, 1) := by decide +kernel
theorem dX12_packed_33 : decode cX12_packed 33 = .ok (.goto 4, 3) := by decide +kernel
theorem dX12_packed_36 : decode cX12_packed 36 = .ok (.iconst 0, 1) := by decide +kernel
theorem dX12_packed_37 : decode cX12_packed 37 = .ok (.ior, 1) := by decide +kernel
theorem dX12_packed_38 : decode cX12_packed 38 = .ok (.istore_n 3, 1) := by decide +kernel
theorem dX12_packed_39 : decode cX12_packed 39 = .ok (.iinc 4 1, 3) := by decide +kernel
theorem dX12_packed_42 : decode cX12_packed 42 = .ok (.goto (-37), 3) := by decide +kernel
theorem dX12_packed_45 : decode cX12_packed 45 = .ok (.iload_n 3, 1) := by decide +kernel
theorem dX12_packed_46 : decode cX12_packed 46 = .ok (.ireturn, 1) := by decide +kernel
theorem dX12_isKey_0 : decode cX12_isKey 0 = .ok (.aload_n 0, 1) := by decide +kernel
theorem dX12_isKey_1 : decode cX12_isKey 1 = .ok (.getfield 172, 3) := by decide +kernel
theorem dX12_isKey_4 : decode cX12_isKey 4 = .ok (.iconst 1, 1) := by decide +kernel
theorem dX12_isKey_5 : decode cX12_isKey 5 = .ok (.if_icmp .ne 15, 3) := by decide +kernel
theorem dX12_isKey_8 : decode cX12_isKey 8 = .ok (.aload_n 0, 1) := by decide +kernel
theorem dX12_isKey_9 : decode cX12_isKey 9 = .ok (.getfield 183, 3) := by decide +kernel
theorem dX12_isKey_12 : decode cX12_isKey 12 = .ok (.iload_n 1, 1) := by decide +kernel
theorem dX12_isKey_13 : decode cX12_isKey 13 = .ok (.if_icmp .ne 7, 3) := by decide +kernel
theorem dX12_isKey_16 : decode cX12_isKey 16 = .ok (.iconst 1, 1) := by decide +kernel
theorem dX12_isKey_17 : decode cX12_isKey 17 = .ok (.goto 4, 3) := by decide +kernel
theorem dX12_isKey_20 : decode cX12_isKey 20 = .ok (.iconst 0, 1) := by decide +kernel
theorem dX12_isKey_21 : decode cX12_isKey 21 = .ok (.ireturn, 1) := by decide +kernel
theorem dX12_isSign_0 : decode cX12_isSign 0 = .ok (.aload_n 0, 1) := by decide +kernel
theorem dX12_isSign_1 : decode cX12_isSign 1 = .ok (.getfield 172, 3) := by decide +kernel
theorem dX12_isSign_4 : decode cX12_isSign 4 = .ok (.iconst 4, 1) := by decide +kernel
theorem dX12_isSign_5 : decode cX12_isSign 5 = .ok (.if_icmp .ne 15, 3) := by decide +kernel
theorem dX12_isSign_8 : decode cX12_isSign 8 = .ok (.aload_n 0, 1) := by decide +kernel
theorem dX12_isSign_9 : decode cX12_isSign 9 = .ok (.getfield 183, 3) := by decide +kernel
theorem dX12_isSign_12 : decode cX12_isSign 12 = .ok (.iload_n 1, 1) := by decide +kernel
theorem dX12_isSign_13 : decode cX12_isSign 13 = .ok (.if_icmp .ne 7, 3) := by decide +kernel
theorem dX12_isSign_16 : decode cX12_isSign 16 = .ok (.iconst 1, 1) := by decide +kernel
theorem dX12_isSign_17 : decode cX12_isSign 17 = .ok (.goto 4, 3) := by decide +kernel
theorem dX12_isSign_20 : decode cX12_isSign 20 = .ok (.iconst 0, 1) := by decide +kernel
theorem dX12_isSign_21 : decode cX12_isSign 21 = .ok (.ireturn, 1) := by decide +kernel
set_option maxRecDepth 20000 in
theorem ggX12_number_X12_wrong : GoodIn wsX12_number wsX12_wrong := goodIn_r _ [8, 9, 10, 11, 44, 45, 46, 47, 48, 49, 50, 51, 52, 53, 54, 55, 56, 57, 58, 59, 60, 61, 62, 63, 64, 65, 66, 67, 68, 69, 70, 71, 72, 73, 74, 75, 76, 77, 78, 79, 80, 81, 82, 83, 84, 85, 86, 87, 88, 89, 90, 91, 92, 93, 94, 95, 96, 97, 98, 99, 100, 101, 102, 103, 104, 105, 106, 107, 108, 109, 110, 111, 112, 113, 114, 115, 116, 117, 118, 119, 120, 121, 122, 123, 124, 125, 126, 127, 128, 129, 130] (by decide +kernel) (by decide +kernel)
set_option maxRecDepth 20000 in
theorem gX12_number_X12_wrong : GoodIn wsX12_number (wsV RX12 196 RX12 yX12_wrong wsX12_wrong) := goodIn_app (goodIn_of _ (by decide +kernel)) ggX12_number_X12_wrong
set_option maxRecDepth 20000 in
theorem ggX12_number_X12_isIn : GoodIn wsX12_number wsX12_isIn := goodIn_r _ [14] (by decide +kernel) (by decide +kernel)
set_option maxRecDepth 20000 in
theorem gX12_number_X12_isIn : GoodIn wsX12_number (va_wsS RX12 199 yX12_isIn wsX12_isIn) := goodIn_app (goodIn_of _ (by decide +kernel)) ggX12_number_X12_isIn
set_option maxRecDepth 20000 in
theorem ggX12_number_X12_token : GoodIn wsX12_number wsX12_token := goodIn_r _ [18, 19, 20, 21, 10, 1, 2, 22, 23, 24, 25, 7, 26, 27, 28, 29, 30, 31, 32, 33, 34, 35, 36, 37, 38, 39, 40, 41, 42, 43, 44, 45, 46, 47, 48, 49, 50, 51, 52, 53, 54, 55, 56, 57, 58, 59, 60, 61, 62, 63, 64, 65, 66, 67, 68, 69, 70, 71, 72, 73, 74, 75, 76, 77, 78, 79, 80, 81, 82, 83, 84, 85, 86, 87, 88, 89, 90, 91, 92, 93, 94, 95, 96, 97, 98, 99, 100, 101, 102, 103, 104, 105, 106, 107, 108, 109, 110, 111, 112, 113, 114, 115, 116, 117, 118, 119, 120, 121, 122, 123, 124, 125, 126, 127, 128, 129, 130] (by decide +kernel) (by decide +kernel)
set_option maxRecDepth 20000 in
theorem gX12_number_X12_token : GoodIn wsX12_number (wsV RX12 206 RX12 yX12_token wsX12_token) := goodIn_app (goodIn_of _ (by decide +kernel)) ggX12_number_X12_token
theorem dX12_number_0 : decode cX12_number 0 = .ok (.aload_n 0, 1) := by decide +kernel
theorem dX12_number_1 : decode cX12_number 1 = .ok (.getfield 172, 3) := by decide +kernel
theorem dX12_number_4 : decode cX12_number 4 = .ok (.iconst 3, 1) := by decide +kernel
theorem dX12_number_5 : decode cX12_number 5 = .ok (.if_icmp .eq 9, 3) := by decide +kernel
theorem dX12_number_8 : decode cX12_number 8 = .ok (.aload_n 0, 1) := by decide +kernel
theorem dX12_number_9 : decode cX12_number 9 = .ok (.iconst 1, 1) := by decide +kernel
theorem dX12_number_10 : decode cX12_number 10 = .ok (.invokevirtual 196, 3) := by decide +kernel
theorem dX12_number_13 : decode cX12_number 13 = .ok (.ireturn, 1) := by decide +kernel
theorem dX12_number_14 : decode cX12_number 14 = .ok (.aload_n 0, 1) := by decide +kernel
theorem dX12_number_15 : decode cX12_number 15 = .ok (.getfield 183, 3) := by decide +kernel
theorem dX12_number_18 : decode cX12_number 18 = .ok (.iload_n 1, 1) := by decide +kernel
theorem dX12_number_19 : decode cX12_number 19 = .ok (.iload_n 2, 1) := by decide +kernel
theorem dX12_number_20 : decode cX12_number 20 = .ok (.invokestatic 199, 3) := by decide +kernel
theorem dX12_number_23 : decode cX12_number 23 = .ok (.ifCond .ne 9, 3) := by decide +kernel
theorem dX12_number_26 : decode cX12_number 26 = .ok (.aload_n 0, 1) := by decide +kernel
theorem dX12_number_27 : decode cX12_number 27 = .ok (.iconst 2, 1) := by decide +kernel
theorem dX12_number_28 : decode cX12_number 28 = .ok (.invokevirtual 196, 3) := by decide +kernel
theorem dX12_number_31 : decode cX12_number 31 = .ok (.ireturn, 1) := by decide +kernel
theorem dX12_number_32 : decode cX12_number 32 = .ok (.aload_n 0, 1) := by decide +kernel
theorem dX12_number_33 : decode cX12_number 33 = .ok (.aload_n 0, 1) := by decide +kernel
theorem dX12_number_34 : decode cX12_number 34 = .ok (.getfield 183, 3) := by decide +kernel
theorem dX12_number_37 : decode cX12_number 37 = .ok (.putfield 203, 3) := by decide +kernel
theorem dX12_number_40 : decode cX12_number 40 = .ok (.aload_n 0, 1) := by decide +kernel
theorem dX12_number_41 : decode cX12_number 41 = .ok (.invokevirtual 206, 3) := by decide +kernel
theorem dX12_number_44 : decode cX12_number 44 = .ok (.iconst 1, 1) := by decide +kernel
theorem dX12_number_45 : decode cX12_number 45 = .ok (.ireturn, 1) := by decide +kernel
theorem dX12_plain_0 : decode cX12_plain 0 = .ok (.aload_n 0, 1) := by decide +kernel
theorem dX12_plain_1 : decode cX12_plain 1 = .ok (.bipush 6, 2) := by decide +kernel
theorem dX12_plain_3 : decode cX12_plain 3 = .ok (.putfield 216, 3) := by decide +kernel
theorem dX12_plain_6 : decode cX12_plain 6 = .ok (.aload_n 0, 1) := by decide +kernel
theorem dX12_plain_7 : decode cX12_plain 7 = .ok (.iconst 4, 1) := by decide +kernel
theorem dX12_plain_8 : decode cX12_plain 8 = .ok (.putfield 219, 3) := by decide +kernel
theorem dX12_plain_11 : decode cX12_plain 11 = .ok (.aload_n 0, 1) := by decide +kernel
theorem dX12_plain_12 : decode cX12_plain 12 = .ok (.iconst 0, 1) := by decide +kernel
theorem dX12_plain_13 : decode cX12_plain 13 = .ok (.putfield 222, 3) := by decide +kernel
theorem dX12_plain_16 : decode cX12_plain 16 = .ok (.aload_n 0, 1) := by decide +kernel
theorem dX12_plain_17 : decode cX12_plain 17 = .ok (.iconst 0, 1) := by decide +kernel
theorem dX12_plain_18 : decode cX12_plain 18 = .ok (.putfield 225, 3) := by decide +kernel
theorem dX12_plain_21 : decode cX12_plain 21 = .ok (.aload_n 0, 1) := by decide +kernel
theorem dX12_plain_22 : decode cX12_plain 22 = .ok (.iconst 0, 1) := by decide +kernel
theorem dX12_plain_23 : decode cX12_plain 23 = .ok (.putfield 228, 3) := by decide +kernel
theorem dX12_plain_26 : decode cX12_plain 26 = .ok (.aload_n 0, 1) := by decide +kernel
theorem dX12_plain_27 : decode cX12_plain 27 = .ok (.iconst 0, 1) := by decide +kernel
theorem dX12_plain_28 : decode cX12_plain 28 = .ok (.putfield 231, 3) := by decide +kernel
theorem dX12_plain_31 : decode cX12_plain 31 = .ok (.aload_n 0, 1) := by decide +kernel
theorem dX12_plain_32 : decode cX12_plain 32 = .ok (.iconst 0, 1) := by decide +kernel
theorem dX12_plain_33 : decode cX12_plain 33 = .ok (.putfield 234, 3) := by decide +kernel
theorem dX12_plain_36 : decode cX12_plain 36 = .ok (.aload_n 0, 1) := by decide +kernel
theorem dX12_plain_37 : decode cX12_plain 37 = .ok (.iconst 0, 1) := by decide +kernel
theorem dX12_plain_38 : decode cX12_plain 38 = .ok (.putfield 237, 3) := by decide +kernel
theorem dX12_plain_41 : decode cX12_plain 41 = .ok (.iconst 0, 1) := by decide +kernel
theorem dX12_plain_42 : decode cX12_plain 42 = .ok (.istore_n 1, 1) := by decide +kernel
theorem dX12_plain_43 : decode cX12_plain 43 = .ok (.iload_n 1, 1) := by decide +kernel
theorem dX12_plain_44 : decode cX12_plain 44 = .ok (.iconst 5, 1) := by decide +kernel
theorem dX12_plain_45 : decode cX12_plain 45 = .ok (.if_icmp .ge 16, 3) := by decide +kernel
theorem dX12_plain_48 : decode cX12_plain 48 = .ok (.aload_n 0, 1) := by decide +kernel
theorem dX12_plain_49 : decode cX12_plain 49 = .ok (.getfield 20, 3) := by decide +kernel
theorem dX12_plain_52 : decode cX12_plain 52 = .ok (.iload_n 1, 1) := by decide +kernel
theorem dX12_plain_53 : decode cX12_plain 53 = .ok (.iconst 0, 1) := by decide +kernel
theorem dX12_plain_54 : decode cX12_plain 54 = .ok (.bastore, 1) := by decide +kernel
theorem dX12_plain_55 : decode cX12_plain 55 = .ok (.iinc 1 1, 3) := by decide +kernel
theorem dX12_plain_58 : decode cX12_plain 58 = .ok (.goto (-15), 3) := by decide +kernel
theorem dX12_plain_61 : decode cX12_plain 61 = .ok (.bipush 7, 2) := by decide +kernel
theorem dX12_plain_63 : decode cX12_plain 63 = .ok (.istore_n 1, 1) := by decide +kernel
theorem dX12_plain_64 : decode cX12_plain 64 = .ok (.iload_n 1, 1) := by decide +kernel
theorem dX12_plain_65 : decode cX12_plain 65 = .ok (.bipush 14, 2) := by decide +kernel
theorem dX12_plain_67 : decode cX12_plain 67 = .ok (.if_icmp .ge 16, 3) := by decide +kernel
theorem dX12_plain_70 : decode cX12_plain 70 = .ok (.aload_n 0, 1) := by decide +kernel
theorem dX12_plain_71 : decode cX12_plain 71 = .ok (.getfield 24, 3) := by decide +kernel
theorem dX12_plain_74 : decode cX12_plain 74 = .ok (.iload_n 1, 1) := by decide +kernel
theorem dX12_plain_75 : decode cX12_plain 75 = .ok (.iconst 0, 1) := by decide +kernel
theorem dX12_plain_76 : decode cX12_plain 76 = .ok (.iastore, 1) := by decide +kernel
theorem dX12_plain_77 : decode cX12_plain 77 = .ok (.iinc 1 1, 3) := by decide +kernel
theorem dX12_plain_80 : decode cX12_plain 80 = .ok (.goto (-16), 3) := by decide +kernel
theorem dX12_plain_83 : decode cX12_plain 83 = .ok (.iconst 3, 1) := by decide +kernel
theorem dX12_plain_84 : decode cX12_plain 84 = .ok (.istore_n 1, 1) := by decide +kernel
theorem dX12_plain_85 : decode cX12_plain 85 = .ok (.iload_n 1, 1) := by decide +kernel
theorem dX12_plain_86 : decode cX12_plain 86 = .ok (.bipush 6, 2) := by decide +kernel
theorem dX12_plain_88 : decode cX12_plain 88 = .ok (.if_icmp .ge 16, 3) := by decide +kernel
theorem dX12_plain_91 : decode cX12_plain 91 = .ok (.aload_n 0, 1) := by decide +kernel
theorem dX12_plain_92 : decode cX12_plain 92 = .ok (.getfield 57, 3) := by decide +kernel
theorem dX12_plain_95 : decode cX12_plain 95 = .ok (.iload_n 1, 1) := by decide +kernel
theorem dX12_plain_96 : decode cX12_plain 96 = .ok (.iconst 0, 1) := by decide +kernel
theorem dX12_plain_97 : decode cX12_plain 97 = .ok (.bastore, 1) := by decide +kernel
theorem dX12_plain_98 : decode cX12_plain 98 = .ok (.iinc 1 1, 3) := by decide +kernel
theorem dX12_plain_101 : decode cX12_plain 101 = .ok (.goto (-16), 3) := by decide +kernel
theorem dX12_plain_104 : decode cX12_plain 104 = .ok (.return_, 1) := by decide +kernel
theorem dX12_copies_0 : decode cX12_copies 0 = .ok (.iconst 0, 1) := by decide +kernel
theorem dX12_copies_1 : decode cX12_copies 1 = .ok (.istore_n 2, 1) := by decide +kernel
theorem dX12_copies_2 : decode cX12_copies 2 = .ok (.iload_n 2, 1) := by decide +kernel
theorem dX12_copies_3 : decode cX12_copies 3 = .ok (.iload_n 1, 1) := by decide +kernel
theorem dX12_copies_4 : decode cX12_copies 4 = .ok (.if_icmp .ge 17, 3) := by decide +kernel
theorem dX12_copies_7 : decode cX12_copies 7 = .ok (.aload_n 0, 1) := by decide +kernel
theorem dX12_copies_8 : decode cX12_copies 8 = .ok (.iload_n 2, 1) := by decide +kernel
theorem dX12_copies_9 : decode cX12_copies 9 = .ok (.aload_n 0, 1) := by decide +kernel
theorem dX12_copies_10 : decode cX12_copies 10 = .ok (.iload_n 1, 1) := by decide +kernel
theorem dX12_copies_11 : decode cX12_copies 11 = .ok (.iload_n 2, 1) := by decide +kernel
theorem dX12_copies_12 : decode cX12_copies 12 = .ok (.iadd, 1) := by decide +kernel
theorem dX12_copies_13 : decode cX12_copies 13 = .ok (.iaload, 1) := by decide +kernel
theorem dX12_copies_14 : decode cX12_copies 14 = .ok (.iastore, 1) := by decide +kernel
theorem dX12_copies_15 : decode cX12_copies 15 = .ok (.iinc 2 1, 3) := by decide +kernel
theorem dX12_copies_18 : decode cX12_copies 18 = .ok (.goto (-16), 3) := by decide +kernel
theorem dX12_copies_21 : decode cX12_copies 21 = .ok (.return_, 1) := by decide +kernel
set_option maxRecDepth 20000 in
theorem ggX12_keepText_X12_copies : GoodIn wsX12_keepText wsX12_copies := goodIn_r _ [33] (by decide +kernel) (by decide +kernel)
set_option maxRecDepth 20000 in
theorem gX12_keepText_X12_copies : GoodIn wsX12_keepText (va_wsS RX12 259 yX12_copies wsX12_copies) := goodIn_app (goodIn_of _ (by decide +kernel)) ggX12_keepText_X12_copies
set_option maxRecDepth 20000 in
theorem ggX12_keepText_X12_begin : GoodIn wsX12_keepText wsX12_begin := goodIn_r _ [37, 38, 15, 39, 40, 41, 42, 17, 43, 44, 45, 46, 13, 47, 48, 49, 50, 51, 52, 53, 54, 55, 56, 57, 58, 59, 60, 61, 62, 63, 64, 65, 66, 67, 68, 69, 70, 71, 72, 73, 74, 75, 76, 77, 78, 79, 80, 81, 82, 83, 84, 85, 86, 87, 88, 89, 90, 91, 92, 93, 94, 95, 96, 97, 98, 99, 100, 101, 102, 103, 104, 105, 106, 107, 108, 109, 110, 111, 112, 113, 114, 115, 116, 117, 118, 119, 120, 121, 122, 123, 124, 125, 126, 127, 128, 129, 130, 131, 132, 133, 134, 135, 136, 137, 138, 139, 140] (by decide +kernel) (by decide +kernel)
set_option maxRecDepth 20000 in
theorem gX12_keepText_X12_begin : GoodIn wsX12_keepText (wsV RX12 263 RX12 yX12_begin wsX12_begin) := goodIn_app (goodIn_of _ (by decide +kernel)) ggX12_keepText_X12_begin
theorem dX12_keepText_0 : decode cX12_keepText 0 = .ok (.aload_n 0, 1) := by decide +kernel
theorem dX12_keepText_1 : decode cX12_keepText 1 = .ok (.aload_n 0, 1) := by decide +kernel
theorem dX12_keepText_2 : decode cX12_keepText 2 = .ok (.getfield 216, 3) := by decide +kernel
theorem dX12_keepText_5 : decode cX12_keepText 5 = .ok (.putfield 241, 3) := by decide +kernel
theorem dX12_keepText_8 : decode cX12_keepText 8 = .ok (.aload_n 0, 1) := by decide +kernel
theorem dX12_keepText_9 : decode cX12_keepText 9 = .ok (.aload_n 0, 1) := by decide +kernel
theorem dX12_keepText_10 : decode cX12_keepText 10 = .ok (.getfield 219, 3) := by decide +kernel
theorem dX12_keepText_13 : decode cX12_keepText 13 = .ok (.putfield 244, 3) := by decide +kernel
theorem dX12_keepText_16 : decode cX12_keepText 16 = .ok (.aload_n 0, 1) := by decide +kernel
theorem dX12_keepText_17 : decode cX12_keepText 17 = .ok (.aload_n 0, 1) := by decide +kernel
theorem dX12_keepText_18 : decode cX12_keepText 18 = .ok (.getfield 222, 3) := by decide +kernel
theorem dX12_keepText_21 : decode cX12_keepText 21 = .ok (.putfield 247, 3) := by decide +kernel
theorem dX12_keepText_24 : decode cX12_keepText 24 = .ok (.aload_n 0, 1) := by decide +kernel
theorem dX12_keepText_25 : decode cX12_keepText 25 = .ok (.aload_n 0, 1) := by decide +kernel
theorem dX12_keepText_26 : decode cX12_keepText 26 = .ok (.getfield 225, 3) := by decide +kernel
theorem dX12_keepText_29 : decode cX12_keepText 29 = .ok (.putfield 250, 3) := by decide +kernel
theorem dX12_keepText_32 : decode cX12_keepText 32 = .ok (.aload_n 0, 1) := by decide +kernel
theorem dX12_keepText_33 : decode cX12_keepText 33 = .ok (.aload_n 0, 1) := by decide +kernel
theorem dX12_keepText_34 : decode cX12_keepText 34 = .ok (.getfield 228, 3) := by decide +kernel
theorem dX12_keepText_37 : decode cX12_keepText 37 = .ok (.putfield 253, 3) := by decide +kernel
theorem dX12_keepText_40 : decode cX12_keepText 40 = .ok (.aload_n 0, 1) := by decide +kernel
theorem dX12_keepText_41 : decode cX12_keepText 41 = .ok (.aload_n 0, 1) := by decide +kernel
theorem dX12_keepText_42 : decode cX12_keepText 42 = .ok (.getfield 231, 3) := by decide +kernel
theorem dX12_keepText_45 : decode cX12_keepText 45 = .ok (.putfield 256, 3) := by decide +kernel
theorem dX12_keepText_48 : decode cX12_keepText 48 = .ok (.aload_n 0, 1) := by decide +kernel
theorem dX12_keepText_49 : decode cX12_keepText 49 = .ok (.getfield 24, 3) := by decide +kernel
theorem dX12_keepText_52 : decode cX12_keepText 52 = .ok (.bipush 7, 2) := by decide +kernel
theorem dX12_keepText_54 : decode cX12_keepText 54 = .ok (.invokestatic 259, 3) := by decide +kernel
theorem dX12_keepText_57 : decode cX12_keepText 57 = .ok (.aload_n 0, 1) := by decide +kernel
theorem dX12_keepText_58 : decode cX12_keepText 58 = .ok (.getfield 27, 3) := by decide +kernel
theorem dX12_keepText_61 : decode cX12_keepText 61 = .ok (.iconst 5, 1) := by decide +kernel
theorem dX12_keepText_62 : decode cX12_keepText 62 = .ok (.invokestatic 259, 3) := by decide +kernel
theorem dX12_keepText_65 : decode cX12_keepText 65 = .ok (.aload_n 0, 1) := by decide +kernel
theorem dX12_keepText_66 : decode cX12_keepText 66 = .ok (.getfield 30, 3) := by decide +kernel
theorem dX12_keepText_69 : decode cX12_keepText 69 = .ok (.iconst 5, 1) := by decide +kernel
theorem dX12_keepText_70 : decode cX12_keepText 70 = .ok (.invokestatic 259, 3) := by decide +kernel
theorem dX12_keepText_73 : decode cX12_keepText 73 = .ok (.aload_n 0, 1) := by decide +kernel
theorem dX12_keepText_74 : decode cX12_keepText 74 = .ok (.getfield 33, 3) := by decide +kernel
theorem dX12_keepText_77 : decode cX12_keepText 77 = .ok (.iconst 5, 1) := by decide +kernel
theorem dX12_keepText_78 : decode cX12_keepText 78 = .ok (.invokestatic 259, 3) := by decide +kernel
theorem dX12_keepText_81 : decode cX12_keepText 81 = .ok (.aload_n 0, 1) := by decide +kernel
theorem dX12_keepText_82 : decode cX12_keepText 82 = .ok (.getfield 36, 3) := by decide +kernel
theorem dX12_keepText_85 : decode cX12_keepText 85 = .ok (.iconst 5, 1) := by decide +kernel
theorem dX12_keepText_86 : decode cX12_keepText 86 = .ok (.invokestatic 259, 3) := by decide +kernel
theorem dX12_keepText_89 : decode cX12_keepText 89 = .ok (.aload_n 0, 1) := by decide +kernel
theorem dX12_keepText_90 : decode cX12_keepText 90 = .ok (.getfield 39, 3) := by decide +kernel
theorem dX12_keepText_93 : decode cX12_keepText 93 = .ok (.iconst 5, 1) := by decide +kernel
theorem dX12_keepText_94 : decode cX12_keepText 94 = .ok (.invokestatic 259, 3) := by decide +kernel
theorem dX12_keepText_97 : decode cX12_keepText 97 = .ok (.aload_n 0, 1) := by decide +kernel
theorem dX12_keepText_98 : decode cX12_keepText 98 = .ok (.getfield 42, 3) := by decide +kernel
theorem dX12_keepText_101 : decode cX12_keepText 101 = .ok (.iconst 5, 1) := by decide +kernel
theorem dX12_keepText_102 : decode cX12_keepText 102 = .ok (.invokestatic 259, 3) := by decide +kernel
theorem dX12_keepText_105 : decode cX12_keepText 105 = .ok (.aload_n 0, 1) := by decide +kernel
theorem dX12_keepText_106 : decode cX12_keepText 106 = .ok (.getfield 45, 3) := by decide +kernel
theorem dX12_keepText_109 : decode cX12_keepText 109 = .ok (.iconst 4, 1) := by decide +kernel
theorem dX12_keepText_110 : decode cX12_keepText 110 = .ok (.invokestatic 259, 3) := by decide +kernel
theorem dX12_keepText_113 : decode cX12_keepText 113 = .ok (.aload_n 0, 1) := by decide +kernel
theorem dX12_keepText_114 : decode cX12_keepText 114 = .ok (.getfield 48, 3) := by decide +kernel
theorem dX12_keepText_117 : decode cX12_keepText 117 = .ok (.bipush 28, 2) := by decide +kernel
theorem dX12_keepText_119 : decode cX12_keepText 119 = .ok (.invokestatic 259, 3) := by decide +kernel
theorem dX12_keepText_122 : decode cX12_keepText 122 = .ok (.aload_n 0, 1) := by decide +kernel
theorem dX12_keepText_123 : decode cX12_keepText 123 = .ok (.getfield 51, 3) := by decide +kernel
theorem dX12_keepText_126 : decode cX12_keepText 126 = .ok (.bipush 28, 2) := by decide +kernel
theorem dX12_keepText_128 : decode cX12_keepText 128 = .ok (.invokestatic 259, 3) := by decide +kernel
theorem dX12_keepText_131 : decode cX12_keepText 131 = .ok (.aload_n 0, 1) := by decide +kernel
theorem dX12_keepText_132 : decode cX12_keepText 132 = .ok (.getfield 54, 3) := by decide +kernel
theorem dX12_keepText_135 : decode cX12_keepText 135 = .ok (.bipush 28, 2) := by decide +kernel
theorem dX12_keepText_137 : decode cX12_keepText 137 = .ok (.invokestatic 259, 3) := by decide +kernel
theorem dX12_keepText_140 : decode cX12_keepText 140 = .ok (.iconst 0, 1) := by decide +kernel
theorem dX12_keepText_141 : decode cX12_keepText 141 = .ok (.istore_n 1, 1) := by decide +kernel
theorem dX12_keepText_142 : decode cX12_keepText 142 = .ok (.iload_n 1, 1) := by decide +kernel
theorem dX12_keepText_143 : decode cX12_keepText 143 = .ok (.iconst 3, 1) := by decide +kernel
theorem dX12_keepText_144 : decode cX12_keepText 144 = .ok (.if_icmp .ge 23, 3) := by decide +kernel
theorem dX12_keepText_147 : decode cX12_keepText 147 = .ok (.aload_n 0, 1) := by decide +kernel
theorem dX12_keepText_148 : decode cX12_keepText 148 = .ok (.getfield 57, 3) := by decide +kernel
theorem dX12_keepText_151 : decode cX12_keepText 151 = .ok (.iload_n 1, 1) := by decide +kernel
theorem dX12_keepText_152 : decode cX12_keepText 152 = .ok (.aload_n 0, 1) := by decide +kernel
theorem dX12_keepText_153 : decode cX12_keepText 153 = .ok (.getfield 57, 3) := by decide +kernel
theorem dX12_keepText_156 : decode cX12_keepText 156 = .ok (.iconst 3, 1) := by decide +kernel
theorem dX12_keepText_157 : decode cX12_keepText 157 = .ok (.iload_n 1, 1) := by decide +kernel
theorem dX12_keepText_158 : decode cX12_keepText 158 = .ok (.iadd, 1) := by decide +kernel
theorem dX12_keepText_159 : decode cX12_keepText 159 = .ok (.baload, 1) := by decide +kernel
theorem dX12_keepText_160 : decode cX12_keepText 160 = .ok (.bastore, 1) := by decide +kernel
theorem dX12_keepText_161 : decode cX12_keepText 161 = .ok (.iinc 1 1, 3) := by decide +kernel
theorem dX12_keepText_164 : decode cX12_keepText 164 = .ok (.goto (-22), 3) := by decide +kernel
theorem dX12_keepText_167 : decode cX12_keepText 167 = .ok (.aload_n 0, 1) := by decide +kernel
theorem dX12_keepText_168 : decode cX12_keepText 168 = .ok (.getfield 60, 3) := by decide +kernel
theorem dX12_keepText_171 : decode cX12_keepText 171 = .ok (.iconst 3, 1) := by decide +kernel
theorem dX12_keepText_172 : decode cX12_keepText 172 = .ok (.invokestatic 259, 3) := by decide +kernel
theorem dX12_keepText_175 : decode cX12_keepText 175 = .ok (.aload_n 0, 1) := by decide +kernel
theorem dX12_keepText_176 : decode cX12_keepText 176 = .ok (.getfield 63, 3) := by decide +kernel
theorem dX12_keepText_179 : decode cX12_keepText 179 = .ok (.iconst 3, 1) := by decide +kernel
theorem dX12_keepText_180 : decode cX12_keepText 180 = .ok (.invokestatic 259, 3) := by decide +kernel
theorem dX12_keepText_183 : decode cX12_keepText 183 = .ok (.aload_n 0, 1) := by decide +kernel
theorem dX12_keepText_184 : decode cX12_keepText 184 = .ok (.getfield 66, 3) := by decide +kernel
theorem dX12_keepText_187 : decode cX12_keepText 187 = .ok (.bipush 64, 2) := by decide +kernel
theorem dX12_keepText_189 : decode cX12_keepText 189 = .ok (.invokestatic 259, 3) := by decide +kernel
theorem dX12_keepText_192 : decode cX12_keepText 192 = .ok (.aload_n 0, 1) := by decide +kernel
theorem dX12_keepText_193 : decode cX12_keepText 193 = .ok (.getfield 69, 3) := by decide +kernel
theorem dX12_keepText_196 : decode cX12_keepText 196 = .ok (.bipush 64, 2) := by decide +kernel
theorem dX12_keepText_198 : decode cX12_keepText 198 = .ok (.invokestatic 259, 3) := by decide +kernel
theorem dX12_keepText_201 : decode cX12_keepText 201 = .ok (.aload_n 0, 1) := by decide +kernel
theorem dX12_keepText_202 : decode cX12_keepText 202 = .ok (.getfield 72, 3) := by decide +kernel
theorem dX12_keepText_205 : decode cX12_keepText 205 = .ok (.bipush 64, 2) := by decide +kernel
theorem dX12_keepText_207 : decode cX12_keepText 207 = .ok (.invokestatic 259, 3) := by decide +kernel
theorem dX12_keepText_210 : decode cX12_keepText 210 = .ok (.aload_n 0, 1) := by decide +kernel
theorem dX12_keepText_211 : decode cX12_keepText 211 = .ok (.invokevirtual 263, 3) := by decide +kernel
theorem dX12_keepText_214 : decode cX12_keepText 214 = .ok (.return_, 1) := by decide +kernel
theorem dX12_find_0 : decode cX12_find 0 = .ok (.iconst 0, 1) := by decide +kernel
theorem dX12_find_1 : decode cX12_find 1 = .ok (.istore 4, 2) := by decide +kernel
theorem dX12_find_3 : decode cX12_find 3 = .ok (.iload 4, 2) := by decide +kernel
theorem dX12_find_5 : decode cX12_find 5 = .ok (.iload_n 2, 1) := by decide +kernel
theorem dX12_find_6 : decode cX12_find 6 = .ok (.if_icmp .ge 22, 3) := by decide +kernel
theorem dX12_find_9 : decode cX12_find 9 = .ok (.aload_n 0, 1) := by decide +kernel
theorem dX12_find_10 : decode cX12_find 10 = .ok (.iload_n 1, 1) := by decide +kernel
theorem dX12_find_11 : decode cX12_find 11 = .ok (.iload 4, 2) := by decide +kernel
theorem dX12_find_13 : decode cX12_find 13 = .ok (.iadd, 1) := by decide +kernel
theorem dX12_find_14 : decode cX12_find 14 = .ok (.iaload, 1) := by decide +kernel
theorem dX12_find_15 : decode cX12_find 15 = .ok (.iload_n 3, 1) := by decide +kernel
theorem dX12_find_16 : decode cX12_find 16 = .ok (.if_icmp .ne 6, 3) := by decide +kernel
theorem dX12_find_19 : decode cX12_find 19 = .ok (.iload 4, 2) := by decide +kernel
theorem dX12_find_21 : decode cX12_find 21 = .ok (.ireturn, 1) := by decide +kernel
theorem dX12_find_22 : decode cX12_find 22 = .ok (.iinc 4 1, 3) := by decide +kernel
theorem dX12_find_25 : decode cX12_find 25 = .ok (.goto (-22), 3) := by decide +kernel
theorem dX12_find_28 : decode cX12_find 28 = .ok (.iconst (-1), 1) := by decide +kernel
theorem dX12_find_29 : decode cX12_find 29 = .ok (.ireturn, 1) := by decide +kernel
set_option maxRecDepth 20000 in
theorem ggX12_cellRead_X12_number : GoodIn wsX12_cellRead wsX12_number := goodIn_r _ [10, 11, 12, 3, 13, 14, 15, 9, 16, 17, 18, 19, 20, 21, 22, 23, 24, 25, 26, 27, 28, 29, 30, 31, 32, 33, 34, 35, 36, 37, 38, 39, 40, 41, 42, 43, 44, 45, 46, 47, 48, 49, 50, 51, 52, 53, 54, 55, 56, 57, 58, 59, 60, 61, 62, 63, 64, 65, 66, 67, 68, 69, 70, 71, 72, 73, 74, 75, 76, 77, 78, 79, 80, 81, 82, 83, 84, 85, 86, 87, 88, 89, 90, 91, 92, 93, 94, 95, 96, 97, 98, 99, 100, 101, 102, 103, 104, 105, 106, 107, 108, 109, 110, 111, 112, 113, 114, 115, 116, 117, 118, 119, 120, 121, 122, 123, 124, 125, 126, 127, 128, 129, 130, 131, 132, 133, 134, 135, 136, 137, 138] (by decide +kernel) (by decide +kernel)
set_option maxRecDepth 20000 in
theorem gX12_cellRead_X12_number : GoodIn wsX12_cellRead (wsV RX12 212 RX12 yX12_number wsX12_number) := goodIn_app (goodIn_of _ (by decide +kernel)) ggX12_cellRead_X12_number
theorem dX12_cellRead_0 : decode cX12_cellRead 0 = .ok (.aload_n 0, 1) := by decide +kernel
theorem dX12_cellRead_1 : decode cX12_cellRead 1 = .ok (.iconst 1, 1) := by decide +kernel
theorem dX12_cellRead_2 : decode cX12_cellRead 2 = .ok (.putfield 237, 3) := by decide +kernel
theorem dX12_cellRead_5 : decode cX12_cellRead 5 = .ok (.aload_n 0, 1) := by decide +kernel
theorem dX12_cellRead_6 : decode cX12_cellRead 6 = .ok (.iconst 0, 1) := by decide +kernel
theorem dX12_cellRead_7 : decode cX12_cellRead 7 = .ok (.aload_n 0, 1) := by decide +kernel
theorem dX12_cellRead_8 : decode cX12_cellRead 8 = .ok (.getfield 216, 3) := by decide +kernel
theorem dX12_cellRead_11 : decode cX12_cellRead 11 = .ok (.iconst 1, 1) := by decide +kernel
theorem dX12_cellRead_12 : decode cX12_cellRead 12 = .ok (.isub, 1) := by decide +kernel
theorem dX12_cellRead_13 : decode cX12_cellRead 13 = .ok (.invokevirtual 212, 3) := by decide +kernel
theorem dX12_cellRead_16 : decode cX12_cellRead 16 = .ok (.ifCond .ne 5, 3) := by decide +kernel
theorem dX12_cellRead_19 : decode cX12_cellRead 19 = .ok (.iconst 0, 1) := by decide +kernel
theorem dX12_cellRead_20 : decode cX12_cellRead 20 = .ok (.ireturn, 1) := by decide +kernel
theorem dX12_cellRead_21 : decode cX12_cellRead 21 = .ok (.aload_n 0, 1) := by decide +kernel
theorem dX12_cellRead_22 : decode cX12_cellRead 22 = .ok (.aload_n 0, 1) := by decide +kernel
theorem dX12_cellRead_23 : decode cX12_cellRead 23 = .ok (.getfield 203, 3) := by decide +kernel
theorem dX12_cellRead_26 : decode cX12_cellRead 26 = .ok (.putfield 266, 3) := by decide +kernel
theorem dX12_cellRead_29 : decode cX12_cellRead 29 = .ok (.aload_n 0, 1) := by decide +kernel
theorem dX12_cellRead_30 : decode cX12_cellRead 30 = .ok (.iconst 0, 1) := by decide +kernel
theorem dX12_cellRead_31 : decode cX12_cellRead 31 = .ok (.aload_n 0, 1) := by decide +kernel
theorem dX12_cellRead_32 : decode cX12_cellRead 32 = .ok (.getfield 219, 3) := by decide +kernel
theorem dX12_cellRead_35 : decode cX12_cellRead 35 = .ok (.iconst 1, 1) := by decide +kernel
theorem dX12_cellRead_36 : decode cX12_cellRead 36 = .ok (.isub, 1) := by decide +kernel
theorem dX12_cellRead_37 : decode cX12_cellRead 37 = .ok (.invokevirtual 212, 3) := by decide +kernel
theorem dX12_cellRead_40 : decode cX12_cellRead 40 = .ok (.ifCond .ne 5, 3) := by decide +kernel
theorem dX12_cellRead_43 : decode cX12_cellRead 43 = .ok (.iconst 0, 1) := by decide +kernel
theorem dX12_cellRead_44 : decode cX12_cellRead 44 = .ok (.ireturn, 1) := by decide +kernel
theorem dX12_cellRead_45 : decode cX12_cellRead 45 = .ok (.iconst 1, 1) := by decide +kernel
theorem dX12_cellRead_46 : decode cX12_cellRead 46 = .ok (.ireturn, 1) := by decide +kernel
set_option maxRecDepth 20000 in
theorem ggX12_seaLine_X12_wrong : GoodIn wsX12_seaLine wsX12_wrong := goodIn_r _ [10, 11, 12, 13, 52, 53, 54, 55, 56, 57, 58, 59, 60, 61, 62, 63, 64, 65, 66, 67, 68, 69, 70, 71, 72, 73, 74, 75, 76, 77, 78, 79, 80, 81, 82, 83, 84, 85, 86, 87, 88, 89, 90, 91, 92, 93, 94, 95, 96, 97, 98, 99, 100, 101, 102, 103, 104, 105, 106, 107, 108, 109, 110, 111, 112, 113, 114, 115, 116, 117, 118, 119, 120, 121, 122, 123, 124, 125, 126, 127, 128, 129, 130, 131, 132, 133, 134, 135, 136, 137, 138] (by decide +kernel) (by decide +kernel)
set_option maxRecDepth 20000 in
theorem gX12_seaLine_X12_wrong : GoodIn wsX12_seaLine (wsV RX12 196 RX12 yX12_wrong wsX12_wrong) := goodIn_app (goodIn_of _ (by decide +kernel)) ggX12_seaLine_X12_wrong
set_option maxRecDepth 20000 in
theorem ggX12_seaLine_X12_token : GoodIn wsX12_seaLine wsX12_token := goodIn_r _ [17, 18, 19, 20, 12, 21, 22, 23, 24, 25, 26, 9, 27, 28, 29, 30, 31, 32, 33, 34, 35, 36, 37, 38, 39, 40, 41, 42, 43, 44, 52, 53, 54, 55, 56, 57, 58, 59, 60, 61, 62, 63, 64, 65, 66, 67, 68, 69, 70, 71, 72, 73, 74, 75, 76, 77, 78, 79, 80, 81, 82, 83, 84, 85, 86, 87, 88, 89, 90, 91, 92, 93, 94, 95, 96, 97, 98, 99, 100, 101, 102, 103, 104, 105, 106, 107, 108, 109, 110, 111, 112, 113, 114, 115, 116, 117, 118, 119, 120, 121, 122, 123, 124, 125, 126, 127, 128, 129, 130, 131, 132, 133, 134, 135, 136, 137, 138] (by decide +kernel) (by decide +kernel)
set_option maxRecDepth 20000 in
theorem gX12_seaLine_X12_token : GoodIn wsX12_seaLine (wsV RX12 206 RX12 yX12_token wsX12_token) := goodIn_app (goodIn_of _ (by decide +kernel)) ggX12_seaLine_X12_token
set_option maxRecDepth 20000 in
theorem ggX12_seaLine_X12_number : GoodIn wsX12_seaLine wsX12_number := goodIn_r _ [48, 21, 22, 3, 6, 7, 8, 9, 10, 11, 12, 13, 49, 50, 51, 14, 15, 16, 17, 18, 19, 20, 23, 24, 25, 26, 27, 28, 29, 30, 31, 32, 33, 34, 35, 36, 37, 38, 39, 40, 41, 42, 43, 44, 52, 53, 54, 55, 56, 57, 58, 59, 60, 61, 62, 63, 64, 65, 66, 67, 68, 69, 70, 71, 72, 73, 74, 75, 76, 77, 78, 79, 80, 81, 82, 83, 84, 85, 86, 87, 88, 89, 90, 91, 92, 93, 94, 95, 96, 97, 98, 99, 100, 101, 102, 103, 104, 105, 106, 107, 108, 109, 110, 111, 112, 113, 114, 115, 116, 117, 118, 119, 120, 121, 122, 123, 124, 125, 126, 127, 128, 129, 130, 131, 132, 133, 134, 135, 136, 137, 138] (by decide +kernel) (by decide +kernel)
set_option maxRecDepth 20000 in
theorem gX12_seaLine_X12_number : GoodIn wsX12_seaLine (wsV RX12 212 RX12 yX12_number wsX12_number) := goodIn_app (goodIn_of _ (by decide +kernel)) ggX12_seaLine_X12_number
theorem dX12_seaLine_0 : decode cX12_seaLine 0 = .ok (.aload_n 0, 1) := by decide +kernel
theorem dX12_seaLine_1 : decode cX12_seaLine 1 = .ok (.getfield 20, 3) := by decide +kernel
theorem dX12_seaLine_4 : decode cX12_seaLine 4 = .ok (.iconst 0, 1) := by decide +kernel
theorem dX12_seaLine_5 : decode cX12_seaLine 5 = .ok (.baload, 1) := by decide +kernel
theorem dX12_seaLine_6 : decode cX12_seaLine 6 = .ok (.ifCond .eq 9, 3) := by decide +kernel
theorem dX12_seaLine_9 : decode cX12_seaLine 9 = .ok (.aload_n 0, 1) := by decide +kernel
theorem dX12_seaLine_10 : decode cX12_seaLine 10 = .ok (.iconst 3, 1) := by decide +kernel
theorem dX12_seaLine_11 : decode cX12_seaLine 11 = .ok (.invokevirtual 196, 3) := by decide +kernel
theorem dX12_seaLine_14 : decode cX12_seaLine 14 = .ok (.ireturn, 1) := by decide +kernel
theorem dX12_seaLine_15 : decode cX12_seaLine 15 = .ok (.aload_n 0, 1) := by decide +kernel
theorem dX12_seaLine_16 : decode cX12_seaLine 16 = .ok (.getfield 237, 3) := by decide +kernel
theorem dX12_seaLine_19 : decode cX12_seaLine 19 = .ok (.ifCond .eq 9, 3) := by decide +kernel
theorem dX12_seaLine_22 : decode cX12_seaLine 22 = .ok (.aload_n 0, 1) := by decide +kernel
theorem dX12_seaLine_23 : decode cX12_seaLine 23 = .ok (.iconst 4, 1) := by decide +kernel
theorem dX12_seaLine_24 : decode cX12_seaLine 24 = .ok (.invokevirtual 196, 3) := by decide +kernel
theorem dX12_seaLine_27 : decode cX12_seaLine 27 = .ok (.ireturn, 1) := by decide +kernel
theorem dX12_seaLine_28 : decode cX12_seaLine 28 = .ok (.aload_n 0, 1) := by decide +kernel
theorem dX12_seaLine_29 : decode cX12_seaLine 29 = .ok (.getfield 20, 3) := by decide +kernel
theorem dX12_seaLine_32 : decode cX12_seaLine 32 = .ok (.iconst 0, 1) := by decide +kernel
theorem dX12_seaLine_33 : decode cX12_seaLine 33 = .ok (.iconst 1, 1) := by decide +kernel
theorem dX12_seaLine_34 : decode cX12_seaLine 34 = .ok (.bastore, 1) := by decide +kernel
theorem dX12_seaLine_35 : decode cX12_seaLine 35 = .ok (.aload_n 0, 1) := by decide +kernel
theorem dX12_seaLine_36 : decode cX12_seaLine 36 = .ok (.invokevirtual 206, 3) := by decide +kernel
theorem dX12_seaLine_39 : decode cX12_seaLine 39 = .ok (.aload_n 0, 1) := by decide +kernel
theorem dX12_seaLine_40 : decode cX12_seaLine 40 = .ok (.iconst 1, 1) := by decide +kernel
theorem dX12_seaLine_41 : decode cX12_seaLine 41 = .ok (.bipush 8, 2) := by decide +kernel
theorem dX12_seaLine_43 : decode cX12_seaLine 43 = .ok (.invokevirtual 212, 3) := by decide +kernel
theorem dX12_seaLine_46 : decode cX12_seaLine 46 = .ok (.ifCond .ne 5, 3) := by decide +kernel
theorem dX12_seaLine_49 : decode cX12_seaLine 49 = .ok (.iconst 0, 1) := by decide +kernel
theorem dX12_seaLine_50 : decode cX12_seaLine 50 = .ok (.ireturn, 1) := by decide +kernel
theorem dX12_seaLine_51 : decode cX12_seaLine 51 = .ok (.aload_n 0, 1) := by decide +kernel
theorem dX12_seaLine_52 : decode cX12_seaLine 52 = .ok (.aload_n 0, 1) := by decide +kernel
theorem dX12_seaLine_53 : decode cX12_seaLine 53 = .ok (.getfield 203, 3) := by decide +kernel
theorem dX12_seaLine_56 : decode cX12_seaLine 56 = .ok (.putfield 216, 3) := by decide +kernel
theorem dX12_seaLine_59 : decode cX12_seaLine 59 = .ok (.aload_n 0, 1) := by decide +kernel
theorem dX12_seaLine_60 : decode cX12_seaLine 60 = .ok (.iconst 1, 1) := by decide +kernel
theorem dX12_seaLine_61 : decode cX12_seaLine 61 = .ok (.bipush 6, 2) := by decide +kernel
theorem dX12_seaLine_63 : decode cX12_seaLine 63 = .ok (.invokevirtual 212, 3) := by decide +kernel
theorem dX12_seaLine_66 : decode cX12_seaLine 66 = .ok (.ifCond .ne 5, 3) := by decide +kernel
theorem dX12_seaLine_69 : decode cX12_seaLine 69 = .ok (.iconst 0, 1) := by decide +kernel
theorem dX12_seaLine_70 : decode cX12_seaLine 70 = .ok (.ireturn, 1) := by decide +kernel
theorem dX12_seaLine_71 : decode cX12_seaLine 71 = .ok (.aload_n 0, 1) := by decide +kernel
theorem dX12_seaLine_72 : decode cX12_seaLine 72 = .ok (.aload_n 0, 1) := by decide +kernel
theorem dX12_seaLine_73 : decode cX12_seaLine 73 = .ok (.getfield 203, 3) := by decide +kernel
theorem dX12_seaLine_76 : decode cX12_seaLine 76 = .ok (.putfield 219, 3) := by decide +kernel
theorem dX12_seaLine_79 : decode cX12_seaLine 79 = .ok (.iconst 1, 1) := by decide +kernel
theorem dX12_seaLine_80 : decode cX12_seaLine 80 = .ok (.ireturn, 1) := by decide +kernel
set_option maxRecDepth 20000 in
theorem ggX12_surferLine_X12_wrong : GoodIn wsX12_surferLine wsX12_wrong := goodIn_r _ [17, 18, 19, 20, 66, 67, 68, 69, 70, 71, 72, 73, 74, 75, 76, 77, 78, 79, 80, 81, 82, 83, 84, 85, 86, 87, 88, 89, 90, 91, 92, 93, 94, 95, 96, 97, 98, 99, 100, 101, 102, 103, 104, 105, 106, 107, 108, 109, 110, 111, 112, 113, 114, 115, 116, 117, 118, 119, 120, 121, 122, 123, 124, 125, 126, 127, 128, 129, 130, 131, 132, 133, 134, 135, 136, 137, 138, 139, 140, 141, 142, 143, 144, 145, 146, 147, 148, 149, 150, 151, 152] (by decide +kernel) (by decide +kernel)
set_option maxRecDepth 20000 in
theorem gX12_surferLine_X12_wrong : GoodIn wsX12_surferLine (wsV RX12 196 RX12 yX12_wrong wsX12_wrong) := goodIn_app (goodIn_of _ (by decide +kernel)) ggX12_surferLine_X12_wrong
set_option maxRecDepth 20000 in
theorem ggX12_surferLine_X12_token : GoodIn wsX12_surferLine wsX12_token := goodIn_r _ [24, 25, 26, 27, 19, 2, 4, 28, 29, 30, 31, 16, 32, 33, 34, 35, 36, 37, 38, 39, 40, 41, 42, 43, 44, 45, 46, 47, 48, 49, 66, 67, 68, 69, 70, 71, 72, 73, 74, 75, 76, 77, 78, 79, 80, 81, 82, 83, 84, 85, 86, 87, 88, 89, 90, 91, 92, 93, 94, 95, 96, 97, 98, 99, 100, 101, 102, 103, 104, 105, 106, 107, 108, 109, 110, 111, 112, 113, 114, 115, 116, 117, 118, 119, 120, 121, 122, 123, 124, 125, 126, 127, 128, 129, 130, 131, 132, 133, 134, 135, 136, 137, 138, 139, 140, 141, 142, 143, 144, 145, 146, 147, 148, 149, 150, 151, 152] (by decide +kernel) (by decide +kernel)
set_option maxRecDepth 20000 in
theorem gX12_surferLine_X12_token : GoodIn wsX12_surferLine (wsV RX12 206 RX12 yX12_token wsX12_token) := goodIn_app (goodIn_of _ (by decide +kernel)) ggX12_surferLine_X12_token
set_option maxRecDepth 20000 in
theorem ggX12_surferLine_X12_find : GoodIn wsX12_surferLine wsX12_find := goodIn_r _ [52] (by decide +kernel) (by decide +kernel)
set_option maxRecDepth 20000 in
theorem gX12_surferLine_X12_find : GoodIn wsX12_surferLine (va_wsS RX12 269 yX12_find wsX12_find) := goodIn_app (goodIn_of _ (by decide +kernel)) ggX12_surferLine_X12_find
set_option maxRecDepth 20000 in
theorem ggX12_surferLine_X12_cellRead : GoodIn wsX12_surferLine wsX12_cellRead := goodIn_r _ [56, 57, 6, 7, 8, 58, 59, 60, 61, 16, 62, 2, 4, 13, 14, 15, 17, 18, 19, 20, 63, 64, 65, 21, 22, 23, 24, 25, 26, 27, 28, 29, 30, 31, 32, 33, 34, 35, 36, 37, 38, 39, 40, 41, 42, 43, 44, 45, 46, 47, 48, 49, 66, 67, 68, 69, 70, 71, 72, 73, 74, 75, 76, 77, 78, 79, 80, 81, 82, 83, 84, 85, 86, 87, 88, 89, 90, 91, 92, 93, 94, 95, 96, 97, 98, 99, 100, 101, 102, 103, 104, 105, 106, 107, 108, 109, 110, 111, 112, 113, 114, 115, 116, 117, 118, 119, 120, 121, 122, 123, 124, 125, 126, 127, 128, 129, 130, 131, 132, 133, 134, 135, 136, 137, 138, 139, 140, 141, 142, 143, 144, 145, 146, 147, 148, 149, 150, 151, 152] (by decide +kernel) (by decide +kernel)
set_option maxRecDepth 20000 in
theorem gX12_surferLine_X12_cellRead : GoodIn wsX12_surferLine (wsV RX12 273 RX12 yX12_cellRead wsX12_cellRead) := goodIn_app (goodIn_of _ (by decide +kernel)) ggX12_surferLine_X12_cellRead
set_option maxRecDepth 20000 in
theorem ggX12_surferLine_X12_number : GoodIn wsX12_surferLine wsX12_number := goodIn_r _ [62, 2, 4, 7, 13, 14, 15, 16, 17, 18, 19, 20, 63, 64, 65, 21, 22, 23, 24, 25, 26, 27, 28, 29, 30, 31, 32, 33, 34, 35, 36, 37, 38, 39, 40, 41, 42, 43, 44, 45, 46, 47, 48, 49, 66, 67, 68, 69, 70, 71, 72, 73, 74, 75, 76, 77, 78, 79, 80, 81, 82, 83, 84, 85, 86, 87, 88, 89, 90, 91, 92, 93, 94, 95, 96, 97, 98, 99, 100, 101, 102, 103, 104, 105, 106, 107, 108, 109, 110, 111, 112, 113, 114, 115, 116, 117, 118, 119, 120, 121, 122, 123, 124, 125, 126, 127, 128, 129, 130, 131, 132, 133, 134, 135, 136, 137, 138, 139, 140, 141, 142, 143, 144, 145, 146, 147, 148, 149, 150, 151, 152] (by decide +kernel) (by decide +kernel)
set_option maxRecDepth 20000 in
theorem gX12_surferLine_X12_number : GoodIn wsX12_surferLine (wsV RX12 212 RX12 yX12_number wsX12_number) := goodIn_app (goodIn_of _ (by decide +kernel)) ggX12_surferLine_X12_number
theorem dX12_surferLine_0 : decode cX12_surferLine 0 = .ok (.aload_n 0, 1) := by decide +kernel
theorem dX12_surferLine_1 : decode cX12_surferLine 1 = .ok (.getfield 222, 3) := by decide +kernel
theorem dX12_surferLine_4 : decode cX12_surferLine 4 = .ok (.iconst 5, 1) := by decide +kernel
theorem dX12_surferLine_5 : decode cX12_surferLine 5 = .ok (.if_icmp .ne 9, 3) := by decide +kernel
theorem dX12_surferLine_8 : decode cX12_surferLine 8 = .ok (.aload_n 0, 1) := by decide +kernel
theorem dX12_surferLine_9 : decode cX12_surferLine 9 = .ok (.iconst 2, 1) := by decide +kernel
theorem dX12_surferLine_10 : decode cX12_surferLine 10 = .ok (.invokevirtual 196, 3) := by decide +kernel
theorem dX12_surferLine_13 : decode cX12_surferLine 13 = .ok (.ireturn, 1) := by decide +kernel
theorem dX12_surferLine_14 : decode cX12_surferLine 14 = .ok (.aload_n 0, 1) := by decide +kernel
theorem dX12_surferLine_15 : decode cX12_surferLine 15 = .ok (.invokevirtual 206, 3) := by decide +kernel
theorem dX12_surferLine_18 : decode cX12_surferLine 18 = .ok (.aload_n 0, 1) := by decide +kernel
theorem dX12_surferLine_19 : decode cX12_surferLine 19 = .ok (.getfield 172, 3) := by decide +kernel
theorem dX12_surferLine_22 : decode cX12_surferLine 22 = .ok (.iconst 2, 1) := by decide +kernel
theorem dX12_surferLine_23 : decode cX12_surferLine 23 = .ok (.if_icmp .eq 9, 3) := by decide +kernel
theorem dX12_surferLine_26 : decode cX12_surferLine 26 = .ok (.aload_n 0, 1) := by decide +kernel
theorem dX12_surferLine_27 : decode cX12_surferLine 27 = .ok (.iconst 1, 1) := by decide +kernel
theorem dX12_surferLine_28 : decode cX12_surferLine 28 = .ok (.invokevirtual 196, 3) := by decide +kernel
theorem dX12_surferLine_31 : decode cX12_surferLine 31 = .ok (.ireturn, 1) := by decide +kernel
theorem dX12_surferLine_32 : decode cX12_surferLine 32 = .ok (.aload_n 0, 1) := by decide +kernel
theorem dX12_surferLine_33 : decode cX12_surferLine 33 = .ok (.getfield 27, 3) := by decide +kernel
theorem dX12_surferLine_36 : decode cX12_surferLine 36 = .ok (.iconst 5, 1) := by decide +kernel
theorem dX12_surferLine_37 : decode cX12_surferLine 37 = .ok (.aload_n 0, 1) := by decide +kernel
theorem dX12_surferLine_38 : decode cX12_surferLine 38 = .ok (.getfield 222, 3) := by decide +kernel
theorem dX12_surferLine_41 : decode cX12_surferLine 41 = .ok (.aload_n 0, 1) := by decide +kernel
theorem dX12_surferLine_42 : decode cX12_surferLine 42 = .ok (.getfield 183, 3) := by decide +kernel
theorem dX12_surferLine_45 : decode cX12_surferLine 45 = .ok (.invokestatic 269, 3) := by decide +kernel
theorem dX12_surferLine_48 : decode cX12_surferLine 48 = .ok (.ifCond .lt 9, 3) := by decide +kernel
theorem dX12_surferLine_51 : decode cX12_surferLine 51 = .ok (.aload_n 0, 1) := by decide +kernel
theorem dX12_surferLine_52 : decode cX12_surferLine 52 = .ok (.iconst 3, 1) := by decide +kernel
theorem dX12_surferLine_53 : decode cX12_surferLine 53 = .ok (.invokevirtual 196, 3) := by decide +kernel
theorem dX12_surferLine_56 : decode cX12_surferLine 56 = .ok (.ireturn, 1) := by decide +kernel
theorem dX12_surferLine_57 : decode cX12_surferLine 57 = .ok (.iconst 5, 1) := by decide +kernel
theorem dX12_surferLine_58 : decode cX12_surferLine 58 = .ok (.aload_n 0, 1) := by decide +kernel
theorem dX12_surferLine_59 : decode cX12_surferLine 59 = .ok (.getfield 222, 3) := by decide +kernel
theorem dX12_surferLine_62 : decode cX12_surferLine 62 = .ok (.iadd, 1) := by decide +kernel
theorem dX12_surferLine_63 : decode cX12_surferLine 63 = .ok (.istore_n 1, 1) := by decide +kernel
theorem dX12_surferLine_64 : decode cX12_surferLine 64 = .ok (.aload_n 0, 1) := by decide +kernel
theorem dX12_surferLine_65 : decode cX12_surferLine 65 = .ok (.getfield 27, 3) := by decide +kernel
theorem dX12_surferLine_68 : decode cX12_surferLine 68 = .ok (.iload_n 1, 1) := by decide +kernel
theorem dX12_surferLine_69 : decode cX12_surferLine 69 = .ok (.aload_n 0, 1) := by decide +kernel
theorem dX12_surferLine_70 : decode cX12_surferLine 70 = .ok (.getfield 183, 3) := by decide +kernel
theorem dX12_surferLine_73 : decode cX12_surferLine 73 = .ok (.iastore, 1) := by decide +kernel
theorem dX12_surferLine_74 : decode cX12_surferLine 74 = .ok (.aload_n 0, 1) := by decide +kernel
theorem dX12_surferLine_75 : decode cX12_surferLine 75 = .ok (.invokevirtual 206, 3) := by decide +kernel
theorem dX12_surferLine_78 : decode cX12_surferLine 78 = .ok (.aload_n 0, 1) := by decide +kernel
theorem dX12_surferLine_79 : decode cX12_surferLine 79 = .ok (.invokevirtual 273, 3) := by decide +kernel
theorem dX12_surferLine_82 : decode cX12_surferLine 82 = .ok (.ifCond .ne 5, 3) := by decide +kernel
theorem dX12_surferLine_85 : decode cX12_surferLine 85 = .ok (.iconst 0, 1) := by decide +kernel
theorem dX12_surferLine_86 : decode cX12_surferLine 86 = .ok (.ireturn, 1) := by decide +kernel
theorem dX12_surferLine_87 : decode cX12_surferLine 87 = .ok (.aload_n 0, 1) := by decide +kernel
theorem dX12_surferLine_88 : decode cX12_surferLine 88 = .ok (.getfield 30, 3) := by decide +kernel
theorem dX12_surferLine_91 : decode cX12_surferLine 91 = .ok (.iload_n 1, 1) := by decide +kernel
theorem dX12_surferLine_92 : decode cX12_surferLine 92 = .ok (.aload_n 0, 1) := by decide +kernel
theorem dX12_surferLine_93 : decode cX12_surferLine 93 = .ok (.getfield 216, 3) := by decide +kernel
theorem dX12_surferLine_96 : decode cX12_surferLine 96 = .ok (.aload_n 0, 1) := by decide +kernel
theorem dX12_surferLine_97 : decode cX12_surferLine 97 = .ok (.getfield 203, 3) := by decide +kernel
theorem dX12_surferLine_100 : decode cX12_surferLine 100 = .ok (.imul, 1) := by decide +kernel
theorem dX12_surferLine_101 : decode cX12_surferLine 101 = .ok (.aload_n 0, 1) := by decide +kernel
theorem dX12_surferLine_102 : decode cX12_surferLine 102 = .ok (.getfield 266, 3) := by decide +kernel
theorem dX12_surferLine_105 : decode cX12_surferLine 105 = .ok (.iadd, 1) := by decide +kernel
theorem dX12_surferLine_106 : decode cX12_surferLine 106 = .ok (.iastore, 1) := by decide +kernel
theorem dX12_surferLine_107 : decode cX12_surferLine 107 = .ok (.aload_n 0, 1) := by decide +kernel
theorem dX12_surferLine_108 : decode cX12_surferLine 108 = .ok (.iconst 1, 1) := by decide +kernel
theorem dX12_surferLine_109 : decode cX12_surferLine 109 = .ok (.bipush 9, 2) := by decide +kernel
theorem dX12_surferLine_111 : decode cX12_surferLine 111 = .ok (.invokevirtual 212, 3) := by decide +kernel
theorem dX12_surferLine_114 : decode cX12_surferLine 114 = .ok (.ifCond .ne 5, 3) := by decide +kernel
theorem dX12_surferLine_117 : decode cX12_surferLine 117 = .ok (.iconst 0, 1) := by decide +kernel
theorem dX12_surferLine_118 : decode cX12_surferLine 118 = .ok (.ireturn, 1) := by decide +kernel
theorem dX12_surferLine_119 : decode cX12_surferLine 119 = .ok (.aload_n 0, 1) := by decide +kernel
theorem dX12_surferLine_120 : decode cX12_surferLine 120 = .ok (.getfield 33, 3) := by decide +kernel
theorem dX12_surferLine_123 : decode cX12_surferLine 123 = .ok (.iload_n 1, 1) := by decide +kernel
theorem dX12_surferLine_124 : decode cX12_surferLine 124 = .ok (.aload_n 0, 1) := by decide +kernel
theorem dX12_surferLine_125 : decode cX12_surferLine 125 = .ok (.getfield 203, 3) := by decide +kernel
theorem dX12_surferLine_128 : decode cX12_surferLine 128 = .ok (.iastore, 1) := by decide +kernel
theorem dX12_surferLine_129 : decode cX12_surferLine 129 = .ok (.aload_n 0, 1) := by decide +kernel
theorem dX12_surferLine_130 : decode cX12_surferLine 130 = .ok (.iconst 1, 1) := by decide +kernel
theorem dX12_surferLine_131 : decode cX12_surferLine 131 = .ok (.iconst 3, 1) := by decide +kernel
theorem dX12_surferLine_132 : decode cX12_surferLine 132 = .ok (.invokevirtual 212, 3) := by decide +kernel
theorem dX12_surferLine_135 : decode cX12_surferLine 135 = .ok (.ifCond .ne 5, 3) := by decide +kernel
theorem dX12_surferLine_138 : decode cX12_surferLine 138 = .ok (.iconst 0, 1) := by decide +kernel
theorem dX12_surferLine_139 : decode cX12_surferLine 139 = .ok (.ireturn, 1) := by decide +kernel
theorem dX12_surferLine_140 : decode cX12_surferLine 140 = .ok (.aload_n 0, 1) := by decide +kernel
theorem dX12_surferLine_141 : decode cX12_surferLine 141 = .ok (.getfield 36, 3) := by decide +kernel
theorem dX12_surferLine_144 : decode cX12_surferLine 144 = .ok (.iload_n 1, 1) := by decide +kernel
theorem dX12_surferLine_145 : decode cX12_surferLine 145 = .ok (.aload_n 0, 1) := by decide +kernel
theorem dX12_surferLine_146 : decode cX12_surferLine 146 = .ok (.getfield 203, 3) := by decide +kernel
theorem dX12_surferLine_149 : decode cX12_surferLine 149 = .ok (.iastore, 1) := by decide +kernel
theorem dX12_surferLine_150 : decode cX12_surferLine 150 = .ok (.aload_n 0, 1) := by decide +kernel
theorem dX12_surferLine_151 : decode cX12_surferLine 151 = .ok (.iconst 0, 1) := by decide +kernel
theorem dX12_surferLine_152 : decode cX12_surferLine 152 = .ok (.bipush 100, 2) := by decide +kernel
theorem dX12_surferLine_154 : decode cX12_surferLine 154 = .ok (.invokevirtual 212, 3) := by decide +kernel
theorem dX12_surferLine_157 : decode cX12_surferLine 157 = .ok (.ifCond .ne 5, 3) := by decide +kernel
theorem dX12_surferLine_160 : decode cX12_surferLine 160 = .ok (.iconst 0, 1) := by decide +kernel
theorem dX12_surferLine_161 : decode cX12_surferLine 161 = .ok (.ireturn, 1) := by decide +kernel
theorem dX12_surferLine_162 : decode cX12_surferLine 162 = .ok (.aload_n 0, 1) := by decide +kernel
theorem dX12_surferLine_163 : decode cX12_surferLine 163 = .ok (.getfield 39, 3) := by decide +kernel
theorem dX12_surferLine_166 : decode cX12_surferLine 166 = .ok (.iload_n 1, 1) := by decide +kernel
theorem dX12_surferLine_167 : decode cX12_surferLine 167 = .ok (.aload_n 0, 1) := by decide +kernel
theorem dX12_surferLine_168 : decode cX12_surferLine 168 = .ok (.getfield 203, 3) := by decide +kernel
theorem dX12_surferLine_171 : decode cX12_surferLine 171 = .ok (.iastore, 1) := by decide +kernel
theorem dX12_surferLine_172 : decode cX12_surferLine 172 = .ok (.aload_n 0, 1) := by decide +kernel
theorem dX12_surferLine_173 : decode cX12_surferLine 173 = .ok (.iconst 0, 1) := by decide +kernel
theorem dX12_surferLine_174 : decode cX12_surferLine 174 = .ok (.bipush 100, 2) := by decide +kernel
theorem dX12_surferLine_176 : decode cX12_surferLine 176 = .ok (.invokevirtual 212, 3) := by decide +kernel
theorem dX12_surferLine_179 : decode cX12_surferLine 179 = .ok (.ifCond .ne 5, 3) := by decide +kernel
theorem dX12_surferLine_182 : decode cX12_surferLine 182 = .ok (.iconst 0, 1) := by decide +kernel
theorem dX12_surferLine_183 : decode cX12_surferLine 183 = .ok (.ireturn, 1) := by decide +kernel
theorem dX12_surferLine_184 : decode cX12_surferLine 184 = .ok (.aload_n 0, 1) := by decide +kernel
theorem dX12_surferLine_185 : decode cX12_surferLine 185 = .ok (.getfield 42, 3) := by decide +kernel
theorem dX12_surferLine_188 : decode cX12_surferLine 188 = .ok (.iload_n 1, 1) := by decide +kernel
theorem dX12_surferLine_189 : decode cX12_surferLine 189 = .ok (.aload_n 0, 1) := by decide +kernel
theorem dX12_surferLine_190 : decode cX12_surferLine 190 = .ok (.getfield 203, 3) := by decide +kernel
theorem dX12_surferLine_193 : decode cX12_surferLine 193 = .ok (.iastore, 1) := by decide +kernel
theorem dX12_surferLine_194 : decode cX12_surferLine 194 = .ok (.aload_n 0, 1) := by decide +kernel
theorem dX12_surferLine_195 : decode cX12_surferLine 195 = .ok (.dup, 1) := by decide +kernel
theorem dX12_surferLine_196 : decode cX12_surferLine 196 = .ok (.getfield 222, 3) := by decide +kernel
theorem dX12_surferLine_199 : decode cX12_surferLine 199 = .ok (.iconst 1, 1) := by decide +kernel
theorem dX12_surferLine_200 : decode cX12_surferLine 200 = .ok (.iadd, 1) := by decide +kernel
theorem dX12_surferLine_201 : decode cX12_surferLine 201 = .ok (.putfield 222, 3) := by decide +kernel
theorem dX12_surferLine_204 : decode cX12_surferLine 204 = .ok (.iconst 1, 1) := by decide +kernel
theorem dX12_surferLine_205 : decode cX12_surferLine 205 = .ok (.ireturn, 1) := by decide +kernel
set_option maxRecDepth 20000 in
theorem ggX12_setLine_X12_wrong : GoodIn wsX12_setLine wsX12_wrong := goodIn_r _ [14, 15, 2, 16, 54, 55, 56, 57, 58, 59, 60, 61, 62, 63, 64, 65, 66, 67, 68, 69, 70, 71, 72, 73, 74, 75, 76, 77, 78, 79, 80, 81, 82, 83, 84, 85, 86, 87, 88, 89, 90, 91, 92, 93, 94, 95, 96, 97, 98, 99, 100, 101, 102, 103, 104, 105, 106, 107, 108, 109, 110, 111, 112, 113, 114, 115, 116, 117, 118, 119, 120, 121, 122, 123, 124, 125, 126, 127, 128, 129, 130, 131, 132, 133, 134, 135, 136, 137, 138, 139, 140] (by decide +kernel) (by decide +kernel)
set_option maxRecDepth 20000 in
theorem gX12_setLine_X12_wrong : GoodIn wsX12_setLine (wsV RX12 196 RX12 yX12_wrong wsX12_wrong) := goodIn_app (goodIn_of _ (by decide +kernel)) ggX12_setLine_X12_wrong
set_option maxRecDepth 20000 in
theorem ggX12_setLine_X12_token : GoodIn wsX12_setLine wsX12_token := goodIn_r _ [20, 21, 22, 23, 2, 6, 24, 25, 26, 27, 28, 13, 29, 30, 31, 32, 33, 34, 35, 36, 37, 38, 39, 40, 41, 42, 43, 44, 45, 46, 54, 55, 56, 57, 58, 59, 60, 61, 62, 63, 64, 65, 66, 67, 68, 69, 70, 71, 72, 73, 74, 75, 76, 77, 78, 79, 80, 81, 82, 83, 84, 85, 86, 87, 88, 89, 90, 91, 92, 93, 94, 95, 96, 97, 98, 99, 100, 101, 102, 103, 104, 105, 106, 107, 108, 109, 110, 111, 112, 113, 114, 115, 116, 117, 118, 119, 120, 121, 122, 123, 124, 125, 126, 127, 128, 129, 130, 131, 132, 133, 134, 135, 136, 137, 138, 139, 140] (by decide +kernel) (by decide +kernel)
set_option maxRecDepth 20000 in
theorem gX12_setLine_X12_token : GoodIn wsX12_setLine (wsV RX12 206 RX12 yX12_token wsX12_token) := goodIn_app (goodIn_of _ (by decide +kernel)) ggX12_setLine_X12_token
set_option maxRecDepth 20000 in
theorem ggX12_setLine_X12_number : GoodIn wsX12_setLine wsX12_number := goodIn_r _ [50, 6, 24, 4, 10, 11, 12, 13, 14, 15, 2, 16, 51, 52, 53, 17, 18, 19, 20, 21, 22, 23, 25, 26, 27, 28, 29, 30, 31, 32, 33, 34, 35, 36, 37, 38, 39, 40, 41, 42, 43, 44, 45, 46, 54, 55, 56, 57, 58, 59, 60, 61, 62, 63, 64, 65, 66, 67, 68, 69, 70, 71, 72, 73, 74, 75, 76, 77, 78, 79, 80, 81, 82, 83, 84, 85, 86, 87, 88, 89, 90, 91, 92, 93, 94, 95, 96, 97, 98, 99, 100, 101, 102, 103, 104, 105, 106, 107, 108, 109, 110, 111, 112, 113, 114, 115, 116, 117, 118, 119, 120, 121, 122, 123, 124, 125, 126, 127, 128, 129, 130, 131, 132, 133, 134, 135, 136, 137, 138, 139, 140] (by decide +kernel) (by decide +kernel)
set_option maxRecDepth 20000 in
theorem gX12_setLine_X12_number : GoodIn wsX12_setLine (wsV RX12 212 RX12 yX12_number wsX12_number) := goodIn_app (goodIn_of _ (by decide +kernel)) ggX12_setLine_X12_number
theorem dX12_setLine_0 : decode cX12_setLine 0 = .ok (.aload_n 0, 1) := by decide +kernel
theorem dX12_setLine_1 : decode cX12_setLine 1 = .ok (.getfield 225, 3) := by decide +kernel
theorem dX12_setLine_4 : decode cX12_setLine 4 = .ok (.iconst 4, 1) := by decide +kernel
theorem dX12_setLine_5 : decode cX12_setLine 5 = .ok (.if_icmp .ne 9, 3) := by decide +kernel
theorem dX12_setLine_8 : decode cX12_setLine 8 = .ok (.aload_n 0, 1) := by decide +kernel
theorem dX12_setLine_9 : decode cX12_setLine 9 = .ok (.iconst 2, 1) := by decide +kernel
theorem dX12_setLine_10 : decode cX12_setLine 10 = .ok (.invokevirtual 196, 3) := by decide +kernel
theorem dX12_setLine_13 : decode cX12_setLine 13 = .ok (.ireturn, 1) := by decide +kernel
theorem dX12_setLine_14 : decode cX12_setLine 14 = .ok (.aload_n 0, 1) := by decide +kernel
theorem dX12_setLine_15 : decode cX12_setLine 15 = .ok (.invokevirtual 206, 3) := by decide +kernel
theorem dX12_setLine_18 : decode cX12_setLine 18 = .ok (.aload_n 0, 1) := by decide +kernel
theorem dX12_setLine_19 : decode cX12_setLine 19 = .ok (.getfield 163, 3) := by decide +kernel
theorem dX12_setLine_22 : decode cX12_setLine 22 = .ok (.istore_n 1, 1) := by decide +kernel
theorem dX12_setLine_23 : decode cX12_setLine 23 = .ok (.aload_n 0, 1) := by decide +kernel
theorem dX12_setLine_24 : decode cX12_setLine 24 = .ok (.iconst 0, 1) := by decide +kernel
theorem dX12_setLine_25 : decode cX12_setLine 25 = .ok (.bipush 99, 2) := by decide +kernel
theorem dX12_setLine_27 : decode cX12_setLine 27 = .ok (.invokevirtual 212, 3) := by decide +kernel
theorem dX12_setLine_30 : decode cX12_setLine 30 = .ok (.ifCond .ne 5, 3) := by decide +kernel
theorem dX12_setLine_33 : decode cX12_setLine 33 = .ok (.iconst 0, 1) := by decide +kernel
theorem dX12_setLine_34 : decode cX12_setLine 34 = .ok (.ireturn, 1) := by decide +kernel
theorem dX12_setLine_35 : decode cX12_setLine 35 = .ok (.aload_n 0, 1) := by decide +kernel
theorem dX12_setLine_36 : decode cX12_setLine 36 = .ok (.getfield 228, 3) := by decide +kernel
theorem dX12_setLine_39 : decode cX12_setLine 39 = .ok (.ifCond .le 35, 3) := by decide +kernel
theorem dX12_setLine_42 : decode cX12_setLine 42 = .ok (.aload_n 0, 1) := by decide +kernel
theorem dX12_setLine_43 : decode cX12_setLine 43 = .ok (.getfield 203, 3) := by decide +kernel
theorem dX12_setLine_46 : decode cX12_setLine 46 = .ok (.aload_n 0, 1) := by decide +kernel
theorem dX12_setLine_47 : decode cX12_setLine 47 = .ok (.getfield 48, 3) := by decide +kernel
theorem dX12_setLine_50 : decode cX12_setLine 50 = .ok (.bipush 28, 2) := by decide +kernel
theorem dX12_setLine_52 : decode cX12_setLine 52 = .ok (.aload_n 0, 1) := by decide +kernel
theorem dX12_setLine_53 : decode cX12_setLine 53 = .ok (.getfield 228, 3) := by decide +kernel
theorem dX12_setLine_56 : decode cX12_setLine 56 = .ok (.iadd, 1) := by decide +kernel
theorem dX12_setLine_57 : decode cX12_setLine 57 = .ok (.iconst 1, 1) := by decide +kernel
theorem dX12_setLine_58 : decode cX12_setLine 58 = .ok (.isub, 1) := by decide +kernel
theorem dX12_setLine_59 : decode cX12_setLine 59 = .ok (.iaload, 1) := by decide +kernel
theorem dX12_setLine_60 : decode cX12_setLine 60 = .ok (.if_icmp .gt 14, 3) := by decide +kernel
theorem dX12_setLine_63 : decode cX12_setLine 63 = .ok (.aload_n 0, 1) := by decide +kernel
theorem dX12_setLine_64 : decode cX12_setLine 64 = .ok (.iload_n 1, 1) := by decide +kernel
theorem dX12_setLine_65 : decode cX12_setLine 65 = .ok (.putfield 163, 3) := by decide +kernel
theorem dX12_setLine_68 : decode cX12_setLine 68 = .ok (.aload_n 0, 1) := by decide +kernel
theorem dX12_setLine_69 : decode cX12_setLine 69 = .ok (.iconst 5, 1) := by decide +kernel
theorem dX12_setLine_70 : decode cX12_setLine 70 = .ok (.invokevirtual 196, 3) := by decide +kernel
theorem dX12_setLine_73 : decode cX12_setLine 73 = .ok (.ireturn, 1) := by decide +kernel
theorem dX12_setLine_74 : decode cX12_setLine 74 = .ok (.aload_n 0, 1) := by decide +kernel
theorem dX12_setLine_75 : decode cX12_setLine 75 = .ok (.getfield 203, 3) := by decide +kernel
theorem dX12_setLine_78 : decode cX12_setLine 78 = .ok (.istore_n 2, 1) := by decide +kernel
theorem dX12_setLine_79 : decode cX12_setLine 79 = .ok (.aload_n 0, 1) := by decide +kernel
theorem dX12_setLine_80 : decode cX12_setLine 80 = .ok (.getfield 172, 3) := by decide +kernel
theorem dX12_setLine_83 : decode cX12_setLine 83 = .ok (.iconst 3, 1) := by decide +kernel
theorem dX12_setLine_84 : decode cX12_setLine 84 = .ok (.if_icmp .eq 9, 3) := by decide +kernel
theorem dX12_setLine_87 : decode cX12_setLine 87 = .ok (.aload_n 0, 1) := by decide +kernel
theorem dX12_setLine_88 : decode cX12_setLine 88 = .ok (.iconst 1, 1) := by decide +kernel
theorem dX12_setLine_89 : decode cX12_setLine 89 = .ok (.invokevirtual 196, 3) := by decide +kernel
theorem dX12_setLine_92 : decode cX12_setLine 92 = .ok (.ireturn, 1) := by decide +kernel
theorem dX12_setLine_93 : decode cX12_setLine 93 = .ok (.aload_n 0, 1) := by decide +kernel
theorem dX12_setLine_94 : decode cX12_setLine 94 = .ok (.getfield 45, 3) := by decide +kernel
theorem dX12_setLine_97 : decode cX12_setLine 97 = .ok (.iconst 4, 1) := by decide +kernel
theorem dX12_setLine_98 : decode cX12_setLine 98 = .ok (.aload_n 0, 1) := by decide +kernel
theorem dX12_setLine_99 : decode cX12_setLine 99 = .ok (.getfield 225, 3) := by decide +kernel
theorem dX12_setLine_102 : decode cX12_setLine 102 = .ok (.iadd, 1) := by decide +kernel
theorem dX12_setLine_103 : decode cX12_setLine 103 = .ok (.aload_n 0, 1) := by decide +kernel
theorem dX12_setLine_104 : decode cX12_setLine 104 = .ok (.getfield 228, 3) := by decide +kernel
theorem dX12_setLine_107 : decode cX12_setLine 107 = .ok (.iastore, 1) := by decide +kernel
theorem dX12_setLine_108 : decode cX12_setLine 108 = .ok (.iconst 0, 1) := by decide +kernel
theorem dX12_setLine_109 : decode cX12_setLine 109 = .ok (.istore_n 3, 1) := by decide +kernel
theorem dX12_setLine_110 : decode cX12_setLine 110 = .ok (.aload_n 0, 1) := by decide +kernel
theorem dX12_setLine_111 : decode cX12_setLine 111 = .ok (.getfield 172, 3) := by decide +kernel
theorem dX12_setLine_114 : decode cX12_setLine 114 = .ok (.iconst 3, 1) := by decide +kernel
theorem dX12_setLine_115 : decode cX12_setLine 115 = .ok (.if_icmp .ne 90, 3) := by decide +kernel
theorem dX12_setLine_118 : decode cX12_setLine 118 = .ok (.iload_n 3, 1) := by decide +kernel
theorem dX12_setLine_119 : decode cX12_setLine 119 = .ok (.bipush 7, 2) := by decide +kernel
theorem dX12_setLine_121 : decode cX12_setLine 121 = .ok (.if_icmp .ne 9, 3) := by decide +kernel
theorem dX12_setLine_124 : decode cX12_setLine 124 = .ok (.aload_n 0, 1) := by decide +kernel
theorem dX12_setLine_125 : decode cX12_setLine 125 = .ok (.iconst 2, 1) := by decide +kernel
theorem dX12_setLine_126 : decode cX12_setLine 126 = .ok (.invokevirtual 196, 3) := by decide +kernel
theorem dX12_setLine_129 : decode cX12_setLine 129 = .ok (.ireturn, 1) := by decide +kernel
theorem dX12_setLine_130 : decode cX12_setLine 130 = .ok (.aload_n 0, 1) := by decide +kernel
theorem dX12_setLine_131 : decode cX12_setLine 131 = .ok (.iconst 1, 1) := by decide +kernel
theorem dX12_setLine_132 : decode cX12_setLine 132 = .ok (.bipush 9, 2) := by decide +kernel
theorem dX12_setLine_134 : decode cX12_setLine 134 = .ok (.invokevirtual 212, 3) := by decide +kernel
theorem dX12_setLine_137 : decode cX12_setLine 137 = .ok (.ifCond .ne 5, 3) := by decide +kernel
theorem dX12_setLine_140 : decode cX12_setLine 140 = .ok (.iconst 0, 1) := by decide +kernel
theorem dX12_setLine_141 : decode cX12_setLine 141 = .ok (.ireturn, 1) := by decide +kernel
theorem dX12_setLine_142 : decode cX12_setLine 142 = .ok (.aload_n 0, 1) := by decide +kernel
theorem dX12_setLine_143 : decode cX12_setLine 143 = .ok (.getfield 48, 3) := by decide +kernel
theorem dX12_setLine_146 : decode cX12_setLine 146 = .ok (.bipush 28, 2) := by decide +kernel
theorem dX12_setLine_148 : decode cX12_setLine 148 = .ok (.aload_n 0, 1) := by decide +kernel
theorem dX12_setLine_149 : decode cX12_setLine 149 = .ok (.getfield 228, 3) := by decide +kernel
theorem dX12_setLine_152 : decode cX12_setLine 152 = .ok (.iadd, 1) := by decide +kernel
theorem dX12_setLine_153 : decode cX12_setLine 153 = .ok (.iload_n 2, 1) := by decide +kernel
theorem dX12_setLine_154 : decode cX12_setLine 154 = .ok (.iload_n 3, 1) := by decide +kernel
theorem dX12_setLine_155 : decode cX12_setLine 155 = .ok (.iadd, 1) := by decide +kernel
theorem dX12_setLine_156 : decode cX12_setLine 156 = .ok (.iastore, 1) := by decide +kernel
theorem dX12_setLine_157 : decode cX12_setLine 157 = .ok (.aload_n 0, 1) := by decide +kernel
theorem dX12_setLine_158 : decode cX12_setLine 158 = .ok (.getfield 51, 3) := by decide +kernel
theorem dX12_setLine_161 : decode cX12_setLine 161 = .ok (.bipush 28, 2) := by decide +kernel
theorem dX12_setLine_163 : decode cX12_setLine 163 = .ok (.aload_n 0, 1) := by decide +kernel
theorem dX12_setLine_164 : decode cX12_setLine 164 = .ok (.getfield 228, 3) := by decide +kernel
theorem dX12_setLine_167 : decode cX12_setLine 167 = .ok (.iadd, 1) := by decide +kernel
theorem dX12_setLine_168 : decode cX12_setLine 168 = .ok (.aload_n 0, 1) := by decide +kernel
theorem dX12_setLine_169 : decode cX12_setLine 169 = .ok (.getfield 203, 3) := by decide +kernel
theorem dX12_setLine_172 : decode cX12_setLine 172 = .ok (.iastore, 1) := by decide +kernel
theorem dX12_setLine_173 : decode cX12_setLine 173 = .ok (.aload_n 0, 1) := by decide +kernel
theorem dX12_setLine_174 : decode cX12_setLine 174 = .ok (.getfield 54, 3) := by decide +kernel
theorem dX12_setLine_177 : decode cX12_setLine 177 = .ok (.bipush 28, 2) := by decide +kernel
theorem dX12_setLine_179 : decode cX12_setLine 179 = .ok (.aload_n 0, 1) := by decide +kernel
theorem dX12_setLine_180 : decode cX12_setLine 180 = .ok (.getfield 228, 3) := by decide +kernel
theorem dX12_setLine_183 : decode cX12_setLine 183 = .ok (.iadd, 1) := by decide +kernel
theorem dX12_setLine_184 : decode cX12_setLine 184 = .ok (.aload_n 0, 1) := by decide +kernel
theorem dX12_setLine_185 : decode cX12_setLine 185 = .ok (.getfield 225, 3) := by decide +kernel
theorem dX12_setLine_188 : decode cX12_setLine 188 = .ok (.iastore, 1) := by decide +kernel
theorem dX12_setLine_189 : decode cX12_setLine 189 = .ok (.aload_n 0, 1) := by decide +kernel
theorem dX12_setLine_190 : decode cX12_setLine 190 = .ok (.dup, 1) := by decide +kernel
theorem dX12_setLine_191 : decode cX12_setLine 191 = .ok (.getfield 228, 3) := by decide +kernel
theorem dX12_setLine_194 : decode cX12_setLine 194 = .ok (.iconst 1, 1) := by decide +kernel
theorem dX12_setLine_195 : decode cX12_setLine 195 = .ok (.iadd, 1) := by decide +kernel
theorem dX12_setLine_196 : decode cX12_setLine 196 = .ok (.putfield 228, 3) := by decide +kernel
theorem dX12_setLine_199 : decode cX12_setLine 199 = .ok (.iinc 3 1, 3) := by decide +kernel
theorem dX12_setLine_202 : decode cX12_setLine 202 = .ok (.goto (-92), 3) := by decide +kernel
theorem dX12_setLine_205 : decode cX12_setLine 205 = .ok (.aload_n 0, 1) := by decide +kernel
theorem dX12_setLine_206 : decode cX12_setLine 206 = .ok (.dup, 1) := by decide +kernel
theorem dX12_setLine_207 : decode cX12_setLine 207 = .ok (.getfield 225, 3) := by decide +kernel
theorem dX12_setLine_210 : decode cX12_setLine 210 = .ok (.iconst 1, 1) := by decide +kernel
theorem dX12_setLine_211 : decode cX12_setLine 211 = .ok (.iadd, 1) := by decide +kernel
theorem dX12_setLine_212 : decode cX12_setLine 212 = .ok (.putfield 225, 3) := by decide +kernel
theorem dX12_setLine_215 : decode cX12_setLine 215 = .ok (.iconst 1, 1) := by decide +kernel
theorem dX12_setLine_216 : decode cX12_setLine 216 = .ok (.ireturn, 1) := by decide +kernel
set_option maxRecDepth 20000 in
theorem ggX12_bankLine_X12_token : GoodIn wsX12_bankLine wsX12_token := goodIn_r _ [7, 8, 9, 10, 11, 12, 13, 14, 15, 16, 17, 6, 18, 19, 20, 21, 22, 23, 24, 25, 26, 27, 28, 29, 30, 31, 32, 33, 34, 35, 49, 50, 51, 52, 53, 54, 55, 56, 57, 58, 59, 60, 61, 62, 63, 64, 65, 66, 67, 68, 69, 70, 71, 72, 73, 74, 75, 76, 77, 78, 79, 80, 81, 82, 83, 84, 85, 86, 87, 88, 89, 90, 91, 92, 93, 94, 95, 96, 97, 98, 99, 100, 101, 102, 103, 104, 105, 106, 107, 108, 109, 110, 111, 112, 113, 114, 115, 116, 117, 118, 119, 120, 121, 122, 123, 124, 125, 126, 127, 128, 129, 130, 131, 132, 133, 134, 135] (by decide +kernel) (by decide +kernel)
set_option maxRecDepth 20000 in
theorem gX12_bankLine_X12_token : GoodIn wsX12_bankLine (wsV RX12 206 RX12 yX12_token wsX12_token) := goodIn_app (goodIn_of _ (by decide +kernel)) ggX12_bankLine_X12_token
set_option maxRecDepth 20000 in
theorem ggX12_bankLine_X12_number : GoodIn wsX12_bankLine wsX12_number := goodIn_r _ [39, 12, 13, 2, 40, 41, 42, 6, 43, 44, 11, 45, 46, 47, 48, 3, 4, 5, 7, 8, 9, 10, 14, 15, 16, 17, 18, 19, 20, 21, 22, 23, 24, 25, 26, 27, 28, 29, 30, 31, 32, 33, 34, 35, 49, 50, 51, 52, 53, 54, 55, 56, 57, 58, 59, 60, 61, 62, 63, 64, 65, 66, 67, 68, 69, 70, 71, 72, 73, 74, 75, 76, 77, 78, 79, 80, 81, 82, 83, 84, 85, 86, 87, 88, 89, 90, 91, 92, 93, 94, 95, 96, 97, 98, 99, 100, 101, 102, 103, 104, 105, 106, 107, 108, 109, 110, 111, 112, 113, 114, 115, 116, 117, 118, 119, 120, 121, 122, 123, 124, 125, 126, 127, 128, 129, 130, 131, 132, 133, 134, 135] (by decide +kernel) (by decide +kernel)
set_option maxRecDepth 20000 in
theorem gX12_bankLine_X12_number : GoodIn wsX12_bankLine (wsV RX12 212 RX12 yX12_number wsX12_number) := goodIn_app (goodIn_of _ (by decide +kernel)) ggX12_bankLine_X12_number
theorem dX12_bankLine_0 : decode cX12_bankLine 0 = .ok (.aload_n 0, 1) := by decide +kernel
theorem dX12_bankLine_1 : decode cX12_bankLine 1 = .ok (.invokevirtual 206, 3) := by decide +kernel
theorem dX12_bankLine_4 : decode cX12_bankLine 4 = .ok (.aload_n 0, 1) := by decide +kernel
theorem dX12_bankLine_5 : decode cX12_bankLine 5 = .ok (.iconst 1, 1) := by decide +kernel
theorem dX12_bankLine_6 : decode cX12_bankLine 6 = .ok (.bipush 20, 2) := by decide +kernel
theorem dX12_bankLine_8 : decode cX12_bankLine 8 = .ok (.invokevirtual 212, 3) := by decide +kernel
theorem dX12_bankLine_11 : decode cX12_bankLine 11 = .ok (.ifCond .ne 5, 3) := by decide +kernel
theorem dX12_bankLine_14 : decode cX12_bankLine 14 = .ok (.iconst 0, 1) := by decide +kernel
theorem dX12_bankLine_15 : decode cX12_bankLine 15 = .ok (.ireturn, 1) := by decide +kernel
theorem dX12_bankLine_16 : decode cX12_bankLine 16 = .ok (.aload_n 0, 1) := by decide +kernel
theorem dX12_bankLine_17 : decode cX12_bankLine 17 = .ok (.getfield 24, 3) := by decide +kernel
theorem dX12_bankLine_20 : decode cX12_bankLine 20 = .ok (.bipush 9, 2) := by decide +kernel
theorem dX12_bankLine_22 : decode cX12_bankLine 22 = .ok (.aload_n 0, 1) := by decide +kernel
theorem dX12_bankLine_23 : decode cX12_bankLine 23 = .ok (.getfield 203, 3) := by decide +kernel
theorem dX12_bankLine_26 : decode cX12_bankLine 26 = .ok (.iastore, 1) := by decide +kernel
theorem dX12_bankLine_27 : decode cX12_bankLine 27 = .ok (.aload_n 0, 1) := by decide +kernel
theorem dX12_bankLine_28 : decode cX12_bankLine 28 = .ok (.iconst 1, 1) := by decide +kernel
theorem dX12_bankLine_29 : decode cX12_bankLine 29 = .ok (.bipush 20, 2) := by decide +kernel
theorem dX12_bankLine_31 : decode cX12_bankLine 31 = .ok (.invokevirtual 212, 3) := by decide +kernel
theorem dX12_bankLine_34 : decode cX12_bankLine 34 = .ok (.ifCond .ne 5, 3) := by decide +kernel
theorem dX12_bankLine_37 : decode cX12_bankLine 37 = .ok (.iconst 0, 1) := by decide +kernel
theorem dX12_bankLine_38 : decode cX12_bankLine 38 = .ok (.ireturn, 1) := by decide +kernel
theorem dX12_bankLine_39 : decode cX12_bankLine 39 = .ok (.aload_n 0, 1) := by decide +kernel
theorem dX12_bankLine_40 : decode cX12_bankLine 40 = .ok (.getfield 24, 3) := by decide +kernel
theorem dX12_bankLine_43 : decode cX12_bankLine 43 = .ok (.bipush 10, 2) := by decide +kernel
theorem dX12_bankLine_45 : decode cX12_bankLine 45 = .ok (.aload_n 0, 1) := by decide +kernel
theorem dX12_bankLine_46 : decode cX12_bankLine 46 = .ok (.getfield 203, 3) := by decide +kernel
theorem dX12_bankLine_49 : decode cX12_bankLine 49 = .ok (.iastore, 1) := by decide +kernel
theorem dX12_bankLine_50 : decode cX12_bankLine 50 = .ok (.aload_n 0, 1) := by decide +kernel
theorem dX12_bankLine_51 : decode cX12_bankLine 51 = .ok (.iconst 1, 1) := by decide +kernel
theorem dX12_bankLine_52 : decode cX12_bankLine 52 = .ok (.bipush 9, 2) := by decide +kernel
theorem dX12_bankLine_54 : decode cX12_bankLine 54 = .ok (.invokevirtual 212, 3) := by decide +kernel
theorem dX12_bankLine_57 : decode cX12_bankLine 57 = .ok (.ifCond .ne 5, 3) := by decide +kernel
theorem dX12_bankLine_60 : decode cX12_bankLine 60 = .ok (.iconst 0, 1) := by decide +kernel
theorem dX12_bankLine_61 : decode cX12_bankLine 61 = .ok (.ireturn, 1) := by decide +kernel
theorem dX12_bankLine_62 : decode cX12_bankLine 62 = .ok (.aload_n 0, 1) := by decide +kernel
theorem dX12_bankLine_63 : decode cX12_bankLine 63 = .ok (.getfield 24, 3) := by decide +kernel
theorem dX12_bankLine_66 : decode cX12_bankLine 66 = .ok (.bipush 11, 2) := by decide +kernel
theorem dX12_bankLine_68 : decode cX12_bankLine 68 = .ok (.aload_n 0, 1) := by decide +kernel
theorem dX12_bankLine_69 : decode cX12_bankLine 69 = .ok (.getfield 203, 3) := by decide +kernel
theorem dX12_bankLine_72 : decode cX12_bankLine 72 = .ok (.iastore, 1) := by decide +kernel
theorem dX12_bankLine_73 : decode cX12_bankLine 73 = .ok (.iconst 1, 1) := by decide +kernel
theorem dX12_bankLine_74 : decode cX12_bankLine 74 = .ok (.ireturn, 1) := by decide +kernel
set_option maxRecDepth 20000 in
theorem ggX12_onceLine_X12_wrong : GoodIn wsX12_onceLine wsX12_wrong := goodIn_r _ [12, 13, 14, 15, 62, 63, 64, 65, 66, 67, 68, 69, 70, 71, 72, 73, 74, 75, 76, 77, 78, 79, 80, 81, 82, 83, 84, 85, 86, 87, 88, 89, 90, 91, 92, 93, 94, 95, 96, 97, 98, 99, 100, 101, 102, 103, 104, 105, 106, 107, 108, 109, 110, 111, 112, 113, 114, 115, 116, 117, 118, 119, 120, 121, 122, 123, 124, 125, 126, 127, 128, 129, 130, 131, 132, 133, 134, 135, 136, 137, 138, 139, 140, 141, 142, 143, 144, 145, 146, 147, 148] (by decide +kernel) (by decide +kernel)
set_option maxRecDepth 20000 in
theorem gX12_onceLine_X12_wrong : GoodIn wsX12_onceLine (wsV RX12 196 RX12 yX12_wrong wsX12_wrong) := goodIn_app (goodIn_of _ (by decide +kernel)) ggX12_onceLine_X12_wrong
set_option maxRecDepth 20000 in
theorem ggX12_onceLine_X12_bankLine : GoodIn wsX12_onceLine wsX12_bankLine := goodIn_r _ [19, 3, 5, 20, 21, 22, 11, 23, 24, 25, 26, 14, 7, 1, 6, 27, 28, 29, 30, 31, 32, 33, 34, 35, 36, 37, 38, 39, 40, 41, 42, 43, 44, 45, 46, 47, 48, 49, 50, 51, 8, 9, 10, 12, 13, 15, 52, 53, 54, 62, 63, 64, 65, 66, 67, 68, 69, 70, 71, 72, 73, 74, 75, 76, 77, 78, 79, 80, 81, 82, 83, 84, 85, 86, 87, 88, 89, 90, 91, 92, 93, 94, 95, 96, 97, 98, 99, 100, 101, 102, 103, 104, 105, 106, 107, 108, 109, 110, 111, 112, 113, 114, 115, 116, 117, 118, 119, 120, 121, 122, 123, 124, 125, 126, 127, 128, 129, 130, 131, 132, 133, 134, 135, 136, 137, 138, 139, 140, 141, 142, 143, 144, 145, 146, 147, 148] (by decide +kernel) (by decide +kernel)
set_option maxRecDepth 20000 in
theorem gX12_onceLine_X12_bankLine : GoodIn wsX12_onceLine (wsV RX12 277 RX12 yX12_bankLine wsX12_bankLine) := goodIn_app (goodIn_of _ (by decide +kernel)) ggX12_onceLine_X12_bankLine
set_option maxRecDepth 20000 in
theorem ggX12_onceLine_X12_token : GoodIn wsX12_onceLine wsX12_token := goodIn_r _ [23, 24, 25, 26, 14, 7, 1, 6, 27, 28, 29, 11, 30, 31, 32, 33, 34, 35, 36, 37, 38, 39, 40, 41, 42, 43, 44, 45, 46, 47, 62, 63, 64, 65, 66, 67, 68, 69, 70, 71, 72, 73, 74, 75, 76, 77, 78, 79, 80, 81, 82, 83, 84, 85, 86, 87, 88, 89, 90, 91, 92, 93, 94, 95, 96, 97, 98, 99, 100, 101, 102, 103, 104, 105, 106, 107, 108, 109, 110, 111, 112, 113, 114, 115, 116, 117, 118, 119, 120, 121, 122, 123, 124, 125, 126, 127, 128, 129, 130, 131, 132, 133, 134, 135, 136, 137, 138, 139, 140, 141, 142, 143, 144, 145, 146, 147, 148] (by decide +kernel) (by decide +kernel)
