theorem zd_dX12_leafRead_0 : sg (cX12_leafRead.data.toList.drop 0) [[42], [16, 40], [182, 0, 209], [153, 0, 44], [42], [180, 1, 60], [16, 8], [160, 0, 9], [42], [5], [182, 0, 196], [172], [42], [89], [180, 1, 60], [4], [96], [181, 1, 60], [42], [3]] = true := by decide +kernel
theorem dX12_leafRead_0 : decode cX12_leafRead 0 = .ok (.aload_n 0, 1) := dc_42 (sg_at zd_dX12_leafRead_0 0 rfl rfl)
theorem dX12_leafRead_1 : decode cX12_leafRead 1 = .ok (.bipush 40, 2) := dc_16 (sg_at zd_dX12_leafRead_0 1 rfl rfl) rfl
theorem dX12_leafRead_3 : decode cX12_leafRead 3 = .ok (.invokevirtual 209, 3) := dc_182 (sg_at zd_dX12_leafRead_0 2 rfl rfl) rfl
theorem dX12_leafRead_6 : decode cX12_leafRead 6 = .ok (.ifCond .eq 44, 3) := dc_153 (sg_at zd_dX12_leafRead_0 3 rfl rfl) rfl
theorem dX12_leafRead_9 : decode cX12_leafRead 9 = .ok (.aload_n 0, 1) := dc_42 (sg_at zd_dX12_leafRead_0 4 rfl rfl)
theorem dX12_leafRead_10 : decode cX12_leafRead 10 = .ok (.getfield 316, 3) := dc_180 (sg_at zd_dX12_leafRead_0 5 rfl rfl) rfl
theorem dX12_leafRead_13 : decode cX12_leafRead 13 = .ok (.bipush 8, 2) := dc_16 (sg_at zd_dX12_leafRead_0 6 rfl rfl) rfl
theorem dX12_leafRead_15 : decode cX12_leafRead 15 = .ok (.if_icmp .ne 9, 3) := dc_160 (sg_at zd_dX12_leafRead_0 7 rfl rfl) rfl
theorem dX12_leafRead_18 : decode cX12_leafRead 18 = .ok (.aload_n 0, 1) := dc_42 (sg_at zd_dX12_leafRead_0 8 rfl rfl)
theorem dX12_leafRead_19 : decode cX12_leafRead 19 = .ok (.iconst 2, 1) := dc_5 (sg_at zd_dX12_leafRead_0 9 rfl rfl)
theorem dX12_leafRead_20 : decode cX12_leafRead 20 = .ok (.invokevirtual 196, 3) := dc_182 (sg_at zd_dX12_leafRead_0 10 rfl rfl) rfl
theorem dX12_leafRead_23 : decode cX12_leafRead 23 = .ok (.ireturn, 1) := dc_172 (sg_at zd_dX12_leafRead_0 11 rfl rfl)
theorem dX12_leafRead_24 : decode cX12_leafRead 24 = .ok (.aload_n 0, 1) := dc_42 (sg_at zd_dX12_leafRead_0 12 rfl rfl)
theorem dX12_leafRead_25 : decode cX12_leafRead 25 = .ok (.dup, 1) := dc_89 (sg_at zd_dX12_leafRead_0 13 rfl rfl)
theorem dX12_leafRead_26 : decode cX12_leafRead 26 = .ok (.getfield 316, 3) := dc_180 (sg_at zd_dX12_leafRead_0 14 rfl rfl) rfl
theorem dX12_leafRead_29 : decode cX12_leafRead 29 = .ok (.iconst 1, 1) := dc_4 (sg_at zd_dX12_leafRead_0 15 rfl rfl)
theorem dX12_leafRead_30 : decode cX12_leafRead 30 = .ok (.iadd, 1) := dc_96 (sg_at zd_dX12_leafRead_0 16 rfl rfl)
theorem dX12_leafRead_31 : decode cX12_leafRead 31 = .ok (.putfield 316, 3) := dc_181 (sg_at zd_dX12_leafRead_0 17 rfl rfl) rfl
theorem dX12_leafRead_34 : decode cX12_leafRead 34 = .ok (.aload_n 0, 1) := dc_42 (sg_at zd_dX12_leafRead_0 18 rfl rfl)
theorem dX12_leafRead_35 : decode cX12_leafRead 35 = .ok (.iconst 0, 1) := dc_3 (sg_at zd_dX12_leafRead_0 19 rfl rfl)
theorem zd_dX12_leafRead_36 : sg (cX12_leafRead.data.toList.drop 36) [[182, 1, 63], [42], [4], [181, 1, 67], [42], [182, 0, 206], [4], [172], [42], [16, 17], [182, 1, 70], [153, 0, 30], [42], [180, 1, 67], [153, 0, 23], [42], [182, 1, 73], [154, 0, 5], [3], [172]] = true := by decide +kernel
theorem dX12_leafRead_36 : decode cX12_leafRead 36 = .ok (.invokevirtual 319, 3) := dc_182 (sg_at zd_dX12_leafRead_36 0 rfl rfl) rfl
theorem dX12_leafRead_39 : decode cX12_leafRead 39 = .ok (.aload_n 0, 1) := dc_42 (sg_at zd_dX12_leafRead_36 1 rfl rfl)
theorem dX12_leafRead_40 : decode cX12_leafRead 40 = .ok (.iconst 1, 1) := dc_4 (sg_at zd_dX12_leafRead_36 2 rfl rfl)
theorem dX12_leafRead_41 : decode cX12_leafRead 41 = .ok (.putfield 323, 3) := dc_181 (sg_at zd_dX12_leafRead_36 3 rfl rfl) rfl
theorem dX12_leafRead_44 : decode cX12_leafRead 44 = .ok (.aload_n 0, 1) := dc_42 (sg_at zd_dX12_leafRead_36 4 rfl rfl)
theorem dX12_leafRead_45 : decode cX12_leafRead 45 = .ok (.invokevirtual 206, 3) := dc_182 (sg_at zd_dX12_leafRead_36 5 rfl rfl) rfl
theorem dX12_leafRead_48 : decode cX12_leafRead 48 = .ok (.iconst 1, 1) := dc_4 (sg_at zd_dX12_leafRead_36 6 rfl rfl)
theorem dX12_leafRead_49 : decode cX12_leafRead 49 = .ok (.ireturn, 1) := dc_172 (sg_at zd_dX12_leafRead_36 7 rfl rfl)
theorem dX12_leafRead_50 : decode cX12_leafRead 50 = .ok (.aload_n 0, 1) := dc_42 (sg_at zd_dX12_leafRead_36 8 rfl rfl)
theorem dX12_leafRead_51 : decode cX12_leafRead 51 = .ok (.bipush 17, 2) := dc_16 (sg_at zd_dX12_leafRead_36 9 rfl rfl) rfl
theorem dX12_leafRead_53 : decode cX12_leafRead 53 = .ok (.invokevirtual 326, 3) := dc_182 (sg_at zd_dX12_leafRead_36 10 rfl rfl) rfl
theorem dX12_leafRead_56 : decode cX12_leafRead 56 = .ok (.ifCond .eq 30, 3) := dc_153 (sg_at zd_dX12_leafRead_36 11 rfl rfl) rfl
theorem dX12_leafRead_59 : decode cX12_leafRead 59 = .ok (.aload_n 0, 1) := dc_42 (sg_at zd_dX12_leafRead_36 12 rfl rfl)
theorem dX12_leafRead_60 : decode cX12_leafRead 60 = .ok (.getfield 323, 3) := dc_180 (sg_at zd_dX12_leafRead_36 13 rfl rfl) rfl
theorem dX12_leafRead_63 : decode cX12_leafRead 63 = .ok (.ifCond .eq 23, 3) := dc_153 (sg_at zd_dX12_leafRead_36 14 rfl rfl) rfl
theorem dX12_leafRead_66 : decode cX12_leafRead 66 = .ok (.aload_n 0, 1) := dc_42 (sg_at zd_dX12_leafRead_36 15 rfl rfl)
theorem dX12_leafRead_67 : decode cX12_leafRead 67 = .ok (.invokevirtual 329, 3) := dc_182 (sg_at zd_dX12_leafRead_36 16 rfl rfl) rfl
theorem dX12_leafRead_70 : decode cX12_leafRead 70 = .ok (.ifCond .ne 5, 3) := dc_154 (sg_at zd_dX12_leafRead_36 17 rfl rfl) rfl
theorem dX12_leafRead_73 : decode cX12_leafRead 73 = .ok (.iconst 0, 1) := dc_3 (sg_at zd_dX12_leafRead_36 18 rfl rfl)
theorem dX12_leafRead_74 : decode cX12_leafRead 74 = .ok (.ireturn, 1) := dc_172 (sg_at zd_dX12_leafRead_36 19 rfl rfl)
theorem zd_dX12_leafRead_75 : sg (cX12_leafRead.data.toList.drop 75) [[42], [5], [182, 1, 63], [42], [182, 0, 206], [4], [172], [42], [182, 1, 76], [60], [27], [156, 0, 17], [42], [180, 0, 172], [6], [159, 0, 9], [42], [4], [182, 0, 196], [172]] = true := by decide +kernel
theorem dX12_leafRead_75 : decode cX12_leafRead 75 = .ok (.aload_n 0, 1) := dc_42 (sg_at zd_dX12_leafRead_75 0 rfl rfl)
theorem dX12_leafRead_76 : decode cX12_leafRead 76 = .ok (.iconst 2, 1) := dc_5 (sg_at zd_dX12_leafRead_75 1 rfl rfl)
theorem dX12_leafRead_77 : decode cX12_leafRead 77 = .ok (.invokevirtual 319, 3) := dc_182 (sg_at zd_dX12_leafRead_75 2 rfl rfl) rfl
theorem dX12_leafRead_80 : decode cX12_leafRead 80 = .ok (.aload_n 0, 1) := dc_42 (sg_at zd_dX12_leafRead_75 3 rfl rfl)
theorem dX12_leafRead_81 : decode cX12_leafRead 81 = .ok (.invokevirtual 206, 3) := dc_182 (sg_at zd_dX12_leafRead_75 4 rfl rfl) rfl
theorem dX12_leafRead_84 : decode cX12_leafRead 84 = .ok (.iconst 1, 1) := dc_4 (sg_at zd_dX12_leafRead_75 5 rfl rfl)
theorem dX12_leafRead_85 : decode cX12_leafRead 85 = .ok (.ireturn, 1) := dc_172 (sg_at zd_dX12_leafRead_75 6 rfl rfl)
theorem dX12_leafRead_86 : decode cX12_leafRead 86 = .ok (.aload_n 0, 1) := dc_42 (sg_at zd_dX12_leafRead_75 7 rfl rfl)
theorem dX12_leafRead_87 : decode cX12_leafRead 87 = .ok (.invokevirtual 332, 3) := dc_182 (sg_at zd_dX12_leafRead_75 8 rfl rfl) rfl
theorem dX12_leafRead_90 : decode cX12_leafRead 90 = .ok (.istore_n 1, 1) := dc_60 (sg_at zd_dX12_leafRead_75 9 rfl rfl)
theorem dX12_leafRead_91 : decode cX12_leafRead 91 = .ok (.iload_n 1, 1) := dc_27 (sg_at zd_dX12_leafRead_75 10 rfl rfl)
theorem dX12_leafRead_92 : decode cX12_leafRead 92 = .ok (.ifCond .ge 17, 3) := dc_156 (sg_at zd_dX12_leafRead_75 11 rfl rfl) rfl
theorem dX12_leafRead_95 : decode cX12_leafRead 95 = .ok (.aload_n 0, 1) := dc_42 (sg_at zd_dX12_leafRead_75 12 rfl rfl)
theorem dX12_leafRead_96 : decode cX12_leafRead 96 = .ok (.getfield 172, 3) := dc_180 (sg_at zd_dX12_leafRead_75 13 rfl rfl) rfl
theorem dX12_leafRead_99 : decode cX12_leafRead 99 = .ok (.iconst 3, 1) := dc_6 (sg_at zd_dX12_leafRead_75 14 rfl rfl)
theorem dX12_leafRead_100 : decode cX12_leafRead 100 = .ok (.if_icmp .eq 9, 3) := dc_159 (sg_at zd_dX12_leafRead_75 15 rfl rfl) rfl
theorem dX12_leafRead_103 : decode cX12_leafRead 103 = .ok (.aload_n 0, 1) := dc_42 (sg_at zd_dX12_leafRead_75 16 rfl rfl)
theorem dX12_leafRead_104 : decode cX12_leafRead 104 = .ok (.iconst 1, 1) := dc_4 (sg_at zd_dX12_leafRead_75 17 rfl rfl)
theorem dX12_leafRead_105 : decode cX12_leafRead 105 = .ok (.invokevirtual 196, 3) := dc_182 (sg_at zd_dX12_leafRead_75 18 rfl rfl) rfl
theorem dX12_leafRead_108 : decode cX12_leafRead 108 = .ok (.ireturn, 1) := dc_172 (sg_at zd_dX12_leafRead_75 19 rfl rfl)
theorem zd_dX12_leafRead_109 : sg (cX12_leafRead.data.toList.drop 109) [[27], [156, 0, 19], [42], [180, 0, 183], [17, 39, 15], [164, 0, 9], [42], [5], [182, 0, 196], [172], [42], [182, 1, 73], [154, 0, 5], [3], [172], [42], [27], [155, 0, 7], [4], [167, 0, 4]] = true := by decide +kernel
theorem dX12_leafRead_109 : decode cX12_leafRead 109 = .ok (.iload_n 1, 1) := dc_27 (sg_at zd_dX12_leafRead_109 0 rfl rfl)
theorem dX12_leafRead_110 : decode cX12_leafRead 110 = .ok (.ifCond .ge 19, 3) := dc_156 (sg_at zd_dX12_leafRead_109 1 rfl rfl) rfl
theorem dX12_leafRead_113 : decode cX12_leafRead 113 = .ok (.aload_n 0, 1) := dc_42 (sg_at zd_dX12_leafRead_109 2 rfl rfl)
theorem dX12_leafRead_114 : decode cX12_leafRead 114 = .ok (.getfield 183, 3) := dc_180 (sg_at zd_dX12_leafRead_109 3 rfl rfl) rfl
theorem dX12_leafRead_117 : decode cX12_leafRead 117 = .ok (.sipush 9999, 3) := dc_17 (sg_at zd_dX12_leafRead_109 4 rfl rfl) rfl
theorem dX12_leafRead_120 : decode cX12_leafRead 120 = .ok (.if_icmp .le 9, 3) := dc_164 (sg_at zd_dX12_leafRead_109 5 rfl rfl) rfl
theorem dX12_leafRead_123 : decode cX12_leafRead 123 = .ok (.aload_n 0, 1) := dc_42 (sg_at zd_dX12_leafRead_109 6 rfl rfl)
theorem dX12_leafRead_124 : decode cX12_leafRead 124 = .ok (.iconst 2, 1) := dc_5 (sg_at zd_dX12_leafRead_109 7 rfl rfl)
theorem dX12_leafRead_125 : decode cX12_leafRead 125 = .ok (.invokevirtual 196, 3) := dc_182 (sg_at zd_dX12_leafRead_109 8 rfl rfl) rfl
theorem dX12_leafRead_128 : decode cX12_leafRead 128 = .ok (.ireturn, 1) := dc_172 (sg_at zd_dX12_leafRead_109 9 rfl rfl)
theorem dX12_leafRead_129 : decode cX12_leafRead 129 = .ok (.aload_n 0, 1) := dc_42 (sg_at zd_dX12_leafRead_109 10 rfl rfl)
theorem dX12_leafRead_130 : decode cX12_leafRead 130 = .ok (.invokevirtual 329, 3) := dc_182 (sg_at zd_dX12_leafRead_109 11 rfl rfl) rfl
theorem dX12_leafRead_133 : decode cX12_leafRead 133 = .ok (.ifCond .ne 5, 3) := dc_154 (sg_at zd_dX12_leafRead_109 12 rfl rfl) rfl
theorem dX12_leafRead_136 : decode cX12_leafRead 136 = .ok (.iconst 0, 1) := dc_3 (sg_at zd_dX12_leafRead_109 13 rfl rfl)
theorem dX12_leafRead_137 : decode cX12_leafRead 137 = .ok (.ireturn, 1) := dc_172 (sg_at zd_dX12_leafRead_109 14 rfl rfl)
theorem dX12_leafRead_138 : decode cX12_leafRead 138 = .ok (.aload_n 0, 1) := dc_42 (sg_at zd_dX12_leafRead_109 15 rfl rfl)
theorem dX12_leafRead_139 : decode cX12_leafRead 139 = .ok (.iload_n 1, 1) := dc_27 (sg_at zd_dX12_leafRead_109 16 rfl rfl)
theorem dX12_leafRead_140 : decode cX12_leafRead 140 = .ok (.ifCond .lt 7, 3) := dc_155 (sg_at zd_dX12_leafRead_109 17 rfl rfl) rfl
theorem dX12_leafRead_143 : decode cX12_leafRead 143 = .ok (.iconst 1, 1) := dc_4 (sg_at zd_dX12_leafRead_109 18 rfl rfl)
theorem dX12_leafRead_144 : decode cX12_leafRead 144 = .ok (.goto 4, 3) := dc_167 (sg_at zd_dX12_leafRead_109 19 rfl rfl) rfl
theorem zd_dX12_leafRead_147 : sg (cX12_leafRead.data.toList.drop 147) [[3], [27], [155, 0, 7], [27], [167, 0, 7], [42], [180, 0, 183], [3], [182, 1, 56], [42], [3], [181, 1, 79], [42], [182, 0, 206], [4], [172]] = true := by decide +kernel
theorem dX12_leafRead_147 : decode cX12_leafRead 147 = .ok (.iconst 0, 1) := dc_3 (sg_at zd_dX12_leafRead_147 0 rfl rfl)
theorem dX12_leafRead_148 : decode cX12_leafRead 148 = .ok (.iload_n 1, 1) := dc_27 (sg_at zd_dX12_leafRead_147 1 rfl rfl)
theorem dX12_leafRead_149 : decode cX12_leafRead 149 = .ok (.ifCond .lt 7, 3) := dc_155 (sg_at zd_dX12_leafRead_147 2 rfl rfl) rfl
theorem dX12_leafRead_152 : decode cX12_leafRead 152 = .ok (.iload_n 1, 1) := dc_27 (sg_at zd_dX12_leafRead_147 3 rfl rfl)
theorem dX12_leafRead_153 : decode cX12_leafRead 153 = .ok (.goto 7, 3) := dc_167 (sg_at zd_dX12_leafRead_147 4 rfl rfl) rfl
theorem dX12_leafRead_156 : decode cX12_leafRead 156 = .ok (.aload_n 0, 1) := dc_42 (sg_at zd_dX12_leafRead_147 5 rfl rfl)
theorem dX12_leafRead_157 : decode cX12_leafRead 157 = .ok (.getfield 183, 3) := dc_180 (sg_at zd_dX12_leafRead_147 6 rfl rfl) rfl
theorem dX12_leafRead_160 : decode cX12_leafRead 160 = .ok (.iconst 0, 1) := dc_3 (sg_at zd_dX12_leafRead_147 7 rfl rfl)
theorem dX12_leafRead_161 : decode cX12_leafRead 161 = .ok (.invokevirtual 312, 3) := dc_182 (sg_at zd_dX12_leafRead_147 8 rfl rfl) rfl
theorem dX12_leafRead_164 : decode cX12_leafRead 164 = .ok (.aload_n 0, 1) := dc_42 (sg_at zd_dX12_leafRead_147 9 rfl rfl)
theorem dX12_leafRead_165 : decode cX12_leafRead 165 = .ok (.iconst 0, 1) := dc_3 (sg_at zd_dX12_leafRead_147 10 rfl rfl)
theorem dX12_leafRead_166 : decode cX12_leafRead 166 = .ok (.putfield 335, 3) := dc_181 (sg_at zd_dX12_leafRead_147 11 rfl rfl) rfl
theorem dX12_leafRead_169 : decode cX12_leafRead 169 = .ok (.aload_n 0, 1) := dc_42 (sg_at zd_dX12_leafRead_147 12 rfl rfl)
theorem dX12_leafRead_170 : decode cX12_leafRead 170 = .ok (.invokevirtual 206, 3) := dc_182 (sg_at zd_dX12_leafRead_147 13 rfl rfl) rfl
theorem dX12_leafRead_173 : decode cX12_leafRead 173 = .ok (.iconst 1, 1) := dc_4 (sg_at zd_dX12_leafRead_147 14 rfl rfl)
theorem dX12_leafRead_174 : decode cX12_leafRead 174 = .ok (.ireturn, 1) := dc_172 (sg_at zd_dX12_leafRead_147 15 rfl rfl)
theorem zd_dX12_seaLine_0 : sg (cX12_seaLine.data.toList.drop 0) [[42], [180, 0, 20], [3], [51], [153, 0, 9], [42], [6], [182, 0, 196], [172], [42], [180, 0, 237], [153, 0, 9], [42], [7], [182, 0, 196], [172], [42], [180, 0, 20], [3], [4]] = true := by decide +kernel
theorem dX12_seaLine_0 : decode cX12_seaLine 0 = .ok (.aload_n 0, 1) := dc_42 (sg_at zd_dX12_seaLine_0 0 rfl rfl)
theorem dX12_seaLine_1 : decode cX12_seaLine 1 = .ok (.getfield 20, 3) := dc_180 (sg_at zd_dX12_seaLine_0 1 rfl rfl) rfl
theorem dX12_seaLine_4 : decode cX12_seaLine 4 = .ok (.iconst 0, 1) := dc_3 (sg_at zd_dX12_seaLine_0 2 rfl rfl)
theorem dX12_seaLine_5 : decode cX12_seaLine 5 = .ok (.baload, 1) := dc_51 (sg_at zd_dX12_seaLine_0 3 rfl rfl)
theorem dX12_seaLine_6 : decode cX12_seaLine 6 = .ok (.ifCond .eq 9, 3) := dc_153 (sg_at zd_dX12_seaLine_0 4 rfl rfl) rfl
theorem dX12_seaLine_9 : decode cX12_seaLine 9 = .ok (.aload_n 0, 1) := dc_42 (sg_at zd_dX12_seaLine_0 5 rfl rfl)
theorem dX12_seaLine_10 : decode cX12_seaLine 10 = .ok (.iconst 3, 1) := dc_6 (sg_at zd_dX12_seaLine_0 6 rfl rfl)
theorem dX12_seaLine_11 : decode cX12_seaLine 11 = .ok (.invokevirtual 196, 3) := dc_182 (sg_at zd_dX12_seaLine_0 7 rfl rfl) rfl
theorem dX12_seaLine_14 : decode cX12_seaLine 14 = .ok (.ireturn, 1) := dc_172 (sg_at zd_dX12_seaLine_0 8 rfl rfl)
theorem dX12_seaLine_15 : decode cX12_seaLine 15 = .ok (.aload_n 0, 1) := dc_42 (sg_at zd_dX12_seaLine_0 9 rfl rfl)
theorem dX12_seaLine_16 : decode cX12_seaLine 16 = .ok (.getfield 237, 3) := dc_180 (sg_at zd_dX12_seaLine_0 10 rfl rfl) rfl
theorem dX12_seaLine_19 : decode cX12_seaLine 19 = .ok (.ifCond .eq 9, 3) := dc_153 (sg_at zd_dX12_seaLine_0 11 rfl rfl) rfl
theorem dX12_seaLine_22 : decode cX12_seaLine 22 = .ok (.aload_n 0, 1) := dc_42 (sg_at zd_dX12_seaLine_0 12 rfl rfl)
theorem dX12_seaLine_23 : decode cX12_seaLine 23 = .ok (.iconst 4, 1) := dc_7 (sg_at zd_dX12_seaLine_0 13 rfl rfl)
theorem dX12_seaLine_24 : decode cX12_seaLine 24 = .ok (.invokevirtual 196, 3) := dc_182 (sg_at zd_dX12_seaLine_0 14 rfl rfl) rfl
theorem dX12_seaLine_27 : decode cX12_seaLine 27 = .ok (.ireturn, 1) := dc_172 (sg_at zd_dX12_seaLine_0 15 rfl rfl)
theorem dX12_seaLine_28 : decode cX12_seaLine 28 = .ok (.aload_n 0, 1) := dc_42 (sg_at zd_dX12_seaLine_0 16 rfl rfl)
theorem dX12_seaLine_29 : decode cX12_seaLine 29 = .ok (.getfield 20, 3) := dc_180 (sg_at zd_dX12_seaLine_0 17 rfl rfl) rfl
theorem dX12_seaLine_32 : decode cX12_seaLine 32 = .ok (.iconst 0, 1) := dc_3 (sg_at zd_dX12_seaLine_0 18 rfl rfl)
theorem dX12_seaLine_33 : decode cX12_seaLine 33 = .ok (.iconst 1, 1) := dc_4 (sg_at zd_dX12_seaLine_0 19 rfl rfl)
theorem zd_dX12_seaLine_34 : sg (cX12_seaLine.data.toList.drop 34) [[84], [42], [182, 0, 206], [42], [4], [16, 8], [182, 0, 212], [154, 0, 5], [3], [172], [42], [42], [180, 0, 203], [181, 0, 216], [42], [4], [16, 6], [182, 0, 212], [154, 0, 5], [3]] = true := by decide +kernel
theorem dX12_seaLine_34 : decode cX12_seaLine 34 = .ok (.bastore, 1) := dc_84 (sg_at zd_dX12_seaLine_34 0 rfl rfl)
theorem dX12_seaLine_35 : decode cX12_seaLine 35 = .ok (.aload_n 0, 1) := dc_42 (sg_at zd_dX12_seaLine_34 1 rfl rfl)
theorem dX12_seaLine_36 : decode cX12_seaLine 36 = .ok (.invokevirtual 206, 3) := dc_182 (sg_at zd_dX12_seaLine_34 2 rfl rfl) rfl
theorem dX12_seaLine_39 : decode cX12_seaLine 39 = .ok (.aload_n 0, 1) := dc_42 (sg_at zd_dX12_seaLine_34 3 rfl rfl)
theorem dX12_seaLine_40 : decode cX12_seaLine 40 = .ok (.iconst 1, 1) := dc_4 (sg_at zd_dX12_seaLine_34 4 rfl rfl)
theorem dX12_seaLine_41 : decode cX12_seaLine 41 = .ok (.bipush 8, 2) := dc_16 (sg_at zd_dX12_seaLine_34 5 rfl rfl) rfl
theorem dX12_seaLine_43 : decode cX12_seaLine 43 = .ok (.invokevirtual 212, 3) := dc_182 (sg_at zd_dX12_seaLine_34 6 rfl rfl) rfl
theorem dX12_seaLine_46 : decode cX12_seaLine 46 = .ok (.ifCond .ne 5, 3) := dc_154 (sg_at zd_dX12_seaLine_34 7 rfl rfl) rfl
theorem dX12_seaLine_49 : decode cX12_seaLine 49 = .ok (.iconst 0, 1) := dc_3 (sg_at zd_dX12_seaLine_34 8 rfl rfl)
theorem dX12_seaLine_50 : decode cX12_seaLine 50 = .ok (.ireturn, 1) := dc_172 (sg_at zd_dX12_seaLine_34 9 rfl rfl)
theorem dX12_seaLine_51 : decode cX12_seaLine 51 = .ok (.aload_n 0, 1) := dc_42 (sg_at zd_dX12_seaLine_34 10 rfl rfl)
theorem dX12_seaLine_52 : decode cX12_seaLine 52 = .ok (.aload_n 0, 1) := dc_42 (sg_at zd_dX12_seaLine_34 11 rfl rfl)
theorem dX12_seaLine_53 : decode cX12_seaLine 53 = .ok (.getfield 203, 3) := dc_180 (sg_at zd_dX12_seaLine_34 12 rfl rfl) rfl
theorem dX12_seaLine_56 : decode cX12_seaLine 56 = .ok (.putfield 216, 3) := dc_181 (sg_at zd_dX12_seaLine_34 13 rfl rfl) rfl
theorem dX12_seaLine_59 : decode cX12_seaLine 59 = .ok (.aload_n 0, 1) := dc_42 (sg_at zd_dX12_seaLine_34 14 rfl rfl)
theorem dX12_seaLine_60 : decode cX12_seaLine 60 = .ok (.iconst 1, 1) := dc_4 (sg_at zd_dX12_seaLine_34 15 rfl rfl)
theorem dX12_seaLine_61 : decode cX12_seaLine 61 = .ok (.bipush 6, 2) := dc_16 (sg_at zd_dX12_seaLine_34 16 rfl rfl) rfl
theorem dX12_seaLine_63 : decode cX12_seaLine 63 = .ok (.invokevirtual 212, 3) := dc_182 (sg_at zd_dX12_seaLine_34 17 rfl rfl) rfl
theorem dX12_seaLine_66 : decode cX12_seaLine 66 = .ok (.ifCond .ne 5, 3) := dc_154 (sg_at zd_dX12_seaLine_34 18 rfl rfl) rfl
theorem dX12_seaLine_69 : decode cX12_seaLine 69 = .ok (.iconst 0, 1) := dc_3 (sg_at zd_dX12_seaLine_34 19 rfl rfl)
theorem zd_dX12_seaLine_70 : sg (cX12_seaLine.data.toList.drop 70) [[172], [42], [42], [180, 0, 203], [181, 0, 219], [4], [172]] = true := by decide +kernel
theorem dX12_seaLine_70 : decode cX12_seaLine 70 = .ok (.ireturn, 1) := dc_172 (sg_at zd_dX12_seaLine_70 0 rfl rfl)
theorem dX12_seaLine_71 : decode cX12_seaLine 71 = .ok (.aload_n 0, 1) := dc_42 (sg_at zd_dX12_seaLine_70 1 rfl rfl)
theorem dX12_seaLine_72 : decode cX12_seaLine 72 = .ok (.aload_n 0, 1) := dc_42 (sg_at zd_dX12_seaLine_70 2 rfl rfl)
theorem dX12_seaLine_73 : decode cX12_seaLine 73 = .ok (.getfield 203, 3) := dc_180 (sg_at zd_dX12_seaLine_70 3 rfl rfl) rfl
theorem dX12_seaLine_76 : decode cX12_seaLine 76 = .ok (.putfield 219, 3) := dc_181 (sg_at zd_dX12_seaLine_70 4 rfl rfl) rfl
theorem dX12_seaLine_79 : decode cX12_seaLine 79 = .ok (.iconst 1, 1) := dc_4 (sg_at zd_dX12_seaLine_70 5 rfl rfl)
theorem dX12_seaLine_80 : decode cX12_seaLine 80 = .ok (.ireturn, 1) := dc_172 (sg_at zd_dX12_seaLine_70 6 rfl rfl)
theorem zd_dX12_surferLine_0 : sg (cX12_surferLine.data.toList.drop 0) [[42], [180, 0, 222], [8], [160, 0, 9], [42], [5], [182, 0, 196], [172], [42], [182, 0, 206], [42], [180, 0, 172], [5], [159, 0, 9], [42], [4], [182, 0, 196], [172], [42], [180, 0, 27]] = true := by decide +kernel
theorem dX12_surferLine_0 : decode cX12_surferLine 0 = .ok (.aload_n 0, 1) := dc_42 (sg_at zd_dX12_surferLine_0 0 rfl rfl)
theorem dX12_surferLine_1 : decode cX12_surferLine 1 = .ok (.getfield 222, 3) := dc_180 (sg_at zd_dX12_surferLine_0 1 rfl rfl) rfl
theorem dX12_surferLine_4 : decode cX12_surferLine 4 = .ok (.iconst 5, 1) := dc_8 (sg_at zd_dX12_surferLine_0 2 rfl rfl)
theorem dX12_surferLine_5 : decode cX12_surferLine 5 = .ok (.if_icmp .ne 9, 3) := dc_160 (sg_at zd_dX12_surferLine_0 3 rfl rfl) rfl
theorem dX12_surferLine_8 : decode cX12_surferLine 8 = .ok (.aload_n 0, 1) := dc_42 (sg_at zd_dX12_surferLine_0 4 rfl rfl)
theorem dX12_surferLine_9 : decode cX12_surferLine 9 = .ok (.iconst 2, 1) := dc_5 (sg_at zd_dX12_surferLine_0 5 rfl rfl)
theorem dX12_surferLine_10 : decode cX12_surferLine 10 = .ok (.invokevirtual 196, 3) := dc_182 (sg_at zd_dX12_surferLine_0 6 rfl rfl) rfl
theorem dX12_surferLine_13 : decode cX12_surferLine 13 = .ok (.ireturn, 1) := dc_172 (sg_at zd_dX12_surferLine_0 7 rfl rfl)
theorem dX12_surferLine_14 : decode cX12_surferLine 14 = .ok (.aload_n 0, 1) := dc_42 (sg_at zd_dX12_surferLine_0 8 rfl rfl)
theorem dX12_surferLine_15 : decode cX12_surferLine 15 = .ok (.invokevirtual 206, 3) := dc_182 (sg_at zd_dX12_surferLine_0 9 rfl rfl) rfl
theorem dX12_surferLine_18 : decode cX12_surferLine 18 = .ok (.aload_n 0, 1) := dc_42 (sg_at zd_dX12_surferLine_0 10 rfl rfl)
theorem dX12_surferLine_19 : decode cX12_surferLine 19 = .ok (.getfield 172, 3) := dc_180 (sg_at zd_dX12_surferLine_0 11 rfl rfl) rfl
theorem dX12_surferLine_22 : decode cX12_surferLine 22 = .ok (.iconst 2, 1) := dc_5 (sg_at zd_dX12_surferLine_0 12 rfl rfl)
theorem dX12_surferLine_23 : decode cX12_surferLine 23 = .ok (.if_icmp .eq 9, 3) := dc_159 (sg_at zd_dX12_surferLine_0 13 rfl rfl) rfl
theorem dX12_surferLine_26 : decode cX12_surferLine 26 = .ok (.aload_n 0, 1) := dc_42 (sg_at zd_dX12_surferLine_0 14 rfl rfl)
theorem dX12_surferLine_27 : decode cX12_surferLine 27 = .ok (.iconst 1, 1) := dc_4 (sg_at zd_dX12_surferLine_0 15 rfl rfl)
theorem dX12_surferLine_28 : decode cX12_surferLine 28 = .ok (.invokevirtual 196, 3) := dc_182 (sg_at zd_dX12_surferLine_0 16 rfl rfl) rfl
theorem dX12_surferLine_31 : decode cX12_surferLine 31 = .ok (.ireturn, 1) := dc_172 (sg_at zd_dX12_surferLine_0 17 rfl rfl)
theorem dX12_surferLine_32 : decode cX12_surferLine 32 = .ok (.aload_n 0, 1) := dc_42 (sg_at zd_dX12_surferLine_0 18 rfl rfl)
theorem dX12_surferLine_33 : decode cX12_surferLine 33 = .ok (.getfield 27, 3) := dc_180 (sg_at zd_dX12_surferLine_0 19 rfl rfl) rfl
theorem zd_dX12_surferLine_36 : sg (cX12_surferLine.data.toList.drop 36) [[8], [42], [180, 0, 222], [42], [180, 0, 183], [184, 1, 13], [155, 0, 9], [42], [6], [182, 0, 196], [172], [8], [42], [180, 0, 222], [96], [60], [42], [180, 0, 27], [27], [42]] = true := by decide +kernel
theorem dX12_surferLine_36 : decode cX12_surferLine 36 = .ok (.iconst 5, 1) := dc_8 (sg_at zd_dX12_surferLine_36 0 rfl rfl)
theorem dX12_surferLine_37 : decode cX12_surferLine 37 = .ok (.aload_n 0, 1) := dc_42 (sg_at zd_dX12_surferLine_36 1 rfl rfl)
theorem dX12_surferLine_38 : decode cX12_surferLine 38 = .ok (.getfield 222, 3) := dc_180 (sg_at zd_dX12_surferLine_36 2 rfl rfl) rfl
theorem dX12_surferLine_41 : decode cX12_surferLine 41 = .ok (.aload_n 0, 1) := dc_42 (sg_at zd_dX12_surferLine_36 3 rfl rfl)
theorem dX12_surferLine_42 : decode cX12_surferLine 42 = .ok (.getfield 183, 3) := dc_180 (sg_at zd_dX12_surferLine_36 4 rfl rfl) rfl
theorem dX12_surferLine_45 : decode cX12_surferLine 45 = .ok (.invokestatic 269, 3) := dc_184 (sg_at zd_dX12_surferLine_36 5 rfl rfl) rfl
theorem dX12_surferLine_48 : decode cX12_surferLine 48 = .ok (.ifCond .lt 9, 3) := dc_155 (sg_at zd_dX12_surferLine_36 6 rfl rfl) rfl
theorem dX12_surferLine_51 : decode cX12_surferLine 51 = .ok (.aload_n 0, 1) := dc_42 (sg_at zd_dX12_surferLine_36 7 rfl rfl)
theorem dX12_surferLine_52 : decode cX12_surferLine 52 = .ok (.iconst 3, 1) := dc_6 (sg_at zd_dX12_surferLine_36 8 rfl rfl)
theorem dX12_surferLine_53 : decode cX12_surferLine 53 = .ok (.invokevirtual 196, 3) := dc_182 (sg_at zd_dX12_surferLine_36 9 rfl rfl) rfl
theorem dX12_surferLine_56 : decode cX12_surferLine 56 = .ok (.ireturn, 1) := dc_172 (sg_at zd_dX12_surferLine_36 10 rfl rfl)
theorem dX12_surferLine_57 : decode cX12_surferLine 57 = .ok (.iconst 5, 1) := dc_8 (sg_at zd_dX12_surferLine_36 11 rfl rfl)
theorem dX12_surferLine_58 : decode cX12_surferLine 58 = .ok (.aload_n 0, 1) := dc_42 (sg_at zd_dX12_surferLine_36 12 rfl rfl)
theorem dX12_surferLine_59 : decode cX12_surferLine 59 = .ok (.getfield 222, 3) := dc_180 (sg_at zd_dX12_surferLine_36 13 rfl rfl) rfl
theorem dX12_surferLine_62 : decode cX12_surferLine 62 = .ok (.iadd, 1) := dc_96 (sg_at zd_dX12_surferLine_36 14 rfl rfl)
theorem dX12_surferLine_63 : decode cX12_surferLine 63 = .ok (.istore_n 1, 1) := dc_60 (sg_at zd_dX12_surferLine_36 15 rfl rfl)
theorem dX12_surferLine_64 : decode cX12_surferLine 64 = .ok (.aload_n 0, 1) := dc_42 (sg_at zd_dX12_surferLine_36 16 rfl rfl)
theorem dX12_surferLine_65 : decode cX12_surferLine 65 = .ok (.getfield 27, 3) := dc_180 (sg_at zd_dX12_surferLine_36 17 rfl rfl) rfl
theorem dX12_surferLine_68 : decode cX12_surferLine 68 = .ok (.iload_n 1, 1) := dc_27 (sg_at zd_dX12_surferLine_36 18 rfl rfl)
theorem dX12_surferLine_69 : decode cX12_surferLine 69 = .ok (.aload_n 0, 1) := dc_42 (sg_at zd_dX12_surferLine_36 19 rfl rfl)
theorem zd_dX12_surferLine_70 : sg (cX12_surferLine.data.toList.drop 70) [[180, 0, 183], [79], [42], [182, 0, 206], [42], [182, 1, 17], [154, 0, 5], [3], [172], [42], [180, 0, 30], [27], [42], [180, 0, 216], [42], [180, 0, 203], [104], [42], [180, 1, 10], [96]] = true := by decide +kernel
theorem dX12_surferLine_70 : decode cX12_surferLine 70 = .ok (.getfield 183, 3) := dc_180 (sg_at zd_dX12_surferLine_70 0 rfl rfl) rfl
theorem dX12_surferLine_73 : decode cX12_surferLine 73 = .ok (.iastore, 1) := dc_79 (sg_at zd_dX12_surferLine_70 1 rfl rfl)
theorem dX12_surferLine_74 : decode cX12_surferLine 74 = .ok (.aload_n 0, 1) := dc_42 (sg_at zd_dX12_surferLine_70 2 rfl rfl)
theorem dX12_surferLine_75 : decode cX12_surferLine 75 = .ok (.invokevirtual 206, 3) := dc_182 (sg_at zd_dX12_surferLine_70 3 rfl rfl) rfl
theorem dX12_surferLine_78 : decode cX12_surferLine 78 = .ok (.aload_n 0, 1) := dc_42 (sg_at zd_dX12_surferLine_70 4 rfl rfl)
theorem dX12_surferLine_79 : decode cX12_surferLine 79 = .ok (.invokevirtual 273, 3) := dc_182 (sg_at zd_dX12_surferLine_70 5 rfl rfl) rfl
theorem dX12_surferLine_82 : decode cX12_surferLine 82 = .ok (.ifCond .ne 5, 3) := dc_154 (sg_at zd_dX12_surferLine_70 6 rfl rfl) rfl
theorem dX12_surferLine_85 : decode cX12_surferLine 85 = .ok (.iconst 0, 1) := dc_3 (sg_at zd_dX12_surferLine_70 7 rfl rfl)
theorem dX12_surferLine_86 : decode cX12_surferLine 86 = .ok (.ireturn, 1) := dc_172 (sg_at zd_dX12_surferLine_70 8 rfl rfl)
theorem dX12_surferLine_87 : decode cX12_surferLine 87 = .ok (.aload_n 0, 1) := dc_42 (sg_at zd_dX12_surferLine_70 9 rfl rfl)
theorem dX12_surferLine_88 : decode cX12_surferLine 88 = .ok (.getfield 30, 3) := dc_180 (sg_at zd_dX12_surferLine_70 10 rfl rfl) rfl
theorem dX12_surferLine_91 : decode cX12_surferLine 91 = .ok (.iload_n 1, 1) := dc_27 (sg_at zd_dX12_surferLine_70 11 rfl rfl)
theorem dX12_surferLine_92 : decode cX12_surferLine 92 = .ok (.aload_n 0, 1) := dc_42 (sg_at zd_dX12_surferLine_70 12 rfl rfl)
theorem dX12_surferLine_93 : decode cX12_surferLine 93 = .ok (.getfield 216, 3) := dc_180 (sg_at zd_dX12_surferLine_70 13 rfl rfl) rfl
theorem dX12_surferLine_96 : decode cX12_surferLine 96 = .ok (.aload_n 0, 1) := dc_42 (sg_at zd_dX12_surferLine_70 14 rfl rfl)
theorem dX12_surferLine_97 : decode cX12_surferLine 97 = .ok (.getfield 203, 3) := dc_180 (sg_at zd_dX12_surferLine_70 15 rfl rfl) rfl
theorem dX12_surferLine_100 : decode cX12_surferLine 100 = .ok (.imul, 1) := dc_104 (sg_at zd_dX12_surferLine_70 16 rfl rfl)
theorem dX12_surferLine_101 : decode cX12_surferLine 101 = .ok (.aload_n 0, 1) := dc_42 (sg_at zd_dX12_surferLine_70 17 rfl rfl)
theorem dX12_surferLine_102 : decode cX12_surferLine 102 = .ok (.getfield 266, 3) := dc_180 (sg_at zd_dX12_surferLine_70 18 rfl rfl) rfl
theorem dX12_surferLine_105 : decode cX12_surferLine 105 = .ok (.iadd, 1) := dc_96 (sg_at zd_dX12_surferLine_70 19 rfl rfl)
theorem zd_dX12_surferLine_106 : sg (cX12_surferLine.data.toList.drop 106) [[79], [42], [4], [16, 9], [182, 0, 212], [154, 0, 5], [3], [172], [42], [180, 0, 33], [27], [42], [180, 0, 203], [79], [42], [4], [6], [182, 0, 212], [154, 0, 5], [3]] = true := by decide +kernel
theorem dX12_surferLine_106 : decode cX12_surferLine 106 = .ok (.iastore, 1) := dc_79 (sg_at zd_dX12_surferLine_106 0 rfl rfl)
theorem dX12_surferLine_107 : decode cX12_surferLine 107 = .ok (.aload_n 0, 1) := dc_42 (sg_at zd_dX12_surferLine_106 1 rfl rfl)
theorem dX12_surferLine_108 : decode cX12_surferLine 108 = .ok (.iconst 1, 1) := dc_4 (sg_at zd_dX12_surferLine_106 2 rfl rfl)
theorem dX12_surferLine_109 : decode cX12_surferLine 109 = .ok (.bipush 9, 2) := dc_16 (sg_at zd_dX12_surferLine_106 3 rfl rfl) rfl
theorem dX12_surferLine_111 : decode cX12_surferLine 111 = .ok (.invokevirtual 212, 3) := dc_182 (sg_at zd_dX12_surferLine_106 4 rfl rfl) rfl
theorem dX12_surferLine_114 : decode cX12_surferLine 114 = .ok (.ifCond .ne 5, 3) := dc_154 (sg_at zd_dX12_surferLine_106 5 rfl rfl) rfl
theorem dX12_surferLine_117 : decode cX12_surferLine 117 = .ok (.iconst 0, 1) := dc_3 (sg_at zd_dX12_surferLine_106 6 rfl rfl)
theorem dX12_surferLine_118 : decode cX12_surferLine 118 = .ok (.ireturn, 1) := dc_172 (sg_at zd_dX12_surferLine_106 7 rfl rfl)
theorem dX12_surferLine_119 : decode cX12_surferLine 119 = .ok (.aload_n 0, 1) := dc_42 (sg_at zd_dX12_surferLine_106 8 rfl rfl)
theorem dX12_surferLine_120 : decode cX12_surferLine 120 = .ok (.getfield 33, 3) := dc_180 (sg_at zd_dX12_surferLine_106 9 rfl rfl) rfl
theorem dX12_surferLine_123 : decode cX12_surferLine 123 = .ok (.iload_n 1, 1) := dc_27 (sg_at zd_dX12_surferLine_106 10 rfl rfl)
theorem dX12_surferLine_124 : decode cX12_surferLine 124 = .ok (.aload_n 0, 1) := dc_42 (sg_at zd_dX12_surferLine_106 11 rfl rfl)
theorem dX12_surferLine_125 : decode cX12_surferLine 125 = .ok (.getfield 203, 3) := dc_180 (sg_at zd_dX12_surferLine_106 12 rfl rfl) rfl
theorem dX12_surferLine_128 : decode cX12_surferLine 128 = .ok (.iastore, 1) := dc_79 (sg_at zd_dX12_surferLine_106 13 rfl rfl)
theorem dX12_surferLine_129 : decode cX12_surferLine 129 = .ok (.aload_n 0, 1) := dc_42 (sg_at zd_dX12_surferLine_106 14 rfl rfl)
theorem dX12_surferLine_130 : decode cX12_surferLine 130 = .ok (.iconst 1, 1) := dc_4 (sg_at zd_dX12_surferLine_106 15 rfl rfl)
theorem dX12_surferLine_131 : decode cX12_surferLine 131 = .ok (.iconst 3, 1) := dc_6 (sg_at zd_dX12_surferLine_106 16 rfl rfl)
theorem dX12_surferLine_132 : decode cX12_surferLine 132 = .ok (.invokevirtual 212, 3) := dc_182 (sg_at zd_dX12_surferLine_106 17 rfl rfl) rfl
theorem dX12_surferLine_135 : decode cX12_surferLine 135 = .ok (.ifCond .ne 5, 3) := dc_154 (sg_at zd_dX12_surferLine_106 18 rfl rfl) rfl
theorem dX12_surferLine_138 : decode cX12_surferLine 138 = .ok (.iconst 0, 1) := dc_3 (sg_at zd_dX12_surferLine_106 19 rfl rfl)
theorem zd_dX12_surferLine_139 : sg (cX12_surferLine.data.toList.drop 139) [[172], [42], [180, 0, 36], [27], [42], [180, 0, 203], [79], [42], [3], [16, 100], [182, 0, 212], [154, 0, 5], [3], [172], [42], [180, 0, 39], [27], [42], [180, 0, 203], [79]] = true := by decide +kernel
theorem dX12_surferLine_139 : decode cX12_surferLine 139 = .ok (.ireturn, 1) := dc_172 (sg_at zd_dX12_surferLine_139 0 rfl rfl)
theorem dX12_surferLine_140 : decode cX12_surferLine 140 = .ok (.aload_n 0, 1) := dc_42 (sg_at zd_dX12_surferLine_139 1 rfl rfl)
theorem dX12_surferLine_141 : decode cX12_surferLine 141 = .ok (.getfield 36, 3) := dc_180 (sg_at zd_dX12_surferLine_139 2 rfl rfl) rfl
theorem dX12_surferLine_144 : decode cX12_surferLine 144 = .ok (.iload_n 1, 1) := dc_27 (sg_at zd_dX12_surferLine_139 3 rfl rfl)
theorem dX12_surferLine_145 : decode cX12_surferLine 145 = .ok (.aload_n 0, 1) := dc_42 (sg_at zd_dX12_surferLine_139 4 rfl rfl)
theorem dX12_surferLine_146 : decode cX12_surferLine 146 = .ok (.getfield 203, 3) := dc_180 (sg_at zd_dX12_surferLine_139 5 rfl rfl) rfl
theorem dX12_surferLine_149 : decode cX12_surferLine 149 = .ok (.iastore, 1) := dc_79 (sg_at zd_dX12_surferLine_139 6 rfl rfl)
theorem dX12_surferLine_150 : decode cX12_surferLine 150 = .ok (.aload_n 0, 1) := dc_42 (sg_at zd_dX12_surferLine_139 7 rfl rfl)
theorem dX12_surferLine_151 : decode cX12_surferLine 151 = .ok (.iconst 0, 1) := dc_3 (sg_at zd_dX12_surferLine_139 8 rfl rfl)
theorem dX12_surferLine_152 : decode cX12_surferLine 152 = .ok (.bipush 100, 2) := dc_16 (sg_at zd_dX12_surferLine_139 9 rfl rfl) rfl
theorem dX12_surferLine_154 : decode cX12_surferLine 154 = .ok (.invokevirtual 212, 3) := dc_182 (sg_at zd_dX12_surferLine_139 10 rfl rfl) rfl
theorem dX12_surferLine_157 : decode cX12_surferLine 157 = .ok (.ifCond .ne 5, 3) := dc_154 (sg_at zd_dX12_surferLine_139 11 rfl rfl) rfl
theorem dX12_surferLine_160 : decode cX12_surferLine 160 = .ok (.iconst 0, 1) := dc_3 (sg_at zd_dX12_surferLine_139 12 rfl rfl)
theorem dX12_surferLine_161 : decode cX12_surferLine 161 = .ok (.ireturn, 1) := dc_172 (sg_at zd_dX12_surferLine_139 13 rfl rfl)
theorem dX12_surferLine_162 : decode cX12_surferLine 162 = .ok (.aload_n 0, 1) := dc_42 (sg_at zd_dX12_surferLine_139 14 rfl rfl)
theorem dX12_surferLine_163 : decode cX12_surferLine 163 = .ok (.getfield 39, 3) := dc_180 (sg_at zd_dX12_surferLine_139 15 rfl rfl) rfl
theorem dX12_surferLine_166 : decode cX12_surferLine 166 = .ok (.iload_n 1, 1) := dc_27 (sg_at zd_dX12_surferLine_139 16 rfl rfl)
theorem dX12_surferLine_167 : decode cX12_surferLine 167 = .ok (.aload_n 0, 1) := dc_42 (sg_at zd_dX12_surferLine_139 17 rfl rfl)
theorem dX12_surferLine_168 : decode cX12_surferLine 168 = .ok (.getfield 203, 3) := dc_180 (sg_at zd_dX12_surferLine_139 18 rfl rfl) rfl
theorem dX12_surferLine_171 : decode cX12_surferLine 171 = .ok (.iastore, 1) := dc_79 (sg_at zd_dX12_surferLine_139 19 rfl rfl)
theorem zd_dX12_surferLine_172 : sg (cX12_surferLine.data.toList.drop 172) [[42], [3], [16, 100], [182, 0, 212], [154, 0, 5], [3], [172], [42], [180, 0, 42], [27], [42], [180, 0, 203], [79], [42], [89], [180, 0, 222], [4], [96], [181, 0, 222], [4]] = true := by decide +kernel
theorem dX12_surferLine_172 : decode cX12_surferLine 172 = .ok (.aload_n 0, 1) := dc_42 (sg_at zd_dX12_surferLine_172 0 rfl rfl)
theorem dX12_surferLine_173 : decode cX12_surferLine 173 = .ok (.iconst 0, 1) := dc_3 (sg_at zd_dX12_surferLine_172 1 rfl rfl)
theorem dX12_surferLine_174 : decode cX12_surferLine 174 = .ok (.bipush 100, 2) := dc_16 (sg_at zd_dX12_surferLine_172 2 rfl rfl) rfl
theorem dX12_surferLine_176 : decode cX12_surferLine 176 = .ok (.invokevirtual 212, 3) := dc_182 (sg_at zd_dX12_surferLine_172 3 rfl rfl) rfl
theorem dX12_surferLine_179 : decode cX12_surferLine 179 = .ok (.ifCond .ne 5, 3) := dc_154 (sg_at zd_dX12_surferLine_172 4 rfl rfl) rfl
theorem dX12_surferLine_182 : decode cX12_surferLine 182 = .ok (.iconst 0, 1) := dc_3 (sg_at zd_dX12_surferLine_172 5 rfl rfl)
theorem dX12_surferLine_183 : decode cX12_surferLine 183 = .ok (.ireturn, 1) := dc_172 (sg_at zd_dX12_surferLine_172 6 rfl rfl)
theorem dX12_surferLine_184 : decode cX12_surferLine 184 = .ok (.aload_n 0, 1) := dc_42 (sg_at zd_dX12_surferLine_172 7 rfl rfl)
theorem dX12_surferLine_185 : decode cX12_surferLine 185 = .ok (.getfield 42, 3) := dc_180 (sg_at zd_dX12_surferLine_172 8 rfl rfl) rfl
theorem dX12_surferLine_188 : decode cX12_surferLine 188 = .ok (.iload_n 1, 1) := dc_27 (sg_at zd_dX12_surferLine_172 9 rfl rfl)
theorem dX12_surferLine_189 : decode cX12_surferLine 189 = .ok (.aload_n 0, 1) := dc_42 (sg_at zd_dX12_surferLine_172 10 rfl rfl)
theorem dX12_surferLine_190 : decode cX12_surferLine 190 = .ok (.getfield 203, 3) := dc_180 (sg_at zd_dX12_surferLine_172 11 rfl rfl) rfl
theorem dX12_surferLine_193 : decode cX12_surferLine 193 = .ok (.iastore, 1) := dc_79 (sg_at zd_dX12_surferLine_172 12 rfl rfl)
theorem dX12_surferLine_194 : decode cX12_surferLine 194 = .ok (.aload_n 0, 1) := dc_42 (sg_at zd_dX12_surferLine_172 13 rfl rfl)
theorem dX12_surferLine_195 : decode cX12_surferLine 195 = .ok (.dup, 1) := dc_89 (sg_at zd_dX12_surferLine_172 14 rfl rfl)
theorem dX12_surferLine_196 : decode cX12_surferLine 196 = .ok (.getfield 222, 3) := dc_180 (sg_at zd_dX12_surferLine_172 15 rfl rfl) rfl
theorem dX12_surferLine_199 : decode cX12_surferLine 199 = .ok (.iconst 1, 1) := dc_4 (sg_at zd_dX12_surferLine_172 16 rfl rfl)
theorem dX12_surferLine_200 : decode cX12_surferLine 200 = .ok (.iadd, 1) := dc_96 (sg_at zd_dX12_surferLine_172 17 rfl rfl)
theorem dX12_surferLine_201 : decode cX12_surferLine 201 = .ok (.putfield 222, 3) := dc_181 (sg_at zd_dX12_surferLine_172 18 rfl rfl) rfl
theorem dX12_surferLine_204 : decode cX12_surferLine 204 = .ok (.iconst 1, 1) := dc_4 (sg_at zd_dX12_surferLine_172 19 rfl rfl)
theorem zd_dX12_surferLine_205 : sg (cX12_surferLine.data.toList.drop 205) [[172]] = true := by decide +kernel
theorem dX12_surferLine_205 : decode cX12_surferLine 205 = .ok (.ireturn, 1) := dc_172 (sg_at zd_dX12_surferLine_205 0 rfl rfl)
theorem zd_dX12_setLine_0 : sg (cX12_setLine.data.toList.drop 0) [[42], [180, 0, 225], [7], [160, 0, 9], [42], [5], [182, 0, 196], [172], [42], [182, 0, 206], [42], [180, 0, 163], [60], [42], [3], [16, 99], [182, 0, 212], [154, 0, 5], [3], [172]] = true := by decide +kernel
theorem dX12_setLine_0 : decode cX12_setLine 0 = .ok (.aload_n 0, 1) := dc_42 (sg_at zd_dX12_setLine_0 0 rfl rfl)
theorem dX12_setLine_1 : decode cX12_setLine 1 = .ok (.getfield 225, 3) := dc_180 (sg_at zd_dX12_setLine_0 1 rfl rfl) rfl
theorem dX12_setLine_4 : decode cX12_setLine 4 = .ok (.iconst 4, 1) := dc_7 (sg_at zd_dX12_setLine_0 2 rfl rfl)
theorem dX12_setLine_5 : decode cX12_setLine 5 = .ok (.if_icmp .ne 9, 3) := dc_160 (sg_at zd_dX12_setLine_0 3 rfl rfl) rfl
theorem dX12_setLine_8 : decode cX12_setLine 8 = .ok (.aload_n 0, 1) := dc_42 (sg_at zd_dX12_setLine_0 4 rfl rfl)
theorem dX12_setLine_9 : decode cX12_setLine 9 = .ok (.iconst 2, 1) := dc_5 (sg_at zd_dX12_setLine_0 5 rfl rfl)
theorem dX12_setLine_10 : decode cX12_setLine 10 = .ok (.invokevirtual 196, 3) := dc_182 (sg_at zd_dX12_setLine_0 6 rfl rfl) rfl
theorem dX12_setLine_13 : decode cX12_setLine 13 = .ok (.ireturn, 1) := dc_172 (sg_at zd_dX12_setLine_0 7 rfl rfl)
theorem dX12_setLine_14 : decode cX12_setLine 14 = .ok (.aload_n 0, 1) := dc_42 (sg_at zd_dX12_setLine_0 8 rfl rfl)
theorem dX12_setLine_15 : decode cX12_setLine 15 = .ok (.invokevirtual 206, 3) := dc_182 (sg_at zd_dX12_setLine_0 9 rfl rfl) rfl
theorem dX12_setLine_18 : decode cX12_setLine 18 = .ok (.aload_n 0, 1) := dc_42 (sg_at zd_dX12_setLine_0 10 rfl rfl)
theorem dX12_setLine_19 : decode cX12_setLine 19 = .ok (.getfield 163, 3) := dc_180 (sg_at zd_dX12_setLine_0 11 rfl rfl) rfl
theorem dX12_setLine_22 : decode cX12_setLine 22 = .ok (.istore_n 1, 1) := dc_60 (sg_at zd_dX12_setLine_0 12 rfl rfl)
theorem dX12_setLine_23 : decode cX12_setLine 23 = .ok (.aload_n 0, 1) := dc_42 (sg_at zd_dX12_setLine_0 13 rfl rfl)
theorem dX12_setLine_24 : decode cX12_setLine 24 = .ok (.iconst 0, 1) := dc_3 (sg_at zd_dX12_setLine_0 14 rfl rfl)
theorem dX12_setLine_25 : decode cX12_setLine 25 = .ok (.bipush 99, 2) := dc_16 (sg_at zd_dX12_setLine_0 15 rfl rfl) rfl
theorem dX12_setLine_27 : decode cX12_setLine 27 = .ok (.invokevirtual 212, 3) := dc_182 (sg_at zd_dX12_setLine_0 16 rfl rfl) rfl
theorem dX12_setLine_30 : decode cX12_setLine 30 = .ok (.ifCond .ne 5, 3) := dc_154 (sg_at zd_dX12_setLine_0 17 rfl rfl) rfl
theorem dX12_setLine_33 : decode cX12_setLine 33 = .ok (.iconst 0, 1) := dc_3 (sg_at zd_dX12_setLine_0 18 rfl rfl)
theorem dX12_setLine_34 : decode cX12_setLine 34 = .ok (.ireturn, 1) := dc_172 (sg_at zd_dX12_setLine_0 19 rfl rfl)
theorem zd_dX12_setLine_35 : sg (cX12_setLine.data.toList.drop 35) [[42], [180, 0, 228], [158, 0, 35], [42], [180, 0, 203], [42], [180, 0, 48], [16, 28], [42], [180, 0, 228], [96], [4], [100], [46], [163, 0, 14], [42], [27], [181, 0, 163], [42], [8]] = true := by decide +kernel
theorem dX12_setLine_35 : decode cX12_setLine 35 = .ok (.aload_n 0, 1) := dc_42 (sg_at zd_dX12_setLine_35 0 rfl rfl)
theorem dX12_setLine_36 : decode cX12_setLine 36 = .ok (.getfield 228, 3) := dc_180 (sg_at zd_dX12_setLine_35 1 rfl rfl) rfl
theorem dX12_setLine_39 : decode cX12_setLine 39 = .ok (.ifCond .le 35, 3) := dc_158 (sg_at zd_dX12_setLine_35 2 rfl rfl) rfl
theorem dX12_setLine_42 : decode cX12_setLine 42 = .ok (.aload_n 0, 1) := dc_42 (sg_at zd_dX12_setLine_35 3 rfl rfl)
theorem dX12_setLine_43 : decode cX12_setLine 43 = .ok (.getfield 203, 3) := dc_180 (sg_at zd_dX12_setLine_35 4 rfl rfl) rfl
theorem dX12_setLine_46 : decode cX12_setLine 46 = .ok (.aload_n 0, 1) := dc_42 (sg_at zd_dX12_setLine_35 5 rfl rfl)
theorem dX12_setLine_47 : decode cX12_setLine 47 = .ok (.getfield 48, 3) := dc_180 (sg_at zd_dX12_setLine_35 6 rfl rfl) rfl
theorem dX12_setLine_50 : decode cX12_setLine 50 = .ok (.bipush 28, 2) := dc_16 (sg_at zd_dX12_setLine_35 7 rfl rfl) rfl
theorem dX12_setLine_52 : decode cX12_setLine 52 = .ok (.aload_n 0, 1) := dc_42 (sg_at zd_dX12_setLine_35 8 rfl rfl)
theorem dX12_setLine_53 : decode cX12_setLine 53 = .ok (.getfield 228, 3) := dc_180 (sg_at zd_dX12_setLine_35 9 rfl rfl) rfl
theorem dX12_setLine_56 : decode cX12_setLine 56 = .ok (.iadd, 1) := dc_96 (sg_at zd_dX12_setLine_35 10 rfl rfl)
theorem dX12_setLine_57 : decode cX12_setLine 57 = .ok (.iconst 1, 1) := dc_4 (sg_at zd_dX12_setLine_35 11 rfl rfl)
theorem dX12_setLine_58 : decode cX12_setLine 58 = .ok (.isub, 1) := dc_100 (sg_at zd_dX12_setLine_35 12 rfl rfl)
theorem dX12_setLine_59 : decode cX12_setLine 59 = .ok (.iaload, 1) := dc_46 (sg_at zd_dX12_setLine_35 13 rfl rfl)
theorem dX12_setLine_60 : decode cX12_setLine 60 = .ok (.if_icmp .gt 14, 3) := dc_163 (sg_at zd_dX12_setLine_35 14 rfl rfl) rfl
theorem dX12_setLine_63 : decode cX12_setLine 63 = .ok (.aload_n 0, 1) := dc_42 (sg_at zd_dX12_setLine_35 15 rfl rfl)
theorem dX12_setLine_64 : decode cX12_setLine 64 = .ok (.iload_n 1, 1) := dc_27 (sg_at zd_dX12_setLine_35 16 rfl rfl)
theorem dX12_setLine_65 : decode cX12_setLine 65 = .ok (.putfield 163, 3) := dc_181 (sg_at zd_dX12_setLine_35 17 rfl rfl) rfl
theorem dX12_setLine_68 : decode cX12_setLine 68 = .ok (.aload_n 0, 1) := dc_42 (sg_at zd_dX12_setLine_35 18 rfl rfl)
theorem dX12_setLine_69 : decode cX12_setLine 69 = .ok (.iconst 5, 1) := dc_8 (sg_at zd_dX12_setLine_35 19 rfl rfl)
theorem zd_dX12_setLine_70 : sg (cX12_setLine.data.toList.drop 70) [[182, 0, 196], [172], [42], [180, 0, 203], [61], [42], [180, 0, 172], [6], [159, 0, 9], [42], [4], [182, 0, 196], [172], [42], [180, 0, 45], [7], [42], [180, 0, 225], [96], [42]] = true := by decide +kernel
theorem dX12_setLine_70 : decode cX12_setLine 70 = .ok (.invokevirtual 196, 3) := dc_182 (sg_at zd_dX12_setLine_70 0 rfl rfl) rfl
theorem dX12_setLine_73 : decode cX12_setLine 73 = .ok (.ireturn, 1) := dc_172 (sg_at zd_dX12_setLine_70 1 rfl rfl)
theorem dX12_setLine_74 : decode cX12_setLine 74 = .ok (.aload_n 0, 1) := dc_42 (sg_at zd_dX12_setLine_70 2 rfl rfl)
theorem dX12_setLine_75 : decode cX12_setLine 75 = .ok (.getfield 203, 3) := dc_180 (sg_at zd_dX12_setLine_70 3 rfl rfl) rfl
theorem dX12_setLine_78 : decode cX12_setLine 78 = .ok (.istore_n 2, 1) := dc_61 (sg_at zd_dX12_setLine_70 4 rfl rfl)
theorem dX12_setLine_79 : decode cX12_setLine 79 = .ok (.aload_n 0, 1) := dc_42 (sg_at zd_dX12_setLine_70 5 rfl rfl)
theorem dX12_setLine_80 : decode cX12_setLine 80 = .ok (.getfield 172, 3) := dc_180 (sg_at zd_dX12_setLine_70 6 rfl rfl) rfl
theorem dX12_setLine_83 : decode cX12_setLine 83 = .ok (.iconst 3, 1) := dc_6 (sg_at zd_dX12_setLine_70 7 rfl rfl)
theorem dX12_setLine_84 : decode cX12_setLine 84 = .ok (.if_icmp .eq 9, 3) := dc_159 (sg_at zd_dX12_setLine_70 8 rfl rfl) rfl
theorem dX12_setLine_87 : decode cX12_setLine 87 = .ok (.aload_n 0, 1) := dc_42 (sg_at zd_dX12_setLine_70 9 rfl rfl)
theorem dX12_setLine_88 : decode cX12_setLine 88 = .ok (.iconst 1, 1) := dc_4 (sg_at zd_dX12_setLine_70 10 rfl rfl)
theorem dX12_setLine_89 : decode cX12_setLine 89 = .ok (.invokevirtual 196, 3) := dc_182 (sg_at zd_dX12_setLine_70 11 rfl rfl) rfl
theorem dX12_setLine_92 : decode cX12_setLine 92 = .ok (.ireturn, 1) := dc_172 (sg_at zd_dX12_setLine_70 12 rfl rfl)
theorem dX12_setLine_93 : decode cX12_setLine 93 = .ok (.aload_n 0, 1) := dc_42 (sg_at zd_dX12_setLine_70 13 rfl rfl)
theorem dX12_setLine_94 : decode cX12_setLine 94 = .ok (.getfield 45, 3) := dc_180 (sg_at zd_dX12_setLine_70 14 rfl rfl) rfl
theorem dX12_setLine_97 : decode cX12_setLine 97 = .ok (.iconst 4, 1) := dc_7 (sg_at zd_dX12_setLine_70 15 rfl rfl)
theorem dX12_setLine_98 : decode cX12_setLine 98 = .ok (.aload_n 0, 1) := dc_42 (sg_at zd_dX12_setLine_70 16 rfl rfl)
theorem dX12_setLine_99 : decode cX12_setLine 99 = .ok (.getfield 225, 3) := dc_180 (sg_at zd_dX12_setLine_70 17 rfl rfl) rfl
theorem dX12_setLine_102 : decode cX12_setLine 102 = .ok (.iadd, 1) := dc_96 (sg_at zd_dX12_setLine_70 18 rfl rfl)
theorem dX12_setLine_103 : decode cX12_setLine 103 = .ok (.aload_n 0, 1) := dc_42 (sg_at zd_dX12_setLine_70 19 rfl rfl)
theorem zd_dX12_setLine_104 : sg (cX12_setLine.data.toList.drop 104) [[180, 0, 228], [79], [3], [62], [42], [180, 0, 172], [6], [160, 0, 90], [29], [16, 7], [160, 0, 9], [42], [5], [182, 0, 196], [172], [42], [4], [16, 9], [182, 0, 212], [154, 0, 5]] = true := by decide +kernel
theorem dX12_setLine_104 : decode cX12_setLine 104 = .ok (.getfield 228, 3) := dc_180 (sg_at zd_dX12_setLine_104 0 rfl rfl) rfl
theorem dX12_setLine_107 : decode cX12_setLine 107 = .ok (.iastore, 1) := dc_79 (sg_at zd_dX12_setLine_104 1 rfl rfl)
theorem dX12_setLine_108 : decode cX12_setLine 108 = .ok (.iconst 0, 1) := dc_3 (sg_at zd_dX12_setLine_104 2 rfl rfl)
theorem dX12_setLine_109 : decode cX12_setLine 109 = .ok (.istore_n 3, 1) := dc_62 (sg_at zd_dX12_setLine_104 3 rfl rfl)
theorem dX12_setLine_110 : decode cX12_setLine 110 = .ok (.aload_n 0, 1) := dc_42 (sg_at zd_dX12_setLine_104 4 rfl rfl)
theorem dX12_setLine_111 : decode cX12_setLine 111 = .ok (.getfield 172, 3) := dc_180 (sg_at zd_dX12_setLine_104 5 rfl rfl) rfl
theorem dX12_setLine_114 : decode cX12_setLine 114 = .ok (.iconst 3, 1) := dc_6 (sg_at zd_dX12_setLine_104 6 rfl rfl)
theorem dX12_setLine_115 : decode cX12_setLine 115 = .ok (.if_icmp .ne 90, 3) := dc_160 (sg_at zd_dX12_setLine_104 7 rfl rfl) rfl
theorem dX12_setLine_118 : decode cX12_setLine 118 = .ok (.iload_n 3, 1) := dc_29 (sg_at zd_dX12_setLine_104 8 rfl rfl)
theorem dX12_setLine_119 : decode cX12_setLine 119 = .ok (.bipush 7, 2) := dc_16 (sg_at zd_dX12_setLine_104 9 rfl rfl) rfl
theorem dX12_setLine_121 : decode cX12_setLine 121 = .ok (.if_icmp .ne 9, 3) := dc_160 (sg_at zd_dX12_setLine_104 10 rfl rfl) rfl
theorem dX12_setLine_124 : decode cX12_setLine 124 = .ok (.aload_n 0, 1) := dc_42 (sg_at zd_dX12_setLine_104 11 rfl rfl)
theorem dX12_setLine_125 : decode cX12_setLine 125 = .ok (.iconst 2, 1) := dc_5 (sg_at zd_dX12_setLine_104 12 rfl rfl)
theorem dX12_setLine_126 : decode cX12_setLine 126 = .ok (.invokevirtual 196, 3) := dc_182 (sg_at zd_dX12_setLine_104 13 rfl rfl) rfl
theorem dX12_setLine_129 : decode cX12_setLine 129 = .ok (.ireturn, 1) := dc_172 (sg_at zd_dX12_setLine_104 14 rfl rfl)
theorem dX12_setLine_130 : decode cX12_setLine 130 = .ok (.aload_n 0, 1) := dc_42 (sg_at zd_dX12_setLine_104 15 rfl rfl)
theorem dX12_setLine_131 : decode cX12_setLine 131 = .ok (.iconst 1, 1) := dc_4 (sg_at zd_dX12_setLine_104 16 rfl rfl)
theorem dX12_setLine_132 : decode cX12_setLine 132 = .ok (.bipush 9, 2) := dc_16 (sg_at zd_dX12_setLine_104 17 rfl rfl) rfl
theorem dX12_setLine_134 : decode cX12_setLine 134 = .ok (.invokevirtual 212, 3) := dc_182 (sg_at zd_dX12_setLine_104 18 rfl rfl) rfl
theorem dX12_setLine_137 : decode cX12_setLine 137 = .ok (.ifCond .ne 5, 3) := dc_154 (sg_at zd_dX12_setLine_104 19 rfl rfl) rfl
theorem zd_dX12_setLine_140 : sg (cX12_setLine.data.toList.drop 140) [[3], [172], [42], [180, 0, 48], [16, 28], [42], [180, 0, 228], [96], [28], [29], [96], [79], [42], [180, 0, 51], [16, 28], [42], [180, 0, 228], [96], [42], [180, 0, 203]] = true := by decide +kernel
theorem dX12_setLine_140 : decode cX12_setLine 140 = .ok (.iconst 0, 1) := dc_3 (sg_at zd_dX12_setLine_140 0 rfl rfl)
theorem dX12_setLine_141 : decode cX12_setLine 141 = .ok (.ireturn, 1) := dc_172 (sg_at zd_dX12_setLine_140 1 rfl rfl)
theorem dX12_setLine_142 : decode cX12_setLine 142 = .ok (.aload_n 0, 1) := dc_42 (sg_at zd_dX12_setLine_140 2 rfl rfl)
theorem dX12_setLine_143 : decode cX12_setLine 143 = .ok (.getfield 48, 3) := dc_180 (sg_at zd_dX12_setLine_140 3 rfl rfl) rfl
theorem dX12_setLine_146 : decode cX12_setLine 146 = .ok (.bipush 28, 2) := dc_16 (sg_at zd_dX12_setLine_140 4 rfl rfl) rfl
theorem dX12_setLine_148 : decode cX12_setLine 148 = .ok (.aload_n 0, 1) := dc_42 (sg_at zd_dX12_setLine_140 5 rfl rfl)
theorem dX12_setLine_149 : decode cX12_setLine 149 = .ok (.getfield 228, 3) := dc_180 (sg_at zd_dX12_setLine_140 6 rfl rfl) rfl
theorem dX12_setLine_152 : decode cX12_setLine 152 = .ok (.iadd, 1) := dc_96 (sg_at zd_dX12_setLine_140 7 rfl rfl)
theorem dX12_setLine_153 : decode cX12_setLine 153 = .ok (.iload_n 2, 1) := dc_28 (sg_at zd_dX12_setLine_140 8 rfl rfl)
theorem dX12_setLine_154 : decode cX12_setLine 154 = .ok (.iload_n 3, 1) := dc_29 (sg_at zd_dX12_setLine_140 9 rfl rfl)
theorem dX12_setLine_155 : decode cX12_setLine 155 = .ok (.iadd, 1) := dc_96 (sg_at zd_dX12_setLine_140 10 rfl rfl)
theorem dX12_setLine_156 : decode cX12_setLine 156 = .ok (.iastore, 1) := dc_79 (sg_at zd_dX12_setLine_140 11 rfl rfl)
theorem dX12_setLine_157 : decode cX12_setLine 157 = .ok (.aload_n 0, 1) := dc_42 (sg_at zd_dX12_setLine_140 12 rfl rfl)
theorem dX12_setLine_158 : decode cX12_setLine 158 = .ok (.getfield 51, 3) := dc_180 (sg_at zd_dX12_setLine_140 13 rfl rfl) rfl
theorem dX12_setLine_161 : decode cX12_setLine 161 = .ok (.bipush 28, 2) := dc_16 (sg_at zd_dX12_setLine_140 14 rfl rfl) rfl
theorem dX12_setLine_163 : decode cX12_setLine 163 = .ok (.aload_n 0, 1) := dc_42 (sg_at zd_dX12_setLine_140 15 rfl rfl)
theorem dX12_setLine_164 : decode cX12_setLine 164 = .ok (.getfield 228, 3) := dc_180 (sg_at zd_dX12_setLine_140 16 rfl rfl) rfl
theorem dX12_setLine_167 : decode cX12_setLine 167 = .ok (.iadd, 1) := dc_96 (sg_at zd_dX12_setLine_140 17 rfl rfl)
theorem dX12_setLine_168 : decode cX12_setLine 168 = .ok (.aload_n 0, 1) := dc_42 (sg_at zd_dX12_setLine_140 18 rfl rfl)
theorem dX12_setLine_169 : decode cX12_setLine 169 = .ok (.getfield 203, 3) := dc_180 (sg_at zd_dX12_setLine_140 19 rfl rfl) rfl
theorem zd_dX12_setLine_172 : sg (cX12_setLine.data.toList.drop 172) [[79], [42], [180, 0, 54], [16, 28], [42], [180, 0, 228], [96], [42], [180, 0, 225], [79], [42], [89], [180, 0, 228], [4], [96], [181, 0, 228], [132, 3, 1], [167, 255, 164], [42], [89]] = true := by decide +kernel
theorem dX12_setLine_172 : decode cX12_setLine 172 = .ok (.iastore, 1) := dc_79 (sg_at zd_dX12_setLine_172 0 rfl rfl)
theorem dX12_setLine_173 : decode cX12_setLine 173 = .ok (.aload_n 0, 1) := dc_42 (sg_at zd_dX12_setLine_172 1 rfl rfl)
theorem dX12_setLine_174 : decode cX12_setLine 174 = .ok (.getfield 54, 3) := dc_180 (sg_at zd_dX12_setLine_172 2 rfl rfl) rfl
theorem dX12_setLine_177 : decode cX12_setLine 177 = .ok (.bipush 28, 2) := dc_16 (sg_at zd_dX12_setLine_172 3 rfl rfl) rfl
theorem dX12_setLine_179 : decode cX12_setLine 179 = .ok (.aload_n 0, 1) := dc_42 (sg_at zd_dX12_setLine_172 4 rfl rfl)
theorem dX12_setLine_180 : decode cX12_setLine 180 = .ok (.getfield 228, 3) := dc_180 (sg_at zd_dX12_setLine_172 5 rfl rfl) rfl
theorem dX12_setLine_183 : decode cX12_setLine 183 = .ok (.iadd, 1) := dc_96 (sg_at zd_dX12_setLine_172 6 rfl rfl)
theorem dX12_setLine_184 : decode cX12_setLine 184 = .ok (.aload_n 0, 1) := dc_42 (sg_at zd_dX12_setLine_172 7 rfl rfl)
theorem dX12_setLine_185 : decode cX12_setLine 185 = .ok (.getfield 225, 3) := dc_180 (sg_at zd_dX12_setLine_172 8 rfl rfl) rfl
theorem dX12_setLine_188 : decode cX12_setLine 188 = .ok (.iastore, 1) := dc_79 (sg_at zd_dX12_setLine_172 9 rfl rfl)
theorem dX12_setLine_189 : decode cX12_setLine 189 = .ok (.aload_n 0, 1) := dc_42 (sg_at zd_dX12_setLine_172 10 rfl rfl)
theorem dX12_setLine_190 : decode cX12_setLine 190 = .ok (.dup, 1) := dc_89 (sg_at zd_dX12_setLine_172 11 rfl rfl)
theorem dX12_setLine_191 : decode cX12_setLine 191 = .ok (.getfield 228, 3) := dc_180 (sg_at zd_dX12_setLine_172 12 rfl rfl) rfl
theorem dX12_setLine_194 : decode cX12_setLine 194 = .ok (.iconst 1, 1) := dc_4 (sg_at zd_dX12_setLine_172 13 rfl rfl)
theorem dX12_setLine_195 : decode cX12_setLine 195 = .ok (.iadd, 1) := dc_96 (sg_at zd_dX12_setLine_172 14 rfl rfl)
theorem dX12_setLine_196 : decode cX12_setLine 196 = .ok (.putfield 228, 3) := dc_181 (sg_at zd_dX12_setLine_172 15 rfl rfl) rfl
theorem dX12_setLine_199 : decode cX12_setLine 199 = .ok (.iinc 3 1, 3) := dc_132 (sg_at zd_dX12_setLine_172 16 rfl rfl) rfl
theorem dX12_setLine_202 : decode cX12_setLine 202 = .ok (.goto (-92), 3) := dc_167 (sg_at zd_dX12_setLine_172 17 rfl rfl) rfl
theorem dX12_setLine_205 : decode cX12_setLine 205 = .ok (.aload_n 0, 1) := dc_42 (sg_at zd_dX12_setLine_172 18 rfl rfl)
theorem dX12_setLine_206 : decode cX12_setLine 206 = .ok (.dup, 1) := dc_89 (sg_at zd_dX12_setLine_172 19 rfl rfl)
theorem zd_dX12_setLine_207 : sg (cX12_setLine.data.toList.drop 207) [[180, 0, 225], [4], [96], [181, 0, 225], [4], [172]] = true := by decide +kernel
theorem dX12_setLine_207 : decode cX12_setLine 207 = .ok (.getfield 225, 3) := dc_180 (sg_at zd_dX12_setLine_207 0 rfl rfl) rfl
theorem dX12_setLine_210 : decode cX12_setLine 210 = .ok (.iconst 1, 1) := dc_4 (sg_at zd_dX12_setLine_207 1 rfl rfl)
theorem dX12_setLine_211 : decode cX12_setLine 211 = .ok (.iadd, 1) := dc_96 (sg_at zd_dX12_setLine_207 2 rfl rfl)
theorem dX12_setLine_212 : decode cX12_setLine 212 = .ok (.putfield 225, 3) := dc_181 (sg_at zd_dX12_setLine_207 3 rfl rfl) rfl
theorem dX12_setLine_215 : decode cX12_setLine 215 = .ok (.iconst 1, 1) := dc_4 (sg_at zd_dX12_setLine_207 4 rfl rfl)
theorem dX12_setLine_216 : decode cX12_setLine 216 = .ok (.ireturn, 1) := dc_172 (sg_at zd_dX12_setLine_207 5 rfl rfl)
theorem zd_dX12_onceLine_0 : sg (cX12_onceLine.data.toList.drop 0) [[42], [180, 0, 183], [4], [160, 0, 7], [4], [167, 0, 28], [42], [180, 0, 183], [7], [160, 0, 7], [5], [167, 0, 16], [42], [180, 0, 183], [8], [160, 0, 7], [6], [167, 0, 4], [7], [60]] = true := by decide +kernel
theorem dX12_onceLine_0 : decode cX12_onceLine 0 = .ok (.aload_n 0, 1) := dc_42 (sg_at zd_dX12_onceLine_0 0 rfl rfl)
theorem dX12_onceLine_1 : decode cX12_onceLine 1 = .ok (.getfield 183, 3) := dc_180 (sg_at zd_dX12_onceLine_0 1 rfl rfl) rfl
theorem dX12_onceLine_4 : decode cX12_onceLine 4 = .ok (.iconst 1, 1) := dc_4 (sg_at zd_dX12_onceLine_0 2 rfl rfl)
theorem dX12_onceLine_5 : decode cX12_onceLine 5 = .ok (.if_icmp .ne 7, 3) := dc_160 (sg_at zd_dX12_onceLine_0 3 rfl rfl) rfl
theorem dX12_onceLine_8 : decode cX12_onceLine 8 = .ok (.iconst 1, 1) := dc_4 (sg_at zd_dX12_onceLine_0 4 rfl rfl)
theorem dX12_onceLine_9 : decode cX12_onceLine 9 = .ok (.goto 28, 3) := dc_167 (sg_at zd_dX12_onceLine_0 5 rfl rfl) rfl
theorem dX12_onceLine_12 : decode cX12_onceLine 12 = .ok (.aload_n 0, 1) := dc_42 (sg_at zd_dX12_onceLine_0 6 rfl rfl)
theorem dX12_onceLine_13 : decode cX12_onceLine 13 = .ok (.getfield 183, 3) := dc_180 (sg_at zd_dX12_onceLine_0 7 rfl rfl) rfl
theorem dX12_onceLine_16 : decode cX12_onceLine 16 = .ok (.iconst 4, 1) := dc_7 (sg_at zd_dX12_onceLine_0 8 rfl rfl)
theorem dX12_onceLine_17 : decode cX12_onceLine 17 = .ok (.if_icmp .ne 7, 3) := dc_160 (sg_at zd_dX12_onceLine_0 9 rfl rfl) rfl
theorem dX12_onceLine_20 : decode cX12_onceLine 20 = .ok (.iconst 2, 1) := dc_5 (sg_at zd_dX12_onceLine_0 10 rfl rfl)
theorem dX12_onceLine_21 : decode cX12_onceLine 21 = .ok (.goto 16, 3) := dc_167 (sg_at zd_dX12_onceLine_0 11 rfl rfl) rfl
theorem dX12_onceLine_24 : decode cX12_onceLine 24 = .ok (.aload_n 0, 1) := dc_42 (sg_at zd_dX12_onceLine_0 12 rfl rfl)
theorem dX12_onceLine_25 : decode cX12_onceLine 25 = .ok (.getfield 183, 3) := dc_180 (sg_at zd_dX12_onceLine_0 13 rfl rfl) rfl
theorem dX12_onceLine_28 : decode cX12_onceLine 28 = .ok (.iconst 5, 1) := dc_8 (sg_at zd_dX12_onceLine_0 14 rfl rfl)
theorem dX12_onceLine_29 : decode cX12_onceLine 29 = .ok (.if_icmp .ne 7, 3) := dc_160 (sg_at zd_dX12_onceLine_0 15 rfl rfl) rfl
theorem dX12_onceLine_32 : decode cX12_onceLine 32 = .ok (.iconst 3, 1) := dc_6 (sg_at zd_dX12_onceLine_0 16 rfl rfl)
theorem dX12_onceLine_33 : decode cX12_onceLine 33 = .ok (.goto 4, 3) := dc_167 (sg_at zd_dX12_onceLine_0 17 rfl rfl) rfl
theorem dX12_onceLine_36 : decode cX12_onceLine 36 = .ok (.iconst 4, 1) := dc_7 (sg_at zd_dX12_onceLine_0 18 rfl rfl)
theorem dX12_onceLine_37 : decode cX12_onceLine 37 = .ok (.istore_n 1, 1) := dc_60 (sg_at zd_dX12_onceLine_0 19 rfl rfl)
theorem zd_dX12_onceLine_38 : sg (cX12_onceLine.data.toList.drop 38) [[42], [180, 0, 20], [27], [51], [153, 0, 9], [42], [6], [182, 0, 196], [172], [42], [180, 0, 20], [27], [4], [84], [27], [5], [160, 0, 8], [42], [182, 1, 21], [172]] = true := by decide +kernel
theorem dX12_onceLine_38 : decode cX12_onceLine 38 = .ok (.aload_n 0, 1) := dc_42 (sg_at zd_dX12_onceLine_38 0 rfl rfl)
theorem dX12_onceLine_39 : decode cX12_onceLine 39 = .ok (.getfield 20, 3) := dc_180 (sg_at zd_dX12_onceLine_38 1 rfl rfl) rfl
theorem dX12_onceLine_42 : decode cX12_onceLine 42 = .ok (.iload_n 1, 1) := dc_27 (sg_at zd_dX12_onceLine_38 2 rfl rfl)
theorem dX12_onceLine_43 : decode cX12_onceLine 43 = .ok (.baload, 1) := dc_51 (sg_at zd_dX12_onceLine_38 3 rfl rfl)
theorem dX12_onceLine_44 : decode cX12_onceLine 44 = .ok (.ifCond .eq 9, 3) := dc_153 (sg_at zd_dX12_onceLine_38 4 rfl rfl) rfl
theorem dX12_onceLine_47 : decode cX12_onceLine 47 = .ok (.aload_n 0, 1) := dc_42 (sg_at zd_dX12_onceLine_38 5 rfl rfl)
theorem dX12_onceLine_48 : decode cX12_onceLine 48 = .ok (.iconst 3, 1) := dc_6 (sg_at zd_dX12_onceLine_38 6 rfl rfl)
theorem dX12_onceLine_49 : decode cX12_onceLine 49 = .ok (.invokevirtual 196, 3) := dc_182 (sg_at zd_dX12_onceLine_38 7 rfl rfl) rfl
theorem dX12_onceLine_52 : decode cX12_onceLine 52 = .ok (.ireturn, 1) := dc_172 (sg_at zd_dX12_onceLine_38 8 rfl rfl)
theorem dX12_onceLine_53 : decode cX12_onceLine 53 = .ok (.aload_n 0, 1) := dc_42 (sg_at zd_dX12_onceLine_38 9 rfl rfl)
theorem dX12_onceLine_54 : decode cX12_onceLine 54 = .ok (.getfield 20, 3) := dc_180 (sg_at zd_dX12_onceLine_38 10 rfl rfl) rfl
theorem dX12_onceLine_57 : decode cX12_onceLine 57 = .ok (.iload_n 1, 1) := dc_27 (sg_at zd_dX12_onceLine_38 11 rfl rfl)
theorem dX12_onceLine_58 : decode cX12_onceLine 58 = .ok (.iconst 1, 1) := dc_4 (sg_at zd_dX12_onceLine_38 12 rfl rfl)
theorem dX12_onceLine_59 : decode cX12_onceLine 59 = .ok (.bastore, 1) := dc_84 (sg_at zd_dX12_onceLine_38 13 rfl rfl)
theorem dX12_onceLine_60 : decode cX12_onceLine 60 = .ok (.iload_n 1, 1) := dc_27 (sg_at zd_dX12_onceLine_38 14 rfl rfl)
theorem dX12_onceLine_61 : decode cX12_onceLine 61 = .ok (.iconst 2, 1) := dc_5 (sg_at zd_dX12_onceLine_38 15 rfl rfl)
theorem dX12_onceLine_62 : decode cX12_onceLine 62 = .ok (.if_icmp .ne 8, 3) := dc_160 (sg_at zd_dX12_onceLine_38 16 rfl rfl) rfl
theorem dX12_onceLine_65 : decode cX12_onceLine 65 = .ok (.aload_n 0, 1) := dc_42 (sg_at zd_dX12_onceLine_38 17 rfl rfl)
theorem dX12_onceLine_66 : decode cX12_onceLine 66 = .ok (.invokevirtual 277, 3) := dc_182 (sg_at zd_dX12_onceLine_38 18 rfl rfl) rfl
theorem dX12_onceLine_69 : decode cX12_onceLine 69 = .ok (.ireturn, 1) := dc_172 (sg_at zd_dX12_onceLine_38 19 rfl rfl)
theorem zd_dX12_onceLine_70 : sg (cX12_onceLine.data.toList.drop 70) [[42], [182, 0, 206], [27], [4], [160, 0, 36], [42], [182, 1, 17], [154, 0, 5], [3], [172], [42], [180, 0, 24], [16, 7], [42], [180, 1, 10], [79], [42], [180, 0, 24], [16, 8], [42]] = true := by decide +kernel
theorem dX12_onceLine_70 : decode cX12_onceLine 70 = .ok (.aload_n 0, 1) := dc_42 (sg_at zd_dX12_onceLine_70 0 rfl rfl)
theorem dX12_onceLine_71 : decode cX12_onceLine 71 = .ok (.invokevirtual 206, 3) := dc_182 (sg_at zd_dX12_onceLine_70 1 rfl rfl) rfl
theorem dX12_onceLine_74 : decode cX12_onceLine 74 = .ok (.iload_n 1, 1) := dc_27 (sg_at zd_dX12_onceLine_70 2 rfl rfl)
theorem dX12_onceLine_75 : decode cX12_onceLine 75 = .ok (.iconst 1, 1) := dc_4 (sg_at zd_dX12_onceLine_70 3 rfl rfl)
theorem dX12_onceLine_76 : decode cX12_onceLine 76 = .ok (.if_icmp .ne 36, 3) := dc_160 (sg_at zd_dX12_onceLine_70 4 rfl rfl) rfl
theorem dX12_onceLine_79 : decode cX12_onceLine 79 = .ok (.aload_n 0, 1) := dc_42 (sg_at zd_dX12_onceLine_70 5 rfl rfl)
theorem dX12_onceLine_80 : decode cX12_onceLine 80 = .ok (.invokevirtual 273, 3) := dc_182 (sg_at zd_dX12_onceLine_70 6 rfl rfl) rfl
theorem dX12_onceLine_83 : decode cX12_onceLine 83 = .ok (.ifCond .ne 5, 3) := dc_154 (sg_at zd_dX12_onceLine_70 7 rfl rfl) rfl
theorem dX12_onceLine_86 : decode cX12_onceLine 86 = .ok (.iconst 0, 1) := dc_3 (sg_at zd_dX12_onceLine_70 8 rfl rfl)
theorem dX12_onceLine_87 : decode cX12_onceLine 87 = .ok (.ireturn, 1) := dc_172 (sg_at zd_dX12_onceLine_70 9 rfl rfl)
theorem dX12_onceLine_88 : decode cX12_onceLine 88 = .ok (.aload_n 0, 1) := dc_42 (sg_at zd_dX12_onceLine_70 10 rfl rfl)
theorem dX12_onceLine_89 : decode cX12_onceLine 89 = .ok (.getfield 24, 3) := dc_180 (sg_at zd_dX12_onceLine_70 11 rfl rfl) rfl
theorem dX12_onceLine_92 : decode cX12_onceLine 92 = .ok (.bipush 7, 2) := dc_16 (sg_at zd_dX12_onceLine_70 12 rfl rfl) rfl
theorem dX12_onceLine_94 : decode cX12_onceLine 94 = .ok (.aload_n 0, 1) := dc_42 (sg_at zd_dX12_onceLine_70 13 rfl rfl)
theorem dX12_onceLine_95 : decode cX12_onceLine 95 = .ok (.getfield 266, 3) := dc_180 (sg_at zd_dX12_onceLine_70 14 rfl rfl) rfl
theorem dX12_onceLine_98 : decode cX12_onceLine 98 = .ok (.iastore, 1) := dc_79 (sg_at zd_dX12_onceLine_70 15 rfl rfl)
theorem dX12_onceLine_99 : decode cX12_onceLine 99 = .ok (.aload_n 0, 1) := dc_42 (sg_at zd_dX12_onceLine_70 16 rfl rfl)
theorem dX12_onceLine_100 : decode cX12_onceLine 100 = .ok (.getfield 24, 3) := dc_180 (sg_at zd_dX12_onceLine_70 17 rfl rfl) rfl
theorem dX12_onceLine_103 : decode cX12_onceLine 103 = .ok (.bipush 8, 2) := dc_16 (sg_at zd_dX12_onceLine_70 18 rfl rfl) rfl
theorem dX12_onceLine_105 : decode cX12_onceLine 105 = .ok (.aload_n 0, 1) := dc_42 (sg_at zd_dX12_onceLine_70 19 rfl rfl)
theorem zd_dX12_onceLine_106 : sg (cX12_onceLine.data.toList.drop 106) [[180, 0, 203], [79], [4], [172], [27], [7], [160, 0, 28], [42], [3], [18, 192], [182, 0, 212], [154, 0, 5], [3], [172], [42], [180, 0, 24], [16, 13], [42], [180, 0, 203], [79]] = true := by decide +kernel
theorem dX12_onceLine_106 : decode cX12_onceLine 106 = .ok (.getfield 203, 3) := dc_180 (sg_at zd_dX12_onceLine_106 0 rfl rfl) rfl
theorem dX12_onceLine_109 : decode cX12_onceLine 109 = .ok (.iastore, 1) := dc_79 (sg_at zd_dX12_onceLine_106 1 rfl rfl)
theorem dX12_onceLine_110 : decode cX12_onceLine 110 = .ok (.iconst 1, 1) := dc_4 (sg_at zd_dX12_onceLine_106 2 rfl rfl)
theorem dX12_onceLine_111 : decode cX12_onceLine 111 = .ok (.ireturn, 1) := dc_172 (sg_at zd_dX12_onceLine_106 3 rfl rfl)
theorem dX12_onceLine_112 : decode cX12_onceLine 112 = .ok (.iload_n 1, 1) := dc_27 (sg_at zd_dX12_onceLine_106 4 rfl rfl)
theorem dX12_onceLine_113 : decode cX12_onceLine 113 = .ok (.iconst 4, 1) := dc_7 (sg_at zd_dX12_onceLine_106 5 rfl rfl)
theorem dX12_onceLine_114 : decode cX12_onceLine 114 = .ok (.if_icmp .ne 28, 3) := dc_160 (sg_at zd_dX12_onceLine_106 6 rfl rfl) rfl
theorem dX12_onceLine_117 : decode cX12_onceLine 117 = .ok (.aload_n 0, 1) := dc_42 (sg_at zd_dX12_onceLine_106 7 rfl rfl)
theorem dX12_onceLine_118 : decode cX12_onceLine 118 = .ok (.iconst 0, 1) := dc_3 (sg_at zd_dX12_onceLine_106 8 rfl rfl)
theorem dX12_onceLine_119 : decode cX12_onceLine 119 = .ok (.ldc 192, 2) := dc_18 (sg_at zd_dX12_onceLine_106 9 rfl rfl)
theorem dX12_onceLine_121 : decode cX12_onceLine 121 = .ok (.invokevirtual 212, 3) := dc_182 (sg_at zd_dX12_onceLine_106 10 rfl rfl) rfl
theorem dX12_onceLine_124 : decode cX12_onceLine 124 = .ok (.ifCond .ne 5, 3) := dc_154 (sg_at zd_dX12_onceLine_106 11 rfl rfl) rfl
theorem dX12_onceLine_127 : decode cX12_onceLine 127 = .ok (.iconst 0, 1) := dc_3 (sg_at zd_dX12_onceLine_106 12 rfl rfl)
theorem dX12_onceLine_128 : decode cX12_onceLine 128 = .ok (.ireturn, 1) := dc_172 (sg_at zd_dX12_onceLine_106 13 rfl rfl)
theorem dX12_onceLine_129 : decode cX12_onceLine 129 = .ok (.aload_n 0, 1) := dc_42 (sg_at zd_dX12_onceLine_106 14 rfl rfl)
theorem dX12_onceLine_130 : decode cX12_onceLine 130 = .ok (.getfield 24, 3) := dc_180 (sg_at zd_dX12_onceLine_106 15 rfl rfl) rfl
theorem dX12_onceLine_133 : decode cX12_onceLine 133 = .ok (.bipush 13, 2) := dc_16 (sg_at zd_dX12_onceLine_106 16 rfl rfl) rfl
theorem dX12_onceLine_135 : decode cX12_onceLine 135 = .ok (.aload_n 0, 1) := dc_42 (sg_at zd_dX12_onceLine_106 17 rfl rfl)
theorem dX12_onceLine_136 : decode cX12_onceLine 136 = .ok (.getfield 203, 3) := dc_180 (sg_at zd_dX12_onceLine_106 18 rfl rfl) rfl
theorem dX12_onceLine_139 : decode cX12_onceLine 139 = .ok (.iastore, 1) := dc_79 (sg_at zd_dX12_onceLine_106 19 rfl rfl)
theorem zd_dX12_onceLine_140 : sg (cX12_onceLine.data.toList.drop 140) [[4], [172], [42], [180, 0, 172], [4], [160, 0, 21], [42], [180, 0, 183], [16, 8], [161, 0, 12], [42], [180, 0, 183], [16, 11], [164, 0, 9], [42], [4], [182, 0, 196], [172], [42], [180, 0, 24]] = true := by decide +kernel
theorem dX12_onceLine_140 : decode cX12_onceLine 140 = .ok (.iconst 1, 1) := dc_4 (sg_at zd_dX12_onceLine_140 0 rfl rfl)
theorem dX12_onceLine_141 : decode cX12_onceLine 141 = .ok (.ireturn, 1) := dc_172 (sg_at zd_dX12_onceLine_140 1 rfl rfl)
theorem dX12_onceLine_142 : decode cX12_onceLine 142 = .ok (.aload_n 0, 1) := dc_42 (sg_at zd_dX12_onceLine_140 2 rfl rfl)
theorem dX12_onceLine_143 : decode cX12_onceLine 143 = .ok (.getfield 172, 3) := dc_180 (sg_at zd_dX12_onceLine_140 3 rfl rfl) rfl
theorem dX12_onceLine_146 : decode cX12_onceLine 146 = .ok (.iconst 1, 1) := dc_4 (sg_at zd_dX12_onceLine_140 4 rfl rfl)
theorem dX12_onceLine_147 : decode cX12_onceLine 147 = .ok (.if_icmp .ne 21, 3) := dc_160 (sg_at zd_dX12_onceLine_140 5 rfl rfl) rfl
theorem dX12_onceLine_150 : decode cX12_onceLine 150 = .ok (.aload_n 0, 1) := dc_42 (sg_at zd_dX12_onceLine_140 6 rfl rfl)
theorem dX12_onceLine_151 : decode cX12_onceLine 151 = .ok (.getfield 183, 3) := dc_180 (sg_at zd_dX12_onceLine_140 7 rfl rfl) rfl
theorem dX12_onceLine_154 : decode cX12_onceLine 154 = .ok (.bipush 8, 2) := dc_16 (sg_at zd_dX12_onceLine_140 8 rfl rfl) rfl
theorem dX12_onceLine_156 : decode cX12_onceLine 156 = .ok (.if_icmp .lt 12, 3) := dc_161 (sg_at zd_dX12_onceLine_140 9 rfl rfl) rfl
theorem dX12_onceLine_159 : decode cX12_onceLine 159 = .ok (.aload_n 0, 1) := dc_42 (sg_at zd_dX12_onceLine_140 10 rfl rfl)
theorem dX12_onceLine_160 : decode cX12_onceLine 160 = .ok (.getfield 183, 3) := dc_180 (sg_at zd_dX12_onceLine_140 11 rfl rfl) rfl
theorem dX12_onceLine_163 : decode cX12_onceLine 163 = .ok (.bipush 11, 2) := dc_16 (sg_at zd_dX12_onceLine_140 12 rfl rfl) rfl
theorem dX12_onceLine_165 : decode cX12_onceLine 165 = .ok (.if_icmp .le 9, 3) := dc_164 (sg_at zd_dX12_onceLine_140 13 rfl rfl) rfl
theorem dX12_onceLine_168 : decode cX12_onceLine 168 = .ok (.aload_n 0, 1) := dc_42 (sg_at zd_dX12_onceLine_140 14 rfl rfl)
theorem dX12_onceLine_169 : decode cX12_onceLine 169 = .ok (.iconst 1, 1) := dc_4 (sg_at zd_dX12_onceLine_140 15 rfl rfl)
theorem dX12_onceLine_170 : decode cX12_onceLine 170 = .ok (.invokevirtual 196, 3) := dc_182 (sg_at zd_dX12_onceLine_140 16 rfl rfl) rfl
theorem dX12_onceLine_173 : decode cX12_onceLine 173 = .ok (.ireturn, 1) := dc_172 (sg_at zd_dX12_onceLine_140 17 rfl rfl)
theorem dX12_onceLine_174 : decode cX12_onceLine 174 = .ok (.aload_n 0, 1) := dc_42 (sg_at zd_dX12_onceLine_140 18 rfl rfl)
theorem dX12_onceLine_175 : decode cX12_onceLine 175 = .ok (.getfield 24, 3) := dc_180 (sg_at zd_dX12_onceLine_140 19 rfl rfl) rfl
theorem zd_dX12_onceLine_178 : sg (cX12_onceLine.data.toList.drop 178) [[16, 12], [42], [180, 0, 183], [16, 8], [100], [79], [42], [182, 0, 206], [4], [172]] = true := by decide +kernel
theorem dX12_onceLine_178 : decode cX12_onceLine 178 = .ok (.bipush 12, 2) := dc_16 (sg_at zd_dX12_onceLine_178 0 rfl rfl) rfl
theorem dX12_onceLine_180 : decode cX12_onceLine 180 = .ok (.aload_n 0, 1) := dc_42 (sg_at zd_dX12_onceLine_178 1 rfl rfl)
theorem dX12_onceLine_181 : decode cX12_onceLine 181 = .ok (.getfield 183, 3) := dc_180 (sg_at zd_dX12_onceLine_178 2 rfl rfl) rfl
theorem dX12_onceLine_184 : decode cX12_onceLine 184 = .ok (.bipush 8, 2) := dc_16 (sg_at zd_dX12_onceLine_178 3 rfl rfl) rfl
theorem dX12_onceLine_186 : decode cX12_onceLine 186 = .ok (.isub, 1) := dc_100 (sg_at zd_dX12_onceLine_178 4 rfl rfl)
theorem dX12_onceLine_187 : decode cX12_onceLine 187 = .ok (.iastore, 1) := dc_79 (sg_at zd_dX12_onceLine_178 5 rfl rfl)
theorem dX12_onceLine_188 : decode cX12_onceLine 188 = .ok (.aload_n 0, 1) := dc_42 (sg_at zd_dX12_onceLine_178 6 rfl rfl)
theorem dX12_onceLine_189 : decode cX12_onceLine 189 = .ok (.invokevirtual 206, 3) := dc_182 (sg_at zd_dX12_onceLine_178 7 rfl rfl) rfl
theorem dX12_onceLine_192 : decode cX12_onceLine 192 = .ok (.iconst 1, 1) := dc_4 (sg_at zd_dX12_onceLine_178 8 rfl rfl)
theorem dX12_onceLine_193 : decode cX12_onceLine 193 = .ok (.ireturn, 1) := dc_172 (sg_at zd_dX12_onceLine_178 9 rfl rfl)
theorem zd_dX12_signs_0 : sg (cX12_signs.data.toList.drop 0) [[42], [16, 41], [182, 0, 209], [153, 0, 41], [42], [180, 1, 60], [158, 0, 34], [42], [4], [182, 1, 82], [42], [89], [180, 1, 45], [4], [100], [181, 1, 45], [42], [89], [180, 1, 60], [4]] = true := by decide +kernel
theorem dX12_signs_0 : decode cX12_signs 0 = .ok (.aload_n 0, 1) := dc_42 (sg_at zd_dX12_signs_0 0 rfl rfl)
theorem dX12_signs_1 : decode cX12_signs 1 = .ok (.bipush 41, 2) := dc_16 (sg_at zd_dX12_signs_0 1 rfl rfl) rfl
theorem dX12_signs_3 : decode cX12_signs 3 = .ok (.invokevirtual 209, 3) := dc_182 (sg_at zd_dX12_signs_0 2 rfl rfl) rfl
theorem dX12_signs_6 : decode cX12_signs 6 = .ok (.ifCond .eq 41, 3) := dc_153 (sg_at zd_dX12_signs_0 3 rfl rfl) rfl
theorem dX12_signs_9 : decode cX12_signs 9 = .ok (.aload_n 0, 1) := dc_42 (sg_at zd_dX12_signs_0 4 rfl rfl)
theorem dX12_signs_10 : decode cX12_signs 10 = .ok (.getfield 316, 3) := dc_180 (sg_at zd_dX12_signs_0 5 rfl rfl) rfl
theorem dX12_signs_13 : decode cX12_signs 13 = .ok (.ifCond .le 34, 3) := dc_158 (sg_at zd_dX12_signs_0 6 rfl rfl) rfl
theorem dX12_signs_16 : decode cX12_signs 16 = .ok (.aload_n 0, 1) := dc_42 (sg_at zd_dX12_signs_0 7 rfl rfl)
theorem dX12_signs_17 : decode cX12_signs 17 = .ok (.iconst 1, 1) := dc_4 (sg_at zd_dX12_signs_0 8 rfl rfl)
theorem dX12_signs_18 : decode cX12_signs 18 = .ok (.invokevirtual 338, 3) := dc_182 (sg_at zd_dX12_signs_0 9 rfl rfl) rfl
theorem dX12_signs_21 : decode cX12_signs 21 = .ok (.aload_n 0, 1) := dc_42 (sg_at zd_dX12_signs_0 10 rfl rfl)
theorem dX12_signs_22 : decode cX12_signs 22 = .ok (.dup, 1) := dc_89 (sg_at zd_dX12_signs_0 11 rfl rfl)
theorem dX12_signs_23 : decode cX12_signs 23 = .ok (.getfield 301, 3) := dc_180 (sg_at zd_dX12_signs_0 12 rfl rfl) rfl
theorem dX12_signs_26 : decode cX12_signs 26 = .ok (.iconst 1, 1) := dc_4 (sg_at zd_dX12_signs_0 13 rfl rfl)
theorem dX12_signs_27 : decode cX12_signs 27 = .ok (.isub, 1) := dc_100 (sg_at zd_dX12_signs_0 14 rfl rfl)
theorem dX12_signs_28 : decode cX12_signs 28 = .ok (.putfield 301, 3) := dc_181 (sg_at zd_dX12_signs_0 15 rfl rfl) rfl
theorem dX12_signs_31 : decode cX12_signs 31 = .ok (.aload_n 0, 1) := dc_42 (sg_at zd_dX12_signs_0 16 rfl rfl)
theorem dX12_signs_32 : decode cX12_signs 32 = .ok (.dup, 1) := dc_89 (sg_at zd_dX12_signs_0 17 rfl rfl)
theorem dX12_signs_33 : decode cX12_signs 33 = .ok (.getfield 316, 3) := dc_180 (sg_at zd_dX12_signs_0 18 rfl rfl) rfl
theorem dX12_signs_36 : decode cX12_signs 36 = .ok (.iconst 1, 1) := dc_4 (sg_at zd_dX12_signs_0 19 rfl rfl)
theorem zd_dX12_signs_37 : sg (cX12_signs.data.toList.drop 37) [[100], [181, 1, 60], [42], [182, 0, 206], [4], [172], [42], [16, 15], [182, 1, 70], [153, 0, 7], [6], [167, 0, 90], [42], [16, 16], [182, 1, 70], [153, 0, 7], [7], [167, 0, 77], [42], [180, 0, 172]] = true := by decide +kernel
theorem dX12_signs_37 : decode cX12_signs 37 = .ok (.isub, 1) := dc_100 (sg_at zd_dX12_signs_37 0 rfl rfl)
theorem dX12_signs_38 : decode cX12_signs 38 = .ok (.putfield 316, 3) := dc_181 (sg_at zd_dX12_signs_37 1 rfl rfl) rfl
theorem dX12_signs_41 : decode cX12_signs 41 = .ok (.aload_n 0, 1) := dc_42 (sg_at zd_dX12_signs_37 2 rfl rfl)
theorem dX12_signs_42 : decode cX12_signs 42 = .ok (.invokevirtual 206, 3) := dc_182 (sg_at zd_dX12_signs_37 3 rfl rfl) rfl
theorem dX12_signs_45 : decode cX12_signs 45 = .ok (.iconst 1, 1) := dc_4 (sg_at zd_dX12_signs_37 4 rfl rfl)
theorem dX12_signs_46 : decode cX12_signs 46 = .ok (.ireturn, 1) := dc_172 (sg_at zd_dX12_signs_37 5 rfl rfl)
theorem dX12_signs_47 : decode cX12_signs 47 = .ok (.aload_n 0, 1) := dc_42 (sg_at zd_dX12_signs_37 6 rfl rfl)
theorem dX12_signs_48 : decode cX12_signs 48 = .ok (.bipush 15, 2) := dc_16 (sg_at zd_dX12_signs_37 7 rfl rfl) rfl
theorem dX12_signs_50 : decode cX12_signs 50 = .ok (.invokevirtual 326, 3) := dc_182 (sg_at zd_dX12_signs_37 8 rfl rfl) rfl
theorem dX12_signs_53 : decode cX12_signs 53 = .ok (.ifCond .eq 7, 3) := dc_153 (sg_at zd_dX12_signs_37 9 rfl rfl) rfl
theorem dX12_signs_56 : decode cX12_signs 56 = .ok (.iconst 3, 1) := dc_6 (sg_at zd_dX12_signs_37 10 rfl rfl)
theorem dX12_signs_57 : decode cX12_signs 57 = .ok (.goto 90, 3) := dc_167 (sg_at zd_dX12_signs_37 11 rfl rfl) rfl
theorem dX12_signs_60 : decode cX12_signs 60 = .ok (.aload_n 0, 1) := dc_42 (sg_at zd_dX12_signs_37 12 rfl rfl)
theorem dX12_signs_61 : decode cX12_signs 61 = .ok (.bipush 16, 2) := dc_16 (sg_at zd_dX12_signs_37 13 rfl rfl) rfl
theorem dX12_signs_63 : decode cX12_signs 63 = .ok (.invokevirtual 326, 3) := dc_182 (sg_at zd_dX12_signs_37 14 rfl rfl) rfl
theorem dX12_signs_66 : decode cX12_signs 66 = .ok (.ifCond .eq 7, 3) := dc_153 (sg_at zd_dX12_signs_37 15 rfl rfl) rfl
theorem dX12_signs_69 : decode cX12_signs 69 = .ok (.iconst 4, 1) := dc_7 (sg_at zd_dX12_signs_37 16 rfl rfl)
theorem dX12_signs_70 : decode cX12_signs 70 = .ok (.goto 77, 3) := dc_167 (sg_at zd_dX12_signs_37 17 rfl rfl) rfl
theorem dX12_signs_73 : decode cX12_signs 73 = .ok (.aload_n 0, 1) := dc_42 (sg_at zd_dX12_signs_37 18 rfl rfl)
theorem dX12_signs_74 : decode cX12_signs 74 = .ok (.getfield 172, 3) := dc_180 (sg_at zd_dX12_signs_37 19 rfl rfl) rfl
theorem zd_dX12_signs_77 : sg (cX12_signs.data.toList.drop 77) [[8], [160, 0, 12], [8], [42], [180, 0, 183], [96], [167, 0, 60], [42], [16, 43], [182, 0, 209], [153, 0, 8], [16, 11], [167, 0, 46], [42], [16, 45], [182, 0, 209], [153, 0, 8], [16, 12], [167, 0, 32], [42]] = true := by decide +kernel
theorem dX12_signs_77 : decode cX12_signs 77 = .ok (.iconst 5, 1) := dc_8 (sg_at zd_dX12_signs_77 0 rfl rfl)
theorem dX12_signs_78 : decode cX12_signs 78 = .ok (.if_icmp .ne 12, 3) := dc_160 (sg_at zd_dX12_signs_77 1 rfl rfl) rfl
theorem dX12_signs_81 : decode cX12_signs 81 = .ok (.iconst 5, 1) := dc_8 (sg_at zd_dX12_signs_77 2 rfl rfl)
theorem dX12_signs_82 : decode cX12_signs 82 = .ok (.aload_n 0, 1) := dc_42 (sg_at zd_dX12_signs_77 3 rfl rfl)
theorem dX12_signs_83 : decode cX12_signs 83 = .ok (.getfield 183, 3) := dc_180 (sg_at zd_dX12_signs_77 4 rfl rfl) rfl
theorem dX12_signs_86 : decode cX12_signs 86 = .ok (.iadd, 1) := dc_96 (sg_at zd_dX12_signs_77 5 rfl rfl)
theorem dX12_signs_87 : decode cX12_signs 87 = .ok (.goto 60, 3) := dc_167 (sg_at zd_dX12_signs_77 6 rfl rfl) rfl
theorem dX12_signs_90 : decode cX12_signs 90 = .ok (.aload_n 0, 1) := dc_42 (sg_at zd_dX12_signs_77 7 rfl rfl)
theorem dX12_signs_91 : decode cX12_signs 91 = .ok (.bipush 43, 2) := dc_16 (sg_at zd_dX12_signs_77 8 rfl rfl) rfl
theorem dX12_signs_93 : decode cX12_signs 93 = .ok (.invokevirtual 209, 3) := dc_182 (sg_at zd_dX12_signs_77 9 rfl rfl) rfl
theorem dX12_signs_96 : decode cX12_signs 96 = .ok (.ifCond .eq 8, 3) := dc_153 (sg_at zd_dX12_signs_77 10 rfl rfl) rfl
theorem dX12_signs_99 : decode cX12_signs 99 = .ok (.bipush 11, 2) := dc_16 (sg_at zd_dX12_signs_77 11 rfl rfl) rfl
theorem dX12_signs_101 : decode cX12_signs 101 = .ok (.goto 46, 3) := dc_167 (sg_at zd_dX12_signs_77 12 rfl rfl) rfl
theorem dX12_signs_104 : decode cX12_signs 104 = .ok (.aload_n 0, 1) := dc_42 (sg_at zd_dX12_signs_77 13 rfl rfl)
theorem dX12_signs_105 : decode cX12_signs 105 = .ok (.bipush 45, 2) := dc_16 (sg_at zd_dX12_signs_77 14 rfl rfl) rfl
theorem dX12_signs_107 : decode cX12_signs 107 = .ok (.invokevirtual 209, 3) := dc_182 (sg_at zd_dX12_signs_77 15 rfl rfl) rfl
theorem dX12_signs_110 : decode cX12_signs 110 = .ok (.ifCond .eq 8, 3) := dc_153 (sg_at zd_dX12_signs_77 16 rfl rfl) rfl
theorem dX12_signs_113 : decode cX12_signs 113 = .ok (.bipush 12, 2) := dc_16 (sg_at zd_dX12_signs_77 17 rfl rfl) rfl
theorem dX12_signs_115 : decode cX12_signs 115 = .ok (.goto 32, 3) := dc_167 (sg_at zd_dX12_signs_77 18 rfl rfl) rfl
theorem dX12_signs_118 : decode cX12_signs 118 = .ok (.aload_n 0, 1) := dc_42 (sg_at zd_dX12_signs_77 19 rfl rfl)
theorem zd_dX12_signs_119 : sg (cX12_signs.data.toList.drop 119) [[16, 42], [182, 0, 209], [153, 0, 8], [16, 13], [167, 0, 18], [42], [16, 47], [182, 0, 209], [153, 0, 8], [16, 14], [167, 0, 4], [3], [60], [27], [154, 0, 9], [42], [4], [182, 0, 196], [172], [42]] = true := by decide +kernel
theorem dX12_signs_119 : decode cX12_signs 119 = .ok (.bipush 42, 2) := dc_16 (sg_at zd_dX12_signs_119 0 rfl rfl) rfl
theorem dX12_signs_121 : decode cX12_signs 121 = .ok (.invokevirtual 209, 3) := dc_182 (sg_at zd_dX12_signs_119 1 rfl rfl) rfl
theorem dX12_signs_124 : decode cX12_signs 124 = .ok (.ifCond .eq 8, 3) := dc_153 (sg_at zd_dX12_signs_119 2 rfl rfl) rfl
theorem dX12_signs_127 : decode cX12_signs 127 = .ok (.bipush 13, 2) := dc_16 (sg_at zd_dX12_signs_119 3 rfl rfl) rfl
theorem dX12_signs_129 : decode cX12_signs 129 = .ok (.goto 18, 3) := dc_167 (sg_at zd_dX12_signs_119 4 rfl rfl) rfl
theorem dX12_signs_132 : decode cX12_signs 132 = .ok (.aload_n 0, 1) := dc_42 (sg_at zd_dX12_signs_119 5 rfl rfl)
theorem dX12_signs_133 : decode cX12_signs 133 = .ok (.bipush 47, 2) := dc_16 (sg_at zd_dX12_signs_119 6 rfl rfl) rfl
theorem dX12_signs_135 : decode cX12_signs 135 = .ok (.invokevirtual 209, 3) := dc_182 (sg_at zd_dX12_signs_119 7 rfl rfl) rfl
theorem dX12_signs_138 : decode cX12_signs 138 = .ok (.ifCond .eq 8, 3) := dc_153 (sg_at zd_dX12_signs_119 8 rfl rfl) rfl
theorem dX12_signs_141 : decode cX12_signs 141 = .ok (.bipush 14, 2) := dc_16 (sg_at zd_dX12_signs_119 9 rfl rfl) rfl
theorem dX12_signs_143 : decode cX12_signs 143 = .ok (.goto 4, 3) := dc_167 (sg_at zd_dX12_signs_119 10 rfl rfl) rfl
theorem dX12_signs_146 : decode cX12_signs 146 = .ok (.iconst 0, 1) := dc_3 (sg_at zd_dX12_signs_119 11 rfl rfl)
theorem dX12_signs_147 : decode cX12_signs 147 = .ok (.istore_n 1, 1) := dc_60 (sg_at zd_dX12_signs_119 12 rfl rfl)
theorem dX12_signs_148 : decode cX12_signs 148 = .ok (.iload_n 1, 1) := dc_27 (sg_at zd_dX12_signs_119 13 rfl rfl)
theorem dX12_signs_149 : decode cX12_signs 149 = .ok (.ifCond .ne 9, 3) := dc_154 (sg_at zd_dX12_signs_119 14 rfl rfl) rfl
theorem dX12_signs_152 : decode cX12_signs 152 = .ok (.aload_n 0, 1) := dc_42 (sg_at zd_dX12_signs_119 15 rfl rfl)
theorem dX12_signs_153 : decode cX12_signs 153 = .ok (.iconst 1, 1) := dc_4 (sg_at zd_dX12_signs_119 16 rfl rfl)
theorem dX12_signs_154 : decode cX12_signs 154 = .ok (.invokevirtual 196, 3) := dc_182 (sg_at zd_dX12_signs_119 17 rfl rfl) rfl
theorem dX12_signs_157 : decode cX12_signs 157 = .ok (.ireturn, 1) := dc_172 (sg_at zd_dX12_signs_119 18 rfl rfl)
theorem dX12_signs_158 : decode cX12_signs 158 = .ok (.aload_n 0, 1) := dc_42 (sg_at zd_dX12_signs_119 19 rfl rfl)
theorem zd_dX12_signs_159 : sg (cX12_signs.data.toList.drop 159) [[27], [184, 1, 48], [7], [160, 0, 7], [8], [167, 0, 7], [27], [184, 1, 48], [182, 1, 82], [27], [184, 1, 48], [7], [160, 0, 34], [42], [180, 1, 45], [158, 0, 27], [42], [180, 0, 75], [42], [180, 1, 45]] = true := by decide +kernel
theorem dX12_signs_159 : decode cX12_signs 159 = .ok (.iload_n 1, 1) := dc_27 (sg_at zd_dX12_signs_159 0 rfl rfl)
theorem dX12_signs_160 : decode cX12_signs 160 = .ok (.invokestatic 304, 3) := dc_184 (sg_at zd_dX12_signs_159 1 rfl rfl) rfl
theorem dX12_signs_163 : decode cX12_signs 163 = .ok (.iconst 4, 1) := dc_7 (sg_at zd_dX12_signs_159 2 rfl rfl)
theorem dX12_signs_164 : decode cX12_signs 164 = .ok (.if_icmp .ne 7, 3) := dc_160 (sg_at zd_dX12_signs_159 3 rfl rfl) rfl
theorem dX12_signs_167 : decode cX12_signs 167 = .ok (.iconst 5, 1) := dc_8 (sg_at zd_dX12_signs_159 4 rfl rfl)
theorem dX12_signs_168 : decode cX12_signs 168 = .ok (.goto 7, 3) := dc_167 (sg_at zd_dX12_signs_159 5 rfl rfl) rfl
theorem dX12_signs_171 : decode cX12_signs 171 = .ok (.iload_n 1, 1) := dc_27 (sg_at zd_dX12_signs_159 6 rfl rfl)
theorem dX12_signs_172 : decode cX12_signs 172 = .ok (.invokestatic 304, 3) := dc_184 (sg_at zd_dX12_signs_159 7 rfl rfl) rfl
theorem dX12_signs_175 : decode cX12_signs 175 = .ok (.invokevirtual 338, 3) := dc_182 (sg_at zd_dX12_signs_159 8 rfl rfl) rfl
theorem dX12_signs_178 : decode cX12_signs 178 = .ok (.iload_n 1, 1) := dc_27 (sg_at zd_dX12_signs_159 9 rfl rfl)
theorem dX12_signs_179 : decode cX12_signs 179 = .ok (.invokestatic 304, 3) := dc_184 (sg_at zd_dX12_signs_159 10 rfl rfl) rfl
theorem dX12_signs_182 : decode cX12_signs 182 = .ok (.iconst 4, 1) := dc_7 (sg_at zd_dX12_signs_159 11 rfl rfl)
theorem dX12_signs_183 : decode cX12_signs 183 = .ok (.if_icmp .ne 34, 3) := dc_160 (sg_at zd_dX12_signs_159 12 rfl rfl) rfl
theorem dX12_signs_186 : decode cX12_signs 186 = .ok (.aload_n 0, 1) := dc_42 (sg_at zd_dX12_signs_159 13 rfl rfl)
theorem dX12_signs_187 : decode cX12_signs 187 = .ok (.getfield 301, 3) := dc_180 (sg_at zd_dX12_signs_159 14 rfl rfl) rfl
theorem dX12_signs_190 : decode cX12_signs 190 = .ok (.ifCond .le 27, 3) := dc_158 (sg_at zd_dX12_signs_159 15 rfl rfl) rfl
theorem dX12_signs_193 : decode cX12_signs 193 = .ok (.aload_n 0, 1) := dc_42 (sg_at zd_dX12_signs_159 16 rfl rfl)
theorem dX12_signs_194 : decode cX12_signs 194 = .ok (.getfield 75, 3) := dc_180 (sg_at zd_dX12_signs_159 17 rfl rfl) rfl
theorem dX12_signs_197 : decode cX12_signs 197 = .ok (.aload_n 0, 1) := dc_42 (sg_at zd_dX12_signs_159 18 rfl rfl)
theorem dX12_signs_198 : decode cX12_signs 198 = .ok (.getfield 301, 3) := dc_180 (sg_at zd_dX12_signs_159 19 rfl rfl) rfl
theorem zd_dX12_signs_201 : sg (cX12_signs.data.toList.drop 201) [[4], [100], [46], [184, 1, 48], [7], [160, 0, 9], [42], [4], [182, 0, 196], [172], [42], [182, 1, 73], [154, 0, 5], [3], [172], [42], [27], [182, 1, 63], [42], [4]] = true := by decide +kernel
theorem dX12_signs_201 : decode cX12_signs 201 = .ok (.iconst 1, 1) := dc_4 (sg_at zd_dX12_signs_201 0 rfl rfl)
theorem dX12_signs_202 : decode cX12_signs 202 = .ok (.isub, 1) := dc_100 (sg_at zd_dX12_signs_201 1 rfl rfl)
theorem dX12_signs_203 : decode cX12_signs 203 = .ok (.iaload, 1) := dc_46 (sg_at zd_dX12_signs_201 2 rfl rfl)
theorem dX12_signs_204 : decode cX12_signs 204 = .ok (.invokestatic 304, 3) := dc_184 (sg_at zd_dX12_signs_201 3 rfl rfl) rfl
theorem dX12_signs_207 : decode cX12_signs 207 = .ok (.iconst 4, 1) := dc_7 (sg_at zd_dX12_signs_201 4 rfl rfl)
theorem dX12_signs_208 : decode cX12_signs 208 = .ok (.if_icmp .ne 9, 3) := dc_160 (sg_at zd_dX12_signs_201 5 rfl rfl) rfl
theorem dX12_signs_211 : decode cX12_signs 211 = .ok (.aload_n 0, 1) := dc_42 (sg_at zd_dX12_signs_201 6 rfl rfl)
theorem dX12_signs_212 : decode cX12_signs 212 = .ok (.iconst 1, 1) := dc_4 (sg_at zd_dX12_signs_201 7 rfl rfl)
theorem dX12_signs_213 : decode cX12_signs 213 = .ok (.invokevirtual 196, 3) := dc_182 (sg_at zd_dX12_signs_201 8 rfl rfl) rfl
theorem dX12_signs_216 : decode cX12_signs 216 = .ok (.ireturn, 1) := dc_172 (sg_at zd_dX12_signs_201 9 rfl rfl)
theorem dX12_signs_217 : decode cX12_signs 217 = .ok (.aload_n 0, 1) := dc_42 (sg_at zd_dX12_signs_201 10 rfl rfl)
theorem dX12_signs_218 : decode cX12_signs 218 = .ok (.invokevirtual 329, 3) := dc_182 (sg_at zd_dX12_signs_201 11 rfl rfl) rfl
theorem dX12_signs_221 : decode cX12_signs 221 = .ok (.ifCond .ne 5, 3) := dc_154 (sg_at zd_dX12_signs_201 12 rfl rfl) rfl
theorem dX12_signs_224 : decode cX12_signs 224 = .ok (.iconst 0, 1) := dc_3 (sg_at zd_dX12_signs_201 13 rfl rfl)
theorem dX12_signs_225 : decode cX12_signs 225 = .ok (.ireturn, 1) := dc_172 (sg_at zd_dX12_signs_201 14 rfl rfl)
theorem dX12_signs_226 : decode cX12_signs 226 = .ok (.aload_n 0, 1) := dc_42 (sg_at zd_dX12_signs_201 15 rfl rfl)
theorem dX12_signs_227 : decode cX12_signs 227 = .ok (.iload_n 1, 1) := dc_27 (sg_at zd_dX12_signs_201 16 rfl rfl)
theorem dX12_signs_228 : decode cX12_signs 228 = .ok (.invokevirtual 319, 3) := dc_182 (sg_at zd_dX12_signs_201 17 rfl rfl) rfl
theorem dX12_signs_231 : decode cX12_signs 231 = .ok (.aload_n 0, 1) := dc_42 (sg_at zd_dX12_signs_201 18 rfl rfl)
theorem dX12_signs_232 : decode cX12_signs 232 = .ok (.iconst 1, 1) := dc_4 (sg_at zd_dX12_signs_201 19 rfl rfl)
theorem zd_dX12_signs_233 : sg (cX12_signs.data.toList.drop 233) [[181, 1, 79], [42], [27], [184, 1, 48], [6], [162, 0, 7], [4], [167, 0, 4], [3], [181, 1, 67], [42], [182, 0, 206], [4], [172]] = true := by decide +kernel
theorem dX12_signs_233 : decode cX12_signs 233 = .ok (.putfield 335, 3) := dc_181 (sg_at zd_dX12_signs_233 0 rfl rfl) rfl
theorem dX12_signs_236 : decode cX12_signs 236 = .ok (.aload_n 0, 1) := dc_42 (sg_at zd_dX12_signs_233 1 rfl rfl)
theorem dX12_signs_237 : decode cX12_signs 237 = .ok (.iload_n 1, 1) := dc_27 (sg_at zd_dX12_signs_233 2 rfl rfl)
theorem dX12_signs_238 : decode cX12_signs 238 = .ok (.invokestatic 304, 3) := dc_184 (sg_at zd_dX12_signs_233 3 rfl rfl) rfl
theorem dX12_signs_241 : decode cX12_signs 241 = .ok (.iconst 3, 1) := dc_6 (sg_at zd_dX12_signs_233 4 rfl rfl)
theorem dX12_signs_242 : decode cX12_signs 242 = .ok (.if_icmp .ge 7, 3) := dc_162 (sg_at zd_dX12_signs_233 5 rfl rfl) rfl
theorem dX12_signs_245 : decode cX12_signs 245 = .ok (.iconst 1, 1) := dc_4 (sg_at zd_dX12_signs_233 6 rfl rfl)
theorem dX12_signs_246 : decode cX12_signs 246 = .ok (.goto 4, 3) := dc_167 (sg_at zd_dX12_signs_233 7 rfl rfl) rfl
theorem dX12_signs_249 : decode cX12_signs 249 = .ok (.iconst 0, 1) := dc_3 (sg_at zd_dX12_signs_233 8 rfl rfl)
theorem dX12_signs_250 : decode cX12_signs 250 = .ok (.putfield 323, 3) := dc_181 (sg_at zd_dX12_signs_233 9 rfl rfl) rfl
theorem dX12_signs_253 : decode cX12_signs 253 = .ok (.aload_n 0, 1) := dc_42 (sg_at zd_dX12_signs_233 10 rfl rfl)
theorem dX12_signs_254 : decode cX12_signs 254 = .ok (.invokevirtual 206, 3) := dc_182 (sg_at zd_dX12_signs_233 11 rfl rfl) rfl
theorem dX12_signs_257 : decode cX12_signs 257 = .ok (.iconst 1, 1) := dc_4 (sg_at zd_dX12_signs_233 12 rfl rfl)
theorem dX12_signs_258 : decode cX12_signs 258 = .ok (.ireturn, 1) := dc_172 (sg_at zd_dX12_signs_233 13 rfl rfl)
theorem zd_dX12_sumRead_0 : sg (cX12_sumRead.data.toList.drop 0) [[42], [3], [181, 1, 45], [42], [3], [181, 1, 42], [42], [3], [181, 1, 60], [42], [4], [181, 1, 79], [42], [4], [181, 1, 67], [42], [16, 59], [182, 0, 209], [153, 0, 17], [42]] = true := by decide +kernel
theorem dX12_sumRead_0 : decode cX12_sumRead 0 = .ok (.aload_n 0, 1) := dc_42 (sg_at zd_dX12_sumRead_0 0 rfl rfl)
theorem dX12_sumRead_1 : decode cX12_sumRead 1 = .ok (.iconst 0, 1) := dc_3 (sg_at zd_dX12_sumRead_0 1 rfl rfl)
theorem dX12_sumRead_2 : decode cX12_sumRead 2 = .ok (.putfield 301, 3) := dc_181 (sg_at zd_dX12_sumRead_0 2 rfl rfl) rfl
theorem dX12_sumRead_5 : decode cX12_sumRead 5 = .ok (.aload_n 0, 1) := dc_42 (sg_at zd_dX12_sumRead_0 3 rfl rfl)
theorem dX12_sumRead_6 : decode cX12_sumRead 6 = .ok (.iconst 0, 1) := dc_3 (sg_at zd_dX12_sumRead_0 4 rfl rfl)
theorem dX12_sumRead_7 : decode cX12_sumRead 7 = .ok (.putfield 298, 3) := dc_181 (sg_at zd_dX12_sumRead_0 5 rfl rfl) rfl
theorem dX12_sumRead_10 : decode cX12_sumRead 10 = .ok (.aload_n 0, 1) := dc_42 (sg_at zd_dX12_sumRead_0 6 rfl rfl)
theorem dX12_sumRead_11 : decode cX12_sumRead 11 = .ok (.iconst 0, 1) := dc_3 (sg_at zd_dX12_sumRead_0 7 rfl rfl)
theorem dX12_sumRead_12 : decode cX12_sumRead 12 = .ok (.putfield 316, 3) := dc_181 (sg_at zd_dX12_sumRead_0 8 rfl rfl) rfl
theorem dX12_sumRead_15 : decode cX12_sumRead 15 = .ok (.aload_n 0, 1) := dc_42 (sg_at zd_dX12_sumRead_0 9 rfl rfl)
theorem dX12_sumRead_16 : decode cX12_sumRead 16 = .ok (.iconst 1, 1) := dc_4 (sg_at zd_dX12_sumRead_0 10 rfl rfl)
theorem dX12_sumRead_17 : decode cX12_sumRead 17 = .ok (.putfield 335, 3) := dc_181 (sg_at zd_dX12_sumRead_0 11 rfl rfl) rfl
theorem dX12_sumRead_20 : decode cX12_sumRead 20 = .ok (.aload_n 0, 1) := dc_42 (sg_at zd_dX12_sumRead_0 12 rfl rfl)
theorem dX12_sumRead_21 : decode cX12_sumRead 21 = .ok (.iconst 1, 1) := dc_4 (sg_at zd_dX12_sumRead_0 13 rfl rfl)
theorem dX12_sumRead_22 : decode cX12_sumRead 22 = .ok (.putfield 323, 3) := dc_181 (sg_at zd_dX12_sumRead_0 14 rfl rfl) rfl
theorem dX12_sumRead_25 : decode cX12_sumRead 25 = .ok (.aload_n 0, 1) := dc_42 (sg_at zd_dX12_sumRead_0 15 rfl rfl)
theorem dX12_sumRead_26 : decode cX12_sumRead 26 = .ok (.bipush 59, 2) := dc_16 (sg_at zd_dX12_sumRead_0 16 rfl rfl) rfl
theorem dX12_sumRead_28 : decode cX12_sumRead 28 = .ok (.invokevirtual 209, 3) := dc_182 (sg_at zd_dX12_sumRead_0 17 rfl rfl) rfl
theorem dX12_sumRead_31 : decode cX12_sumRead 31 = .ok (.ifCond .eq 17, 3) := dc_153 (sg_at zd_dX12_sumRead_0 18 rfl rfl) rfl
theorem dX12_sumRead_34 : decode cX12_sumRead 34 = .ok (.aload_n 0, 1) := dc_42 (sg_at zd_dX12_sumRead_0 19 rfl rfl)
theorem zd_dX12_sumRead_35 : sg (cX12_sumRead.data.toList.drop 35) [[180, 1, 79], [154, 0, 10], [42], [180, 1, 60], [158, 0, 29], [42], [180, 1, 79], [153, 0, 13], [42], [182, 1, 85], [153, 0, 13], [167, 255, 219], [42], [182, 1, 88], [154, 255, 212], [3], [172], [42], [4], [182, 1, 82]] = true := by decide +kernel
theorem dX12_sumRead_35 : decode cX12_sumRead 35 = .ok (.getfield 335, 3) := dc_180 (sg_at zd_dX12_sumRead_35 0 rfl rfl) rfl
theorem dX12_sumRead_38 : decode cX12_sumRead 38 = .ok (.ifCond .ne 10, 3) := dc_154 (sg_at zd_dX12_sumRead_35 1 rfl rfl) rfl
theorem dX12_sumRead_41 : decode cX12_sumRead 41 = .ok (.aload_n 0, 1) := dc_42 (sg_at zd_dX12_sumRead_35 2 rfl rfl)
theorem dX12_sumRead_42 : decode cX12_sumRead 42 = .ok (.getfield 316, 3) := dc_180 (sg_at zd_dX12_sumRead_35 3 rfl rfl) rfl
theorem dX12_sumRead_45 : decode cX12_sumRead 45 = .ok (.ifCond .le 29, 3) := dc_158 (sg_at zd_dX12_sumRead_35 4 rfl rfl) rfl
theorem dX12_sumRead_48 : decode cX12_sumRead 48 = .ok (.aload_n 0, 1) := dc_42 (sg_at zd_dX12_sumRead_35 5 rfl rfl)
theorem dX12_sumRead_49 : decode cX12_sumRead 49 = .ok (.getfield 335, 3) := dc_180 (sg_at zd_dX12_sumRead_35 6 rfl rfl) rfl
theorem dX12_sumRead_52 : decode cX12_sumRead 52 = .ok (.ifCond .eq 13, 3) := dc_153 (sg_at zd_dX12_sumRead_35 7 rfl rfl) rfl
theorem dX12_sumRead_55 : decode cX12_sumRead 55 = .ok (.aload_n 0, 1) := dc_42 (sg_at zd_dX12_sumRead_35 8 rfl rfl)
theorem dX12_sumRead_56 : decode cX12_sumRead 56 = .ok (.invokevirtual 341, 3) := dc_182 (sg_at zd_dX12_sumRead_35 9 rfl rfl) rfl
theorem dX12_sumRead_59 : decode cX12_sumRead 59 = .ok (.ifCond .eq 13, 3) := dc_153 (sg_at zd_dX12_sumRead_35 10 rfl rfl) rfl
theorem dX12_sumRead_62 : decode cX12_sumRead 62 = .ok (.goto (-37), 3) := dc_167 (sg_at zd_dX12_sumRead_35 11 rfl rfl) rfl
theorem dX12_sumRead_65 : decode cX12_sumRead 65 = .ok (.aload_n 0, 1) := dc_42 (sg_at zd_dX12_sumRead_35 12 rfl rfl)
theorem dX12_sumRead_66 : decode cX12_sumRead 66 = .ok (.invokevirtual 344, 3) := dc_182 (sg_at zd_dX12_sumRead_35 13 rfl rfl) rfl
theorem dX12_sumRead_69 : decode cX12_sumRead 69 = .ok (.ifCond .ne (-44), 3) := dc_154 (sg_at zd_dX12_sumRead_35 14 rfl rfl) rfl
theorem dX12_sumRead_72 : decode cX12_sumRead 72 = .ok (.iconst 0, 1) := dc_3 (sg_at zd_dX12_sumRead_35 15 rfl rfl)
theorem dX12_sumRead_73 : decode cX12_sumRead 73 = .ok (.ireturn, 1) := dc_172 (sg_at zd_dX12_sumRead_35 16 rfl rfl)
theorem dX12_sumRead_74 : decode cX12_sumRead 74 = .ok (.aload_n 0, 1) := dc_42 (sg_at zd_dX12_sumRead_35 17 rfl rfl)
theorem dX12_sumRead_75 : decode cX12_sumRead 75 = .ok (.iconst 1, 1) := dc_4 (sg_at zd_dX12_sumRead_35 18 rfl rfl)
theorem dX12_sumRead_76 : decode cX12_sumRead 76 = .ok (.invokevirtual 338, 3) := dc_182 (sg_at zd_dX12_sumRead_35 19 rfl rfl) rfl
theorem zd_dX12_sumRead_79 : sg (cX12_sumRead.data.toList.drop 79) [[4], [172]] = true := by decide +kernel
theorem dX12_sumRead_79 : decode cX12_sumRead 79 = .ok (.iconst 1, 1) := dc_4 (sg_at zd_dX12_sumRead_79 0 rfl rfl)
theorem dX12_sumRead_80 : decode cX12_sumRead 80 = .ok (.ireturn, 1) := dc_172 (sg_at zd_dX12_sumRead_79 1 rfl rfl)
theorem zd_dX12_lineRead_0 : sg (cX12_lineRead.data.toList.drop 0) [[42], [180, 0, 172], [4], [160, 0, 12], [42], [180, 0, 183], [16, 7], [164, 0, 9], [42], [4], [182, 0, 196], [172], [42], [180, 0, 183]] = true := by decide +kernel
theorem dX12_lineRead_0 : decode cX12_lineRead 0 = .ok (.aload_n 0, 1) := dc_42 (sg_at zd_dX12_lineRead_0 0 rfl rfl)
theorem dX12_lineRead_1 : decode cX12_lineRead 1 = .ok (.getfield 172, 3) := dc_180 (sg_at zd_dX12_lineRead_0 1 rfl rfl) rfl
theorem dX12_lineRead_4 : decode cX12_lineRead 4 = .ok (.iconst 1, 1) := dc_4 (sg_at zd_dX12_lineRead_0 2 rfl rfl)
theorem dX12_lineRead_5 : decode cX12_lineRead 5 = .ok (.if_icmp .ne 12, 3) := dc_160 (sg_at zd_dX12_lineRead_0 3 rfl rfl) rfl
theorem dX12_lineRead_8 : decode cX12_lineRead 8 = .ok (.aload_n 0, 1) := dc_42 (sg_at zd_dX12_lineRead_0 4 rfl rfl)
theorem dX12_lineRead_9 : decode cX12_lineRead 9 = .ok (.getfield 183, 3) := dc_180 (sg_at zd_dX12_lineRead_0 5 rfl rfl) rfl
theorem dX12_lineRead_12 : decode cX12_lineRead 12 = .ok (.bipush 7, 2) := dc_16 (sg_at zd_dX12_lineRead_0 6 rfl rfl) rfl
theorem dX12_lineRead_14 : decode cX12_lineRead 14 = .ok (.if_icmp .le 9, 3) := dc_164 (sg_at zd_dX12_lineRead_0 7 rfl rfl) rfl
theorem dX12_lineRead_17 : decode cX12_lineRead 17 = .ok (.aload_n 0, 1) := dc_42 (sg_at zd_dX12_lineRead_0 8 rfl rfl)
theorem dX12_lineRead_18 : decode cX12_lineRead 18 = .ok (.iconst 1, 1) := dc_4 (sg_at zd_dX12_lineRead_0 9 rfl rfl)
theorem dX12_lineRead_19 : decode cX12_lineRead 19 = .ok (.invokevirtual 196, 3) := dc_182 (sg_at zd_dX12_lineRead_0 10 rfl rfl) rfl
theorem dX12_lineRead_22 : decode cX12_lineRead 22 = .ok (.ireturn, 1) := dc_172 (sg_at zd_dX12_lineRead_0 11 rfl rfl)
theorem dX12_lineRead_23 : decode cX12_lineRead 23 = .ok (.aload_n 0, 1) := dc_42 (sg_at zd_dX12_lineRead_0 12 rfl rfl)
theorem dX12_lineRead_24 : decode cX12_lineRead 24 = .ok (.getfield 183, 3) := dc_180 (sg_at zd_dX12_lineRead_0 13 rfl rfl) rfl
theorem dX12_lineRead_27 : decode cX12_lineRead 27 = .ok (.tableswitch 73 0 6 #[41, 65, 49, 57, 65, 65, 65], 41) := by decide +kernel
theorem zd_dX12_lineRead_68 : sg (cX12_lineRead.data.toList.drop 68) [[42], [182, 1, 24], [60], [167, 0, 124], [42], [182, 1, 27], [60], [167, 0, 116], [42], [182, 1, 30], [60], [167, 0, 108], [42], [182, 1, 33], [60], [167, 0, 100], [42], [182, 0, 206], [42], [180, 0, 172]] = true := by decide +kernel
theorem dX12_lineRead_68 : decode cX12_lineRead 68 = .ok (.aload_n 0, 1) := dc_42 (sg_at zd_dX12_lineRead_68 0 rfl rfl)
theorem dX12_lineRead_69 : decode cX12_lineRead 69 = .ok (.invokevirtual 280, 3) := dc_182 (sg_at zd_dX12_lineRead_68 1 rfl rfl) rfl
theorem dX12_lineRead_72 : decode cX12_lineRead 72 = .ok (.istore_n 1, 1) := dc_60 (sg_at zd_dX12_lineRead_68 2 rfl rfl)
theorem dX12_lineRead_73 : decode cX12_lineRead 73 = .ok (.goto 124, 3) := dc_167 (sg_at zd_dX12_lineRead_68 3 rfl rfl) rfl
theorem dX12_lineRead_76 : decode cX12_lineRead 76 = .ok (.aload_n 0, 1) := dc_42 (sg_at zd_dX12_lineRead_68 4 rfl rfl)
theorem dX12_lineRead_77 : decode cX12_lineRead 77 = .ok (.invokevirtual 283, 3) := dc_182 (sg_at zd_dX12_lineRead_68 5 rfl rfl) rfl
theorem dX12_lineRead_80 : decode cX12_lineRead 80 = .ok (.istore_n 1, 1) := dc_60 (sg_at zd_dX12_lineRead_68 6 rfl rfl)
theorem dX12_lineRead_81 : decode cX12_lineRead 81 = .ok (.goto 116, 3) := dc_167 (sg_at zd_dX12_lineRead_68 7 rfl rfl) rfl
theorem dX12_lineRead_84 : decode cX12_lineRead 84 = .ok (.aload_n 0, 1) := dc_42 (sg_at zd_dX12_lineRead_68 8 rfl rfl)
theorem dX12_lineRead_85 : decode cX12_lineRead 85 = .ok (.invokevirtual 286, 3) := dc_182 (sg_at zd_dX12_lineRead_68 9 rfl rfl) rfl
theorem dX12_lineRead_88 : decode cX12_lineRead 88 = .ok (.istore_n 1, 1) := dc_60 (sg_at zd_dX12_lineRead_68 10 rfl rfl)
theorem dX12_lineRead_89 : decode cX12_lineRead 89 = .ok (.goto 108, 3) := dc_167 (sg_at zd_dX12_lineRead_68 11 rfl rfl) rfl
theorem dX12_lineRead_92 : decode cX12_lineRead 92 = .ok (.aload_n 0, 1) := dc_42 (sg_at zd_dX12_lineRead_68 12 rfl rfl)
theorem dX12_lineRead_93 : decode cX12_lineRead 93 = .ok (.invokevirtual 289, 3) := dc_182 (sg_at zd_dX12_lineRead_68 13 rfl rfl) rfl
theorem dX12_lineRead_96 : decode cX12_lineRead 96 = .ok (.istore_n 1, 1) := dc_60 (sg_at zd_dX12_lineRead_68 14 rfl rfl)
theorem dX12_lineRead_97 : decode cX12_lineRead 97 = .ok (.goto 100, 3) := dc_167 (sg_at zd_dX12_lineRead_68 15 rfl rfl) rfl
theorem dX12_lineRead_100 : decode cX12_lineRead 100 = .ok (.aload_n 0, 1) := dc_42 (sg_at zd_dX12_lineRead_68 16 rfl rfl)
theorem dX12_lineRead_101 : decode cX12_lineRead 101 = .ok (.invokevirtual 206, 3) := dc_182 (sg_at zd_dX12_lineRead_68 17 rfl rfl) rfl
theorem dX12_lineRead_104 : decode cX12_lineRead 104 = .ok (.aload_n 0, 1) := dc_42 (sg_at zd_dX12_lineRead_68 18 rfl rfl)
theorem dX12_lineRead_105 : decode cX12_lineRead 105 = .ok (.getfield 172, 3) := dc_180 (sg_at zd_dX12_lineRead_68 19 rfl rfl) rfl
theorem zd_dX12_lineRead_108 : sg (cX12_lineRead.data.toList.drop 108) [[4], [160, 0, 21], [42], [180, 0, 183], [16, 12], [161, 0, 12], [42], [180, 0, 183], [16, 14], [164, 0, 9], [42], [4], [182, 0, 196], [172], [6], [42], [180, 0, 183], [96], [16, 12], [100]] = true := by decide +kernel
theorem dX12_lineRead_108 : decode cX12_lineRead 108 = .ok (.iconst 1, 1) := dc_4 (sg_at zd_dX12_lineRead_108 0 rfl rfl)
theorem dX12_lineRead_109 : decode cX12_lineRead 109 = .ok (.if_icmp .ne 21, 3) := dc_160 (sg_at zd_dX12_lineRead_108 1 rfl rfl) rfl
theorem dX12_lineRead_112 : decode cX12_lineRead 112 = .ok (.aload_n 0, 1) := dc_42 (sg_at zd_dX12_lineRead_108 2 rfl rfl)
theorem dX12_lineRead_113 : decode cX12_lineRead 113 = .ok (.getfield 183, 3) := dc_180 (sg_at zd_dX12_lineRead_108 3 rfl rfl) rfl
theorem dX12_lineRead_116 : decode cX12_lineRead 116 = .ok (.bipush 12, 2) := dc_16 (sg_at zd_dX12_lineRead_108 4 rfl rfl) rfl
theorem dX12_lineRead_118 : decode cX12_lineRead 118 = .ok (.if_icmp .lt 12, 3) := dc_161 (sg_at zd_dX12_lineRead_108 5 rfl rfl) rfl
theorem dX12_lineRead_121 : decode cX12_lineRead 121 = .ok (.aload_n 0, 1) := dc_42 (sg_at zd_dX12_lineRead_108 6 rfl rfl)
theorem dX12_lineRead_122 : decode cX12_lineRead 122 = .ok (.getfield 183, 3) := dc_180 (sg_at zd_dX12_lineRead_108 7 rfl rfl) rfl
theorem dX12_lineRead_125 : decode cX12_lineRead 125 = .ok (.bipush 14, 2) := dc_16 (sg_at zd_dX12_lineRead_108 8 rfl rfl) rfl
theorem dX12_lineRead_127 : decode cX12_lineRead 127 = .ok (.if_icmp .le 9, 3) := dc_164 (sg_at zd_dX12_lineRead_108 9 rfl rfl) rfl
theorem dX12_lineRead_130 : decode cX12_lineRead 130 = .ok (.aload_n 0, 1) := dc_42 (sg_at zd_dX12_lineRead_108 10 rfl rfl)
theorem dX12_lineRead_131 : decode cX12_lineRead 131 = .ok (.iconst 1, 1) := dc_4 (sg_at zd_dX12_lineRead_108 11 rfl rfl)
theorem dX12_lineRead_132 : decode cX12_lineRead 132 = .ok (.invokevirtual 196, 3) := dc_182 (sg_at zd_dX12_lineRead_108 12 rfl rfl) rfl
theorem dX12_lineRead_135 : decode cX12_lineRead 135 = .ok (.ireturn, 1) := dc_172 (sg_at zd_dX12_lineRead_108 13 rfl rfl)
theorem dX12_lineRead_136 : decode cX12_lineRead 136 = .ok (.iconst 3, 1) := dc_6 (sg_at zd_dX12_lineRead_108 14 rfl rfl)
theorem dX12_lineRead_137 : decode cX12_lineRead 137 = .ok (.aload_n 0, 1) := dc_42 (sg_at zd_dX12_lineRead_108 15 rfl rfl)
theorem dX12_lineRead_138 : decode cX12_lineRead 138 = .ok (.getfield 183, 3) := dc_180 (sg_at zd_dX12_lineRead_108 16 rfl rfl) rfl
theorem dX12_lineRead_141 : decode cX12_lineRead 141 = .ok (.iadd, 1) := dc_96 (sg_at zd_dX12_lineRead_108 17 rfl rfl)
theorem dX12_lineRead_142 : decode cX12_lineRead 142 = .ok (.bipush 12, 2) := dc_16 (sg_at zd_dX12_lineRead_108 18 rfl rfl) rfl
theorem dX12_lineRead_144 : decode cX12_lineRead 144 = .ok (.isub, 1) := dc_100 (sg_at zd_dX12_lineRead_108 19 rfl rfl)
theorem zd_dX12_lineRead_145 : sg (cX12_lineRead.data.toList.drop 145) [[61], [42], [180, 0, 57], [28], [51], [153, 0, 9], [42], [6], [182, 0, 196], [172], [42], [180, 0, 57], [28], [4], [84], [42], [182, 0, 206], [42], [180, 0, 60], [28]] = true := by decide +kernel
theorem dX12_lineRead_145 : decode cX12_lineRead 145 = .ok (.istore_n 2, 1) := dc_61 (sg_at zd_dX12_lineRead_145 0 rfl rfl)
theorem dX12_lineRead_146 : decode cX12_lineRead 146 = .ok (.aload_n 0, 1) := dc_42 (sg_at zd_dX12_lineRead_145 1 rfl rfl)
theorem dX12_lineRead_147 : decode cX12_lineRead 147 = .ok (.getfield 57, 3) := dc_180 (sg_at zd_dX12_lineRead_145 2 rfl rfl) rfl
theorem dX12_lineRead_150 : decode cX12_lineRead 150 = .ok (.iload_n 2, 1) := dc_28 (sg_at zd_dX12_lineRead_145 3 rfl rfl)
theorem dX12_lineRead_151 : decode cX12_lineRead 151 = .ok (.baload, 1) := dc_51 (sg_at zd_dX12_lineRead_145 4 rfl rfl)
theorem dX12_lineRead_152 : decode cX12_lineRead 152 = .ok (.ifCond .eq 9, 3) := dc_153 (sg_at zd_dX12_lineRead_145 5 rfl rfl) rfl
theorem dX12_lineRead_155 : decode cX12_lineRead 155 = .ok (.aload_n 0, 1) := dc_42 (sg_at zd_dX12_lineRead_145 6 rfl rfl)
theorem dX12_lineRead_156 : decode cX12_lineRead 156 = .ok (.iconst 3, 1) := dc_6 (sg_at zd_dX12_lineRead_145 7 rfl rfl)
theorem dX12_lineRead_157 : decode cX12_lineRead 157 = .ok (.invokevirtual 196, 3) := dc_182 (sg_at zd_dX12_lineRead_145 8 rfl rfl) rfl
theorem dX12_lineRead_160 : decode cX12_lineRead 160 = .ok (.ireturn, 1) := dc_172 (sg_at zd_dX12_lineRead_145 9 rfl rfl)
theorem dX12_lineRead_161 : decode cX12_lineRead 161 = .ok (.aload_n 0, 1) := dc_42 (sg_at zd_dX12_lineRead_145 10 rfl rfl)
theorem dX12_lineRead_162 : decode cX12_lineRead 162 = .ok (.getfield 57, 3) := dc_180 (sg_at zd_dX12_lineRead_145 11 rfl rfl) rfl
theorem dX12_lineRead_165 : decode cX12_lineRead 165 = .ok (.iload_n 2, 1) := dc_28 (sg_at zd_dX12_lineRead_145 12 rfl rfl)
theorem dX12_lineRead_166 : decode cX12_lineRead 166 = .ok (.iconst 1, 1) := dc_4 (sg_at zd_dX12_lineRead_145 13 rfl rfl)
theorem dX12_lineRead_167 : decode cX12_lineRead 167 = .ok (.bastore, 1) := dc_84 (sg_at zd_dX12_lineRead_145 14 rfl rfl)
theorem dX12_lineRead_168 : decode cX12_lineRead 168 = .ok (.aload_n 0, 1) := dc_42 (sg_at zd_dX12_lineRead_145 15 rfl rfl)
theorem dX12_lineRead_169 : decode cX12_lineRead 169 = .ok (.invokevirtual 206, 3) := dc_182 (sg_at zd_dX12_lineRead_145 16 rfl rfl) rfl
theorem dX12_lineRead_172 : decode cX12_lineRead 172 = .ok (.aload_n 0, 1) := dc_42 (sg_at zd_dX12_lineRead_145 17 rfl rfl)
theorem dX12_lineRead_173 : decode cX12_lineRead 173 = .ok (.getfield 60, 3) := dc_180 (sg_at zd_dX12_lineRead_145 18 rfl rfl) rfl
theorem dX12_lineRead_176 : decode cX12_lineRead 176 = .ok (.iload_n 2, 1) := dc_28 (sg_at zd_dX12_lineRead_145 19 rfl rfl)
theorem zd_dX12_lineRead_177 : sg (cX12_lineRead.data.toList.drop 177) [[42], [180, 0, 231], [79], [42], [182, 1, 36], [60], [42], [180, 0, 63], [28], [42], [180, 0, 231], [79], [27], [154, 0, 5], [3], [172], [42], [16, 59], [182, 0, 209], [154, 0, 9]] = true := by decide +kernel
theorem dX12_lineRead_177 : decode cX12_lineRead 177 = .ok (.aload_n 0, 1) := dc_42 (sg_at zd_dX12_lineRead_177 0 rfl rfl)
theorem dX12_lineRead_178 : decode cX12_lineRead 178 = .ok (.getfield 231, 3) := dc_180 (sg_at zd_dX12_lineRead_177 1 rfl rfl) rfl
theorem dX12_lineRead_181 : decode cX12_lineRead 181 = .ok (.iastore, 1) := dc_79 (sg_at zd_dX12_lineRead_177 2 rfl rfl)
theorem dX12_lineRead_182 : decode cX12_lineRead 182 = .ok (.aload_n 0, 1) := dc_42 (sg_at zd_dX12_lineRead_177 3 rfl rfl)
theorem dX12_lineRead_183 : decode cX12_lineRead 183 = .ok (.invokevirtual 292, 3) := dc_182 (sg_at zd_dX12_lineRead_177 4 rfl rfl) rfl
theorem dX12_lineRead_186 : decode cX12_lineRead 186 = .ok (.istore_n 1, 1) := dc_60 (sg_at zd_dX12_lineRead_177 5 rfl rfl)
theorem dX12_lineRead_187 : decode cX12_lineRead 187 = .ok (.aload_n 0, 1) := dc_42 (sg_at zd_dX12_lineRead_177 6 rfl rfl)
theorem dX12_lineRead_188 : decode cX12_lineRead 188 = .ok (.getfield 63, 3) := dc_180 (sg_at zd_dX12_lineRead_177 7 rfl rfl) rfl
theorem dX12_lineRead_191 : decode cX12_lineRead 191 = .ok (.iload_n 2, 1) := dc_28 (sg_at zd_dX12_lineRead_177 8 rfl rfl)
theorem dX12_lineRead_192 : decode cX12_lineRead 192 = .ok (.aload_n 0, 1) := dc_42 (sg_at zd_dX12_lineRead_177 9 rfl rfl)
theorem dX12_lineRead_193 : decode cX12_lineRead 193 = .ok (.getfield 231, 3) := dc_180 (sg_at zd_dX12_lineRead_177 10 rfl rfl) rfl
theorem dX12_lineRead_196 : decode cX12_lineRead 196 = .ok (.iastore, 1) := dc_79 (sg_at zd_dX12_lineRead_177 11 rfl rfl)
theorem dX12_lineRead_197 : decode cX12_lineRead 197 = .ok (.iload_n 1, 1) := dc_27 (sg_at zd_dX12_lineRead_177 12 rfl rfl)
theorem dX12_lineRead_198 : decode cX12_lineRead 198 = .ok (.ifCond .ne 5, 3) := dc_154 (sg_at zd_dX12_lineRead_177 13 rfl rfl) rfl
theorem dX12_lineRead_201 : decode cX12_lineRead 201 = .ok (.iconst 0, 1) := dc_3 (sg_at zd_dX12_lineRead_177 14 rfl rfl)
theorem dX12_lineRead_202 : decode cX12_lineRead 202 = .ok (.ireturn, 1) := dc_172 (sg_at zd_dX12_lineRead_177 15 rfl rfl)
theorem dX12_lineRead_203 : decode cX12_lineRead 203 = .ok (.aload_n 0, 1) := dc_42 (sg_at zd_dX12_lineRead_177 16 rfl rfl)
theorem dX12_lineRead_204 : decode cX12_lineRead 204 = .ok (.bipush 59, 2) := dc_16 (sg_at zd_dX12_lineRead_177 17 rfl rfl) rfl
theorem dX12_lineRead_206 : decode cX12_lineRead 206 = .ok (.invokevirtual 209, 3) := dc_182 (sg_at zd_dX12_lineRead_177 18 rfl rfl) rfl
theorem dX12_lineRead_209 : decode cX12_lineRead 209 = .ok (.ifCond .ne 9, 3) := dc_154 (sg_at zd_dX12_lineRead_177 19 rfl rfl) rfl
theorem zd_dX12_lineRead_212 : sg (cX12_lineRead.data.toList.drop 212) [[42], [4], [182, 0, 196], [172], [42], [182, 0, 206], [4], [172]] = true := by decide +kernel
theorem dX12_lineRead_212 : decode cX12_lineRead 212 = .ok (.aload_n 0, 1) := dc_42 (sg_at zd_dX12_lineRead_212 0 rfl rfl)
theorem dX12_lineRead_213 : decode cX12_lineRead 213 = .ok (.iconst 1, 1) := dc_4 (sg_at zd_dX12_lineRead_212 1 rfl rfl)
theorem dX12_lineRead_214 : decode cX12_lineRead 214 = .ok (.invokevirtual 196, 3) := dc_182 (sg_at zd_dX12_lineRead_212 2 rfl rfl) rfl
theorem dX12_lineRead_217 : decode cX12_lineRead 217 = .ok (.ireturn, 1) := dc_172 (sg_at zd_dX12_lineRead_212 3 rfl rfl)
theorem dX12_lineRead_218 : decode cX12_lineRead 218 = .ok (.aload_n 0, 1) := dc_42 (sg_at zd_dX12_lineRead_212 4 rfl rfl)
theorem dX12_lineRead_219 : decode cX12_lineRead 219 = .ok (.invokevirtual 206, 3) := dc_182 (sg_at zd_dX12_lineRead_212 5 rfl rfl) rfl
theorem dX12_lineRead_222 : decode cX12_lineRead 222 = .ok (.iconst 1, 1) := dc_4 (sg_at zd_dX12_lineRead_212 6 rfl rfl)
theorem dX12_lineRead_223 : decode cX12_lineRead 223 = .ok (.ireturn, 1) := dc_172 (sg_at zd_dX12_lineRead_212 7 rfl rfl)
theorem zd_dX12_locals_0 : sg (cX12_locals.data.toList.drop 0) [[42], [3], [181, 0, 154], [27], [3], [16, 12], [184, 0, 199], [154, 0, 5], [2], [172], [3], [61], [28], [42], [182, 2, 15], [162, 0, 16], [42], [180, 0, 139], [28], [4]] = true := by decide +kernel
theorem dX12_locals_0 : decode cX12_locals 0 = .ok (.aload_n 0, 1) := dc_42 (sg_at zd_dX12_locals_0 0 rfl rfl)
theorem dX12_locals_1 : decode cX12_locals 1 = .ok (.iconst 0, 1) := dc_3 (sg_at zd_dX12_locals_0 1 rfl rfl)
theorem dX12_locals_2 : decode cX12_locals 2 = .ok (.putfield 154, 3) := dc_181 (sg_at zd_dX12_locals_0 2 rfl rfl) rfl
theorem dX12_locals_5 : decode cX12_locals 5 = .ok (.iload_n 1, 1) := dc_27 (sg_at zd_dX12_locals_0 3 rfl rfl)
theorem dX12_locals_6 : decode cX12_locals 6 = .ok (.iconst 0, 1) := dc_3 (sg_at zd_dX12_locals_0 4 rfl rfl)
theorem dX12_locals_7 : decode cX12_locals 7 = .ok (.bipush 12, 2) := dc_16 (sg_at zd_dX12_locals_0 5 rfl rfl) rfl
theorem dX12_locals_9 : decode cX12_locals 9 = .ok (.invokestatic 199, 3) := dc_184 (sg_at zd_dX12_locals_0 6 rfl rfl) rfl
theorem dX12_locals_12 : decode cX12_locals 12 = .ok (.ifCond .ne 5, 3) := dc_154 (sg_at zd_dX12_locals_0 7 rfl rfl) rfl
theorem dX12_locals_15 : decode cX12_locals 15 = .ok (.iconst (-1), 1) := dc_2 (sg_at zd_dX12_locals_0 8 rfl rfl)
theorem dX12_locals_16 : decode cX12_locals 16 = .ok (.ireturn, 1) := dc_172 (sg_at zd_dX12_locals_0 9 rfl rfl)
theorem dX12_locals_17 : decode cX12_locals 17 = .ok (.iconst 0, 1) := dc_3 (sg_at zd_dX12_locals_0 10 rfl rfl)
theorem dX12_locals_18 : decode cX12_locals 18 = .ok (.istore_n 2, 1) := dc_61 (sg_at zd_dX12_locals_0 11 rfl rfl)
theorem dX12_locals_19 : decode cX12_locals 19 = .ok (.iload_n 2, 1) := dc_28 (sg_at zd_dX12_locals_0 12 rfl rfl)
theorem dX12_locals_20 : decode cX12_locals 20 = .ok (.aload_n 0, 1) := dc_42 (sg_at zd_dX12_locals_0 13 rfl rfl)
theorem dX12_locals_21 : decode cX12_locals 21 = .ok (.invokevirtual 527, 3) := dc_182 (sg_at zd_dX12_locals_0 14 rfl rfl) rfl
theorem dX12_locals_24 : decode cX12_locals 24 = .ok (.if_icmp .ge 16, 3) := dc_162 (sg_at zd_dX12_locals_0 15 rfl rfl) rfl
theorem dX12_locals_27 : decode cX12_locals 27 = .ok (.aload_n 0, 1) := dc_42 (sg_at zd_dX12_locals_0 16 rfl rfl)
theorem dX12_locals_28 : decode cX12_locals 28 = .ok (.getfield 139, 3) := dc_180 (sg_at zd_dX12_locals_0 17 rfl rfl) rfl
theorem dX12_locals_31 : decode cX12_locals 31 = .ok (.iload_n 2, 1) := dc_28 (sg_at zd_dX12_locals_0 18 rfl rfl)
theorem dX12_locals_32 : decode cX12_locals 32 = .ok (.iconst 1, 1) := dc_4 (sg_at zd_dX12_locals_0 19 rfl rfl)
theorem zd_dX12_locals_33 : sg (cX12_locals.data.toList.drop 33) [[84], [132, 2, 1], [167, 255, 238], [42], [182, 2, 15], [4], [100], [61], [28], [155, 0, 45], [42], [180, 0, 139], [28], [51], [153, 0, 30], [42], [180, 0, 136], [6], [28], [104]] = true := by decide +kernel
theorem dX12_locals_33 : decode cX12_locals 33 = .ok (.bastore, 1) := dc_84 (sg_at zd_dX12_locals_33 0 rfl rfl)
theorem dX12_locals_34 : decode cX12_locals 34 = .ok (.iinc 2 1, 3) := dc_132 (sg_at zd_dX12_locals_33 1 rfl rfl) rfl
theorem dX12_locals_37 : decode cX12_locals 37 = .ok (.goto (-18), 3) := dc_167 (sg_at zd_dX12_locals_33 2 rfl rfl) rfl
theorem dX12_locals_40 : decode cX12_locals 40 = .ok (.aload_n 0, 1) := dc_42 (sg_at zd_dX12_locals_33 3 rfl rfl)
theorem dX12_locals_41 : decode cX12_locals 41 = .ok (.invokevirtual 527, 3) := dc_182 (sg_at zd_dX12_locals_33 4 rfl rfl) rfl
theorem dX12_locals_44 : decode cX12_locals 44 = .ok (.iconst 1, 1) := dc_4 (sg_at zd_dX12_locals_33 5 rfl rfl)
theorem dX12_locals_45 : decode cX12_locals 45 = .ok (.isub, 1) := dc_100 (sg_at zd_dX12_locals_33 6 rfl rfl)
theorem dX12_locals_46 : decode cX12_locals 46 = .ok (.istore_n 2, 1) := dc_61 (sg_at zd_dX12_locals_33 7 rfl rfl)
theorem dX12_locals_47 : decode cX12_locals 47 = .ok (.iload_n 2, 1) := dc_28 (sg_at zd_dX12_locals_33 8 rfl rfl)
theorem dX12_locals_48 : decode cX12_locals 48 = .ok (.ifCond .lt 45, 3) := dc_155 (sg_at zd_dX12_locals_33 9 rfl rfl) rfl
theorem dX12_locals_51 : decode cX12_locals 51 = .ok (.aload_n 0, 1) := dc_42 (sg_at zd_dX12_locals_33 10 rfl rfl)
theorem dX12_locals_52 : decode cX12_locals 52 = .ok (.getfield 139, 3) := dc_180 (sg_at zd_dX12_locals_33 11 rfl rfl) rfl
theorem dX12_locals_55 : decode cX12_locals 55 = .ok (.iload_n 2, 1) := dc_28 (sg_at zd_dX12_locals_33 12 rfl rfl)
theorem dX12_locals_56 : decode cX12_locals 56 = .ok (.baload, 1) := dc_51 (sg_at zd_dX12_locals_33 13 rfl rfl)
theorem dX12_locals_57 : decode cX12_locals 57 = .ok (.ifCond .eq 30, 3) := dc_153 (sg_at zd_dX12_locals_33 14 rfl rfl) rfl
theorem dX12_locals_60 : decode cX12_locals 60 = .ok (.aload_n 0, 1) := dc_42 (sg_at zd_dX12_locals_33 15 rfl rfl)
theorem dX12_locals_61 : decode cX12_locals 61 = .ok (.getfield 136, 3) := dc_180 (sg_at zd_dX12_locals_33 16 rfl rfl) rfl
theorem dX12_locals_64 : decode cX12_locals 64 = .ok (.iconst 3, 1) := dc_6 (sg_at zd_dX12_locals_33 17 rfl rfl)
theorem dX12_locals_65 : decode cX12_locals 65 = .ok (.iload_n 2, 1) := dc_28 (sg_at zd_dX12_locals_33 18 rfl rfl)
theorem dX12_locals_66 : decode cX12_locals 66 = .ok (.imul, 1) := dc_104 (sg_at zd_dX12_locals_33 19 rfl rfl)
theorem zd_dX12_locals_67 : sg (cX12_locals.data.toList.drop 67) [[46], [156, 0, 19], [42], [180, 0, 139], [42], [180, 0, 136], [6], [28], [104], [4], [96], [46], [3], [84], [132, 2, 255], [167, 255, 213], [3], [61], [3], [62]] = true := by decide +kernel
theorem dX12_locals_67 : decode cX12_locals 67 = .ok (.iaload, 1) := dc_46 (sg_at zd_dX12_locals_67 0 rfl rfl)
theorem dX12_locals_68 : decode cX12_locals 68 = .ok (.ifCond .ge 19, 3) := dc_156 (sg_at zd_dX12_locals_67 1 rfl rfl) rfl
theorem dX12_locals_71 : decode cX12_locals 71 = .ok (.aload_n 0, 1) := dc_42 (sg_at zd_dX12_locals_67 2 rfl rfl)
theorem dX12_locals_72 : decode cX12_locals 72 = .ok (.getfield 139, 3) := dc_180 (sg_at zd_dX12_locals_67 3 rfl rfl) rfl
theorem dX12_locals_75 : decode cX12_locals 75 = .ok (.aload_n 0, 1) := dc_42 (sg_at zd_dX12_locals_67 4 rfl rfl)
theorem dX12_locals_76 : decode cX12_locals 76 = .ok (.getfield 136, 3) := dc_180 (sg_at zd_dX12_locals_67 5 rfl rfl) rfl
theorem dX12_locals_79 : decode cX12_locals 79 = .ok (.iconst 3, 1) := dc_6 (sg_at zd_dX12_locals_67 6 rfl rfl)
theorem dX12_locals_80 : decode cX12_locals 80 = .ok (.iload_n 2, 1) := dc_28 (sg_at zd_dX12_locals_67 7 rfl rfl)
theorem dX12_locals_81 : decode cX12_locals 81 = .ok (.imul, 1) := dc_104 (sg_at zd_dX12_locals_67 8 rfl rfl)
theorem dX12_locals_82 : decode cX12_locals 82 = .ok (.iconst 1, 1) := dc_4 (sg_at zd_dX12_locals_67 9 rfl rfl)
theorem dX12_locals_83 : decode cX12_locals 83 = .ok (.iadd, 1) := dc_96 (sg_at zd_dX12_locals_67 10 rfl rfl)
theorem dX12_locals_84 : decode cX12_locals 84 = .ok (.iaload, 1) := dc_46 (sg_at zd_dX12_locals_67 11 rfl rfl)
theorem dX12_locals_85 : decode cX12_locals 85 = .ok (.iconst 0, 1) := dc_3 (sg_at zd_dX12_locals_67 12 rfl rfl)
theorem dX12_locals_86 : decode cX12_locals 86 = .ok (.bastore, 1) := dc_84 (sg_at zd_dX12_locals_67 13 rfl rfl)
theorem dX12_locals_87 : decode cX12_locals 87 = .ok (.iinc 2 (-1), 3) := dc_132 (sg_at zd_dX12_locals_67 14 rfl rfl) rfl
theorem dX12_locals_90 : decode cX12_locals 90 = .ok (.goto (-43), 3) := dc_167 (sg_at zd_dX12_locals_67 15 rfl rfl) rfl
theorem dX12_locals_93 : decode cX12_locals 93 = .ok (.iconst 0, 1) := dc_3 (sg_at zd_dX12_locals_67 16 rfl rfl)
theorem dX12_locals_94 : decode cX12_locals 94 = .ok (.istore_n 2, 1) := dc_61 (sg_at zd_dX12_locals_67 17 rfl rfl)
theorem dX12_locals_95 : decode cX12_locals 95 = .ok (.iconst 0, 1) := dc_3 (sg_at zd_dX12_locals_67 18 rfl rfl)
theorem dX12_locals_96 : decode cX12_locals 96 = .ok (.istore_n 3, 1) := dc_62 (sg_at zd_dX12_locals_67 19 rfl rfl)
theorem zd_dX12_locals_97 : sg (cX12_locals.data.toList.drop 97) [[3], [54, 4], [21, 4], [42], [182, 2, 15], [162, 0, 114], [42], [180, 0, 139], [21, 4], [51], [153, 0, 98], [42], [180, 0, 136], [6], [21, 4], [104], [46], [156, 0, 6], [167, 0, 83], [42]] = true := by decide +kernel
theorem dX12_locals_97 : decode cX12_locals 97 = .ok (.iconst 0, 1) := dc_3 (sg_at zd_dX12_locals_97 0 rfl rfl)
theorem dX12_locals_98 : decode cX12_locals 98 = .ok (.istore 4, 2) := dc_54 (sg_at zd_dX12_locals_97 1 rfl rfl)
theorem dX12_locals_100 : decode cX12_locals 100 = .ok (.iload 4, 2) := dc_21 (sg_at zd_dX12_locals_97 2 rfl rfl)
theorem dX12_locals_102 : decode cX12_locals 102 = .ok (.aload_n 0, 1) := dc_42 (sg_at zd_dX12_locals_97 3 rfl rfl)
theorem dX12_locals_103 : decode cX12_locals 103 = .ok (.invokevirtual 527, 3) := dc_182 (sg_at zd_dX12_locals_97 4 rfl rfl) rfl
theorem dX12_locals_106 : decode cX12_locals 106 = .ok (.if_icmp .ge 114, 3) := dc_162 (sg_at zd_dX12_locals_97 5 rfl rfl) rfl
theorem dX12_locals_109 : decode cX12_locals 109 = .ok (.aload_n 0, 1) := dc_42 (sg_at zd_dX12_locals_97 6 rfl rfl)
theorem dX12_locals_110 : decode cX12_locals 110 = .ok (.getfield 139, 3) := dc_180 (sg_at zd_dX12_locals_97 7 rfl rfl) rfl
theorem dX12_locals_113 : decode cX12_locals 113 = .ok (.iload 4, 2) := dc_21 (sg_at zd_dX12_locals_97 8 rfl rfl)
theorem dX12_locals_115 : decode cX12_locals 115 = .ok (.baload, 1) := dc_51 (sg_at zd_dX12_locals_97 9 rfl rfl)
theorem dX12_locals_116 : decode cX12_locals 116 = .ok (.ifCond .eq 98, 3) := dc_153 (sg_at zd_dX12_locals_97 10 rfl rfl) rfl
theorem dX12_locals_119 : decode cX12_locals 119 = .ok (.aload_n 0, 1) := dc_42 (sg_at zd_dX12_locals_97 11 rfl rfl)
theorem dX12_locals_120 : decode cX12_locals 120 = .ok (.getfield 136, 3) := dc_180 (sg_at zd_dX12_locals_97 12 rfl rfl) rfl
theorem dX12_locals_123 : decode cX12_locals 123 = .ok (.iconst 3, 1) := dc_6 (sg_at zd_dX12_locals_97 13 rfl rfl)
theorem dX12_locals_124 : decode cX12_locals 124 = .ok (.iload 4, 2) := dc_21 (sg_at zd_dX12_locals_97 14 rfl rfl)
theorem dX12_locals_126 : decode cX12_locals 126 = .ok (.imul, 1) := dc_104 (sg_at zd_dX12_locals_97 15 rfl rfl)
theorem dX12_locals_127 : decode cX12_locals 127 = .ok (.iaload, 1) := dc_46 (sg_at zd_dX12_locals_97 16 rfl rfl)
theorem dX12_locals_128 : decode cX12_locals 128 = .ok (.ifCond .ge 6, 3) := dc_156 (sg_at zd_dX12_locals_97 17 rfl rfl) rfl
theorem dX12_locals_131 : decode cX12_locals 131 = .ok (.goto 83, 3) := dc_167 (sg_at zd_dX12_locals_97 18 rfl rfl) rfl
theorem dX12_locals_134 : decode cX12_locals 134 = .ok (.aload_n 0, 1) := dc_42 (sg_at zd_dX12_locals_97 19 rfl rfl)
theorem zd_dX12_locals_135 : sg (cX12_locals.data.toList.drop 135) [[42], [180, 0, 136], [6], [21, 4], [104], [46], [182, 2, 18], [54, 5], [21, 5], [156, 0, 6], [167, 0, 60], [28], [4], [42], [180, 0, 136], [6], [21, 4], [104], [4], [96]] = true := by decide +kernel
theorem dX12_locals_135 : decode cX12_locals 135 = .ok (.aload_n 0, 1) := dc_42 (sg_at zd_dX12_locals_135 0 rfl rfl)
theorem dX12_locals_136 : decode cX12_locals 136 = .ok (.getfield 136, 3) := dc_180 (sg_at zd_dX12_locals_135 1 rfl rfl) rfl
theorem dX12_locals_139 : decode cX12_locals 139 = .ok (.iconst 3, 1) := dc_6 (sg_at zd_dX12_locals_135 2 rfl rfl)
theorem dX12_locals_140 : decode cX12_locals 140 = .ok (.iload 4, 2) := dc_21 (sg_at zd_dX12_locals_135 3 rfl rfl)
theorem dX12_locals_142 : decode cX12_locals 142 = .ok (.imul, 1) := dc_104 (sg_at zd_dX12_locals_135 4 rfl rfl)
theorem dX12_locals_143 : decode cX12_locals 143 = .ok (.iaload, 1) := dc_46 (sg_at zd_dX12_locals_135 5 rfl rfl)
theorem dX12_locals_144 : decode cX12_locals 144 = .ok (.invokevirtual 530, 3) := dc_182 (sg_at zd_dX12_locals_135 6 rfl rfl) rfl
theorem dX12_locals_147 : decode cX12_locals 147 = .ok (.istore 5, 2) := dc_54 (sg_at zd_dX12_locals_135 7 rfl rfl)
theorem dX12_locals_149 : decode cX12_locals 149 = .ok (.iload 5, 2) := dc_21 (sg_at zd_dX12_locals_135 8 rfl rfl)
theorem dX12_locals_151 : decode cX12_locals 151 = .ok (.ifCond .ge 6, 3) := dc_156 (sg_at zd_dX12_locals_135 9 rfl rfl) rfl
theorem dX12_locals_154 : decode cX12_locals 154 = .ok (.goto 60, 3) := dc_167 (sg_at zd_dX12_locals_135 10 rfl rfl) rfl
theorem dX12_locals_157 : decode cX12_locals 157 = .ok (.iload_n 2, 1) := dc_28 (sg_at zd_dX12_locals_135 11 rfl rfl)
theorem dX12_locals_158 : decode cX12_locals 158 = .ok (.iconst 1, 1) := dc_4 (sg_at zd_dX12_locals_135 12 rfl rfl)
theorem dX12_locals_159 : decode cX12_locals 159 = .ok (.aload_n 0, 1) := dc_42 (sg_at zd_dX12_locals_135 13 rfl rfl)
theorem dX12_locals_160 : decode cX12_locals 160 = .ok (.getfield 136, 3) := dc_180 (sg_at zd_dX12_locals_135 14 rfl rfl) rfl
theorem dX12_locals_163 : decode cX12_locals 163 = .ok (.iconst 3, 1) := dc_6 (sg_at zd_dX12_locals_135 15 rfl rfl)
theorem dX12_locals_164 : decode cX12_locals 164 = .ok (.iload 4, 2) := dc_21 (sg_at zd_dX12_locals_135 16 rfl rfl)
theorem dX12_locals_166 : decode cX12_locals 166 = .ok (.imul, 1) := dc_104 (sg_at zd_dX12_locals_135 17 rfl rfl)
theorem dX12_locals_167 : decode cX12_locals 167 = .ok (.iconst 1, 1) := dc_4 (sg_at zd_dX12_locals_135 18 rfl rfl)
theorem dX12_locals_168 : decode cX12_locals 168 = .ok (.iadd, 1) := dc_96 (sg_at zd_dX12_locals_135 19 rfl rfl)
theorem zd_dX12_locals_169 : sg (cX12_locals.data.toList.drop 169) [[46], [120], [128], [61], [42], [42], [180, 0, 136], [6], [21, 4], [104], [5], [96], [46], [42], [21, 5], [182, 1, 144], [182, 1, 147], [27], [164, 0, 19], [29]] = true := by decide +kernel
theorem dX12_locals_169 : decode cX12_locals 169 = .ok (.iaload, 1) := dc_46 (sg_at zd_dX12_locals_169 0 rfl rfl)
theorem dX12_locals_170 : decode cX12_locals 170 = .ok (.ishl, 1) := dc_120 (sg_at zd_dX12_locals_169 1 rfl rfl)
theorem dX12_locals_171 : decode cX12_locals 171 = .ok (.ior, 1) := dc_128 (sg_at zd_dX12_locals_169 2 rfl rfl)
theorem dX12_locals_172 : decode cX12_locals 172 = .ok (.istore_n 2, 1) := dc_61 (sg_at zd_dX12_locals_169 3 rfl rfl)
theorem dX12_locals_173 : decode cX12_locals 173 = .ok (.aload_n 0, 1) := dc_42 (sg_at zd_dX12_locals_169 4 rfl rfl)
theorem dX12_locals_174 : decode cX12_locals 174 = .ok (.aload_n 0, 1) := dc_42 (sg_at zd_dX12_locals_169 5 rfl rfl)
theorem dX12_locals_175 : decode cX12_locals 175 = .ok (.getfield 136, 3) := dc_180 (sg_at zd_dX12_locals_169 6 rfl rfl) rfl
theorem dX12_locals_178 : decode cX12_locals 178 = .ok (.iconst 3, 1) := dc_6 (sg_at zd_dX12_locals_169 7 rfl rfl)
theorem dX12_locals_179 : decode cX12_locals 179 = .ok (.iload 4, 2) := dc_21 (sg_at zd_dX12_locals_169 8 rfl rfl)
theorem dX12_locals_181 : decode cX12_locals 181 = .ok (.imul, 1) := dc_104 (sg_at zd_dX12_locals_169 9 rfl rfl)
theorem dX12_locals_182 : decode cX12_locals 182 = .ok (.iconst 2, 1) := dc_5 (sg_at zd_dX12_locals_169 10 rfl rfl)
theorem dX12_locals_183 : decode cX12_locals 183 = .ok (.iadd, 1) := dc_96 (sg_at zd_dX12_locals_169 11 rfl rfl)
theorem dX12_locals_184 : decode cX12_locals 184 = .ok (.iaload, 1) := dc_46 (sg_at zd_dX12_locals_169 12 rfl rfl)
theorem dX12_locals_185 : decode cX12_locals 185 = .ok (.aload_n 0, 1) := dc_42 (sg_at zd_dX12_locals_169 13 rfl rfl)
theorem dX12_locals_186 : decode cX12_locals 186 = .ok (.iload 5, 2) := dc_21 (sg_at zd_dX12_locals_169 14 rfl rfl)
theorem dX12_locals_188 : decode cX12_locals 188 = .ok (.invokevirtual 400, 3) := dc_182 (sg_at zd_dX12_locals_169 15 rfl rfl) rfl
theorem dX12_locals_191 : decode cX12_locals 191 = .ok (.invokevirtual 403, 3) := dc_182 (sg_at zd_dX12_locals_169 16 rfl rfl) rfl
theorem dX12_locals_194 : decode cX12_locals 194 = .ok (.iload_n 1, 1) := dc_27 (sg_at zd_dX12_locals_169 17 rfl rfl)
theorem dX12_locals_195 : decode cX12_locals 195 = .ok (.if_icmp .le 19, 3) := dc_164 (sg_at zd_dX12_locals_169 18 rfl rfl) rfl
theorem dX12_locals_198 : decode cX12_locals 198 = .ok (.iload_n 3, 1) := dc_29 (sg_at zd_dX12_locals_169 19 rfl rfl)
theorem zd_dX12_locals_199 : sg (cX12_locals.data.toList.drop 199) [[4], [42], [180, 0, 136], [6], [21, 4], [104], [4], [96], [46], [120], [128], [62], [132, 4, 1], [167, 255, 139], [28], [29], [2], [130], [126], [172]] = true := by decide +kernel
theorem dX12_locals_199 : decode cX12_locals 199 = .ok (.iconst 1, 1) := dc_4 (sg_at zd_dX12_locals_199 0 rfl rfl)
theorem dX12_locals_200 : decode cX12_locals 200 = .ok (.aload_n 0, 1) := dc_42 (sg_at zd_dX12_locals_199 1 rfl rfl)
theorem dX12_locals_201 : decode cX12_locals 201 = .ok (.getfield 136, 3) := dc_180 (sg_at zd_dX12_locals_199 2 rfl rfl) rfl
theorem dX12_locals_204 : decode cX12_locals 204 = .ok (.iconst 3, 1) := dc_6 (sg_at zd_dX12_locals_199 3 rfl rfl)
theorem dX12_locals_205 : decode cX12_locals 205 = .ok (.iload 4, 2) := dc_21 (sg_at zd_dX12_locals_199 4 rfl rfl)
theorem dX12_locals_207 : decode cX12_locals 207 = .ok (.imul, 1) := dc_104 (sg_at zd_dX12_locals_199 5 rfl rfl)
theorem dX12_locals_208 : decode cX12_locals 208 = .ok (.iconst 1, 1) := dc_4 (sg_at zd_dX12_locals_199 6 rfl rfl)
theorem dX12_locals_209 : decode cX12_locals 209 = .ok (.iadd, 1) := dc_96 (sg_at zd_dX12_locals_199 7 rfl rfl)
theorem dX12_locals_210 : decode cX12_locals 210 = .ok (.iaload, 1) := dc_46 (sg_at zd_dX12_locals_199 8 rfl rfl)
theorem dX12_locals_211 : decode cX12_locals 211 = .ok (.ishl, 1) := dc_120 (sg_at zd_dX12_locals_199 9 rfl rfl)
theorem dX12_locals_212 : decode cX12_locals 212 = .ok (.ior, 1) := dc_128 (sg_at zd_dX12_locals_199 10 rfl rfl)
theorem dX12_locals_213 : decode cX12_locals 213 = .ok (.istore_n 3, 1) := dc_62 (sg_at zd_dX12_locals_199 11 rfl rfl)
theorem dX12_locals_214 : decode cX12_locals 214 = .ok (.iinc 4 1, 3) := dc_132 (sg_at zd_dX12_locals_199 12 rfl rfl) rfl
theorem dX12_locals_217 : decode cX12_locals 217 = .ok (.goto (-117), 3) := dc_167 (sg_at zd_dX12_locals_199 13 rfl rfl) rfl
theorem dX12_locals_220 : decode cX12_locals 220 = .ok (.iload_n 2, 1) := dc_28 (sg_at zd_dX12_locals_199 14 rfl rfl)
theorem dX12_locals_221 : decode cX12_locals 221 = .ok (.iload_n 3, 1) := dc_29 (sg_at zd_dX12_locals_199 15 rfl rfl)
theorem dX12_locals_222 : decode cX12_locals 222 = .ok (.iconst (-1), 1) := dc_2 (sg_at zd_dX12_locals_199 16 rfl rfl)
theorem dX12_locals_223 : decode cX12_locals 223 = .ok (.ixor, 1) := dc_130 (sg_at zd_dX12_locals_199 17 rfl rfl)
theorem dX12_locals_224 : decode cX12_locals 224 = .ok (.iand, 1) := dc_126 (sg_at zd_dX12_locals_199 18 rfl rfl)
theorem dX12_locals_225 : decode cX12_locals 225 = .ok (.ireturn, 1) := dc_172 (sg_at zd_dX12_locals_199 19 rfl rfl)
theorem zd_dX12_look_0 : sg (cX12_look.data.toList.drop 0) [[42], [3], [181, 0, 154], [42], [27], [182, 1, 157], [154, 0, 9], [42], [4], [182, 1, 160], [172], [28]] = true := by decide +kernel
theorem dX12_look_0 : decode cX12_look 0 = .ok (.aload_n 0, 1) := dc_42 (sg_at zd_dX12_look_0 0 rfl rfl)
theorem dX12_look_1 : decode cX12_look 1 = .ok (.iconst 0, 1) := dc_3 (sg_at zd_dX12_look_0 1 rfl rfl)
theorem dX12_look_2 : decode cX12_look 2 = .ok (.putfield 154, 3) := dc_181 (sg_at zd_dX12_look_0 2 rfl rfl) rfl
theorem dX12_look_5 : decode cX12_look 5 = .ok (.aload_n 0, 1) := dc_42 (sg_at zd_dX12_look_0 3 rfl rfl)
theorem dX12_look_6 : decode cX12_look 6 = .ok (.iload_n 1, 1) := dc_27 (sg_at zd_dX12_look_0 4 rfl rfl)
theorem dX12_look_7 : decode cX12_look 7 = .ok (.invokevirtual 413, 3) := dc_182 (sg_at zd_dX12_look_0 5 rfl rfl) rfl
theorem dX12_look_10 : decode cX12_look 10 = .ok (.ifCond .ne 9, 3) := dc_154 (sg_at zd_dX12_look_0 6 rfl rfl) rfl
theorem dX12_look_13 : decode cX12_look 13 = .ok (.aload_n 0, 1) := dc_42 (sg_at zd_dX12_look_0 7 rfl rfl)
theorem dX12_look_14 : decode cX12_look 14 = .ok (.iconst 1, 1) := dc_4 (sg_at zd_dX12_look_0 8 rfl rfl)
theorem dX12_look_15 : decode cX12_look 15 = .ok (.invokevirtual 416, 3) := dc_182 (sg_at zd_dX12_look_0 9 rfl rfl) rfl
theorem dX12_look_18 : decode cX12_look 18 = .ok (.ireturn, 1) := dc_172 (sg_at zd_dX12_look_0 10 rfl rfl)
theorem dX12_look_19 : decode cX12_look 19 = .ok (.iload_n 2, 1) := dc_28 (sg_at zd_dX12_look_0 11 rfl rfl)
theorem dX12_look_20 : decode cX12_look 20 = .ok (.tableswitch 96 0 5 #[40, 47, 54, 61, 68, 75], 40) := by decide +kernel
theorem zd_dX12_look_60 : sg (cX12_look.data.toList.drop 60) [[42], [180, 0, 88], [27], [46], [172], [42], [180, 0, 91], [27], [46], [172], [42], [180, 0, 94], [27], [46], [172], [42], [180, 0, 97], [27], [46], [172]] = true := by decide +kernel
theorem dX12_look_60 : decode cX12_look 60 = .ok (.aload_n 0, 1) := dc_42 (sg_at zd_dX12_look_60 0 rfl rfl)
theorem dX12_look_61 : decode cX12_look 61 = .ok (.getfield 88, 3) := dc_180 (sg_at zd_dX12_look_60 1 rfl rfl) rfl
theorem dX12_look_64 : decode cX12_look 64 = .ok (.iload_n 1, 1) := dc_27 (sg_at zd_dX12_look_60 2 rfl rfl)
theorem dX12_look_65 : decode cX12_look 65 = .ok (.iaload, 1) := dc_46 (sg_at zd_dX12_look_60 3 rfl rfl)
theorem dX12_look_66 : decode cX12_look 66 = .ok (.ireturn, 1) := dc_172 (sg_at zd_dX12_look_60 4 rfl rfl)
theorem dX12_look_67 : decode cX12_look 67 = .ok (.aload_n 0, 1) := dc_42 (sg_at zd_dX12_look_60 5 rfl rfl)
theorem dX12_look_68 : decode cX12_look 68 = .ok (.getfield 91, 3) := dc_180 (sg_at zd_dX12_look_60 6 rfl rfl) rfl
theorem dX12_look_71 : decode cX12_look 71 = .ok (.iload_n 1, 1) := dc_27 (sg_at zd_dX12_look_60 7 rfl rfl)
theorem dX12_look_72 : decode cX12_look 72 = .ok (.iaload, 1) := dc_46 (sg_at zd_dX12_look_60 8 rfl rfl)
theorem dX12_look_73 : decode cX12_look 73 = .ok (.ireturn, 1) := dc_172 (sg_at zd_dX12_look_60 9 rfl rfl)
theorem dX12_look_74 : decode cX12_look 74 = .ok (.aload_n 0, 1) := dc_42 (sg_at zd_dX12_look_60 10 rfl rfl)
theorem dX12_look_75 : decode cX12_look 75 = .ok (.getfield 94, 3) := dc_180 (sg_at zd_dX12_look_60 11 rfl rfl) rfl
theorem dX12_look_78 : decode cX12_look 78 = .ok (.iload_n 1, 1) := dc_27 (sg_at zd_dX12_look_60 12 rfl rfl)
theorem dX12_look_79 : decode cX12_look 79 = .ok (.iaload, 1) := dc_46 (sg_at zd_dX12_look_60 13 rfl rfl)
theorem dX12_look_80 : decode cX12_look 80 = .ok (.ireturn, 1) := dc_172 (sg_at zd_dX12_look_60 14 rfl rfl)
theorem dX12_look_81 : decode cX12_look 81 = .ok (.aload_n 0, 1) := dc_42 (sg_at zd_dX12_look_60 15 rfl rfl)
theorem dX12_look_82 : decode cX12_look 82 = .ok (.getfield 97, 3) := dc_180 (sg_at zd_dX12_look_60 16 rfl rfl) rfl
theorem dX12_look_85 : decode cX12_look 85 = .ok (.iload_n 1, 1) := dc_27 (sg_at zd_dX12_look_60 17 rfl rfl)
theorem dX12_look_86 : decode cX12_look 86 = .ok (.iaload, 1) := dc_46 (sg_at zd_dX12_look_60 18 rfl rfl)
theorem dX12_look_87 : decode cX12_look 87 = .ok (.ireturn, 1) := dc_172 (sg_at zd_dX12_look_60 19 rfl rfl)
theorem zd_dX12_look_88 : sg (cX12_look.data.toList.drop 88) [[42], [180, 0, 100], [27], [46], [172], [42], [42], [180, 0, 88], [27], [46], [42], [42], [180, 0, 106], [3], [46], [182, 1, 144], [182, 1, 147], [172], [42], [5]] = true := by decide +kernel
theorem dX12_look_88 : decode cX12_look 88 = .ok (.aload_n 0, 1) := dc_42 (sg_at zd_dX12_look_88 0 rfl rfl)
theorem dX12_look_89 : decode cX12_look 89 = .ok (.getfield 100, 3) := dc_180 (sg_at zd_dX12_look_88 1 rfl rfl) rfl
theorem dX12_look_92 : decode cX12_look 92 = .ok (.iload_n 1, 1) := dc_27 (sg_at zd_dX12_look_88 2 rfl rfl)
theorem dX12_look_93 : decode cX12_look 93 = .ok (.iaload, 1) := dc_46 (sg_at zd_dX12_look_88 3 rfl rfl)
theorem dX12_look_94 : decode cX12_look 94 = .ok (.ireturn, 1) := dc_172 (sg_at zd_dX12_look_88 4 rfl rfl)
theorem dX12_look_95 : decode cX12_look 95 = .ok (.aload_n 0, 1) := dc_42 (sg_at zd_dX12_look_88 5 rfl rfl)
theorem dX12_look_96 : decode cX12_look 96 = .ok (.aload_n 0, 1) := dc_42 (sg_at zd_dX12_look_88 6 rfl rfl)
theorem dX12_look_97 : decode cX12_look 97 = .ok (.getfield 88, 3) := dc_180 (sg_at zd_dX12_look_88 7 rfl rfl) rfl
theorem dX12_look_100 : decode cX12_look 100 = .ok (.iload_n 1, 1) := dc_27 (sg_at zd_dX12_look_88 8 rfl rfl)
theorem dX12_look_101 : decode cX12_look 101 = .ok (.iaload, 1) := dc_46 (sg_at zd_dX12_look_88 9 rfl rfl)
theorem dX12_look_102 : decode cX12_look 102 = .ok (.aload_n 0, 1) := dc_42 (sg_at zd_dX12_look_88 10 rfl rfl)
theorem dX12_look_103 : decode cX12_look 103 = .ok (.aload_n 0, 1) := dc_42 (sg_at zd_dX12_look_88 11 rfl rfl)
theorem dX12_look_104 : decode cX12_look 104 = .ok (.getfield 106, 3) := dc_180 (sg_at zd_dX12_look_88 12 rfl rfl) rfl
theorem dX12_look_107 : decode cX12_look 107 = .ok (.iconst 0, 1) := dc_3 (sg_at zd_dX12_look_88 13 rfl rfl)
theorem dX12_look_108 : decode cX12_look 108 = .ok (.iaload, 1) := dc_46 (sg_at zd_dX12_look_88 14 rfl rfl)
theorem dX12_look_109 : decode cX12_look 109 = .ok (.invokevirtual 400, 3) := dc_182 (sg_at zd_dX12_look_88 15 rfl rfl) rfl
theorem dX12_look_112 : decode cX12_look 112 = .ok (.invokevirtual 403, 3) := dc_182 (sg_at zd_dX12_look_88 16 rfl rfl) rfl
theorem dX12_look_115 : decode cX12_look 115 = .ok (.ireturn, 1) := dc_172 (sg_at zd_dX12_look_88 17 rfl rfl)
theorem dX12_look_116 : decode cX12_look 116 = .ok (.aload_n 0, 1) := dc_42 (sg_at zd_dX12_look_88 18 rfl rfl)
theorem dX12_look_117 : decode cX12_look 117 = .ok (.iconst 2, 1) := dc_5 (sg_at zd_dX12_look_88 19 rfl rfl)
theorem zd_dX12_look_118 : sg (cX12_look.data.toList.drop 118) [[182, 1, 160], [172]] = true := by decide +kernel
theorem dX12_look_118 : decode cX12_look 118 = .ok (.invokevirtual 416, 3) := dc_182 (sg_at zd_dX12_look_118 0 rfl rfl) rfl
theorem dX12_look_121 : decode cX12_look 121 = .ok (.ireturn, 1) := dc_172 (sg_at zd_dX12_look_118 1 rfl rfl)
theorem zd_dX12_minutes_0 : sg (cX12_minutes.data.toList.drop 0) [[42], [3], [181, 0, 154], [27], [3], [16, 99], [184, 0, 199], [153, 0, 17], [42], [180, 0, 106], [3], [46], [27], [96], [17, 0, 199], [164, 0, 5], [2], [172], [3], [61]] = true := by decide +kernel
theorem dX12_minutes_0 : decode cX12_minutes 0 = .ok (.aload_n 0, 1) := dc_42 (sg_at zd_dX12_minutes_0 0 rfl rfl)
theorem dX12_minutes_1 : decode cX12_minutes 1 = .ok (.iconst 0, 1) := dc_3 (sg_at zd_dX12_minutes_0 1 rfl rfl)
theorem dX12_minutes_2 : decode cX12_minutes 2 = .ok (.putfield 154, 3) := dc_181 (sg_at zd_dX12_minutes_0 2 rfl rfl) rfl
theorem dX12_minutes_5 : decode cX12_minutes 5 = .ok (.iload_n 1, 1) := dc_27 (sg_at zd_dX12_minutes_0 3 rfl rfl)
theorem dX12_minutes_6 : decode cX12_minutes 6 = .ok (.iconst 0, 1) := dc_3 (sg_at zd_dX12_minutes_0 4 rfl rfl)
theorem dX12_minutes_7 : decode cX12_minutes 7 = .ok (.bipush 99, 2) := dc_16 (sg_at zd_dX12_minutes_0 5 rfl rfl) rfl
theorem dX12_minutes_9 : decode cX12_minutes 9 = .ok (.invokestatic 199, 3) := dc_184 (sg_at zd_dX12_minutes_0 6 rfl rfl) rfl
theorem dX12_minutes_12 : decode cX12_minutes 12 = .ok (.ifCond .eq 17, 3) := dc_153 (sg_at zd_dX12_minutes_0 7 rfl rfl) rfl
theorem dX12_minutes_15 : decode cX12_minutes 15 = .ok (.aload_n 0, 1) := dc_42 (sg_at zd_dX12_minutes_0 8 rfl rfl)
theorem dX12_minutes_16 : decode cX12_minutes 16 = .ok (.getfield 106, 3) := dc_180 (sg_at zd_dX12_minutes_0 9 rfl rfl) rfl
theorem dX12_minutes_19 : decode cX12_minutes 19 = .ok (.iconst 0, 1) := dc_3 (sg_at zd_dX12_minutes_0 10 rfl rfl)
theorem dX12_minutes_20 : decode cX12_minutes 20 = .ok (.iaload, 1) := dc_46 (sg_at zd_dX12_minutes_0 11 rfl rfl)
theorem dX12_minutes_21 : decode cX12_minutes 21 = .ok (.iload_n 1, 1) := dc_27 (sg_at zd_dX12_minutes_0 12 rfl rfl)
theorem dX12_minutes_22 : decode cX12_minutes 22 = .ok (.iadd, 1) := dc_96 (sg_at zd_dX12_minutes_0 13 rfl rfl)
theorem dX12_minutes_23 : decode cX12_minutes 23 = .ok (.sipush 199, 3) := dc_17 (sg_at zd_dX12_minutes_0 14 rfl rfl) rfl
theorem dX12_minutes_26 : decode cX12_minutes 26 = .ok (.if_icmp .le 5, 3) := dc_164 (sg_at zd_dX12_minutes_0 15 rfl rfl) rfl
theorem dX12_minutes_29 : decode cX12_minutes 29 = .ok (.iconst (-1), 1) := dc_2 (sg_at zd_dX12_minutes_0 16 rfl rfl)
theorem dX12_minutes_30 : decode cX12_minutes 30 = .ok (.ireturn, 1) := dc_172 (sg_at zd_dX12_minutes_0 17 rfl rfl)
theorem dX12_minutes_31 : decode cX12_minutes 31 = .ok (.iconst 0, 1) := dc_3 (sg_at zd_dX12_minutes_0 18 rfl rfl)
theorem dX12_minutes_32 : decode cX12_minutes 32 = .ok (.istore_n 2, 1) := dc_61 (sg_at zd_dX12_minutes_0 19 rfl rfl)
theorem zd_dX12_minutes_33 : sg (cX12_minutes.data.toList.drop 33) [[28], [27], [162, 0, 46], [42], [3], [42], [180, 1, 113], [182, 1, 216], [3], [62], [29], [42], [180, 0, 247], [162, 0, 21], [42], [180, 0, 100], [29], [42], [180, 0, 36], [29]] = true := by decide +kernel
theorem dX12_minutes_33 : decode cX12_minutes 33 = .ok (.iload_n 2, 1) := dc_28 (sg_at zd_dX12_minutes_33 0 rfl rfl)
theorem dX12_minutes_34 : decode cX12_minutes 34 = .ok (.iload_n 1, 1) := dc_27 (sg_at zd_dX12_minutes_33 1 rfl rfl)
theorem dX12_minutes_35 : decode cX12_minutes 35 = .ok (.if_icmp .ge 46, 3) := dc_162 (sg_at zd_dX12_minutes_33 2 rfl rfl) rfl
theorem dX12_minutes_38 : decode cX12_minutes 38 = .ok (.aload_n 0, 1) := dc_42 (sg_at zd_dX12_minutes_33 3 rfl rfl)
theorem dX12_minutes_39 : decode cX12_minutes 39 = .ok (.iconst 0, 1) := dc_3 (sg_at zd_dX12_minutes_33 4 rfl rfl)
theorem dX12_minutes_40 : decode cX12_minutes 40 = .ok (.aload_n 0, 1) := dc_42 (sg_at zd_dX12_minutes_33 5 rfl rfl)
theorem dX12_minutes_41 : decode cX12_minutes 41 = .ok (.getfield 369, 3) := dc_180 (sg_at zd_dX12_minutes_33 6 rfl rfl) rfl
theorem dX12_minutes_44 : decode cX12_minutes 44 = .ok (.invokevirtual 472, 3) := dc_182 (sg_at zd_dX12_minutes_33 7 rfl rfl) rfl
theorem dX12_minutes_47 : decode cX12_minutes 47 = .ok (.iconst 0, 1) := dc_3 (sg_at zd_dX12_minutes_33 8 rfl rfl)
theorem dX12_minutes_48 : decode cX12_minutes 48 = .ok (.istore_n 3, 1) := dc_62 (sg_at zd_dX12_minutes_33 9 rfl rfl)
theorem dX12_minutes_49 : decode cX12_minutes 49 = .ok (.iload_n 3, 1) := dc_29 (sg_at zd_dX12_minutes_33 10 rfl rfl)
theorem dX12_minutes_50 : decode cX12_minutes 50 = .ok (.aload_n 0, 1) := dc_42 (sg_at zd_dX12_minutes_33 11 rfl rfl)
theorem dX12_minutes_51 : decode cX12_minutes 51 = .ok (.getfield 247, 3) := dc_180 (sg_at zd_dX12_minutes_33 12 rfl rfl) rfl
theorem dX12_minutes_54 : decode cX12_minutes 54 = .ok (.if_icmp .ge 21, 3) := dc_162 (sg_at zd_dX12_minutes_33 13 rfl rfl) rfl
theorem dX12_minutes_57 : decode cX12_minutes 57 = .ok (.aload_n 0, 1) := dc_42 (sg_at zd_dX12_minutes_33 14 rfl rfl)
theorem dX12_minutes_58 : decode cX12_minutes 58 = .ok (.getfield 100, 3) := dc_180 (sg_at zd_dX12_minutes_33 15 rfl rfl) rfl
theorem dX12_minutes_61 : decode cX12_minutes 61 = .ok (.iload_n 3, 1) := dc_29 (sg_at zd_dX12_minutes_33 16 rfl rfl)
theorem dX12_minutes_62 : decode cX12_minutes 62 = .ok (.aload_n 0, 1) := dc_42 (sg_at zd_dX12_minutes_33 17 rfl rfl)
theorem dX12_minutes_63 : decode cX12_minutes 63 = .ok (.getfield 36, 3) := dc_180 (sg_at zd_dX12_minutes_33 18 rfl rfl) rfl
theorem dX12_minutes_66 : decode cX12_minutes 66 = .ok (.iload_n 3, 1) := dc_29 (sg_at zd_dX12_minutes_33 19 rfl rfl)
theorem zd_dX12_minutes_67 : sg (cX12_minutes.data.toList.drop 67) [[46], [79], [132, 3, 1], [167, 255, 233], [132, 2, 1], [167, 255, 211], [42], [27], [158, 0, 7], [3], [167, 0, 7], [42], [180, 1, 123], [181, 1, 123], [42], [180, 0, 106], [3], [46], [172]] = true := by decide +kernel
theorem dX12_minutes_67 : decode cX12_minutes 67 = .ok (.iaload, 1) := dc_46 (sg_at zd_dX12_minutes_67 0 rfl rfl)
theorem dX12_minutes_68 : decode cX12_minutes 68 = .ok (.iastore, 1) := dc_79 (sg_at zd_dX12_minutes_67 1 rfl rfl)
theorem dX12_minutes_69 : decode cX12_minutes 69 = .ok (.iinc 3 1, 3) := dc_132 (sg_at zd_dX12_minutes_67 2 rfl rfl) rfl
theorem dX12_minutes_72 : decode cX12_minutes 72 = .ok (.goto (-23), 3) := dc_167 (sg_at zd_dX12_minutes_67 3 rfl rfl) rfl
theorem dX12_minutes_75 : decode cX12_minutes 75 = .ok (.iinc 2 1, 3) := dc_132 (sg_at zd_dX12_minutes_67 4 rfl rfl) rfl
theorem dX12_minutes_78 : decode cX12_minutes 78 = .ok (.goto (-45), 3) := dc_167 (sg_at zd_dX12_minutes_67 5 rfl rfl) rfl
theorem dX12_minutes_81 : decode cX12_minutes 81 = .ok (.aload_n 0, 1) := dc_42 (sg_at zd_dX12_minutes_67 6 rfl rfl)
theorem dX12_minutes_82 : decode cX12_minutes 82 = .ok (.iload_n 1, 1) := dc_27 (sg_at zd_dX12_minutes_67 7 rfl rfl)
theorem dX12_minutes_83 : decode cX12_minutes 83 = .ok (.ifCond .le 7, 3) := dc_158 (sg_at zd_dX12_minutes_67 8 rfl rfl) rfl
theorem dX12_minutes_86 : decode cX12_minutes 86 = .ok (.iconst 0, 1) := dc_3 (sg_at zd_dX12_minutes_67 9 rfl rfl)
theorem dX12_minutes_87 : decode cX12_minutes 87 = .ok (.goto 7, 3) := dc_167 (sg_at zd_dX12_minutes_67 10 rfl rfl) rfl
theorem dX12_minutes_90 : decode cX12_minutes 90 = .ok (.aload_n 0, 1) := dc_42 (sg_at zd_dX12_minutes_67 11 rfl rfl)
theorem dX12_minutes_91 : decode cX12_minutes 91 = .ok (.getfield 379, 3) := dc_180 (sg_at zd_dX12_minutes_67 12 rfl rfl) rfl
theorem dX12_minutes_94 : decode cX12_minutes 94 = .ok (.putfield 379, 3) := dc_181 (sg_at zd_dX12_minutes_67 13 rfl rfl) rfl
theorem dX12_minutes_97 : decode cX12_minutes 97 = .ok (.aload_n 0, 1) := dc_42 (sg_at zd_dX12_minutes_67 14 rfl rfl)
theorem dX12_minutes_98 : decode cX12_minutes 98 = .ok (.getfield 106, 3) := dc_180 (sg_at zd_dX12_minutes_67 15 rfl rfl) rfl
theorem dX12_minutes_101 : decode cX12_minutes 101 = .ok (.iconst 0, 1) := dc_3 (sg_at zd_dX12_minutes_67 16 rfl rfl)
theorem dX12_minutes_102 : decode cX12_minutes 102 = .ok (.iaload, 1) := dc_46 (sg_at zd_dX12_minutes_67 17 rfl rfl)
theorem dX12_minutes_103 : decode cX12_minutes 103 = .ok (.ireturn, 1) := dc_172 (sg_at zd_dX12_minutes_67 18 rfl rfl)
theorem zd_dX12_named_0 : sg (cX12_named.data.toList.drop 0) [[42], [3], [181, 0, 154], [42], [180, 0, 27], [3], [42], [180, 0, 247], [27], [184, 1, 13], [172]] = true := by decide +kernel
theorem dX12_named_0 : decode cX12_named 0 = .ok (.aload_n 0, 1) := dc_42 (sg_at zd_dX12_named_0 0 rfl rfl)
theorem dX12_named_1 : decode cX12_named 1 = .ok (.iconst 0, 1) := dc_3 (sg_at zd_dX12_named_0 1 rfl rfl)
theorem dX12_named_2 : decode cX12_named 2 = .ok (.putfield 154, 3) := dc_181 (sg_at zd_dX12_named_0 2 rfl rfl) rfl
theorem dX12_named_5 : decode cX12_named 5 = .ok (.aload_n 0, 1) := dc_42 (sg_at zd_dX12_named_0 3 rfl rfl)
theorem dX12_named_6 : decode cX12_named 6 = .ok (.getfield 27, 3) := dc_180 (sg_at zd_dX12_named_0 4 rfl rfl) rfl
theorem dX12_named_9 : decode cX12_named 9 = .ok (.iconst 0, 1) := dc_3 (sg_at zd_dX12_named_0 5 rfl rfl)
theorem dX12_named_10 : decode cX12_named 10 = .ok (.aload_n 0, 1) := dc_42 (sg_at zd_dX12_named_0 6 rfl rfl)
theorem dX12_named_11 : decode cX12_named 11 = .ok (.getfield 247, 3) := dc_180 (sg_at zd_dX12_named_0 7 rfl rfl) rfl
theorem dX12_named_14 : decode cX12_named 14 = .ok (.iload_n 1, 1) := dc_27 (sg_at zd_dX12_named_0 8 rfl rfl)
theorem dX12_named_15 : decode cX12_named 15 = .ok (.invokestatic 269, 3) := dc_184 (sg_at zd_dX12_named_0 9 rfl rfl) rfl
theorem dX12_named_18 : decode cX12_named 18 = .ok (.ireturn, 1) := dc_172 (sg_at zd_dX12_named_0 10 rfl rfl)
theorem zd_dX12_next_0 : sg (cX12_next.data.toList.drop 0) [[42], [3], [181, 0, 154], [3], [60], [27], [42], [180, 0, 250], [162, 0, 48], [42], [180, 0, 48], [42], [180, 0, 45], [27], [46], [46], [42], [180, 0, 106], [3], [46]] = true := by decide +kernel
theorem dX12_next_0 : decode cX12_next 0 = .ok (.aload_n 0, 1) := dc_42 (sg_at zd_dX12_next_0 0 rfl rfl)
theorem dX12_next_1 : decode cX12_next 1 = .ok (.iconst 0, 1) := dc_3 (sg_at zd_dX12_next_0 1 rfl rfl)
theorem dX12_next_2 : decode cX12_next 2 = .ok (.putfield 154, 3) := dc_181 (sg_at zd_dX12_next_0 2 rfl rfl) rfl
theorem dX12_next_5 : decode cX12_next 5 = .ok (.iconst 0, 1) := dc_3 (sg_at zd_dX12_next_0 3 rfl rfl)
theorem dX12_next_6 : decode cX12_next 6 = .ok (.istore_n 1, 1) := dc_60 (sg_at zd_dX12_next_0 4 rfl rfl)
theorem dX12_next_7 : decode cX12_next 7 = .ok (.iload_n 1, 1) := dc_27 (sg_at zd_dX12_next_0 5 rfl rfl)
theorem dX12_next_8 : decode cX12_next 8 = .ok (.aload_n 0, 1) := dc_42 (sg_at zd_dX12_next_0 6 rfl rfl)
theorem dX12_next_9 : decode cX12_next 9 = .ok (.getfield 250, 3) := dc_180 (sg_at zd_dX12_next_0 7 rfl rfl) rfl
theorem dX12_next_12 : decode cX12_next 12 = .ok (.if_icmp .ge 48, 3) := dc_162 (sg_at zd_dX12_next_0 8 rfl rfl) rfl
theorem dX12_next_15 : decode cX12_next 15 = .ok (.aload_n 0, 1) := dc_42 (sg_at zd_dX12_next_0 9 rfl rfl)
theorem dX12_next_16 : decode cX12_next 16 = .ok (.getfield 48, 3) := dc_180 (sg_at zd_dX12_next_0 10 rfl rfl) rfl
theorem dX12_next_19 : decode cX12_next 19 = .ok (.aload_n 0, 1) := dc_42 (sg_at zd_dX12_next_0 11 rfl rfl)
theorem dX12_next_20 : decode cX12_next 20 = .ok (.getfield 45, 3) := dc_180 (sg_at zd_dX12_next_0 12 rfl rfl) rfl
theorem dX12_next_23 : decode cX12_next 23 = .ok (.iload_n 1, 1) := dc_27 (sg_at zd_dX12_next_0 13 rfl rfl)
theorem dX12_next_24 : decode cX12_next 24 = .ok (.iaload, 1) := dc_46 (sg_at zd_dX12_next_0 14 rfl rfl)
theorem dX12_next_25 : decode cX12_next 25 = .ok (.iaload, 1) := dc_46 (sg_at zd_dX12_next_0 15 rfl rfl)
theorem dX12_next_26 : decode cX12_next 26 = .ok (.aload_n 0, 1) := dc_42 (sg_at zd_dX12_next_0 16 rfl rfl)
theorem dX12_next_27 : decode cX12_next 27 = .ok (.getfield 106, 3) := dc_180 (sg_at zd_dX12_next_0 17 rfl rfl) rfl
theorem dX12_next_30 : decode cX12_next 30 = .ok (.iconst 0, 1) := dc_3 (sg_at zd_dX12_next_0 18 rfl rfl)
theorem dX12_next_31 : decode cX12_next 31 = .ok (.iaload, 1) := dc_46 (sg_at zd_dX12_next_0 19 rfl rfl)
theorem zd_dX12_next_32 : sg (cX12_next.data.toList.drop 32) [[161, 0, 22], [42], [180, 0, 48], [42], [180, 0, 45], [27], [46], [46], [42], [180, 0, 106], [3], [46], [100], [172], [132, 1, 1], [167, 255, 206], [16, 254], [172]] = true := by decide +kernel
theorem dX12_next_32 : decode cX12_next 32 = .ok (.if_icmp .lt 22, 3) := dc_161 (sg_at zd_dX12_next_32 0 rfl rfl) rfl
theorem dX12_next_35 : decode cX12_next 35 = .ok (.aload_n 0, 1) := dc_42 (sg_at zd_dX12_next_32 1 rfl rfl)
theorem dX12_next_36 : decode cX12_next 36 = .ok (.getfield 48, 3) := dc_180 (sg_at zd_dX12_next_32 2 rfl rfl) rfl
theorem dX12_next_39 : decode cX12_next 39 = .ok (.aload_n 0, 1) := dc_42 (sg_at zd_dX12_next_32 3 rfl rfl)
theorem dX12_next_40 : decode cX12_next 40 = .ok (.getfield 45, 3) := dc_180 (sg_at zd_dX12_next_32 4 rfl rfl) rfl
theorem dX12_next_43 : decode cX12_next 43 = .ok (.iload_n 1, 1) := dc_27 (sg_at zd_dX12_next_32 5 rfl rfl)
theorem dX12_next_44 : decode cX12_next 44 = .ok (.iaload, 1) := dc_46 (sg_at zd_dX12_next_32 6 rfl rfl)
theorem dX12_next_45 : decode cX12_next 45 = .ok (.iaload, 1) := dc_46 (sg_at zd_dX12_next_32 7 rfl rfl)
theorem dX12_next_46 : decode cX12_next 46 = .ok (.aload_n 0, 1) := dc_42 (sg_at zd_dX12_next_32 8 rfl rfl)
theorem dX12_next_47 : decode cX12_next 47 = .ok (.getfield 106, 3) := dc_180 (sg_at zd_dX12_next_32 9 rfl rfl) rfl
theorem dX12_next_50 : decode cX12_next 50 = .ok (.iconst 0, 1) := dc_3 (sg_at zd_dX12_next_32 10 rfl rfl)
theorem dX12_next_51 : decode cX12_next 51 = .ok (.iaload, 1) := dc_46 (sg_at zd_dX12_next_32 11 rfl rfl)
theorem dX12_next_52 : decode cX12_next 52 = .ok (.isub, 1) := dc_100 (sg_at zd_dX12_next_32 12 rfl rfl)
theorem dX12_next_53 : decode cX12_next 53 = .ok (.ireturn, 1) := dc_172 (sg_at zd_dX12_next_32 13 rfl rfl)
theorem dX12_next_54 : decode cX12_next 54 = .ok (.iinc 1 1, 3) := dc_132 (sg_at zd_dX12_next_32 14 rfl rfl) rfl
theorem dX12_next_57 : decode cX12_next 57 = .ok (.goto (-50), 3) := dc_167 (sg_at zd_dX12_next_32 15 rfl rfl) rfl
theorem dX12_next_60 : decode cX12_next 60 = .ok (.bipush (-2), 2) := dc_16 (sg_at zd_dX12_next_32 16 rfl rfl) rfl
theorem dX12_next_62 : decode cX12_next 62 = .ok (.ireturn, 1) := dc_172 (sg_at zd_dX12_next_32 17 rfl rfl)
theorem zd_dX12_noted_0 : sg (cX12_noted.data.toList.drop 0) [[42], [180, 0, 136], [6], [42], [180, 1, 120], [104], [27], [79], [42], [180, 0, 136], [6], [42], [180, 1, 120], [104], [4], [96], [28], [79], [42], [180, 0, 136]] = true := by decide +kernel
theorem dX12_noted_0 : decode cX12_noted 0 = .ok (.aload_n 0, 1) := dc_42 (sg_at zd_dX12_noted_0 0 rfl rfl)
theorem dX12_noted_1 : decode cX12_noted 1 = .ok (.getfield 136, 3) := dc_180 (sg_at zd_dX12_noted_0 1 rfl rfl) rfl
theorem dX12_noted_4 : decode cX12_noted 4 = .ok (.iconst 3, 1) := dc_6 (sg_at zd_dX12_noted_0 2 rfl rfl)
theorem dX12_noted_5 : decode cX12_noted 5 = .ok (.aload_n 0, 1) := dc_42 (sg_at zd_dX12_noted_0 3 rfl rfl)
theorem dX12_noted_6 : decode cX12_noted 6 = .ok (.getfield 376, 3) := dc_180 (sg_at zd_dX12_noted_0 4 rfl rfl) rfl
theorem dX12_noted_9 : decode cX12_noted 9 = .ok (.imul, 1) := dc_104 (sg_at zd_dX12_noted_0 5 rfl rfl)
theorem dX12_noted_10 : decode cX12_noted 10 = .ok (.iload_n 1, 1) := dc_27 (sg_at zd_dX12_noted_0 6 rfl rfl)
theorem dX12_noted_11 : decode cX12_noted 11 = .ok (.iastore, 1) := dc_79 (sg_at zd_dX12_noted_0 7 rfl rfl)
theorem dX12_noted_12 : decode cX12_noted 12 = .ok (.aload_n 0, 1) := dc_42 (sg_at zd_dX12_noted_0 8 rfl rfl)
theorem dX12_noted_13 : decode cX12_noted 13 = .ok (.getfield 136, 3) := dc_180 (sg_at zd_dX12_noted_0 9 rfl rfl) rfl
theorem dX12_noted_16 : decode cX12_noted 16 = .ok (.iconst 3, 1) := dc_6 (sg_at zd_dX12_noted_0 10 rfl rfl)
theorem dX12_noted_17 : decode cX12_noted 17 = .ok (.aload_n 0, 1) := dc_42 (sg_at zd_dX12_noted_0 11 rfl rfl)
theorem dX12_noted_18 : decode cX12_noted 18 = .ok (.getfield 376, 3) := dc_180 (sg_at zd_dX12_noted_0 12 rfl rfl) rfl
theorem dX12_noted_21 : decode cX12_noted 21 = .ok (.imul, 1) := dc_104 (sg_at zd_dX12_noted_0 13 rfl rfl)
theorem dX12_noted_22 : decode cX12_noted 22 = .ok (.iconst 1, 1) := dc_4 (sg_at zd_dX12_noted_0 14 rfl rfl)
theorem dX12_noted_23 : decode cX12_noted 23 = .ok (.iadd, 1) := dc_96 (sg_at zd_dX12_noted_0 15 rfl rfl)
theorem dX12_noted_24 : decode cX12_noted 24 = .ok (.iload_n 2, 1) := dc_28 (sg_at zd_dX12_noted_0 16 rfl rfl)
theorem dX12_noted_25 : decode cX12_noted 25 = .ok (.iastore, 1) := dc_79 (sg_at zd_dX12_noted_0 17 rfl rfl)
theorem dX12_noted_26 : decode cX12_noted 26 = .ok (.aload_n 0, 1) := dc_42 (sg_at zd_dX12_noted_0 18 rfl rfl)
theorem dX12_noted_27 : decode cX12_noted 27 = .ok (.getfield 136, 3) := dc_180 (sg_at zd_dX12_noted_0 19 rfl rfl) rfl
theorem zd_dX12_noted_30 : sg (cX12_noted.data.toList.drop 30) [[6], [42], [180, 1, 120], [104], [5], [96], [29], [79], [42], [89], [180, 1, 120], [4], [96], [181, 1, 120], [42], [180, 1, 120], [4], [100], [172]] = true := by decide +kernel
theorem dX12_noted_30 : decode cX12_noted 30 = .ok (.iconst 3, 1) := dc_6 (sg_at zd_dX12_noted_30 0 rfl rfl)
theorem dX12_noted_31 : decode cX12_noted 31 = .ok (.aload_n 0, 1) := dc_42 (sg_at zd_dX12_noted_30 1 rfl rfl)
theorem dX12_noted_32 : decode cX12_noted 32 = .ok (.getfield 376, 3) := dc_180 (sg_at zd_dX12_noted_30 2 rfl rfl) rfl
theorem dX12_noted_35 : decode cX12_noted 35 = .ok (.imul, 1) := dc_104 (sg_at zd_dX12_noted_30 3 rfl rfl)
theorem dX12_noted_36 : decode cX12_noted 36 = .ok (.iconst 2, 1) := dc_5 (sg_at zd_dX12_noted_30 4 rfl rfl)
theorem dX12_noted_37 : decode cX12_noted 37 = .ok (.iadd, 1) := dc_96 (sg_at zd_dX12_noted_30 5 rfl rfl)
theorem dX12_noted_38 : decode cX12_noted 38 = .ok (.iload_n 3, 1) := dc_29 (sg_at zd_dX12_noted_30 6 rfl rfl)
theorem dX12_noted_39 : decode cX12_noted 39 = .ok (.iastore, 1) := dc_79 (sg_at zd_dX12_noted_30 7 rfl rfl)
theorem dX12_noted_40 : decode cX12_noted 40 = .ok (.aload_n 0, 1) := dc_42 (sg_at zd_dX12_noted_30 8 rfl rfl)
theorem dX12_noted_41 : decode cX12_noted 41 = .ok (.dup, 1) := dc_89 (sg_at zd_dX12_noted_30 9 rfl rfl)
theorem dX12_noted_42 : decode cX12_noted 42 = .ok (.getfield 376, 3) := dc_180 (sg_at zd_dX12_noted_30 10 rfl rfl) rfl
theorem dX12_noted_45 : decode cX12_noted 45 = .ok (.iconst 1, 1) := dc_4 (sg_at zd_dX12_noted_30 11 rfl rfl)
theorem dX12_noted_46 : decode cX12_noted 46 = .ok (.iadd, 1) := dc_96 (sg_at zd_dX12_noted_30 12 rfl rfl)
theorem dX12_noted_47 : decode cX12_noted 47 = .ok (.putfield 376, 3) := dc_181 (sg_at zd_dX12_noted_30 13 rfl rfl) rfl
theorem dX12_noted_50 : decode cX12_noted 50 = .ok (.aload_n 0, 1) := dc_42 (sg_at zd_dX12_noted_30 14 rfl rfl)
theorem dX12_noted_51 : decode cX12_noted 51 = .ok (.getfield 376, 3) := dc_180 (sg_at zd_dX12_noted_30 15 rfl rfl) rfl
theorem dX12_noted_54 : decode cX12_noted 54 = .ok (.iconst 1, 1) := dc_4 (sg_at zd_dX12_noted_30 16 rfl rfl)
theorem dX12_noted_55 : decode cX12_noted 55 = .ok (.isub, 1) := dc_100 (sg_at zd_dX12_noted_30 17 rfl rfl)
theorem dX12_noted_56 : decode cX12_noted 56 = .ok (.ireturn, 1) := dc_172 (sg_at zd_dX12_noted_30 18 rfl rfl)
theorem zd_dX12_note_0 : sg (cX12_note.data.toList.drop 0) [[42], [3], [181, 0, 154], [42], [180, 1, 120], [16, 24], [159, 0, 30], [27], [3], [17, 0, 199], [184, 0, 199], [153, 0, 19], [42], [28], [182, 1, 157], [153, 0, 11], [42], [29], [182, 1, 166], [154, 0, 7]] = true := by decide +kernel
theorem dX12_note_0 : decode cX12_note 0 = .ok (.aload_n 0, 1) := dc_42 (sg_at zd_dX12_note_0 0 rfl rfl)
theorem dX12_note_1 : decode cX12_note 1 = .ok (.iconst 0, 1) := dc_3 (sg_at zd_dX12_note_0 1 rfl rfl)
theorem dX12_note_2 : decode cX12_note 2 = .ok (.putfield 154, 3) := dc_181 (sg_at zd_dX12_note_0 2 rfl rfl) rfl
theorem dX12_note_5 : decode cX12_note 5 = .ok (.aload_n 0, 1) := dc_42 (sg_at zd_dX12_note_0 3 rfl rfl)
theorem dX12_note_6 : decode cX12_note 6 = .ok (.getfield 376, 3) := dc_180 (sg_at zd_dX12_note_0 4 rfl rfl) rfl
theorem dX12_note_9 : decode cX12_note 9 = .ok (.bipush 24, 2) := dc_16 (sg_at zd_dX12_note_0 5 rfl rfl) rfl
theorem dX12_note_11 : decode cX12_note 11 = .ok (.if_icmp .eq 30, 3) := dc_159 (sg_at zd_dX12_note_0 6 rfl rfl) rfl
theorem dX12_note_14 : decode cX12_note 14 = .ok (.iload_n 1, 1) := dc_27 (sg_at zd_dX12_note_0 7 rfl rfl)
theorem dX12_note_15 : decode cX12_note 15 = .ok (.iconst 0, 1) := dc_3 (sg_at zd_dX12_note_0 8 rfl rfl)
theorem dX12_note_16 : decode cX12_note 16 = .ok (.sipush 199, 3) := dc_17 (sg_at zd_dX12_note_0 9 rfl rfl) rfl
theorem dX12_note_19 : decode cX12_note 19 = .ok (.invokestatic 199, 3) := dc_184 (sg_at zd_dX12_note_0 10 rfl rfl) rfl
theorem dX12_note_22 : decode cX12_note 22 = .ok (.ifCond .eq 19, 3) := dc_153 (sg_at zd_dX12_note_0 11 rfl rfl) rfl
theorem dX12_note_25 : decode cX12_note 25 = .ok (.aload_n 0, 1) := dc_42 (sg_at zd_dX12_note_0 12 rfl rfl)
theorem dX12_note_26 : decode cX12_note 26 = .ok (.iload_n 2, 1) := dc_28 (sg_at zd_dX12_note_0 13 rfl rfl)
theorem dX12_note_27 : decode cX12_note 27 = .ok (.invokevirtual 413, 3) := dc_182 (sg_at zd_dX12_note_0 14 rfl rfl) rfl
theorem dX12_note_30 : decode cX12_note 30 = .ok (.ifCond .eq 11, 3) := dc_153 (sg_at zd_dX12_note_0 15 rfl rfl) rfl
theorem dX12_note_33 : decode cX12_note 33 = .ok (.aload_n 0, 1) := dc_42 (sg_at zd_dX12_note_0 16 rfl rfl)
theorem dX12_note_34 : decode cX12_note 34 = .ok (.iload_n 3, 1) := dc_29 (sg_at zd_dX12_note_0 17 rfl rfl)
theorem dX12_note_35 : decode cX12_note 35 = .ok (.invokevirtual 422, 3) := dc_182 (sg_at zd_dX12_note_0 18 rfl rfl) rfl
theorem dX12_note_38 : decode cX12_note 38 = .ok (.ifCond .ne 7, 3) := dc_154 (sg_at zd_dX12_note_0 19 rfl rfl) rfl
theorem zd_dX12_note_41 : sg (cX12_note.data.toList.drop 41) [[2], [167, 0, 10], [42], [27], [28], [29], [182, 2, 12], [172]] = true := by decide +kernel
theorem dX12_note_41 : decode cX12_note 41 = .ok (.iconst (-1), 1) := dc_2 (sg_at zd_dX12_note_41 0 rfl rfl)
theorem dX12_note_42 : decode cX12_note 42 = .ok (.goto 10, 3) := dc_167 (sg_at zd_dX12_note_41 1 rfl rfl) rfl
theorem dX12_note_45 : decode cX12_note 45 = .ok (.aload_n 0, 1) := dc_42 (sg_at zd_dX12_note_41 2 rfl rfl)
theorem dX12_note_46 : decode cX12_note 46 = .ok (.iload_n 1, 1) := dc_27 (sg_at zd_dX12_note_41 3 rfl rfl)
theorem dX12_note_47 : decode cX12_note 47 = .ok (.iload_n 2, 1) := dc_28 (sg_at zd_dX12_note_41 4 rfl rfl)
theorem dX12_note_48 : decode cX12_note 48 = .ok (.iload_n 3, 1) := dc_29 (sg_at zd_dX12_note_41 5 rfl rfl)
theorem dX12_note_49 : decode cX12_note 49 = .ok (.invokevirtual 524, 3) := dc_182 (sg_at zd_dX12_note_41 6 rfl rfl) rfl
theorem dX12_note_52 : decode cX12_note 52 = .ok (.ireturn, 1) := dc_172 (sg_at zd_dX12_note_41 7 rfl rfl)
theorem zd_dX12_odds_0 : sg (cX12_odds.data.toList.drop 0) [[42], [3], [181, 0, 154], [42], [27], [182, 1, 157], [153, 0, 29], [42], [28], [182, 1, 163], [153, 0, 21], [42], [29], [182, 1, 166], [153, 0, 13], [42], [27], [28], [29], [182, 1, 169]] = true := by decide +kernel
theorem dX12_odds_0 : decode cX12_odds 0 = .ok (.aload_n 0, 1) := dc_42 (sg_at zd_dX12_odds_0 0 rfl rfl)
theorem dX12_odds_1 : decode cX12_odds 1 = .ok (.iconst 0, 1) := dc_3 (sg_at zd_dX12_odds_0 1 rfl rfl)
theorem dX12_odds_2 : decode cX12_odds 2 = .ok (.putfield 154, 3) := dc_181 (sg_at zd_dX12_odds_0 2 rfl rfl) rfl
theorem dX12_odds_5 : decode cX12_odds 5 = .ok (.aload_n 0, 1) := dc_42 (sg_at zd_dX12_odds_0 3 rfl rfl)
theorem dX12_odds_6 : decode cX12_odds 6 = .ok (.iload_n 1, 1) := dc_27 (sg_at zd_dX12_odds_0 4 rfl rfl)
theorem dX12_odds_7 : decode cX12_odds 7 = .ok (.invokevirtual 413, 3) := dc_182 (sg_at zd_dX12_odds_0 5 rfl rfl) rfl
theorem dX12_odds_10 : decode cX12_odds 10 = .ok (.ifCond .eq 29, 3) := dc_153 (sg_at zd_dX12_odds_0 6 rfl rfl) rfl
theorem dX12_odds_13 : decode cX12_odds 13 = .ok (.aload_n 0, 1) := dc_42 (sg_at zd_dX12_odds_0 7 rfl rfl)
theorem dX12_odds_14 : decode cX12_odds 14 = .ok (.iload_n 2, 1) := dc_28 (sg_at zd_dX12_odds_0 8 rfl rfl)
theorem dX12_odds_15 : decode cX12_odds 15 = .ok (.invokevirtual 419, 3) := dc_182 (sg_at zd_dX12_odds_0 9 rfl rfl) rfl
theorem dX12_odds_18 : decode cX12_odds 18 = .ok (.ifCond .eq 21, 3) := dc_153 (sg_at zd_dX12_odds_0 10 rfl rfl) rfl
theorem dX12_odds_21 : decode cX12_odds 21 = .ok (.aload_n 0, 1) := dc_42 (sg_at zd_dX12_odds_0 11 rfl rfl)
theorem dX12_odds_22 : decode cX12_odds 22 = .ok (.iload_n 3, 1) := dc_29 (sg_at zd_dX12_odds_0 12 rfl rfl)
theorem dX12_odds_23 : decode cX12_odds 23 = .ok (.invokevirtual 422, 3) := dc_182 (sg_at zd_dX12_odds_0 13 rfl rfl) rfl
theorem dX12_odds_26 : decode cX12_odds 26 = .ok (.ifCond .eq 13, 3) := dc_153 (sg_at zd_dX12_odds_0 14 rfl rfl) rfl
theorem dX12_odds_29 : decode cX12_odds 29 = .ok (.aload_n 0, 1) := dc_42 (sg_at zd_dX12_odds_0 15 rfl rfl)
theorem dX12_odds_30 : decode cX12_odds 30 = .ok (.iload_n 1, 1) := dc_27 (sg_at zd_dX12_odds_0 16 rfl rfl)
theorem dX12_odds_31 : decode cX12_odds 31 = .ok (.iload_n 2, 1) := dc_28 (sg_at zd_dX12_odds_0 17 rfl rfl)
theorem dX12_odds_32 : decode cX12_odds 32 = .ok (.iload_n 3, 1) := dc_29 (sg_at zd_dX12_odds_0 18 rfl rfl)
theorem dX12_odds_33 : decode cX12_odds 33 = .ok (.invokevirtual 425, 3) := dc_182 (sg_at zd_dX12_odds_0 19 rfl rfl) rfl
theorem zd_dX12_odds_36 : sg (cX12_odds.data.toList.drop 36) [[167, 0, 4], [2], [172]] = true := by decide +kernel
theorem dX12_odds_36 : decode cX12_odds 36 = .ok (.goto 4, 3) := dc_167 (sg_at zd_dX12_odds_36 0 rfl rfl) rfl
theorem dX12_odds_39 : decode cX12_odds 39 = .ok (.iconst (-1), 1) := dc_2 (sg_at zd_dX12_odds_36 1 rfl rfl)
theorem dX12_odds_40 : decode cX12_odds 40 = .ok (.ireturn, 1) := dc_172 (sg_at zd_dX12_odds_36 2 rfl rfl)
theorem zd_dX12_order_0 : sg (cX12_order.data.toList.drop 0) [[42], [3], [181, 0, 154], [42], [27], [182, 1, 220], [153, 0, 7], [28], [156, 0, 5], [2], [172], [42], [3], [27], [42], [180, 1, 113], [182, 1, 197], [28], [42], [180, 1, 177]] = true := by decide +kernel
theorem dX12_order_0 : decode cX12_order 0 = .ok (.aload_n 0, 1) := dc_42 (sg_at zd_dX12_order_0 0 rfl rfl)
theorem dX12_order_1 : decode cX12_order 1 = .ok (.iconst 0, 1) := dc_3 (sg_at zd_dX12_order_0 1 rfl rfl)
theorem dX12_order_2 : decode cX12_order 2 = .ok (.putfield 154, 3) := dc_181 (sg_at zd_dX12_order_0 2 rfl rfl) rfl
theorem dX12_order_5 : decode cX12_order 5 = .ok (.aload_n 0, 1) := dc_42 (sg_at zd_dX12_order_0 3 rfl rfl)
theorem dX12_order_6 : decode cX12_order 6 = .ok (.iload_n 1, 1) := dc_27 (sg_at zd_dX12_order_0 4 rfl rfl)
theorem dX12_order_7 : decode cX12_order 7 = .ok (.invokevirtual 476, 3) := dc_182 (sg_at zd_dX12_order_0 5 rfl rfl) rfl
theorem dX12_order_10 : decode cX12_order 10 = .ok (.ifCond .eq 7, 3) := dc_153 (sg_at zd_dX12_order_0 6 rfl rfl) rfl
theorem dX12_order_13 : decode cX12_order 13 = .ok (.iload_n 2, 1) := dc_28 (sg_at zd_dX12_order_0 7 rfl rfl)
theorem dX12_order_14 : decode cX12_order 14 = .ok (.ifCond .ge 5, 3) := dc_156 (sg_at zd_dX12_order_0 8 rfl rfl) rfl
theorem dX12_order_17 : decode cX12_order 17 = .ok (.iconst (-1), 1) := dc_2 (sg_at zd_dX12_order_0 9 rfl rfl)
theorem dX12_order_18 : decode cX12_order 18 = .ok (.ireturn, 1) := dc_172 (sg_at zd_dX12_order_0 10 rfl rfl)
theorem dX12_order_19 : decode cX12_order 19 = .ok (.aload_n 0, 1) := dc_42 (sg_at zd_dX12_order_0 11 rfl rfl)
theorem dX12_order_20 : decode cX12_order 20 = .ok (.iconst 0, 1) := dc_3 (sg_at zd_dX12_order_0 12 rfl rfl)
theorem dX12_order_21 : decode cX12_order 21 = .ok (.iload_n 1, 1) := dc_27 (sg_at zd_dX12_order_0 13 rfl rfl)
theorem dX12_order_22 : decode cX12_order 22 = .ok (.aload_n 0, 1) := dc_42 (sg_at zd_dX12_order_0 14 rfl rfl)
theorem dX12_order_23 : decode cX12_order 23 = .ok (.getfield 369, 3) := dc_180 (sg_at zd_dX12_order_0 15 rfl rfl) rfl
theorem dX12_order_26 : decode cX12_order 26 = .ok (.invokevirtual 453, 3) := dc_182 (sg_at zd_dX12_order_0 16 rfl rfl) rfl
theorem dX12_order_29 : decode cX12_order 29 = .ok (.iload_n 2, 1) := dc_28 (sg_at zd_dX12_order_0 17 rfl rfl)
theorem dX12_order_30 : decode cX12_order 30 = .ok (.aload_n 0, 1) := dc_42 (sg_at zd_dX12_order_0 18 rfl rfl)
theorem dX12_order_31 : decode cX12_order 31 = .ok (.getfield 433, 3) := dc_180 (sg_at zd_dX12_order_0 19 rfl rfl) rfl
theorem zd_dX12_order_34 : sg (cX12_order.data.toList.drop 34) [[161, 0, 8], [16, 254], [167, 0, 9], [42], [180, 0, 118], [28], [46], [172]] = true := by decide +kernel
theorem dX12_order_34 : decode cX12_order 34 = .ok (.if_icmp .lt 8, 3) := dc_161 (sg_at zd_dX12_order_34 0 rfl rfl) rfl
theorem dX12_order_37 : decode cX12_order 37 = .ok (.bipush (-2), 2) := dc_16 (sg_at zd_dX12_order_34 1 rfl rfl) rfl
theorem dX12_order_39 : decode cX12_order 39 = .ok (.goto 9, 3) := dc_167 (sg_at zd_dX12_order_34 2 rfl rfl) rfl
theorem dX12_order_42 : decode cX12_order 42 = .ok (.aload_n 0, 1) := dc_42 (sg_at zd_dX12_order_34 3 rfl rfl)
theorem dX12_order_43 : decode cX12_order 43 = .ok (.getfield 118, 3) := dc_180 (sg_at zd_dX12_order_34 4 rfl rfl) rfl
theorem dX12_order_46 : decode cX12_order 46 = .ok (.iload_n 2, 1) := dc_28 (sg_at zd_dX12_order_34 5 rfl rfl)
theorem dX12_order_47 : decode cX12_order 47 = .ok (.iaload, 1) := dc_46 (sg_at zd_dX12_order_34 6 rfl rfl)
theorem dX12_order_48 : decode cX12_order 48 = .ok (.ireturn, 1) := dc_172 (sg_at zd_dX12_order_34 7 rfl rfl)
theorem zd_dX12_over_0 : sg (cX12_over.data.toList.drop 0) [[42], [3], [181, 0, 154], [42], [27], [182, 1, 157], [153, 0, 19], [42], [180, 0, 24], [5], [46], [153, 0, 10], [42], [180, 0, 253], [154, 0, 5], [2], [172], [42], [180, 0, 48], [42]] = true := by decide +kernel
theorem dX12_over_0 : decode cX12_over 0 = .ok (.aload_n 0, 1) := dc_42 (sg_at zd_dX12_over_0 0 rfl rfl)
theorem dX12_over_1 : decode cX12_over 1 = .ok (.iconst 0, 1) := dc_3 (sg_at zd_dX12_over_0 1 rfl rfl)
theorem dX12_over_2 : decode cX12_over 2 = .ok (.putfield 154, 3) := dc_181 (sg_at zd_dX12_over_0 2 rfl rfl) rfl
theorem dX12_over_5 : decode cX12_over 5 = .ok (.aload_n 0, 1) := dc_42 (sg_at zd_dX12_over_0 3 rfl rfl)
theorem dX12_over_6 : decode cX12_over 6 = .ok (.iload_n 1, 1) := dc_27 (sg_at zd_dX12_over_0 4 rfl rfl)
theorem dX12_over_7 : decode cX12_over 7 = .ok (.invokevirtual 413, 3) := dc_182 (sg_at zd_dX12_over_0 5 rfl rfl) rfl
theorem dX12_over_10 : decode cX12_over 10 = .ok (.ifCond .eq 19, 3) := dc_153 (sg_at zd_dX12_over_0 6 rfl rfl) rfl
theorem dX12_over_13 : decode cX12_over 13 = .ok (.aload_n 0, 1) := dc_42 (sg_at zd_dX12_over_0 7 rfl rfl)
theorem dX12_over_14 : decode cX12_over 14 = .ok (.getfield 24, 3) := dc_180 (sg_at zd_dX12_over_0 8 rfl rfl) rfl
theorem dX12_over_17 : decode cX12_over 17 = .ok (.iconst 2, 1) := dc_5 (sg_at zd_dX12_over_0 9 rfl rfl)
theorem dX12_over_18 : decode cX12_over 18 = .ok (.iaload, 1) := dc_46 (sg_at zd_dX12_over_0 10 rfl rfl)
theorem dX12_over_19 : decode cX12_over 19 = .ok (.ifCond .eq 10, 3) := dc_153 (sg_at zd_dX12_over_0 11 rfl rfl) rfl
theorem dX12_over_22 : decode cX12_over 22 = .ok (.aload_n 0, 1) := dc_42 (sg_at zd_dX12_over_0 12 rfl rfl)
theorem dX12_over_23 : decode cX12_over 23 = .ok (.getfield 253, 3) := dc_180 (sg_at zd_dX12_over_0 13 rfl rfl) rfl
theorem dX12_over_26 : decode cX12_over 26 = .ok (.ifCond .ne 5, 3) := dc_154 (sg_at zd_dX12_over_0 14 rfl rfl) rfl
theorem dX12_over_29 : decode cX12_over 29 = .ok (.iconst (-1), 1) := dc_2 (sg_at zd_dX12_over_0 15 rfl rfl)
theorem dX12_over_30 : decode cX12_over 30 = .ok (.ireturn, 1) := dc_172 (sg_at zd_dX12_over_0 16 rfl rfl)
theorem dX12_over_31 : decode cX12_over 31 = .ok (.aload_n 0, 1) := dc_42 (sg_at zd_dX12_over_0 17 rfl rfl)
theorem dX12_over_32 : decode cX12_over 32 = .ok (.getfield 48, 3) := dc_180 (sg_at zd_dX12_over_0 18 rfl rfl) rfl
theorem dX12_over_35 : decode cX12_over 35 = .ok (.aload_n 0, 1) := dc_42 (sg_at zd_dX12_over_0 19 rfl rfl)
theorem zd_dX12_over_36 : sg (cX12_over.data.toList.drop 36) [[180, 0, 253], [4], [100], [46], [61], [42], [180, 0, 106], [3], [46], [62], [29], [28], [163, 0, 72], [28], [29], [100], [42], [180, 0, 24], [5], [46]] = true := by decide +kernel
theorem dX12_over_36 : decode cX12_over 36 = .ok (.getfield 253, 3) := dc_180 (sg_at zd_dX12_over_36 0 rfl rfl) rfl
theorem dX12_over_39 : decode cX12_over 39 = .ok (.iconst 1, 1) := dc_4 (sg_at zd_dX12_over_36 1 rfl rfl)
theorem dX12_over_40 : decode cX12_over 40 = .ok (.isub, 1) := dc_100 (sg_at zd_dX12_over_36 2 rfl rfl)
theorem dX12_over_41 : decode cX12_over 41 = .ok (.iaload, 1) := dc_46 (sg_at zd_dX12_over_36 3 rfl rfl)
theorem dX12_over_42 : decode cX12_over 42 = .ok (.istore_n 2, 1) := dc_61 (sg_at zd_dX12_over_36 4 rfl rfl)
theorem dX12_over_43 : decode cX12_over 43 = .ok (.aload_n 0, 1) := dc_42 (sg_at zd_dX12_over_36 5 rfl rfl)
theorem dX12_over_44 : decode cX12_over 44 = .ok (.getfield 106, 3) := dc_180 (sg_at zd_dX12_over_36 6 rfl rfl) rfl
theorem dX12_over_47 : decode cX12_over 47 = .ok (.iconst 0, 1) := dc_3 (sg_at zd_dX12_over_36 7 rfl rfl)
theorem dX12_over_48 : decode cX12_over 48 = .ok (.iaload, 1) := dc_46 (sg_at zd_dX12_over_36 8 rfl rfl)
theorem dX12_over_49 : decode cX12_over 49 = .ok (.istore_n 3, 1) := dc_62 (sg_at zd_dX12_over_36 9 rfl rfl)
theorem dX12_over_50 : decode cX12_over 50 = .ok (.iload_n 3, 1) := dc_29 (sg_at zd_dX12_over_36 10 rfl rfl)
theorem dX12_over_51 : decode cX12_over 51 = .ok (.iload_n 2, 1) := dc_28 (sg_at zd_dX12_over_36 11 rfl rfl)
theorem dX12_over_52 : decode cX12_over 52 = .ok (.if_icmp .gt 72, 3) := dc_163 (sg_at zd_dX12_over_36 12 rfl rfl) rfl
theorem dX12_over_55 : decode cX12_over 55 = .ok (.iload_n 2, 1) := dc_28 (sg_at zd_dX12_over_36 13 rfl rfl)
theorem dX12_over_56 : decode cX12_over 56 = .ok (.iload_n 3, 1) := dc_29 (sg_at zd_dX12_over_36 14 rfl rfl)
theorem dX12_over_57 : decode cX12_over 57 = .ok (.isub, 1) := dc_100 (sg_at zd_dX12_over_36 15 rfl rfl)
theorem dX12_over_58 : decode cX12_over 58 = .ok (.aload_n 0, 1) := dc_42 (sg_at zd_dX12_over_36 16 rfl rfl)
theorem dX12_over_59 : decode cX12_over 59 = .ok (.getfield 24, 3) := dc_180 (sg_at zd_dX12_over_36 17 rfl rfl) rfl
theorem dX12_over_62 : decode cX12_over 62 = .ok (.iconst 2, 1) := dc_5 (sg_at zd_dX12_over_36 18 rfl rfl)
theorem dX12_over_63 : decode cX12_over 63 = .ok (.iaload, 1) := dc_46 (sg_at zd_dX12_over_36 19 rfl rfl)
theorem zd_dX12_over_64 : sg (cX12_over.data.toList.drop 64) [[100], [54, 4], [21, 4], [156, 0, 7], [3], [167, 0, 14], [21, 4], [42], [180, 0, 24], [6], [46], [108], [4], [96], [54, 5], [16, 100], [42], [180, 0, 24], [7], [46]] = true := by decide +kernel
theorem dX12_over_64 : decode cX12_over 64 = .ok (.isub, 1) := dc_100 (sg_at zd_dX12_over_64 0 rfl rfl)
theorem dX12_over_65 : decode cX12_over 65 = .ok (.istore 4, 2) := dc_54 (sg_at zd_dX12_over_64 1 rfl rfl)
theorem dX12_over_67 : decode cX12_over 67 = .ok (.iload 4, 2) := dc_21 (sg_at zd_dX12_over_64 2 rfl rfl)
theorem dX12_over_69 : decode cX12_over 69 = .ok (.ifCond .ge 7, 3) := dc_156 (sg_at zd_dX12_over_64 3 rfl rfl) rfl
theorem dX12_over_72 : decode cX12_over 72 = .ok (.iconst 0, 1) := dc_3 (sg_at zd_dX12_over_64 4 rfl rfl)
theorem dX12_over_73 : decode cX12_over 73 = .ok (.goto 14, 3) := dc_167 (sg_at zd_dX12_over_64 5 rfl rfl) rfl
theorem dX12_over_76 : decode cX12_over 76 = .ok (.iload 4, 2) := dc_21 (sg_at zd_dX12_over_64 6 rfl rfl)
theorem dX12_over_78 : decode cX12_over 78 = .ok (.aload_n 0, 1) := dc_42 (sg_at zd_dX12_over_64 7 rfl rfl)
theorem dX12_over_79 : decode cX12_over 79 = .ok (.getfield 24, 3) := dc_180 (sg_at zd_dX12_over_64 8 rfl rfl) rfl
theorem dX12_over_82 : decode cX12_over 82 = .ok (.iconst 3, 1) := dc_6 (sg_at zd_dX12_over_64 9 rfl rfl)
theorem dX12_over_83 : decode cX12_over 83 = .ok (.iaload, 1) := dc_46 (sg_at zd_dX12_over_64 10 rfl rfl)
theorem dX12_over_84 : decode cX12_over 84 = .ok (.idiv, 1) := dc_108 (sg_at zd_dX12_over_64 11 rfl rfl)
theorem dX12_over_85 : decode cX12_over 85 = .ok (.iconst 1, 1) := dc_4 (sg_at zd_dX12_over_64 12 rfl rfl)
theorem dX12_over_86 : decode cX12_over 86 = .ok (.iadd, 1) := dc_96 (sg_at zd_dX12_over_64 13 rfl rfl)
theorem dX12_over_87 : decode cX12_over 87 = .ok (.istore 5, 2) := dc_54 (sg_at zd_dX12_over_64 14 rfl rfl)
theorem dX12_over_89 : decode cX12_over 89 = .ok (.bipush 100, 2) := dc_16 (sg_at zd_dX12_over_64 15 rfl rfl) rfl
theorem dX12_over_91 : decode cX12_over 91 = .ok (.aload_n 0, 1) := dc_42 (sg_at zd_dX12_over_64 16 rfl rfl)
theorem dX12_over_92 : decode cX12_over 92 = .ok (.getfield 24, 3) := dc_180 (sg_at zd_dX12_over_64 17 rfl rfl) rfl
theorem dX12_over_95 : decode cX12_over 95 = .ok (.iconst 4, 1) := dc_7 (sg_at zd_dX12_over_64 18 rfl rfl)
theorem dX12_over_96 : decode cX12_over 96 = .ok (.iaload, 1) := dc_46 (sg_at zd_dX12_over_64 19 rfl rfl)
theorem zd_dX12_over_97 : sg (cX12_over.data.toList.drop 97) [[104], [21, 5], [104], [42], [27], [42], [180, 0, 88], [27], [46], [29], [182, 1, 226], [164, 0, 5], [29], [172], [132, 3, 1], [167, 255, 185], [16, 254], [172]] = true := by decide +kernel
theorem dX12_over_97 : decode cX12_over 97 = .ok (.imul, 1) := dc_104 (sg_at zd_dX12_over_97 0 rfl rfl)
theorem dX12_over_98 : decode cX12_over 98 = .ok (.iload 5, 2) := dc_21 (sg_at zd_dX12_over_97 1 rfl rfl)
theorem dX12_over_100 : decode cX12_over 100 = .ok (.imul, 1) := dc_104 (sg_at zd_dX12_over_97 2 rfl rfl)
theorem dX12_over_101 : decode cX12_over 101 = .ok (.aload_n 0, 1) := dc_42 (sg_at zd_dX12_over_97 3 rfl rfl)
theorem dX12_over_102 : decode cX12_over 102 = .ok (.iload_n 1, 1) := dc_27 (sg_at zd_dX12_over_97 4 rfl rfl)
theorem dX12_over_103 : decode cX12_over 103 = .ok (.aload_n 0, 1) := dc_42 (sg_at zd_dX12_over_97 5 rfl rfl)
theorem dX12_over_104 : decode cX12_over 104 = .ok (.getfield 88, 3) := dc_180 (sg_at zd_dX12_over_97 6 rfl rfl) rfl
theorem dX12_over_107 : decode cX12_over 107 = .ok (.iload_n 1, 1) := dc_27 (sg_at zd_dX12_over_97 7 rfl rfl)
theorem dX12_over_108 : decode cX12_over 108 = .ok (.iaload, 1) := dc_46 (sg_at zd_dX12_over_97 8 rfl rfl)
theorem dX12_over_109 : decode cX12_over 109 = .ok (.iload_n 3, 1) := dc_29 (sg_at zd_dX12_over_97 9 rfl rfl)
theorem dX12_over_110 : decode cX12_over 110 = .ok (.invokevirtual 482, 3) := dc_182 (sg_at zd_dX12_over_97 10 rfl rfl) rfl
theorem dX12_over_113 : decode cX12_over 113 = .ok (.if_icmp .le 5, 3) := dc_164 (sg_at zd_dX12_over_97 11 rfl rfl) rfl
theorem dX12_over_116 : decode cX12_over 116 = .ok (.iload_n 3, 1) := dc_29 (sg_at zd_dX12_over_97 12 rfl rfl)
theorem dX12_over_117 : decode cX12_over 117 = .ok (.ireturn, 1) := dc_172 (sg_at zd_dX12_over_97 13 rfl rfl)
theorem dX12_over_118 : decode cX12_over 118 = .ok (.iinc 3 1, 3) := dc_132 (sg_at zd_dX12_over_97 14 rfl rfl) rfl
theorem dX12_over_121 : decode cX12_over 121 = .ok (.goto (-71), 3) := dc_167 (sg_at zd_dX12_over_97 15 rfl rfl) rfl
theorem dX12_over_124 : decode cX12_over 124 = .ok (.bipush (-2), 2) := dc_16 (sg_at zd_dX12_over_97 16 rfl rfl) rfl
theorem dX12_over_126 : decode cX12_over 126 = .ok (.ireturn, 1) := dc_172 (sg_at zd_dX12_over_97 17 rfl rfl)
theorem zd_dX12_peak_0 : sg (cX12_peak.data.toList.drop 0) [[42], [3], [181, 0, 154], [27], [3], [17, 0, 199], [184, 0, 199], [153, 0, 11], [42], [27], [182, 1, 144], [167, 0, 4], [2], [172]] = true := by decide +kernel
theorem dX12_peak_0 : decode cX12_peak 0 = .ok (.aload_n 0, 1) := dc_42 (sg_at zd_dX12_peak_0 0 rfl rfl)
theorem dX12_peak_1 : decode cX12_peak 1 = .ok (.iconst 0, 1) := dc_3 (sg_at zd_dX12_peak_0 1 rfl rfl)
theorem dX12_peak_2 : decode cX12_peak 2 = .ok (.putfield 154, 3) := dc_181 (sg_at zd_dX12_peak_0 2 rfl rfl) rfl
theorem dX12_peak_5 : decode cX12_peak 5 = .ok (.iload_n 1, 1) := dc_27 (sg_at zd_dX12_peak_0 3 rfl rfl)
theorem dX12_peak_6 : decode cX12_peak 6 = .ok (.iconst 0, 1) := dc_3 (sg_at zd_dX12_peak_0 4 rfl rfl)
theorem dX12_peak_7 : decode cX12_peak 7 = .ok (.sipush 199, 3) := dc_17 (sg_at zd_dX12_peak_0 5 rfl rfl) rfl
theorem dX12_peak_10 : decode cX12_peak 10 = .ok (.invokestatic 199, 3) := dc_184 (sg_at zd_dX12_peak_0 6 rfl rfl) rfl
theorem dX12_peak_13 : decode cX12_peak 13 = .ok (.ifCond .eq 11, 3) := dc_153 (sg_at zd_dX12_peak_0 7 rfl rfl) rfl
theorem dX12_peak_16 : decode cX12_peak 16 = .ok (.aload_n 0, 1) := dc_42 (sg_at zd_dX12_peak_0 8 rfl rfl)
theorem dX12_peak_17 : decode cX12_peak 17 = .ok (.iload_n 1, 1) := dc_27 (sg_at zd_dX12_peak_0 9 rfl rfl)
theorem dX12_peak_18 : decode cX12_peak 18 = .ok (.invokevirtual 400, 3) := dc_182 (sg_at zd_dX12_peak_0 10 rfl rfl) rfl
theorem dX12_peak_21 : decode cX12_peak 21 = .ok (.goto 4, 3) := dc_167 (sg_at zd_dX12_peak_0 11 rfl rfl) rfl
theorem dX12_peak_24 : decode cX12_peak 24 = .ok (.iconst (-1), 1) := dc_2 (sg_at zd_dX12_peak_0 12 rfl rfl)
theorem dX12_peak_25 : decode cX12_peak 25 = .ok (.ireturn, 1) := dc_172 (sg_at zd_dX12_peak_0 13 rfl rfl)
theorem zd_dX12_plan_0 : sg (cX12_plan.data.toList.drop 0) [[42], [3], [181, 0, 154], [42], [27], [182, 1, 157], [154, 0, 5], [2], [172], [42], [27], [182, 1, 247], [42], [180, 0, 127], [42], [182, 1, 250], [46], [172]] = true := by decide +kernel
theorem dX12_plan_0 : decode cX12_plan 0 = .ok (.aload_n 0, 1) := dc_42 (sg_at zd_dX12_plan_0 0 rfl rfl)
theorem dX12_plan_1 : decode cX12_plan 1 = .ok (.iconst 0, 1) := dc_3 (sg_at zd_dX12_plan_0 1 rfl rfl)
theorem dX12_plan_2 : decode cX12_plan 2 = .ok (.putfield 154, 3) := dc_181 (sg_at zd_dX12_plan_0 2 rfl rfl) rfl
theorem dX12_plan_5 : decode cX12_plan 5 = .ok (.aload_n 0, 1) := dc_42 (sg_at zd_dX12_plan_0 3 rfl rfl)
theorem dX12_plan_6 : decode cX12_plan 6 = .ok (.iload_n 1, 1) := dc_27 (sg_at zd_dX12_plan_0 4 rfl rfl)
theorem dX12_plan_7 : decode cX12_plan 7 = .ok (.invokevirtual 413, 3) := dc_182 (sg_at zd_dX12_plan_0 5 rfl rfl) rfl
theorem dX12_plan_10 : decode cX12_plan 10 = .ok (.ifCond .ne 5, 3) := dc_154 (sg_at zd_dX12_plan_0 6 rfl rfl) rfl
theorem dX12_plan_13 : decode cX12_plan 13 = .ok (.iconst (-1), 1) := dc_2 (sg_at zd_dX12_plan_0 7 rfl rfl)
theorem dX12_plan_14 : decode cX12_plan 14 = .ok (.ireturn, 1) := dc_172 (sg_at zd_dX12_plan_0 8 rfl rfl)
theorem dX12_plan_15 : decode cX12_plan 15 = .ok (.aload_n 0, 1) := dc_42 (sg_at zd_dX12_plan_0 9 rfl rfl)
theorem dX12_plan_16 : decode cX12_plan 16 = .ok (.iload_n 1, 1) := dc_27 (sg_at zd_dX12_plan_0 10 rfl rfl)
theorem dX12_plan_17 : decode cX12_plan 17 = .ok (.invokevirtual 503, 3) := dc_182 (sg_at zd_dX12_plan_0 11 rfl rfl) rfl
theorem dX12_plan_20 : decode cX12_plan 20 = .ok (.aload_n 0, 1) := dc_42 (sg_at zd_dX12_plan_0 12 rfl rfl)
theorem dX12_plan_21 : decode cX12_plan 21 = .ok (.getfield 127, 3) := dc_180 (sg_at zd_dX12_plan_0 13 rfl rfl) rfl
theorem dX12_plan_24 : decode cX12_plan 24 = .ok (.aload_n 0, 1) := dc_42 (sg_at zd_dX12_plan_0 14 rfl rfl)
theorem dX12_plan_25 : decode cX12_plan 25 = .ok (.invokevirtual 506, 3) := dc_182 (sg_at zd_dX12_plan_0 15 rfl rfl) rfl
theorem dX12_plan_28 : decode cX12_plan 28 = .ok (.iaload, 1) := dc_46 (sg_at zd_dX12_plan_0 16 rfl rfl)
theorem dX12_plan_29 : decode cX12_plan 29 = .ok (.ireturn, 1) := dc_172 (sg_at zd_dX12_plan_0 17 rfl rfl)
theorem zd_dX12_planned_0 : sg (cX12_planned.data.toList.drop 0) [[42], [3], [181, 0, 154], [42], [27], [182, 1, 157], [153, 0, 7], [28], [156, 0, 5], [2], [172], [42], [27], [182, 1, 247], [28], [62], [42], [182, 1, 250], [54, 4], [21, 4]] = true := by decide +kernel
theorem dX12_planned_0 : decode cX12_planned 0 = .ok (.aload_n 0, 1) := dc_42 (sg_at zd_dX12_planned_0 0 rfl rfl)
theorem dX12_planned_1 : decode cX12_planned 1 = .ok (.iconst 0, 1) := dc_3 (sg_at zd_dX12_planned_0 1 rfl rfl)
theorem dX12_planned_2 : decode cX12_planned 2 = .ok (.putfield 154, 3) := dc_181 (sg_at zd_dX12_planned_0 2 rfl rfl) rfl
theorem dX12_planned_5 : decode cX12_planned 5 = .ok (.aload_n 0, 1) := dc_42 (sg_at zd_dX12_planned_0 3 rfl rfl)
theorem dX12_planned_6 : decode cX12_planned 6 = .ok (.iload_n 1, 1) := dc_27 (sg_at zd_dX12_planned_0 4 rfl rfl)
theorem dX12_planned_7 : decode cX12_planned 7 = .ok (.invokevirtual 413, 3) := dc_182 (sg_at zd_dX12_planned_0 5 rfl rfl) rfl
theorem dX12_planned_10 : decode cX12_planned 10 = .ok (.ifCond .eq 7, 3) := dc_153 (sg_at zd_dX12_planned_0 6 rfl rfl) rfl
theorem dX12_planned_13 : decode cX12_planned 13 = .ok (.iload_n 2, 1) := dc_28 (sg_at zd_dX12_planned_0 7 rfl rfl)
theorem dX12_planned_14 : decode cX12_planned 14 = .ok (.ifCond .ge 5, 3) := dc_156 (sg_at zd_dX12_planned_0 8 rfl rfl) rfl
theorem dX12_planned_17 : decode cX12_planned 17 = .ok (.iconst (-1), 1) := dc_2 (sg_at zd_dX12_planned_0 9 rfl rfl)
theorem dX12_planned_18 : decode cX12_planned 18 = .ok (.ireturn, 1) := dc_172 (sg_at zd_dX12_planned_0 10 rfl rfl)
theorem dX12_planned_19 : decode cX12_planned 19 = .ok (.aload_n 0, 1) := dc_42 (sg_at zd_dX12_planned_0 11 rfl rfl)
theorem dX12_planned_20 : decode cX12_planned 20 = .ok (.iload_n 1, 1) := dc_27 (sg_at zd_dX12_planned_0 12 rfl rfl)
theorem dX12_planned_21 : decode cX12_planned 21 = .ok (.invokevirtual 503, 3) := dc_182 (sg_at zd_dX12_planned_0 13 rfl rfl) rfl
theorem dX12_planned_24 : decode cX12_planned 24 = .ok (.iload_n 2, 1) := dc_28 (sg_at zd_dX12_planned_0 14 rfl rfl)
theorem dX12_planned_25 : decode cX12_planned 25 = .ok (.istore_n 3, 1) := dc_62 (sg_at zd_dX12_planned_0 15 rfl rfl)
theorem dX12_planned_26 : decode cX12_planned 26 = .ok (.aload_n 0, 1) := dc_42 (sg_at zd_dX12_planned_0 16 rfl rfl)
theorem dX12_planned_27 : decode cX12_planned 27 = .ok (.invokevirtual 506, 3) := dc_182 (sg_at zd_dX12_planned_0 17 rfl rfl) rfl
theorem dX12_planned_30 : decode cX12_planned 30 = .ok (.istore 4, 2) := dc_54 (sg_at zd_dX12_planned_0 18 rfl rfl)
theorem dX12_planned_32 : decode cX12_planned 32 = .ok (.iload 4, 2) := dc_21 (sg_at zd_dX12_planned_0 19 rfl rfl)
theorem zd_dX12_planned_34 : sg (cX12_planned.data.toList.drop 34) [[42], [180, 0, 253], [162, 0, 97], [42], [27], [21, 4], [42], [180, 0, 88], [27], [46], [182, 1, 223], [42], [180, 0, 127], [42], [180, 0, 130], [21, 4], [46], [46], [96], [42]] = true := by decide +kernel
theorem dX12_planned_34 : decode cX12_planned 34 = .ok (.aload_n 0, 1) := dc_42 (sg_at zd_dX12_planned_34 0 rfl rfl)
theorem dX12_planned_35 : decode cX12_planned 35 = .ok (.getfield 253, 3) := dc_180 (sg_at zd_dX12_planned_34 1 rfl rfl) rfl
theorem dX12_planned_38 : decode cX12_planned 38 = .ok (.if_icmp .ge 97, 3) := dc_162 (sg_at zd_dX12_planned_34 2 rfl rfl) rfl
theorem dX12_planned_41 : decode cX12_planned 41 = .ok (.aload_n 0, 1) := dc_42 (sg_at zd_dX12_planned_34 3 rfl rfl)
theorem dX12_planned_42 : decode cX12_planned 42 = .ok (.iload_n 1, 1) := dc_27 (sg_at zd_dX12_planned_34 4 rfl rfl)
theorem dX12_planned_43 : decode cX12_planned 43 = .ok (.iload 4, 2) := dc_21 (sg_at zd_dX12_planned_34 5 rfl rfl)
theorem dX12_planned_45 : decode cX12_planned 45 = .ok (.aload_n 0, 1) := dc_42 (sg_at zd_dX12_planned_34 6 rfl rfl)
theorem dX12_planned_46 : decode cX12_planned 46 = .ok (.getfield 88, 3) := dc_180 (sg_at zd_dX12_planned_34 7 rfl rfl) rfl
theorem dX12_planned_49 : decode cX12_planned 49 = .ok (.iload_n 1, 1) := dc_27 (sg_at zd_dX12_planned_34 8 rfl rfl)
theorem dX12_planned_50 : decode cX12_planned 50 = .ok (.iaload, 1) := dc_46 (sg_at zd_dX12_planned_34 9 rfl rfl)
theorem dX12_planned_51 : decode cX12_planned 51 = .ok (.invokevirtual 479, 3) := dc_182 (sg_at zd_dX12_planned_34 10 rfl rfl) rfl
theorem dX12_planned_54 : decode cX12_planned 54 = .ok (.aload_n 0, 1) := dc_42 (sg_at zd_dX12_planned_34 11 rfl rfl)
theorem dX12_planned_55 : decode cX12_planned 55 = .ok (.getfield 127, 3) := dc_180 (sg_at zd_dX12_planned_34 12 rfl rfl) rfl
theorem dX12_planned_58 : decode cX12_planned 58 = .ok (.aload_n 0, 1) := dc_42 (sg_at zd_dX12_planned_34 13 rfl rfl)
theorem dX12_planned_59 : decode cX12_planned 59 = .ok (.getfield 130, 3) := dc_180 (sg_at zd_dX12_planned_34 14 rfl rfl) rfl
theorem dX12_planned_62 : decode cX12_planned 62 = .ok (.iload 4, 2) := dc_21 (sg_at zd_dX12_planned_34 15 rfl rfl)
theorem dX12_planned_64 : decode cX12_planned 64 = .ok (.iaload, 1) := dc_46 (sg_at zd_dX12_planned_34 16 rfl rfl)
theorem dX12_planned_65 : decode cX12_planned 65 = .ok (.iaload, 1) := dc_46 (sg_at zd_dX12_planned_34 17 rfl rfl)
theorem dX12_planned_66 : decode cX12_planned 66 = .ok (.iadd, 1) := dc_96 (sg_at zd_dX12_planned_34 18 rfl rfl)
theorem dX12_planned_67 : decode cX12_planned 67 = .ok (.aload_n 0, 1) := dc_42 (sg_at zd_dX12_planned_34 19 rfl rfl)
theorem zd_dX12_planned_68 : sg (cX12_planned.data.toList.drop 68) [[180, 0, 127], [21, 4], [4], [96], [46], [161, 0, 7], [4], [167, 0, 4], [3], [54, 5], [21, 5], [153, 0, 10], [29], [154, 0, 6], [21, 4], [172], [29], [21, 5], [153, 0, 7], [4]] = true := by decide +kernel
theorem dX12_planned_68 : decode cX12_planned 68 = .ok (.getfield 127, 3) := dc_180 (sg_at zd_dX12_planned_68 0 rfl rfl) rfl
theorem dX12_planned_71 : decode cX12_planned 71 = .ok (.iload 4, 2) := dc_21 (sg_at zd_dX12_planned_68 1 rfl rfl)
theorem dX12_planned_73 : decode cX12_planned 73 = .ok (.iconst 1, 1) := dc_4 (sg_at zd_dX12_planned_68 2 rfl rfl)
theorem dX12_planned_74 : decode cX12_planned 74 = .ok (.iadd, 1) := dc_96 (sg_at zd_dX12_planned_68 3 rfl rfl)
theorem dX12_planned_75 : decode cX12_planned 75 = .ok (.iaload, 1) := dc_46 (sg_at zd_dX12_planned_68 4 rfl rfl)
theorem dX12_planned_76 : decode cX12_planned 76 = .ok (.if_icmp .lt 7, 3) := dc_161 (sg_at zd_dX12_planned_68 5 rfl rfl) rfl
theorem dX12_planned_79 : decode cX12_planned 79 = .ok (.iconst 1, 1) := dc_4 (sg_at zd_dX12_planned_68 6 rfl rfl)
theorem dX12_planned_80 : decode cX12_planned 80 = .ok (.goto 4, 3) := dc_167 (sg_at zd_dX12_planned_68 7 rfl rfl) rfl
theorem dX12_planned_83 : decode cX12_planned 83 = .ok (.iconst 0, 1) := dc_3 (sg_at zd_dX12_planned_68 8 rfl rfl)
theorem dX12_planned_84 : decode cX12_planned 84 = .ok (.istore 5, 2) := dc_54 (sg_at zd_dX12_planned_68 9 rfl rfl)
theorem dX12_planned_86 : decode cX12_planned 86 = .ok (.iload 5, 2) := dc_21 (sg_at zd_dX12_planned_68 10 rfl rfl)
theorem dX12_planned_88 : decode cX12_planned 88 = .ok (.ifCond .eq 10, 3) := dc_153 (sg_at zd_dX12_planned_68 11 rfl rfl) rfl
theorem dX12_planned_91 : decode cX12_planned 91 = .ok (.iload_n 3, 1) := dc_29 (sg_at zd_dX12_planned_68 12 rfl rfl)
theorem dX12_planned_92 : decode cX12_planned 92 = .ok (.ifCond .ne 6, 3) := dc_154 (sg_at zd_dX12_planned_68 13 rfl rfl) rfl
theorem dX12_planned_95 : decode cX12_planned 95 = .ok (.iload 4, 2) := dc_21 (sg_at zd_dX12_planned_68 14 rfl rfl)
theorem dX12_planned_97 : decode cX12_planned 97 = .ok (.ireturn, 1) := dc_172 (sg_at zd_dX12_planned_68 15 rfl rfl)
theorem dX12_planned_98 : decode cX12_planned 98 = .ok (.iload_n 3, 1) := dc_29 (sg_at zd_dX12_planned_68 16 rfl rfl)
theorem dX12_planned_99 : decode cX12_planned 99 = .ok (.iload 5, 2) := dc_21 (sg_at zd_dX12_planned_68 17 rfl rfl)
theorem dX12_planned_101 : decode cX12_planned 101 = .ok (.ifCond .eq 7, 3) := dc_153 (sg_at zd_dX12_planned_68 18 rfl rfl) rfl
theorem dX12_planned_104 : decode cX12_planned 104 = .ok (.iconst 1, 1) := dc_4 (sg_at zd_dX12_planned_68 19 rfl rfl)
theorem zd_dX12_planned_105 : sg (cX12_planned.data.toList.drop 105) [[167, 0, 4], [3], [100], [62], [21, 5], [153, 0, 13], [42], [180, 0, 130], [21, 4], [46], [167, 0, 7], [21, 4], [4], [96], [54, 4], [167, 255, 156], [16, 254], [172]] = true := by decide +kernel
theorem dX12_planned_105 : decode cX12_planned 105 = .ok (.goto 4, 3) := dc_167 (sg_at zd_dX12_planned_105 0 rfl rfl) rfl
theorem dX12_planned_108 : decode cX12_planned 108 = .ok (.iconst 0, 1) := dc_3 (sg_at zd_dX12_planned_105 1 rfl rfl)
theorem dX12_planned_109 : decode cX12_planned 109 = .ok (.isub, 1) := dc_100 (sg_at zd_dX12_planned_105 2 rfl rfl)
theorem dX12_planned_110 : decode cX12_planned 110 = .ok (.istore_n 3, 1) := dc_62 (sg_at zd_dX12_planned_105 3 rfl rfl)
theorem dX12_planned_111 : decode cX12_planned 111 = .ok (.iload 5, 2) := dc_21 (sg_at zd_dX12_planned_105 4 rfl rfl)
theorem dX12_planned_113 : decode cX12_planned 113 = .ok (.ifCond .eq 13, 3) := dc_153 (sg_at zd_dX12_planned_105 5 rfl rfl) rfl
theorem dX12_planned_116 : decode cX12_planned 116 = .ok (.aload_n 0, 1) := dc_42 (sg_at zd_dX12_planned_105 6 rfl rfl)
theorem dX12_planned_117 : decode cX12_planned 117 = .ok (.getfield 130, 3) := dc_180 (sg_at zd_dX12_planned_105 7 rfl rfl) rfl
theorem dX12_planned_120 : decode cX12_planned 120 = .ok (.iload 4, 2) := dc_21 (sg_at zd_dX12_planned_105 8 rfl rfl)
theorem dX12_planned_122 : decode cX12_planned 122 = .ok (.iaload, 1) := dc_46 (sg_at zd_dX12_planned_105 9 rfl rfl)
theorem dX12_planned_123 : decode cX12_planned 123 = .ok (.goto 7, 3) := dc_167 (sg_at zd_dX12_planned_105 10 rfl rfl) rfl
theorem dX12_planned_126 : decode cX12_planned 126 = .ok (.iload 4, 2) := dc_21 (sg_at zd_dX12_planned_105 11 rfl rfl)
theorem dX12_planned_128 : decode cX12_planned 128 = .ok (.iconst 1, 1) := dc_4 (sg_at zd_dX12_planned_105 12 rfl rfl)
theorem dX12_planned_129 : decode cX12_planned 129 = .ok (.iadd, 1) := dc_96 (sg_at zd_dX12_planned_105 13 rfl rfl)
theorem dX12_planned_130 : decode cX12_planned 130 = .ok (.istore 4, 2) := dc_54 (sg_at zd_dX12_planned_105 14 rfl rfl)
theorem dX12_planned_132 : decode cX12_planned 132 = .ok (.goto (-100), 3) := dc_167 (sg_at zd_dX12_planned_105 15 rfl rfl) rfl
theorem dX12_planned_135 : decode cX12_planned 135 = .ok (.bipush (-2), 2) := dc_16 (sg_at zd_dX12_planned_105 16 rfl rfl) rfl
theorem dX12_planned_137 : decode cX12_planned 137 = .ok (.ireturn, 1) := dc_172 (sg_at zd_dX12_planned_105 17 rfl rfl)
theorem zd_dX12_setEnd_0 : sg (cX12_setEnd.data.toList.drop 0) [[27], [4], [96], [42], [180, 0, 250], [162, 0, 14], [42], [180, 0, 45], [27], [4], [96], [46], [167, 0, 7], [42], [180, 0, 253], [172]] = true := by decide +kernel
theorem dX12_setEnd_0 : decode cX12_setEnd 0 = .ok (.iload_n 1, 1) := dc_27 (sg_at zd_dX12_setEnd_0 0 rfl rfl)
theorem dX12_setEnd_1 : decode cX12_setEnd 1 = .ok (.iconst 1, 1) := dc_4 (sg_at zd_dX12_setEnd_0 1 rfl rfl)
theorem dX12_setEnd_2 : decode cX12_setEnd 2 = .ok (.iadd, 1) := dc_96 (sg_at zd_dX12_setEnd_0 2 rfl rfl)
theorem dX12_setEnd_3 : decode cX12_setEnd 3 = .ok (.aload_n 0, 1) := dc_42 (sg_at zd_dX12_setEnd_0 3 rfl rfl)
theorem dX12_setEnd_4 : decode cX12_setEnd 4 = .ok (.getfield 250, 3) := dc_180 (sg_at zd_dX12_setEnd_0 4 rfl rfl) rfl
theorem dX12_setEnd_7 : decode cX12_setEnd 7 = .ok (.if_icmp .ge 14, 3) := dc_162 (sg_at zd_dX12_setEnd_0 5 rfl rfl) rfl
theorem dX12_setEnd_10 : decode cX12_setEnd 10 = .ok (.aload_n 0, 1) := dc_42 (sg_at zd_dX12_setEnd_0 6 rfl rfl)
theorem dX12_setEnd_11 : decode cX12_setEnd 11 = .ok (.getfield 45, 3) := dc_180 (sg_at zd_dX12_setEnd_0 7 rfl rfl) rfl
theorem dX12_setEnd_14 : decode cX12_setEnd 14 = .ok (.iload_n 1, 1) := dc_27 (sg_at zd_dX12_setEnd_0 8 rfl rfl)
theorem dX12_setEnd_15 : decode cX12_setEnd 15 = .ok (.iconst 1, 1) := dc_4 (sg_at zd_dX12_setEnd_0 9 rfl rfl)
theorem dX12_setEnd_16 : decode cX12_setEnd 16 = .ok (.iadd, 1) := dc_96 (sg_at zd_dX12_setEnd_0 10 rfl rfl)
theorem dX12_setEnd_17 : decode cX12_setEnd 17 = .ok (.iaload, 1) := dc_46 (sg_at zd_dX12_setEnd_0 11 rfl rfl)
theorem dX12_setEnd_18 : decode cX12_setEnd 18 = .ok (.goto 7, 3) := dc_167 (sg_at zd_dX12_setEnd_0 12 rfl rfl) rfl
theorem dX12_setEnd_21 : decode cX12_setEnd 21 = .ok (.aload_n 0, 1) := dc_42 (sg_at zd_dX12_setEnd_0 13 rfl rfl)
theorem dX12_setEnd_22 : decode cX12_setEnd 22 = .ok (.getfield 253, 3) := dc_180 (sg_at zd_dX12_setEnd_0 14 rfl rfl) rfl
theorem dX12_setEnd_25 : decode cX12_setEnd 25 = .ok (.ireturn, 1) := dc_172 (sg_at zd_dX12_setEnd_0 15 rfl rfl)
theorem zd_dX12_rank__0 : sg (cX12_rank_.data.toList.drop 0) [[42], [3], [181, 0, 154], [27], [4], [16, 7], [184, 0, 199], [153, 0, 12], [28], [3], [4], [184, 0, 199], [154, 0, 5], [2], [172], [3], [62], [3], [54, 4], [3]] = true := by decide +kernel
theorem dX12_rank__0 : decode cX12_rank_ 0 = .ok (.aload_n 0, 1) := dc_42 (sg_at zd_dX12_rank__0 0 rfl rfl)
theorem dX12_rank__1 : decode cX12_rank_ 1 = .ok (.iconst 0, 1) := dc_3 (sg_at zd_dX12_rank__0 1 rfl rfl)
theorem dX12_rank__2 : decode cX12_rank_ 2 = .ok (.putfield 154, 3) := dc_181 (sg_at zd_dX12_rank__0 2 rfl rfl) rfl
theorem dX12_rank__5 : decode cX12_rank_ 5 = .ok (.iload_n 1, 1) := dc_27 (sg_at zd_dX12_rank__0 3 rfl rfl)
theorem dX12_rank__6 : decode cX12_rank_ 6 = .ok (.iconst 1, 1) := dc_4 (sg_at zd_dX12_rank__0 4 rfl rfl)
theorem dX12_rank__7 : decode cX12_rank_ 7 = .ok (.bipush 7, 2) := dc_16 (sg_at zd_dX12_rank__0 5 rfl rfl) rfl
theorem dX12_rank__9 : decode cX12_rank_ 9 = .ok (.invokestatic 199, 3) := dc_184 (sg_at zd_dX12_rank__0 6 rfl rfl) rfl
theorem dX12_rank__12 : decode cX12_rank_ 12 = .ok (.ifCond .eq 12, 3) := dc_153 (sg_at zd_dX12_rank__0 7 rfl rfl) rfl
theorem dX12_rank__15 : decode cX12_rank_ 15 = .ok (.iload_n 2, 1) := dc_28 (sg_at zd_dX12_rank__0 8 rfl rfl)
theorem dX12_rank__16 : decode cX12_rank_ 16 = .ok (.iconst 0, 1) := dc_3 (sg_at zd_dX12_rank__0 9 rfl rfl)
theorem dX12_rank__17 : decode cX12_rank_ 17 = .ok (.iconst 1, 1) := dc_4 (sg_at zd_dX12_rank__0 10 rfl rfl)
theorem dX12_rank__18 : decode cX12_rank_ 18 = .ok (.invokestatic 199, 3) := dc_184 (sg_at zd_dX12_rank__0 11 rfl rfl) rfl
theorem dX12_rank__21 : decode cX12_rank_ 21 = .ok (.ifCond .ne 5, 3) := dc_154 (sg_at zd_dX12_rank__0 12 rfl rfl) rfl
theorem dX12_rank__24 : decode cX12_rank_ 24 = .ok (.iconst (-1), 1) := dc_2 (sg_at zd_dX12_rank__0 13 rfl rfl)
theorem dX12_rank__25 : decode cX12_rank_ 25 = .ok (.ireturn, 1) := dc_172 (sg_at zd_dX12_rank__0 14 rfl rfl)
theorem dX12_rank__26 : decode cX12_rank_ 26 = .ok (.iconst 0, 1) := dc_3 (sg_at zd_dX12_rank__0 15 rfl rfl)
theorem dX12_rank__27 : decode cX12_rank_ 27 = .ok (.istore_n 3, 1) := dc_62 (sg_at zd_dX12_rank__0 16 rfl rfl)
theorem dX12_rank__28 : decode cX12_rank_ 28 = .ok (.iconst 0, 1) := dc_3 (sg_at zd_dX12_rank__0 17 rfl rfl)
theorem dX12_rank__29 : decode cX12_rank_ 29 = .ok (.istore 4, 2) := dc_54 (sg_at zd_dX12_rank__0 18 rfl rfl)
theorem dX12_rank__31 : decode cX12_rank_ 31 = .ok (.iconst 0, 1) := dc_3 (sg_at zd_dX12_rank__0 19 rfl rfl)
theorem zd_dX12_rank__32 : sg (cX12_rank_.data.toList.drop 32) [[54, 5], [21, 5], [42], [180, 0, 250], [162, 0, 119], [42], [21, 5], [182, 1, 244], [42], [180, 0, 45], [21, 5], [46], [100], [27], [162, 0, 6], [167, 0, 92], [132, 3, 1], [3], [54, 6], [42]] = true := by decide +kernel
theorem dX12_rank__32 : decode cX12_rank_ 32 = .ok (.istore 5, 2) := dc_54 (sg_at zd_dX12_rank__32 0 rfl rfl)
theorem dX12_rank__34 : decode cX12_rank_ 34 = .ok (.iload 5, 2) := dc_21 (sg_at zd_dX12_rank__32 1 rfl rfl)
theorem dX12_rank__36 : decode cX12_rank_ 36 = .ok (.aload_n 0, 1) := dc_42 (sg_at zd_dX12_rank__32 2 rfl rfl)
theorem dX12_rank__37 : decode cX12_rank_ 37 = .ok (.getfield 250, 3) := dc_180 (sg_at zd_dX12_rank__32 3 rfl rfl) rfl
theorem dX12_rank__40 : decode cX12_rank_ 40 = .ok (.if_icmp .ge 119, 3) := dc_162 (sg_at zd_dX12_rank__32 4 rfl rfl) rfl
theorem dX12_rank__43 : decode cX12_rank_ 43 = .ok (.aload_n 0, 1) := dc_42 (sg_at zd_dX12_rank__32 5 rfl rfl)
theorem dX12_rank__44 : decode cX12_rank_ 44 = .ok (.iload 5, 2) := dc_21 (sg_at zd_dX12_rank__32 6 rfl rfl)
theorem dX12_rank__46 : decode cX12_rank_ 46 = .ok (.invokevirtual 500, 3) := dc_182 (sg_at zd_dX12_rank__32 7 rfl rfl) rfl
theorem dX12_rank__49 : decode cX12_rank_ 49 = .ok (.aload_n 0, 1) := dc_42 (sg_at zd_dX12_rank__32 8 rfl rfl)
theorem dX12_rank__50 : decode cX12_rank_ 50 = .ok (.getfield 45, 3) := dc_180 (sg_at zd_dX12_rank__32 9 rfl rfl) rfl
theorem dX12_rank__53 : decode cX12_rank_ 53 = .ok (.iload 5, 2) := dc_21 (sg_at zd_dX12_rank__32 10 rfl rfl)
theorem dX12_rank__55 : decode cX12_rank_ 55 = .ok (.iaload, 1) := dc_46 (sg_at zd_dX12_rank__32 11 rfl rfl)
theorem dX12_rank__56 : decode cX12_rank_ 56 = .ok (.isub, 1) := dc_100 (sg_at zd_dX12_rank__32 12 rfl rfl)
theorem dX12_rank__57 : decode cX12_rank_ 57 = .ok (.iload_n 1, 1) := dc_27 (sg_at zd_dX12_rank__32 13 rfl rfl)
theorem dX12_rank__58 : decode cX12_rank_ 58 = .ok (.if_icmp .ge 6, 3) := dc_162 (sg_at zd_dX12_rank__32 14 rfl rfl) rfl
theorem dX12_rank__61 : decode cX12_rank_ 61 = .ok (.goto 92, 3) := dc_167 (sg_at zd_dX12_rank__32 15 rfl rfl) rfl
theorem dX12_rank__64 : decode cX12_rank_ 64 = .ok (.iinc 3 1, 3) := dc_132 (sg_at zd_dX12_rank__32 16 rfl rfl) rfl
theorem dX12_rank__67 : decode cX12_rank_ 67 = .ok (.iconst 0, 1) := dc_3 (sg_at zd_dX12_rank__32 17 rfl rfl)
theorem dX12_rank__68 : decode cX12_rank_ 68 = .ok (.istore 6, 2) := dc_54 (sg_at zd_dX12_rank__32 18 rfl rfl)
theorem dX12_rank__70 : decode cX12_rank_ 70 = .ok (.aload_n 0, 1) := dc_42 (sg_at zd_dX12_rank__32 19 rfl rfl)
theorem zd_dX12_rank__71 : sg (cX12_rank_.data.toList.drop 71) [[180, 0, 45], [21, 5], [46], [54, 7], [21, 7], [42], [21, 5], [182, 1, 244], [162, 0, 35], [42], [180, 0, 51], [21, 7], [46], [21, 6], [164, 0, 13], [42], [180, 0, 51], [21, 7], [46], [167, 0, 5]] = true := by decide +kernel
theorem dX12_rank__71 : decode cX12_rank_ 71 = .ok (.getfield 45, 3) := dc_180 (sg_at zd_dX12_rank__71 0 rfl rfl) rfl
theorem dX12_rank__74 : decode cX12_rank_ 74 = .ok (.iload 5, 2) := dc_21 (sg_at zd_dX12_rank__71 1 rfl rfl)
theorem dX12_rank__76 : decode cX12_rank_ 76 = .ok (.iaload, 1) := dc_46 (sg_at zd_dX12_rank__71 2 rfl rfl)
theorem dX12_rank__77 : decode cX12_rank_ 77 = .ok (.istore 7, 2) := dc_54 (sg_at zd_dX12_rank__71 3 rfl rfl)
theorem dX12_rank__79 : decode cX12_rank_ 79 = .ok (.iload 7, 2) := dc_21 (sg_at zd_dX12_rank__71 4 rfl rfl)
theorem dX12_rank__81 : decode cX12_rank_ 81 = .ok (.aload_n 0, 1) := dc_42 (sg_at zd_dX12_rank__71 5 rfl rfl)
theorem dX12_rank__82 : decode cX12_rank_ 82 = .ok (.iload 5, 2) := dc_21 (sg_at zd_dX12_rank__71 6 rfl rfl)
theorem dX12_rank__84 : decode cX12_rank_ 84 = .ok (.invokevirtual 500, 3) := dc_182 (sg_at zd_dX12_rank__71 7 rfl rfl) rfl
theorem dX12_rank__87 : decode cX12_rank_ 87 = .ok (.if_icmp .ge 35, 3) := dc_162 (sg_at zd_dX12_rank__71 8 rfl rfl) rfl
theorem dX12_rank__90 : decode cX12_rank_ 90 = .ok (.aload_n 0, 1) := dc_42 (sg_at zd_dX12_rank__71 9 rfl rfl)
theorem dX12_rank__91 : decode cX12_rank_ 91 = .ok (.getfield 51, 3) := dc_180 (sg_at zd_dX12_rank__71 10 rfl rfl) rfl
theorem dX12_rank__94 : decode cX12_rank_ 94 = .ok (.iload 7, 2) := dc_21 (sg_at zd_dX12_rank__71 11 rfl rfl)
theorem dX12_rank__96 : decode cX12_rank_ 96 = .ok (.iaload, 1) := dc_46 (sg_at zd_dX12_rank__71 12 rfl rfl)
theorem dX12_rank__97 : decode cX12_rank_ 97 = .ok (.iload 6, 2) := dc_21 (sg_at zd_dX12_rank__71 13 rfl rfl)
theorem dX12_rank__99 : decode cX12_rank_ 99 = .ok (.if_icmp .le 13, 3) := dc_164 (sg_at zd_dX12_rank__71 14 rfl rfl) rfl
theorem dX12_rank__102 : decode cX12_rank_ 102 = .ok (.aload_n 0, 1) := dc_42 (sg_at zd_dX12_rank__71 15 rfl rfl)
theorem dX12_rank__103 : decode cX12_rank_ 103 = .ok (.getfield 51, 3) := dc_180 (sg_at zd_dX12_rank__71 16 rfl rfl) rfl
theorem dX12_rank__106 : decode cX12_rank_ 106 = .ok (.iload 7, 2) := dc_21 (sg_at zd_dX12_rank__71 17 rfl rfl)
theorem dX12_rank__108 : decode cX12_rank_ 108 = .ok (.iaload, 1) := dc_46 (sg_at zd_dX12_rank__71 18 rfl rfl)
theorem dX12_rank__109 : decode cX12_rank_ 109 = .ok (.goto 5, 3) := dc_167 (sg_at zd_dX12_rank__71 19 rfl rfl) rfl
theorem zd_dX12_rank__112 : sg (cX12_rank_.data.toList.drop 112) [[21, 6], [54, 6], [132, 7, 1], [167, 255, 216], [21, 4], [42], [180, 0, 51], [42], [180, 0, 45], [21, 5], [46], [27], [96], [4], [100], [46], [21, 6], [160, 0, 7], [4], [167, 0, 4]] = true := by decide +kernel
theorem dX12_rank__112 : decode cX12_rank_ 112 = .ok (.iload 6, 2) := dc_21 (sg_at zd_dX12_rank__112 0 rfl rfl)
theorem dX12_rank__114 : decode cX12_rank_ 114 = .ok (.istore 6, 2) := dc_54 (sg_at zd_dX12_rank__112 1 rfl rfl)
theorem dX12_rank__116 : decode cX12_rank_ 116 = .ok (.iinc 7 1, 3) := dc_132 (sg_at zd_dX12_rank__112 2 rfl rfl) rfl
theorem dX12_rank__119 : decode cX12_rank_ 119 = .ok (.goto (-40), 3) := dc_167 (sg_at zd_dX12_rank__112 3 rfl rfl) rfl
theorem dX12_rank__122 : decode cX12_rank_ 122 = .ok (.iload 4, 2) := dc_21 (sg_at zd_dX12_rank__112 4 rfl rfl)
theorem dX12_rank__124 : decode cX12_rank_ 124 = .ok (.aload_n 0, 1) := dc_42 (sg_at zd_dX12_rank__112 5 rfl rfl)
theorem dX12_rank__125 : decode cX12_rank_ 125 = .ok (.getfield 51, 3) := dc_180 (sg_at zd_dX12_rank__112 6 rfl rfl) rfl
theorem dX12_rank__128 : decode cX12_rank_ 128 = .ok (.aload_n 0, 1) := dc_42 (sg_at zd_dX12_rank__112 7 rfl rfl)
theorem dX12_rank__129 : decode cX12_rank_ 129 = .ok (.getfield 45, 3) := dc_180 (sg_at zd_dX12_rank__112 8 rfl rfl) rfl
theorem dX12_rank__132 : decode cX12_rank_ 132 = .ok (.iload 5, 2) := dc_21 (sg_at zd_dX12_rank__112 9 rfl rfl)
theorem dX12_rank__134 : decode cX12_rank_ 134 = .ok (.iaload, 1) := dc_46 (sg_at zd_dX12_rank__112 10 rfl rfl)
theorem dX12_rank__135 : decode cX12_rank_ 135 = .ok (.iload_n 1, 1) := dc_27 (sg_at zd_dX12_rank__112 11 rfl rfl)
theorem dX12_rank__136 : decode cX12_rank_ 136 = .ok (.iadd, 1) := dc_96 (sg_at zd_dX12_rank__112 12 rfl rfl)
theorem dX12_rank__137 : decode cX12_rank_ 137 = .ok (.iconst 1, 1) := dc_4 (sg_at zd_dX12_rank__112 13 rfl rfl)
theorem dX12_rank__138 : decode cX12_rank_ 138 = .ok (.isub, 1) := dc_100 (sg_at zd_dX12_rank__112 14 rfl rfl)
theorem dX12_rank__139 : decode cX12_rank_ 139 = .ok (.iaload, 1) := dc_46 (sg_at zd_dX12_rank__112 15 rfl rfl)
theorem dX12_rank__140 : decode cX12_rank_ 140 = .ok (.iload 6, 2) := dc_21 (sg_at zd_dX12_rank__112 16 rfl rfl)
theorem dX12_rank__142 : decode cX12_rank_ 142 = .ok (.if_icmp .ne 7, 3) := dc_160 (sg_at zd_dX12_rank__112 17 rfl rfl) rfl
theorem dX12_rank__145 : decode cX12_rank_ 145 = .ok (.iconst 1, 1) := dc_4 (sg_at zd_dX12_rank__112 18 rfl rfl)
theorem dX12_rank__146 : decode cX12_rank_ 146 = .ok (.goto 4, 3) := dc_167 (sg_at zd_dX12_rank__112 19 rfl rfl) rfl
theorem zd_dX12_rank__149 : sg (cX12_rank_.data.toList.drop 149) [[3], [96], [54, 4], [132, 5, 1], [167, 255, 134], [28], [154, 0, 8], [21, 4], [167, 0, 4], [29], [172]] = true := by decide +kernel
theorem dX12_rank__149 : decode cX12_rank_ 149 = .ok (.iconst 0, 1) := dc_3 (sg_at zd_dX12_rank__149 0 rfl rfl)
theorem dX12_rank__150 : decode cX12_rank_ 150 = .ok (.iadd, 1) := dc_96 (sg_at zd_dX12_rank__149 1 rfl rfl)
theorem dX12_rank__151 : decode cX12_rank_ 151 = .ok (.istore 4, 2) := dc_54 (sg_at zd_dX12_rank__149 2 rfl rfl)
theorem dX12_rank__153 : decode cX12_rank_ 153 = .ok (.iinc 5 1, 3) := dc_132 (sg_at zd_dX12_rank__149 3 rfl rfl) rfl
theorem dX12_rank__156 : decode cX12_rank_ 156 = .ok (.goto (-122), 3) := dc_167 (sg_at zd_dX12_rank__149 4 rfl rfl) rfl
theorem dX12_rank__159 : decode cX12_rank_ 159 = .ok (.iload_n 2, 1) := dc_28 (sg_at zd_dX12_rank__149 5 rfl rfl)
theorem dX12_rank__160 : decode cX12_rank_ 160 = .ok (.ifCond .ne 8, 3) := dc_154 (sg_at zd_dX12_rank__149 6 rfl rfl) rfl
theorem dX12_rank__163 : decode cX12_rank_ 163 = .ok (.iload 4, 2) := dc_21 (sg_at zd_dX12_rank__149 7 rfl rfl)
theorem dX12_rank__165 : decode cX12_rank_ 165 = .ok (.goto 4, 3) := dc_167 (sg_at zd_dX12_rank__149 8 rfl rfl) rfl
theorem dX12_rank__168 : decode cX12_rank_ 168 = .ok (.iload_n 3, 1) := dc_29 (sg_at zd_dX12_rank__149 9 rfl rfl)
theorem dX12_rank__169 : decode cX12_rank_ 169 = .ok (.ireturn, 1) := dc_172 (sg_at zd_dX12_rank__149 10 rfl rfl)
theorem zd_dX12_remember_0 : sg (cX12_remember.data.toList.drop 0) [[42], [180, 1, 123], [16, 20], [160, 0, 43], [3], [60], [27], [17, 0, 209], [162, 0, 24], [42], [180, 0, 142], [27], [42], [180, 0, 142], [27], [16, 11], [96], [46], [79], [132, 1, 1]] = true := by decide +kernel
theorem dX12_remember_0 : decode cX12_remember 0 = .ok (.aload_n 0, 1) := dc_42 (sg_at zd_dX12_remember_0 0 rfl rfl)
theorem dX12_remember_1 : decode cX12_remember 1 = .ok (.getfield 379, 3) := dc_180 (sg_at zd_dX12_remember_0 1 rfl rfl) rfl
theorem dX12_remember_4 : decode cX12_remember 4 = .ok (.bipush 20, 2) := dc_16 (sg_at zd_dX12_remember_0 2 rfl rfl) rfl
theorem dX12_remember_6 : decode cX12_remember 6 = .ok (.if_icmp .ne 43, 3) := dc_160 (sg_at zd_dX12_remember_0 3 rfl rfl) rfl
theorem dX12_remember_9 : decode cX12_remember 9 = .ok (.iconst 0, 1) := dc_3 (sg_at zd_dX12_remember_0 4 rfl rfl)
theorem dX12_remember_10 : decode cX12_remember 10 = .ok (.istore_n 1, 1) := dc_60 (sg_at zd_dX12_remember_0 5 rfl rfl)
theorem dX12_remember_11 : decode cX12_remember 11 = .ok (.iload_n 1, 1) := dc_27 (sg_at zd_dX12_remember_0 6 rfl rfl)
theorem dX12_remember_12 : decode cX12_remember 12 = .ok (.sipush 209, 3) := dc_17 (sg_at zd_dX12_remember_0 7 rfl rfl) rfl
theorem dX12_remember_15 : decode cX12_remember 15 = .ok (.if_icmp .ge 24, 3) := dc_162 (sg_at zd_dX12_remember_0 8 rfl rfl) rfl
theorem dX12_remember_18 : decode cX12_remember 18 = .ok (.aload_n 0, 1) := dc_42 (sg_at zd_dX12_remember_0 9 rfl rfl)
theorem dX12_remember_19 : decode cX12_remember 19 = .ok (.getfield 142, 3) := dc_180 (sg_at zd_dX12_remember_0 10 rfl rfl) rfl
theorem dX12_remember_22 : decode cX12_remember 22 = .ok (.iload_n 1, 1) := dc_27 (sg_at zd_dX12_remember_0 11 rfl rfl)
theorem dX12_remember_23 : decode cX12_remember 23 = .ok (.aload_n 0, 1) := dc_42 (sg_at zd_dX12_remember_0 12 rfl rfl)
theorem dX12_remember_24 : decode cX12_remember 24 = .ok (.getfield 142, 3) := dc_180 (sg_at zd_dX12_remember_0 13 rfl rfl) rfl
theorem dX12_remember_27 : decode cX12_remember 27 = .ok (.iload_n 1, 1) := dc_27 (sg_at zd_dX12_remember_0 14 rfl rfl)
theorem dX12_remember_28 : decode cX12_remember 28 = .ok (.bipush 11, 2) := dc_16 (sg_at zd_dX12_remember_0 15 rfl rfl) rfl
theorem dX12_remember_30 : decode cX12_remember 30 = .ok (.iadd, 1) := dc_96 (sg_at zd_dX12_remember_0 16 rfl rfl)
theorem dX12_remember_31 : decode cX12_remember 31 = .ok (.iaload, 1) := dc_46 (sg_at zd_dX12_remember_0 17 rfl rfl)
theorem dX12_remember_32 : decode cX12_remember 32 = .ok (.iastore, 1) := dc_79 (sg_at zd_dX12_remember_0 18 rfl rfl)
theorem dX12_remember_33 : decode cX12_remember 33 = .ok (.iinc 1 1, 3) := dc_132 (sg_at zd_dX12_remember_0 19 rfl rfl) rfl
theorem zd_dX12_remember_36 : sg (cX12_remember.data.toList.drop 36) [[167, 255, 231], [42], [89], [180, 1, 123], [4], [100], [181, 1, 123], [3], [60], [27], [8], [162, 0, 51], [42], [180, 0, 142], [16, 11], [42], [180, 1, 123], [104], [27], [96]] = true := by decide +kernel
theorem dX12_remember_36 : decode cX12_remember 36 = .ok (.goto (-25), 3) := dc_167 (sg_at zd_dX12_remember_36 0 rfl rfl) rfl
theorem dX12_remember_39 : decode cX12_remember 39 = .ok (.aload_n 0, 1) := dc_42 (sg_at zd_dX12_remember_36 1 rfl rfl)
theorem dX12_remember_40 : decode cX12_remember 40 = .ok (.dup, 1) := dc_89 (sg_at zd_dX12_remember_36 2 rfl rfl)
theorem dX12_remember_41 : decode cX12_remember 41 = .ok (.getfield 379, 3) := dc_180 (sg_at zd_dX12_remember_36 3 rfl rfl) rfl
theorem dX12_remember_44 : decode cX12_remember 44 = .ok (.iconst 1, 1) := dc_4 (sg_at zd_dX12_remember_36 4 rfl rfl)
theorem dX12_remember_45 : decode cX12_remember 45 = .ok (.isub, 1) := dc_100 (sg_at zd_dX12_remember_36 5 rfl rfl)
theorem dX12_remember_46 : decode cX12_remember 46 = .ok (.putfield 379, 3) := dc_181 (sg_at zd_dX12_remember_36 6 rfl rfl) rfl
theorem dX12_remember_49 : decode cX12_remember 49 = .ok (.iconst 0, 1) := dc_3 (sg_at zd_dX12_remember_36 7 rfl rfl)
theorem dX12_remember_50 : decode cX12_remember 50 = .ok (.istore_n 1, 1) := dc_60 (sg_at zd_dX12_remember_36 8 rfl rfl)
theorem dX12_remember_51 : decode cX12_remember 51 = .ok (.iload_n 1, 1) := dc_27 (sg_at zd_dX12_remember_36 9 rfl rfl)
theorem dX12_remember_52 : decode cX12_remember 52 = .ok (.iconst 5, 1) := dc_8 (sg_at zd_dX12_remember_36 10 rfl rfl)
theorem dX12_remember_53 : decode cX12_remember 53 = .ok (.if_icmp .ge 51, 3) := dc_162 (sg_at zd_dX12_remember_36 11 rfl rfl) rfl
theorem dX12_remember_56 : decode cX12_remember 56 = .ok (.aload_n 0, 1) := dc_42 (sg_at zd_dX12_remember_36 12 rfl rfl)
theorem dX12_remember_57 : decode cX12_remember 57 = .ok (.getfield 142, 3) := dc_180 (sg_at zd_dX12_remember_36 13 rfl rfl) rfl
theorem dX12_remember_60 : decode cX12_remember 60 = .ok (.bipush 11, 2) := dc_16 (sg_at zd_dX12_remember_36 14 rfl rfl) rfl
theorem dX12_remember_62 : decode cX12_remember 62 = .ok (.aload_n 0, 1) := dc_42 (sg_at zd_dX12_remember_36 15 rfl rfl)
theorem dX12_remember_63 : decode cX12_remember 63 = .ok (.getfield 379, 3) := dc_180 (sg_at zd_dX12_remember_36 16 rfl rfl) rfl
theorem dX12_remember_66 : decode cX12_remember 66 = .ok (.imul, 1) := dc_104 (sg_at zd_dX12_remember_36 17 rfl rfl)
theorem dX12_remember_67 : decode cX12_remember 67 = .ok (.iload_n 1, 1) := dc_27 (sg_at zd_dX12_remember_36 18 rfl rfl)
theorem dX12_remember_68 : decode cX12_remember 68 = .ok (.iadd, 1) := dc_96 (sg_at zd_dX12_remember_36 19 rfl rfl)
theorem zd_dX12_remember_69 : sg (cX12_remember.data.toList.drop 69) [[42], [180, 0, 88], [27], [46], [79], [42], [180, 0, 142], [16, 11], [42], [180, 1, 123], [104], [8], [96], [27], [96], [42], [180, 0, 100], [27], [46], [79]] = true := by decide +kernel
theorem dX12_remember_69 : decode cX12_remember 69 = .ok (.aload_n 0, 1) := dc_42 (sg_at zd_dX12_remember_69 0 rfl rfl)
theorem dX12_remember_70 : decode cX12_remember 70 = .ok (.getfield 88, 3) := dc_180 (sg_at zd_dX12_remember_69 1 rfl rfl) rfl
theorem dX12_remember_73 : decode cX12_remember 73 = .ok (.iload_n 1, 1) := dc_27 (sg_at zd_dX12_remember_69 2 rfl rfl)
theorem dX12_remember_74 : decode cX12_remember 74 = .ok (.iaload, 1) := dc_46 (sg_at zd_dX12_remember_69 3 rfl rfl)
theorem dX12_remember_75 : decode cX12_remember 75 = .ok (.iastore, 1) := dc_79 (sg_at zd_dX12_remember_69 4 rfl rfl)
theorem dX12_remember_76 : decode cX12_remember 76 = .ok (.aload_n 0, 1) := dc_42 (sg_at zd_dX12_remember_69 5 rfl rfl)
theorem dX12_remember_77 : decode cX12_remember 77 = .ok (.getfield 142, 3) := dc_180 (sg_at zd_dX12_remember_69 6 rfl rfl) rfl
theorem dX12_remember_80 : decode cX12_remember 80 = .ok (.bipush 11, 2) := dc_16 (sg_at zd_dX12_remember_69 7 rfl rfl) rfl
theorem dX12_remember_82 : decode cX12_remember 82 = .ok (.aload_n 0, 1) := dc_42 (sg_at zd_dX12_remember_69 8 rfl rfl)
theorem dX12_remember_83 : decode cX12_remember 83 = .ok (.getfield 379, 3) := dc_180 (sg_at zd_dX12_remember_69 9 rfl rfl) rfl
theorem dX12_remember_86 : decode cX12_remember 86 = .ok (.imul, 1) := dc_104 (sg_at zd_dX12_remember_69 10 rfl rfl)
theorem dX12_remember_87 : decode cX12_remember 87 = .ok (.iconst 5, 1) := dc_8 (sg_at zd_dX12_remember_69 11 rfl rfl)
theorem dX12_remember_88 : decode cX12_remember 88 = .ok (.iadd, 1) := dc_96 (sg_at zd_dX12_remember_69 12 rfl rfl)
theorem dX12_remember_89 : decode cX12_remember 89 = .ok (.iload_n 1, 1) := dc_27 (sg_at zd_dX12_remember_69 13 rfl rfl)
theorem dX12_remember_90 : decode cX12_remember 90 = .ok (.iadd, 1) := dc_96 (sg_at zd_dX12_remember_69 14 rfl rfl)
theorem dX12_remember_91 : decode cX12_remember 91 = .ok (.aload_n 0, 1) := dc_42 (sg_at zd_dX12_remember_69 15 rfl rfl)
theorem dX12_remember_92 : decode cX12_remember 92 = .ok (.getfield 100, 3) := dc_180 (sg_at zd_dX12_remember_69 16 rfl rfl) rfl
theorem dX12_remember_95 : decode cX12_remember 95 = .ok (.iload_n 1, 1) := dc_27 (sg_at zd_dX12_remember_69 17 rfl rfl)
theorem dX12_remember_96 : decode cX12_remember 96 = .ok (.iaload, 1) := dc_46 (sg_at zd_dX12_remember_69 18 rfl rfl)
theorem dX12_remember_97 : decode cX12_remember 97 = .ok (.iastore, 1) := dc_79 (sg_at zd_dX12_remember_69 19 rfl rfl)
theorem zd_dX12_remember_98 : sg (cX12_remember.data.toList.drop 98) [[132, 1, 1], [167, 255, 206], [42], [180, 0, 142], [16, 11], [42], [180, 1, 123], [104], [16, 10], [96], [42], [180, 1, 113], [79], [42], [89], [180, 1, 123], [4], [96], [181, 1, 123], [177]] = true := by decide +kernel
theorem dX12_remember_98 : decode cX12_remember 98 = .ok (.iinc 1 1, 3) := dc_132 (sg_at zd_dX12_remember_98 0 rfl rfl) rfl
theorem dX12_remember_101 : decode cX12_remember 101 = .ok (.goto (-50), 3) := dc_167 (sg_at zd_dX12_remember_98 1 rfl rfl) rfl
theorem dX12_remember_104 : decode cX12_remember 104 = .ok (.aload_n 0, 1) := dc_42 (sg_at zd_dX12_remember_98 2 rfl rfl)
theorem dX12_remember_105 : decode cX12_remember 105 = .ok (.getfield 142, 3) := dc_180 (sg_at zd_dX12_remember_98 3 rfl rfl) rfl
theorem dX12_remember_108 : decode cX12_remember 108 = .ok (.bipush 11, 2) := dc_16 (sg_at zd_dX12_remember_98 4 rfl rfl) rfl
theorem dX12_remember_110 : decode cX12_remember 110 = .ok (.aload_n 0, 1) := dc_42 (sg_at zd_dX12_remember_98 5 rfl rfl)
theorem dX12_remember_111 : decode cX12_remember 111 = .ok (.getfield 379, 3) := dc_180 (sg_at zd_dX12_remember_98 6 rfl rfl) rfl
theorem dX12_remember_114 : decode cX12_remember 114 = .ok (.imul, 1) := dc_104 (sg_at zd_dX12_remember_98 7 rfl rfl)
theorem dX12_remember_115 : decode cX12_remember 115 = .ok (.bipush 10, 2) := dc_16 (sg_at zd_dX12_remember_98 8 rfl rfl) rfl
theorem dX12_remember_117 : decode cX12_remember 117 = .ok (.iadd, 1) := dc_96 (sg_at zd_dX12_remember_98 9 rfl rfl)
theorem dX12_remember_118 : decode cX12_remember 118 = .ok (.aload_n 0, 1) := dc_42 (sg_at zd_dX12_remember_98 10 rfl rfl)
theorem dX12_remember_119 : decode cX12_remember 119 = .ok (.getfield 369, 3) := dc_180 (sg_at zd_dX12_remember_98 11 rfl rfl) rfl
theorem dX12_remember_122 : decode cX12_remember 122 = .ok (.iastore, 1) := dc_79 (sg_at zd_dX12_remember_98 12 rfl rfl)
theorem dX12_remember_123 : decode cX12_remember 123 = .ok (.aload_n 0, 1) := dc_42 (sg_at zd_dX12_remember_98 13 rfl rfl)
theorem dX12_remember_124 : decode cX12_remember 124 = .ok (.dup, 1) := dc_89 (sg_at zd_dX12_remember_98 14 rfl rfl)
theorem dX12_remember_125 : decode cX12_remember 125 = .ok (.getfield 379, 3) := dc_180 (sg_at zd_dX12_remember_98 15 rfl rfl) rfl
theorem dX12_remember_128 : decode cX12_remember 128 = .ok (.iconst 1, 1) := dc_4 (sg_at zd_dX12_remember_98 16 rfl rfl)
theorem dX12_remember_129 : decode cX12_remember 129 = .ok (.iadd, 1) := dc_96 (sg_at zd_dX12_remember_98 17 rfl rfl)
theorem dX12_remember_130 : decode cX12_remember 130 = .ok (.putfield 379, 3) := dc_181 (sg_at zd_dX12_remember_98 18 rfl rfl) rfl
theorem dX12_remember_133 : decode cX12_remember 133 = .ok (.return_, 1) := dc_177 (sg_at zd_dX12_remember_98 19 rfl rfl)
section
variable {p : Program} {l : Launch} {e : Env} {s : State} {m : MethodId} {args : Array Value} {below : List Frame} {meth : Method} {c : Code} {D : va_G} {cy : Nat → ClassId} {b : Nat} {A : Nat → Prop} {fl : Bool}
def vX12_leafRead : List Cond := .code yX12_leafRead cX12_leafRead 2 (some .boolean) :: TB
theorem gX12_leafRead_X12_grown : GoodIn vX12_leafRead (wsV RX12 312 RX12 yX12_grown vX12_grown) := gV_of wT_31_5 wT_31_6 wT_31_7 wT_1_5 wT_31_8
theorem lp12_leafRead_335 : Pl vX12_leafRead RX12 335 12 50 .boolean := ⟨RX12, TX12, 87, tyX12, rfl, by decide, (fun w h9 => List.mem_cons_of_mem _ (wC_wsX120 w h9)), (List.mem_cons_of_mem _ wT_30_3), tyX12_ok, nmX12, rfl, rfl⟩
theorem gX12_leafRead_X12_token : GoodIn vX12_leafRead (wsV RX12 206 RX12 yX12_token vX12_token) := gV_of wT_26_21 wT_26_22 wT_26_23 wT_1_5 wT_27_0
theorem lf12_leafRead_183 : Fl vX12_leafRead RX12 183 12 9 := ⟨RX12, TX12, 87, rfl, by decide, (fun w h9 => List.mem_cons_of_mem _ (wC_wsX120 w h9)), (List.mem_cons_of_mem _ wT_27_2)⟩
theorem gX12_leafRead_X12_isCounted : GoodIn vX12_leafRead (wsV RX12 329 RX12 yX12_isCounted vX12_isCounted) := gV_of wT_30_21 wT_30_22 wT_30_23 wT_1_5 wT_31_0
theorem gX12_leafRead_X12_wrong : GoodIn vX12_leafRead (wsV RX12 196 RX12 yX12_wrong vX12_wrong) := gV_of wT_28_4 wT_28_5 wT_28_6 wT_1_5 wT_28_7
theorem gX12_leafRead_X12_nameMet : GoodIn vX12_leafRead (wsV RX12 332 RX12 yX12_nameMet vX12_nameMet) := gV_of wT_31_1 wT_31_2 wT_31_3 wT_1_5 wT_31_4
theorem lf12_leafRead_172 : Fl vX12_leafRead RX12 172 12 8 := ⟨RX12, TX12, 87, rfl, by decide, (fun w h9 => List.mem_cons_of_mem _ (wC_wsX120 w h9)), (List.mem_cons_of_mem _ wT_26_20)⟩
theorem gX12_leafRead_X12_isSign : GoodIn vX12_leafRead (wsV RX12 209 RX12 yX12_isSign vX12_isSign) := gV_of wT_30_5 wT_30_6 wT_30_7 wT_1_5 wT_30_8
theorem gX12_leafRead_X12_isKey : GoodIn vX12_leafRead (wsV RX12 326 RX12 yX12_isKey vX12_isKey) := gV_of wT_30_17 wT_30_18 wT_30_19 wT_1_5 wT_30_20
theorem lf12_leafRead_323 : Fl vX12_leafRead RX12 323 12 51 := ⟨RX12, TX12, 87, rfl, by decide, (fun w h9 => List.mem_cons_of_mem _ (wC_wsX120 w h9)), (List.mem_cons_of_mem _ wT_30_4)⟩
theorem gX12_leafRead_X12_waitsFor : GoodIn vX12_leafRead (wsV RX12 319 RX12 yX12_waitsFor vX12_waitsFor) := gV_of wT_30_13 wT_30_14 wT_30_15 wT_1_5 wT_30_16
theorem lf12_leafRead_316 : Fl vX12_leafRead RX12 316 12 48 := ⟨RX12, TX12, 87, rfl, by decide, (fun w h9 => List.mem_cons_of_mem _ (wC_wsX120 w h9)), (List.mem_cons_of_mem _ wT_30_2)⟩
theorem lp12_leafRead_316 : Pl vX12_leafRead RX12 316 12 48 .int := ⟨RX12, TX12, 87, tyX12, rfl, by decide, (fun w h9 => List.mem_cons_of_mem _ (wC_wsX120 w h9)), (List.mem_cons_of_mem _ wT_30_2), tyX12_ok, nmX12, rfl, rfl⟩
theorem lp12_leafRead_323 : Pl vX12_leafRead RX12 323 12 51 .boolean := ⟨RX12, TX12, 87, tyX12, rfl, by decide, (fun w h9 => List.mem_cons_of_mem _ (wC_wsX120 w h9)), (List.mem_cons_of_mem _ wT_30_4), tyX12_ok, nmX12, rfl, rfl⟩
theorem cd12_leafRead : Cd yX12_leafRead 0 := ⟨by decide, by decide, by decide +kernel⟩
set_option maxHeartbeats 4000000 in
set_option maxRecDepth 100000 in
theorem T12_leafRead_160 (S : CallFix p m c cX12_leafRead 2 s args vX12_leafRead RX12) (hr : meth.sig.returnType = (some .boolean)) (hlo : meth.locks = false) {out : Int32 × PH} {h : PH} {a0 : Nat} {s0 : Int32} {s1 : Int32} {u2 : Nat} (f : F12_leafRead_160  h a0 s0 s1 u2 = some out) {H : Heap} {locs : List Loc} (I : ph_I D cy b A fl h s H locs) {ls : Array Slot} (hl : lv_has ls 2 [(0, .ref (b + a0))]) : W p l e ({ frames := 2, cells := 0, slots := 0, locals := 47 } : Room) s m args below meth c H locs 0 0 (MQ below (va_Qi (fun (r : Int32) (u : PH) => (r, u) = out) (ph_B D cy b A fl) A) args s 0 0 A) (F0 m 160 ls [.int s0, .int s1, .ref (b + u2)]) := by
  unfold F12_leafRead_160 at f
  refine lv_iconst (v := 0) S.1 S.2.1 dX12_leafRead_160 (by decide) ?_
  obtain ⟨o1, e2, f⟩ := ob f
  refine o_Vv S (As := [.int s1, .int s0, .int 0]) (rest := []) (ci := 12) (M12_grown l D cy b A fl e2) gX12_leafRead_X12_grown rfl rfl rfl cd12_grown ⟨Nat.le_of_ble_eq_true rfl, Nat.le_of_ble_eq_true rfl⟩ I (gd e2).1 clX12 rfl rfl hl.1 rfl (Nat.le_of_ble_eq_true rfl) dX12_leafRead_161 ⟨Nat.le_of_ble_eq_true rfl, Nat.le_of_ble_eq_true rfl⟩ (fun H locs I => ?_)
  refine lv_aload_n S.1 S.2.1 dX12_leafRead_164 rfl (lv_at hl 0 rfl) ?_
  refine lv_iconst (v := 0) S.1 S.2.1 dX12_leafRead_165 (by decide) ?_
  obtain ⟨h3, e4, f⟩ := ob f
  refine o_pZ S lp12_leafRead_335 I e4 dX12_leafRead_166 (fun H locs I => ?_)
  refine lv_aload_n S.1 S.2.1 dX12_leafRead_169 rfl (lv_at hl 0 rfl) ?_
  obtain ⟨o5, e6, f⟩ := ob f
  refine o_Vv S (As := []) (rest := []) (ci := 12) (M12_token l D cy b A fl e6) gX12_leafRead_X12_token rfl rfl rfl cd12_token ⟨Nat.le_of_ble_eq_true rfl, Nat.le_of_ble_eq_true rfl⟩ I (gd e6).1 clX12 rfl rfl hl.1 rfl (Nat.le_of_ble_eq_true rfl) dX12_leafRead_170 ⟨Nat.le_of_ble_eq_true rfl, Nat.le_of_ble_eq_true rfl⟩ (fun H locs I => ?_)
  refine lv_iconst (v := 1) S.1 S.2.1 dX12_leafRead_173 (by decide) ?_
  exact o_zret S hr hlo I f dX12_leafRead_174
set_option maxHeartbeats 4000000 in
set_option maxRecDepth 100000 in
theorem T12_leafRead_148 (S : CallFix p m c cX12_leafRead 2 s args vX12_leafRead RX12) (hr : meth.sig.returnType = (some .boolean)) (hlo : meth.locks = false) {out : Int32 × PH} {h : PH} {a0 : Nat} {x1 : Int32} {s0 : Int32} {u1 : Nat} (f : F12_leafRead_148  h a0 x1 s0 u1 = some out) {H : Heap} {locs : List Loc} (I : ph_I D cy b A fl h s H locs) {ls : Array Slot} (hl : lv_has ls 2 [(0, .ref (b + a0)), (1, .int x1)]) : W p l e ({ frames := 2, cells := 0, slots := 0, locals := 47 } : Room) s m args below meth c H locs 0 0 (MQ below (va_Qi (fun (r : Int32) (u : PH) => (r, u) = out) (ph_B D cy b A fl) A) args s 0 0 A) (F0 m 148 ls [.int s0, .ref (b + u1)]) := by
  unfold F12_leafRead_148 at f
  refine lv_iload_n S.1 S.2.1 dX12_leafRead_148 rfl (lv_at hl 1 rfl) ?_
  refine lv_if_lt (tgt := 156) S.1 S.2.1 dX12_leafRead_149 (by decide) (fun q1 => ?_) (fun q1 => ?_)
  · have f := (if_pos q1).symm.trans f
    refine lv_aload_n S.1 S.2.1 dX12_leafRead_156 rfl (lv_at hl 0 rfl) ?_
    obtain ⟨v2, e3, f⟩ := ob f
    refine o_gI S lf12_leafRead_183 I e3 dX12_leafRead_157 ?_
    exact T12_leafRead_160 S hr hlo  f I (lv_sub hl [0] rfl)
  · have f := (if_neg q1).symm.trans f
    refine lv_iload_n S.1 S.2.1 dX12_leafRead_152 rfl (lv_at hl 1 rfl) ?_
    refine lv_goto (tgt := 160) S.1 S.2.1 dX12_leafRead_153 (by decide) ?_
    exact T12_leafRead_160 S hr hlo  f I (lv_sub hl [0] rfl)
set_option maxHeartbeats 4000000 in
set_option maxRecDepth 100000 in
theorem T12_leafRead_129 (S : CallFix p m c cX12_leafRead 2 s args vX12_leafRead RX12) (hr : meth.sig.returnType = (some .boolean)) (hlo : meth.locks = false) {out : Int32 × PH} {h : PH} {a0 : Nat} {x1 : Int32} (f : F12_leafRead_129  h a0 x1 = some out) {H : Heap} {locs : List Loc} (I : ph_I D cy b A fl h s H locs) {ls : Array Slot} (hl : lv_has ls 2 [(0, .ref (b + a0)), (1, .int x1)]) : W p l e ({ frames := 2, cells := 0, slots := 0, locals := 47 } : Room) s m args below meth c H locs 0 0 (MQ below (va_Qi (fun (r : Int32) (u : PH) => (r, u) = out) (ph_B D cy b A fl) A) args s 0 0 A) (F0 m 129 ls []) := by
  unfold F12_leafRead_129 at f
  refine lv_aload_n S.1 S.2.1 dX12_leafRead_129 rfl (lv_at hl 0 rfl) ?_
  obtain ⟨o1, e2, f⟩ := ob f
  refine o_Vi S (As := []) (rest := []) (ci := 12) (M12_isCounted l D cy b A fl e2) gX12_leafRead_X12_isCounted rfl rfl rfl cd12_isCounted ⟨Nat.le_of_ble_eq_true rfl, Nat.le_of_ble_eq_true rfl⟩ I (gd e2).1 clX12 rfl rfl hl.1 rfl (Nat.le_of_ble_eq_true rfl) dX12_leafRead_130 ⟨Nat.le_of_ble_eq_true rfl, Nat.le_of_ble_eq_true rfl⟩ (fun H locs I => ?_)
  refine lv_if_ne (tgt := 138) S.1 S.2.1 dX12_leafRead_133 (by decide) (fun q3 => ?_) (fun q3 => ?_)
  · have f := (if_neg q3).symm.trans f
    refine lv_aload_n S.1 S.2.1 dX12_leafRead_138 rfl (lv_at hl 0 rfl) ?_
    refine lv_iload_n S.1 S.2.1 dX12_leafRead_139 rfl (lv_at hl 1 rfl) ?_
    refine lv_if_lt (tgt := 147) S.1 S.2.1 dX12_leafRead_140 (by decide) (fun q4 => ?_) (fun q4 => ?_)
    · have f := (if_pos q4).symm.trans f
      refine lv_iconst (v := 0) S.1 S.2.1 dX12_leafRead_147 (by decide) ?_
      exact T12_leafRead_148 S hr hlo  f I (lv_sub hl [0, 1] rfl)
    · have f := (if_neg q4).symm.trans f
      refine lv_iconst (v := 1) S.1 S.2.1 dX12_leafRead_143 (by decide) ?_
      refine lv_goto (tgt := 148) S.1 S.2.1 dX12_leafRead_144 (by decide) ?_
      exact T12_leafRead_148 S hr hlo  f I (lv_sub hl [0, 1] rfl)
  · have f := (if_pos q3).symm.trans f
    refine lv_iconst (v := 0) S.1 S.2.1 dX12_leafRead_136 (by decide) ?_
    exact o_zret S hr hlo I f dX12_leafRead_137
set_option maxHeartbeats 4000000 in
set_option maxRecDepth 100000 in
theorem T12_leafRead_109 (S : CallFix p m c cX12_leafRead 2 s args vX12_leafRead RX12) (hr : meth.sig.returnType = (some .boolean)) (hlo : meth.locks = false) {out : Int32 × PH} {h : PH} {a0 : Nat} {x1 : Int32} (f : F12_leafRead_109  h a0 x1 = some out) {H : Heap} {locs : List Loc} (I : ph_I D cy b A fl h s H locs) {ls : Array Slot} (hl : lv_has ls 2 [(0, .ref (b + a0)), (1, .int x1)]) : W p l e ({ frames := 2, cells := 0, slots := 0, locals := 47 } : Room) s m args below meth c H locs 0 0 (MQ below (va_Qi (fun (r : Int32) (u : PH) => (r, u) = out) (ph_B D cy b A fl) A) args s 0 0 A) (F0 m 109 ls []) := by
  unfold F12_leafRead_109 at f
  refine lv_iload_n S.1 S.2.1 dX12_leafRead_109 rfl (lv_at hl 1 rfl) ?_
  refine lv_if_ge (tgt := 129) S.1 S.2.1 dX12_leafRead_110 (by decide) (fun q1 => ?_) (fun q1 => ?_)
  · have f := (if_pos q1).symm.trans f
    exact T12_leafRead_129 S hr hlo  f I (lv_sub hl [0, 1] rfl)
  · have f := (if_neg q1).symm.trans f
    refine lv_aload_n S.1 S.2.1 dX12_leafRead_113 rfl (lv_at hl 0 rfl) ?_
    obtain ⟨v2, e3, f⟩ := ob f
    refine o_gI S lf12_leafRead_183 I e3 dX12_leafRead_114 ?_
    refine lv_sipush (v := 9999) S.1 S.2.1 dX12_leafRead_117 (by decide) ?_
    refine lv_icmp_le (tgt := 129) S.1 S.2.1 dX12_leafRead_120 (by decide) (fun q4 => ?_) (fun q4 => ?_)
    · have f := (if_pos q4).symm.trans f
      exact T12_leafRead_129 S hr hlo  f I (lv_sub hl [0, 1] rfl)
    · have f := (if_neg q4).symm.trans f
      refine lv_aload_n S.1 S.2.1 dX12_leafRead_123 rfl (lv_at hl 0 rfl) ?_
      refine lv_iconst (v := 2) S.1 S.2.1 dX12_leafRead_124 (by decide) ?_
      obtain ⟨o5, e6, f⟩ := ob f
      refine o_Vi S (As := [.int 2]) (rest := []) (ci := 12) (M12_wrong l D cy b A fl e6) gX12_leafRead_X12_wrong rfl rfl rfl cd12_wrong ⟨Nat.le_of_ble_eq_true rfl, Nat.le_of_ble_eq_true rfl⟩ I (gd e6).1 clX12 rfl rfl hl.1 rfl (Nat.le_of_ble_eq_true rfl) dX12_leafRead_125 ⟨Nat.le_of_ble_eq_true rfl, Nat.le_of_ble_eq_true rfl⟩ (fun H locs I => ?_)
      exact o_zret S hr hlo I f dX12_leafRead_128
set_option maxHeartbeats 4000000 in
set_option maxRecDepth 100000 in
theorem T12_leafRead_86 (S : CallFix p m c cX12_leafRead 2 s args vX12_leafRead RX12) (hr : meth.sig.returnType = (some .boolean)) (hlo : meth.locks = false) {out : Int32 × PH} {h : PH} {a0 : Nat} (f : F12_leafRead_86  h a0 = some out) {H : Heap} {locs : List Loc} (I : ph_I D cy b A fl h s H locs) {ls : Array Slot} (hl : lv_has ls 2 [(0, .ref (b + a0))]) : W p l e ({ frames := 2, cells := 0, slots := 0, locals := 47 } : Room) s m args below meth c H locs 0 0 (MQ below (va_Qi (fun (r : Int32) (u : PH) => (r, u) = out) (ph_B D cy b A fl) A) args s 0 0 A) (F0 m 86 ls []) := by
  unfold F12_leafRead_86 at f
  refine lv_aload_n S.1 S.2.1 dX12_leafRead_86 rfl (lv_at hl 0 rfl) ?_
  obtain ⟨o1, e2, f⟩ := ob f
  refine o_Vi S (As := []) (rest := []) (ci := 12) (M12_nameMet l D cy b A fl e2) gX12_leafRead_X12_nameMet rfl rfl rfl cd12_nameMet ⟨Nat.le_of_ble_eq_true rfl, Nat.le_of_ble_eq_true rfl⟩ I (gd e2).1 clX12 rfl rfl hl.1 rfl (Nat.le_of_ble_eq_true rfl) dX12_leafRead_87 ⟨Nat.le_of_ble_eq_true rfl, Nat.le_of_ble_eq_true rfl⟩ (fun H locs I => ?_)
  refine lv_istore_n (lv' := [(1, .int o1.1), (0, .ref (b + a0))]) S.1 S.2.1 dX12_leafRead_90 rfl hl (by decide) rfl (fun ls hl => ?_)
  refine lv_iload_n S.1 S.2.1 dX12_leafRead_91 rfl (lv_at hl 0 rfl) ?_
  refine lv_if_ge (tgt := 109) S.1 S.2.1 dX12_leafRead_92 (by decide) (fun q3 => ?_) (fun q3 => ?_)
  · have f := (if_pos q3).symm.trans f
    exact T12_leafRead_109 S hr hlo  f I (lv_sub hl [1, 0] rfl)
  · have f := (if_neg q3).symm.trans f
    refine lv_aload_n S.1 S.2.1 dX12_leafRead_95 rfl (lv_at hl 1 rfl) ?_
    obtain ⟨v4, e5, f⟩ := ob f
    refine o_gI S lf12_leafRead_172 I e5 dX12_leafRead_96 ?_
    refine lv_iconst (v := 3) S.1 S.2.1 dX12_leafRead_99 (by decide) ?_
    refine lv_icmp_eq (tgt := 109) S.1 S.2.1 dX12_leafRead_100 (by decide) (fun q6 => ?_) (fun q6 => ?_)
    · have f := (if_pos q6).symm.trans f
      exact T12_leafRead_109 S hr hlo  f I (lv_sub hl [1, 0] rfl)
    · have f := (if_neg q6).symm.trans f
      refine lv_aload_n S.1 S.2.1 dX12_leafRead_103 rfl (lv_at hl 1 rfl) ?_
      refine lv_iconst (v := 1) S.1 S.2.1 dX12_leafRead_104 (by decide) ?_
      obtain ⟨o7, e8, f⟩ := ob f
      refine o_Vi S (As := [.int 1]) (rest := []) (ci := 12) (M12_wrong l D cy b A fl e8) gX12_leafRead_X12_wrong rfl rfl rfl cd12_wrong ⟨Nat.le_of_ble_eq_true rfl, Nat.le_of_ble_eq_true rfl⟩ I (gd e8).1 clX12 rfl rfl hl.1 rfl (Nat.le_of_ble_eq_true rfl) dX12_leafRead_105 ⟨Nat.le_of_ble_eq_true rfl, Nat.le_of_ble_eq_true rfl⟩ (fun H locs I => ?_)
      exact o_zret S hr hlo I f dX12_leafRead_108
set_option maxHeartbeats 4000000 in
set_option maxRecDepth 100000 in
theorem T12_leafRead_0 (S : CallFix p m c cX12_leafRead 2 s args vX12_leafRead RX12) (hr : meth.sig.returnType = (some .boolean)) (hlo : meth.locks = false) {out : Int32 × PH} {h : PH} {a0 : Nat} (f : F12_leafRead_0  h a0 = some out) {H : Heap} {locs : List Loc} (I : ph_I D cy b A fl h s H locs) {ls : Array Slot} (hl : lv_has ls 2 [(0, .ref (b + a0))]) : W p l e ({ frames := 2, cells := 0, slots := 0, locals := 47 } : Room) s m args below meth c H locs 0 0 (MQ below (va_Qi (fun (r : Int32) (u : PH) => (r, u) = out) (ph_B D cy b A fl) A) args s 0 0 A) (F0 m 0 ls []) := by
  unfold F12_leafRead_0 at f
  refine lv_aload_n S.1 S.2.1 dX12_leafRead_0 rfl (lv_at hl 0 rfl) ?_
  refine lv_bipush (v := 40) S.1 S.2.1 dX12_leafRead_1 (by decide) ?_
  obtain ⟨o1, e2, f⟩ := ob f
  refine o_Vi S (As := [.int 40]) (rest := []) (ci := 12) (M12_isSign l D cy b A fl e2) gX12_leafRead_X12_isSign rfl rfl rfl cd12_isSign ⟨Nat.le_of_ble_eq_true rfl, Nat.le_of_ble_eq_true rfl⟩ I (gd e2).1 clX12 rfl rfl hl.1 rfl (Nat.le_of_ble_eq_true rfl) dX12_leafRead_3 ⟨Nat.le_of_ble_eq_true rfl, Nat.le_of_ble_eq_true rfl⟩ (fun H locs I => ?_)
  refine lv_if_eq (tgt := 50) S.1 S.2.1 dX12_leafRead_6 (by decide) (fun q3 => ?_) (fun q3 => ?_)
  · have f := (if_pos q3).symm.trans f
    refine lv_aload_n S.1 S.2.1 dX12_leafRead_50 rfl (lv_at hl 0 rfl) ?_
    refine lv_bipush (v := 17) S.1 S.2.1 dX12_leafRead_51 (by decide) ?_
    obtain ⟨o4, e5, f⟩ := ob f
    refine o_Vi S (As := [.int 17]) (rest := []) (ci := 12) (M12_isKey l D cy b A fl e5) gX12_leafRead_X12_isKey rfl rfl rfl cd12_isKey ⟨Nat.le_of_ble_eq_true rfl, Nat.le_of_ble_eq_true rfl⟩ I (gd e5).1 clX12 rfl rfl hl.1 rfl (Nat.le_of_ble_eq_true rfl) dX12_leafRead_53 ⟨Nat.le_of_ble_eq_true rfl, Nat.le_of_ble_eq_true rfl⟩ (fun H locs I => ?_)
    refine lv_if_eq (tgt := 86) S.1 S.2.1 dX12_leafRead_56 (by decide) (fun q6 => ?_) (fun q6 => ?_)
    · have f := (if_pos q6).symm.trans f
      exact T12_leafRead_86 S hr hlo  f I (lv_sub hl [0] rfl)
    · have f := (if_neg q6).symm.trans f
      refine lv_aload_n S.1 S.2.1 dX12_leafRead_59 rfl (lv_at hl 0 rfl) ?_
      obtain ⟨v7, e8, f⟩ := ob f
      refine o_gI S lf12_leafRead_323 I e8 dX12_leafRead_60 ?_
      refine lv_if_eq (tgt := 86) S.1 S.2.1 dX12_leafRead_63 (by decide) (fun q9 => ?_) (fun q9 => ?_)
      · have f := (if_pos q9).symm.trans f
        exact T12_leafRead_86 S hr hlo  f I (lv_sub hl [0] rfl)
      · have f := (if_neg q9).symm.trans f
        refine lv_aload_n S.1 S.2.1 dX12_leafRead_66 rfl (lv_at hl 0 rfl) ?_
        obtain ⟨o10, e11, f⟩ := ob f
        refine o_Vi S (As := []) (rest := []) (ci := 12) (M12_isCounted l D cy b A fl e11) gX12_leafRead_X12_isCounted rfl rfl rfl cd12_isCounted ⟨Nat.le_of_ble_eq_true rfl, Nat.le_of_ble_eq_true rfl⟩ I (gd e11).1 clX12 rfl rfl hl.1 rfl (Nat.le_of_ble_eq_true rfl) dX12_leafRead_67 ⟨Nat.le_of_ble_eq_true rfl, Nat.le_of_ble_eq_true rfl⟩ (fun H locs I => ?_)
        refine lv_if_ne (tgt := 75) S.1 S.2.1 dX12_leafRead_70 (by decide) (fun q12 => ?_) (fun q12 => ?_)
        · have f := (if_neg q12).symm.trans f
          refine lv_aload_n S.1 S.2.1 dX12_leafRead_75 rfl (lv_at hl 0 rfl) ?_
          refine lv_iconst (v := 2) S.1 S.2.1 dX12_leafRead_76 (by decide) ?_
          obtain ⟨o13, e14, f⟩ := ob f
          refine o_Vv S (As := [.int 2]) (rest := []) (ci := 12) (M12_waitsFor l D cy b A fl e14) gX12_leafRead_X12_waitsFor rfl rfl rfl cd12_waitsFor ⟨Nat.le_of_ble_eq_true rfl, Nat.le_of_ble_eq_true rfl⟩ I (gd e14).1 clX12 rfl rfl hl.1 rfl (Nat.le_of_ble_eq_true rfl) dX12_leafRead_77 ⟨Nat.le_of_ble_eq_true rfl, Nat.le_of_ble_eq_true rfl⟩ (fun H locs I => ?_)
          refine lv_aload_n S.1 S.2.1 dX12_leafRead_80 rfl (lv_at hl 0 rfl) ?_
          obtain ⟨o15, e16, f⟩ := ob f
          refine o_Vv S (As := []) (rest := []) (ci := 12) (M12_token l D cy b A fl e16) gX12_leafRead_X12_token rfl rfl rfl cd12_token ⟨Nat.le_of_ble_eq_true rfl, Nat.le_of_ble_eq_true rfl⟩ I (gd e16).1 clX12 rfl rfl hl.1 rfl (Nat.le_of_ble_eq_true rfl) dX12_leafRead_81 ⟨Nat.le_of_ble_eq_true rfl, Nat.le_of_ble_eq_true rfl⟩ (fun H locs I => ?_)
          refine lv_iconst (v := 1) S.1 S.2.1 dX12_leafRead_84 (by decide) ?_
          exact o_zret S hr hlo I f dX12_leafRead_85
        · have f := (if_pos q12).symm.trans f
          refine lv_iconst (v := 0) S.1 S.2.1 dX12_leafRead_73 (by decide) ?_
          exact o_zret S hr hlo I f dX12_leafRead_74
  · have f := (if_neg q3).symm.trans f
    refine lv_aload_n S.1 S.2.1 dX12_leafRead_9 rfl (lv_at hl 0 rfl) ?_
    obtain ⟨v17, e18, f⟩ := ob f
    refine o_gI S lf12_leafRead_316 I e18 dX12_leafRead_10 ?_
    refine lv_bipush (v := 8) S.1 S.2.1 dX12_leafRead_13 (by decide) ?_
    refine lv_icmp_ne (tgt := 24) S.1 S.2.1 dX12_leafRead_15 (by decide) (fun q19 => ?_) (fun q19 => ?_)
    · have f := (if_neg q19).symm.trans f
      refine lv_aload_n S.1 S.2.1 dX12_leafRead_24 rfl (lv_at hl 0 rfl) ?_
      refine lv_dup S.1 S.2.1 dX12_leafRead_25 rfl ?_
      obtain ⟨v20, e21, f⟩ := ob f
      refine o_gI S lf12_leafRead_316 I e21 dX12_leafRead_26 ?_
      refine lv_iconst (v := 1) S.1 S.2.1 dX12_leafRead_29 (by decide) ?_
      refine lv_iadd S.1 S.2.1 dX12_leafRead_30 ?_
      obtain ⟨h22, e23, f⟩ := ob f
      refine o_pI S lp12_leafRead_316 I e23 dX12_leafRead_31 (fun H locs I => ?_)
      refine lv_aload_n S.1 S.2.1 dX12_leafRead_34 rfl (lv_at hl 0 rfl) ?_
      refine lv_iconst (v := 0) S.1 S.2.1 dX12_leafRead_35 (by decide) ?_
      obtain ⟨o24, e25, f⟩ := ob f
      refine o_Vv S (As := [.int 0]) (rest := []) (ci := 12) (M12_waitsFor l D cy b A fl e25) gX12_leafRead_X12_waitsFor rfl rfl rfl cd12_waitsFor ⟨Nat.le_of_ble_eq_true rfl, Nat.le_of_ble_eq_true rfl⟩ I (gd e25).1 clX12 rfl rfl hl.1 rfl (Nat.le_of_ble_eq_true rfl) dX12_leafRead_36 ⟨Nat.le_of_ble_eq_true rfl, Nat.le_of_ble_eq_true rfl⟩ (fun H locs I => ?_)
      refine lv_aload_n S.1 S.2.1 dX12_leafRead_39 rfl (lv_at hl 0 rfl) ?_
      refine lv_iconst (v := 1) S.1 S.2.1 dX12_leafRead_40 (by decide) ?_
      obtain ⟨h26, e27, f⟩ := ob f
      refine o_pZ S lp12_leafRead_323 I e27 dX12_leafRead_41 (fun H locs I => ?_)
      refine lv_aload_n S.1 S.2.1 dX12_leafRead_44 rfl (lv_at hl 0 rfl) ?_
      obtain ⟨o28, e29, f⟩ := ob f
      refine o_Vv S (As := []) (rest := []) (ci := 12) (M12_token l D cy b A fl e29) gX12_leafRead_X12_token rfl rfl rfl cd12_token ⟨Nat.le_of_ble_eq_true rfl, Nat.le_of_ble_eq_true rfl⟩ I (gd e29).1 clX12 rfl rfl hl.1 rfl (Nat.le_of_ble_eq_true rfl) dX12_leafRead_45 ⟨Nat.le_of_ble_eq_true rfl, Nat.le_of_ble_eq_true rfl⟩ (fun H locs I => ?_)
      refine lv_iconst (v := 1) S.1 S.2.1 dX12_leafRead_48 (by decide) ?_
      exact o_zret S hr hlo I f dX12_leafRead_49
    · have f := (if_pos q19).symm.trans f
      refine lv_aload_n S.1 S.2.1 dX12_leafRead_18 rfl (lv_at hl 0 rfl) ?_
      refine lv_iconst (v := 2) S.1 S.2.1 dX12_leafRead_19 (by decide) ?_
      obtain ⟨o30, e31, f⟩ := ob f
      refine o_Vi S (As := [.int 2]) (rest := []) (ci := 12) (M12_wrong l D cy b A fl e31) gX12_leafRead_X12_wrong rfl rfl rfl cd12_wrong ⟨Nat.le_of_ble_eq_true rfl, Nat.le_of_ble_eq_true rfl⟩ I (gd e31).1 clX12 rfl rfl hl.1 rfl (Nat.le_of_ble_eq_true rfl) dX12_leafRead_20 ⟨Nat.le_of_ble_eq_true rfl, Nat.le_of_ble_eq_true rfl⟩ (fun H locs I => ?_)
      exact o_zret S hr hlo I f dX12_leafRead_23
theorem M12_leafRead (l : Launch) (D : va_G) (cy : Nat → ClassId) (b : Nat) (A : Nat → Prop) (fl : Bool) {h : PH} {a0 : Nat} {out : Int32 × PH} (f : F12_leafRead h a0 = some out) : Met l yX12_leafRead vX12_leafRead ({ frames := 2, cells := 0, slots := 0, locals := 47 } : Room) (va_Pc [.ref (b + a0)] (ph_B D cy b A fl h)) (va_Qi (fun (r : Int32) (u : PH) => (r, u) = out) (ph_B D cy b A fl) A) 0 0 A :=
  o_met (by decide) rfl (Nat.le_of_ble_eq_true rfl) rfl (fun p e s m below meth c S hr hlo hnm ls hl I => T12_leafRead_0 S hr hlo ((gd f).2) I (lv_sub hl [0] rfl))
def vX12_seaLine : List Cond := .code yX12_seaLine cX12_seaLine 1 (some .boolean) :: TB
theorem lf12_seaLine_20 : Fl vX12_seaLine RX12 20 12 25 := ⟨RX12, TX12, 87, rfl, by decide, (fun w h9 => List.mem_cons_of_mem _ (wC_wsX120 w h9)), (List.mem_cons_of_mem _ wT_10_0)⟩
theorem lf12_seaLine_237 : Fl vX12_seaLine RX12 237 12 24 := ⟨RX12, TX12, 87, rfl, by decide, (fun w h9 => List.mem_cons_of_mem _ (wC_wsX120 w h9)), (List.mem_cons_of_mem _ wT_12_5)⟩
theorem gX12_seaLine_X12_token : GoodIn vX12_seaLine (wsV RX12 206 RX12 yX12_token vX12_token) := gV_of wT_26_21 wT_26_22 wT_26_23 wT_1_5 wT_27_0
theorem gX12_seaLine_X12_number : GoodIn vX12_seaLine (wsV RX12 212 RX12 yX12_number vX12_number) := gV_of wT_28_13 wT_28_14 wT_28_15 wT_1_5 wT_28_16
theorem lf12_seaLine_203 : Fl vX12_seaLine RX12 203 12 11 := ⟨RX12, TX12, 87, rfl, by decide, (fun w h9 => List.mem_cons_of_mem _ (wC_wsX120 w h9)), (List.mem_cons_of_mem _ wT_28_12)⟩
theorem lp12_seaLine_216 : Pl vX12_seaLine RX12 216 12 18 .int := ⟨RX12, TX12, 87, tyX12, rfl, by decide, (fun w h9 => List.mem_cons_of_mem _ (wC_wsX120 w h9)), (List.mem_cons_of_mem _ wT_11_22), tyX12_ok, nmX12, rfl, rfl⟩
theorem lp12_seaLine_219 : Pl vX12_seaLine RX12 219 12 19 .int := ⟨RX12, TX12, 87, tyX12, rfl, by decide, (fun w h9 => List.mem_cons_of_mem _ (wC_wsX120 w h9)), (List.mem_cons_of_mem _ wT_11_23), tyX12_ok, nmX12, rfl, rfl⟩
theorem gX12_seaLine_X12_wrong : GoodIn vX12_seaLine (wsV RX12 196 RX12 yX12_wrong vX12_wrong) := gV_of wT_28_4 wT_28_5 wT_28_6 wT_1_5 wT_28_7
theorem cd12_seaLine : Cd yX12_seaLine 0 := ⟨by decide, by decide, by decide +kernel⟩
set_option maxHeartbeats 4000000 in
set_option maxRecDepth 100000 in
theorem T12_seaLine_0 (S : CallFix p m c cX12_seaLine 1 s args vX12_seaLine RX12) (hr : meth.sig.returnType = (some .boolean)) (hlo : meth.locks = false) {out : Int32 × PH} {h : PH} {a0 : Nat} (f : F12_seaLine_0  h a0 = some out) {H : Heap} {locs : List Loc} (I : ph_I D cy b A fl h s H locs) {ls : Array Slot} (hl : lv_has ls 1 [(0, .ref (b + a0))]) : W p l e ({ frames := 3, cells := 0, slots := 0, locals := 69 } : Room) s m args below meth c H locs 0 0 (MQ below (va_Qi (fun (r : Int32) (u : PH) => (r, u) = out) (ph_B D cy b A fl) A) args s 0 0 A) (F0 m 0 ls []) := by
  unfold F12_seaLine_0 at f
  refine lv_aload_n S.1 S.2.1 dX12_seaLine_0 rfl (lv_at hl 0 rfl) ?_
  obtain ⟨r1, e2, f⟩ := ob f
  refine o_gR S lf12_seaLine_20 I e2 dX12_seaLine_1 ?_
  refine lv_iconst (v := 0) S.1 S.2.1 dX12_seaLine_4 (by decide) ?_
  obtain ⟨v4, e3, f⟩ := ob f
  refine o_zald S I e3 dX12_seaLine_5 ?_
  refine lv_if_eq (tgt := 15) S.1 S.2.1 dX12_seaLine_6 (by decide) (fun q5 => ?_) (fun q5 => ?_)
  · have f := (if_pos q5).symm.trans f
    refine lv_aload_n S.1 S.2.1 dX12_seaLine_15 rfl (lv_at hl 0 rfl) ?_
    obtain ⟨v6, e7, f⟩ := ob f
    refine o_gI S lf12_seaLine_237 I e7 dX12_seaLine_16 ?_
    refine lv_if_eq (tgt := 28) S.1 S.2.1 dX12_seaLine_19 (by decide) (fun q8 => ?_) (fun q8 => ?_)
    · have f := (if_pos q8).symm.trans f
      refine lv_aload_n S.1 S.2.1 dX12_seaLine_28 rfl (lv_at hl 0 rfl) ?_
      obtain ⟨r9, e10, f⟩ := ob f
      refine o_gR S lf12_seaLine_20 I e10 dX12_seaLine_29 ?_
      refine lv_iconst (v := 0) S.1 S.2.1 dX12_seaLine_32 (by decide) ?_
      refine lv_iconst (v := 1) S.1 S.2.1 dX12_seaLine_33 (by decide) ?_
      obtain ⟨h12, e11, f⟩ := ob f
      refine o_zast S I e11 dX12_seaLine_34 (fun H locs I => ?_)
      refine lv_aload_n S.1 S.2.1 dX12_seaLine_35 rfl (lv_at hl 0 rfl) ?_
      obtain ⟨o13, e14, f⟩ := ob f
      refine o_Vv S (As := []) (rest := []) (ci := 12) (M12_token l D cy b A fl e14) gX12_seaLine_X12_token rfl rfl rfl cd12_token ⟨Nat.le_of_ble_eq_true rfl, Nat.le_of_ble_eq_true rfl⟩ I (gd e14).1 clX12 rfl rfl hl.1 rfl (Nat.le_of_ble_eq_true rfl) dX12_seaLine_36 ⟨Nat.le_of_ble_eq_true rfl, Nat.le_of_ble_eq_true rfl⟩ (fun H locs I => ?_)
      refine lv_aload_n S.1 S.2.1 dX12_seaLine_39 rfl (lv_at hl 0 rfl) ?_
      refine lv_iconst (v := 1) S.1 S.2.1 dX12_seaLine_40 (by decide) ?_
      refine lv_bipush (v := 8) S.1 S.2.1 dX12_seaLine_41 (by decide) ?_
      obtain ⟨o15, e16, f⟩ := ob f
      refine o_Vi S (As := [.int 1, .int 8]) (rest := []) (ci := 12) (M12_number l D cy b A fl e16) gX12_seaLine_X12_number rfl rfl rfl cd12_number ⟨Nat.le_of_ble_eq_true rfl, Nat.le_of_ble_eq_true rfl⟩ I (gd e16).1 clX12 rfl rfl hl.1 rfl (Nat.le_of_ble_eq_true rfl) dX12_seaLine_43 ⟨Nat.le_of_ble_eq_true rfl, Nat.le_of_ble_eq_true rfl⟩ (fun H locs I => ?_)
      refine lv_if_ne (tgt := 51) S.1 S.2.1 dX12_seaLine_46 (by decide) (fun q17 => ?_) (fun q17 => ?_)
      · have f := (if_neg q17).symm.trans f
        refine lv_aload_n S.1 S.2.1 dX12_seaLine_51 rfl (lv_at hl 0 rfl) ?_
        refine lv_aload_n S.1 S.2.1 dX12_seaLine_52 rfl (lv_at hl 0 rfl) ?_
        obtain ⟨v18, e19, f⟩ := ob f
        refine o_gI S lf12_seaLine_203 I e19 dX12_seaLine_53 ?_
        obtain ⟨h20, e21, f⟩ := ob f
        refine o_pI S lp12_seaLine_216 I e21 dX12_seaLine_56 (fun H locs I => ?_)
        refine lv_aload_n S.1 S.2.1 dX12_seaLine_59 rfl (lv_at hl 0 rfl) ?_
        refine lv_iconst (v := 1) S.1 S.2.1 dX12_seaLine_60 (by decide) ?_
        refine lv_bipush (v := 6) S.1 S.2.1 dX12_seaLine_61 (by decide) ?_
        obtain ⟨o22, e23, f⟩ := ob f
        refine o_Vi S (As := [.int 1, .int 6]) (rest := []) (ci := 12) (M12_number l D cy b A fl e23) gX12_seaLine_X12_number rfl rfl rfl cd12_number ⟨Nat.le_of_ble_eq_true rfl, Nat.le_of_ble_eq_true rfl⟩ I (gd e23).1 clX12 rfl rfl hl.1 rfl (Nat.le_of_ble_eq_true rfl) dX12_seaLine_63 ⟨Nat.le_of_ble_eq_true rfl, Nat.le_of_ble_eq_true rfl⟩ (fun H locs I => ?_)
        refine lv_if_ne (tgt := 71) S.1 S.2.1 dX12_seaLine_66 (by decide) (fun q24 => ?_) (fun q24 => ?_)
        · have f := (if_neg q24).symm.trans f
          refine lv_aload_n S.1 S.2.1 dX12_seaLine_71 rfl (lv_at hl 0 rfl) ?_
          refine lv_aload_n S.1 S.2.1 dX12_seaLine_72 rfl (lv_at hl 0 rfl) ?_
          obtain ⟨v25, e26, f⟩ := ob f
          refine o_gI S lf12_seaLine_203 I e26 dX12_seaLine_73 ?_
          obtain ⟨h27, e28, f⟩ := ob f
          refine o_pI S lp12_seaLine_219 I e28 dX12_seaLine_76 (fun H locs I => ?_)
          refine lv_iconst (v := 1) S.1 S.2.1 dX12_seaLine_79 (by decide) ?_
          exact o_zret S hr hlo I f dX12_seaLine_80
        · have f := (if_pos q24).symm.trans f
          refine lv_iconst (v := 0) S.1 S.2.1 dX12_seaLine_69 (by decide) ?_
          exact o_zret S hr hlo I f dX12_seaLine_70
      · have f := (if_pos q17).symm.trans f
        refine lv_iconst (v := 0) S.1 S.2.1 dX12_seaLine_49 (by decide) ?_
        exact o_zret S hr hlo I f dX12_seaLine_50
    · have f := (if_neg q8).symm.trans f
      refine lv_aload_n S.1 S.2.1 dX12_seaLine_22 rfl (lv_at hl 0 rfl) ?_
      refine lv_iconst (v := 4) S.1 S.2.1 dX12_seaLine_23 (by decide) ?_
      obtain ⟨o29, e30, f⟩ := ob f
      refine o_Vi S (As := [.int 4]) (rest := []) (ci := 12) (M12_wrong l D cy b A fl e30) gX12_seaLine_X12_wrong rfl rfl rfl cd12_wrong ⟨Nat.le_of_ble_eq_true rfl, Nat.le_of_ble_eq_true rfl⟩ I (gd e30).1 clX12 rfl rfl hl.1 rfl (Nat.le_of_ble_eq_true rfl) dX12_seaLine_24 ⟨Nat.le_of_ble_eq_true rfl, Nat.le_of_ble_eq_true rfl⟩ (fun H locs I => ?_)
      exact o_zret S hr hlo I f dX12_seaLine_27
  · have f := (if_neg q5).symm.trans f
    refine lv_aload_n S.1 S.2.1 dX12_seaLine_9 rfl (lv_at hl 0 rfl) ?_
    refine lv_iconst (v := 3) S.1 S.2.1 dX12_seaLine_10 (by decide) ?_
    obtain ⟨o31, e32, f⟩ := ob f
    refine o_Vi S (As := [.int 3]) (rest := []) (ci := 12) (M12_wrong l D cy b A fl e32) gX12_seaLine_X12_wrong rfl rfl rfl cd12_wrong ⟨Nat.le_of_ble_eq_true rfl, Nat.le_of_ble_eq_true rfl⟩ I (gd e32).1 clX12 rfl rfl hl.1 rfl (Nat.le_of_ble_eq_true rfl) dX12_seaLine_11 ⟨Nat.le_of_ble_eq_true rfl, Nat.le_of_ble_eq_true rfl⟩ (fun H locs I => ?_)
    exact o_zret S hr hlo I f dX12_seaLine_14
theorem M12_seaLine (l : Launch) (D : va_G) (cy : Nat → ClassId) (b : Nat) (A : Nat → Prop) (fl : Bool) {h : PH} {a0 : Nat} {out : Int32 × PH} (f : F12_seaLine h a0 = some out) : Met l yX12_seaLine vX12_seaLine ({ frames := 3, cells := 0, slots := 0, locals := 69 } : Room) (va_Pc [.ref (b + a0)] (ph_B D cy b A fl h)) (va_Qi (fun (r : Int32) (u : PH) => (r, u) = out) (ph_B D cy b A fl) A) 0 0 A :=
  o_met (by decide) rfl (Nat.le_of_ble_eq_true rfl) rfl (fun p e s m below meth c S hr hlo hnm ls hl I => T12_seaLine_0 S hr hlo ((gd f).2) I (lv_sub hl [0] rfl))
def vX12_surferLine : List Cond := .code yX12_surferLine cX12_surferLine 2 (some .boolean) :: TB
theorem lf12_surferLine_222 : Fl vX12_surferLine RX12 222 12 20 := ⟨RX12, TX12, 87, rfl, by decide, (fun w h9 => List.mem_cons_of_mem _ (wC_wsX120 w h9)), (List.mem_cons_of_mem _ wT_12_0)⟩
theorem gX12_surferLine_X12_token : GoodIn vX12_surferLine (wsV RX12 206 RX12 yX12_token vX12_token) := gV_of wT_26_21 wT_26_22 wT_26_23 wT_1_5 wT_27_0
theorem lf12_surferLine_172 : Fl vX12_surferLine RX12 172 12 8 := ⟨RX12, TX12, 87, rfl, by decide, (fun w h9 => List.mem_cons_of_mem _ (wC_wsX120 w h9)), (List.mem_cons_of_mem _ wT_26_20)⟩
theorem lf12_surferLine_27 : Fl vX12_surferLine RX12 27 12 27 := ⟨RX12, TX12, 87, rfl, by decide, (fun w h9 => List.mem_cons_of_mem _ (wC_wsX120 w h9)), (List.mem_cons_of_mem _ wT_10_2)⟩
theorem lf12_surferLine_183 : Fl vX12_surferLine RX12 183 12 9 := ⟨RX12, TX12, 87, rfl, by decide, (fun w h9 => List.mem_cons_of_mem _ (wC_wsX120 w h9)), (List.mem_cons_of_mem _ wT_27_2)⟩
theorem gX12_surferLine_X12_find : GoodIn vX12_surferLine (va_wsS RX12 269 yX12_find vX12_find) := gS_of wT_29_1 wT_29_2 wT_1_5 wT_29_3
theorem gX12_surferLine_X12_cellRead : GoodIn vX12_surferLine (wsV RX12 273 RX12 yX12_cellRead vX12_cellRead) := gV_of wT_29_4 wT_29_5 wT_29_6 wT_1_5 wT_29_7
theorem lf12_surferLine_30 : Fl vX12_surferLine RX12 30 12 28 := ⟨RX12, TX12, 87, rfl, by decide, (fun w h9 => List.mem_cons_of_mem _ (wC_wsX120 w h9)), (List.mem_cons_of_mem _ wT_10_3)⟩
theorem lf12_surferLine_216 : Fl vX12_surferLine RX12 216 12 18 := ⟨RX12, TX12, 87, rfl, by decide, (fun w h9 => List.mem_cons_of_mem _ (wC_wsX120 w h9)), (List.mem_cons_of_mem _ wT_11_22)⟩
theorem lf12_surferLine_203 : Fl vX12_surferLine RX12 203 12 11 := ⟨RX12, TX12, 87, rfl, by decide, (fun w h9 => List.mem_cons_of_mem _ (wC_wsX120 w h9)), (List.mem_cons_of_mem _ wT_28_12)⟩
theorem lf12_surferLine_266 : Fl vX12_surferLine RX12 266 12 43 := ⟨RX12, TX12, 87, rfl, by decide, (fun w h9 => List.mem_cons_of_mem _ (wC_wsX120 w h9)), (List.mem_cons_of_mem _ wT_29_0)⟩
theorem gX12_surferLine_X12_number : GoodIn vX12_surferLine (wsV RX12 212 RX12 yX12_number vX12_number) := gV_of wT_28_13 wT_28_14 wT_28_15 wT_1_5 wT_28_16
theorem lf12_surferLine_33 : Fl vX12_surferLine RX12 33 12 29 := ⟨RX12, TX12, 87, rfl, by decide, (fun w h9 => List.mem_cons_of_mem _ (wC_wsX120 w h9)), (List.mem_cons_of_mem _ wT_10_4)⟩
theorem lf12_surferLine_36 : Fl vX12_surferLine RX12 36 12 30 := ⟨RX12, TX12, 87, rfl, by decide, (fun w h9 => List.mem_cons_of_mem _ (wC_wsX120 w h9)), (List.mem_cons_of_mem _ wT_10_5)⟩
theorem lf12_surferLine_39 : Fl vX12_surferLine RX12 39 12 31 := ⟨RX12, TX12, 87, rfl, by decide, (fun w h9 => List.mem_cons_of_mem _ (wC_wsX120 w h9)), (List.mem_cons_of_mem _ wT_10_6)⟩
theorem lf12_surferLine_42 : Fl vX12_surferLine RX12 42 12 32 := ⟨RX12, TX12, 87, rfl, by decide, (fun w h9 => List.mem_cons_of_mem _ (wC_wsX120 w h9)), (List.mem_cons_of_mem _ wT_10_7)⟩
theorem lp12_surferLine_222 : Pl vX12_surferLine RX12 222 12 20 .int := ⟨RX12, TX12, 87, tyX12, rfl, by decide, (fun w h9 => List.mem_cons_of_mem _ (wC_wsX120 w h9)), (List.mem_cons_of_mem _ wT_12_0), tyX12_ok, nmX12, rfl, rfl⟩
theorem gX12_surferLine_X12_wrong : GoodIn vX12_surferLine (wsV RX12 196 RX12 yX12_wrong vX12_wrong) := gV_of wT_28_4 wT_28_5 wT_28_6 wT_1_5 wT_28_7
theorem cd12_surferLine : Cd yX12_surferLine 0 := ⟨by decide, by decide, by decide +kernel⟩
set_option maxHeartbeats 4000000 in
set_option maxRecDepth 100000 in
theorem T12_surferLine_0 (S : CallFix p m c cX12_surferLine 2 s args vX12_surferLine RX12) (hr : meth.sig.returnType = (some .boolean)) (hlo : meth.locks = false) {out : Int32 × PH} {h : PH} {a0 : Nat} (f : F12_surferLine_0  h a0 = some out) {H : Heap} {locs : List Loc} (I : ph_I D cy b A fl h s H locs) {ls : Array Slot} (hl : lv_has ls 2 [(0, .ref (b + a0))]) : W p l e ({ frames := 4, cells := 0, slots := 0, locals := 89 } : Room) s m args below meth c H locs 0 0 (MQ below (va_Qi (fun (r : Int32) (u : PH) => (r, u) = out) (ph_B D cy b A fl) A) args s 0 0 A) (F0 m 0 ls []) := by
  unfold F12_surferLine_0 at f
  refine lv_aload_n S.1 S.2.1 dX12_surferLine_0 rfl (lv_at hl 0 rfl) ?_
  obtain ⟨v1, e2, f⟩ := ob f
  refine o_gI S lf12_surferLine_222 I e2 dX12_surferLine_1 ?_
  refine lv_iconst (v := 5) S.1 S.2.1 dX12_surferLine_4 (by decide) ?_
  refine lv_icmp_ne (tgt := 14) S.1 S.2.1 dX12_surferLine_5 (by decide) (fun q3 => ?_) (fun q3 => ?_)
  · have f := (if_neg q3).symm.trans f
    refine lv_aload_n S.1 S.2.1 dX12_surferLine_14 rfl (lv_at hl 0 rfl) ?_
    obtain ⟨o4, e5, f⟩ := ob f
    refine o_Vv S (As := []) (rest := []) (ci := 12) (M12_token l D cy b A fl e5) gX12_surferLine_X12_token rfl rfl rfl cd12_token ⟨Nat.le_of_ble_eq_true rfl, Nat.le_of_ble_eq_true rfl⟩ I (gd e5).1 clX12 rfl rfl hl.1 rfl (Nat.le_of_ble_eq_true rfl) dX12_surferLine_15 ⟨Nat.le_of_ble_eq_true rfl, Nat.le_of_ble_eq_true rfl⟩ (fun H locs I => ?_)
    refine lv_aload_n S.1 S.2.1 dX12_surferLine_18 rfl (lv_at hl 0 rfl) ?_
    obtain ⟨v6, e7, f⟩ := ob f
    refine o_gI S lf12_surferLine_172 I e7 dX12_surferLine_19 ?_
    refine lv_iconst (v := 2) S.1 S.2.1 dX12_surferLine_22 (by decide) ?_
    refine lv_icmp_eq (tgt := 32) S.1 S.2.1 dX12_surferLine_23 (by decide) (fun q8 => ?_) (fun q8 => ?_)
    · have f := (if_pos q8).symm.trans f
      refine lv_aload_n S.1 S.2.1 dX12_surferLine_32 rfl (lv_at hl 0 rfl) ?_
      obtain ⟨r9, e10, f⟩ := ob f
      refine o_gR S lf12_surferLine_27 I e10 dX12_surferLine_33 ?_
      refine lv_iconst (v := 5) S.1 S.2.1 dX12_surferLine_36 (by decide) ?_
      refine lv_aload_n S.1 S.2.1 dX12_surferLine_37 rfl (lv_at hl 0 rfl) ?_
      obtain ⟨v11, e12, f⟩ := ob f
      refine o_gI S lf12_surferLine_222 I e12 dX12_surferLine_38 ?_
      refine lv_aload_n S.1 S.2.1 dX12_surferLine_41 rfl (lv_at hl 0 rfl) ?_
      obtain ⟨v13, e14, f⟩ := ob f
      refine o_gI S lf12_surferLine_183 I e14 dX12_surferLine_42 ?_
      obtain ⟨o15, e16, f⟩ := ob f
      refine o_Si S (As := [.ref (b + r9), .int 5, .int v11, .int v13]) (rest := []) (M12_find l D cy b A fl e16) gX12_surferLine_X12_find rfl rfl rfl cd12_find ⟨Nat.le_of_ble_eq_true rfl, Nat.le_of_ble_eq_true rfl⟩ I rfl hl.1 rfl (Nat.le_of_ble_eq_true rfl) dX12_surferLine_45 ⟨Nat.le_of_ble_eq_true rfl, Nat.le_of_ble_eq_true rfl⟩ (fun H locs I => ?_)
      refine lv_if_lt (tgt := 57) S.1 S.2.1 dX12_surferLine_48 (by decide) (fun q17 => ?_) (fun q17 => ?_)
      · have f := (if_pos q17).symm.trans f
        refine lv_iconst (v := 5) S.1 S.2.1 dX12_surferLine_57 (by decide) ?_
        refine lv_aload_n S.1 S.2.1 dX12_surferLine_58 rfl (lv_at hl 0 rfl) ?_
        obtain ⟨v18, e19, f⟩ := ob f
        refine o_gI S lf12_surferLine_222 I e19 dX12_surferLine_59 ?_
        refine lv_iadd S.1 S.2.1 dX12_surferLine_62 ?_
        refine lv_istore_n (lv' := [(1, .int (5 + v18)), (0, .ref (b + a0))]) S.1 S.2.1 dX12_surferLine_63 rfl hl (by decide) rfl (fun ls hl => ?_)
        refine lv_aload_n S.1 S.2.1 dX12_surferLine_64 rfl (lv_at hl 1 rfl) ?_
        obtain ⟨r20, e21, f⟩ := ob f
        refine o_gR S lf12_surferLine_27 I e21 dX12_surferLine_65 ?_
        refine lv_iload_n S.1 S.2.1 dX12_surferLine_68 rfl (lv_at hl 0 rfl) ?_
        refine lv_aload_n S.1 S.2.1 dX12_surferLine_69 rfl (lv_at hl 1 rfl) ?_
        obtain ⟨v22, e23, f⟩ := ob f
        refine o_gI S lf12_surferLine_183 I e23 dX12_surferLine_70 ?_
        obtain ⟨h25, e24, f⟩ := ob f
        refine o_iast S I e24 dX12_surferLine_73 (fun H locs I => ?_)
        refine lv_aload_n S.1 S.2.1 dX12_surferLine_74 rfl (lv_at hl 1 rfl) ?_
        obtain ⟨o26, e27, f⟩ := ob f
        refine o_Vv S (As := []) (rest := []) (ci := 12) (M12_token l D cy b A fl e27) gX12_surferLine_X12_token rfl rfl rfl cd12_token ⟨Nat.le_of_ble_eq_true rfl, Nat.le_of_ble_eq_true rfl⟩ I (gd e27).1 clX12 rfl rfl hl.1 rfl (Nat.le_of_ble_eq_true rfl) dX12_surferLine_75 ⟨Nat.le_of_ble_eq_true rfl, Nat.le_of_ble_eq_true rfl⟩ (fun H locs I => ?_)
        refine lv_aload_n S.1 S.2.1 dX12_surferLine_78 rfl (lv_at hl 1 rfl) ?_
        obtain ⟨o28, e29, f⟩ := ob f
        refine o_Vi S (As := []) (rest := []) (ci := 12) (M12_cellRead l D cy b A fl e29) gX12_surferLine_X12_cellRead rfl rfl rfl cd12_cellRead ⟨Nat.le_of_ble_eq_true rfl, Nat.le_of_ble_eq_true rfl⟩ I (gd e29).1 clX12 rfl rfl hl.1 rfl (Nat.le_of_ble_eq_true rfl) dX12_surferLine_79 ⟨Nat.le_of_ble_eq_true rfl, Nat.le_of_ble_eq_true rfl⟩ (fun H locs I => ?_)
        refine lv_if_ne (tgt := 87) S.1 S.2.1 dX12_surferLine_82 (by decide) (fun q30 => ?_) (fun q30 => ?_)
        · have f := (if_neg q30).symm.trans f
          refine lv_aload_n S.1 S.2.1 dX12_surferLine_87 rfl (lv_at hl 1 rfl) ?_
          obtain ⟨r31, e32, f⟩ := ob f
          refine o_gR S lf12_surferLine_30 I e32 dX12_surferLine_88 ?_
          refine lv_iload_n S.1 S.2.1 dX12_surferLine_91 rfl (lv_at hl 0 rfl) ?_
          refine lv_aload_n S.1 S.2.1 dX12_surferLine_92 rfl (lv_at hl 1 rfl) ?_
          obtain ⟨v33, e34, f⟩ := ob f
          refine o_gI S lf12_surferLine_216 I e34 dX12_surferLine_93 ?_
          refine lv_aload_n S.1 S.2.1 dX12_surferLine_96 rfl (lv_at hl 1 rfl) ?_
          obtain ⟨v35, e36, f⟩ := ob f
          refine o_gI S lf12_surferLine_203 I e36 dX12_surferLine_97 ?_
          refine lv_imul S.1 S.2.1 dX12_surferLine_100 ?_
          refine lv_aload_n S.1 S.2.1 dX12_surferLine_101 rfl (lv_at hl 1 rfl) ?_
          obtain ⟨v37, e38, f⟩ := ob f
          refine o_gI S lf12_surferLine_266 I e38 dX12_surferLine_102 ?_
          refine lv_iadd S.1 S.2.1 dX12_surferLine_105 ?_
          obtain ⟨h40, e39, f⟩ := ob f
          refine o_iast S I e39 dX12_surferLine_106 (fun H locs I => ?_)
          refine lv_aload_n S.1 S.2.1 dX12_surferLine_107 rfl (lv_at hl 1 rfl) ?_
          refine lv_iconst (v := 1) S.1 S.2.1 dX12_surferLine_108 (by decide) ?_
          refine lv_bipush (v := 9) S.1 S.2.1 dX12_surferLine_109 (by decide) ?_
          obtain ⟨o41, e42, f⟩ := ob f
          refine o_Vi S (As := [.int 1, .int 9]) (rest := []) (ci := 12) (M12_number l D cy b A fl e42) gX12_surferLine_X12_number rfl rfl rfl cd12_number ⟨Nat.le_of_ble_eq_true rfl, Nat.le_of_ble_eq_true rfl⟩ I (gd e42).1 clX12 rfl rfl hl.1 rfl (Nat.le_of_ble_eq_true rfl) dX12_surferLine_111 ⟨Nat.le_of_ble_eq_true rfl, Nat.le_of_ble_eq_true rfl⟩ (fun H locs I => ?_)
          refine lv_if_ne (tgt := 119) S.1 S.2.1 dX12_surferLine_114 (by decide) (fun q43 => ?_) (fun q43 => ?_)
          · have f := (if_neg q43).symm.trans f
            refine lv_aload_n S.1 S.2.1 dX12_surferLine_119 rfl (lv_at hl 1 rfl) ?_
            obtain ⟨r44, e45, f⟩ := ob f
            refine o_gR S lf12_surferLine_33 I e45 dX12_surferLine_120 ?_
            refine lv_iload_n S.1 S.2.1 dX12_surferLine_123 rfl (lv_at hl 0 rfl) ?_
            refine lv_aload_n S.1 S.2.1 dX12_surferLine_124 rfl (lv_at hl 1 rfl) ?_
            obtain ⟨v46, e47, f⟩ := ob f
            refine o_gI S lf12_surferLine_203 I e47 dX12_surferLine_125 ?_
            obtain ⟨h49, e48, f⟩ := ob f
            refine o_iast S I e48 dX12_surferLine_128 (fun H locs I => ?_)
            refine lv_aload_n S.1 S.2.1 dX12_surferLine_129 rfl (lv_at hl 1 rfl) ?_
            refine lv_iconst (v := 1) S.1 S.2.1 dX12_surferLine_130 (by decide) ?_
            refine lv_iconst (v := 3) S.1 S.2.1 dX12_surferLine_131 (by decide) ?_
            obtain ⟨o50, e51, f⟩ := ob f
            refine o_Vi S (As := [.int 1, .int 3]) (rest := []) (ci := 12) (M12_number l D cy b A fl e51) gX12_surferLine_X12_number rfl rfl rfl cd12_number ⟨Nat.le_of_ble_eq_true rfl, Nat.le_of_ble_eq_true rfl⟩ I (gd e51).1 clX12 rfl rfl hl.1 rfl (Nat.le_of_ble_eq_true rfl) dX12_surferLine_132 ⟨Nat.le_of_ble_eq_true rfl, Nat.le_of_ble_eq_true rfl⟩ (fun H locs I => ?_)
            refine lv_if_ne (tgt := 140) S.1 S.2.1 dX12_surferLine_135 (by decide) (fun q52 => ?_) (fun q52 => ?_)
            · have f := (if_neg q52).symm.trans f
              refine lv_aload_n S.1 S.2.1 dX12_surferLine_140 rfl (lv_at hl 1 rfl) ?_
              obtain ⟨r53, e54, f⟩ := ob f
              refine o_gR S lf12_surferLine_36 I e54 dX12_surferLine_141 ?_
              refine lv_iload_n S.1 S.2.1 dX12_surferLine_144 rfl (lv_at hl 0 rfl) ?_
              refine lv_aload_n S.1 S.2.1 dX12_surferLine_145 rfl (lv_at hl 1 rfl) ?_
              obtain ⟨v55, e56, f⟩ := ob f
              refine o_gI S lf12_surferLine_203 I e56 dX12_surferLine_146 ?_
              obtain ⟨h58, e57, f⟩ := ob f
              refine o_iast S I e57 dX12_surferLine_149 (fun H locs I => ?_)
              refine lv_aload_n S.1 S.2.1 dX12_surferLine_150 rfl (lv_at hl 1 rfl) ?_
              refine lv_iconst (v := 0) S.1 S.2.1 dX12_surferLine_151 (by decide) ?_
              refine lv_bipush (v := 100) S.1 S.2.1 dX12_surferLine_152 (by decide) ?_
              obtain ⟨o59, e60, f⟩ := ob f
              refine o_Vi S (As := [.int 0, .int 100]) (rest := []) (ci := 12) (M12_number l D cy b A fl e60) gX12_surferLine_X12_number rfl rfl rfl cd12_number ⟨Nat.le_of_ble_eq_true rfl, Nat.le_of_ble_eq_true rfl⟩ I (gd e60).1 clX12 rfl rfl hl.1 rfl (Nat.le_of_ble_eq_true rfl) dX12_surferLine_154 ⟨Nat.le_of_ble_eq_true rfl, Nat.le_of_ble_eq_true rfl⟩ (fun H locs I => ?_)
              refine lv_if_ne (tgt := 162) S.1 S.2.1 dX12_surferLine_157 (by decide) (fun q61 => ?_) (fun q61 => ?_)
              · have f := (if_neg q61).symm.trans f
                refine lv_aload_n S.1 S.2.1 dX12_surferLine_162 rfl (lv_at hl 1 rfl) ?_
                obtain ⟨r62, e63, f⟩ := ob f
                refine o_gR S lf12_surferLine_39 I e63 dX12_surferLine_163 ?_
                refine lv_iload_n S.1 S.2.1 dX12_surferLine_166 rfl (lv_at hl 0 rfl) ?_
                refine lv_aload_n S.1 S.2.1 dX12_surferLine_167 rfl (lv_at hl 1 rfl) ?_
                obtain ⟨v64, e65, f⟩ := ob f
                refine o_gI S lf12_surferLine_203 I e65 dX12_surferLine_168 ?_
                obtain ⟨h67, e66, f⟩ := ob f
                refine o_iast S I e66 dX12_surferLine_171 (fun H locs I => ?_)
                refine lv_aload_n S.1 S.2.1 dX12_surferLine_172 rfl (lv_at hl 1 rfl) ?_
                refine lv_iconst (v := 0) S.1 S.2.1 dX12_surferLine_173 (by decide) ?_
                refine lv_bipush (v := 100) S.1 S.2.1 dX12_surferLine_174 (by decide) ?_
                obtain ⟨o68, e69, f⟩ := ob f
                refine o_Vi S (As := [.int 0, .int 100]) (rest := []) (ci := 12) (M12_number l D cy b A fl e69) gX12_surferLine_X12_number rfl rfl rfl cd12_number ⟨Nat.le_of_ble_eq_true rfl, Nat.le_of_ble_eq_true rfl⟩ I (gd e69).1 clX12 rfl rfl hl.1 rfl (Nat.le_of_ble_eq_true rfl) dX12_surferLine_176 ⟨Nat.le_of_ble_eq_true rfl, Nat.le_of_ble_eq_true rfl⟩ (fun H locs I => ?_)
                refine lv_if_ne (tgt := 184) S.1 S.2.1 dX12_surferLine_179 (by decide) (fun q70 => ?_) (fun q70 => ?_)
                · have f := (if_neg q70).symm.trans f
                  refine lv_aload_n S.1 S.2.1 dX12_surferLine_184 rfl (lv_at hl 1 rfl) ?_
                  obtain ⟨r71, e72, f⟩ := ob f
                  refine o_gR S lf12_surferLine_42 I e72 dX12_surferLine_185 ?_
                  refine lv_iload_n S.1 S.2.1 dX12_surferLine_188 rfl (lv_at hl 0 rfl) ?_
                  refine lv_aload_n S.1 S.2.1 dX12_surferLine_189 rfl (lv_at hl 1 rfl) ?_
                  obtain ⟨v73, e74, f⟩ := ob f
                  refine o_gI S lf12_surferLine_203 I e74 dX12_surferLine_190 ?_
                  obtain ⟨h76, e75, f⟩ := ob f
                  refine o_iast S I e75 dX12_surferLine_193 (fun H locs I => ?_)
                  refine lv_aload_n S.1 S.2.1 dX12_surferLine_194 rfl (lv_at hl 1 rfl) ?_
                  refine lv_dup S.1 S.2.1 dX12_surferLine_195 rfl ?_
                  obtain ⟨v77, e78, f⟩ := ob f
                  refine o_gI S lf12_surferLine_222 I e78 dX12_surferLine_196 ?_
                  refine lv_iconst (v := 1) S.1 S.2.1 dX12_surferLine_199 (by decide) ?_
                  refine lv_iadd S.1 S.2.1 dX12_surferLine_200 ?_
                  obtain ⟨h79, e80, f⟩ := ob f
                  refine o_pI S lp12_surferLine_222 I e80 dX12_surferLine_201 (fun H locs I => ?_)
                  refine lv_iconst (v := 1) S.1 S.2.1 dX12_surferLine_204 (by decide) ?_
                  exact o_zret S hr hlo I f dX12_surferLine_205
                · have f := (if_pos q70).symm.trans f
                  refine lv_iconst (v := 0) S.1 S.2.1 dX12_surferLine_182 (by decide) ?_
                  exact o_zret S hr hlo I f dX12_surferLine_183
              · have f := (if_pos q61).symm.trans f
                refine lv_iconst (v := 0) S.1 S.2.1 dX12_surferLine_160 (by decide) ?_
                exact o_zret S hr hlo I f dX12_surferLine_161
            · have f := (if_pos q52).symm.trans f
              refine lv_iconst (v := 0) S.1 S.2.1 dX12_surferLine_138 (by decide) ?_
              exact o_zret S hr hlo I f dX12_surferLine_139
          · have f := (if_pos q43).symm.trans f
            refine lv_iconst (v := 0) S.1 S.2.1 dX12_surferLine_117 (by decide) ?_
            exact o_zret S hr hlo I f dX12_surferLine_118
        · have f := (if_pos q30).symm.trans f
          refine lv_iconst (v := 0) S.1 S.2.1 dX12_surferLine_85 (by decide) ?_
          exact o_zret S hr hlo I f dX12_surferLine_86
      · have f := (if_neg q17).symm.trans f
        refine lv_aload_n S.1 S.2.1 dX12_surferLine_51 rfl (lv_at hl 0 rfl) ?_
        refine lv_iconst (v := 3) S.1 S.2.1 dX12_surferLine_52 (by decide) ?_
        obtain ⟨o81, e82, f⟩ := ob f
        refine o_Vi S (As := [.int 3]) (rest := []) (ci := 12) (M12_wrong l D cy b A fl e82) gX12_surferLine_X12_wrong rfl rfl rfl cd12_wrong ⟨Nat.le_of_ble_eq_true rfl, Nat.le_of_ble_eq_true rfl⟩ I (gd e82).1 clX12 rfl rfl hl.1 rfl (Nat.le_of_ble_eq_true rfl) dX12_surferLine_53 ⟨Nat.le_of_ble_eq_true rfl, Nat.le_of_ble_eq_true rfl⟩ (fun H locs I => ?_)
        exact o_zret S hr hlo I f dX12_surferLine_56
    · have f := (if_neg q8).symm.trans f
      refine lv_aload_n S.1 S.2.1 dX12_surferLine_26 rfl (lv_at hl 0 rfl) ?_
      refine lv_iconst (v := 1) S.1 S.2.1 dX12_surferLine_27 (by decide) ?_
      obtain ⟨o83, e84, f⟩ := ob f
      refine o_Vi S (As := [.int 1]) (rest := []) (ci := 12) (M12_wrong l D cy b A fl e84) gX12_surferLine_X12_wrong rfl rfl rfl cd12_wrong ⟨Nat.le_of_ble_eq_true rfl, Nat.le_of_ble_eq_true rfl⟩ I (gd e84).1 clX12 rfl rfl hl.1 rfl (Nat.le_of_ble_eq_true rfl) dX12_surferLine_28 ⟨Nat.le_of_ble_eq_true rfl, Nat.le_of_ble_eq_true rfl⟩ (fun H locs I => ?_)
      exact o_zret S hr hlo I f dX12_surferLine_31
  · have f := (if_pos q3).symm.trans f
    refine lv_aload_n S.1 S.2.1 dX12_surferLine_8 rfl (lv_at hl 0 rfl) ?_
    refine lv_iconst (v := 2) S.1 S.2.1 dX12_surferLine_9 (by decide) ?_
    obtain ⟨o85, e86, f⟩ := ob f
    refine o_Vi S (As := [.int 2]) (rest := []) (ci := 12) (M12_wrong l D cy b A fl e86) gX12_surferLine_X12_wrong rfl rfl rfl cd12_wrong ⟨Nat.le_of_ble_eq_true rfl, Nat.le_of_ble_eq_true rfl⟩ I (gd e86).1 clX12 rfl rfl hl.1 rfl (Nat.le_of_ble_eq_true rfl) dX12_surferLine_10 ⟨Nat.le_of_ble_eq_true rfl, Nat.le_of_ble_eq_true rfl⟩ (fun H locs I => ?_)
    exact o_zret S hr hlo I f dX12_surferLine_13
theorem M12_surferLine (l : Launch) (D : va_G) (cy : Nat → ClassId) (b : Nat) (A : Nat → Prop) (fl : Bool) {h : PH} {a0 : Nat} {out : Int32 × PH} (f : F12_surferLine h a0 = some out) : Met l yX12_surferLine vX12_surferLine ({ frames := 4, cells := 0, slots := 0, locals := 89 } : Room) (va_Pc [.ref (b + a0)] (ph_B D cy b A fl h)) (va_Qi (fun (r : Int32) (u : PH) => (r, u) = out) (ph_B D cy b A fl) A) 0 0 A :=
  o_met (by decide) rfl (Nat.le_of_ble_eq_true rfl) rfl (fun p e s m below meth c S hr hlo hnm ls hl I => T12_surferLine_0 S hr hlo ((gd f).2) I (lv_sub hl [0] rfl))
def vX12_setLine : List Cond := .code yX12_setLine cX12_setLine 4 (some .boolean) :: TB
theorem lf12_setLine_172 : Fl vX12_setLine RX12 172 12 8 := ⟨RX12, TX12, 87, rfl, by decide, (fun w h9 => List.mem_cons_of_mem _ (wC_wsX120 w h9)), (List.mem_cons_of_mem _ wT_26_20)⟩
theorem lf12_setLine_225 : Fl vX12_setLine RX12 225 12 21 := ⟨RX12, TX12, 87, rfl, by decide, (fun w h9 => List.mem_cons_of_mem _ (wC_wsX120 w h9)), (List.mem_cons_of_mem _ wT_12_1)⟩
theorem lp12_setLine_225 : Pl vX12_setLine RX12 225 12 21 .int := ⟨RX12, TX12, 87, tyX12, rfl, by decide, (fun w h9 => List.mem_cons_of_mem _ (wC_wsX120 w h9)), (List.mem_cons_of_mem _ wT_12_1), tyX12_ok, nmX12, rfl, rfl⟩
theorem gX12_setLine_X12_number : GoodIn vX12_setLine (wsV RX12 212 RX12 yX12_number vX12_number) := gV_of wT_28_13 wT_28_14 wT_28_15 wT_1_5 wT_28_16
theorem lf12_setLine_48 : Fl vX12_setLine RX12 48 12 34 := ⟨RX12, TX12, 87, rfl, by decide, (fun w h9 => List.mem_cons_of_mem _ (wC_wsX120 w h9)), (List.mem_cons_of_mem _ wT_10_9)⟩
theorem lf12_setLine_228 : Fl vX12_setLine RX12 228 12 22 := ⟨RX12, TX12, 87, rfl, by decide, (fun w h9 => List.mem_cons_of_mem _ (wC_wsX120 w h9)), (List.mem_cons_of_mem _ wT_12_2)⟩
theorem lf12_setLine_51 : Fl vX12_setLine RX12 51 12 35 := ⟨RX12, TX12, 87, rfl, by decide, (fun w h9 => List.mem_cons_of_mem _ (wC_wsX120 w h9)), (List.mem_cons_of_mem _ wT_10_10)⟩
theorem lf12_setLine_203 : Fl vX12_setLine RX12 203 12 11 := ⟨RX12, TX12, 87, rfl, by decide, (fun w h9 => List.mem_cons_of_mem _ (wC_wsX120 w h9)), (List.mem_cons_of_mem _ wT_28_12)⟩
theorem lf12_setLine_54 : Fl vX12_setLine RX12 54 12 36 := ⟨RX12, TX12, 87, rfl, by decide, (fun w h9 => List.mem_cons_of_mem _ (wC_wsX120 w h9)), (List.mem_cons_of_mem _ wT_10_11)⟩
theorem lp12_setLine_228 : Pl vX12_setLine RX12 228 12 22 .int := ⟨RX12, TX12, 87, tyX12, rfl, by decide, (fun w h9 => List.mem_cons_of_mem _ (wC_wsX120 w h9)), (List.mem_cons_of_mem _ wT_12_2), tyX12_ok, nmX12, rfl, rfl⟩
theorem gX12_setLine_X12_wrong : GoodIn vX12_setLine (wsV RX12 196 RX12 yX12_wrong vX12_wrong) := gV_of wT_28_4 wT_28_5 wT_28_6 wT_1_5 wT_28_7
theorem lf12_setLine_45 : Fl vX12_setLine RX12 45 12 33 := ⟨RX12, TX12, 87, rfl, by decide, (fun w h9 => List.mem_cons_of_mem _ (wC_wsX120 w h9)), (List.mem_cons_of_mem _ wT_10_8)⟩
theorem gX12_setLine_X12_token : GoodIn vX12_setLine (wsV RX12 206 RX12 yX12_token vX12_token) := gV_of wT_26_21 wT_26_22 wT_26_23 wT_1_5 wT_27_0
theorem lf12_setLine_163 : Fl vX12_setLine RX12 163 12 10 := ⟨RX12, TX12, 87, rfl, by decide, (fun w h9 => List.mem_cons_of_mem _ (wC_wsX120 w h9)), (List.mem_cons_of_mem _ wT_27_1)⟩
theorem lp12_setLine_163 : Pl vX12_setLine RX12 163 12 10 .int := ⟨RX12, TX12, 87, tyX12, rfl, by decide, (fun w h9 => List.mem_cons_of_mem _ (wC_wsX120 w h9)), (List.mem_cons_of_mem _ wT_27_1), tyX12_ok, nmX12, rfl, rfl⟩
theorem cd12_setLine : Cd yX12_setLine 0 := ⟨by decide, by decide, by decide +kernel⟩
set_option maxHeartbeats 4000000 in
set_option maxRecDepth 100000 in
theorem T12_setLine_110 (S : CallFix p m c cX12_setLine 4 s args vX12_setLine RX12) (hr : meth.sig.returnType = (some .boolean)) (hlo : meth.locks = false) {out : Int32 × PH} : ∀ (n : Nat) {h : PH} {a0 : Nat} {x2 : Int32} {x3 : Int32} (f : F12_setLine_110  n h a0 x2 x3 = some out) {H : Heap} {locs : List Loc} (I : ph_I D cy b A fl h s H locs) {ls : Array Slot} (hl : lv_has ls 4 [(0, .ref (b + a0)), (2, .int x2), (3, .int x3)]), W p l e ({ frames := 3, cells := 0, slots := 0, locals := 69 } : Room) s m args below meth c H locs 0 0 (MQ below (va_Qi (fun (r : Int32) (u : PH) => (r, u) = out) (ph_B D cy b A fl) A) args s 0 0 A) (F0 m 110 ls []) := by
  intro n
  induction n with
  | zero => intro h a0 x2 x3 f; rw [F12_setLine_110] at f; cases f
  | succ n ih =>
    intro h a0 x2 x3 f H locs I ls hl
    rw [F12_setLine_110] at f
    refine lv_aload_n S.1 S.2.1 dX12_setLine_110 rfl (lv_at hl 0 rfl) ?_
    obtain ⟨v1, e2, f⟩ := ob f
    refine o_gI S lf12_setLine_172 I e2 dX12_setLine_111 ?_
    refine lv_iconst (v := 3) S.1 S.2.1 dX12_setLine_114 (by decide) ?_
    refine lv_icmp_ne (tgt := 205) S.1 S.2.1 dX12_setLine_115 (by decide) (fun q3 => ?_) (fun q3 => ?_)
    · have f := (if_neg q3).symm.trans f
      refine lv_aload_n S.1 S.2.1 dX12_setLine_205 rfl (lv_at hl 0 rfl) ?_
      refine lv_dup S.1 S.2.1 dX12_setLine_206 rfl ?_
      obtain ⟨v4, e5, f⟩ := ob f
      refine o_gI S lf12_setLine_225 I e5 dX12_setLine_207 ?_
      refine lv_iconst (v := 1) S.1 S.2.1 dX12_setLine_210 (by decide) ?_
      refine lv_iadd S.1 S.2.1 dX12_setLine_211 ?_
      obtain ⟨h6, e7, f⟩ := ob f
      refine o_pI S lp12_setLine_225 I e7 dX12_setLine_212 (fun H locs I => ?_)
      refine lv_iconst (v := 1) S.1 S.2.1 dX12_setLine_215 (by decide) ?_
      exact o_zret S hr hlo I f dX12_setLine_216
    · have f := (if_pos q3).symm.trans f
      refine lv_iload_n S.1 S.2.1 dX12_setLine_118 rfl (lv_at hl 2 rfl) ?_
      refine lv_bipush (v := 7) S.1 S.2.1 dX12_setLine_119 (by decide) ?_
      refine lv_icmp_ne (tgt := 130) S.1 S.2.1 dX12_setLine_121 (by decide) (fun q8 => ?_) (fun q8 => ?_)
      · have f := (if_neg q8).symm.trans f
        refine lv_aload_n S.1 S.2.1 dX12_setLine_130 rfl (lv_at hl 0 rfl) ?_
        refine lv_iconst (v := 1) S.1 S.2.1 dX12_setLine_131 (by decide) ?_
        refine lv_bipush (v := 9) S.1 S.2.1 dX12_setLine_132 (by decide) ?_
        obtain ⟨o9, e10, f⟩ := ob f
        refine o_Vi S (As := [.int 1, .int 9]) (rest := []) (ci := 12) (M12_number l D cy b A fl e10) gX12_setLine_X12_number rfl rfl rfl cd12_number ⟨Nat.le_of_ble_eq_true rfl, Nat.le_of_ble_eq_true rfl⟩ I (gd e10).1 clX12 rfl rfl hl.1 rfl (Nat.le_of_ble_eq_true rfl) dX12_setLine_134 ⟨Nat.le_of_ble_eq_true rfl, Nat.le_of_ble_eq_true rfl⟩ (fun H locs I => ?_)
        refine lv_if_ne (tgt := 142) S.1 S.2.1 dX12_setLine_137 (by decide) (fun q11 => ?_) (fun q11 => ?_)
        · have f := (if_neg q11).symm.trans f
          refine lv_aload_n S.1 S.2.1 dX12_setLine_142 rfl (lv_at hl 0 rfl) ?_
          obtain ⟨r12, e13, f⟩ := ob f
          refine o_gR S lf12_setLine_48 I e13 dX12_setLine_143 ?_
          refine lv_bipush (v := 28) S.1 S.2.1 dX12_setLine_146 (by decide) ?_
          refine lv_aload_n S.1 S.2.1 dX12_setLine_148 rfl (lv_at hl 0 rfl) ?_
          obtain ⟨v14, e15, f⟩ := ob f
          refine o_gI S lf12_setLine_228 I e15 dX12_setLine_149 ?_
          refine lv_iadd S.1 S.2.1 dX12_setLine_152 ?_
          refine lv_iload_n S.1 S.2.1 dX12_setLine_153 rfl (lv_at hl 1 rfl) ?_
          refine lv_iload_n S.1 S.2.1 dX12_setLine_154 rfl (lv_at hl 2 rfl) ?_
          refine lv_iadd S.1 S.2.1 dX12_setLine_155 ?_
          obtain ⟨h17, e16, f⟩ := ob f
          refine o_iast S I e16 dX12_setLine_156 (fun H locs I => ?_)
          refine lv_aload_n S.1 S.2.1 dX12_setLine_157 rfl (lv_at hl 0 rfl) ?_
          obtain ⟨r18, e19, f⟩ := ob f
          refine o_gR S lf12_setLine_51 I e19 dX12_setLine_158 ?_
          refine lv_bipush (v := 28) S.1 S.2.1 dX12_setLine_161 (by decide) ?_
          refine lv_aload_n S.1 S.2.1 dX12_setLine_163 rfl (lv_at hl 0 rfl) ?_
          obtain ⟨v20, e21, f⟩ := ob f
          refine o_gI S lf12_setLine_228 I e21 dX12_setLine_164 ?_
          refine lv_iadd S.1 S.2.1 dX12_setLine_167 ?_
          refine lv_aload_n S.1 S.2.1 dX12_setLine_168 rfl (lv_at hl 0 rfl) ?_
          obtain ⟨v22, e23, f⟩ := ob f
          refine o_gI S lf12_setLine_203 I e23 dX12_setLine_169 ?_
          obtain ⟨h25, e24, f⟩ := ob f
          refine o_iast S I e24 dX12_setLine_172 (fun H locs I => ?_)
          refine lv_aload_n S.1 S.2.1 dX12_setLine_173 rfl (lv_at hl 0 rfl) ?_
          obtain ⟨r26, e27, f⟩ := ob f
          refine o_gR S lf12_setLine_54 I e27 dX12_setLine_174 ?_
          refine lv_bipush (v := 28) S.1 S.2.1 dX12_setLine_177 (by decide) ?_
          refine lv_aload_n S.1 S.2.1 dX12_setLine_179 rfl (lv_at hl 0 rfl) ?_
          obtain ⟨v28, e29, f⟩ := ob f
          refine o_gI S lf12_setLine_228 I e29 dX12_setLine_180 ?_
          refine lv_iadd S.1 S.2.1 dX12_setLine_183 ?_
          refine lv_aload_n S.1 S.2.1 dX12_setLine_184 rfl (lv_at hl 0 rfl) ?_
          obtain ⟨v30, e31, f⟩ := ob f
          refine o_gI S lf12_setLine_225 I e31 dX12_setLine_185 ?_
          obtain ⟨h33, e32, f⟩ := ob f
          refine o_iast S I e32 dX12_setLine_188 (fun H locs I => ?_)
          refine lv_aload_n S.1 S.2.1 dX12_setLine_189 rfl (lv_at hl 0 rfl) ?_
          refine lv_dup S.1 S.2.1 dX12_setLine_190 rfl ?_
          obtain ⟨v34, e35, f⟩ := ob f
          refine o_gI S lf12_setLine_228 I e35 dX12_setLine_191 ?_
          refine lv_iconst (v := 1) S.1 S.2.1 dX12_setLine_194 (by decide) ?_
          refine lv_iadd S.1 S.2.1 dX12_setLine_195 ?_
          obtain ⟨h36, e37, f⟩ := ob f
          refine o_pI S lp12_setLine_228 I e37 dX12_setLine_196 (fun H locs I => ?_)
          refine lv_iinc (v := (x3 + 1)) (lv' := [(3, .int (x3 + 1)), (0, .ref (b + a0)), (2, .int x2)]) S.1 S.2.1 dX12_setLine_199 hl (k := 2) rfl (congrArg (fun z => x3 + z) (by decide)) (by decide) rfl (fun ls hl => ?_)
          refine lv_goto (tgt := 110) S.1 S.2.1 dX12_setLine_202 (by decide) ?_
          exact ih f I (lv_sub hl [1, 2, 0] rfl)
        · have f := (if_pos q11).symm.trans f
          refine lv_iconst (v := 0) S.1 S.2.1 dX12_setLine_140 (by decide) ?_
          exact o_zret S hr hlo I f dX12_setLine_141
      · have f := (if_pos q8).symm.trans f
        refine lv_aload_n S.1 S.2.1 dX12_setLine_124 rfl (lv_at hl 0 rfl) ?_
        refine lv_iconst (v := 2) S.1 S.2.1 dX12_setLine_125 (by decide) ?_
        obtain ⟨o38, e39, f⟩ := ob f
        refine o_Vi S (As := [.int 2]) (rest := []) (ci := 12) (M12_wrong l D cy b A fl e39) gX12_setLine_X12_wrong rfl rfl rfl cd12_wrong ⟨Nat.le_of_ble_eq_true rfl, Nat.le_of_ble_eq_true rfl⟩ I (gd e39).1 clX12 rfl rfl hl.1 rfl (Nat.le_of_ble_eq_true rfl) dX12_setLine_126 ⟨Nat.le_of_ble_eq_true rfl, Nat.le_of_ble_eq_true rfl⟩ (fun H locs I => ?_)
        exact o_zret S hr hlo I f dX12_setLine_129
set_option maxHeartbeats 4000000 in
set_option maxRecDepth 100000 in
theorem T12_setLine_74 (S : CallFix p m c cX12_setLine 4 s args vX12_setLine RX12) (hr : meth.sig.returnType = (some .boolean)) (hlo : meth.locks = false) {out : Int32 × PH} {h : PH} {a0 : Nat} (f : F12_setLine_74  h a0 = some out) {H : Heap} {locs : List Loc} (I : ph_I D cy b A fl h s H locs) {ls : Array Slot} (hl : lv_has ls 4 [(0, .ref (b + a0))]) : W p l e ({ frames := 3, cells := 0, slots := 0, locals := 69 } : Room) s m args below meth c H locs 0 0 (MQ below (va_Qi (fun (r : Int32) (u : PH) => (r, u) = out) (ph_B D cy b A fl) A) args s 0 0 A) (F0 m 74 ls []) := by
  unfold F12_setLine_74 at f
  refine lv_aload_n S.1 S.2.1 dX12_setLine_74 rfl (lv_at hl 0 rfl) ?_
  obtain ⟨v1, e2, f⟩ := ob f
  refine o_gI S lf12_setLine_203 I e2 dX12_setLine_75 ?_
  refine lv_istore_n (lv' := [(2, .int v1), (0, .ref (b + a0))]) S.1 S.2.1 dX12_setLine_78 rfl hl (by decide) rfl (fun ls hl => ?_)
  refine lv_aload_n S.1 S.2.1 dX12_setLine_79 rfl (lv_at hl 1 rfl) ?_
  obtain ⟨v3, e4, f⟩ := ob f
  refine o_gI S lf12_setLine_172 I e4 dX12_setLine_80 ?_
  refine lv_iconst (v := 3) S.1 S.2.1 dX12_setLine_83 (by decide) ?_
  refine lv_icmp_eq (tgt := 93) S.1 S.2.1 dX12_setLine_84 (by decide) (fun q5 => ?_) (fun q5 => ?_)
  · have f := (if_pos q5).symm.trans f
    refine lv_aload_n S.1 S.2.1 dX12_setLine_93 rfl (lv_at hl 1 rfl) ?_
    obtain ⟨r6, e7, f⟩ := ob f
    refine o_gR S lf12_setLine_45 I e7 dX12_setLine_94 ?_
    refine lv_iconst (v := 4) S.1 S.2.1 dX12_setLine_97 (by decide) ?_
    refine lv_aload_n S.1 S.2.1 dX12_setLine_98 rfl (lv_at hl 1 rfl) ?_
    obtain ⟨v8, e9, f⟩ := ob f
    refine o_gI S lf12_setLine_225 I e9 dX12_setLine_99 ?_
    refine lv_iadd S.1 S.2.1 dX12_setLine_102 ?_
    refine lv_aload_n S.1 S.2.1 dX12_setLine_103 rfl (lv_at hl 1 rfl) ?_
    obtain ⟨v10, e11, f⟩ := ob f
    refine o_gI S lf12_setLine_228 I e11 dX12_setLine_104 ?_
    obtain ⟨h13, e12, f⟩ := ob f
    refine o_iast S I e12 dX12_setLine_107 (fun H locs I => ?_)
    refine lv_iconst (v := 0) S.1 S.2.1 dX12_setLine_108 (by decide) ?_
    refine lv_istore_n (lv' := [(3, .int 0), (2, .int v1), (0, .ref (b + a0))]) S.1 S.2.1 dX12_setLine_109 rfl hl (by decide) rfl (fun ls hl => ?_)
    exact T12_setLine_110 S hr hlo  1024 f I (lv_sub hl [2, 1, 0] rfl)
  · have f := (if_neg q5).symm.trans f
    refine lv_aload_n S.1 S.2.1 dX12_setLine_87 rfl (lv_at hl 1 rfl) ?_
    refine lv_iconst (v := 1) S.1 S.2.1 dX12_setLine_88 (by decide) ?_
    obtain ⟨o14, e15, f⟩ := ob f
    refine o_Vi S (As := [.int 1]) (rest := []) (ci := 12) (M12_wrong l D cy b A fl e15) gX12_setLine_X12_wrong rfl rfl rfl cd12_wrong ⟨Nat.le_of_ble_eq_true rfl, Nat.le_of_ble_eq_true rfl⟩ I (gd e15).1 clX12 rfl rfl hl.1 rfl (Nat.le_of_ble_eq_true rfl) dX12_setLine_89 ⟨Nat.le_of_ble_eq_true rfl, Nat.le_of_ble_eq_true rfl⟩ (fun H locs I => ?_)
    exact o_zret S hr hlo I f dX12_setLine_92
set_option maxHeartbeats 4000000 in
set_option maxRecDepth 100000 in
theorem T12_setLine_0 (S : CallFix p m c cX12_setLine 4 s args vX12_setLine RX12) (hr : meth.sig.returnType = (some .boolean)) (hlo : meth.locks = false) {out : Int32 × PH} {h : PH} {a0 : Nat} (f : F12_setLine_0  h a0 = some out) {H : Heap} {locs : List Loc} (I : ph_I D cy b A fl h s H locs) {ls : Array Slot} (hl : lv_has ls 4 [(0, .ref (b + a0))]) : W p l e ({ frames := 3, cells := 0, slots := 0, locals := 69 } : Room) s m args below meth c H locs 0 0 (MQ below (va_Qi (fun (r : Int32) (u : PH) => (r, u) = out) (ph_B D cy b A fl) A) args s 0 0 A) (F0 m 0 ls []) := by
  unfold F12_setLine_0 at f
  refine lv_aload_n S.1 S.2.1 dX12_setLine_0 rfl (lv_at hl 0 rfl) ?_
  obtain ⟨v1, e2, f⟩ := ob f
  refine o_gI S lf12_setLine_225 I e2 dX12_setLine_1 ?_
  refine lv_iconst (v := 4) S.1 S.2.1 dX12_setLine_4 (by decide) ?_
  refine lv_icmp_ne (tgt := 14) S.1 S.2.1 dX12_setLine_5 (by decide) (fun q3 => ?_) (fun q3 => ?_)
  · have f := (if_neg q3).symm.trans f
    refine lv_aload_n S.1 S.2.1 dX12_setLine_14 rfl (lv_at hl 0 rfl) ?_
    obtain ⟨o4, e5, f⟩ := ob f
    refine o_Vv S (As := []) (rest := []) (ci := 12) (M12_token l D cy b A fl e5) gX12_setLine_X12_token rfl rfl rfl cd12_token ⟨Nat.le_of_ble_eq_true rfl, Nat.le_of_ble_eq_true rfl⟩ I (gd e5).1 clX12 rfl rfl hl.1 rfl (Nat.le_of_ble_eq_true rfl) dX12_setLine_15 ⟨Nat.le_of_ble_eq_true rfl, Nat.le_of_ble_eq_true rfl⟩ (fun H locs I => ?_)
    refine lv_aload_n S.1 S.2.1 dX12_setLine_18 rfl (lv_at hl 0 rfl) ?_
    obtain ⟨v6, e7, f⟩ := ob f
    refine o_gI S lf12_setLine_163 I e7 dX12_setLine_19 ?_
    refine lv_istore_n (lv' := [(1, .int v6), (0, .ref (b + a0))]) S.1 S.2.1 dX12_setLine_22 rfl hl (by decide) rfl (fun ls hl => ?_)
    refine lv_aload_n S.1 S.2.1 dX12_setLine_23 rfl (lv_at hl 1 rfl) ?_
    refine lv_iconst (v := 0) S.1 S.2.1 dX12_setLine_24 (by decide) ?_
    refine lv_bipush (v := 99) S.1 S.2.1 dX12_setLine_25 (by decide) ?_
    obtain ⟨o8, e9, f⟩ := ob f
    refine o_Vi S (As := [.int 0, .int 99]) (rest := []) (ci := 12) (M12_number l D cy b A fl e9) gX12_setLine_X12_number rfl rfl rfl cd12_number ⟨Nat.le_of_ble_eq_true rfl, Nat.le_of_ble_eq_true rfl⟩ I (gd e9).1 clX12 rfl rfl hl.1 rfl (Nat.le_of_ble_eq_true rfl) dX12_setLine_27 ⟨Nat.le_of_ble_eq_true rfl, Nat.le_of_ble_eq_true rfl⟩ (fun H locs I => ?_)
    refine lv_if_ne (tgt := 35) S.1 S.2.1 dX12_setLine_30 (by decide) (fun q10 => ?_) (fun q10 => ?_)
    · have f := (if_neg q10).symm.trans f
      refine lv_aload_n S.1 S.2.1 dX12_setLine_35 rfl (lv_at hl 1 rfl) ?_
      obtain ⟨v11, e12, f⟩ := ob f
      refine o_gI S lf12_setLine_228 I e12 dX12_setLine_36 ?_
      refine lv_if_le (tgt := 74) S.1 S.2.1 dX12_setLine_39 (by decide) (fun q13 => ?_) (fun q13 => ?_)
      · have f := (if_pos q13).symm.trans f
        exact T12_setLine_74 S hr hlo  f I (lv_sub hl [1] rfl)
      · have f := (if_neg q13).symm.trans f
        refine lv_aload_n S.1 S.2.1 dX12_setLine_42 rfl (lv_at hl 1 rfl) ?_
        obtain ⟨v14, e15, f⟩ := ob f
        refine o_gI S lf12_setLine_203 I e15 dX12_setLine_43 ?_
        refine lv_aload_n S.1 S.2.1 dX12_setLine_46 rfl (lv_at hl 1 rfl) ?_
        obtain ⟨r16, e17, f⟩ := ob f
        refine o_gR S lf12_setLine_48 I e17 dX12_setLine_47 ?_
        refine lv_bipush (v := 28) S.1 S.2.1 dX12_setLine_50 (by decide) ?_
        refine lv_aload_n S.1 S.2.1 dX12_setLine_52 rfl (lv_at hl 1 rfl) ?_
        obtain ⟨v18, e19, f⟩ := ob f
        refine o_gI S lf12_setLine_228 I e19 dX12_setLine_53 ?_
        refine lv_iadd S.1 S.2.1 dX12_setLine_56 ?_
        refine lv_iconst (v := 1) S.1 S.2.1 dX12_setLine_57 (by decide) ?_
        refine lv_isub S.1 S.2.1 dX12_setLine_58 ?_
        obtain ⟨v21, e20, f⟩ := ob f
        refine o_iald S I e20 dX12_setLine_59 ?_
        refine lv_icmp_gt (tgt := 74) S.1 S.2.1 dX12_setLine_60 (by decide) (fun q22 => ?_) (fun q22 => ?_)
        · have f := (if_pos q22).symm.trans f
          exact T12_setLine_74 S hr hlo  f I (lv_sub hl [1] rfl)
        · have f := (if_neg q22).symm.trans f
          refine lv_aload_n S.1 S.2.1 dX12_setLine_63 rfl (lv_at hl 1 rfl) ?_
          refine lv_iload_n S.1 S.2.1 dX12_setLine_64 rfl (lv_at hl 0 rfl) ?_
          obtain ⟨h23, e24, f⟩ := ob f
          refine o_pI S lp12_setLine_163 I e24 dX12_setLine_65 (fun H locs I => ?_)
          refine lv_aload_n S.1 S.2.1 dX12_setLine_68 rfl (lv_at hl 1 rfl) ?_
          refine lv_iconst (v := 5) S.1 S.2.1 dX12_setLine_69 (by decide) ?_
          obtain ⟨o25, e26, f⟩ := ob f
          refine o_Vi S (As := [.int 5]) (rest := []) (ci := 12) (M12_wrong l D cy b A fl e26) gX12_setLine_X12_wrong rfl rfl rfl cd12_wrong ⟨Nat.le_of_ble_eq_true rfl, Nat.le_of_ble_eq_true rfl⟩ I (gd e26).1 clX12 rfl rfl hl.1 rfl (Nat.le_of_ble_eq_true rfl) dX12_setLine_70 ⟨Nat.le_of_ble_eq_true rfl, Nat.le_of_ble_eq_true rfl⟩ (fun H locs I => ?_)
          exact o_zret S hr hlo I f dX12_setLine_73
    · have f := (if_pos q10).symm.trans f
      refine lv_iconst (v := 0) S.1 S.2.1 dX12_setLine_33 (by decide) ?_
      exact o_zret S hr hlo I f dX12_setLine_34
  · have f := (if_pos q3).symm.trans f
    refine lv_aload_n S.1 S.2.1 dX12_setLine_8 rfl (lv_at hl 0 rfl) ?_
    refine lv_iconst (v := 2) S.1 S.2.1 dX12_setLine_9 (by decide) ?_
    obtain ⟨o27, e28, f⟩ := ob f
    refine o_Vi S (As := [.int 2]) (rest := []) (ci := 12) (M12_wrong l D cy b A fl e28) gX12_setLine_X12_wrong rfl rfl rfl cd12_wrong ⟨Nat.le_of_ble_eq_true rfl, Nat.le_of_ble_eq_true rfl⟩ I (gd e28).1 clX12 rfl rfl hl.1 rfl (Nat.le_of_ble_eq_true rfl) dX12_setLine_10 ⟨Nat.le_of_ble_eq_true rfl, Nat.le_of_ble_eq_true rfl⟩ (fun H locs I => ?_)
    exact o_zret S hr hlo I f dX12_setLine_13
theorem M12_setLine (l : Launch) (D : va_G) (cy : Nat → ClassId) (b : Nat) (A : Nat → Prop) (fl : Bool) {h : PH} {a0 : Nat} {out : Int32 × PH} (f : F12_setLine h a0 = some out) : Met l yX12_setLine vX12_setLine ({ frames := 3, cells := 0, slots := 0, locals := 69 } : Room) (va_Pc [.ref (b + a0)] (ph_B D cy b A fl h)) (va_Qi (fun (r : Int32) (u : PH) => (r, u) = out) (ph_B D cy b A fl) A) 0 0 A :=
  o_met (by decide) rfl (Nat.le_of_ble_eq_true rfl) rfl (fun p e s m below meth c S hr hlo hnm ls hl I => T12_setLine_0 S hr hlo ((gd f).2) I (lv_sub hl [0] rfl))
def vX12_onceLine : List Cond := .code yX12_onceLine cX12_onceLine 2 (some .boolean) :: TB
theorem gX12_onceLine_X12_wrong : GoodIn vX12_onceLine (wsV RX12 196 RX12 yX12_wrong vX12_wrong) := gV_of wT_28_4 wT_28_5 wT_28_6 wT_1_5 wT_28_7
theorem lf12_onceLine_20 : Fl vX12_onceLine RX12 20 12 25 := ⟨RX12, TX12, 87, rfl, by decide, (fun w h9 => List.mem_cons_of_mem _ (wC_wsX120 w h9)), (List.mem_cons_of_mem _ wT_10_0)⟩
theorem gX12_onceLine_X12_token : GoodIn vX12_onceLine (wsV RX12 206 RX12 yX12_token vX12_token) := gV_of wT_26_21 wT_26_22 wT_26_23 wT_1_5 wT_27_0
theorem lf12_onceLine_172 : Fl vX12_onceLine RX12 172 12 8 := ⟨RX12, TX12, 87, rfl, by decide, (fun w h9 => List.mem_cons_of_mem _ (wC_wsX120 w h9)), (List.mem_cons_of_mem _ wT_26_20)⟩
theorem lf12_onceLine_183 : Fl vX12_onceLine RX12 183 12 9 := ⟨RX12, TX12, 87, rfl, by decide, (fun w h9 => List.mem_cons_of_mem _ (wC_wsX120 w h9)), (List.mem_cons_of_mem _ wT_27_2)⟩
theorem lf12_onceLine_24 : Fl vX12_onceLine RX12 24 12 26 := ⟨RX12, TX12, 87, rfl, by decide, (fun w h9 => List.mem_cons_of_mem _ (wC_wsX120 w h9)), (List.mem_cons_of_mem _ wT_10_1)⟩
theorem gX12_onceLine_X12_number : GoodIn vX12_onceLine (wsV RX12 212 RX12 yX12_number vX12_number) := gV_of wT_28_13 wT_28_14 wT_28_15 wT_1_5 wT_28_16
theorem lf12_onceLine_203 : Fl vX12_onceLine RX12 203 12 11 := ⟨RX12, TX12, 87, rfl, by decide, (fun w h9 => List.mem_cons_of_mem _ (wC_wsX120 w h9)), (List.mem_cons_of_mem _ wT_28_12)⟩
theorem gX12_onceLine_X12_cellRead : GoodIn vX12_onceLine (wsV RX12 273 RX12 yX12_cellRead vX12_cellRead) := gV_of wT_29_4 wT_29_5 wT_29_6 wT_1_5 wT_29_7
theorem lf12_onceLine_266 : Fl vX12_onceLine RX12 266 12 43 := ⟨RX12, TX12, 87, rfl, by decide, (fun w h9 => List.mem_cons_of_mem _ (wC_wsX120 w h9)), (List.mem_cons_of_mem _ wT_29_0)⟩
theorem gX12_onceLine_X12_bankLine : GoodIn vX12_onceLine (wsV RX12 277 RX12 yX12_bankLine vX12_bankLine) := gV_of wT_29_16 wT_29_17 wT_29_18 wT_1_5 wT_29_19
theorem cd12_onceLine : Cd yX12_onceLine 0 := ⟨by decide, by decide, by decide +kernel⟩
set_option maxHeartbeats 4000000 in
set_option maxRecDepth 100000 in
theorem T12_onceLine_168 (S : CallFix p m c cX12_onceLine 2 s args vX12_onceLine RX12) (hr : meth.sig.returnType = (some .boolean)) (hlo : meth.locks = false) {out : Int32 × PH} {h : PH} {a0 : Nat} (f : F12_onceLine_168  h a0 = some out) {H : Heap} {locs : List Loc} (I : ph_I D cy b A fl h s H locs) {ls : Array Slot} (hl : lv_has ls 2 [(0, .ref (b + a0))]) : W p l e ({ frames := 4, cells := 0, slots := 0, locals := 89 } : Room) s m args below meth c H locs 0 0 (MQ below (va_Qi (fun (r : Int32) (u : PH) => (r, u) = out) (ph_B D cy b A fl) A) args s 0 0 A) (F0 m 168 ls []) := by
  unfold F12_onceLine_168 at f
  refine lv_aload_n S.1 S.2.1 dX12_onceLine_168 rfl (lv_at hl 0 rfl) ?_
  refine lv_iconst (v := 1) S.1 S.2.1 dX12_onceLine_169 (by decide) ?_
  obtain ⟨o1, e2, f⟩ := ob f
  refine o_Vi S (As := [.int 1]) (rest := []) (ci := 12) (M12_wrong l D cy b A fl e2) gX12_onceLine_X12_wrong rfl rfl rfl cd12_wrong ⟨Nat.le_of_ble_eq_true rfl, Nat.le_of_ble_eq_true rfl⟩ I (gd e2).1 clX12 rfl rfl hl.1 rfl (Nat.le_of_ble_eq_true rfl) dX12_onceLine_170 ⟨Nat.le_of_ble_eq_true rfl, Nat.le_of_ble_eq_true rfl⟩ (fun H locs I => ?_)
  exact o_zret S hr hlo I f dX12_onceLine_173
set_option maxHeartbeats 4000000 in
set_option maxRecDepth 100000 in
theorem T12_onceLine_37 (S : CallFix p m c cX12_onceLine 2 s args vX12_onceLine RX12) (hr : meth.sig.returnType = (some .boolean)) (hlo : meth.locks = false) {out : Int32 × PH} {h : PH} {a0 : Nat} {s0 : Int32} (f : F12_onceLine_37  h a0 s0 = some out) {H : Heap} {locs : List Loc} (I : ph_I D cy b A fl h s H locs) {ls : Array Slot} (hl : lv_has ls 2 [(0, .ref (b + a0))]) : W p l e ({ frames := 4, cells := 0, slots := 0, locals := 89 } : Room) s m args below meth c H locs 0 0 (MQ below (va_Qi (fun (r : Int32) (u : PH) => (r, u) = out) (ph_B D cy b A fl) A) args s 0 0 A) (F0 m 37 ls [.int s0]) := by
  unfold F12_onceLine_37 at f
  refine lv_istore_n (lv' := [(1, .int s0), (0, .ref (b + a0))]) S.1 S.2.1 dX12_onceLine_37 rfl hl (by decide) rfl (fun ls hl => ?_)
  refine lv_aload_n S.1 S.2.1 dX12_onceLine_38 rfl (lv_at hl 1 rfl) ?_
  obtain ⟨r1, e2, f⟩ := ob f
  refine o_gR S lf12_onceLine_20 I e2 dX12_onceLine_39 ?_
  refine lv_iload_n S.1 S.2.1 dX12_onceLine_42 rfl (lv_at hl 0 rfl) ?_
  obtain ⟨v4, e3, f⟩ := ob f
  refine o_zald S I e3 dX12_onceLine_43 ?_
  refine lv_if_eq (tgt := 53) S.1 S.2.1 dX12_onceLine_44 (by decide) (fun q5 => ?_) (fun q5 => ?_)
  · have f := (if_pos q5).symm.trans f
    refine lv_aload_n S.1 S.2.1 dX12_onceLine_53 rfl (lv_at hl 1 rfl) ?_
    obtain ⟨r6, e7, f⟩ := ob f
    refine o_gR S lf12_onceLine_20 I e7 dX12_onceLine_54 ?_
    refine lv_iload_n S.1 S.2.1 dX12_onceLine_57 rfl (lv_at hl 0 rfl) ?_
    refine lv_iconst (v := 1) S.1 S.2.1 dX12_onceLine_58 (by decide) ?_
    obtain ⟨h9, e8, f⟩ := ob f
    refine o_zast S I e8 dX12_onceLine_59 (fun H locs I => ?_)
    refine lv_iload_n S.1 S.2.1 dX12_onceLine_60 rfl (lv_at hl 0 rfl) ?_
    refine lv_iconst (v := 2) S.1 S.2.1 dX12_onceLine_61 (by decide) ?_
    refine lv_icmp_ne (tgt := 70) S.1 S.2.1 dX12_onceLine_62 (by decide) (fun q10 => ?_) (fun q10 => ?_)
    · have f := (if_neg q10).symm.trans f
      refine lv_aload_n S.1 S.2.1 dX12_onceLine_70 rfl (lv_at hl 1 rfl) ?_
      obtain ⟨o11, e12, f⟩ := ob f
      refine o_Vv S (As := []) (rest := []) (ci := 12) (M12_token l D cy b A fl e12) gX12_onceLine_X12_token rfl rfl rfl cd12_token ⟨Nat.le_of_ble_eq_true rfl, Nat.le_of_ble_eq_true rfl⟩ I (gd e12).1 clX12 rfl rfl hl.1 rfl (Nat.le_of_ble_eq_true rfl) dX12_onceLine_71 ⟨Nat.le_of_ble_eq_true rfl, Nat.le_of_ble_eq_true rfl⟩ (fun H locs I => ?_)
      refine lv_iload_n S.1 S.2.1 dX12_onceLine_74 rfl (lv_at hl 0 rfl) ?_
      refine lv_iconst (v := 1) S.1 S.2.1 dX12_onceLine_75 (by decide) ?_
      refine lv_icmp_ne (tgt := 112) S.1 S.2.1 dX12_onceLine_76 (by decide) (fun q13 => ?_) (fun q13 => ?_)
      · have f := (if_neg q13).symm.trans f
        refine lv_iload_n S.1 S.2.1 dX12_onceLine_112 rfl (lv_at hl 0 rfl) ?_
        refine lv_iconst (v := 4) S.1 S.2.1 dX12_onceLine_113 (by decide) ?_
        refine lv_icmp_ne (tgt := 142) S.1 S.2.1 dX12_onceLine_114 (by decide) (fun q14 => ?_) (fun q14 => ?_)
        · have f := (if_neg q14).symm.trans f
          refine lv_aload_n S.1 S.2.1 dX12_onceLine_142 rfl (lv_at hl 1 rfl) ?_
          obtain ⟨v15, e16, f⟩ := ob f
          refine o_gI S lf12_onceLine_172 I e16 dX12_onceLine_143 ?_
          refine lv_iconst (v := 1) S.1 S.2.1 dX12_onceLine_146 (by decide) ?_
          refine lv_icmp_ne (tgt := 168) S.1 S.2.1 dX12_onceLine_147 (by decide) (fun q17 => ?_) (fun q17 => ?_)
          · have f := (if_neg q17).symm.trans f
            exact T12_onceLine_168 S hr hlo  f I (lv_sub hl [1] rfl)
          · have f := (if_pos q17).symm.trans f
            refine lv_aload_n S.1 S.2.1 dX12_onceLine_150 rfl (lv_at hl 1 rfl) ?_
            obtain ⟨v18, e19, f⟩ := ob f
            refine o_gI S lf12_onceLine_183 I e19 dX12_onceLine_151 ?_
            refine lv_bipush (v := 8) S.1 S.2.1 dX12_onceLine_154 (by decide) ?_
            refine lv_icmp_lt (tgt := 168) S.1 S.2.1 dX12_onceLine_156 (by decide) (fun q20 => ?_) (fun q20 => ?_)
            · have f := (if_pos q20).symm.trans f
              exact T12_onceLine_168 S hr hlo  f I (lv_sub hl [1] rfl)
            · have f := (if_neg q20).symm.trans f
              refine lv_aload_n S.1 S.2.1 dX12_onceLine_159 rfl (lv_at hl 1 rfl) ?_
              obtain ⟨v21, e22, f⟩ := ob f
              refine o_gI S lf12_onceLine_183 I e22 dX12_onceLine_160 ?_
              refine lv_bipush (v := 11) S.1 S.2.1 dX12_onceLine_163 (by decide) ?_
              refine lv_icmp_le (tgt := 174) S.1 S.2.1 dX12_onceLine_165 (by decide) (fun q23 => ?_) (fun q23 => ?_)
              · have f := (if_pos q23).symm.trans f
                refine lv_aload_n S.1 S.2.1 dX12_onceLine_174 rfl (lv_at hl 1 rfl) ?_
                obtain ⟨r24, e25, f⟩ := ob f
                refine o_gR S lf12_onceLine_24 I e25 dX12_onceLine_175 ?_
                refine lv_bipush (v := 12) S.1 S.2.1 dX12_onceLine_178 (by decide) ?_
                refine lv_aload_n S.1 S.2.1 dX12_onceLine_180 rfl (lv_at hl 1 rfl) ?_
                obtain ⟨v26, e27, f⟩ := ob f
                refine o_gI S lf12_onceLine_183 I e27 dX12_onceLine_181 ?_
                refine lv_bipush (v := 8) S.1 S.2.1 dX12_onceLine_184 (by decide) ?_
                refine lv_isub S.1 S.2.1 dX12_onceLine_186 ?_
                obtain ⟨h29, e28, f⟩ := ob f
                refine o_iast S I e28 dX12_onceLine_187 (fun H locs I => ?_)
                refine lv_aload_n S.1 S.2.1 dX12_onceLine_188 rfl (lv_at hl 1 rfl) ?_
                obtain ⟨o30, e31, f⟩ := ob f
                refine o_Vv S (As := []) (rest := []) (ci := 12) (M12_token l D cy b A fl e31) gX12_onceLine_X12_token rfl rfl rfl cd12_token ⟨Nat.le_of_ble_eq_true rfl, Nat.le_of_ble_eq_true rfl⟩ I (gd e31).1 clX12 rfl rfl hl.1 rfl (Nat.le_of_ble_eq_true rfl) dX12_onceLine_189 ⟨Nat.le_of_ble_eq_true rfl, Nat.le_of_ble_eq_true rfl⟩ (fun H locs I => ?_)
                refine lv_iconst (v := 1) S.1 S.2.1 dX12_onceLine_192 (by decide) ?_
                exact o_zret S hr hlo I f dX12_onceLine_193
              · have f := (if_neg q23).symm.trans f
                exact T12_onceLine_168 S hr hlo  f I (lv_sub hl [1] rfl)
        · have f := (if_pos q14).symm.trans f
          refine lv_aload_n S.1 S.2.1 dX12_onceLine_117 rfl (lv_at hl 1 rfl) ?_
          refine lv_iconst (v := 0) S.1 S.2.1 dX12_onceLine_118 (by decide) ?_
          refine lv_ldc (v := 99999) S.1 S.2.1 S.2.2.2.1 (S.2.2.2.2 _ (List.mem_cons_of_mem _ wT_27_3)) dX12_onceLine_119 ?_
          obtain ⟨o32, e33, f⟩ := ob f
          refine o_Vi S (As := [.int 0, .int 99999]) (rest := []) (ci := 12) (M12_number l D cy b A fl e33) gX12_onceLine_X12_number rfl rfl rfl cd12_number ⟨Nat.le_of_ble_eq_true rfl, Nat.le_of_ble_eq_true rfl⟩ I (gd e33).1 clX12 rfl rfl hl.1 rfl (Nat.le_of_ble_eq_true rfl) dX12_onceLine_121 ⟨Nat.le_of_ble_eq_true rfl, Nat.le_of_ble_eq_true rfl⟩ (fun H locs I => ?_)
          refine lv_if_ne (tgt := 129) S.1 S.2.1 dX12_onceLine_124 (by decide) (fun q34 => ?_) (fun q34 => ?_)
          · have f := (if_neg q34).symm.trans f
            refine lv_aload_n S.1 S.2.1 dX12_onceLine_129 rfl (lv_at hl 1 rfl) ?_
            obtain ⟨r35, e36, f⟩ := ob f
            refine o_gR S lf12_onceLine_24 I e36 dX12_onceLine_130 ?_
            refine lv_bipush (v := 13) S.1 S.2.1 dX12_onceLine_133 (by decide) ?_
            refine lv_aload_n S.1 S.2.1 dX12_onceLine_135 rfl (lv_at hl 1 rfl) ?_
            obtain ⟨v37, e38, f⟩ := ob f
            refine o_gI S lf12_onceLine_203 I e38 dX12_onceLine_136 ?_
            obtain ⟨h40, e39, f⟩ := ob f
            refine o_iast S I e39 dX12_onceLine_139 (fun H locs I => ?_)
            refine lv_iconst (v := 1) S.1 S.2.1 dX12_onceLine_140 (by decide) ?_
            exact o_zret S hr hlo I f dX12_onceLine_141
          · have f := (if_pos q34).symm.trans f
            refine lv_iconst (v := 0) S.1 S.2.1 dX12_onceLine_127 (by decide) ?_
            exact o_zret S hr hlo I f dX12_onceLine_128
      · have f := (if_pos q13).symm.trans f
        refine lv_aload_n S.1 S.2.1 dX12_onceLine_79 rfl (lv_at hl 1 rfl) ?_
        obtain ⟨o41, e42, f⟩ := ob f
        refine o_Vi S (As := []) (rest := []) (ci := 12) (M12_cellRead l D cy b A fl e42) gX12_onceLine_X12_cellRead rfl rfl rfl cd12_cellRead ⟨Nat.le_of_ble_eq_true rfl, Nat.le_of_ble_eq_true rfl⟩ I (gd e42).1 clX12 rfl rfl hl.1 rfl (Nat.le_of_ble_eq_true rfl) dX12_onceLine_80 ⟨Nat.le_of_ble_eq_true rfl, Nat.le_of_ble_eq_true rfl⟩ (fun H locs I => ?_)
        refine lv_if_ne (tgt := 88) S.1 S.2.1 dX12_onceLine_83 (by decide) (fun q43 => ?_) (fun q43 => ?_)
        · have f := (if_neg q43).symm.trans f
          refine lv_aload_n S.1 S.2.1 dX12_onceLine_88 rfl (lv_at hl 1 rfl) ?_
          obtain ⟨r44, e45, f⟩ := ob f
          refine o_gR S lf12_onceLine_24 I e45 dX12_onceLine_89 ?_
          refine lv_bipush (v := 7) S.1 S.2.1 dX12_onceLine_92 (by decide) ?_
          refine lv_aload_n S.1 S.2.1 dX12_onceLine_94 rfl (lv_at hl 1 rfl) ?_
          obtain ⟨v46, e47, f⟩ := ob f
          refine o_gI S lf12_onceLine_266 I e47 dX12_onceLine_95 ?_
          obtain ⟨h49, e48, f⟩ := ob f
          refine o_iast S I e48 dX12_onceLine_98 (fun H locs I => ?_)
          refine lv_aload_n S.1 S.2.1 dX12_onceLine_99 rfl (lv_at hl 1 rfl) ?_
          obtain ⟨r50, e51, f⟩ := ob f
          refine o_gR S lf12_onceLine_24 I e51 dX12_onceLine_100 ?_
          refine lv_bipush (v := 8) S.1 S.2.1 dX12_onceLine_103 (by decide) ?_
          refine lv_aload_n S.1 S.2.1 dX12_onceLine_105 rfl (lv_at hl 1 rfl) ?_
          obtain ⟨v52, e53, f⟩ := ob f
          refine o_gI S lf12_onceLine_203 I e53 dX12_onceLine_106 ?_
          obtain ⟨h55, e54, f⟩ := ob f
          refine o_iast S I e54 dX12_onceLine_109 (fun H locs I => ?_)
          refine lv_iconst (v := 1) S.1 S.2.1 dX12_onceLine_110 (by decide) ?_
          exact o_zret S hr hlo I f dX12_onceLine_111
        · have f := (if_pos q43).symm.trans f
          refine lv_iconst (v := 0) S.1 S.2.1 dX12_onceLine_86 (by decide) ?_
          exact o_zret S hr hlo I f dX12_onceLine_87
    · have f := (if_pos q10).symm.trans f
      refine lv_aload_n S.1 S.2.1 dX12_onceLine_65 rfl (lv_at hl 1 rfl) ?_
      obtain ⟨o56, e57, f⟩ := ob f
      refine o_Vi S (As := []) (rest := []) (ci := 12) (M12_bankLine l D cy b A fl e57) gX12_onceLine_X12_bankLine rfl rfl rfl cd12_bankLine ⟨Nat.le_of_ble_eq_true rfl, Nat.le_of_ble_eq_true rfl⟩ I (gd e57).1 clX12 rfl rfl hl.1 rfl (Nat.le_of_ble_eq_true rfl) dX12_onceLine_66 ⟨Nat.le_of_ble_eq_true rfl, Nat.le_of_ble_eq_true rfl⟩ (fun H locs I => ?_)
      exact o_zret S hr hlo I f dX12_onceLine_69
  · have f := (if_neg q5).symm.trans f
    refine lv_aload_n S.1 S.2.1 dX12_onceLine_47 rfl (lv_at hl 1 rfl) ?_
    refine lv_iconst (v := 3) S.1 S.2.1 dX12_onceLine_48 (by decide) ?_
    obtain ⟨o58, e59, f⟩ := ob f
    refine o_Vi S (As := [.int 3]) (rest := []) (ci := 12) (M12_wrong l D cy b A fl e59) gX12_onceLine_X12_wrong rfl rfl rfl cd12_wrong ⟨Nat.le_of_ble_eq_true rfl, Nat.le_of_ble_eq_true rfl⟩ I (gd e59).1 clX12 rfl rfl hl.1 rfl (Nat.le_of_ble_eq_true rfl) dX12_onceLine_49 ⟨Nat.le_of_ble_eq_true rfl, Nat.le_of_ble_eq_true rfl⟩ (fun H locs I => ?_)
    exact o_zret S hr hlo I f dX12_onceLine_52
set_option maxHeartbeats 4000000 in
set_option maxRecDepth 100000 in
theorem T12_onceLine_0 (S : CallFix p m c cX12_onceLine 2 s args vX12_onceLine RX12) (hr : meth.sig.returnType = (some .boolean)) (hlo : meth.locks = false) {out : Int32 × PH} {h : PH} {a0 : Nat} (f : F12_onceLine_0  h a0 = some out) {H : Heap} {locs : List Loc} (I : ph_I D cy b A fl h s H locs) {ls : Array Slot} (hl : lv_has ls 2 [(0, .ref (b + a0))]) : W p l e ({ frames := 4, cells := 0, slots := 0, locals := 89 } : Room) s m args below meth c H locs 0 0 (MQ below (va_Qi (fun (r : Int32) (u : PH) => (r, u) = out) (ph_B D cy b A fl) A) args s 0 0 A) (F0 m 0 ls []) := by
  unfold F12_onceLine_0 at f
  refine lv_aload_n S.1 S.2.1 dX12_onceLine_0 rfl (lv_at hl 0 rfl) ?_
  obtain ⟨v1, e2, f⟩ := ob f
  refine o_gI S lf12_onceLine_183 I e2 dX12_onceLine_1 ?_
  refine lv_iconst (v := 1) S.1 S.2.1 dX12_onceLine_4 (by decide) ?_
  refine lv_icmp_ne (tgt := 12) S.1 S.2.1 dX12_onceLine_5 (by decide) (fun q3 => ?_) (fun q3 => ?_)
  · have f := (if_neg q3).symm.trans f
    refine lv_aload_n S.1 S.2.1 dX12_onceLine_12 rfl (lv_at hl 0 rfl) ?_
    obtain ⟨v4, e5, f⟩ := ob f
    refine o_gI S lf12_onceLine_183 I e5 dX12_onceLine_13 ?_
    refine lv_iconst (v := 4) S.1 S.2.1 dX12_onceLine_16 (by decide) ?_
    refine lv_icmp_ne (tgt := 24) S.1 S.2.1 dX12_onceLine_17 (by decide) (fun q6 => ?_) (fun q6 => ?_)
    · have f := (if_neg q6).symm.trans f
      refine lv_aload_n S.1 S.2.1 dX12_onceLine_24 rfl (lv_at hl 0 rfl) ?_
      obtain ⟨v7, e8, f⟩ := ob f
      refine o_gI S lf12_onceLine_183 I e8 dX12_onceLine_25 ?_
      refine lv_iconst (v := 5) S.1 S.2.1 dX12_onceLine_28 (by decide) ?_
      refine lv_icmp_ne (tgt := 36) S.1 S.2.1 dX12_onceLine_29 (by decide) (fun q9 => ?_) (fun q9 => ?_)
      · have f := (if_neg q9).symm.trans f
        refine lv_iconst (v := 4) S.1 S.2.1 dX12_onceLine_36 (by decide) ?_
        exact T12_onceLine_37 S hr hlo  f I (lv_sub hl [0] rfl)
      · have f := (if_pos q9).symm.trans f
        refine lv_iconst (v := 3) S.1 S.2.1 dX12_onceLine_32 (by decide) ?_
        refine lv_goto (tgt := 37) S.1 S.2.1 dX12_onceLine_33 (by decide) ?_
        exact T12_onceLine_37 S hr hlo  f I (lv_sub hl [0] rfl)
    · have f := (if_pos q6).symm.trans f
      refine lv_iconst (v := 2) S.1 S.2.1 dX12_onceLine_20 (by decide) ?_
      refine lv_goto (tgt := 37) S.1 S.2.1 dX12_onceLine_21 (by decide) ?_
      exact T12_onceLine_37 S hr hlo  f I (lv_sub hl [0] rfl)
  · have f := (if_pos q3).symm.trans f
    refine lv_iconst (v := 1) S.1 S.2.1 dX12_onceLine_8 (by decide) ?_
    refine lv_goto (tgt := 37) S.1 S.2.1 dX12_onceLine_9 (by decide) ?_
    exact T12_onceLine_37 S hr hlo  f I (lv_sub hl [0] rfl)
theorem M12_onceLine (l : Launch) (D : va_G) (cy : Nat → ClassId) (b : Nat) (A : Nat → Prop) (fl : Bool) {h : PH} {a0 : Nat} {out : Int32 × PH} (f : F12_onceLine h a0 = some out) : Met l yX12_onceLine vX12_onceLine ({ frames := 4, cells := 0, slots := 0, locals := 89 } : Room) (va_Pc [.ref (b + a0)] (ph_B D cy b A fl h)) (va_Qi (fun (r : Int32) (u : PH) => (r, u) = out) (ph_B D cy b A fl) A) 0 0 A :=
  o_met (by decide) rfl (Nat.le_of_ble_eq_true rfl) rfl (fun p e s m below meth c S hr hlo hnm ls hl I => T12_onceLine_0 S hr hlo ((gd f).2) I (lv_sub hl [0] rfl))
def vX12_signs : List Cond := .code yX12_signs cX12_signs 2 (some .boolean) :: TB
theorem lp12_signs_323 : Pl vX12_signs RX12 323 12 51 .boolean := ⟨RX12, TX12, 87, tyX12, rfl, by decide, (fun w h9 => List.mem_cons_of_mem _ (wC_wsX120 w h9)), (List.mem_cons_of_mem _ wT_30_4), tyX12_ok, nmX12, rfl, rfl⟩
theorem gX12_signs_X12_token : GoodIn vX12_signs (wsV RX12 206 RX12 yX12_token vX12_token) := gV_of wT_26_21 wT_26_22 wT_26_23 wT_1_5 wT_27_0
theorem gX12_signs_X12_isCounted : GoodIn vX12_signs (wsV RX12 329 RX12 yX12_isCounted vX12_isCounted) := gV_of wT_30_21 wT_30_22 wT_30_23 wT_1_5 wT_31_0
theorem gX12_signs_X12_waitsFor : GoodIn vX12_signs (wsV RX12 319 RX12 yX12_waitsFor vX12_waitsFor) := gV_of wT_30_13 wT_30_14 wT_30_15 wT_1_5 wT_30_16
theorem lp12_signs_335 : Pl vX12_signs RX12 335 12 50 .boolean := ⟨RX12, TX12, 87, tyX12, rfl, by decide, (fun w h9 => List.mem_cons_of_mem _ (wC_wsX120 w h9)), (List.mem_cons_of_mem _ wT_30_3), tyX12_ok, nmX12, rfl, rfl⟩
theorem gX12_signs_X12_rank : GoodIn vX12_signs (va_wsS RX12 304 yX12_rank vX12_rank) := gS_of wT_31_17 wT_31_18 wT_1_5 wT_31_19
theorem gX12_signs_X12_bind : GoodIn vX12_signs (wsV RX12 338 RX12 yX12_bind vX12_bind) := gV_of wT_31_13 wT_31_14 wT_31_15 wT_1_5 wT_31_16
theorem lf12_signs_301 : Fl vX12_signs RX12 301 12 46 := ⟨RX12, TX12, 87, rfl, by decide, (fun w h9 => List.mem_cons_of_mem _ (wC_wsX120 w h9)), (List.mem_cons_of_mem _ wT_30_0)⟩
theorem lf12_signs_75 : Fl vX12_signs RX12 75 12 44 := ⟨RX12, TX12, 87, rfl, by decide, (fun w h9 => List.mem_cons_of_mem _ (wC_wsX120 w h9)), (List.mem_cons_of_mem _ wT_10_18)⟩
theorem gX12_signs_X12_wrong : GoodIn vX12_signs (wsV RX12 196 RX12 yX12_wrong vX12_wrong) := gV_of wT_28_4 wT_28_5 wT_28_6 wT_1_5 wT_28_7
theorem gX12_signs_X12_isKey : GoodIn vX12_signs (wsV RX12 326 RX12 yX12_isKey vX12_isKey) := gV_of wT_30_17 wT_30_18 wT_30_19 wT_1_5 wT_30_20
theorem lf12_signs_172 : Fl vX12_signs RX12 172 12 8 := ⟨RX12, TX12, 87, rfl, by decide, (fun w h9 => List.mem_cons_of_mem _ (wC_wsX120 w h9)), (List.mem_cons_of_mem _ wT_26_20)⟩
theorem gX12_signs_X12_isSign : GoodIn vX12_signs (wsV RX12 209 RX12 yX12_isSign vX12_isSign) := gV_of wT_30_5 wT_30_6 wT_30_7 wT_1_5 wT_30_8
theorem lf12_signs_183 : Fl vX12_signs RX12 183 12 9 := ⟨RX12, TX12, 87, rfl, by decide, (fun w h9 => List.mem_cons_of_mem _ (wC_wsX120 w h9)), (List.mem_cons_of_mem _ wT_27_2)⟩
theorem lf12_signs_316 : Fl vX12_signs RX12 316 12 48 := ⟨RX12, TX12, 87, rfl, by decide, (fun w h9 => List.mem_cons_of_mem _ (wC_wsX120 w h9)), (List.mem_cons_of_mem _ wT_30_2)⟩
theorem lp12_signs_301 : Pl vX12_signs RX12 301 12 46 .int := ⟨RX12, TX12, 87, tyX12, rfl, by decide, (fun w h9 => List.mem_cons_of_mem _ (wC_wsX120 w h9)), (List.mem_cons_of_mem _ wT_30_0), tyX12_ok, nmX12, rfl, rfl⟩
theorem lp12_signs_316 : Pl vX12_signs RX12 316 12 48 .int := ⟨RX12, TX12, 87, tyX12, rfl, by decide, (fun w h9 => List.mem_cons_of_mem _ (wC_wsX120 w h9)), (List.mem_cons_of_mem _ wT_30_2), tyX12_ok, nmX12, rfl, rfl⟩
theorem cd12_signs : Cd yX12_signs 0 := ⟨by decide, by decide, by decide +kernel⟩
set_option maxHeartbeats 4000000 in
set_option maxRecDepth 100000 in
theorem T12_signs_250 (S : CallFix p m c cX12_signs 2 s args vX12_signs RX12) (hr : meth.sig.returnType = (some .boolean)) (hlo : meth.locks = false) {out : Int32 × PH} {h : PH} {a0 : Nat} {s0 : Int32} {u1 : Nat} (f : F12_signs_250  h a0 s0 u1 = some out) {H : Heap} {locs : List Loc} (I : ph_I D cy b A fl h s H locs) {ls : Array Slot} (hl : lv_has ls 2 [(0, .ref (b + a0))]) : W p l e ({ frames := 2, cells := 0, slots := 0, locals := 47 } : Room) s m args below meth c H locs 0 0 (MQ below (va_Qi (fun (r : Int32) (u : PH) => (r, u) = out) (ph_B D cy b A fl) A) args s 0 0 A) (F0 m 250 ls [.int s0, .ref (b + u1)]) := by
  unfold F12_signs_250 at f
  obtain ⟨h1, e2, f⟩ := ob f
  refine o_pZ S lp12_signs_323 I e2 dX12_signs_250 (fun H locs I => ?_)
  refine lv_aload_n S.1 S.2.1 dX12_signs_253 rfl (lv_at hl 0 rfl) ?_
  obtain ⟨o3, e4, f⟩ := ob f
  refine o_Vv S (As := []) (rest := []) (ci := 12) (M12_token l D cy b A fl e4) gX12_signs_X12_token rfl rfl rfl cd12_token ⟨Nat.le_of_ble_eq_true rfl, Nat.le_of_ble_eq_true rfl⟩ I (gd e4).1 clX12 rfl rfl hl.1 rfl (Nat.le_of_ble_eq_true rfl) dX12_signs_254 ⟨Nat.le_of_ble_eq_true rfl, Nat.le_of_ble_eq_true rfl⟩ (fun H locs I => ?_)
  refine lv_iconst (v := 1) S.1 S.2.1 dX12_signs_257 (by decide) ?_
  exact o_zret S hr hlo I f dX12_signs_258
set_option maxHeartbeats 4000000 in
set_option maxRecDepth 100000 in
theorem T12_signs_217 (S : CallFix p m c cX12_signs 2 s args vX12_signs RX12) (hr : meth.sig.returnType = (some .boolean)) (hlo : meth.locks = false) {out : Int32 × PH} {h : PH} {a0 : Nat} {x1 : Int32} (f : F12_signs_217  h a0 x1 = some out) {H : Heap} {locs : List Loc} (I : ph_I D cy b A fl h s H locs) {ls : Array Slot} (hl : lv_has ls 2 [(0, .ref (b + a0)), (1, .int x1)]) : W p l e ({ frames := 2, cells := 0, slots := 0, locals := 47 } : Room) s m args below meth c H locs 0 0 (MQ below (va_Qi (fun (r : Int32) (u : PH) => (r, u) = out) (ph_B D cy b A fl) A) args s 0 0 A) (F0 m 217 ls []) := by
  unfold F12_signs_217 at f
  refine lv_aload_n S.1 S.2.1 dX12_signs_217 rfl (lv_at hl 0 rfl) ?_
  obtain ⟨o1, e2, f⟩ := ob f
  refine o_Vi S (As := []) (rest := []) (ci := 12) (M12_isCounted l D cy b A fl e2) gX12_signs_X12_isCounted rfl rfl rfl cd12_isCounted ⟨Nat.le_of_ble_eq_true rfl, Nat.le_of_ble_eq_true rfl⟩ I (gd e2).1 clX12 rfl rfl hl.1 rfl (Nat.le_of_ble_eq_true rfl) dX12_signs_218 ⟨Nat.le_of_ble_eq_true rfl, Nat.le_of_ble_eq_true rfl⟩ (fun H locs I => ?_)
  refine lv_if_ne (tgt := 226) S.1 S.2.1 dX12_signs_221 (by decide) (fun q3 => ?_) (fun q3 => ?_)
  · have f := (if_neg q3).symm.trans f
    refine lv_aload_n S.1 S.2.1 dX12_signs_226 rfl (lv_at hl 0 rfl) ?_
    refine lv_iload_n S.1 S.2.1 dX12_signs_227 rfl (lv_at hl 1 rfl) ?_
    obtain ⟨o4, e5, f⟩ := ob f
    refine o_Vv S (As := [.int x1]) (rest := []) (ci := 12) (M12_waitsFor l D cy b A fl e5) gX12_signs_X12_waitsFor rfl rfl rfl cd12_waitsFor ⟨Nat.le_of_ble_eq_true rfl, Nat.le_of_ble_eq_true rfl⟩ I (gd e5).1 clX12 rfl rfl hl.1 rfl (Nat.le_of_ble_eq_true rfl) dX12_signs_228 ⟨Nat.le_of_ble_eq_true rfl, Nat.le_of_ble_eq_true rfl⟩ (fun H locs I => ?_)
    refine lv_aload_n S.1 S.2.1 dX12_signs_231 rfl (lv_at hl 0 rfl) ?_
    refine lv_iconst (v := 1) S.1 S.2.1 dX12_signs_232 (by decide) ?_
    obtain ⟨h6, e7, f⟩ := ob f
    refine o_pZ S lp12_signs_335 I e7 dX12_signs_233 (fun H locs I => ?_)
    refine lv_aload_n S.1 S.2.1 dX12_signs_236 rfl (lv_at hl 0 rfl) ?_
    refine lv_iload_n S.1 S.2.1 dX12_signs_237 rfl (lv_at hl 1 rfl) ?_
    obtain ⟨o8, e9, f⟩ := ob f
    refine o_Si S (As := [.int x1]) (rest := [.ref (b + a0)]) (M12_rank l D cy b A fl e9) gX12_signs_X12_rank rfl rfl rfl cd12_rank ⟨Nat.le_of_ble_eq_true rfl, Nat.le_of_ble_eq_true rfl⟩ I rfl hl.1 rfl (Nat.le_of_ble_eq_true rfl) dX12_signs_238 ⟨Nat.le_of_ble_eq_true rfl, Nat.le_of_ble_eq_true rfl⟩ (fun H locs I => ?_)
    refine lv_iconst (v := 3) S.1 S.2.1 dX12_signs_241 (by decide) ?_
    refine lv_icmp_ge (tgt := 249) S.1 S.2.1 dX12_signs_242 (by decide) (fun q10 => ?_) (fun q10 => ?_)
    · have f := (if_pos q10).symm.trans f
      refine lv_iconst (v := 0) S.1 S.2.1 dX12_signs_249 (by decide) ?_
      exact T12_signs_250 S hr hlo  f I (lv_sub hl [0] rfl)
    · have f := (if_neg q10).symm.trans f
      refine lv_iconst (v := 1) S.1 S.2.1 dX12_signs_245 (by decide) ?_
      refine lv_goto (tgt := 250) S.1 S.2.1 dX12_signs_246 (by decide) ?_
      exact T12_signs_250 S hr hlo  f I (lv_sub hl [0] rfl)
  · have f := (if_pos q3).symm.trans f
    refine lv_iconst (v := 0) S.1 S.2.1 dX12_signs_224 (by decide) ?_
    exact o_zret S hr hlo I f dX12_signs_225
set_option maxHeartbeats 4000000 in
set_option maxRecDepth 100000 in
theorem T12_signs_175 (S : CallFix p m c cX12_signs 2 s args vX12_signs RX12) (hr : meth.sig.returnType = (some .boolean)) (hlo : meth.locks = false) {out : Int32 × PH} {h : PH} {a0 : Nat} {x1 : Int32} {s0 : Int32} {u1 : Nat} (f : F12_signs_175  h a0 x1 s0 u1 = some out) {H : Heap} {locs : List Loc} (I : ph_I D cy b A fl h s H locs) {ls : Array Slot} (hl : lv_has ls 2 [(0, .ref (b + a0)), (1, .int x1)]) : W p l e ({ frames := 2, cells := 0, slots := 0, locals := 47 } : Room) s m args below meth c H locs 0 0 (MQ below (va_Qi (fun (r : Int32) (u : PH) => (r, u) = out) (ph_B D cy b A fl) A) args s 0 0 A) (F0 m 175 ls [.int s0, .ref (b + u1)]) := by
  unfold F12_signs_175 at f
  obtain ⟨o1, e2, f⟩ := ob f
  refine o_Vv S (As := [.int s0]) (rest := []) (ci := 12) (M12_bind l D cy b A fl e2) gX12_signs_X12_bind rfl rfl rfl cd12_bind ⟨Nat.le_of_ble_eq_true rfl, Nat.le_of_ble_eq_true rfl⟩ I (gd e2).1 clX12 rfl rfl hl.1 rfl (Nat.le_of_ble_eq_true rfl) dX12_signs_175 ⟨Nat.le_of_ble_eq_true rfl, Nat.le_of_ble_eq_true rfl⟩ (fun H locs I => ?_)
  refine lv_iload_n S.1 S.2.1 dX12_signs_178 rfl (lv_at hl 1 rfl) ?_
  obtain ⟨o3, e4, f⟩ := ob f
  refine o_Si S (As := [.int x1]) (rest := []) (M12_rank l D cy b A fl e4) gX12_signs_X12_rank rfl rfl rfl cd12_rank ⟨Nat.le_of_ble_eq_true rfl, Nat.le_of_ble_eq_true rfl⟩ I rfl hl.1 rfl (Nat.le_of_ble_eq_true rfl) dX12_signs_179 ⟨Nat.le_of_ble_eq_true rfl, Nat.le_of_ble_eq_true rfl⟩ (fun H locs I => ?_)
  refine lv_iconst (v := 4) S.1 S.2.1 dX12_signs_182 (by decide) ?_
  refine lv_icmp_ne (tgt := 217) S.1 S.2.1 dX12_signs_183 (by decide) (fun q5 => ?_) (fun q5 => ?_)
  · have f := (if_neg q5).symm.trans f
    exact T12_signs_217 S hr hlo  f I (lv_sub hl [0, 1] rfl)
  · have f := (if_pos q5).symm.trans f
    refine lv_aload_n S.1 S.2.1 dX12_signs_186 rfl (lv_at hl 0 rfl) ?_
    obtain ⟨v6, e7, f⟩ := ob f
    refine o_gI S lf12_signs_301 I e7 dX12_signs_187 ?_
    refine lv_if_le (tgt := 217) S.1 S.2.1 dX12_signs_190 (by decide) (fun q8 => ?_) (fun q8 => ?_)
    · have f := (if_pos q8).symm.trans f
      exact T12_signs_217 S hr hlo  f I (lv_sub hl [0, 1] rfl)
    · have f := (if_neg q8).symm.trans f
      refine lv_aload_n S.1 S.2.1 dX12_signs_193 rfl (lv_at hl 0 rfl) ?_
      obtain ⟨r9, e10, f⟩ := ob f
      refine o_gR S lf12_signs_75 I e10 dX12_signs_194 ?_
      refine lv_aload_n S.1 S.2.1 dX12_signs_197 rfl (lv_at hl 0 rfl) ?_
      obtain ⟨v11, e12, f⟩ := ob f
      refine o_gI S lf12_signs_301 I e12 dX12_signs_198 ?_
      refine lv_iconst (v := 1) S.1 S.2.1 dX12_signs_201 (by decide) ?_
      refine lv_isub S.1 S.2.1 dX12_signs_202 ?_
      obtain ⟨v14, e13, f⟩ := ob f
      refine o_iald S I e13 dX12_signs_203 ?_
      obtain ⟨o15, e16, f⟩ := ob f
      refine o_Si S (As := [.int v14]) (rest := []) (M12_rank l D cy b A fl e16) gX12_signs_X12_rank rfl rfl rfl cd12_rank ⟨Nat.le_of_ble_eq_true rfl, Nat.le_of_ble_eq_true rfl⟩ I rfl hl.1 rfl (Nat.le_of_ble_eq_true rfl) dX12_signs_204 ⟨Nat.le_of_ble_eq_true rfl, Nat.le_of_ble_eq_true rfl⟩ (fun H locs I => ?_)
      refine lv_iconst (v := 4) S.1 S.2.1 dX12_signs_207 (by decide) ?_
      refine lv_icmp_ne (tgt := 217) S.1 S.2.1 dX12_signs_208 (by decide) (fun q17 => ?_) (fun q17 => ?_)
      · have f := (if_neg q17).symm.trans f
        exact T12_signs_217 S hr hlo  f I (lv_sub hl [0, 1] rfl)
      · have f := (if_pos q17).symm.trans f
        refine lv_aload_n S.1 S.2.1 dX12_signs_211 rfl (lv_at hl 0 rfl) ?_
        refine lv_iconst (v := 1) S.1 S.2.1 dX12_signs_212 (by decide) ?_
        obtain ⟨o18, e19, f⟩ := ob f
        refine o_Vi S (As := [.int 1]) (rest := []) (ci := 12) (M12_wrong l D cy b A fl e19) gX12_signs_X12_wrong rfl rfl rfl cd12_wrong ⟨Nat.le_of_ble_eq_true rfl, Nat.le_of_ble_eq_true rfl⟩ I (gd e19).1 clX12 rfl rfl hl.1 rfl (Nat.le_of_ble_eq_true rfl) dX12_signs_213 ⟨Nat.le_of_ble_eq_true rfl, Nat.le_of_ble_eq_true rfl⟩ (fun H locs I => ?_)
        exact o_zret S hr hlo I f dX12_signs_216
set_option maxHeartbeats 4000000 in
set_option maxRecDepth 100000 in
theorem T12_signs_147 (S : CallFix p m c cX12_signs 2 s args vX12_signs RX12) (hr : meth.sig.returnType = (some .boolean)) (hlo : meth.locks = false) {out : Int32 × PH} {h : PH} {a0 : Nat} {s0 : Int32} (f : F12_signs_147  h a0 s0 = some out) {H : Heap} {locs : List Loc} (I : ph_I D cy b A fl h s H locs) {ls : Array Slot} (hl : lv_has ls 2 [(0, .ref (b + a0))]) : W p l e ({ frames := 2, cells := 0, slots := 0, locals := 47 } : Room) s m args below meth c H locs 0 0 (MQ below (va_Qi (fun (r : Int32) (u : PH) => (r, u) = out) (ph_B D cy b A fl) A) args s 0 0 A) (F0 m 147 ls [.int s0]) := by
  unfold F12_signs_147 at f
  refine lv_istore_n (lv' := [(1, .int s0), (0, .ref (b + a0))]) S.1 S.2.1 dX12_signs_147 rfl hl (by decide) rfl (fun ls hl => ?_)
  refine lv_iload_n S.1 S.2.1 dX12_signs_148 rfl (lv_at hl 0 rfl) ?_
  refine lv_if_ne (tgt := 158) S.1 S.2.1 dX12_signs_149 (by decide) (fun q1 => ?_) (fun q1 => ?_)
  · have f := (if_neg q1).symm.trans f
    refine lv_aload_n S.1 S.2.1 dX12_signs_158 rfl (lv_at hl 1 rfl) ?_
    refine lv_iload_n S.1 S.2.1 dX12_signs_159 rfl (lv_at hl 0 rfl) ?_
    obtain ⟨o2, e3, f⟩ := ob f
    refine o_Si S (As := [.int s0]) (rest := [.ref (b + a0)]) (M12_rank l D cy b A fl e3) gX12_signs_X12_rank rfl rfl rfl cd12_rank ⟨Nat.le_of_ble_eq_true rfl, Nat.le_of_ble_eq_true rfl⟩ I rfl hl.1 rfl (Nat.le_of_ble_eq_true rfl) dX12_signs_160 ⟨Nat.le_of_ble_eq_true rfl, Nat.le_of_ble_eq_true rfl⟩ (fun H locs I => ?_)
    refine lv_iconst (v := 4) S.1 S.2.1 dX12_signs_163 (by decide) ?_
    refine lv_icmp_ne (tgt := 171) S.1 S.2.1 dX12_signs_164 (by decide) (fun q4 => ?_) (fun q4 => ?_)
    · have f := (if_neg q4).symm.trans f
      refine lv_iload_n S.1 S.2.1 dX12_signs_171 rfl (lv_at hl 0 rfl) ?_
      obtain ⟨o5, e6, f⟩ := ob f
      refine o_Si S (As := [.int s0]) (rest := [.ref (b + a0)]) (M12_rank l D cy b A fl e6) gX12_signs_X12_rank rfl rfl rfl cd12_rank ⟨Nat.le_of_ble_eq_true rfl, Nat.le_of_ble_eq_true rfl⟩ I rfl hl.1 rfl (Nat.le_of_ble_eq_true rfl) dX12_signs_172 ⟨Nat.le_of_ble_eq_true rfl, Nat.le_of_ble_eq_true rfl⟩ (fun H locs I => ?_)
      exact T12_signs_175 S hr hlo  f I (lv_sub hl [1, 0] rfl)
    · have f := (if_pos q4).symm.trans f
      refine lv_iconst (v := 5) S.1 S.2.1 dX12_signs_167 (by decide) ?_
      refine lv_goto (tgt := 175) S.1 S.2.1 dX12_signs_168 (by decide) ?_
      exact T12_signs_175 S hr hlo  f I (lv_sub hl [1, 0] rfl)
  · have f := (if_pos q1).symm.trans f
    refine lv_aload_n S.1 S.2.1 dX12_signs_152 rfl (lv_at hl 1 rfl) ?_
    refine lv_iconst (v := 1) S.1 S.2.1 dX12_signs_153 (by decide) ?_
    obtain ⟨o7, e8, f⟩ := ob f
    refine o_Vi S (As := [.int 1]) (rest := []) (ci := 12) (M12_wrong l D cy b A fl e8) gX12_signs_X12_wrong rfl rfl rfl cd12_wrong ⟨Nat.le_of_ble_eq_true rfl, Nat.le_of_ble_eq_true rfl⟩ I (gd e8).1 clX12 rfl rfl hl.1 rfl (Nat.le_of_ble_eq_true rfl) dX12_signs_154 ⟨Nat.le_of_ble_eq_true rfl, Nat.le_of_ble_eq_true rfl⟩ (fun H locs I => ?_)
    exact o_zret S hr hlo I f dX12_signs_157
set_option maxHeartbeats 4000000 in
set_option maxRecDepth 100000 in
theorem T12_signs_47 (S : CallFix p m c cX12_signs 2 s args vX12_signs RX12) (hr : meth.sig.returnType = (some .boolean)) (hlo : meth.locks = false) {out : Int32 × PH} {h : PH} {a0 : Nat} (f : F12_signs_47  h a0 = some out) {H : Heap} {locs : List Loc} (I : ph_I D cy b A fl h s H locs) {ls : Array Slot} (hl : lv_has ls 2 [(0, .ref (b + a0))]) : W p l e ({ frames := 2, cells := 0, slots := 0, locals := 47 } : Room) s m args below meth c H locs 0 0 (MQ below (va_Qi (fun (r : Int32) (u : PH) => (r, u) = out) (ph_B D cy b A fl) A) args s 0 0 A) (F0 m 47 ls []) := by
  unfold F12_signs_47 at f
  refine lv_aload_n S.1 S.2.1 dX12_signs_47 rfl (lv_at hl 0 rfl) ?_
  refine lv_bipush (v := 15) S.1 S.2.1 dX12_signs_48 (by decide) ?_
  obtain ⟨o1, e2, f⟩ := ob f
  refine o_Vi S (As := [.int 15]) (rest := []) (ci := 12) (M12_isKey l D cy b A fl e2) gX12_signs_X12_isKey rfl rfl rfl cd12_isKey ⟨Nat.le_of_ble_eq_true rfl, Nat.le_of_ble_eq_true rfl⟩ I (gd e2).1 clX12 rfl rfl hl.1 rfl (Nat.le_of_ble_eq_true rfl) dX12_signs_50 ⟨Nat.le_of_ble_eq_true rfl, Nat.le_of_ble_eq_true rfl⟩ (fun H locs I => ?_)
  refine lv_if_eq (tgt := 60) S.1 S.2.1 dX12_signs_53 (by decide) (fun q3 => ?_) (fun q3 => ?_)
  · have f := (if_pos q3).symm.trans f
    refine lv_aload_n S.1 S.2.1 dX12_signs_60 rfl (lv_at hl 0 rfl) ?_
    refine lv_bipush (v := 16) S.1 S.2.1 dX12_signs_61 (by decide) ?_
    obtain ⟨o4, e5, f⟩ := ob f
    refine o_Vi S (As := [.int 16]) (rest := []) (ci := 12) (M12_isKey l D cy b A fl e5) gX12_signs_X12_isKey rfl rfl rfl cd12_isKey ⟨Nat.le_of_ble_eq_true rfl, Nat.le_of_ble_eq_true rfl⟩ I (gd e5).1 clX12 rfl rfl hl.1 rfl (Nat.le_of_ble_eq_true rfl) dX12_signs_63 ⟨Nat.le_of_ble_eq_true rfl, Nat.le_of_ble_eq_true rfl⟩ (fun H locs I => ?_)
    refine lv_if_eq (tgt := 73) S.1 S.2.1 dX12_signs_66 (by decide) (fun q6 => ?_) (fun q6 => ?_)
    · have f := (if_pos q6).symm.trans f
      refine lv_aload_n S.1 S.2.1 dX12_signs_73 rfl (lv_at hl 0 rfl) ?_
      obtain ⟨v7, e8, f⟩ := ob f
      refine o_gI S lf12_signs_172 I e8 dX12_signs_74 ?_
      refine lv_iconst (v := 5) S.1 S.2.1 dX12_signs_77 (by decide) ?_
      refine lv_icmp_ne (tgt := 90) S.1 S.2.1 dX12_signs_78 (by decide) (fun q9 => ?_) (fun q9 => ?_)
      · have f := (if_neg q9).symm.trans f
        refine lv_aload_n S.1 S.2.1 dX12_signs_90 rfl (lv_at hl 0 rfl) ?_
        refine lv_bipush (v := 43) S.1 S.2.1 dX12_signs_91 (by decide) ?_
        obtain ⟨o10, e11, f⟩ := ob f
        refine o_Vi S (As := [.int 43]) (rest := []) (ci := 12) (M12_isSign l D cy b A fl e11) gX12_signs_X12_isSign rfl rfl rfl cd12_isSign ⟨Nat.le_of_ble_eq_true rfl, Nat.le_of_ble_eq_true rfl⟩ I (gd e11).1 clX12 rfl rfl hl.1 rfl (Nat.le_of_ble_eq_true rfl) dX12_signs_93 ⟨Nat.le_of_ble_eq_true rfl, Nat.le_of_ble_eq_true rfl⟩ (fun H locs I => ?_)
        refine lv_if_eq (tgt := 104) S.1 S.2.1 dX12_signs_96 (by decide) (fun q12 => ?_) (fun q12 => ?_)
        · have f := (if_pos q12).symm.trans f
          refine lv_aload_n S.1 S.2.1 dX12_signs_104 rfl (lv_at hl 0 rfl) ?_
          refine lv_bipush (v := 45) S.1 S.2.1 dX12_signs_105 (by decide) ?_
          obtain ⟨o13, e14, f⟩ := ob f
          refine o_Vi S (As := [.int 45]) (rest := []) (ci := 12) (M12_isSign l D cy b A fl e14) gX12_signs_X12_isSign rfl rfl rfl cd12_isSign ⟨Nat.le_of_ble_eq_true rfl, Nat.le_of_ble_eq_true rfl⟩ I (gd e14).1 clX12 rfl rfl hl.1 rfl (Nat.le_of_ble_eq_true rfl) dX12_signs_107 ⟨Nat.le_of_ble_eq_true rfl, Nat.le_of_ble_eq_true rfl⟩ (fun H locs I => ?_)
          refine lv_if_eq (tgt := 118) S.1 S.2.1 dX12_signs_110 (by decide) (fun q15 => ?_) (fun q15 => ?_)
          · have f := (if_pos q15).symm.trans f
            refine lv_aload_n S.1 S.2.1 dX12_signs_118 rfl (lv_at hl 0 rfl) ?_
            refine lv_bipush (v := 42) S.1 S.2.1 dX12_signs_119 (by decide) ?_
            obtain ⟨o16, e17, f⟩ := ob f
            refine o_Vi S (As := [.int 42]) (rest := []) (ci := 12) (M12_isSign l D cy b A fl e17) gX12_signs_X12_isSign rfl rfl rfl cd12_isSign ⟨Nat.le_of_ble_eq_true rfl, Nat.le_of_ble_eq_true rfl⟩ I (gd e17).1 clX12 rfl rfl hl.1 rfl (Nat.le_of_ble_eq_true rfl) dX12_signs_121 ⟨Nat.le_of_ble_eq_true rfl, Nat.le_of_ble_eq_true rfl⟩ (fun H locs I => ?_)
            refine lv_if_eq (tgt := 132) S.1 S.2.1 dX12_signs_124 (by decide) (fun q18 => ?_) (fun q18 => ?_)
            · have f := (if_pos q18).symm.trans f
              refine lv_aload_n S.1 S.2.1 dX12_signs_132 rfl (lv_at hl 0 rfl) ?_
              refine lv_bipush (v := 47) S.1 S.2.1 dX12_signs_133 (by decide) ?_
              obtain ⟨o19, e20, f⟩ := ob f
              refine o_Vi S (As := [.int 47]) (rest := []) (ci := 12) (M12_isSign l D cy b A fl e20) gX12_signs_X12_isSign rfl rfl rfl cd12_isSign ⟨Nat.le_of_ble_eq_true rfl, Nat.le_of_ble_eq_true rfl⟩ I (gd e20).1 clX12 rfl rfl hl.1 rfl (Nat.le_of_ble_eq_true rfl) dX12_signs_135 ⟨Nat.le_of_ble_eq_true rfl, Nat.le_of_ble_eq_true rfl⟩ (fun H locs I => ?_)
              refine lv_if_eq (tgt := 146) S.1 S.2.1 dX12_signs_138 (by decide) (fun q21 => ?_) (fun q21 => ?_)
              · have f := (if_pos q21).symm.trans f
                refine lv_iconst (v := 0) S.1 S.2.1 dX12_signs_146 (by decide) ?_
                exact T12_signs_147 S hr hlo  f I (lv_sub hl [0] rfl)
              · have f := (if_neg q21).symm.trans f
                refine lv_bipush (v := 14) S.1 S.2.1 dX12_signs_141 (by decide) ?_
                refine lv_goto (tgt := 147) S.1 S.2.1 dX12_signs_143 (by decide) ?_
                exact T12_signs_147 S hr hlo  f I (lv_sub hl [0] rfl)
            · have f := (if_neg q18).symm.trans f
              refine lv_bipush (v := 13) S.1 S.2.1 dX12_signs_127 (by decide) ?_
              refine lv_goto (tgt := 147) S.1 S.2.1 dX12_signs_129 (by decide) ?_
              exact T12_signs_147 S hr hlo  f I (lv_sub hl [0] rfl)
          · have f := (if_neg q15).symm.trans f
            refine lv_bipush (v := 12) S.1 S.2.1 dX12_signs_113 (by decide) ?_
            refine lv_goto (tgt := 147) S.1 S.2.1 dX12_signs_115 (by decide) ?_
            exact T12_signs_147 S hr hlo  f I (lv_sub hl [0] rfl)
        · have f := (if_neg q12).symm.trans f
          refine lv_bipush (v := 11) S.1 S.2.1 dX12_signs_99 (by decide) ?_
          refine lv_goto (tgt := 147) S.1 S.2.1 dX12_signs_101 (by decide) ?_
          exact T12_signs_147 S hr hlo  f I (lv_sub hl [0] rfl)
      · have f := (if_pos q9).symm.trans f
        refine lv_iconst (v := 5) S.1 S.2.1 dX12_signs_81 (by decide) ?_
        refine lv_aload_n S.1 S.2.1 dX12_signs_82 rfl (lv_at hl 0 rfl) ?_
        obtain ⟨v22, e23, f⟩ := ob f
        refine o_gI S lf12_signs_183 I e23 dX12_signs_83 ?_
        refine lv_iadd S.1 S.2.1 dX12_signs_86 ?_
        refine lv_goto (tgt := 147) S.1 S.2.1 dX12_signs_87 (by decide) ?_
        exact T12_signs_147 S hr hlo  f I (lv_sub hl [0] rfl)
    · have f := (if_neg q6).symm.trans f
      refine lv_iconst (v := 4) S.1 S.2.1 dX12_signs_69 (by decide) ?_
      refine lv_goto (tgt := 147) S.1 S.2.1 dX12_signs_70 (by decide) ?_
      exact T12_signs_147 S hr hlo  f I (lv_sub hl [0] rfl)
  · have f := (if_neg q3).symm.trans f
    refine lv_iconst (v := 3) S.1 S.2.1 dX12_signs_56 (by decide) ?_
    refine lv_goto (tgt := 147) S.1 S.2.1 dX12_signs_57 (by decide) ?_
    exact T12_signs_147 S hr hlo  f I (lv_sub hl [0] rfl)
set_option maxHeartbeats 4000000 in
set_option maxRecDepth 100000 in
theorem T12_signs_0 (S : CallFix p m c cX12_signs 2 s args vX12_signs RX12) (hr : meth.sig.returnType = (some .boolean)) (hlo : meth.locks = false) {out : Int32 × PH} {h : PH} {a0 : Nat} (f : F12_signs_0  h a0 = some out) {H : Heap} {locs : List Loc} (I : ph_I D cy b A fl h s H locs) {ls : Array Slot} (hl : lv_has ls 2 [(0, .ref (b + a0))]) : W p l e ({ frames := 2, cells := 0, slots := 0, locals := 47 } : Room) s m args below meth c H locs 0 0 (MQ below (va_Qi (fun (r : Int32) (u : PH) => (r, u) = out) (ph_B D cy b A fl) A) args s 0 0 A) (F0 m 0 ls []) := by
  unfold F12_signs_0 at f
  refine lv_aload_n S.1 S.2.1 dX12_signs_0 rfl (lv_at hl 0 rfl) ?_
  refine lv_bipush (v := 41) S.1 S.2.1 dX12_signs_1 (by decide) ?_
  obtain ⟨o1, e2, f⟩ := ob f
  refine o_Vi S (As := [.int 41]) (rest := []) (ci := 12) (M12_isSign l D cy b A fl e2) gX12_signs_X12_isSign rfl rfl rfl cd12_isSign ⟨Nat.le_of_ble_eq_true rfl, Nat.le_of_ble_eq_true rfl⟩ I (gd e2).1 clX12 rfl rfl hl.1 rfl (Nat.le_of_ble_eq_true rfl) dX12_signs_3 ⟨Nat.le_of_ble_eq_true rfl, Nat.le_of_ble_eq_true rfl⟩ (fun H locs I => ?_)
  refine lv_if_eq (tgt := 47) S.1 S.2.1 dX12_signs_6 (by decide) (fun q3 => ?_) (fun q3 => ?_)
  · have f := (if_pos q3).symm.trans f
    exact T12_signs_47 S hr hlo  f I (lv_sub hl [0] rfl)
  · have f := (if_neg q3).symm.trans f
    refine lv_aload_n S.1 S.2.1 dX12_signs_9 rfl (lv_at hl 0 rfl) ?_
    obtain ⟨v4, e5, f⟩ := ob f
    refine o_gI S lf12_signs_316 I e5 dX12_signs_10 ?_
    refine lv_if_le (tgt := 47) S.1 S.2.1 dX12_signs_13 (by decide) (fun q6 => ?_) (fun q6 => ?_)
    · have f := (if_pos q6).symm.trans f
      exact T12_signs_47 S hr hlo  f I (lv_sub hl [0] rfl)
    · have f := (if_neg q6).symm.trans f
      refine lv_aload_n S.1 S.2.1 dX12_signs_16 rfl (lv_at hl 0 rfl) ?_
      refine lv_iconst (v := 1) S.1 S.2.1 dX12_signs_17 (by decide) ?_
      obtain ⟨o7, e8, f⟩ := ob f
      refine o_Vv S (As := [.int 1]) (rest := []) (ci := 12) (M12_bind l D cy b A fl e8) gX12_signs_X12_bind rfl rfl rfl cd12_bind ⟨Nat.le_of_ble_eq_true rfl, Nat.le_of_ble_eq_true rfl⟩ I (gd e8).1 clX12 rfl rfl hl.1 rfl (Nat.le_of_ble_eq_true rfl) dX12_signs_18 ⟨Nat.le_of_ble_eq_true rfl, Nat.le_of_ble_eq_true rfl⟩ (fun H locs I => ?_)
      refine lv_aload_n S.1 S.2.1 dX12_signs_21 rfl (lv_at hl 0 rfl) ?_
      refine lv_dup S.1 S.2.1 dX12_signs_22 rfl ?_
      obtain ⟨v9, e10, f⟩ := ob f
      refine o_gI S lf12_signs_301 I e10 dX12_signs_23 ?_
      refine lv_iconst (v := 1) S.1 S.2.1 dX12_signs_26 (by decide) ?_
      refine lv_isub S.1 S.2.1 dX12_signs_27 ?_
      obtain ⟨h11, e12, f⟩ := ob f
      refine o_pI S lp12_signs_301 I e12 dX12_signs_28 (fun H locs I => ?_)
      refine lv_aload_n S.1 S.2.1 dX12_signs_31 rfl (lv_at hl 0 rfl) ?_
      refine lv_dup S.1 S.2.1 dX12_signs_32 rfl ?_
      obtain ⟨v13, e14, f⟩ := ob f
      refine o_gI S lf12_signs_316 I e14 dX12_signs_33 ?_
      refine lv_iconst (v := 1) S.1 S.2.1 dX12_signs_36 (by decide) ?_
      refine lv_isub S.1 S.2.1 dX12_signs_37 ?_
      obtain ⟨h15, e16, f⟩ := ob f
      refine o_pI S lp12_signs_316 I e16 dX12_signs_38 (fun H locs I => ?_)
      refine lv_aload_n S.1 S.2.1 dX12_signs_41 rfl (lv_at hl 0 rfl) ?_
      obtain ⟨o17, e18, f⟩ := ob f
      refine o_Vv S (As := []) (rest := []) (ci := 12) (M12_token l D cy b A fl e18) gX12_signs_X12_token rfl rfl rfl cd12_token ⟨Nat.le_of_ble_eq_true rfl, Nat.le_of_ble_eq_true rfl⟩ I (gd e18).1 clX12 rfl rfl hl.1 rfl (Nat.le_of_ble_eq_true rfl) dX12_signs_42 ⟨Nat.le_of_ble_eq_true rfl, Nat.le_of_ble_eq_true rfl⟩ (fun H locs I => ?_)
      refine lv_iconst (v := 1) S.1 S.2.1 dX12_signs_45 (by decide) ?_
      exact o_zret S hr hlo I f dX12_signs_46
theorem M12_signs (l : Launch) (D : va_G) (cy : Nat → ClassId) (b : Nat) (A : Nat → Prop) (fl : Bool) {h : PH} {a0 : Nat} {out : Int32 × PH} (f : F12_signs h a0 = some out) : Met l yX12_signs vX12_signs ({ frames := 2, cells := 0, slots := 0, locals := 47 } : Room) (va_Pc [.ref (b + a0)] (ph_B D cy b A fl h)) (va_Qi (fun (r : Int32) (u : PH) => (r, u) = out) (ph_B D cy b A fl) A) 0 0 A :=
  o_met (by decide) rfl (Nat.le_of_ble_eq_true rfl) rfl (fun p e s m below meth c S hr hlo hnm ls hl I => T12_signs_0 S hr hlo ((gd f).2) I (lv_sub hl [0] rfl))
def vX12_sumRead : List Cond := .code yX12_sumRead cX12_sumRead 1 (some .boolean) :: TB
theorem lf12_sumRead_335 : Fl vX12_sumRead RX12 335 12 50 := ⟨RX12, TX12, 87, rfl, by decide, (fun w h9 => List.mem_cons_of_mem _ (wC_wsX120 w h9)), (List.mem_cons_of_mem _ wT_30_3)⟩
theorem gX12_sumRead_X12_signs : GoodIn vX12_sumRead (wsV RX12 344 RX12 yX12_signs vX12_signs) := gV_of wT_31_9 wT_31_10 wT_31_11 wT_1_5 wT_31_12
theorem gX12_sumRead_X12_leafRead : GoodIn vX12_sumRead (wsV RX12 341 RX12 yX12_leafRead vX12_leafRead) := gV_of wT_30_9 wT_30_10 wT_30_11 wT_1_5 wT_30_12
theorem gX12_sumRead_X12_isSign : GoodIn vX12_sumRead (wsV RX12 209 RX12 yX12_isSign vX12_isSign) := gV_of wT_30_5 wT_30_6 wT_30_7 wT_1_5 wT_30_8
theorem lf12_sumRead_316 : Fl vX12_sumRead RX12 316 12 48 := ⟨RX12, TX12, 87, rfl, by decide, (fun w h9 => List.mem_cons_of_mem _ (wC_wsX120 w h9)), (List.mem_cons_of_mem _ wT_30_2)⟩
theorem gX12_sumRead_X12_bind : GoodIn vX12_sumRead (wsV RX12 338 RX12 yX12_bind vX12_bind) := gV_of wT_31_13 wT_31_14 wT_31_15 wT_1_5 wT_31_16
theorem lp12_sumRead_301 : Pl vX12_sumRead RX12 301 12 46 .int := ⟨RX12, TX12, 87, tyX12, rfl, by decide, (fun w h9 => List.mem_cons_of_mem _ (wC_wsX120 w h9)), (List.mem_cons_of_mem _ wT_30_0), tyX12_ok, nmX12, rfl, rfl⟩
theorem lp12_sumRead_298 : Pl vX12_sumRead RX12 298 12 47 .int := ⟨RX12, TX12, 87, tyX12, rfl, by decide, (fun w h9 => List.mem_cons_of_mem _ (wC_wsX120 w h9)), (List.mem_cons_of_mem _ wT_30_1), tyX12_ok, nmX12, rfl, rfl⟩
theorem lp12_sumRead_316 : Pl vX12_sumRead RX12 316 12 48 .int := ⟨RX12, TX12, 87, tyX12, rfl, by decide, (fun w h9 => List.mem_cons_of_mem _ (wC_wsX120 w h9)), (List.mem_cons_of_mem _ wT_30_2), tyX12_ok, nmX12, rfl, rfl⟩
theorem lp12_sumRead_335 : Pl vX12_sumRead RX12 335 12 50 .boolean := ⟨RX12, TX12, 87, tyX12, rfl, by decide, (fun w h9 => List.mem_cons_of_mem _ (wC_wsX120 w h9)), (List.mem_cons_of_mem _ wT_30_3), tyX12_ok, nmX12, rfl, rfl⟩
theorem lp12_sumRead_323 : Pl vX12_sumRead RX12 323 12 51 .boolean := ⟨RX12, TX12, 87, tyX12, rfl, by decide, (fun w h9 => List.mem_cons_of_mem _ (wC_wsX120 w h9)), (List.mem_cons_of_mem _ wT_30_4), tyX12_ok, nmX12, rfl, rfl⟩
theorem cd12_sumRead : Cd yX12_sumRead 0 := ⟨by decide, by decide, by decide +kernel⟩
set_option maxHeartbeats 4000000 in
set_option maxRecDepth 100000 in
theorem T12_sumRead_48 (S : CallFix p m c cX12_sumRead 1 s args vX12_sumRead RX12) (hr : meth.sig.returnType = (some .boolean)) (hlo : meth.locks = false) {out : Int32 × PH} {k25 : PH → Nat → Option (Int32 × PH)} (hk25 : ∀ {h : PH} {a0 : Nat}, k25 h a0 = some out → ∀ (H : Heap) (locs : List Loc), ph_I D cy b A fl h s H locs → ∀ (ls : Array Slot), lv_has ls 1 [(0, .ref (b + a0))] → W p l e ({ frames := 3, cells := 0, slots := 0, locals := 68 } : Room) s m args below meth c H locs 0 0 (MQ below (va_Qi (fun (r : Int32) (u : PH) => (r, u) = out) (ph_B D cy b A fl) A) args s 0 0 A) (F0 m 25 ls [])) {h : PH} {a0 : Nat} (f : F12_sumRead_48 k25 h a0 = some out) {H : Heap} {locs : List Loc} (I : ph_I D cy b A fl h s H locs) {ls : Array Slot} (hl : lv_has ls 1 [(0, .ref (b + a0))]) : W p l e ({ frames := 3, cells := 0, slots := 0, locals := 68 } : Room) s m args below meth c H locs 0 0 (MQ below (va_Qi (fun (r : Int32) (u : PH) => (r, u) = out) (ph_B D cy b A fl) A) args s 0 0 A) (F0 m 48 ls []) := by
  unfold F12_sumRead_48 at f
  refine lv_aload_n S.1 S.2.1 dX12_sumRead_48 rfl (lv_at hl 0 rfl) ?_
  obtain ⟨v1, e2, f⟩ := ob f
  refine o_gI S lf12_sumRead_335 I e2 dX12_sumRead_49 ?_
  refine lv_if_eq (tgt := 65) S.1 S.2.1 dX12_sumRead_52 (by decide) (fun q3 => ?_) (fun q3 => ?_)
  · have f := (if_pos q3).symm.trans f
    refine lv_aload_n S.1 S.2.1 dX12_sumRead_65 rfl (lv_at hl 0 rfl) ?_
    obtain ⟨o4, e5, f⟩ := ob f
    refine o_Vi S (As := []) (rest := []) (ci := 12) (M12_signs l D cy b A fl e5) gX12_sumRead_X12_signs rfl rfl rfl cd12_signs ⟨Nat.le_of_ble_eq_true rfl, Nat.le_of_ble_eq_true rfl⟩ I (gd e5).1 clX12 rfl rfl hl.1 rfl (Nat.le_of_ble_eq_true rfl) dX12_sumRead_66 ⟨Nat.le_of_ble_eq_true rfl, Nat.le_of_ble_eq_true rfl⟩ (fun H locs I => ?_)
    refine lv_if_ne (tgt := 25) S.1 S.2.1 dX12_sumRead_69 (by decide) (fun q6 => ?_) (fun q6 => ?_)
    · have f := (if_neg q6).symm.trans f
      exact hk25 f _ _ I _ (lv_sub hl [0] rfl)
    · have f := (if_pos q6).symm.trans f
      refine lv_iconst (v := 0) S.1 S.2.1 dX12_sumRead_72 (by decide) ?_
      exact o_zret S hr hlo I f dX12_sumRead_73
  · have f := (if_neg q3).symm.trans f
    refine lv_aload_n S.1 S.2.1 dX12_sumRead_55 rfl (lv_at hl 0 rfl) ?_
    obtain ⟨o7, e8, f⟩ := ob f
    refine o_Vi S (As := []) (rest := []) (ci := 12) (M12_leafRead l D cy b A fl e8) gX12_sumRead_X12_leafRead rfl rfl rfl cd12_leafRead ⟨Nat.le_of_ble_eq_true rfl, Nat.le_of_ble_eq_true rfl⟩ I (gd e8).1 clX12 rfl rfl hl.1 rfl (Nat.le_of_ble_eq_true rfl) dX12_sumRead_56 ⟨Nat.le_of_ble_eq_true rfl, Nat.le_of_ble_eq_true rfl⟩ (fun H locs I => ?_)
    refine lv_if_eq (tgt := 72) S.1 S.2.1 dX12_sumRead_59 (by decide) (fun q9 => ?_) (fun q9 => ?_)
    · have f := (if_pos q9).symm.trans f
      refine lv_iconst (v := 0) S.1 S.2.1 dX12_sumRead_72 (by decide) ?_
      exact o_zret S hr hlo I f dX12_sumRead_73
    · have f := (if_neg q9).symm.trans f
      refine lv_goto (tgt := 25) S.1 S.2.1 dX12_sumRead_62 (by decide) ?_
      exact hk25 f _ _ I _ (lv_sub hl [0] rfl)
set_option maxHeartbeats 4000000 in
set_option maxRecDepth 100000 in
theorem T12_sumRead_25 (S : CallFix p m c cX12_sumRead 1 s args vX12_sumRead RX12) (hr : meth.sig.returnType = (some .boolean)) (hlo : meth.locks = false) {out : Int32 × PH} : ∀ (n : Nat) {h : PH} {a0 : Nat} (f : F12_sumRead_25  n h a0 = some out) {H : Heap} {locs : List Loc} (I : ph_I D cy b A fl h s H locs) {ls : Array Slot} (hl : lv_has ls 1 [(0, .ref (b + a0))]), W p l e ({ frames := 3, cells := 0, slots := 0, locals := 68 } : Room) s m args below meth c H locs 0 0 (MQ below (va_Qi (fun (r : Int32) (u : PH) => (r, u) = out) (ph_B D cy b A fl) A) args s 0 0 A) (F0 m 25 ls []) := by
  intro n
  induction n with
  | zero => intro h a0 f; rw [F12_sumRead_25] at f; cases f
  | succ n ih =>
    intro h a0 f H locs I ls hl
    rw [F12_sumRead_25] at f
    refine lv_aload_n S.1 S.2.1 dX12_sumRead_25 rfl (lv_at hl 0 rfl) ?_
    refine lv_bipush (v := 59) S.1 S.2.1 dX12_sumRead_26 (by decide) ?_
    obtain ⟨o1, e2, f⟩ := ob f
    refine o_Vi S (As := [.int 59]) (rest := []) (ci := 12) (M12_isSign l D cy b A fl e2) gX12_sumRead_X12_isSign rfl rfl rfl cd12_isSign ⟨Nat.le_of_ble_eq_true rfl, Nat.le_of_ble_eq_true rfl⟩ I (gd e2).1 clX12 rfl rfl hl.1 rfl (Nat.le_of_ble_eq_true rfl) dX12_sumRead_28 ⟨Nat.le_of_ble_eq_true rfl, Nat.le_of_ble_eq_true rfl⟩ (fun H locs I => ?_)
    refine lv_if_eq (tgt := 48) S.1 S.2.1 dX12_sumRead_31 (by decide) (fun q3 => ?_) (fun q3 => ?_)
    · have f := (if_pos q3).symm.trans f
      exact T12_sumRead_48 S hr hlo (fun f _ _ I _ hl => ih f I hl) f I (lv_sub hl [0] rfl)
    · have f := (if_neg q3).symm.trans f
      refine lv_aload_n S.1 S.2.1 dX12_sumRead_34 rfl (lv_at hl 0 rfl) ?_
      obtain ⟨v4, e5, f⟩ := ob f
      refine o_gI S lf12_sumRead_335 I e5 dX12_sumRead_35 ?_
      refine lv_if_ne (tgt := 48) S.1 S.2.1 dX12_sumRead_38 (by decide) (fun q6 => ?_) (fun q6 => ?_)
      · have f := (if_neg q6).symm.trans f
        exact T12_sumRead_48 S hr hlo (fun f _ _ I _ hl => ih f I hl) f I (lv_sub hl [0] rfl)
      · have f := (if_pos q6).symm.trans f
        refine lv_aload_n S.1 S.2.1 dX12_sumRead_41 rfl (lv_at hl 0 rfl) ?_
        obtain ⟨v7, e8, f⟩ := ob f
        refine o_gI S lf12_sumRead_316 I e8 dX12_sumRead_42 ?_
        refine lv_if_le (tgt := 74) S.1 S.2.1 dX12_sumRead_45 (by decide) (fun q9 => ?_) (fun q9 => ?_)
        · have f := (if_pos q9).symm.trans f
          refine lv_aload_n S.1 S.2.1 dX12_sumRead_74 rfl (lv_at hl 0 rfl) ?_
          refine lv_iconst (v := 1) S.1 S.2.1 dX12_sumRead_75 (by decide) ?_
          obtain ⟨o10, e11, f⟩ := ob f
          refine o_Vv S (As := [.int 1]) (rest := []) (ci := 12) (M12_bind l D cy b A fl e11) gX12_sumRead_X12_bind rfl rfl rfl cd12_bind ⟨Nat.le_of_ble_eq_true rfl, Nat.le_of_ble_eq_true rfl⟩ I (gd e11).1 clX12 rfl rfl hl.1 rfl (Nat.le_of_ble_eq_true rfl) dX12_sumRead_76 ⟨Nat.le_of_ble_eq_true rfl, Nat.le_of_ble_eq_true rfl⟩ (fun H locs I => ?_)
          refine lv_iconst (v := 1) S.1 S.2.1 dX12_sumRead_79 (by decide) ?_
          exact o_zret S hr hlo I f dX12_sumRead_80
        · have f := (if_neg q9).symm.trans f
          exact T12_sumRead_48 S hr hlo (fun f _ _ I _ hl => ih f I hl) f I (lv_sub hl [0] rfl)
set_option maxHeartbeats 4000000 in
set_option maxRecDepth 100000 in
theorem T12_sumRead_0 (S : CallFix p m c cX12_sumRead 1 s args vX12_sumRead RX12) (hr : meth.sig.returnType = (some .boolean)) (hlo : meth.locks = false) {out : Int32 × PH} {h : PH} {a0 : Nat} (f : F12_sumRead_0  h a0 = some out) {H : Heap} {locs : List Loc} (I : ph_I D cy b A fl h s H locs) {ls : Array Slot} (hl : lv_has ls 1 [(0, .ref (b + a0))]) : W p l e ({ frames := 3, cells := 0, slots := 0, locals := 68 } : Room) s m args below meth c H locs 0 0 (MQ below (va_Qi (fun (r : Int32) (u : PH) => (r, u) = out) (ph_B D cy b A fl) A) args s 0 0 A) (F0 m 0 ls []) := by
  unfold F12_sumRead_0 at f
  refine lv_aload_n S.1 S.2.1 dX12_sumRead_0 rfl (lv_at hl 0 rfl) ?_
  refine lv_iconst (v := 0) S.1 S.2.1 dX12_sumRead_1 (by decide) ?_
  obtain ⟨h1, e2, f⟩ := ob f
  refine o_pI S lp12_sumRead_301 I e2 dX12_sumRead_2 (fun H locs I => ?_)
  refine lv_aload_n S.1 S.2.1 dX12_sumRead_5 rfl (lv_at hl 0 rfl) ?_
  refine lv_iconst (v := 0) S.1 S.2.1 dX12_sumRead_6 (by decide) ?_
  obtain ⟨h3, e4, f⟩ := ob f
  refine o_pI S lp12_sumRead_298 I e4 dX12_sumRead_7 (fun H locs I => ?_)
  refine lv_aload_n S.1 S.2.1 dX12_sumRead_10 rfl (lv_at hl 0 rfl) ?_
  refine lv_iconst (v := 0) S.1 S.2.1 dX12_sumRead_11 (by decide) ?_
  obtain ⟨h5, e6, f⟩ := ob f
  refine o_pI S lp12_sumRead_316 I e6 dX12_sumRead_12 (fun H locs I => ?_)
  refine lv_aload_n S.1 S.2.1 dX12_sumRead_15 rfl (lv_at hl 0 rfl) ?_
  refine lv_iconst (v := 1) S.1 S.2.1 dX12_sumRead_16 (by decide) ?_
  obtain ⟨h7, e8, f⟩ := ob f
  refine o_pZ S lp12_sumRead_335 I e8 dX12_sumRead_17 (fun H locs I => ?_)
  refine lv_aload_n S.1 S.2.1 dX12_sumRead_20 rfl (lv_at hl 0 rfl) ?_
  refine lv_iconst (v := 1) S.1 S.2.1 dX12_sumRead_21 (by decide) ?_
  obtain ⟨h9, e10, f⟩ := ob f
  refine o_pZ S lp12_sumRead_323 I e10 dX12_sumRead_22 (fun H locs I => ?_)
  exact T12_sumRead_25 S hr hlo  1024 f I (lv_sub hl [0] rfl)
theorem M12_sumRead (l : Launch) (D : va_G) (cy : Nat → ClassId) (b : Nat) (A : Nat → Prop) (fl : Bool) {h : PH} {a0 : Nat} {out : Int32 × PH} (f : F12_sumRead h a0 = some out) : Met l yX12_sumRead vX12_sumRead ({ frames := 3, cells := 0, slots := 0, locals := 68 } : Room) (va_Pc [.ref (b + a0)] (ph_B D cy b A fl h)) (va_Qi (fun (r : Int32) (u : PH) => (r, u) = out) (ph_B D cy b A fl) A) 0 0 A :=
  o_met (by decide) rfl (Nat.le_of_ble_eq_true rfl) rfl (fun p e s m below meth c S hr hlo hnm ls hl I => T12_sumRead_0 S hr hlo ((gd f).2) I (lv_sub hl [0] rfl))
def vX12_lineRead : List Cond := .code yX12_lineRead cX12_lineRead 3 (some .boolean) :: TB
theorem gX12_lineRead_X12_wrong : GoodIn vX12_lineRead (wsV RX12 196 RX12 yX12_wrong vX12_wrong) := gV_of wT_28_4 wT_28_5 wT_28_6 wT_1_5 wT_28_7
theorem gX12_lineRead_X12_isSign : GoodIn vX12_lineRead (wsV RX12 209 RX12 yX12_isSign vX12_isSign) := gV_of wT_30_5 wT_30_6 wT_30_7 wT_1_5 wT_30_8
theorem gX12_lineRead_X12_token : GoodIn vX12_lineRead (wsV RX12 206 RX12 yX12_token vX12_token) := gV_of wT_26_21 wT_26_22 wT_26_23 wT_1_5 wT_27_0
theorem lf12_lineRead_172 : Fl vX12_lineRead RX12 172 12 8 := ⟨RX12, TX12, 87, rfl, by decide, (fun w h9 => List.mem_cons_of_mem _ (wC_wsX120 w h9)), (List.mem_cons_of_mem _ wT_26_20)⟩
theorem lf12_lineRead_183 : Fl vX12_lineRead RX12 183 12 9 := ⟨RX12, TX12, 87, rfl, by decide, (fun w h9 => List.mem_cons_of_mem _ (wC_wsX120 w h9)), (List.mem_cons_of_mem _ wT_27_2)⟩
theorem gX12_lineRead_X12_seaLine : GoodIn vX12_lineRead (wsV RX12 280 RX12 yX12_seaLine vX12_seaLine) := gV_of wT_28_8 wT_28_9 wT_28_10 wT_1_5 wT_28_11
theorem gX12_lineRead_X12_onceLine : GoodIn vX12_lineRead (wsV RX12 289 RX12 yX12_onceLine vX12_onceLine) := gV_of wT_29_12 wT_29_13 wT_29_14 wT_1_5 wT_29_15
theorem gX12_lineRead_X12_surferLine : GoodIn vX12_lineRead (wsV RX12 283 RX12 yX12_surferLine vX12_surferLine) := gV_of wT_28_20 wT_28_21 wT_28_22 wT_1_5 wT_28_23
theorem gX12_lineRead_X12_setLine : GoodIn vX12_lineRead (wsV RX12 286 RX12 yX12_setLine vX12_setLine) := gV_of wT_29_8 wT_29_9 wT_29_10 wT_1_5 wT_29_11
theorem lf12_lineRead_57 : Fl vX12_lineRead RX12 57 12 37 := ⟨RX12, TX12, 87, rfl, by decide, (fun w h9 => List.mem_cons_of_mem _ (wC_wsX120 w h9)), (List.mem_cons_of_mem _ wT_10_12)⟩
theorem lf12_lineRead_60 : Fl vX12_lineRead RX12 60 12 38 := ⟨RX12, TX12, 87, rfl, by decide, (fun w h9 => List.mem_cons_of_mem _ (wC_wsX120 w h9)), (List.mem_cons_of_mem _ wT_10_13)⟩
theorem lf12_lineRead_231 : Fl vX12_lineRead RX12 231 12 23 := ⟨RX12, TX12, 87, rfl, by decide, (fun w h9 => List.mem_cons_of_mem _ (wC_wsX120 w h9)), (List.mem_cons_of_mem _ wT_12_3)⟩
theorem gX12_lineRead_X12_sumRead : GoodIn vX12_lineRead (wsV RX12 292 RX12 yX12_sumRead vX12_sumRead) := gV_of wT_29_20 wT_29_21 wT_29_22 wT_1_5 wT_29_23
theorem lf12_lineRead_63 : Fl vX12_lineRead RX12 63 12 39 := ⟨RX12, TX12, 87, rfl, by decide, (fun w h9 => List.mem_cons_of_mem _ (wC_wsX120 w h9)), (List.mem_cons_of_mem _ wT_10_14)⟩
theorem cd12_lineRead : Cd yX12_lineRead 0 := ⟨by decide, by decide, by decide +kernel⟩
set_option maxHeartbeats 4000000 in
set_option maxRecDepth 100000 in
theorem T12_lineRead_17 (S : CallFix p m c cX12_lineRead 3 s args vX12_lineRead RX12) (hr : meth.sig.returnType = (some .boolean)) (hlo : meth.locks = false) {out : Int32 × PH} {h : PH} {a0 : Nat} (f : F12_lineRead_17  h a0 = some out) {H : Heap} {locs : List Loc} (I : ph_I D cy b A fl h s H locs) {ls : Array Slot} (hl : lv_has ls 3 [(0, .ref (b + a0))]) : W p l e ({ frames := 5, cells := 0, slots := 0, locals := 110 } : Room) s m args below meth c H locs 0 0 (MQ below (va_Qi (fun (r : Int32) (u : PH) => (r, u) = out) (ph_B D cy b A fl) A) args s 0 0 A) (F0 m 17 ls []) := by
  unfold F12_lineRead_17 at f
  refine lv_aload_n S.1 S.2.1 dX12_lineRead_17 rfl (lv_at hl 0 rfl) ?_
  refine lv_iconst (v := 1) S.1 S.2.1 dX12_lineRead_18 (by decide) ?_
  obtain ⟨o1, e2, f⟩ := ob f
  refine o_Vi S (As := [.int 1]) (rest := []) (ci := 12) (M12_wrong l D cy b A fl e2) gX12_lineRead_X12_wrong rfl rfl rfl cd12_wrong ⟨Nat.le_of_ble_eq_true rfl, Nat.le_of_ble_eq_true rfl⟩ I (gd e2).1 clX12 rfl rfl hl.1 rfl (Nat.le_of_ble_eq_true rfl) dX12_lineRead_19 ⟨Nat.le_of_ble_eq_true rfl, Nat.le_of_ble_eq_true rfl⟩ (fun H locs I => ?_)
  exact o_zret S hr hlo I f dX12_lineRead_22
set_option maxHeartbeats 4000000 in
set_option maxRecDepth 100000 in
theorem T12_lineRead_197 (S : CallFix p m c cX12_lineRead 3 s args vX12_lineRead RX12) (hr : meth.sig.returnType = (some .boolean)) (hlo : meth.locks = false) {out : Int32 × PH} {h : PH} {a0 : Nat} {x1 : Int32} (f : F12_lineRead_197  h a0 x1 = some out) {H : Heap} {locs : List Loc} (I : ph_I D cy b A fl h s H locs) {ls : Array Slot} (hl : lv_has ls 3 [(0, .ref (b + a0)), (1, .int x1)]) : W p l e ({ frames := 5, cells := 0, slots := 0, locals := 110 } : Room) s m args below meth c H locs 0 0 (MQ below (va_Qi (fun (r : Int32) (u : PH) => (r, u) = out) (ph_B D cy b A fl) A) args s 0 0 A) (F0 m 197 ls []) := by
  unfold F12_lineRead_197 at f
  refine lv_iload_n S.1 S.2.1 dX12_lineRead_197 rfl (lv_at hl 1 rfl) ?_
  refine lv_if_ne (tgt := 203) S.1 S.2.1 dX12_lineRead_198 (by decide) (fun q1 => ?_) (fun q1 => ?_)
  · have f := (if_neg q1).symm.trans f
    refine lv_aload_n S.1 S.2.1 dX12_lineRead_203 rfl (lv_at hl 0 rfl) ?_
    refine lv_bipush (v := 59) S.1 S.2.1 dX12_lineRead_204 (by decide) ?_
    obtain ⟨o2, e3, f⟩ := ob f
    refine o_Vi S (As := [.int 59]) (rest := []) (ci := 12) (M12_isSign l D cy b A fl e3) gX12_lineRead_X12_isSign rfl rfl rfl cd12_isSign ⟨Nat.le_of_ble_eq_true rfl, Nat.le_of_ble_eq_true rfl⟩ I (gd e3).1 clX12 rfl rfl hl.1 rfl (Nat.le_of_ble_eq_true rfl) dX12_lineRead_206 ⟨Nat.le_of_ble_eq_true rfl, Nat.le_of_ble_eq_true rfl⟩ (fun H locs I => ?_)
    refine lv_if_ne (tgt := 218) S.1 S.2.1 dX12_lineRead_209 (by decide) (fun q4 => ?_) (fun q4 => ?_)
    · have f := (if_neg q4).symm.trans f
      refine lv_aload_n S.1 S.2.1 dX12_lineRead_218 rfl (lv_at hl 0 rfl) ?_
      obtain ⟨o5, e6, f⟩ := ob f
      refine o_Vv S (As := []) (rest := []) (ci := 12) (M12_token l D cy b A fl e6) gX12_lineRead_X12_token rfl rfl rfl cd12_token ⟨Nat.le_of_ble_eq_true rfl, Nat.le_of_ble_eq_true rfl⟩ I (gd e6).1 clX12 rfl rfl hl.1 rfl (Nat.le_of_ble_eq_true rfl) dX12_lineRead_219 ⟨Nat.le_of_ble_eq_true rfl, Nat.le_of_ble_eq_true rfl⟩ (fun H locs I => ?_)
      refine lv_iconst (v := 1) S.1 S.2.1 dX12_lineRead_222 (by decide) ?_
      exact o_zret S hr hlo I f dX12_lineRead_223
    · have f := (if_pos q4).symm.trans f
      refine lv_aload_n S.1 S.2.1 dX12_lineRead_212 rfl (lv_at hl 0 rfl) ?_
      refine lv_iconst (v := 1) S.1 S.2.1 dX12_lineRead_213 (by decide) ?_
      obtain ⟨o7, e8, f⟩ := ob f
      refine o_Vi S (As := [.int 1]) (rest := []) (ci := 12) (M12_wrong l D cy b A fl e8) gX12_lineRead_X12_wrong rfl rfl rfl cd12_wrong ⟨Nat.le_of_ble_eq_true rfl, Nat.le_of_ble_eq_true rfl⟩ I (gd e8).1 clX12 rfl rfl hl.1 rfl (Nat.le_of_ble_eq_true rfl) dX12_lineRead_214 ⟨Nat.le_of_ble_eq_true rfl, Nat.le_of_ble_eq_true rfl⟩ (fun H locs I => ?_)
      exact o_zret S hr hlo I f dX12_lineRead_217
  · have f := (if_pos q1).symm.trans f
    refine lv_iconst (v := 0) S.1 S.2.1 dX12_lineRead_201 (by decide) ?_
    exact o_zret S hr hlo I f dX12_lineRead_202
set_option maxHeartbeats 4000000 in
set_option maxRecDepth 100000 in
theorem T12_lineRead_130 (S : CallFix p m c cX12_lineRead 3 s args vX12_lineRead RX12) (hr : meth.sig.returnType = (some .boolean)) (hlo : meth.locks = false) {out : Int32 × PH} {h : PH} {a0 : Nat} (f : F12_lineRead_130  h a0 = some out) {H : Heap} {locs : List Loc} (I : ph_I D cy b A fl h s H locs) {ls : Array Slot} (hl : lv_has ls 3 [(0, .ref (b + a0))]) : W p l e ({ frames := 5, cells := 0, slots := 0, locals := 110 } : Room) s m args below meth c H locs 0 0 (MQ below (va_Qi (fun (r : Int32) (u : PH) => (r, u) = out) (ph_B D cy b A fl) A) args s 0 0 A) (F0 m 130 ls []) := by
  unfold F12_lineRead_130 at f
  refine lv_aload_n S.1 S.2.1 dX12_lineRead_130 rfl (lv_at hl 0 rfl) ?_
  refine lv_iconst (v := 1) S.1 S.2.1 dX12_lineRead_131 (by decide) ?_
  obtain ⟨o1, e2, f⟩ := ob f
  refine o_Vi S (As := [.int 1]) (rest := []) (ci := 12) (M12_wrong l D cy b A fl e2) gX12_lineRead_X12_wrong rfl rfl rfl cd12_wrong ⟨Nat.le_of_ble_eq_true rfl, Nat.le_of_ble_eq_true rfl⟩ I (gd e2).1 clX12 rfl rfl hl.1 rfl (Nat.le_of_ble_eq_true rfl) dX12_lineRead_132 ⟨Nat.le_of_ble_eq_true rfl, Nat.le_of_ble_eq_true rfl⟩ (fun H locs I => ?_)
  exact o_zret S hr hlo I f dX12_lineRead_135
set_option maxHeartbeats 4000000 in
set_option maxRecDepth 100000 in
theorem T12_lineRead_0 (S : CallFix p m c cX12_lineRead 3 s args vX12_lineRead RX12) (hr : meth.sig.returnType = (some .boolean)) (hlo : meth.locks = false) {out : Int32 × PH} {h : PH} {a0 : Nat} (f : F12_lineRead_0  h a0 = some out) {H : Heap} {locs : List Loc} (I : ph_I D cy b A fl h s H locs) {ls : Array Slot} (hl : lv_has ls 3 [(0, .ref (b + a0))]) : W p l e ({ frames := 5, cells := 0, slots := 0, locals := 110 } : Room) s m args below meth c H locs 0 0 (MQ below (va_Qi (fun (r : Int32) (u : PH) => (r, u) = out) (ph_B D cy b A fl) A) args s 0 0 A) (F0 m 0 ls []) := by
  unfold F12_lineRead_0 at f
  refine lv_aload_n S.1 S.2.1 dX12_lineRead_0 rfl (lv_at hl 0 rfl) ?_
  obtain ⟨v1, e2, f⟩ := ob f
  refine o_gI S lf12_lineRead_172 I e2 dX12_lineRead_1 ?_
  refine lv_iconst (v := 1) S.1 S.2.1 dX12_lineRead_4 (by decide) ?_
  refine lv_icmp_ne (tgt := 17) S.1 S.2.1 dX12_lineRead_5 (by decide) (fun q3 => ?_) (fun q3 => ?_)
  · have f := (if_neg q3).symm.trans f
    exact T12_lineRead_17 S hr hlo  f I (lv_sub hl [0] rfl)
  · have f := (if_pos q3).symm.trans f
    refine lv_aload_n S.1 S.2.1 dX12_lineRead_8 rfl (lv_at hl 0 rfl) ?_
    obtain ⟨v4, e5, f⟩ := ob f
    refine o_gI S lf12_lineRead_183 I e5 dX12_lineRead_9 ?_
    refine lv_bipush (v := 7) S.1 S.2.1 dX12_lineRead_12 (by decide) ?_
    refine lv_icmp_le (tgt := 23) S.1 S.2.1 dX12_lineRead_14 (by decide) (fun q6 => ?_) (fun q6 => ?_)
    · have f := (if_pos q6).symm.trans f
      refine lv_aload_n S.1 S.2.1 dX12_lineRead_23 rfl (lv_at hl 0 rfl) ?_
      obtain ⟨v7, e8, f⟩ := ob f
      refine o_gI S lf12_lineRead_183 I e8 dX12_lineRead_24 ?_
      rcases Decidable.em (v7 = 0) with q9 | q9
      · have f := (if_pos q9).symm.trans f
        refine lv_tableIn (off := 41) (tgt := 68) S.1 S.2.1 dX12_lineRead_27 (by rw [q9]; decide) (by rw [q9]; decide) (by rw [q9]; rfl) (by decide) ?_
        refine lv_aload_n S.1 S.2.1 dX12_lineRead_68 rfl (lv_at hl 0 rfl) ?_
        obtain ⟨o10, e11, f⟩ := ob f
        refine o_Vi S (As := []) (rest := []) (ci := 12) (M12_seaLine l D cy b A fl e11) gX12_lineRead_X12_seaLine rfl rfl rfl cd12_seaLine ⟨Nat.le_of_ble_eq_true rfl, Nat.le_of_ble_eq_true rfl⟩ I (gd e11).1 clX12 rfl rfl hl.1 rfl (Nat.le_of_ble_eq_true rfl) dX12_lineRead_69 ⟨Nat.le_of_ble_eq_true rfl, Nat.le_of_ble_eq_true rfl⟩ (fun H locs I => ?_)
        refine lv_istore_n (lv' := [(1, .int o10.1), (0, .ref (b + a0))]) S.1 S.2.1 dX12_lineRead_72 rfl hl (by decide) rfl (fun ls hl => ?_)
        refine lv_goto (tgt := 197) S.1 S.2.1 dX12_lineRead_73 (by decide) ?_
        exact T12_lineRead_197 S hr hlo  f I (lv_sub hl [1, 0] rfl)
      have f := (if_neg q9).symm.trans f
      rcases Decidable.em (v7 = 1) with q12 | q12
      · have f := (if_pos q12).symm.trans f
        refine lv_tableIn (off := 65) (tgt := 92) S.1 S.2.1 dX12_lineRead_27 (by rw [q12]; decide) (by rw [q12]; decide) (by rw [q12]; rfl) (by decide) ?_
        refine lv_aload_n S.1 S.2.1 dX12_lineRead_92 rfl (lv_at hl 0 rfl) ?_
        obtain ⟨o13, e14, f⟩ := ob f
        refine o_Vi S (As := []) (rest := []) (ci := 12) (M12_onceLine l D cy b A fl e14) gX12_lineRead_X12_onceLine rfl rfl rfl cd12_onceLine ⟨Nat.le_of_ble_eq_true rfl, Nat.le_of_ble_eq_true rfl⟩ I (gd e14).1 clX12 rfl rfl hl.1 rfl (Nat.le_of_ble_eq_true rfl) dX12_lineRead_93 ⟨Nat.le_of_ble_eq_true rfl, Nat.le_of_ble_eq_true rfl⟩ (fun H locs I => ?_)
        refine lv_istore_n (lv' := [(1, .int o13.1), (0, .ref (b + a0))]) S.1 S.2.1 dX12_lineRead_96 rfl hl (by decide) rfl (fun ls hl => ?_)
        refine lv_goto (tgt := 197) S.1 S.2.1 dX12_lineRead_97 (by decide) ?_
        exact T12_lineRead_197 S hr hlo  f I (lv_sub hl [1, 0] rfl)
      have f := (if_neg q12).symm.trans f
      rcases Decidable.em (v7 = 2) with q15 | q15
      · have f := (if_pos q15).symm.trans f
        refine lv_tableIn (off := 49) (tgt := 76) S.1 S.2.1 dX12_lineRead_27 (by rw [q15]; decide) (by rw [q15]; decide) (by rw [q15]; rfl) (by decide) ?_
        refine lv_aload_n S.1 S.2.1 dX12_lineRead_76 rfl (lv_at hl 0 rfl) ?_
        obtain ⟨o16, e17, f⟩ := ob f
        refine o_Vi S (As := []) (rest := []) (ci := 12) (M12_surferLine l D cy b A fl e17) gX12_lineRead_X12_surferLine rfl rfl rfl cd12_surferLine ⟨Nat.le_of_ble_eq_true rfl, Nat.le_of_ble_eq_true rfl⟩ I (gd e17).1 clX12 rfl rfl hl.1 rfl (Nat.le_of_ble_eq_true rfl) dX12_lineRead_77 ⟨Nat.le_of_ble_eq_true rfl, Nat.le_of_ble_eq_true rfl⟩ (fun H locs I => ?_)
        refine lv_istore_n (lv' := [(1, .int o16.1), (0, .ref (b + a0))]) S.1 S.2.1 dX12_lineRead_80 rfl hl (by decide) rfl (fun ls hl => ?_)
        refine lv_goto (tgt := 197) S.1 S.2.1 dX12_lineRead_81 (by decide) ?_
        exact T12_lineRead_197 S hr hlo  f I (lv_sub hl [1, 0] rfl)
      have f := (if_neg q15).symm.trans f
      rcases Decidable.em (v7 = 3) with q18 | q18
      · have f := (if_pos q18).symm.trans f
        refine lv_tableIn (off := 57) (tgt := 84) S.1 S.2.1 dX12_lineRead_27 (by rw [q18]; decide) (by rw [q18]; decide) (by rw [q18]; rfl) (by decide) ?_
        refine lv_aload_n S.1 S.2.1 dX12_lineRead_84 rfl (lv_at hl 0 rfl) ?_
        obtain ⟨o19, e20, f⟩ := ob f
        refine o_Vi S (As := []) (rest := []) (ci := 12) (M12_setLine l D cy b A fl e20) gX12_lineRead_X12_setLine rfl rfl rfl cd12_setLine ⟨Nat.le_of_ble_eq_true rfl, Nat.le_of_ble_eq_true rfl⟩ I (gd e20).1 clX12 rfl rfl hl.1 rfl (Nat.le_of_ble_eq_true rfl) dX12_lineRead_85 ⟨Nat.le_of_ble_eq_true rfl, Nat.le_of_ble_eq_true rfl⟩ (fun H locs I => ?_)
        refine lv_istore_n (lv' := [(1, .int o19.1), (0, .ref (b + a0))]) S.1 S.2.1 dX12_lineRead_88 rfl hl (by decide) rfl (fun ls hl => ?_)
        refine lv_goto (tgt := 197) S.1 S.2.1 dX12_lineRead_89 (by decide) ?_
        exact T12_lineRead_197 S hr hlo  f I (lv_sub hl [1, 0] rfl)
      have f := (if_neg q18).symm.trans f
      rcases Decidable.em (v7 = 4) with q21 | q21
      · have f := (if_pos q21).symm.trans f
        refine lv_tableIn (off := 65) (tgt := 92) S.1 S.2.1 dX12_lineRead_27 (by rw [q21]; decide) (by rw [q21]; decide) (by rw [q21]; rfl) (by decide) ?_
        refine lv_aload_n S.1 S.2.1 dX12_lineRead_92 rfl (lv_at hl 0 rfl) ?_
        obtain ⟨o22, e23, f⟩ := ob f
        refine o_Vi S (As := []) (rest := []) (ci := 12) (M12_onceLine l D cy b A fl e23) gX12_lineRead_X12_onceLine rfl rfl rfl cd12_onceLine ⟨Nat.le_of_ble_eq_true rfl, Nat.le_of_ble_eq_true rfl⟩ I (gd e23).1 clX12 rfl rfl hl.1 rfl (Nat.le_of_ble_eq_true rfl) dX12_lineRead_93 ⟨Nat.le_of_ble_eq_true rfl, Nat.le_of_ble_eq_true rfl⟩ (fun H locs I => ?_)
        refine lv_istore_n (lv' := [(1, .int o22.1), (0, .ref (b + a0))]) S.1 S.2.1 dX12_lineRead_96 rfl hl (by decide) rfl (fun ls hl => ?_)
        refine lv_goto (tgt := 197) S.1 S.2.1 dX12_lineRead_97 (by decide) ?_
        exact T12_lineRead_197 S hr hlo  f I (lv_sub hl [1, 0] rfl)
      have f := (if_neg q21).symm.trans f
      rcases Decidable.em (v7 = 5) with q24 | q24
      · have f := (if_pos q24).symm.trans f
        refine lv_tableIn (off := 65) (tgt := 92) S.1 S.2.1 dX12_lineRead_27 (by rw [q24]; decide) (by rw [q24]; decide) (by rw [q24]; rfl) (by decide) ?_
        refine lv_aload_n S.1 S.2.1 dX12_lineRead_92 rfl (lv_at hl 0 rfl) ?_
        obtain ⟨o25, e26, f⟩ := ob f
        refine o_Vi S (As := []) (rest := []) (ci := 12) (M12_onceLine l D cy b A fl e26) gX12_lineRead_X12_onceLine rfl rfl rfl cd12_onceLine ⟨Nat.le_of_ble_eq_true rfl, Nat.le_of_ble_eq_true rfl⟩ I (gd e26).1 clX12 rfl rfl hl.1 rfl (Nat.le_of_ble_eq_true rfl) dX12_lineRead_93 ⟨Nat.le_of_ble_eq_true rfl, Nat.le_of_ble_eq_true rfl⟩ (fun H locs I => ?_)
        refine lv_istore_n (lv' := [(1, .int o25.1), (0, .ref (b + a0))]) S.1 S.2.1 dX12_lineRead_96 rfl hl (by decide) rfl (fun ls hl => ?_)
        refine lv_goto (tgt := 197) S.1 S.2.1 dX12_lineRead_97 (by decide) ?_
        exact T12_lineRead_197 S hr hlo  f I (lv_sub hl [1, 0] rfl)
      have f := (if_neg q24).symm.trans f
      rcases Decidable.em (v7 = 6) with q27 | q27
      · have f := (if_pos q27).symm.trans f
        refine lv_tableIn (off := 65) (tgt := 92) S.1 S.2.1 dX12_lineRead_27 (by rw [q27]; decide) (by rw [q27]; decide) (by rw [q27]; rfl) (by decide) ?_
        refine lv_aload_n S.1 S.2.1 dX12_lineRead_92 rfl (lv_at hl 0 rfl) ?_
        obtain ⟨o28, e29, f⟩ := ob f
        refine o_Vi S (As := []) (rest := []) (ci := 12) (M12_onceLine l D cy b A fl e29) gX12_lineRead_X12_onceLine rfl rfl rfl cd12_onceLine ⟨Nat.le_of_ble_eq_true rfl, Nat.le_of_ble_eq_true rfl⟩ I (gd e29).1 clX12 rfl rfl hl.1 rfl (Nat.le_of_ble_eq_true rfl) dX12_lineRead_93 ⟨Nat.le_of_ble_eq_true rfl, Nat.le_of_ble_eq_true rfl⟩ (fun H locs I => ?_)
        refine lv_istore_n (lv' := [(1, .int o28.1), (0, .ref (b + a0))]) S.1 S.2.1 dX12_lineRead_96 rfl hl (by decide) rfl (fun ls hl => ?_)
        refine lv_goto (tgt := 197) S.1 S.2.1 dX12_lineRead_97 (by decide) ?_
        exact T12_lineRead_197 S hr hlo  f I (lv_sub hl [1, 0] rfl)
      have f := (if_neg q27).symm.trans f
      refine lv_tableOut (tgt := 100) S.1 S.2.1 dX12_lineRead_27 (by have := lv_neT q9 (a := 0) (by decide); have := lv_neT q12 (a := 1) (by decide); have := lv_neT q15 (a := 2) (by decide); have := lv_neT q18 (a := 3) (by decide); have := lv_neT q21 (a := 4) (by decide); have := lv_neT q24 (a := 5) (by decide); have := lv_neT q27 (a := 6) (by decide); omega) (by decide) ?_
      refine lv_aload_n S.1 S.2.1 dX12_lineRead_100 rfl (lv_at hl 0 rfl) ?_
      obtain ⟨o30, e31, f⟩ := ob f
      refine o_Vv S (As := []) (rest := []) (ci := 12) (M12_token l D cy b A fl e31) gX12_lineRead_X12_token rfl rfl rfl cd12_token ⟨Nat.le_of_ble_eq_true rfl, Nat.le_of_ble_eq_true rfl⟩ I (gd e31).1 clX12 rfl rfl hl.1 rfl (Nat.le_of_ble_eq_true rfl) dX12_lineRead_101 ⟨Nat.le_of_ble_eq_true rfl, Nat.le_of_ble_eq_true rfl⟩ (fun H locs I => ?_)
      refine lv_aload_n S.1 S.2.1 dX12_lineRead_104 rfl (lv_at hl 0 rfl) ?_
      obtain ⟨v32, e33, f⟩ := ob f
      refine o_gI S lf12_lineRead_172 I e33 dX12_lineRead_105 ?_
      refine lv_iconst (v := 1) S.1 S.2.1 dX12_lineRead_108 (by decide) ?_
      refine lv_icmp_ne (tgt := 130) S.1 S.2.1 dX12_lineRead_109 (by decide) (fun q34 => ?_) (fun q34 => ?_)
      · have f := (if_neg q34).symm.trans f
        exact T12_lineRead_130 S hr hlo  f I (lv_sub hl [0] rfl)
      · have f := (if_pos q34).symm.trans f
        refine lv_aload_n S.1 S.2.1 dX12_lineRead_112 rfl (lv_at hl 0 rfl) ?_
        obtain ⟨v35, e36, f⟩ := ob f
        refine o_gI S lf12_lineRead_183 I e36 dX12_lineRead_113 ?_
        refine lv_bipush (v := 12) S.1 S.2.1 dX12_lineRead_116 (by decide) ?_
        refine lv_icmp_lt (tgt := 130) S.1 S.2.1 dX12_lineRead_118 (by decide) (fun q37 => ?_) (fun q37 => ?_)
        · have f := (if_pos q37).symm.trans f
          exact T12_lineRead_130 S hr hlo  f I (lv_sub hl [0] rfl)
        · have f := (if_neg q37).symm.trans f
          refine lv_aload_n S.1 S.2.1 dX12_lineRead_121 rfl (lv_at hl 0 rfl) ?_
          obtain ⟨v38, e39, f⟩ := ob f
          refine o_gI S lf12_lineRead_183 I e39 dX12_lineRead_122 ?_
          refine lv_bipush (v := 14) S.1 S.2.1 dX12_lineRead_125 (by decide) ?_
          refine lv_icmp_le (tgt := 136) S.1 S.2.1 dX12_lineRead_127 (by decide) (fun q40 => ?_) (fun q40 => ?_)
          · have f := (if_pos q40).symm.trans f
            refine lv_iconst (v := 3) S.1 S.2.1 dX12_lineRead_136 (by decide) ?_
            refine lv_aload_n S.1 S.2.1 dX12_lineRead_137 rfl (lv_at hl 0 rfl) ?_
            obtain ⟨v41, e42, f⟩ := ob f
            refine o_gI S lf12_lineRead_183 I e42 dX12_lineRead_138 ?_
            refine lv_iadd S.1 S.2.1 dX12_lineRead_141 ?_
            refine lv_bipush (v := 12) S.1 S.2.1 dX12_lineRead_142 (by decide) ?_
            refine lv_isub S.1 S.2.1 dX12_lineRead_144 ?_
            refine lv_istore_n (lv' := [(2, .int ((3 + v41) - 12)), (0, .ref (b + a0))]) S.1 S.2.1 dX12_lineRead_145 rfl hl (by decide) rfl (fun ls hl => ?_)
            refine lv_aload_n S.1 S.2.1 dX12_lineRead_146 rfl (lv_at hl 1 rfl) ?_
            obtain ⟨r43, e44, f⟩ := ob f
            refine o_gR S lf12_lineRead_57 I e44 dX12_lineRead_147 ?_
            refine lv_iload_n S.1 S.2.1 dX12_lineRead_150 rfl (lv_at hl 0 rfl) ?_
            obtain ⟨v46, e45, f⟩ := ob f
            refine o_zald S I e45 dX12_lineRead_151 ?_
            refine lv_if_eq (tgt := 161) S.1 S.2.1 dX12_lineRead_152 (by decide) (fun q47 => ?_) (fun q47 => ?_)
            · have f := (if_pos q47).symm.trans f
              refine lv_aload_n S.1 S.2.1 dX12_lineRead_161 rfl (lv_at hl 1 rfl) ?_
              obtain ⟨r48, e49, f⟩ := ob f
              refine o_gR S lf12_lineRead_57 I e49 dX12_lineRead_162 ?_
              refine lv_iload_n S.1 S.2.1 dX12_lineRead_165 rfl (lv_at hl 0 rfl) ?_
              refine lv_iconst (v := 1) S.1 S.2.1 dX12_lineRead_166 (by decide) ?_
              obtain ⟨h51, e50, f⟩ := ob f
              refine o_zast S I e50 dX12_lineRead_167 (fun H locs I => ?_)
              refine lv_aload_n S.1 S.2.1 dX12_lineRead_168 rfl (lv_at hl 1 rfl) ?_
              obtain ⟨o52, e53, f⟩ := ob f
              refine o_Vv S (As := []) (rest := []) (ci := 12) (M12_token l D cy b A fl e53) gX12_lineRead_X12_token rfl rfl rfl cd12_token ⟨Nat.le_of_ble_eq_true rfl, Nat.le_of_ble_eq_true rfl⟩ I (gd e53).1 clX12 rfl rfl hl.1 rfl (Nat.le_of_ble_eq_true rfl) dX12_lineRead_169 ⟨Nat.le_of_ble_eq_true rfl, Nat.le_of_ble_eq_true rfl⟩ (fun H locs I => ?_)
              refine lv_aload_n S.1 S.2.1 dX12_lineRead_172 rfl (lv_at hl 1 rfl) ?_
              obtain ⟨r54, e55, f⟩ := ob f
              refine o_gR S lf12_lineRead_60 I e55 dX12_lineRead_173 ?_
              refine lv_iload_n S.1 S.2.1 dX12_lineRead_176 rfl (lv_at hl 0 rfl) ?_
              refine lv_aload_n S.1 S.2.1 dX12_lineRead_177 rfl (lv_at hl 1 rfl) ?_
              obtain ⟨v56, e57, f⟩ := ob f
              refine o_gI S lf12_lineRead_231 I e57 dX12_lineRead_178 ?_
              obtain ⟨h59, e58, f⟩ := ob f
              refine o_iast S I e58 dX12_lineRead_181 (fun H locs I => ?_)
              refine lv_aload_n S.1 S.2.1 dX12_lineRead_182 rfl (lv_at hl 1 rfl) ?_
              obtain ⟨o60, e61, f⟩ := ob f
              refine o_Vi S (As := []) (rest := []) (ci := 12) (M12_sumRead l D cy b A fl e61) gX12_lineRead_X12_sumRead rfl rfl rfl cd12_sumRead ⟨Nat.le_of_ble_eq_true rfl, Nat.le_of_ble_eq_true rfl⟩ I (gd e61).1 clX12 rfl rfl hl.1 rfl (Nat.le_of_ble_eq_true rfl) dX12_lineRead_183 ⟨Nat.le_of_ble_eq_true rfl, Nat.le_of_ble_eq_true rfl⟩ (fun H locs I => ?_)
              refine lv_istore_n (lv' := [(1, .int o60.1), (2, .int ((3 + v41) - 12)), (0, .ref (b + a0))]) S.1 S.2.1 dX12_lineRead_186 rfl hl (by decide) rfl (fun ls hl => ?_)
              refine lv_aload_n S.1 S.2.1 dX12_lineRead_187 rfl (lv_at hl 2 rfl) ?_
              obtain ⟨r62, e63, f⟩ := ob f
              refine o_gR S lf12_lineRead_63 I e63 dX12_lineRead_188 ?_
              refine lv_iload_n S.1 S.2.1 dX12_lineRead_191 rfl (lv_at hl 1 rfl) ?_
              refine lv_aload_n S.1 S.2.1 dX12_lineRead_192 rfl (lv_at hl 2 rfl) ?_
              obtain ⟨v64, e65, f⟩ := ob f
              refine o_gI S lf12_lineRead_231 I e65 dX12_lineRead_193 ?_
              obtain ⟨h67, e66, f⟩ := ob f
              refine o_iast S I e66 dX12_lineRead_196 (fun H locs I => ?_)
              exact T12_lineRead_197 S hr hlo  f I (lv_sub hl [2, 0] rfl)
            · have f := (if_neg q47).symm.trans f
              refine lv_aload_n S.1 S.2.1 dX12_lineRead_155 rfl (lv_at hl 1 rfl) ?_
              refine lv_iconst (v := 3) S.1 S.2.1 dX12_lineRead_156 (by decide) ?_
              obtain ⟨o68, e69, f⟩ := ob f
              refine o_Vi S (As := [.int 3]) (rest := []) (ci := 12) (M12_wrong l D cy b A fl e69) gX12_lineRead_X12_wrong rfl rfl rfl cd12_wrong ⟨Nat.le_of_ble_eq_true rfl, Nat.le_of_ble_eq_true rfl⟩ I (gd e69).1 clX12 rfl rfl hl.1 rfl (Nat.le_of_ble_eq_true rfl) dX12_lineRead_157 ⟨Nat.le_of_ble_eq_true rfl, Nat.le_of_ble_eq_true rfl⟩ (fun H locs I => ?_)
              exact o_zret S hr hlo I f dX12_lineRead_160
          · have f := (if_neg q40).symm.trans f
            exact T12_lineRead_130 S hr hlo  f I (lv_sub hl [0] rfl)
    · have f := (if_neg q6).symm.trans f
      exact T12_lineRead_17 S hr hlo  f I (lv_sub hl [0] rfl)
theorem M12_lineRead (l : Launch) (D : va_G) (cy : Nat → ClassId) (b : Nat) (A : Nat → Prop) (fl : Bool) {h : PH} {a0 : Nat} {out : Int32 × PH} (f : F12_lineRead h a0 = some out) : Met l yX12_lineRead vX12_lineRead ({ frames := 5, cells := 0, slots := 0, locals := 110 } : Room) (va_Pc [.ref (b + a0)] (ph_B D cy b A fl h)) (va_Qi (fun (r : Int32) (u : PH) => (r, u) = out) (ph_B D cy b A fl) A) 0 0 A :=
  o_met (by decide) rfl (Nat.le_of_ble_eq_true rfl) rfl (fun p e s m below meth c S hr hlo hnm ls hl I => T12_lineRead_0 S hr hlo ((gd f).2) I (lv_sub hl [0] rfl))
def vX12_locals : List Cond := .code yX12_locals cX12_locals 6 (some .int) :: TB
theorem gX12_locals_X12_knownBy : GoodIn vX12_locals (wsV RX12 527 RX12 yX12_knownBy vX12_knownBy) := gV_of wT_64_0 wT_64_1 wT_64_2 wT_1_5 wT_64_3
theorem lf12_locals_139 : Fl vX12_locals RX12 139 12 77 := ⟨RX12, TX12, 87, rfl, by decide, (fun w h9 => List.mem_cons_of_mem _ (wC_wsX120 w h9)), (List.mem_cons_of_mem _ wT_11_15)⟩
theorem lf12_locals_136 : Fl vX12_locals RX12 136 12 76 := ⟨RX12, TX12, 87, rfl, by decide, (fun w h9 => List.mem_cons_of_mem _ (wC_wsX120 w h9)), (List.mem_cons_of_mem _ wT_11_14)⟩
theorem gX12_locals_X12_beginsFrom : GoodIn vX12_locals (wsV RX12 530 RX12 yX12_beginsFrom vX12_beginsFrom) := gV_of wT_64_4 wT_64_5 wT_64_6 wT_1_5 wT_64_7
theorem gX12_locals_X12_peakAt : GoodIn vX12_locals (wsV RX12 400 RX12 yX12_peakAt vX12_peakAt) := gV_of wT_34_22 wT_34_23 wT_35_0 wT_1_5 wT_35_1
theorem gX12_locals_X12_far : GoodIn vX12_locals (wsV RX12 403 RX12 yX12_far vX12_far) := gV_of wT_36_8 wT_36_9 wT_36_10 wT_1_5 wT_36_11
theorem lp12_locals_154 : Pl vX12_locals RX12 154 12 2 .int := ⟨RX12, TX12, 87, tyX12, rfl, by decide, (fun w h9 => List.mem_cons_of_mem _ (wC_wsX120 w h9)), (List.mem_cons_of_mem _ wT_13_17), tyX12_ok, nmX12, rfl, rfl⟩
theorem gX12_locals_X12_isIn : GoodIn vX12_locals (va_wsS RX12 199 yX12_isIn vX12_isIn) := gS_of wT_28_17 wT_28_18 wT_1_5 wT_28_19
set_option maxHeartbeats 4000000 in
set_option maxRecDepth 100000 in
theorem T12_locals_100 (S : CallFix p m c cX12_locals 6 s args vX12_locals RX12) (hr : meth.sig.returnType = (some .int)) (hlo : meth.locks = false) {out : Int32 × PH} : ∀ (n : Nat) {h : PH} {a0 : Nat} {x1 : Int32} {x2 : Int32} {x3 : Int32} {x4 : Int32} (f : F12_locals_100  n h a0 x1 x2 x3 x4 = some out) {H : Heap} {locs : List Loc} (I : ph_I D cy b A fl h s H locs) {ls : Array Slot} (hl : lv_has ls 6 [(0, .ref (b + a0)), (1, .int x1), (2, .int x2), (3, .int x3), (4, .int x4)]), W p l e ({ frames := 5, cells := 0, slots := 0, locals := 120 } : Room) s m args below meth c H locs 0 0 (MQ below (va_Qi (fun (r : Int32) (u : PH) => (r, u) = out) (ph_B D cy b A fl) A) args s 0 0 A) (F0 m 100 ls []) := by
  intro n
  induction n with
  | zero => intro h a0 x1 x2 x3 x4 f; rw [F12_locals_100] at f; cases f
  | succ n ih =>
    intro h a0 x1 x2 x3 x4 f H locs I ls hl
    rw [F12_locals_100] at f
    refine lv_iload S.1 S.2.1 dX12_locals_100 (lv_at hl 4 rfl) ?_
    refine lv_aload_n S.1 S.2.1 dX12_locals_102 rfl (lv_at hl 0 rfl) ?_
    obtain ⟨o1, e2, f⟩ := ob f
    refine o_Vi S (As := []) (rest := [.int x4]) (ci := 12) (M12_knownBy l D cy b A fl e2) gX12_locals_X12_knownBy rfl rfl rfl cd12_knownBy ⟨Nat.le_of_ble_eq_true rfl, Nat.le_of_ble_eq_true rfl⟩ I (gd e2).1 clX12 rfl rfl hl.1 rfl (Nat.le_of_ble_eq_true rfl) dX12_locals_103 ⟨Nat.le_of_ble_eq_true rfl, Nat.le_of_ble_eq_true rfl⟩ (fun H locs I => ?_)
    refine lv_icmp_ge (tgt := 220) S.1 S.2.1 dX12_locals_106 (by decide) (fun q3 => ?_) (fun q3 => ?_)
    · have f := (if_pos q3).symm.trans f
      refine lv_iload_n S.1 S.2.1 dX12_locals_220 rfl (lv_at hl 2 rfl) ?_
      refine lv_iload_n S.1 S.2.1 dX12_locals_221 rfl (lv_at hl 3 rfl) ?_
      refine lv_iconst (v := (-1)) S.1 S.2.1 dX12_locals_222 (by decide) ?_
      refine lv_ixor S.1 S.2.1 dX12_locals_223 ?_
      refine lv_iand S.1 S.2.1 dX12_locals_224 ?_
      exact o_iret S hr hlo I f dX12_locals_225
    · have f := (if_neg q3).symm.trans f
      refine lv_aload_n S.1 S.2.1 dX12_locals_109 rfl (lv_at hl 0 rfl) ?_
      obtain ⟨r4, e5, f⟩ := ob f
      refine o_gR S lf12_locals_139 I e5 dX12_locals_110 ?_
      refine lv_iload S.1 S.2.1 dX12_locals_113 (lv_at hl 4 rfl) ?_
      obtain ⟨v7, e6, f⟩ := ob f
      refine o_zald S I e6 dX12_locals_115 ?_
      refine lv_if_eq (tgt := 214) S.1 S.2.1 dX12_locals_116 (by decide) (fun q8 => ?_) (fun q8 => ?_)
      · have f := (if_pos q8).symm.trans f
        refine lv_iinc (v := (x4 + 1)) (lv' := [(4, .int (x4 + 1)), (0, .ref (b + a0)), (1, .int x1), (2, .int x2), (3, .int x3)]) S.1 S.2.1 dX12_locals_214 hl (k := 4) rfl (congrArg (fun z => x4 + z) (by decide)) (by decide) rfl (fun ls hl => ?_)
        refine lv_goto (tgt := 100) S.1 S.2.1 dX12_locals_217 (by decide) ?_
        exact ih f I (lv_sub hl [1, 2, 3, 4, 0] rfl)
      · have f := (if_neg q8).symm.trans f
        refine lv_aload_n S.1 S.2.1 dX12_locals_119 rfl (lv_at hl 0 rfl) ?_
        obtain ⟨r9, e10, f⟩ := ob f
        refine o_gR S lf12_locals_136 I e10 dX12_locals_120 ?_
        refine lv_iconst (v := 3) S.1 S.2.1 dX12_locals_123 (by decide) ?_
        refine lv_iload S.1 S.2.1 dX12_locals_124 (lv_at hl 4 rfl) ?_
        refine lv_imul S.1 S.2.1 dX12_locals_126 ?_
        obtain ⟨v12, e11, f⟩ := ob f
        refine o_iald S I e11 dX12_locals_127 ?_
        refine lv_if_ge (tgt := 134) S.1 S.2.1 dX12_locals_128 (by decide) (fun q13 => ?_) (fun q13 => ?_)
        · have f := (if_pos q13).symm.trans f
          refine lv_aload_n S.1 S.2.1 dX12_locals_134 rfl (lv_at hl 0 rfl) ?_
          refine lv_aload_n S.1 S.2.1 dX12_locals_135 rfl (lv_at hl 0 rfl) ?_
          obtain ⟨r14, e15, f⟩ := ob f
          refine o_gR S lf12_locals_136 I e15 dX12_locals_136 ?_
          refine lv_iconst (v := 3) S.1 S.2.1 dX12_locals_139 (by decide) ?_
          refine lv_iload S.1 S.2.1 dX12_locals_140 (lv_at hl 4 rfl) ?_
          refine lv_imul S.1 S.2.1 dX12_locals_142 ?_
          obtain ⟨v17, e16, f⟩ := ob f
          refine o_iald S I e16 dX12_locals_143 ?_
          obtain ⟨o18, e19, f⟩ := ob f
          refine o_Vi S (As := [.int v17]) (rest := []) (ci := 12) (M12_beginsFrom l D cy b A fl e19) gX12_locals_X12_beginsFrom rfl rfl rfl cd12_beginsFrom ⟨Nat.le_of_ble_eq_true rfl, Nat.le_of_ble_eq_true rfl⟩ I (gd e19).1 clX12 rfl rfl hl.1 rfl (Nat.le_of_ble_eq_true rfl) dX12_locals_144 ⟨Nat.le_of_ble_eq_true rfl, Nat.le_of_ble_eq_true rfl⟩ (fun H locs I => ?_)
          refine lv_istore (lv' := [(5, .int o18.1), (0, .ref (b + a0)), (1, .int x1), (2, .int x2), (3, .int x3), (4, .int x4)]) S.1 S.2.1 dX12_locals_147 hl (by decide) rfl (fun ls hl => ?_)
          refine lv_iload S.1 S.2.1 dX12_locals_149 (lv_at hl 0 rfl) ?_
          refine lv_if_ge (tgt := 157) S.1 S.2.1 dX12_locals_151 (by decide) (fun q20 => ?_) (fun q20 => ?_)
          · have f := (if_pos q20).symm.trans f
            refine lv_iload_n S.1 S.2.1 dX12_locals_157 rfl (lv_at hl 3 rfl) ?_
            refine lv_iconst (v := 1) S.1 S.2.1 dX12_locals_158 (by decide) ?_
            refine lv_aload_n S.1 S.2.1 dX12_locals_159 rfl (lv_at hl 1 rfl) ?_
            obtain ⟨r21, e22, f⟩ := ob f
            refine o_gR S lf12_locals_136 I e22 dX12_locals_160 ?_
            refine lv_iconst (v := 3) S.1 S.2.1 dX12_locals_163 (by decide) ?_
            refine lv_iload S.1 S.2.1 dX12_locals_164 (lv_at hl 5 rfl) ?_
            refine lv_imul S.1 S.2.1 dX12_locals_166 ?_
            refine lv_iconst (v := 1) S.1 S.2.1 dX12_locals_167 (by decide) ?_
            refine lv_iadd S.1 S.2.1 dX12_locals_168 ?_
            obtain ⟨v24, e23, f⟩ := ob f
            refine o_iald S I e23 dX12_locals_169 ?_
            refine lv_ishl S.1 S.2.1 dX12_locals_170 ?_
            refine lv_ior S.1 S.2.1 dX12_locals_171 ?_
            refine lv_istore_n (lv' := [(2, .int (x2 ||| (1 <<< (v24 &&& 31)))), (5, .int o18.1), (0, .ref (b + a0)), (1, .int x1), (3, .int x3), (4, .int x4)]) S.1 S.2.1 dX12_locals_172 rfl hl (by decide) rfl (fun ls hl => ?_)
            refine lv_aload_n S.1 S.2.1 dX12_locals_173 rfl (lv_at hl 2 rfl) ?_
            refine lv_aload_n S.1 S.2.1 dX12_locals_174 rfl (lv_at hl 2 rfl) ?_
            obtain ⟨r25, e26, f⟩ := ob f
            refine o_gR S lf12_locals_136 I e26 dX12_locals_175 ?_
            refine lv_iconst (v := 3) S.1 S.2.1 dX12_locals_178 (by decide) ?_
            refine lv_iload S.1 S.2.1 dX12_locals_179 (lv_at hl 5 rfl) ?_
            refine lv_imul S.1 S.2.1 dX12_locals_181 ?_
            refine lv_iconst (v := 2) S.1 S.2.1 dX12_locals_182 (by decide) ?_
            refine lv_iadd S.1 S.2.1 dX12_locals_183 ?_
            obtain ⟨v28, e27, f⟩ := ob f
            refine o_iald S I e27 dX12_locals_184 ?_
            refine lv_aload_n S.1 S.2.1 dX12_locals_185 rfl (lv_at hl 2 rfl) ?_
            refine lv_iload S.1 S.2.1 dX12_locals_186 (lv_at hl 1 rfl) ?_
            obtain ⟨o29, e30, f⟩ := ob f
            refine o_Vi S (As := [.int o18.1]) (rest := [.int v28, .ref (b + a0)]) (ci := 12) (M12_peakAt l D cy b A fl e30) gX12_locals_X12_peakAt rfl rfl rfl cd12_peakAt ⟨Nat.le_of_ble_eq_true rfl, Nat.le_of_ble_eq_true rfl⟩ I (gd e30).1 clX12 rfl rfl hl.1 rfl (Nat.le_of_ble_eq_true rfl) dX12_locals_188 ⟨Nat.le_of_ble_eq_true rfl, Nat.le_of_ble_eq_true rfl⟩ (fun H locs I => ?_)
            obtain ⟨o31, e32, f⟩ := ob f
            refine o_Vi S (As := [.int v28, .int o29.1]) (rest := []) (ci := 12) (M12_far l D cy b A fl e32) gX12_locals_X12_far rfl rfl rfl cd12_far ⟨Nat.le_of_ble_eq_true rfl, Nat.le_of_ble_eq_true rfl⟩ I (gd e32).1 clX12 rfl rfl hl.1 rfl (Nat.le_of_ble_eq_true rfl) dX12_locals_191 ⟨Nat.le_of_ble_eq_true rfl, Nat.le_of_ble_eq_true rfl⟩ (fun H locs I => ?_)
            refine lv_iload_n S.1 S.2.1 dX12_locals_194 rfl (lv_at hl 3 rfl) ?_
            refine lv_icmp_le (tgt := 214) S.1 S.2.1 dX12_locals_195 (by decide) (fun q33 => ?_) (fun q33 => ?_)
            · have f := (if_pos q33).symm.trans f
              refine lv_iinc (v := (x4 + 1)) (lv' := [(4, .int (x4 + 1)), (2, .int (x2 ||| (1 <<< (v24 &&& 31)))), (5, .int o18.1), (0, .ref (b + a0)), (1, .int x1), (3, .int x3)]) S.1 S.2.1 dX12_locals_214 hl (k := 5) rfl (congrArg (fun z => x4 + z) (by decide)) (by decide) rfl (fun ls hl => ?_)
              refine lv_goto (tgt := 100) S.1 S.2.1 dX12_locals_217 (by decide) ?_
              exact ih f I (lv_sub hl [3, 4, 1, 5, 0] rfl)
            · have f := (if_neg q33).symm.trans f
              refine lv_iload_n S.1 S.2.1 dX12_locals_198 rfl (lv_at hl 4 rfl) ?_
              refine lv_iconst (v := 1) S.1 S.2.1 dX12_locals_199 (by decide) ?_
              refine lv_aload_n S.1 S.2.1 dX12_locals_200 rfl (lv_at hl 2 rfl) ?_
              obtain ⟨r34, e35, f⟩ := ob f
              refine o_gR S lf12_locals_136 I e35 dX12_locals_201 ?_
              refine lv_iconst (v := 3) S.1 S.2.1 dX12_locals_204 (by decide) ?_
              refine lv_iload S.1 S.2.1 dX12_locals_205 (lv_at hl 5 rfl) ?_
              refine lv_imul S.1 S.2.1 dX12_locals_207 ?_
              refine lv_iconst (v := 1) S.1 S.2.1 dX12_locals_208 (by decide) ?_
              refine lv_iadd S.1 S.2.1 dX12_locals_209 ?_
              obtain ⟨v37, e36, f⟩ := ob f
              refine o_iald S I e36 dX12_locals_210 ?_
              refine lv_ishl S.1 S.2.1 dX12_locals_211 ?_
              refine lv_ior S.1 S.2.1 dX12_locals_212 ?_
              refine lv_istore_n (lv' := [(3, .int (x3 ||| (1 <<< (v37 &&& 31)))), (2, .int (x2 ||| (1 <<< (v24 &&& 31)))), (5, .int o18.1), (0, .ref (b + a0)), (1, .int x1), (4, .int x4)]) S.1 S.2.1 dX12_locals_213 rfl hl (by decide) rfl (fun ls hl => ?_)
              refine lv_iinc (v := (x4 + 1)) (lv' := [(4, .int (x4 + 1)), (3, .int (x3 ||| (1 <<< (v37 &&& 31)))), (2, .int (x2 ||| (1 <<< (v24 &&& 31)))), (5, .int o18.1), (0, .ref (b + a0)), (1, .int x1)]) S.1 S.2.1 dX12_locals_214 hl (k := 5) rfl (congrArg (fun z => x4 + z) (by decide)) (by decide) rfl (fun ls hl => ?_)
              refine lv_goto (tgt := 100) S.1 S.2.1 dX12_locals_217 (by decide) ?_
              exact ih f I (lv_sub hl [4, 5, 2, 1, 0] rfl)
          · have f := (if_neg q20).symm.trans f
            refine lv_goto (tgt := 214) S.1 S.2.1 dX12_locals_154 (by decide) ?_
            refine lv_iinc (v := (x4 + 1)) (lv' := [(4, .int (x4 + 1)), (5, .int o18.1), (0, .ref (b + a0)), (1, .int x1), (2, .int x2), (3, .int x3)]) S.1 S.2.1 dX12_locals_214 hl (k := 5) rfl (congrArg (fun z => x4 + z) (by decide)) (by decide) rfl (fun ls hl => ?_)
            refine lv_goto (tgt := 100) S.1 S.2.1 dX12_locals_217 (by decide) ?_
            exact ih f I (lv_sub hl [2, 3, 4, 5, 0] rfl)
        · have f := (if_neg q13).symm.trans f
          refine lv_goto (tgt := 214) S.1 S.2.1 dX12_locals_131 (by decide) ?_
          refine lv_iinc (v := (x4 + 1)) (lv' := [(4, .int (x4 + 1)), (0, .ref (b + a0)), (1, .int x1), (2, .int x2), (3, .int x3)]) S.1 S.2.1 dX12_locals_214 hl (k := 4) rfl (congrArg (fun z => x4 + z) (by decide)) (by decide) rfl (fun ls hl => ?_)
          refine lv_goto (tgt := 100) S.1 S.2.1 dX12_locals_217 (by decide) ?_
          exact ih f I (lv_sub hl [1, 2, 3, 4, 0] rfl)
set_option maxHeartbeats 4000000 in
set_option maxRecDepth 100000 in
theorem T12_locals_47 (S : CallFix p m c cX12_locals 6 s args vX12_locals RX12) (hr : meth.sig.returnType = (some .int)) (hlo : meth.locks = false) {out : Int32 × PH} : ∀ (n : Nat) {h : PH} {a0 : Nat} {x1 : Int32} {x2 : Int32} (f : F12_locals_47  n h a0 x1 x2 = some out) {H : Heap} {locs : List Loc} (I : ph_I D cy b A fl h s H locs) {ls : Array Slot} (hl : lv_has ls 6 [(0, .ref (b + a0)), (1, .int x1), (2, .int x2)]), W p l e ({ frames := 5, cells := 0, slots := 0, locals := 120 } : Room) s m args below meth c H locs 0 0 (MQ below (va_Qi (fun (r : Int32) (u : PH) => (r, u) = out) (ph_B D cy b A fl) A) args s 0 0 A) (F0 m 47 ls []) := by
  intro n
  induction n with
  | zero => intro h a0 x1 x2 f; rw [F12_locals_47] at f; cases f
  | succ n ih =>
    intro h a0 x1 x2 f H locs I ls hl
    rw [F12_locals_47] at f
    refine lv_iload_n S.1 S.2.1 dX12_locals_47 rfl (lv_at hl 2 rfl) ?_
    refine lv_if_lt (tgt := 93) S.1 S.2.1 dX12_locals_48 (by decide) (fun q1 => ?_) (fun q1 => ?_)
    · have f := (if_pos q1).symm.trans f
      refine lv_iconst (v := 0) S.1 S.2.1 dX12_locals_93 (by decide) ?_
      refine lv_istore_n (lv' := [(2, .int 0), (0, .ref (b + a0)), (1, .int x1)]) S.1 S.2.1 dX12_locals_94 rfl hl (by decide) rfl (fun ls hl => ?_)
      refine lv_iconst (v := 0) S.1 S.2.1 dX12_locals_95 (by decide) ?_
      refine lv_istore_n (lv' := [(3, .int 0), (2, .int 0), (0, .ref (b + a0)), (1, .int x1)]) S.1 S.2.1 dX12_locals_96 rfl hl (by decide) rfl (fun ls hl => ?_)
      refine lv_iconst (v := 0) S.1 S.2.1 dX12_locals_97 (by decide) ?_
      refine lv_istore (lv' := [(4, .int 0), (3, .int 0), (2, .int 0), (0, .ref (b + a0)), (1, .int x1)]) S.1 S.2.1 dX12_locals_98 hl (by decide) rfl (fun ls hl => ?_)
      exact T12_locals_100 S hr hlo  1024 f I (lv_sub hl [3, 4, 2, 1, 0] rfl)
    · have f := (if_neg q1).symm.trans f
      refine lv_aload_n S.1 S.2.1 dX12_locals_51 rfl (lv_at hl 0 rfl) ?_
      obtain ⟨r2, e3, f⟩ := ob f
      refine o_gR S lf12_locals_139 I e3 dX12_locals_52 ?_
      refine lv_iload_n S.1 S.2.1 dX12_locals_55 rfl (lv_at hl 2 rfl) ?_
      obtain ⟨v5, e4, f⟩ := ob f
      refine o_zald S I e4 dX12_locals_56 ?_
      refine lv_if_eq (tgt := 87) S.1 S.2.1 dX12_locals_57 (by decide) (fun q6 => ?_) (fun q6 => ?_)
      · have f := (if_pos q6).symm.trans f
        refine lv_iinc (v := (x2 + (-1))) (lv' := [(2, .int (x2 + (-1))), (0, .ref (b + a0)), (1, .int x1)]) S.1 S.2.1 dX12_locals_87 hl (k := 2) rfl (congrArg (fun z => x2 + z) (by decide)) (by decide) rfl (fun ls hl => ?_)
        refine lv_goto (tgt := 47) S.1 S.2.1 dX12_locals_90 (by decide) ?_
        exact ih f I (lv_sub hl [1, 2, 0] rfl)
      · have f := (if_neg q6).symm.trans f
        refine lv_aload_n S.1 S.2.1 dX12_locals_60 rfl (lv_at hl 0 rfl) ?_
        obtain ⟨r7, e8, f⟩ := ob f
        refine o_gR S lf12_locals_136 I e8 dX12_locals_61 ?_
        refine lv_iconst (v := 3) S.1 S.2.1 dX12_locals_64 (by decide) ?_
        refine lv_iload_n S.1 S.2.1 dX12_locals_65 rfl (lv_at hl 2 rfl) ?_
        refine lv_imul S.1 S.2.1 dX12_locals_66 ?_
        obtain ⟨v10, e9, f⟩ := ob f
        refine o_iald S I e9 dX12_locals_67 ?_
        refine lv_if_ge (tgt := 87) S.1 S.2.1 dX12_locals_68 (by decide) (fun q11 => ?_) (fun q11 => ?_)
        · have f := (if_pos q11).symm.trans f
          refine lv_iinc (v := (x2 + (-1))) (lv' := [(2, .int (x2 + (-1))), (0, .ref (b + a0)), (1, .int x1)]) S.1 S.2.1 dX12_locals_87 hl (k := 2) rfl (congrArg (fun z => x2 + z) (by decide)) (by decide) rfl (fun ls hl => ?_)
          refine lv_goto (tgt := 47) S.1 S.2.1 dX12_locals_90 (by decide) ?_
          exact ih f I (lv_sub hl [1, 2, 0] rfl)
        · have f := (if_neg q11).symm.trans f
          refine lv_aload_n S.1 S.2.1 dX12_locals_71 rfl (lv_at hl 0 rfl) ?_
          obtain ⟨r12, e13, f⟩ := ob f
          refine o_gR S lf12_locals_139 I e13 dX12_locals_72 ?_
          refine lv_aload_n S.1 S.2.1 dX12_locals_75 rfl (lv_at hl 0 rfl) ?_
          obtain ⟨r14, e15, f⟩ := ob f
          refine o_gR S lf12_locals_136 I e15 dX12_locals_76 ?_
          refine lv_iconst (v := 3) S.1 S.2.1 dX12_locals_79 (by decide) ?_
          refine lv_iload_n S.1 S.2.1 dX12_locals_80 rfl (lv_at hl 2 rfl) ?_
          refine lv_imul S.1 S.2.1 dX12_locals_81 ?_
          refine lv_iconst (v := 1) S.1 S.2.1 dX12_locals_82 (by decide) ?_
          refine lv_iadd S.1 S.2.1 dX12_locals_83 ?_
          obtain ⟨v17, e16, f⟩ := ob f
          refine o_iald S I e16 dX12_locals_84 ?_
          refine lv_iconst (v := 0) S.1 S.2.1 dX12_locals_85 (by decide) ?_
          obtain ⟨h19, e18, f⟩ := ob f
          refine o_zast S I e18 dX12_locals_86 (fun H locs I => ?_)
          refine lv_iinc (v := (x2 + (-1))) (lv' := [(2, .int (x2 + (-1))), (0, .ref (b + a0)), (1, .int x1)]) S.1 S.2.1 dX12_locals_87 hl (k := 2) rfl (congrArg (fun z => x2 + z) (by decide)) (by decide) rfl (fun ls hl => ?_)
          refine lv_goto (tgt := 47) S.1 S.2.1 dX12_locals_90 (by decide) ?_
          exact ih f I (lv_sub hl [1, 2, 0] rfl)
set_option maxHeartbeats 4000000 in
set_option maxRecDepth 100000 in
theorem T12_locals_19 (S : CallFix p m c cX12_locals 6 s args vX12_locals RX12) (hr : meth.sig.returnType = (some .int)) (hlo : meth.locks = false) {out : Int32 × PH} : ∀ (n : Nat) {h : PH} {a0 : Nat} {x1 : Int32} {x2 : Int32} (f : F12_locals_19  n h a0 x1 x2 = some out) {H : Heap} {locs : List Loc} (I : ph_I D cy b A fl h s H locs) {ls : Array Slot} (hl : lv_has ls 6 [(0, .ref (b + a0)), (1, .int x1), (2, .int x2)]), W p l e ({ frames := 5, cells := 0, slots := 0, locals := 120 } : Room) s m args below meth c H locs 0 0 (MQ below (va_Qi (fun (r : Int32) (u : PH) => (r, u) = out) (ph_B D cy b A fl) A) args s 0 0 A) (F0 m 19 ls []) := by
  intro n
  induction n with
  | zero => intro h a0 x1 x2 f; rw [F12_locals_19] at f; cases f
  | succ n ih =>
    intro h a0 x1 x2 f H locs I ls hl
    rw [F12_locals_19] at f
    refine lv_iload_n S.1 S.2.1 dX12_locals_19 rfl (lv_at hl 2 rfl) ?_
    refine lv_aload_n S.1 S.2.1 dX12_locals_20 rfl (lv_at hl 0 rfl) ?_
    obtain ⟨o1, e2, f⟩ := ob f
    refine o_Vi S (As := []) (rest := [.int x2]) (ci := 12) (M12_knownBy l D cy b A fl e2) gX12_locals_X12_knownBy rfl rfl rfl cd12_knownBy ⟨Nat.le_of_ble_eq_true rfl, Nat.le_of_ble_eq_true rfl⟩ I (gd e2).1 clX12 rfl rfl hl.1 rfl (Nat.le_of_ble_eq_true rfl) dX12_locals_21 ⟨Nat.le_of_ble_eq_true rfl, Nat.le_of_ble_eq_true rfl⟩ (fun H locs I => ?_)
    refine lv_icmp_ge (tgt := 40) S.1 S.2.1 dX12_locals_24 (by decide) (fun q3 => ?_) (fun q3 => ?_)
    · have f := (if_pos q3).symm.trans f
      refine lv_aload_n S.1 S.2.1 dX12_locals_40 rfl (lv_at hl 0 rfl) ?_
      obtain ⟨o4, e5, f⟩ := ob f
      refine o_Vi S (As := []) (rest := []) (ci := 12) (M12_knownBy l D cy b A fl e5) gX12_locals_X12_knownBy rfl rfl rfl cd12_knownBy ⟨Nat.le_of_ble_eq_true rfl, Nat.le_of_ble_eq_true rfl⟩ I (gd e5).1 clX12 rfl rfl hl.1 rfl (Nat.le_of_ble_eq_true rfl) dX12_locals_41 ⟨Nat.le_of_ble_eq_true rfl, Nat.le_of_ble_eq_true rfl⟩ (fun H locs I => ?_)
      refine lv_iconst (v := 1) S.1 S.2.1 dX12_locals_44 (by decide) ?_
      refine lv_isub S.1 S.2.1 dX12_locals_45 ?_
      refine lv_istore_n (lv' := [(2, .int (o4.1 - 1)), (0, .ref (b + a0)), (1, .int x1)]) S.1 S.2.1 dX12_locals_46 rfl hl (by decide) rfl (fun ls hl => ?_)
      exact T12_locals_47 S hr hlo  1024 f I (lv_sub hl [1, 2, 0] rfl)
    · have f := (if_neg q3).symm.trans f
      refine lv_aload_n S.1 S.2.1 dX12_locals_27 rfl (lv_at hl 0 rfl) ?_
      obtain ⟨r6, e7, f⟩ := ob f
      refine o_gR S lf12_locals_139 I e7 dX12_locals_28 ?_
      refine lv_iload_n S.1 S.2.1 dX12_locals_31 rfl (lv_at hl 2 rfl) ?_
      refine lv_iconst (v := 1) S.1 S.2.1 dX12_locals_32 (by decide) ?_
      obtain ⟨h9, e8, f⟩ := ob f
      refine o_zast S I e8 dX12_locals_33 (fun H locs I => ?_)
      refine lv_iinc (v := (x2 + 1)) (lv' := [(2, .int (x2 + 1)), (0, .ref (b + a0)), (1, .int x1)]) S.1 S.2.1 dX12_locals_34 hl (k := 2) rfl (congrArg (fun z => x2 + z) (by decide)) (by decide) rfl (fun ls hl => ?_)
      refine lv_goto (tgt := 19) S.1 S.2.1 dX12_locals_37 (by decide) ?_
      exact ih f I (lv_sub hl [1, 2, 0] rfl)
set_option maxHeartbeats 4000000 in
set_option maxRecDepth 100000 in
theorem T12_locals_0 (S : CallFix p m c cX12_locals 6 s args vX12_locals RX12) (hr : meth.sig.returnType = (some .int)) (hlo : meth.locks = false) {out : Int32 × PH} {h : PH} {a0 : Nat} {x1 : Int32} (f : F12_locals_0  h a0 x1 = some out) {H : Heap} {locs : List Loc} (I : ph_I D cy b A fl h s H locs) {ls : Array Slot} (hl : lv_has ls 6 [(0, .ref (b + a0)), (1, .int x1)]) : W p l e ({ frames := 5, cells := 0, slots := 0, locals := 120 } : Room) s m args below meth c H locs 0 0 (MQ below (va_Qi (fun (r : Int32) (u : PH) => (r, u) = out) (ph_B D cy b A fl) A) args s 0 0 A) (F0 m 0 ls []) := by
  unfold F12_locals_0 at f
  refine lv_aload_n S.1 S.2.1 dX12_locals_0 rfl (lv_at hl 0 rfl) ?_
  refine lv_iconst (v := 0) S.1 S.2.1 dX12_locals_1 (by decide) ?_
  obtain ⟨h1, e2, f⟩ := ob f
  refine o_pI S lp12_locals_154 I e2 dX12_locals_2 (fun H locs I => ?_)
  refine lv_iload_n S.1 S.2.1 dX12_locals_5 rfl (lv_at hl 1 rfl) ?_
  refine lv_iconst (v := 0) S.1 S.2.1 dX12_locals_6 (by decide) ?_
  refine lv_bipush (v := 12) S.1 S.2.1 dX12_locals_7 (by decide) ?_
  obtain ⟨o3, e4, f⟩ := ob f
  refine o_Si S (As := [.int x1, .int 0, .int 12]) (rest := []) (M12_isIn l D cy b A fl e4) gX12_locals_X12_isIn rfl rfl rfl cd12_isIn ⟨Nat.le_of_ble_eq_true rfl, Nat.le_of_ble_eq_true rfl⟩ I rfl hl.1 rfl (Nat.le_of_ble_eq_true rfl) dX12_locals_9 ⟨Nat.le_of_ble_eq_true rfl, Nat.le_of_ble_eq_true rfl⟩ (fun H locs I => ?_)
  refine lv_if_ne (tgt := 17) S.1 S.2.1 dX12_locals_12 (by decide) (fun q5 => ?_) (fun q5 => ?_)
  · have f := (if_neg q5).symm.trans f
    refine lv_iconst (v := 0) S.1 S.2.1 dX12_locals_17 (by decide) ?_
    refine lv_istore_n (lv' := [(2, .int 0), (0, .ref (b + a0)), (1, .int x1)]) S.1 S.2.1 dX12_locals_18 rfl hl (by decide) rfl (fun ls hl => ?_)
    exact T12_locals_19 S hr hlo  1024 f I (lv_sub hl [1, 2, 0] rfl)
  · have f := (if_pos q5).symm.trans f
    refine lv_iconst (v := (-1)) S.1 S.2.1 dX12_locals_15 (by decide) ?_
    exact o_iret S hr hlo I f dX12_locals_16
theorem M12_locals (l : Launch) (D : va_G) (cy : Nat → ClassId) (b : Nat) (A : Nat → Prop) (fl : Bool) {h : PH} {a0 : Nat} {x1 : Int32} {out : Int32 × PH} (f : F12_locals h a0 x1 = some out) : Met l yX12_locals vX12_locals ({ frames := 5, cells := 0, slots := 0, locals := 120 } : Room) (va_Pc [.ref (b + a0), .int x1] (ph_B D cy b A fl h)) (va_Qi (fun (r : Int32) (u : PH) => (r, u) = out) (ph_B D cy b A fl) A) 0 0 A :=
  o_met (by decide) rfl (Nat.le_of_ble_eq_true rfl) rfl (fun p e s m below meth c S hr hlo hnm ls hl I => T12_locals_0 S hr hlo ((gd f).2) I (lv_sub hl [0, 1] rfl))
def vX12_look : List Cond := .code yX12_look cX12_look 3 (some .int) :: TB
theorem lp12_look_154 : Pl vX12_look RX12 154 12 2 .int := ⟨RX12, TX12, 87, tyX12, rfl, by decide, (fun w h9 => List.mem_cons_of_mem _ (wC_wsX120 w h9)), (List.mem_cons_of_mem _ wT_13_17), tyX12_ok, nmX12, rfl, rfl⟩
theorem gX12_look_X12_isSurfer : GoodIn vX12_look (wsV RX12 413 RX12 yX12_isSurfer vX12_isSurfer) := gV_of wT_34_14 wT_34_15 wT_34_16 wT_1_5 wT_34_17
theorem lf12_look_88 : Fl vX12_look RX12 88 12 55 := ⟨RX12, TX12, 87, rfl, by decide, (fun w h9 => List.mem_cons_of_mem _ (wC_wsX120 w h9)), (List.mem_cons_of_mem _ wT_10_22)⟩
theorem lf12_look_91 : Fl vX12_look RX12 91 12 56 := ⟨RX12, TX12, 87, rfl, by decide, (fun w h9 => List.mem_cons_of_mem _ (wC_wsX120 w h9)), (List.mem_cons_of_mem _ wT_10_23)⟩
theorem lf12_look_94 : Fl vX12_look RX12 94 12 57 := ⟨RX12, TX12, 87, rfl, by decide, (fun w h9 => List.mem_cons_of_mem _ (wC_wsX120 w h9)), (List.mem_cons_of_mem _ wT_11_0)⟩
theorem lf12_look_97 : Fl vX12_look RX12 97 12 58 := ⟨RX12, TX12, 87, rfl, by decide, (fun w h9 => List.mem_cons_of_mem _ (wC_wsX120 w h9)), (List.mem_cons_of_mem _ wT_11_1)⟩
theorem lf12_look_100 : Fl vX12_look RX12 100 12 59 := ⟨RX12, TX12, 87, rfl, by decide, (fun w h9 => List.mem_cons_of_mem _ (wC_wsX120 w h9)), (List.mem_cons_of_mem _ wT_11_2)⟩
theorem lf12_look_106 : Fl vX12_look RX12 106 12 61 := ⟨RX12, TX12, 87, rfl, by decide, (fun w h9 => List.mem_cons_of_mem _ (wC_wsX120 w h9)), (List.mem_cons_of_mem _ wT_11_4)⟩
theorem gX12_look_X12_peakAt : GoodIn vX12_look (wsV RX12 400 RX12 yX12_peakAt vX12_peakAt) := gV_of wT_34_22 wT_34_23 wT_35_0 wT_1_5 wT_35_1
theorem gX12_look_X12_far : GoodIn vX12_look (wsV RX12 403 RX12 yX12_far vX12_far) := gV_of wT_36_8 wT_36_9 wT_36_10 wT_1_5 wT_36_11
theorem gX12_look_X12_fails : GoodIn vX12_look (wsV RX12 416 RX12 yX12_fails vX12_fails) := gV_of wT_34_18 wT_34_19 wT_34_20 wT_1_5 wT_34_21
set_option maxHeartbeats 4000000 in
set_option maxRecDepth 100000 in
theorem T12_look_0 (S : CallFix p m c cX12_look 3 s args vX12_look RX12) (hr : meth.sig.returnType = (some .int)) (hlo : meth.locks = false) {out : Int32 × PH} {h : PH} {a0 : Nat} {x1 : Int32} {x2 : Int32} (f : F12_look_0  h a0 x1 x2 = some out) {H : Heap} {locs : List Loc} (I : ph_I D cy b A fl h s H locs) {ls : Array Slot} (hl : lv_has ls 3 [(0, .ref (b + a0)), (1, .int x1), (2, .int x2)]) : W p l e ({ frames := 5, cells := 0, slots := 0, locals := 120 } : Room) s m args below meth c H locs 0 0 (MQ below (va_Qi (fun (r : Int32) (u : PH) => (r, u) = out) (ph_B D cy b A fl) A) args s 0 0 A) (F0 m 0 ls []) := by
  unfold F12_look_0 at f
  refine lv_aload_n S.1 S.2.1 dX12_look_0 rfl (lv_at hl 0 rfl) ?_
  refine lv_iconst (v := 0) S.1 S.2.1 dX12_look_1 (by decide) ?_
  obtain ⟨h1, e2, f⟩ := ob f
  refine o_pI S lp12_look_154 I e2 dX12_look_2 (fun H locs I => ?_)
  refine lv_aload_n S.1 S.2.1 dX12_look_5 rfl (lv_at hl 0 rfl) ?_
  refine lv_iload_n S.1 S.2.1 dX12_look_6 rfl (lv_at hl 1 rfl) ?_
  obtain ⟨o3, e4, f⟩ := ob f
  refine o_Vi S (As := [.int x1]) (rest := []) (ci := 12) (M12_isSurfer l D cy b A fl e4) gX12_look_X12_isSurfer rfl rfl rfl cd12_isSurfer ⟨Nat.le_of_ble_eq_true rfl, Nat.le_of_ble_eq_true rfl⟩ I (gd e4).1 clX12 rfl rfl hl.1 rfl (Nat.le_of_ble_eq_true rfl) dX12_look_7 ⟨Nat.le_of_ble_eq_true rfl, Nat.le_of_ble_eq_true rfl⟩ (fun H locs I => ?_)
  refine lv_if_ne (tgt := 19) S.1 S.2.1 dX12_look_10 (by decide) (fun q5 => ?_) (fun q5 => ?_)
  · have f := (if_neg q5).symm.trans f
    refine lv_iload_n S.1 S.2.1 dX12_look_19 rfl (lv_at hl 2 rfl) ?_
    rcases Decidable.em (x2 = 0) with q6 | q6
    · have f := (if_pos q6).symm.trans f
      refine lv_tableIn (off := 40) (tgt := 60) S.1 S.2.1 dX12_look_20 (by rw [q6]; decide) (by rw [q6]; decide) (by rw [q6]; rfl) (by decide) ?_
      refine lv_aload_n S.1 S.2.1 dX12_look_60 rfl (lv_at hl 0 rfl) ?_
      obtain ⟨r7, e8, f⟩ := ob f
      refine o_gR S lf12_look_88 I e8 dX12_look_61 ?_
      refine lv_iload_n S.1 S.2.1 dX12_look_64 rfl (lv_at hl 1 rfl) ?_
      obtain ⟨v10, e9, f⟩ := ob f
      refine o_iald S I e9 dX12_look_65 ?_
      exact o_iret S hr hlo I f dX12_look_66
    have f := (if_neg q6).symm.trans f
    rcases Decidable.em (x2 = 1) with q11 | q11
    · have f := (if_pos q11).symm.trans f
      refine lv_tableIn (off := 47) (tgt := 67) S.1 S.2.1 dX12_look_20 (by rw [q11]; decide) (by rw [q11]; decide) (by rw [q11]; rfl) (by decide) ?_
      refine lv_aload_n S.1 S.2.1 dX12_look_67 rfl (lv_at hl 0 rfl) ?_
      obtain ⟨r12, e13, f⟩ := ob f
      refine o_gR S lf12_look_91 I e13 dX12_look_68 ?_
      refine lv_iload_n S.1 S.2.1 dX12_look_71 rfl (lv_at hl 1 rfl) ?_
      obtain ⟨v15, e14, f⟩ := ob f
      refine o_iald S I e14 dX12_look_72 ?_
      exact o_iret S hr hlo I f dX12_look_73
    have f := (if_neg q11).symm.trans f
    rcases Decidable.em (x2 = 2) with q16 | q16
    · have f := (if_pos q16).symm.trans f
      refine lv_tableIn (off := 54) (tgt := 74) S.1 S.2.1 dX12_look_20 (by rw [q16]; decide) (by rw [q16]; decide) (by rw [q16]; rfl) (by decide) ?_
      refine lv_aload_n S.1 S.2.1 dX12_look_74 rfl (lv_at hl 0 rfl) ?_
      obtain ⟨r17, e18, f⟩ := ob f
      refine o_gR S lf12_look_94 I e18 dX12_look_75 ?_
      refine lv_iload_n S.1 S.2.1 dX12_look_78 rfl (lv_at hl 1 rfl) ?_
      obtain ⟨v20, e19, f⟩ := ob f
      refine o_iald S I e19 dX12_look_79 ?_
      exact o_iret S hr hlo I f dX12_look_80
    have f := (if_neg q16).symm.trans f
    rcases Decidable.em (x2 = 3) with q21 | q21
    · have f := (if_pos q21).symm.trans f
      refine lv_tableIn (off := 61) (tgt := 81) S.1 S.2.1 dX12_look_20 (by rw [q21]; decide) (by rw [q21]; decide) (by rw [q21]; rfl) (by decide) ?_
      refine lv_aload_n S.1 S.2.1 dX12_look_81 rfl (lv_at hl 0 rfl) ?_
      obtain ⟨r22, e23, f⟩ := ob f
      refine o_gR S lf12_look_97 I e23 dX12_look_82 ?_
      refine lv_iload_n S.1 S.2.1 dX12_look_85 rfl (lv_at hl 1 rfl) ?_
      obtain ⟨v25, e24, f⟩ := ob f
      refine o_iald S I e24 dX12_look_86 ?_
      exact o_iret S hr hlo I f dX12_look_87
    have f := (if_neg q21).symm.trans f
    rcases Decidable.em (x2 = 4) with q26 | q26
    · have f := (if_pos q26).symm.trans f
      refine lv_tableIn (off := 68) (tgt := 88) S.1 S.2.1 dX12_look_20 (by rw [q26]; decide) (by rw [q26]; decide) (by rw [q26]; rfl) (by decide) ?_
      refine lv_aload_n S.1 S.2.1 dX12_look_88 rfl (lv_at hl 0 rfl) ?_
      obtain ⟨r27, e28, f⟩ := ob f
      refine o_gR S lf12_look_100 I e28 dX12_look_89 ?_
      refine lv_iload_n S.1 S.2.1 dX12_look_92 rfl (lv_at hl 1 rfl) ?_
      obtain ⟨v30, e29, f⟩ := ob f
      refine o_iald S I e29 dX12_look_93 ?_
      exact o_iret S hr hlo I f dX12_look_94
    have f := (if_neg q26).symm.trans f
    rcases Decidable.em (x2 = 5) with q31 | q31
    · have f := (if_pos q31).symm.trans f
      refine lv_tableIn (off := 75) (tgt := 95) S.1 S.2.1 dX12_look_20 (by rw [q31]; decide) (by rw [q31]; decide) (by rw [q31]; rfl) (by decide) ?_
      refine lv_aload_n S.1 S.2.1 dX12_look_95 rfl (lv_at hl 0 rfl) ?_
      refine lv_aload_n S.1 S.2.1 dX12_look_96 rfl (lv_at hl 0 rfl) ?_
      obtain ⟨r32, e33, f⟩ := ob f
      refine o_gR S lf12_look_88 I e33 dX12_look_97 ?_
      refine lv_iload_n S.1 S.2.1 dX12_look_100 rfl (lv_at hl 1 rfl) ?_
      obtain ⟨v35, e34, f⟩ := ob f
      refine o_iald S I e34 dX12_look_101 ?_
      refine lv_aload_n S.1 S.2.1 dX12_look_102 rfl (lv_at hl 0 rfl) ?_
      refine lv_aload_n S.1 S.2.1 dX12_look_103 rfl (lv_at hl 0 rfl) ?_
      obtain ⟨r36, e37, f⟩ := ob f
      refine o_gR S lf12_look_106 I e37 dX12_look_104 ?_
      refine lv_iconst (v := 0) S.1 S.2.1 dX12_look_107 (by decide) ?_
      obtain ⟨v39, e38, f⟩ := ob f
      refine o_iald S I e38 dX12_look_108 ?_
      obtain ⟨o40, e41, f⟩ := ob f
      refine o_Vi S (As := [.int v39]) (rest := [.int v35, .ref (b + a0)]) (ci := 12) (M12_peakAt l D cy b A fl e41) gX12_look_X12_peakAt rfl rfl rfl cd12_peakAt ⟨Nat.le_of_ble_eq_true rfl, Nat.le_of_ble_eq_true rfl⟩ I (gd e41).1 clX12 rfl rfl hl.1 rfl (Nat.le_of_ble_eq_true rfl) dX12_look_109 ⟨Nat.le_of_ble_eq_true rfl, Nat.le_of_ble_eq_true rfl⟩ (fun H locs I => ?_)
      obtain ⟨o42, e43, f⟩ := ob f
      refine o_Vi S (As := [.int v35, .int o40.1]) (rest := []) (ci := 12) (M12_far l D cy b A fl e43) gX12_look_X12_far rfl rfl rfl cd12_far ⟨Nat.le_of_ble_eq_true rfl, Nat.le_of_ble_eq_true rfl⟩ I (gd e43).1 clX12 rfl rfl hl.1 rfl (Nat.le_of_ble_eq_true rfl) dX12_look_112 ⟨Nat.le_of_ble_eq_true rfl, Nat.le_of_ble_eq_true rfl⟩ (fun H locs I => ?_)
      exact o_iret S hr hlo I f dX12_look_115
    have f := (if_neg q31).symm.trans f
    refine lv_tableOut (tgt := 116) S.1 S.2.1 dX12_look_20 (by have := lv_neT q6 (a := 0) (by decide); have := lv_neT q11 (a := 1) (by decide); have := lv_neT q16 (a := 2) (by decide); have := lv_neT q21 (a := 3) (by decide); have := lv_neT q26 (a := 4) (by decide); have := lv_neT q31 (a := 5) (by decide); omega) (by decide) ?_
    refine lv_aload_n S.1 S.2.1 dX12_look_116 rfl (lv_at hl 0 rfl) ?_
    refine lv_iconst (v := 2) S.1 S.2.1 dX12_look_117 (by decide) ?_
    obtain ⟨o44, e45, f⟩ := ob f
    refine o_Vi S (As := [.int 2]) (rest := []) (ci := 12) (M12_fails l D cy b A fl e45) gX12_look_X12_fails rfl rfl rfl cd12_fails ⟨Nat.le_of_ble_eq_true rfl, Nat.le_of_ble_eq_true rfl⟩ I (gd e45).1 clX12 rfl rfl hl.1 rfl (Nat.le_of_ble_eq_true rfl) dX12_look_118 ⟨Nat.le_of_ble_eq_true rfl, Nat.le_of_ble_eq_true rfl⟩ (fun H locs I => ?_)
    exact o_iret S hr hlo I f dX12_look_121
  · have f := (if_pos q5).symm.trans f
    refine lv_aload_n S.1 S.2.1 dX12_look_13 rfl (lv_at hl 0 rfl) ?_
    refine lv_iconst (v := 1) S.1 S.2.1 dX12_look_14 (by decide) ?_
    obtain ⟨o46, e47, f⟩ := ob f
    refine o_Vi S (As := [.int 1]) (rest := []) (ci := 12) (M12_fails l D cy b A fl e47) gX12_look_X12_fails rfl rfl rfl cd12_fails ⟨Nat.le_of_ble_eq_true rfl, Nat.le_of_ble_eq_true rfl⟩ I (gd e47).1 clX12 rfl rfl hl.1 rfl (Nat.le_of_ble_eq_true rfl) dX12_look_15 ⟨Nat.le_of_ble_eq_true rfl, Nat.le_of_ble_eq_true rfl⟩ (fun H locs I => ?_)
    exact o_iret S hr hlo I f dX12_look_18
theorem M12_look (l : Launch) (D : va_G) (cy : Nat → ClassId) (b : Nat) (A : Nat → Prop) (fl : Bool) {h : PH} {a0 : Nat} {x1 : Int32} {x2 : Int32} {out : Int32 × PH} (f : F12_look h a0 x1 x2 = some out) : Met l yX12_look vX12_look ({ frames := 5, cells := 0, slots := 0, locals := 120 } : Room) (va_Pc [.ref (b + a0), .int x1, .int x2] (ph_B D cy b A fl h)) (va_Qi (fun (r : Int32) (u : PH) => (r, u) = out) (ph_B D cy b A fl) A) 0 0 A :=
  o_met (by decide) rfl (Nat.le_of_ble_eq_true rfl) rfl (fun p e s m below meth c S hr hlo hnm ls hl I => T12_look_0 S hr hlo ((gd f).2) I (lv_sub hl [0, 1, 2] rfl))
def vX12_minutes : List Cond := .code yX12_minutes cX12_minutes 4 (some .int) :: TB
theorem lp12_minutes_379 : Pl vX12_minutes RX12 379 12 78 .int := ⟨RX12, TX12, 87, tyX12, rfl, by decide, (fun w h9 => List.mem_cons_of_mem _ (wC_wsX120 w h9)), (List.mem_cons_of_mem _ wT_13_2), tyX12_ok, nmX12, rfl, rfl⟩
theorem lf12_minutes_106 : Fl vX12_minutes RX12 106 12 61 := ⟨RX12, TX12, 87, rfl, by decide, (fun w h9 => List.mem_cons_of_mem _ (wC_wsX120 w h9)), (List.mem_cons_of_mem _ wT_11_4)⟩
theorem lf12_minutes_247 : Fl vX12_minutes RX12 247 12 14 := ⟨RX12, TX12, 87, rfl, by decide, (fun w h9 => List.mem_cons_of_mem _ (wC_wsX120 w h9)), (List.mem_cons_of_mem _ wT_12_12)⟩
theorem lf12_minutes_100 : Fl vX12_minutes RX12 100 12 59 := ⟨RX12, TX12, 87, rfl, by decide, (fun w h9 => List.mem_cons_of_mem _ (wC_wsX120 w h9)), (List.mem_cons_of_mem _ wT_11_2)⟩
theorem lf12_minutes_36 : Fl vX12_minutes RX12 36 12 30 := ⟨RX12, TX12, 87, rfl, by decide, (fun w h9 => List.mem_cons_of_mem _ (wC_wsX120 w h9)), (List.mem_cons_of_mem _ wT_10_5)⟩
theorem lf12_minutes_379 : Fl vX12_minutes RX12 379 12 78 := ⟨RX12, TX12, 87, rfl, by decide, (fun w h9 => List.mem_cons_of_mem _ (wC_wsX120 w h9)), (List.mem_cons_of_mem _ wT_13_2)⟩
theorem lf12_minutes_369 : Fl vX12_minutes RX12 369 12 64 := ⟨RX12, TX12, 87, rfl, by decide, (fun w h9 => List.mem_cons_of_mem _ (wC_wsX120 w h9)), (List.mem_cons_of_mem _ wT_12_23)⟩
theorem gX12_minutes_X12_aMinute : GoodIn vX12_minutes (wsV RX12 472 RX12 yX12_aMinute vX12_aMinute) := gV_of wT_46_13 wT_46_14 wT_46_15 wT_1_5 wT_46_16
theorem lp12_minutes_154 : Pl vX12_minutes RX12 154 12 2 .int := ⟨RX12, TX12, 87, tyX12, rfl, by decide, (fun w h9 => List.mem_cons_of_mem _ (wC_wsX120 w h9)), (List.mem_cons_of_mem _ wT_13_17), tyX12_ok, nmX12, rfl, rfl⟩
theorem gX12_minutes_X12_isIn : GoodIn vX12_minutes (va_wsS RX12 199 yX12_isIn vX12_isIn) := gS_of wT_28_17 wT_28_18 wT_1_5 wT_28_19
set_option maxHeartbeats 4000000 in
set_option maxRecDepth 100000 in
theorem T12_minutes_94 (S : CallFix p m c cX12_minutes 4 s args vX12_minutes RX12) (hr : meth.sig.returnType = (some .int)) (hlo : meth.locks = false) {out : Int32 × PH} {h : PH} {a0 : Nat} {s0 : Int32} {u1 : Nat} (f : F12_minutes_94  h a0 s0 u1 = some out) {H : Heap} {locs : List Loc} (I : ph_I D cy b A fl h s H locs) {ls : Array Slot} (hl : lv_has ls 4 [(0, .ref (b + a0))]) : W p l e ({ frames := 11, cells := 0, slots := 0, locals := 268 } : Room) s m args below meth c H locs 0 0 (MQ below (va_Qi (fun (r : Int32) (u : PH) => (r, u) = out) (ph_B D cy b A fl) A) args s 0 0 A) (F0 m 94 ls [.int s0, .ref (b + u1)]) := by
  unfold F12_minutes_94 at f
  obtain ⟨h1, e2, f⟩ := ob f
  refine o_pI S lp12_minutes_379 I e2 dX12_minutes_94 (fun H locs I => ?_)
  refine lv_aload_n S.1 S.2.1 dX12_minutes_97 rfl (lv_at hl 0 rfl) ?_
  obtain ⟨r3, e4, f⟩ := ob f
  refine o_gR S lf12_minutes_106 I e4 dX12_minutes_98 ?_
  refine lv_iconst (v := 0) S.1 S.2.1 dX12_minutes_101 (by decide) ?_
  obtain ⟨v6, e5, f⟩ := ob f
  refine o_iald S I e5 dX12_minutes_102 ?_
  exact o_iret S hr hlo I f dX12_minutes_103
set_option maxHeartbeats 4000000 in
set_option maxRecDepth 100000 in
theorem T12_minutes_49 (S : CallFix p m c cX12_minutes 4 s args vX12_minutes RX12) (hr : meth.sig.returnType = (some .int)) (hlo : meth.locks = false) {out : Int32 × PH} {k33 : PH → Nat → Int32 → Int32 → Option (Int32 × PH)} (hk33 : ∀ {h : PH} {a0 : Nat} {x1 : Int32} {x2 : Int32}, k33 h a0 x1 x2 = some out → ∀ (H : Heap) (locs : List Loc), ph_I D cy b A fl h s H locs → ∀ (ls : Array Slot), lv_has ls 4 [(0, .ref (b + a0)), (1, .int x1), (2, .int x2)] → W p l e ({ frames := 11, cells := 0, slots := 0, locals := 268 } : Room) s m args below meth c H locs 0 0 (MQ below (va_Qi (fun (r : Int32) (u : PH) => (r, u) = out) (ph_B D cy b A fl) A) args s 0 0 A) (F0 m 33 ls [])) : ∀ (n : Nat) {h : PH} {a0 : Nat} {x1 : Int32} {x2 : Int32} {x3 : Int32} (f : F12_minutes_49 k33 n h a0 x1 x2 x3 = some out) {H : Heap} {locs : List Loc} (I : ph_I D cy b A fl h s H locs) {ls : Array Slot} (hl : lv_has ls 4 [(0, .ref (b + a0)), (1, .int x1), (2, .int x2), (3, .int x3)]), W p l e ({ frames := 11, cells := 0, slots := 0, locals := 268 } : Room) s m args below meth c H locs 0 0 (MQ below (va_Qi (fun (r : Int32) (u : PH) => (r, u) = out) (ph_B D cy b A fl) A) args s 0 0 A) (F0 m 49 ls []) := by
  intro n
  induction n with
  | zero => intro h a0 x1 x2 x3 f; rw [F12_minutes_49] at f; cases f
  | succ n ih =>
    intro h a0 x1 x2 x3 f H locs I ls hl
    rw [F12_minutes_49] at f
    refine lv_iload_n S.1 S.2.1 dX12_minutes_49 rfl (lv_at hl 3 rfl) ?_
    refine lv_aload_n S.1 S.2.1 dX12_minutes_50 rfl (lv_at hl 0 rfl) ?_
    obtain ⟨v1, e2, f⟩ := ob f
    refine o_gI S lf12_minutes_247 I e2 dX12_minutes_51 ?_
    refine lv_icmp_ge (tgt := 75) S.1 S.2.1 dX12_minutes_54 (by decide) (fun q3 => ?_) (fun q3 => ?_)
    · have f := (if_pos q3).symm.trans f
      refine lv_iinc (v := (x2 + 1)) (lv' := [(2, .int (x2 + 1)), (0, .ref (b + a0)), (1, .int x1), (3, .int x3)]) S.1 S.2.1 dX12_minutes_75 hl (k := 2) rfl (congrArg (fun z => x2 + z) (by decide)) (by decide) rfl (fun ls hl => ?_)
      refine lv_goto (tgt := 33) S.1 S.2.1 dX12_minutes_78 (by decide) ?_
      exact hk33 f _ _ I _ (lv_sub hl [1, 2, 0] rfl)
    · have f := (if_neg q3).symm.trans f
      refine lv_aload_n S.1 S.2.1 dX12_minutes_57 rfl (lv_at hl 0 rfl) ?_
      obtain ⟨r4, e5, f⟩ := ob f
      refine o_gR S lf12_minutes_100 I e5 dX12_minutes_58 ?_
      refine lv_iload_n S.1 S.2.1 dX12_minutes_61 rfl (lv_at hl 3 rfl) ?_
      refine lv_aload_n S.1 S.2.1 dX12_minutes_62 rfl (lv_at hl 0 rfl) ?_
      obtain ⟨r6, e7, f⟩ := ob f
      refine o_gR S lf12_minutes_36 I e7 dX12_minutes_63 ?_
      refine lv_iload_n S.1 S.2.1 dX12_minutes_66 rfl (lv_at hl 3 rfl) ?_
      obtain ⟨v9, e8, f⟩ := ob f
      refine o_iald S I e8 dX12_minutes_67 ?_
      obtain ⟨h11, e10, f⟩ := ob f
      refine o_iast S I e10 dX12_minutes_68 (fun H locs I => ?_)
      refine lv_iinc (v := (x3 + 1)) (lv' := [(3, .int (x3 + 1)), (0, .ref (b + a0)), (1, .int x1), (2, .int x2)]) S.1 S.2.1 dX12_minutes_69 hl (k := 3) rfl (congrArg (fun z => x3 + z) (by decide)) (by decide) rfl (fun ls hl => ?_)
      refine lv_goto (tgt := 49) S.1 S.2.1 dX12_minutes_72 (by decide) ?_
      exact ih f I (lv_sub hl [1, 2, 3, 0] rfl)
set_option maxHeartbeats 4000000 in
set_option maxRecDepth 100000 in
theorem T12_minutes_33 (S : CallFix p m c cX12_minutes 4 s args vX12_minutes RX12) (hr : meth.sig.returnType = (some .int)) (hlo : meth.locks = false) {out : Int32 × PH} : ∀ (n : Nat) {h : PH} {a0 : Nat} {x1 : Int32} {x2 : Int32} (f : F12_minutes_33  n h a0 x1 x2 = some out) {H : Heap} {locs : List Loc} (I : ph_I D cy b A fl h s H locs) {ls : Array Slot} (hl : lv_has ls 4 [(0, .ref (b + a0)), (1, .int x1), (2, .int x2)]), W p l e ({ frames := 11, cells := 0, slots := 0, locals := 268 } : Room) s m args below meth c H locs 0 0 (MQ below (va_Qi (fun (r : Int32) (u : PH) => (r, u) = out) (ph_B D cy b A fl) A) args s 0 0 A) (F0 m 33 ls []) := by
  intro n
  induction n with
  | zero => intro h a0 x1 x2 f; rw [F12_minutes_33] at f; cases f
  | succ n ih =>
    intro h a0 x1 x2 f H locs I ls hl
    rw [F12_minutes_33] at f
    refine lv_iload_n S.1 S.2.1 dX12_minutes_33 rfl (lv_at hl 2 rfl) ?_
    refine lv_iload_n S.1 S.2.1 dX12_minutes_34 rfl (lv_at hl 1 rfl) ?_
    refine lv_icmp_ge (tgt := 81) S.1 S.2.1 dX12_minutes_35 (by decide) (fun q1 => ?_) (fun q1 => ?_)
    · have f := (if_pos q1).symm.trans f
      refine lv_aload_n S.1 S.2.1 dX12_minutes_81 rfl (lv_at hl 0 rfl) ?_
      refine lv_iload_n S.1 S.2.1 dX12_minutes_82 rfl (lv_at hl 1 rfl) ?_
      refine lv_if_le (tgt := 90) S.1 S.2.1 dX12_minutes_83 (by decide) (fun q2 => ?_) (fun q2 => ?_)
      · have f := (if_pos q2).symm.trans f
        refine lv_aload_n S.1 S.2.1 dX12_minutes_90 rfl (lv_at hl 0 rfl) ?_
        obtain ⟨v3, e4, f⟩ := ob f
        refine o_gI S lf12_minutes_379 I e4 dX12_minutes_91 ?_
        exact T12_minutes_94 S hr hlo  f I (lv_sub hl [0] rfl)
      · have f := (if_neg q2).symm.trans f
        refine lv_iconst (v := 0) S.1 S.2.1 dX12_minutes_86 (by decide) ?_
        refine lv_goto (tgt := 94) S.1 S.2.1 dX12_minutes_87 (by decide) ?_
        exact T12_minutes_94 S hr hlo  f I (lv_sub hl [0] rfl)
    · have f := (if_neg q1).symm.trans f
      refine lv_aload_n S.1 S.2.1 dX12_minutes_38 rfl (lv_at hl 0 rfl) ?_
      refine lv_iconst (v := 0) S.1 S.2.1 dX12_minutes_39 (by decide) ?_
      refine lv_aload_n S.1 S.2.1 dX12_minutes_40 rfl (lv_at hl 0 rfl) ?_
      obtain ⟨v5, e6, f⟩ := ob f
      refine o_gI S lf12_minutes_369 I e6 dX12_minutes_41 ?_
      obtain ⟨o7, e8, f⟩ := ob f
      refine o_Vv S (As := [.int 0, .int v5]) (rest := []) (ci := 12) (M12_aMinute l D cy b A fl e8) gX12_minutes_X12_aMinute rfl rfl rfl cd12_aMinute ⟨Nat.le_of_ble_eq_true rfl, Nat.le_of_ble_eq_true rfl⟩ I (gd e8).1 clX12 rfl rfl hl.1 rfl (Nat.le_of_ble_eq_true rfl) dX12_minutes_44 ⟨Nat.le_of_ble_eq_true rfl, Nat.le_of_ble_eq_true rfl⟩ (fun H locs I => ?_)
      refine lv_iconst (v := 0) S.1 S.2.1 dX12_minutes_47 (by decide) ?_
      refine lv_istore_n (lv' := [(3, .int 0), (0, .ref (b + a0)), (1, .int x1), (2, .int x2)]) S.1 S.2.1 dX12_minutes_48 rfl hl (by decide) rfl (fun ls hl => ?_)
      exact T12_minutes_49 S hr hlo (fun f _ _ I _ hl => ih f I hl) 1024 f I (lv_sub hl [1, 2, 3, 0] rfl)
set_option maxHeartbeats 4000000 in
set_option maxRecDepth 100000 in
theorem T12_minutes_0 (S : CallFix p m c cX12_minutes 4 s args vX12_minutes RX12) (hr : meth.sig.returnType = (some .int)) (hlo : meth.locks = false) {out : Int32 × PH} {h : PH} {a0 : Nat} {x1 : Int32} (f : F12_minutes_0  h a0 x1 = some out) {H : Heap} {locs : List Loc} (I : ph_I D cy b A fl h s H locs) {ls : Array Slot} (hl : lv_has ls 4 [(0, .ref (b + a0)), (1, .int x1)]) : W p l e ({ frames := 11, cells := 0, slots := 0, locals := 268 } : Room) s m args below meth c H locs 0 0 (MQ below (va_Qi (fun (r : Int32) (u : PH) => (r, u) = out) (ph_B D cy b A fl) A) args s 0 0 A) (F0 m 0 ls []) := by
  unfold F12_minutes_0 at f
  refine lv_aload_n S.1 S.2.1 dX12_minutes_0 rfl (lv_at hl 0 rfl) ?_
  refine lv_iconst (v := 0) S.1 S.2.1 dX12_minutes_1 (by decide) ?_
  obtain ⟨h1, e2, f⟩ := ob f
  refine o_pI S lp12_minutes_154 I e2 dX12_minutes_2 (fun H locs I => ?_)
  refine lv_iload_n S.1 S.2.1 dX12_minutes_5 rfl (lv_at hl 1 rfl) ?_
  refine lv_iconst (v := 0) S.1 S.2.1 dX12_minutes_6 (by decide) ?_
  refine lv_bipush (v := 99) S.1 S.2.1 dX12_minutes_7 (by decide) ?_
  obtain ⟨o3, e4, f⟩ := ob f
  refine o_Si S (As := [.int x1, .int 0, .int 99]) (rest := []) (M12_isIn l D cy b A fl e4) gX12_minutes_X12_isIn rfl rfl rfl cd12_isIn ⟨Nat.le_of_ble_eq_true rfl, Nat.le_of_ble_eq_true rfl⟩ I rfl hl.1 rfl (Nat.le_of_ble_eq_true rfl) dX12_minutes_9 ⟨Nat.le_of_ble_eq_true rfl, Nat.le_of_ble_eq_true rfl⟩ (fun H locs I => ?_)
  refine lv_if_eq (tgt := 29) S.1 S.2.1 dX12_minutes_12 (by decide) (fun q5 => ?_) (fun q5 => ?_)
  · have f := (if_pos q5).symm.trans f
    refine lv_iconst (v := (-1)) S.1 S.2.1 dX12_minutes_29 (by decide) ?_
    exact o_iret S hr hlo I f dX12_minutes_30
  · have f := (if_neg q5).symm.trans f
    refine lv_aload_n S.1 S.2.1 dX12_minutes_15 rfl (lv_at hl 0 rfl) ?_
    obtain ⟨r6, e7, f⟩ := ob f
    refine o_gR S lf12_minutes_106 I e7 dX12_minutes_16 ?_
    refine lv_iconst (v := 0) S.1 S.2.1 dX12_minutes_19 (by decide) ?_
    obtain ⟨v9, e8, f⟩ := ob f
    refine o_iald S I e8 dX12_minutes_20 ?_
    refine lv_iload_n S.1 S.2.1 dX12_minutes_21 rfl (lv_at hl 1 rfl) ?_
    refine lv_iadd S.1 S.2.1 dX12_minutes_22 ?_
    refine lv_sipush (v := 199) S.1 S.2.1 dX12_minutes_23 (by decide) ?_
    refine lv_icmp_le (tgt := 31) S.1 S.2.1 dX12_minutes_26 (by decide) (fun q10 => ?_) (fun q10 => ?_)
    · have f := (if_pos q10).symm.trans f
      refine lv_iconst (v := 0) S.1 S.2.1 dX12_minutes_31 (by decide) ?_
      refine lv_istore_n (lv' := [(2, .int 0), (0, .ref (b + a0)), (1, .int x1)]) S.1 S.2.1 dX12_minutes_32 rfl hl (by decide) rfl (fun ls hl => ?_)
      exact T12_minutes_33 S hr hlo  1024 f I (lv_sub hl [1, 2, 0] rfl)
    · have f := (if_neg q10).symm.trans f
      refine lv_iconst (v := (-1)) S.1 S.2.1 dX12_minutes_29 (by decide) ?_
      exact o_iret S hr hlo I f dX12_minutes_30
theorem M12_minutes (l : Launch) (D : va_G) (cy : Nat → ClassId) (b : Nat) (A : Nat → Prop) (fl : Bool) {h : PH} {a0 : Nat} {x1 : Int32} {out : Int32 × PH} (f : F12_minutes h a0 x1 = some out) : Met l yX12_minutes vX12_minutes ({ frames := 11, cells := 0, slots := 0, locals := 268 } : Room) (va_Pc [.ref (b + a0), .int x1] (ph_B D cy b A fl h)) (va_Qi (fun (r : Int32) (u : PH) => (r, u) = out) (ph_B D cy b A fl) A) 0 0 A :=
  o_met (by decide) rfl (Nat.le_of_ble_eq_true rfl) rfl (fun p e s m below meth c S hr hlo hnm ls hl I => T12_minutes_0 S hr hlo ((gd f).2) I (lv_sub hl [0, 1] rfl))
def vX12_named : List Cond := .code yX12_named cX12_named 2 (some .int) :: TB
theorem lp12_named_154 : Pl vX12_named RX12 154 12 2 .int := ⟨RX12, TX12, 87, tyX12, rfl, by decide, (fun w h9 => List.mem_cons_of_mem _ (wC_wsX120 w h9)), (List.mem_cons_of_mem _ wT_13_17), tyX12_ok, nmX12, rfl, rfl⟩
theorem lf12_named_27 : Fl vX12_named RX12 27 12 27 := ⟨RX12, TX12, 87, rfl, by decide, (fun w h9 => List.mem_cons_of_mem _ (wC_wsX120 w h9)), (List.mem_cons_of_mem _ wT_10_2)⟩
theorem lf12_named_247 : Fl vX12_named RX12 247 12 14 := ⟨RX12, TX12, 87, rfl, by decide, (fun w h9 => List.mem_cons_of_mem _ (wC_wsX120 w h9)), (List.mem_cons_of_mem _ wT_12_12)⟩
theorem gX12_named_X12_find : GoodIn vX12_named (va_wsS RX12 269 yX12_find vX12_find) := gS_of wT_29_1 wT_29_2 wT_1_5 wT_29_3
set_option maxHeartbeats 4000000 in
set_option maxRecDepth 100000 in
theorem T12_named_0 (S : CallFix p m c cX12_named 2 s args vX12_named RX12) (hr : meth.sig.returnType = (some .int)) (hlo : meth.locks = false) {out : Int32 × PH} {h : PH} {a0 : Nat} {x1 : Int32} (f : F12_named_0  h a0 x1 = some out) {H : Heap} {locs : List Loc} (I : ph_I D cy b A fl h s H locs) {ls : Array Slot} (hl : lv_has ls 2 [(0, .ref (b + a0)), (1, .int x1)]) : W p l e ({ frames := 1, cells := 0, slots := 0, locals := 24 } : Room) s m args below meth c H locs 0 0 (MQ below (va_Qi (fun (r : Int32) (u : PH) => (r, u) = out) (ph_B D cy b A fl) A) args s 0 0 A) (F0 m 0 ls []) := by
  unfold F12_named_0 at f
  refine lv_aload_n S.1 S.2.1 dX12_named_0 rfl (lv_at hl 0 rfl) ?_
  refine lv_iconst (v := 0) S.1 S.2.1 dX12_named_1 (by decide) ?_
  obtain ⟨h1, e2, f⟩ := ob f
  refine o_pI S lp12_named_154 I e2 dX12_named_2 (fun H locs I => ?_)
  refine lv_aload_n S.1 S.2.1 dX12_named_5 rfl (lv_at hl 0 rfl) ?_
  obtain ⟨r3, e4, f⟩ := ob f
  refine o_gR S lf12_named_27 I e4 dX12_named_6 ?_
  refine lv_iconst (v := 0) S.1 S.2.1 dX12_named_9 (by decide) ?_
  refine lv_aload_n S.1 S.2.1 dX12_named_10 rfl (lv_at hl 0 rfl) ?_
  obtain ⟨v5, e6, f⟩ := ob f
  refine o_gI S lf12_named_247 I e6 dX12_named_11 ?_
  refine lv_iload_n S.1 S.2.1 dX12_named_14 rfl (lv_at hl 1 rfl) ?_
  obtain ⟨o7, e8, f⟩ := ob f
  refine o_Si S (As := [.ref (b + r3), .int 0, .int v5, .int x1]) (rest := []) (M12_find l D cy b A fl e8) gX12_named_X12_find rfl rfl rfl cd12_find ⟨Nat.le_of_ble_eq_true rfl, Nat.le_of_ble_eq_true rfl⟩ I rfl hl.1 rfl (Nat.le_of_ble_eq_true rfl) dX12_named_15 ⟨Nat.le_of_ble_eq_true rfl, Nat.le_of_ble_eq_true rfl⟩ (fun H locs I => ?_)
  exact o_iret S hr hlo I f dX12_named_18
theorem M12_named (l : Launch) (D : va_G) (cy : Nat → ClassId) (b : Nat) (A : Nat → Prop) (fl : Bool) {h : PH} {a0 : Nat} {x1 : Int32} {out : Int32 × PH} (f : F12_named h a0 x1 = some out) : Met l yX12_named vX12_named ({ frames := 1, cells := 0, slots := 0, locals := 24 } : Room) (va_Pc [.ref (b + a0), .int x1] (ph_B D cy b A fl h)) (va_Qi (fun (r : Int32) (u : PH) => (r, u) = out) (ph_B D cy b A fl) A) 0 0 A :=
  o_met (by decide) rfl (Nat.le_of_ble_eq_true rfl) rfl (fun p e s m below meth c S hr hlo hnm ls hl I => T12_named_0 S hr hlo ((gd f).2) I (lv_sub hl [0, 1] rfl))
def vX12_next : List Cond := .code yX12_next cX12_next 2 (some .int) :: TB
theorem lf12_next_250 : Fl vX12_next RX12 250 12 15 := ⟨RX12, TX12, 87, rfl, by decide, (fun w h9 => List.mem_cons_of_mem _ (wC_wsX120 w h9)), (List.mem_cons_of_mem _ wT_12_13)⟩
theorem lf12_next_48 : Fl vX12_next RX12 48 12 34 := ⟨RX12, TX12, 87, rfl, by decide, (fun w h9 => List.mem_cons_of_mem _ (wC_wsX120 w h9)), (List.mem_cons_of_mem _ wT_10_9)⟩
theorem lf12_next_45 : Fl vX12_next RX12 45 12 33 := ⟨RX12, TX12, 87, rfl, by decide, (fun w h9 => List.mem_cons_of_mem _ (wC_wsX120 w h9)), (List.mem_cons_of_mem _ wT_10_8)⟩
theorem lf12_next_106 : Fl vX12_next RX12 106 12 61 := ⟨RX12, TX12, 87, rfl, by decide, (fun w h9 => List.mem_cons_of_mem _ (wC_wsX120 w h9)), (List.mem_cons_of_mem _ wT_11_4)⟩
theorem lp12_next_154 : Pl vX12_next RX12 154 12 2 .int := ⟨RX12, TX12, 87, tyX12, rfl, by decide, (fun w h9 => List.mem_cons_of_mem _ (wC_wsX120 w h9)), (List.mem_cons_of_mem _ wT_13_17), tyX12_ok, nmX12, rfl, rfl⟩
set_option maxHeartbeats 4000000 in
set_option maxRecDepth 100000 in
theorem T12_next_7 (S : CallFix p m c cX12_next 2 s args vX12_next RX12) (hr : meth.sig.returnType = (some .int)) (hlo : meth.locks = false) {out : Int32 × PH} : ∀ (n : Nat) {h : PH} {a0 : Nat} {x1 : Int32} (f : F12_next_7  n h a0 x1 = some out) {H : Heap} {locs : List Loc} (I : ph_I D cy b A fl h s H locs) {ls : Array Slot} (hl : lv_has ls 2 [(0, .ref (b + a0)), (1, .int x1)]), W p l e ({ frames := 0, cells := 0, slots := 0, locals := 0 } : Room) s m args below meth c H locs 0 0 (MQ below (va_Qi (fun (r : Int32) (u : PH) => (r, u) = out) (ph_B D cy b A fl) A) args s 0 0 A) (F0 m 7 ls []) := by
  intro n
  induction n with
  | zero => intro h a0 x1 f; rw [F12_next_7] at f; cases f
  | succ n ih =>
    intro h a0 x1 f H locs I ls hl
    rw [F12_next_7] at f
    refine lv_iload_n S.1 S.2.1 dX12_next_7 rfl (lv_at hl 1 rfl) ?_
    refine lv_aload_n S.1 S.2.1 dX12_next_8 rfl (lv_at hl 0 rfl) ?_
    obtain ⟨v1, e2, f⟩ := ob f
    refine o_gI S lf12_next_250 I e2 dX12_next_9 ?_
    refine lv_icmp_ge (tgt := 60) S.1 S.2.1 dX12_next_12 (by decide) (fun q3 => ?_) (fun q3 => ?_)
    · have f := (if_pos q3).symm.trans f
      refine lv_bipush (v := (-2)) S.1 S.2.1 dX12_next_60 (by decide) ?_
      exact o_iret S hr hlo I f dX12_next_62
    · have f := (if_neg q3).symm.trans f
      refine lv_aload_n S.1 S.2.1 dX12_next_15 rfl (lv_at hl 0 rfl) ?_
      obtain ⟨r4, e5, f⟩ := ob f
      refine o_gR S lf12_next_48 I e5 dX12_next_16 ?_
      refine lv_aload_n S.1 S.2.1 dX12_next_19 rfl (lv_at hl 0 rfl) ?_
      obtain ⟨r6, e7, f⟩ := ob f
      refine o_gR S lf12_next_45 I e7 dX12_next_20 ?_
      refine lv_iload_n S.1 S.2.1 dX12_next_23 rfl (lv_at hl 1 rfl) ?_
      obtain ⟨v9, e8, f⟩ := ob f
      refine o_iald S I e8 dX12_next_24 ?_
      obtain ⟨v11, e10, f⟩ := ob f
      refine o_iald S I e10 dX12_next_25 ?_
      refine lv_aload_n S.1 S.2.1 dX12_next_26 rfl (lv_at hl 0 rfl) ?_
      obtain ⟨r12, e13, f⟩ := ob f
      refine o_gR S lf12_next_106 I e13 dX12_next_27 ?_
      refine lv_iconst (v := 0) S.1 S.2.1 dX12_next_30 (by decide) ?_
      obtain ⟨v15, e14, f⟩ := ob f
      refine o_iald S I e14 dX12_next_31 ?_
      refine lv_icmp_lt (tgt := 54) S.1 S.2.1 dX12_next_32 (by decide) (fun q16 => ?_) (fun q16 => ?_)
      · have f := (if_pos q16).symm.trans f
        refine lv_iinc (v := (x1 + 1)) (lv' := [(1, .int (x1 + 1)), (0, .ref (b + a0))]) S.1 S.2.1 dX12_next_54 hl (k := 1) rfl (congrArg (fun z => x1 + z) (by decide)) (by decide) rfl (fun ls hl => ?_)
        refine lv_goto (tgt := 7) S.1 S.2.1 dX12_next_57 (by decide) ?_
        exact ih f I (lv_sub hl [1, 0] rfl)
      · have f := (if_neg q16).symm.trans f
        refine lv_aload_n S.1 S.2.1 dX12_next_35 rfl (lv_at hl 0 rfl) ?_
        obtain ⟨r17, e18, f⟩ := ob f
        refine o_gR S lf12_next_48 I e18 dX12_next_36 ?_
        refine lv_aload_n S.1 S.2.1 dX12_next_39 rfl (lv_at hl 0 rfl) ?_
        obtain ⟨r19, e20, f⟩ := ob f
        refine o_gR S lf12_next_45 I e20 dX12_next_40 ?_
        refine lv_iload_n S.1 S.2.1 dX12_next_43 rfl (lv_at hl 1 rfl) ?_
        obtain ⟨v22, e21, f⟩ := ob f
        refine o_iald S I e21 dX12_next_44 ?_
        obtain ⟨v24, e23, f⟩ := ob f
        refine o_iald S I e23 dX12_next_45 ?_
        refine lv_aload_n S.1 S.2.1 dX12_next_46 rfl (lv_at hl 0 rfl) ?_
        obtain ⟨r25, e26, f⟩ := ob f
        refine o_gR S lf12_next_106 I e26 dX12_next_47 ?_
        refine lv_iconst (v := 0) S.1 S.2.1 dX12_next_50 (by decide) ?_
        obtain ⟨v28, e27, f⟩ := ob f
        refine o_iald S I e27 dX12_next_51 ?_
        refine lv_isub S.1 S.2.1 dX12_next_52 ?_
        exact o_iret S hr hlo I f dX12_next_53
set_option maxHeartbeats 4000000 in
set_option maxRecDepth 100000 in
theorem T12_next_0 (S : CallFix p m c cX12_next 2 s args vX12_next RX12) (hr : meth.sig.returnType = (some .int)) (hlo : meth.locks = false) {out : Int32 × PH} {h : PH} {a0 : Nat} (f : F12_next_0  h a0 = some out) {H : Heap} {locs : List Loc} (I : ph_I D cy b A fl h s H locs) {ls : Array Slot} (hl : lv_has ls 2 [(0, .ref (b + a0))]) : W p l e ({ frames := 0, cells := 0, slots := 0, locals := 0 } : Room) s m args below meth c H locs 0 0 (MQ below (va_Qi (fun (r : Int32) (u : PH) => (r, u) = out) (ph_B D cy b A fl) A) args s 0 0 A) (F0 m 0 ls []) := by
  unfold F12_next_0 at f
  refine lv_aload_n S.1 S.2.1 dX12_next_0 rfl (lv_at hl 0 rfl) ?_
  refine lv_iconst (v := 0) S.1 S.2.1 dX12_next_1 (by decide) ?_
  obtain ⟨h1, e2, f⟩ := ob f
  refine o_pI S lp12_next_154 I e2 dX12_next_2 (fun H locs I => ?_)
  refine lv_iconst (v := 0) S.1 S.2.1 dX12_next_5 (by decide) ?_
  refine lv_istore_n (lv' := [(1, .int 0), (0, .ref (b + a0))]) S.1 S.2.1 dX12_next_6 rfl hl (by decide) rfl (fun ls hl => ?_)
  exact T12_next_7 S hr hlo  1024 f I (lv_sub hl [1, 0] rfl)
theorem M12_next (l : Launch) (D : va_G) (cy : Nat → ClassId) (b : Nat) (A : Nat → Prop) (fl : Bool) {h : PH} {a0 : Nat} {out : Int32 × PH} (f : F12_next h a0 = some out) : Met l yX12_next vX12_next ({ frames := 0, cells := 0, slots := 0, locals := 0 } : Room) (va_Pc [.ref (b + a0)] (ph_B D cy b A fl h)) (va_Qi (fun (r : Int32) (u : PH) => (r, u) = out) (ph_B D cy b A fl) A) 0 0 A :=
  o_met (by decide) rfl (Nat.le_of_ble_eq_true rfl) rfl (fun p e s m below meth c S hr hlo hnm ls hl I => T12_next_0 S hr hlo ((gd f).2) I (lv_sub hl [0] rfl))
def vX12_noted : List Cond := .code yX12_noted cX12_noted 4 (some .int) :: TB
theorem lf12_noted_136 : Fl vX12_noted RX12 136 12 76 := ⟨RX12, TX12, 87, rfl, by decide, (fun w h9 => List.mem_cons_of_mem _ (wC_wsX120 w h9)), (List.mem_cons_of_mem _ wT_11_14)⟩
theorem lf12_noted_376 : Fl vX12_noted RX12 376 12 74 := ⟨RX12, TX12, 87, rfl, by decide, (fun w h9 => List.mem_cons_of_mem _ (wC_wsX120 w h9)), (List.mem_cons_of_mem _ wT_13_1)⟩
theorem lp12_noted_376 : Pl vX12_noted RX12 376 12 74 .int := ⟨RX12, TX12, 87, tyX12, rfl, by decide, (fun w h9 => List.mem_cons_of_mem _ (wC_wsX120 w h9)), (List.mem_cons_of_mem _ wT_13_1), tyX12_ok, nmX12, rfl, rfl⟩
theorem cd12_noted : Cd yX12_noted 3 := ⟨by decide, by decide, by decide +kernel⟩
set_option maxHeartbeats 4000000 in
set_option maxRecDepth 100000 in
theorem T12_noted_0 (S : CallFix p m c cX12_noted 4 s args vX12_noted RX12) (hr : meth.sig.returnType = (some .int)) (hlo : meth.locks = false) {out : Int32 × PH} {h : PH} {a0 : Nat} {x1 : Int32} {x2 : Int32} {x3 : Int32} (f : F12_noted_0  h a0 x1 x2 x3 = some out) {H : Heap} {locs : List Loc} (I : ph_I D cy b A fl h s H locs) {ls : Array Slot} (hl : lv_has ls 4 [(0, .ref (b + a0)), (1, .int x1), (2, .int x2), (3, .int x3)]) : W p l e ({ frames := 0, cells := 0, slots := 0, locals := 0 } : Room) s m args below meth c H locs 0 0 (MQ below (va_Qi (fun (r : Int32) (u : PH) => (r, u) = out) (ph_B D cy b A fl) A) args s 0 0 A) (F0 m 0 ls []) := by
  unfold F12_noted_0 at f
  refine lv_aload_n S.1 S.2.1 dX12_noted_0 rfl (lv_at hl 0 rfl) ?_
  obtain ⟨r1, e2, f⟩ := ob f
  refine o_gR S lf12_noted_136 I e2 dX12_noted_1 ?_
  refine lv_iconst (v := 3) S.1 S.2.1 dX12_noted_4 (by decide) ?_
  refine lv_aload_n S.1 S.2.1 dX12_noted_5 rfl (lv_at hl 0 rfl) ?_
  obtain ⟨v3, e4, f⟩ := ob f
  refine o_gI S lf12_noted_376 I e4 dX12_noted_6 ?_
  refine lv_imul S.1 S.2.1 dX12_noted_9 ?_
  refine lv_iload_n S.1 S.2.1 dX12_noted_10 rfl (lv_at hl 1 rfl) ?_
  obtain ⟨h6, e5, f⟩ := ob f
  refine o_iast S I e5 dX12_noted_11 (fun H locs I => ?_)
  refine lv_aload_n S.1 S.2.1 dX12_noted_12 rfl (lv_at hl 0 rfl) ?_
  obtain ⟨r7, e8, f⟩ := ob f
  refine o_gR S lf12_noted_136 I e8 dX12_noted_13 ?_
  refine lv_iconst (v := 3) S.1 S.2.1 dX12_noted_16 (by decide) ?_
  refine lv_aload_n S.1 S.2.1 dX12_noted_17 rfl (lv_at hl 0 rfl) ?_
  obtain ⟨v9, e10, f⟩ := ob f
  refine o_gI S lf12_noted_376 I e10 dX12_noted_18 ?_
  refine lv_imul S.1 S.2.1 dX12_noted_21 ?_
  refine lv_iconst (v := 1) S.1 S.2.1 dX12_noted_22 (by decide) ?_
  refine lv_iadd S.1 S.2.1 dX12_noted_23 ?_
  refine lv_iload_n S.1 S.2.1 dX12_noted_24 rfl (lv_at hl 2 rfl) ?_
  obtain ⟨h12, e11, f⟩ := ob f
  refine o_iast S I e11 dX12_noted_25 (fun H locs I => ?_)
  refine lv_aload_n S.1 S.2.1 dX12_noted_26 rfl (lv_at hl 0 rfl) ?_
  obtain ⟨r13, e14, f⟩ := ob f
  refine o_gR S lf12_noted_136 I e14 dX12_noted_27 ?_
  refine lv_iconst (v := 3) S.1 S.2.1 dX12_noted_30 (by decide) ?_
  refine lv_aload_n S.1 S.2.1 dX12_noted_31 rfl (lv_at hl 0 rfl) ?_
  obtain ⟨v15, e16, f⟩ := ob f
  refine o_gI S lf12_noted_376 I e16 dX12_noted_32 ?_
  refine lv_imul S.1 S.2.1 dX12_noted_35 ?_
  refine lv_iconst (v := 2) S.1 S.2.1 dX12_noted_36 (by decide) ?_
  refine lv_iadd S.1 S.2.1 dX12_noted_37 ?_
  refine lv_iload_n S.1 S.2.1 dX12_noted_38 rfl (lv_at hl 3 rfl) ?_
  obtain ⟨h18, e17, f⟩ := ob f
  refine o_iast S I e17 dX12_noted_39 (fun H locs I => ?_)
  refine lv_aload_n S.1 S.2.1 dX12_noted_40 rfl (lv_at hl 0 rfl) ?_
  refine lv_dup S.1 S.2.1 dX12_noted_41 rfl ?_
  obtain ⟨v19, e20, f⟩ := ob f
  refine o_gI S lf12_noted_376 I e20 dX12_noted_42 ?_
  refine lv_iconst (v := 1) S.1 S.2.1 dX12_noted_45 (by decide) ?_
  refine lv_iadd S.1 S.2.1 dX12_noted_46 ?_
  obtain ⟨h21, e22, f⟩ := ob f
  refine o_pI S lp12_noted_376 I e22 dX12_noted_47 (fun H locs I => ?_)
  refine lv_aload_n S.1 S.2.1 dX12_noted_50 rfl (lv_at hl 0 rfl) ?_
  obtain ⟨v23, e24, f⟩ := ob f
  refine o_gI S lf12_noted_376 I e24 dX12_noted_51 ?_
  refine lv_iconst (v := 1) S.1 S.2.1 dX12_noted_54 (by decide) ?_
  refine lv_isub S.1 S.2.1 dX12_noted_55 ?_
  exact o_iret S hr hlo I f dX12_noted_56
theorem M12_noted (l : Launch) (D : va_G) (cy : Nat → ClassId) (b : Nat) (A : Nat → Prop) (fl : Bool) {h : PH} {a0 : Nat} {x1 : Int32} {x2 : Int32} {x3 : Int32} {out : Int32 × PH} (f : F12_noted h a0 x1 x2 x3 = some out) : Met l yX12_noted vX12_noted ({ frames := 0, cells := 0, slots := 0, locals := 0 } : Room) (va_Pc [.ref (b + a0), .int x1, .int x2, .int x3] (ph_B D cy b A fl h)) (va_Qi (fun (r : Int32) (u : PH) => (r, u) = out) (ph_B D cy b A fl) A) 0 0 A :=
  o_met (by decide) rfl (Nat.le_of_ble_eq_true rfl) rfl (fun p e s m below meth c S hr hlo hnm ls hl I => T12_noted_0 S hr hlo ((gd f).2) I (lv_sub hl [0, 1, 2, 3] rfl))
def vX12_note : List Cond := .code yX12_note cX12_note 4 (some .int) :: TB
theorem lp12_note_154 : Pl vX12_note RX12 154 12 2 .int := ⟨RX12, TX12, 87, tyX12, rfl, by decide, (fun w h9 => List.mem_cons_of_mem _ (wC_wsX120 w h9)), (List.mem_cons_of_mem _ wT_13_17), tyX12_ok, nmX12, rfl, rfl⟩
theorem lf12_note_376 : Fl vX12_note RX12 376 12 74 := ⟨RX12, TX12, 87, rfl, by decide, (fun w h9 => List.mem_cons_of_mem _ (wC_wsX120 w h9)), (List.mem_cons_of_mem _ wT_13_1)⟩
theorem gX12_note_X12_isIn : GoodIn vX12_note (va_wsS RX12 199 yX12_isIn vX12_isIn) := gS_of wT_28_17 wT_28_18 wT_1_5 wT_28_19
theorem gX12_note_X12_isSurfer : GoodIn vX12_note (wsV RX12 413 RX12 yX12_isSurfer vX12_isSurfer) := gV_of wT_34_14 wT_34_15 wT_34_16 wT_1_5 wT_34_17
theorem gX12_note_X12_isCell : GoodIn vX12_note (wsV RX12 422 RX12 yX12_isCell vX12_isCell) := gV_of wT_39_17 wT_39_18 wT_39_19 wT_1_5 wT_39_20
theorem gX12_note_X12_noted : GoodIn vX12_note (wsV RX12 524 RX12 yX12_noted vX12_noted) := gV_of wT_61_22 wT_61_23 wT_62_0 wT_1_5 wT_62_1
set_option maxHeartbeats 4000000 in
set_option maxRecDepth 100000 in
theorem T12_note_0 (S : CallFix p m c cX12_note 4 s args vX12_note RX12) (hr : meth.sig.returnType = (some .int)) (hlo : meth.locks = false) {out : Int32 × PH} {h : PH} {a0 : Nat} {x1 : Int32} {x2 : Int32} {x3 : Int32} (f : F12_note_0  h a0 x1 x2 x3 = some out) {H : Heap} {locs : List Loc} (I : ph_I D cy b A fl h s H locs) {ls : Array Slot} (hl : lv_has ls 4 [(0, .ref (b + a0)), (1, .int x1), (2, .int x2), (3, .int x3)]) : W p l e ({ frames := 2, cells := 0, slots := 0, locals := 41 } : Room) s m args below meth c H locs 0 0 (MQ below (va_Qi (fun (r : Int32) (u : PH) => (r, u) = out) (ph_B D cy b A fl) A) args s 0 0 A) (F0 m 0 ls []) := by
  unfold F12_note_0 at f
  refine lv_aload_n S.1 S.2.1 dX12_note_0 rfl (lv_at hl 0 rfl) ?_
  refine lv_iconst (v := 0) S.1 S.2.1 dX12_note_1 (by decide) ?_
  obtain ⟨h1, e2, f⟩ := ob f
  refine o_pI S lp12_note_154 I e2 dX12_note_2 (fun H locs I => ?_)
  refine lv_aload_n S.1 S.2.1 dX12_note_5 rfl (lv_at hl 0 rfl) ?_
  obtain ⟨v3, e4, f⟩ := ob f
  refine o_gI S lf12_note_376 I e4 dX12_note_6 ?_
  refine lv_bipush (v := 24) S.1 S.2.1 dX12_note_9 (by decide) ?_
  refine lv_icmp_eq (tgt := 41) S.1 S.2.1 dX12_note_11 (by decide) (fun q5 => ?_) (fun q5 => ?_)
  · have f := (if_pos q5).symm.trans f
    refine lv_iconst (v := (-1)) S.1 S.2.1 dX12_note_41 (by decide) ?_
    refine lv_goto (tgt := 52) S.1 S.2.1 dX12_note_42 (by decide) ?_
    exact o_iret S hr hlo I f dX12_note_52
  · have f := (if_neg q5).symm.trans f
    refine lv_iload_n S.1 S.2.1 dX12_note_14 rfl (lv_at hl 1 rfl) ?_
    refine lv_iconst (v := 0) S.1 S.2.1 dX12_note_15 (by decide) ?_
    refine lv_sipush (v := 199) S.1 S.2.1 dX12_note_16 (by decide) ?_
    obtain ⟨o6, e7, f⟩ := ob f
    refine o_Si S (As := [.int x1, .int 0, .int 199]) (rest := []) (M12_isIn l D cy b A fl e7) gX12_note_X12_isIn rfl rfl rfl cd12_isIn ⟨Nat.le_of_ble_eq_true rfl, Nat.le_of_ble_eq_true rfl⟩ I rfl hl.1 rfl (Nat.le_of_ble_eq_true rfl) dX12_note_19 ⟨Nat.le_of_ble_eq_true rfl, Nat.le_of_ble_eq_true rfl⟩ (fun H locs I => ?_)
    refine lv_if_eq (tgt := 41) S.1 S.2.1 dX12_note_22 (by decide) (fun q8 => ?_) (fun q8 => ?_)
    · have f := (if_pos q8).symm.trans f
      refine lv_iconst (v := (-1)) S.1 S.2.1 dX12_note_41 (by decide) ?_
      refine lv_goto (tgt := 52) S.1 S.2.1 dX12_note_42 (by decide) ?_
      exact o_iret S hr hlo I f dX12_note_52
    · have f := (if_neg q8).symm.trans f
      refine lv_aload_n S.1 S.2.1 dX12_note_25 rfl (lv_at hl 0 rfl) ?_
      refine lv_iload_n S.1 S.2.1 dX12_note_26 rfl (lv_at hl 2 rfl) ?_
      obtain ⟨o9, e10, f⟩ := ob f
      refine o_Vi S (As := [.int x2]) (rest := []) (ci := 12) (M12_isSurfer l D cy b A fl e10) gX12_note_X12_isSurfer rfl rfl rfl cd12_isSurfer ⟨Nat.le_of_ble_eq_true rfl, Nat.le_of_ble_eq_true rfl⟩ I (gd e10).1 clX12 rfl rfl hl.1 rfl (Nat.le_of_ble_eq_true rfl) dX12_note_27 ⟨Nat.le_of_ble_eq_true rfl, Nat.le_of_ble_eq_true rfl⟩ (fun H locs I => ?_)
      refine lv_if_eq (tgt := 41) S.1 S.2.1 dX12_note_30 (by decide) (fun q11 => ?_) (fun q11 => ?_)
      · have f := (if_pos q11).symm.trans f
        refine lv_iconst (v := (-1)) S.1 S.2.1 dX12_note_41 (by decide) ?_
        refine lv_goto (tgt := 52) S.1 S.2.1 dX12_note_42 (by decide) ?_
        exact o_iret S hr hlo I f dX12_note_52
      · have f := (if_neg q11).symm.trans f
        refine lv_aload_n S.1 S.2.1 dX12_note_33 rfl (lv_at hl 0 rfl) ?_
        refine lv_iload_n S.1 S.2.1 dX12_note_34 rfl (lv_at hl 3 rfl) ?_
        obtain ⟨o12, e13, f⟩ := ob f
        refine o_Vi S (As := [.int x3]) (rest := []) (ci := 12) (M12_isCell l D cy b A fl e13) gX12_note_X12_isCell rfl rfl rfl cd12_isCell ⟨Nat.le_of_ble_eq_true rfl, Nat.le_of_ble_eq_true rfl⟩ I (gd e13).1 clX12 rfl rfl hl.1 rfl (Nat.le_of_ble_eq_true rfl) dX12_note_35 ⟨Nat.le_of_ble_eq_true rfl, Nat.le_of_ble_eq_true rfl⟩ (fun H locs I => ?_)
        refine lv_if_ne (tgt := 45) S.1 S.2.1 dX12_note_38 (by decide) (fun q14 => ?_) (fun q14 => ?_)
        · have f := (if_neg q14).symm.trans f
          refine lv_aload_n S.1 S.2.1 dX12_note_45 rfl (lv_at hl 0 rfl) ?_
          refine lv_iload_n S.1 S.2.1 dX12_note_46 rfl (lv_at hl 1 rfl) ?_
          refine lv_iload_n S.1 S.2.1 dX12_note_47 rfl (lv_at hl 2 rfl) ?_
          refine lv_iload_n S.1 S.2.1 dX12_note_48 rfl (lv_at hl 3 rfl) ?_
          obtain ⟨o15, e16, f⟩ := ob f
          refine o_Vi S (As := [.int x1, .int x2, .int x3]) (rest := []) (ci := 12) (M12_noted l D cy b A fl e16) gX12_note_X12_noted rfl rfl rfl cd12_noted ⟨Nat.le_of_ble_eq_true rfl, Nat.le_of_ble_eq_true rfl⟩ I (gd e16).1 clX12 rfl rfl hl.1 rfl (Nat.le_of_ble_eq_true rfl) dX12_note_49 ⟨Nat.le_of_ble_eq_true rfl, Nat.le_of_ble_eq_true rfl⟩ (fun H locs I => ?_)
          exact o_iret S hr hlo I f dX12_note_52
        · have f := (if_pos q14).symm.trans f
          refine lv_iconst (v := (-1)) S.1 S.2.1 dX12_note_41 (by decide) ?_
          refine lv_goto (tgt := 52) S.1 S.2.1 dX12_note_42 (by decide) ?_
          exact o_iret S hr hlo I f dX12_note_52
theorem M12_note (l : Launch) (D : va_G) (cy : Nat → ClassId) (b : Nat) (A : Nat → Prop) (fl : Bool) {h : PH} {a0 : Nat} {x1 : Int32} {x2 : Int32} {x3 : Int32} {out : Int32 × PH} (f : F12_note h a0 x1 x2 x3 = some out) : Met l yX12_note vX12_note ({ frames := 2, cells := 0, slots := 0, locals := 41 } : Room) (va_Pc [.ref (b + a0), .int x1, .int x2, .int x3] (ph_B D cy b A fl h)) (va_Qi (fun (r : Int32) (u : PH) => (r, u) = out) (ph_B D cy b A fl) A) 0 0 A :=
  o_met (by decide) rfl (Nat.le_of_ble_eq_true rfl) rfl (fun p e s m below meth c S hr hlo hnm ls hl I => T12_note_0 S hr hlo ((gd f).2) I (lv_sub hl [0, 1, 2, 3] rfl))
def vX12_odds : List Cond := .code yX12_odds cX12_odds 4 (some .int) :: TB
theorem lp12_odds_154 : Pl vX12_odds RX12 154 12 2 .int := ⟨RX12, TX12, 87, tyX12, rfl, by decide, (fun w h9 => List.mem_cons_of_mem _ (wC_wsX120 w h9)), (List.mem_cons_of_mem _ wT_13_17), tyX12_ok, nmX12, rfl, rfl⟩
theorem gX12_odds_X12_isSurfer : GoodIn vX12_odds (wsV RX12 413 RX12 yX12_isSurfer vX12_isSurfer) := gV_of wT_34_14 wT_34_15 wT_34_16 wT_1_5 wT_34_17
theorem gX12_odds_X12_isWave : GoodIn vX12_odds (wsV RX12 419 RX12 yX12_isWave vX12_isWave) := gV_of wT_37_7 wT_37_8 wT_37_9 wT_1_5 wT_37_10
theorem gX12_odds_X12_isCell : GoodIn vX12_odds (wsV RX12 422 RX12 yX12_isCell vX12_isCell) := gV_of wT_39_17 wT_39_18 wT_39_19 wT_1_5 wT_39_20
theorem gX12_odds_X12_oddsOf : GoodIn vX12_odds (wsV RX12 425 RX12 yX12_oddsOf vX12_oddsOf) := gV_of wT_40_1 wT_40_2 wT_40_3 wT_1_5 wT_40_4
set_option maxHeartbeats 4000000 in
set_option maxRecDepth 100000 in
theorem T12_odds_0 (S : CallFix p m c cX12_odds 4 s args vX12_odds RX12) (hr : meth.sig.returnType = (some .int)) (hlo : meth.locks = false) {out : Int32 × PH} {h : PH} {a0 : Nat} {x1 : Int32} {x2 : Int32} {x3 : Int32} (f : F12_odds_0  h a0 x1 x2 x3 = some out) {H : Heap} {locs : List Loc} (I : ph_I D cy b A fl h s H locs) {ls : Array Slot} (hl : lv_has ls 4 [(0, .ref (b + a0)), (1, .int x1), (2, .int x2), (3, .int x3)]) : W p l e ({ frames := 7, cells := 0, slots := 0, locals := 169 } : Room) s m args below meth c H locs 0 0 (MQ below (va_Qi (fun (r : Int32) (u : PH) => (r, u) = out) (ph_B D cy b A fl) A) args s 0 0 A) (F0 m 0 ls []) := by
  unfold F12_odds_0 at f
  refine lv_aload_n S.1 S.2.1 dX12_odds_0 rfl (lv_at hl 0 rfl) ?_
  refine lv_iconst (v := 0) S.1 S.2.1 dX12_odds_1 (by decide) ?_
  obtain ⟨h1, e2, f⟩ := ob f
  refine o_pI S lp12_odds_154 I e2 dX12_odds_2 (fun H locs I => ?_)
  refine lv_aload_n S.1 S.2.1 dX12_odds_5 rfl (lv_at hl 0 rfl) ?_
  refine lv_iload_n S.1 S.2.1 dX12_odds_6 rfl (lv_at hl 1 rfl) ?_
  obtain ⟨o3, e4, f⟩ := ob f
  refine o_Vi S (As := [.int x1]) (rest := []) (ci := 12) (M12_isSurfer l D cy b A fl e4) gX12_odds_X12_isSurfer rfl rfl rfl cd12_isSurfer ⟨Nat.le_of_ble_eq_true rfl, Nat.le_of_ble_eq_true rfl⟩ I (gd e4).1 clX12 rfl rfl hl.1 rfl (Nat.le_of_ble_eq_true rfl) dX12_odds_7 ⟨Nat.le_of_ble_eq_true rfl, Nat.le_of_ble_eq_true rfl⟩ (fun H locs I => ?_)
  refine lv_if_eq (tgt := 39) S.1 S.2.1 dX12_odds_10 (by decide) (fun q5 => ?_) (fun q5 => ?_)
  · have f := (if_pos q5).symm.trans f
    refine lv_iconst (v := (-1)) S.1 S.2.1 dX12_odds_39 (by decide) ?_
    exact o_iret S hr hlo I f dX12_odds_40
  · have f := (if_neg q5).symm.trans f
    refine lv_aload_n S.1 S.2.1 dX12_odds_13 rfl (lv_at hl 0 rfl) ?_
    refine lv_iload_n S.1 S.2.1 dX12_odds_14 rfl (lv_at hl 2 rfl) ?_
    obtain ⟨o6, e7, f⟩ := ob f
    refine o_Vi S (As := [.int x2]) (rest := []) (ci := 12) (M12_isWave l D cy b A fl e7) gX12_odds_X12_isWave rfl rfl rfl cd12_isWave ⟨Nat.le_of_ble_eq_true rfl, Nat.le_of_ble_eq_true rfl⟩ I (gd e7).1 clX12 rfl rfl hl.1 rfl (Nat.le_of_ble_eq_true rfl) dX12_odds_15 ⟨Nat.le_of_ble_eq_true rfl, Nat.le_of_ble_eq_true rfl⟩ (fun H locs I => ?_)
    refine lv_if_eq (tgt := 39) S.1 S.2.1 dX12_odds_18 (by decide) (fun q8 => ?_) (fun q8 => ?_)
    · have f := (if_pos q8).symm.trans f
      refine lv_iconst (v := (-1)) S.1 S.2.1 dX12_odds_39 (by decide) ?_
      exact o_iret S hr hlo I f dX12_odds_40
    · have f := (if_neg q8).symm.trans f
      refine lv_aload_n S.1 S.2.1 dX12_odds_21 rfl (lv_at hl 0 rfl) ?_
      refine lv_iload_n S.1 S.2.1 dX12_odds_22 rfl (lv_at hl 3 rfl) ?_
      obtain ⟨o9, e10, f⟩ := ob f
      refine o_Vi S (As := [.int x3]) (rest := []) (ci := 12) (M12_isCell l D cy b A fl e10) gX12_odds_X12_isCell rfl rfl rfl cd12_isCell ⟨Nat.le_of_ble_eq_true rfl, Nat.le_of_ble_eq_true rfl⟩ I (gd e10).1 clX12 rfl rfl hl.1 rfl (Nat.le_of_ble_eq_true rfl) dX12_odds_23 ⟨Nat.le_of_ble_eq_true rfl, Nat.le_of_ble_eq_true rfl⟩ (fun H locs I => ?_)
      refine lv_if_eq (tgt := 39) S.1 S.2.1 dX12_odds_26 (by decide) (fun q11 => ?_) (fun q11 => ?_)
      · have f := (if_pos q11).symm.trans f
        refine lv_iconst (v := (-1)) S.1 S.2.1 dX12_odds_39 (by decide) ?_
        exact o_iret S hr hlo I f dX12_odds_40
      · have f := (if_neg q11).symm.trans f
        refine lv_aload_n S.1 S.2.1 dX12_odds_29 rfl (lv_at hl 0 rfl) ?_
        refine lv_iload_n S.1 S.2.1 dX12_odds_30 rfl (lv_at hl 1 rfl) ?_
        refine lv_iload_n S.1 S.2.1 dX12_odds_31 rfl (lv_at hl 2 rfl) ?_
        refine lv_iload_n S.1 S.2.1 dX12_odds_32 rfl (lv_at hl 3 rfl) ?_
        obtain ⟨o12, e13, f⟩ := ob f
        refine o_Vi S (As := [.int x1, .int x2, .int x3]) (rest := []) (ci := 12) (M12_oddsOf l D cy b A fl e13) gX12_odds_X12_oddsOf rfl rfl rfl cd12_oddsOf ⟨Nat.le_of_ble_eq_true rfl, Nat.le_of_ble_eq_true rfl⟩ I (gd e13).1 clX12 rfl rfl hl.1 rfl (Nat.le_of_ble_eq_true rfl) dX12_odds_33 ⟨Nat.le_of_ble_eq_true rfl, Nat.le_of_ble_eq_true rfl⟩ (fun H locs I => ?_)
        refine lv_goto (tgt := 40) S.1 S.2.1 dX12_odds_36 (by decide) ?_
        exact o_iret S hr hlo I f dX12_odds_40
theorem M12_odds (l : Launch) (D : va_G) (cy : Nat → ClassId) (b : Nat) (A : Nat → Prop) (fl : Bool) {h : PH} {a0 : Nat} {x1 : Int32} {x2 : Int32} {x3 : Int32} {out : Int32 × PH} (f : F12_odds h a0 x1 x2 x3 = some out) : Met l yX12_odds vX12_odds ({ frames := 7, cells := 0, slots := 0, locals := 169 } : Room) (va_Pc [.ref (b + a0), .int x1, .int x2, .int x3] (ph_B D cy b A fl h)) (va_Qi (fun (r : Int32) (u : PH) => (r, u) = out) (ph_B D cy b A fl) A) 0 0 A :=
  o_met (by decide) rfl (Nat.le_of_ble_eq_true rfl) rfl (fun p e s m below meth c S hr hlo hnm ls hl I => T12_odds_0 S hr hlo ((gd f).2) I (lv_sub hl [0, 1, 2, 3] rfl))
def vX12_order : List Cond := .code yX12_order cX12_order 3 (some .int) :: TB
theorem lp12_order_154 : Pl vX12_order RX12 154 12 2 .int := ⟨RX12, TX12, 87, tyX12, rfl, by decide, (fun w h9 => List.mem_cons_of_mem _ (wC_wsX120 w h9)), (List.mem_cons_of_mem _ wT_13_17), tyX12_ok, nmX12, rfl, rfl⟩
theorem gX12_order_X12_isToCome : GoodIn vX12_order (wsV RX12 476 RX12 yX12_isToCome vX12_isToCome) := gV_of wT_48_17 wT_48_18 wT_48_19 wT_1_5 wT_48_20
theorem lf12_order_369 : Fl vX12_order RX12 369 12 64 := ⟨RX12, TX12, 87, rfl, by decide, (fun w h9 => List.mem_cons_of_mem _ (wC_wsX120 w h9)), (List.mem_cons_of_mem _ wT_12_23)⟩
theorem gX12_order_X12_layOrder : GoodIn vX12_order (wsV RX12 453 RX12 yX12_layOrder vX12_layOrder) := gV_of wT_46_22 wT_46_23 wT_47_0 wT_1_5 wT_47_1
theorem lf12_order_433 : Fl vX12_order RX12 433 12 69 := ⟨RX12, TX12, 87, rfl, by decide, (fun w h9 => List.mem_cons_of_mem _ (wC_wsX120 w h9)), (List.mem_cons_of_mem _ wT_46_21)⟩
theorem lf12_order_118 : Fl vX12_order RX12 118 12 68 := ⟨RX12, TX12, 87, rfl, by decide, (fun w h9 => List.mem_cons_of_mem _ (wC_wsX120 w h9)), (List.mem_cons_of_mem _ wT_11_8)⟩
set_option maxHeartbeats 4000000 in
set_option maxRecDepth 100000 in
theorem T12_order_0 (S : CallFix p m c cX12_order 3 s args vX12_order RX12) (hr : meth.sig.returnType = (some .int)) (hlo : meth.locks = false) {out : Int32 × PH} {h : PH} {a0 : Nat} {x1 : Int32} {x2 : Int32} (f : F12_order_0  h a0 x1 x2 = some out) {H : Heap} {locs : List Loc} (I : ph_I D cy b A fl h s H locs) {ls : Array Slot} (hl : lv_has ls 3 [(0, .ref (b + a0)), (1, .int x1), (2, .int x2)]) : W p l e ({ frames := 9, cells := 0, slots := 0, locals := 218 } : Room) s m args below meth c H locs 0 0 (MQ below (va_Qi (fun (r : Int32) (u : PH) => (r, u) = out) (ph_B D cy b A fl) A) args s 0 0 A) (F0 m 0 ls []) := by
  unfold F12_order_0 at f
  refine lv_aload_n S.1 S.2.1 dX12_order_0 rfl (lv_at hl 0 rfl) ?_
  refine lv_iconst (v := 0) S.1 S.2.1 dX12_order_1 (by decide) ?_
  obtain ⟨h1, e2, f⟩ := ob f
  refine o_pI S lp12_order_154 I e2 dX12_order_2 (fun H locs I => ?_)
  refine lv_aload_n S.1 S.2.1 dX12_order_5 rfl (lv_at hl 0 rfl) ?_
  refine lv_iload_n S.1 S.2.1 dX12_order_6 rfl (lv_at hl 1 rfl) ?_
  obtain ⟨o3, e4, f⟩ := ob f
  refine o_Vi S (As := [.int x1]) (rest := []) (ci := 12) (M12_isToCome l D cy b A fl e4) gX12_order_X12_isToCome rfl rfl rfl cd12_isToCome ⟨Nat.le_of_ble_eq_true rfl, Nat.le_of_ble_eq_true rfl⟩ I (gd e4).1 clX12 rfl rfl hl.1 rfl (Nat.le_of_ble_eq_true rfl) dX12_order_7 ⟨Nat.le_of_ble_eq_true rfl, Nat.le_of_ble_eq_true rfl⟩ (fun H locs I => ?_)
  refine lv_if_eq (tgt := 17) S.1 S.2.1 dX12_order_10 (by decide) (fun q5 => ?_) (fun q5 => ?_)
  · have f := (if_pos q5).symm.trans f
    refine lv_iconst (v := (-1)) S.1 S.2.1 dX12_order_17 (by decide) ?_
    exact o_iret S hr hlo I f dX12_order_18
  · have f := (if_neg q5).symm.trans f
    refine lv_iload_n S.1 S.2.1 dX12_order_13 rfl (lv_at hl 2 rfl) ?_
    refine lv_if_ge (tgt := 19) S.1 S.2.1 dX12_order_14 (by decide) (fun q6 => ?_) (fun q6 => ?_)
    · have f := (if_pos q6).symm.trans f
      refine lv_aload_n S.1 S.2.1 dX12_order_19 rfl (lv_at hl 0 rfl) ?_
      refine lv_iconst (v := 0) S.1 S.2.1 dX12_order_20 (by decide) ?_
      refine lv_iload_n S.1 S.2.1 dX12_order_21 rfl (lv_at hl 1 rfl) ?_
      refine lv_aload_n S.1 S.2.1 dX12_order_22 rfl (lv_at hl 0 rfl) ?_
      obtain ⟨v7, e8, f⟩ := ob f
      refine o_gI S lf12_order_369 I e8 dX12_order_23 ?_
      obtain ⟨o9, e10, f⟩ := ob f
      refine o_Vv S (As := [.int 0, .int x1, .int v7]) (rest := []) (ci := 12) (M12_layOrder l D cy b A fl e10) gX12_order_X12_layOrder rfl rfl rfl cd12_layOrder ⟨Nat.le_of_ble_eq_true rfl, Nat.le_of_ble_eq_true rfl⟩ I (gd e10).1 clX12 rfl rfl hl.1 rfl (Nat.le_of_ble_eq_true rfl) dX12_order_26 ⟨Nat.le_of_ble_eq_true rfl, Nat.le_of_ble_eq_true rfl⟩ (fun H locs I => ?_)
      refine lv_iload_n S.1 S.2.1 dX12_order_29 rfl (lv_at hl 2 rfl) ?_
      refine lv_aload_n S.1 S.2.1 dX12_order_30 rfl (lv_at hl 0 rfl) ?_
      obtain ⟨v11, e12, f⟩ := ob f
      refine o_gI S lf12_order_433 I e12 dX12_order_31 ?_
      refine lv_icmp_lt (tgt := 42) S.1 S.2.1 dX12_order_34 (by decide) (fun q13 => ?_) (fun q13 => ?_)
      · have f := (if_pos q13).symm.trans f
        refine lv_aload_n S.1 S.2.1 dX12_order_42 rfl (lv_at hl 0 rfl) ?_
        obtain ⟨r14, e15, f⟩ := ob f
        refine o_gR S lf12_order_118 I e15 dX12_order_43 ?_
        refine lv_iload_n S.1 S.2.1 dX12_order_46 rfl (lv_at hl 2 rfl) ?_
        obtain ⟨v17, e16, f⟩ := ob f
        refine o_iald S I e16 dX12_order_47 ?_
        exact o_iret S hr hlo I f dX12_order_48
      · have f := (if_neg q13).symm.trans f
        refine lv_bipush (v := (-2)) S.1 S.2.1 dX12_order_37 (by decide) ?_
        refine lv_goto (tgt := 48) S.1 S.2.1 dX12_order_39 (by decide) ?_
        exact o_iret S hr hlo I f dX12_order_48
    · have f := (if_neg q6).symm.trans f
      refine lv_iconst (v := (-1)) S.1 S.2.1 dX12_order_17 (by decide) ?_
      exact o_iret S hr hlo I f dX12_order_18
theorem M12_order (l : Launch) (D : va_G) (cy : Nat → ClassId) (b : Nat) (A : Nat → Prop) (fl : Bool) {h : PH} {a0 : Nat} {x1 : Int32} {x2 : Int32} {out : Int32 × PH} (f : F12_order h a0 x1 x2 = some out) : Met l yX12_order vX12_order ({ frames := 9, cells := 0, slots := 0, locals := 218 } : Room) (va_Pc [.ref (b + a0), .int x1, .int x2] (ph_B D cy b A fl h)) (va_Qi (fun (r : Int32) (u : PH) => (r, u) = out) (ph_B D cy b A fl) A) 0 0 A :=
  o_met (by decide) rfl (Nat.le_of_ble_eq_true rfl) rfl (fun p e s m below meth c S hr hlo hnm ls hl I => T12_order_0 S hr hlo ((gd f).2) I (lv_sub hl [0, 1, 2] rfl))
def vX12_over : List Cond := .code yX12_over cX12_over 6 (some .int) :: TB
theorem lf12_over_24 : Fl vX12_over RX12 24 12 26 := ⟨RX12, TX12, 87, rfl, by decide, (fun w h9 => List.mem_cons_of_mem _ (wC_wsX120 w h9)), (List.mem_cons_of_mem _ wT_10_1)⟩
theorem lf12_over_88 : Fl vX12_over RX12 88 12 55 := ⟨RX12, TX12, 87, rfl, by decide, (fun w h9 => List.mem_cons_of_mem _ (wC_wsX120 w h9)), (List.mem_cons_of_mem _ wT_10_22)⟩
theorem gX12_over_X12_seatFrom : GoodIn vX12_over (wsV RX12 482 RX12 yX12_seatFrom vX12_seatFrom) := gV_of wT_50_1 wT_50_2 wT_50_3 wT_1_5 wT_50_4
theorem lp12_over_154 : Pl vX12_over RX12 154 12 2 .int := ⟨RX12, TX12, 87, tyX12, rfl, by decide, (fun w h9 => List.mem_cons_of_mem _ (wC_wsX120 w h9)), (List.mem_cons_of_mem _ wT_13_17), tyX12_ok, nmX12, rfl, rfl⟩
theorem gX12_over_X12_isSurfer : GoodIn vX12_over (wsV RX12 413 RX12 yX12_isSurfer vX12_isSurfer) := gV_of wT_34_14 wT_34_15 wT_34_16 wT_1_5 wT_34_17
theorem lf12_over_253 : Fl vX12_over RX12 253 12 16 := ⟨RX12, TX12, 87, rfl, by decide, (fun w h9 => List.mem_cons_of_mem _ (wC_wsX120 w h9)), (List.mem_cons_of_mem _ wT_12_14)⟩
theorem lf12_over_48 : Fl vX12_over RX12 48 12 34 := ⟨RX12, TX12, 87, rfl, by decide, (fun w h9 => List.mem_cons_of_mem _ (wC_wsX120 w h9)), (List.mem_cons_of_mem _ wT_10_9)⟩
theorem lf12_over_106 : Fl vX12_over RX12 106 12 61 := ⟨RX12, TX12, 87, rfl, by decide, (fun w h9 => List.mem_cons_of_mem _ (wC_wsX120 w h9)), (List.mem_cons_of_mem _ wT_11_4)⟩
set_option maxHeartbeats 4000000 in
set_option maxRecDepth 100000 in
theorem T12_over_87 (S : CallFix p m c cX12_over 6 s args vX12_over RX12) (hr : meth.sig.returnType = (some .int)) (hlo : meth.locks = false) {out : Int32 × PH} {k50 : PH → Nat → Int32 → Int32 → Int32 → Option (Int32 × PH)} (hk50 : ∀ {h : PH} {a0 : Nat} {x1 : Int32} {x2 : Int32} {x3 : Int32}, k50 h a0 x1 x2 x3 = some out → ∀ (H : Heap) (locs : List Loc), ph_I D cy b A fl h s H locs → ∀ (ls : Array Slot), lv_has ls 6 [(0, .ref (b + a0)), (1, .int x1), (2, .int x2), (3, .int x3)] → W p l e ({ frames := 9, cells := 0, slots := 0, locals := 217 } : Room) s m args below meth c H locs 0 0 (MQ below (va_Qi (fun (r : Int32) (u : PH) => (r, u) = out) (ph_B D cy b A fl) A) args s 0 0 A) (F0 m 50 ls [])) {h : PH} {a0 : Nat} {x1 : Int32} {x2 : Int32} {x3 : Int32} {s0 : Int32} (f : F12_over_87 k50 h a0 x1 x2 x3 s0 = some out) {H : Heap} {locs : List Loc} (I : ph_I D cy b A fl h s H locs) {ls : Array Slot} (hl : lv_has ls 6 [(0, .ref (b + a0)), (1, .int x1), (2, .int x2), (3, .int x3)]) : W p l e ({ frames := 9, cells := 0, slots := 0, locals := 217 } : Room) s m args below meth c H locs 0 0 (MQ below (va_Qi (fun (r : Int32) (u : PH) => (r, u) = out) (ph_B D cy b A fl) A) args s 0 0 A) (F0 m 87 ls [.int s0]) := by
  unfold F12_over_87 at f
  refine lv_istore (lv' := [(5, .int s0), (0, .ref (b + a0)), (1, .int x1), (2, .int x2), (3, .int x3)]) S.1 S.2.1 dX12_over_87 hl (by decide) rfl (fun ls hl => ?_)
  refine lv_bipush (v := 100) S.1 S.2.1 dX12_over_89 (by decide) ?_
  refine lv_aload_n S.1 S.2.1 dX12_over_91 rfl (lv_at hl 1 rfl) ?_
  obtain ⟨r1, e2, f⟩ := ob f
  refine o_gR S lf12_over_24 I e2 dX12_over_92 ?_
  refine lv_iconst (v := 4) S.1 S.2.1 dX12_over_95 (by decide) ?_
  obtain ⟨v4, e3, f⟩ := ob f
  refine o_iald S I e3 dX12_over_96 ?_
  refine lv_imul S.1 S.2.1 dX12_over_97 ?_
  refine lv_iload S.1 S.2.1 dX12_over_98 (lv_at hl 0 rfl) ?_
  refine lv_imul S.1 S.2.1 dX12_over_100 ?_
  refine lv_aload_n S.1 S.2.1 dX12_over_101 rfl (lv_at hl 1 rfl) ?_
  refine lv_iload_n S.1 S.2.1 dX12_over_102 rfl (lv_at hl 2 rfl) ?_
  refine lv_aload_n S.1 S.2.1 dX12_over_103 rfl (lv_at hl 1 rfl) ?_
  obtain ⟨r5, e6, f⟩ := ob f
  refine o_gR S lf12_over_88 I e6 dX12_over_104 ?_
  refine lv_iload_n S.1 S.2.1 dX12_over_107 rfl (lv_at hl 2 rfl) ?_
  obtain ⟨v8, e7, f⟩ := ob f
  refine o_iald S I e7 dX12_over_108 ?_
  refine lv_iload_n S.1 S.2.1 dX12_over_109 rfl (lv_at hl 4 rfl) ?_
  obtain ⟨o9, e10, f⟩ := ob f
  refine o_Vi S (As := [.int x1, .int v8, .int x3]) (rest := [.int ((100 * v4) * s0)]) (ci := 12) (M12_seatFrom l D cy b A fl e10) gX12_over_X12_seatFrom rfl rfl rfl cd12_seatFrom ⟨Nat.le_of_ble_eq_true rfl, Nat.le_of_ble_eq_true rfl⟩ I (gd e10).1 clX12 rfl rfl hl.1 rfl (Nat.le_of_ble_eq_true rfl) dX12_over_110 ⟨Nat.le_of_ble_eq_true rfl, Nat.le_of_ble_eq_true rfl⟩ (fun H locs I => ?_)
  refine lv_icmp_le (tgt := 118) S.1 S.2.1 dX12_over_113 (by decide) (fun q11 => ?_) (fun q11 => ?_)
  · have f := (if_pos q11).symm.trans f
    refine lv_iinc (v := (x3 + 1)) (lv' := [(3, .int (x3 + 1)), (5, .int s0), (0, .ref (b + a0)), (1, .int x1), (2, .int x2)]) S.1 S.2.1 dX12_over_118 hl (k := 4) rfl (congrArg (fun z => x3 + z) (by decide)) (by decide) rfl (fun ls hl => ?_)
    refine lv_goto (tgt := 50) S.1 S.2.1 dX12_over_121 (by decide) ?_
    exact hk50 f _ _ I _ (lv_sub hl [2, 3, 4, 0] rfl)
  · have f := (if_neg q11).symm.trans f
    refine lv_iload_n S.1 S.2.1 dX12_over_116 rfl (lv_at hl 4 rfl) ?_
    exact o_iret S hr hlo I f dX12_over_117
set_option maxHeartbeats 4000000 in
set_option maxRecDepth 100000 in
theorem T12_over_50 (S : CallFix p m c cX12_over 6 s args vX12_over RX12) (hr : meth.sig.returnType = (some .int)) (hlo : meth.locks = false) {out : Int32 × PH} : ∀ (n : Nat) {h : PH} {a0 : Nat} {x1 : Int32} {x2 : Int32} {x3 : Int32} (f : F12_over_50  n h a0 x1 x2 x3 = some out) {H : Heap} {locs : List Loc} (I : ph_I D cy b A fl h s H locs) {ls : Array Slot} (hl : lv_has ls 6 [(0, .ref (b + a0)), (1, .int x1), (2, .int x2), (3, .int x3)]), W p l e ({ frames := 9, cells := 0, slots := 0, locals := 217 } : Room) s m args below meth c H locs 0 0 (MQ below (va_Qi (fun (r : Int32) (u : PH) => (r, u) = out) (ph_B D cy b A fl) A) args s 0 0 A) (F0 m 50 ls []) := by
  intro n
  induction n with
  | zero => intro h a0 x1 x2 x3 f; rw [F12_over_50] at f; cases f
  | succ n ih =>
    intro h a0 x1 x2 x3 f H locs I ls hl
    rw [F12_over_50] at f
    refine lv_iload_n S.1 S.2.1 dX12_over_50 rfl (lv_at hl 3 rfl) ?_
    refine lv_iload_n S.1 S.2.1 dX12_over_51 rfl (lv_at hl 2 rfl) ?_
    refine lv_icmp_gt (tgt := 124) S.1 S.2.1 dX12_over_52 (by decide) (fun q1 => ?_) (fun q1 => ?_)
    · have f := (if_pos q1).symm.trans f
      refine lv_bipush (v := (-2)) S.1 S.2.1 dX12_over_124 (by decide) ?_
      exact o_iret S hr hlo I f dX12_over_126
    · have f := (if_neg q1).symm.trans f
      refine lv_iload_n S.1 S.2.1 dX12_over_55 rfl (lv_at hl 2 rfl) ?_
      refine lv_iload_n S.1 S.2.1 dX12_over_56 rfl (lv_at hl 3 rfl) ?_
      refine lv_isub S.1 S.2.1 dX12_over_57 ?_
      refine lv_aload_n S.1 S.2.1 dX12_over_58 rfl (lv_at hl 0 rfl) ?_
      obtain ⟨r2, e3, f⟩ := ob f
      refine o_gR S lf12_over_24 I e3 dX12_over_59 ?_
      refine lv_iconst (v := 2) S.1 S.2.1 dX12_over_62 (by decide) ?_
      obtain ⟨v5, e4, f⟩ := ob f
      refine o_iald S I e4 dX12_over_63 ?_
      refine lv_isub S.1 S.2.1 dX12_over_64 ?_
      refine lv_istore (lv' := [(4, .int ((x2 - x3) - v5)), (0, .ref (b + a0)), (1, .int x1), (2, .int x2), (3, .int x3)]) S.1 S.2.1 dX12_over_65 hl (by decide) rfl (fun ls hl => ?_)
      refine lv_iload S.1 S.2.1 dX12_over_67 (lv_at hl 0 rfl) ?_
      refine lv_if_ge (tgt := 76) S.1 S.2.1 dX12_over_69 (by decide) (fun q6 => ?_) (fun q6 => ?_)
      · have f := (if_pos q6).symm.trans f
        refine lv_iload S.1 S.2.1 dX12_over_76 (lv_at hl 0 rfl) ?_
        refine lv_aload_n S.1 S.2.1 dX12_over_78 rfl (lv_at hl 1 rfl) ?_
        obtain ⟨r7, e8, f⟩ := ob f
        refine o_gR S lf12_over_24 I e8 dX12_over_79 ?_
        refine lv_iconst (v := 3) S.1 S.2.1 dX12_over_82 (by decide) ?_
        obtain ⟨v10, e9, f⟩ := ob f
        refine o_iald S I e9 dX12_over_83 ?_
        have q11 : ¬ v10 = 0 := fun q => by rw [if_pos q] at f; cases f
        have f := (if_neg q11).symm.trans f
        refine lv_idiv S.1 S.2.1 dX12_over_84 q11 ?_
        refine lv_iconst (v := 1) S.1 S.2.1 dX12_over_85 (by decide) ?_
        refine lv_iadd S.1 S.2.1 dX12_over_86 ?_
        exact T12_over_87 S hr hlo (fun f _ _ I _ hl => ih f I hl) f I (lv_sub hl [1, 2, 3, 4] rfl)
      · have f := (if_neg q6).symm.trans f
        refine lv_iconst (v := 0) S.1 S.2.1 dX12_over_72 (by decide) ?_
        refine lv_goto (tgt := 87) S.1 S.2.1 dX12_over_73 (by decide) ?_
        exact T12_over_87 S hr hlo (fun f _ _ I _ hl => ih f I hl) f I (lv_sub hl [1, 2, 3, 4] rfl)
set_option maxHeartbeats 4000000 in
set_option maxRecDepth 100000 in
theorem T12_over_0 (S : CallFix p m c cX12_over 6 s args vX12_over RX12) (hr : meth.sig.returnType = (some .int)) (hlo : meth.locks = false) {out : Int32 × PH} {h : PH} {a0 : Nat} {x1 : Int32} (f : F12_over_0  h a0 x1 = some out) {H : Heap} {locs : List Loc} (I : ph_I D cy b A fl h s H locs) {ls : Array Slot} (hl : lv_has ls 6 [(0, .ref (b + a0)), (1, .int x1)]) : W p l e ({ frames := 9, cells := 0, slots := 0, locals := 217 } : Room) s m args below meth c H locs 0 0 (MQ below (va_Qi (fun (r : Int32) (u : PH) => (r, u) = out) (ph_B D cy b A fl) A) args s 0 0 A) (F0 m 0 ls []) := by
  unfold F12_over_0 at f
  refine lv_aload_n S.1 S.2.1 dX12_over_0 rfl (lv_at hl 0 rfl) ?_
  refine lv_iconst (v := 0) S.1 S.2.1 dX12_over_1 (by decide) ?_
  obtain ⟨h1, e2, f⟩ := ob f
  refine o_pI S lp12_over_154 I e2 dX12_over_2 (fun H locs I => ?_)
  refine lv_aload_n S.1 S.2.1 dX12_over_5 rfl (lv_at hl 0 rfl) ?_
  refine lv_iload_n S.1 S.2.1 dX12_over_6 rfl (lv_at hl 1 rfl) ?_
  obtain ⟨o3, e4, f⟩ := ob f
  refine o_Vi S (As := [.int x1]) (rest := []) (ci := 12) (M12_isSurfer l D cy b A fl e4) gX12_over_X12_isSurfer rfl rfl rfl cd12_isSurfer ⟨Nat.le_of_ble_eq_true rfl, Nat.le_of_ble_eq_true rfl⟩ I (gd e4).1 clX12 rfl rfl hl.1 rfl (Nat.le_of_ble_eq_true rfl) dX12_over_7 ⟨Nat.le_of_ble_eq_true rfl, Nat.le_of_ble_eq_true rfl⟩ (fun H locs I => ?_)
  refine lv_if_eq (tgt := 29) S.1 S.2.1 dX12_over_10 (by decide) (fun q5 => ?_) (fun q5 => ?_)
  · have f := (if_pos q5).symm.trans f
    refine lv_iconst (v := (-1)) S.1 S.2.1 dX12_over_29 (by decide) ?_
    exact o_iret S hr hlo I f dX12_over_30
  · have f := (if_neg q5).symm.trans f
    refine lv_aload_n S.1 S.2.1 dX12_over_13 rfl (lv_at hl 0 rfl) ?_
    obtain ⟨r6, e7, f⟩ := ob f
    refine o_gR S lf12_over_24 I e7 dX12_over_14 ?_
    refine lv_iconst (v := 2) S.1 S.2.1 dX12_over_17 (by decide) ?_
    obtain ⟨v9, e8, f⟩ := ob f
    refine o_iald S I e8 dX12_over_18 ?_
    refine lv_if_eq (tgt := 29) S.1 S.2.1 dX12_over_19 (by decide) (fun q10 => ?_) (fun q10 => ?_)
    · have f := (if_pos q10).symm.trans f
      refine lv_iconst (v := (-1)) S.1 S.2.1 dX12_over_29 (by decide) ?_
      exact o_iret S hr hlo I f dX12_over_30
    · have f := (if_neg q10).symm.trans f
      refine lv_aload_n S.1 S.2.1 dX12_over_22 rfl (lv_at hl 0 rfl) ?_
      obtain ⟨v11, e12, f⟩ := ob f
      refine o_gI S lf12_over_253 I e12 dX12_over_23 ?_
      refine lv_if_ne (tgt := 31) S.1 S.2.1 dX12_over_26 (by decide) (fun q13 => ?_) (fun q13 => ?_)
      · have f := (if_neg q13).symm.trans f
        refine lv_aload_n S.1 S.2.1 dX12_over_31 rfl (lv_at hl 0 rfl) ?_
        obtain ⟨r14, e15, f⟩ := ob f
        refine o_gR S lf12_over_48 I e15 dX12_over_32 ?_
        refine lv_aload_n S.1 S.2.1 dX12_over_35 rfl (lv_at hl 0 rfl) ?_
        obtain ⟨v16, e17, f⟩ := ob f
        refine o_gI S lf12_over_253 I e17 dX12_over_36 ?_
        refine lv_iconst (v := 1) S.1 S.2.1 dX12_over_39 (by decide) ?_
        refine lv_isub S.1 S.2.1 dX12_over_40 ?_
        obtain ⟨v19, e18, f⟩ := ob f
        refine o_iald S I e18 dX12_over_41 ?_
        refine lv_istore_n (lv' := [(2, .int v19), (0, .ref (b + a0)), (1, .int x1)]) S.1 S.2.1 dX12_over_42 rfl hl (by decide) rfl (fun ls hl => ?_)
        refine lv_aload_n S.1 S.2.1 dX12_over_43 rfl (lv_at hl 1 rfl) ?_
        obtain ⟨r20, e21, f⟩ := ob f
        refine o_gR S lf12_over_106 I e21 dX12_over_44 ?_
        refine lv_iconst (v := 0) S.1 S.2.1 dX12_over_47 (by decide) ?_
        obtain ⟨v23, e22, f⟩ := ob f
        refine o_iald S I e22 dX12_over_48 ?_
        refine lv_istore_n (lv' := [(3, .int v23), (2, .int v19), (0, .ref (b + a0)), (1, .int x1)]) S.1 S.2.1 dX12_over_49 rfl hl (by decide) rfl (fun ls hl => ?_)
        exact T12_over_50 S hr hlo  1024 f I (lv_sub hl [2, 3, 1, 0] rfl)
      · have f := (if_pos q13).symm.trans f
        refine lv_iconst (v := (-1)) S.1 S.2.1 dX12_over_29 (by decide) ?_
        exact o_iret S hr hlo I f dX12_over_30
theorem M12_over (l : Launch) (D : va_G) (cy : Nat → ClassId) (b : Nat) (A : Nat → Prop) (fl : Bool) {h : PH} {a0 : Nat} {x1 : Int32} {out : Int32 × PH} (f : F12_over h a0 x1 = some out) : Met l yX12_over vX12_over ({ frames := 9, cells := 0, slots := 0, locals := 217 } : Room) (va_Pc [.ref (b + a0), .int x1] (ph_B D cy b A fl h)) (va_Qi (fun (r : Int32) (u : PH) => (r, u) = out) (ph_B D cy b A fl) A) 0 0 A :=
  o_met (by decide) rfl (Nat.le_of_ble_eq_true rfl) rfl (fun p e s m below meth c S hr hlo hnm ls hl I => T12_over_0 S hr hlo ((gd f).2) I (lv_sub hl [0, 1] rfl))
def vX12_peak : List Cond := .code yX12_peak cX12_peak 2 (some .int) :: TB
theorem lp12_peak_154 : Pl vX12_peak RX12 154 12 2 .int := ⟨RX12, TX12, 87, tyX12, rfl, by decide, (fun w h9 => List.mem_cons_of_mem _ (wC_wsX120 w h9)), (List.mem_cons_of_mem _ wT_13_17), tyX12_ok, nmX12, rfl, rfl⟩
theorem gX12_peak_X12_isIn : GoodIn vX12_peak (va_wsS RX12 199 yX12_isIn vX12_isIn) := gS_of wT_28_17 wT_28_18 wT_1_5 wT_28_19
theorem gX12_peak_X12_peakAt : GoodIn vX12_peak (wsV RX12 400 RX12 yX12_peakAt vX12_peakAt) := gV_of wT_34_22 wT_34_23 wT_35_0 wT_1_5 wT_35_1
set_option maxHeartbeats 4000000 in
set_option maxRecDepth 100000 in
theorem T12_peak_0 (S : CallFix p m c cX12_peak 2 s args vX12_peak RX12) (hr : meth.sig.returnType = (some .int)) (hlo : meth.locks = false) {out : Int32 × PH} {h : PH} {a0 : Nat} {x1 : Int32} (f : F12_peak_0  h a0 x1 = some out) {H : Heap} {locs : List Loc} (I : ph_I D cy b A fl h s H locs) {ls : Array Slot} (hl : lv_has ls 2 [(0, .ref (b + a0)), (1, .int x1)]) : W p l e ({ frames := 5, cells := 0, slots := 0, locals := 120 } : Room) s m args below meth c H locs 0 0 (MQ below (va_Qi (fun (r : Int32) (u : PH) => (r, u) = out) (ph_B D cy b A fl) A) args s 0 0 A) (F0 m 0 ls []) := by
  unfold F12_peak_0 at f
  refine lv_aload_n S.1 S.2.1 dX12_peak_0 rfl (lv_at hl 0 rfl) ?_
  refine lv_iconst (v := 0) S.1 S.2.1 dX12_peak_1 (by decide) ?_
  obtain ⟨h1, e2, f⟩ := ob f
  refine o_pI S lp12_peak_154 I e2 dX12_peak_2 (fun H locs I => ?_)
  refine lv_iload_n S.1 S.2.1 dX12_peak_5 rfl (lv_at hl 1 rfl) ?_
  refine lv_iconst (v := 0) S.1 S.2.1 dX12_peak_6 (by decide) ?_
  refine lv_sipush (v := 199) S.1 S.2.1 dX12_peak_7 (by decide) ?_
  obtain ⟨o3, e4, f⟩ := ob f
  refine o_Si S (As := [.int x1, .int 0, .int 199]) (rest := []) (M12_isIn l D cy b A fl e4) gX12_peak_X12_isIn rfl rfl rfl cd12_isIn ⟨Nat.le_of_ble_eq_true rfl, Nat.le_of_ble_eq_true rfl⟩ I rfl hl.1 rfl (Nat.le_of_ble_eq_true rfl) dX12_peak_10 ⟨Nat.le_of_ble_eq_true rfl, Nat.le_of_ble_eq_true rfl⟩ (fun H locs I => ?_)
  refine lv_if_eq (tgt := 24) S.1 S.2.1 dX12_peak_13 (by decide) (fun q5 => ?_) (fun q5 => ?_)
  · have f := (if_pos q5).symm.trans f
    refine lv_iconst (v := (-1)) S.1 S.2.1 dX12_peak_24 (by decide) ?_
    exact o_iret S hr hlo I f dX12_peak_25
  · have f := (if_neg q5).symm.trans f
    refine lv_aload_n S.1 S.2.1 dX12_peak_16 rfl (lv_at hl 0 rfl) ?_
    refine lv_iload_n S.1 S.2.1 dX12_peak_17 rfl (lv_at hl 1 rfl) ?_
    obtain ⟨o6, e7, f⟩ := ob f
    refine o_Vi S (As := [.int x1]) (rest := []) (ci := 12) (M12_peakAt l D cy b A fl e7) gX12_peak_X12_peakAt rfl rfl rfl cd12_peakAt ⟨Nat.le_of_ble_eq_true rfl, Nat.le_of_ble_eq_true rfl⟩ I (gd e7).1 clX12 rfl rfl hl.1 rfl (Nat.le_of_ble_eq_true rfl) dX12_peak_18 ⟨Nat.le_of_ble_eq_true rfl, Nat.le_of_ble_eq_true rfl⟩ (fun H locs I => ?_)
    refine lv_goto (tgt := 25) S.1 S.2.1 dX12_peak_21 (by decide) ?_
    exact o_iret S hr hlo I f dX12_peak_25
theorem M12_peak (l : Launch) (D : va_G) (cy : Nat → ClassId) (b : Nat) (A : Nat → Prop) (fl : Bool) {h : PH} {a0 : Nat} {x1 : Int32} {out : Int32 × PH} (f : F12_peak h a0 x1 = some out) : Met l yX12_peak vX12_peak ({ frames := 5, cells := 0, slots := 0, locals := 120 } : Room) (va_Pc [.ref (b + a0), .int x1] (ph_B D cy b A fl h)) (va_Qi (fun (r : Int32) (u : PH) => (r, u) = out) (ph_B D cy b A fl) A) 0 0 A :=
  o_met (by decide) rfl (Nat.le_of_ble_eq_true rfl) rfl (fun p e s m below meth c S hr hlo hnm ls hl I => T12_peak_0 S hr hlo ((gd f).2) I (lv_sub hl [0, 1] rfl))
def vX12_plan : List Cond := .code yX12_plan cX12_plan 2 (some .int) :: TB
theorem lp12_plan_154 : Pl vX12_plan RX12 154 12 2 .int := ⟨RX12, TX12, 87, tyX12, rfl, by decide, (fun w h9 => List.mem_cons_of_mem _ (wC_wsX120 w h9)), (List.mem_cons_of_mem _ wT_13_17), tyX12_ok, nmX12, rfl, rfl⟩
theorem gX12_plan_X12_isSurfer : GoodIn vX12_plan (wsV RX12 413 RX12 yX12_isSurfer vX12_isSurfer) := gV_of wT_34_14 wT_34_15 wT_34_16 wT_1_5 wT_34_17
theorem gX12_plan_X12_layPlan : GoodIn vX12_plan (wsV RX12 503 RX12 yX12_layPlan vX12_layPlan) := gV_of wT_55_7 wT_55_8 wT_55_9 wT_1_5 wT_55_10
theorem lf12_plan_127 : Fl vX12_plan RX12 127 12 72 := ⟨RX12, TX12, 87, rfl, by decide, (fun w h9 => List.mem_cons_of_mem _ (wC_wsX120 w h9)), (List.mem_cons_of_mem _ wT_11_11)⟩
theorem gX12_plan_X12_firstToCome : GoodIn vX12_plan (wsV RX12 506 RX12 yX12_firstToCome vX12_firstToCome) := gV_of wT_55_11 wT_55_12 wT_55_13 wT_1_5 wT_55_14
set_option maxHeartbeats 4000000 in
set_option maxRecDepth 100000 in
theorem T12_plan_0 (S : CallFix p m c cX12_plan 2 s args vX12_plan RX12) (hr : meth.sig.returnType = (some .int)) (hlo : meth.locks = false) {out : Int32 × PH} {h : PH} {a0 : Nat} {x1 : Int32} (f : F12_plan_0  h a0 x1 = some out) {H : Heap} {locs : List Loc} (I : ph_I D cy b A fl h s H locs) {ls : Array Slot} (hl : lv_has ls 2 [(0, .ref (b + a0)), (1, .int x1)]) : W p l e ({ frames := 9, cells := 0, slots := 0, locals := 217 } : Room) s m args below meth c H locs 0 0 (MQ below (va_Qi (fun (r : Int32) (u : PH) => (r, u) = out) (ph_B D cy b A fl) A) args s 0 0 A) (F0 m 0 ls []) := by
  unfold F12_plan_0 at f
  refine lv_aload_n S.1 S.2.1 dX12_plan_0 rfl (lv_at hl 0 rfl) ?_
  refine lv_iconst (v := 0) S.1 S.2.1 dX12_plan_1 (by decide) ?_
  obtain ⟨h1, e2, f⟩ := ob f
  refine o_pI S lp12_plan_154 I e2 dX12_plan_2 (fun H locs I => ?_)
  refine lv_aload_n S.1 S.2.1 dX12_plan_5 rfl (lv_at hl 0 rfl) ?_
  refine lv_iload_n S.1 S.2.1 dX12_plan_6 rfl (lv_at hl 1 rfl) ?_
  obtain ⟨o3, e4, f⟩ := ob f
  refine o_Vi S (As := [.int x1]) (rest := []) (ci := 12) (M12_isSurfer l D cy b A fl e4) gX12_plan_X12_isSurfer rfl rfl rfl cd12_isSurfer ⟨Nat.le_of_ble_eq_true rfl, Nat.le_of_ble_eq_true rfl⟩ I (gd e4).1 clX12 rfl rfl hl.1 rfl (Nat.le_of_ble_eq_true rfl) dX12_plan_7 ⟨Nat.le_of_ble_eq_true rfl, Nat.le_of_ble_eq_true rfl⟩ (fun H locs I => ?_)
  refine lv_if_ne (tgt := 15) S.1 S.2.1 dX12_plan_10 (by decide) (fun q5 => ?_) (fun q5 => ?_)
  · have f := (if_neg q5).symm.trans f
    refine lv_aload_n S.1 S.2.1 dX12_plan_15 rfl (lv_at hl 0 rfl) ?_
    refine lv_iload_n S.1 S.2.1 dX12_plan_16 rfl (lv_at hl 1 rfl) ?_
    obtain ⟨o6, e7, f⟩ := ob f
    refine o_Vv S (As := [.int x1]) (rest := []) (ci := 12) (M12_layPlan l D cy b A fl e7) gX12_plan_X12_layPlan rfl rfl rfl cd12_layPlan ⟨Nat.le_of_ble_eq_true rfl, Nat.le_of_ble_eq_true rfl⟩ I (gd e7).1 clX12 rfl rfl hl.1 rfl (Nat.le_of_ble_eq_true rfl) dX12_plan_17 ⟨Nat.le_of_ble_eq_true rfl, Nat.le_of_ble_eq_true rfl⟩ (fun H locs I => ?_)
    refine lv_aload_n S.1 S.2.1 dX12_plan_20 rfl (lv_at hl 0 rfl) ?_
    obtain ⟨r8, e9, f⟩ := ob f
    refine o_gR S lf12_plan_127 I e9 dX12_plan_21 ?_
    refine lv_aload_n S.1 S.2.1 dX12_plan_24 rfl (lv_at hl 0 rfl) ?_
    obtain ⟨o10, e11, f⟩ := ob f
    refine o_Vi S (As := []) (rest := [.ref (b + r8)]) (ci := 12) (M12_firstToCome l D cy b A fl e11) gX12_plan_X12_firstToCome rfl rfl rfl cd12_firstToCome ⟨Nat.le_of_ble_eq_true rfl, Nat.le_of_ble_eq_true rfl⟩ I (gd e11).1 clX12 rfl rfl hl.1 rfl (Nat.le_of_ble_eq_true rfl) dX12_plan_25 ⟨Nat.le_of_ble_eq_true rfl, Nat.le_of_ble_eq_true rfl⟩ (fun H locs I => ?_)
    obtain ⟨v13, e12, f⟩ := ob f
    refine o_iald S I e12 dX12_plan_28 ?_
    exact o_iret S hr hlo I f dX12_plan_29
  · have f := (if_pos q5).symm.trans f
    refine lv_iconst (v := (-1)) S.1 S.2.1 dX12_plan_13 (by decide) ?_
    exact o_iret S hr hlo I f dX12_plan_14
theorem M12_plan (l : Launch) (D : va_G) (cy : Nat → ClassId) (b : Nat) (A : Nat → Prop) (fl : Bool) {h : PH} {a0 : Nat} {x1 : Int32} {out : Int32 × PH} (f : F12_plan h a0 x1 = some out) : Met l yX12_plan vX12_plan ({ frames := 9, cells := 0, slots := 0, locals := 217 } : Room) (va_Pc [.ref (b + a0), .int x1] (ph_B D cy b A fl h)) (va_Qi (fun (r : Int32) (u : PH) => (r, u) = out) (ph_B D cy b A fl) A) 0 0 A :=
  o_met (by decide) rfl (Nat.le_of_ble_eq_true rfl) rfl (fun p e s m below meth c S hr hlo hnm ls hl I => T12_plan_0 S hr hlo ((gd f).2) I (lv_sub hl [0, 1] rfl))
def vX12_planned : List Cond := .code yX12_planned cX12_planned 6 (some .int) :: TB
theorem lf12_planned_130 : Fl vX12_planned RX12 130 12 73 := ⟨RX12, TX12, 87, rfl, by decide, (fun w h9 => List.mem_cons_of_mem _ (wC_wsX120 w h9)), (List.mem_cons_of_mem _ wT_11_12)⟩
theorem lf12_planned_253 : Fl vX12_planned RX12 253 12 16 := ⟨RX12, TX12, 87, rfl, by decide, (fun w h9 => List.mem_cons_of_mem _ (wC_wsX120 w h9)), (List.mem_cons_of_mem _ wT_12_14)⟩
theorem lf12_planned_88 : Fl vX12_planned RX12 88 12 55 := ⟨RX12, TX12, 87, rfl, by decide, (fun w h9 => List.mem_cons_of_mem _ (wC_wsX120 w h9)), (List.mem_cons_of_mem _ wT_10_22)⟩
theorem gX12_planned_X12_gainOf : GoodIn vX12_planned (wsV RX12 479 RX12 yX12_gainOf vX12_gainOf) := gV_of wT_50_5 wT_50_6 wT_50_7 wT_1_5 wT_50_8
theorem lf12_planned_127 : Fl vX12_planned RX12 127 12 72 := ⟨RX12, TX12, 87, rfl, by decide, (fun w h9 => List.mem_cons_of_mem _ (wC_wsX120 w h9)), (List.mem_cons_of_mem _ wT_11_11)⟩
theorem lp12_planned_154 : Pl vX12_planned RX12 154 12 2 .int := ⟨RX12, TX12, 87, tyX12, rfl, by decide, (fun w h9 => List.mem_cons_of_mem _ (wC_wsX120 w h9)), (List.mem_cons_of_mem _ wT_13_17), tyX12_ok, nmX12, rfl, rfl⟩
theorem gX12_planned_X12_isSurfer : GoodIn vX12_planned (wsV RX12 413 RX12 yX12_isSurfer vX12_isSurfer) := gV_of wT_34_14 wT_34_15 wT_34_16 wT_1_5 wT_34_17
theorem gX12_planned_X12_layPlan : GoodIn vX12_planned (wsV RX12 503 RX12 yX12_layPlan vX12_layPlan) := gV_of wT_55_7 wT_55_8 wT_55_9 wT_1_5 wT_55_10
theorem gX12_planned_X12_firstToCome : GoodIn vX12_planned (wsV RX12 506 RX12 yX12_firstToCome vX12_firstToCome) := gV_of wT_55_11 wT_55_12 wT_55_13 wT_1_5 wT_55_14
set_option maxHeartbeats 4000000 in
set_option maxRecDepth 100000 in
theorem T12_planned_109 (S : CallFix p m c cX12_planned 6 s args vX12_planned RX12) (hr : meth.sig.returnType = (some .int)) (hlo : meth.locks = false) {out : Int32 × PH} {k32 : PH → Nat → Int32 → Int32 → Int32 → Option (Int32 × PH)} (hk32 : ∀ {h : PH} {a0 : Nat} {x1 : Int32} {x3 : Int32} {x4 : Int32}, k32 h a0 x1 x3 x4 = some out → ∀ (H : Heap) (locs : List Loc), ph_I D cy b A fl h s H locs → ∀ (ls : Array Slot), lv_has ls 6 [(0, .ref (b + a0)), (1, .int x1), (3, .int x3), (4, .int x4)] → W p l e ({ frames := 9, cells := 0, slots := 0, locals := 217 } : Room) s m args below meth c H locs 0 0 (MQ below (va_Qi (fun (r : Int32) (u : PH) => (r, u) = out) (ph_B D cy b A fl) A) args s 0 0 A) (F0 m 32 ls [])) {h : PH} {a0 : Nat} {x1 : Int32} {x4 : Int32} {x5 : Int32} {s0 : Int32} {s1 : Int32} (f : F12_planned_109 k32 h a0 x1 x4 x5 s0 s1 = some out) {H : Heap} {locs : List Loc} (I : ph_I D cy b A fl h s H locs) {ls : Array Slot} (hl : lv_has ls 6 [(0, .ref (b + a0)), (1, .int x1), (4, .int x4), (5, .int x5)]) : W p l e ({ frames := 9, cells := 0, slots := 0, locals := 217 } : Room) s m args below meth c H locs 0 0 (MQ below (va_Qi (fun (r : Int32) (u : PH) => (r, u) = out) (ph_B D cy b A fl) A) args s 0 0 A) (F0 m 109 ls [.int s0, .int s1]) := by
  unfold F12_planned_109 at f
  refine lv_isub S.1 S.2.1 dX12_planned_109 ?_
  refine lv_istore_n (lv' := [(3, .int (s1 - s0)), (0, .ref (b + a0)), (1, .int x1), (4, .int x4), (5, .int x5)]) S.1 S.2.1 dX12_planned_110 rfl hl (by decide) rfl (fun ls hl => ?_)
  refine lv_iload S.1 S.2.1 dX12_planned_111 (lv_at hl 4 rfl) ?_
  refine lv_if_eq (tgt := 126) S.1 S.2.1 dX12_planned_113 (by decide) (fun q1 => ?_) (fun q1 => ?_)
  · have f := (if_pos q1).symm.trans f
    refine lv_iload S.1 S.2.1 dX12_planned_126 (lv_at hl 3 rfl) ?_
    refine lv_iconst (v := 1) S.1 S.2.1 dX12_planned_128 (by decide) ?_
    refine lv_iadd S.1 S.2.1 dX12_planned_129 ?_
    refine lv_istore (lv' := [(4, .int (x4 + 1)), (3, .int (s1 - s0)), (0, .ref (b + a0)), (1, .int x1), (5, .int x5)]) S.1 S.2.1 dX12_planned_130 hl (by decide) rfl (fun ls hl => ?_)
    refine lv_goto (tgt := 32) S.1 S.2.1 dX12_planned_132 (by decide) ?_
    exact hk32 f _ _ I _ (lv_sub hl [2, 3, 1, 0] rfl)
  · have f := (if_neg q1).symm.trans f
    refine lv_aload_n S.1 S.2.1 dX12_planned_116 rfl (lv_at hl 1 rfl) ?_
    obtain ⟨r2, e3, f⟩ := ob f
    refine o_gR S lf12_planned_130 I e3 dX12_planned_117 ?_
    refine lv_iload S.1 S.2.1 dX12_planned_120 (lv_at hl 3 rfl) ?_
    obtain ⟨v5, e4, f⟩ := ob f
    refine o_iald S I e4 dX12_planned_122 ?_
    refine lv_goto (tgt := 130) S.1 S.2.1 dX12_planned_123 (by decide) ?_
    refine lv_istore (lv' := [(4, .int v5), (3, .int (s1 - s0)), (0, .ref (b + a0)), (1, .int x1), (5, .int x5)]) S.1 S.2.1 dX12_planned_130 hl (by decide) rfl (fun ls hl => ?_)
    refine lv_goto (tgt := 32) S.1 S.2.1 dX12_planned_132 (by decide) ?_
    exact hk32 f _ _ I _ (lv_sub hl [2, 3, 1, 0] rfl)
set_option maxHeartbeats 4000000 in
set_option maxRecDepth 100000 in
theorem T12_planned_98 (S : CallFix p m c cX12_planned 6 s args vX12_planned RX12) (hr : meth.sig.returnType = (some .int)) (hlo : meth.locks = false) {out : Int32 × PH} {k32 : PH → Nat → Int32 → Int32 → Int32 → Option (Int32 × PH)} (hk32 : ∀ {h : PH} {a0 : Nat} {x1 : Int32} {x3 : Int32} {x4 : Int32}, k32 h a0 x1 x3 x4 = some out → ∀ (H : Heap) (locs : List Loc), ph_I D cy b A fl h s H locs → ∀ (ls : Array Slot), lv_has ls 6 [(0, .ref (b + a0)), (1, .int x1), (3, .int x3), (4, .int x4)] → W p l e ({ frames := 9, cells := 0, slots := 0, locals := 217 } : Room) s m args below meth c H locs 0 0 (MQ below (va_Qi (fun (r : Int32) (u : PH) => (r, u) = out) (ph_B D cy b A fl) A) args s 0 0 A) (F0 m 32 ls [])) {h : PH} {a0 : Nat} {x1 : Int32} {x3 : Int32} {x4 : Int32} {x5 : Int32} (f : F12_planned_98 k32 h a0 x1 x3 x4 x5 = some out) {H : Heap} {locs : List Loc} (I : ph_I D cy b A fl h s H locs) {ls : Array Slot} (hl : lv_has ls 6 [(0, .ref (b + a0)), (1, .int x1), (3, .int x3), (4, .int x4), (5, .int x5)]) : W p l e ({ frames := 9, cells := 0, slots := 0, locals := 217 } : Room) s m args below meth c H locs 0 0 (MQ below (va_Qi (fun (r : Int32) (u : PH) => (r, u) = out) (ph_B D cy b A fl) A) args s 0 0 A) (F0 m 98 ls []) := by
  unfold F12_planned_98 at f
  refine lv_iload_n S.1 S.2.1 dX12_planned_98 rfl (lv_at hl 2 rfl) ?_
  refine lv_iload S.1 S.2.1 dX12_planned_99 (lv_at hl 4 rfl) ?_
  refine lv_if_eq (tgt := 108) S.1 S.2.1 dX12_planned_101 (by decide) (fun q1 => ?_) (fun q1 => ?_)
  · have f := (if_pos q1).symm.trans f
    refine lv_iconst (v := 0) S.1 S.2.1 dX12_planned_108 (by decide) ?_
    exact T12_planned_109 S hr hlo (fun f _ _ I _ hl => hk32 f _ _ I _ hl) f I (lv_sub hl [0, 1, 3, 4] rfl)
  · have f := (if_neg q1).symm.trans f
    refine lv_iconst (v := 1) S.1 S.2.1 dX12_planned_104 (by decide) ?_
    refine lv_goto (tgt := 109) S.1 S.2.1 dX12_planned_105 (by decide) ?_
    exact T12_planned_109 S hr hlo (fun f _ _ I _ hl => hk32 f _ _ I _ hl) f I (lv_sub hl [0, 1, 3, 4] rfl)
set_option maxHeartbeats 4000000 in
set_option maxRecDepth 100000 in
theorem T12_planned_84 (S : CallFix p m c cX12_planned 6 s args vX12_planned RX12) (hr : meth.sig.returnType = (some .int)) (hlo : meth.locks = false) {out : Int32 × PH} {k32 : PH → Nat → Int32 → Int32 → Int32 → Option (Int32 × PH)} (hk32 : ∀ {h : PH} {a0 : Nat} {x1 : Int32} {x3 : Int32} {x4 : Int32}, k32 h a0 x1 x3 x4 = some out → ∀ (H : Heap) (locs : List Loc), ph_I D cy b A fl h s H locs → ∀ (ls : Array Slot), lv_has ls 6 [(0, .ref (b + a0)), (1, .int x1), (3, .int x3), (4, .int x4)] → W p l e ({ frames := 9, cells := 0, slots := 0, locals := 217 } : Room) s m args below meth c H locs 0 0 (MQ below (va_Qi (fun (r : Int32) (u : PH) => (r, u) = out) (ph_B D cy b A fl) A) args s 0 0 A) (F0 m 32 ls [])) {h : PH} {a0 : Nat} {x1 : Int32} {x3 : Int32} {x4 : Int32} {s0 : Int32} (f : F12_planned_84 k32 h a0 x1 x3 x4 s0 = some out) {H : Heap} {locs : List Loc} (I : ph_I D cy b A fl h s H locs) {ls : Array Slot} (hl : lv_has ls 6 [(0, .ref (b + a0)), (1, .int x1), (3, .int x3), (4, .int x4)]) : W p l e ({ frames := 9, cells := 0, slots := 0, locals := 217 } : Room) s m args below meth c H locs 0 0 (MQ below (va_Qi (fun (r : Int32) (u : PH) => (r, u) = out) (ph_B D cy b A fl) A) args s 0 0 A) (F0 m 84 ls [.int s0]) := by
  unfold F12_planned_84 at f
  refine lv_istore (lv' := [(5, .int s0), (0, .ref (b + a0)), (1, .int x1), (3, .int x3), (4, .int x4)]) S.1 S.2.1 dX12_planned_84 hl (by decide) rfl (fun ls hl => ?_)
  refine lv_iload S.1 S.2.1 dX12_planned_86 (lv_at hl 0 rfl) ?_
  refine lv_if_eq (tgt := 98) S.1 S.2.1 dX12_planned_88 (by decide) (fun q1 => ?_) (fun q1 => ?_)
  · have f := (if_pos q1).symm.trans f
    exact T12_planned_98 S hr hlo (fun f _ _ I _ hl => hk32 f _ _ I _ hl) f I (lv_sub hl [1, 2, 3, 4, 0] rfl)
  · have f := (if_neg q1).symm.trans f
    refine lv_iload_n S.1 S.2.1 dX12_planned_91 rfl (lv_at hl 3 rfl) ?_
    refine lv_if_ne (tgt := 98) S.1 S.2.1 dX12_planned_92 (by decide) (fun q2 => ?_) (fun q2 => ?_)
    · have f := (if_neg q2).symm.trans f
      exact T12_planned_98 S hr hlo (fun f _ _ I _ hl => hk32 f _ _ I _ hl) f I (lv_sub hl [1, 2, 3, 4, 0] rfl)
    · have f := (if_pos q2).symm.trans f
      refine lv_iload S.1 S.2.1 dX12_planned_95 (lv_at hl 4 rfl) ?_
      exact o_iret S hr hlo I f dX12_planned_97
set_option maxHeartbeats 4000000 in
set_option maxRecDepth 100000 in
theorem T12_planned_32 (S : CallFix p m c cX12_planned 6 s args vX12_planned RX12) (hr : meth.sig.returnType = (some .int)) (hlo : meth.locks = false) {out : Int32 × PH} : ∀ (n : Nat) {h : PH} {a0 : Nat} {x1 : Int32} {x3 : Int32} {x4 : Int32} (f : F12_planned_32  n h a0 x1 x3 x4 = some out) {H : Heap} {locs : List Loc} (I : ph_I D cy b A fl h s H locs) {ls : Array Slot} (hl : lv_has ls 6 [(0, .ref (b + a0)), (1, .int x1), (3, .int x3), (4, .int x4)]), W p l e ({ frames := 9, cells := 0, slots := 0, locals := 217 } : Room) s m args below meth c H locs 0 0 (MQ below (va_Qi (fun (r : Int32) (u : PH) => (r, u) = out) (ph_B D cy b A fl) A) args s 0 0 A) (F0 m 32 ls []) := by
  intro n
  induction n with
  | zero => intro h a0 x1 x3 x4 f; rw [F12_planned_32] at f; cases f
  | succ n ih =>
    intro h a0 x1 x3 x4 f H locs I ls hl
    rw [F12_planned_32] at f
    refine lv_iload S.1 S.2.1 dX12_planned_32 (lv_at hl 3 rfl) ?_
    refine lv_aload_n S.1 S.2.1 dX12_planned_34 rfl (lv_at hl 0 rfl) ?_
    obtain ⟨v1, e2, f⟩ := ob f
    refine o_gI S lf12_planned_253 I e2 dX12_planned_35 ?_
    refine lv_icmp_ge (tgt := 135) S.1 S.2.1 dX12_planned_38 (by decide) (fun q3 => ?_) (fun q3 => ?_)
    · have f := (if_pos q3).symm.trans f
      refine lv_bipush (v := (-2)) S.1 S.2.1 dX12_planned_135 (by decide) ?_
      exact o_iret S hr hlo I f dX12_planned_137
    · have f := (if_neg q3).symm.trans f
      refine lv_aload_n S.1 S.2.1 dX12_planned_41 rfl (lv_at hl 0 rfl) ?_
      refine lv_iload_n S.1 S.2.1 dX12_planned_42 rfl (lv_at hl 1 rfl) ?_
      refine lv_iload S.1 S.2.1 dX12_planned_43 (lv_at hl 3 rfl) ?_
      refine lv_aload_n S.1 S.2.1 dX12_planned_45 rfl (lv_at hl 0 rfl) ?_
      obtain ⟨r4, e5, f⟩ := ob f
      refine o_gR S lf12_planned_88 I e5 dX12_planned_46 ?_
      refine lv_iload_n S.1 S.2.1 dX12_planned_49 rfl (lv_at hl 1 rfl) ?_
      obtain ⟨v7, e6, f⟩ := ob f
      refine o_iald S I e6 dX12_planned_50 ?_
      obtain ⟨o8, e9, f⟩ := ob f
      refine o_Vi S (As := [.int x1, .int x4, .int v7]) (rest := []) (ci := 12) (M12_gainOf l D cy b A fl e9) gX12_planned_X12_gainOf rfl rfl rfl cd12_gainOf ⟨Nat.le_of_ble_eq_true rfl, Nat.le_of_ble_eq_true rfl⟩ I (gd e9).1 clX12 rfl rfl hl.1 rfl (Nat.le_of_ble_eq_true rfl) dX12_planned_51 ⟨Nat.le_of_ble_eq_true rfl, Nat.le_of_ble_eq_true rfl⟩ (fun H locs I => ?_)
      refine lv_aload_n S.1 S.2.1 dX12_planned_54 rfl (lv_at hl 0 rfl) ?_
      obtain ⟨r10, e11, f⟩ := ob f
      refine o_gR S lf12_planned_127 I e11 dX12_planned_55 ?_
      refine lv_aload_n S.1 S.2.1 dX12_planned_58 rfl (lv_at hl 0 rfl) ?_
      obtain ⟨r12, e13, f⟩ := ob f
      refine o_gR S lf12_planned_130 I e13 dX12_planned_59 ?_
      refine lv_iload S.1 S.2.1 dX12_planned_62 (lv_at hl 3 rfl) ?_
      obtain ⟨v15, e14, f⟩ := ob f
      refine o_iald S I e14 dX12_planned_64 ?_
      obtain ⟨v17, e16, f⟩ := ob f
      refine o_iald S I e16 dX12_planned_65 ?_
      refine lv_iadd S.1 S.2.1 dX12_planned_66 ?_
      refine lv_aload_n S.1 S.2.1 dX12_planned_67 rfl (lv_at hl 0 rfl) ?_
      obtain ⟨r18, e19, f⟩ := ob f
      refine o_gR S lf12_planned_127 I e19 dX12_planned_68 ?_
      refine lv_iload S.1 S.2.1 dX12_planned_71 (lv_at hl 3 rfl) ?_
      refine lv_iconst (v := 1) S.1 S.2.1 dX12_planned_73 (by decide) ?_
      refine lv_iadd S.1 S.2.1 dX12_planned_74 ?_
      obtain ⟨v21, e20, f⟩ := ob f
      refine o_iald S I e20 dX12_planned_75 ?_
      refine lv_icmp_lt (tgt := 83) S.1 S.2.1 dX12_planned_76 (by decide) (fun q22 => ?_) (fun q22 => ?_)
      · have f := (if_pos q22).symm.trans f
        refine lv_iconst (v := 0) S.1 S.2.1 dX12_planned_83 (by decide) ?_
        exact T12_planned_84 S hr hlo (fun f _ _ I _ hl => ih f I hl) f I (lv_sub hl [0, 1, 2, 3] rfl)
      · have f := (if_neg q22).symm.trans f
        refine lv_iconst (v := 1) S.1 S.2.1 dX12_planned_79 (by decide) ?_
        refine lv_goto (tgt := 84) S.1 S.2.1 dX12_planned_80 (by decide) ?_
        exact T12_planned_84 S hr hlo (fun f _ _ I _ hl => ih f I hl) f I (lv_sub hl [0, 1, 2, 3] rfl)
set_option maxHeartbeats 4000000 in
set_option maxRecDepth 100000 in
theorem T12_planned_0 (S : CallFix p m c cX12_planned 6 s args vX12_planned RX12) (hr : meth.sig.returnType = (some .int)) (hlo : meth.locks = false) {out : Int32 × PH} {h : PH} {a0 : Nat} {x1 : Int32} {x2 : Int32} (f : F12_planned_0  h a0 x1 x2 = some out) {H : Heap} {locs : List Loc} (I : ph_I D cy b A fl h s H locs) {ls : Array Slot} (hl : lv_has ls 6 [(0, .ref (b + a0)), (1, .int x1), (2, .int x2)]) : W p l e ({ frames := 9, cells := 0, slots := 0, locals := 217 } : Room) s m args below meth c H locs 0 0 (MQ below (va_Qi (fun (r : Int32) (u : PH) => (r, u) = out) (ph_B D cy b A fl) A) args s 0 0 A) (F0 m 0 ls []) := by
  unfold F12_planned_0 at f
  refine lv_aload_n S.1 S.2.1 dX12_planned_0 rfl (lv_at hl 0 rfl) ?_
  refine lv_iconst (v := 0) S.1 S.2.1 dX12_planned_1 (by decide) ?_
  obtain ⟨h1, e2, f⟩ := ob f
  refine o_pI S lp12_planned_154 I e2 dX12_planned_2 (fun H locs I => ?_)
  refine lv_aload_n S.1 S.2.1 dX12_planned_5 rfl (lv_at hl 0 rfl) ?_
  refine lv_iload_n S.1 S.2.1 dX12_planned_6 rfl (lv_at hl 1 rfl) ?_
  obtain ⟨o3, e4, f⟩ := ob f
  refine o_Vi S (As := [.int x1]) (rest := []) (ci := 12) (M12_isSurfer l D cy b A fl e4) gX12_planned_X12_isSurfer rfl rfl rfl cd12_isSurfer ⟨Nat.le_of_ble_eq_true rfl, Nat.le_of_ble_eq_true rfl⟩ I (gd e4).1 clX12 rfl rfl hl.1 rfl (Nat.le_of_ble_eq_true rfl) dX12_planned_7 ⟨Nat.le_of_ble_eq_true rfl, Nat.le_of_ble_eq_true rfl⟩ (fun H locs I => ?_)
  refine lv_if_eq (tgt := 17) S.1 S.2.1 dX12_planned_10 (by decide) (fun q5 => ?_) (fun q5 => ?_)
  · have f := (if_pos q5).symm.trans f
    refine lv_iconst (v := (-1)) S.1 S.2.1 dX12_planned_17 (by decide) ?_
    exact o_iret S hr hlo I f dX12_planned_18
  · have f := (if_neg q5).symm.trans f
    refine lv_iload_n S.1 S.2.1 dX12_planned_13 rfl (lv_at hl 2 rfl) ?_
    refine lv_if_ge (tgt := 19) S.1 S.2.1 dX12_planned_14 (by decide) (fun q6 => ?_) (fun q6 => ?_)
    · have f := (if_pos q6).symm.trans f
      refine lv_aload_n S.1 S.2.1 dX12_planned_19 rfl (lv_at hl 0 rfl) ?_
      refine lv_iload_n S.1 S.2.1 dX12_planned_20 rfl (lv_at hl 1 rfl) ?_
      obtain ⟨o7, e8, f⟩ := ob f
      refine o_Vv S (As := [.int x1]) (rest := []) (ci := 12) (M12_layPlan l D cy b A fl e8) gX12_planned_X12_layPlan rfl rfl rfl cd12_layPlan ⟨Nat.le_of_ble_eq_true rfl, Nat.le_of_ble_eq_true rfl⟩ I (gd e8).1 clX12 rfl rfl hl.1 rfl (Nat.le_of_ble_eq_true rfl) dX12_planned_21 ⟨Nat.le_of_ble_eq_true rfl, Nat.le_of_ble_eq_true rfl⟩ (fun H locs I => ?_)
      refine lv_iload_n S.1 S.2.1 dX12_planned_24 rfl (lv_at hl 2 rfl) ?_
      refine lv_istore_n (lv' := [(3, .int x2), (0, .ref (b + a0)), (1, .int x1), (2, .int x2)]) S.1 S.2.1 dX12_planned_25 rfl hl (by decide) rfl (fun ls hl => ?_)
      refine lv_aload_n S.1 S.2.1 dX12_planned_26 rfl (lv_at hl 1 rfl) ?_
      obtain ⟨o9, e10, f⟩ := ob f
      refine o_Vi S (As := []) (rest := []) (ci := 12) (M12_firstToCome l D cy b A fl e10) gX12_planned_X12_firstToCome rfl rfl rfl cd12_firstToCome ⟨Nat.le_of_ble_eq_true rfl, Nat.le_of_ble_eq_true rfl⟩ I (gd e10).1 clX12 rfl rfl hl.1 rfl (Nat.le_of_ble_eq_true rfl) dX12_planned_27 ⟨Nat.le_of_ble_eq_true rfl, Nat.le_of_ble_eq_true rfl⟩ (fun H locs I => ?_)
      refine lv_istore (lv' := [(4, .int o9.1), (3, .int x2), (0, .ref (b + a0)), (1, .int x1), (2, .int x2)]) S.1 S.2.1 dX12_planned_30 hl (by decide) rfl (fun ls hl => ?_)
      exact T12_planned_32 S hr hlo  1024 f I (lv_sub hl [2, 3, 1, 0] rfl)
    · have f := (if_neg q6).symm.trans f
      refine lv_iconst (v := (-1)) S.1 S.2.1 dX12_planned_17 (by decide) ?_
      exact o_iret S hr hlo I f dX12_planned_18
theorem M12_planned (l : Launch) (D : va_G) (cy : Nat → ClassId) (b : Nat) (A : Nat → Prop) (fl : Bool) {h : PH} {a0 : Nat} {x1 : Int32} {x2 : Int32} {out : Int32 × PH} (f : F12_planned h a0 x1 x2 = some out) : Met l yX12_planned vX12_planned ({ frames := 9, cells := 0, slots := 0, locals := 217 } : Room) (va_Pc [.ref (b + a0), .int x1, .int x2] (ph_B D cy b A fl h)) (va_Qi (fun (r : Int32) (u : PH) => (r, u) = out) (ph_B D cy b A fl) A) 0 0 A :=
  o_met (by decide) rfl (Nat.le_of_ble_eq_true rfl) rfl (fun p e s m below meth c S hr hlo hnm ls hl I => T12_planned_0 S hr hlo ((gd f).2) I (lv_sub hl [0, 1, 2] rfl))
def vX12_setEnd : List Cond := .code yX12_setEnd cX12_setEnd 2 (some .int) :: TB
theorem lf12_setEnd_250 : Fl vX12_setEnd RX12 250 12 15 := ⟨RX12, TX12, 87, rfl, by decide, (fun w h9 => List.mem_cons_of_mem _ (wC_wsX120 w h9)), (List.mem_cons_of_mem _ wT_12_13)⟩
theorem lf12_setEnd_253 : Fl vX12_setEnd RX12 253 12 16 := ⟨RX12, TX12, 87, rfl, by decide, (fun w h9 => List.mem_cons_of_mem _ (wC_wsX120 w h9)), (List.mem_cons_of_mem _ wT_12_14)⟩
theorem lf12_setEnd_45 : Fl vX12_setEnd RX12 45 12 33 := ⟨RX12, TX12, 87, rfl, by decide, (fun w h9 => List.mem_cons_of_mem _ (wC_wsX120 w h9)), (List.mem_cons_of_mem _ wT_10_8)⟩
theorem cd12_setEnd : Cd yX12_setEnd 1 := ⟨by decide, by decide, by decide +kernel⟩
set_option maxHeartbeats 4000000 in
set_option maxRecDepth 100000 in
theorem T12_setEnd_0 (S : CallFix p m c cX12_setEnd 2 s args vX12_setEnd RX12) (hr : meth.sig.returnType = (some .int)) (hlo : meth.locks = false) {out : Int32 × PH} {h : PH} {a0 : Nat} {x1 : Int32} (f : F12_setEnd_0  h a0 x1 = some out) {H : Heap} {locs : List Loc} (I : ph_I D cy b A fl h s H locs) {ls : Array Slot} (hl : lv_has ls 2 [(0, .ref (b + a0)), (1, .int x1)]) : W p l e ({ frames := 0, cells := 0, slots := 0, locals := 0 } : Room) s m args below meth c H locs 0 0 (MQ below (va_Qi (fun (r : Int32) (u : PH) => (r, u) = out) (ph_B D cy b A fl) A) args s 0 0 A) (F0 m 0 ls []) := by
  unfold F12_setEnd_0 at f
  refine lv_iload_n S.1 S.2.1 dX12_setEnd_0 rfl (lv_at hl 1 rfl) ?_
  refine lv_iconst (v := 1) S.1 S.2.1 dX12_setEnd_1 (by decide) ?_
  refine lv_iadd S.1 S.2.1 dX12_setEnd_2 ?_
  refine lv_aload_n S.1 S.2.1 dX12_setEnd_3 rfl (lv_at hl 0 rfl) ?_
  obtain ⟨v1, e2, f⟩ := ob f
  refine o_gI S lf12_setEnd_250 I e2 dX12_setEnd_4 ?_
  refine lv_icmp_ge (tgt := 21) S.1 S.2.1 dX12_setEnd_7 (by decide) (fun q3 => ?_) (fun q3 => ?_)
  · have f := (if_pos q3).symm.trans f
    refine lv_aload_n S.1 S.2.1 dX12_setEnd_21 rfl (lv_at hl 0 rfl) ?_
    obtain ⟨v4, e5, f⟩ := ob f
    refine o_gI S lf12_setEnd_253 I e5 dX12_setEnd_22 ?_
    exact o_iret S hr hlo I f dX12_setEnd_25
  · have f := (if_neg q3).symm.trans f
    refine lv_aload_n S.1 S.2.1 dX12_setEnd_10 rfl (lv_at hl 0 rfl) ?_
    obtain ⟨r6, e7, f⟩ := ob f
    refine o_gR S lf12_setEnd_45 I e7 dX12_setEnd_11 ?_
    refine lv_iload_n S.1 S.2.1 dX12_setEnd_14 rfl (lv_at hl 1 rfl) ?_
    refine lv_iconst (v := 1) S.1 S.2.1 dX12_setEnd_15 (by decide) ?_
    refine lv_iadd S.1 S.2.1 dX12_setEnd_16 ?_
    obtain ⟨v9, e8, f⟩ := ob f
    refine o_iald S I e8 dX12_setEnd_17 ?_
    refine lv_goto (tgt := 25) S.1 S.2.1 dX12_setEnd_18 (by decide) ?_
    exact o_iret S hr hlo I f dX12_setEnd_25
theorem M12_setEnd (l : Launch) (D : va_G) (cy : Nat → ClassId) (b : Nat) (A : Nat → Prop) (fl : Bool) {h : PH} {a0 : Nat} {x1 : Int32} {out : Int32 × PH} (f : F12_setEnd h a0 x1 = some out) : Met l yX12_setEnd vX12_setEnd ({ frames := 0, cells := 0, slots := 0, locals := 0 } : Room) (va_Pc [.ref (b + a0), .int x1] (ph_B D cy b A fl h)) (va_Qi (fun (r : Int32) (u : PH) => (r, u) = out) (ph_B D cy b A fl) A) 0 0 A :=
  o_met (by decide) rfl (Nat.le_of_ble_eq_true rfl) rfl (fun p e s m below meth c S hr hlo hnm ls hl I => T12_setEnd_0 S hr hlo ((gd f).2) I (lv_sub hl [0, 1] rfl))
def vX12_rank_ : List Cond := .code yX12_rank_ cX12_rank_ 8 (some .int) :: TB
theorem gX12_rank__X12_setEnd : GoodIn vX12_rank_ (wsV RX12 500 RX12 yX12_setEnd vX12_setEnd) := gV_of wT_54_5 wT_54_6 wT_54_7 wT_1_5 wT_54_8
theorem lf12_rank__51 : Fl vX12_rank_ RX12 51 12 35 := ⟨RX12, TX12, 87, rfl, by decide, (fun w h9 => List.mem_cons_of_mem _ (wC_wsX120 w h9)), (List.mem_cons_of_mem _ wT_10_10)⟩
theorem lf12_rank__45 : Fl vX12_rank_ RX12 45 12 33 := ⟨RX12, TX12, 87, rfl, by decide, (fun w h9 => List.mem_cons_of_mem _ (wC_wsX120 w h9)), (List.mem_cons_of_mem _ wT_10_8)⟩
theorem lf12_rank__250 : Fl vX12_rank_ RX12 250 12 15 := ⟨RX12, TX12, 87, rfl, by decide, (fun w h9 => List.mem_cons_of_mem _ (wC_wsX120 w h9)), (List.mem_cons_of_mem _ wT_12_13)⟩
theorem lp12_rank__154 : Pl vX12_rank_ RX12 154 12 2 .int := ⟨RX12, TX12, 87, tyX12, rfl, by decide, (fun w h9 => List.mem_cons_of_mem _ (wC_wsX120 w h9)), (List.mem_cons_of_mem _ wT_13_17), tyX12_ok, nmX12, rfl, rfl⟩
theorem gX12_rank__X12_isIn : GoodIn vX12_rank_ (va_wsS RX12 199 yX12_isIn vX12_isIn) := gS_of wT_28_17 wT_28_18 wT_1_5 wT_28_19
set_option maxHeartbeats 4000000 in
set_option maxRecDepth 100000 in
theorem T12_rank__79 (S : CallFix p m c cX12_rank_ 8 s args vX12_rank_ RX12) (hr : meth.sig.returnType = (some .int)) (hlo : meth.locks = false) {out : Int32 × PH} {k34 : PH → Nat → Int32 → Int32 → Int32 → Int32 → Int32 → Option (Int32 × PH)} (hk34 : ∀ {h : PH} {a0 : Nat} {x1 : Int32} {x2 : Int32} {x3 : Int32} {x4 : Int32} {x5 : Int32}, k34 h a0 x1 x2 x3 x4 x5 = some out → ∀ (H : Heap) (locs : List Loc), ph_I D cy b A fl h s H locs → ∀ (ls : Array Slot), lv_has ls 8 [(0, .ref (b + a0)), (1, .int x1), (2, .int x2), (3, .int x3), (4, .int x4), (5, .int x5)] → W p l e ({ frames := 1, cells := 0, slots := 0, locals := 22 } : Room) s m args below meth c H locs 0 0 (MQ below (va_Qi (fun (r : Int32) (u : PH) => (r, u) = out) (ph_B D cy b A fl) A) args s 0 0 A) (F0 m 34 ls [])) : ∀ (n : Nat) {h : PH} {a0 : Nat} {x1 : Int32} {x2 : Int32} {x3 : Int32} {x4 : Int32} {x5 : Int32} {x6 : Int32} {x7 : Int32} (f : F12_rank__79 k34 n h a0 x1 x2 x3 x4 x5 x6 x7 = some out) {H : Heap} {locs : List Loc} (I : ph_I D cy b A fl h s H locs) {ls : Array Slot} (hl : lv_has ls 8 [(0, .ref (b + a0)), (1, .int x1), (2, .int x2), (3, .int x3), (4, .int x4), (5, .int x5), (6, .int x6), (7, .int x7)]), W p l e ({ frames := 1, cells := 0, slots := 0, locals := 22 } : Room) s m args below meth c H locs 0 0 (MQ below (va_Qi (fun (r : Int32) (u : PH) => (r, u) = out) (ph_B D cy b A fl) A) args s 0 0 A) (F0 m 79 ls []) := by
  intro n
  induction n with
  | zero => intro h a0 x1 x2 x3 x4 x5 x6 x7 f; rw [F12_rank__79] at f; cases f
  | succ n ih =>
    intro h a0 x1 x2 x3 x4 x5 x6 x7 f H locs I ls hl
    rw [F12_rank__79] at f
    refine lv_iload S.1 S.2.1 dX12_rank__79 (lv_at hl 7 rfl) ?_
    refine lv_aload_n S.1 S.2.1 dX12_rank__81 rfl (lv_at hl 0 rfl) ?_
    refine lv_iload S.1 S.2.1 dX12_rank__82 (lv_at hl 5 rfl) ?_
    obtain ⟨o1, e2, f⟩ := ob f
    refine o_Vi S (As := [.int x5]) (rest := [.int x7]) (ci := 12) (M12_setEnd l D cy b A fl e2) gX12_rank__X12_setEnd rfl rfl rfl cd12_setEnd ⟨Nat.le_of_ble_eq_true rfl, Nat.le_of_ble_eq_true rfl⟩ I (gd e2).1 clX12 rfl rfl hl.1 rfl (Nat.le_of_ble_eq_true rfl) dX12_rank__84 ⟨Nat.le_of_ble_eq_true rfl, Nat.le_of_ble_eq_true rfl⟩ (fun H locs I => ?_)
    refine lv_icmp_ge (tgt := 122) S.1 S.2.1 dX12_rank__87 (by decide) (fun q3 => ?_) (fun q3 => ?_)
    · have f := (if_pos q3).symm.trans f
      refine lv_iload S.1 S.2.1 dX12_rank__122 (lv_at hl 4 rfl) ?_
      refine lv_aload_n S.1 S.2.1 dX12_rank__124 rfl (lv_at hl 0 rfl) ?_
      obtain ⟨r4, e5, f⟩ := ob f
      refine o_gR S lf12_rank__51 I e5 dX12_rank__125 ?_
      refine lv_aload_n S.1 S.2.1 dX12_rank__128 rfl (lv_at hl 0 rfl) ?_
      obtain ⟨r6, e7, f⟩ := ob f
      refine o_gR S lf12_rank__45 I e7 dX12_rank__129 ?_
      refine lv_iload S.1 S.2.1 dX12_rank__132 (lv_at hl 5 rfl) ?_
      obtain ⟨v9, e8, f⟩ := ob f
      refine o_iald S I e8 dX12_rank__134 ?_
      refine lv_iload_n S.1 S.2.1 dX12_rank__135 rfl (lv_at hl 1 rfl) ?_
      refine lv_iadd S.1 S.2.1 dX12_rank__136 ?_
      refine lv_iconst (v := 1) S.1 S.2.1 dX12_rank__137 (by decide) ?_
      refine lv_isub S.1 S.2.1 dX12_rank__138 ?_
      obtain ⟨v11, e10, f⟩ := ob f
      refine o_iald S I e10 dX12_rank__139 ?_
      refine lv_iload S.1 S.2.1 dX12_rank__140 (lv_at hl 6 rfl) ?_
      refine lv_icmp_ne (tgt := 149) S.1 S.2.1 dX12_rank__142 (by decide) (fun q12 => ?_) (fun q12 => ?_)
      · have f := (if_neg q12).symm.trans f
        refine lv_iconst (v := 0) S.1 S.2.1 dX12_rank__149 (by decide) ?_
        refine lv_iadd S.1 S.2.1 dX12_rank__150 ?_
        refine lv_istore (lv' := [(4, .int (x4 + 0)), (0, .ref (b + a0)), (1, .int x1), (2, .int x2), (3, .int x3), (5, .int x5), (6, .int x6), (7, .int x7)]) S.1 S.2.1 dX12_rank__151 hl (by decide) rfl (fun ls hl => ?_)
        refine lv_iinc (v := (x5 + 1)) (lv' := [(5, .int (x5 + 1)), (4, .int (x4 + 0)), (0, .ref (b + a0)), (1, .int x1), (2, .int x2), (3, .int x3), (6, .int x6), (7, .int x7)]) S.1 S.2.1 dX12_rank__153 hl (k := 5) rfl (congrArg (fun z => x5 + z) (by decide)) (by decide) rfl (fun ls hl => ?_)
        refine lv_goto (tgt := 34) S.1 S.2.1 dX12_rank__156 (by decide) ?_
        exact hk34 f _ _ I _ (lv_sub hl [2, 3, 4, 5, 1, 0] rfl)
      · have f := (if_pos q12).symm.trans f
        refine lv_iconst (v := 1) S.1 S.2.1 dX12_rank__145 (by decide) ?_
        refine lv_goto (tgt := 150) S.1 S.2.1 dX12_rank__146 (by decide) ?_
        refine lv_iadd S.1 S.2.1 dX12_rank__150 ?_
        refine lv_istore (lv' := [(4, .int (x4 + 1)), (0, .ref (b + a0)), (1, .int x1), (2, .int x2), (3, .int x3), (5, .int x5), (6, .int x6), (7, .int x7)]) S.1 S.2.1 dX12_rank__151 hl (by decide) rfl (fun ls hl => ?_)
        refine lv_iinc (v := (x5 + 1)) (lv' := [(5, .int (x5 + 1)), (4, .int (x4 + 1)), (0, .ref (b + a0)), (1, .int x1), (2, .int x2), (3, .int x3), (6, .int x6), (7, .int x7)]) S.1 S.2.1 dX12_rank__153 hl (k := 5) rfl (congrArg (fun z => x5 + z) (by decide)) (by decide) rfl (fun ls hl => ?_)
        refine lv_goto (tgt := 34) S.1 S.2.1 dX12_rank__156 (by decide) ?_
        exact hk34 f _ _ I _ (lv_sub hl [2, 3, 4, 5, 1, 0] rfl)
    · have f := (if_neg q3).symm.trans f
      refine lv_aload_n S.1 S.2.1 dX12_rank__90 rfl (lv_at hl 0 rfl) ?_
      obtain ⟨r13, e14, f⟩ := ob f
      refine o_gR S lf12_rank__51 I e14 dX12_rank__91 ?_
      refine lv_iload S.1 S.2.1 dX12_rank__94 (lv_at hl 7 rfl) ?_
      obtain ⟨v16, e15, f⟩ := ob f
      refine o_iald S I e15 dX12_rank__96 ?_
      refine lv_iload S.1 S.2.1 dX12_rank__97 (lv_at hl 6 rfl) ?_
      refine lv_icmp_le (tgt := 112) S.1 S.2.1 dX12_rank__99 (by decide) (fun q17 => ?_) (fun q17 => ?_)
      · have f := (if_pos q17).symm.trans f
        refine lv_iload S.1 S.2.1 dX12_rank__112 (lv_at hl 6 rfl) ?_
        refine lv_istore (lv' := [(6, .int x6), (0, .ref (b + a0)), (1, .int x1), (2, .int x2), (3, .int x3), (4, .int x4), (5, .int x5), (7, .int x7)]) S.1 S.2.1 dX12_rank__114 hl (by decide) rfl (fun ls hl => ?_)
        refine lv_iinc (v := (x7 + 1)) (lv' := [(7, .int (x7 + 1)), (6, .int x6), (0, .ref (b + a0)), (1, .int x1), (2, .int x2), (3, .int x3), (4, .int x4), (5, .int x5)]) S.1 S.2.1 dX12_rank__116 hl (k := 7) rfl (congrArg (fun z => x7 + z) (by decide)) (by decide) rfl (fun ls hl => ?_)
        refine lv_goto (tgt := 79) S.1 S.2.1 dX12_rank__119 (by decide) ?_
        exact ih f I (lv_sub hl [2, 3, 4, 5, 6, 7, 1, 0] rfl)
      · have f := (if_neg q17).symm.trans f
        refine lv_aload_n S.1 S.2.1 dX12_rank__102 rfl (lv_at hl 0 rfl) ?_
        obtain ⟨r18, e19, f⟩ := ob f
        refine o_gR S lf12_rank__51 I e19 dX12_rank__103 ?_
        refine lv_iload S.1 S.2.1 dX12_rank__106 (lv_at hl 7 rfl) ?_
        obtain ⟨v21, e20, f⟩ := ob f
        refine o_iald S I e20 dX12_rank__108 ?_
        refine lv_goto (tgt := 114) S.1 S.2.1 dX12_rank__109 (by decide) ?_
        refine lv_istore (lv' := [(6, .int v21), (0, .ref (b + a0)), (1, .int x1), (2, .int x2), (3, .int x3), (4, .int x4), (5, .int x5), (7, .int x7)]) S.1 S.2.1 dX12_rank__114 hl (by decide) rfl (fun ls hl => ?_)
        refine lv_iinc (v := (x7 + 1)) (lv' := [(7, .int (x7 + 1)), (6, .int v21), (0, .ref (b + a0)), (1, .int x1), (2, .int x2), (3, .int x3), (4, .int x4), (5, .int x5)]) S.1 S.2.1 dX12_rank__116 hl (k := 7) rfl (congrArg (fun z => x7 + z) (by decide)) (by decide) rfl (fun ls hl => ?_)
        refine lv_goto (tgt := 79) S.1 S.2.1 dX12_rank__119 (by decide) ?_
        exact ih f I (lv_sub hl [2, 3, 4, 5, 6, 7, 1, 0] rfl)
set_option maxHeartbeats 4000000 in
set_option maxRecDepth 100000 in
theorem T12_rank__34 (S : CallFix p m c cX12_rank_ 8 s args vX12_rank_ RX12) (hr : meth.sig.returnType = (some .int)) (hlo : meth.locks = false) {out : Int32 × PH} : ∀ (n : Nat) {h : PH} {a0 : Nat} {x1 : Int32} {x2 : Int32} {x3 : Int32} {x4 : Int32} {x5 : Int32} (f : F12_rank__34  n h a0 x1 x2 x3 x4 x5 = some out) {H : Heap} {locs : List Loc} (I : ph_I D cy b A fl h s H locs) {ls : Array Slot} (hl : lv_has ls 8 [(0, .ref (b + a0)), (1, .int x1), (2, .int x2), (3, .int x3), (4, .int x4), (5, .int x5)]), W p l e ({ frames := 1, cells := 0, slots := 0, locals := 22 } : Room) s m args below meth c H locs 0 0 (MQ below (va_Qi (fun (r : Int32) (u : PH) => (r, u) = out) (ph_B D cy b A fl) A) args s 0 0 A) (F0 m 34 ls []) := by
  intro n
  induction n with
  | zero => intro h a0 x1 x2 x3 x4 x5 f; rw [F12_rank__34] at f; cases f
  | succ n ih =>
    intro h a0 x1 x2 x3 x4 x5 f H locs I ls hl
    rw [F12_rank__34] at f
    refine lv_iload S.1 S.2.1 dX12_rank__34 (lv_at hl 5 rfl) ?_
    refine lv_aload_n S.1 S.2.1 dX12_rank__36 rfl (lv_at hl 0 rfl) ?_
    obtain ⟨v1, e2, f⟩ := ob f
    refine o_gI S lf12_rank__250 I e2 dX12_rank__37 ?_
    refine lv_icmp_ge (tgt := 159) S.1 S.2.1 dX12_rank__40 (by decide) (fun q3 => ?_) (fun q3 => ?_)
    · have f := (if_pos q3).symm.trans f
      refine lv_iload_n S.1 S.2.1 dX12_rank__159 rfl (lv_at hl 2 rfl) ?_
      refine lv_if_ne (tgt := 168) S.1 S.2.1 dX12_rank__160 (by decide) (fun q4 => ?_) (fun q4 => ?_)
      · have f := (if_neg q4).symm.trans f
        refine lv_iload_n S.1 S.2.1 dX12_rank__168 rfl (lv_at hl 3 rfl) ?_
        exact o_iret S hr hlo I f dX12_rank__169
      · have f := (if_pos q4).symm.trans f
        refine lv_iload S.1 S.2.1 dX12_rank__163 (lv_at hl 4 rfl) ?_
        refine lv_goto (tgt := 169) S.1 S.2.1 dX12_rank__165 (by decide) ?_
        exact o_iret S hr hlo I f dX12_rank__169
    · have f := (if_neg q3).symm.trans f
      refine lv_aload_n S.1 S.2.1 dX12_rank__43 rfl (lv_at hl 0 rfl) ?_
      refine lv_iload S.1 S.2.1 dX12_rank__44 (lv_at hl 5 rfl) ?_
      obtain ⟨o5, e6, f⟩ := ob f
      refine o_Vi S (As := [.int x5]) (rest := []) (ci := 12) (M12_setEnd l D cy b A fl e6) gX12_rank__X12_setEnd rfl rfl rfl cd12_setEnd ⟨Nat.le_of_ble_eq_true rfl, Nat.le_of_ble_eq_true rfl⟩ I (gd e6).1 clX12 rfl rfl hl.1 rfl (Nat.le_of_ble_eq_true rfl) dX12_rank__46 ⟨Nat.le_of_ble_eq_true rfl, Nat.le_of_ble_eq_true rfl⟩ (fun H locs I => ?_)
      refine lv_aload_n S.1 S.2.1 dX12_rank__49 rfl (lv_at hl 0 rfl) ?_
      obtain ⟨r7, e8, f⟩ := ob f
      refine o_gR S lf12_rank__45 I e8 dX12_rank__50 ?_
      refine lv_iload S.1 S.2.1 dX12_rank__53 (lv_at hl 5 rfl) ?_
      obtain ⟨v10, e9, f⟩ := ob f
      refine o_iald S I e9 dX12_rank__55 ?_
      refine lv_isub S.1 S.2.1 dX12_rank__56 ?_
      refine lv_iload_n S.1 S.2.1 dX12_rank__57 rfl (lv_at hl 1 rfl) ?_
      refine lv_icmp_ge (tgt := 64) S.1 S.2.1 dX12_rank__58 (by decide) (fun q11 => ?_) (fun q11 => ?_)
      · have f := (if_pos q11).symm.trans f
        refine lv_iinc (v := (x3 + 1)) (lv' := [(3, .int (x3 + 1)), (0, .ref (b + a0)), (1, .int x1), (2, .int x2), (4, .int x4), (5, .int x5)]) S.1 S.2.1 dX12_rank__64 hl (k := 3) rfl (congrArg (fun z => x3 + z) (by decide)) (by decide) rfl (fun ls hl => ?_)
        refine lv_iconst (v := 0) S.1 S.2.1 dX12_rank__67 (by decide) ?_
        refine lv_istore (lv' := [(6, .int 0), (3, .int (x3 + 1)), (0, .ref (b + a0)), (1, .int x1), (2, .int x2), (4, .int x4), (5, .int x5)]) S.1 S.2.1 dX12_rank__68 hl (by decide) rfl (fun ls hl => ?_)
        refine lv_aload_n S.1 S.2.1 dX12_rank__70 rfl (lv_at hl 2 rfl) ?_
        obtain ⟨r12, e13, f⟩ := ob f
        refine o_gR S lf12_rank__45 I e13 dX12_rank__71 ?_
        refine lv_iload S.1 S.2.1 dX12_rank__74 (lv_at hl 6 rfl) ?_
        obtain ⟨v15, e14, f⟩ := ob f
        refine o_iald S I e14 dX12_rank__76 ?_
        refine lv_istore (lv' := [(7, .int v15), (6, .int 0), (3, .int (x3 + 1)), (0, .ref (b + a0)), (1, .int x1), (2, .int x2), (4, .int x4), (5, .int x5)]) S.1 S.2.1 dX12_rank__77 hl (by decide) rfl (fun ls hl => ?_)
        exact T12_rank__79 S hr hlo (fun f _ _ I _ hl => ih f I hl) 1024 f I (lv_sub hl [3, 4, 5, 2, 6, 7, 1, 0] rfl)
      · have f := (if_neg q11).symm.trans f
        refine lv_goto (tgt := 153) S.1 S.2.1 dX12_rank__61 (by decide) ?_
        refine lv_iinc (v := (x5 + 1)) (lv' := [(5, .int (x5 + 1)), (0, .ref (b + a0)), (1, .int x1), (2, .int x2), (3, .int x3), (4, .int x4)]) S.1 S.2.1 dX12_rank__153 hl (k := 5) rfl (congrArg (fun z => x5 + z) (by decide)) (by decide) rfl (fun ls hl => ?_)
        refine lv_goto (tgt := 34) S.1 S.2.1 dX12_rank__156 (by decide) ?_
        exact ih f I (lv_sub hl [1, 2, 3, 4, 5, 0] rfl)
set_option maxHeartbeats 4000000 in
set_option maxRecDepth 100000 in
theorem T12_rank__0 (S : CallFix p m c cX12_rank_ 8 s args vX12_rank_ RX12) (hr : meth.sig.returnType = (some .int)) (hlo : meth.locks = false) {out : Int32 × PH} {h : PH} {a0 : Nat} {x1 : Int32} {x2 : Int32} (f : F12_rank__0  h a0 x1 x2 = some out) {H : Heap} {locs : List Loc} (I : ph_I D cy b A fl h s H locs) {ls : Array Slot} (hl : lv_has ls 8 [(0, .ref (b + a0)), (1, .int x1), (2, .int x2)]) : W p l e ({ frames := 1, cells := 0, slots := 0, locals := 22 } : Room) s m args below meth c H locs 0 0 (MQ below (va_Qi (fun (r : Int32) (u : PH) => (r, u) = out) (ph_B D cy b A fl) A) args s 0 0 A) (F0 m 0 ls []) := by
  unfold F12_rank__0 at f
  refine lv_aload_n S.1 S.2.1 dX12_rank__0 rfl (lv_at hl 0 rfl) ?_
  refine lv_iconst (v := 0) S.1 S.2.1 dX12_rank__1 (by decide) ?_
  obtain ⟨h1, e2, f⟩ := ob f
  refine o_pI S lp12_rank__154 I e2 dX12_rank__2 (fun H locs I => ?_)
  refine lv_iload_n S.1 S.2.1 dX12_rank__5 rfl (lv_at hl 1 rfl) ?_
  refine lv_iconst (v := 1) S.1 S.2.1 dX12_rank__6 (by decide) ?_
  refine lv_bipush (v := 7) S.1 S.2.1 dX12_rank__7 (by decide) ?_
  obtain ⟨o3, e4, f⟩ := ob f
  refine o_Si S (As := [.int x1, .int 1, .int 7]) (rest := []) (M12_isIn l D cy b A fl e4) gX12_rank__X12_isIn rfl rfl rfl cd12_isIn ⟨Nat.le_of_ble_eq_true rfl, Nat.le_of_ble_eq_true rfl⟩ I rfl hl.1 rfl (Nat.le_of_ble_eq_true rfl) dX12_rank__9 ⟨Nat.le_of_ble_eq_true rfl, Nat.le_of_ble_eq_true rfl⟩ (fun H locs I => ?_)
  refine lv_if_eq (tgt := 24) S.1 S.2.1 dX12_rank__12 (by decide) (fun q5 => ?_) (fun q5 => ?_)
  · have f := (if_pos q5).symm.trans f
    refine lv_iconst (v := (-1)) S.1 S.2.1 dX12_rank__24 (by decide) ?_
    exact o_iret S hr hlo I f dX12_rank__25
  · have f := (if_neg q5).symm.trans f
    refine lv_iload_n S.1 S.2.1 dX12_rank__15 rfl (lv_at hl 2 rfl) ?_
    refine lv_iconst (v := 0) S.1 S.2.1 dX12_rank__16 (by decide) ?_
    refine lv_iconst (v := 1) S.1 S.2.1 dX12_rank__17 (by decide) ?_
    obtain ⟨o6, e7, f⟩ := ob f
    refine o_Si S (As := [.int x2, .int 0, .int 1]) (rest := []) (M12_isIn l D cy b A fl e7) gX12_rank__X12_isIn rfl rfl rfl cd12_isIn ⟨Nat.le_of_ble_eq_true rfl, Nat.le_of_ble_eq_true rfl⟩ I rfl hl.1 rfl (Nat.le_of_ble_eq_true rfl) dX12_rank__18 ⟨Nat.le_of_ble_eq_true rfl, Nat.le_of_ble_eq_true rfl⟩ (fun H locs I => ?_)
    refine lv_if_ne (tgt := 26) S.1 S.2.1 dX12_rank__21 (by decide) (fun q8 => ?_) (fun q8 => ?_)
    · have f := (if_neg q8).symm.trans f
      refine lv_iconst (v := 0) S.1 S.2.1 dX12_rank__26 (by decide) ?_
      refine lv_istore_n (lv' := [(3, .int 0), (0, .ref (b + a0)), (1, .int x1), (2, .int x2)]) S.1 S.2.1 dX12_rank__27 rfl hl (by decide) rfl (fun ls hl => ?_)
      refine lv_iconst (v := 0) S.1 S.2.1 dX12_rank__28 (by decide) ?_
      refine lv_istore (lv' := [(4, .int 0), (3, .int 0), (0, .ref (b + a0)), (1, .int x1), (2, .int x2)]) S.1 S.2.1 dX12_rank__29 hl (by decide) rfl (fun ls hl => ?_)
      refine lv_iconst (v := 0) S.1 S.2.1 dX12_rank__31 (by decide) ?_
      refine lv_istore (lv' := [(5, .int 0), (4, .int 0), (3, .int 0), (0, .ref (b + a0)), (1, .int x1), (2, .int x2)]) S.1 S.2.1 dX12_rank__32 hl (by decide) rfl (fun ls hl => ?_)
      exact T12_rank__34 S hr hlo  1024 f I (lv_sub hl [3, 4, 5, 2, 1, 0] rfl)
    · have f := (if_pos q8).symm.trans f
      refine lv_iconst (v := (-1)) S.1 S.2.1 dX12_rank__24 (by decide) ?_
      exact o_iret S hr hlo I f dX12_rank__25
theorem M12_rank_ (l : Launch) (D : va_G) (cy : Nat → ClassId) (b : Nat) (A : Nat → Prop) (fl : Bool) {h : PH} {a0 : Nat} {x1 : Int32} {x2 : Int32} {out : Int32 × PH} (f : F12_rank_ h a0 x1 x2 = some out) : Met l yX12_rank_ vX12_rank_ ({ frames := 1, cells := 0, slots := 0, locals := 22 } : Room) (va_Pc [.ref (b + a0), .int x1, .int x2] (ph_B D cy b A fl h)) (va_Qi (fun (r : Int32) (u : PH) => (r, u) = out) (ph_B D cy b A fl) A) 0 0 A :=
  o_met (by decide) rfl (Nat.le_of_ble_eq_true rfl) rfl (fun p e s m below meth c S hr hlo hnm ls hl I => T12_rank__0 S hr hlo ((gd f).2) I (lv_sub hl [0, 1, 2] rfl))
def vX12_remember : List Cond := .code yX12_remember cX12_remember 2 none :: TB
theorem lf12_remember_142 : Fl vX12_remember RX12 142 12 79 := ⟨RX12, TX12, 87, rfl, by decide, (fun w h9 => List.mem_cons_of_mem _ (wC_wsX120 w h9)), (List.mem_cons_of_mem _ wT_11_16)⟩
theorem lf12_remember_379 : Fl vX12_remember RX12 379 12 78 := ⟨RX12, TX12, 87, rfl, by decide, (fun w h9 => List.mem_cons_of_mem _ (wC_wsX120 w h9)), (List.mem_cons_of_mem _ wT_13_2)⟩
theorem lf12_remember_369 : Fl vX12_remember RX12 369 12 64 := ⟨RX12, TX12, 87, rfl, by decide, (fun w h9 => List.mem_cons_of_mem _ (wC_wsX120 w h9)), (List.mem_cons_of_mem _ wT_12_23)⟩
theorem lp12_remember_379 : Pl vX12_remember RX12 379 12 78 .int := ⟨RX12, TX12, 87, tyX12, rfl, by decide, (fun w h9 => List.mem_cons_of_mem _ (wC_wsX120 w h9)), (List.mem_cons_of_mem _ wT_13_2), tyX12_ok, nmX12, rfl, rfl⟩
theorem lf12_remember_88 : Fl vX12_remember RX12 88 12 55 := ⟨RX12, TX12, 87, rfl, by decide, (fun w h9 => List.mem_cons_of_mem _ (wC_wsX120 w h9)), (List.mem_cons_of_mem _ wT_10_22)⟩
theorem lf12_remember_100 : Fl vX12_remember RX12 100 12 59 := ⟨RX12, TX12, 87, rfl, by decide, (fun w h9 => List.mem_cons_of_mem _ (wC_wsX120 w h9)), (List.mem_cons_of_mem _ wT_11_2)⟩
theorem cd12_remember : Cd yX12_remember 0 := ⟨by decide, by decide, by decide +kernel⟩
set_option maxHeartbeats 4000000 in
set_option maxRecDepth 100000 in
theorem T12_remember_51 (S : CallFix p m c cX12_remember 2 s args vX12_remember RX12) (hr : meth.sig.returnType = none) (hlo : meth.locks = false) {out : PH} : ∀ (n : Nat) {h : PH} {a0 : Nat} {x1 : Int32} (f : F12_remember_51  n h a0 x1 = some out) {H : Heap} {locs : List Loc} (I : ph_I D cy b A fl h s H locs) {ls : Array Slot} (hl : lv_has ls 2 [(0, .ref (b + a0)), (1, .int x1)]), W p l e ({ frames := 0, cells := 0, slots := 0, locals := 0 } : Room) s m args below meth c H locs 0 0 (MQ below (va_Qv (fun (u : PH) => u = out) (ph_B D cy b A fl) A) args s 0 0 A) (F0 m 51 ls []) := by
  intro n
  induction n with
  | zero => intro h a0 x1 f; rw [F12_remember_51] at f; cases f
  | succ n ih =>
    intro h a0 x1 f H locs I ls hl
    rw [F12_remember_51] at f
    refine lv_iload_n S.1 S.2.1 dX12_remember_51 rfl (lv_at hl 1 rfl) ?_
    refine lv_iconst (v := 5) S.1 S.2.1 dX12_remember_52 (by decide) ?_
    refine lv_icmp_ge (tgt := 104) S.1 S.2.1 dX12_remember_53 (by decide) (fun q1 => ?_) (fun q1 => ?_)
    · have f := (if_pos q1).symm.trans f
      refine lv_aload_n S.1 S.2.1 dX12_remember_104 rfl (lv_at hl 0 rfl) ?_
      obtain ⟨r2, e3, f⟩ := ob f
      refine o_gR S lf12_remember_142 I e3 dX12_remember_105 ?_
      refine lv_bipush (v := 11) S.1 S.2.1 dX12_remember_108 (by decide) ?_
      refine lv_aload_n S.1 S.2.1 dX12_remember_110 rfl (lv_at hl 0 rfl) ?_
      obtain ⟨v4, e5, f⟩ := ob f
      refine o_gI S lf12_remember_379 I e5 dX12_remember_111 ?_
      refine lv_imul S.1 S.2.1 dX12_remember_114 ?_
      refine lv_bipush (v := 10) S.1 S.2.1 dX12_remember_115 (by decide) ?_
      refine lv_iadd S.1 S.2.1 dX12_remember_117 ?_
      refine lv_aload_n S.1 S.2.1 dX12_remember_118 rfl (lv_at hl 0 rfl) ?_
      obtain ⟨v6, e7, f⟩ := ob f
      refine o_gI S lf12_remember_369 I e7 dX12_remember_119 ?_
      obtain ⟨h9, e8, f⟩ := ob f
      refine o_iast S I e8 dX12_remember_122 (fun H locs I => ?_)
      refine lv_aload_n S.1 S.2.1 dX12_remember_123 rfl (lv_at hl 0 rfl) ?_
      refine lv_dup S.1 S.2.1 dX12_remember_124 rfl ?_
      obtain ⟨v10, e11, f⟩ := ob f
      refine o_gI S lf12_remember_379 I e11 dX12_remember_125 ?_
      refine lv_iconst (v := 1) S.1 S.2.1 dX12_remember_128 (by decide) ?_
      refine lv_iadd S.1 S.2.1 dX12_remember_129 ?_
      obtain ⟨h12, e13, f⟩ := ob f
      refine o_pI S lp12_remember_379 I e13 dX12_remember_130 (fun H locs I => ?_)
      exact o_vret S hr hlo I f dX12_remember_133
    · have f := (if_neg q1).symm.trans f
      refine lv_aload_n S.1 S.2.1 dX12_remember_56 rfl (lv_at hl 0 rfl) ?_
      obtain ⟨r14, e15, f⟩ := ob f
      refine o_gR S lf12_remember_142 I e15 dX12_remember_57 ?_
      refine lv_bipush (v := 11) S.1 S.2.1 dX12_remember_60 (by decide) ?_
      refine lv_aload_n S.1 S.2.1 dX12_remember_62 rfl (lv_at hl 0 rfl) ?_
      obtain ⟨v16, e17, f⟩ := ob f
      refine o_gI S lf12_remember_379 I e17 dX12_remember_63 ?_
      refine lv_imul S.1 S.2.1 dX12_remember_66 ?_
      refine lv_iload_n S.1 S.2.1 dX12_remember_67 rfl (lv_at hl 1 rfl) ?_
      refine lv_iadd S.1 S.2.1 dX12_remember_68 ?_
      refine lv_aload_n S.1 S.2.1 dX12_remember_69 rfl (lv_at hl 0 rfl) ?_
      obtain ⟨r18, e19, f⟩ := ob f
      refine o_gR S lf12_remember_88 I e19 dX12_remember_70 ?_
      refine lv_iload_n S.1 S.2.1 dX12_remember_73 rfl (lv_at hl 1 rfl) ?_
      obtain ⟨v21, e20, f⟩ := ob f
      refine o_iald S I e20 dX12_remember_74 ?_
      obtain ⟨h23, e22, f⟩ := ob f
      refine o_iast S I e22 dX12_remember_75 (fun H locs I => ?_)
      refine lv_aload_n S.1 S.2.1 dX12_remember_76 rfl (lv_at hl 0 rfl) ?_
      obtain ⟨r24, e25, f⟩ := ob f
      refine o_gR S lf12_remember_142 I e25 dX12_remember_77 ?_
      refine lv_bipush (v := 11) S.1 S.2.1 dX12_remember_80 (by decide) ?_
      refine lv_aload_n S.1 S.2.1 dX12_remember_82 rfl (lv_at hl 0 rfl) ?_
      obtain ⟨v26, e27, f⟩ := ob f
      refine o_gI S lf12_remember_379 I e27 dX12_remember_83 ?_
      refine lv_imul S.1 S.2.1 dX12_remember_86 ?_
      refine lv_iconst (v := 5) S.1 S.2.1 dX12_remember_87 (by decide) ?_
      refine lv_iadd S.1 S.2.1 dX12_remember_88 ?_
      refine lv_iload_n S.1 S.2.1 dX12_remember_89 rfl (lv_at hl 1 rfl) ?_
      refine lv_iadd S.1 S.2.1 dX12_remember_90 ?_
      refine lv_aload_n S.1 S.2.1 dX12_remember_91 rfl (lv_at hl 0 rfl) ?_
      obtain ⟨r28, e29, f⟩ := ob f
      refine o_gR S lf12_remember_100 I e29 dX12_remember_92 ?_
      refine lv_iload_n S.1 S.2.1 dX12_remember_95 rfl (lv_at hl 1 rfl) ?_
      obtain ⟨v31, e30, f⟩ := ob f
      refine o_iald S I e30 dX12_remember_96 ?_
      obtain ⟨h33, e32, f⟩ := ob f
      refine o_iast S I e32 dX12_remember_97 (fun H locs I => ?_)
      refine lv_iinc (v := (x1 + 1)) (lv' := [(1, .int (x1 + 1)), (0, .ref (b + a0))]) S.1 S.2.1 dX12_remember_98 hl (k := 1) rfl (congrArg (fun z => x1 + z) (by decide)) (by decide) rfl (fun ls hl => ?_)
      refine lv_goto (tgt := 51) S.1 S.2.1 dX12_remember_101 (by decide) ?_
      exact ih f I (lv_sub hl [1, 0] rfl)
set_option maxHeartbeats 4000000 in
set_option maxRecDepth 100000 in
theorem T12_remember_11 (S : CallFix p m c cX12_remember 2 s args vX12_remember RX12) (hr : meth.sig.returnType = none) (hlo : meth.locks = false) {out : PH} : ∀ (n : Nat) {h : PH} {a0 : Nat} {x1 : Int32} (f : F12_remember_11  n h a0 x1 = some out) {H : Heap} {locs : List Loc} (I : ph_I D cy b A fl h s H locs) {ls : Array Slot} (hl : lv_has ls 2 [(0, .ref (b + a0)), (1, .int x1)]), W p l e ({ frames := 0, cells := 0, slots := 0, locals := 0 } : Room) s m args below meth c H locs 0 0 (MQ below (va_Qv (fun (u : PH) => u = out) (ph_B D cy b A fl) A) args s 0 0 A) (F0 m 11 ls []) := by
  intro n
  induction n with
  | zero => intro h a0 x1 f; rw [F12_remember_11] at f; cases f
  | succ n ih =>
    intro h a0 x1 f H locs I ls hl
    rw [F12_remember_11] at f
    refine lv_iload_n S.1 S.2.1 dX12_remember_11 rfl (lv_at hl 1 rfl) ?_
    refine lv_sipush (v := 209) S.1 S.2.1 dX12_remember_12 (by decide) ?_
    refine lv_icmp_ge (tgt := 39) S.1 S.2.1 dX12_remember_15 (by decide) (fun q1 => ?_) (fun q1 => ?_)
    · have f := (if_pos q1).symm.trans f
      refine lv_aload_n S.1 S.2.1 dX12_remember_39 rfl (lv_at hl 0 rfl) ?_
      refine lv_dup S.1 S.2.1 dX12_remember_40 rfl ?_
      obtain ⟨v2, e3, f⟩ := ob f
      refine o_gI S lf12_remember_379 I e3 dX12_remember_41 ?_
      refine lv_iconst (v := 1) S.1 S.2.1 dX12_remember_44 (by decide) ?_
      refine lv_isub S.1 S.2.1 dX12_remember_45 ?_
      obtain ⟨h4, e5, f⟩ := ob f
      refine o_pI S lp12_remember_379 I e5 dX12_remember_46 (fun H locs I => ?_)
      refine lv_iconst (v := 0) S.1 S.2.1 dX12_remember_49 (by decide) ?_
      refine lv_istore_n (lv' := [(1, .int 0), (0, .ref (b + a0))]) S.1 S.2.1 dX12_remember_50 rfl hl (by decide) rfl (fun ls hl => ?_)
      exact T12_remember_51 S hr hlo  1024 f I (lv_sub hl [1, 0] rfl)
    · have f := (if_neg q1).symm.trans f
      refine lv_aload_n S.1 S.2.1 dX12_remember_18 rfl (lv_at hl 0 rfl) ?_
      obtain ⟨r6, e7, f⟩ := ob f
      refine o_gR S lf12_remember_142 I e7 dX12_remember_19 ?_
      refine lv_iload_n S.1 S.2.1 dX12_remember_22 rfl (lv_at hl 1 rfl) ?_
      refine lv_aload_n S.1 S.2.1 dX12_remember_23 rfl (lv_at hl 0 rfl) ?_
      obtain ⟨r8, e9, f⟩ := ob f
      refine o_gR S lf12_remember_142 I e9 dX12_remember_24 ?_
      refine lv_iload_n S.1 S.2.1 dX12_remember_27 rfl (lv_at hl 1 rfl) ?_
      refine lv_bipush (v := 11) S.1 S.2.1 dX12_remember_28 (by decide) ?_
      refine lv_iadd S.1 S.2.1 dX12_remember_30 ?_
      obtain ⟨v11, e10, f⟩ := ob f
      refine o_iald S I e10 dX12_remember_31 ?_
      obtain ⟨h13, e12, f⟩ := ob f
      refine o_iast S I e12 dX12_remember_32 (fun H locs I => ?_)
      refine lv_iinc (v := (x1 + 1)) (lv' := [(1, .int (x1 + 1)), (0, .ref (b + a0))]) S.1 S.2.1 dX12_remember_33 hl (k := 1) rfl (congrArg (fun z => x1 + z) (by decide)) (by decide) rfl (fun ls hl => ?_)
      refine lv_goto (tgt := 11) S.1 S.2.1 dX12_remember_36 (by decide) ?_
      exact ih f I (lv_sub hl [1, 0] rfl)
set_option maxHeartbeats 4000000 in
set_option maxRecDepth 100000 in
theorem T12_remember_0 (S : CallFix p m c cX12_remember 2 s args vX12_remember RX12) (hr : meth.sig.returnType = none) (hlo : meth.locks = false) {out : PH} {h : PH} {a0 : Nat} (f : F12_remember_0  h a0 = some out) {H : Heap} {locs : List Loc} (I : ph_I D cy b A fl h s H locs) {ls : Array Slot} (hl : lv_has ls 2 [(0, .ref (b + a0))]) : W p l e ({ frames := 0, cells := 0, slots := 0, locals := 0 } : Room) s m args below meth c H locs 0 0 (MQ below (va_Qv (fun (u : PH) => u = out) (ph_B D cy b A fl) A) args s 0 0 A) (F0 m 0 ls []) := by
  unfold F12_remember_0 at f
  refine lv_aload_n S.1 S.2.1 dX12_remember_0 rfl (lv_at hl 0 rfl) ?_
  obtain ⟨v1, e2, f⟩ := ob f
  refine o_gI S lf12_remember_379 I e2 dX12_remember_1 ?_
  refine lv_bipush (v := 20) S.1 S.2.1 dX12_remember_4 (by decide) ?_
  refine lv_icmp_ne (tgt := 49) S.1 S.2.1 dX12_remember_6 (by decide) (fun q3 => ?_) (fun q3 => ?_)
  · have f := (if_neg q3).symm.trans f
    refine lv_iconst (v := 0) S.1 S.2.1 dX12_remember_49 (by decide) ?_
    refine lv_istore_n (lv' := [(1, .int 0), (0, .ref (b + a0))]) S.1 S.2.1 dX12_remember_50 rfl hl (by decide) rfl (fun ls hl => ?_)
    exact T12_remember_51 S hr hlo  1024 f I (lv_sub hl [1, 0] rfl)
  · have f := (if_pos q3).symm.trans f
    refine lv_iconst (v := 0) S.1 S.2.1 dX12_remember_9 (by decide) ?_
    refine lv_istore_n (lv' := [(1, .int 0), (0, .ref (b + a0))]) S.1 S.2.1 dX12_remember_10 rfl hl (by decide) rfl (fun ls hl => ?_)
    exact T12_remember_11 S hr hlo  1024 f I (lv_sub hl [1, 0] rfl)
theorem M12_remember (l : Launch) (D : va_G) (cy : Nat → ClassId) (b : Nat) (A : Nat → Prop) (fl : Bool) {h : PH} {a0 : Nat} {out : PH} (f : F12_remember h a0 = some out) : Met l yX12_remember vX12_remember ({ frames := 0, cells := 0, slots := 0, locals := 0 } : Room) (va_Pc [.ref (b + a0)] (ph_B D cy b A fl h)) (va_Qv (fun (u : PH) => u = out) (ph_B D cy b A fl) A) 0 0 A :=
  o_met (by decide) rfl (Nat.le_of_ble_eq_true rfl) rfl (fun p e s m below meth c S hr hlo hnm ls hl I => T12_remember_0 S hr hlo ((gd f).2) I (lv_sub hl [0] rfl))
end
theorem zd_dX12_restAt_0 : sg (cX12_restAt.data.toList.drop 0) [[42], [27], [28], [182, 1, 235], [3], [54, 4], [3], [54, 5], [21, 5], [16, 25], [162, 0, 49], [42], [21, 5], [182, 1, 238], [154, 0, 6], [167, 0, 31], [21, 4], [29], [160, 0, 22], [16, 10]] = true := by decide +kernel
theorem dX12_restAt_0 : decode cX12_restAt 0 = .ok (.aload_n 0, 1) := dc_42 (sg_at zd_dX12_restAt_0 0 rfl rfl)
theorem dX12_restAt_1 : decode cX12_restAt 1 = .ok (.iload_n 1, 1) := dc_27 (sg_at zd_dX12_restAt_0 1 rfl rfl)
theorem dX12_restAt_2 : decode cX12_restAt 2 = .ok (.iload_n 2, 1) := dc_28 (sg_at zd_dX12_restAt_0 2 rfl rfl)
theorem dX12_restAt_3 : decode cX12_restAt 3 = .ok (.invokevirtual 491, 3) := dc_182 (sg_at zd_dX12_restAt_0 3 rfl rfl) rfl
theorem dX12_restAt_6 : decode cX12_restAt 6 = .ok (.iconst 0, 1) := dc_3 (sg_at zd_dX12_restAt_0 4 rfl rfl)
theorem dX12_restAt_7 : decode cX12_restAt 7 = .ok (.istore 4, 2) := dc_54 (sg_at zd_dX12_restAt_0 5 rfl rfl)
theorem dX12_restAt_9 : decode cX12_restAt 9 = .ok (.iconst 0, 1) := dc_3 (sg_at zd_dX12_restAt_0 6 rfl rfl)
theorem dX12_restAt_10 : decode cX12_restAt 10 = .ok (.istore 5, 2) := dc_54 (sg_at zd_dX12_restAt_0 7 rfl rfl)
theorem dX12_restAt_12 : decode cX12_restAt 12 = .ok (.iload 5, 2) := dc_21 (sg_at zd_dX12_restAt_0 8 rfl rfl)
theorem dX12_restAt_14 : decode cX12_restAt 14 = .ok (.bipush 25, 2) := dc_16 (sg_at zd_dX12_restAt_0 9 rfl rfl) rfl
theorem dX12_restAt_16 : decode cX12_restAt 16 = .ok (.if_icmp .ge 49, 3) := dc_162 (sg_at zd_dX12_restAt_0 10 rfl rfl) rfl
theorem dX12_restAt_19 : decode cX12_restAt 19 = .ok (.aload_n 0, 1) := dc_42 (sg_at zd_dX12_restAt_0 11 rfl rfl)
theorem dX12_restAt_20 : decode cX12_restAt 20 = .ok (.iload 5, 2) := dc_21 (sg_at zd_dX12_restAt_0 12 rfl rfl)
theorem dX12_restAt_22 : decode cX12_restAt 22 = .ok (.invokevirtual 494, 3) := dc_182 (sg_at zd_dX12_restAt_0 13 rfl rfl) rfl
theorem dX12_restAt_25 : decode cX12_restAt 25 = .ok (.ifCond .ne 6, 3) := dc_154 (sg_at zd_dX12_restAt_0 14 rfl rfl) rfl
theorem dX12_restAt_28 : decode cX12_restAt 28 = .ok (.goto 31, 3) := dc_167 (sg_at zd_dX12_restAt_0 15 rfl rfl) rfl
theorem dX12_restAt_31 : decode cX12_restAt 31 = .ok (.iload 4, 2) := dc_21 (sg_at zd_dX12_restAt_0 16 rfl rfl)
theorem dX12_restAt_33 : decode cX12_restAt 33 = .ok (.iload_n 3, 1) := dc_29 (sg_at zd_dX12_restAt_0 17 rfl rfl)
theorem dX12_restAt_34 : decode cX12_restAt 34 = .ok (.if_icmp .ne 22, 3) := dc_160 (sg_at zd_dX12_restAt_0 18 rfl rfl) rfl
theorem dX12_restAt_37 : decode cX12_restAt 37 = .ok (.bipush 10, 2) := dc_16 (sg_at zd_dX12_restAt_0 19 rfl rfl) rfl
theorem zd_dX12_restAt_39 : sg (cX12_restAt.data.toList.drop 39) [[21, 5], [8], [108], [184, 1, 229], [104], [21, 5], [8], [112], [184, 1, 229], [96], [172], [132, 4, 1], [132, 5, 1], [167, 255, 206], [29], [156, 0, 8], [21, 4], [167, 0, 5], [16, 254], [172]] = true := by decide +kernel
theorem dX12_restAt_39 : decode cX12_restAt 39 = .ok (.iload 5, 2) := dc_21 (sg_at zd_dX12_restAt_39 0 rfl rfl)
theorem dX12_restAt_41 : decode cX12_restAt 41 = .ok (.iconst 5, 1) := dc_8 (sg_at zd_dX12_restAt_39 1 rfl rfl)
theorem dX12_restAt_42 : decode cX12_restAt 42 = .ok (.idiv, 1) := dc_108 (sg_at zd_dX12_restAt_39 2 rfl rfl)
theorem dX12_restAt_43 : decode cX12_restAt 43 = .ok (.invokestatic 485, 3) := dc_184 (sg_at zd_dX12_restAt_39 3 rfl rfl) rfl
theorem dX12_restAt_46 : decode cX12_restAt 46 = .ok (.imul, 1) := dc_104 (sg_at zd_dX12_restAt_39 4 rfl rfl)
theorem dX12_restAt_47 : decode cX12_restAt 47 = .ok (.iload 5, 2) := dc_21 (sg_at zd_dX12_restAt_39 5 rfl rfl)
theorem dX12_restAt_49 : decode cX12_restAt 49 = .ok (.iconst 5, 1) := dc_8 (sg_at zd_dX12_restAt_39 6 rfl rfl)
theorem dX12_restAt_50 : decode cX12_restAt 50 = .ok (.irem, 1) := dc_112 (sg_at zd_dX12_restAt_39 7 rfl rfl)
theorem dX12_restAt_51 : decode cX12_restAt 51 = .ok (.invokestatic 485, 3) := dc_184 (sg_at zd_dX12_restAt_39 8 rfl rfl) rfl
theorem dX12_restAt_54 : decode cX12_restAt 54 = .ok (.iadd, 1) := dc_96 (sg_at zd_dX12_restAt_39 9 rfl rfl)
theorem dX12_restAt_55 : decode cX12_restAt 55 = .ok (.ireturn, 1) := dc_172 (sg_at zd_dX12_restAt_39 10 rfl rfl)
theorem dX12_restAt_56 : decode cX12_restAt 56 = .ok (.iinc 4 1, 3) := dc_132 (sg_at zd_dX12_restAt_39 11 rfl rfl) rfl
theorem dX12_restAt_59 : decode cX12_restAt 59 = .ok (.iinc 5 1, 3) := dc_132 (sg_at zd_dX12_restAt_39 12 rfl rfl) rfl
theorem dX12_restAt_62 : decode cX12_restAt 62 = .ok (.goto (-50), 3) := dc_167 (sg_at zd_dX12_restAt_39 13 rfl rfl) rfl
theorem dX12_restAt_65 : decode cX12_restAt 65 = .ok (.iload_n 3, 1) := dc_29 (sg_at zd_dX12_restAt_39 14 rfl rfl)
theorem dX12_restAt_66 : decode cX12_restAt 66 = .ok (.ifCond .ge 8, 3) := dc_156 (sg_at zd_dX12_restAt_39 15 rfl rfl) rfl
theorem dX12_restAt_69 : decode cX12_restAt 69 = .ok (.iload 4, 2) := dc_21 (sg_at zd_dX12_restAt_39 16 rfl rfl)
theorem dX12_restAt_71 : decode cX12_restAt 71 = .ok (.goto 5, 3) := dc_167 (sg_at zd_dX12_restAt_39 17 rfl rfl) rfl
theorem dX12_restAt_74 : decode cX12_restAt 74 = .ok (.bipush (-2), 2) := dc_16 (sg_at zd_dX12_restAt_39 18 rfl rfl) rfl
theorem dX12_restAt_76 : decode cX12_restAt 76 = .ok (.ireturn, 1) := dc_172 (sg_at zd_dX12_restAt_39 19 rfl rfl)
theorem zd_dX12_rest_0 : sg (cX12_rest.data.toList.drop 0) [[42], [3], [181, 0, 154], [42], [27], [182, 1, 157], [153, 0, 30], [42], [28], [182, 1, 157], [153, 0, 22], [27], [28], [159, 0, 17], [29], [155, 0, 13], [42], [27], [28], [29]] = true := by decide +kernel
theorem dX12_rest_0 : decode cX12_rest 0 = .ok (.aload_n 0, 1) := dc_42 (sg_at zd_dX12_rest_0 0 rfl rfl)
theorem dX12_rest_1 : decode cX12_rest 1 = .ok (.iconst 0, 1) := dc_3 (sg_at zd_dX12_rest_0 1 rfl rfl)
theorem dX12_rest_2 : decode cX12_rest 2 = .ok (.putfield 154, 3) := dc_181 (sg_at zd_dX12_rest_0 2 rfl rfl) rfl
theorem dX12_rest_5 : decode cX12_rest 5 = .ok (.aload_n 0, 1) := dc_42 (sg_at zd_dX12_rest_0 3 rfl rfl)
theorem dX12_rest_6 : decode cX12_rest 6 = .ok (.iload_n 1, 1) := dc_27 (sg_at zd_dX12_rest_0 4 rfl rfl)
theorem dX12_rest_7 : decode cX12_rest 7 = .ok (.invokevirtual 413, 3) := dc_182 (sg_at zd_dX12_rest_0 5 rfl rfl) rfl
theorem dX12_rest_10 : decode cX12_rest 10 = .ok (.ifCond .eq 30, 3) := dc_153 (sg_at zd_dX12_rest_0 6 rfl rfl) rfl
theorem dX12_rest_13 : decode cX12_rest 13 = .ok (.aload_n 0, 1) := dc_42 (sg_at zd_dX12_rest_0 7 rfl rfl)
theorem dX12_rest_14 : decode cX12_rest 14 = .ok (.iload_n 2, 1) := dc_28 (sg_at zd_dX12_rest_0 8 rfl rfl)
theorem dX12_rest_15 : decode cX12_rest 15 = .ok (.invokevirtual 413, 3) := dc_182 (sg_at zd_dX12_rest_0 9 rfl rfl) rfl
theorem dX12_rest_18 : decode cX12_rest 18 = .ok (.ifCond .eq 22, 3) := dc_153 (sg_at zd_dX12_rest_0 10 rfl rfl) rfl
theorem dX12_rest_21 : decode cX12_rest 21 = .ok (.iload_n 1, 1) := dc_27 (sg_at zd_dX12_rest_0 11 rfl rfl)
theorem dX12_rest_22 : decode cX12_rest 22 = .ok (.iload_n 2, 1) := dc_28 (sg_at zd_dX12_rest_0 12 rfl rfl)
theorem dX12_rest_23 : decode cX12_rest 23 = .ok (.if_icmp .eq 17, 3) := dc_159 (sg_at zd_dX12_rest_0 13 rfl rfl) rfl
theorem dX12_rest_26 : decode cX12_rest 26 = .ok (.iload_n 3, 1) := dc_29 (sg_at zd_dX12_rest_0 14 rfl rfl)
theorem dX12_rest_27 : decode cX12_rest 27 = .ok (.ifCond .lt 13, 3) := dc_155 (sg_at zd_dX12_rest_0 15 rfl rfl) rfl
theorem dX12_rest_30 : decode cX12_rest 30 = .ok (.aload_n 0, 1) := dc_42 (sg_at zd_dX12_rest_0 16 rfl rfl)
theorem dX12_rest_31 : decode cX12_rest 31 = .ok (.iload_n 1, 1) := dc_27 (sg_at zd_dX12_rest_0 17 rfl rfl)
theorem dX12_rest_32 : decode cX12_rest 32 = .ok (.iload_n 2, 1) := dc_28 (sg_at zd_dX12_rest_0 18 rfl rfl)
theorem dX12_rest_33 : decode cX12_rest 33 = .ok (.iload_n 3, 1) := dc_29 (sg_at zd_dX12_rest_0 19 rfl rfl)
theorem zd_dX12_rest_34 : sg (cX12_rest.data.toList.drop 34) [[182, 1, 241], [167, 0, 4], [2], [172]] = true := by decide +kernel
theorem dX12_rest_34 : decode cX12_rest 34 = .ok (.invokevirtual 497, 3) := dc_182 (sg_at zd_dX12_rest_34 0 rfl rfl) rfl
theorem dX12_rest_37 : decode cX12_rest 37 = .ok (.goto 4, 3) := dc_167 (sg_at zd_dX12_rest_34 1 rfl rfl) rfl
theorem dX12_rest_40 : decode cX12_rest 40 = .ok (.iconst (-1), 1) := dc_2 (sg_at zd_dX12_rest_34 2 rfl rfl)
theorem dX12_rest_41 : decode cX12_rest 41 = .ok (.ireturn, 1) := dc_172 (sg_at zd_dX12_rest_34 3 rfl rfl)
theorem zd_dX12_rests_0 : sg (cX12_rests.data.toList.drop 0) [[42], [3], [181, 0, 154], [42], [27], [182, 1, 157], [153, 0, 26], [42], [28], [182, 1, 157], [153, 0, 18], [27], [28], [159, 0, 13], [42], [27], [28], [2], [182, 1, 241], [167, 0, 4]] = true := by decide +kernel
theorem dX12_rests_0 : decode cX12_rests 0 = .ok (.aload_n 0, 1) := dc_42 (sg_at zd_dX12_rests_0 0 rfl rfl)
theorem dX12_rests_1 : decode cX12_rests 1 = .ok (.iconst 0, 1) := dc_3 (sg_at zd_dX12_rests_0 1 rfl rfl)
theorem dX12_rests_2 : decode cX12_rests 2 = .ok (.putfield 154, 3) := dc_181 (sg_at zd_dX12_rests_0 2 rfl rfl) rfl
theorem dX12_rests_5 : decode cX12_rests 5 = .ok (.aload_n 0, 1) := dc_42 (sg_at zd_dX12_rests_0 3 rfl rfl)
theorem dX12_rests_6 : decode cX12_rests 6 = .ok (.iload_n 1, 1) := dc_27 (sg_at zd_dX12_rests_0 4 rfl rfl)
theorem dX12_rests_7 : decode cX12_rests 7 = .ok (.invokevirtual 413, 3) := dc_182 (sg_at zd_dX12_rests_0 5 rfl rfl) rfl
theorem dX12_rests_10 : decode cX12_rests 10 = .ok (.ifCond .eq 26, 3) := dc_153 (sg_at zd_dX12_rests_0 6 rfl rfl) rfl
theorem dX12_rests_13 : decode cX12_rests 13 = .ok (.aload_n 0, 1) := dc_42 (sg_at zd_dX12_rests_0 7 rfl rfl)
theorem dX12_rests_14 : decode cX12_rests 14 = .ok (.iload_n 2, 1) := dc_28 (sg_at zd_dX12_rests_0 8 rfl rfl)
theorem dX12_rests_15 : decode cX12_rests 15 = .ok (.invokevirtual 413, 3) := dc_182 (sg_at zd_dX12_rests_0 9 rfl rfl) rfl
theorem dX12_rests_18 : decode cX12_rests 18 = .ok (.ifCond .eq 18, 3) := dc_153 (sg_at zd_dX12_rests_0 10 rfl rfl) rfl
theorem dX12_rests_21 : decode cX12_rests 21 = .ok (.iload_n 1, 1) := dc_27 (sg_at zd_dX12_rests_0 11 rfl rfl)
theorem dX12_rests_22 : decode cX12_rests 22 = .ok (.iload_n 2, 1) := dc_28 (sg_at zd_dX12_rests_0 12 rfl rfl)
theorem dX12_rests_23 : decode cX12_rests 23 = .ok (.if_icmp .eq 13, 3) := dc_159 (sg_at zd_dX12_rests_0 13 rfl rfl) rfl
theorem dX12_rests_26 : decode cX12_rests 26 = .ok (.aload_n 0, 1) := dc_42 (sg_at zd_dX12_rests_0 14 rfl rfl)
theorem dX12_rests_27 : decode cX12_rests 27 = .ok (.iload_n 1, 1) := dc_27 (sg_at zd_dX12_rests_0 15 rfl rfl)
theorem dX12_rests_28 : decode cX12_rests 28 = .ok (.iload_n 2, 1) := dc_28 (sg_at zd_dX12_rests_0 16 rfl rfl)
theorem dX12_rests_29 : decode cX12_rests 29 = .ok (.iconst (-1), 1) := dc_2 (sg_at zd_dX12_rests_0 17 rfl rfl)
theorem dX12_rests_30 : decode cX12_rests 30 = .ok (.invokevirtual 497, 3) := dc_182 (sg_at zd_dX12_rests_0 18 rfl rfl) rfl
theorem dX12_rests_33 : decode cX12_rests 33 = .ok (.goto 4, 3) := dc_167 (sg_at zd_dX12_rests_0 19 rfl rfl) rfl
theorem zd_dX12_rests_36 : sg (cX12_rests.data.toList.drop 36) [[2], [172]] = true := by decide +kernel
theorem dX12_rests_36 : decode cX12_rests 36 = .ok (.iconst (-1), 1) := dc_2 (sg_at zd_dX12_rests_36 0 rfl rfl)
theorem dX12_rests_37 : decode cX12_rests 37 = .ok (.ireturn, 1) := dc_172 (sg_at zd_dX12_rests_36 1 rfl rfl)
theorem zd_dX12_rule_0 : sg (cX12_rule.data.toList.drop 0) [[42], [3], [181, 0, 154], [27], [3], [6], [184, 0, 199], [153, 0, 11], [27], [42], [180, 1, 113], [160, 0, 5], [3], [172], [42], [182, 1, 213], [42], [27], [181, 1, 113], [4]] = true := by decide +kernel
theorem dX12_rule_0 : decode cX12_rule 0 = .ok (.aload_n 0, 1) := dc_42 (sg_at zd_dX12_rule_0 0 rfl rfl)
theorem dX12_rule_1 : decode cX12_rule 1 = .ok (.iconst 0, 1) := dc_3 (sg_at zd_dX12_rule_0 1 rfl rfl)
theorem dX12_rule_2 : decode cX12_rule 2 = .ok (.putfield 154, 3) := dc_181 (sg_at zd_dX12_rule_0 2 rfl rfl) rfl
theorem dX12_rule_5 : decode cX12_rule 5 = .ok (.iload_n 1, 1) := dc_27 (sg_at zd_dX12_rule_0 3 rfl rfl)
theorem dX12_rule_6 : decode cX12_rule 6 = .ok (.iconst 0, 1) := dc_3 (sg_at zd_dX12_rule_0 4 rfl rfl)
theorem dX12_rule_7 : decode cX12_rule 7 = .ok (.iconst 3, 1) := dc_6 (sg_at zd_dX12_rule_0 5 rfl rfl)
theorem dX12_rule_8 : decode cX12_rule 8 = .ok (.invokestatic 199, 3) := dc_184 (sg_at zd_dX12_rule_0 6 rfl rfl) rfl
theorem dX12_rule_11 : decode cX12_rule 11 = .ok (.ifCond .eq 11, 3) := dc_153 (sg_at zd_dX12_rule_0 7 rfl rfl) rfl
theorem dX12_rule_14 : decode cX12_rule 14 = .ok (.iload_n 1, 1) := dc_27 (sg_at zd_dX12_rule_0 8 rfl rfl)
theorem dX12_rule_15 : decode cX12_rule 15 = .ok (.aload_n 0, 1) := dc_42 (sg_at zd_dX12_rule_0 9 rfl rfl)
theorem dX12_rule_16 : decode cX12_rule 16 = .ok (.getfield 369, 3) := dc_180 (sg_at zd_dX12_rule_0 10 rfl rfl) rfl
theorem dX12_rule_19 : decode cX12_rule 19 = .ok (.if_icmp .ne 5, 3) := dc_160 (sg_at zd_dX12_rule_0 11 rfl rfl) rfl
theorem dX12_rule_22 : decode cX12_rule 22 = .ok (.iconst 0, 1) := dc_3 (sg_at zd_dX12_rule_0 12 rfl rfl)
theorem dX12_rule_23 : decode cX12_rule 23 = .ok (.ireturn, 1) := dc_172 (sg_at zd_dX12_rule_0 13 rfl rfl)
theorem dX12_rule_24 : decode cX12_rule 24 = .ok (.aload_n 0, 1) := dc_42 (sg_at zd_dX12_rule_0 14 rfl rfl)
theorem dX12_rule_25 : decode cX12_rule 25 = .ok (.invokevirtual 469, 3) := dc_182 (sg_at zd_dX12_rule_0 15 rfl rfl) rfl
theorem dX12_rule_28 : decode cX12_rule 28 = .ok (.aload_n 0, 1) := dc_42 (sg_at zd_dX12_rule_0 16 rfl rfl)
theorem dX12_rule_29 : decode cX12_rule 29 = .ok (.iload_n 1, 1) := dc_27 (sg_at zd_dX12_rule_0 17 rfl rfl)
theorem dX12_rule_30 : decode cX12_rule 30 = .ok (.putfield 369, 3) := dc_181 (sg_at zd_dX12_rule_0 18 rfl rfl) rfl
theorem dX12_rule_33 : decode cX12_rule 33 = .ok (.iconst 1, 1) := dc_4 (sg_at zd_dX12_rule_0 19 rfl rfl)
theorem zd_dX12_rule_34 : sg (cX12_rule.data.toList.drop 34) [[172]] = true := by decide +kernel
theorem dX12_rule_34 : decode cX12_rule 34 = .ok (.ireturn, 1) := dc_172 (sg_at zd_dX12_rule_34 0 rfl rfl)
theorem zd_dX12_seat_0 : sg (cX12_seat.data.toList.drop 0) [[42], [3], [181, 0, 154], [42], [27], [182, 1, 157], [153, 0, 26], [42], [28], [182, 1, 166], [153, 0, 18], [42], [27], [28], [42], [180, 0, 106], [3], [46], [182, 1, 226], [167, 0, 4]] = true := by decide +kernel
theorem dX12_seat_0 : decode cX12_seat 0 = .ok (.aload_n 0, 1) := dc_42 (sg_at zd_dX12_seat_0 0 rfl rfl)
theorem dX12_seat_1 : decode cX12_seat 1 = .ok (.iconst 0, 1) := dc_3 (sg_at zd_dX12_seat_0 1 rfl rfl)
theorem dX12_seat_2 : decode cX12_seat 2 = .ok (.putfield 154, 3) := dc_181 (sg_at zd_dX12_seat_0 2 rfl rfl) rfl
theorem dX12_seat_5 : decode cX12_seat 5 = .ok (.aload_n 0, 1) := dc_42 (sg_at zd_dX12_seat_0 3 rfl rfl)
theorem dX12_seat_6 : decode cX12_seat 6 = .ok (.iload_n 1, 1) := dc_27 (sg_at zd_dX12_seat_0 4 rfl rfl)
theorem dX12_seat_7 : decode cX12_seat 7 = .ok (.invokevirtual 413, 3) := dc_182 (sg_at zd_dX12_seat_0 5 rfl rfl) rfl
theorem dX12_seat_10 : decode cX12_seat 10 = .ok (.ifCond .eq 26, 3) := dc_153 (sg_at zd_dX12_seat_0 6 rfl rfl) rfl
theorem dX12_seat_13 : decode cX12_seat 13 = .ok (.aload_n 0, 1) := dc_42 (sg_at zd_dX12_seat_0 7 rfl rfl)
theorem dX12_seat_14 : decode cX12_seat 14 = .ok (.iload_n 2, 1) := dc_28 (sg_at zd_dX12_seat_0 8 rfl rfl)
theorem dX12_seat_15 : decode cX12_seat 15 = .ok (.invokevirtual 422, 3) := dc_182 (sg_at zd_dX12_seat_0 9 rfl rfl) rfl
theorem dX12_seat_18 : decode cX12_seat 18 = .ok (.ifCond .eq 18, 3) := dc_153 (sg_at zd_dX12_seat_0 10 rfl rfl) rfl
theorem dX12_seat_21 : decode cX12_seat 21 = .ok (.aload_n 0, 1) := dc_42 (sg_at zd_dX12_seat_0 11 rfl rfl)
theorem dX12_seat_22 : decode cX12_seat 22 = .ok (.iload_n 1, 1) := dc_27 (sg_at zd_dX12_seat_0 12 rfl rfl)
theorem dX12_seat_23 : decode cX12_seat 23 = .ok (.iload_n 2, 1) := dc_28 (sg_at zd_dX12_seat_0 13 rfl rfl)
theorem dX12_seat_24 : decode cX12_seat 24 = .ok (.aload_n 0, 1) := dc_42 (sg_at zd_dX12_seat_0 14 rfl rfl)
theorem dX12_seat_25 : decode cX12_seat 25 = .ok (.getfield 106, 3) := dc_180 (sg_at zd_dX12_seat_0 15 rfl rfl) rfl
theorem dX12_seat_28 : decode cX12_seat 28 = .ok (.iconst 0, 1) := dc_3 (sg_at zd_dX12_seat_0 16 rfl rfl)
theorem dX12_seat_29 : decode cX12_seat 29 = .ok (.iaload, 1) := dc_46 (sg_at zd_dX12_seat_0 17 rfl rfl)
theorem dX12_seat_30 : decode cX12_seat 30 = .ok (.invokevirtual 482, 3) := dc_182 (sg_at zd_dX12_seat_0 18 rfl rfl) rfl
theorem dX12_seat_33 : decode cX12_seat 33 = .ok (.goto 4, 3) := dc_167 (sg_at zd_dX12_seat_0 19 rfl rfl) rfl
theorem zd_dX12_seat_36 : sg (cX12_seat.data.toList.drop 36) [[2], [172]] = true := by decide +kernel
theorem dX12_seat_36 : decode cX12_seat 36 = .ok (.iconst (-1), 1) := dc_2 (sg_at zd_dX12_seat_36 0 rfl rfl)
theorem dX12_seat_37 : decode cX12_seat 37 = .ok (.ireturn, 1) := dc_172 (sg_at zd_dX12_seat_36 1 rfl rfl)
theorem zd_dX12_shares_0 : sg (cX12_shares.data.toList.drop 0) [[42], [3], [181, 0, 154], [42], [180, 0, 247], [153, 0, 12], [27], [3], [4], [184, 0, 199], [154, 0, 5], [2], [172], [27], [154, 0, 11], [42], [3], [182, 2, 6], [167, 0, 8], [42]] = true := by decide +kernel
theorem dX12_shares_0 : decode cX12_shares 0 = .ok (.aload_n 0, 1) := dc_42 (sg_at zd_dX12_shares_0 0 rfl rfl)
theorem dX12_shares_1 : decode cX12_shares 1 = .ok (.iconst 0, 1) := dc_3 (sg_at zd_dX12_shares_0 1 rfl rfl)
theorem dX12_shares_2 : decode cX12_shares 2 = .ok (.putfield 154, 3) := dc_181 (sg_at zd_dX12_shares_0 2 rfl rfl) rfl
theorem dX12_shares_5 : decode cX12_shares 5 = .ok (.aload_n 0, 1) := dc_42 (sg_at zd_dX12_shares_0 3 rfl rfl)
theorem dX12_shares_6 : decode cX12_shares 6 = .ok (.getfield 247, 3) := dc_180 (sg_at zd_dX12_shares_0 4 rfl rfl) rfl
theorem dX12_shares_9 : decode cX12_shares 9 = .ok (.ifCond .eq 12, 3) := dc_153 (sg_at zd_dX12_shares_0 5 rfl rfl) rfl
theorem dX12_shares_12 : decode cX12_shares 12 = .ok (.iload_n 1, 1) := dc_27 (sg_at zd_dX12_shares_0 6 rfl rfl)
theorem dX12_shares_13 : decode cX12_shares 13 = .ok (.iconst 0, 1) := dc_3 (sg_at zd_dX12_shares_0 7 rfl rfl)
theorem dX12_shares_14 : decode cX12_shares 14 = .ok (.iconst 1, 1) := dc_4 (sg_at zd_dX12_shares_0 8 rfl rfl)
theorem dX12_shares_15 : decode cX12_shares 15 = .ok (.invokestatic 199, 3) := dc_184 (sg_at zd_dX12_shares_0 9 rfl rfl) rfl
theorem dX12_shares_18 : decode cX12_shares 18 = .ok (.ifCond .ne 5, 3) := dc_154 (sg_at zd_dX12_shares_0 10 rfl rfl) rfl
theorem dX12_shares_21 : decode cX12_shares 21 = .ok (.iconst (-1), 1) := dc_2 (sg_at zd_dX12_shares_0 11 rfl rfl)
theorem dX12_shares_22 : decode cX12_shares 22 = .ok (.ireturn, 1) := dc_172 (sg_at zd_dX12_shares_0 12 rfl rfl)
theorem dX12_shares_23 : decode cX12_shares 23 = .ok (.iload_n 1, 1) := dc_27 (sg_at zd_dX12_shares_0 13 rfl rfl)
theorem dX12_shares_24 : decode cX12_shares 24 = .ok (.ifCond .ne 11, 3) := dc_154 (sg_at zd_dX12_shares_0 14 rfl rfl) rfl
theorem dX12_shares_27 : decode cX12_shares 27 = .ok (.aload_n 0, 1) := dc_42 (sg_at zd_dX12_shares_0 15 rfl rfl)
theorem dX12_shares_28 : decode cX12_shares 28 = .ok (.iconst 0, 1) := dc_3 (sg_at zd_dX12_shares_0 16 rfl rfl)
theorem dX12_shares_29 : decode cX12_shares 29 = .ok (.invokevirtual 518, 3) := dc_182 (sg_at zd_dX12_shares_0 17 rfl rfl) rfl
theorem dX12_shares_32 : decode cX12_shares 32 = .ok (.goto 8, 3) := dc_167 (sg_at zd_dX12_shares_0 18 rfl rfl) rfl
theorem dX12_shares_35 : decode cX12_shares 35 = .ok (.aload_n 0, 1) := dc_42 (sg_at zd_dX12_shares_0 19 rfl rfl)
theorem zd_dX12_shares_36 : sg (cX12_shares.data.toList.drop 36) [[3], [182, 2, 9], [172]] = true := by decide +kernel
theorem dX12_shares_36 : decode cX12_shares 36 = .ok (.iconst 0, 1) := dc_3 (sg_at zd_dX12_shares_36 0 rfl rfl)
theorem dX12_shares_37 : decode cX12_shares 37 = .ok (.invokevirtual 521, 3) := dc_182 (sg_at zd_dX12_shares_36 1 rfl rfl) rfl
theorem dX12_shares_40 : decode cX12_shares 40 = .ok (.ireturn, 1) := dc_172 (sg_at zd_dX12_shares_36 2 rfl rfl)
theorem zd_dX12_strike_0 : sg (cX12_strike.data.toList.drop 0) [[42], [3], [181, 0, 154], [42], [180, 1, 120], [16, 24], [159, 0, 15], [27], [155, 0, 11], [27], [42], [180, 1, 120], [161, 0, 7], [2], [167, 0, 10], [42], [2], [27], [3], [182, 2, 12]] = true := by decide +kernel
theorem dX12_strike_0 : decode cX12_strike 0 = .ok (.aload_n 0, 1) := dc_42 (sg_at zd_dX12_strike_0 0 rfl rfl)
theorem dX12_strike_1 : decode cX12_strike 1 = .ok (.iconst 0, 1) := dc_3 (sg_at zd_dX12_strike_0 1 rfl rfl)
theorem dX12_strike_2 : decode cX12_strike 2 = .ok (.putfield 154, 3) := dc_181 (sg_at zd_dX12_strike_0 2 rfl rfl) rfl
theorem dX12_strike_5 : decode cX12_strike 5 = .ok (.aload_n 0, 1) := dc_42 (sg_at zd_dX12_strike_0 3 rfl rfl)
theorem dX12_strike_6 : decode cX12_strike 6 = .ok (.getfield 376, 3) := dc_180 (sg_at zd_dX12_strike_0 4 rfl rfl) rfl
theorem dX12_strike_9 : decode cX12_strike 9 = .ok (.bipush 24, 2) := dc_16 (sg_at zd_dX12_strike_0 5 rfl rfl) rfl
theorem dX12_strike_11 : decode cX12_strike 11 = .ok (.if_icmp .eq 15, 3) := dc_159 (sg_at zd_dX12_strike_0 6 rfl rfl) rfl
theorem dX12_strike_14 : decode cX12_strike 14 = .ok (.iload_n 1, 1) := dc_27 (sg_at zd_dX12_strike_0 7 rfl rfl)
theorem dX12_strike_15 : decode cX12_strike 15 = .ok (.ifCond .lt 11, 3) := dc_155 (sg_at zd_dX12_strike_0 8 rfl rfl) rfl
theorem dX12_strike_18 : decode cX12_strike 18 = .ok (.iload_n 1, 1) := dc_27 (sg_at zd_dX12_strike_0 9 rfl rfl)
theorem dX12_strike_19 : decode cX12_strike 19 = .ok (.aload_n 0, 1) := dc_42 (sg_at zd_dX12_strike_0 10 rfl rfl)
theorem dX12_strike_20 : decode cX12_strike 20 = .ok (.getfield 376, 3) := dc_180 (sg_at zd_dX12_strike_0 11 rfl rfl) rfl
theorem dX12_strike_23 : decode cX12_strike 23 = .ok (.if_icmp .lt 7, 3) := dc_161 (sg_at zd_dX12_strike_0 12 rfl rfl) rfl
theorem dX12_strike_26 : decode cX12_strike 26 = .ok (.iconst (-1), 1) := dc_2 (sg_at zd_dX12_strike_0 13 rfl rfl)
theorem dX12_strike_27 : decode cX12_strike 27 = .ok (.goto 10, 3) := dc_167 (sg_at zd_dX12_strike_0 14 rfl rfl) rfl
theorem dX12_strike_30 : decode cX12_strike 30 = .ok (.aload_n 0, 1) := dc_42 (sg_at zd_dX12_strike_0 15 rfl rfl)
theorem dX12_strike_31 : decode cX12_strike 31 = .ok (.iconst (-1), 1) := dc_2 (sg_at zd_dX12_strike_0 16 rfl rfl)
theorem dX12_strike_32 : decode cX12_strike 32 = .ok (.iload_n 1, 1) := dc_27 (sg_at zd_dX12_strike_0 17 rfl rfl)
theorem dX12_strike_33 : decode cX12_strike 33 = .ok (.iconst 0, 1) := dc_3 (sg_at zd_dX12_strike_0 18 rfl rfl)
theorem dX12_strike_34 : decode cX12_strike 34 = .ok (.invokevirtual 524, 3) := dc_182 (sg_at zd_dX12_strike_0 19 rfl rfl) rfl
theorem zd_dX12_strike_37 : sg (cX12_strike.data.toList.drop 37) [[172]] = true := by decide +kernel
theorem dX12_strike_37 : decode cX12_strike 37 = .ok (.ireturn, 1) := dc_172 (sg_at zd_dX12_strike_37 0 rfl rfl)
theorem zd_dX12_stroke_0 : sg (cX12_stroke.data.toList.drop 0) [[42], [3], [181, 0, 154], [42], [27], [182, 1, 157], [153, 0, 12], [28], [3], [6], [184, 0, 199], [154, 0, 5], [2], [172], [42], [42], [180, 0, 88], [27], [46], [28]] = true := by decide +kernel
theorem dX12_stroke_0 : decode cX12_stroke 0 = .ok (.aload_n 0, 1) := dc_42 (sg_at zd_dX12_stroke_0 0 rfl rfl)
theorem dX12_stroke_1 : decode cX12_stroke 1 = .ok (.iconst 0, 1) := dc_3 (sg_at zd_dX12_stroke_0 1 rfl rfl)
theorem dX12_stroke_2 : decode cX12_stroke 2 = .ok (.putfield 154, 3) := dc_181 (sg_at zd_dX12_stroke_0 2 rfl rfl) rfl
theorem dX12_stroke_5 : decode cX12_stroke 5 = .ok (.aload_n 0, 1) := dc_42 (sg_at zd_dX12_stroke_0 3 rfl rfl)
theorem dX12_stroke_6 : decode cX12_stroke 6 = .ok (.iload_n 1, 1) := dc_27 (sg_at zd_dX12_stroke_0 4 rfl rfl)
theorem dX12_stroke_7 : decode cX12_stroke 7 = .ok (.invokevirtual 413, 3) := dc_182 (sg_at zd_dX12_stroke_0 5 rfl rfl) rfl
theorem dX12_stroke_10 : decode cX12_stroke 10 = .ok (.ifCond .eq 12, 3) := dc_153 (sg_at zd_dX12_stroke_0 6 rfl rfl) rfl
theorem dX12_stroke_13 : decode cX12_stroke 13 = .ok (.iload_n 2, 1) := dc_28 (sg_at zd_dX12_stroke_0 7 rfl rfl)
theorem dX12_stroke_14 : decode cX12_stroke 14 = .ok (.iconst 0, 1) := dc_3 (sg_at zd_dX12_stroke_0 8 rfl rfl)
theorem dX12_stroke_15 : decode cX12_stroke 15 = .ok (.iconst 3, 1) := dc_6 (sg_at zd_dX12_stroke_0 9 rfl rfl)
theorem dX12_stroke_16 : decode cX12_stroke 16 = .ok (.invokestatic 199, 3) := dc_184 (sg_at zd_dX12_stroke_0 10 rfl rfl) rfl
theorem dX12_stroke_19 : decode cX12_stroke 19 = .ok (.ifCond .ne 5, 3) := dc_154 (sg_at zd_dX12_stroke_0 11 rfl rfl) rfl
theorem dX12_stroke_22 : decode cX12_stroke 22 = .ok (.iconst (-1), 1) := dc_2 (sg_at zd_dX12_stroke_0 12 rfl rfl)
theorem dX12_stroke_23 : decode cX12_stroke 23 = .ok (.ireturn, 1) := dc_172 (sg_at zd_dX12_stroke_0 13 rfl rfl)
theorem dX12_stroke_24 : decode cX12_stroke 24 = .ok (.aload_n 0, 1) := dc_42 (sg_at zd_dX12_stroke_0 14 rfl rfl)
theorem dX12_stroke_25 : decode cX12_stroke 25 = .ok (.aload_n 0, 1) := dc_42 (sg_at zd_dX12_stroke_0 15 rfl rfl)
theorem dX12_stroke_26 : decode cX12_stroke 26 = .ok (.getfield 88, 3) := dc_180 (sg_at zd_dX12_stroke_0 16 rfl rfl) rfl
theorem dX12_stroke_29 : decode cX12_stroke 29 = .ok (.iload_n 1, 1) := dc_27 (sg_at zd_dX12_stroke_0 17 rfl rfl)
theorem dX12_stroke_30 : decode cX12_stroke 30 = .ok (.iaload, 1) := dc_46 (sg_at zd_dX12_stroke_0 18 rfl rfl)
theorem dX12_stroke_31 : decode cX12_stroke 31 = .ok (.iload_n 2, 1) := dc_28 (sg_at zd_dX12_stroke_0 19 rfl rfl)
theorem zd_dX12_stroke_32 : sg (cX12_stroke.data.toList.drop 32) [[182, 1, 210], [62], [29], [155, 0, 21], [42], [180, 0, 97], [27], [46], [157, 0, 12], [42], [180, 0, 100], [27], [46], [154, 0, 6], [16, 254], [172], [42], [182, 1, 213], [42], [180, 0, 88]] = true := by decide +kernel
theorem dX12_stroke_32 : decode cX12_stroke 32 = .ok (.invokevirtual 466, 3) := dc_182 (sg_at zd_dX12_stroke_32 0 rfl rfl) rfl
theorem dX12_stroke_35 : decode cX12_stroke 35 = .ok (.istore_n 3, 1) := dc_62 (sg_at zd_dX12_stroke_32 1 rfl rfl)
theorem dX12_stroke_36 : decode cX12_stroke 36 = .ok (.iload_n 3, 1) := dc_29 (sg_at zd_dX12_stroke_32 2 rfl rfl)
theorem dX12_stroke_37 : decode cX12_stroke 37 = .ok (.ifCond .lt 21, 3) := dc_155 (sg_at zd_dX12_stroke_32 3 rfl rfl) rfl
theorem dX12_stroke_40 : decode cX12_stroke 40 = .ok (.aload_n 0, 1) := dc_42 (sg_at zd_dX12_stroke_32 4 rfl rfl)
theorem dX12_stroke_41 : decode cX12_stroke 41 = .ok (.getfield 97, 3) := dc_180 (sg_at zd_dX12_stroke_32 5 rfl rfl) rfl
theorem dX12_stroke_44 : decode cX12_stroke 44 = .ok (.iload_n 1, 1) := dc_27 (sg_at zd_dX12_stroke_32 6 rfl rfl)
theorem dX12_stroke_45 : decode cX12_stroke 45 = .ok (.iaload, 1) := dc_46 (sg_at zd_dX12_stroke_32 7 rfl rfl)
theorem dX12_stroke_46 : decode cX12_stroke 46 = .ok (.ifCond .gt 12, 3) := dc_157 (sg_at zd_dX12_stroke_32 8 rfl rfl) rfl
theorem dX12_stroke_49 : decode cX12_stroke 49 = .ok (.aload_n 0, 1) := dc_42 (sg_at zd_dX12_stroke_32 9 rfl rfl)
theorem dX12_stroke_50 : decode cX12_stroke 50 = .ok (.getfield 100, 3) := dc_180 (sg_at zd_dX12_stroke_32 10 rfl rfl) rfl
theorem dX12_stroke_53 : decode cX12_stroke 53 = .ok (.iload_n 1, 1) := dc_27 (sg_at zd_dX12_stroke_32 11 rfl rfl)
theorem dX12_stroke_54 : decode cX12_stroke 54 = .ok (.iaload, 1) := dc_46 (sg_at zd_dX12_stroke_32 12 rfl rfl)
theorem dX12_stroke_55 : decode cX12_stroke 55 = .ok (.ifCond .ne 6, 3) := dc_154 (sg_at zd_dX12_stroke_32 13 rfl rfl) rfl
theorem dX12_stroke_58 : decode cX12_stroke 58 = .ok (.bipush (-2), 2) := dc_16 (sg_at zd_dX12_stroke_32 14 rfl rfl) rfl
theorem dX12_stroke_60 : decode cX12_stroke 60 = .ok (.ireturn, 1) := dc_172 (sg_at zd_dX12_stroke_32 15 rfl rfl)
theorem dX12_stroke_61 : decode cX12_stroke 61 = .ok (.aload_n 0, 1) := dc_42 (sg_at zd_dX12_stroke_32 16 rfl rfl)
theorem dX12_stroke_62 : decode cX12_stroke 62 = .ok (.invokevirtual 469, 3) := dc_182 (sg_at zd_dX12_stroke_32 17 rfl rfl) rfl
theorem dX12_stroke_65 : decode cX12_stroke 65 = .ok (.aload_n 0, 1) := dc_42 (sg_at zd_dX12_stroke_32 18 rfl rfl)
theorem dX12_stroke_66 : decode cX12_stroke 66 = .ok (.getfield 88, 3) := dc_180 (sg_at zd_dX12_stroke_32 19 rfl rfl) rfl
theorem zd_dX12_stroke_69 : sg (cX12_stroke.data.toList.drop 69) [[27], [29], [79], [42], [180, 0, 100], [27], [92], [46], [4], [100], [79], [29], [172]] = true := by decide +kernel
theorem dX12_stroke_69 : decode cX12_stroke 69 = .ok (.iload_n 1, 1) := dc_27 (sg_at zd_dX12_stroke_69 0 rfl rfl)
theorem dX12_stroke_70 : decode cX12_stroke 70 = .ok (.iload_n 3, 1) := dc_29 (sg_at zd_dX12_stroke_69 1 rfl rfl)
theorem dX12_stroke_71 : decode cX12_stroke 71 = .ok (.iastore, 1) := dc_79 (sg_at zd_dX12_stroke_69 2 rfl rfl)
theorem dX12_stroke_72 : decode cX12_stroke 72 = .ok (.aload_n 0, 1) := dc_42 (sg_at zd_dX12_stroke_69 3 rfl rfl)
theorem dX12_stroke_73 : decode cX12_stroke 73 = .ok (.getfield 100, 3) := dc_180 (sg_at zd_dX12_stroke_69 4 rfl rfl) rfl
theorem dX12_stroke_76 : decode cX12_stroke 76 = .ok (.iload_n 1, 1) := dc_27 (sg_at zd_dX12_stroke_69 5 rfl rfl)
theorem dX12_stroke_77 : decode cX12_stroke 77 = .ok (.dup2, 1) := dc_92 (sg_at zd_dX12_stroke_69 6 rfl rfl)
theorem dX12_stroke_78 : decode cX12_stroke 78 = .ok (.iaload, 1) := dc_46 (sg_at zd_dX12_stroke_69 7 rfl rfl)
theorem dX12_stroke_79 : decode cX12_stroke 79 = .ok (.iconst 1, 1) := dc_4 (sg_at zd_dX12_stroke_69 8 rfl rfl)
theorem dX12_stroke_80 : decode cX12_stroke 80 = .ok (.isub, 1) := dc_100 (sg_at zd_dX12_stroke_69 9 rfl rfl)
theorem dX12_stroke_81 : decode cX12_stroke 81 = .ok (.iastore, 1) := dc_79 (sg_at zd_dX12_stroke_69 10 rfl rfl)
theorem dX12_stroke_82 : decode cX12_stroke 82 = .ok (.iload_n 3, 1) := dc_29 (sg_at zd_dX12_stroke_69 11 rfl rfl)
theorem dX12_stroke_83 : decode cX12_stroke 83 = .ok (.ireturn, 1) := dc_172 (sg_at zd_dX12_stroke_69 12 rfl rfl)
theorem zd_dX12_table_0 : sg (cX12_table.data.toList.drop 0) [[42], [3], [181, 0, 154], [27], [3], [6], [184, 0, 199], [153, 0, 30], [28], [155, 0, 26], [29], [3], [16, 7], [184, 0, 199], [153, 0, 16], [29], [8], [162, 0, 13], [29], [42]] = true := by decide +kernel
theorem dX12_table_0 : decode cX12_table 0 = .ok (.aload_n 0, 1) := dc_42 (sg_at zd_dX12_table_0 0 rfl rfl)
theorem dX12_table_1 : decode cX12_table 1 = .ok (.iconst 0, 1) := dc_3 (sg_at zd_dX12_table_0 1 rfl rfl)
theorem dX12_table_2 : decode cX12_table 2 = .ok (.putfield 154, 3) := dc_181 (sg_at zd_dX12_table_0 2 rfl rfl) rfl
theorem dX12_table_5 : decode cX12_table 5 = .ok (.iload_n 1, 1) := dc_27 (sg_at zd_dX12_table_0 3 rfl rfl)
theorem dX12_table_6 : decode cX12_table 6 = .ok (.iconst 0, 1) := dc_3 (sg_at zd_dX12_table_0 4 rfl rfl)
theorem dX12_table_7 : decode cX12_table 7 = .ok (.iconst 3, 1) := dc_6 (sg_at zd_dX12_table_0 5 rfl rfl)
theorem dX12_table_8 : decode cX12_table 8 = .ok (.invokestatic 199, 3) := dc_184 (sg_at zd_dX12_table_0 6 rfl rfl) rfl
theorem dX12_table_11 : decode cX12_table 11 = .ok (.ifCond .eq 30, 3) := dc_153 (sg_at zd_dX12_table_0 7 rfl rfl) rfl
theorem dX12_table_14 : decode cX12_table 14 = .ok (.iload_n 2, 1) := dc_28 (sg_at zd_dX12_table_0 8 rfl rfl)
theorem dX12_table_15 : decode cX12_table 15 = .ok (.ifCond .lt 26, 3) := dc_155 (sg_at zd_dX12_table_0 9 rfl rfl) rfl
theorem dX12_table_18 : decode cX12_table 18 = .ok (.iload_n 3, 1) := dc_29 (sg_at zd_dX12_table_0 10 rfl rfl)
theorem dX12_table_19 : decode cX12_table 19 = .ok (.iconst 0, 1) := dc_3 (sg_at zd_dX12_table_0 11 rfl rfl)
theorem dX12_table_20 : decode cX12_table 20 = .ok (.bipush 7, 2) := dc_16 (sg_at zd_dX12_table_0 12 rfl rfl) rfl
theorem dX12_table_22 : decode cX12_table 22 = .ok (.invokestatic 199, 3) := dc_184 (sg_at zd_dX12_table_0 13 rfl rfl) rfl
theorem dX12_table_25 : decode cX12_table 25 = .ok (.ifCond .eq 16, 3) := dc_153 (sg_at zd_dX12_table_0 14 rfl rfl) rfl
theorem dX12_table_28 : decode cX12_table 28 = .ok (.iload_n 3, 1) := dc_29 (sg_at zd_dX12_table_0 15 rfl rfl)
theorem dX12_table_29 : decode cX12_table 29 = .ok (.iconst 5, 1) := dc_8 (sg_at zd_dX12_table_0 16 rfl rfl)
theorem dX12_table_30 : decode cX12_table 30 = .ok (.if_icmp .ge 13, 3) := dc_162 (sg_at zd_dX12_table_0 17 rfl rfl) rfl
theorem dX12_table_33 : decode cX12_table 33 = .ok (.iload_n 3, 1) := dc_29 (sg_at zd_dX12_table_0 18 rfl rfl)
theorem dX12_table_34 : decode cX12_table 34 = .ok (.aload_n 0, 1) := dc_42 (sg_at zd_dX12_table_0 19 rfl rfl)
theorem zd_dX12_table_35 : sg (cX12_table.data.toList.drop 35) [[180, 0, 247], [161, 0, 5], [2], [172], [42], [27], [28], [182, 2, 3], [29], [8], [162, 0, 14], [42], [180, 0, 91], [8], [29], [96], [46], [167, 0, 37], [29], [8]] = true := by decide +kernel
theorem dX12_table_35 : decode cX12_table 35 = .ok (.getfield 247, 3) := dc_180 (sg_at zd_dX12_table_35 0 rfl rfl) rfl
theorem dX12_table_38 : decode cX12_table 38 = .ok (.if_icmp .lt 5, 3) := dc_161 (sg_at zd_dX12_table_35 1 rfl rfl) rfl
theorem dX12_table_41 : decode cX12_table 41 = .ok (.iconst (-1), 1) := dc_2 (sg_at zd_dX12_table_35 2 rfl rfl)
theorem dX12_table_42 : decode cX12_table 42 = .ok (.ireturn, 1) := dc_172 (sg_at zd_dX12_table_35 3 rfl rfl)
theorem dX12_table_43 : decode cX12_table 43 = .ok (.aload_n 0, 1) := dc_42 (sg_at zd_dX12_table_35 4 rfl rfl)
theorem dX12_table_44 : decode cX12_table 44 = .ok (.iload_n 1, 1) := dc_27 (sg_at zd_dX12_table_35 5 rfl rfl)
theorem dX12_table_45 : decode cX12_table 45 = .ok (.iload_n 2, 1) := dc_28 (sg_at zd_dX12_table_35 6 rfl rfl)
theorem dX12_table_46 : decode cX12_table 46 = .ok (.invokevirtual 515, 3) := dc_182 (sg_at zd_dX12_table_35 7 rfl rfl) rfl
theorem dX12_table_49 : decode cX12_table 49 = .ok (.iload_n 3, 1) := dc_29 (sg_at zd_dX12_table_35 8 rfl rfl)
theorem dX12_table_50 : decode cX12_table 50 = .ok (.iconst 5, 1) := dc_8 (sg_at zd_dX12_table_35 9 rfl rfl)
theorem dX12_table_51 : decode cX12_table 51 = .ok (.if_icmp .ge 14, 3) := dc_162 (sg_at zd_dX12_table_35 10 rfl rfl) rfl
theorem dX12_table_54 : decode cX12_table 54 = .ok (.aload_n 0, 1) := dc_42 (sg_at zd_dX12_table_35 11 rfl rfl)
theorem dX12_table_55 : decode cX12_table 55 = .ok (.getfield 91, 3) := dc_180 (sg_at zd_dX12_table_35 12 rfl rfl) rfl
theorem dX12_table_58 : decode cX12_table 58 = .ok (.iconst 5, 1) := dc_8 (sg_at zd_dX12_table_35 13 rfl rfl)
theorem dX12_table_59 : decode cX12_table 59 = .ok (.iload_n 3, 1) := dc_29 (sg_at zd_dX12_table_35 14 rfl rfl)
theorem dX12_table_60 : decode cX12_table 60 = .ok (.iadd, 1) := dc_96 (sg_at zd_dX12_table_35 15 rfl rfl)
theorem dX12_table_61 : decode cX12_table 61 = .ok (.iaload, 1) := dc_46 (sg_at zd_dX12_table_35 16 rfl rfl)
theorem dX12_table_62 : decode cX12_table 62 = .ok (.goto 37, 3) := dc_167 (sg_at zd_dX12_table_35 17 rfl rfl) rfl
theorem dX12_table_65 : decode cX12_table 65 = .ok (.iload_n 3, 1) := dc_29 (sg_at zd_dX12_table_35 18 rfl rfl)
theorem dX12_table_66 : decode cX12_table 66 = .ok (.iconst 5, 1) := dc_8 (sg_at zd_dX12_table_35 19 rfl rfl)
theorem zd_dX12_table_67 : sg (cX12_table.data.toList.drop 67) [[160, 0, 12], [42], [180, 0, 109], [4], [46], [167, 0, 23], [29], [16, 6], [160, 0, 12], [42], [180, 0, 112], [4], [46], [167, 0, 8], [42], [4], [182, 2, 6], [172]] = true := by decide +kernel
theorem dX12_table_67 : decode cX12_table 67 = .ok (.if_icmp .ne 12, 3) := dc_160 (sg_at zd_dX12_table_67 0 rfl rfl) rfl
theorem dX12_table_70 : decode cX12_table 70 = .ok (.aload_n 0, 1) := dc_42 (sg_at zd_dX12_table_67 1 rfl rfl)
theorem dX12_table_71 : decode cX12_table 71 = .ok (.getfield 109, 3) := dc_180 (sg_at zd_dX12_table_67 2 rfl rfl) rfl
theorem dX12_table_74 : decode cX12_table 74 = .ok (.iconst 1, 1) := dc_4 (sg_at zd_dX12_table_67 3 rfl rfl)
theorem dX12_table_75 : decode cX12_table 75 = .ok (.iaload, 1) := dc_46 (sg_at zd_dX12_table_67 4 rfl rfl)
theorem dX12_table_76 : decode cX12_table 76 = .ok (.goto 23, 3) := dc_167 (sg_at zd_dX12_table_67 5 rfl rfl) rfl
theorem dX12_table_79 : decode cX12_table 79 = .ok (.iload_n 3, 1) := dc_29 (sg_at zd_dX12_table_67 6 rfl rfl)
theorem dX12_table_80 : decode cX12_table 80 = .ok (.bipush 6, 2) := dc_16 (sg_at zd_dX12_table_67 7 rfl rfl) rfl
theorem dX12_table_82 : decode cX12_table 82 = .ok (.if_icmp .ne 12, 3) := dc_160 (sg_at zd_dX12_table_67 8 rfl rfl) rfl
theorem dX12_table_85 : decode cX12_table 85 = .ok (.aload_n 0, 1) := dc_42 (sg_at zd_dX12_table_67 9 rfl rfl)
theorem dX12_table_86 : decode cX12_table 86 = .ok (.getfield 112, 3) := dc_180 (sg_at zd_dX12_table_67 10 rfl rfl) rfl
theorem dX12_table_89 : decode cX12_table 89 = .ok (.iconst 1, 1) := dc_4 (sg_at zd_dX12_table_67 11 rfl rfl)
theorem dX12_table_90 : decode cX12_table 90 = .ok (.iaload, 1) := dc_46 (sg_at zd_dX12_table_67 12 rfl rfl)
theorem dX12_table_91 : decode cX12_table 91 = .ok (.goto 8, 3) := dc_167 (sg_at zd_dX12_table_67 13 rfl rfl) rfl
theorem dX12_table_94 : decode cX12_table 94 = .ok (.aload_n 0, 1) := dc_42 (sg_at zd_dX12_table_67 14 rfl rfl)
theorem dX12_table_95 : decode cX12_table 95 = .ok (.iconst 1, 1) := dc_4 (sg_at zd_dX12_table_67 15 rfl rfl)
theorem dX12_table_96 : decode cX12_table 96 = .ok (.invokevirtual 518, 3) := dc_182 (sg_at zd_dX12_table_67 16 rfl rfl) rfl
theorem dX12_table_99 : decode cX12_table 99 = .ok (.ireturn, 1) := dc_172 (sg_at zd_dX12_table_67 17 rfl rfl)
theorem zd_dX12_text_0 : sg (cX12_text.data.toList.drop 0) [[42], [3], [181, 0, 154], [27], [155, 0, 11], [27], [42], [180, 0, 157], [164, 0, 6], [16, 254], [172], [42], [27], [181, 0, 166], [42], [3], [181, 0, 157], [42], [3], [181, 0, 160]] = true := by decide +kernel
theorem dX12_text_0 : decode cX12_text 0 = .ok (.aload_n 0, 1) := dc_42 (sg_at zd_dX12_text_0 0 rfl rfl)
theorem dX12_text_1 : decode cX12_text 1 = .ok (.iconst 0, 1) := dc_3 (sg_at zd_dX12_text_0 1 rfl rfl)
theorem dX12_text_2 : decode cX12_text 2 = .ok (.putfield 154, 3) := dc_181 (sg_at zd_dX12_text_0 2 rfl rfl) rfl
theorem dX12_text_5 : decode cX12_text 5 = .ok (.iload_n 1, 1) := dc_27 (sg_at zd_dX12_text_0 3 rfl rfl)
theorem dX12_text_6 : decode cX12_text 6 = .ok (.ifCond .lt 11, 3) := dc_155 (sg_at zd_dX12_text_0 4 rfl rfl) rfl
theorem dX12_text_9 : decode cX12_text 9 = .ok (.iload_n 1, 1) := dc_27 (sg_at zd_dX12_text_0 5 rfl rfl)
theorem dX12_text_10 : decode cX12_text 10 = .ok (.aload_n 0, 1) := dc_42 (sg_at zd_dX12_text_0 6 rfl rfl)
theorem dX12_text_11 : decode cX12_text 11 = .ok (.getfield 157, 3) := dc_180 (sg_at zd_dX12_text_0 7 rfl rfl) rfl
theorem dX12_text_14 : decode cX12_text 14 = .ok (.if_icmp .le 6, 3) := dc_164 (sg_at zd_dX12_text_0 8 rfl rfl) rfl
theorem dX12_text_17 : decode cX12_text 17 = .ok (.bipush (-2), 2) := dc_16 (sg_at zd_dX12_text_0 9 rfl rfl) rfl
theorem dX12_text_19 : decode cX12_text 19 = .ok (.ireturn, 1) := dc_172 (sg_at zd_dX12_text_0 10 rfl rfl)
theorem dX12_text_20 : decode cX12_text 20 = .ok (.aload_n 0, 1) := dc_42 (sg_at zd_dX12_text_0 11 rfl rfl)
theorem dX12_text_21 : decode cX12_text 21 = .ok (.iload_n 1, 1) := dc_27 (sg_at zd_dX12_text_0 12 rfl rfl)
theorem dX12_text_22 : decode cX12_text 22 = .ok (.putfield 166, 3) := dc_181 (sg_at zd_dX12_text_0 13 rfl rfl) rfl
theorem dX12_text_25 : decode cX12_text 25 = .ok (.aload_n 0, 1) := dc_42 (sg_at zd_dX12_text_0 14 rfl rfl)
theorem dX12_text_26 : decode cX12_text 26 = .ok (.iconst 0, 1) := dc_3 (sg_at zd_dX12_text_0 15 rfl rfl)
theorem dX12_text_27 : decode cX12_text 27 = .ok (.putfield 157, 3) := dc_181 (sg_at zd_dX12_text_0 16 rfl rfl) rfl
theorem dX12_text_30 : decode cX12_text 30 = .ok (.aload_n 0, 1) := dc_42 (sg_at zd_dX12_text_0 17 rfl rfl)
theorem dX12_text_31 : decode cX12_text 31 = .ok (.iconst 0, 1) := dc_3 (sg_at zd_dX12_text_0 18 rfl rfl)
theorem dX12_text_32 : decode cX12_text 32 = .ok (.putfield 160, 3) := dc_181 (sg_at zd_dX12_text_0 19 rfl rfl) rfl
theorem zd_dX12_text_35 : sg (cX12_text.data.toList.drop 35) [[42], [2], [181, 0, 16], [42], [3], [181, 0, 169], [42], [182, 0, 148], [42], [182, 0, 206], [3], [61], [42], [180, 0, 172], [153, 0, 18], [42], [182, 1, 39], [154, 0, 5], [2], [172]] = true := by decide +kernel
theorem dX12_text_35 : decode cX12_text 35 = .ok (.aload_n 0, 1) := dc_42 (sg_at zd_dX12_text_35 0 rfl rfl)
theorem dX12_text_36 : decode cX12_text 36 = .ok (.iconst (-1), 1) := dc_2 (sg_at zd_dX12_text_35 1 rfl rfl)
theorem dX12_text_37 : decode cX12_text 37 = .ok (.putfield 16, 3) := dc_181 (sg_at zd_dX12_text_35 2 rfl rfl) rfl
theorem dX12_text_40 : decode cX12_text 40 = .ok (.aload_n 0, 1) := dc_42 (sg_at zd_dX12_text_35 3 rfl rfl)
theorem dX12_text_41 : decode cX12_text 41 = .ok (.iconst 0, 1) := dc_3 (sg_at zd_dX12_text_35 4 rfl rfl)
theorem dX12_text_42 : decode cX12_text 42 = .ok (.putfield 169, 3) := dc_181 (sg_at zd_dX12_text_35 5 rfl rfl) rfl
theorem dX12_text_45 : decode cX12_text 45 = .ok (.aload_n 0, 1) := dc_42 (sg_at zd_dX12_text_35 6 rfl rfl)
theorem dX12_text_46 : decode cX12_text 46 = .ok (.invokevirtual 148, 3) := dc_182 (sg_at zd_dX12_text_35 7 rfl rfl) rfl
theorem dX12_text_49 : decode cX12_text 49 = .ok (.aload_n 0, 1) := dc_42 (sg_at zd_dX12_text_35 8 rfl rfl)
theorem dX12_text_50 : decode cX12_text 50 = .ok (.invokevirtual 206, 3) := dc_182 (sg_at zd_dX12_text_35 9 rfl rfl) rfl
theorem dX12_text_53 : decode cX12_text 53 = .ok (.iconst 0, 1) := dc_3 (sg_at zd_dX12_text_35 10 rfl rfl)
theorem dX12_text_54 : decode cX12_text 54 = .ok (.istore_n 2, 1) := dc_61 (sg_at zd_dX12_text_35 11 rfl rfl)
theorem dX12_text_55 : decode cX12_text 55 = .ok (.aload_n 0, 1) := dc_42 (sg_at zd_dX12_text_35 12 rfl rfl)
theorem dX12_text_56 : decode cX12_text 56 = .ok (.getfield 172, 3) := dc_180 (sg_at zd_dX12_text_35 13 rfl rfl) rfl
theorem dX12_text_59 : decode cX12_text 59 = .ok (.ifCond .eq 18, 3) := dc_153 (sg_at zd_dX12_text_35 14 rfl rfl) rfl
theorem dX12_text_62 : decode cX12_text 62 = .ok (.aload_n 0, 1) := dc_42 (sg_at zd_dX12_text_35 15 rfl rfl)
theorem dX12_text_63 : decode cX12_text 63 = .ok (.invokevirtual 295, 3) := dc_182 (sg_at zd_dX12_text_35 16 rfl rfl) rfl
theorem dX12_text_66 : decode cX12_text 66 = .ok (.ifCond .ne 5, 3) := dc_154 (sg_at zd_dX12_text_35 17 rfl rfl) rfl
theorem dX12_text_69 : decode cX12_text 69 = .ok (.iconst (-1), 1) := dc_2 (sg_at zd_dX12_text_35 18 rfl rfl)
theorem dX12_text_70 : decode cX12_text 70 = .ok (.ireturn, 1) := dc_172 (sg_at zd_dX12_text_35 19 rfl rfl)
theorem zd_dX12_text_71 : sg (cX12_text.data.toList.drop 71) [[132, 2, 1], [167, 255, 237], [42], [182, 0, 151], [28], [172]] = true := by decide +kernel
theorem dX12_text_71 : decode cX12_text 71 = .ok (.iinc 2 1, 3) := dc_132 (sg_at zd_dX12_text_71 0 rfl rfl) rfl
theorem dX12_text_74 : decode cX12_text 74 = .ok (.goto (-19), 3) := dc_167 (sg_at zd_dX12_text_71 1 rfl rfl) rfl
theorem dX12_text_77 : decode cX12_text 77 = .ok (.aload_n 0, 1) := dc_42 (sg_at zd_dX12_text_71 2 rfl rfl)
theorem dX12_text_78 : decode cX12_text 78 = .ok (.invokevirtual 151, 3) := dc_182 (sg_at zd_dX12_text_71 3 rfl rfl) rfl
theorem dX12_text_81 : decode cX12_text 81 = .ok (.iload_n 2, 1) := dc_28 (sg_at zd_dX12_text_71 4 rfl rfl)
theorem dX12_text_82 : decode cX12_text 82 = .ok (.ireturn, 1) := dc_172 (sg_at zd_dX12_text_71 5 rfl rfl)
theorem zd_dX12_tried_0 : sg (cX12_tried.data.toList.drop 0) [[42], [3], [181, 0, 154], [27], [3], [7], [184, 0, 199], [153, 0, 7], [29], [156, 0, 5], [2], [172], [27], [4], [159, 0, 8], [27], [7], [160, 0, 14], [42], [28]] = true := by decide +kernel
theorem dX12_tried_0 : decode cX12_tried 0 = .ok (.aload_n 0, 1) := dc_42 (sg_at zd_dX12_tried_0 0 rfl rfl)
theorem dX12_tried_1 : decode cX12_tried 1 = .ok (.iconst 0, 1) := dc_3 (sg_at zd_dX12_tried_0 1 rfl rfl)
theorem dX12_tried_2 : decode cX12_tried 2 = .ok (.putfield 154, 3) := dc_181 (sg_at zd_dX12_tried_0 2 rfl rfl) rfl
theorem dX12_tried_5 : decode cX12_tried 5 = .ok (.iload_n 1, 1) := dc_27 (sg_at zd_dX12_tried_0 3 rfl rfl)
theorem dX12_tried_6 : decode cX12_tried 6 = .ok (.iconst 0, 1) := dc_3 (sg_at zd_dX12_tried_0 4 rfl rfl)
theorem dX12_tried_7 : decode cX12_tried 7 = .ok (.iconst 4, 1) := dc_7 (sg_at zd_dX12_tried_0 5 rfl rfl)
theorem dX12_tried_8 : decode cX12_tried 8 = .ok (.invokestatic 199, 3) := dc_184 (sg_at zd_dX12_tried_0 6 rfl rfl) rfl
theorem dX12_tried_11 : decode cX12_tried 11 = .ok (.ifCond .eq 7, 3) := dc_153 (sg_at zd_dX12_tried_0 7 rfl rfl) rfl
theorem dX12_tried_14 : decode cX12_tried 14 = .ok (.iload_n 3, 1) := dc_29 (sg_at zd_dX12_tried_0 8 rfl rfl)
theorem dX12_tried_15 : decode cX12_tried 15 = .ok (.ifCond .ge 5, 3) := dc_156 (sg_at zd_dX12_tried_0 9 rfl rfl) rfl
theorem dX12_tried_18 : decode cX12_tried 18 = .ok (.iconst (-1), 1) := dc_2 (sg_at zd_dX12_tried_0 10 rfl rfl)
theorem dX12_tried_19 : decode cX12_tried 19 = .ok (.ireturn, 1) := dc_172 (sg_at zd_dX12_tried_0 11 rfl rfl)
theorem dX12_tried_20 : decode cX12_tried 20 = .ok (.iload_n 1, 1) := dc_27 (sg_at zd_dX12_tried_0 12 rfl rfl)
theorem dX12_tried_21 : decode cX12_tried 21 = .ok (.iconst 1, 1) := dc_4 (sg_at zd_dX12_tried_0 13 rfl rfl)
theorem dX12_tried_22 : decode cX12_tried 22 = .ok (.if_icmp .eq 8, 3) := dc_159 (sg_at zd_dX12_tried_0 14 rfl rfl) rfl
theorem dX12_tried_25 : decode cX12_tried 25 = .ok (.iload_n 1, 1) := dc_27 (sg_at zd_dX12_tried_0 15 rfl rfl)
theorem dX12_tried_26 : decode cX12_tried 26 = .ok (.iconst 4, 1) := dc_7 (sg_at zd_dX12_tried_0 16 rfl rfl)
theorem dX12_tried_27 : decode cX12_tried 27 = .ok (.if_icmp .ne 14, 3) := dc_160 (sg_at zd_dX12_tried_0 17 rfl rfl) rfl
theorem dX12_tried_30 : decode cX12_tried 30 = .ok (.aload_n 0, 1) := dc_42 (sg_at zd_dX12_tried_0 18 rfl rfl)
theorem dX12_tried_31 : decode cX12_tried 31 = .ok (.iload_n 2, 1) := dc_28 (sg_at zd_dX12_tried_0 19 rfl rfl)
theorem zd_dX12_tried_32 : sg (cX12_tried.data.toList.drop 32) [[182, 1, 157], [154, 0, 12], [167, 0, 7], [28], [153, 0, 5], [2], [172], [42], [180, 1, 116], [55, 4], [42], [29], [133], [181, 1, 116], [42], [182, 1, 253], [42], [27], [181, 0, 115], [42]] = true := by decide +kernel
theorem dX12_tried_32 : decode cX12_tried 32 = .ok (.invokevirtual 413, 3) := dc_182 (sg_at zd_dX12_tried_32 0 rfl rfl) rfl
theorem dX12_tried_35 : decode cX12_tried 35 = .ok (.ifCond .ne 12, 3) := dc_154 (sg_at zd_dX12_tried_32 1 rfl rfl) rfl
theorem dX12_tried_38 : decode cX12_tried 38 = .ok (.goto 7, 3) := dc_167 (sg_at zd_dX12_tried_32 2 rfl rfl) rfl
theorem dX12_tried_41 : decode cX12_tried 41 = .ok (.iload_n 2, 1) := dc_28 (sg_at zd_dX12_tried_32 3 rfl rfl)
theorem dX12_tried_42 : decode cX12_tried 42 = .ok (.ifCond .eq 5, 3) := dc_153 (sg_at zd_dX12_tried_32 4 rfl rfl) rfl
theorem dX12_tried_45 : decode cX12_tried 45 = .ok (.iconst (-1), 1) := dc_2 (sg_at zd_dX12_tried_32 5 rfl rfl)
theorem dX12_tried_46 : decode cX12_tried 46 = .ok (.ireturn, 1) := dc_172 (sg_at zd_dX12_tried_32 6 rfl rfl)
theorem dX12_tried_47 : decode cX12_tried 47 = .ok (.aload_n 0, 1) := dc_42 (sg_at zd_dX12_tried_32 7 rfl rfl)
theorem dX12_tried_48 : decode cX12_tried 48 = .ok (.getfield 372, 3) := dc_180 (sg_at zd_dX12_tried_32 8 rfl rfl) rfl
theorem dX12_tried_51 : decode cX12_tried 51 = .ok (.lstore 4, 2) := dc_55 (sg_at zd_dX12_tried_32 9 rfl rfl)
theorem dX12_tried_53 : decode cX12_tried 53 = .ok (.aload_n 0, 1) := dc_42 (sg_at zd_dX12_tried_32 10 rfl rfl)
theorem dX12_tried_54 : decode cX12_tried 54 = .ok (.iload_n 3, 1) := dc_29 (sg_at zd_dX12_tried_32 11 rfl rfl)
theorem dX12_tried_55 : decode cX12_tried 55 = .ok (.i2l, 1) := dc_133 (sg_at zd_dX12_tried_32 12 rfl rfl)
theorem dX12_tried_56 : decode cX12_tried 56 = .ok (.putfield 372, 3) := dc_181 (sg_at zd_dX12_tried_32 13 rfl rfl) rfl
theorem dX12_tried_59 : decode cX12_tried 59 = .ok (.aload_n 0, 1) := dc_42 (sg_at zd_dX12_tried_32 14 rfl rfl)
theorem dX12_tried_60 : decode cX12_tried 60 = .ok (.invokevirtual 509, 3) := dc_182 (sg_at zd_dX12_tried_32 15 rfl rfl) rfl
theorem dX12_tried_63 : decode cX12_tried 63 = .ok (.aload_n 0, 1) := dc_42 (sg_at zd_dX12_tried_32 16 rfl rfl)
theorem dX12_tried_64 : decode cX12_tried 64 = .ok (.iload_n 1, 1) := dc_27 (sg_at zd_dX12_tried_32 17 rfl rfl)
theorem dX12_tried_65 : decode cX12_tried 65 = .ok (.putfield 115, 3) := dc_181 (sg_at zd_dX12_tried_32 18 rfl rfl) rfl
theorem dX12_tried_68 : decode cX12_tried 68 = .ok (.aload_n 0, 1) := dc_42 (sg_at zd_dX12_tried_32 19 rfl rfl)
theorem zd_dX12_tried_69 : sg (cX12_tried.data.toList.drop 69) [[28], [181, 1, 174], [3], [54, 6], [21, 6], [42], [180, 0, 247], [162, 0, 29], [27], [7], [160, 0, 24], [42], [180, 0, 88], [8], [21, 6], [96], [42], [180, 0, 88], [28], [46]] = true := by decide +kernel
theorem dX12_tried_69 : decode cX12_tried 69 = .ok (.iload_n 2, 1) := dc_28 (sg_at zd_dX12_tried_69 0 rfl rfl)
theorem dX12_tried_70 : decode cX12_tried 70 = .ok (.putfield 430, 3) := dc_181 (sg_at zd_dX12_tried_69 1 rfl rfl) rfl
theorem dX12_tried_73 : decode cX12_tried 73 = .ok (.iconst 0, 1) := dc_3 (sg_at zd_dX12_tried_69 2 rfl rfl)
theorem dX12_tried_74 : decode cX12_tried 74 = .ok (.istore 6, 2) := dc_54 (sg_at zd_dX12_tried_69 3 rfl rfl)
theorem dX12_tried_76 : decode cX12_tried 76 = .ok (.iload 6, 2) := dc_21 (sg_at zd_dX12_tried_69 4 rfl rfl)
theorem dX12_tried_78 : decode cX12_tried 78 = .ok (.aload_n 0, 1) := dc_42 (sg_at zd_dX12_tried_69 5 rfl rfl)
theorem dX12_tried_79 : decode cX12_tried 79 = .ok (.getfield 247, 3) := dc_180 (sg_at zd_dX12_tried_69 6 rfl rfl) rfl
theorem dX12_tried_82 : decode cX12_tried 82 = .ok (.if_icmp .ge 29, 3) := dc_162 (sg_at zd_dX12_tried_69 7 rfl rfl) rfl
theorem dX12_tried_85 : decode cX12_tried 85 = .ok (.iload_n 1, 1) := dc_27 (sg_at zd_dX12_tried_69 8 rfl rfl)
theorem dX12_tried_86 : decode cX12_tried 86 = .ok (.iconst 4, 1) := dc_7 (sg_at zd_dX12_tried_69 9 rfl rfl)
theorem dX12_tried_87 : decode cX12_tried 87 = .ok (.if_icmp .ne 24, 3) := dc_160 (sg_at zd_dX12_tried_69 10 rfl rfl) rfl
theorem dX12_tried_90 : decode cX12_tried 90 = .ok (.aload_n 0, 1) := dc_42 (sg_at zd_dX12_tried_69 11 rfl rfl)
theorem dX12_tried_91 : decode cX12_tried 91 = .ok (.getfield 88, 3) := dc_180 (sg_at zd_dX12_tried_69 12 rfl rfl) rfl
theorem dX12_tried_94 : decode cX12_tried 94 = .ok (.iconst 5, 1) := dc_8 (sg_at zd_dX12_tried_69 13 rfl rfl)
theorem dX12_tried_95 : decode cX12_tried 95 = .ok (.iload 6, 2) := dc_21 (sg_at zd_dX12_tried_69 14 rfl rfl)
theorem dX12_tried_97 : decode cX12_tried 97 = .ok (.iadd, 1) := dc_96 (sg_at zd_dX12_tried_69 15 rfl rfl)
theorem dX12_tried_98 : decode cX12_tried 98 = .ok (.aload_n 0, 1) := dc_42 (sg_at zd_dX12_tried_69 16 rfl rfl)
theorem dX12_tried_99 : decode cX12_tried 99 = .ok (.getfield 88, 3) := dc_180 (sg_at zd_dX12_tried_69 17 rfl rfl) rfl
theorem dX12_tried_102 : decode cX12_tried 102 = .ok (.iload_n 2, 1) := dc_28 (sg_at zd_dX12_tried_69 18 rfl rfl)
theorem dX12_tried_103 : decode cX12_tried 103 = .ok (.iaload, 1) := dc_46 (sg_at zd_dX12_tried_69 19 rfl rfl)
theorem zd_dX12_tried_104 : sg (cX12_tried.data.toList.drop 104) [[79], [132, 6, 1], [167, 255, 224], [42], [42], [180, 1, 113], [182, 2, 0], [42], [2], [181, 0, 115], [42], [22, 4], [181, 1, 116], [42], [4], [182, 2, 9], [172]] = true := by decide +kernel
theorem dX12_tried_104 : decode cX12_tried 104 = .ok (.iastore, 1) := dc_79 (sg_at zd_dX12_tried_104 0 rfl rfl)
theorem dX12_tried_105 : decode cX12_tried 105 = .ok (.iinc 6 1, 3) := dc_132 (sg_at zd_dX12_tried_104 1 rfl rfl) rfl
theorem dX12_tried_108 : decode cX12_tried 108 = .ok (.goto (-32), 3) := dc_167 (sg_at zd_dX12_tried_104 2 rfl rfl) rfl
theorem dX12_tried_111 : decode cX12_tried 111 = .ok (.aload_n 0, 1) := dc_42 (sg_at zd_dX12_tried_104 3 rfl rfl)
theorem dX12_tried_112 : decode cX12_tried 112 = .ok (.aload_n 0, 1) := dc_42 (sg_at zd_dX12_tried_104 4 rfl rfl)
theorem dX12_tried_113 : decode cX12_tried 113 = .ok (.getfield 369, 3) := dc_180 (sg_at zd_dX12_tried_104 5 rfl rfl) rfl
theorem dX12_tried_116 : decode cX12_tried 116 = .ok (.invokevirtual 512, 3) := dc_182 (sg_at zd_dX12_tried_104 6 rfl rfl) rfl
theorem dX12_tried_119 : decode cX12_tried 119 = .ok (.aload_n 0, 1) := dc_42 (sg_at zd_dX12_tried_104 7 rfl rfl)
theorem dX12_tried_120 : decode cX12_tried 120 = .ok (.iconst (-1), 1) := dc_2 (sg_at zd_dX12_tried_104 8 rfl rfl)
theorem dX12_tried_121 : decode cX12_tried 121 = .ok (.putfield 115, 3) := dc_181 (sg_at zd_dX12_tried_104 9 rfl rfl) rfl
theorem dX12_tried_124 : decode cX12_tried 124 = .ok (.aload_n 0, 1) := dc_42 (sg_at zd_dX12_tried_104 10 rfl rfl)
theorem dX12_tried_125 : decode cX12_tried 125 = .ok (.lload 4, 2) := dc_22 (sg_at zd_dX12_tried_104 11 rfl rfl)
theorem dX12_tried_127 : decode cX12_tried 127 = .ok (.putfield 372, 3) := dc_181 (sg_at zd_dX12_tried_104 12 rfl rfl) rfl
theorem dX12_tried_130 : decode cX12_tried 130 = .ok (.aload_n 0, 1) := dc_42 (sg_at zd_dX12_tried_104 13 rfl rfl)
theorem dX12_tried_131 : decode cX12_tried 131 = .ok (.iconst 1, 1) := dc_4 (sg_at zd_dX12_tried_104 14 rfl rfl)
theorem dX12_tried_132 : decode cX12_tried 132 = .ok (.invokevirtual 521, 3) := dc_182 (sg_at zd_dX12_tried_104 15 rfl rfl) rfl
theorem dX12_tried_135 : decode cX12_tried 135 = .ok (.ireturn, 1) := dc_172 (sg_at zd_dX12_tried_104 16 rfl rfl)
theorem zd_dX12_undo_0 : sg (cX12_undo.data.toList.drop 0) [[42], [3], [181, 0, 154], [42], [180, 1, 123], [154, 0, 5], [2], [172], [42], [89], [180, 1, 123], [4], [100], [181, 1, 123], [3], [60], [27], [8], [162, 0, 51], [42]] = true := by decide +kernel
theorem dX12_undo_0 : decode cX12_undo 0 = .ok (.aload_n 0, 1) := dc_42 (sg_at zd_dX12_undo_0 0 rfl rfl)
theorem dX12_undo_1 : decode cX12_undo 1 = .ok (.iconst 0, 1) := dc_3 (sg_at zd_dX12_undo_0 1 rfl rfl)
theorem dX12_undo_2 : decode cX12_undo 2 = .ok (.putfield 154, 3) := dc_181 (sg_at zd_dX12_undo_0 2 rfl rfl) rfl
theorem dX12_undo_5 : decode cX12_undo 5 = .ok (.aload_n 0, 1) := dc_42 (sg_at zd_dX12_undo_0 3 rfl rfl)
theorem dX12_undo_6 : decode cX12_undo 6 = .ok (.getfield 379, 3) := dc_180 (sg_at zd_dX12_undo_0 4 rfl rfl) rfl
theorem dX12_undo_9 : decode cX12_undo 9 = .ok (.ifCond .ne 5, 3) := dc_154 (sg_at zd_dX12_undo_0 5 rfl rfl) rfl
theorem dX12_undo_12 : decode cX12_undo 12 = .ok (.iconst (-1), 1) := dc_2 (sg_at zd_dX12_undo_0 6 rfl rfl)
theorem dX12_undo_13 : decode cX12_undo 13 = .ok (.ireturn, 1) := dc_172 (sg_at zd_dX12_undo_0 7 rfl rfl)
theorem dX12_undo_14 : decode cX12_undo 14 = .ok (.aload_n 0, 1) := dc_42 (sg_at zd_dX12_undo_0 8 rfl rfl)
theorem dX12_undo_15 : decode cX12_undo 15 = .ok (.dup, 1) := dc_89 (sg_at zd_dX12_undo_0 9 rfl rfl)
theorem dX12_undo_16 : decode cX12_undo 16 = .ok (.getfield 379, 3) := dc_180 (sg_at zd_dX12_undo_0 10 rfl rfl) rfl
theorem dX12_undo_19 : decode cX12_undo 19 = .ok (.iconst 1, 1) := dc_4 (sg_at zd_dX12_undo_0 11 rfl rfl)
theorem dX12_undo_20 : decode cX12_undo 20 = .ok (.isub, 1) := dc_100 (sg_at zd_dX12_undo_0 12 rfl rfl)
theorem dX12_undo_21 : decode cX12_undo 21 = .ok (.putfield 379, 3) := dc_181 (sg_at zd_dX12_undo_0 13 rfl rfl) rfl
theorem dX12_undo_24 : decode cX12_undo 24 = .ok (.iconst 0, 1) := dc_3 (sg_at zd_dX12_undo_0 14 rfl rfl)
theorem dX12_undo_25 : decode cX12_undo 25 = .ok (.istore_n 1, 1) := dc_60 (sg_at zd_dX12_undo_0 15 rfl rfl)
theorem dX12_undo_26 : decode cX12_undo 26 = .ok (.iload_n 1, 1) := dc_27 (sg_at zd_dX12_undo_0 16 rfl rfl)
theorem dX12_undo_27 : decode cX12_undo 27 = .ok (.iconst 5, 1) := dc_8 (sg_at zd_dX12_undo_0 17 rfl rfl)
theorem dX12_undo_28 : decode cX12_undo 28 = .ok (.if_icmp .ge 51, 3) := dc_162 (sg_at zd_dX12_undo_0 18 rfl rfl) rfl
theorem dX12_undo_31 : decode cX12_undo 31 = .ok (.aload_n 0, 1) := dc_42 (sg_at zd_dX12_undo_0 19 rfl rfl)
theorem zd_dX12_undo_32 : sg (cX12_undo.data.toList.drop 32) [[180, 0, 88], [27], [42], [180, 0, 142], [16, 11], [42], [180, 1, 123], [104], [27], [96], [46], [79], [42], [180, 0, 100], [27], [42], [180, 0, 142], [16, 11], [42], [180, 1, 123]] = true := by decide +kernel
theorem dX12_undo_32 : decode cX12_undo 32 = .ok (.getfield 88, 3) := dc_180 (sg_at zd_dX12_undo_32 0 rfl rfl) rfl
theorem dX12_undo_35 : decode cX12_undo 35 = .ok (.iload_n 1, 1) := dc_27 (sg_at zd_dX12_undo_32 1 rfl rfl)
theorem dX12_undo_36 : decode cX12_undo 36 = .ok (.aload_n 0, 1) := dc_42 (sg_at zd_dX12_undo_32 2 rfl rfl)
theorem dX12_undo_37 : decode cX12_undo 37 = .ok (.getfield 142, 3) := dc_180 (sg_at zd_dX12_undo_32 3 rfl rfl) rfl
theorem dX12_undo_40 : decode cX12_undo 40 = .ok (.bipush 11, 2) := dc_16 (sg_at zd_dX12_undo_32 4 rfl rfl) rfl
theorem dX12_undo_42 : decode cX12_undo 42 = .ok (.aload_n 0, 1) := dc_42 (sg_at zd_dX12_undo_32 5 rfl rfl)
theorem dX12_undo_43 : decode cX12_undo 43 = .ok (.getfield 379, 3) := dc_180 (sg_at zd_dX12_undo_32 6 rfl rfl) rfl
theorem dX12_undo_46 : decode cX12_undo 46 = .ok (.imul, 1) := dc_104 (sg_at zd_dX12_undo_32 7 rfl rfl)
theorem dX12_undo_47 : decode cX12_undo 47 = .ok (.iload_n 1, 1) := dc_27 (sg_at zd_dX12_undo_32 8 rfl rfl)
theorem dX12_undo_48 : decode cX12_undo 48 = .ok (.iadd, 1) := dc_96 (sg_at zd_dX12_undo_32 9 rfl rfl)
theorem dX12_undo_49 : decode cX12_undo 49 = .ok (.iaload, 1) := dc_46 (sg_at zd_dX12_undo_32 10 rfl rfl)
theorem dX12_undo_50 : decode cX12_undo 50 = .ok (.iastore, 1) := dc_79 (sg_at zd_dX12_undo_32 11 rfl rfl)
theorem dX12_undo_51 : decode cX12_undo 51 = .ok (.aload_n 0, 1) := dc_42 (sg_at zd_dX12_undo_32 12 rfl rfl)
theorem dX12_undo_52 : decode cX12_undo 52 = .ok (.getfield 100, 3) := dc_180 (sg_at zd_dX12_undo_32 13 rfl rfl) rfl
theorem dX12_undo_55 : decode cX12_undo 55 = .ok (.iload_n 1, 1) := dc_27 (sg_at zd_dX12_undo_32 14 rfl rfl)
theorem dX12_undo_56 : decode cX12_undo 56 = .ok (.aload_n 0, 1) := dc_42 (sg_at zd_dX12_undo_32 15 rfl rfl)
theorem dX12_undo_57 : decode cX12_undo 57 = .ok (.getfield 142, 3) := dc_180 (sg_at zd_dX12_undo_32 16 rfl rfl) rfl
theorem dX12_undo_60 : decode cX12_undo 60 = .ok (.bipush 11, 2) := dc_16 (sg_at zd_dX12_undo_32 17 rfl rfl) rfl
theorem dX12_undo_62 : decode cX12_undo 62 = .ok (.aload_n 0, 1) := dc_42 (sg_at zd_dX12_undo_32 18 rfl rfl)
theorem dX12_undo_63 : decode cX12_undo 63 = .ok (.getfield 379, 3) := dc_180 (sg_at zd_dX12_undo_32 19 rfl rfl) rfl
theorem zd_dX12_undo_66 : sg (cX12_undo.data.toList.drop 66) [[104], [8], [96], [27], [96], [46], [79], [132, 1, 1], [167, 255, 206], [42], [42], [180, 0, 142], [16, 11], [42], [180, 1, 123], [104], [16, 10], [96], [46], [181, 1, 113]] = true := by decide +kernel
theorem dX12_undo_66 : decode cX12_undo 66 = .ok (.imul, 1) := dc_104 (sg_at zd_dX12_undo_66 0 rfl rfl)
theorem dX12_undo_67 : decode cX12_undo 67 = .ok (.iconst 5, 1) := dc_8 (sg_at zd_dX12_undo_66 1 rfl rfl)
theorem dX12_undo_68 : decode cX12_undo 68 = .ok (.iadd, 1) := dc_96 (sg_at zd_dX12_undo_66 2 rfl rfl)
theorem dX12_undo_69 : decode cX12_undo 69 = .ok (.iload_n 1, 1) := dc_27 (sg_at zd_dX12_undo_66 3 rfl rfl)
theorem dX12_undo_70 : decode cX12_undo 70 = .ok (.iadd, 1) := dc_96 (sg_at zd_dX12_undo_66 4 rfl rfl)
theorem dX12_undo_71 : decode cX12_undo 71 = .ok (.iaload, 1) := dc_46 (sg_at zd_dX12_undo_66 5 rfl rfl)
theorem dX12_undo_72 : decode cX12_undo 72 = .ok (.iastore, 1) := dc_79 (sg_at zd_dX12_undo_66 6 rfl rfl)
theorem dX12_undo_73 : decode cX12_undo 73 = .ok (.iinc 1 1, 3) := dc_132 (sg_at zd_dX12_undo_66 7 rfl rfl) rfl
theorem dX12_undo_76 : decode cX12_undo 76 = .ok (.goto (-50), 3) := dc_167 (sg_at zd_dX12_undo_66 8 rfl rfl) rfl
theorem dX12_undo_79 : decode cX12_undo 79 = .ok (.aload_n 0, 1) := dc_42 (sg_at zd_dX12_undo_66 9 rfl rfl)
theorem dX12_undo_80 : decode cX12_undo 80 = .ok (.aload_n 0, 1) := dc_42 (sg_at zd_dX12_undo_66 10 rfl rfl)
theorem dX12_undo_81 : decode cX12_undo 81 = .ok (.getfield 142, 3) := dc_180 (sg_at zd_dX12_undo_66 11 rfl rfl) rfl
theorem dX12_undo_84 : decode cX12_undo 84 = .ok (.bipush 11, 2) := dc_16 (sg_at zd_dX12_undo_66 12 rfl rfl) rfl
theorem dX12_undo_86 : decode cX12_undo 86 = .ok (.aload_n 0, 1) := dc_42 (sg_at zd_dX12_undo_66 13 rfl rfl)
theorem dX12_undo_87 : decode cX12_undo 87 = .ok (.getfield 379, 3) := dc_180 (sg_at zd_dX12_undo_66 14 rfl rfl) rfl
theorem dX12_undo_90 : decode cX12_undo 90 = .ok (.imul, 1) := dc_104 (sg_at zd_dX12_undo_66 15 rfl rfl)
theorem dX12_undo_91 : decode cX12_undo 91 = .ok (.bipush 10, 2) := dc_16 (sg_at zd_dX12_undo_66 16 rfl rfl) rfl
theorem dX12_undo_93 : decode cX12_undo 93 = .ok (.iadd, 1) := dc_96 (sg_at zd_dX12_undo_66 17 rfl rfl)
theorem dX12_undo_94 : decode cX12_undo 94 = .ok (.iaload, 1) := dc_46 (sg_at zd_dX12_undo_66 18 rfl rfl)
theorem dX12_undo_95 : decode cX12_undo 95 = .ok (.putfield 369, 3) := dc_181 (sg_at zd_dX12_undo_66 19 rfl rfl) rfl
theorem zd_dX12_undo_98 : sg (cX12_undo.data.toList.drop 98) [[42], [180, 1, 123], [172]] = true := by decide +kernel
theorem dX12_undo_98 : decode cX12_undo 98 = .ok (.aload_n 0, 1) := dc_42 (sg_at zd_dX12_undo_98 0 rfl rfl)
theorem dX12_undo_99 : decode cX12_undo 99 = .ok (.getfield 379, 3) := dc_180 (sg_at zd_dX12_undo_98 1 rfl rfl) rfl
theorem dX12_undo_102 : decode cX12_undo 102 = .ok (.ireturn, 1) := dc_172 (sg_at zd_dX12_undo_98 2 rfl rfl)
theorem zd_dX12_wave_0 : sg (cX12_wave.data.toList.drop 0) [[42], [3], [181, 0, 154], [42], [27], [182, 1, 163], [154, 0, 6], [16, 252], [172], [28]] = true := by decide +kernel
theorem dX12_wave_0 : decode cX12_wave 0 = .ok (.aload_n 0, 1) := dc_42 (sg_at zd_dX12_wave_0 0 rfl rfl)
theorem dX12_wave_1 : decode cX12_wave 1 = .ok (.iconst 0, 1) := dc_3 (sg_at zd_dX12_wave_0 1 rfl rfl)
theorem dX12_wave_2 : decode cX12_wave 2 = .ok (.putfield 154, 3) := dc_181 (sg_at zd_dX12_wave_0 2 rfl rfl) rfl
theorem dX12_wave_5 : decode cX12_wave 5 = .ok (.aload_n 0, 1) := dc_42 (sg_at zd_dX12_wave_0 3 rfl rfl)
theorem dX12_wave_6 : decode cX12_wave 6 = .ok (.iload_n 1, 1) := dc_27 (sg_at zd_dX12_wave_0 4 rfl rfl)
theorem dX12_wave_7 : decode cX12_wave 7 = .ok (.invokevirtual 419, 3) := dc_182 (sg_at zd_dX12_wave_0 5 rfl rfl) rfl
theorem dX12_wave_10 : decode cX12_wave 10 = .ok (.ifCond .ne 6, 3) := dc_154 (sg_at zd_dX12_wave_0 6 rfl rfl) rfl
theorem dX12_wave_13 : decode cX12_wave 13 = .ok (.bipush (-4), 2) := dc_16 (sg_at zd_dX12_wave_0 7 rfl rfl) rfl
theorem dX12_wave_15 : decode cX12_wave 15 = .ok (.ireturn, 1) := dc_172 (sg_at zd_dX12_wave_0 8 rfl rfl)
theorem dX12_wave_16 : decode cX12_wave 16 = .ok (.iload_n 2, 1) := dc_28 (sg_at zd_dX12_wave_0 9 rfl rfl)
theorem dX12_wave_17 : decode cX12_wave 17 = .ok (.tableswitch 79 0 4 #[35, 42, 49, 56, 72], 35) := by decide +kernel
theorem zd_dX12_wave_52 : sg (cX12_wave.data.toList.drop 52) [[42], [180, 0, 48], [27], [46], [172], [42], [180, 0, 51], [27], [46], [172], [42], [180, 0, 54], [27], [46], [172], [27], [42], [180, 0, 45], [42], [180, 0, 54]] = true := by decide +kernel
theorem dX12_wave_52 : decode cX12_wave 52 = .ok (.aload_n 0, 1) := dc_42 (sg_at zd_dX12_wave_52 0 rfl rfl)
theorem dX12_wave_53 : decode cX12_wave 53 = .ok (.getfield 48, 3) := dc_180 (sg_at zd_dX12_wave_52 1 rfl rfl) rfl
theorem dX12_wave_56 : decode cX12_wave 56 = .ok (.iload_n 1, 1) := dc_27 (sg_at zd_dX12_wave_52 2 rfl rfl)
theorem dX12_wave_57 : decode cX12_wave 57 = .ok (.iaload, 1) := dc_46 (sg_at zd_dX12_wave_52 3 rfl rfl)
theorem dX12_wave_58 : decode cX12_wave 58 = .ok (.ireturn, 1) := dc_172 (sg_at zd_dX12_wave_52 4 rfl rfl)
theorem dX12_wave_59 : decode cX12_wave 59 = .ok (.aload_n 0, 1) := dc_42 (sg_at zd_dX12_wave_52 5 rfl rfl)
theorem dX12_wave_60 : decode cX12_wave 60 = .ok (.getfield 51, 3) := dc_180 (sg_at zd_dX12_wave_52 6 rfl rfl) rfl
theorem dX12_wave_63 : decode cX12_wave 63 = .ok (.iload_n 1, 1) := dc_27 (sg_at zd_dX12_wave_52 7 rfl rfl)
theorem dX12_wave_64 : decode cX12_wave 64 = .ok (.iaload, 1) := dc_46 (sg_at zd_dX12_wave_52 8 rfl rfl)
theorem dX12_wave_65 : decode cX12_wave 65 = .ok (.ireturn, 1) := dc_172 (sg_at zd_dX12_wave_52 9 rfl rfl)
theorem dX12_wave_66 : decode cX12_wave 66 = .ok (.aload_n 0, 1) := dc_42 (sg_at zd_dX12_wave_52 10 rfl rfl)
theorem dX12_wave_67 : decode cX12_wave 67 = .ok (.getfield 54, 3) := dc_180 (sg_at zd_dX12_wave_52 11 rfl rfl) rfl
theorem dX12_wave_70 : decode cX12_wave 70 = .ok (.iload_n 1, 1) := dc_27 (sg_at zd_dX12_wave_52 12 rfl rfl)
theorem dX12_wave_71 : decode cX12_wave 71 = .ok (.iaload, 1) := dc_46 (sg_at zd_dX12_wave_52 13 rfl rfl)
theorem dX12_wave_72 : decode cX12_wave 72 = .ok (.ireturn, 1) := dc_172 (sg_at zd_dX12_wave_52 14 rfl rfl)
theorem dX12_wave_73 : decode cX12_wave 73 = .ok (.iload_n 1, 1) := dc_27 (sg_at zd_dX12_wave_52 15 rfl rfl)
theorem dX12_wave_74 : decode cX12_wave 74 = .ok (.aload_n 0, 1) := dc_42 (sg_at zd_dX12_wave_52 16 rfl rfl)
theorem dX12_wave_75 : decode cX12_wave 75 = .ok (.getfield 45, 3) := dc_180 (sg_at zd_dX12_wave_52 17 rfl rfl) rfl
theorem dX12_wave_78 : decode cX12_wave 78 = .ok (.aload_n 0, 1) := dc_42 (sg_at zd_dX12_wave_52 18 rfl rfl)
theorem dX12_wave_79 : decode cX12_wave 79 = .ok (.getfield 54, 3) := dc_180 (sg_at zd_dX12_wave_52 19 rfl rfl) rfl
theorem zd_dX12_wave_82 : sg (cX12_wave.data.toList.drop 82) [[27], [46], [46], [100], [4], [96], [172], [42], [180, 0, 103], [27], [46], [172], [16, 252], [172]] = true := by decide +kernel
theorem dX12_wave_82 : decode cX12_wave 82 = .ok (.iload_n 1, 1) := dc_27 (sg_at zd_dX12_wave_82 0 rfl rfl)
theorem dX12_wave_83 : decode cX12_wave 83 = .ok (.iaload, 1) := dc_46 (sg_at zd_dX12_wave_82 1 rfl rfl)
theorem dX12_wave_84 : decode cX12_wave 84 = .ok (.iaload, 1) := dc_46 (sg_at zd_dX12_wave_82 2 rfl rfl)
theorem dX12_wave_85 : decode cX12_wave 85 = .ok (.isub, 1) := dc_100 (sg_at zd_dX12_wave_82 3 rfl rfl)
theorem dX12_wave_86 : decode cX12_wave 86 = .ok (.iconst 1, 1) := dc_4 (sg_at zd_dX12_wave_82 4 rfl rfl)
theorem dX12_wave_87 : decode cX12_wave 87 = .ok (.iadd, 1) := dc_96 (sg_at zd_dX12_wave_82 5 rfl rfl)
theorem dX12_wave_88 : decode cX12_wave 88 = .ok (.ireturn, 1) := dc_172 (sg_at zd_dX12_wave_82 6 rfl rfl)
theorem dX12_wave_89 : decode cX12_wave 89 = .ok (.aload_n 0, 1) := dc_42 (sg_at zd_dX12_wave_82 7 rfl rfl)
theorem dX12_wave_90 : decode cX12_wave 90 = .ok (.getfield 103, 3) := dc_180 (sg_at zd_dX12_wave_82 8 rfl rfl) rfl
theorem dX12_wave_93 : decode cX12_wave 93 = .ok (.iload_n 1, 1) := dc_27 (sg_at zd_dX12_wave_82 9 rfl rfl)
theorem dX12_wave_94 : decode cX12_wave 94 = .ok (.iaload, 1) := dc_46 (sg_at zd_dX12_wave_82 10 rfl rfl)
theorem dX12_wave_95 : decode cX12_wave 95 = .ok (.ireturn, 1) := dc_172 (sg_at zd_dX12_wave_82 11 rfl rfl)
theorem dX12_wave_96 : decode cX12_wave 96 = .ok (.bipush (-4), 2) := dc_16 (sg_at zd_dX12_wave_82 12 rfl rfl) rfl
theorem dX12_wave_98 : decode cX12_wave 98 = .ok (.ireturn, 1) := dc_172 (sg_at zd_dX12_wave_82 13 rfl rfl)
section
variable {p : Program} {l : Launch} {e : Env} {s : State} {m : MethodId} {args : Array Value} {below : List Frame} {meth : Method} {c : Code} {D : va_G} {cy : Nat → ClassId} {b : Nat} {A : Nat → Prop} {fl : Bool}
def vX12_restAt : List Cond := .code yX12_restAt cX12_restAt 6 (some .int) :: TB
theorem gX12_restAt_X12_isRest : GoodIn vX12_restAt (wsV RX12 494 RX12 yX12_isRest vX12_isRest) := gV_of wT_52_23 wT_53_0 wT_53_1 wT_1_5 wT_53_2
theorem gX12_restAt_X12_wayAt : GoodIn vX12_restAt (va_wsS RX12 485 yX12_wayAt vX12_wayAt) := gS_of wT_52_16 wT_52_17 wT_1_5 wT_52_18
theorem gX12_restAt_X12_layGame : GoodIn vX12_restAt (wsV RX12 491 RX12 yX12_layGame vX12_layGame) := gV_of wT_52_12 wT_52_13 wT_52_14 wT_1_5 wT_52_15
theorem cd12_restAt : Cd yX12_restAt 3 := ⟨by decide, by decide, by decide +kernel⟩
set_option maxHeartbeats 4000000 in
set_option maxRecDepth 100000 in
theorem T12_restAt_12 (S : CallFix p m c cX12_restAt 6 s args vX12_restAt RX12) (hr : meth.sig.returnType = (some .int)) (hlo : meth.locks = false) {out : Int32 × PH} : ∀ (n : Nat) {h : PH} {a0 : Nat} {x3 : Int32} {x4 : Int32} {x5 : Int32} (f : F12_restAt_12  n h a0 x3 x4 x5 = some out) {H : Heap} {locs : List Loc} (I : ph_I D cy b A fl h s H locs) {ls : Array Slot} (hl : lv_has ls 6 [(0, .ref (b + a0)), (3, .int x3), (4, .int x4), (5, .int x5)]), W p l e ({ frames := 9, cells := 0, slots := 0, locals := 221 } : Room) s m args below meth c H locs 0 0 (MQ below (va_Qi (fun (r : Int32) (u : PH) => (r, u) = out) (ph_B D cy b A fl) A) args s 0 0 A) (F0 m 12 ls []) := by
  intro n
  induction n with
  | zero => intro h a0 x3 x4 x5 f; rw [F12_restAt_12] at f; cases f
  | succ n ih =>
    intro h a0 x3 x4 x5 f H locs I ls hl
    rw [F12_restAt_12] at f
    refine lv_iload S.1 S.2.1 dX12_restAt_12 (lv_at hl 3 rfl) ?_
    refine lv_bipush (v := 25) S.1 S.2.1 dX12_restAt_14 (by decide) ?_
    refine lv_icmp_ge (tgt := 65) S.1 S.2.1 dX12_restAt_16 (by decide) (fun q1 => ?_) (fun q1 => ?_)
    · have f := (if_pos q1).symm.trans f
      refine lv_iload_n S.1 S.2.1 dX12_restAt_65 rfl (lv_at hl 1 rfl) ?_
      refine lv_if_ge (tgt := 74) S.1 S.2.1 dX12_restAt_66 (by decide) (fun q2 => ?_) (fun q2 => ?_)
      · have f := (if_pos q2).symm.trans f
        refine lv_bipush (v := (-2)) S.1 S.2.1 dX12_restAt_74 (by decide) ?_
        exact o_iret S hr hlo I f dX12_restAt_76
      · have f := (if_neg q2).symm.trans f
        refine lv_iload S.1 S.2.1 dX12_restAt_69 (lv_at hl 2 rfl) ?_
        refine lv_goto (tgt := 76) S.1 S.2.1 dX12_restAt_71 (by decide) ?_
        exact o_iret S hr hlo I f dX12_restAt_76
    · have f := (if_neg q1).symm.trans f
      refine lv_aload_n S.1 S.2.1 dX12_restAt_19 rfl (lv_at hl 0 rfl) ?_
      refine lv_iload S.1 S.2.1 dX12_restAt_20 (lv_at hl 3 rfl) ?_
      obtain ⟨o3, e4, f⟩ := ob f
      refine o_Vi S (As := [.int x5]) (rest := []) (ci := 12) (M12_isRest l D cy b A fl e4) gX12_restAt_X12_isRest rfl rfl rfl cd12_isRest ⟨Nat.le_of_ble_eq_true rfl, Nat.le_of_ble_eq_true rfl⟩ I (gd e4).1 clX12 rfl rfl hl.1 rfl (Nat.le_of_ble_eq_true rfl) dX12_restAt_22 ⟨Nat.le_of_ble_eq_true rfl, Nat.le_of_ble_eq_true rfl⟩ (fun H locs I => ?_)
      refine lv_if_ne (tgt := 31) S.1 S.2.1 dX12_restAt_25 (by decide) (fun q5 => ?_) (fun q5 => ?_)
      · have f := (if_neg q5).symm.trans f
        refine lv_iload S.1 S.2.1 dX12_restAt_31 (lv_at hl 2 rfl) ?_
        refine lv_iload_n S.1 S.2.1 dX12_restAt_33 rfl (lv_at hl 1 rfl) ?_
        refine lv_icmp_ne (tgt := 56) S.1 S.2.1 dX12_restAt_34 (by decide) (fun q6 => ?_) (fun q6 => ?_)
        · have f := (if_neg q6).symm.trans f
          refine lv_iinc (v := (x4 + 1)) (lv' := [(4, .int (x4 + 1)), (0, .ref (b + a0)), (3, .int x3), (5, .int x5)]) S.1 S.2.1 dX12_restAt_56 hl (k := 2) rfl (congrArg (fun z => x4 + z) (by decide)) (by decide) rfl (fun ls hl => ?_)
          refine lv_iinc (v := (x5 + 1)) (lv' := [(5, .int (x5 + 1)), (4, .int (x4 + 1)), (0, .ref (b + a0)), (3, .int x3)]) S.1 S.2.1 dX12_restAt_59 hl (k := 3) rfl (congrArg (fun z => x5 + z) (by decide)) (by decide) rfl (fun ls hl => ?_)
          refine lv_goto (tgt := 12) S.1 S.2.1 dX12_restAt_62 (by decide) ?_
          exact ih f I (lv_sub hl [2, 3, 1, 0] rfl)
        · have f := (if_pos q6).symm.trans f
          refine lv_bipush (v := 10) S.1 S.2.1 dX12_restAt_37 (by decide) ?_
          refine lv_iload S.1 S.2.1 dX12_restAt_39 (lv_at hl 3 rfl) ?_
          refine lv_iconst (v := 5) S.1 S.2.1 dX12_restAt_41 (by decide) ?_
          refine lv_idiv S.1 S.2.1 dX12_restAt_42 (by decide) ?_
          obtain ⟨o7, e8, f⟩ := ob f
          refine o_Si S (As := [.int (x5 / 5)]) (rest := [.int 10]) (M12_wayAt l D cy b A fl e8) gX12_restAt_X12_wayAt rfl rfl rfl cd12_wayAt ⟨Nat.le_of_ble_eq_true rfl, Nat.le_of_ble_eq_true rfl⟩ I rfl hl.1 rfl (Nat.le_of_ble_eq_true rfl) dX12_restAt_43 ⟨Nat.le_of_ble_eq_true rfl, Nat.le_of_ble_eq_true rfl⟩ (fun H locs I => ?_)
          refine lv_imul S.1 S.2.1 dX12_restAt_46 ?_
          refine lv_iload S.1 S.2.1 dX12_restAt_47 (lv_at hl 3 rfl) ?_
          refine lv_iconst (v := 5) S.1 S.2.1 dX12_restAt_49 (by decide) ?_
          refine lv_irem S.1 S.2.1 dX12_restAt_50 (by decide) ?_
          obtain ⟨o9, e10, f⟩ := ob f
          refine o_Si S (As := [.int (x5 - x5 / 5 * 5)]) (rest := [.int (10 * o7.1)]) (M12_wayAt l D cy b A fl e10) gX12_restAt_X12_wayAt rfl rfl rfl cd12_wayAt ⟨Nat.le_of_ble_eq_true rfl, Nat.le_of_ble_eq_true rfl⟩ I rfl hl.1 rfl (Nat.le_of_ble_eq_true rfl) dX12_restAt_51 ⟨Nat.le_of_ble_eq_true rfl, Nat.le_of_ble_eq_true rfl⟩ (fun H locs I => ?_)
          refine lv_iadd S.1 S.2.1 dX12_restAt_54 ?_
          exact o_iret S hr hlo I f dX12_restAt_55
      · have f := (if_pos q5).symm.trans f
        refine lv_goto (tgt := 59) S.1 S.2.1 dX12_restAt_28 (by decide) ?_
        refine lv_iinc (v := (x5 + 1)) (lv' := [(5, .int (x5 + 1)), (0, .ref (b + a0)), (3, .int x3), (4, .int x4)]) S.1 S.2.1 dX12_restAt_59 hl (k := 3) rfl (congrArg (fun z => x5 + z) (by decide)) (by decide) rfl (fun ls hl => ?_)
        refine lv_goto (tgt := 12) S.1 S.2.1 dX12_restAt_62 (by decide) ?_
        exact ih f I (lv_sub hl [1, 2, 3, 0] rfl)
set_option maxHeartbeats 4000000 in
set_option maxRecDepth 100000 in
theorem T12_restAt_0 (S : CallFix p m c cX12_restAt 6 s args vX12_restAt RX12) (hr : meth.sig.returnType = (some .int)) (hlo : meth.locks = false) {out : Int32 × PH} {h : PH} {a0 : Nat} {x1 : Int32} {x2 : Int32} {x3 : Int32} (f : F12_restAt_0  h a0 x1 x2 x3 = some out) {H : Heap} {locs : List Loc} (I : ph_I D cy b A fl h s H locs) {ls : Array Slot} (hl : lv_has ls 6 [(0, .ref (b + a0)), (1, .int x1), (2, .int x2), (3, .int x3)]) : W p l e ({ frames := 9, cells := 0, slots := 0, locals := 221 } : Room) s m args below meth c H locs 0 0 (MQ below (va_Qi (fun (r : Int32) (u : PH) => (r, u) = out) (ph_B D cy b A fl) A) args s 0 0 A) (F0 m 0 ls []) := by
  unfold F12_restAt_0 at f
  refine lv_aload_n S.1 S.2.1 dX12_restAt_0 rfl (lv_at hl 0 rfl) ?_
  refine lv_iload_n S.1 S.2.1 dX12_restAt_1 rfl (lv_at hl 1 rfl) ?_
  refine lv_iload_n S.1 S.2.1 dX12_restAt_2 rfl (lv_at hl 2 rfl) ?_
  obtain ⟨o1, e2, f⟩ := ob f
  refine o_Vv S (As := [.int x1, .int x2]) (rest := []) (ci := 12) (M12_layGame l D cy b A fl e2) gX12_restAt_X12_layGame rfl rfl rfl cd12_layGame ⟨Nat.le_of_ble_eq_true rfl, Nat.le_of_ble_eq_true rfl⟩ I (gd e2).1 clX12 rfl rfl hl.1 rfl (Nat.le_of_ble_eq_true rfl) dX12_restAt_3 ⟨Nat.le_of_ble_eq_true rfl, Nat.le_of_ble_eq_true rfl⟩ (fun H locs I => ?_)
  refine lv_iconst (v := 0) S.1 S.2.1 dX12_restAt_6 (by decide) ?_
  refine lv_istore (lv' := [(4, .int 0), (0, .ref (b + a0)), (1, .int x1), (2, .int x2), (3, .int x3)]) S.1 S.2.1 dX12_restAt_7 hl (by decide) rfl (fun ls hl => ?_)
  refine lv_iconst (v := 0) S.1 S.2.1 dX12_restAt_9 (by decide) ?_
  refine lv_istore (lv' := [(5, .int 0), (4, .int 0), (0, .ref (b + a0)), (1, .int x1), (2, .int x2), (3, .int x3)]) S.1 S.2.1 dX12_restAt_10 hl (by decide) rfl (fun ls hl => ?_)
  exact T12_restAt_12 S hr hlo  1024 f I (lv_sub hl [2, 5, 1, 0] rfl)
theorem M12_restAt (l : Launch) (D : va_G) (cy : Nat → ClassId) (b : Nat) (A : Nat → Prop) (fl : Bool) {h : PH} {a0 : Nat} {x1 : Int32} {x2 : Int32} {x3 : Int32} {out : Int32 × PH} (f : F12_restAt h a0 x1 x2 x3 = some out) : Met l yX12_restAt vX12_restAt ({ frames := 9, cells := 0, slots := 0, locals := 221 } : Room) (va_Pc [.ref (b + a0), .int x1, .int x2, .int x3] (ph_B D cy b A fl h)) (va_Qi (fun (r : Int32) (u : PH) => (r, u) = out) (ph_B D cy b A fl) A) 0 0 A :=
  o_met (by decide) rfl (Nat.le_of_ble_eq_true rfl) rfl (fun p e s m below meth c S hr hlo hnm ls hl I => T12_restAt_0 S hr hlo ((gd f).2) I (lv_sub hl [0, 1, 2, 3] rfl))
def vX12_rest : List Cond := .code yX12_rest cX12_rest 4 (some .int) :: TB
theorem lp12_rest_154 : Pl vX12_rest RX12 154 12 2 .int := ⟨RX12, TX12, 87, tyX12, rfl, by decide, (fun w h9 => List.mem_cons_of_mem _ (wC_wsX120 w h9)), (List.mem_cons_of_mem _ wT_13_17), tyX12_ok, nmX12, rfl, rfl⟩
theorem gX12_rest_X12_isSurfer : GoodIn vX12_rest (wsV RX12 413 RX12 yX12_isSurfer vX12_isSurfer) := gV_of wT_34_14 wT_34_15 wT_34_16 wT_1_5 wT_34_17
theorem gX12_rest_X12_restAt : GoodIn vX12_rest (wsV RX12 497 RX12 yX12_restAt vX12_restAt) := gV_of wT_52_8 wT_52_9 wT_52_10 wT_1_5 wT_52_11
set_option maxHeartbeats 4000000 in
set_option maxRecDepth 100000 in
theorem T12_rest_0 (S : CallFix p m c cX12_rest 4 s args vX12_rest RX12) (hr : meth.sig.returnType = (some .int)) (hlo : meth.locks = false) {out : Int32 × PH} {h : PH} {a0 : Nat} {x1 : Int32} {x2 : Int32} {x3 : Int32} (f : F12_rest_0  h a0 x1 x2 x3 = some out) {H : Heap} {locs : List Loc} (I : ph_I D cy b A fl h s H locs) {ls : Array Slot} (hl : lv_has ls 4 [(0, .ref (b + a0)), (1, .int x1), (2, .int x2), (3, .int x3)]) : W p l e ({ frames := 10, cells := 0, slots := 0, locals := 246 } : Room) s m args below meth c H locs 0 0 (MQ below (va_Qi (fun (r : Int32) (u : PH) => (r, u) = out) (ph_B D cy b A fl) A) args s 0 0 A) (F0 m 0 ls []) := by
  unfold F12_rest_0 at f
  refine lv_aload_n S.1 S.2.1 dX12_rest_0 rfl (lv_at hl 0 rfl) ?_
  refine lv_iconst (v := 0) S.1 S.2.1 dX12_rest_1 (by decide) ?_
  obtain ⟨h1, e2, f⟩ := ob f
  refine o_pI S lp12_rest_154 I e2 dX12_rest_2 (fun H locs I => ?_)
  refine lv_aload_n S.1 S.2.1 dX12_rest_5 rfl (lv_at hl 0 rfl) ?_
  refine lv_iload_n S.1 S.2.1 dX12_rest_6 rfl (lv_at hl 1 rfl) ?_
  obtain ⟨o3, e4, f⟩ := ob f
  refine o_Vi S (As := [.int x1]) (rest := []) (ci := 12) (M12_isSurfer l D cy b A fl e4) gX12_rest_X12_isSurfer rfl rfl rfl cd12_isSurfer ⟨Nat.le_of_ble_eq_true rfl, Nat.le_of_ble_eq_true rfl⟩ I (gd e4).1 clX12 rfl rfl hl.1 rfl (Nat.le_of_ble_eq_true rfl) dX12_rest_7 ⟨Nat.le_of_ble_eq_true rfl, Nat.le_of_ble_eq_true rfl⟩ (fun H locs I => ?_)
  refine lv_if_eq (tgt := 40) S.1 S.2.1 dX12_rest_10 (by decide) (fun q5 => ?_) (fun q5 => ?_)
  · have f := (if_pos q5).symm.trans f
    refine lv_iconst (v := (-1)) S.1 S.2.1 dX12_rest_40 (by decide) ?_
    exact o_iret S hr hlo I f dX12_rest_41
  · have f := (if_neg q5).symm.trans f
    refine lv_aload_n S.1 S.2.1 dX12_rest_13 rfl (lv_at hl 0 rfl) ?_
    refine lv_iload_n S.1 S.2.1 dX12_rest_14 rfl (lv_at hl 2 rfl) ?_
    obtain ⟨o6, e7, f⟩ := ob f
    refine o_Vi S (As := [.int x2]) (rest := []) (ci := 12) (M12_isSurfer l D cy b A fl e7) gX12_rest_X12_isSurfer rfl rfl rfl cd12_isSurfer ⟨Nat.le_of_ble_eq_true rfl, Nat.le_of_ble_eq_true rfl⟩ I (gd e7).1 clX12 rfl rfl hl.1 rfl (Nat.le_of_ble_eq_true rfl) dX12_rest_15 ⟨Nat.le_of_ble_eq_true rfl, Nat.le_of_ble_eq_true rfl⟩ (fun H locs I => ?_)
    refine lv_if_eq (tgt := 40) S.1 S.2.1 dX12_rest_18 (by decide) (fun q8 => ?_) (fun q8 => ?_)
    · have f := (if_pos q8).symm.trans f
      refine lv_iconst (v := (-1)) S.1 S.2.1 dX12_rest_40 (by decide) ?_
      exact o_iret S hr hlo I f dX12_rest_41
    · have f := (if_neg q8).symm.trans f
      refine lv_iload_n S.1 S.2.1 dX12_rest_21 rfl (lv_at hl 1 rfl) ?_
      refine lv_iload_n S.1 S.2.1 dX12_rest_22 rfl (lv_at hl 2 rfl) ?_
      refine lv_icmp_eq (tgt := 40) S.1 S.2.1 dX12_rest_23 (by decide) (fun q9 => ?_) (fun q9 => ?_)
      · have f := (if_pos q9).symm.trans f
        refine lv_iconst (v := (-1)) S.1 S.2.1 dX12_rest_40 (by decide) ?_
        exact o_iret S hr hlo I f dX12_rest_41
      · have f := (if_neg q9).symm.trans f
        refine lv_iload_n S.1 S.2.1 dX12_rest_26 rfl (lv_at hl 3 rfl) ?_
        refine lv_if_lt (tgt := 40) S.1 S.2.1 dX12_rest_27 (by decide) (fun q10 => ?_) (fun q10 => ?_)
        · have f := (if_pos q10).symm.trans f
          refine lv_iconst (v := (-1)) S.1 S.2.1 dX12_rest_40 (by decide) ?_
          exact o_iret S hr hlo I f dX12_rest_41
        · have f := (if_neg q10).symm.trans f
          refine lv_aload_n S.1 S.2.1 dX12_rest_30 rfl (lv_at hl 0 rfl) ?_
          refine lv_iload_n S.1 S.2.1 dX12_rest_31 rfl (lv_at hl 1 rfl) ?_
          refine lv_iload_n S.1 S.2.1 dX12_rest_32 rfl (lv_at hl 2 rfl) ?_
          refine lv_iload_n S.1 S.2.1 dX12_rest_33 rfl (lv_at hl 3 rfl) ?_
          obtain ⟨o11, e12, f⟩ := ob f
          refine o_Vi S (As := [.int x1, .int x2, .int x3]) (rest := []) (ci := 12) (M12_restAt l D cy b A fl e12) gX12_rest_X12_restAt rfl rfl rfl cd12_restAt ⟨Nat.le_of_ble_eq_true rfl, Nat.le_of_ble_eq_true rfl⟩ I (gd e12).1 clX12 rfl rfl hl.1 rfl (Nat.le_of_ble_eq_true rfl) dX12_rest_34 ⟨Nat.le_of_ble_eq_true rfl, Nat.le_of_ble_eq_true rfl⟩ (fun H locs I => ?_)
          refine lv_goto (tgt := 41) S.1 S.2.1 dX12_rest_37 (by decide) ?_
          exact o_iret S hr hlo I f dX12_rest_41
theorem M12_rest (l : Launch) (D : va_G) (cy : Nat → ClassId) (b : Nat) (A : Nat → Prop) (fl : Bool) {h : PH} {a0 : Nat} {x1 : Int32} {x2 : Int32} {x3 : Int32} {out : Int32 × PH} (f : F12_rest h a0 x1 x2 x3 = some out) : Met l yX12_rest vX12_rest ({ frames := 10, cells := 0, slots := 0, locals := 246 } : Room) (va_Pc [.ref (b + a0), .int x1, .int x2, .int x3] (ph_B D cy b A fl h)) (va_Qi (fun (r : Int32) (u : PH) => (r, u) = out) (ph_B D cy b A fl) A) 0 0 A :=
  o_met (by decide) rfl (Nat.le_of_ble_eq_true rfl) rfl (fun p e s m below meth c S hr hlo hnm ls hl I => T12_rest_0 S hr hlo ((gd f).2) I (lv_sub hl [0, 1, 2, 3] rfl))
def vX12_rests : List Cond := .code yX12_rests cX12_rests 3 (some .int) :: TB
theorem lp12_rests_154 : Pl vX12_rests RX12 154 12 2 .int := ⟨RX12, TX12, 87, tyX12, rfl, by decide, (fun w h9 => List.mem_cons_of_mem _ (wC_wsX120 w h9)), (List.mem_cons_of_mem _ wT_13_17), tyX12_ok, nmX12, rfl, rfl⟩
theorem gX12_rests_X12_isSurfer : GoodIn vX12_rests (wsV RX12 413 RX12 yX12_isSurfer vX12_isSurfer) := gV_of wT_34_14 wT_34_15 wT_34_16 wT_1_5 wT_34_17
theorem gX12_rests_X12_restAt : GoodIn vX12_rests (wsV RX12 497 RX12 yX12_restAt vX12_restAt) := gV_of wT_52_8 wT_52_9 wT_52_10 wT_1_5 wT_52_11
set_option maxHeartbeats 4000000 in
set_option maxRecDepth 100000 in
theorem T12_rests_0 (S : CallFix p m c cX12_rests 3 s args vX12_rests RX12) (hr : meth.sig.returnType = (some .int)) (hlo : meth.locks = false) {out : Int32 × PH} {h : PH} {a0 : Nat} {x1 : Int32} {x2 : Int32} (f : F12_rests_0  h a0 x1 x2 = some out) {H : Heap} {locs : List Loc} (I : ph_I D cy b A fl h s H locs) {ls : Array Slot} (hl : lv_has ls 3 [(0, .ref (b + a0)), (1, .int x1), (2, .int x2)]) : W p l e ({ frames := 10, cells := 0, slots := 0, locals := 246 } : Room) s m args below meth c H locs 0 0 (MQ below (va_Qi (fun (r : Int32) (u : PH) => (r, u) = out) (ph_B D cy b A fl) A) args s 0 0 A) (F0 m 0 ls []) := by
  unfold F12_rests_0 at f
  refine lv_aload_n S.1 S.2.1 dX12_rests_0 rfl (lv_at hl 0 rfl) ?_
  refine lv_iconst (v := 0) S.1 S.2.1 dX12_rests_1 (by decide) ?_
  obtain ⟨h1, e2, f⟩ := ob f
  refine o_pI S lp12_rests_154 I e2 dX12_rests_2 (fun H locs I => ?_)
  refine lv_aload_n S.1 S.2.1 dX12_rests_5 rfl (lv_at hl 0 rfl) ?_
  refine lv_iload_n S.1 S.2.1 dX12_rests_6 rfl (lv_at hl 1 rfl) ?_
  obtain ⟨o3, e4, f⟩ := ob f
  refine o_Vi S (As := [.int x1]) (rest := []) (ci := 12) (M12_isSurfer l D cy b A fl e4) gX12_rests_X12_isSurfer rfl rfl rfl cd12_isSurfer ⟨Nat.le_of_ble_eq_true rfl, Nat.le_of_ble_eq_true rfl⟩ I (gd e4).1 clX12 rfl rfl hl.1 rfl (Nat.le_of_ble_eq_true rfl) dX12_rests_7 ⟨Nat.le_of_ble_eq_true rfl, Nat.le_of_ble_eq_true rfl⟩ (fun H locs I => ?_)
  refine lv_if_eq (tgt := 36) S.1 S.2.1 dX12_rests_10 (by decide) (fun q5 => ?_) (fun q5 => ?_)
  · have f := (if_pos q5).symm.trans f
    refine lv_iconst (v := (-1)) S.1 S.2.1 dX12_rests_36 (by decide) ?_
    exact o_iret S hr hlo I f dX12_rests_37
  · have f := (if_neg q5).symm.trans f
    refine lv_aload_n S.1 S.2.1 dX12_rests_13 rfl (lv_at hl 0 rfl) ?_
    refine lv_iload_n S.1 S.2.1 dX12_rests_14 rfl (lv_at hl 2 rfl) ?_
    obtain ⟨o6, e7, f⟩ := ob f
    refine o_Vi S (As := [.int x2]) (rest := []) (ci := 12) (M12_isSurfer l D cy b A fl e7) gX12_rests_X12_isSurfer rfl rfl rfl cd12_isSurfer ⟨Nat.le_of_ble_eq_true rfl, Nat.le_of_ble_eq_true rfl⟩ I (gd e7).1 clX12 rfl rfl hl.1 rfl (Nat.le_of_ble_eq_true rfl) dX12_rests_15 ⟨Nat.le_of_ble_eq_true rfl, Nat.le_of_ble_eq_true rfl⟩ (fun H locs I => ?_)
    refine lv_if_eq (tgt := 36) S.1 S.2.1 dX12_rests_18 (by decide) (fun q8 => ?_) (fun q8 => ?_)
    · have f := (if_pos q8).symm.trans f
      refine lv_iconst (v := (-1)) S.1 S.2.1 dX12_rests_36 (by decide) ?_
      exact o_iret S hr hlo I f dX12_rests_37
    · have f := (if_neg q8).symm.trans f
      refine lv_iload_n S.1 S.2.1 dX12_rests_21 rfl (lv_at hl 1 rfl) ?_
      refine lv_iload_n S.1 S.2.1 dX12_rests_22 rfl (lv_at hl 2 rfl) ?_
      refine lv_icmp_eq (tgt := 36) S.1 S.2.1 dX12_rests_23 (by decide) (fun q9 => ?_) (fun q9 => ?_)
      · have f := (if_pos q9).symm.trans f
        refine lv_iconst (v := (-1)) S.1 S.2.1 dX12_rests_36 (by decide) ?_
        exact o_iret S hr hlo I f dX12_rests_37
      · have f := (if_neg q9).symm.trans f
        refine lv_aload_n S.1 S.2.1 dX12_rests_26 rfl (lv_at hl 0 rfl) ?_
        refine lv_iload_n S.1 S.2.1 dX12_rests_27 rfl (lv_at hl 1 rfl) ?_
        refine lv_iload_n S.1 S.2.1 dX12_rests_28 rfl (lv_at hl 2 rfl) ?_
        refine lv_iconst (v := (-1)) S.1 S.2.1 dX12_rests_29 (by decide) ?_
        obtain ⟨o10, e11, f⟩ := ob f
        refine o_Vi S (As := [.int x1, .int x2, .int (-1)]) (rest := []) (ci := 12) (M12_restAt l D cy b A fl e11) gX12_rests_X12_restAt rfl rfl rfl cd12_restAt ⟨Nat.le_of_ble_eq_true rfl, Nat.le_of_ble_eq_true rfl⟩ I (gd e11).1 clX12 rfl rfl hl.1 rfl (Nat.le_of_ble_eq_true rfl) dX12_rests_30 ⟨Nat.le_of_ble_eq_true rfl, Nat.le_of_ble_eq_true rfl⟩ (fun H locs I => ?_)
        refine lv_goto (tgt := 37) S.1 S.2.1 dX12_rests_33 (by decide) ?_
        exact o_iret S hr hlo I f dX12_rests_37
theorem M12_rests (l : Launch) (D : va_G) (cy : Nat → ClassId) (b : Nat) (A : Nat → Prop) (fl : Bool) {h : PH} {a0 : Nat} {x1 : Int32} {x2 : Int32} {out : Int32 × PH} (f : F12_rests h a0 x1 x2 = some out) : Met l yX12_rests vX12_rests ({ frames := 10, cells := 0, slots := 0, locals := 246 } : Room) (va_Pc [.ref (b + a0), .int x1, .int x2] (ph_B D cy b A fl h)) (va_Qi (fun (r : Int32) (u : PH) => (r, u) = out) (ph_B D cy b A fl) A) 0 0 A :=
  o_met (by decide) rfl (Nat.le_of_ble_eq_true rfl) rfl (fun p e s m below meth c S hr hlo hnm ls hl I => T12_rests_0 S hr hlo ((gd f).2) I (lv_sub hl [0, 1, 2] rfl))
def vX12_rule : List Cond := .code yX12_rule cX12_rule 2 (some .boolean) :: TB
theorem lp12_rule_154 : Pl vX12_rule RX12 154 12 2 .int := ⟨RX12, TX12, 87, tyX12, rfl, by decide, (fun w h9 => List.mem_cons_of_mem _ (wC_wsX120 w h9)), (List.mem_cons_of_mem _ wT_13_17), tyX12_ok, nmX12, rfl, rfl⟩
theorem gX12_rule_X12_isIn : GoodIn vX12_rule (va_wsS RX12 199 yX12_isIn vX12_isIn) := gS_of wT_28_17 wT_28_18 wT_1_5 wT_28_19
theorem lf12_rule_369 : Fl vX12_rule RX12 369 12 64 := ⟨RX12, TX12, 87, rfl, by decide, (fun w h9 => List.mem_cons_of_mem _ (wC_wsX120 w h9)), (List.mem_cons_of_mem _ wT_12_23)⟩
theorem gX12_rule_X12_remember : GoodIn vX12_rule (wsV RX12 469 RX12 yX12_remember vX12_remember) := gV_of wT_42_15 wT_42_16 wT_42_17 wT_1_5 wT_42_18
theorem lp12_rule_369 : Pl vX12_rule RX12 369 12 64 .int := ⟨RX12, TX12, 87, tyX12, rfl, by decide, (fun w h9 => List.mem_cons_of_mem _ (wC_wsX120 w h9)), (List.mem_cons_of_mem _ wT_12_23), tyX12_ok, nmX12, rfl, rfl⟩
set_option maxHeartbeats 4000000 in
set_option maxRecDepth 100000 in
theorem T12_rule_0 (S : CallFix p m c cX12_rule 2 s args vX12_rule RX12) (hr : meth.sig.returnType = (some .boolean)) (hlo : meth.locks = false) {out : Int32 × PH} {h : PH} {a0 : Nat} {x1 : Int32} (f : F12_rule_0  h a0 x1 = some out) {H : Heap} {locs : List Loc} (I : ph_I D cy b A fl h s H locs) {ls : Array Slot} (hl : lv_has ls 2 [(0, .ref (b + a0)), (1, .int x1)]) : W p l e ({ frames := 1, cells := 0, slots := 0, locals := 22 } : Room) s m args below meth c H locs 0 0 (MQ below (va_Qi (fun (r : Int32) (u : PH) => (r, u) = out) (ph_B D cy b A fl) A) args s 0 0 A) (F0 m 0 ls []) := by
  unfold F12_rule_0 at f
  refine lv_aload_n S.1 S.2.1 dX12_rule_0 rfl (lv_at hl 0 rfl) ?_
  refine lv_iconst (v := 0) S.1 S.2.1 dX12_rule_1 (by decide) ?_
  obtain ⟨h1, e2, f⟩ := ob f
  refine o_pI S lp12_rule_154 I e2 dX12_rule_2 (fun H locs I => ?_)
  refine lv_iload_n S.1 S.2.1 dX12_rule_5 rfl (lv_at hl 1 rfl) ?_
  refine lv_iconst (v := 0) S.1 S.2.1 dX12_rule_6 (by decide) ?_
  refine lv_iconst (v := 3) S.1 S.2.1 dX12_rule_7 (by decide) ?_
  obtain ⟨o3, e4, f⟩ := ob f
  refine o_Si S (As := [.int x1, .int 0, .int 3]) (rest := []) (M12_isIn l D cy b A fl e4) gX12_rule_X12_isIn rfl rfl rfl cd12_isIn ⟨Nat.le_of_ble_eq_true rfl, Nat.le_of_ble_eq_true rfl⟩ I rfl hl.1 rfl (Nat.le_of_ble_eq_true rfl) dX12_rule_8 ⟨Nat.le_of_ble_eq_true rfl, Nat.le_of_ble_eq_true rfl⟩ (fun H locs I => ?_)
  refine lv_if_eq (tgt := 22) S.1 S.2.1 dX12_rule_11 (by decide) (fun q5 => ?_) (fun q5 => ?_)
  · have f := (if_pos q5).symm.trans f
    refine lv_iconst (v := 0) S.1 S.2.1 dX12_rule_22 (by decide) ?_
    exact o_zret S hr hlo I f dX12_rule_23
  · have f := (if_neg q5).symm.trans f
    refine lv_iload_n S.1 S.2.1 dX12_rule_14 rfl (lv_at hl 1 rfl) ?_
    refine lv_aload_n S.1 S.2.1 dX12_rule_15 rfl (lv_at hl 0 rfl) ?_
    obtain ⟨v6, e7, f⟩ := ob f
    refine o_gI S lf12_rule_369 I e7 dX12_rule_16 ?_
    refine lv_icmp_ne (tgt := 24) S.1 S.2.1 dX12_rule_19 (by decide) (fun q8 => ?_) (fun q8 => ?_)
    · have f := (if_neg q8).symm.trans f
      refine lv_aload_n S.1 S.2.1 dX12_rule_24 rfl (lv_at hl 0 rfl) ?_
      obtain ⟨o9, e10, f⟩ := ob f
      refine o_Vv S (As := []) (rest := []) (ci := 12) (M12_remember l D cy b A fl e10) gX12_rule_X12_remember rfl rfl rfl cd12_remember ⟨Nat.le_of_ble_eq_true rfl, Nat.le_of_ble_eq_true rfl⟩ I (gd e10).1 clX12 rfl rfl hl.1 rfl (Nat.le_of_ble_eq_true rfl) dX12_rule_25 ⟨Nat.le_of_ble_eq_true rfl, Nat.le_of_ble_eq_true rfl⟩ (fun H locs I => ?_)
      refine lv_aload_n S.1 S.2.1 dX12_rule_28 rfl (lv_at hl 0 rfl) ?_
      refine lv_iload_n S.1 S.2.1 dX12_rule_29 rfl (lv_at hl 1 rfl) ?_
      obtain ⟨h11, e12, f⟩ := ob f
      refine o_pI S lp12_rule_369 I e12 dX12_rule_30 (fun H locs I => ?_)
      refine lv_iconst (v := 1) S.1 S.2.1 dX12_rule_33 (by decide) ?_
      exact o_zret S hr hlo I f dX12_rule_34
    · have f := (if_pos q8).symm.trans f
      refine lv_iconst (v := 0) S.1 S.2.1 dX12_rule_22 (by decide) ?_
      exact o_zret S hr hlo I f dX12_rule_23
theorem M12_rule (l : Launch) (D : va_G) (cy : Nat → ClassId) (b : Nat) (A : Nat → Prop) (fl : Bool) {h : PH} {a0 : Nat} {x1 : Int32} {out : Int32 × PH} (f : F12_rule h a0 x1 = some out) : Met l yX12_rule vX12_rule ({ frames := 1, cells := 0, slots := 0, locals := 22 } : Room) (va_Pc [.ref (b + a0), .int x1] (ph_B D cy b A fl h)) (va_Qi (fun (r : Int32) (u : PH) => (r, u) = out) (ph_B D cy b A fl) A) 0 0 A :=
  o_met (by decide) rfl (Nat.le_of_ble_eq_true rfl) rfl (fun p e s m below meth c S hr hlo hnm ls hl I => T12_rule_0 S hr hlo ((gd f).2) I (lv_sub hl [0, 1] rfl))
def vX12_seat : List Cond := .code yX12_seat cX12_seat 3 (some .int) :: TB
theorem lp12_seat_154 : Pl vX12_seat RX12 154 12 2 .int := ⟨RX12, TX12, 87, tyX12, rfl, by decide, (fun w h9 => List.mem_cons_of_mem _ (wC_wsX120 w h9)), (List.mem_cons_of_mem _ wT_13_17), tyX12_ok, nmX12, rfl, rfl⟩
theorem gX12_seat_X12_isSurfer : GoodIn vX12_seat (wsV RX12 413 RX12 yX12_isSurfer vX12_isSurfer) := gV_of wT_34_14 wT_34_15 wT_34_16 wT_1_5 wT_34_17
theorem gX12_seat_X12_isCell : GoodIn vX12_seat (wsV RX12 422 RX12 yX12_isCell vX12_isCell) := gV_of wT_39_17 wT_39_18 wT_39_19 wT_1_5 wT_39_20
theorem lf12_seat_106 : Fl vX12_seat RX12 106 12 61 := ⟨RX12, TX12, 87, rfl, by decide, (fun w h9 => List.mem_cons_of_mem _ (wC_wsX120 w h9)), (List.mem_cons_of_mem _ wT_11_4)⟩
theorem gX12_seat_X12_seatFrom : GoodIn vX12_seat (wsV RX12 482 RX12 yX12_seatFrom vX12_seatFrom) := gV_of wT_50_1 wT_50_2 wT_50_3 wT_1_5 wT_50_4
set_option maxHeartbeats 4000000 in
set_option maxRecDepth 100000 in
theorem T12_seat_0 (S : CallFix p m c cX12_seat 3 s args vX12_seat RX12) (hr : meth.sig.returnType = (some .int)) (hlo : meth.locks = false) {out : Int32 × PH} {h : PH} {a0 : Nat} {x1 : Int32} {x2 : Int32} (f : F12_seat_0  h a0 x1 x2 = some out) {H : Heap} {locs : List Loc} (I : ph_I D cy b A fl h s H locs) {ls : Array Slot} (hl : lv_has ls 3 [(0, .ref (b + a0)), (1, .int x1), (2, .int x2)]) : W p l e ({ frames := 9, cells := 0, slots := 0, locals := 217 } : Room) s m args below meth c H locs 0 0 (MQ below (va_Qi (fun (r : Int32) (u : PH) => (r, u) = out) (ph_B D cy b A fl) A) args s 0 0 A) (F0 m 0 ls []) := by
  unfold F12_seat_0 at f
  refine lv_aload_n S.1 S.2.1 dX12_seat_0 rfl (lv_at hl 0 rfl) ?_
  refine lv_iconst (v := 0) S.1 S.2.1 dX12_seat_1 (by decide) ?_
  obtain ⟨h1, e2, f⟩ := ob f
  refine o_pI S lp12_seat_154 I e2 dX12_seat_2 (fun H locs I => ?_)
  refine lv_aload_n S.1 S.2.1 dX12_seat_5 rfl (lv_at hl 0 rfl) ?_
  refine lv_iload_n S.1 S.2.1 dX12_seat_6 rfl (lv_at hl 1 rfl) ?_
  obtain ⟨o3, e4, f⟩ := ob f
  refine o_Vi S (As := [.int x1]) (rest := []) (ci := 12) (M12_isSurfer l D cy b A fl e4) gX12_seat_X12_isSurfer rfl rfl rfl cd12_isSurfer ⟨Nat.le_of_ble_eq_true rfl, Nat.le_of_ble_eq_true rfl⟩ I (gd e4).1 clX12 rfl rfl hl.1 rfl (Nat.le_of_ble_eq_true rfl) dX12_seat_7 ⟨Nat.le_of_ble_eq_true rfl, Nat.le_of_ble_eq_true rfl⟩ (fun H locs I => ?_)
  refine lv_if_eq (tgt := 36) S.1 S.2.1 dX12_seat_10 (by decide) (fun q5 => ?_) (fun q5 => ?_)
  · have f := (if_pos q5).symm.trans f
    refine lv_iconst (v := (-1)) S.1 S.2.1 dX12_seat_36 (by decide) ?_
    exact o_iret S hr hlo I f dX12_seat_37
  · have f := (if_neg q5).symm.trans f
    refine lv_aload_n S.1 S.2.1 dX12_seat_13 rfl (lv_at hl 0 rfl) ?_
    refine lv_iload_n S.1 S.2.1 dX12_seat_14 rfl (lv_at hl 2 rfl) ?_
    obtain ⟨o6, e7, f⟩ := ob f
    refine o_Vi S (As := [.int x2]) (rest := []) (ci := 12) (M12_isCell l D cy b A fl e7) gX12_seat_X12_isCell rfl rfl rfl cd12_isCell ⟨Nat.le_of_ble_eq_true rfl, Nat.le_of_ble_eq_true rfl⟩ I (gd e7).1 clX12 rfl rfl hl.1 rfl (Nat.le_of_ble_eq_true rfl) dX12_seat_15 ⟨Nat.le_of_ble_eq_true rfl, Nat.le_of_ble_eq_true rfl⟩ (fun H locs I => ?_)
    refine lv_if_eq (tgt := 36) S.1 S.2.1 dX12_seat_18 (by decide) (fun q8 => ?_) (fun q8 => ?_)
    · have f := (if_pos q8).symm.trans f
      refine lv_iconst (v := (-1)) S.1 S.2.1 dX12_seat_36 (by decide) ?_
      exact o_iret S hr hlo I f dX12_seat_37
    · have f := (if_neg q8).symm.trans f
      refine lv_aload_n S.1 S.2.1 dX12_seat_21 rfl (lv_at hl 0 rfl) ?_
      refine lv_iload_n S.1 S.2.1 dX12_seat_22 rfl (lv_at hl 1 rfl) ?_
      refine lv_iload_n S.1 S.2.1 dX12_seat_23 rfl (lv_at hl 2 rfl) ?_
      refine lv_aload_n S.1 S.2.1 dX12_seat_24 rfl (lv_at hl 0 rfl) ?_
      obtain ⟨r9, e10, f⟩ := ob f
      refine o_gR S lf12_seat_106 I e10 dX12_seat_25 ?_
      refine lv_iconst (v := 0) S.1 S.2.1 dX12_seat_28 (by decide) ?_
      obtain ⟨v12, e11, f⟩ := ob f
      refine o_iald S I e11 dX12_seat_29 ?_
      obtain ⟨o13, e14, f⟩ := ob f
      refine o_Vi S (As := [.int x1, .int x2, .int v12]) (rest := []) (ci := 12) (M12_seatFrom l D cy b A fl e14) gX12_seat_X12_seatFrom rfl rfl rfl cd12_seatFrom ⟨Nat.le_of_ble_eq_true rfl, Nat.le_of_ble_eq_true rfl⟩ I (gd e14).1 clX12 rfl rfl hl.1 rfl (Nat.le_of_ble_eq_true rfl) dX12_seat_30 ⟨Nat.le_of_ble_eq_true rfl, Nat.le_of_ble_eq_true rfl⟩ (fun H locs I => ?_)
      refine lv_goto (tgt := 37) S.1 S.2.1 dX12_seat_33 (by decide) ?_
      exact o_iret S hr hlo I f dX12_seat_37
theorem M12_seat (l : Launch) (D : va_G) (cy : Nat → ClassId) (b : Nat) (A : Nat → Prop) (fl : Bool) {h : PH} {a0 : Nat} {x1 : Int32} {x2 : Int32} {out : Int32 × PH} (f : F12_seat h a0 x1 x2 = some out) : Met l yX12_seat vX12_seat ({ frames := 9, cells := 0, slots := 0, locals := 217 } : Room) (va_Pc [.ref (b + a0), .int x1, .int x2] (ph_B D cy b A fl h)) (va_Qi (fun (r : Int32) (u : PH) => (r, u) = out) (ph_B D cy b A fl) A) 0 0 A :=
  o_met (by decide) rfl (Nat.le_of_ble_eq_true rfl) rfl (fun p e s m below meth c S hr hlo hnm ls hl I => T12_seat_0 S hr hlo ((gd f).2) I (lv_sub hl [0, 1, 2] rfl))
def vX12_shares : List Cond := .code yX12_shares cX12_shares 2 (some .int) :: TB
theorem lp12_shares_154 : Pl vX12_shares RX12 154 12 2 .int := ⟨RX12, TX12, 87, tyX12, rfl, by decide, (fun w h9 => List.mem_cons_of_mem _ (wC_wsX120 w h9)), (List.mem_cons_of_mem _ wT_13_17), tyX12_ok, nmX12, rfl, rfl⟩
theorem lf12_shares_247 : Fl vX12_shares RX12 247 12 14 := ⟨RX12, TX12, 87, rfl, by decide, (fun w h9 => List.mem_cons_of_mem _ (wC_wsX120 w h9)), (List.mem_cons_of_mem _ wT_12_12)⟩
theorem gX12_shares_X12_isIn : GoodIn vX12_shares (va_wsS RX12 199 yX12_isIn vX12_isIn) := gS_of wT_28_17 wT_28_18 wT_1_5 wT_28_19
theorem gX12_shares_X12_allHad : GoodIn vX12_shares (wsV RX12 521 RX12 yX12_allHad vX12_allHad) := gV_of wT_61_5 wT_61_6 wT_61_7 wT_1_5 wT_61_8
theorem gX12_shares_X12_unlike : GoodIn vX12_shares (wsV RX12 518 RX12 yX12_unlike vX12_unlike) := gV_of wT_58_17 wT_58_18 wT_58_19 wT_1_5 wT_58_20
set_option maxHeartbeats 4000000 in
set_option maxRecDepth 100000 in
theorem T12_shares_0 (S : CallFix p m c cX12_shares 2 s args vX12_shares RX12) (hr : meth.sig.returnType = (some .int)) (hlo : meth.locks = false) {out : Int32 × PH} {h : PH} {a0 : Nat} {x1 : Int32} (f : F12_shares_0  h a0 x1 = some out) {H : Heap} {locs : List Loc} (I : ph_I D cy b A fl h s H locs) {ls : Array Slot} (hl : lv_has ls 2 [(0, .ref (b + a0)), (1, .int x1)]) : W p l e ({ frames := 1, cells := 0, slots := 0, locals := 24 } : Room) s m args below meth c H locs 0 0 (MQ below (va_Qi (fun (r : Int32) (u : PH) => (r, u) = out) (ph_B D cy b A fl) A) args s 0 0 A) (F0 m 0 ls []) := by
  unfold F12_shares_0 at f
  refine lv_aload_n S.1 S.2.1 dX12_shares_0 rfl (lv_at hl 0 rfl) ?_
  refine lv_iconst (v := 0) S.1 S.2.1 dX12_shares_1 (by decide) ?_
  obtain ⟨h1, e2, f⟩ := ob f
  refine o_pI S lp12_shares_154 I e2 dX12_shares_2 (fun H locs I => ?_)
  refine lv_aload_n S.1 S.2.1 dX12_shares_5 rfl (lv_at hl 0 rfl) ?_
  obtain ⟨v3, e4, f⟩ := ob f
  refine o_gI S lf12_shares_247 I e4 dX12_shares_6 ?_
  refine lv_if_eq (tgt := 21) S.1 S.2.1 dX12_shares_9 (by decide) (fun q5 => ?_) (fun q5 => ?_)
  · have f := (if_pos q5).symm.trans f
    refine lv_iconst (v := (-1)) S.1 S.2.1 dX12_shares_21 (by decide) ?_
    exact o_iret S hr hlo I f dX12_shares_22
  · have f := (if_neg q5).symm.trans f
    refine lv_iload_n S.1 S.2.1 dX12_shares_12 rfl (lv_at hl 1 rfl) ?_
    refine lv_iconst (v := 0) S.1 S.2.1 dX12_shares_13 (by decide) ?_
    refine lv_iconst (v := 1) S.1 S.2.1 dX12_shares_14 (by decide) ?_
    obtain ⟨o6, e7, f⟩ := ob f
    refine o_Si S (As := [.int x1, .int 0, .int 1]) (rest := []) (M12_isIn l D cy b A fl e7) gX12_shares_X12_isIn rfl rfl rfl cd12_isIn ⟨Nat.le_of_ble_eq_true rfl, Nat.le_of_ble_eq_true rfl⟩ I rfl hl.1 rfl (Nat.le_of_ble_eq_true rfl) dX12_shares_15 ⟨Nat.le_of_ble_eq_true rfl, Nat.le_of_ble_eq_true rfl⟩ (fun H locs I => ?_)
    refine lv_if_ne (tgt := 23) S.1 S.2.1 dX12_shares_18 (by decide) (fun q8 => ?_) (fun q8 => ?_)
    · have f := (if_neg q8).symm.trans f
      refine lv_iload_n S.1 S.2.1 dX12_shares_23 rfl (lv_at hl 1 rfl) ?_
      refine lv_if_ne (tgt := 35) S.1 S.2.1 dX12_shares_24 (by decide) (fun q9 => ?_) (fun q9 => ?_)
      · have f := (if_neg q9).symm.trans f
        refine lv_aload_n S.1 S.2.1 dX12_shares_35 rfl (lv_at hl 0 rfl) ?_
        refine lv_iconst (v := 0) S.1 S.2.1 dX12_shares_36 (by decide) ?_
        obtain ⟨o10, e11, f⟩ := ob f
        refine o_Vi S (As := [.int 0]) (rest := []) (ci := 12) (M12_allHad l D cy b A fl e11) gX12_shares_X12_allHad rfl rfl rfl cd12_allHad ⟨Nat.le_of_ble_eq_true rfl, Nat.le_of_ble_eq_true rfl⟩ I (gd e11).1 clX12 rfl rfl hl.1 rfl (Nat.le_of_ble_eq_true rfl) dX12_shares_37 ⟨Nat.le_of_ble_eq_true rfl, Nat.le_of_ble_eq_true rfl⟩ (fun H locs I => ?_)
        exact o_iret S hr hlo I f dX12_shares_40
      · have f := (if_pos q9).symm.trans f
        refine lv_aload_n S.1 S.2.1 dX12_shares_27 rfl (lv_at hl 0 rfl) ?_
        refine lv_iconst (v := 0) S.1 S.2.1 dX12_shares_28 (by decide) ?_
        obtain ⟨o12, e13, f⟩ := ob f
        refine o_Vi S (As := [.int 0]) (rest := []) (ci := 12) (M12_unlike l D cy b A fl e13) gX12_shares_X12_unlike rfl rfl rfl cd12_unlike ⟨Nat.le_of_ble_eq_true rfl, Nat.le_of_ble_eq_true rfl⟩ I (gd e13).1 clX12 rfl rfl hl.1 rfl (Nat.le_of_ble_eq_true rfl) dX12_shares_29 ⟨Nat.le_of_ble_eq_true rfl, Nat.le_of_ble_eq_true rfl⟩ (fun H locs I => ?_)
        refine lv_goto (tgt := 40) S.1 S.2.1 dX12_shares_32 (by decide) ?_
        exact o_iret S hr hlo I f dX12_shares_40
    · have f := (if_pos q8).symm.trans f
      refine lv_iconst (v := (-1)) S.1 S.2.1 dX12_shares_21 (by decide) ?_
      exact o_iret S hr hlo I f dX12_shares_22
theorem M12_shares (l : Launch) (D : va_G) (cy : Nat → ClassId) (b : Nat) (A : Nat → Prop) (fl : Bool) {h : PH} {a0 : Nat} {x1 : Int32} {out : Int32 × PH} (f : F12_shares h a0 x1 = some out) : Met l yX12_shares vX12_shares ({ frames := 1, cells := 0, slots := 0, locals := 24 } : Room) (va_Pc [.ref (b + a0), .int x1] (ph_B D cy b A fl h)) (va_Qi (fun (r : Int32) (u : PH) => (r, u) = out) (ph_B D cy b A fl) A) 0 0 A :=
  o_met (by decide) rfl (Nat.le_of_ble_eq_true rfl) rfl (fun p e s m below meth c S hr hlo hnm ls hl I => T12_shares_0 S hr hlo ((gd f).2) I (lv_sub hl [0, 1] rfl))
def vX12_strike : List Cond := .code yX12_strike cX12_strike 2 (some .int) :: TB
theorem lp12_strike_154 : Pl vX12_strike RX12 154 12 2 .int := ⟨RX12, TX12, 87, tyX12, rfl, by decide, (fun w h9 => List.mem_cons_of_mem _ (wC_wsX120 w h9)), (List.mem_cons_of_mem _ wT_13_17), tyX12_ok, nmX12, rfl, rfl⟩
theorem lf12_strike_376 : Fl vX12_strike RX12 376 12 74 := ⟨RX12, TX12, 87, rfl, by decide, (fun w h9 => List.mem_cons_of_mem _ (wC_wsX120 w h9)), (List.mem_cons_of_mem _ wT_13_1)⟩
theorem gX12_strike_X12_noted : GoodIn vX12_strike (wsV RX12 524 RX12 yX12_noted vX12_noted) := gV_of wT_61_22 wT_61_23 wT_62_0 wT_1_5 wT_62_1
set_option maxHeartbeats 4000000 in
set_option maxRecDepth 100000 in
theorem T12_strike_0 (S : CallFix p m c cX12_strike 2 s args vX12_strike RX12) (hr : meth.sig.returnType = (some .int)) (hlo : meth.locks = false) {out : Int32 × PH} {h : PH} {a0 : Nat} {x1 : Int32} (f : F12_strike_0  h a0 x1 = some out) {H : Heap} {locs : List Loc} (I : ph_I D cy b A fl h s H locs) {ls : Array Slot} (hl : lv_has ls 2 [(0, .ref (b + a0)), (1, .int x1)]) : W p l e ({ frames := 1, cells := 0, slots := 0, locals := 23 } : Room) s m args below meth c H locs 0 0 (MQ below (va_Qi (fun (r : Int32) (u : PH) => (r, u) = out) (ph_B D cy b A fl) A) args s 0 0 A) (F0 m 0 ls []) := by
  unfold F12_strike_0 at f
  refine lv_aload_n S.1 S.2.1 dX12_strike_0 rfl (lv_at hl 0 rfl) ?_
  refine lv_iconst (v := 0) S.1 S.2.1 dX12_strike_1 (by decide) ?_
  obtain ⟨h1, e2, f⟩ := ob f
  refine o_pI S lp12_strike_154 I e2 dX12_strike_2 (fun H locs I => ?_)
  refine lv_aload_n S.1 S.2.1 dX12_strike_5 rfl (lv_at hl 0 rfl) ?_
  obtain ⟨v3, e4, f⟩ := ob f
  refine o_gI S lf12_strike_376 I e4 dX12_strike_6 ?_
  refine lv_bipush (v := 24) S.1 S.2.1 dX12_strike_9 (by decide) ?_
  refine lv_icmp_eq (tgt := 26) S.1 S.2.1 dX12_strike_11 (by decide) (fun q5 => ?_) (fun q5 => ?_)
  · have f := (if_pos q5).symm.trans f
    refine lv_iconst (v := (-1)) S.1 S.2.1 dX12_strike_26 (by decide) ?_
    refine lv_goto (tgt := 37) S.1 S.2.1 dX12_strike_27 (by decide) ?_
    exact o_iret S hr hlo I f dX12_strike_37
  · have f := (if_neg q5).symm.trans f
    refine lv_iload_n S.1 S.2.1 dX12_strike_14 rfl (lv_at hl 1 rfl) ?_
    refine lv_if_lt (tgt := 26) S.1 S.2.1 dX12_strike_15 (by decide) (fun q6 => ?_) (fun q6 => ?_)
    · have f := (if_pos q6).symm.trans f
      refine lv_iconst (v := (-1)) S.1 S.2.1 dX12_strike_26 (by decide) ?_
      refine lv_goto (tgt := 37) S.1 S.2.1 dX12_strike_27 (by decide) ?_
      exact o_iret S hr hlo I f dX12_strike_37
    · have f := (if_neg q6).symm.trans f
      refine lv_iload_n S.1 S.2.1 dX12_strike_18 rfl (lv_at hl 1 rfl) ?_
      refine lv_aload_n S.1 S.2.1 dX12_strike_19 rfl (lv_at hl 0 rfl) ?_
      obtain ⟨v7, e8, f⟩ := ob f
      refine o_gI S lf12_strike_376 I e8 dX12_strike_20 ?_
      refine lv_icmp_lt (tgt := 30) S.1 S.2.1 dX12_strike_23 (by decide) (fun q9 => ?_) (fun q9 => ?_)
      · have f := (if_pos q9).symm.trans f
        refine lv_aload_n S.1 S.2.1 dX12_strike_30 rfl (lv_at hl 0 rfl) ?_
        refine lv_iconst (v := (-1)) S.1 S.2.1 dX12_strike_31 (by decide) ?_
        refine lv_iload_n S.1 S.2.1 dX12_strike_32 rfl (lv_at hl 1 rfl) ?_
        refine lv_iconst (v := 0) S.1 S.2.1 dX12_strike_33 (by decide) ?_
        obtain ⟨o10, e11, f⟩ := ob f
        refine o_Vi S (As := [.int (-1), .int x1, .int 0]) (rest := []) (ci := 12) (M12_noted l D cy b A fl e11) gX12_strike_X12_noted rfl rfl rfl cd12_noted ⟨Nat.le_of_ble_eq_true rfl, Nat.le_of_ble_eq_true rfl⟩ I (gd e11).1 clX12 rfl rfl hl.1 rfl (Nat.le_of_ble_eq_true rfl) dX12_strike_34 ⟨Nat.le_of_ble_eq_true rfl, Nat.le_of_ble_eq_true rfl⟩ (fun H locs I => ?_)
        exact o_iret S hr hlo I f dX12_strike_37
      · have f := (if_neg q9).symm.trans f
        refine lv_iconst (v := (-1)) S.1 S.2.1 dX12_strike_26 (by decide) ?_
        refine lv_goto (tgt := 37) S.1 S.2.1 dX12_strike_27 (by decide) ?_
        exact o_iret S hr hlo I f dX12_strike_37
theorem M12_strike (l : Launch) (D : va_G) (cy : Nat → ClassId) (b : Nat) (A : Nat → Prop) (fl : Bool) {h : PH} {a0 : Nat} {x1 : Int32} {out : Int32 × PH} (f : F12_strike h a0 x1 = some out) : Met l yX12_strike vX12_strike ({ frames := 1, cells := 0, slots := 0, locals := 23 } : Room) (va_Pc [.ref (b + a0), .int x1] (ph_B D cy b A fl h)) (va_Qi (fun (r : Int32) (u : PH) => (r, u) = out) (ph_B D cy b A fl) A) 0 0 A :=
  o_met (by decide) rfl (Nat.le_of_ble_eq_true rfl) rfl (fun p e s m below meth c S hr hlo hnm ls hl I => T12_strike_0 S hr hlo ((gd f).2) I (lv_sub hl [0, 1] rfl))
def vX12_stroke : List Cond := .code yX12_stroke cX12_stroke 4 (some .int) :: TB
theorem lp12_stroke_154 : Pl vX12_stroke RX12 154 12 2 .int := ⟨RX12, TX12, 87, tyX12, rfl, by decide, (fun w h9 => List.mem_cons_of_mem _ (wC_wsX120 w h9)), (List.mem_cons_of_mem _ wT_13_17), tyX12_ok, nmX12, rfl, rfl⟩
theorem gX12_stroke_X12_isSurfer : GoodIn vX12_stroke (wsV RX12 413 RX12 yX12_isSurfer vX12_isSurfer) := gV_of wT_34_14 wT_34_15 wT_34_16 wT_1_5 wT_34_17
theorem gX12_stroke_X12_isIn : GoodIn vX12_stroke (va_wsS RX12 199 yX12_isIn vX12_isIn) := gS_of wT_28_17 wT_28_18 wT_1_5 wT_28_19
theorem lf12_stroke_88 : Fl vX12_stroke RX12 88 12 55 := ⟨RX12, TX12, 87, rfl, by decide, (fun w h9 => List.mem_cons_of_mem _ (wC_wsX120 w h9)), (List.mem_cons_of_mem _ wT_10_22)⟩
theorem gX12_stroke_X12_beside : GoodIn vX12_stroke (wsV RX12 466 RX12 yX12_beside vX12_beside) := gV_of wT_42_11 wT_42_12 wT_42_13 wT_1_5 wT_42_14
theorem lf12_stroke_97 : Fl vX12_stroke RX12 97 12 58 := ⟨RX12, TX12, 87, rfl, by decide, (fun w h9 => List.mem_cons_of_mem _ (wC_wsX120 w h9)), (List.mem_cons_of_mem _ wT_11_1)⟩
theorem lf12_stroke_100 : Fl vX12_stroke RX12 100 12 59 := ⟨RX12, TX12, 87, rfl, by decide, (fun w h9 => List.mem_cons_of_mem _ (wC_wsX120 w h9)), (List.mem_cons_of_mem _ wT_11_2)⟩
theorem gX12_stroke_X12_remember : GoodIn vX12_stroke (wsV RX12 469 RX12 yX12_remember vX12_remember) := gV_of wT_42_15 wT_42_16 wT_42_17 wT_1_5 wT_42_18
set_option maxHeartbeats 4000000 in
set_option maxRecDepth 100000 in
theorem T12_stroke_0 (S : CallFix p m c cX12_stroke 4 s args vX12_stroke RX12) (hr : meth.sig.returnType = (some .int)) (hlo : meth.locks = false) {out : Int32 × PH} {h : PH} {a0 : Nat} {x1 : Int32} {x2 : Int32} (f : F12_stroke_0  h a0 x1 x2 = some out) {H : Heap} {locs : List Loc} (I : ph_I D cy b A fl h s H locs) {ls : Array Slot} (hl : lv_has ls 4 [(0, .ref (b + a0)), (1, .int x1), (2, .int x2)]) : W p l e ({ frames := 2, cells := 0, slots := 0, locals := 46 } : Room) s m args below meth c H locs 0 0 (MQ below (va_Qi (fun (r : Int32) (u : PH) => (r, u) = out) (ph_B D cy b A fl) A) args s 0 0 A) (F0 m 0 ls []) := by
  unfold F12_stroke_0 at f
  refine lv_aload_n S.1 S.2.1 dX12_stroke_0 rfl (lv_at hl 0 rfl) ?_
  refine lv_iconst (v := 0) S.1 S.2.1 dX12_stroke_1 (by decide) ?_
  obtain ⟨h1, e2, f⟩ := ob f
  refine o_pI S lp12_stroke_154 I e2 dX12_stroke_2 (fun H locs I => ?_)
  refine lv_aload_n S.1 S.2.1 dX12_stroke_5 rfl (lv_at hl 0 rfl) ?_
  refine lv_iload_n S.1 S.2.1 dX12_stroke_6 rfl (lv_at hl 1 rfl) ?_
  obtain ⟨o3, e4, f⟩ := ob f
  refine o_Vi S (As := [.int x1]) (rest := []) (ci := 12) (M12_isSurfer l D cy b A fl e4) gX12_stroke_X12_isSurfer rfl rfl rfl cd12_isSurfer ⟨Nat.le_of_ble_eq_true rfl, Nat.le_of_ble_eq_true rfl⟩ I (gd e4).1 clX12 rfl rfl hl.1 rfl (Nat.le_of_ble_eq_true rfl) dX12_stroke_7 ⟨Nat.le_of_ble_eq_true rfl, Nat.le_of_ble_eq_true rfl⟩ (fun H locs I => ?_)
  refine lv_if_eq (tgt := 22) S.1 S.2.1 dX12_stroke_10 (by decide) (fun q5 => ?_) (fun q5 => ?_)
  · have f := (if_pos q5).symm.trans f
    refine lv_iconst (v := (-1)) S.1 S.2.1 dX12_stroke_22 (by decide) ?_
    exact o_iret S hr hlo I f dX12_stroke_23
  · have f := (if_neg q5).symm.trans f
    refine lv_iload_n S.1 S.2.1 dX12_stroke_13 rfl (lv_at hl 2 rfl) ?_
    refine lv_iconst (v := 0) S.1 S.2.1 dX12_stroke_14 (by decide) ?_
    refine lv_iconst (v := 3) S.1 S.2.1 dX12_stroke_15 (by decide) ?_
    obtain ⟨o6, e7, f⟩ := ob f
    refine o_Si S (As := [.int x2, .int 0, .int 3]) (rest := []) (M12_isIn l D cy b A fl e7) gX12_stroke_X12_isIn rfl rfl rfl cd12_isIn ⟨Nat.le_of_ble_eq_true rfl, Nat.le_of_ble_eq_true rfl⟩ I rfl hl.1 rfl (Nat.le_of_ble_eq_true rfl) dX12_stroke_16 ⟨Nat.le_of_ble_eq_true rfl, Nat.le_of_ble_eq_true rfl⟩ (fun H locs I => ?_)
    refine lv_if_ne (tgt := 24) S.1 S.2.1 dX12_stroke_19 (by decide) (fun q8 => ?_) (fun q8 => ?_)
    · have f := (if_neg q8).symm.trans f
      refine lv_aload_n S.1 S.2.1 dX12_stroke_24 rfl (lv_at hl 0 rfl) ?_
      refine lv_aload_n S.1 S.2.1 dX12_stroke_25 rfl (lv_at hl 0 rfl) ?_
      obtain ⟨r9, e10, f⟩ := ob f
      refine o_gR S lf12_stroke_88 I e10 dX12_stroke_26 ?_
      refine lv_iload_n S.1 S.2.1 dX12_stroke_29 rfl (lv_at hl 1 rfl) ?_
      obtain ⟨v12, e11, f⟩ := ob f
      refine o_iald S I e11 dX12_stroke_30 ?_
      refine lv_iload_n S.1 S.2.1 dX12_stroke_31 rfl (lv_at hl 2 rfl) ?_
      obtain ⟨o13, e14, f⟩ := ob f
      refine o_Vi S (As := [.int v12, .int x2]) (rest := []) (ci := 12) (M12_beside l D cy b A fl e14) gX12_stroke_X12_beside rfl rfl rfl cd12_beside ⟨Nat.le_of_ble_eq_true rfl, Nat.le_of_ble_eq_true rfl⟩ I (gd e14).1 clX12 rfl rfl hl.1 rfl (Nat.le_of_ble_eq_true rfl) dX12_stroke_32 ⟨Nat.le_of_ble_eq_true rfl, Nat.le_of_ble_eq_true rfl⟩ (fun H locs I => ?_)
      refine lv_istore_n (lv' := [(3, .int o13.1), (0, .ref (b + a0)), (1, .int x1), (2, .int x2)]) S.1 S.2.1 dX12_stroke_35 rfl hl (by decide) rfl (fun ls hl => ?_)
      refine lv_iload_n S.1 S.2.1 dX12_stroke_36 rfl (lv_at hl 0 rfl) ?_
      refine lv_if_lt (tgt := 58) S.1 S.2.1 dX12_stroke_37 (by decide) (fun q15 => ?_) (fun q15 => ?_)
      · have f := (if_pos q15).symm.trans f
        refine lv_bipush (v := (-2)) S.1 S.2.1 dX12_stroke_58 (by decide) ?_
        exact o_iret S hr hlo I f dX12_stroke_60
      · have f := (if_neg q15).symm.trans f
        refine lv_aload_n S.1 S.2.1 dX12_stroke_40 rfl (lv_at hl 1 rfl) ?_
        obtain ⟨r16, e17, f⟩ := ob f
        refine o_gR S lf12_stroke_97 I e17 dX12_stroke_41 ?_
        refine lv_iload_n S.1 S.2.1 dX12_stroke_44 rfl (lv_at hl 2 rfl) ?_
        obtain ⟨v19, e18, f⟩ := ob f
        refine o_iald S I e18 dX12_stroke_45 ?_
        refine lv_if_gt (tgt := 58) S.1 S.2.1 dX12_stroke_46 (by decide) (fun q20 => ?_) (fun q20 => ?_)
        · have f := (if_pos q20).symm.trans f
          refine lv_bipush (v := (-2)) S.1 S.2.1 dX12_stroke_58 (by decide) ?_
          exact o_iret S hr hlo I f dX12_stroke_60
        · have f := (if_neg q20).symm.trans f
          refine lv_aload_n S.1 S.2.1 dX12_stroke_49 rfl (lv_at hl 1 rfl) ?_
          obtain ⟨r21, e22, f⟩ := ob f
          refine o_gR S lf12_stroke_100 I e22 dX12_stroke_50 ?_
          refine lv_iload_n S.1 S.2.1 dX12_stroke_53 rfl (lv_at hl 2 rfl) ?_
          obtain ⟨v24, e23, f⟩ := ob f
          refine o_iald S I e23 dX12_stroke_54 ?_
          refine lv_if_ne (tgt := 61) S.1 S.2.1 dX12_stroke_55 (by decide) (fun q25 => ?_) (fun q25 => ?_)
          · have f := (if_neg q25).symm.trans f
            refine lv_aload_n S.1 S.2.1 dX12_stroke_61 rfl (lv_at hl 1 rfl) ?_
            obtain ⟨o26, e27, f⟩ := ob f
            refine o_Vv S (As := []) (rest := []) (ci := 12) (M12_remember l D cy b A fl e27) gX12_stroke_X12_remember rfl rfl rfl cd12_remember ⟨Nat.le_of_ble_eq_true rfl, Nat.le_of_ble_eq_true rfl⟩ I (gd e27).1 clX12 rfl rfl hl.1 rfl (Nat.le_of_ble_eq_true rfl) dX12_stroke_62 ⟨Nat.le_of_ble_eq_true rfl, Nat.le_of_ble_eq_true rfl⟩ (fun H locs I => ?_)
            refine lv_aload_n S.1 S.2.1 dX12_stroke_65 rfl (lv_at hl 1 rfl) ?_
            obtain ⟨r28, e29, f⟩ := ob f
            refine o_gR S lf12_stroke_88 I e29 dX12_stroke_66 ?_
            refine lv_iload_n S.1 S.2.1 dX12_stroke_69 rfl (lv_at hl 2 rfl) ?_
            refine lv_iload_n S.1 S.2.1 dX12_stroke_70 rfl (lv_at hl 0 rfl) ?_
            obtain ⟨h31, e30, f⟩ := ob f
            refine o_iast S I e30 dX12_stroke_71 (fun H locs I => ?_)
            refine lv_aload_n S.1 S.2.1 dX12_stroke_72 rfl (lv_at hl 1 rfl) ?_
            obtain ⟨r32, e33, f⟩ := ob f
            refine o_gR S lf12_stroke_100 I e33 dX12_stroke_73 ?_
            refine lv_iload_n S.1 S.2.1 dX12_stroke_76 rfl (lv_at hl 2 rfl) ?_
            refine lv_dup2_11 S.1 S.2.1 dX12_stroke_77 rfl rfl ?_
            obtain ⟨v35, e34, f⟩ := ob f
            refine o_iald S I e34 dX12_stroke_78 ?_
            refine lv_iconst (v := 1) S.1 S.2.1 dX12_stroke_79 (by decide) ?_
            refine lv_isub S.1 S.2.1 dX12_stroke_80 ?_
            obtain ⟨h37, e36, f⟩ := ob f
            refine o_iast S I e36 dX12_stroke_81 (fun H locs I => ?_)
            refine lv_iload_n S.1 S.2.1 dX12_stroke_82 rfl (lv_at hl 0 rfl) ?_
            exact o_iret S hr hlo I f dX12_stroke_83
          · have f := (if_pos q25).symm.trans f
            refine lv_bipush (v := (-2)) S.1 S.2.1 dX12_stroke_58 (by decide) ?_
            exact o_iret S hr hlo I f dX12_stroke_60
    · have f := (if_pos q8).symm.trans f
      refine lv_iconst (v := (-1)) S.1 S.2.1 dX12_stroke_22 (by decide) ?_
      exact o_iret S hr hlo I f dX12_stroke_23
theorem M12_stroke (l : Launch) (D : va_G) (cy : Nat → ClassId) (b : Nat) (A : Nat → Prop) (fl : Bool) {h : PH} {a0 : Nat} {x1 : Int32} {x2 : Int32} {out : Int32 × PH} (f : F12_stroke h a0 x1 x2 = some out) : Met l yX12_stroke vX12_stroke ({ frames := 2, cells := 0, slots := 0, locals := 46 } : Room) (va_Pc [.ref (b + a0), .int x1, .int x2] (ph_B D cy b A fl h)) (va_Qi (fun (r : Int32) (u : PH) => (r, u) = out) (ph_B D cy b A fl) A) 0 0 A :=
  o_met (by decide) rfl (Nat.le_of_ble_eq_true rfl) rfl (fun p e s m below meth c S hr hlo hnm ls hl I => T12_stroke_0 S hr hlo ((gd f).2) I (lv_sub hl [0, 1, 2] rfl))
def vX12_table : List Cond := .code yX12_table cX12_table 4 (some .int) :: TB
theorem gX12_table_X12_run : GoodIn vX12_table (wsV RX12 515 RX12 yX12_run vX12_run) := gV_of wT_58_5 wT_58_6 wT_58_7 wT_1_5 wT_58_8
theorem gX12_table_X12_unlike : GoodIn vX12_table (wsV RX12 518 RX12 yX12_unlike vX12_unlike) := gV_of wT_58_17 wT_58_18 wT_58_19 wT_1_5 wT_58_20
theorem lf12_table_112 : Fl vX12_table RX12 112 12 63 := ⟨RX12, TX12, 87, rfl, by decide, (fun w h9 => List.mem_cons_of_mem _ (wC_wsX120 w h9)), (List.mem_cons_of_mem _ wT_11_6)⟩
theorem lf12_table_109 : Fl vX12_table RX12 109 12 62 := ⟨RX12, TX12, 87, rfl, by decide, (fun w h9 => List.mem_cons_of_mem _ (wC_wsX120 w h9)), (List.mem_cons_of_mem _ wT_11_5)⟩
theorem lf12_table_91 : Fl vX12_table RX12 91 12 56 := ⟨RX12, TX12, 87, rfl, by decide, (fun w h9 => List.mem_cons_of_mem _ (wC_wsX120 w h9)), (List.mem_cons_of_mem _ wT_10_23)⟩
theorem lp12_table_154 : Pl vX12_table RX12 154 12 2 .int := ⟨RX12, TX12, 87, tyX12, rfl, by decide, (fun w h9 => List.mem_cons_of_mem _ (wC_wsX120 w h9)), (List.mem_cons_of_mem _ wT_13_17), tyX12_ok, nmX12, rfl, rfl⟩
theorem gX12_table_X12_isIn : GoodIn vX12_table (va_wsS RX12 199 yX12_isIn vX12_isIn) := gS_of wT_28_17 wT_28_18 wT_1_5 wT_28_19
theorem lf12_table_247 : Fl vX12_table RX12 247 12 14 := ⟨RX12, TX12, 87, rfl, by decide, (fun w h9 => List.mem_cons_of_mem _ (wC_wsX120 w h9)), (List.mem_cons_of_mem _ wT_12_12)⟩
set_option maxHeartbeats 4000000 in
set_option maxRecDepth 100000 in
theorem T12_table_43 (S : CallFix p m c cX12_table 4 s args vX12_table RX12) (hr : meth.sig.returnType = (some .int)) (hlo : meth.locks = false) {out : Int32 × PH} {h : PH} {a0 : Nat} {x1 : Int32} {x2 : Int32} {x3 : Int32} (f : F12_table_43  h a0 x1 x2 x3 = some out) {H : Heap} {locs : List Loc} (I : ph_I D cy b A fl h s H locs) {ls : Array Slot} (hl : lv_has ls 4 [(0, .ref (b + a0)), (1, .int x1), (2, .int x2), (3, .int x3)]) : W p l e ({ frames := 13, cells := 0, slots := 0, locals := 313 } : Room) s m args below meth c H locs 0 0 (MQ below (va_Qi (fun (r : Int32) (u : PH) => (r, u) = out) (ph_B D cy b A fl) A) args s 0 0 A) (F0 m 43 ls []) := by
  unfold F12_table_43 at f
  refine lv_aload_n S.1 S.2.1 dX12_table_43 rfl (lv_at hl 0 rfl) ?_
  refine lv_iload_n S.1 S.2.1 dX12_table_44 rfl (lv_at hl 1 rfl) ?_
  refine lv_iload_n S.1 S.2.1 dX12_table_45 rfl (lv_at hl 2 rfl) ?_
  obtain ⟨o1, e2, f⟩ := ob f
  refine o_Vv S (As := [.int x1, .int x2]) (rest := []) (ci := 12) (M12_run l D cy b A fl e2) gX12_table_X12_run rfl rfl rfl cd12_run ⟨Nat.le_of_ble_eq_true rfl, Nat.le_of_ble_eq_true rfl⟩ I (gd e2).1 clX12 rfl rfl hl.1 rfl (Nat.le_of_ble_eq_true rfl) dX12_table_46 ⟨Nat.le_of_ble_eq_true rfl, Nat.le_of_ble_eq_true rfl⟩ (fun H locs I => ?_)
  refine lv_iload_n S.1 S.2.1 dX12_table_49 rfl (lv_at hl 3 rfl) ?_
  refine lv_iconst (v := 5) S.1 S.2.1 dX12_table_50 (by decide) ?_
  refine lv_icmp_ge (tgt := 65) S.1 S.2.1 dX12_table_51 (by decide) (fun q3 => ?_) (fun q3 => ?_)
  · have f := (if_pos q3).symm.trans f
    refine lv_iload_n S.1 S.2.1 dX12_table_65 rfl (lv_at hl 3 rfl) ?_
    refine lv_iconst (v := 5) S.1 S.2.1 dX12_table_66 (by decide) ?_
    refine lv_icmp_ne (tgt := 79) S.1 S.2.1 dX12_table_67 (by decide) (fun q4 => ?_) (fun q4 => ?_)
    · have f := (if_neg q4).symm.trans f
      refine lv_iload_n S.1 S.2.1 dX12_table_79 rfl (lv_at hl 3 rfl) ?_
      refine lv_bipush (v := 6) S.1 S.2.1 dX12_table_80 (by decide) ?_
      refine lv_icmp_ne (tgt := 94) S.1 S.2.1 dX12_table_82 (by decide) (fun q5 => ?_) (fun q5 => ?_)
      · have f := (if_neg q5).symm.trans f
        refine lv_aload_n S.1 S.2.1 dX12_table_94 rfl (lv_at hl 0 rfl) ?_
        refine lv_iconst (v := 1) S.1 S.2.1 dX12_table_95 (by decide) ?_
        obtain ⟨o6, e7, f⟩ := ob f
        refine o_Vi S (As := [.int 1]) (rest := []) (ci := 12) (M12_unlike l D cy b A fl e7) gX12_table_X12_unlike rfl rfl rfl cd12_unlike ⟨Nat.le_of_ble_eq_true rfl, Nat.le_of_ble_eq_true rfl⟩ I (gd e7).1 clX12 rfl rfl hl.1 rfl (Nat.le_of_ble_eq_true rfl) dX12_table_96 ⟨Nat.le_of_ble_eq_true rfl, Nat.le_of_ble_eq_true rfl⟩ (fun H locs I => ?_)
        exact o_iret S hr hlo I f dX12_table_99
      · have f := (if_pos q5).symm.trans f
        refine lv_aload_n S.1 S.2.1 dX12_table_85 rfl (lv_at hl 0 rfl) ?_
        obtain ⟨r8, e9, f⟩ := ob f
        refine o_gR S lf12_table_112 I e9 dX12_table_86 ?_
        refine lv_iconst (v := 1) S.1 S.2.1 dX12_table_89 (by decide) ?_
        obtain ⟨v11, e10, f⟩ := ob f
        refine o_iald S I e10 dX12_table_90 ?_
        refine lv_goto (tgt := 99) S.1 S.2.1 dX12_table_91 (by decide) ?_
        exact o_iret S hr hlo I f dX12_table_99
    · have f := (if_pos q4).symm.trans f
      refine lv_aload_n S.1 S.2.1 dX12_table_70 rfl (lv_at hl 0 rfl) ?_
      obtain ⟨r12, e13, f⟩ := ob f
      refine o_gR S lf12_table_109 I e13 dX12_table_71 ?_
      refine lv_iconst (v := 1) S.1 S.2.1 dX12_table_74 (by decide) ?_
      obtain ⟨v15, e14, f⟩ := ob f
      refine o_iald S I e14 dX12_table_75 ?_
      refine lv_goto (tgt := 99) S.1 S.2.1 dX12_table_76 (by decide) ?_
      exact o_iret S hr hlo I f dX12_table_99
  · have f := (if_neg q3).symm.trans f
    refine lv_aload_n S.1 S.2.1 dX12_table_54 rfl (lv_at hl 0 rfl) ?_
    obtain ⟨r16, e17, f⟩ := ob f
    refine o_gR S lf12_table_91 I e17 dX12_table_55 ?_
    refine lv_iconst (v := 5) S.1 S.2.1 dX12_table_58 (by decide) ?_
    refine lv_iload_n S.1 S.2.1 dX12_table_59 rfl (lv_at hl 3 rfl) ?_
    refine lv_iadd S.1 S.2.1 dX12_table_60 ?_
    obtain ⟨v19, e18, f⟩ := ob f
    refine o_iald S I e18 dX12_table_61 ?_
    refine lv_goto (tgt := 99) S.1 S.2.1 dX12_table_62 (by decide) ?_
    exact o_iret S hr hlo I f dX12_table_99
set_option maxHeartbeats 4000000 in
set_option maxRecDepth 100000 in
theorem T12_table_0 (S : CallFix p m c cX12_table 4 s args vX12_table RX12) (hr : meth.sig.returnType = (some .int)) (hlo : meth.locks = false) {out : Int32 × PH} {h : PH} {a0 : Nat} {x1 : Int32} {x2 : Int32} {x3 : Int32} (f : F12_table_0  h a0 x1 x2 x3 = some out) {H : Heap} {locs : List Loc} (I : ph_I D cy b A fl h s H locs) {ls : Array Slot} (hl : lv_has ls 4 [(0, .ref (b + a0)), (1, .int x1), (2, .int x2), (3, .int x3)]) : W p l e ({ frames := 13, cells := 0, slots := 0, locals := 313 } : Room) s m args below meth c H locs 0 0 (MQ below (va_Qi (fun (r : Int32) (u : PH) => (r, u) = out) (ph_B D cy b A fl) A) args s 0 0 A) (F0 m 0 ls []) := by
  unfold F12_table_0 at f
  refine lv_aload_n S.1 S.2.1 dX12_table_0 rfl (lv_at hl 0 rfl) ?_
  refine lv_iconst (v := 0) S.1 S.2.1 dX12_table_1 (by decide) ?_
  obtain ⟨h1, e2, f⟩ := ob f
  refine o_pI S lp12_table_154 I e2 dX12_table_2 (fun H locs I => ?_)
  refine lv_iload_n S.1 S.2.1 dX12_table_5 rfl (lv_at hl 1 rfl) ?_
  refine lv_iconst (v := 0) S.1 S.2.1 dX12_table_6 (by decide) ?_
  refine lv_iconst (v := 3) S.1 S.2.1 dX12_table_7 (by decide) ?_
  obtain ⟨o3, e4, f⟩ := ob f
  refine o_Si S (As := [.int x1, .int 0, .int 3]) (rest := []) (M12_isIn l D cy b A fl e4) gX12_table_X12_isIn rfl rfl rfl cd12_isIn ⟨Nat.le_of_ble_eq_true rfl, Nat.le_of_ble_eq_true rfl⟩ I rfl hl.1 rfl (Nat.le_of_ble_eq_true rfl) dX12_table_8 ⟨Nat.le_of_ble_eq_true rfl, Nat.le_of_ble_eq_true rfl⟩ (fun H locs I => ?_)
  refine lv_if_eq (tgt := 41) S.1 S.2.1 dX12_table_11 (by decide) (fun q5 => ?_) (fun q5 => ?_)
  · have f := (if_pos q5).symm.trans f
    refine lv_iconst (v := (-1)) S.1 S.2.1 dX12_table_41 (by decide) ?_
    exact o_iret S hr hlo I f dX12_table_42
  · have f := (if_neg q5).symm.trans f
    refine lv_iload_n S.1 S.2.1 dX12_table_14 rfl (lv_at hl 2 rfl) ?_
    refine lv_if_lt (tgt := 41) S.1 S.2.1 dX12_table_15 (by decide) (fun q6 => ?_) (fun q6 => ?_)
    · have f := (if_pos q6).symm.trans f
      refine lv_iconst (v := (-1)) S.1 S.2.1 dX12_table_41 (by decide) ?_
      exact o_iret S hr hlo I f dX12_table_42
    · have f := (if_neg q6).symm.trans f
      refine lv_iload_n S.1 S.2.1 dX12_table_18 rfl (lv_at hl 3 rfl) ?_
      refine lv_iconst (v := 0) S.1 S.2.1 dX12_table_19 (by decide) ?_
      refine lv_bipush (v := 7) S.1 S.2.1 dX12_table_20 (by decide) ?_
      obtain ⟨o7, e8, f⟩ := ob f
      refine o_Si S (As := [.int x3, .int 0, .int 7]) (rest := []) (M12_isIn l D cy b A fl e8) gX12_table_X12_isIn rfl rfl rfl cd12_isIn ⟨Nat.le_of_ble_eq_true rfl, Nat.le_of_ble_eq_true rfl⟩ I rfl hl.1 rfl (Nat.le_of_ble_eq_true rfl) dX12_table_22 ⟨Nat.le_of_ble_eq_true rfl, Nat.le_of_ble_eq_true rfl⟩ (fun H locs I => ?_)
      refine lv_if_eq (tgt := 41) S.1 S.2.1 dX12_table_25 (by decide) (fun q9 => ?_) (fun q9 => ?_)
      · have f := (if_pos q9).symm.trans f
        refine lv_iconst (v := (-1)) S.1 S.2.1 dX12_table_41 (by decide) ?_
        exact o_iret S hr hlo I f dX12_table_42
      · have f := (if_neg q9).symm.trans f
        refine lv_iload_n S.1 S.2.1 dX12_table_28 rfl (lv_at hl 3 rfl) ?_
        refine lv_iconst (v := 5) S.1 S.2.1 dX12_table_29 (by decide) ?_
        refine lv_icmp_ge (tgt := 43) S.1 S.2.1 dX12_table_30 (by decide) (fun q10 => ?_) (fun q10 => ?_)
        · have f := (if_pos q10).symm.trans f
          exact T12_table_43 S hr hlo  f I (lv_sub hl [0, 1, 2, 3] rfl)
        · have f := (if_neg q10).symm.trans f
          refine lv_iload_n S.1 S.2.1 dX12_table_33 rfl (lv_at hl 3 rfl) ?_
          refine lv_aload_n S.1 S.2.1 dX12_table_34 rfl (lv_at hl 0 rfl) ?_
          obtain ⟨v11, e12, f⟩ := ob f
          refine o_gI S lf12_table_247 I e12 dX12_table_35 ?_
          refine lv_icmp_lt (tgt := 43) S.1 S.2.1 dX12_table_38 (by decide) (fun q13 => ?_) (fun q13 => ?_)
          · have f := (if_pos q13).symm.trans f
            exact T12_table_43 S hr hlo  f I (lv_sub hl [0, 1, 2, 3] rfl)
          · have f := (if_neg q13).symm.trans f
            refine lv_iconst (v := (-1)) S.1 S.2.1 dX12_table_41 (by decide) ?_
            exact o_iret S hr hlo I f dX12_table_42
theorem M12_table (l : Launch) (D : va_G) (cy : Nat → ClassId) (b : Nat) (A : Nat → Prop) (fl : Bool) {h : PH} {a0 : Nat} {x1 : Int32} {x2 : Int32} {x3 : Int32} {out : Int32 × PH} (f : F12_table h a0 x1 x2 x3 = some out) : Met l yX12_table vX12_table ({ frames := 13, cells := 0, slots := 0, locals := 313 } : Room) (va_Pc [.ref (b + a0), .int x1, .int x2, .int x3] (ph_B D cy b A fl h)) (va_Qi (fun (r : Int32) (u : PH) => (r, u) = out) (ph_B D cy b A fl) A) 0 0 A :=
  o_met (by decide) rfl (Nat.le_of_ble_eq_true rfl) rfl (fun p e s m below meth c S hr hlo hnm ls hl I => T12_table_0 S hr hlo ((gd f).2) I (lv_sub hl [0, 1, 2, 3] rfl))
def vX12_text : List Cond := .code yX12_text cX12_text 3 (some .int) :: TB
theorem lf12_text_172 : Fl vX12_text RX12 172 12 8 := ⟨RX12, TX12, 87, rfl, by decide, (fun w h9 => List.mem_cons_of_mem _ (wC_wsX120 w h9)), (List.mem_cons_of_mem _ wT_26_20)⟩
theorem gX12_text_X12_keepText : GoodIn vX12_text (wsV RX12 151 RX12 yX12_keepText vX12_keepText) := gV_of wT_12_6 wT_12_7 wT_12_8 wT_1_5 wT_12_9
theorem gX12_text_X12_lineRead : GoodIn vX12_text (wsV RX12 295 RX12 yX12_lineRead vX12_lineRead) := gV_of wT_28_0 wT_28_1 wT_28_2 wT_1_5 wT_28_3
theorem lp12_text_154 : Pl vX12_text RX12 154 12 2 .int := ⟨RX12, TX12, 87, tyX12, rfl, by decide, (fun w h9 => List.mem_cons_of_mem _ (wC_wsX120 w h9)), (List.mem_cons_of_mem _ wT_13_17), tyX12_ok, nmX12, rfl, rfl⟩
theorem lf12_text_157 : Fl vX12_text RX12 157 12 1 := ⟨RX12, TX12, 87, rfl, by decide, (fun w h9 => List.mem_cons_of_mem _ (wC_wsX120 w h9)), (List.mem_cons_of_mem _ wT_13_18)⟩
theorem lp12_text_166 : Pl vX12_text RX12 166 12 6 .int := ⟨RX12, TX12, 87, tyX12, rfl, by decide, (fun w h9 => List.mem_cons_of_mem _ (wC_wsX120 w h9)), (List.mem_cons_of_mem _ wT_26_17), tyX12_ok, nmX12, rfl, rfl⟩
theorem lp12_text_157 : Pl vX12_text RX12 157 12 1 .int := ⟨RX12, TX12, 87, tyX12, rfl, by decide, (fun w h9 => List.mem_cons_of_mem _ (wC_wsX120 w h9)), (List.mem_cons_of_mem _ wT_13_18), tyX12_ok, nmX12, rfl, rfl⟩
theorem lp12_text_160 : Pl vX12_text RX12 160 12 4 .int := ⟨RX12, TX12, 87, tyX12, rfl, by decide, (fun w h9 => List.mem_cons_of_mem _ (wC_wsX120 w h9)), (List.mem_cons_of_mem _ wT_26_18), tyX12_ok, nmX12, rfl, rfl⟩
theorem lp12_text_16 : Pl vX12_text RX12 16 12 5 .int := ⟨RX12, TX12, 87, tyX12, rfl, by decide, (fun w h9 => List.mem_cons_of_mem _ (wC_wsX120 w h9)), (List.mem_cons_of_mem _ wT_9_23), tyX12_ok, nmX12, rfl, rfl⟩
theorem lp12_text_169 : Pl vX12_text RX12 169 12 7 .int := ⟨RX12, TX12, 87, tyX12, rfl, by decide, (fun w h9 => List.mem_cons_of_mem _ (wC_wsX120 w h9)), (List.mem_cons_of_mem _ wT_26_19), tyX12_ok, nmX12, rfl, rfl⟩
theorem gX12_text_X12_plain : GoodIn vX12_text (wsV RX12 148 RX12 yX12_plain vX12_plain) := gV_of wT_11_18 wT_11_19 wT_11_20 wT_1_5 wT_11_21
theorem gX12_text_X12_token : GoodIn vX12_text (wsV RX12 206 RX12 yX12_token vX12_token) := gV_of wT_26_21 wT_26_22 wT_26_23 wT_1_5 wT_27_0
set_option maxHeartbeats 4000000 in
set_option maxRecDepth 100000 in
theorem T12_text_55 (S : CallFix p m c cX12_text 3 s args vX12_text RX12) (hr : meth.sig.returnType = (some .int)) (hlo : meth.locks = false) {out : Int32 × PH} : ∀ (n : Nat) {h : PH} {a0 : Nat} {x2 : Int32} (f : F12_text_55  n h a0 x2 = some out) {H : Heap} {locs : List Loc} (I : ph_I D cy b A fl h s H locs) {ls : Array Slot} (hl : lv_has ls 3 [(0, .ref (b + a0)), (2, .int x2)]), W p l e ({ frames := 6, cells := 0, slots := 0, locals := 132 } : Room) s m args below meth c H locs 0 0 (MQ below (va_Qi (fun (r : Int32) (u : PH) => (r, u) = out) (ph_B D cy b A fl) A) args s 0 0 A) (F0 m 55 ls []) := by
  intro n
  induction n with
  | zero => intro h a0 x2 f; rw [F12_text_55] at f; cases f
  | succ n ih =>
    intro h a0 x2 f H locs I ls hl
    rw [F12_text_55] at f
    refine lv_aload_n S.1 S.2.1 dX12_text_55 rfl (lv_at hl 0 rfl) ?_
    obtain ⟨v1, e2, f⟩ := ob f
    refine o_gI S lf12_text_172 I e2 dX12_text_56 ?_
    refine lv_if_eq (tgt := 77) S.1 S.2.1 dX12_text_59 (by decide) (fun q3 => ?_) (fun q3 => ?_)
    · have f := (if_pos q3).symm.trans f
      refine lv_aload_n S.1 S.2.1 dX12_text_77 rfl (lv_at hl 0 rfl) ?_
      obtain ⟨o4, e5, f⟩ := ob f
      refine o_Vv S (As := []) (rest := []) (ci := 12) (M12_keepText l D cy b A fl e5) gX12_text_X12_keepText rfl rfl rfl cd12_keepText ⟨Nat.le_of_ble_eq_true rfl, Nat.le_of_ble_eq_true rfl⟩ I (gd e5).1 clX12 rfl rfl hl.1 rfl (Nat.le_of_ble_eq_true rfl) dX12_text_78 ⟨Nat.le_of_ble_eq_true rfl, Nat.le_of_ble_eq_true rfl⟩ (fun H locs I => ?_)
      refine lv_iload_n S.1 S.2.1 dX12_text_81 rfl (lv_at hl 1 rfl) ?_
      exact o_iret S hr hlo I f dX12_text_82
    · have f := (if_neg q3).symm.trans f
      refine lv_aload_n S.1 S.2.1 dX12_text_62 rfl (lv_at hl 0 rfl) ?_
      obtain ⟨o6, e7, f⟩ := ob f
      refine o_Vi S (As := []) (rest := []) (ci := 12) (M12_lineRead l D cy b A fl e7) gX12_text_X12_lineRead rfl rfl rfl cd12_lineRead ⟨Nat.le_of_ble_eq_true rfl, Nat.le_of_ble_eq_true rfl⟩ I (gd e7).1 clX12 rfl rfl hl.1 rfl (Nat.le_of_ble_eq_true rfl) dX12_text_63 ⟨Nat.le_of_ble_eq_true rfl, Nat.le_of_ble_eq_true rfl⟩ (fun H locs I => ?_)
      refine lv_if_ne (tgt := 71) S.1 S.2.1 dX12_text_66 (by decide) (fun q8 => ?_) (fun q8 => ?_)
      · have f := (if_neg q8).symm.trans f
        refine lv_iinc (v := (x2 + 1)) (lv' := [(2, .int (x2 + 1)), (0, .ref (b + a0))]) S.1 S.2.1 dX12_text_71 hl (k := 1) rfl (congrArg (fun z => x2 + z) (by decide)) (by decide) rfl (fun ls hl => ?_)
        refine lv_goto (tgt := 55) S.1 S.2.1 dX12_text_74 (by decide) ?_
        exact ih f I (lv_sub hl [1, 0] rfl)
      · have f := (if_pos q8).symm.trans f
        refine lv_iconst (v := (-1)) S.1 S.2.1 dX12_text_69 (by decide) ?_
        exact o_iret S hr hlo I f dX12_text_70
set_option maxHeartbeats 4000000 in
set_option maxRecDepth 100000 in
theorem T12_text_0 (S : CallFix p m c cX12_text 3 s args vX12_text RX12) (hr : meth.sig.returnType = (some .int)) (hlo : meth.locks = false) {out : Int32 × PH} {h : PH} {a0 : Nat} {x1 : Int32} (f : F12_text_0  h a0 x1 = some out) {H : Heap} {locs : List Loc} (I : ph_I D cy b A fl h s H locs) {ls : Array Slot} (hl : lv_has ls 3 [(0, .ref (b + a0)), (1, .int x1)]) : W p l e ({ frames := 6, cells := 0, slots := 0, locals := 132 } : Room) s m args below meth c H locs 0 0 (MQ below (va_Qi (fun (r : Int32) (u : PH) => (r, u) = out) (ph_B D cy b A fl) A) args s 0 0 A) (F0 m 0 ls []) := by
  unfold F12_text_0 at f
  refine lv_aload_n S.1 S.2.1 dX12_text_0 rfl (lv_at hl 0 rfl) ?_
  refine lv_iconst (v := 0) S.1 S.2.1 dX12_text_1 (by decide) ?_
  obtain ⟨h1, e2, f⟩ := ob f
  refine o_pI S lp12_text_154 I e2 dX12_text_2 (fun H locs I => ?_)
  refine lv_iload_n S.1 S.2.1 dX12_text_5 rfl (lv_at hl 1 rfl) ?_
  refine lv_if_lt (tgt := 17) S.1 S.2.1 dX12_text_6 (by decide) (fun q3 => ?_) (fun q3 => ?_)
  · have f := (if_pos q3).symm.trans f
    refine lv_bipush (v := (-2)) S.1 S.2.1 dX12_text_17 (by decide) ?_
    exact o_iret S hr hlo I f dX12_text_19
  · have f := (if_neg q3).symm.trans f
    refine lv_iload_n S.1 S.2.1 dX12_text_9 rfl (lv_at hl 1 rfl) ?_
    refine lv_aload_n S.1 S.2.1 dX12_text_10 rfl (lv_at hl 0 rfl) ?_
    obtain ⟨v4, e5, f⟩ := ob f
    refine o_gI S lf12_text_157 I e5 dX12_text_11 ?_
    refine lv_icmp_le (tgt := 20) S.1 S.2.1 dX12_text_14 (by decide) (fun q6 => ?_) (fun q6 => ?_)
    · have f := (if_pos q6).symm.trans f
      refine lv_aload_n S.1 S.2.1 dX12_text_20 rfl (lv_at hl 0 rfl) ?_
      refine lv_iload_n S.1 S.2.1 dX12_text_21 rfl (lv_at hl 1 rfl) ?_
      obtain ⟨h7, e8, f⟩ := ob f
      refine o_pI S lp12_text_166 I e8 dX12_text_22 (fun H locs I => ?_)
      refine lv_aload_n S.1 S.2.1 dX12_text_25 rfl (lv_at hl 0 rfl) ?_
      refine lv_iconst (v := 0) S.1 S.2.1 dX12_text_26 (by decide) ?_
      obtain ⟨h9, e10, f⟩ := ob f
      refine o_pI S lp12_text_157 I e10 dX12_text_27 (fun H locs I => ?_)
      refine lv_aload_n S.1 S.2.1 dX12_text_30 rfl (lv_at hl 0 rfl) ?_
      refine lv_iconst (v := 0) S.1 S.2.1 dX12_text_31 (by decide) ?_
      obtain ⟨h11, e12, f⟩ := ob f
      refine o_pI S lp12_text_160 I e12 dX12_text_32 (fun H locs I => ?_)
      refine lv_aload_n S.1 S.2.1 dX12_text_35 rfl (lv_at hl 0 rfl) ?_
      refine lv_iconst (v := (-1)) S.1 S.2.1 dX12_text_36 (by decide) ?_
      obtain ⟨h13, e14, f⟩ := ob f
      refine o_pI S lp12_text_16 I e14 dX12_text_37 (fun H locs I => ?_)
      refine lv_aload_n S.1 S.2.1 dX12_text_40 rfl (lv_at hl 0 rfl) ?_
      refine lv_iconst (v := 0) S.1 S.2.1 dX12_text_41 (by decide) ?_
      obtain ⟨h15, e16, f⟩ := ob f
      refine o_pI S lp12_text_169 I e16 dX12_text_42 (fun H locs I => ?_)
      refine lv_aload_n S.1 S.2.1 dX12_text_45 rfl (lv_at hl 0 rfl) ?_
      obtain ⟨o17, e18, f⟩ := ob f
      refine o_Vv S (As := []) (rest := []) (ci := 12) (M12_plain l D cy b A fl e18) gX12_text_X12_plain rfl rfl rfl cd12_plain ⟨Nat.le_of_ble_eq_true rfl, Nat.le_of_ble_eq_true rfl⟩ I (gd e18).1 clX12 rfl rfl hl.1 rfl (Nat.le_of_ble_eq_true rfl) dX12_text_46 ⟨Nat.le_of_ble_eq_true rfl, Nat.le_of_ble_eq_true rfl⟩ (fun H locs I => ?_)
      refine lv_aload_n S.1 S.2.1 dX12_text_49 rfl (lv_at hl 0 rfl) ?_
      obtain ⟨o19, e20, f⟩ := ob f
      refine o_Vv S (As := []) (rest := []) (ci := 12) (M12_token l D cy b A fl e20) gX12_text_X12_token rfl rfl rfl cd12_token ⟨Nat.le_of_ble_eq_true rfl, Nat.le_of_ble_eq_true rfl⟩ I (gd e20).1 clX12 rfl rfl hl.1 rfl (Nat.le_of_ble_eq_true rfl) dX12_text_50 ⟨Nat.le_of_ble_eq_true rfl, Nat.le_of_ble_eq_true rfl⟩ (fun H locs I => ?_)
      refine lv_iconst (v := 0) S.1 S.2.1 dX12_text_53 (by decide) ?_
      refine lv_istore_n (lv' := [(2, .int 0), (0, .ref (b + a0)), (1, .int x1)]) S.1 S.2.1 dX12_text_54 rfl hl (by decide) rfl (fun ls hl => ?_)
      exact T12_text_55 S hr hlo  1024 f I (lv_sub hl [1, 0] rfl)
    · have f := (if_neg q6).symm.trans f
      refine lv_bipush (v := (-2)) S.1 S.2.1 dX12_text_17 (by decide) ?_
      exact o_iret S hr hlo I f dX12_text_19
theorem M12_text (l : Launch) (D : va_G) (cy : Nat → ClassId) (b : Nat) (A : Nat → Prop) (fl : Bool) {h : PH} {a0 : Nat} {x1 : Int32} {out : Int32 × PH} (f : F12_text h a0 x1 = some out) : Met l yX12_text vX12_text ({ frames := 6, cells := 0, slots := 0, locals := 132 } : Room) (va_Pc [.ref (b + a0), .int x1] (ph_B D cy b A fl h)) (va_Qi (fun (r : Int32) (u : PH) => (r, u) = out) (ph_B D cy b A fl) A) 0 0 A :=
  o_met (by decide) rfl (Nat.le_of_ble_eq_true rfl) rfl (fun p e s m below meth c S hr hlo hnm ls hl I => T12_text_0 S hr hlo ((gd f).2) I (lv_sub hl [0, 1] rfl))
def vX12_tried : List Cond := .code yX12_tried cX12_tried 7 (some .int) :: TB
theorem lf12_tried_369 : Fl vX12_tried RX12 369 12 64 := ⟨RX12, TX12, 87, rfl, by decide, (fun w h9 => List.mem_cons_of_mem _ (wC_wsX120 w h9)), (List.mem_cons_of_mem _ wT_12_23)⟩
theorem gX12_tried_X12_goesOn : GoodIn vX12_tried (wsV RX12 512 RX12 yX12_goesOn vX12_goesOn) := gV_of wT_58_13 wT_58_14 wT_58_15 wT_1_5 wT_58_16
theorem lp12_tried_115 : Pl vX12_tried RX12 115 12 66 .int := ⟨RX12, TX12, 87, tyX12, rfl, by decide, (fun w h9 => List.mem_cons_of_mem _ (wC_wsX120 w h9)), (List.mem_cons_of_mem _ wT_11_7), tyX12_ok, nmX12, rfl, rfl⟩
theorem lp12_tried_372 : Pl vX12_tried RX12 372 12 65 .long := ⟨RX12, TX12, 87, tyX12, rfl, by decide, (fun w h9 => List.mem_cons_of_mem _ (wC_wsX120 w h9)), (List.mem_cons_of_mem _ wT_13_0), tyX12_ok, nmX12, rfl, rfl⟩
theorem gX12_tried_X12_allHad : GoodIn vX12_tried (wsV RX12 521 RX12 yX12_allHad vX12_allHad) := gV_of wT_61_5 wT_61_6 wT_61_7 wT_1_5 wT_61_8
theorem lf12_tried_247 : Fl vX12_tried RX12 247 12 14 := ⟨RX12, TX12, 87, rfl, by decide, (fun w h9 => List.mem_cons_of_mem _ (wC_wsX120 w h9)), (List.mem_cons_of_mem _ wT_12_12)⟩
theorem lf12_tried_88 : Fl vX12_tried RX12 88 12 55 := ⟨RX12, TX12, 87, rfl, by decide, (fun w h9 => List.mem_cons_of_mem _ (wC_wsX120 w h9)), (List.mem_cons_of_mem _ wT_10_22)⟩
theorem lf12_tried_372 : Fl vX12_tried RX12 372 12 65 := ⟨RX12, TX12, 87, rfl, by decide, (fun w h9 => List.mem_cons_of_mem _ (wC_wsX120 w h9)), (List.mem_cons_of_mem _ wT_13_0)⟩
theorem gX12_tried_X12_layTried : GoodIn vX12_tried (wsV RX12 509 RX12 yX12_layTried vX12_layTried) := gV_of wT_58_9 wT_58_10 wT_58_11 wT_1_5 wT_58_12
theorem lp12_tried_430 : Pl vX12_tried RX12 430 12 67 .int := ⟨RX12, TX12, 87, tyX12, rfl, by decide, (fun w h9 => List.mem_cons_of_mem _ (wC_wsX120 w h9)), (List.mem_cons_of_mem _ wT_47_6), tyX12_ok, nmX12, rfl, rfl⟩
theorem gX12_tried_X12_isSurfer : GoodIn vX12_tried (wsV RX12 413 RX12 yX12_isSurfer vX12_isSurfer) := gV_of wT_34_14 wT_34_15 wT_34_16 wT_1_5 wT_34_17
theorem lp12_tried_154 : Pl vX12_tried RX12 154 12 2 .int := ⟨RX12, TX12, 87, tyX12, rfl, by decide, (fun w h9 => List.mem_cons_of_mem _ (wC_wsX120 w h9)), (List.mem_cons_of_mem _ wT_13_17), tyX12_ok, nmX12, rfl, rfl⟩
theorem gX12_tried_X12_isIn : GoodIn vX12_tried (va_wsS RX12 199 yX12_isIn vX12_isIn) := gS_of wT_28_17 wT_28_18 wT_1_5 wT_28_19
set_option maxHeartbeats 4000000 in
set_option maxRecDepth 100000 in
theorem T12_tried_111 (S : CallFix p m c cX12_tried 7 s args vX12_tried RX12) (hr : meth.sig.returnType = (some .int)) (hlo : meth.locks = false) {out : Int32 × PH} {h : PH} {a0 : Nat} {j4 : Int64} (f : F12_tried_111  h a0 j4 = some out) {H : Heap} {locs : List Loc} (I : ph_I D cy b A fl h s H locs) {ls : Array Slot} (hl : lv_has ls 7 [(0, .ref (b + a0)), (4, .long j4)]) : W p l e ({ frames := 12, cells := 0, slots := 0, locals := 289 } : Room) s m args below meth c H locs 0 0 (MQ below (va_Qi (fun (r : Int32) (u : PH) => (r, u) = out) (ph_B D cy b A fl) A) args s 0 0 A) (F0 m 111 ls []) := by
  unfold F12_tried_111 at f
  refine lv_aload_n S.1 S.2.1 dX12_tried_111 rfl (lv_at hl 0 rfl) ?_
  refine lv_aload_n S.1 S.2.1 dX12_tried_112 rfl (lv_at hl 0 rfl) ?_
  obtain ⟨v1, e2, f⟩ := ob f
  refine o_gI S lf12_tried_369 I e2 dX12_tried_113 ?_
  obtain ⟨o3, e4, f⟩ := ob f
  refine o_Vv S (As := [.int v1]) (rest := []) (ci := 12) (M12_goesOn l D cy b A fl e4) gX12_tried_X12_goesOn rfl rfl rfl cd12_goesOn ⟨Nat.le_of_ble_eq_true rfl, Nat.le_of_ble_eq_true rfl⟩ I (gd e4).1 clX12 rfl rfl hl.1 rfl (Nat.le_of_ble_eq_true rfl) dX12_tried_116 ⟨Nat.le_of_ble_eq_true rfl, Nat.le_of_ble_eq_true rfl⟩ (fun H locs I => ?_)
  refine lv_aload_n S.1 S.2.1 dX12_tried_119 rfl (lv_at hl 0 rfl) ?_
  refine lv_iconst (v := (-1)) S.1 S.2.1 dX12_tried_120 (by decide) ?_
  obtain ⟨h5, e6, f⟩ := ob f
  refine o_pI S lp12_tried_115 I e6 dX12_tried_121 (fun H locs I => ?_)
  refine lv_aload_n S.1 S.2.1 dX12_tried_124 rfl (lv_at hl 0 rfl) ?_
  refine lv_lload S.1 S.2.1 dX12_tried_125 (lv_at hl 1 rfl) ?_
  obtain ⟨h7, e8, f⟩ := ob f
  refine o_pJ S lp12_tried_372 I e8 dX12_tried_127 (fun H locs I => ?_)
  refine lv_aload_n S.1 S.2.1 dX12_tried_130 rfl (lv_at hl 0 rfl) ?_
  refine lv_iconst (v := 1) S.1 S.2.1 dX12_tried_131 (by decide) ?_
  obtain ⟨o9, e10, f⟩ := ob f
  refine o_Vi S (As := [.int 1]) (rest := []) (ci := 12) (M12_allHad l D cy b A fl e10) gX12_tried_X12_allHad rfl rfl rfl cd12_allHad ⟨Nat.le_of_ble_eq_true rfl, Nat.le_of_ble_eq_true rfl⟩ I (gd e10).1 clX12 rfl rfl hl.1 rfl (Nat.le_of_ble_eq_true rfl) dX12_tried_132 ⟨Nat.le_of_ble_eq_true rfl, Nat.le_of_ble_eq_true rfl⟩ (fun H locs I => ?_)
  exact o_iret S hr hlo I f dX12_tried_135
set_option maxHeartbeats 4000000 in
set_option maxRecDepth 100000 in
theorem T12_tried_76 (S : CallFix p m c cX12_tried 7 s args vX12_tried RX12) (hr : meth.sig.returnType = (some .int)) (hlo : meth.locks = false) {out : Int32 × PH} : ∀ (n : Nat) {h : PH} {a0 : Nat} {x1 : Int32} {x2 : Int32} {j4 : Int64} {x6 : Int32} (f : F12_tried_76  n h a0 x1 x2 j4 x6 = some out) {H : Heap} {locs : List Loc} (I : ph_I D cy b A fl h s H locs) {ls : Array Slot} (hl : lv_has ls 7 [(0, .ref (b + a0)), (1, .int x1), (2, .int x2), (4, .long j4), (6, .int x6)]), W p l e ({ frames := 12, cells := 0, slots := 0, locals := 289 } : Room) s m args below meth c H locs 0 0 (MQ below (va_Qi (fun (r : Int32) (u : PH) => (r, u) = out) (ph_B D cy b A fl) A) args s 0 0 A) (F0 m 76 ls []) := by
  intro n
  induction n with
  | zero => intro h a0 x1 x2 j4 x6 f; rw [F12_tried_76] at f; cases f
  | succ n ih =>
    intro h a0 x1 x2 j4 x6 f H locs I ls hl
    rw [F12_tried_76] at f
    refine lv_iload S.1 S.2.1 dX12_tried_76 (lv_at hl 4 rfl) ?_
    refine lv_aload_n S.1 S.2.1 dX12_tried_78 rfl (lv_at hl 0 rfl) ?_
    obtain ⟨v1, e2, f⟩ := ob f
    refine o_gI S lf12_tried_247 I e2 dX12_tried_79 ?_
    refine lv_icmp_ge (tgt := 111) S.1 S.2.1 dX12_tried_82 (by decide) (fun q3 => ?_) (fun q3 => ?_)
    · have f := (if_pos q3).symm.trans f
      exact T12_tried_111 S hr hlo  f I (lv_sub hl [0, 3] rfl)
    · have f := (if_neg q3).symm.trans f
      refine lv_iload_n S.1 S.2.1 dX12_tried_85 rfl (lv_at hl 1 rfl) ?_
      refine lv_iconst (v := 4) S.1 S.2.1 dX12_tried_86 (by decide) ?_
      refine lv_icmp_ne (tgt := 111) S.1 S.2.1 dX12_tried_87 (by decide) (fun q4 => ?_) (fun q4 => ?_)
      · have f := (if_neg q4).symm.trans f
        exact T12_tried_111 S hr hlo  f I (lv_sub hl [0, 3] rfl)
      · have f := (if_pos q4).symm.trans f
        refine lv_aload_n S.1 S.2.1 dX12_tried_90 rfl (lv_at hl 0 rfl) ?_
        obtain ⟨r5, e6, f⟩ := ob f
        refine o_gR S lf12_tried_88 I e6 dX12_tried_91 ?_
        refine lv_iconst (v := 5) S.1 S.2.1 dX12_tried_94 (by decide) ?_
        refine lv_iload S.1 S.2.1 dX12_tried_95 (lv_at hl 4 rfl) ?_
        refine lv_iadd S.1 S.2.1 dX12_tried_97 ?_
        refine lv_aload_n S.1 S.2.1 dX12_tried_98 rfl (lv_at hl 0 rfl) ?_
        obtain ⟨r7, e8, f⟩ := ob f
        refine o_gR S lf12_tried_88 I e8 dX12_tried_99 ?_
        refine lv_iload_n S.1 S.2.1 dX12_tried_102 rfl (lv_at hl 2 rfl) ?_
        obtain ⟨v10, e9, f⟩ := ob f
        refine o_iald S I e9 dX12_tried_103 ?_
        obtain ⟨h12, e11, f⟩ := ob f
        refine o_iast S I e11 dX12_tried_104 (fun H locs I => ?_)
        refine lv_iinc (v := (x6 + 1)) (lv' := [(6, .int (x6 + 1)), (0, .ref (b + a0)), (1, .int x1), (2, .int x2), (4, .long j4)]) S.1 S.2.1 dX12_tried_105 hl (k := 4) rfl (congrArg (fun z => x6 + z) (by decide)) (by decide) rfl (fun ls hl => ?_)
        refine lv_goto (tgt := 76) S.1 S.2.1 dX12_tried_108 (by decide) ?_
        exact ih f I (lv_sub hl [1, 2, 3, 4, 0] rfl)
set_option maxHeartbeats 4000000 in
set_option maxRecDepth 100000 in
theorem T12_tried_47 (S : CallFix p m c cX12_tried 7 s args vX12_tried RX12) (hr : meth.sig.returnType = (some .int)) (hlo : meth.locks = false) {out : Int32 × PH} {h : PH} {a0 : Nat} {x1 : Int32} {x2 : Int32} {x3 : Int32} (f : F12_tried_47  h a0 x1 x2 x3 = some out) {H : Heap} {locs : List Loc} (I : ph_I D cy b A fl h s H locs) {ls : Array Slot} (hl : lv_has ls 7 [(0, .ref (b + a0)), (1, .int x1), (2, .int x2), (3, .int x3)]) : W p l e ({ frames := 12, cells := 0, slots := 0, locals := 289 } : Room) s m args below meth c H locs 0 0 (MQ below (va_Qi (fun (r : Int32) (u : PH) => (r, u) = out) (ph_B D cy b A fl) A) args s 0 0 A) (F0 m 47 ls []) := by
  unfold F12_tried_47 at f
  refine lv_aload_n S.1 S.2.1 dX12_tried_47 rfl (lv_at hl 0 rfl) ?_
  obtain ⟨w1, e2, f⟩ := ob f
  refine o_gJ S lf12_tried_372 I e2 dX12_tried_48 ?_
  refine lv_lstore (lv' := [(4, .long w1), (0, .ref (b + a0)), (1, .int x1), (2, .int x2), (3, .int x3)]) S.1 S.2.1 dX12_tried_51 hl (by decide) rfl (fun ls hl => ?_)
  refine lv_aload_n S.1 S.2.1 dX12_tried_53 rfl (lv_at hl 1 rfl) ?_
  refine lv_iload_n S.1 S.2.1 dX12_tried_54 rfl (lv_at hl 4 rfl) ?_
  refine lv_i2l (v := Int32.toInt64 x3) S.1 S.2.1 dX12_tried_55 rfl ?_
  obtain ⟨h3, e4, f⟩ := ob f
  refine o_pJ S lp12_tried_372 I e4 dX12_tried_56 (fun H locs I => ?_)
  refine lv_aload_n S.1 S.2.1 dX12_tried_59 rfl (lv_at hl 1 rfl) ?_
  obtain ⟨o5, e6, f⟩ := ob f
  refine o_Vv S (As := []) (rest := []) (ci := 12) (M12_layTried l D cy b A fl e6) gX12_tried_X12_layTried rfl rfl rfl cd12_layTried ⟨Nat.le_of_ble_eq_true rfl, Nat.le_of_ble_eq_true rfl⟩ I (gd e6).1 clX12 rfl rfl hl.1 rfl (Nat.le_of_ble_eq_true rfl) dX12_tried_60 ⟨Nat.le_of_ble_eq_true rfl, Nat.le_of_ble_eq_true rfl⟩ (fun H locs I => ?_)
  refine lv_aload_n S.1 S.2.1 dX12_tried_63 rfl (lv_at hl 1 rfl) ?_
  refine lv_iload_n S.1 S.2.1 dX12_tried_64 rfl (lv_at hl 2 rfl) ?_
  obtain ⟨h7, e8, f⟩ := ob f
  refine o_pI S lp12_tried_115 I e8 dX12_tried_65 (fun H locs I => ?_)
  refine lv_aload_n S.1 S.2.1 dX12_tried_68 rfl (lv_at hl 1 rfl) ?_
  refine lv_iload_n S.1 S.2.1 dX12_tried_69 rfl (lv_at hl 3 rfl) ?_
  obtain ⟨h9, e10, f⟩ := ob f
  refine o_pI S lp12_tried_430 I e10 dX12_tried_70 (fun H locs I => ?_)
  refine lv_iconst (v := 0) S.1 S.2.1 dX12_tried_73 (by decide) ?_
  refine lv_istore (lv' := [(6, .int 0), (4, .long w1), (0, .ref (b + a0)), (1, .int x1), (2, .int x2), (3, .int x3)]) S.1 S.2.1 dX12_tried_74 hl (by decide) rfl (fun ls hl => ?_)
  exact T12_tried_76 S hr hlo  1024 f I (lv_sub hl [2, 3, 4, 1, 0] rfl)
set_option maxHeartbeats 4000000 in
set_option maxRecDepth 100000 in
theorem T12_tried_30 (S : CallFix p m c cX12_tried 7 s args vX12_tried RX12) (hr : meth.sig.returnType = (some .int)) (hlo : meth.locks = false) {out : Int32 × PH} {h : PH} {a0 : Nat} {x1 : Int32} {x2 : Int32} {x3 : Int32} (f : F12_tried_30  h a0 x1 x2 x3 = some out) {H : Heap} {locs : List Loc} (I : ph_I D cy b A fl h s H locs) {ls : Array Slot} (hl : lv_has ls 7 [(0, .ref (b + a0)), (1, .int x1), (2, .int x2), (3, .int x3)]) : W p l e ({ frames := 12, cells := 0, slots := 0, locals := 289 } : Room) s m args below meth c H locs 0 0 (MQ below (va_Qi (fun (r : Int32) (u : PH) => (r, u) = out) (ph_B D cy b A fl) A) args s 0 0 A) (F0 m 30 ls []) := by
  unfold F12_tried_30 at f
  refine lv_aload_n S.1 S.2.1 dX12_tried_30 rfl (lv_at hl 0 rfl) ?_
  refine lv_iload_n S.1 S.2.1 dX12_tried_31 rfl (lv_at hl 2 rfl) ?_
  obtain ⟨o1, e2, f⟩ := ob f
  refine o_Vi S (As := [.int x2]) (rest := []) (ci := 12) (M12_isSurfer l D cy b A fl e2) gX12_tried_X12_isSurfer rfl rfl rfl cd12_isSurfer ⟨Nat.le_of_ble_eq_true rfl, Nat.le_of_ble_eq_true rfl⟩ I (gd e2).1 clX12 rfl rfl hl.1 rfl (Nat.le_of_ble_eq_true rfl) dX12_tried_32 ⟨Nat.le_of_ble_eq_true rfl, Nat.le_of_ble_eq_true rfl⟩ (fun H locs I => ?_)
  refine lv_if_ne (tgt := 47) S.1 S.2.1 dX12_tried_35 (by decide) (fun q3 => ?_) (fun q3 => ?_)
  · have f := (if_neg q3).symm.trans f
    exact T12_tried_47 S hr hlo  f I (lv_sub hl [0, 1, 2, 3] rfl)
  · have f := (if_pos q3).symm.trans f
    refine lv_goto (tgt := 45) S.1 S.2.1 dX12_tried_38 (by decide) ?_
    refine lv_iconst (v := (-1)) S.1 S.2.1 dX12_tried_45 (by decide) ?_
    exact o_iret S hr hlo I f dX12_tried_46
set_option maxHeartbeats 4000000 in
set_option maxRecDepth 100000 in
theorem T12_tried_0 (S : CallFix p m c cX12_tried 7 s args vX12_tried RX12) (hr : meth.sig.returnType = (some .int)) (hlo : meth.locks = false) {out : Int32 × PH} {h : PH} {a0 : Nat} {x1 : Int32} {x2 : Int32} {x3 : Int32} (f : F12_tried_0  h a0 x1 x2 x3 = some out) {H : Heap} {locs : List Loc} (I : ph_I D cy b A fl h s H locs) {ls : Array Slot} (hl : lv_has ls 7 [(0, .ref (b + a0)), (1, .int x1), (2, .int x2), (3, .int x3)]) : W p l e ({ frames := 12, cells := 0, slots := 0, locals := 289 } : Room) s m args below meth c H locs 0 0 (MQ below (va_Qi (fun (r : Int32) (u : PH) => (r, u) = out) (ph_B D cy b A fl) A) args s 0 0 A) (F0 m 0 ls []) := by
  unfold F12_tried_0 at f
  refine lv_aload_n S.1 S.2.1 dX12_tried_0 rfl (lv_at hl 0 rfl) ?_
  refine lv_iconst (v := 0) S.1 S.2.1 dX12_tried_1 (by decide) ?_
  obtain ⟨h1, e2, f⟩ := ob f
  refine o_pI S lp12_tried_154 I e2 dX12_tried_2 (fun H locs I => ?_)
  refine lv_iload_n S.1 S.2.1 dX12_tried_5 rfl (lv_at hl 1 rfl) ?_
  refine lv_iconst (v := 0) S.1 S.2.1 dX12_tried_6 (by decide) ?_
  refine lv_iconst (v := 4) S.1 S.2.1 dX12_tried_7 (by decide) ?_
  obtain ⟨o3, e4, f⟩ := ob f
  refine o_Si S (As := [.int x1, .int 0, .int 4]) (rest := []) (M12_isIn l D cy b A fl e4) gX12_tried_X12_isIn rfl rfl rfl cd12_isIn ⟨Nat.le_of_ble_eq_true rfl, Nat.le_of_ble_eq_true rfl⟩ I rfl hl.1 rfl (Nat.le_of_ble_eq_true rfl) dX12_tried_8 ⟨Nat.le_of_ble_eq_true rfl, Nat.le_of_ble_eq_true rfl⟩ (fun H locs I => ?_)
  refine lv_if_eq (tgt := 18) S.1 S.2.1 dX12_tried_11 (by decide) (fun q5 => ?_) (fun q5 => ?_)
  · have f := (if_pos q5).symm.trans f
    refine lv_iconst (v := (-1)) S.1 S.2.1 dX12_tried_18 (by decide) ?_
    exact o_iret S hr hlo I f dX12_tried_19
  · have f := (if_neg q5).symm.trans f
    refine lv_iload_n S.1 S.2.1 dX12_tried_14 rfl (lv_at hl 3 rfl) ?_
    refine lv_if_ge (tgt := 20) S.1 S.2.1 dX12_tried_15 (by decide) (fun q6 => ?_) (fun q6 => ?_)
    · have f := (if_pos q6).symm.trans f
      refine lv_iload_n S.1 S.2.1 dX12_tried_20 rfl (lv_at hl 1 rfl) ?_
      refine lv_iconst (v := 1) S.1 S.2.1 dX12_tried_21 (by decide) ?_
      refine lv_icmp_eq (tgt := 30) S.1 S.2.1 dX12_tried_22 (by decide) (fun q7 => ?_) (fun q7 => ?_)
      · have f := (if_pos q7).symm.trans f
        exact T12_tried_30 S hr hlo  f I (lv_sub hl [0, 1, 2, 3] rfl)
      · have f := (if_neg q7).symm.trans f
        refine lv_iload_n S.1 S.2.1 dX12_tried_25 rfl (lv_at hl 1 rfl) ?_
        refine lv_iconst (v := 4) S.1 S.2.1 dX12_tried_26 (by decide) ?_
        refine lv_icmp_ne (tgt := 41) S.1 S.2.1 dX12_tried_27 (by decide) (fun q8 => ?_) (fun q8 => ?_)
        · have f := (if_neg q8).symm.trans f
          refine lv_iload_n S.1 S.2.1 dX12_tried_41 rfl (lv_at hl 2 rfl) ?_
          refine lv_if_eq (tgt := 47) S.1 S.2.1 dX12_tried_42 (by decide) (fun q9 => ?_) (fun q9 => ?_)
          · have f := (if_pos q9).symm.trans f
            exact T12_tried_47 S hr hlo  f I (lv_sub hl [0, 1, 2, 3] rfl)
          · have f := (if_neg q9).symm.trans f
            refine lv_iconst (v := (-1)) S.1 S.2.1 dX12_tried_45 (by decide) ?_
            exact o_iret S hr hlo I f dX12_tried_46
        · have f := (if_pos q8).symm.trans f
          exact T12_tried_30 S hr hlo  f I (lv_sub hl [0, 1, 2, 3] rfl)
    · have f := (if_neg q6).symm.trans f
      refine lv_iconst (v := (-1)) S.1 S.2.1 dX12_tried_18 (by decide) ?_
      exact o_iret S hr hlo I f dX12_tried_19
theorem M12_tried (l : Launch) (D : va_G) (cy : Nat → ClassId) (b : Nat) (A : Nat → Prop) (fl : Bool) {h : PH} {a0 : Nat} {x1 : Int32} {x2 : Int32} {x3 : Int32} {out : Int32 × PH} (f : F12_tried h a0 x1 x2 x3 = some out) : Met l yX12_tried vX12_tried ({ frames := 12, cells := 0, slots := 0, locals := 289 } : Room) (va_Pc [.ref (b + a0), .int x1, .int x2, .int x3] (ph_B D cy b A fl h)) (va_Qi (fun (r : Int32) (u : PH) => (r, u) = out) (ph_B D cy b A fl) A) 0 0 A :=
  o_met (by decide) rfl (Nat.le_of_ble_eq_true rfl) rfl (fun p e s m below meth c S hr hlo hnm ls hl I => T12_tried_0 S hr hlo ((gd f).2) I (lv_sub hl [0, 1, 2, 3] rfl))
def vX12_undo : List Cond := .code yX12_undo cX12_undo 2 (some .int) :: TB
theorem lf12_undo_142 : Fl vX12_undo RX12 142 12 79 := ⟨RX12, TX12, 87, rfl, by decide, (fun w h9 => List.mem_cons_of_mem _ (wC_wsX120 w h9)), (List.mem_cons_of_mem _ wT_11_16)⟩
theorem lf12_undo_379 : Fl vX12_undo RX12 379 12 78 := ⟨RX12, TX12, 87, rfl, by decide, (fun w h9 => List.mem_cons_of_mem _ (wC_wsX120 w h9)), (List.mem_cons_of_mem _ wT_13_2)⟩
theorem lp12_undo_369 : Pl vX12_undo RX12 369 12 64 .int := ⟨RX12, TX12, 87, tyX12, rfl, by decide, (fun w h9 => List.mem_cons_of_mem _ (wC_wsX120 w h9)), (List.mem_cons_of_mem _ wT_12_23), tyX12_ok, nmX12, rfl, rfl⟩
theorem lf12_undo_88 : Fl vX12_undo RX12 88 12 55 := ⟨RX12, TX12, 87, rfl, by decide, (fun w h9 => List.mem_cons_of_mem _ (wC_wsX120 w h9)), (List.mem_cons_of_mem _ wT_10_22)⟩
theorem lf12_undo_100 : Fl vX12_undo RX12 100 12 59 := ⟨RX12, TX12, 87, rfl, by decide, (fun w h9 => List.mem_cons_of_mem _ (wC_wsX120 w h9)), (List.mem_cons_of_mem _ wT_11_2)⟩
theorem lp12_undo_154 : Pl vX12_undo RX12 154 12 2 .int := ⟨RX12, TX12, 87, tyX12, rfl, by decide, (fun w h9 => List.mem_cons_of_mem _ (wC_wsX120 w h9)), (List.mem_cons_of_mem _ wT_13_17), tyX12_ok, nmX12, rfl, rfl⟩
theorem lp12_undo_379 : Pl vX12_undo RX12 379 12 78 .int := ⟨RX12, TX12, 87, tyX12, rfl, by decide, (fun w h9 => List.mem_cons_of_mem _ (wC_wsX120 w h9)), (List.mem_cons_of_mem _ wT_13_2), tyX12_ok, nmX12, rfl, rfl⟩
set_option maxHeartbeats 4000000 in
set_option maxRecDepth 100000 in
theorem T12_undo_26 (S : CallFix p m c cX12_undo 2 s args vX12_undo RX12) (hr : meth.sig.returnType = (some .int)) (hlo : meth.locks = false) {out : Int32 × PH} : ∀ (n : Nat) {h : PH} {a0 : Nat} {x1 : Int32} (f : F12_undo_26  n h a0 x1 = some out) {H : Heap} {locs : List Loc} (I : ph_I D cy b A fl h s H locs) {ls : Array Slot} (hl : lv_has ls 2 [(0, .ref (b + a0)), (1, .int x1)]), W p l e ({ frames := 0, cells := 0, slots := 0, locals := 0 } : Room) s m args below meth c H locs 0 0 (MQ below (va_Qi (fun (r : Int32) (u : PH) => (r, u) = out) (ph_B D cy b A fl) A) args s 0 0 A) (F0 m 26 ls []) := by
  intro n
  induction n with
  | zero => intro h a0 x1 f; rw [F12_undo_26] at f; cases f
  | succ n ih =>
    intro h a0 x1 f H locs I ls hl
    rw [F12_undo_26] at f
    refine lv_iload_n S.1 S.2.1 dX12_undo_26 rfl (lv_at hl 1 rfl) ?_
    refine lv_iconst (v := 5) S.1 S.2.1 dX12_undo_27 (by decide) ?_
    refine lv_icmp_ge (tgt := 79) S.1 S.2.1 dX12_undo_28 (by decide) (fun q1 => ?_) (fun q1 => ?_)
    · have f := (if_pos q1).symm.trans f
      refine lv_aload_n S.1 S.2.1 dX12_undo_79 rfl (lv_at hl 0 rfl) ?_
      refine lv_aload_n S.1 S.2.1 dX12_undo_80 rfl (lv_at hl 0 rfl) ?_
      obtain ⟨r2, e3, f⟩ := ob f
      refine o_gR S lf12_undo_142 I e3 dX12_undo_81 ?_
      refine lv_bipush (v := 11) S.1 S.2.1 dX12_undo_84 (by decide) ?_
      refine lv_aload_n S.1 S.2.1 dX12_undo_86 rfl (lv_at hl 0 rfl) ?_
      obtain ⟨v4, e5, f⟩ := ob f
      refine o_gI S lf12_undo_379 I e5 dX12_undo_87 ?_
      refine lv_imul S.1 S.2.1 dX12_undo_90 ?_
      refine lv_bipush (v := 10) S.1 S.2.1 dX12_undo_91 (by decide) ?_
      refine lv_iadd S.1 S.2.1 dX12_undo_93 ?_
      obtain ⟨v7, e6, f⟩ := ob f
      refine o_iald S I e6 dX12_undo_94 ?_
      obtain ⟨h8, e9, f⟩ := ob f
      refine o_pI S lp12_undo_369 I e9 dX12_undo_95 (fun H locs I => ?_)
      refine lv_aload_n S.1 S.2.1 dX12_undo_98 rfl (lv_at hl 0 rfl) ?_
      obtain ⟨v10, e11, f⟩ := ob f
      refine o_gI S lf12_undo_379 I e11 dX12_undo_99 ?_
      exact o_iret S hr hlo I f dX12_undo_102
    · have f := (if_neg q1).symm.trans f
      refine lv_aload_n S.1 S.2.1 dX12_undo_31 rfl (lv_at hl 0 rfl) ?_
      obtain ⟨r12, e13, f⟩ := ob f
      refine o_gR S lf12_undo_88 I e13 dX12_undo_32 ?_
      refine lv_iload_n S.1 S.2.1 dX12_undo_35 rfl (lv_at hl 1 rfl) ?_
      refine lv_aload_n S.1 S.2.1 dX12_undo_36 rfl (lv_at hl 0 rfl) ?_
      obtain ⟨r14, e15, f⟩ := ob f
      refine o_gR S lf12_undo_142 I e15 dX12_undo_37 ?_
      refine lv_bipush (v := 11) S.1 S.2.1 dX12_undo_40 (by decide) ?_
      refine lv_aload_n S.1 S.2.1 dX12_undo_42 rfl (lv_at hl 0 rfl) ?_
      obtain ⟨v16, e17, f⟩ := ob f
      refine o_gI S lf12_undo_379 I e17 dX12_undo_43 ?_
      refine lv_imul S.1 S.2.1 dX12_undo_46 ?_
      refine lv_iload_n S.1 S.2.1 dX12_undo_47 rfl (lv_at hl 1 rfl) ?_
      refine lv_iadd S.1 S.2.1 dX12_undo_48 ?_
      obtain ⟨v19, e18, f⟩ := ob f
      refine o_iald S I e18 dX12_undo_49 ?_
      obtain ⟨h21, e20, f⟩ := ob f
      refine o_iast S I e20 dX12_undo_50 (fun H locs I => ?_)
      refine lv_aload_n S.1 S.2.1 dX12_undo_51 rfl (lv_at hl 0 rfl) ?_
      obtain ⟨r22, e23, f⟩ := ob f
      refine o_gR S lf12_undo_100 I e23 dX12_undo_52 ?_
      refine lv_iload_n S.1 S.2.1 dX12_undo_55 rfl (lv_at hl 1 rfl) ?_
      refine lv_aload_n S.1 S.2.1 dX12_undo_56 rfl (lv_at hl 0 rfl) ?_
      obtain ⟨r24, e25, f⟩ := ob f
      refine o_gR S lf12_undo_142 I e25 dX12_undo_57 ?_
      refine lv_bipush (v := 11) S.1 S.2.1 dX12_undo_60 (by decide) ?_
      refine lv_aload_n S.1 S.2.1 dX12_undo_62 rfl (lv_at hl 0 rfl) ?_
      obtain ⟨v26, e27, f⟩ := ob f
      refine o_gI S lf12_undo_379 I e27 dX12_undo_63 ?_
      refine lv_imul S.1 S.2.1 dX12_undo_66 ?_
      refine lv_iconst (v := 5) S.1 S.2.1 dX12_undo_67 (by decide) ?_
      refine lv_iadd S.1 S.2.1 dX12_undo_68 ?_
      refine lv_iload_n S.1 S.2.1 dX12_undo_69 rfl (lv_at hl 1 rfl) ?_
      refine lv_iadd S.1 S.2.1 dX12_undo_70 ?_
      obtain ⟨v29, e28, f⟩ := ob f
      refine o_iald S I e28 dX12_undo_71 ?_
      obtain ⟨h31, e30, f⟩ := ob f
      refine o_iast S I e30 dX12_undo_72 (fun H locs I => ?_)
      refine lv_iinc (v := (x1 + 1)) (lv' := [(1, .int (x1 + 1)), (0, .ref (b + a0))]) S.1 S.2.1 dX12_undo_73 hl (k := 1) rfl (congrArg (fun z => x1 + z) (by decide)) (by decide) rfl (fun ls hl => ?_)
      refine lv_goto (tgt := 26) S.1 S.2.1 dX12_undo_76 (by decide) ?_
      exact ih f I (lv_sub hl [1, 0] rfl)
set_option maxHeartbeats 4000000 in
set_option maxRecDepth 100000 in
theorem T12_undo_0 (S : CallFix p m c cX12_undo 2 s args vX12_undo RX12) (hr : meth.sig.returnType = (some .int)) (hlo : meth.locks = false) {out : Int32 × PH} {h : PH} {a0 : Nat} (f : F12_undo_0  h a0 = some out) {H : Heap} {locs : List Loc} (I : ph_I D cy b A fl h s H locs) {ls : Array Slot} (hl : lv_has ls 2 [(0, .ref (b + a0))]) : W p l e ({ frames := 0, cells := 0, slots := 0, locals := 0 } : Room) s m args below meth c H locs 0 0 (MQ below (va_Qi (fun (r : Int32) (u : PH) => (r, u) = out) (ph_B D cy b A fl) A) args s 0 0 A) (F0 m 0 ls []) := by
  unfold F12_undo_0 at f
  refine lv_aload_n S.1 S.2.1 dX12_undo_0 rfl (lv_at hl 0 rfl) ?_
  refine lv_iconst (v := 0) S.1 S.2.1 dX12_undo_1 (by decide) ?_
  obtain ⟨h1, e2, f⟩ := ob f
  refine o_pI S lp12_undo_154 I e2 dX12_undo_2 (fun H locs I => ?_)
  refine lv_aload_n S.1 S.2.1 dX12_undo_5 rfl (lv_at hl 0 rfl) ?_
  obtain ⟨v3, e4, f⟩ := ob f
  refine o_gI S lf12_undo_379 I e4 dX12_undo_6 ?_
  refine lv_if_ne (tgt := 14) S.1 S.2.1 dX12_undo_9 (by decide) (fun q5 => ?_) (fun q5 => ?_)
  · have f := (if_neg q5).symm.trans f
    refine lv_aload_n S.1 S.2.1 dX12_undo_14 rfl (lv_at hl 0 rfl) ?_
    refine lv_dup S.1 S.2.1 dX12_undo_15 rfl ?_
    obtain ⟨v6, e7, f⟩ := ob f
    refine o_gI S lf12_undo_379 I e7 dX12_undo_16 ?_
    refine lv_iconst (v := 1) S.1 S.2.1 dX12_undo_19 (by decide) ?_
    refine lv_isub S.1 S.2.1 dX12_undo_20 ?_
    obtain ⟨h8, e9, f⟩ := ob f
    refine o_pI S lp12_undo_379 I e9 dX12_undo_21 (fun H locs I => ?_)
    refine lv_iconst (v := 0) S.1 S.2.1 dX12_undo_24 (by decide) ?_
    refine lv_istore_n (lv' := [(1, .int 0), (0, .ref (b + a0))]) S.1 S.2.1 dX12_undo_25 rfl hl (by decide) rfl (fun ls hl => ?_)
    exact T12_undo_26 S hr hlo  1024 f I (lv_sub hl [1, 0] rfl)
  · have f := (if_pos q5).symm.trans f
    refine lv_iconst (v := (-1)) S.1 S.2.1 dX12_undo_12 (by decide) ?_
    exact o_iret S hr hlo I f dX12_undo_13
theorem M12_undo (l : Launch) (D : va_G) (cy : Nat → ClassId) (b : Nat) (A : Nat → Prop) (fl : Bool) {h : PH} {a0 : Nat} {out : Int32 × PH} (f : F12_undo h a0 = some out) : Met l yX12_undo vX12_undo ({ frames := 0, cells := 0, slots := 0, locals := 0 } : Room) (va_Pc [.ref (b + a0)] (ph_B D cy b A fl h)) (va_Qi (fun (r : Int32) (u : PH) => (r, u) = out) (ph_B D cy b A fl) A) 0 0 A :=
  o_met (by decide) rfl (Nat.le_of_ble_eq_true rfl) rfl (fun p e s m below meth c S hr hlo hnm ls hl I => T12_undo_0 S hr hlo ((gd f).2) I (lv_sub hl [0] rfl))
def vX12_wave : List Cond := .code yX12_wave cX12_wave 3 (some .int) :: TB
theorem lp12_wave_154 : Pl vX12_wave RX12 154 12 2 .int := ⟨RX12, TX12, 87, tyX12, rfl, by decide, (fun w h9 => List.mem_cons_of_mem _ (wC_wsX120 w h9)), (List.mem_cons_of_mem _ wT_13_17), tyX12_ok, nmX12, rfl, rfl⟩
theorem gX12_wave_X12_isWave : GoodIn vX12_wave (wsV RX12 419 RX12 yX12_isWave vX12_isWave) := gV_of wT_37_7 wT_37_8 wT_37_9 wT_1_5 wT_37_10
theorem lf12_wave_48 : Fl vX12_wave RX12 48 12 34 := ⟨RX12, TX12, 87, rfl, by decide, (fun w h9 => List.mem_cons_of_mem _ (wC_wsX120 w h9)), (List.mem_cons_of_mem _ wT_10_9)⟩
theorem lf12_wave_51 : Fl vX12_wave RX12 51 12 35 := ⟨RX12, TX12, 87, rfl, by decide, (fun w h9 => List.mem_cons_of_mem _ (wC_wsX120 w h9)), (List.mem_cons_of_mem _ wT_10_10)⟩
theorem lf12_wave_54 : Fl vX12_wave RX12 54 12 36 := ⟨RX12, TX12, 87, rfl, by decide, (fun w h9 => List.mem_cons_of_mem _ (wC_wsX120 w h9)), (List.mem_cons_of_mem _ wT_10_11)⟩
theorem lf12_wave_45 : Fl vX12_wave RX12 45 12 33 := ⟨RX12, TX12, 87, rfl, by decide, (fun w h9 => List.mem_cons_of_mem _ (wC_wsX120 w h9)), (List.mem_cons_of_mem _ wT_10_8)⟩
theorem lf12_wave_103 : Fl vX12_wave RX12 103 12 60 := ⟨RX12, TX12, 87, rfl, by decide, (fun w h9 => List.mem_cons_of_mem _ (wC_wsX120 w h9)), (List.mem_cons_of_mem _ wT_11_3)⟩
set_option maxHeartbeats 4000000 in
set_option maxRecDepth 100000 in
theorem T12_wave_0 (S : CallFix p m c cX12_wave 3 s args vX12_wave RX12) (hr : meth.sig.returnType = (some .int)) (hlo : meth.locks = false) {out : Int32 × PH} {h : PH} {a0 : Nat} {x1 : Int32} {x2 : Int32} (f : F12_wave_0  h a0 x1 x2 = some out) {H : Heap} {locs : List Loc} (I : ph_I D cy b A fl h s H locs) {ls : Array Slot} (hl : lv_has ls 3 [(0, .ref (b + a0)), (1, .int x1), (2, .int x2)]) : W p l e ({ frames := 1, cells := 0, slots := 0, locals := 21 } : Room) s m args below meth c H locs 0 0 (MQ below (va_Qi (fun (r : Int32) (u : PH) => (r, u) = out) (ph_B D cy b A fl) A) args s 0 0 A) (F0 m 0 ls []) := by
  unfold F12_wave_0 at f
  refine lv_aload_n S.1 S.2.1 dX12_wave_0 rfl (lv_at hl 0 rfl) ?_
  refine lv_iconst (v := 0) S.1 S.2.1 dX12_wave_1 (by decide) ?_
  obtain ⟨h1, e2, f⟩ := ob f
  refine o_pI S lp12_wave_154 I e2 dX12_wave_2 (fun H locs I => ?_)
  refine lv_aload_n S.1 S.2.1 dX12_wave_5 rfl (lv_at hl 0 rfl) ?_
  refine lv_iload_n S.1 S.2.1 dX12_wave_6 rfl (lv_at hl 1 rfl) ?_
  obtain ⟨o3, e4, f⟩ := ob f
  refine o_Vi S (As := [.int x1]) (rest := []) (ci := 12) (M12_isWave l D cy b A fl e4) gX12_wave_X12_isWave rfl rfl rfl cd12_isWave ⟨Nat.le_of_ble_eq_true rfl, Nat.le_of_ble_eq_true rfl⟩ I (gd e4).1 clX12 rfl rfl hl.1 rfl (Nat.le_of_ble_eq_true rfl) dX12_wave_7 ⟨Nat.le_of_ble_eq_true rfl, Nat.le_of_ble_eq_true rfl⟩ (fun H locs I => ?_)
  refine lv_if_ne (tgt := 16) S.1 S.2.1 dX12_wave_10 (by decide) (fun q5 => ?_) (fun q5 => ?_)
  · have f := (if_neg q5).symm.trans f
    refine lv_iload_n S.1 S.2.1 dX12_wave_16 rfl (lv_at hl 2 rfl) ?_
    rcases Decidable.em (x2 = 0) with q6 | q6
    · have f := (if_pos q6).symm.trans f
      refine lv_tableIn (off := 35) (tgt := 52) S.1 S.2.1 dX12_wave_17 (by rw [q6]; decide) (by rw [q6]; decide) (by rw [q6]; rfl) (by decide) ?_
      refine lv_aload_n S.1 S.2.1 dX12_wave_52 rfl (lv_at hl 0 rfl) ?_
      obtain ⟨r7, e8, f⟩ := ob f
      refine o_gR S lf12_wave_48 I e8 dX12_wave_53 ?_
      refine lv_iload_n S.1 S.2.1 dX12_wave_56 rfl (lv_at hl 1 rfl) ?_
      obtain ⟨v10, e9, f⟩ := ob f
      refine o_iald S I e9 dX12_wave_57 ?_
      exact o_iret S hr hlo I f dX12_wave_58
    have f := (if_neg q6).symm.trans f
    rcases Decidable.em (x2 = 1) with q11 | q11
    · have f := (if_pos q11).symm.trans f
      refine lv_tableIn (off := 42) (tgt := 59) S.1 S.2.1 dX12_wave_17 (by rw [q11]; decide) (by rw [q11]; decide) (by rw [q11]; rfl) (by decide) ?_
      refine lv_aload_n S.1 S.2.1 dX12_wave_59 rfl (lv_at hl 0 rfl) ?_
      obtain ⟨r12, e13, f⟩ := ob f
      refine o_gR S lf12_wave_51 I e13 dX12_wave_60 ?_
      refine lv_iload_n S.1 S.2.1 dX12_wave_63 rfl (lv_at hl 1 rfl) ?_
      obtain ⟨v15, e14, f⟩ := ob f
      refine o_iald S I e14 dX12_wave_64 ?_
      exact o_iret S hr hlo I f dX12_wave_65
    have f := (if_neg q11).symm.trans f
    rcases Decidable.em (x2 = 2) with q16 | q16
    · have f := (if_pos q16).symm.trans f
      refine lv_tableIn (off := 49) (tgt := 66) S.1 S.2.1 dX12_wave_17 (by rw [q16]; decide) (by rw [q16]; decide) (by rw [q16]; rfl) (by decide) ?_
      refine lv_aload_n S.1 S.2.1 dX12_wave_66 rfl (lv_at hl 0 rfl) ?_
      obtain ⟨r17, e18, f⟩ := ob f
      refine o_gR S lf12_wave_54 I e18 dX12_wave_67 ?_
      refine lv_iload_n S.1 S.2.1 dX12_wave_70 rfl (lv_at hl 1 rfl) ?_
      obtain ⟨v20, e19, f⟩ := ob f
      refine o_iald S I e19 dX12_wave_71 ?_
      exact o_iret S hr hlo I f dX12_wave_72
    have f := (if_neg q16).symm.trans f
    rcases Decidable.em (x2 = 3) with q21 | q21
    · have f := (if_pos q21).symm.trans f
      refine lv_tableIn (off := 56) (tgt := 73) S.1 S.2.1 dX12_wave_17 (by rw [q21]; decide) (by rw [q21]; decide) (by rw [q21]; rfl) (by decide) ?_
      refine lv_iload_n S.1 S.2.1 dX12_wave_73 rfl (lv_at hl 1 rfl) ?_
      refine lv_aload_n S.1 S.2.1 dX12_wave_74 rfl (lv_at hl 0 rfl) ?_
      obtain ⟨r22, e23, f⟩ := ob f
      refine o_gR S lf12_wave_45 I e23 dX12_wave_75 ?_
      refine lv_aload_n S.1 S.2.1 dX12_wave_78 rfl (lv_at hl 0 rfl) ?_
      obtain ⟨r24, e25, f⟩ := ob f
      refine o_gR S lf12_wave_54 I e25 dX12_wave_79 ?_
      refine lv_iload_n S.1 S.2.1 dX12_wave_82 rfl (lv_at hl 1 rfl) ?_
      obtain ⟨v27, e26, f⟩ := ob f
      refine o_iald S I e26 dX12_wave_83 ?_
      obtain ⟨v29, e28, f⟩ := ob f
      refine o_iald S I e28 dX12_wave_84 ?_
      refine lv_isub S.1 S.2.1 dX12_wave_85 ?_
      refine lv_iconst (v := 1) S.1 S.2.1 dX12_wave_86 (by decide) ?_
      refine lv_iadd S.1 S.2.1 dX12_wave_87 ?_
      exact o_iret S hr hlo I f dX12_wave_88
    have f := (if_neg q21).symm.trans f
    rcases Decidable.em (x2 = 4) with q30 | q30
    · have f := (if_pos q30).symm.trans f
      refine lv_tableIn (off := 72) (tgt := 89) S.1 S.2.1 dX12_wave_17 (by rw [q30]; decide) (by rw [q30]; decide) (by rw [q30]; rfl) (by decide) ?_
      refine lv_aload_n S.1 S.2.1 dX12_wave_89 rfl (lv_at hl 0 rfl) ?_
      obtain ⟨r31, e32, f⟩ := ob f
      refine o_gR S lf12_wave_103 I e32 dX12_wave_90 ?_
      refine lv_iload_n S.1 S.2.1 dX12_wave_93 rfl (lv_at hl 1 rfl) ?_
      obtain ⟨v34, e33, f⟩ := ob f
      refine o_iald S I e33 dX12_wave_94 ?_
      exact o_iret S hr hlo I f dX12_wave_95
    have f := (if_neg q30).symm.trans f
    refine lv_tableOut (tgt := 96) S.1 S.2.1 dX12_wave_17 (by have := lv_neT q6 (a := 0) (by decide); have := lv_neT q11 (a := 1) (by decide); have := lv_neT q16 (a := 2) (by decide); have := lv_neT q21 (a := 3) (by decide); have := lv_neT q30 (a := 4) (by decide); omega) (by decide) ?_
    refine lv_bipush (v := (-4)) S.1 S.2.1 dX12_wave_96 (by decide) ?_
    exact o_iret S hr hlo I f dX12_wave_98
  · have f := (if_pos q5).symm.trans f
    refine lv_bipush (v := (-4)) S.1 S.2.1 dX12_wave_13 (by decide) ?_
    exact o_iret S hr hlo I f dX12_wave_15
theorem M12_wave (l : Launch) (D : va_G) (cy : Nat → ClassId) (b : Nat) (A : Nat → Prop) (fl : Bool) {h : PH} {a0 : Nat} {x1 : Int32} {x2 : Int32} {out : Int32 × PH} (f : F12_wave h a0 x1 x2 = some out) : Met l yX12_wave vX12_wave ({ frames := 1, cells := 0, slots := 0, locals := 21 } : Room) (va_Pc [.ref (b + a0), .int x1, .int x2] (ph_B D cy b A fl h)) (va_Qi (fun (r : Int32) (u : PH) => (r, u) = out) (ph_B D cy b A fl) A) 0 0 A :=
  o_met (by decide) rfl (Nat.le_of_ble_eq_true rfl) rfl (fun p e s m below meth c S hr hlo hnm ls hl I => T12_wave_0 S hr hlo ((gd f).2) I (lv_sub hl [0, 1, 2] rfl))
end
