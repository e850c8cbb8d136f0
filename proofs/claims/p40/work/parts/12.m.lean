theorem zd_dX7_wordOf_0 : sg (cX7_wordOf.data.toList.drop 0) [[3], [61], [28], [16, 24], [162, 0, 21], [42], [180, 0, 9], [28], [46], [27], [160, 0, 5], [28], [172], [132, 2, 1], [167, 255, 235], [16, 24], [172]] = true := by decide +kernel
theorem dX7_wordOf_0 : decode cX7_wordOf 0 = .ok (.iconst 0, 1) := dc_3 (sg_at zd_dX7_wordOf_0 0 rfl rfl)
theorem dX7_wordOf_1 : decode cX7_wordOf 1 = .ok (.istore_n 2, 1) := dc_61 (sg_at zd_dX7_wordOf_0 1 rfl rfl)
theorem dX7_wordOf_2 : decode cX7_wordOf 2 = .ok (.iload_n 2, 1) := dc_28 (sg_at zd_dX7_wordOf_0 2 rfl rfl)
theorem dX7_wordOf_3 : decode cX7_wordOf 3 = .ok (.bipush 24, 2) := dc_16 (sg_at zd_dX7_wordOf_0 3 rfl rfl) rfl
theorem dX7_wordOf_5 : decode cX7_wordOf 5 = .ok (.if_icmp .ge 21, 3) := dc_162 (sg_at zd_dX7_wordOf_0 4 rfl rfl) rfl
theorem dX7_wordOf_8 : decode cX7_wordOf 8 = .ok (.aload_n 0, 1) := dc_42 (sg_at zd_dX7_wordOf_0 5 rfl rfl)
theorem dX7_wordOf_9 : decode cX7_wordOf 9 = .ok (.getfield 9, 3) := dc_180 (sg_at zd_dX7_wordOf_0 6 rfl rfl) rfl
theorem dX7_wordOf_12 : decode cX7_wordOf 12 = .ok (.iload_n 2, 1) := dc_28 (sg_at zd_dX7_wordOf_0 7 rfl rfl)
theorem dX7_wordOf_13 : decode cX7_wordOf 13 = .ok (.iaload, 1) := dc_46 (sg_at zd_dX7_wordOf_0 8 rfl rfl)
theorem dX7_wordOf_14 : decode cX7_wordOf 14 = .ok (.iload_n 1, 1) := dc_27 (sg_at zd_dX7_wordOf_0 9 rfl rfl)
theorem dX7_wordOf_15 : decode cX7_wordOf 15 = .ok (.if_icmp .ne 5, 3) := dc_160 (sg_at zd_dX7_wordOf_0 10 rfl rfl) rfl
theorem dX7_wordOf_18 : decode cX7_wordOf 18 = .ok (.iload_n 2, 1) := dc_28 (sg_at zd_dX7_wordOf_0 11 rfl rfl)
theorem dX7_wordOf_19 : decode cX7_wordOf 19 = .ok (.ireturn, 1) := dc_172 (sg_at zd_dX7_wordOf_0 12 rfl rfl)
theorem dX7_wordOf_20 : decode cX7_wordOf 20 = .ok (.iinc 2 1, 3) := dc_132 (sg_at zd_dX7_wordOf_0 13 rfl rfl) rfl
theorem dX7_wordOf_23 : decode cX7_wordOf 23 = .ok (.goto (-21), 3) := dc_167 (sg_at zd_dX7_wordOf_0 14 rfl rfl) rfl
theorem dX7_wordOf_26 : decode cX7_wordOf 26 = .ok (.bipush 24, 2) := dc_16 (sg_at zd_dX7_wordOf_0 15 rfl rfl) rfl
theorem dX7_wordOf_28 : decode cX7_wordOf 28 = .ok (.ireturn, 1) := dc_172 (sg_at zd_dX7_wordOf_0 16 rfl rfl)
theorem zd_dX7_takeWord_0 : sg (cX7_takeWord.data.toList.drop 0) [[3], [60], [42], [180, 0, 44], [42], [180, 0, 40], [162, 0, 62], [42], [180, 0, 15], [42], [180, 0, 44], [51], [184, 0, 27], [153, 0, 47], [27], [16, 6], [162, 0, 25], [42], [89], [180, 0, 53]] = true := by decide +kernel
theorem dX7_takeWord_0 : decode cX7_takeWord 0 = .ok (.iconst 0, 1) := dc_3 (sg_at zd_dX7_takeWord_0 0 rfl rfl)
theorem dX7_takeWord_1 : decode cX7_takeWord 1 = .ok (.istore_n 1, 1) := dc_60 (sg_at zd_dX7_takeWord_0 1 rfl rfl)
theorem dX7_takeWord_2 : decode cX7_takeWord 2 = .ok (.aload_n 0, 1) := dc_42 (sg_at zd_dX7_takeWord_0 2 rfl rfl)
theorem dX7_takeWord_3 : decode cX7_takeWord 3 = .ok (.getfield 44, 3) := dc_180 (sg_at zd_dX7_takeWord_0 3 rfl rfl) rfl
theorem dX7_takeWord_6 : decode cX7_takeWord 6 = .ok (.aload_n 0, 1) := dc_42 (sg_at zd_dX7_takeWord_0 4 rfl rfl)
theorem dX7_takeWord_7 : decode cX7_takeWord 7 = .ok (.getfield 40, 3) := dc_180 (sg_at zd_dX7_takeWord_0 5 rfl rfl) rfl
theorem dX7_takeWord_10 : decode cX7_takeWord 10 = .ok (.if_icmp .ge 62, 3) := dc_162 (sg_at zd_dX7_takeWord_0 6 rfl rfl) rfl
theorem dX7_takeWord_13 : decode cX7_takeWord 13 = .ok (.aload_n 0, 1) := dc_42 (sg_at zd_dX7_takeWord_0 7 rfl rfl)
theorem dX7_takeWord_14 : decode cX7_takeWord 14 = .ok (.getfield 15, 3) := dc_180 (sg_at zd_dX7_takeWord_0 8 rfl rfl) rfl
theorem dX7_takeWord_17 : decode cX7_takeWord 17 = .ok (.aload_n 0, 1) := dc_42 (sg_at zd_dX7_takeWord_0 9 rfl rfl)
theorem dX7_takeWord_18 : decode cX7_takeWord 18 = .ok (.getfield 44, 3) := dc_180 (sg_at zd_dX7_takeWord_0 10 rfl rfl) rfl
theorem dX7_takeWord_21 : decode cX7_takeWord 21 = .ok (.baload, 1) := dc_51 (sg_at zd_dX7_takeWord_0 11 rfl rfl)
theorem dX7_takeWord_22 : decode cX7_takeWord 22 = .ok (.invokestatic 27, 3) := dc_184 (sg_at zd_dX7_takeWord_0 12 rfl rfl) rfl
theorem dX7_takeWord_25 : decode cX7_takeWord 25 = .ok (.ifCond .eq 47, 3) := dc_153 (sg_at zd_dX7_takeWord_0 13 rfl rfl) rfl
theorem dX7_takeWord_28 : decode cX7_takeWord 28 = .ok (.iload_n 1, 1) := dc_27 (sg_at zd_dX7_takeWord_0 14 rfl rfl)
theorem dX7_takeWord_29 : decode cX7_takeWord 29 = .ok (.bipush 6, 2) := dc_16 (sg_at zd_dX7_takeWord_0 15 rfl rfl) rfl
theorem dX7_takeWord_31 : decode cX7_takeWord 31 = .ok (.if_icmp .ge 25, 3) := dc_162 (sg_at zd_dX7_takeWord_0 16 rfl rfl) rfl
theorem dX7_takeWord_34 : decode cX7_takeWord 34 = .ok (.aload_n 0, 1) := dc_42 (sg_at zd_dX7_takeWord_0 17 rfl rfl)
theorem dX7_takeWord_35 : decode cX7_takeWord 35 = .ok (.dup, 1) := dc_89 (sg_at zd_dX7_takeWord_0 18 rfl rfl)
theorem dX7_takeWord_36 : decode cX7_takeWord 36 = .ok (.getfield 53, 3) := dc_180 (sg_at zd_dX7_takeWord_0 19 rfl rfl) rfl
theorem zd_dX7_takeWord_39 : sg (cX7_takeWord.data.toList.drop 39) [[42], [180, 0, 15], [42], [180, 0, 44], [51], [27], [184, 0, 31], [128], [181, 0, 53], [132, 1, 1], [42], [89], [180, 0, 44], [4], [96], [181, 0, 44], [167, 255, 189], [42], [27], [16, 6]] = true := by decide +kernel
theorem dX7_takeWord_39 : decode cX7_takeWord 39 = .ok (.aload_n 0, 1) := dc_42 (sg_at zd_dX7_takeWord_39 0 rfl rfl)
theorem dX7_takeWord_40 : decode cX7_takeWord 40 = .ok (.getfield 15, 3) := dc_180 (sg_at zd_dX7_takeWord_39 1 rfl rfl) rfl
theorem dX7_takeWord_43 : decode cX7_takeWord 43 = .ok (.aload_n 0, 1) := dc_42 (sg_at zd_dX7_takeWord_39 2 rfl rfl)
theorem dX7_takeWord_44 : decode cX7_takeWord 44 = .ok (.getfield 44, 3) := dc_180 (sg_at zd_dX7_takeWord_39 3 rfl rfl) rfl
theorem dX7_takeWord_47 : decode cX7_takeWord 47 = .ok (.baload, 1) := dc_51 (sg_at zd_dX7_takeWord_39 4 rfl rfl)
theorem dX7_takeWord_48 : decode cX7_takeWord 48 = .ok (.iload_n 1, 1) := dc_27 (sg_at zd_dX7_takeWord_39 5 rfl rfl)
theorem dX7_takeWord_49 : decode cX7_takeWord 49 = .ok (.invokestatic 31, 3) := dc_184 (sg_at zd_dX7_takeWord_39 6 rfl rfl) rfl
theorem dX7_takeWord_52 : decode cX7_takeWord 52 = .ok (.ior, 1) := dc_128 (sg_at zd_dX7_takeWord_39 7 rfl rfl)
theorem dX7_takeWord_53 : decode cX7_takeWord 53 = .ok (.putfield 53, 3) := dc_181 (sg_at zd_dX7_takeWord_39 8 rfl rfl) rfl
theorem dX7_takeWord_56 : decode cX7_takeWord 56 = .ok (.iinc 1 1, 3) := dc_132 (sg_at zd_dX7_takeWord_39 9 rfl rfl) rfl
theorem dX7_takeWord_59 : decode cX7_takeWord 59 = .ok (.aload_n 0, 1) := dc_42 (sg_at zd_dX7_takeWord_39 10 rfl rfl)
theorem dX7_takeWord_60 : decode cX7_takeWord 60 = .ok (.dup, 1) := dc_89 (sg_at zd_dX7_takeWord_39 11 rfl rfl)
theorem dX7_takeWord_61 : decode cX7_takeWord 61 = .ok (.getfield 44, 3) := dc_180 (sg_at zd_dX7_takeWord_39 12 rfl rfl) rfl
theorem dX7_takeWord_64 : decode cX7_takeWord 64 = .ok (.iconst 1, 1) := dc_4 (sg_at zd_dX7_takeWord_39 13 rfl rfl)
theorem dX7_takeWord_65 : decode cX7_takeWord 65 = .ok (.iadd, 1) := dc_96 (sg_at zd_dX7_takeWord_39 14 rfl rfl)
theorem dX7_takeWord_66 : decode cX7_takeWord 66 = .ok (.putfield 44, 3) := dc_181 (sg_at zd_dX7_takeWord_39 15 rfl rfl) rfl
theorem dX7_takeWord_69 : decode cX7_takeWord 69 = .ok (.goto (-67), 3) := dc_167 (sg_at zd_dX7_takeWord_39 16 rfl rfl) rfl
theorem dX7_takeWord_72 : decode cX7_takeWord 72 = .ok (.aload_n 0, 1) := dc_42 (sg_at zd_dX7_takeWord_39 17 rfl rfl)
theorem dX7_takeWord_73 : decode cX7_takeWord 73 = .ok (.iload_n 1, 1) := dc_27 (sg_at zd_dX7_takeWord_39 18 rfl rfl)
theorem dX7_takeWord_74 : decode cX7_takeWord 74 = .ok (.bipush 6, 2) := dc_16 (sg_at zd_dX7_takeWord_39 19 rfl rfl) rfl
theorem zd_dX7_takeWord_76 : sg (cX7_takeWord.data.toList.drop 76) [[164, 0, 8], [16, 40], [167, 0, 11], [42], [42], [180, 0, 53], [182, 0, 71], [181, 0, 56], [177]] = true := by decide +kernel
theorem dX7_takeWord_76 : decode cX7_takeWord 76 = .ok (.if_icmp .le 8, 3) := dc_164 (sg_at zd_dX7_takeWord_76 0 rfl rfl) rfl
theorem dX7_takeWord_79 : decode cX7_takeWord 79 = .ok (.bipush 40, 2) := dc_16 (sg_at zd_dX7_takeWord_76 1 rfl rfl) rfl
theorem dX7_takeWord_81 : decode cX7_takeWord 81 = .ok (.goto 11, 3) := dc_167 (sg_at zd_dX7_takeWord_76 2 rfl rfl) rfl
theorem dX7_takeWord_84 : decode cX7_takeWord 84 = .ok (.aload_n 0, 1) := dc_42 (sg_at zd_dX7_takeWord_76 3 rfl rfl)
theorem dX7_takeWord_85 : decode cX7_takeWord 85 = .ok (.aload_n 0, 1) := dc_42 (sg_at zd_dX7_takeWord_76 4 rfl rfl)
theorem dX7_takeWord_86 : decode cX7_takeWord 86 = .ok (.getfield 53, 3) := dc_180 (sg_at zd_dX7_takeWord_76 5 rfl rfl) rfl
theorem dX7_takeWord_89 : decode cX7_takeWord 89 = .ok (.invokevirtual 71, 3) := dc_182 (sg_at zd_dX7_takeWord_76 6 rfl rfl) rfl
theorem dX7_takeWord_92 : decode cX7_takeWord 92 = .ok (.putfield 56, 3) := dc_181 (sg_at zd_dX7_takeWord_76 7 rfl rfl) rfl
theorem dX7_takeWord_95 : decode cX7_takeWord 95 = .ok (.return_, 1) := dc_177 (sg_at zd_dX7_takeWord_76 8 rfl rfl)
theorem zd_dX7_isDigit_0 : sg (cX7_isDigit.data.toList.drop 0) [[26], [16, 48], [161, 0, 13], [26], [16, 57], [163, 0, 7], [4], [167, 0, 4], [3], [172]] = true := by decide +kernel
theorem dX7_isDigit_0 : decode cX7_isDigit 0 = .ok (.iload_n 0, 1) := dc_26 (sg_at zd_dX7_isDigit_0 0 rfl rfl)
theorem dX7_isDigit_1 : decode cX7_isDigit 1 = .ok (.bipush 48, 2) := dc_16 (sg_at zd_dX7_isDigit_0 1 rfl rfl) rfl
theorem dX7_isDigit_3 : decode cX7_isDigit 3 = .ok (.if_icmp .lt 13, 3) := dc_161 (sg_at zd_dX7_isDigit_0 2 rfl rfl) rfl
theorem dX7_isDigit_6 : decode cX7_isDigit 6 = .ok (.iload_n 0, 1) := dc_26 (sg_at zd_dX7_isDigit_0 3 rfl rfl)
theorem dX7_isDigit_7 : decode cX7_isDigit 7 = .ok (.bipush 57, 2) := dc_16 (sg_at zd_dX7_isDigit_0 4 rfl rfl) rfl
theorem dX7_isDigit_9 : decode cX7_isDigit 9 = .ok (.if_icmp .gt 7, 3) := dc_163 (sg_at zd_dX7_isDigit_0 5 rfl rfl) rfl
theorem dX7_isDigit_12 : decode cX7_isDigit 12 = .ok (.iconst 1, 1) := dc_4 (sg_at zd_dX7_isDigit_0 6 rfl rfl)
theorem dX7_isDigit_13 : decode cX7_isDigit 13 = .ok (.goto 4, 3) := dc_167 (sg_at zd_dX7_isDigit_0 7 rfl rfl) rfl
theorem dX7_isDigit_16 : decode cX7_isDigit 16 = .ok (.iconst 0, 1) := dc_3 (sg_at zd_dX7_isDigit_0 8 rfl rfl)
theorem dX7_isDigit_17 : decode cX7_isDigit 17 = .ok (.ireturn, 1) := dc_172 (sg_at zd_dX7_isDigit_0 9 rfl rfl)
theorem zd_dX7_takeNumber_0 : sg (cX7_takeNumber.data.toList.drop 0) [[42], [180, 0, 44], [42], [180, 0, 40], [162, 0, 60], [42], [180, 0, 15], [42], [180, 0, 44], [51], [184, 0, 62], [153, 0, 45], [42], [42], [180, 0, 53], [16, 10], [104], [42], [180, 0, 15], [42]] = true := by decide +kernel
theorem dX7_takeNumber_0 : decode cX7_takeNumber 0 = .ok (.aload_n 0, 1) := dc_42 (sg_at zd_dX7_takeNumber_0 0 rfl rfl)
theorem dX7_takeNumber_1 : decode cX7_takeNumber 1 = .ok (.getfield 44, 3) := dc_180 (sg_at zd_dX7_takeNumber_0 1 rfl rfl) rfl
theorem dX7_takeNumber_4 : decode cX7_takeNumber 4 = .ok (.aload_n 0, 1) := dc_42 (sg_at zd_dX7_takeNumber_0 2 rfl rfl)
theorem dX7_takeNumber_5 : decode cX7_takeNumber 5 = .ok (.getfield 40, 3) := dc_180 (sg_at zd_dX7_takeNumber_0 3 rfl rfl) rfl
theorem dX7_takeNumber_8 : decode cX7_takeNumber 8 = .ok (.if_icmp .ge 60, 3) := dc_162 (sg_at zd_dX7_takeNumber_0 4 rfl rfl) rfl
theorem dX7_takeNumber_11 : decode cX7_takeNumber 11 = .ok (.aload_n 0, 1) := dc_42 (sg_at zd_dX7_takeNumber_0 5 rfl rfl)
theorem dX7_takeNumber_12 : decode cX7_takeNumber 12 = .ok (.getfield 15, 3) := dc_180 (sg_at zd_dX7_takeNumber_0 6 rfl rfl) rfl
theorem dX7_takeNumber_15 : decode cX7_takeNumber 15 = .ok (.aload_n 0, 1) := dc_42 (sg_at zd_dX7_takeNumber_0 7 rfl rfl)
theorem dX7_takeNumber_16 : decode cX7_takeNumber 16 = .ok (.getfield 44, 3) := dc_180 (sg_at zd_dX7_takeNumber_0 8 rfl rfl) rfl
theorem dX7_takeNumber_19 : decode cX7_takeNumber 19 = .ok (.baload, 1) := dc_51 (sg_at zd_dX7_takeNumber_0 9 rfl rfl)
theorem dX7_takeNumber_20 : decode cX7_takeNumber 20 = .ok (.invokestatic 62, 3) := dc_184 (sg_at zd_dX7_takeNumber_0 10 rfl rfl) rfl
theorem dX7_takeNumber_23 : decode cX7_takeNumber 23 = .ok (.ifCond .eq 45, 3) := dc_153 (sg_at zd_dX7_takeNumber_0 11 rfl rfl) rfl
theorem dX7_takeNumber_26 : decode cX7_takeNumber 26 = .ok (.aload_n 0, 1) := dc_42 (sg_at zd_dX7_takeNumber_0 12 rfl rfl)
theorem dX7_takeNumber_27 : decode cX7_takeNumber 27 = .ok (.aload_n 0, 1) := dc_42 (sg_at zd_dX7_takeNumber_0 13 rfl rfl)
theorem dX7_takeNumber_28 : decode cX7_takeNumber 28 = .ok (.getfield 53, 3) := dc_180 (sg_at zd_dX7_takeNumber_0 14 rfl rfl) rfl
theorem dX7_takeNumber_31 : decode cX7_takeNumber 31 = .ok (.bipush 10, 2) := dc_16 (sg_at zd_dX7_takeNumber_0 15 rfl rfl) rfl
theorem dX7_takeNumber_33 : decode cX7_takeNumber 33 = .ok (.imul, 1) := dc_104 (sg_at zd_dX7_takeNumber_0 16 rfl rfl)
theorem dX7_takeNumber_34 : decode cX7_takeNumber 34 = .ok (.aload_n 0, 1) := dc_42 (sg_at zd_dX7_takeNumber_0 17 rfl rfl)
theorem dX7_takeNumber_35 : decode cX7_takeNumber 35 = .ok (.getfield 15, 3) := dc_180 (sg_at zd_dX7_takeNumber_0 18 rfl rfl) rfl
theorem dX7_takeNumber_38 : decode cX7_takeNumber 38 = .ok (.aload_n 0, 1) := dc_42 (sg_at zd_dX7_takeNumber_0 19 rfl rfl)
theorem zd_dX7_takeNumber_39 : sg (cX7_takeNumber.data.toList.drop 39) [[180, 0, 44], [51], [96], [16, 48], [100], [18, 75], [184, 0, 35], [181, 0, 53], [42], [89], [180, 0, 44], [4], [96], [181, 0, 44], [167, 255, 191], [42], [16, 25], [181, 0, 56], [177]] = true := by decide +kernel
theorem dX7_takeNumber_39 : decode cX7_takeNumber 39 = .ok (.getfield 44, 3) := dc_180 (sg_at zd_dX7_takeNumber_39 0 rfl rfl) rfl
theorem dX7_takeNumber_42 : decode cX7_takeNumber 42 = .ok (.baload, 1) := dc_51 (sg_at zd_dX7_takeNumber_39 1 rfl rfl)
theorem dX7_takeNumber_43 : decode cX7_takeNumber 43 = .ok (.iadd, 1) := dc_96 (sg_at zd_dX7_takeNumber_39 2 rfl rfl)
theorem dX7_takeNumber_44 : decode cX7_takeNumber 44 = .ok (.bipush 48, 2) := dc_16 (sg_at zd_dX7_takeNumber_39 3 rfl rfl) rfl
theorem dX7_takeNumber_46 : decode cX7_takeNumber 46 = .ok (.isub, 1) := dc_100 (sg_at zd_dX7_takeNumber_39 4 rfl rfl)
theorem dX7_takeNumber_47 : decode cX7_takeNumber 47 = .ok (.ldc 75, 2) := dc_18 (sg_at zd_dX7_takeNumber_39 5 rfl rfl)
theorem dX7_takeNumber_49 : decode cX7_takeNumber 49 = .ok (.invokestatic 35, 3) := dc_184 (sg_at zd_dX7_takeNumber_39 6 rfl rfl) rfl
theorem dX7_takeNumber_52 : decode cX7_takeNumber 52 = .ok (.putfield 53, 3) := dc_181 (sg_at zd_dX7_takeNumber_39 7 rfl rfl) rfl
theorem dX7_takeNumber_55 : decode cX7_takeNumber 55 = .ok (.aload_n 0, 1) := dc_42 (sg_at zd_dX7_takeNumber_39 8 rfl rfl)
theorem dX7_takeNumber_56 : decode cX7_takeNumber 56 = .ok (.dup, 1) := dc_89 (sg_at zd_dX7_takeNumber_39 9 rfl rfl)
theorem dX7_takeNumber_57 : decode cX7_takeNumber 57 = .ok (.getfield 44, 3) := dc_180 (sg_at zd_dX7_takeNumber_39 10 rfl rfl) rfl
theorem dX7_takeNumber_60 : decode cX7_takeNumber 60 = .ok (.iconst 1, 1) := dc_4 (sg_at zd_dX7_takeNumber_39 11 rfl rfl)
theorem dX7_takeNumber_61 : decode cX7_takeNumber 61 = .ok (.iadd, 1) := dc_96 (sg_at zd_dX7_takeNumber_39 12 rfl rfl)
theorem dX7_takeNumber_62 : decode cX7_takeNumber 62 = .ok (.putfield 44, 3) := dc_181 (sg_at zd_dX7_takeNumber_39 13 rfl rfl) rfl
theorem dX7_takeNumber_65 : decode cX7_takeNumber 65 = .ok (.goto (-65), 3) := dc_167 (sg_at zd_dX7_takeNumber_39 14 rfl rfl) rfl
theorem dX7_takeNumber_68 : decode cX7_takeNumber 68 = .ok (.aload_n 0, 1) := dc_42 (sg_at zd_dX7_takeNumber_39 15 rfl rfl)
theorem dX7_takeNumber_69 : decode cX7_takeNumber 69 = .ok (.bipush 25, 2) := dc_16 (sg_at zd_dX7_takeNumber_39 16 rfl rfl) rfl
theorem dX7_takeNumber_71 : decode cX7_takeNumber 71 = .ok (.putfield 56, 3) := dc_181 (sg_at zd_dX7_takeNumber_39 17 rfl rfl) rfl
theorem dX7_takeNumber_74 : decode cX7_takeNumber 74 = .ok (.return_, 1) := dc_177 (sg_at zd_dX7_takeNumber_39 18 rfl rfl)
theorem zd_dX7_signOf_0 : sg (cX7_signOf.data.toList.drop 0) [[26]] = true := by decide +kernel
theorem dX7_signOf_0 : decode cX7_signOf 0 = .ok (.iload_n 0, 1) := dc_26 (sg_at zd_dX7_signOf_0 0 rfl rfl)
theorem dX7_signOf_1 : decode cX7_signOf 1 = .ok (.tableswitch 137 40 62 #[110, 113, 131, 125, 137, 128, 137, 134, 137, 137, 137, 137, 137, 137, 137, 137, 137, 137, 137, 107, 116, 119, 122], 107) := by decide +kernel
theorem zd_dX7_signOf_108 : sg (cX7_signOf.data.toList.drop 108) [[16, 38], [172], [16, 36], [172], [16, 37], [172], [16, 26], [172], [16, 28], [172], [16, 31], [172], [16, 32], [172], [16, 33], [172], [16, 34], [172], [16, 35], [172]] = true := by decide +kernel
theorem dX7_signOf_108 : decode cX7_signOf 108 = .ok (.bipush 38, 2) := dc_16 (sg_at zd_dX7_signOf_108 0 rfl rfl) rfl
theorem dX7_signOf_110 : decode cX7_signOf 110 = .ok (.ireturn, 1) := dc_172 (sg_at zd_dX7_signOf_108 1 rfl rfl)
theorem dX7_signOf_111 : decode cX7_signOf 111 = .ok (.bipush 36, 2) := dc_16 (sg_at zd_dX7_signOf_108 2 rfl rfl) rfl
theorem dX7_signOf_113 : decode cX7_signOf 113 = .ok (.ireturn, 1) := dc_172 (sg_at zd_dX7_signOf_108 3 rfl rfl)
theorem dX7_signOf_114 : decode cX7_signOf 114 = .ok (.bipush 37, 2) := dc_16 (sg_at zd_dX7_signOf_108 4 rfl rfl) rfl
theorem dX7_signOf_116 : decode cX7_signOf 116 = .ok (.ireturn, 1) := dc_172 (sg_at zd_dX7_signOf_108 5 rfl rfl)
theorem dX7_signOf_117 : decode cX7_signOf 117 = .ok (.bipush 26, 2) := dc_16 (sg_at zd_dX7_signOf_108 6 rfl rfl) rfl
theorem dX7_signOf_119 : decode cX7_signOf 119 = .ok (.ireturn, 1) := dc_172 (sg_at zd_dX7_signOf_108 7 rfl rfl)
theorem dX7_signOf_120 : decode cX7_signOf 120 = .ok (.bipush 28, 2) := dc_16 (sg_at zd_dX7_signOf_108 8 rfl rfl) rfl
theorem dX7_signOf_122 : decode cX7_signOf 122 = .ok (.ireturn, 1) := dc_172 (sg_at zd_dX7_signOf_108 9 rfl rfl)
theorem dX7_signOf_123 : decode cX7_signOf 123 = .ok (.bipush 31, 2) := dc_16 (sg_at zd_dX7_signOf_108 10 rfl rfl) rfl
theorem dX7_signOf_125 : decode cX7_signOf 125 = .ok (.ireturn, 1) := dc_172 (sg_at zd_dX7_signOf_108 11 rfl rfl)
theorem dX7_signOf_126 : decode cX7_signOf 126 = .ok (.bipush 32, 2) := dc_16 (sg_at zd_dX7_signOf_108 12 rfl rfl) rfl
theorem dX7_signOf_128 : decode cX7_signOf 128 = .ok (.ireturn, 1) := dc_172 (sg_at zd_dX7_signOf_108 13 rfl rfl)
theorem dX7_signOf_129 : decode cX7_signOf 129 = .ok (.bipush 33, 2) := dc_16 (sg_at zd_dX7_signOf_108 14 rfl rfl) rfl
theorem dX7_signOf_131 : decode cX7_signOf 131 = .ok (.ireturn, 1) := dc_172 (sg_at zd_dX7_signOf_108 15 rfl rfl)
theorem dX7_signOf_132 : decode cX7_signOf 132 = .ok (.bipush 34, 2) := dc_16 (sg_at zd_dX7_signOf_108 16 rfl rfl) rfl
theorem dX7_signOf_134 : decode cX7_signOf 134 = .ok (.ireturn, 1) := dc_172 (sg_at zd_dX7_signOf_108 17 rfl rfl)
theorem dX7_signOf_135 : decode cX7_signOf 135 = .ok (.bipush 35, 2) := dc_16 (sg_at zd_dX7_signOf_108 18 rfl rfl) rfl
theorem dX7_signOf_137 : decode cX7_signOf 137 = .ok (.ireturn, 1) := dc_172 (sg_at zd_dX7_signOf_108 19 rfl rfl)
theorem zd_dX7_signOf_138 : sg (cX7_signOf.data.toList.drop 138) [[16, 40], [172]] = true := by decide +kernel
theorem dX7_signOf_138 : decode cX7_signOf 138 = .ok (.bipush 40, 2) := dc_16 (sg_at zd_dX7_signOf_138 0 rfl rfl) rfl
theorem dX7_signOf_140 : decode cX7_signOf 140 = .ok (.ireturn, 1) := dc_172 (sg_at zd_dX7_signOf_138 1 rfl rfl)
theorem zd_dX7_isNext_0 : sg (cX7_isNext.data.toList.drop 0) [[42], [180, 0, 44], [42], [180, 0, 40], [162, 0, 20], [42], [180, 0, 15], [42], [180, 0, 44], [51], [27], [160, 0, 7], [4], [167, 0, 4], [3], [172]] = true := by decide +kernel
theorem dX7_isNext_0 : decode cX7_isNext 0 = .ok (.aload_n 0, 1) := dc_42 (sg_at zd_dX7_isNext_0 0 rfl rfl)
theorem dX7_isNext_1 : decode cX7_isNext 1 = .ok (.getfield 44, 3) := dc_180 (sg_at zd_dX7_isNext_0 1 rfl rfl) rfl
theorem dX7_isNext_4 : decode cX7_isNext 4 = .ok (.aload_n 0, 1) := dc_42 (sg_at zd_dX7_isNext_0 2 rfl rfl)
theorem dX7_isNext_5 : decode cX7_isNext 5 = .ok (.getfield 40, 3) := dc_180 (sg_at zd_dX7_isNext_0 3 rfl rfl) rfl
theorem dX7_isNext_8 : decode cX7_isNext 8 = .ok (.if_icmp .ge 20, 3) := dc_162 (sg_at zd_dX7_isNext_0 4 rfl rfl) rfl
theorem dX7_isNext_11 : decode cX7_isNext 11 = .ok (.aload_n 0, 1) := dc_42 (sg_at zd_dX7_isNext_0 5 rfl rfl)
theorem dX7_isNext_12 : decode cX7_isNext 12 = .ok (.getfield 15, 3) := dc_180 (sg_at zd_dX7_isNext_0 6 rfl rfl) rfl
theorem dX7_isNext_15 : decode cX7_isNext 15 = .ok (.aload_n 0, 1) := dc_42 (sg_at zd_dX7_isNext_0 7 rfl rfl)
theorem dX7_isNext_16 : decode cX7_isNext 16 = .ok (.getfield 44, 3) := dc_180 (sg_at zd_dX7_isNext_0 8 rfl rfl) rfl
theorem dX7_isNext_19 : decode cX7_isNext 19 = .ok (.baload, 1) := dc_51 (sg_at zd_dX7_isNext_0 9 rfl rfl)
theorem dX7_isNext_20 : decode cX7_isNext 20 = .ok (.iload_n 1, 1) := dc_27 (sg_at zd_dX7_isNext_0 10 rfl rfl)
theorem dX7_isNext_21 : decode cX7_isNext 21 = .ok (.if_icmp .ne 7, 3) := dc_160 (sg_at zd_dX7_isNext_0 11 rfl rfl) rfl
theorem dX7_isNext_24 : decode cX7_isNext 24 = .ok (.iconst 1, 1) := dc_4 (sg_at zd_dX7_isNext_0 12 rfl rfl)
theorem dX7_isNext_25 : decode cX7_isNext 25 = .ok (.goto 4, 3) := dc_167 (sg_at zd_dX7_isNext_0 13 rfl rfl) rfl
theorem dX7_isNext_28 : decode cX7_isNext 28 = .ok (.iconst 0, 1) := dc_3 (sg_at zd_dX7_isNext_0 14 rfl rfl)
theorem dX7_isNext_29 : decode cX7_isNext 29 = .ok (.ireturn, 1) := dc_172 (sg_at zd_dX7_isNext_0 15 rfl rfl)
theorem zd_dX7_takeSign_0 : sg (cX7_takeSign.data.toList.drop 0) [[42], [180, 0, 15], [42], [180, 0, 44], [51], [60], [42], [89], [180, 0, 44], [4], [96], [181, 0, 44], [42], [27], [184, 0, 76], [181, 0, 56], [42], [180, 0, 56], [16, 26], [160, 0, 31]] = true := by decide +kernel
theorem dX7_takeSign_0 : decode cX7_takeSign 0 = .ok (.aload_n 0, 1) := dc_42 (sg_at zd_dX7_takeSign_0 0 rfl rfl)
theorem dX7_takeSign_1 : decode cX7_takeSign 1 = .ok (.getfield 15, 3) := dc_180 (sg_at zd_dX7_takeSign_0 1 rfl rfl) rfl
theorem dX7_takeSign_4 : decode cX7_takeSign 4 = .ok (.aload_n 0, 1) := dc_42 (sg_at zd_dX7_takeSign_0 2 rfl rfl)
theorem dX7_takeSign_5 : decode cX7_takeSign 5 = .ok (.getfield 44, 3) := dc_180 (sg_at zd_dX7_takeSign_0 3 rfl rfl) rfl
theorem dX7_takeSign_8 : decode cX7_takeSign 8 = .ok (.baload, 1) := dc_51 (sg_at zd_dX7_takeSign_0 4 rfl rfl)
theorem dX7_takeSign_9 : decode cX7_takeSign 9 = .ok (.istore_n 1, 1) := dc_60 (sg_at zd_dX7_takeSign_0 5 rfl rfl)
theorem dX7_takeSign_10 : decode cX7_takeSign 10 = .ok (.aload_n 0, 1) := dc_42 (sg_at zd_dX7_takeSign_0 6 rfl rfl)
theorem dX7_takeSign_11 : decode cX7_takeSign 11 = .ok (.dup, 1) := dc_89 (sg_at zd_dX7_takeSign_0 7 rfl rfl)
theorem dX7_takeSign_12 : decode cX7_takeSign 12 = .ok (.getfield 44, 3) := dc_180 (sg_at zd_dX7_takeSign_0 8 rfl rfl) rfl
theorem dX7_takeSign_15 : decode cX7_takeSign 15 = .ok (.iconst 1, 1) := dc_4 (sg_at zd_dX7_takeSign_0 9 rfl rfl)
theorem dX7_takeSign_16 : decode cX7_takeSign 16 = .ok (.iadd, 1) := dc_96 (sg_at zd_dX7_takeSign_0 10 rfl rfl)
theorem dX7_takeSign_17 : decode cX7_takeSign 17 = .ok (.putfield 44, 3) := dc_181 (sg_at zd_dX7_takeSign_0 11 rfl rfl) rfl
theorem dX7_takeSign_20 : decode cX7_takeSign 20 = .ok (.aload_n 0, 1) := dc_42 (sg_at zd_dX7_takeSign_0 12 rfl rfl)
theorem dX7_takeSign_21 : decode cX7_takeSign 21 = .ok (.iload_n 1, 1) := dc_27 (sg_at zd_dX7_takeSign_0 13 rfl rfl)
theorem dX7_takeSign_22 : decode cX7_takeSign 22 = .ok (.invokestatic 76, 3) := dc_184 (sg_at zd_dX7_takeSign_0 14 rfl rfl) rfl
theorem dX7_takeSign_25 : decode cX7_takeSign 25 = .ok (.putfield 56, 3) := dc_181 (sg_at zd_dX7_takeSign_0 15 rfl rfl) rfl
theorem dX7_takeSign_28 : decode cX7_takeSign 28 = .ok (.aload_n 0, 1) := dc_42 (sg_at zd_dX7_takeSign_0 16 rfl rfl)
theorem dX7_takeSign_29 : decode cX7_takeSign 29 = .ok (.getfield 56, 3) := dc_180 (sg_at zd_dX7_takeSign_0 17 rfl rfl) rfl
theorem dX7_takeSign_32 : decode cX7_takeSign 32 = .ok (.bipush 26, 2) := dc_16 (sg_at zd_dX7_takeSign_0 18 rfl rfl) rfl
theorem dX7_takeSign_34 : decode cX7_takeSign 34 = .ok (.if_icmp .ne 31, 3) := dc_160 (sg_at zd_dX7_takeSign_0 19 rfl rfl) rfl
theorem zd_dX7_takeSign_37 : sg (cX7_takeSign.data.toList.drop 37) [[42], [16, 61], [182, 0, 79], [153, 0, 22], [42], [16, 27], [181, 0, 56], [42], [89], [180, 0, 44], [4], [96], [181, 0, 44], [167, 0, 74], [42], [180, 0, 56], [16, 26], [160, 0, 31], [42], [16, 62]] = true := by decide +kernel
theorem dX7_takeSign_37 : decode cX7_takeSign 37 = .ok (.aload_n 0, 1) := dc_42 (sg_at zd_dX7_takeSign_37 0 rfl rfl)
theorem dX7_takeSign_38 : decode cX7_takeSign 38 = .ok (.bipush 61, 2) := dc_16 (sg_at zd_dX7_takeSign_37 1 rfl rfl) rfl
theorem dX7_takeSign_40 : decode cX7_takeSign 40 = .ok (.invokevirtual 79, 3) := dc_182 (sg_at zd_dX7_takeSign_37 2 rfl rfl) rfl
theorem dX7_takeSign_43 : decode cX7_takeSign 43 = .ok (.ifCond .eq 22, 3) := dc_153 (sg_at zd_dX7_takeSign_37 3 rfl rfl) rfl
theorem dX7_takeSign_46 : decode cX7_takeSign 46 = .ok (.aload_n 0, 1) := dc_42 (sg_at zd_dX7_takeSign_37 4 rfl rfl)
theorem dX7_takeSign_47 : decode cX7_takeSign 47 = .ok (.bipush 27, 2) := dc_16 (sg_at zd_dX7_takeSign_37 5 rfl rfl) rfl
theorem dX7_takeSign_49 : decode cX7_takeSign 49 = .ok (.putfield 56, 3) := dc_181 (sg_at zd_dX7_takeSign_37 6 rfl rfl) rfl
theorem dX7_takeSign_52 : decode cX7_takeSign 52 = .ok (.aload_n 0, 1) := dc_42 (sg_at zd_dX7_takeSign_37 7 rfl rfl)
theorem dX7_takeSign_53 : decode cX7_takeSign 53 = .ok (.dup, 1) := dc_89 (sg_at zd_dX7_takeSign_37 8 rfl rfl)
theorem dX7_takeSign_54 : decode cX7_takeSign 54 = .ok (.getfield 44, 3) := dc_180 (sg_at zd_dX7_takeSign_37 9 rfl rfl) rfl
theorem dX7_takeSign_57 : decode cX7_takeSign 57 = .ok (.iconst 1, 1) := dc_4 (sg_at zd_dX7_takeSign_37 10 rfl rfl)
theorem dX7_takeSign_58 : decode cX7_takeSign 58 = .ok (.iadd, 1) := dc_96 (sg_at zd_dX7_takeSign_37 11 rfl rfl)
theorem dX7_takeSign_59 : decode cX7_takeSign 59 = .ok (.putfield 44, 3) := dc_181 (sg_at zd_dX7_takeSign_37 12 rfl rfl) rfl
theorem dX7_takeSign_62 : decode cX7_takeSign 62 = .ok (.goto 74, 3) := dc_167 (sg_at zd_dX7_takeSign_37 13 rfl rfl) rfl
theorem dX7_takeSign_65 : decode cX7_takeSign 65 = .ok (.aload_n 0, 1) := dc_42 (sg_at zd_dX7_takeSign_37 14 rfl rfl)
theorem dX7_takeSign_66 : decode cX7_takeSign 66 = .ok (.getfield 56, 3) := dc_180 (sg_at zd_dX7_takeSign_37 15 rfl rfl) rfl
theorem dX7_takeSign_69 : decode cX7_takeSign 69 = .ok (.bipush 26, 2) := dc_16 (sg_at zd_dX7_takeSign_37 16 rfl rfl) rfl
theorem dX7_takeSign_71 : decode cX7_takeSign 71 = .ok (.if_icmp .ne 31, 3) := dc_160 (sg_at zd_dX7_takeSign_37 17 rfl rfl) rfl
theorem dX7_takeSign_74 : decode cX7_takeSign 74 = .ok (.aload_n 0, 1) := dc_42 (sg_at zd_dX7_takeSign_37 18 rfl rfl)
theorem dX7_takeSign_75 : decode cX7_takeSign 75 = .ok (.bipush 62, 2) := dc_16 (sg_at zd_dX7_takeSign_37 19 rfl rfl) rfl
theorem zd_dX7_takeSign_77 : sg (cX7_takeSign.data.toList.drop 77) [[182, 0, 79], [153, 0, 22], [42], [16, 29], [181, 0, 56], [42], [89], [180, 0, 44], [4], [96], [181, 0, 44], [167, 0, 37], [42], [180, 0, 56], [16, 31], [160, 0, 28], [42], [16, 61], [182, 0, 79], [153, 0, 19]] = true := by decide +kernel
theorem dX7_takeSign_77 : decode cX7_takeSign 77 = .ok (.invokevirtual 79, 3) := dc_182 (sg_at zd_dX7_takeSign_77 0 rfl rfl) rfl
theorem dX7_takeSign_80 : decode cX7_takeSign 80 = .ok (.ifCond .eq 22, 3) := dc_153 (sg_at zd_dX7_takeSign_77 1 rfl rfl) rfl
theorem dX7_takeSign_83 : decode cX7_takeSign 83 = .ok (.aload_n 0, 1) := dc_42 (sg_at zd_dX7_takeSign_77 2 rfl rfl)
theorem dX7_takeSign_84 : decode cX7_takeSign 84 = .ok (.bipush 29, 2) := dc_16 (sg_at zd_dX7_takeSign_77 3 rfl rfl) rfl
theorem dX7_takeSign_86 : decode cX7_takeSign 86 = .ok (.putfield 56, 3) := dc_181 (sg_at zd_dX7_takeSign_77 4 rfl rfl) rfl
theorem dX7_takeSign_89 : decode cX7_takeSign 89 = .ok (.aload_n 0, 1) := dc_42 (sg_at zd_dX7_takeSign_77 5 rfl rfl)
theorem dX7_takeSign_90 : decode cX7_takeSign 90 = .ok (.dup, 1) := dc_89 (sg_at zd_dX7_takeSign_77 6 rfl rfl)
theorem dX7_takeSign_91 : decode cX7_takeSign 91 = .ok (.getfield 44, 3) := dc_180 (sg_at zd_dX7_takeSign_77 7 rfl rfl) rfl
theorem dX7_takeSign_94 : decode cX7_takeSign 94 = .ok (.iconst 1, 1) := dc_4 (sg_at zd_dX7_takeSign_77 8 rfl rfl)
theorem dX7_takeSign_95 : decode cX7_takeSign 95 = .ok (.iadd, 1) := dc_96 (sg_at zd_dX7_takeSign_77 9 rfl rfl)
theorem dX7_takeSign_96 : decode cX7_takeSign 96 = .ok (.putfield 44, 3) := dc_181 (sg_at zd_dX7_takeSign_77 10 rfl rfl) rfl
theorem dX7_takeSign_99 : decode cX7_takeSign 99 = .ok (.goto 37, 3) := dc_167 (sg_at zd_dX7_takeSign_77 11 rfl rfl) rfl
theorem dX7_takeSign_102 : decode cX7_takeSign 102 = .ok (.aload_n 0, 1) := dc_42 (sg_at zd_dX7_takeSign_77 12 rfl rfl)
theorem dX7_takeSign_103 : decode cX7_takeSign 103 = .ok (.getfield 56, 3) := dc_180 (sg_at zd_dX7_takeSign_77 13 rfl rfl) rfl
theorem dX7_takeSign_106 : decode cX7_takeSign 106 = .ok (.bipush 31, 2) := dc_16 (sg_at zd_dX7_takeSign_77 14 rfl rfl) rfl
theorem dX7_takeSign_108 : decode cX7_takeSign 108 = .ok (.if_icmp .ne 28, 3) := dc_160 (sg_at zd_dX7_takeSign_77 15 rfl rfl) rfl
theorem dX7_takeSign_111 : decode cX7_takeSign 111 = .ok (.aload_n 0, 1) := dc_42 (sg_at zd_dX7_takeSign_77 16 rfl rfl)
theorem dX7_takeSign_112 : decode cX7_takeSign 112 = .ok (.bipush 61, 2) := dc_16 (sg_at zd_dX7_takeSign_77 17 rfl rfl) rfl
theorem dX7_takeSign_114 : decode cX7_takeSign 114 = .ok (.invokevirtual 79, 3) := dc_182 (sg_at zd_dX7_takeSign_77 18 rfl rfl) rfl
theorem dX7_takeSign_117 : decode cX7_takeSign 117 = .ok (.ifCond .eq 19, 3) := dc_153 (sg_at zd_dX7_takeSign_77 19 rfl rfl) rfl
theorem zd_dX7_takeSign_120 : sg (cX7_takeSign.data.toList.drop 120) [[42], [16, 30], [181, 0, 56], [42], [89], [180, 0, 44], [4], [96], [181, 0, 44], [177]] = true := by decide +kernel
theorem dX7_takeSign_120 : decode cX7_takeSign 120 = .ok (.aload_n 0, 1) := dc_42 (sg_at zd_dX7_takeSign_120 0 rfl rfl)
theorem dX7_takeSign_121 : decode cX7_takeSign 121 = .ok (.bipush 30, 2) := dc_16 (sg_at zd_dX7_takeSign_120 1 rfl rfl) rfl
theorem dX7_takeSign_123 : decode cX7_takeSign 123 = .ok (.putfield 56, 3) := dc_181 (sg_at zd_dX7_takeSign_120 2 rfl rfl) rfl
theorem dX7_takeSign_126 : decode cX7_takeSign 126 = .ok (.aload_n 0, 1) := dc_42 (sg_at zd_dX7_takeSign_120 3 rfl rfl)
theorem dX7_takeSign_127 : decode cX7_takeSign 127 = .ok (.dup, 1) := dc_89 (sg_at zd_dX7_takeSign_120 4 rfl rfl)
theorem dX7_takeSign_128 : decode cX7_takeSign 128 = .ok (.getfield 44, 3) := dc_180 (sg_at zd_dX7_takeSign_120 5 rfl rfl) rfl
theorem dX7_takeSign_131 : decode cX7_takeSign 131 = .ok (.iconst 1, 1) := dc_4 (sg_at zd_dX7_takeSign_120 6 rfl rfl)
theorem dX7_takeSign_132 : decode cX7_takeSign 132 = .ok (.iadd, 1) := dc_96 (sg_at zd_dX7_takeSign_120 7 rfl rfl)
theorem dX7_takeSign_133 : decode cX7_takeSign 133 = .ok (.putfield 44, 3) := dc_181 (sg_at zd_dX7_takeSign_120 8 rfl rfl) rfl
theorem dX7_takeSign_136 : decode cX7_takeSign 136 = .ok (.return_, 1) := dc_177 (sg_at zd_dX7_takeSign_120 9 rfl rfl)
theorem zd_dX7_advance_0 : sg (cX7_advance.data.toList.drop 0) [[42], [182, 0, 47], [42], [42], [180, 0, 44], [181, 0, 50], [42], [3], [181, 0, 53], [42], [180, 0, 44], [42], [180, 0, 40], [161, 0, 12], [42], [16, 39], [181, 0, 56], [167, 0, 51], [42], [180, 0, 15]] = true := by decide +kernel
theorem dX7_advance_0 : decode cX7_advance 0 = .ok (.aload_n 0, 1) := dc_42 (sg_at zd_dX7_advance_0 0 rfl rfl)
theorem dX7_advance_1 : decode cX7_advance 1 = .ok (.invokevirtual 47, 3) := dc_182 (sg_at zd_dX7_advance_0 1 rfl rfl) rfl
theorem dX7_advance_4 : decode cX7_advance 4 = .ok (.aload_n 0, 1) := dc_42 (sg_at zd_dX7_advance_0 2 rfl rfl)
theorem dX7_advance_5 : decode cX7_advance 5 = .ok (.aload_n 0, 1) := dc_42 (sg_at zd_dX7_advance_0 3 rfl rfl)
theorem dX7_advance_6 : decode cX7_advance 6 = .ok (.getfield 44, 3) := dc_180 (sg_at zd_dX7_advance_0 4 rfl rfl) rfl
theorem dX7_advance_9 : decode cX7_advance 9 = .ok (.putfield 50, 3) := dc_181 (sg_at zd_dX7_advance_0 5 rfl rfl) rfl
theorem dX7_advance_12 : decode cX7_advance 12 = .ok (.aload_n 0, 1) := dc_42 (sg_at zd_dX7_advance_0 6 rfl rfl)
theorem dX7_advance_13 : decode cX7_advance 13 = .ok (.iconst 0, 1) := dc_3 (sg_at zd_dX7_advance_0 7 rfl rfl)
theorem dX7_advance_14 : decode cX7_advance 14 = .ok (.putfield 53, 3) := dc_181 (sg_at zd_dX7_advance_0 8 rfl rfl) rfl
theorem dX7_advance_17 : decode cX7_advance 17 = .ok (.aload_n 0, 1) := dc_42 (sg_at zd_dX7_advance_0 9 rfl rfl)
theorem dX7_advance_18 : decode cX7_advance 18 = .ok (.getfield 44, 3) := dc_180 (sg_at zd_dX7_advance_0 10 rfl rfl) rfl
theorem dX7_advance_21 : decode cX7_advance 21 = .ok (.aload_n 0, 1) := dc_42 (sg_at zd_dX7_advance_0 11 rfl rfl)
theorem dX7_advance_22 : decode cX7_advance 22 = .ok (.getfield 40, 3) := dc_180 (sg_at zd_dX7_advance_0 12 rfl rfl) rfl
theorem dX7_advance_25 : decode cX7_advance 25 = .ok (.if_icmp .lt 12, 3) := dc_161 (sg_at zd_dX7_advance_0 13 rfl rfl) rfl
theorem dX7_advance_28 : decode cX7_advance 28 = .ok (.aload_n 0, 1) := dc_42 (sg_at zd_dX7_advance_0 14 rfl rfl)
theorem dX7_advance_29 : decode cX7_advance 29 = .ok (.bipush 39, 2) := dc_16 (sg_at zd_dX7_advance_0 15 rfl rfl) rfl
theorem dX7_advance_31 : decode cX7_advance 31 = .ok (.putfield 56, 3) := dc_181 (sg_at zd_dX7_advance_0 16 rfl rfl) rfl
theorem dX7_advance_34 : decode cX7_advance 34 = .ok (.goto 51, 3) := dc_167 (sg_at zd_dX7_advance_0 17 rfl rfl) rfl
theorem dX7_advance_37 : decode cX7_advance 37 = .ok (.aload_n 0, 1) := dc_42 (sg_at zd_dX7_advance_0 18 rfl rfl)
theorem dX7_advance_38 : decode cX7_advance 38 = .ok (.getfield 15, 3) := dc_180 (sg_at zd_dX7_advance_0 19 rfl rfl) rfl
theorem zd_dX7_advance_41 : sg (cX7_advance.data.toList.drop 41) [[42], [180, 0, 44], [51], [184, 0, 27], [153, 0, 10], [42], [182, 0, 59], [167, 0, 29], [42], [180, 0, 15], [42], [180, 0, 44], [51], [184, 0, 62], [153, 0, 10], [42], [182, 0, 65], [167, 0, 7], [42], [182, 0, 68]] = true := by decide +kernel
theorem dX7_advance_41 : decode cX7_advance 41 = .ok (.aload_n 0, 1) := dc_42 (sg_at zd_dX7_advance_41 0 rfl rfl)
theorem dX7_advance_42 : decode cX7_advance 42 = .ok (.getfield 44, 3) := dc_180 (sg_at zd_dX7_advance_41 1 rfl rfl) rfl
theorem dX7_advance_45 : decode cX7_advance 45 = .ok (.baload, 1) := dc_51 (sg_at zd_dX7_advance_41 2 rfl rfl)
theorem dX7_advance_46 : decode cX7_advance 46 = .ok (.invokestatic 27, 3) := dc_184 (sg_at zd_dX7_advance_41 3 rfl rfl) rfl
theorem dX7_advance_49 : decode cX7_advance 49 = .ok (.ifCond .eq 10, 3) := dc_153 (sg_at zd_dX7_advance_41 4 rfl rfl) rfl
theorem dX7_advance_52 : decode cX7_advance 52 = .ok (.aload_n 0, 1) := dc_42 (sg_at zd_dX7_advance_41 5 rfl rfl)
theorem dX7_advance_53 : decode cX7_advance 53 = .ok (.invokevirtual 59, 3) := dc_182 (sg_at zd_dX7_advance_41 6 rfl rfl) rfl
theorem dX7_advance_56 : decode cX7_advance 56 = .ok (.goto 29, 3) := dc_167 (sg_at zd_dX7_advance_41 7 rfl rfl) rfl
theorem dX7_advance_59 : decode cX7_advance 59 = .ok (.aload_n 0, 1) := dc_42 (sg_at zd_dX7_advance_41 8 rfl rfl)
theorem dX7_advance_60 : decode cX7_advance 60 = .ok (.getfield 15, 3) := dc_180 (sg_at zd_dX7_advance_41 9 rfl rfl) rfl
theorem dX7_advance_63 : decode cX7_advance 63 = .ok (.aload_n 0, 1) := dc_42 (sg_at zd_dX7_advance_41 10 rfl rfl)
theorem dX7_advance_64 : decode cX7_advance 64 = .ok (.getfield 44, 3) := dc_180 (sg_at zd_dX7_advance_41 11 rfl rfl) rfl
theorem dX7_advance_67 : decode cX7_advance 67 = .ok (.baload, 1) := dc_51 (sg_at zd_dX7_advance_41 12 rfl rfl)
theorem dX7_advance_68 : decode cX7_advance 68 = .ok (.invokestatic 62, 3) := dc_184 (sg_at zd_dX7_advance_41 13 rfl rfl) rfl
theorem dX7_advance_71 : decode cX7_advance 71 = .ok (.ifCond .eq 10, 3) := dc_153 (sg_at zd_dX7_advance_41 14 rfl rfl) rfl
theorem dX7_advance_74 : decode cX7_advance 74 = .ok (.aload_n 0, 1) := dc_42 (sg_at zd_dX7_advance_41 15 rfl rfl)
theorem dX7_advance_75 : decode cX7_advance 75 = .ok (.invokevirtual 65, 3) := dc_182 (sg_at zd_dX7_advance_41 16 rfl rfl) rfl
theorem dX7_advance_78 : decode cX7_advance 78 = .ok (.goto 7, 3) := dc_167 (sg_at zd_dX7_advance_41 17 rfl rfl) rfl
theorem dX7_advance_81 : decode cX7_advance 81 = .ok (.aload_n 0, 1) := dc_42 (sg_at zd_dX7_advance_41 18 rfl rfl)
theorem dX7_advance_82 : decode cX7_advance 82 = .ok (.invokevirtual 68, 3) := dc_182 (sg_at zd_dX7_advance_41 19 rfl rfl) rfl
theorem zd_dX7_advance_85 : sg (cX7_advance.data.toList.drop 85) [[177]] = true := by decide +kernel
theorem dX7_advance_85 : decode cX7_advance 85 = .ok (.return_, 1) := dc_177 (sg_at zd_dX7_advance_85 0 rfl rfl)
theorem zd_dX5_takenNumber_0 : sg (cX5_takenNumber.data.toList.drop 0) [[42], [180, 0, 18], [180, 0, 52], [16, 25], [159, 0, 11], [42], [4], [182, 0, 89], [87], [2], [172], [42], [180, 0, 18], [180, 0, 97], [27], [161, 0, 14], [42], [180, 0, 18], [180, 0, 97], [28]] = true := by decide +kernel
theorem dX5_takenNumber_0 : decode cX5_takenNumber 0 = .ok (.aload_n 0, 1) := dc_42 (sg_at zd_dX5_takenNumber_0 0 rfl rfl)
theorem dX5_takenNumber_1 : decode cX5_takenNumber 1 = .ok (.getfield 18, 3) := dc_180 (sg_at zd_dX5_takenNumber_0 1 rfl rfl) rfl
theorem dX5_takenNumber_4 : decode cX5_takenNumber 4 = .ok (.getfield 52, 3) := dc_180 (sg_at zd_dX5_takenNumber_0 2 rfl rfl) rfl
theorem dX5_takenNumber_7 : decode cX5_takenNumber 7 = .ok (.bipush 25, 2) := dc_16 (sg_at zd_dX5_takenNumber_0 3 rfl rfl) rfl
theorem dX5_takenNumber_9 : decode cX5_takenNumber 9 = .ok (.if_icmp .eq 11, 3) := dc_159 (sg_at zd_dX5_takenNumber_0 4 rfl rfl) rfl
theorem dX5_takenNumber_12 : decode cX5_takenNumber 12 = .ok (.aload_n 0, 1) := dc_42 (sg_at zd_dX5_takenNumber_0 5 rfl rfl)
theorem dX5_takenNumber_13 : decode cX5_takenNumber 13 = .ok (.iconst 1, 1) := dc_4 (sg_at zd_dX5_takenNumber_0 6 rfl rfl)
theorem dX5_takenNumber_14 : decode cX5_takenNumber 14 = .ok (.invokevirtual 89, 3) := dc_182 (sg_at zd_dX5_takenNumber_0 7 rfl rfl) rfl
theorem dX5_takenNumber_17 : decode cX5_takenNumber 17 = .ok (.pop, 1) := dc_87 (sg_at zd_dX5_takenNumber_0 8 rfl rfl)
theorem dX5_takenNumber_18 : decode cX5_takenNumber 18 = .ok (.iconst (-1), 1) := dc_2 (sg_at zd_dX5_takenNumber_0 9 rfl rfl)
theorem dX5_takenNumber_19 : decode cX5_takenNumber 19 = .ok (.ireturn, 1) := dc_172 (sg_at zd_dX5_takenNumber_0 10 rfl rfl)
theorem dX5_takenNumber_20 : decode cX5_takenNumber 20 = .ok (.aload_n 0, 1) := dc_42 (sg_at zd_dX5_takenNumber_0 11 rfl rfl)
theorem dX5_takenNumber_21 : decode cX5_takenNumber 21 = .ok (.getfield 18, 3) := dc_180 (sg_at zd_dX5_takenNumber_0 12 rfl rfl) rfl
theorem dX5_takenNumber_24 : decode cX5_takenNumber 24 = .ok (.getfield 97, 3) := dc_180 (sg_at zd_dX5_takenNumber_0 13 rfl rfl) rfl
theorem dX5_takenNumber_27 : decode cX5_takenNumber 27 = .ok (.iload_n 1, 1) := dc_27 (sg_at zd_dX5_takenNumber_0 14 rfl rfl)
theorem dX5_takenNumber_28 : decode cX5_takenNumber 28 = .ok (.if_icmp .lt 14, 3) := dc_161 (sg_at zd_dX5_takenNumber_0 15 rfl rfl) rfl
theorem dX5_takenNumber_31 : decode cX5_takenNumber 31 = .ok (.aload_n 0, 1) := dc_42 (sg_at zd_dX5_takenNumber_0 16 rfl rfl)
theorem dX5_takenNumber_32 : decode cX5_takenNumber 32 = .ok (.getfield 18, 3) := dc_180 (sg_at zd_dX5_takenNumber_0 17 rfl rfl) rfl
theorem dX5_takenNumber_35 : decode cX5_takenNumber 35 = .ok (.getfield 97, 3) := dc_180 (sg_at zd_dX5_takenNumber_0 18 rfl rfl) rfl
theorem dX5_takenNumber_38 : decode cX5_takenNumber 38 = .ok (.iload_n 2, 1) := dc_28 (sg_at zd_dX5_takenNumber_0 19 rfl rfl)
theorem zd_dX5_takenNumber_39 : sg (cX5_takenNumber.data.toList.drop 39) [[164, 0, 11], [42], [5], [182, 0, 89], [87], [2], [172], [42], [180, 0, 18], [180, 0, 97], [172]] = true := by decide +kernel
theorem dX5_takenNumber_39 : decode cX5_takenNumber 39 = .ok (.if_icmp .le 11, 3) := dc_164 (sg_at zd_dX5_takenNumber_39 0 rfl rfl) rfl
theorem dX5_takenNumber_42 : decode cX5_takenNumber 42 = .ok (.aload_n 0, 1) := dc_42 (sg_at zd_dX5_takenNumber_39 1 rfl rfl)
theorem dX5_takenNumber_43 : decode cX5_takenNumber 43 = .ok (.iconst 2, 1) := dc_5 (sg_at zd_dX5_takenNumber_39 2 rfl rfl)
theorem dX5_takenNumber_44 : decode cX5_takenNumber 44 = .ok (.invokevirtual 89, 3) := dc_182 (sg_at zd_dX5_takenNumber_39 3 rfl rfl) rfl
theorem dX5_takenNumber_47 : decode cX5_takenNumber 47 = .ok (.pop, 1) := dc_87 (sg_at zd_dX5_takenNumber_39 4 rfl rfl)
theorem dX5_takenNumber_48 : decode cX5_takenNumber 48 = .ok (.iconst (-1), 1) := dc_2 (sg_at zd_dX5_takenNumber_39 5 rfl rfl)
theorem dX5_takenNumber_49 : decode cX5_takenNumber 49 = .ok (.ireturn, 1) := dc_172 (sg_at zd_dX5_takenNumber_39 6 rfl rfl)
theorem dX5_takenNumber_50 : decode cX5_takenNumber 50 = .ok (.aload_n 0, 1) := dc_42 (sg_at zd_dX5_takenNumber_39 7 rfl rfl)
theorem dX5_takenNumber_51 : decode cX5_takenNumber 51 = .ok (.getfield 18, 3) := dc_180 (sg_at zd_dX5_takenNumber_39 8 rfl rfl) rfl
theorem dX5_takenNumber_54 : decode cX5_takenNumber 54 = .ok (.getfield 97, 3) := dc_180 (sg_at zd_dX5_takenNumber_39 9 rfl rfl) rfl
theorem dX5_takenNumber_57 : decode cX5_takenNumber 57 = .ok (.ireturn, 1) := dc_172 (sg_at zd_dX5_takenNumber_39 10 rfl rfl)
theorem zd_dX5_numberIn_0 : sg (cX5_numberIn.data.toList.drop 0) [[42], [180, 0, 18], [182, 0, 49], [42], [27], [28], [182, 0, 93], [172]] = true := by decide +kernel
theorem dX5_numberIn_0 : decode cX5_numberIn 0 = .ok (.aload_n 0, 1) := dc_42 (sg_at zd_dX5_numberIn_0 0 rfl rfl)
theorem dX5_numberIn_1 : decode cX5_numberIn 1 = .ok (.getfield 18, 3) := dc_180 (sg_at zd_dX5_numberIn_0 1 rfl rfl) rfl
theorem dX5_numberIn_4 : decode cX5_numberIn 4 = .ok (.invokevirtual 49, 3) := dc_182 (sg_at zd_dX5_numberIn_0 2 rfl rfl) rfl
theorem dX5_numberIn_7 : decode cX5_numberIn 7 = .ok (.aload_n 0, 1) := dc_42 (sg_at zd_dX5_numberIn_0 3 rfl rfl)
theorem dX5_numberIn_8 : decode cX5_numberIn 8 = .ok (.iload_n 1, 1) := dc_27 (sg_at zd_dX5_numberIn_0 4 rfl rfl)
theorem dX5_numberIn_9 : decode cX5_numberIn 9 = .ok (.iload_n 2, 1) := dc_28 (sg_at zd_dX5_numberIn_0 5 rfl rfl)
theorem dX5_numberIn_10 : decode cX5_numberIn 10 = .ok (.invokevirtual 93, 3) := dc_182 (sg_at zd_dX5_numberIn_0 6 rfl rfl) rfl
theorem dX5_numberIn_13 : decode cX5_numberIn 13 = .ok (.ireturn, 1) := dc_172 (sg_at zd_dX5_numberIn_0 7 rfl rfl)
theorem zd_dX10_forget_0 : sg (cX10_forget.data.toList.drop 0) [[42], [3], [181, 0, 30], [42], [3], [181, 0, 34], [177]] = true := by decide +kernel
theorem dX10_forget_0 : decode cX10_forget 0 = .ok (.aload_n 0, 1) := dc_42 (sg_at zd_dX10_forget_0 0 rfl rfl)
theorem dX10_forget_1 : decode cX10_forget 1 = .ok (.iconst 0, 1) := dc_3 (sg_at zd_dX10_forget_0 1 rfl rfl)
theorem dX10_forget_2 : decode cX10_forget 2 = .ok (.putfield 30, 3) := dc_181 (sg_at zd_dX10_forget_0 2 rfl rfl) rfl
theorem dX10_forget_5 : decode cX10_forget 5 = .ok (.aload_n 0, 1) := dc_42 (sg_at zd_dX10_forget_0 3 rfl rfl)
theorem dX10_forget_6 : decode cX10_forget 6 = .ok (.iconst 0, 1) := dc_3 (sg_at zd_dX10_forget_0 4 rfl rfl)
theorem dX10_forget_7 : decode cX10_forget 7 = .ok (.putfield 34, 3) := dc_181 (sg_at zd_dX10_forget_0 5 rfl rfl) rfl
theorem dX10_forget_10 : decode cX10_forget 10 = .ok (.return_, 1) := dc_177 (sg_at zd_dX10_forget_0 6 rfl rfl)
theorem zd_dX8_forget_0 : sg (cX8_forget.data.toList.drop 0) [[42], [16, 6], [181, 0, 32], [42], [7], [181, 0, 36], [42], [3], [181, 0, 39], [42], [3], [181, 0, 42], [42], [180, 0, 12], [3], [181, 0, 45], [42], [180, 0, 21], [182, 0, 48], [42]] = true := by decide +kernel
theorem dX8_forget_0 : decode cX8_forget 0 = .ok (.aload_n 0, 1) := dc_42 (sg_at zd_dX8_forget_0 0 rfl rfl)
theorem dX8_forget_1 : decode cX8_forget 1 = .ok (.bipush 6, 2) := dc_16 (sg_at zd_dX8_forget_0 1 rfl rfl) rfl
theorem dX8_forget_3 : decode cX8_forget 3 = .ok (.putfield 32, 3) := dc_181 (sg_at zd_dX8_forget_0 2 rfl rfl) rfl
theorem dX8_forget_6 : decode cX8_forget 6 = .ok (.aload_n 0, 1) := dc_42 (sg_at zd_dX8_forget_0 3 rfl rfl)
theorem dX8_forget_7 : decode cX8_forget 7 = .ok (.iconst 4, 1) := dc_7 (sg_at zd_dX8_forget_0 4 rfl rfl)
theorem dX8_forget_8 : decode cX8_forget 8 = .ok (.putfield 36, 3) := dc_181 (sg_at zd_dX8_forget_0 5 rfl rfl) rfl
theorem dX8_forget_11 : decode cX8_forget 11 = .ok (.aload_n 0, 1) := dc_42 (sg_at zd_dX8_forget_0 6 rfl rfl)
theorem dX8_forget_12 : decode cX8_forget 12 = .ok (.iconst 0, 1) := dc_3 (sg_at zd_dX8_forget_0 7 rfl rfl)
theorem dX8_forget_13 : decode cX8_forget 13 = .ok (.putfield 39, 3) := dc_181 (sg_at zd_dX8_forget_0 8 rfl rfl) rfl
theorem dX8_forget_16 : decode cX8_forget 16 = .ok (.aload_n 0, 1) := dc_42 (sg_at zd_dX8_forget_0 9 rfl rfl)
theorem dX8_forget_17 : decode cX8_forget 17 = .ok (.iconst 0, 1) := dc_3 (sg_at zd_dX8_forget_0 10 rfl rfl)
theorem dX8_forget_18 : decode cX8_forget 18 = .ok (.putfield 42, 3) := dc_181 (sg_at zd_dX8_forget_0 11 rfl rfl) rfl
theorem dX8_forget_21 : decode cX8_forget 21 = .ok (.aload_n 0, 1) := dc_42 (sg_at zd_dX8_forget_0 12 rfl rfl)
theorem dX8_forget_22 : decode cX8_forget 22 = .ok (.getfield 12, 3) := dc_180 (sg_at zd_dX8_forget_0 13 rfl rfl) rfl
theorem dX8_forget_25 : decode cX8_forget 25 = .ok (.iconst 0, 1) := dc_3 (sg_at zd_dX8_forget_0 14 rfl rfl)
theorem dX8_forget_26 : decode cX8_forget 26 = .ok (.putfield 45, 3) := dc_181 (sg_at zd_dX8_forget_0 15 rfl rfl) rfl
theorem dX8_forget_29 : decode cX8_forget 29 = .ok (.aload_n 0, 1) := dc_42 (sg_at zd_dX8_forget_0 16 rfl rfl)
theorem dX8_forget_30 : decode cX8_forget 30 = .ok (.getfield 21, 3) := dc_180 (sg_at zd_dX8_forget_0 17 rfl rfl) rfl
theorem dX8_forget_33 : decode cX8_forget 33 = .ok (.invokevirtual 48, 3) := dc_182 (sg_at zd_dX8_forget_0 18 rfl rfl) rfl
theorem dX8_forget_36 : decode cX8_forget 36 = .ok (.aload_n 0, 1) := dc_42 (sg_at zd_dX8_forget_0 19 rfl rfl)
theorem zd_dX8_forget_37 : sg (cX8_forget.data.toList.drop 37) [[3], [181, 0, 51], [42], [3], [181, 0, 54], [42], [3], [181, 0, 57], [42], [3], [181, 0, 60], [42], [3], [181, 0, 63], [3], [60], [27], [6], [162, 0, 18], [42]] = true := by decide +kernel
theorem dX8_forget_37 : decode cX8_forget 37 = .ok (.iconst 0, 1) := dc_3 (sg_at zd_dX8_forget_37 0 rfl rfl)
theorem dX8_forget_38 : decode cX8_forget 38 = .ok (.putfield 51, 3) := dc_181 (sg_at zd_dX8_forget_37 1 rfl rfl) rfl
theorem dX8_forget_41 : decode cX8_forget 41 = .ok (.aload_n 0, 1) := dc_42 (sg_at zd_dX8_forget_37 2 rfl rfl)
theorem dX8_forget_42 : decode cX8_forget 42 = .ok (.iconst 0, 1) := dc_3 (sg_at zd_dX8_forget_37 3 rfl rfl)
theorem dX8_forget_43 : decode cX8_forget 43 = .ok (.putfield 54, 3) := dc_181 (sg_at zd_dX8_forget_37 4 rfl rfl) rfl
theorem dX8_forget_46 : decode cX8_forget 46 = .ok (.aload_n 0, 1) := dc_42 (sg_at zd_dX8_forget_37 5 rfl rfl)
theorem dX8_forget_47 : decode cX8_forget 47 = .ok (.iconst 0, 1) := dc_3 (sg_at zd_dX8_forget_37 6 rfl rfl)
theorem dX8_forget_48 : decode cX8_forget 48 = .ok (.putfield 57, 3) := dc_181 (sg_at zd_dX8_forget_37 7 rfl rfl) rfl
theorem dX8_forget_51 : decode cX8_forget 51 = .ok (.aload_n 0, 1) := dc_42 (sg_at zd_dX8_forget_37 8 rfl rfl)
theorem dX8_forget_52 : decode cX8_forget 52 = .ok (.iconst 0, 1) := dc_3 (sg_at zd_dX8_forget_37 9 rfl rfl)
theorem dX8_forget_53 : decode cX8_forget 53 = .ok (.putfield 60, 3) := dc_181 (sg_at zd_dX8_forget_37 10 rfl rfl) rfl
theorem dX8_forget_56 : decode cX8_forget 56 = .ok (.aload_n 0, 1) := dc_42 (sg_at zd_dX8_forget_37 11 rfl rfl)
theorem dX8_forget_57 : decode cX8_forget 57 = .ok (.iconst 0, 1) := dc_3 (sg_at zd_dX8_forget_37 12 rfl rfl)
theorem dX8_forget_58 : decode cX8_forget 58 = .ok (.putfield 63, 3) := dc_181 (sg_at zd_dX8_forget_37 13 rfl rfl) rfl
theorem dX8_forget_61 : decode cX8_forget 61 = .ok (.iconst 0, 1) := dc_3 (sg_at zd_dX8_forget_37 14 rfl rfl)
theorem dX8_forget_62 : decode cX8_forget 62 = .ok (.istore_n 1, 1) := dc_60 (sg_at zd_dX8_forget_37 15 rfl rfl)
theorem dX8_forget_63 : decode cX8_forget 63 = .ok (.iload_n 1, 1) := dc_27 (sg_at zd_dX8_forget_37 16 rfl rfl)
theorem dX8_forget_64 : decode cX8_forget 64 = .ok (.iconst 3, 1) := dc_6 (sg_at zd_dX8_forget_37 17 rfl rfl)
theorem dX8_forget_65 : decode cX8_forget 65 = .ok (.if_icmp .ge 18, 3) := dc_162 (sg_at zd_dX8_forget_37 18 rfl rfl) rfl
theorem dX8_forget_68 : decode cX8_forget 68 = .ok (.aload_n 0, 1) := dc_42 (sg_at zd_dX8_forget_37 19 rfl rfl)
theorem zd_dX8_forget_69 : sg (cX8_forget.data.toList.drop 69) [[180, 0, 27], [27], [50], [182, 0, 66], [132, 1, 1], [167, 255, 239], [42], [3], [181, 0, 67], [42], [3], [181, 0, 70], [177]] = true := by decide +kernel
theorem dX8_forget_69 : decode cX8_forget 69 = .ok (.getfield 27, 3) := dc_180 (sg_at zd_dX8_forget_69 0 rfl rfl) rfl
theorem dX8_forget_72 : decode cX8_forget 72 = .ok (.iload_n 1, 1) := dc_27 (sg_at zd_dX8_forget_69 1 rfl rfl)
theorem dX8_forget_73 : decode cX8_forget 73 = .ok (.aaload, 1) := dc_50 (sg_at zd_dX8_forget_69 2 rfl rfl)
theorem dX8_forget_74 : decode cX8_forget 74 = .ok (.invokevirtual 66, 3) := dc_182 (sg_at zd_dX8_forget_69 3 rfl rfl) rfl
theorem dX8_forget_77 : decode cX8_forget 77 = .ok (.iinc 1 1, 3) := dc_132 (sg_at zd_dX8_forget_69 4 rfl rfl) rfl
theorem dX8_forget_80 : decode cX8_forget 80 = .ok (.goto (-17), 3) := dc_167 (sg_at zd_dX8_forget_69 5 rfl rfl) rfl
theorem dX8_forget_83 : decode cX8_forget 83 = .ok (.aload_n 0, 1) := dc_42 (sg_at zd_dX8_forget_69 6 rfl rfl)
theorem dX8_forget_84 : decode cX8_forget 84 = .ok (.iconst 0, 1) := dc_3 (sg_at zd_dX8_forget_69 7 rfl rfl)
theorem dX8_forget_85 : decode cX8_forget 85 = .ok (.putfield 67, 3) := dc_181 (sg_at zd_dX8_forget_69 8 rfl rfl) rfl
theorem dX8_forget_88 : decode cX8_forget 88 = .ok (.aload_n 0, 1) := dc_42 (sg_at zd_dX8_forget_69 9 rfl rfl)
theorem dX8_forget_89 : decode cX8_forget 89 = .ok (.iconst 0, 1) := dc_3 (sg_at zd_dX8_forget_69 10 rfl rfl)
theorem dX8_forget_90 : decode cX8_forget 90 = .ok (.putfield 70, 3) := dc_181 (sg_at zd_dX8_forget_69 11 rfl rfl) rfl
theorem dX8_forget_93 : decode cX8_forget 93 = .ok (.return_, 1) := dc_177 (sg_at zd_dX8_forget_69 12 rfl rfl)
theorem zd_dX7_begin_0 : sg (cX7_begin.data.toList.drop 0) [[42], [43], [181, 0, 15], [42], [28], [43], [190], [184, 0, 35], [181, 0, 40], [42], [3], [181, 0, 44], [177]] = true := by decide +kernel
theorem dX7_begin_0 : decode cX7_begin 0 = .ok (.aload_n 0, 1) := dc_42 (sg_at zd_dX7_begin_0 0 rfl rfl)
theorem dX7_begin_1 : decode cX7_begin 1 = .ok (.aload_n 1, 1) := dc_43 (sg_at zd_dX7_begin_0 1 rfl rfl)
theorem dX7_begin_2 : decode cX7_begin 2 = .ok (.putfield 15, 3) := dc_181 (sg_at zd_dX7_begin_0 2 rfl rfl) rfl
theorem dX7_begin_5 : decode cX7_begin 5 = .ok (.aload_n 0, 1) := dc_42 (sg_at zd_dX7_begin_0 3 rfl rfl)
theorem dX7_begin_6 : decode cX7_begin 6 = .ok (.iload_n 2, 1) := dc_28 (sg_at zd_dX7_begin_0 4 rfl rfl)
theorem dX7_begin_7 : decode cX7_begin 7 = .ok (.aload_n 1, 1) := dc_43 (sg_at zd_dX7_begin_0 5 rfl rfl)
theorem dX7_begin_8 : decode cX7_begin 8 = .ok (.arraylength, 1) := dc_190 (sg_at zd_dX7_begin_0 6 rfl rfl)
theorem dX7_begin_9 : decode cX7_begin 9 = .ok (.invokestatic 35, 3) := dc_184 (sg_at zd_dX7_begin_0 7 rfl rfl) rfl
theorem dX7_begin_12 : decode cX7_begin 12 = .ok (.putfield 40, 3) := dc_181 (sg_at zd_dX7_begin_0 8 rfl rfl) rfl
theorem dX7_begin_15 : decode cX7_begin 15 = .ok (.aload_n 0, 1) := dc_42 (sg_at zd_dX7_begin_0 9 rfl rfl)
theorem dX7_begin_16 : decode cX7_begin 16 = .ok (.iconst 0, 1) := dc_3 (sg_at zd_dX7_begin_0 10 rfl rfl)
theorem dX7_begin_17 : decode cX7_begin 17 = .ok (.putfield 44, 3) := dc_181 (sg_at zd_dX7_begin_0 11 rfl rfl) rfl
theorem dX7_begin_20 : decode cX7_begin 20 = .ok (.return_, 1) := dc_177 (sg_at zd_dX7_begin_0 12 rfl rfl)
theorem zd_dX5_readStop_0 : sg (cX5_readStop.data.toList.drop 0) [[42], [180, 0, 18], [182, 0, 49], [42], [180, 0, 18], [180, 0, 52], [16, 38], [159, 0, 11], [42], [4], [182, 0, 89], [153, 0, 7], [4], [167, 0, 4], [3], [172]] = true := by decide +kernel
theorem dX5_readStop_0 : decode cX5_readStop 0 = .ok (.aload_n 0, 1) := dc_42 (sg_at zd_dX5_readStop_0 0 rfl rfl)
theorem dX5_readStop_1 : decode cX5_readStop 1 = .ok (.getfield 18, 3) := dc_180 (sg_at zd_dX5_readStop_0 1 rfl rfl) rfl
theorem dX5_readStop_4 : decode cX5_readStop 4 = .ok (.invokevirtual 49, 3) := dc_182 (sg_at zd_dX5_readStop_0 2 rfl rfl) rfl
theorem dX5_readStop_7 : decode cX5_readStop 7 = .ok (.aload_n 0, 1) := dc_42 (sg_at zd_dX5_readStop_0 3 rfl rfl)
theorem dX5_readStop_8 : decode cX5_readStop 8 = .ok (.getfield 18, 3) := dc_180 (sg_at zd_dX5_readStop_0 4 rfl rfl) rfl
theorem dX5_readStop_11 : decode cX5_readStop 11 = .ok (.getfield 52, 3) := dc_180 (sg_at zd_dX5_readStop_0 5 rfl rfl) rfl
theorem dX5_readStop_14 : decode cX5_readStop 14 = .ok (.bipush 38, 2) := dc_16 (sg_at zd_dX5_readStop_0 6 rfl rfl) rfl
theorem dX5_readStop_16 : decode cX5_readStop 16 = .ok (.if_icmp .eq 11, 3) := dc_159 (sg_at zd_dX5_readStop_0 7 rfl rfl) rfl
theorem dX5_readStop_19 : decode cX5_readStop 19 = .ok (.aload_n 0, 1) := dc_42 (sg_at zd_dX5_readStop_0 8 rfl rfl)
theorem dX5_readStop_20 : decode cX5_readStop 20 = .ok (.iconst 1, 1) := dc_4 (sg_at zd_dX5_readStop_0 9 rfl rfl)
theorem dX5_readStop_21 : decode cX5_readStop 21 = .ok (.invokevirtual 89, 3) := dc_182 (sg_at zd_dX5_readStop_0 10 rfl rfl) rfl
theorem dX5_readStop_24 : decode cX5_readStop 24 = .ok (.ifCond .eq 7, 3) := dc_153 (sg_at zd_dX5_readStop_0 11 rfl rfl) rfl
theorem dX5_readStop_27 : decode cX5_readStop 27 = .ok (.iconst 1, 1) := dc_4 (sg_at zd_dX5_readStop_0 12 rfl rfl)
theorem dX5_readStop_28 : decode cX5_readStop 28 = .ok (.goto 4, 3) := dc_167 (sg_at zd_dX5_readStop_0 13 rfl rfl) rfl
theorem dX5_readStop_31 : decode cX5_readStop 31 = .ok (.iconst 0, 1) := dc_3 (sg_at zd_dX5_readStop_0 14 rfl rfl)
theorem dX5_readStop_32 : decode cX5_readStop 32 = .ok (.ireturn, 1) := dc_172 (sg_at zd_dX5_readStop_0 15 rfl rfl)
theorem zd_dX5_readSea_0 : sg (cX5_readSea.data.toList.drop 0) [[42], [3], [182, 0, 100], [154, 0, 5], [3], [172], [42], [180, 0, 41], [153, 0, 9], [42], [7], [182, 0, 89], [172], [42], [4], [16, 8], [182, 0, 103], [60], [27], [2]] = true := by decide +kernel
theorem dX5_readSea_0 : decode cX5_readSea 0 = .ok (.aload_n 0, 1) := dc_42 (sg_at zd_dX5_readSea_0 0 rfl rfl)
theorem dX5_readSea_1 : decode cX5_readSea 1 = .ok (.iconst 0, 1) := dc_3 (sg_at zd_dX5_readSea_0 1 rfl rfl)
theorem dX5_readSea_2 : decode cX5_readSea 2 = .ok (.invokevirtual 100, 3) := dc_182 (sg_at zd_dX5_readSea_0 2 rfl rfl) rfl
theorem dX5_readSea_5 : decode cX5_readSea 5 = .ok (.ifCond .ne 5, 3) := dc_154 (sg_at zd_dX5_readSea_0 3 rfl rfl) rfl
theorem dX5_readSea_8 : decode cX5_readSea 8 = .ok (.iconst 0, 1) := dc_3 (sg_at zd_dX5_readSea_0 4 rfl rfl)
theorem dX5_readSea_9 : decode cX5_readSea 9 = .ok (.ireturn, 1) := dc_172 (sg_at zd_dX5_readSea_0 5 rfl rfl)
theorem dX5_readSea_10 : decode cX5_readSea 10 = .ok (.aload_n 0, 1) := dc_42 (sg_at zd_dX5_readSea_0 6 rfl rfl)
theorem dX5_readSea_11 : decode cX5_readSea 11 = .ok (.getfield 41, 3) := dc_180 (sg_at zd_dX5_readSea_0 7 rfl rfl) rfl
theorem dX5_readSea_14 : decode cX5_readSea 14 = .ok (.ifCond .eq 9, 3) := dc_153 (sg_at zd_dX5_readSea_0 8 rfl rfl) rfl
theorem dX5_readSea_17 : decode cX5_readSea 17 = .ok (.aload_n 0, 1) := dc_42 (sg_at zd_dX5_readSea_0 9 rfl rfl)
theorem dX5_readSea_18 : decode cX5_readSea 18 = .ok (.iconst 4, 1) := dc_7 (sg_at zd_dX5_readSea_0 10 rfl rfl)
theorem dX5_readSea_19 : decode cX5_readSea 19 = .ok (.invokevirtual 89, 3) := dc_182 (sg_at zd_dX5_readSea_0 11 rfl rfl) rfl
theorem dX5_readSea_22 : decode cX5_readSea 22 = .ok (.ireturn, 1) := dc_172 (sg_at zd_dX5_readSea_0 12 rfl rfl)
theorem dX5_readSea_23 : decode cX5_readSea 23 = .ok (.aload_n 0, 1) := dc_42 (sg_at zd_dX5_readSea_0 13 rfl rfl)
theorem dX5_readSea_24 : decode cX5_readSea 24 = .ok (.iconst 1, 1) := dc_4 (sg_at zd_dX5_readSea_0 14 rfl rfl)
theorem dX5_readSea_25 : decode cX5_readSea 25 = .ok (.bipush 8, 2) := dc_16 (sg_at zd_dX5_readSea_0 15 rfl rfl) rfl
theorem dX5_readSea_27 : decode cX5_readSea 27 = .ok (.invokevirtual 103, 3) := dc_182 (sg_at zd_dX5_readSea_0 16 rfl rfl) rfl
theorem dX5_readSea_30 : decode cX5_readSea 30 = .ok (.istore_n 1, 1) := dc_60 (sg_at zd_dX5_readSea_0 17 rfl rfl)
theorem dX5_readSea_31 : decode cX5_readSea 31 = .ok (.iload_n 1, 1) := dc_27 (sg_at zd_dX5_readSea_0 18 rfl rfl)
theorem dX5_readSea_32 : decode cX5_readSea 32 = .ok (.iconst (-1), 1) := dc_2 (sg_at zd_dX5_readSea_0 19 rfl rfl)
theorem zd_dX5_readSea_33 : sg (cX5_readSea.data.toList.drop 33) [[160, 0, 7], [2], [167, 0, 10], [42], [4], [16, 6], [182, 0, 103], [61], [28], [2], [160, 0, 5], [3], [172], [42], [180, 0, 9], [27], [181, 0, 106], [42], [180, 0, 9], [28]] = true := by decide +kernel
theorem dX5_readSea_33 : decode cX5_readSea 33 = .ok (.if_icmp .ne 7, 3) := dc_160 (sg_at zd_dX5_readSea_33 0 rfl rfl) rfl
theorem dX5_readSea_36 : decode cX5_readSea 36 = .ok (.iconst (-1), 1) := dc_2 (sg_at zd_dX5_readSea_33 1 rfl rfl)
theorem dX5_readSea_37 : decode cX5_readSea 37 = .ok (.goto 10, 3) := dc_167 (sg_at zd_dX5_readSea_33 2 rfl rfl) rfl
theorem dX5_readSea_40 : decode cX5_readSea 40 = .ok (.aload_n 0, 1) := dc_42 (sg_at zd_dX5_readSea_33 3 rfl rfl)
theorem dX5_readSea_41 : decode cX5_readSea 41 = .ok (.iconst 1, 1) := dc_4 (sg_at zd_dX5_readSea_33 4 rfl rfl)
theorem dX5_readSea_42 : decode cX5_readSea 42 = .ok (.bipush 6, 2) := dc_16 (sg_at zd_dX5_readSea_33 5 rfl rfl) rfl
theorem dX5_readSea_44 : decode cX5_readSea 44 = .ok (.invokevirtual 103, 3) := dc_182 (sg_at zd_dX5_readSea_33 6 rfl rfl) rfl
theorem dX5_readSea_47 : decode cX5_readSea 47 = .ok (.istore_n 2, 1) := dc_61 (sg_at zd_dX5_readSea_33 7 rfl rfl)
theorem dX5_readSea_48 : decode cX5_readSea 48 = .ok (.iload_n 2, 1) := dc_28 (sg_at zd_dX5_readSea_33 8 rfl rfl)
theorem dX5_readSea_49 : decode cX5_readSea 49 = .ok (.iconst (-1), 1) := dc_2 (sg_at zd_dX5_readSea_33 9 rfl rfl)
theorem dX5_readSea_50 : decode cX5_readSea 50 = .ok (.if_icmp .ne 5, 3) := dc_160 (sg_at zd_dX5_readSea_33 10 rfl rfl) rfl
theorem dX5_readSea_53 : decode cX5_readSea 53 = .ok (.iconst 0, 1) := dc_3 (sg_at zd_dX5_readSea_33 11 rfl rfl)
theorem dX5_readSea_54 : decode cX5_readSea 54 = .ok (.ireturn, 1) := dc_172 (sg_at zd_dX5_readSea_33 12 rfl rfl)
theorem dX5_readSea_55 : decode cX5_readSea 55 = .ok (.aload_n 0, 1) := dc_42 (sg_at zd_dX5_readSea_33 13 rfl rfl)
theorem dX5_readSea_56 : decode cX5_readSea 56 = .ok (.getfield 9, 3) := dc_180 (sg_at zd_dX5_readSea_33 14 rfl rfl) rfl
theorem dX5_readSea_59 : decode cX5_readSea 59 = .ok (.iload_n 1, 1) := dc_27 (sg_at zd_dX5_readSea_33 15 rfl rfl)
theorem dX5_readSea_60 : decode cX5_readSea 60 = .ok (.putfield 106, 3) := dc_181 (sg_at zd_dX5_readSea_33 16 rfl rfl) rfl
theorem dX5_readSea_63 : decode cX5_readSea 63 = .ok (.aload_n 0, 1) := dc_42 (sg_at zd_dX5_readSea_33 17 rfl rfl)
theorem dX5_readSea_64 : decode cX5_readSea 64 = .ok (.getfield 9, 3) := dc_180 (sg_at zd_dX5_readSea_33 18 rfl rfl) rfl
theorem dX5_readSea_67 : decode cX5_readSea 67 = .ok (.iload_n 2, 1) := dc_28 (sg_at zd_dX5_readSea_33 19 rfl rfl)
theorem zd_dX5_readSea_68 : sg (cX5_readSea.data.toList.drop 68) [[181, 0, 109], [42], [182, 0, 112], [172]] = true := by decide +kernel
theorem dX5_readSea_68 : decode cX5_readSea 68 = .ok (.putfield 109, 3) := dc_181 (sg_at zd_dX5_readSea_68 0 rfl rfl) rfl
theorem dX5_readSea_71 : decode cX5_readSea 71 = .ok (.aload_n 0, 1) := dc_42 (sg_at zd_dX5_readSea_68 1 rfl rfl)
theorem dX5_readSea_72 : decode cX5_readSea 72 = .ok (.invokevirtual 112, 3) := dc_182 (sg_at zd_dX5_readSea_68 2 rfl rfl) rfl
theorem dX5_readSea_75 : decode cX5_readSea 75 = .ok (.ireturn, 1) := dc_172 (sg_at zd_dX5_readSea_68 3 rfl rfl)
theorem zd_dX5_readPeak_0 : sg (cX5_readPeak.data.toList.drop 0) [[42], [4], [182, 0, 100], [154, 0, 5], [3], [172], [42], [4], [181, 0, 41], [42], [3], [42], [180, 0, 9], [180, 0, 106], [4], [100], [182, 0, 103], [60], [27], [2]] = true := by decide +kernel
theorem dX5_readPeak_0 : decode cX5_readPeak 0 = .ok (.aload_n 0, 1) := dc_42 (sg_at zd_dX5_readPeak_0 0 rfl rfl)
theorem dX5_readPeak_1 : decode cX5_readPeak 1 = .ok (.iconst 1, 1) := dc_4 (sg_at zd_dX5_readPeak_0 1 rfl rfl)
theorem dX5_readPeak_2 : decode cX5_readPeak 2 = .ok (.invokevirtual 100, 3) := dc_182 (sg_at zd_dX5_readPeak_0 2 rfl rfl) rfl
theorem dX5_readPeak_5 : decode cX5_readPeak 5 = .ok (.ifCond .ne 5, 3) := dc_154 (sg_at zd_dX5_readPeak_0 3 rfl rfl) rfl
theorem dX5_readPeak_8 : decode cX5_readPeak 8 = .ok (.iconst 0, 1) := dc_3 (sg_at zd_dX5_readPeak_0 4 rfl rfl)
theorem dX5_readPeak_9 : decode cX5_readPeak 9 = .ok (.ireturn, 1) := dc_172 (sg_at zd_dX5_readPeak_0 5 rfl rfl)
theorem dX5_readPeak_10 : decode cX5_readPeak 10 = .ok (.aload_n 0, 1) := dc_42 (sg_at zd_dX5_readPeak_0 6 rfl rfl)
theorem dX5_readPeak_11 : decode cX5_readPeak 11 = .ok (.iconst 1, 1) := dc_4 (sg_at zd_dX5_readPeak_0 7 rfl rfl)
theorem dX5_readPeak_12 : decode cX5_readPeak 12 = .ok (.putfield 41, 3) := dc_181 (sg_at zd_dX5_readPeak_0 8 rfl rfl) rfl
theorem dX5_readPeak_15 : decode cX5_readPeak 15 = .ok (.aload_n 0, 1) := dc_42 (sg_at zd_dX5_readPeak_0 9 rfl rfl)
theorem dX5_readPeak_16 : decode cX5_readPeak 16 = .ok (.iconst 0, 1) := dc_3 (sg_at zd_dX5_readPeak_0 10 rfl rfl)
theorem dX5_readPeak_17 : decode cX5_readPeak 17 = .ok (.aload_n 0, 1) := dc_42 (sg_at zd_dX5_readPeak_0 11 rfl rfl)
theorem dX5_readPeak_18 : decode cX5_readPeak 18 = .ok (.getfield 9, 3) := dc_180 (sg_at zd_dX5_readPeak_0 12 rfl rfl) rfl
theorem dX5_readPeak_21 : decode cX5_readPeak 21 = .ok (.getfield 106, 3) := dc_180 (sg_at zd_dX5_readPeak_0 13 rfl rfl) rfl
theorem dX5_readPeak_24 : decode cX5_readPeak 24 = .ok (.iconst 1, 1) := dc_4 (sg_at zd_dX5_readPeak_0 14 rfl rfl)
theorem dX5_readPeak_25 : decode cX5_readPeak 25 = .ok (.isub, 1) := dc_100 (sg_at zd_dX5_readPeak_0 15 rfl rfl)
theorem dX5_readPeak_26 : decode cX5_readPeak 26 = .ok (.invokevirtual 103, 3) := dc_182 (sg_at zd_dX5_readPeak_0 16 rfl rfl) rfl
theorem dX5_readPeak_29 : decode cX5_readPeak 29 = .ok (.istore_n 1, 1) := dc_60 (sg_at zd_dX5_readPeak_0 17 rfl rfl)
theorem dX5_readPeak_30 : decode cX5_readPeak 30 = .ok (.iload_n 1, 1) := dc_27 (sg_at zd_dX5_readPeak_0 18 rfl rfl)
theorem dX5_readPeak_31 : decode cX5_readPeak 31 = .ok (.iconst (-1), 1) := dc_2 (sg_at zd_dX5_readPeak_0 19 rfl rfl)
theorem zd_dX5_readPeak_32 : sg (cX5_readPeak.data.toList.drop 32) [[160, 0, 7], [2], [167, 0, 17], [42], [3], [42], [180, 0, 9], [180, 0, 109], [4], [100], [182, 0, 103], [61], [28], [2], [160, 0, 5], [3], [172], [42], [180, 0, 9], [27]] = true := by decide +kernel
theorem dX5_readPeak_32 : decode cX5_readPeak 32 = .ok (.if_icmp .ne 7, 3) := dc_160 (sg_at zd_dX5_readPeak_32 0 rfl rfl) rfl
theorem dX5_readPeak_35 : decode cX5_readPeak 35 = .ok (.iconst (-1), 1) := dc_2 (sg_at zd_dX5_readPeak_32 1 rfl rfl)
theorem dX5_readPeak_36 : decode cX5_readPeak 36 = .ok (.goto 17, 3) := dc_167 (sg_at zd_dX5_readPeak_32 2 rfl rfl) rfl
theorem dX5_readPeak_39 : decode cX5_readPeak 39 = .ok (.aload_n 0, 1) := dc_42 (sg_at zd_dX5_readPeak_32 3 rfl rfl)
theorem dX5_readPeak_40 : decode cX5_readPeak 40 = .ok (.iconst 0, 1) := dc_3 (sg_at zd_dX5_readPeak_32 4 rfl rfl)
theorem dX5_readPeak_41 : decode cX5_readPeak 41 = .ok (.aload_n 0, 1) := dc_42 (sg_at zd_dX5_readPeak_32 5 rfl rfl)
theorem dX5_readPeak_42 : decode cX5_readPeak 42 = .ok (.getfield 9, 3) := dc_180 (sg_at zd_dX5_readPeak_32 6 rfl rfl) rfl
theorem dX5_readPeak_45 : decode cX5_readPeak 45 = .ok (.getfield 109, 3) := dc_180 (sg_at zd_dX5_readPeak_32 7 rfl rfl) rfl
theorem dX5_readPeak_48 : decode cX5_readPeak 48 = .ok (.iconst 1, 1) := dc_4 (sg_at zd_dX5_readPeak_32 8 rfl rfl)
theorem dX5_readPeak_49 : decode cX5_readPeak 49 = .ok (.isub, 1) := dc_100 (sg_at zd_dX5_readPeak_32 9 rfl rfl)
theorem dX5_readPeak_50 : decode cX5_readPeak 50 = .ok (.invokevirtual 103, 3) := dc_182 (sg_at zd_dX5_readPeak_32 10 rfl rfl) rfl
theorem dX5_readPeak_53 : decode cX5_readPeak 53 = .ok (.istore_n 2, 1) := dc_61 (sg_at zd_dX5_readPeak_32 11 rfl rfl)
theorem dX5_readPeak_54 : decode cX5_readPeak 54 = .ok (.iload_n 2, 1) := dc_28 (sg_at zd_dX5_readPeak_32 12 rfl rfl)
theorem dX5_readPeak_55 : decode cX5_readPeak 55 = .ok (.iconst (-1), 1) := dc_2 (sg_at zd_dX5_readPeak_32 13 rfl rfl)
theorem dX5_readPeak_56 : decode cX5_readPeak 56 = .ok (.if_icmp .ne 5, 3) := dc_160 (sg_at zd_dX5_readPeak_32 14 rfl rfl) rfl
theorem dX5_readPeak_59 : decode cX5_readPeak 59 = .ok (.iconst 0, 1) := dc_3 (sg_at zd_dX5_readPeak_32 15 rfl rfl)
theorem dX5_readPeak_60 : decode cX5_readPeak 60 = .ok (.ireturn, 1) := dc_172 (sg_at zd_dX5_readPeak_32 16 rfl rfl)
theorem dX5_readPeak_61 : decode cX5_readPeak 61 = .ok (.aload_n 0, 1) := dc_42 (sg_at zd_dX5_readPeak_32 17 rfl rfl)
theorem dX5_readPeak_62 : decode cX5_readPeak 62 = .ok (.getfield 9, 3) := dc_180 (sg_at zd_dX5_readPeak_32 18 rfl rfl) rfl
theorem dX5_readPeak_65 : decode cX5_readPeak 65 = .ok (.iload_n 1, 1) := dc_27 (sg_at zd_dX5_readPeak_32 19 rfl rfl)
theorem zd_dX5_readPeak_66 : sg (cX5_readPeak.data.toList.drop 66) [[181, 0, 115], [42], [180, 0, 9], [28], [181, 0, 118], [42], [182, 0, 112], [172]] = true := by decide +kernel
theorem dX5_readPeak_66 : decode cX5_readPeak 66 = .ok (.putfield 115, 3) := dc_181 (sg_at zd_dX5_readPeak_66 0 rfl rfl) rfl
theorem dX5_readPeak_69 : decode cX5_readPeak 69 = .ok (.aload_n 0, 1) := dc_42 (sg_at zd_dX5_readPeak_66 1 rfl rfl)
theorem dX5_readPeak_70 : decode cX5_readPeak 70 = .ok (.getfield 9, 3) := dc_180 (sg_at zd_dX5_readPeak_66 2 rfl rfl) rfl
theorem dX5_readPeak_73 : decode cX5_readPeak 73 = .ok (.iload_n 2, 1) := dc_28 (sg_at zd_dX5_readPeak_66 3 rfl rfl)
theorem dX5_readPeak_74 : decode cX5_readPeak 74 = .ok (.putfield 118, 3) := dc_181 (sg_at zd_dX5_readPeak_66 4 rfl rfl) rfl
theorem dX5_readPeak_77 : decode cX5_readPeak 77 = .ok (.aload_n 0, 1) := dc_42 (sg_at zd_dX5_readPeak_66 5 rfl rfl)
theorem dX5_readPeak_78 : decode cX5_readPeak 78 = .ok (.invokevirtual 112, 3) := dc_182 (sg_at zd_dX5_readPeak_66 6 rfl rfl) rfl
theorem dX5_readPeak_81 : decode cX5_readPeak 81 = .ok (.ireturn, 1) := dc_172 (sg_at zd_dX5_readPeak_66 7 rfl rfl)
theorem zd_dX5_readSurfer_0 : sg (cX5_readSurfer.data.toList.drop 0) [[42], [180, 0, 9], [180, 0, 121], [180, 0, 125], [8], [161, 0, 9], [42], [5], [182, 0, 89], [172], [42], [4], [181, 0, 41], [42], [180, 0, 18], [182, 0, 49], [42], [180, 0, 18], [180, 0, 52], [16, 24]] = true := by decide +kernel
theorem dX5_readSurfer_0 : decode cX5_readSurfer 0 = .ok (.aload_n 0, 1) := dc_42 (sg_at zd_dX5_readSurfer_0 0 rfl rfl)
theorem dX5_readSurfer_1 : decode cX5_readSurfer 1 = .ok (.getfield 9, 3) := dc_180 (sg_at zd_dX5_readSurfer_0 1 rfl rfl) rfl
theorem dX5_readSurfer_4 : decode cX5_readSurfer 4 = .ok (.getfield 121, 3) := dc_180 (sg_at zd_dX5_readSurfer_0 2 rfl rfl) rfl
theorem dX5_readSurfer_7 : decode cX5_readSurfer 7 = .ok (.getfield 125, 3) := dc_180 (sg_at zd_dX5_readSurfer_0 3 rfl rfl) rfl
theorem dX5_readSurfer_10 : decode cX5_readSurfer 10 = .ok (.iconst 5, 1) := dc_8 (sg_at zd_dX5_readSurfer_0 4 rfl rfl)
theorem dX5_readSurfer_11 : decode cX5_readSurfer 11 = .ok (.if_icmp .lt 9, 3) := dc_161 (sg_at zd_dX5_readSurfer_0 5 rfl rfl) rfl
theorem dX5_readSurfer_14 : decode cX5_readSurfer 14 = .ok (.aload_n 0, 1) := dc_42 (sg_at zd_dX5_readSurfer_0 6 rfl rfl)
theorem dX5_readSurfer_15 : decode cX5_readSurfer 15 = .ok (.iconst 2, 1) := dc_5 (sg_at zd_dX5_readSurfer_0 7 rfl rfl)
theorem dX5_readSurfer_16 : decode cX5_readSurfer 16 = .ok (.invokevirtual 89, 3) := dc_182 (sg_at zd_dX5_readSurfer_0 8 rfl rfl) rfl
theorem dX5_readSurfer_19 : decode cX5_readSurfer 19 = .ok (.ireturn, 1) := dc_172 (sg_at zd_dX5_readSurfer_0 9 rfl rfl)
theorem dX5_readSurfer_20 : decode cX5_readSurfer 20 = .ok (.aload_n 0, 1) := dc_42 (sg_at zd_dX5_readSurfer_0 10 rfl rfl)
theorem dX5_readSurfer_21 : decode cX5_readSurfer 21 = .ok (.iconst 1, 1) := dc_4 (sg_at zd_dX5_readSurfer_0 11 rfl rfl)
theorem dX5_readSurfer_22 : decode cX5_readSurfer 22 = .ok (.putfield 41, 3) := dc_181 (sg_at zd_dX5_readSurfer_0 12 rfl rfl) rfl
theorem dX5_readSurfer_25 : decode cX5_readSurfer 25 = .ok (.aload_n 0, 1) := dc_42 (sg_at zd_dX5_readSurfer_0 13 rfl rfl)
theorem dX5_readSurfer_26 : decode cX5_readSurfer 26 = .ok (.getfield 18, 3) := dc_180 (sg_at zd_dX5_readSurfer_0 14 rfl rfl) rfl
theorem dX5_readSurfer_29 : decode cX5_readSurfer 29 = .ok (.invokevirtual 49, 3) := dc_182 (sg_at zd_dX5_readSurfer_0 15 rfl rfl) rfl
theorem dX5_readSurfer_32 : decode cX5_readSurfer 32 = .ok (.aload_n 0, 1) := dc_42 (sg_at zd_dX5_readSurfer_0 16 rfl rfl)
theorem dX5_readSurfer_33 : decode cX5_readSurfer 33 = .ok (.getfield 18, 3) := dc_180 (sg_at zd_dX5_readSurfer_0 17 rfl rfl) rfl
theorem dX5_readSurfer_36 : decode cX5_readSurfer 36 = .ok (.getfield 52, 3) := dc_180 (sg_at zd_dX5_readSurfer_0 18 rfl rfl) rfl
theorem dX5_readSurfer_39 : decode cX5_readSurfer 39 = .ok (.bipush 24, 2) := dc_16 (sg_at zd_dX5_readSurfer_0 19 rfl rfl) rfl
theorem zd_dX5_readSurfer_41 : sg (cX5_readSurfer.data.toList.drop 41) [[159, 0, 9], [42], [4], [182, 0, 89], [172], [42], [180, 0, 9], [180, 0, 121], [42], [180, 0, 18], [180, 0, 97], [182, 0, 130], [153, 0, 9], [42], [6], [182, 0, 89], [172], [42], [180, 0, 18], [180, 0, 97]] = true := by decide +kernel
theorem dX5_readSurfer_41 : decode cX5_readSurfer 41 = .ok (.if_icmp .eq 9, 3) := dc_159 (sg_at zd_dX5_readSurfer_41 0 rfl rfl) rfl
theorem dX5_readSurfer_44 : decode cX5_readSurfer 44 = .ok (.aload_n 0, 1) := dc_42 (sg_at zd_dX5_readSurfer_41 1 rfl rfl)
theorem dX5_readSurfer_45 : decode cX5_readSurfer 45 = .ok (.iconst 1, 1) := dc_4 (sg_at zd_dX5_readSurfer_41 2 rfl rfl)
theorem dX5_readSurfer_46 : decode cX5_readSurfer 46 = .ok (.invokevirtual 89, 3) := dc_182 (sg_at zd_dX5_readSurfer_41 3 rfl rfl) rfl
theorem dX5_readSurfer_49 : decode cX5_readSurfer 49 = .ok (.ireturn, 1) := dc_172 (sg_at zd_dX5_readSurfer_41 4 rfl rfl)
theorem dX5_readSurfer_50 : decode cX5_readSurfer 50 = .ok (.aload_n 0, 1) := dc_42 (sg_at zd_dX5_readSurfer_41 5 rfl rfl)
theorem dX5_readSurfer_51 : decode cX5_readSurfer 51 = .ok (.getfield 9, 3) := dc_180 (sg_at zd_dX5_readSurfer_41 6 rfl rfl) rfl
theorem dX5_readSurfer_54 : decode cX5_readSurfer 54 = .ok (.getfield 121, 3) := dc_180 (sg_at zd_dX5_readSurfer_41 7 rfl rfl) rfl
theorem dX5_readSurfer_57 : decode cX5_readSurfer 57 = .ok (.aload_n 0, 1) := dc_42 (sg_at zd_dX5_readSurfer_41 8 rfl rfl)
theorem dX5_readSurfer_58 : decode cX5_readSurfer 58 = .ok (.getfield 18, 3) := dc_180 (sg_at zd_dX5_readSurfer_41 9 rfl rfl) rfl
theorem dX5_readSurfer_61 : decode cX5_readSurfer 61 = .ok (.getfield 97, 3) := dc_180 (sg_at zd_dX5_readSurfer_41 10 rfl rfl) rfl
theorem dX5_readSurfer_64 : decode cX5_readSurfer 64 = .ok (.invokevirtual 130, 3) := dc_182 (sg_at zd_dX5_readSurfer_41 11 rfl rfl) rfl
theorem dX5_readSurfer_67 : decode cX5_readSurfer 67 = .ok (.ifCond .eq 9, 3) := dc_153 (sg_at zd_dX5_readSurfer_41 12 rfl rfl) rfl
theorem dX5_readSurfer_70 : decode cX5_readSurfer 70 = .ok (.aload_n 0, 1) := dc_42 (sg_at zd_dX5_readSurfer_41 13 rfl rfl)
theorem dX5_readSurfer_71 : decode cX5_readSurfer 71 = .ok (.iconst 3, 1) := dc_6 (sg_at zd_dX5_readSurfer_41 14 rfl rfl)
theorem dX5_readSurfer_72 : decode cX5_readSurfer 72 = .ok (.invokevirtual 89, 3) := dc_182 (sg_at zd_dX5_readSurfer_41 15 rfl rfl) rfl
theorem dX5_readSurfer_75 : decode cX5_readSurfer 75 = .ok (.ireturn, 1) := dc_172 (sg_at zd_dX5_readSurfer_41 16 rfl rfl)
theorem dX5_readSurfer_76 : decode cX5_readSurfer 76 = .ok (.aload_n 0, 1) := dc_42 (sg_at zd_dX5_readSurfer_41 17 rfl rfl)
theorem dX5_readSurfer_77 : decode cX5_readSurfer 77 = .ok (.getfield 18, 3) := dc_180 (sg_at zd_dX5_readSurfer_41 18 rfl rfl) rfl
theorem dX5_readSurfer_80 : decode cX5_readSurfer 80 = .ok (.getfield 97, 3) := dc_180 (sg_at zd_dX5_readSurfer_41 19 rfl rfl) rfl
theorem zd_dX5_readSurfer_83 : sg (cX5_readSurfer.data.toList.drop 83) [[60], [42], [3], [42], [180, 0, 9], [180, 0, 106], [4], [100], [182, 0, 103], [61], [28], [2], [160, 0, 7], [2], [167, 0, 17], [42], [3], [42], [180, 0, 9], [180, 0, 109]] = true := by decide +kernel
theorem dX5_readSurfer_83 : decode cX5_readSurfer 83 = .ok (.istore_n 1, 1) := dc_60 (sg_at zd_dX5_readSurfer_83 0 rfl rfl)
theorem dX5_readSurfer_84 : decode cX5_readSurfer 84 = .ok (.aload_n 0, 1) := dc_42 (sg_at zd_dX5_readSurfer_83 1 rfl rfl)
theorem dX5_readSurfer_85 : decode cX5_readSurfer 85 = .ok (.iconst 0, 1) := dc_3 (sg_at zd_dX5_readSurfer_83 2 rfl rfl)
theorem dX5_readSurfer_86 : decode cX5_readSurfer 86 = .ok (.aload_n 0, 1) := dc_42 (sg_at zd_dX5_readSurfer_83 3 rfl rfl)
theorem dX5_readSurfer_87 : decode cX5_readSurfer 87 = .ok (.getfield 9, 3) := dc_180 (sg_at zd_dX5_readSurfer_83 4 rfl rfl) rfl
theorem dX5_readSurfer_90 : decode cX5_readSurfer 90 = .ok (.getfield 106, 3) := dc_180 (sg_at zd_dX5_readSurfer_83 5 rfl rfl) rfl
theorem dX5_readSurfer_93 : decode cX5_readSurfer 93 = .ok (.iconst 1, 1) := dc_4 (sg_at zd_dX5_readSurfer_83 6 rfl rfl)
theorem dX5_readSurfer_94 : decode cX5_readSurfer 94 = .ok (.isub, 1) := dc_100 (sg_at zd_dX5_readSurfer_83 7 rfl rfl)
theorem dX5_readSurfer_95 : decode cX5_readSurfer 95 = .ok (.invokevirtual 103, 3) := dc_182 (sg_at zd_dX5_readSurfer_83 8 rfl rfl) rfl
theorem dX5_readSurfer_98 : decode cX5_readSurfer 98 = .ok (.istore_n 2, 1) := dc_61 (sg_at zd_dX5_readSurfer_83 9 rfl rfl)
theorem dX5_readSurfer_99 : decode cX5_readSurfer 99 = .ok (.iload_n 2, 1) := dc_28 (sg_at zd_dX5_readSurfer_83 10 rfl rfl)
theorem dX5_readSurfer_100 : decode cX5_readSurfer 100 = .ok (.iconst (-1), 1) := dc_2 (sg_at zd_dX5_readSurfer_83 11 rfl rfl)
theorem dX5_readSurfer_101 : decode cX5_readSurfer 101 = .ok (.if_icmp .ne 7, 3) := dc_160 (sg_at zd_dX5_readSurfer_83 12 rfl rfl) rfl
theorem dX5_readSurfer_104 : decode cX5_readSurfer 104 = .ok (.iconst (-1), 1) := dc_2 (sg_at zd_dX5_readSurfer_83 13 rfl rfl)
theorem dX5_readSurfer_105 : decode cX5_readSurfer 105 = .ok (.goto 17, 3) := dc_167 (sg_at zd_dX5_readSurfer_83 14 rfl rfl) rfl
theorem dX5_readSurfer_108 : decode cX5_readSurfer 108 = .ok (.aload_n 0, 1) := dc_42 (sg_at zd_dX5_readSurfer_83 15 rfl rfl)
theorem dX5_readSurfer_109 : decode cX5_readSurfer 109 = .ok (.iconst 0, 1) := dc_3 (sg_at zd_dX5_readSurfer_83 16 rfl rfl)
theorem dX5_readSurfer_110 : decode cX5_readSurfer 110 = .ok (.aload_n 0, 1) := dc_42 (sg_at zd_dX5_readSurfer_83 17 rfl rfl)
theorem dX5_readSurfer_111 : decode cX5_readSurfer 111 = .ok (.getfield 9, 3) := dc_180 (sg_at zd_dX5_readSurfer_83 18 rfl rfl) rfl
theorem dX5_readSurfer_114 : decode cX5_readSurfer 114 = .ok (.getfield 109, 3) := dc_180 (sg_at zd_dX5_readSurfer_83 19 rfl rfl) rfl
theorem zd_dX5_readSurfer_117 : sg (cX5_readSurfer.data.toList.drop 117) [[4], [100], [182, 0, 103], [62], [29], [2], [160, 0, 7], [2], [167, 0, 10], [42], [4], [16, 9], [182, 0, 103], [54, 4], [21, 4], [2], [160, 0, 7], [2], [167, 0, 9], [42]] = true := by decide +kernel
theorem dX5_readSurfer_117 : decode cX5_readSurfer 117 = .ok (.iconst 1, 1) := dc_4 (sg_at zd_dX5_readSurfer_117 0 rfl rfl)
theorem dX5_readSurfer_118 : decode cX5_readSurfer 118 = .ok (.isub, 1) := dc_100 (sg_at zd_dX5_readSurfer_117 1 rfl rfl)
theorem dX5_readSurfer_119 : decode cX5_readSurfer 119 = .ok (.invokevirtual 103, 3) := dc_182 (sg_at zd_dX5_readSurfer_117 2 rfl rfl) rfl
theorem dX5_readSurfer_122 : decode cX5_readSurfer 122 = .ok (.istore_n 3, 1) := dc_62 (sg_at zd_dX5_readSurfer_117 3 rfl rfl)
theorem dX5_readSurfer_123 : decode cX5_readSurfer 123 = .ok (.iload_n 3, 1) := dc_29 (sg_at zd_dX5_readSurfer_117 4 rfl rfl)
theorem dX5_readSurfer_124 : decode cX5_readSurfer 124 = .ok (.iconst (-1), 1) := dc_2 (sg_at zd_dX5_readSurfer_117 5 rfl rfl)
theorem dX5_readSurfer_125 : decode cX5_readSurfer 125 = .ok (.if_icmp .ne 7, 3) := dc_160 (sg_at zd_dX5_readSurfer_117 6 rfl rfl) rfl
theorem dX5_readSurfer_128 : decode cX5_readSurfer 128 = .ok (.iconst (-1), 1) := dc_2 (sg_at zd_dX5_readSurfer_117 7 rfl rfl)
theorem dX5_readSurfer_129 : decode cX5_readSurfer 129 = .ok (.goto 10, 3) := dc_167 (sg_at zd_dX5_readSurfer_117 8 rfl rfl) rfl
theorem dX5_readSurfer_132 : decode cX5_readSurfer 132 = .ok (.aload_n 0, 1) := dc_42 (sg_at zd_dX5_readSurfer_117 9 rfl rfl)
theorem dX5_readSurfer_133 : decode cX5_readSurfer 133 = .ok (.iconst 1, 1) := dc_4 (sg_at zd_dX5_readSurfer_117 10 rfl rfl)
theorem dX5_readSurfer_134 : decode cX5_readSurfer 134 = .ok (.bipush 9, 2) := dc_16 (sg_at zd_dX5_readSurfer_117 11 rfl rfl) rfl
theorem dX5_readSurfer_136 : decode cX5_readSurfer 136 = .ok (.invokevirtual 103, 3) := dc_182 (sg_at zd_dX5_readSurfer_117 12 rfl rfl) rfl
theorem dX5_readSurfer_139 : decode cX5_readSurfer 139 = .ok (.istore 4, 2) := dc_54 (sg_at zd_dX5_readSurfer_117 13 rfl rfl)
theorem dX5_readSurfer_141 : decode cX5_readSurfer 141 = .ok (.iload 4, 2) := dc_21 (sg_at zd_dX5_readSurfer_117 14 rfl rfl)
theorem dX5_readSurfer_143 : decode cX5_readSurfer 143 = .ok (.iconst (-1), 1) := dc_2 (sg_at zd_dX5_readSurfer_117 15 rfl rfl)
theorem dX5_readSurfer_144 : decode cX5_readSurfer 144 = .ok (.if_icmp .ne 7, 3) := dc_160 (sg_at zd_dX5_readSurfer_117 16 rfl rfl) rfl
theorem dX5_readSurfer_147 : decode cX5_readSurfer 147 = .ok (.iconst (-1), 1) := dc_2 (sg_at zd_dX5_readSurfer_117 17 rfl rfl)
theorem dX5_readSurfer_148 : decode cX5_readSurfer 148 = .ok (.goto 9, 3) := dc_167 (sg_at zd_dX5_readSurfer_117 18 rfl rfl) rfl
theorem dX5_readSurfer_151 : decode cX5_readSurfer 151 = .ok (.aload_n 0, 1) := dc_42 (sg_at zd_dX5_readSurfer_117 19 rfl rfl)
theorem zd_dX5_readSurfer_152 : sg (cX5_readSurfer.data.toList.drop 152) [[4], [6], [182, 0, 103], [54, 5], [21, 5], [2], [160, 0, 7], [2], [167, 0, 10], [42], [3], [16, 100], [182, 0, 103], [54, 6], [21, 6], [2], [160, 0, 7], [2], [167, 0, 10], [42]] = true := by decide +kernel
theorem dX5_readSurfer_152 : decode cX5_readSurfer 152 = .ok (.iconst 1, 1) := dc_4 (sg_at zd_dX5_readSurfer_152 0 rfl rfl)
theorem dX5_readSurfer_153 : decode cX5_readSurfer 153 = .ok (.iconst 3, 1) := dc_6 (sg_at zd_dX5_readSurfer_152 1 rfl rfl)
theorem dX5_readSurfer_154 : decode cX5_readSurfer 154 = .ok (.invokevirtual 103, 3) := dc_182 (sg_at zd_dX5_readSurfer_152 2 rfl rfl) rfl
theorem dX5_readSurfer_157 : decode cX5_readSurfer 157 = .ok (.istore 5, 2) := dc_54 (sg_at zd_dX5_readSurfer_152 3 rfl rfl)
theorem dX5_readSurfer_159 : decode cX5_readSurfer 159 = .ok (.iload 5, 2) := dc_21 (sg_at zd_dX5_readSurfer_152 4 rfl rfl)
theorem dX5_readSurfer_161 : decode cX5_readSurfer 161 = .ok (.iconst (-1), 1) := dc_2 (sg_at zd_dX5_readSurfer_152 5 rfl rfl)
theorem dX5_readSurfer_162 : decode cX5_readSurfer 162 = .ok (.if_icmp .ne 7, 3) := dc_160 (sg_at zd_dX5_readSurfer_152 6 rfl rfl) rfl
theorem dX5_readSurfer_165 : decode cX5_readSurfer 165 = .ok (.iconst (-1), 1) := dc_2 (sg_at zd_dX5_readSurfer_152 7 rfl rfl)
theorem dX5_readSurfer_166 : decode cX5_readSurfer 166 = .ok (.goto 10, 3) := dc_167 (sg_at zd_dX5_readSurfer_152 8 rfl rfl) rfl
theorem dX5_readSurfer_169 : decode cX5_readSurfer 169 = .ok (.aload_n 0, 1) := dc_42 (sg_at zd_dX5_readSurfer_152 9 rfl rfl)
theorem dX5_readSurfer_170 : decode cX5_readSurfer 170 = .ok (.iconst 0, 1) := dc_3 (sg_at zd_dX5_readSurfer_152 10 rfl rfl)
theorem dX5_readSurfer_171 : decode cX5_readSurfer 171 = .ok (.bipush 100, 2) := dc_16 (sg_at zd_dX5_readSurfer_152 11 rfl rfl) rfl
theorem dX5_readSurfer_173 : decode cX5_readSurfer 173 = .ok (.invokevirtual 103, 3) := dc_182 (sg_at zd_dX5_readSurfer_152 12 rfl rfl) rfl
theorem dX5_readSurfer_176 : decode cX5_readSurfer 176 = .ok (.istore 6, 2) := dc_54 (sg_at zd_dX5_readSurfer_152 13 rfl rfl)
theorem dX5_readSurfer_178 : decode cX5_readSurfer 178 = .ok (.iload 6, 2) := dc_21 (sg_at zd_dX5_readSurfer_152 14 rfl rfl)
theorem dX5_readSurfer_180 : decode cX5_readSurfer 180 = .ok (.iconst (-1), 1) := dc_2 (sg_at zd_dX5_readSurfer_152 15 rfl rfl)
theorem dX5_readSurfer_181 : decode cX5_readSurfer 181 = .ok (.if_icmp .ne 7, 3) := dc_160 (sg_at zd_dX5_readSurfer_152 16 rfl rfl) rfl
theorem dX5_readSurfer_184 : decode cX5_readSurfer 184 = .ok (.iconst (-1), 1) := dc_2 (sg_at zd_dX5_readSurfer_152 17 rfl rfl)
theorem dX5_readSurfer_185 : decode cX5_readSurfer 185 = .ok (.goto 10, 3) := dc_167 (sg_at zd_dX5_readSurfer_152 18 rfl rfl) rfl
theorem dX5_readSurfer_188 : decode cX5_readSurfer 188 = .ok (.aload_n 0, 1) := dc_42 (sg_at zd_dX5_readSurfer_152 19 rfl rfl)
theorem zd_dX5_readSurfer_189 : sg (cX5_readSurfer.data.toList.drop 189) [[3], [16, 100], [182, 0, 103], [54, 7], [21, 7], [2], [160, 0, 5], [3], [172], [42], [180, 0, 9], [180, 0, 121], [27], [29], [42], [180, 0, 9], [180, 0, 106], [104], [28], [96]] = true := by decide +kernel
theorem dX5_readSurfer_189 : decode cX5_readSurfer 189 = .ok (.iconst 0, 1) := dc_3 (sg_at zd_dX5_readSurfer_189 0 rfl rfl)
theorem dX5_readSurfer_190 : decode cX5_readSurfer 190 = .ok (.bipush 100, 2) := dc_16 (sg_at zd_dX5_readSurfer_189 1 rfl rfl) rfl
theorem dX5_readSurfer_192 : decode cX5_readSurfer 192 = .ok (.invokevirtual 103, 3) := dc_182 (sg_at zd_dX5_readSurfer_189 2 rfl rfl) rfl
theorem dX5_readSurfer_195 : decode cX5_readSurfer 195 = .ok (.istore 7, 2) := dc_54 (sg_at zd_dX5_readSurfer_189 3 rfl rfl)
theorem dX5_readSurfer_197 : decode cX5_readSurfer 197 = .ok (.iload 7, 2) := dc_21 (sg_at zd_dX5_readSurfer_189 4 rfl rfl)
theorem dX5_readSurfer_199 : decode cX5_readSurfer 199 = .ok (.iconst (-1), 1) := dc_2 (sg_at zd_dX5_readSurfer_189 5 rfl rfl)
theorem dX5_readSurfer_200 : decode cX5_readSurfer 200 = .ok (.if_icmp .ne 5, 3) := dc_160 (sg_at zd_dX5_readSurfer_189 6 rfl rfl) rfl
theorem dX5_readSurfer_203 : decode cX5_readSurfer 203 = .ok (.iconst 0, 1) := dc_3 (sg_at zd_dX5_readSurfer_189 7 rfl rfl)
theorem dX5_readSurfer_204 : decode cX5_readSurfer 204 = .ok (.ireturn, 1) := dc_172 (sg_at zd_dX5_readSurfer_189 8 rfl rfl)
theorem dX5_readSurfer_205 : decode cX5_readSurfer 205 = .ok (.aload_n 0, 1) := dc_42 (sg_at zd_dX5_readSurfer_189 9 rfl rfl)
theorem dX5_readSurfer_206 : decode cX5_readSurfer 206 = .ok (.getfield 9, 3) := dc_180 (sg_at zd_dX5_readSurfer_189 10 rfl rfl) rfl
theorem dX5_readSurfer_209 : decode cX5_readSurfer 209 = .ok (.getfield 121, 3) := dc_180 (sg_at zd_dX5_readSurfer_189 11 rfl rfl) rfl
theorem dX5_readSurfer_212 : decode cX5_readSurfer 212 = .ok (.iload_n 1, 1) := dc_27 (sg_at zd_dX5_readSurfer_189 12 rfl rfl)
theorem dX5_readSurfer_213 : decode cX5_readSurfer 213 = .ok (.iload_n 3, 1) := dc_29 (sg_at zd_dX5_readSurfer_189 13 rfl rfl)
theorem dX5_readSurfer_214 : decode cX5_readSurfer 214 = .ok (.aload_n 0, 1) := dc_42 (sg_at zd_dX5_readSurfer_189 14 rfl rfl)
theorem dX5_readSurfer_215 : decode cX5_readSurfer 215 = .ok (.getfield 9, 3) := dc_180 (sg_at zd_dX5_readSurfer_189 15 rfl rfl) rfl
theorem dX5_readSurfer_218 : decode cX5_readSurfer 218 = .ok (.getfield 106, 3) := dc_180 (sg_at zd_dX5_readSurfer_189 16 rfl rfl) rfl
theorem dX5_readSurfer_221 : decode cX5_readSurfer 221 = .ok (.imul, 1) := dc_104 (sg_at zd_dX5_readSurfer_189 17 rfl rfl)
theorem dX5_readSurfer_222 : decode cX5_readSurfer 222 = .ok (.iload_n 2, 1) := dc_28 (sg_at zd_dX5_readSurfer_189 18 rfl rfl)
theorem dX5_readSurfer_223 : decode cX5_readSurfer 223 = .ok (.iadd, 1) := dc_96 (sg_at zd_dX5_readSurfer_189 19 rfl rfl)
theorem zd_dX5_readSurfer_224 : sg (cX5_readSurfer.data.toList.drop 224) [[21, 4], [21, 5], [21, 6], [21, 7], [182, 0, 133], [42], [182, 0, 112], [172]] = true := by decide +kernel
theorem dX5_readSurfer_224 : decode cX5_readSurfer 224 = .ok (.iload 4, 2) := dc_21 (sg_at zd_dX5_readSurfer_224 0 rfl rfl)
theorem dX5_readSurfer_226 : decode cX5_readSurfer 226 = .ok (.iload 5, 2) := dc_21 (sg_at zd_dX5_readSurfer_224 1 rfl rfl)
theorem dX5_readSurfer_228 : decode cX5_readSurfer 228 = .ok (.iload 6, 2) := dc_21 (sg_at zd_dX5_readSurfer_224 2 rfl rfl)
theorem dX5_readSurfer_230 : decode cX5_readSurfer 230 = .ok (.iload 7, 2) := dc_21 (sg_at zd_dX5_readSurfer_224 3 rfl rfl)
theorem dX5_readSurfer_232 : decode cX5_readSurfer 232 = .ok (.invokevirtual 133, 3) := dc_182 (sg_at zd_dX5_readSurfer_224 4 rfl rfl) rfl
theorem dX5_readSurfer_235 : decode cX5_readSurfer 235 = .ok (.aload_n 0, 1) := dc_42 (sg_at zd_dX5_readSurfer_224 5 rfl rfl)
theorem dX5_readSurfer_236 : decode cX5_readSurfer 236 = .ok (.invokevirtual 112, 3) := dc_182 (sg_at zd_dX5_readSurfer_224 6 rfl rfl) rfl
theorem dX5_readSurfer_239 : decode cX5_readSurfer 239 = .ok (.ireturn, 1) := dc_172 (sg_at zd_dX5_readSurfer_224 7 rfl rfl)
theorem zd_dX10_firstMinute_0 : sg (cX10_firstMinute.data.toList.drop 0) [[42], [180, 0, 18], [42], [180, 0, 9], [27], [46], [46], [172]] = true := by decide +kernel
theorem dX10_firstMinute_0 : decode cX10_firstMinute 0 = .ok (.aload_n 0, 1) := dc_42 (sg_at zd_dX10_firstMinute_0 0 rfl rfl)
theorem dX10_firstMinute_1 : decode cX10_firstMinute 1 = .ok (.getfield 18, 3) := dc_180 (sg_at zd_dX10_firstMinute_0 1 rfl rfl) rfl
theorem dX10_firstMinute_4 : decode cX10_firstMinute 4 = .ok (.aload_n 0, 1) := dc_42 (sg_at zd_dX10_firstMinute_0 2 rfl rfl)
theorem dX10_firstMinute_5 : decode cX10_firstMinute 5 = .ok (.getfield 9, 3) := dc_180 (sg_at zd_dX10_firstMinute_0 3 rfl rfl) rfl
theorem dX10_firstMinute_8 : decode cX10_firstMinute 8 = .ok (.iload_n 1, 1) := dc_27 (sg_at zd_dX10_firstMinute_0 4 rfl rfl)
theorem dX10_firstMinute_9 : decode cX10_firstMinute 9 = .ok (.iaload, 1) := dc_46 (sg_at zd_dX10_firstMinute_0 5 rfl rfl)
theorem dX10_firstMinute_10 : decode cX10_firstMinute 10 = .ok (.iaload, 1) := dc_46 (sg_at zd_dX10_firstMinute_0 6 rfl rfl)
theorem dX10_firstMinute_11 : decode cX10_firstMinute 11 = .ok (.ireturn, 1) := dc_172 (sg_at zd_dX10_firstMinute_0 7 rfl rfl)
theorem zd_dX10_lastMinute_0 : sg (cX10_lastMinute.data.toList.drop 0) [[42], [27], [182, 0, 37], [42], [180, 0, 15], [27], [46], [96], [4], [100], [172]] = true := by decide +kernel
theorem dX10_lastMinute_0 : decode cX10_lastMinute 0 = .ok (.aload_n 0, 1) := dc_42 (sg_at zd_dX10_lastMinute_0 0 rfl rfl)
theorem dX10_lastMinute_1 : decode cX10_lastMinute 1 = .ok (.iload_n 1, 1) := dc_27 (sg_at zd_dX10_lastMinute_0 1 rfl rfl)
theorem dX10_lastMinute_2 : decode cX10_lastMinute 2 = .ok (.invokevirtual 37, 3) := dc_182 (sg_at zd_dX10_lastMinute_0 2 rfl rfl) rfl
theorem dX10_lastMinute_5 : decode cX10_lastMinute 5 = .ok (.aload_n 0, 1) := dc_42 (sg_at zd_dX10_lastMinute_0 3 rfl rfl)
theorem dX10_lastMinute_6 : decode cX10_lastMinute 6 = .ok (.getfield 15, 3) := dc_180 (sg_at zd_dX10_lastMinute_0 4 rfl rfl) rfl
theorem dX10_lastMinute_9 : decode cX10_lastMinute 9 = .ok (.iload_n 1, 1) := dc_27 (sg_at zd_dX10_lastMinute_0 5 rfl rfl)
theorem dX10_lastMinute_10 : decode cX10_lastMinute 10 = .ok (.iaload, 1) := dc_46 (sg_at zd_dX10_lastMinute_0 6 rfl rfl)
theorem dX10_lastMinute_11 : decode cX10_lastMinute 11 = .ok (.iadd, 1) := dc_96 (sg_at zd_dX10_lastMinute_0 7 rfl rfl)
theorem dX10_lastMinute_12 : decode cX10_lastMinute 12 = .ok (.iconst 1, 1) := dc_4 (sg_at zd_dX10_lastMinute_0 8 rfl rfl)
theorem dX10_lastMinute_13 : decode cX10_lastMinute 13 = .ok (.isub, 1) := dc_100 (sg_at zd_dX10_lastMinute_0 9 rfl rfl)
theorem dX10_lastMinute_14 : decode cX10_lastMinute 14 = .ok (.ireturn, 1) := dc_172 (sg_at zd_dX10_lastMinute_0 10 rfl rfl)
theorem zd_dX10_beginSet_0 : sg (cX10_beginSet.data.toList.drop 0) [[42], [180, 0, 30], [7], [162, 0, 36], [42], [180, 0, 9], [42], [180, 0, 30], [42], [180, 0, 34], [79], [42], [180, 0, 15], [42], [180, 0, 30], [3], [79], [42], [89], [180, 0, 30]] = true := by decide +kernel
theorem dX10_beginSet_0 : decode cX10_beginSet 0 = .ok (.aload_n 0, 1) := dc_42 (sg_at zd_dX10_beginSet_0 0 rfl rfl)
theorem dX10_beginSet_1 : decode cX10_beginSet 1 = .ok (.getfield 30, 3) := dc_180 (sg_at zd_dX10_beginSet_0 1 rfl rfl) rfl
theorem dX10_beginSet_4 : decode cX10_beginSet 4 = .ok (.iconst 4, 1) := dc_7 (sg_at zd_dX10_beginSet_0 2 rfl rfl)
theorem dX10_beginSet_5 : decode cX10_beginSet 5 = .ok (.if_icmp .ge 36, 3) := dc_162 (sg_at zd_dX10_beginSet_0 3 rfl rfl) rfl
theorem dX10_beginSet_8 : decode cX10_beginSet 8 = .ok (.aload_n 0, 1) := dc_42 (sg_at zd_dX10_beginSet_0 4 rfl rfl)
theorem dX10_beginSet_9 : decode cX10_beginSet 9 = .ok (.getfield 9, 3) := dc_180 (sg_at zd_dX10_beginSet_0 5 rfl rfl) rfl
theorem dX10_beginSet_12 : decode cX10_beginSet 12 = .ok (.aload_n 0, 1) := dc_42 (sg_at zd_dX10_beginSet_0 6 rfl rfl)
theorem dX10_beginSet_13 : decode cX10_beginSet 13 = .ok (.getfield 30, 3) := dc_180 (sg_at zd_dX10_beginSet_0 7 rfl rfl) rfl
theorem dX10_beginSet_16 : decode cX10_beginSet 16 = .ok (.aload_n 0, 1) := dc_42 (sg_at zd_dX10_beginSet_0 8 rfl rfl)
theorem dX10_beginSet_17 : decode cX10_beginSet 17 = .ok (.getfield 34, 3) := dc_180 (sg_at zd_dX10_beginSet_0 9 rfl rfl) rfl
theorem dX10_beginSet_20 : decode cX10_beginSet 20 = .ok (.iastore, 1) := dc_79 (sg_at zd_dX10_beginSet_0 10 rfl rfl)
theorem dX10_beginSet_21 : decode cX10_beginSet 21 = .ok (.aload_n 0, 1) := dc_42 (sg_at zd_dX10_beginSet_0 11 rfl rfl)
theorem dX10_beginSet_22 : decode cX10_beginSet 22 = .ok (.getfield 15, 3) := dc_180 (sg_at zd_dX10_beginSet_0 12 rfl rfl) rfl
theorem dX10_beginSet_25 : decode cX10_beginSet 25 = .ok (.aload_n 0, 1) := dc_42 (sg_at zd_dX10_beginSet_0 13 rfl rfl)
theorem dX10_beginSet_26 : decode cX10_beginSet 26 = .ok (.getfield 30, 3) := dc_180 (sg_at zd_dX10_beginSet_0 14 rfl rfl) rfl
theorem dX10_beginSet_29 : decode cX10_beginSet 29 = .ok (.iconst 0, 1) := dc_3 (sg_at zd_dX10_beginSet_0 15 rfl rfl)
theorem dX10_beginSet_30 : decode cX10_beginSet 30 = .ok (.iastore, 1) := dc_79 (sg_at zd_dX10_beginSet_0 16 rfl rfl)
theorem dX10_beginSet_31 : decode cX10_beginSet 31 = .ok (.aload_n 0, 1) := dc_42 (sg_at zd_dX10_beginSet_0 17 rfl rfl)
theorem dX10_beginSet_32 : decode cX10_beginSet 32 = .ok (.dup, 1) := dc_89 (sg_at zd_dX10_beginSet_0 18 rfl rfl)
theorem dX10_beginSet_33 : decode cX10_beginSet 33 = .ok (.getfield 30, 3) := dc_180 (sg_at zd_dX10_beginSet_0 19 rfl rfl) rfl
theorem zd_dX10_beginSet_36 : sg (cX10_beginSet.data.toList.drop 36) [[4], [96], [181, 0, 30], [177]] = true := by decide +kernel
theorem dX10_beginSet_36 : decode cX10_beginSet 36 = .ok (.iconst 1, 1) := dc_4 (sg_at zd_dX10_beginSet_36 0 rfl rfl)
theorem dX10_beginSet_37 : decode cX10_beginSet 37 = .ok (.iadd, 1) := dc_96 (sg_at zd_dX10_beginSet_36 1 rfl rfl)
theorem dX10_beginSet_38 : decode cX10_beginSet 38 = .ok (.putfield 30, 3) := dc_181 (sg_at zd_dX10_beginSet_36 2 rfl rfl) rfl
theorem dX10_beginSet_41 : decode cX10_beginSet 41 = .ok (.return_, 1) := dc_177 (sg_at zd_dX10_beginSet_36 3 rfl rfl)
theorem zd_dX10_add_0 : sg (cX10_add.data.toList.drop 0) [[42], [180, 0, 34], [16, 28], [162, 0, 11], [42], [180, 0, 30], [4], [162, 0, 4], [177], [42], [180, 0, 15], [42], [180, 0, 30], [4], [100], [92], [46], [4], [96], [79]] = true := by decide +kernel
theorem dX10_add_0 : decode cX10_add 0 = .ok (.aload_n 0, 1) := dc_42 (sg_at zd_dX10_add_0 0 rfl rfl)
theorem dX10_add_1 : decode cX10_add 1 = .ok (.getfield 34, 3) := dc_180 (sg_at zd_dX10_add_0 1 rfl rfl) rfl
theorem dX10_add_4 : decode cX10_add 4 = .ok (.bipush 28, 2) := dc_16 (sg_at zd_dX10_add_0 2 rfl rfl) rfl
theorem dX10_add_6 : decode cX10_add 6 = .ok (.if_icmp .ge 11, 3) := dc_162 (sg_at zd_dX10_add_0 3 rfl rfl) rfl
theorem dX10_add_9 : decode cX10_add 9 = .ok (.aload_n 0, 1) := dc_42 (sg_at zd_dX10_add_0 4 rfl rfl)
theorem dX10_add_10 : decode cX10_add 10 = .ok (.getfield 30, 3) := dc_180 (sg_at zd_dX10_add_0 5 rfl rfl) rfl
theorem dX10_add_13 : decode cX10_add 13 = .ok (.iconst 1, 1) := dc_4 (sg_at zd_dX10_add_0 6 rfl rfl)
theorem dX10_add_14 : decode cX10_add 14 = .ok (.if_icmp .ge 4, 3) := dc_162 (sg_at zd_dX10_add_0 7 rfl rfl) rfl
theorem dX10_add_17 : decode cX10_add 17 = .ok (.return_, 1) := dc_177 (sg_at zd_dX10_add_0 8 rfl rfl)
theorem dX10_add_18 : decode cX10_add 18 = .ok (.aload_n 0, 1) := dc_42 (sg_at zd_dX10_add_0 9 rfl rfl)
theorem dX10_add_19 : decode cX10_add 19 = .ok (.getfield 15, 3) := dc_180 (sg_at zd_dX10_add_0 10 rfl rfl) rfl
theorem dX10_add_22 : decode cX10_add 22 = .ok (.aload_n 0, 1) := dc_42 (sg_at zd_dX10_add_0 11 rfl rfl)
theorem dX10_add_23 : decode cX10_add 23 = .ok (.getfield 30, 3) := dc_180 (sg_at zd_dX10_add_0 12 rfl rfl) rfl
theorem dX10_add_26 : decode cX10_add 26 = .ok (.iconst 1, 1) := dc_4 (sg_at zd_dX10_add_0 13 rfl rfl)
theorem dX10_add_27 : decode cX10_add 27 = .ok (.isub, 1) := dc_100 (sg_at zd_dX10_add_0 14 rfl rfl)
theorem dX10_add_28 : decode cX10_add 28 = .ok (.dup2, 1) := dc_92 (sg_at zd_dX10_add_0 15 rfl rfl)
theorem dX10_add_29 : decode cX10_add 29 = .ok (.iaload, 1) := dc_46 (sg_at zd_dX10_add_0 16 rfl rfl)
theorem dX10_add_30 : decode cX10_add 30 = .ok (.iconst 1, 1) := dc_4 (sg_at zd_dX10_add_0 17 rfl rfl)
theorem dX10_add_31 : decode cX10_add 31 = .ok (.iadd, 1) := dc_96 (sg_at zd_dX10_add_0 18 rfl rfl)
theorem dX10_add_32 : decode cX10_add 32 = .ok (.iastore, 1) := dc_79 (sg_at zd_dX10_add_0 19 rfl rfl)
theorem zd_dX10_add_33 : sg (cX10_add.data.toList.drop 33) [[42], [180, 0, 18], [42], [180, 0, 34], [27], [79], [42], [180, 0, 21], [42], [180, 0, 34], [28], [79], [42], [180, 0, 24], [42], [180, 0, 34], [42], [180, 0, 30], [4], [100]] = true := by decide +kernel
theorem dX10_add_33 : decode cX10_add 33 = .ok (.aload_n 0, 1) := dc_42 (sg_at zd_dX10_add_33 0 rfl rfl)
theorem dX10_add_34 : decode cX10_add 34 = .ok (.getfield 18, 3) := dc_180 (sg_at zd_dX10_add_33 1 rfl rfl) rfl
theorem dX10_add_37 : decode cX10_add 37 = .ok (.aload_n 0, 1) := dc_42 (sg_at zd_dX10_add_33 2 rfl rfl)
theorem dX10_add_38 : decode cX10_add 38 = .ok (.getfield 34, 3) := dc_180 (sg_at zd_dX10_add_33 3 rfl rfl) rfl
theorem dX10_add_41 : decode cX10_add 41 = .ok (.iload_n 1, 1) := dc_27 (sg_at zd_dX10_add_33 4 rfl rfl)
theorem dX10_add_42 : decode cX10_add 42 = .ok (.iastore, 1) := dc_79 (sg_at zd_dX10_add_33 5 rfl rfl)
theorem dX10_add_43 : decode cX10_add 43 = .ok (.aload_n 0, 1) := dc_42 (sg_at zd_dX10_add_33 6 rfl rfl)
theorem dX10_add_44 : decode cX10_add 44 = .ok (.getfield 21, 3) := dc_180 (sg_at zd_dX10_add_33 7 rfl rfl) rfl
theorem dX10_add_47 : decode cX10_add 47 = .ok (.aload_n 0, 1) := dc_42 (sg_at zd_dX10_add_33 8 rfl rfl)
theorem dX10_add_48 : decode cX10_add 48 = .ok (.getfield 34, 3) := dc_180 (sg_at zd_dX10_add_33 9 rfl rfl) rfl
theorem dX10_add_51 : decode cX10_add 51 = .ok (.iload_n 2, 1) := dc_28 (sg_at zd_dX10_add_33 10 rfl rfl)
theorem dX10_add_52 : decode cX10_add 52 = .ok (.iastore, 1) := dc_79 (sg_at zd_dX10_add_33 11 rfl rfl)
theorem dX10_add_53 : decode cX10_add 53 = .ok (.aload_n 0, 1) := dc_42 (sg_at zd_dX10_add_33 12 rfl rfl)
theorem dX10_add_54 : decode cX10_add 54 = .ok (.getfield 24, 3) := dc_180 (sg_at zd_dX10_add_33 13 rfl rfl) rfl
theorem dX10_add_57 : decode cX10_add 57 = .ok (.aload_n 0, 1) := dc_42 (sg_at zd_dX10_add_33 14 rfl rfl)
theorem dX10_add_58 : decode cX10_add 58 = .ok (.getfield 34, 3) := dc_180 (sg_at zd_dX10_add_33 15 rfl rfl) rfl
theorem dX10_add_61 : decode cX10_add 61 = .ok (.aload_n 0, 1) := dc_42 (sg_at zd_dX10_add_33 16 rfl rfl)
theorem dX10_add_62 : decode cX10_add 62 = .ok (.getfield 30, 3) := dc_180 (sg_at zd_dX10_add_33 17 rfl rfl) rfl
theorem dX10_add_65 : decode cX10_add 65 = .ok (.iconst 1, 1) := dc_4 (sg_at zd_dX10_add_33 18 rfl rfl)
theorem dX10_add_66 : decode cX10_add 66 = .ok (.isub, 1) := dc_100 (sg_at zd_dX10_add_33 19 rfl rfl)
theorem zd_dX10_add_67 : sg (cX10_add.data.toList.drop 67) [[79], [42], [180, 0, 27], [42], [180, 0, 34], [42], [180, 0, 15], [42], [180, 0, 30], [4], [100], [46], [79], [42], [89], [180, 0, 34], [4], [96], [181, 0, 34], [177]] = true := by decide +kernel
theorem dX10_add_67 : decode cX10_add 67 = .ok (.iastore, 1) := dc_79 (sg_at zd_dX10_add_67 0 rfl rfl)
theorem dX10_add_68 : decode cX10_add 68 = .ok (.aload_n 0, 1) := dc_42 (sg_at zd_dX10_add_67 1 rfl rfl)
theorem dX10_add_69 : decode cX10_add 69 = .ok (.getfield 27, 3) := dc_180 (sg_at zd_dX10_add_67 2 rfl rfl) rfl
theorem dX10_add_72 : decode cX10_add 72 = .ok (.aload_n 0, 1) := dc_42 (sg_at zd_dX10_add_67 3 rfl rfl)
theorem dX10_add_73 : decode cX10_add 73 = .ok (.getfield 34, 3) := dc_180 (sg_at zd_dX10_add_67 4 rfl rfl) rfl
theorem dX10_add_76 : decode cX10_add 76 = .ok (.aload_n 0, 1) := dc_42 (sg_at zd_dX10_add_67 5 rfl rfl)
theorem dX10_add_77 : decode cX10_add 77 = .ok (.getfield 15, 3) := dc_180 (sg_at zd_dX10_add_67 6 rfl rfl) rfl
theorem dX10_add_80 : decode cX10_add 80 = .ok (.aload_n 0, 1) := dc_42 (sg_at zd_dX10_add_67 7 rfl rfl)
theorem dX10_add_81 : decode cX10_add 81 = .ok (.getfield 30, 3) := dc_180 (sg_at zd_dX10_add_67 8 rfl rfl) rfl
theorem dX10_add_84 : decode cX10_add 84 = .ok (.iconst 1, 1) := dc_4 (sg_at zd_dX10_add_67 9 rfl rfl)
theorem dX10_add_85 : decode cX10_add 85 = .ok (.isub, 1) := dc_100 (sg_at zd_dX10_add_67 10 rfl rfl)
theorem dX10_add_86 : decode cX10_add 86 = .ok (.iaload, 1) := dc_46 (sg_at zd_dX10_add_67 11 rfl rfl)
theorem dX10_add_87 : decode cX10_add 87 = .ok (.iastore, 1) := dc_79 (sg_at zd_dX10_add_67 12 rfl rfl)
theorem dX10_add_88 : decode cX10_add 88 = .ok (.aload_n 0, 1) := dc_42 (sg_at zd_dX10_add_67 13 rfl rfl)
theorem dX10_add_89 : decode cX10_add 89 = .ok (.dup, 1) := dc_89 (sg_at zd_dX10_add_67 14 rfl rfl)
theorem dX10_add_90 : decode cX10_add 90 = .ok (.getfield 34, 3) := dc_180 (sg_at zd_dX10_add_67 15 rfl rfl) rfl
theorem dX10_add_93 : decode cX10_add 93 = .ok (.iconst 1, 1) := dc_4 (sg_at zd_dX10_add_67 16 rfl rfl)
theorem dX10_add_94 : decode cX10_add 94 = .ok (.iadd, 1) := dc_96 (sg_at zd_dX10_add_67 17 rfl rfl)
theorem dX10_add_95 : decode cX10_add 95 = .ok (.putfield 34, 3) := dc_181 (sg_at zd_dX10_add_67 18 rfl rfl) rfl
theorem dX10_add_98 : decode cX10_add 98 = .ok (.return_, 1) := dc_177 (sg_at zd_dX10_add_67 19 rfl rfl)
theorem zd_dX5_readSet_0 : sg (cX5_readSet.data.toList.drop 0) [[42], [180, 0, 9], [180, 0, 137], [76], [43], [180, 0, 141], [7], [161, 0, 9], [42], [5], [182, 0, 89], [172], [42], [3], [16, 99], [182, 0, 103], [61], [28], [2], [160, 0, 5]] = true := by decide +kernel
theorem dX5_readSet_0 : decode cX5_readSet 0 = .ok (.aload_n 0, 1) := dc_42 (sg_at zd_dX5_readSet_0 0 rfl rfl)
theorem dX5_readSet_1 : decode cX5_readSet 1 = .ok (.getfield 9, 3) := dc_180 (sg_at zd_dX5_readSet_0 1 rfl rfl) rfl
theorem dX5_readSet_4 : decode cX5_readSet 4 = .ok (.getfield 137, 3) := dc_180 (sg_at zd_dX5_readSet_0 2 rfl rfl) rfl
theorem dX5_readSet_7 : decode cX5_readSet 7 = .ok (.astore_n 1, 1) := dc_76 (sg_at zd_dX5_readSet_0 3 rfl rfl)
theorem dX5_readSet_8 : decode cX5_readSet 8 = .ok (.aload_n 1, 1) := dc_43 (sg_at zd_dX5_readSet_0 4 rfl rfl)
theorem dX5_readSet_9 : decode cX5_readSet 9 = .ok (.getfield 141, 3) := dc_180 (sg_at zd_dX5_readSet_0 5 rfl rfl) rfl
theorem dX5_readSet_12 : decode cX5_readSet 12 = .ok (.iconst 4, 1) := dc_7 (sg_at zd_dX5_readSet_0 6 rfl rfl)
theorem dX5_readSet_13 : decode cX5_readSet 13 = .ok (.if_icmp .lt 9, 3) := dc_161 (sg_at zd_dX5_readSet_0 7 rfl rfl) rfl
theorem dX5_readSet_16 : decode cX5_readSet 16 = .ok (.aload_n 0, 1) := dc_42 (sg_at zd_dX5_readSet_0 8 rfl rfl)
theorem dX5_readSet_17 : decode cX5_readSet 17 = .ok (.iconst 2, 1) := dc_5 (sg_at zd_dX5_readSet_0 9 rfl rfl)
theorem dX5_readSet_18 : decode cX5_readSet 18 = .ok (.invokevirtual 89, 3) := dc_182 (sg_at zd_dX5_readSet_0 10 rfl rfl) rfl
theorem dX5_readSet_21 : decode cX5_readSet 21 = .ok (.ireturn, 1) := dc_172 (sg_at zd_dX5_readSet_0 11 rfl rfl)
theorem dX5_readSet_22 : decode cX5_readSet 22 = .ok (.aload_n 0, 1) := dc_42 (sg_at zd_dX5_readSet_0 12 rfl rfl)
theorem dX5_readSet_23 : decode cX5_readSet 23 = .ok (.iconst 0, 1) := dc_3 (sg_at zd_dX5_readSet_0 13 rfl rfl)
theorem dX5_readSet_24 : decode cX5_readSet 24 = .ok (.bipush 99, 2) := dc_16 (sg_at zd_dX5_readSet_0 14 rfl rfl) rfl
theorem dX5_readSet_26 : decode cX5_readSet 26 = .ok (.invokevirtual 103, 3) := dc_182 (sg_at zd_dX5_readSet_0 15 rfl rfl) rfl
theorem dX5_readSet_29 : decode cX5_readSet 29 = .ok (.istore_n 2, 1) := dc_61 (sg_at zd_dX5_readSet_0 16 rfl rfl)
theorem dX5_readSet_30 : decode cX5_readSet 30 = .ok (.iload_n 2, 1) := dc_28 (sg_at zd_dX5_readSet_0 17 rfl rfl)
theorem dX5_readSet_31 : decode cX5_readSet 31 = .ok (.iconst (-1), 1) := dc_2 (sg_at zd_dX5_readSet_0 18 rfl rfl)
theorem dX5_readSet_32 : decode cX5_readSet 32 = .ok (.if_icmp .ne 5, 3) := dc_160 (sg_at zd_dX5_readSet_0 19 rfl rfl) rfl
theorem zd_dX5_readSet_35 : sg (cX5_readSet.data.toList.drop 35) [[3], [172], [43], [180, 0, 141], [158, 0, 23], [28], [43], [43], [180, 0, 141], [4], [100], [182, 0, 146], [163, 0, 9], [42], [8], [182, 0, 89], [172], [43], [182, 0, 150], [3]] = true := by decide +kernel
theorem dX5_readSet_35 : decode cX5_readSet 35 = .ok (.iconst 0, 1) := dc_3 (sg_at zd_dX5_readSet_35 0 rfl rfl)
theorem dX5_readSet_36 : decode cX5_readSet 36 = .ok (.ireturn, 1) := dc_172 (sg_at zd_dX5_readSet_35 1 rfl rfl)
theorem dX5_readSet_37 : decode cX5_readSet 37 = .ok (.aload_n 1, 1) := dc_43 (sg_at zd_dX5_readSet_35 2 rfl rfl)
theorem dX5_readSet_38 : decode cX5_readSet 38 = .ok (.getfield 141, 3) := dc_180 (sg_at zd_dX5_readSet_35 3 rfl rfl) rfl
theorem dX5_readSet_41 : decode cX5_readSet 41 = .ok (.ifCond .le 23, 3) := dc_158 (sg_at zd_dX5_readSet_35 4 rfl rfl) rfl
theorem dX5_readSet_44 : decode cX5_readSet 44 = .ok (.iload_n 2, 1) := dc_28 (sg_at zd_dX5_readSet_35 5 rfl rfl)
theorem dX5_readSet_45 : decode cX5_readSet 45 = .ok (.aload_n 1, 1) := dc_43 (sg_at zd_dX5_readSet_35 6 rfl rfl)
theorem dX5_readSet_46 : decode cX5_readSet 46 = .ok (.aload_n 1, 1) := dc_43 (sg_at zd_dX5_readSet_35 7 rfl rfl)
theorem dX5_readSet_47 : decode cX5_readSet 47 = .ok (.getfield 141, 3) := dc_180 (sg_at zd_dX5_readSet_35 8 rfl rfl) rfl
theorem dX5_readSet_50 : decode cX5_readSet 50 = .ok (.iconst 1, 1) := dc_4 (sg_at zd_dX5_readSet_35 9 rfl rfl)
theorem dX5_readSet_51 : decode cX5_readSet 51 = .ok (.isub, 1) := dc_100 (sg_at zd_dX5_readSet_35 10 rfl rfl)
theorem dX5_readSet_52 : decode cX5_readSet 52 = .ok (.invokevirtual 146, 3) := dc_182 (sg_at zd_dX5_readSet_35 11 rfl rfl) rfl
theorem dX5_readSet_55 : decode cX5_readSet 55 = .ok (.if_icmp .gt 9, 3) := dc_163 (sg_at zd_dX5_readSet_35 12 rfl rfl) rfl
theorem dX5_readSet_58 : decode cX5_readSet 58 = .ok (.aload_n 0, 1) := dc_42 (sg_at zd_dX5_readSet_35 13 rfl rfl)
theorem dX5_readSet_59 : decode cX5_readSet 59 = .ok (.iconst 5, 1) := dc_8 (sg_at zd_dX5_readSet_35 14 rfl rfl)
theorem dX5_readSet_60 : decode cX5_readSet 60 = .ok (.invokevirtual 89, 3) := dc_182 (sg_at zd_dX5_readSet_35 15 rfl rfl) rfl
theorem dX5_readSet_63 : decode cX5_readSet 63 = .ok (.ireturn, 1) := dc_172 (sg_at zd_dX5_readSet_35 16 rfl rfl)
theorem dX5_readSet_64 : decode cX5_readSet 64 = .ok (.aload_n 1, 1) := dc_43 (sg_at zd_dX5_readSet_35 17 rfl rfl)
theorem dX5_readSet_65 : decode cX5_readSet 65 = .ok (.invokevirtual 150, 3) := dc_182 (sg_at zd_dX5_readSet_35 18 rfl rfl) rfl
theorem dX5_readSet_68 : decode cX5_readSet 68 = .ok (.iconst 0, 1) := dc_3 (sg_at zd_dX5_readSet_35 19 rfl rfl)
theorem zd_dX5_readSet_69 : sg (cX5_readSet.data.toList.drop 69) [[62], [29], [16, 7], [163, 0, 72], [42], [180, 0, 18], [182, 0, 49], [29], [158, 0, 17], [42], [180, 0, 18], [180, 0, 52], [16, 38], [160, 0, 5], [4], [172], [42], [4], [16, 9], [182, 0, 93]] = true := by decide +kernel
theorem dX5_readSet_69 : decode cX5_readSet 69 = .ok (.istore_n 3, 1) := dc_62 (sg_at zd_dX5_readSet_69 0 rfl rfl)
theorem dX5_readSet_70 : decode cX5_readSet 70 = .ok (.iload_n 3, 1) := dc_29 (sg_at zd_dX5_readSet_69 1 rfl rfl)
theorem dX5_readSet_71 : decode cX5_readSet 71 = .ok (.bipush 7, 2) := dc_16 (sg_at zd_dX5_readSet_69 2 rfl rfl) rfl
theorem dX5_readSet_73 : decode cX5_readSet 73 = .ok (.if_icmp .gt 72, 3) := dc_163 (sg_at zd_dX5_readSet_69 3 rfl rfl) rfl
theorem dX5_readSet_76 : decode cX5_readSet 76 = .ok (.aload_n 0, 1) := dc_42 (sg_at zd_dX5_readSet_69 4 rfl rfl)
theorem dX5_readSet_77 : decode cX5_readSet 77 = .ok (.getfield 18, 3) := dc_180 (sg_at zd_dX5_readSet_69 5 rfl rfl) rfl
theorem dX5_readSet_80 : decode cX5_readSet 80 = .ok (.invokevirtual 49, 3) := dc_182 (sg_at zd_dX5_readSet_69 6 rfl rfl) rfl
theorem dX5_readSet_83 : decode cX5_readSet 83 = .ok (.iload_n 3, 1) := dc_29 (sg_at zd_dX5_readSet_69 7 rfl rfl)
theorem dX5_readSet_84 : decode cX5_readSet 84 = .ok (.ifCond .le 17, 3) := dc_158 (sg_at zd_dX5_readSet_69 8 rfl rfl) rfl
theorem dX5_readSet_87 : decode cX5_readSet 87 = .ok (.aload_n 0, 1) := dc_42 (sg_at zd_dX5_readSet_69 9 rfl rfl)
theorem dX5_readSet_88 : decode cX5_readSet 88 = .ok (.getfield 18, 3) := dc_180 (sg_at zd_dX5_readSet_69 10 rfl rfl) rfl
theorem dX5_readSet_91 : decode cX5_readSet 91 = .ok (.getfield 52, 3) := dc_180 (sg_at zd_dX5_readSet_69 11 rfl rfl) rfl
theorem dX5_readSet_94 : decode cX5_readSet 94 = .ok (.bipush 38, 2) := dc_16 (sg_at zd_dX5_readSet_69 12 rfl rfl) rfl
theorem dX5_readSet_96 : decode cX5_readSet 96 = .ok (.if_icmp .ne 5, 3) := dc_160 (sg_at zd_dX5_readSet_69 13 rfl rfl) rfl
theorem dX5_readSet_99 : decode cX5_readSet 99 = .ok (.iconst 1, 1) := dc_4 (sg_at zd_dX5_readSet_69 14 rfl rfl)
theorem dX5_readSet_100 : decode cX5_readSet 100 = .ok (.ireturn, 1) := dc_172 (sg_at zd_dX5_readSet_69 15 rfl rfl)
theorem dX5_readSet_101 : decode cX5_readSet 101 = .ok (.aload_n 0, 1) := dc_42 (sg_at zd_dX5_readSet_69 16 rfl rfl)
theorem dX5_readSet_102 : decode cX5_readSet 102 = .ok (.iconst 1, 1) := dc_4 (sg_at zd_dX5_readSet_69 17 rfl rfl)
theorem dX5_readSet_103 : decode cX5_readSet 103 = .ok (.bipush 9, 2) := dc_16 (sg_at zd_dX5_readSet_69 18 rfl rfl) rfl
theorem dX5_readSet_105 : decode cX5_readSet 105 = .ok (.invokevirtual 93, 3) := dc_182 (sg_at zd_dX5_readSet_69 19 rfl rfl) rfl
theorem zd_dX5_readSet_108 : sg (cX5_readSet.data.toList.drop 108) [[54, 4], [21, 4], [2], [160, 0, 5], [3], [172], [29], [16, 7], [160, 0, 9], [42], [5], [182, 0, 89], [172], [43], [28], [29], [96], [21, 4], [182, 0, 153], [132, 3, 1]] = true := by decide +kernel
theorem dX5_readSet_108 : decode cX5_readSet 108 = .ok (.istore 4, 2) := dc_54 (sg_at zd_dX5_readSet_108 0 rfl rfl)
theorem dX5_readSet_110 : decode cX5_readSet 110 = .ok (.iload 4, 2) := dc_21 (sg_at zd_dX5_readSet_108 1 rfl rfl)
theorem dX5_readSet_112 : decode cX5_readSet 112 = .ok (.iconst (-1), 1) := dc_2 (sg_at zd_dX5_readSet_108 2 rfl rfl)
theorem dX5_readSet_113 : decode cX5_readSet 113 = .ok (.if_icmp .ne 5, 3) := dc_160 (sg_at zd_dX5_readSet_108 3 rfl rfl) rfl
theorem dX5_readSet_116 : decode cX5_readSet 116 = .ok (.iconst 0, 1) := dc_3 (sg_at zd_dX5_readSet_108 4 rfl rfl)
theorem dX5_readSet_117 : decode cX5_readSet 117 = .ok (.ireturn, 1) := dc_172 (sg_at zd_dX5_readSet_108 5 rfl rfl)
theorem dX5_readSet_118 : decode cX5_readSet 118 = .ok (.iload_n 3, 1) := dc_29 (sg_at zd_dX5_readSet_108 6 rfl rfl)
theorem dX5_readSet_119 : decode cX5_readSet 119 = .ok (.bipush 7, 2) := dc_16 (sg_at zd_dX5_readSet_108 7 rfl rfl) rfl
theorem dX5_readSet_121 : decode cX5_readSet 121 = .ok (.if_icmp .ne 9, 3) := dc_160 (sg_at zd_dX5_readSet_108 8 rfl rfl) rfl
theorem dX5_readSet_124 : decode cX5_readSet 124 = .ok (.aload_n 0, 1) := dc_42 (sg_at zd_dX5_readSet_108 9 rfl rfl)
theorem dX5_readSet_125 : decode cX5_readSet 125 = .ok (.iconst 2, 1) := dc_5 (sg_at zd_dX5_readSet_108 10 rfl rfl)
theorem dX5_readSet_126 : decode cX5_readSet 126 = .ok (.invokevirtual 89, 3) := dc_182 (sg_at zd_dX5_readSet_108 11 rfl rfl) rfl
theorem dX5_readSet_129 : decode cX5_readSet 129 = .ok (.ireturn, 1) := dc_172 (sg_at zd_dX5_readSet_108 12 rfl rfl)
theorem dX5_readSet_130 : decode cX5_readSet 130 = .ok (.aload_n 1, 1) := dc_43 (sg_at zd_dX5_readSet_108 13 rfl rfl)
theorem dX5_readSet_131 : decode cX5_readSet 131 = .ok (.iload_n 2, 1) := dc_28 (sg_at zd_dX5_readSet_108 14 rfl rfl)
theorem dX5_readSet_132 : decode cX5_readSet 132 = .ok (.iload_n 3, 1) := dc_29 (sg_at zd_dX5_readSet_108 15 rfl rfl)
theorem dX5_readSet_133 : decode cX5_readSet 133 = .ok (.iadd, 1) := dc_96 (sg_at zd_dX5_readSet_108 16 rfl rfl)
theorem dX5_readSet_134 : decode cX5_readSet 134 = .ok (.iload 4, 2) := dc_21 (sg_at zd_dX5_readSet_108 17 rfl rfl)
theorem dX5_readSet_136 : decode cX5_readSet 136 = .ok (.invokevirtual 153, 3) := dc_182 (sg_at zd_dX5_readSet_108 18 rfl rfl) rfl
theorem dX5_readSet_139 : decode cX5_readSet 139 = .ok (.iinc 3 1, 3) := dc_132 (sg_at zd_dX5_readSet_108 19 rfl rfl) rfl
theorem zd_dX5_readSet_142 : sg (cX5_readSet.data.toList.drop 142) [[167, 255, 184], [3], [172]] = true := by decide +kernel
theorem dX5_readSet_142 : decode cX5_readSet 142 = .ok (.goto (-72), 3) := dc_167 (sg_at zd_dX5_readSet_142 0 rfl rfl) rfl
theorem dX5_readSet_145 : decode cX5_readSet 145 = .ok (.iconst 0, 1) := dc_3 (sg_at zd_dX5_readSet_142 1 rfl rfl)
theorem dX5_readSet_146 : decode cX5_readSet 146 = .ok (.ireturn, 1) := dc_172 (sg_at zd_dX5_readSet_142 2 rfl rfl)
theorem zd_dX5_readBank_0 : sg (cX5_readBank.data.toList.drop 0) [[42], [7], [182, 0, 100], [154, 0, 5], [3], [172], [42], [4], [16, 20], [182, 0, 103], [60], [27], [2], [160, 0, 7], [2], [167, 0, 10], [42], [4], [16, 20], [182, 0, 103]] = true := by decide +kernel
theorem dX5_readBank_0 : decode cX5_readBank 0 = .ok (.aload_n 0, 1) := dc_42 (sg_at zd_dX5_readBank_0 0 rfl rfl)
theorem dX5_readBank_1 : decode cX5_readBank 1 = .ok (.iconst 4, 1) := dc_7 (sg_at zd_dX5_readBank_0 1 rfl rfl)
theorem dX5_readBank_2 : decode cX5_readBank 2 = .ok (.invokevirtual 100, 3) := dc_182 (sg_at zd_dX5_readBank_0 2 rfl rfl) rfl
theorem dX5_readBank_5 : decode cX5_readBank 5 = .ok (.ifCond .ne 5, 3) := dc_154 (sg_at zd_dX5_readBank_0 3 rfl rfl) rfl
theorem dX5_readBank_8 : decode cX5_readBank 8 = .ok (.iconst 0, 1) := dc_3 (sg_at zd_dX5_readBank_0 4 rfl rfl)
theorem dX5_readBank_9 : decode cX5_readBank 9 = .ok (.ireturn, 1) := dc_172 (sg_at zd_dX5_readBank_0 5 rfl rfl)
theorem dX5_readBank_10 : decode cX5_readBank 10 = .ok (.aload_n 0, 1) := dc_42 (sg_at zd_dX5_readBank_0 6 rfl rfl)
theorem dX5_readBank_11 : decode cX5_readBank 11 = .ok (.iconst 1, 1) := dc_4 (sg_at zd_dX5_readBank_0 7 rfl rfl)
theorem dX5_readBank_12 : decode cX5_readBank 12 = .ok (.bipush 20, 2) := dc_16 (sg_at zd_dX5_readBank_0 8 rfl rfl) rfl
theorem dX5_readBank_14 : decode cX5_readBank 14 = .ok (.invokevirtual 103, 3) := dc_182 (sg_at zd_dX5_readBank_0 9 rfl rfl) rfl
theorem dX5_readBank_17 : decode cX5_readBank 17 = .ok (.istore_n 1, 1) := dc_60 (sg_at zd_dX5_readBank_0 10 rfl rfl)
theorem dX5_readBank_18 : decode cX5_readBank 18 = .ok (.iload_n 1, 1) := dc_27 (sg_at zd_dX5_readBank_0 11 rfl rfl)
theorem dX5_readBank_19 : decode cX5_readBank 19 = .ok (.iconst (-1), 1) := dc_2 (sg_at zd_dX5_readBank_0 12 rfl rfl)
theorem dX5_readBank_20 : decode cX5_readBank 20 = .ok (.if_icmp .ne 7, 3) := dc_160 (sg_at zd_dX5_readBank_0 13 rfl rfl) rfl
theorem dX5_readBank_23 : decode cX5_readBank 23 = .ok (.iconst (-1), 1) := dc_2 (sg_at zd_dX5_readBank_0 14 rfl rfl)
theorem dX5_readBank_24 : decode cX5_readBank 24 = .ok (.goto 10, 3) := dc_167 (sg_at zd_dX5_readBank_0 15 rfl rfl) rfl
theorem dX5_readBank_27 : decode cX5_readBank 27 = .ok (.aload_n 0, 1) := dc_42 (sg_at zd_dX5_readBank_0 16 rfl rfl)
theorem dX5_readBank_28 : decode cX5_readBank 28 = .ok (.iconst 1, 1) := dc_4 (sg_at zd_dX5_readBank_0 17 rfl rfl)
theorem dX5_readBank_29 : decode cX5_readBank 29 = .ok (.bipush 20, 2) := dc_16 (sg_at zd_dX5_readBank_0 18 rfl rfl) rfl
theorem dX5_readBank_31 : decode cX5_readBank 31 = .ok (.invokevirtual 103, 3) := dc_182 (sg_at zd_dX5_readBank_0 19 rfl rfl) rfl
theorem zd_dX5_readBank_34 : sg (cX5_readBank.data.toList.drop 34) [[61], [28], [2], [160, 0, 7], [2], [167, 0, 10], [42], [4], [16, 9], [182, 0, 103], [62], [29], [2], [160, 0, 5], [3], [172], [42], [180, 0, 9], [27], [181, 0, 156]] = true := by decide +kernel
theorem dX5_readBank_34 : decode cX5_readBank 34 = .ok (.istore_n 2, 1) := dc_61 (sg_at zd_dX5_readBank_34 0 rfl rfl)
theorem dX5_readBank_35 : decode cX5_readBank 35 = .ok (.iload_n 2, 1) := dc_28 (sg_at zd_dX5_readBank_34 1 rfl rfl)
theorem dX5_readBank_36 : decode cX5_readBank 36 = .ok (.iconst (-1), 1) := dc_2 (sg_at zd_dX5_readBank_34 2 rfl rfl)
theorem dX5_readBank_37 : decode cX5_readBank 37 = .ok (.if_icmp .ne 7, 3) := dc_160 (sg_at zd_dX5_readBank_34 3 rfl rfl) rfl
theorem dX5_readBank_40 : decode cX5_readBank 40 = .ok (.iconst (-1), 1) := dc_2 (sg_at zd_dX5_readBank_34 4 rfl rfl)
theorem dX5_readBank_41 : decode cX5_readBank 41 = .ok (.goto 10, 3) := dc_167 (sg_at zd_dX5_readBank_34 5 rfl rfl) rfl
theorem dX5_readBank_44 : decode cX5_readBank 44 = .ok (.aload_n 0, 1) := dc_42 (sg_at zd_dX5_readBank_34 6 rfl rfl)
theorem dX5_readBank_45 : decode cX5_readBank 45 = .ok (.iconst 1, 1) := dc_4 (sg_at zd_dX5_readBank_34 7 rfl rfl)
theorem dX5_readBank_46 : decode cX5_readBank 46 = .ok (.bipush 9, 2) := dc_16 (sg_at zd_dX5_readBank_34 8 rfl rfl) rfl
theorem dX5_readBank_48 : decode cX5_readBank 48 = .ok (.invokevirtual 103, 3) := dc_182 (sg_at zd_dX5_readBank_34 9 rfl rfl) rfl
theorem dX5_readBank_51 : decode cX5_readBank 51 = .ok (.istore_n 3, 1) := dc_62 (sg_at zd_dX5_readBank_34 10 rfl rfl)
theorem dX5_readBank_52 : decode cX5_readBank 52 = .ok (.iload_n 3, 1) := dc_29 (sg_at zd_dX5_readBank_34 11 rfl rfl)
theorem dX5_readBank_53 : decode cX5_readBank 53 = .ok (.iconst (-1), 1) := dc_2 (sg_at zd_dX5_readBank_34 12 rfl rfl)
theorem dX5_readBank_54 : decode cX5_readBank 54 = .ok (.if_icmp .ne 5, 3) := dc_160 (sg_at zd_dX5_readBank_34 13 rfl rfl) rfl
theorem dX5_readBank_57 : decode cX5_readBank 57 = .ok (.iconst 0, 1) := dc_3 (sg_at zd_dX5_readBank_34 14 rfl rfl)
theorem dX5_readBank_58 : decode cX5_readBank 58 = .ok (.ireturn, 1) := dc_172 (sg_at zd_dX5_readBank_34 15 rfl rfl)
theorem dX5_readBank_59 : decode cX5_readBank 59 = .ok (.aload_n 0, 1) := dc_42 (sg_at zd_dX5_readBank_34 16 rfl rfl)
theorem dX5_readBank_60 : decode cX5_readBank 60 = .ok (.getfield 9, 3) := dc_180 (sg_at zd_dX5_readBank_34 17 rfl rfl) rfl
theorem dX5_readBank_63 : decode cX5_readBank 63 = .ok (.iload_n 1, 1) := dc_27 (sg_at zd_dX5_readBank_34 18 rfl rfl)
theorem dX5_readBank_64 : decode cX5_readBank 64 = .ok (.putfield 156, 3) := dc_181 (sg_at zd_dX5_readBank_34 19 rfl rfl) rfl
theorem zd_dX5_readBank_67 : sg (cX5_readBank.data.toList.drop 67) [[42], [180, 0, 9], [28], [181, 0, 159], [42], [180, 0, 9], [29], [181, 0, 162], [42], [182, 0, 112], [172]] = true := by decide +kernel
theorem dX5_readBank_67 : decode cX5_readBank 67 = .ok (.aload_n 0, 1) := dc_42 (sg_at zd_dX5_readBank_67 0 rfl rfl)
theorem dX5_readBank_68 : decode cX5_readBank 68 = .ok (.getfield 9, 3) := dc_180 (sg_at zd_dX5_readBank_67 1 rfl rfl) rfl
theorem dX5_readBank_71 : decode cX5_readBank 71 = .ok (.iload_n 2, 1) := dc_28 (sg_at zd_dX5_readBank_67 2 rfl rfl)
theorem dX5_readBank_72 : decode cX5_readBank 72 = .ok (.putfield 159, 3) := dc_181 (sg_at zd_dX5_readBank_67 3 rfl rfl) rfl
theorem dX5_readBank_75 : decode cX5_readBank 75 = .ok (.aload_n 0, 1) := dc_42 (sg_at zd_dX5_readBank_67 4 rfl rfl)
theorem dX5_readBank_76 : decode cX5_readBank 76 = .ok (.getfield 9, 3) := dc_180 (sg_at zd_dX5_readBank_67 5 rfl rfl) rfl
theorem dX5_readBank_79 : decode cX5_readBank 79 = .ok (.iload_n 3, 1) := dc_29 (sg_at zd_dX5_readBank_67 6 rfl rfl)
theorem dX5_readBank_80 : decode cX5_readBank 80 = .ok (.putfield 162, 3) := dc_181 (sg_at zd_dX5_readBank_67 7 rfl rfl) rfl
theorem dX5_readBank_83 : decode cX5_readBank 83 = .ok (.aload_n 0, 1) := dc_42 (sg_at zd_dX5_readBank_67 8 rfl rfl)
theorem dX5_readBank_84 : decode cX5_readBank 84 = .ok (.invokevirtual 112, 3) := dc_182 (sg_at zd_dX5_readBank_67 9 rfl rfl) rfl
theorem dX5_readBank_87 : decode cX5_readBank 87 = .ok (.ireturn, 1) := dc_172 (sg_at zd_dX5_readBank_67 10 rfl rfl)
theorem zd_dX5_readRule_0 : sg (cX5_readRule.data.toList.drop 0) [[42], [8], [182, 0, 100], [154, 0, 5], [3], [172], [42], [180, 0, 18], [182, 0, 49], [42], [180, 0, 18], [180, 0, 52], [16, 8], [100], [60], [27], [155, 0, 8], [27], [7], [161, 0, 9]] = true := by decide +kernel
theorem dX5_readRule_0 : decode cX5_readRule 0 = .ok (.aload_n 0, 1) := dc_42 (sg_at zd_dX5_readRule_0 0 rfl rfl)
theorem dX5_readRule_1 : decode cX5_readRule 1 = .ok (.iconst 5, 1) := dc_8 (sg_at zd_dX5_readRule_0 1 rfl rfl)
theorem dX5_readRule_2 : decode cX5_readRule 2 = .ok (.invokevirtual 100, 3) := dc_182 (sg_at zd_dX5_readRule_0 2 rfl rfl) rfl
theorem dX5_readRule_5 : decode cX5_readRule 5 = .ok (.ifCond .ne 5, 3) := dc_154 (sg_at zd_dX5_readRule_0 3 rfl rfl) rfl
theorem dX5_readRule_8 : decode cX5_readRule 8 = .ok (.iconst 0, 1) := dc_3 (sg_at zd_dX5_readRule_0 4 rfl rfl)
theorem dX5_readRule_9 : decode cX5_readRule 9 = .ok (.ireturn, 1) := dc_172 (sg_at zd_dX5_readRule_0 5 rfl rfl)
theorem dX5_readRule_10 : decode cX5_readRule 10 = .ok (.aload_n 0, 1) := dc_42 (sg_at zd_dX5_readRule_0 6 rfl rfl)
theorem dX5_readRule_11 : decode cX5_readRule 11 = .ok (.getfield 18, 3) := dc_180 (sg_at zd_dX5_readRule_0 7 rfl rfl) rfl
theorem dX5_readRule_14 : decode cX5_readRule 14 = .ok (.invokevirtual 49, 3) := dc_182 (sg_at zd_dX5_readRule_0 8 rfl rfl) rfl
theorem dX5_readRule_17 : decode cX5_readRule 17 = .ok (.aload_n 0, 1) := dc_42 (sg_at zd_dX5_readRule_0 9 rfl rfl)
theorem dX5_readRule_18 : decode cX5_readRule 18 = .ok (.getfield 18, 3) := dc_180 (sg_at zd_dX5_readRule_0 10 rfl rfl) rfl
theorem dX5_readRule_21 : decode cX5_readRule 21 = .ok (.getfield 52, 3) := dc_180 (sg_at zd_dX5_readRule_0 11 rfl rfl) rfl
theorem dX5_readRule_24 : decode cX5_readRule 24 = .ok (.bipush 8, 2) := dc_16 (sg_at zd_dX5_readRule_0 12 rfl rfl) rfl
theorem dX5_readRule_26 : decode cX5_readRule 26 = .ok (.isub, 1) := dc_100 (sg_at zd_dX5_readRule_0 13 rfl rfl)
theorem dX5_readRule_27 : decode cX5_readRule 27 = .ok (.istore_n 1, 1) := dc_60 (sg_at zd_dX5_readRule_0 14 rfl rfl)
theorem dX5_readRule_28 : decode cX5_readRule 28 = .ok (.iload_n 1, 1) := dc_27 (sg_at zd_dX5_readRule_0 15 rfl rfl)
theorem dX5_readRule_29 : decode cX5_readRule 29 = .ok (.ifCond .lt 8, 3) := dc_155 (sg_at zd_dX5_readRule_0 16 rfl rfl) rfl
theorem dX5_readRule_32 : decode cX5_readRule 32 = .ok (.iload_n 1, 1) := dc_27 (sg_at zd_dX5_readRule_0 17 rfl rfl)
theorem dX5_readRule_33 : decode cX5_readRule 33 = .ok (.iconst 4, 1) := dc_7 (sg_at zd_dX5_readRule_0 18 rfl rfl)
theorem dX5_readRule_34 : decode cX5_readRule 34 = .ok (.if_icmp .lt 9, 3) := dc_161 (sg_at zd_dX5_readRule_0 19 rfl rfl) rfl
theorem zd_dX5_readRule_37 : sg (cX5_readRule.data.toList.drop 37) [[42], [4], [182, 0, 89], [172], [42], [180, 0, 9], [27], [181, 0, 165], [42], [182, 0, 112], [172]] = true := by decide +kernel
theorem dX5_readRule_37 : decode cX5_readRule 37 = .ok (.aload_n 0, 1) := dc_42 (sg_at zd_dX5_readRule_37 0 rfl rfl)
theorem dX5_readRule_38 : decode cX5_readRule 38 = .ok (.iconst 1, 1) := dc_4 (sg_at zd_dX5_readRule_37 1 rfl rfl)
theorem dX5_readRule_39 : decode cX5_readRule 39 = .ok (.invokevirtual 89, 3) := dc_182 (sg_at zd_dX5_readRule_37 2 rfl rfl) rfl
theorem dX5_readRule_42 : decode cX5_readRule 42 = .ok (.ireturn, 1) := dc_172 (sg_at zd_dX5_readRule_37 3 rfl rfl)
theorem dX5_readRule_43 : decode cX5_readRule 43 = .ok (.aload_n 0, 1) := dc_42 (sg_at zd_dX5_readRule_37 4 rfl rfl)
theorem dX5_readRule_44 : decode cX5_readRule 44 = .ok (.getfield 9, 3) := dc_180 (sg_at zd_dX5_readRule_37 5 rfl rfl) rfl
theorem dX5_readRule_47 : decode cX5_readRule 47 = .ok (.iload_n 1, 1) := dc_27 (sg_at zd_dX5_readRule_37 6 rfl rfl)
theorem dX5_readRule_48 : decode cX5_readRule 48 = .ok (.putfield 165, 3) := dc_181 (sg_at zd_dX5_readRule_37 7 rfl rfl) rfl
theorem dX5_readRule_51 : decode cX5_readRule 51 = .ok (.aload_n 0, 1) := dc_42 (sg_at zd_dX5_readRule_37 8 rfl rfl)
theorem dX5_readRule_52 : decode cX5_readRule 52 = .ok (.invokevirtual 112, 3) := dc_182 (sg_at zd_dX5_readRule_37 9 rfl rfl) rfl
theorem dX5_readRule_55 : decode cX5_readRule 55 = .ok (.ireturn, 1) := dc_172 (sg_at zd_dX5_readRule_37 10 rfl rfl)
section
variable {p : Program} {l : Launch} {e : Env} {s : State} {m : MethodId} {args : Array Value} {below : List Frame} {meth : Method} {c : Code} {D : va_G} {cy : Nat → ClassId} {b : Nat} {A : Nat → Prop} {fl : Bool}
def vX7_wordOf : List Cond := .code yX7_wordOf cX7_wordOf 3 (some .int) :: TB
theorem lf7_wordOf_9 : Fl vX7_wordOf RX7 9 7 0 := ⟨RX7, TX7, 7, rfl, by decide, (fun w h9 => List.mem_cons_of_mem _ (wC_wsX70 w h9)), (List.mem_cons_of_mem _ wT_5_10)⟩
theorem cd7_wordOf : Cd yX7_wordOf 1 := ⟨by decide, by decide, by decide +kernel⟩
set_option maxHeartbeats 4000000 in
set_option maxRecDepth 100000 in
theorem T7_wordOf_2 (S : CallFix p m c cX7_wordOf 3 s args vX7_wordOf RX7) (hr : meth.sig.returnType = (some .int)) (hlo : meth.locks = false) {out : Int32 × PH} : ∀ (n : Nat) {h : PH} {a0 : Nat} {x1 : Int32} {x2 : Int32} (f : F7_wordOf_2  n h a0 x1 x2 = some out) {H : Heap} {locs : List Loc} (I : ph_I D cy b A fl h s H locs) {ls : Array Slot} (hl : lv_has ls 3 [(0, .ref (b + a0)), (1, .int x1), (2, .int x2)]), W p l e ({ frames := 0, cells := 0, slots := 0, locals := 0 } : Room) s m args below meth c H locs 0 0 (MQ below (va_Qi (fun (r : Int32) (u : PH) => (r, u) = out) (ph_B D cy b A fl) A) args s 0 0 A) (F0 m 2 ls []) := by
  intro n
  induction n with
  | zero => intro h a0 x1 x2 f; rw [F7_wordOf_2] at f; cases f
  | succ n ih =>
    intro h a0 x1 x2 f H locs I ls hl
    rw [F7_wordOf_2] at f
    refine lv_iload_n S.1 S.2.1 dX7_wordOf_2 rfl (lv_at hl 2 rfl) ?_
    refine lv_bipush (v := 24) S.1 S.2.1 dX7_wordOf_3 (by decide) ?_
    refine lv_icmp_ge (tgt := 26) S.1 S.2.1 dX7_wordOf_5 (by decide) (fun q1 => ?_) (fun q1 => ?_)
    · have f := (if_pos q1).symm.trans f
      refine lv_bipush (v := 24) S.1 S.2.1 dX7_wordOf_26 (by decide) ?_
      exact o_iret S hr hlo I f dX7_wordOf_28
    · have f := (if_neg q1).symm.trans f
      refine lv_aload_n S.1 S.2.1 dX7_wordOf_8 rfl (lv_at hl 0 rfl) ?_
      obtain ⟨r2, e3, f⟩ := ob f
      refine o_gR S lf7_wordOf_9 I e3 dX7_wordOf_9 ?_
      refine lv_iload_n S.1 S.2.1 dX7_wordOf_12 rfl (lv_at hl 2 rfl) ?_
      obtain ⟨v5, e4, f⟩ := ob f
      refine o_iald S I e4 dX7_wordOf_13 ?_
      refine lv_iload_n S.1 S.2.1 dX7_wordOf_14 rfl (lv_at hl 1 rfl) ?_
      refine lv_icmp_ne (tgt := 20) S.1 S.2.1 dX7_wordOf_15 (by decide) (fun q6 => ?_) (fun q6 => ?_)
      · have f := (if_neg q6).symm.trans f
        refine lv_iinc (v := (x2 + 1)) (lv' := [(2, .int (x2 + 1)), (0, .ref (b + a0)), (1, .int x1)]) S.1 S.2.1 dX7_wordOf_20 hl (k := 2) rfl (congrArg (fun z => x2 + z) (by decide)) (by decide) rfl (fun ls hl => ?_)
        refine lv_goto (tgt := 2) S.1 S.2.1 dX7_wordOf_23 (by decide) ?_
        exact ih f I (lv_sub hl [1, 2, 0] rfl)
      · have f := (if_pos q6).symm.trans f
        refine lv_iload_n S.1 S.2.1 dX7_wordOf_18 rfl (lv_at hl 2 rfl) ?_
        exact o_iret S hr hlo I f dX7_wordOf_19
set_option maxHeartbeats 4000000 in
set_option maxRecDepth 100000 in
theorem T7_wordOf_0 (S : CallFix p m c cX7_wordOf 3 s args vX7_wordOf RX7) (hr : meth.sig.returnType = (some .int)) (hlo : meth.locks = false) {out : Int32 × PH} {h : PH} {a0 : Nat} {x1 : Int32} (f : F7_wordOf_0  h a0 x1 = some out) {H : Heap} {locs : List Loc} (I : ph_I D cy b A fl h s H locs) {ls : Array Slot} (hl : lv_has ls 3 [(0, .ref (b + a0)), (1, .int x1)]) : W p l e ({ frames := 0, cells := 0, slots := 0, locals := 0 } : Room) s m args below meth c H locs 0 0 (MQ below (va_Qi (fun (r : Int32) (u : PH) => (r, u) = out) (ph_B D cy b A fl) A) args s 0 0 A) (F0 m 0 ls []) := by
  unfold F7_wordOf_0 at f
  refine lv_iconst (v := 0) S.1 S.2.1 dX7_wordOf_0 (by decide) ?_
  refine lv_istore_n (lv' := [(2, .int 0), (0, .ref (b + a0)), (1, .int x1)]) S.1 S.2.1 dX7_wordOf_1 rfl hl (by decide) rfl (fun ls hl => ?_)
  exact T7_wordOf_2 S hr hlo  1024 f I (lv_sub hl [1, 2, 0] rfl)
theorem M7_wordOf (l : Launch) (D : va_G) (cy : Nat → ClassId) (b : Nat) (A : Nat → Prop) (fl : Bool) {h : PH} {a0 : Nat} {x1 : Int32} {out : Int32 × PH} (f : F7_wordOf h a0 x1 = some out) : Met l yX7_wordOf vX7_wordOf ({ frames := 0, cells := 0, slots := 0, locals := 0 } : Room) (va_Pc [.ref (b + a0), .int x1] (ph_B D cy b A fl h)) (va_Qi (fun (r : Int32) (u : PH) => (r, u) = out) (ph_B D cy b A fl) A) 0 0 A :=
  o_met (by decide) rfl (Nat.le_of_ble_eq_true rfl) rfl (fun p e s m below meth c S hr hlo hnm ls hl I => T7_wordOf_0 S hr hlo ((gd f).2) I (lv_sub hl [0, 1] rfl))
def vX7_takeWord : List Cond := .code yX7_takeWord cX7_takeWord 2 none :: TB
theorem lp7_takeWord_56 : Pl vX7_takeWord RX7 56 7 4 .int := ⟨RX7, TX7, 7, tyX7, rfl, by decide, (fun w h9 => List.mem_cons_of_mem _ (wC_wsX70 w h9)), (List.mem_cons_of_mem _ wT_16_3), tyX7_ok, nmX7, rfl, rfl⟩
theorem lf7_takeWord_53 : Fl vX7_takeWord RX7 53 7 6 := ⟨RX7, TX7, 7, rfl, by decide, (fun w h9 => List.mem_cons_of_mem _ (wC_wsX70 w h9)), (List.mem_cons_of_mem _ wT_16_2)⟩
theorem gX7_takeWord_X7_wordOf : GoodIn vX7_takeWord (wsV RX7 71 RX7 yX7_wordOf vX7_wordOf) := gV_of wT_16_12 wT_16_13 wT_16_14 wT_5_2 wT_16_15
theorem lf7_takeWord_44 : Fl vX7_takeWord RX7 44 7 3 := ⟨RX7, TX7, 7, rfl, by decide, (fun w h9 => List.mem_cons_of_mem _ (wC_wsX70 w h9)), (List.mem_cons_of_mem _ wT_15_20)⟩
theorem lp7_takeWord_44 : Pl vX7_takeWord RX7 44 7 3 .int := ⟨RX7, TX7, 7, tyX7, rfl, by decide, (fun w h9 => List.mem_cons_of_mem _ (wC_wsX70 w h9)), (List.mem_cons_of_mem _ wT_15_20), tyX7_ok, nmX7, rfl, rfl⟩
theorem lf7_takeWord_40 : Fl vX7_takeWord RX7 40 7 2 := ⟨RX7, TX7, 7, rfl, by decide, (fun w h9 => List.mem_cons_of_mem _ (wC_wsX70 w h9)), (List.mem_cons_of_mem _ wT_15_19)⟩
theorem lf7_takeWord_15 : Fl vX7_takeWord RX7 15 7 1 := ⟨RX7, TX7, 7, rfl, by decide, (fun w h9 => List.mem_cons_of_mem _ (wC_wsX70 w h9)), (List.mem_cons_of_mem _ wT_5_11)⟩
theorem gX7_takeWord_X7_isLetter : GoodIn vX7_takeWord (va_wsS RX7 27 yX7_isLetter vX7_isLetter) := gS_of wT_7_5 wT_7_6 wT_5_2 wT_7_7
theorem gX7_takeWord_X7_letterBits : GoodIn vX7_takeWord (va_wsS RX7 31 yX7_letterBits vX7_letterBits) := gS_of wT_7_8 wT_7_9 wT_5_2 wT_7_10
theorem lp7_takeWord_53 : Pl vX7_takeWord RX7 53 7 6 .int := ⟨RX7, TX7, 7, tyX7, rfl, by decide, (fun w h9 => List.mem_cons_of_mem _ (wC_wsX70 w h9)), (List.mem_cons_of_mem _ wT_16_2), tyX7_ok, nmX7, rfl, rfl⟩
theorem cd7_takeWord : Cd yX7_takeWord 0 := ⟨by decide, by decide, by decide +kernel⟩
set_option maxHeartbeats 4000000 in
set_option maxRecDepth 100000 in
theorem T7_takeWord_92 (S : CallFix p m c cX7_takeWord 2 s args vX7_takeWord RX7) (hr : meth.sig.returnType = none) (hlo : meth.locks = false) {out : PH} {h : PH} {s0 : Int32} {u1 : Nat} (f : F7_takeWord_92  h s0 u1 = some out) {H : Heap} {locs : List Loc} (I : ph_I D cy b A fl h s H locs) {ls : Array Slot} (hl : lv_has ls 2 []) : W p l e ({ frames := 1, cells := 0, slots := 0, locals := 22 } : Room) s m args below meth c H locs 0 0 (MQ below (va_Qv (fun (u : PH) => u = out) (ph_B D cy b A fl) A) args s 0 0 A) (F0 m 92 ls [.int s0, .ref (b + u1)]) := by
  unfold F7_takeWord_92 at f
  obtain ⟨h1, e2, f⟩ := ob f
  refine o_pI S lp7_takeWord_56 I e2 dX7_takeWord_92 (fun H locs I => ?_)
  exact o_vret S hr hlo I f dX7_takeWord_95
set_option maxHeartbeats 4000000 in
set_option maxRecDepth 100000 in
theorem T7_takeWord_72 (S : CallFix p m c cX7_takeWord 2 s args vX7_takeWord RX7) (hr : meth.sig.returnType = none) (hlo : meth.locks = false) {out : PH} {h : PH} {a0 : Nat} {x1 : Int32} (f : F7_takeWord_72  h a0 x1 = some out) {H : Heap} {locs : List Loc} (I : ph_I D cy b A fl h s H locs) {ls : Array Slot} (hl : lv_has ls 2 [(0, .ref (b + a0)), (1, .int x1)]) : W p l e ({ frames := 1, cells := 0, slots := 0, locals := 22 } : Room) s m args below meth c H locs 0 0 (MQ below (va_Qv (fun (u : PH) => u = out) (ph_B D cy b A fl) A) args s 0 0 A) (F0 m 72 ls []) := by
  unfold F7_takeWord_72 at f
  refine lv_aload_n S.1 S.2.1 dX7_takeWord_72 rfl (lv_at hl 0 rfl) ?_
  refine lv_iload_n S.1 S.2.1 dX7_takeWord_73 rfl (lv_at hl 1 rfl) ?_
  refine lv_bipush (v := 6) S.1 S.2.1 dX7_takeWord_74 (by decide) ?_
  refine lv_icmp_le (tgt := 84) S.1 S.2.1 dX7_takeWord_76 (by decide) (fun q1 => ?_) (fun q1 => ?_)
  · have f := (if_pos q1).symm.trans f
    refine lv_aload_n S.1 S.2.1 dX7_takeWord_84 rfl (lv_at hl 0 rfl) ?_
    refine lv_aload_n S.1 S.2.1 dX7_takeWord_85 rfl (lv_at hl 0 rfl) ?_
    obtain ⟨v2, e3, f⟩ := ob f
    refine o_gI S lf7_takeWord_53 I e3 dX7_takeWord_86 ?_
    obtain ⟨o4, e5, f⟩ := ob f
    refine o_Vi S (As := [.int v2]) (rest := [.ref (b + a0)]) (ci := 7) (M7_wordOf l D cy b A fl e5) gX7_takeWord_X7_wordOf rfl rfl rfl cd7_wordOf ⟨Nat.le_of_ble_eq_true rfl, Nat.le_of_ble_eq_true rfl⟩ I (gd e5).1 clX7 rfl rfl hl.1 rfl (Nat.le_of_ble_eq_true rfl) dX7_takeWord_89 ⟨Nat.le_of_ble_eq_true rfl, Nat.le_of_ble_eq_true rfl⟩ (fun H locs I => ?_)
    exact T7_takeWord_92 S hr hlo  f I (lv_sub hl [] rfl)
  · have f := (if_neg q1).symm.trans f
    refine lv_bipush (v := 40) S.1 S.2.1 dX7_takeWord_79 (by decide) ?_
    refine lv_goto (tgt := 92) S.1 S.2.1 dX7_takeWord_81 (by decide) ?_
    exact T7_takeWord_92 S hr hlo  f I (lv_sub hl [] rfl)
set_option maxHeartbeats 4000000 in
set_option maxRecDepth 100000 in
theorem T7_takeWord_56 (S : CallFix p m c cX7_takeWord 2 s args vX7_takeWord RX7) (hr : meth.sig.returnType = none) (hlo : meth.locks = false) {out : PH} {k2 : PH → Nat → Int32 → Option (PH)} (hk2 : ∀ {h : PH} {a0 : Nat} {x1 : Int32}, k2 h a0 x1 = some out → ∀ (H : Heap) (locs : List Loc), ph_I D cy b A fl h s H locs → ∀ (ls : Array Slot), lv_has ls 2 [(0, .ref (b + a0)), (1, .int x1)] → W p l e ({ frames := 1, cells := 0, slots := 0, locals := 22 } : Room) s m args below meth c H locs 0 0 (MQ below (va_Qv (fun (u : PH) => u = out) (ph_B D cy b A fl) A) args s 0 0 A) (F0 m 2 ls [])) {h : PH} {a0 : Nat} {x1 : Int32} (f : F7_takeWord_56 k2 h a0 x1 = some out) {H : Heap} {locs : List Loc} (I : ph_I D cy b A fl h s H locs) {ls : Array Slot} (hl : lv_has ls 2 [(0, .ref (b + a0)), (1, .int x1)]) : W p l e ({ frames := 1, cells := 0, slots := 0, locals := 22 } : Room) s m args below meth c H locs 0 0 (MQ below (va_Qv (fun (u : PH) => u = out) (ph_B D cy b A fl) A) args s 0 0 A) (F0 m 56 ls []) := by
  unfold F7_takeWord_56 at f
  refine lv_iinc (v := (x1 + 1)) (lv' := [(1, .int (x1 + 1)), (0, .ref (b + a0))]) S.1 S.2.1 dX7_takeWord_56 hl (k := 1) rfl (congrArg (fun z => x1 + z) (by decide)) (by decide) rfl (fun ls hl => ?_)
  refine lv_aload_n S.1 S.2.1 dX7_takeWord_59 rfl (lv_at hl 1 rfl) ?_
  refine lv_dup S.1 S.2.1 dX7_takeWord_60 rfl ?_
  obtain ⟨v1, e2, f⟩ := ob f
  refine o_gI S lf7_takeWord_44 I e2 dX7_takeWord_61 ?_
  refine lv_iconst (v := 1) S.1 S.2.1 dX7_takeWord_64 (by decide) ?_
  refine lv_iadd S.1 S.2.1 dX7_takeWord_65 ?_
  obtain ⟨h3, e4, f⟩ := ob f
  refine o_pI S lp7_takeWord_44 I e4 dX7_takeWord_66 (fun H locs I => ?_)
  refine lv_goto (tgt := 2) S.1 S.2.1 dX7_takeWord_69 (by decide) ?_
  exact hk2 f _ _ I _ (lv_sub hl [1, 0] rfl)
set_option maxHeartbeats 4000000 in
set_option maxRecDepth 100000 in
theorem T7_takeWord_2 (S : CallFix p m c cX7_takeWord 2 s args vX7_takeWord RX7) (hr : meth.sig.returnType = none) (hlo : meth.locks = false) {out : PH} : ∀ (n : Nat) {h : PH} {a0 : Nat} {x1 : Int32} (f : F7_takeWord_2  n h a0 x1 = some out) {H : Heap} {locs : List Loc} (I : ph_I D cy b A fl h s H locs) {ls : Array Slot} (hl : lv_has ls 2 [(0, .ref (b + a0)), (1, .int x1)]), W p l e ({ frames := 1, cells := 0, slots := 0, locals := 22 } : Room) s m args below meth c H locs 0 0 (MQ below (va_Qv (fun (u : PH) => u = out) (ph_B D cy b A fl) A) args s 0 0 A) (F0 m 2 ls []) := by
  intro n
  induction n with
  | zero => intro h a0 x1 f; rw [F7_takeWord_2] at f; cases f
  | succ n ih =>
    intro h a0 x1 f H locs I ls hl
    rw [F7_takeWord_2] at f
    refine lv_aload_n S.1 S.2.1 dX7_takeWord_2 rfl (lv_at hl 0 rfl) ?_
    obtain ⟨v1, e2, f⟩ := ob f
    refine o_gI S lf7_takeWord_44 I e2 dX7_takeWord_3 ?_
    refine lv_aload_n S.1 S.2.1 dX7_takeWord_6 rfl (lv_at hl 0 rfl) ?_
    obtain ⟨v3, e4, f⟩ := ob f
    refine o_gI S lf7_takeWord_40 I e4 dX7_takeWord_7 ?_
    refine lv_icmp_ge (tgt := 72) S.1 S.2.1 dX7_takeWord_10 (by decide) (fun q5 => ?_) (fun q5 => ?_)
    · have f := (if_pos q5).symm.trans f
      exact T7_takeWord_72 S hr hlo  f I (lv_sub hl [0, 1] rfl)
    · have f := (if_neg q5).symm.trans f
      refine lv_aload_n S.1 S.2.1 dX7_takeWord_13 rfl (lv_at hl 0 rfl) ?_
      obtain ⟨r6, e7, f⟩ := ob f
      refine o_gR S lf7_takeWord_15 I e7 dX7_takeWord_14 ?_
      refine lv_aload_n S.1 S.2.1 dX7_takeWord_17 rfl (lv_at hl 0 rfl) ?_
      obtain ⟨v8, e9, f⟩ := ob f
      refine o_gI S lf7_takeWord_44 I e9 dX7_takeWord_18 ?_
      obtain ⟨v11, e10, f⟩ := ob f
      refine o_bald S I e10 dX7_takeWord_21 ?_
      obtain ⟨o12, e13, f⟩ := ob f
      refine o_Si S (As := [.int v11]) (rest := []) (M7_isLetter l D cy b A fl e13) gX7_takeWord_X7_isLetter rfl rfl rfl cd7_isLetter ⟨Nat.le_of_ble_eq_true rfl, Nat.le_of_ble_eq_true rfl⟩ I rfl hl.1 rfl (Nat.le_of_ble_eq_true rfl) dX7_takeWord_22 ⟨Nat.le_of_ble_eq_true rfl, Nat.le_of_ble_eq_true rfl⟩ (fun H locs I => ?_)
      refine lv_if_eq (tgt := 72) S.1 S.2.1 dX7_takeWord_25 (by decide) (fun q14 => ?_) (fun q14 => ?_)
      · have f := (if_pos q14).symm.trans f
        exact T7_takeWord_72 S hr hlo  f I (lv_sub hl [0, 1] rfl)
      · have f := (if_neg q14).symm.trans f
        refine lv_iload_n S.1 S.2.1 dX7_takeWord_28 rfl (lv_at hl 1 rfl) ?_
        refine lv_bipush (v := 6) S.1 S.2.1 dX7_takeWord_29 (by decide) ?_
        refine lv_icmp_ge (tgt := 56) S.1 S.2.1 dX7_takeWord_31 (by decide) (fun q15 => ?_) (fun q15 => ?_)
        · have f := (if_pos q15).symm.trans f
          exact T7_takeWord_56 S hr hlo (fun f _ _ I _ hl => ih f I hl) f I (lv_sub hl [0, 1] rfl)
        · have f := (if_neg q15).symm.trans f
          refine lv_aload_n S.1 S.2.1 dX7_takeWord_34 rfl (lv_at hl 0 rfl) ?_
          refine lv_dup S.1 S.2.1 dX7_takeWord_35 rfl ?_
          obtain ⟨v16, e17, f⟩ := ob f
          refine o_gI S lf7_takeWord_53 I e17 dX7_takeWord_36 ?_
          refine lv_aload_n S.1 S.2.1 dX7_takeWord_39 rfl (lv_at hl 0 rfl) ?_
          obtain ⟨r18, e19, f⟩ := ob f
          refine o_gR S lf7_takeWord_15 I e19 dX7_takeWord_40 ?_
          refine lv_aload_n S.1 S.2.1 dX7_takeWord_43 rfl (lv_at hl 0 rfl) ?_
          obtain ⟨v20, e21, f⟩ := ob f
          refine o_gI S lf7_takeWord_44 I e21 dX7_takeWord_44 ?_
          obtain ⟨v23, e22, f⟩ := ob f
          refine o_bald S I e22 dX7_takeWord_47 ?_
          refine lv_iload_n S.1 S.2.1 dX7_takeWord_48 rfl (lv_at hl 1 rfl) ?_
          obtain ⟨o24, e25, f⟩ := ob f
          refine o_Si S (As := [.int v23, .int x1]) (rest := [.int v16, .ref (b + a0)]) (M7_letterBits l D cy b A fl e25) gX7_takeWord_X7_letterBits rfl rfl rfl cd7_letterBits ⟨Nat.le_of_ble_eq_true rfl, Nat.le_of_ble_eq_true rfl⟩ I rfl hl.1 rfl (Nat.le_of_ble_eq_true rfl) dX7_takeWord_49 ⟨Nat.le_of_ble_eq_true rfl, Nat.le_of_ble_eq_true rfl⟩ (fun H locs I => ?_)
          refine lv_ior S.1 S.2.1 dX7_takeWord_52 ?_
          obtain ⟨h26, e27, f⟩ := ob f
          refine o_pI S lp7_takeWord_53 I e27 dX7_takeWord_53 (fun H locs I => ?_)
          exact T7_takeWord_56 S hr hlo (fun f _ _ I _ hl => ih f I hl) f I (lv_sub hl [0, 1] rfl)
set_option maxHeartbeats 4000000 in
set_option maxRecDepth 100000 in
theorem T7_takeWord_0 (S : CallFix p m c cX7_takeWord 2 s args vX7_takeWord RX7) (hr : meth.sig.returnType = none) (hlo : meth.locks = false) {out : PH} {h : PH} {a0 : Nat} (f : F7_takeWord_0  h a0 = some out) {H : Heap} {locs : List Loc} (I : ph_I D cy b A fl h s H locs) {ls : Array Slot} (hl : lv_has ls 2 [(0, .ref (b + a0))]) : W p l e ({ frames := 1, cells := 0, slots := 0, locals := 22 } : Room) s m args below meth c H locs 0 0 (MQ below (va_Qv (fun (u : PH) => u = out) (ph_B D cy b A fl) A) args s 0 0 A) (F0 m 0 ls []) := by
  unfold F7_takeWord_0 at f
  refine lv_iconst (v := 0) S.1 S.2.1 dX7_takeWord_0 (by decide) ?_
  refine lv_istore_n (lv' := [(1, .int 0), (0, .ref (b + a0))]) S.1 S.2.1 dX7_takeWord_1 rfl hl (by decide) rfl (fun ls hl => ?_)
  exact T7_takeWord_2 S hr hlo  1024 f I (lv_sub hl [1, 0] rfl)
theorem M7_takeWord (l : Launch) (D : va_G) (cy : Nat → ClassId) (b : Nat) (A : Nat → Prop) (fl : Bool) {h : PH} {a0 : Nat} {out : PH} (f : F7_takeWord h a0 = some out) : Met l yX7_takeWord vX7_takeWord ({ frames := 1, cells := 0, slots := 0, locals := 22 } : Room) (va_Pc [.ref (b + a0)] (ph_B D cy b A fl h)) (va_Qv (fun (u : PH) => u = out) (ph_B D cy b A fl) A) 0 0 A :=
  o_met (by decide) rfl (Nat.le_of_ble_eq_true rfl) rfl (fun p e s m below meth c S hr hlo hnm ls hl I => T7_takeWord_0 S hr hlo ((gd f).2) I (lv_sub hl [0] rfl))
def vX7_isDigit : List Cond := .code yX7_isDigit cX7_isDigit 1 (some .boolean) :: TB
theorem cd7_isDigit : Cd yX7_isDigit 1 := ⟨by decide, by decide, by decide +kernel⟩
set_option maxHeartbeats 4000000 in
set_option maxRecDepth 100000 in
theorem T7_isDigit_0 (S : CallFix p m c cX7_isDigit 1 s args vX7_isDigit RX7) (hr : meth.sig.returnType = (some .boolean)) (hlo : meth.locks = false) {out : Int32 × PH} {h : PH} {x0 : Int32} (f : F7_isDigit_0  h x0 = some out) {H : Heap} {locs : List Loc} (I : ph_I D cy b A fl h s H locs) {ls : Array Slot} (hl : lv_has ls 1 [(0, .int x0)]) : W p l e ({ frames := 0, cells := 0, slots := 0, locals := 0 } : Room) s m args below meth c H locs 0 0 (MQ below (va_Qi (fun (r : Int32) (u : PH) => (r, u) = out) (ph_B D cy b A fl) A) args s 0 0 A) (F0 m 0 ls []) := by
  unfold F7_isDigit_0 at f
  refine lv_iload_n S.1 S.2.1 dX7_isDigit_0 rfl (lv_at hl 0 rfl) ?_
  refine lv_bipush (v := 48) S.1 S.2.1 dX7_isDigit_1 (by decide) ?_
  refine lv_icmp_lt (tgt := 16) S.1 S.2.1 dX7_isDigit_3 (by decide) (fun q1 => ?_) (fun q1 => ?_)
  · have f := (if_pos q1).symm.trans f
    refine lv_iconst (v := 0) S.1 S.2.1 dX7_isDigit_16 (by decide) ?_
    exact o_zret S hr hlo I f dX7_isDigit_17
  · have f := (if_neg q1).symm.trans f
    refine lv_iload_n S.1 S.2.1 dX7_isDigit_6 rfl (lv_at hl 0 rfl) ?_
    refine lv_bipush (v := 57) S.1 S.2.1 dX7_isDigit_7 (by decide) ?_
    refine lv_icmp_gt (tgt := 16) S.1 S.2.1 dX7_isDigit_9 (by decide) (fun q2 => ?_) (fun q2 => ?_)
    · have f := (if_pos q2).symm.trans f
      refine lv_iconst (v := 0) S.1 S.2.1 dX7_isDigit_16 (by decide) ?_
      exact o_zret S hr hlo I f dX7_isDigit_17
    · have f := (if_neg q2).symm.trans f
      refine lv_iconst (v := 1) S.1 S.2.1 dX7_isDigit_12 (by decide) ?_
      refine lv_goto (tgt := 17) S.1 S.2.1 dX7_isDigit_13 (by decide) ?_
      exact o_zret S hr hlo I f dX7_isDigit_17
theorem M7_isDigit (l : Launch) (D : va_G) (cy : Nat → ClassId) (b : Nat) (A : Nat → Prop) (fl : Bool) {h : PH} {x0 : Int32} {out : Int32 × PH} (f : F7_isDigit h x0 = some out) : Met l yX7_isDigit vX7_isDigit ({ frames := 0, cells := 0, slots := 0, locals := 0 } : Room) (va_Pc [.int x0] (ph_B D cy b A fl h)) (va_Qi (fun (r : Int32) (u : PH) => (r, u) = out) (ph_B D cy b A fl) A) 0 0 A :=
  o_met (by decide) rfl (Nat.le_of_ble_eq_true rfl) rfl (fun p e s m below meth c S hr hlo hnm ls hl I => T7_isDigit_0 S hr hlo (f) I (lv_sub hl [0] rfl))
def vX7_takeNumber : List Cond := .code yX7_takeNumber cX7_takeNumber 1 none :: TB
theorem lp7_takeNumber_56 : Pl vX7_takeNumber RX7 56 7 4 .int := ⟨RX7, TX7, 7, tyX7, rfl, by decide, (fun w h9 => List.mem_cons_of_mem _ (wC_wsX70 w h9)), (List.mem_cons_of_mem _ wT_16_3), tyX7_ok, nmX7, rfl, rfl⟩
theorem lf7_takeNumber_44 : Fl vX7_takeNumber RX7 44 7 3 := ⟨RX7, TX7, 7, rfl, by decide, (fun w h9 => List.mem_cons_of_mem _ (wC_wsX70 w h9)), (List.mem_cons_of_mem _ wT_15_20)⟩
theorem lf7_takeNumber_40 : Fl vX7_takeNumber RX7 40 7 2 := ⟨RX7, TX7, 7, rfl, by decide, (fun w h9 => List.mem_cons_of_mem _ (wC_wsX70 w h9)), (List.mem_cons_of_mem _ wT_15_19)⟩
theorem lf7_takeNumber_15 : Fl vX7_takeNumber RX7 15 7 1 := ⟨RX7, TX7, 7, rfl, by decide, (fun w h9 => List.mem_cons_of_mem _ (wC_wsX70 w h9)), (List.mem_cons_of_mem _ wT_5_11)⟩
theorem gX7_takeNumber_X7_isDigit : GoodIn vX7_takeNumber (va_wsS RX7 62 yX7_isDigit vX7_isDigit) := gS_of wT_16_16 wT_16_17 wT_5_2 wT_16_18
theorem lf7_takeNumber_53 : Fl vX7_takeNumber RX7 53 7 6 := ⟨RX7, TX7, 7, rfl, by decide, (fun w h9 => List.mem_cons_of_mem _ (wC_wsX70 w h9)), (List.mem_cons_of_mem _ wT_16_2)⟩
theorem lp7_takeNumber_53 : Pl vX7_takeNumber RX7 53 7 6 .int := ⟨RX7, TX7, 7, tyX7, rfl, by decide, (fun w h9 => List.mem_cons_of_mem _ (wC_wsX70 w h9)), (List.mem_cons_of_mem _ wT_16_2), tyX7_ok, nmX7, rfl, rfl⟩
theorem lp7_takeNumber_44 : Pl vX7_takeNumber RX7 44 7 3 .int := ⟨RX7, TX7, 7, tyX7, rfl, by decide, (fun w h9 => List.mem_cons_of_mem _ (wC_wsX70 w h9)), (List.mem_cons_of_mem _ wT_15_20), tyX7_ok, nmX7, rfl, rfl⟩
theorem cd7_takeNumber : Cd yX7_takeNumber 0 := ⟨by decide, by decide, by decide +kernel⟩
set_option maxHeartbeats 4000000 in
set_option maxRecDepth 100000 in
theorem T7_takeNumber_68 (S : CallFix p m c cX7_takeNumber 1 s args vX7_takeNumber RX7) (hr : meth.sig.returnType = none) (hlo : meth.locks = false) {out : PH} {h : PH} {a0 : Nat} (f : F7_takeNumber_68  h a0 = some out) {H : Heap} {locs : List Loc} (I : ph_I D cy b A fl h s H locs) {ls : Array Slot} (hl : lv_has ls 1 [(0, .ref (b + a0))]) : W p l e ({ frames := 1, cells := 0, slots := 0, locals := 24 } : Room) s m args below meth c H locs 0 0 (MQ below (va_Qv (fun (u : PH) => u = out) (ph_B D cy b A fl) A) args s 0 0 A) (F0 m 68 ls []) := by
  unfold F7_takeNumber_68 at f
  refine lv_aload_n S.1 S.2.1 dX7_takeNumber_68 rfl (lv_at hl 0 rfl) ?_
  refine lv_bipush (v := 25) S.1 S.2.1 dX7_takeNumber_69 (by decide) ?_
  obtain ⟨h1, e2, f⟩ := ob f
  refine o_pI S lp7_takeNumber_56 I e2 dX7_takeNumber_71 (fun H locs I => ?_)
  exact o_vret S hr hlo I f dX7_takeNumber_74
set_option maxHeartbeats 4000000 in
set_option maxRecDepth 100000 in
theorem T7_takeNumber_0 (S : CallFix p m c cX7_takeNumber 1 s args vX7_takeNumber RX7) (hr : meth.sig.returnType = none) (hlo : meth.locks = false) {out : PH} : ∀ (n : Nat) {h : PH} {a0 : Nat} (f : F7_takeNumber_0  n h a0 = some out) {H : Heap} {locs : List Loc} (I : ph_I D cy b A fl h s H locs) {ls : Array Slot} (hl : lv_has ls 1 [(0, .ref (b + a0))]), W p l e ({ frames := 1, cells := 0, slots := 0, locals := 24 } : Room) s m args below meth c H locs 0 0 (MQ below (va_Qv (fun (u : PH) => u = out) (ph_B D cy b A fl) A) args s 0 0 A) (F0 m 0 ls []) := by
  intro n
  induction n with
  | zero => intro h a0 f; rw [F7_takeNumber_0] at f; cases f
  | succ n ih =>
    intro h a0 f H locs I ls hl
    rw [F7_takeNumber_0] at f
    refine lv_aload_n S.1 S.2.1 dX7_takeNumber_0 rfl (lv_at hl 0 rfl) ?_
    obtain ⟨v1, e2, f⟩ := ob f
    refine o_gI S lf7_takeNumber_44 I e2 dX7_takeNumber_1 ?_
    refine lv_aload_n S.1 S.2.1 dX7_takeNumber_4 rfl (lv_at hl 0 rfl) ?_
    obtain ⟨v3, e4, f⟩ := ob f
    refine o_gI S lf7_takeNumber_40 I e4 dX7_takeNumber_5 ?_
    refine lv_icmp_ge (tgt := 68) S.1 S.2.1 dX7_takeNumber_8 (by decide) (fun q5 => ?_) (fun q5 => ?_)
    · have f := (if_pos q5).symm.trans f
      exact T7_takeNumber_68 S hr hlo  f I (lv_sub hl [0] rfl)
    · have f := (if_neg q5).symm.trans f
      refine lv_aload_n S.1 S.2.1 dX7_takeNumber_11 rfl (lv_at hl 0 rfl) ?_
      obtain ⟨r6, e7, f⟩ := ob f
      refine o_gR S lf7_takeNumber_15 I e7 dX7_takeNumber_12 ?_
      refine lv_aload_n S.1 S.2.1 dX7_takeNumber_15 rfl (lv_at hl 0 rfl) ?_
      obtain ⟨v8, e9, f⟩ := ob f
      refine o_gI S lf7_takeNumber_44 I e9 dX7_takeNumber_16 ?_
      obtain ⟨v11, e10, f⟩ := ob f
      refine o_bald S I e10 dX7_takeNumber_19 ?_
      obtain ⟨o12, e13, f⟩ := ob f
      refine o_Si S (As := [.int v11]) (rest := []) (M7_isDigit l D cy b A fl e13) gX7_takeNumber_X7_isDigit rfl rfl rfl cd7_isDigit ⟨Nat.le_of_ble_eq_true rfl, Nat.le_of_ble_eq_true rfl⟩ I rfl hl.1 rfl (Nat.le_of_ble_eq_true rfl) dX7_takeNumber_20 ⟨Nat.le_of_ble_eq_true rfl, Nat.le_of_ble_eq_true rfl⟩ (fun H locs I => ?_)
      refine lv_if_eq (tgt := 68) S.1 S.2.1 dX7_takeNumber_23 (by decide) (fun q14 => ?_) (fun q14 => ?_)
      · have f := (if_pos q14).symm.trans f
        exact T7_takeNumber_68 S hr hlo  f I (lv_sub hl [0] rfl)
      · have f := (if_neg q14).symm.trans f
        refine lv_aload_n S.1 S.2.1 dX7_takeNumber_26 rfl (lv_at hl 0 rfl) ?_
        refine lv_aload_n S.1 S.2.1 dX7_takeNumber_27 rfl (lv_at hl 0 rfl) ?_
        obtain ⟨v15, e16, f⟩ := ob f
        refine o_gI S lf7_takeNumber_53 I e16 dX7_takeNumber_28 ?_
        refine lv_bipush (v := 10) S.1 S.2.1 dX7_takeNumber_31 (by decide) ?_
        refine lv_imul S.1 S.2.1 dX7_takeNumber_33 ?_
        refine lv_aload_n S.1 S.2.1 dX7_takeNumber_34 rfl (lv_at hl 0 rfl) ?_
        obtain ⟨r17, e18, f⟩ := ob f
        refine o_gR S lf7_takeNumber_15 I e18 dX7_takeNumber_35 ?_
        refine lv_aload_n S.1 S.2.1 dX7_takeNumber_38 rfl (lv_at hl 0 rfl) ?_
        obtain ⟨v19, e20, f⟩ := ob f
        refine o_gI S lf7_takeNumber_44 I e20 dX7_takeNumber_39 ?_
        obtain ⟨v22, e21, f⟩ := ob f
        refine o_bald S I e21 dX7_takeNumber_42 ?_
        refine lv_iadd S.1 S.2.1 dX7_takeNumber_43 ?_
        refine lv_bipush (v := 48) S.1 S.2.1 dX7_takeNumber_44 (by decide) ?_
        refine lv_isub S.1 S.2.1 dX7_takeNumber_46 ?_
        refine lv_ldc (v := 1000000) S.1 S.2.1 S.2.2.2.1 (S.2.2.2.2 _ (List.mem_cons_of_mem _ wT_16_23)) dX7_takeNumber_47 ?_
        refine va_mmin S.1 S.2.1 (by rw [S.2.2.1, hl.1]) S.2.2.2.1 (S.2.2.2.2 _ (List.mem_cons_of_mem _ wT_15_15)) (S.2.2.2.2 _ (List.mem_cons_of_mem _ wT_15_16)) (S.2.2.2.2 _ (List.mem_cons_of_mem _ wT_15_17)) (S.2.2.2.2 _ (List.mem_cons_of_mem _ wT_15_18)) (Nat.le_of_ble_eq_true rfl) (Nat.le_of_ble_eq_true rfl) (Nat.zero_le _) (Nat.zero_le _) dX7_takeNumber_49 ?_
        obtain ⟨h23, e24, f⟩ := ob f
        refine o_pI S lp7_takeNumber_53 I e24 dX7_takeNumber_52 (fun H locs I => ?_)
        refine lv_aload_n S.1 S.2.1 dX7_takeNumber_55 rfl (lv_at hl 0 rfl) ?_
        refine lv_dup S.1 S.2.1 dX7_takeNumber_56 rfl ?_
        obtain ⟨v25, e26, f⟩ := ob f
        refine o_gI S lf7_takeNumber_44 I e26 dX7_takeNumber_57 ?_
        refine lv_iconst (v := 1) S.1 S.2.1 dX7_takeNumber_60 (by decide) ?_
        refine lv_iadd S.1 S.2.1 dX7_takeNumber_61 ?_
        obtain ⟨h27, e28, f⟩ := ob f
        refine o_pI S lp7_takeNumber_44 I e28 dX7_takeNumber_62 (fun H locs I => ?_)
        refine lv_goto (tgt := 0) S.1 S.2.1 dX7_takeNumber_65 (by decide) ?_
        exact ih f I (lv_sub hl [0] rfl)
theorem M7_takeNumber (l : Launch) (D : va_G) (cy : Nat → ClassId) (b : Nat) (A : Nat → Prop) (fl : Bool) {h : PH} {a0 : Nat} {out : PH} (f : F7_takeNumber h a0 = some out) : Met l yX7_takeNumber vX7_takeNumber ({ frames := 1, cells := 0, slots := 0, locals := 24 } : Room) (va_Pc [.ref (b + a0)] (ph_B D cy b A fl h)) (va_Qv (fun (u : PH) => u = out) (ph_B D cy b A fl) A) 0 0 A :=
  o_met (by decide) rfl (Nat.le_of_ble_eq_true rfl) rfl (fun p e s m below meth c S hr hlo hnm ls hl I => T7_takeNumber_0 S hr hlo 1024 ((gd f).2) I (lv_sub hl [0] rfl))
def vX7_signOf : List Cond := .code yX7_signOf cX7_signOf 1 (some .int) :: TB
theorem cd7_signOf : Cd yX7_signOf 1 := ⟨by decide, by decide, by decide +kernel⟩
set_option maxHeartbeats 4000000 in
set_option maxRecDepth 100000 in
theorem T7_signOf_0 (S : CallFix p m c cX7_signOf 1 s args vX7_signOf RX7) (hr : meth.sig.returnType = (some .int)) (hlo : meth.locks = false) {out : Int32 × PH} {h : PH} {x0 : Int32} (f : F7_signOf_0  h x0 = some out) {H : Heap} {locs : List Loc} (I : ph_I D cy b A fl h s H locs) {ls : Array Slot} (hl : lv_has ls 1 [(0, .int x0)]) : W p l e ({ frames := 0, cells := 0, slots := 0, locals := 0 } : Room) s m args below meth c H locs 0 0 (MQ below (va_Qi (fun (r : Int32) (u : PH) => (r, u) = out) (ph_B D cy b A fl) A) args s 0 0 A) (F0 m 0 ls []) := by
  unfold F7_signOf_0 at f
  refine lv_iload_n S.1 S.2.1 dX7_signOf_0 rfl (lv_at hl 0 rfl) ?_
  rcases Decidable.em (x0 = 40) with q1 | q1
  · have f := (if_pos q1).symm.trans f
    refine lv_tableIn (off := 110) (tgt := 111) S.1 S.2.1 dX7_signOf_1 (by rw [q1]; decide) (by rw [q1]; decide) (by rw [q1]; rfl) (by decide) ?_
    refine lv_bipush (v := 36) S.1 S.2.1 dX7_signOf_111 (by decide) ?_
    exact o_iret S hr hlo I f dX7_signOf_113
  have f := (if_neg q1).symm.trans f
  rcases Decidable.em (x0 = 41) with q2 | q2
  · have f := (if_pos q2).symm.trans f
    refine lv_tableIn (off := 113) (tgt := 114) S.1 S.2.1 dX7_signOf_1 (by rw [q2]; decide) (by rw [q2]; decide) (by rw [q2]; rfl) (by decide) ?_
    refine lv_bipush (v := 37) S.1 S.2.1 dX7_signOf_114 (by decide) ?_
    exact o_iret S hr hlo I f dX7_signOf_116
  have f := (if_neg q2).symm.trans f
  rcases Decidable.em (x0 = 42) with q3 | q3
  · have f := (if_pos q3).symm.trans f
    refine lv_tableIn (off := 131) (tgt := 132) S.1 S.2.1 dX7_signOf_1 (by rw [q3]; decide) (by rw [q3]; decide) (by rw [q3]; rfl) (by decide) ?_
    refine lv_bipush (v := 34) S.1 S.2.1 dX7_signOf_132 (by decide) ?_
    exact o_iret S hr hlo I f dX7_signOf_134
  have f := (if_neg q3).symm.trans f
  rcases Decidable.em (x0 = 43) with q4 | q4
  · have f := (if_pos q4).symm.trans f
    refine lv_tableIn (off := 125) (tgt := 126) S.1 S.2.1 dX7_signOf_1 (by rw [q4]; decide) (by rw [q4]; decide) (by rw [q4]; rfl) (by decide) ?_
    refine lv_bipush (v := 32) S.1 S.2.1 dX7_signOf_126 (by decide) ?_
    exact o_iret S hr hlo I f dX7_signOf_128
  have f := (if_neg q4).symm.trans f
  rcases Decidable.em (x0 = 45) with q5 | q5
  · have f := (if_pos q5).symm.trans f
    refine lv_tableIn (off := 128) (tgt := 129) S.1 S.2.1 dX7_signOf_1 (by rw [q5]; decide) (by rw [q5]; decide) (by rw [q5]; rfl) (by decide) ?_
    refine lv_bipush (v := 33) S.1 S.2.1 dX7_signOf_129 (by decide) ?_
    exact o_iret S hr hlo I f dX7_signOf_131
  have f := (if_neg q5).symm.trans f
  rcases Decidable.em (x0 = 47) with q6 | q6
  · have f := (if_pos q6).symm.trans f
    refine lv_tableIn (off := 134) (tgt := 135) S.1 S.2.1 dX7_signOf_1 (by rw [q6]; decide) (by rw [q6]; decide) (by rw [q6]; rfl) (by decide) ?_
    refine lv_bipush (v := 35) S.1 S.2.1 dX7_signOf_135 (by decide) ?_
    exact o_iret S hr hlo I f dX7_signOf_137
  have f := (if_neg q6).symm.trans f
  rcases Decidable.em (x0 = 59) with q7 | q7
  · have f := (if_pos q7).symm.trans f
    refine lv_tableIn (off := 107) (tgt := 108) S.1 S.2.1 dX7_signOf_1 (by rw [q7]; decide) (by rw [q7]; decide) (by rw [q7]; rfl) (by decide) ?_
    refine lv_bipush (v := 38) S.1 S.2.1 dX7_signOf_108 (by decide) ?_
    exact o_iret S hr hlo I f dX7_signOf_110
  have f := (if_neg q7).symm.trans f
  rcases Decidable.em (x0 = 60) with q8 | q8
  · have f := (if_pos q8).symm.trans f
    refine lv_tableIn (off := 116) (tgt := 117) S.1 S.2.1 dX7_signOf_1 (by rw [q8]; decide) (by rw [q8]; decide) (by rw [q8]; rfl) (by decide) ?_
    refine lv_bipush (v := 26) S.1 S.2.1 dX7_signOf_117 (by decide) ?_
    exact o_iret S hr hlo I f dX7_signOf_119
  have f := (if_neg q8).symm.trans f
  rcases Decidable.em (x0 = 61) with q9 | q9
  · have f := (if_pos q9).symm.trans f
    refine lv_tableIn (off := 119) (tgt := 120) S.1 S.2.1 dX7_signOf_1 (by rw [q9]; decide) (by rw [q9]; decide) (by rw [q9]; rfl) (by decide) ?_
    refine lv_bipush (v := 28) S.1 S.2.1 dX7_signOf_120 (by decide) ?_
    exact o_iret S hr hlo I f dX7_signOf_122
  have f := (if_neg q9).symm.trans f
  rcases Decidable.em (x0 = 62) with q10 | q10
  · have f := (if_pos q10).symm.trans f
    refine lv_tableIn (off := 122) (tgt := 123) S.1 S.2.1 dX7_signOf_1 (by rw [q10]; decide) (by rw [q10]; decide) (by rw [q10]; rfl) (by decide) ?_
    refine lv_bipush (v := 31) S.1 S.2.1 dX7_signOf_123 (by decide) ?_
    exact o_iret S hr hlo I f dX7_signOf_125
  have f := (if_neg q10).symm.trans f
  suffices K : W p l e ({ frames := 0, cells := 0, slots := 0, locals := 0 } : Room) s m args below meth c H locs 0 0 (MQ below (va_Qi (fun (r : Int32) (u : PH) => (r, u) = out) (ph_B D cy b A fl) A) args s 0 0 A) (F0 m 138 ls []) by
    have := lv_neT q1 (a := 40) (by decide)
    have := lv_neT q2 (a := 41) (by decide)
    have := lv_neT q3 (a := 42) (by decide)
    have := lv_neT q4 (a := 43) (by decide)
    have := lv_neT q5 (a := 45) (by decide)
    have := lv_neT q6 (a := 47) (by decide)
    have := lv_neT q7 (a := 59) (by decide)
    have := lv_neT q8 (a := 60) (by decide)
    have := lv_neT q9 (a := 61) (by decide)
    have := lv_neT q10 (a := 62) (by decide)
    have g9 : (x0).toInt < 40 ∨ 62 < (x0).toInt ∨ (x0).toInt = 44 ∨ (x0).toInt = 46 ∨ (x0).toInt = 48 ∨ (x0).toInt = 49 ∨ (x0).toInt = 50 ∨ (x0).toInt = 51 ∨ (x0).toInt = 52 ∨ (x0).toInt = 53 ∨ (x0).toInt = 54 ∨ (x0).toInt = 55 ∨ (x0).toInt = 56 ∨ (x0).toInt = 57 ∨ (x0).toInt = 58 := by omega
    rcases g9 with g9 | g9 | g9 | g9 | g9 | g9 | g9 | g9 | g9 | g9 | g9 | g9 | g9 | g9 | g9
    · exact lv_tableOut (tgt := 138) S.1 S.2.1 dX7_signOf_1 (Or.inl g9) (by decide) K
    · exact lv_tableOut (tgt := 138) S.1 S.2.1 dX7_signOf_1 (Or.inr g9) (by decide) K
    · exact lv_tableIn (off := 137) (tgt := 138) S.1 S.2.1 dX7_signOf_1 (by rw [g9]; decide) (by rw [g9]; decide) (by rw [g9]; rfl) (by decide) K
    · exact lv_tableIn (off := 137) (tgt := 138) S.1 S.2.1 dX7_signOf_1 (by rw [g9]; decide) (by rw [g9]; decide) (by rw [g9]; rfl) (by decide) K
    · exact lv_tableIn (off := 137) (tgt := 138) S.1 S.2.1 dX7_signOf_1 (by rw [g9]; decide) (by rw [g9]; decide) (by rw [g9]; rfl) (by decide) K
    · exact lv_tableIn (off := 137) (tgt := 138) S.1 S.2.1 dX7_signOf_1 (by rw [g9]; decide) (by rw [g9]; decide) (by rw [g9]; rfl) (by decide) K
    · exact lv_tableIn (off := 137) (tgt := 138) S.1 S.2.1 dX7_signOf_1 (by rw [g9]; decide) (by rw [g9]; decide) (by rw [g9]; rfl) (by decide) K
    · exact lv_tableIn (off := 137) (tgt := 138) S.1 S.2.1 dX7_signOf_1 (by rw [g9]; decide) (by rw [g9]; decide) (by rw [g9]; rfl) (by decide) K
    · exact lv_tableIn (off := 137) (tgt := 138) S.1 S.2.1 dX7_signOf_1 (by rw [g9]; decide) (by rw [g9]; decide) (by rw [g9]; rfl) (by decide) K
    · exact lv_tableIn (off := 137) (tgt := 138) S.1 S.2.1 dX7_signOf_1 (by rw [g9]; decide) (by rw [g9]; decide) (by rw [g9]; rfl) (by decide) K
    · exact lv_tableIn (off := 137) (tgt := 138) S.1 S.2.1 dX7_signOf_1 (by rw [g9]; decide) (by rw [g9]; decide) (by rw [g9]; rfl) (by decide) K
    · exact lv_tableIn (off := 137) (tgt := 138) S.1 S.2.1 dX7_signOf_1 (by rw [g9]; decide) (by rw [g9]; decide) (by rw [g9]; rfl) (by decide) K
    · exact lv_tableIn (off := 137) (tgt := 138) S.1 S.2.1 dX7_signOf_1 (by rw [g9]; decide) (by rw [g9]; decide) (by rw [g9]; rfl) (by decide) K
    · exact lv_tableIn (off := 137) (tgt := 138) S.1 S.2.1 dX7_signOf_1 (by rw [g9]; decide) (by rw [g9]; decide) (by rw [g9]; rfl) (by decide) K
    · exact lv_tableIn (off := 137) (tgt := 138) S.1 S.2.1 dX7_signOf_1 (by rw [g9]; decide) (by rw [g9]; decide) (by rw [g9]; rfl) (by decide) K
  refine lv_bipush (v := 40) S.1 S.2.1 dX7_signOf_138 (by decide) ?_
  exact o_iret S hr hlo I f dX7_signOf_140
theorem M7_signOf (l : Launch) (D : va_G) (cy : Nat → ClassId) (b : Nat) (A : Nat → Prop) (fl : Bool) {h : PH} {x0 : Int32} {out : Int32 × PH} (f : F7_signOf h x0 = some out) : Met l yX7_signOf vX7_signOf ({ frames := 0, cells := 0, slots := 0, locals := 0 } : Room) (va_Pc [.int x0] (ph_B D cy b A fl h)) (va_Qi (fun (r : Int32) (u : PH) => (r, u) = out) (ph_B D cy b A fl) A) 0 0 A :=
  o_met (by decide) rfl (Nat.le_of_ble_eq_true rfl) rfl (fun p e s m below meth c S hr hlo hnm ls hl I => T7_signOf_0 S hr hlo (f) I (lv_sub hl [0] rfl))
def vX7_isNext : List Cond := .code yX7_isNext cX7_isNext 2 (some .boolean) :: TB
theorem lf7_isNext_44 : Fl vX7_isNext RX7 44 7 3 := ⟨RX7, TX7, 7, rfl, by decide, (fun w h9 => List.mem_cons_of_mem _ (wC_wsX70 w h9)), (List.mem_cons_of_mem _ wT_15_20)⟩
theorem lf7_isNext_40 : Fl vX7_isNext RX7 40 7 2 := ⟨RX7, TX7, 7, rfl, by decide, (fun w h9 => List.mem_cons_of_mem _ (wC_wsX70 w h9)), (List.mem_cons_of_mem _ wT_15_19)⟩
theorem lf7_isNext_15 : Fl vX7_isNext RX7 15 7 1 := ⟨RX7, TX7, 7, rfl, by decide, (fun w h9 => List.mem_cons_of_mem _ (wC_wsX70 w h9)), (List.mem_cons_of_mem _ wT_5_11)⟩
theorem cd7_isNext : Cd yX7_isNext 1 := ⟨by decide, by decide, by decide +kernel⟩
set_option maxHeartbeats 4000000 in
set_option maxRecDepth 100000 in
theorem T7_isNext_0 (S : CallFix p m c cX7_isNext 2 s args vX7_isNext RX7) (hr : meth.sig.returnType = (some .boolean)) (hlo : meth.locks = false) {out : Int32 × PH} {h : PH} {a0 : Nat} {x1 : Int32} (f : F7_isNext_0  h a0 x1 = some out) {H : Heap} {locs : List Loc} (I : ph_I D cy b A fl h s H locs) {ls : Array Slot} (hl : lv_has ls 2 [(0, .ref (b + a0)), (1, .int x1)]) : W p l e ({ frames := 0, cells := 0, slots := 0, locals := 0 } : Room) s m args below meth c H locs 0 0 (MQ below (va_Qi (fun (r : Int32) (u : PH) => (r, u) = out) (ph_B D cy b A fl) A) args s 0 0 A) (F0 m 0 ls []) := by
  unfold F7_isNext_0 at f
  refine lv_aload_n S.1 S.2.1 dX7_isNext_0 rfl (lv_at hl 0 rfl) ?_
  obtain ⟨v1, e2, f⟩ := ob f
  refine o_gI S lf7_isNext_44 I e2 dX7_isNext_1 ?_
  refine lv_aload_n S.1 S.2.1 dX7_isNext_4 rfl (lv_at hl 0 rfl) ?_
  obtain ⟨v3, e4, f⟩ := ob f
  refine o_gI S lf7_isNext_40 I e4 dX7_isNext_5 ?_
  refine lv_icmp_ge (tgt := 28) S.1 S.2.1 dX7_isNext_8 (by decide) (fun q5 => ?_) (fun q5 => ?_)
  · have f := (if_pos q5).symm.trans f
    refine lv_iconst (v := 0) S.1 S.2.1 dX7_isNext_28 (by decide) ?_
    exact o_zret S hr hlo I f dX7_isNext_29
  · have f := (if_neg q5).symm.trans f
    refine lv_aload_n S.1 S.2.1 dX7_isNext_11 rfl (lv_at hl 0 rfl) ?_
    obtain ⟨r6, e7, f⟩ := ob f
    refine o_gR S lf7_isNext_15 I e7 dX7_isNext_12 ?_
    refine lv_aload_n S.1 S.2.1 dX7_isNext_15 rfl (lv_at hl 0 rfl) ?_
    obtain ⟨v8, e9, f⟩ := ob f
    refine o_gI S lf7_isNext_44 I e9 dX7_isNext_16 ?_
    obtain ⟨v11, e10, f⟩ := ob f
    refine o_bald S I e10 dX7_isNext_19 ?_
    refine lv_iload_n S.1 S.2.1 dX7_isNext_20 rfl (lv_at hl 1 rfl) ?_
    refine lv_icmp_ne (tgt := 28) S.1 S.2.1 dX7_isNext_21 (by decide) (fun q12 => ?_) (fun q12 => ?_)
    · have f := (if_neg q12).symm.trans f
      refine lv_iconst (v := 0) S.1 S.2.1 dX7_isNext_28 (by decide) ?_
      exact o_zret S hr hlo I f dX7_isNext_29
    · have f := (if_pos q12).symm.trans f
      refine lv_iconst (v := 1) S.1 S.2.1 dX7_isNext_24 (by decide) ?_
      refine lv_goto (tgt := 29) S.1 S.2.1 dX7_isNext_25 (by decide) ?_
      exact o_zret S hr hlo I f dX7_isNext_29
theorem M7_isNext (l : Launch) (D : va_G) (cy : Nat → ClassId) (b : Nat) (A : Nat → Prop) (fl : Bool) {h : PH} {a0 : Nat} {x1 : Int32} {out : Int32 × PH} (f : F7_isNext h a0 x1 = some out) : Met l yX7_isNext vX7_isNext ({ frames := 0, cells := 0, slots := 0, locals := 0 } : Room) (va_Pc [.ref (b + a0), .int x1] (ph_B D cy b A fl h)) (va_Qi (fun (r : Int32) (u : PH) => (r, u) = out) (ph_B D cy b A fl) A) 0 0 A :=
  o_met (by decide) rfl (Nat.le_of_ble_eq_true rfl) rfl (fun p e s m below meth c S hr hlo hnm ls hl I => T7_isNext_0 S hr hlo ((gd f).2) I (lv_sub hl [0, 1] rfl))
def vX7_takeSign : List Cond := .code yX7_takeSign cX7_takeSign 2 none :: TB
theorem lf7_takeSign_56 : Fl vX7_takeSign RX7 56 7 4 := ⟨RX7, TX7, 7, rfl, by decide, (fun w h9 => List.mem_cons_of_mem _ (wC_wsX70 w h9)), (List.mem_cons_of_mem _ wT_16_3)⟩
theorem gX7_takeSign_X7_isNext : GoodIn vX7_takeSign (wsV RX7 79 RX7 yX7_isNext vX7_isNext) := gV_of wT_17_7 wT_17_8 wT_17_9 wT_5_2 wT_17_10
theorem lp7_takeSign_56 : Pl vX7_takeSign RX7 56 7 4 .int := ⟨RX7, TX7, 7, tyX7, rfl, by decide, (fun w h9 => List.mem_cons_of_mem _ (wC_wsX70 w h9)), (List.mem_cons_of_mem _ wT_16_3), tyX7_ok, nmX7, rfl, rfl⟩
theorem lf7_takeSign_44 : Fl vX7_takeSign RX7 44 7 3 := ⟨RX7, TX7, 7, rfl, by decide, (fun w h9 => List.mem_cons_of_mem _ (wC_wsX70 w h9)), (List.mem_cons_of_mem _ wT_15_20)⟩
theorem lp7_takeSign_44 : Pl vX7_takeSign RX7 44 7 3 .int := ⟨RX7, TX7, 7, tyX7, rfl, by decide, (fun w h9 => List.mem_cons_of_mem _ (wC_wsX70 w h9)), (List.mem_cons_of_mem _ wT_15_20), tyX7_ok, nmX7, rfl, rfl⟩
theorem lf7_takeSign_15 : Fl vX7_takeSign RX7 15 7 1 := ⟨RX7, TX7, 7, rfl, by decide, (fun w h9 => List.mem_cons_of_mem _ (wC_wsX70 w h9)), (List.mem_cons_of_mem _ wT_5_11)⟩
theorem gX7_takeSign_X7_signOf : GoodIn vX7_takeSign (va_wsS RX7 76 yX7_signOf vX7_signOf) := gS_of wT_17_4 wT_17_5 wT_5_2 wT_17_6
theorem cd7_takeSign : Cd yX7_takeSign 0 := ⟨by decide, by decide, by decide +kernel⟩
set_option maxHeartbeats 4000000 in
set_option maxRecDepth 100000 in
theorem T7_takeSign_102 (S : CallFix p m c cX7_takeSign 2 s args vX7_takeSign RX7) (hr : meth.sig.returnType = none) (hlo : meth.locks = false) {out : PH} {h : PH} {a0 : Nat} (f : F7_takeSign_102  h a0 = some out) {H : Heap} {locs : List Loc} (I : ph_I D cy b A fl h s H locs) {ls : Array Slot} (hl : lv_has ls 2 [(0, .ref (b + a0))]) : W p l e ({ frames := 1, cells := 0, slots := 0, locals := 21 } : Room) s m args below meth c H locs 0 0 (MQ below (va_Qv (fun (u : PH) => u = out) (ph_B D cy b A fl) A) args s 0 0 A) (F0 m 102 ls []) := by
  unfold F7_takeSign_102 at f
  refine lv_aload_n S.1 S.2.1 dX7_takeSign_102 rfl (lv_at hl 0 rfl) ?_
  obtain ⟨v1, e2, f⟩ := ob f
  refine o_gI S lf7_takeSign_56 I e2 dX7_takeSign_103 ?_
  refine lv_bipush (v := 31) S.1 S.2.1 dX7_takeSign_106 (by decide) ?_
  refine lv_icmp_ne (tgt := 136) S.1 S.2.1 dX7_takeSign_108 (by decide) (fun q3 => ?_) (fun q3 => ?_)
  · have f := (if_neg q3).symm.trans f
    exact o_vret S hr hlo I f dX7_takeSign_136
  · have f := (if_pos q3).symm.trans f
    refine lv_aload_n S.1 S.2.1 dX7_takeSign_111 rfl (lv_at hl 0 rfl) ?_
    refine lv_bipush (v := 61) S.1 S.2.1 dX7_takeSign_112 (by decide) ?_
    obtain ⟨o4, e5, f⟩ := ob f
    refine o_Vi S (As := [.int 61]) (rest := []) (ci := 7) (M7_isNext l D cy b A fl e5) gX7_takeSign_X7_isNext rfl rfl rfl cd7_isNext ⟨Nat.le_of_ble_eq_true rfl, Nat.le_of_ble_eq_true rfl⟩ I (gd e5).1 clX7 rfl rfl hl.1 rfl (Nat.le_of_ble_eq_true rfl) dX7_takeSign_114 ⟨Nat.le_of_ble_eq_true rfl, Nat.le_of_ble_eq_true rfl⟩ (fun H locs I => ?_)
    refine lv_if_eq (tgt := 136) S.1 S.2.1 dX7_takeSign_117 (by decide) (fun q6 => ?_) (fun q6 => ?_)
    · have f := (if_pos q6).symm.trans f
      exact o_vret S hr hlo I f dX7_takeSign_136
    · have f := (if_neg q6).symm.trans f
      refine lv_aload_n S.1 S.2.1 dX7_takeSign_120 rfl (lv_at hl 0 rfl) ?_
      refine lv_bipush (v := 30) S.1 S.2.1 dX7_takeSign_121 (by decide) ?_
      obtain ⟨h7, e8, f⟩ := ob f
      refine o_pI S lp7_takeSign_56 I e8 dX7_takeSign_123 (fun H locs I => ?_)
      refine lv_aload_n S.1 S.2.1 dX7_takeSign_126 rfl (lv_at hl 0 rfl) ?_
      refine lv_dup S.1 S.2.1 dX7_takeSign_127 rfl ?_
      obtain ⟨v9, e10, f⟩ := ob f
      refine o_gI S lf7_takeSign_44 I e10 dX7_takeSign_128 ?_
      refine lv_iconst (v := 1) S.1 S.2.1 dX7_takeSign_131 (by decide) ?_
      refine lv_iadd S.1 S.2.1 dX7_takeSign_132 ?_
      obtain ⟨h11, e12, f⟩ := ob f
      refine o_pI S lp7_takeSign_44 I e12 dX7_takeSign_133 (fun H locs I => ?_)
      exact o_vret S hr hlo I f dX7_takeSign_136
set_option maxHeartbeats 4000000 in
set_option maxRecDepth 100000 in
theorem T7_takeSign_65 (S : CallFix p m c cX7_takeSign 2 s args vX7_takeSign RX7) (hr : meth.sig.returnType = none) (hlo : meth.locks = false) {out : PH} {h : PH} {a0 : Nat} (f : F7_takeSign_65  h a0 = some out) {H : Heap} {locs : List Loc} (I : ph_I D cy b A fl h s H locs) {ls : Array Slot} (hl : lv_has ls 2 [(0, .ref (b + a0))]) : W p l e ({ frames := 1, cells := 0, slots := 0, locals := 21 } : Room) s m args below meth c H locs 0 0 (MQ below (va_Qv (fun (u : PH) => u = out) (ph_B D cy b A fl) A) args s 0 0 A) (F0 m 65 ls []) := by
  unfold F7_takeSign_65 at f
  refine lv_aload_n S.1 S.2.1 dX7_takeSign_65 rfl (lv_at hl 0 rfl) ?_
  obtain ⟨v1, e2, f⟩ := ob f
  refine o_gI S lf7_takeSign_56 I e2 dX7_takeSign_66 ?_
  refine lv_bipush (v := 26) S.1 S.2.1 dX7_takeSign_69 (by decide) ?_
  refine lv_icmp_ne (tgt := 102) S.1 S.2.1 dX7_takeSign_71 (by decide) (fun q3 => ?_) (fun q3 => ?_)
  · have f := (if_neg q3).symm.trans f
    exact T7_takeSign_102 S hr hlo  f I (lv_sub hl [0] rfl)
  · have f := (if_pos q3).symm.trans f
    refine lv_aload_n S.1 S.2.1 dX7_takeSign_74 rfl (lv_at hl 0 rfl) ?_
    refine lv_bipush (v := 62) S.1 S.2.1 dX7_takeSign_75 (by decide) ?_
    obtain ⟨o4, e5, f⟩ := ob f
    refine o_Vi S (As := [.int 62]) (rest := []) (ci := 7) (M7_isNext l D cy b A fl e5) gX7_takeSign_X7_isNext rfl rfl rfl cd7_isNext ⟨Nat.le_of_ble_eq_true rfl, Nat.le_of_ble_eq_true rfl⟩ I (gd e5).1 clX7 rfl rfl hl.1 rfl (Nat.le_of_ble_eq_true rfl) dX7_takeSign_77 ⟨Nat.le_of_ble_eq_true rfl, Nat.le_of_ble_eq_true rfl⟩ (fun H locs I => ?_)
    refine lv_if_eq (tgt := 102) S.1 S.2.1 dX7_takeSign_80 (by decide) (fun q6 => ?_) (fun q6 => ?_)
    · have f := (if_pos q6).symm.trans f
      exact T7_takeSign_102 S hr hlo  f I (lv_sub hl [0] rfl)
    · have f := (if_neg q6).symm.trans f
      refine lv_aload_n S.1 S.2.1 dX7_takeSign_83 rfl (lv_at hl 0 rfl) ?_
      refine lv_bipush (v := 29) S.1 S.2.1 dX7_takeSign_84 (by decide) ?_
      obtain ⟨h7, e8, f⟩ := ob f
      refine o_pI S lp7_takeSign_56 I e8 dX7_takeSign_86 (fun H locs I => ?_)
      refine lv_aload_n S.1 S.2.1 dX7_takeSign_89 rfl (lv_at hl 0 rfl) ?_
      refine lv_dup S.1 S.2.1 dX7_takeSign_90 rfl ?_
      obtain ⟨v9, e10, f⟩ := ob f
      refine o_gI S lf7_takeSign_44 I e10 dX7_takeSign_91 ?_
      refine lv_iconst (v := 1) S.1 S.2.1 dX7_takeSign_94 (by decide) ?_
      refine lv_iadd S.1 S.2.1 dX7_takeSign_95 ?_
      obtain ⟨h11, e12, f⟩ := ob f
      refine o_pI S lp7_takeSign_44 I e12 dX7_takeSign_96 (fun H locs I => ?_)
      refine lv_goto (tgt := 136) S.1 S.2.1 dX7_takeSign_99 (by decide) ?_
      exact o_vret S hr hlo I f dX7_takeSign_136
set_option maxHeartbeats 4000000 in
set_option maxRecDepth 100000 in
theorem T7_takeSign_0 (S : CallFix p m c cX7_takeSign 2 s args vX7_takeSign RX7) (hr : meth.sig.returnType = none) (hlo : meth.locks = false) {out : PH} {h : PH} {a0 : Nat} (f : F7_takeSign_0  h a0 = some out) {H : Heap} {locs : List Loc} (I : ph_I D cy b A fl h s H locs) {ls : Array Slot} (hl : lv_has ls 2 [(0, .ref (b + a0))]) : W p l e ({ frames := 1, cells := 0, slots := 0, locals := 21 } : Room) s m args below meth c H locs 0 0 (MQ below (va_Qv (fun (u : PH) => u = out) (ph_B D cy b A fl) A) args s 0 0 A) (F0 m 0 ls []) := by
  unfold F7_takeSign_0 at f
  refine lv_aload_n S.1 S.2.1 dX7_takeSign_0 rfl (lv_at hl 0 rfl) ?_
  obtain ⟨r1, e2, f⟩ := ob f
  refine o_gR S lf7_takeSign_15 I e2 dX7_takeSign_1 ?_
  refine lv_aload_n S.1 S.2.1 dX7_takeSign_4 rfl (lv_at hl 0 rfl) ?_
  obtain ⟨v3, e4, f⟩ := ob f
  refine o_gI S lf7_takeSign_44 I e4 dX7_takeSign_5 ?_
  obtain ⟨v6, e5, f⟩ := ob f
  refine o_bald S I e5 dX7_takeSign_8 ?_
  refine lv_istore_n (lv' := [(1, .int v6), (0, .ref (b + a0))]) S.1 S.2.1 dX7_takeSign_9 rfl hl (by decide) rfl (fun ls hl => ?_)
  refine lv_aload_n S.1 S.2.1 dX7_takeSign_10 rfl (lv_at hl 1 rfl) ?_
  refine lv_dup S.1 S.2.1 dX7_takeSign_11 rfl ?_
  obtain ⟨v7, e8, f⟩ := ob f
  refine o_gI S lf7_takeSign_44 I e8 dX7_takeSign_12 ?_
  refine lv_iconst (v := 1) S.1 S.2.1 dX7_takeSign_15 (by decide) ?_
  refine lv_iadd S.1 S.2.1 dX7_takeSign_16 ?_
  obtain ⟨h9, e10, f⟩ := ob f
  refine o_pI S lp7_takeSign_44 I e10 dX7_takeSign_17 (fun H locs I => ?_)
  refine lv_aload_n S.1 S.2.1 dX7_takeSign_20 rfl (lv_at hl 1 rfl) ?_
  refine lv_iload_n S.1 S.2.1 dX7_takeSign_21 rfl (lv_at hl 0 rfl) ?_
  obtain ⟨o11, e12, f⟩ := ob f
  refine o_Si S (As := [.int v6]) (rest := [.ref (b + a0)]) (M7_signOf l D cy b A fl e12) gX7_takeSign_X7_signOf rfl rfl rfl cd7_signOf ⟨Nat.le_of_ble_eq_true rfl, Nat.le_of_ble_eq_true rfl⟩ I rfl hl.1 rfl (Nat.le_of_ble_eq_true rfl) dX7_takeSign_22 ⟨Nat.le_of_ble_eq_true rfl, Nat.le_of_ble_eq_true rfl⟩ (fun H locs I => ?_)
  obtain ⟨h13, e14, f⟩ := ob f
  refine o_pI S lp7_takeSign_56 I e14 dX7_takeSign_25 (fun H locs I => ?_)
  refine lv_aload_n S.1 S.2.1 dX7_takeSign_28 rfl (lv_at hl 1 rfl) ?_
  obtain ⟨v15, e16, f⟩ := ob f
  refine o_gI S lf7_takeSign_56 I e16 dX7_takeSign_29 ?_
  refine lv_bipush (v := 26) S.1 S.2.1 dX7_takeSign_32 (by decide) ?_
  refine lv_icmp_ne (tgt := 65) S.1 S.2.1 dX7_takeSign_34 (by decide) (fun q17 => ?_) (fun q17 => ?_)
  · have f := (if_neg q17).symm.trans f
    exact T7_takeSign_65 S hr hlo  f I (lv_sub hl [1] rfl)
  · have f := (if_pos q17).symm.trans f
    refine lv_aload_n S.1 S.2.1 dX7_takeSign_37 rfl (lv_at hl 1 rfl) ?_
    refine lv_bipush (v := 61) S.1 S.2.1 dX7_takeSign_38 (by decide) ?_
    obtain ⟨o18, e19, f⟩ := ob f
    refine o_Vi S (As := [.int 61]) (rest := []) (ci := 7) (M7_isNext l D cy b A fl e19) gX7_takeSign_X7_isNext rfl rfl rfl cd7_isNext ⟨Nat.le_of_ble_eq_true rfl, Nat.le_of_ble_eq_true rfl⟩ I (gd e19).1 clX7 rfl rfl hl.1 rfl (Nat.le_of_ble_eq_true rfl) dX7_takeSign_40 ⟨Nat.le_of_ble_eq_true rfl, Nat.le_of_ble_eq_true rfl⟩ (fun H locs I => ?_)
    refine lv_if_eq (tgt := 65) S.1 S.2.1 dX7_takeSign_43 (by decide) (fun q20 => ?_) (fun q20 => ?_)
    · have f := (if_pos q20).symm.trans f
      exact T7_takeSign_65 S hr hlo  f I (lv_sub hl [1] rfl)
    · have f := (if_neg q20).symm.trans f
      refine lv_aload_n S.1 S.2.1 dX7_takeSign_46 rfl (lv_at hl 1 rfl) ?_
      refine lv_bipush (v := 27) S.1 S.2.1 dX7_takeSign_47 (by decide) ?_
      obtain ⟨h21, e22, f⟩ := ob f
      refine o_pI S lp7_takeSign_56 I e22 dX7_takeSign_49 (fun H locs I => ?_)
      refine lv_aload_n S.1 S.2.1 dX7_takeSign_52 rfl (lv_at hl 1 rfl) ?_
      refine lv_dup S.1 S.2.1 dX7_takeSign_53 rfl ?_
      obtain ⟨v23, e24, f⟩ := ob f
      refine o_gI S lf7_takeSign_44 I e24 dX7_takeSign_54 ?_
      refine lv_iconst (v := 1) S.1 S.2.1 dX7_takeSign_57 (by decide) ?_
      refine lv_iadd S.1 S.2.1 dX7_takeSign_58 ?_
      obtain ⟨h25, e26, f⟩ := ob f
      refine o_pI S lp7_takeSign_44 I e26 dX7_takeSign_59 (fun H locs I => ?_)
      refine lv_goto (tgt := 136) S.1 S.2.1 dX7_takeSign_62 (by decide) ?_
      exact o_vret S hr hlo I f dX7_takeSign_136
theorem M7_takeSign (l : Launch) (D : va_G) (cy : Nat → ClassId) (b : Nat) (A : Nat → Prop) (fl : Bool) {h : PH} {a0 : Nat} {out : PH} (f : F7_takeSign h a0 = some out) : Met l yX7_takeSign vX7_takeSign ({ frames := 1, cells := 0, slots := 0, locals := 21 } : Room) (va_Pc [.ref (b + a0)] (ph_B D cy b A fl h)) (va_Qv (fun (u : PH) => u = out) (ph_B D cy b A fl) A) 0 0 A :=
  o_met (by decide) rfl (Nat.le_of_ble_eq_true rfl) rfl (fun p e s m below meth c S hr hlo hnm ls hl I => T7_takeSign_0 S hr hlo ((gd f).2) I (lv_sub hl [0] rfl))
def vX7_advance : List Cond := .code yX7_advance cX7_advance 1 none :: TB
theorem gX7_advance_X7_skipBlanks : GoodIn vX7_advance (wsV RX7 47 RX7 yX7_skipBlanks vX7_skipBlanks) := gV_of wT_16_4 wT_16_5 wT_16_6 wT_5_2 wT_16_7
theorem lf7_advance_44 : Fl vX7_advance RX7 44 7 3 := ⟨RX7, TX7, 7, rfl, by decide, (fun w h9 => List.mem_cons_of_mem _ (wC_wsX70 w h9)), (List.mem_cons_of_mem _ wT_15_20)⟩
theorem lp7_advance_50 : Pl vX7_advance RX7 50 7 5 .int := ⟨RX7, TX7, 7, tyX7, rfl, by decide, (fun w h9 => List.mem_cons_of_mem _ (wC_wsX70 w h9)), (List.mem_cons_of_mem _ wT_16_1), tyX7_ok, nmX7, rfl, rfl⟩
theorem lp7_advance_53 : Pl vX7_advance RX7 53 7 6 .int := ⟨RX7, TX7, 7, tyX7, rfl, by decide, (fun w h9 => List.mem_cons_of_mem _ (wC_wsX70 w h9)), (List.mem_cons_of_mem _ wT_16_2), tyX7_ok, nmX7, rfl, rfl⟩
theorem lf7_advance_40 : Fl vX7_advance RX7 40 7 2 := ⟨RX7, TX7, 7, rfl, by decide, (fun w h9 => List.mem_cons_of_mem _ (wC_wsX70 w h9)), (List.mem_cons_of_mem _ wT_15_19)⟩
theorem lf7_advance_15 : Fl vX7_advance RX7 15 7 1 := ⟨RX7, TX7, 7, rfl, by decide, (fun w h9 => List.mem_cons_of_mem _ (wC_wsX70 w h9)), (List.mem_cons_of_mem _ wT_5_11)⟩
theorem gX7_advance_X7_isLetter : GoodIn vX7_advance (va_wsS RX7 27 yX7_isLetter vX7_isLetter) := gS_of wT_7_5 wT_7_6 wT_5_2 wT_7_7
theorem gX7_advance_X7_isDigit : GoodIn vX7_advance (va_wsS RX7 62 yX7_isDigit vX7_isDigit) := gS_of wT_16_16 wT_16_17 wT_5_2 wT_16_18
theorem gX7_advance_X7_takeSign : GoodIn vX7_advance (wsV RX7 68 RX7 yX7_takeSign vX7_takeSign) := gV_of wT_17_0 wT_17_1 wT_17_2 wT_5_2 wT_17_3
theorem gX7_advance_X7_takeNumber : GoodIn vX7_advance (wsV RX7 65 RX7 yX7_takeNumber vX7_takeNumber) := gV_of wT_16_19 wT_16_20 wT_16_21 wT_5_2 wT_16_22
theorem gX7_advance_X7_takeWord : GoodIn vX7_advance (wsV RX7 59 RX7 yX7_takeWord vX7_takeWord) := gV_of wT_16_8 wT_16_9 wT_16_10 wT_5_2 wT_16_11
theorem lp7_advance_56 : Pl vX7_advance RX7 56 7 4 .int := ⟨RX7, TX7, 7, tyX7, rfl, by decide, (fun w h9 => List.mem_cons_of_mem _ (wC_wsX70 w h9)), (List.mem_cons_of_mem _ wT_16_3), tyX7_ok, nmX7, rfl, rfl⟩
theorem cd7_advance : Cd yX7_advance 0 := ⟨by decide, by decide, by decide +kernel⟩
set_option maxHeartbeats 4000000 in
set_option maxRecDepth 100000 in
theorem T7_advance_0 (S : CallFix p m c cX7_advance 1 s args vX7_advance RX7) (hr : meth.sig.returnType = none) (hlo : meth.locks = false) {out : PH} {h : PH} {a0 : Nat} (f : F7_advance_0  h a0 = some out) {H : Heap} {locs : List Loc} (I : ph_I D cy b A fl h s H locs) {ls : Array Slot} (hl : lv_has ls 1 [(0, .ref (b + a0))]) : W p l e ({ frames := 2, cells := 0, slots := 0, locals := 44 } : Room) s m args below meth c H locs 0 0 (MQ below (va_Qv (fun (u : PH) => u = out) (ph_B D cy b A fl) A) args s 0 0 A) (F0 m 0 ls []) := by
  unfold F7_advance_0 at f
  refine lv_aload_n S.1 S.2.1 dX7_advance_0 rfl (lv_at hl 0 rfl) ?_
  obtain ⟨o1, e2, f⟩ := ob f
  refine o_Vv S (As := []) (rest := []) (ci := 7) (M7_skipBlanks l D cy b A fl e2) gX7_advance_X7_skipBlanks rfl rfl rfl cd7_skipBlanks ⟨Nat.le_of_ble_eq_true rfl, Nat.le_of_ble_eq_true rfl⟩ I (gd e2).1 clX7 rfl rfl hl.1 rfl (Nat.le_of_ble_eq_true rfl) dX7_advance_1 ⟨Nat.le_of_ble_eq_true rfl, Nat.le_of_ble_eq_true rfl⟩ (fun H locs I => ?_)
  refine lv_aload_n S.1 S.2.1 dX7_advance_4 rfl (lv_at hl 0 rfl) ?_
  refine lv_aload_n S.1 S.2.1 dX7_advance_5 rfl (lv_at hl 0 rfl) ?_
  obtain ⟨v3, e4, f⟩ := ob f
  refine o_gI S lf7_advance_44 I e4 dX7_advance_6 ?_
  obtain ⟨h5, e6, f⟩ := ob f
  refine o_pI S lp7_advance_50 I e6 dX7_advance_9 (fun H locs I => ?_)
  refine lv_aload_n S.1 S.2.1 dX7_advance_12 rfl (lv_at hl 0 rfl) ?_
  refine lv_iconst (v := 0) S.1 S.2.1 dX7_advance_13 (by decide) ?_
  obtain ⟨h7, e8, f⟩ := ob f
  refine o_pI S lp7_advance_53 I e8 dX7_advance_14 (fun H locs I => ?_)
  refine lv_aload_n S.1 S.2.1 dX7_advance_17 rfl (lv_at hl 0 rfl) ?_
  obtain ⟨v9, e10, f⟩ := ob f
  refine o_gI S lf7_advance_44 I e10 dX7_advance_18 ?_
  refine lv_aload_n S.1 S.2.1 dX7_advance_21 rfl (lv_at hl 0 rfl) ?_
  obtain ⟨v11, e12, f⟩ := ob f
  refine o_gI S lf7_advance_40 I e12 dX7_advance_22 ?_
  refine lv_icmp_lt (tgt := 37) S.1 S.2.1 dX7_advance_25 (by decide) (fun q13 => ?_) (fun q13 => ?_)
  · have f := (if_pos q13).symm.trans f
    refine lv_aload_n S.1 S.2.1 dX7_advance_37 rfl (lv_at hl 0 rfl) ?_
    obtain ⟨r14, e15, f⟩ := ob f
    refine o_gR S lf7_advance_15 I e15 dX7_advance_38 ?_
    refine lv_aload_n S.1 S.2.1 dX7_advance_41 rfl (lv_at hl 0 rfl) ?_
    obtain ⟨v16, e17, f⟩ := ob f
    refine o_gI S lf7_advance_44 I e17 dX7_advance_42 ?_
    obtain ⟨v19, e18, f⟩ := ob f
    refine o_bald S I e18 dX7_advance_45 ?_
    obtain ⟨o20, e21, f⟩ := ob f
    refine o_Si S (As := [.int v19]) (rest := []) (M7_isLetter l D cy b A fl e21) gX7_advance_X7_isLetter rfl rfl rfl cd7_isLetter ⟨Nat.le_of_ble_eq_true rfl, Nat.le_of_ble_eq_true rfl⟩ I rfl hl.1 rfl (Nat.le_of_ble_eq_true rfl) dX7_advance_46 ⟨Nat.le_of_ble_eq_true rfl, Nat.le_of_ble_eq_true rfl⟩ (fun H locs I => ?_)
    refine lv_if_eq (tgt := 59) S.1 S.2.1 dX7_advance_49 (by decide) (fun q22 => ?_) (fun q22 => ?_)
    · have f := (if_pos q22).symm.trans f
      refine lv_aload_n S.1 S.2.1 dX7_advance_59 rfl (lv_at hl 0 rfl) ?_
      obtain ⟨r23, e24, f⟩ := ob f
      refine o_gR S lf7_advance_15 I e24 dX7_advance_60 ?_
      refine lv_aload_n S.1 S.2.1 dX7_advance_63 rfl (lv_at hl 0 rfl) ?_
      obtain ⟨v25, e26, f⟩ := ob f
      refine o_gI S lf7_advance_44 I e26 dX7_advance_64 ?_
      obtain ⟨v28, e27, f⟩ := ob f
      refine o_bald S I e27 dX7_advance_67 ?_
      obtain ⟨o29, e30, f⟩ := ob f
      refine o_Si S (As := [.int v28]) (rest := []) (M7_isDigit l D cy b A fl e30) gX7_advance_X7_isDigit rfl rfl rfl cd7_isDigit ⟨Nat.le_of_ble_eq_true rfl, Nat.le_of_ble_eq_true rfl⟩ I rfl hl.1 rfl (Nat.le_of_ble_eq_true rfl) dX7_advance_68 ⟨Nat.le_of_ble_eq_true rfl, Nat.le_of_ble_eq_true rfl⟩ (fun H locs I => ?_)
      refine lv_if_eq (tgt := 81) S.1 S.2.1 dX7_advance_71 (by decide) (fun q31 => ?_) (fun q31 => ?_)
      · have f := (if_pos q31).symm.trans f
        refine lv_aload_n S.1 S.2.1 dX7_advance_81 rfl (lv_at hl 0 rfl) ?_
        obtain ⟨o32, e33, f⟩ := ob f
        refine o_Vv S (As := []) (rest := []) (ci := 7) (M7_takeSign l D cy b A fl e33) gX7_advance_X7_takeSign rfl rfl rfl cd7_takeSign ⟨Nat.le_of_ble_eq_true rfl, Nat.le_of_ble_eq_true rfl⟩ I (gd e33).1 clX7 rfl rfl hl.1 rfl (Nat.le_of_ble_eq_true rfl) dX7_advance_82 ⟨Nat.le_of_ble_eq_true rfl, Nat.le_of_ble_eq_true rfl⟩ (fun H locs I => ?_)
        exact o_vret S hr hlo I f dX7_advance_85
      · have f := (if_neg q31).symm.trans f
        refine lv_aload_n S.1 S.2.1 dX7_advance_74 rfl (lv_at hl 0 rfl) ?_
        obtain ⟨o34, e35, f⟩ := ob f
        refine o_Vv S (As := []) (rest := []) (ci := 7) (M7_takeNumber l D cy b A fl e35) gX7_advance_X7_takeNumber rfl rfl rfl cd7_takeNumber ⟨Nat.le_of_ble_eq_true rfl, Nat.le_of_ble_eq_true rfl⟩ I (gd e35).1 clX7 rfl rfl hl.1 rfl (Nat.le_of_ble_eq_true rfl) dX7_advance_75 ⟨Nat.le_of_ble_eq_true rfl, Nat.le_of_ble_eq_true rfl⟩ (fun H locs I => ?_)
        refine lv_goto (tgt := 85) S.1 S.2.1 dX7_advance_78 (by decide) ?_
        exact o_vret S hr hlo I f dX7_advance_85
    · have f := (if_neg q22).symm.trans f
      refine lv_aload_n S.1 S.2.1 dX7_advance_52 rfl (lv_at hl 0 rfl) ?_
      obtain ⟨o36, e37, f⟩ := ob f
      refine o_Vv S (As := []) (rest := []) (ci := 7) (M7_takeWord l D cy b A fl e37) gX7_advance_X7_takeWord rfl rfl rfl cd7_takeWord ⟨Nat.le_of_ble_eq_true rfl, Nat.le_of_ble_eq_true rfl⟩ I (gd e37).1 clX7 rfl rfl hl.1 rfl (Nat.le_of_ble_eq_true rfl) dX7_advance_53 ⟨Nat.le_of_ble_eq_true rfl, Nat.le_of_ble_eq_true rfl⟩ (fun H locs I => ?_)
      refine lv_goto (tgt := 85) S.1 S.2.1 dX7_advance_56 (by decide) ?_
      exact o_vret S hr hlo I f dX7_advance_85
  · have f := (if_neg q13).symm.trans f
    refine lv_aload_n S.1 S.2.1 dX7_advance_28 rfl (lv_at hl 0 rfl) ?_
    refine lv_bipush (v := 39) S.1 S.2.1 dX7_advance_29 (by decide) ?_
    obtain ⟨h38, e39, f⟩ := ob f
    refine o_pI S lp7_advance_56 I e39 dX7_advance_31 (fun H locs I => ?_)
    refine lv_goto (tgt := 85) S.1 S.2.1 dX7_advance_34 (by decide) ?_
    exact o_vret S hr hlo I f dX7_advance_85
theorem M7_advance (l : Launch) (D : va_G) (cy : Nat → ClassId) (b : Nat) (A : Nat → Prop) (fl : Bool) {h : PH} {a0 : Nat} {out : PH} (f : F7_advance h a0 = some out) : Met l yX7_advance vX7_advance ({ frames := 2, cells := 0, slots := 0, locals := 44 } : Room) (va_Pc [.ref (b + a0)] (ph_B D cy b A fl h)) (va_Qv (fun (u : PH) => u = out) (ph_B D cy b A fl) A) 0 0 A :=
  o_met (by decide) rfl (Nat.le_of_ble_eq_true rfl) rfl (fun p e s m below meth c S hr hlo hnm ls hl I => T7_advance_0 S hr hlo ((gd f).2) I (lv_sub hl [0] rfl))
def vX5_takenNumber : List Cond := .code yX5_takenNumber cX5_takenNumber 3 (some .int) :: TB
theorem gX5_takenNumber_X5_refuse : GoodIn vX5_takenNumber (wsV RX5 89 RX5 yX5_refuse vX5_refuse) := gV_of wT_18_1 wT_18_2 wT_18_3 wT_1_22 wT_18_4
theorem lf5_takenNumber_18 : Fl vX5_takenNumber RX5 18 5 0 := ⟨RX5, TX5, 11, rfl, by decide, (fun w h9 => List.mem_cons_of_mem _ (wC_wsX50 w h9)), (List.mem_cons_of_mem _ wT_5_3)⟩
theorem lf5_takenNumber_52 : Fl vX5_takenNumber RX5 52 7 4 := ⟨RX7, TX7, 7, rfl, by decide, (fun w h9 => List.mem_cons_of_mem _ (wC_wsX70 w h9)), (List.mem_cons_of_mem _ wT_14_7)⟩
theorem lf5_takenNumber_97 : Fl vX5_takenNumber RX5 97 7 6 := ⟨RX7, TX7, 7, rfl, by decide, (fun w h9 => List.mem_cons_of_mem _ (wC_wsX70 w h9)), (List.mem_cons_of_mem _ wT_18_14)⟩
theorem cd5_takenNumber : Cd yX5_takenNumber 2 := ⟨by decide, by decide, by decide +kernel⟩
set_option maxHeartbeats 4000000 in
set_option maxRecDepth 100000 in
theorem T5_takenNumber_42 (S : CallFix p m c cX5_takenNumber 3 s args vX5_takenNumber RX5) (hr : meth.sig.returnType = (some .int)) (hlo : meth.locks = false) {out : Int32 × PH} {h : PH} {a0 : Nat} (f : F5_takenNumber_42  h a0 = some out) {H : Heap} {locs : List Loc} (I : ph_I D cy b A fl h s H locs) {ls : Array Slot} (hl : lv_has ls 3 [(0, .ref (b + a0))]) : W p l e ({ frames := 1, cells := 0, slots := 0, locals := 21 } : Room) s m args below meth c H locs 0 0 (MQ below (va_Qi (fun (r : Int32) (u : PH) => (r, u) = out) (ph_B D cy b A fl) A) args s 0 0 A) (F0 m 42 ls []) := by
  unfold F5_takenNumber_42 at f
  refine lv_aload_n S.1 S.2.1 dX5_takenNumber_42 rfl (lv_at hl 0 rfl) ?_
  refine lv_iconst (v := 2) S.1 S.2.1 dX5_takenNumber_43 (by decide) ?_
  obtain ⟨o1, e2, f⟩ := ob f
  refine o_Vi S (As := [.int 2]) (rest := []) (ci := 5) (M5_refuse l D cy b A fl e2) gX5_takenNumber_X5_refuse rfl rfl rfl cd5_refuse ⟨Nat.le_of_ble_eq_true rfl, Nat.le_of_ble_eq_true rfl⟩ I (gd e2).1 clX5 rfl rfl hl.1 rfl (Nat.le_of_ble_eq_true rfl) dX5_takenNumber_44 ⟨Nat.le_of_ble_eq_true rfl, Nat.le_of_ble_eq_true rfl⟩ (fun H locs I => ?_)
  refine lv_pop S.1 S.2.1 dX5_takenNumber_47 rfl ?_
  refine lv_iconst (v := (-1)) S.1 S.2.1 dX5_takenNumber_48 (by decide) ?_
  exact o_iret S hr hlo I f dX5_takenNumber_49
set_option maxHeartbeats 4000000 in
set_option maxRecDepth 100000 in
theorem T5_takenNumber_0 (S : CallFix p m c cX5_takenNumber 3 s args vX5_takenNumber RX5) (hr : meth.sig.returnType = (some .int)) (hlo : meth.locks = false) {out : Int32 × PH} {h : PH} {a0 : Nat} {x1 : Int32} {x2 : Int32} (f : F5_takenNumber_0  h a0 x1 x2 = some out) {H : Heap} {locs : List Loc} (I : ph_I D cy b A fl h s H locs) {ls : Array Slot} (hl : lv_has ls 3 [(0, .ref (b + a0)), (1, .int x1), (2, .int x2)]) : W p l e ({ frames := 1, cells := 0, slots := 0, locals := 21 } : Room) s m args below meth c H locs 0 0 (MQ below (va_Qi (fun (r : Int32) (u : PH) => (r, u) = out) (ph_B D cy b A fl) A) args s 0 0 A) (F0 m 0 ls []) := by
  unfold F5_takenNumber_0 at f
  refine lv_aload_n S.1 S.2.1 dX5_takenNumber_0 rfl (lv_at hl 0 rfl) ?_
  obtain ⟨r1, e2, f⟩ := ob f
  refine o_gR S lf5_takenNumber_18 I e2 dX5_takenNumber_1 ?_
  obtain ⟨v3, e4, f⟩ := ob f
  refine o_gI S lf5_takenNumber_52 I e4 dX5_takenNumber_4 ?_
  refine lv_bipush (v := 25) S.1 S.2.1 dX5_takenNumber_7 (by decide) ?_
  refine lv_icmp_eq (tgt := 20) S.1 S.2.1 dX5_takenNumber_9 (by decide) (fun q5 => ?_) (fun q5 => ?_)
  · have f := (if_pos q5).symm.trans f
    refine lv_aload_n S.1 S.2.1 dX5_takenNumber_20 rfl (lv_at hl 0 rfl) ?_
    obtain ⟨r6, e7, f⟩ := ob f
    refine o_gR S lf5_takenNumber_18 I e7 dX5_takenNumber_21 ?_
    obtain ⟨v8, e9, f⟩ := ob f
    refine o_gI S lf5_takenNumber_97 I e9 dX5_takenNumber_24 ?_
    refine lv_iload_n S.1 S.2.1 dX5_takenNumber_27 rfl (lv_at hl 1 rfl) ?_
    refine lv_icmp_lt (tgt := 42) S.1 S.2.1 dX5_takenNumber_28 (by decide) (fun q10 => ?_) (fun q10 => ?_)
    · have f := (if_pos q10).symm.trans f
      exact T5_takenNumber_42 S hr hlo  f I (lv_sub hl [0] rfl)
    · have f := (if_neg q10).symm.trans f
      refine lv_aload_n S.1 S.2.1 dX5_takenNumber_31 rfl (lv_at hl 0 rfl) ?_
      obtain ⟨r11, e12, f⟩ := ob f
      refine o_gR S lf5_takenNumber_18 I e12 dX5_takenNumber_32 ?_
      obtain ⟨v13, e14, f⟩ := ob f
      refine o_gI S lf5_takenNumber_97 I e14 dX5_takenNumber_35 ?_
      refine lv_iload_n S.1 S.2.1 dX5_takenNumber_38 rfl (lv_at hl 2 rfl) ?_
      refine lv_icmp_le (tgt := 50) S.1 S.2.1 dX5_takenNumber_39 (by decide) (fun q15 => ?_) (fun q15 => ?_)
      · have f := (if_pos q15).symm.trans f
        refine lv_aload_n S.1 S.2.1 dX5_takenNumber_50 rfl (lv_at hl 0 rfl) ?_
        obtain ⟨r16, e17, f⟩ := ob f
        refine o_gR S lf5_takenNumber_18 I e17 dX5_takenNumber_51 ?_
        obtain ⟨v18, e19, f⟩ := ob f
        refine o_gI S lf5_takenNumber_97 I e19 dX5_takenNumber_54 ?_
        exact o_iret S hr hlo I f dX5_takenNumber_57
      · have f := (if_neg q15).symm.trans f
        exact T5_takenNumber_42 S hr hlo  f I (lv_sub hl [0] rfl)
  · have f := (if_neg q5).symm.trans f
    refine lv_aload_n S.1 S.2.1 dX5_takenNumber_12 rfl (lv_at hl 0 rfl) ?_
    refine lv_iconst (v := 1) S.1 S.2.1 dX5_takenNumber_13 (by decide) ?_
    obtain ⟨o20, e21, f⟩ := ob f
    refine o_Vi S (As := [.int 1]) (rest := []) (ci := 5) (M5_refuse l D cy b A fl e21) gX5_takenNumber_X5_refuse rfl rfl rfl cd5_refuse ⟨Nat.le_of_ble_eq_true rfl, Nat.le_of_ble_eq_true rfl⟩ I (gd e21).1 clX5 rfl rfl hl.1 rfl (Nat.le_of_ble_eq_true rfl) dX5_takenNumber_14 ⟨Nat.le_of_ble_eq_true rfl, Nat.le_of_ble_eq_true rfl⟩ (fun H locs I => ?_)
    refine lv_pop S.1 S.2.1 dX5_takenNumber_17 rfl ?_
    refine lv_iconst (v := (-1)) S.1 S.2.1 dX5_takenNumber_18 (by decide) ?_
    exact o_iret S hr hlo I f dX5_takenNumber_19
theorem M5_takenNumber (l : Launch) (D : va_G) (cy : Nat → ClassId) (b : Nat) (A : Nat → Prop) (fl : Bool) {h : PH} {a0 : Nat} {x1 : Int32} {x2 : Int32} {out : Int32 × PH} (f : F5_takenNumber h a0 x1 x2 = some out) : Met l yX5_takenNumber vX5_takenNumber ({ frames := 1, cells := 0, slots := 0, locals := 21 } : Room) (va_Pc [.ref (b + a0), .int x1, .int x2] (ph_B D cy b A fl h)) (va_Qi (fun (r : Int32) (u : PH) => (r, u) = out) (ph_B D cy b A fl) A) 0 0 A :=
  o_met (by decide) rfl (Nat.le_of_ble_eq_true rfl) rfl (fun p e s m below meth c S hr hlo hnm ls hl I => T5_takenNumber_0 S hr hlo ((gd f).2) I (lv_sub hl [0, 1, 2] rfl))
def vX5_numberIn : List Cond := .code yX5_numberIn cX5_numberIn 3 (some .int) :: TB
theorem lf5_numberIn_18 : Fl vX5_numberIn RX5 18 5 0 := ⟨RX5, TX5, 11, rfl, by decide, (fun w h9 => List.mem_cons_of_mem _ (wC_wsX50 w h9)), (List.mem_cons_of_mem _ wT_5_3)⟩
theorem gX5_numberIn_X7_advance : GoodIn vX5_numberIn (wsV RX5 49 RX7 yX7_advance vX7_advance) := gV_of wT_15_21 wT_15_22 wT_15_23 wT_5_2 wT_16_0
theorem gX5_numberIn_X5_takenNumber : GoodIn vX5_numberIn (wsV RX5 93 RX5 yX5_takenNumber vX5_takenNumber) := gV_of wT_18_10 wT_18_11 wT_18_12 wT_1_22 wT_18_13
theorem cd5_numberIn : Cd yX5_numberIn 2 := ⟨by decide, by decide, by decide +kernel⟩
set_option maxHeartbeats 4000000 in
set_option maxRecDepth 100000 in
theorem T5_numberIn_0 (S : CallFix p m c cX5_numberIn 3 s args vX5_numberIn RX5) (hr : meth.sig.returnType = (some .int)) (hlo : meth.locks = false) {out : Int32 × PH} {h : PH} {a0 : Nat} {x1 : Int32} {x2 : Int32} (f : F5_numberIn_0  h a0 x1 x2 = some out) {H : Heap} {locs : List Loc} (I : ph_I D cy b A fl h s H locs) {ls : Array Slot} (hl : lv_has ls 3 [(0, .ref (b + a0)), (1, .int x1), (2, .int x2)]) : W p l e ({ frames := 3, cells := 0, slots := 0, locals := 64 } : Room) s m args below meth c H locs 0 0 (MQ below (va_Qi (fun (r : Int32) (u : PH) => (r, u) = out) (ph_B D cy b A fl) A) args s 0 0 A) (F0 m 0 ls []) := by
  unfold F5_numberIn_0 at f
  refine lv_aload_n S.1 S.2.1 dX5_numberIn_0 rfl (lv_at hl 0 rfl) ?_
  obtain ⟨r1, e2, f⟩ := ob f
  refine o_gR S lf5_numberIn_18 I e2 dX5_numberIn_1 ?_
  obtain ⟨o3, e4, f⟩ := ob f
  refine o_Vv S (As := []) (rest := []) (ci := 7) (M7_advance l D cy b A fl e4) gX5_numberIn_X7_advance rfl rfl rfl cd7_advance ⟨Nat.le_of_ble_eq_true rfl, Nat.le_of_ble_eq_true rfl⟩ I (gd e4).1 clX7 rfl rfl hl.1 rfl (Nat.le_of_ble_eq_true rfl) dX5_numberIn_4 ⟨Nat.le_of_ble_eq_true rfl, Nat.le_of_ble_eq_true rfl⟩ (fun H locs I => ?_)
  refine lv_aload_n S.1 S.2.1 dX5_numberIn_7 rfl (lv_at hl 0 rfl) ?_
  refine lv_iload_n S.1 S.2.1 dX5_numberIn_8 rfl (lv_at hl 1 rfl) ?_
  refine lv_iload_n S.1 S.2.1 dX5_numberIn_9 rfl (lv_at hl 2 rfl) ?_
  obtain ⟨o5, e6, f⟩ := ob f
  refine o_Vi S (As := [.int x1, .int x2]) (rest := []) (ci := 5) (M5_takenNumber l D cy b A fl e6) gX5_numberIn_X5_takenNumber rfl rfl rfl cd5_takenNumber ⟨Nat.le_of_ble_eq_true rfl, Nat.le_of_ble_eq_true rfl⟩ I (gd e6).1 clX5 rfl rfl hl.1 rfl (Nat.le_of_ble_eq_true rfl) dX5_numberIn_10 ⟨Nat.le_of_ble_eq_true rfl, Nat.le_of_ble_eq_true rfl⟩ (fun H locs I => ?_)
  exact o_iret S hr hlo I f dX5_numberIn_13
theorem M5_numberIn (l : Launch) (D : va_G) (cy : Nat → ClassId) (b : Nat) (A : Nat → Prop) (fl : Bool) {h : PH} {a0 : Nat} {x1 : Int32} {x2 : Int32} {out : Int32 × PH} (f : F5_numberIn h a0 x1 x2 = some out) : Met l yX5_numberIn vX5_numberIn ({ frames := 3, cells := 0, slots := 0, locals := 64 } : Room) (va_Pc [.ref (b + a0), .int x1, .int x2] (ph_B D cy b A fl h)) (va_Qi (fun (r : Int32) (u : PH) => (r, u) = out) (ph_B D cy b A fl) A) 0 0 A :=
  o_met (by decide) rfl (Nat.le_of_ble_eq_true rfl) rfl (fun p e s m below meth c S hr hlo hnm ls hl I => T5_numberIn_0 S hr hlo ((gd f).2) I (lv_sub hl [0, 1, 2] rfl))
def vX10_forget : List Cond := .code yX10_forget cX10_forget 1 none :: TB
theorem lp10_forget_30 : Pl vX10_forget RX10 30 10 0 .int := ⟨RX10, TX10, 8, tyX10, rfl, by decide, (fun w h9 => List.mem_cons_of_mem _ (wC_wsX100 w h9)), (List.mem_cons_of_mem _ wT_15_3), tyX10_ok, nmX10, rfl, rfl⟩
theorem lp10_forget_34 : Pl vX10_forget RX10 34 10 1 .int := ⟨RX10, TX10, 8, tyX10, rfl, by decide, (fun w h9 => List.mem_cons_of_mem _ (wC_wsX100 w h9)), (List.mem_cons_of_mem _ wT_15_4), tyX10_ok, nmX10, rfl, rfl⟩
theorem cd10_forget : Cd yX10_forget 0 := ⟨by decide, by decide, by decide +kernel⟩
set_option maxHeartbeats 4000000 in
set_option maxRecDepth 100000 in
theorem T10_forget_0 (S : CallFix p m c cX10_forget 1 s args vX10_forget RX10) (hr : meth.sig.returnType = none) (hlo : meth.locks = false) {out : PH} {h : PH} {a0 : Nat} (f : F10_forget_0  h a0 = some out) {H : Heap} {locs : List Loc} (I : ph_I D cy b A fl h s H locs) {ls : Array Slot} (hl : lv_has ls 1 [(0, .ref (b + a0))]) : W p l e ({ frames := 0, cells := 0, slots := 0, locals := 0 } : Room) s m args below meth c H locs 0 0 (MQ below (va_Qv (fun (u : PH) => u = out) (ph_B D cy b A fl) A) args s 0 0 A) (F0 m 0 ls []) := by
  unfold F10_forget_0 at f
  refine lv_aload_n S.1 S.2.1 dX10_forget_0 rfl (lv_at hl 0 rfl) ?_
  refine lv_iconst (v := 0) S.1 S.2.1 dX10_forget_1 (by decide) ?_
  obtain ⟨h1, e2, f⟩ := ob f
  refine o_pI S lp10_forget_30 I e2 dX10_forget_2 (fun H locs I => ?_)
  refine lv_aload_n S.1 S.2.1 dX10_forget_5 rfl (lv_at hl 0 rfl) ?_
  refine lv_iconst (v := 0) S.1 S.2.1 dX10_forget_6 (by decide) ?_
  obtain ⟨h3, e4, f⟩ := ob f
  refine o_pI S lp10_forget_34 I e4 dX10_forget_7 (fun H locs I => ?_)
  exact o_vret S hr hlo I f dX10_forget_10
theorem M10_forget (l : Launch) (D : va_G) (cy : Nat → ClassId) (b : Nat) (A : Nat → Prop) (fl : Bool) {h : PH} {a0 : Nat} {out : PH} (f : F10_forget h a0 = some out) : Met l yX10_forget vX10_forget ({ frames := 0, cells := 0, slots := 0, locals := 0 } : Room) (va_Pc [.ref (b + a0)] (ph_B D cy b A fl h)) (va_Qv (fun (u : PH) => u = out) (ph_B D cy b A fl) A) 0 0 A :=
  o_met (by decide) rfl (Nat.le_of_ble_eq_true rfl) rfl (fun p e s m below meth c S hr hlo hnm ls hl I => T10_forget_0 S hr hlo ((gd f).2) I (lv_sub hl [0] rfl))
def vX8_forget : List Cond := .code yX8_forget cX8_forget 2 none :: TB
theorem lp8_forget_67 : Pl vX8_forget RX8 67 8 12 .int := ⟨RX8, TX8, 14, tyX8, rfl, by decide, (fun w h9 => List.mem_cons_of_mem _ (wC_wsX80 w h9)), (List.mem_cons_of_mem _ wT_14_21), tyX8_ok, nmX8, rfl, rfl⟩
theorem lp8_forget_70 : Pl vX8_forget RX8 70 8 13 .int := ⟨RX8, TX8, 14, tyX8, rfl, by decide, (fun w h9 => List.mem_cons_of_mem _ (wC_wsX80 w h9)), (List.mem_cons_of_mem _ wT_14_22), tyX8_ok, nmX8, rfl, rfl⟩
theorem lf8_forget_27 : Fl vX8_forget RX8 27 8 11 := ⟨RX8, TX8, 14, rfl, by decide, (fun w h9 => List.mem_cons_of_mem _ (wC_wsX80 w h9)), (List.mem_cons_of_mem _ wT_3_12)⟩
theorem gX8_forget_X2_forget : GoodIn vX8_forget (wsV RX8 66 RX2 yX2_forget vX2_forget) := gV_of wT_15_5 wT_15_6 wT_15_7 wT_3_14 wT_15_8
theorem lp8_forget_32 : Pl vX8_forget RX8 32 8 0 .int := ⟨RX8, TX8, 14, tyX8, rfl, by decide, (fun w h9 => List.mem_cons_of_mem _ (wC_wsX80 w h9)), (List.mem_cons_of_mem _ wT_3_15), tyX8_ok, nmX8, rfl, rfl⟩
theorem lp8_forget_36 : Pl vX8_forget RX8 36 8 1 .int := ⟨RX8, TX8, 14, tyX8, rfl, by decide, (fun w h9 => List.mem_cons_of_mem _ (wC_wsX80 w h9)), (List.mem_cons_of_mem _ wT_3_16), tyX8_ok, nmX8, rfl, rfl⟩
theorem lp8_forget_39 : Pl vX8_forget RX8 39 8 2 .int := ⟨RX8, TX8, 14, tyX8, rfl, by decide, (fun w h9 => List.mem_cons_of_mem _ (wC_wsX80 w h9)), (List.mem_cons_of_mem _ wT_14_13), tyX8_ok, nmX8, rfl, rfl⟩
theorem lp8_forget_42 : Pl vX8_forget RX8 42 8 3 .int := ⟨RX8, TX8, 14, tyX8, rfl, by decide, (fun w h9 => List.mem_cons_of_mem _ (wC_wsX80 w h9)), (List.mem_cons_of_mem _ wT_14_14), tyX8_ok, nmX8, rfl, rfl⟩
theorem lf8_forget_12 : Fl vX8_forget RX8 12 8 4 := ⟨RX8, TX8, 14, rfl, by decide, (fun w h9 => List.mem_cons_of_mem _ (wC_wsX80 w h9)), (List.mem_cons_of_mem _ wT_3_6)⟩
theorem lp8_forget_45 : Pl vX8_forget RX8 45 1 0 .int := ⟨RX1, TX1, 7, tyX1, rfl, by decide, (fun w h9 => List.mem_cons_of_mem _ (wC_wsX10 w h9)), (List.mem_cons_of_mem _ wT_14_15), tyX1_ok, nmX1, rfl, rfl⟩
theorem lf8_forget_21 : Fl vX8_forget RX8 21 8 5 := ⟨RX8, TX8, 14, rfl, by decide, (fun w h9 => List.mem_cons_of_mem _ (wC_wsX80 w h9)), (List.mem_cons_of_mem _ wT_3_10)⟩
theorem gX8_forget_X10_forget : GoodIn vX8_forget (wsV RX8 48 RX10 yX10_forget vX10_forget) := gV_of wT_14_23 wT_15_0 wT_15_1 wT_3_9 wT_15_2
theorem lp8_forget_51 : Pl vX8_forget RX8 51 8 6 .int := ⟨RX8, TX8, 14, tyX8, rfl, by decide, (fun w h9 => List.mem_cons_of_mem _ (wC_wsX80 w h9)), (List.mem_cons_of_mem _ wT_14_16), tyX8_ok, nmX8, rfl, rfl⟩
theorem lp8_forget_54 : Pl vX8_forget RX8 54 8 7 .int := ⟨RX8, TX8, 14, tyX8, rfl, by decide, (fun w h9 => List.mem_cons_of_mem _ (wC_wsX80 w h9)), (List.mem_cons_of_mem _ wT_14_17), tyX8_ok, nmX8, rfl, rfl⟩
theorem lp8_forget_57 : Pl vX8_forget RX8 57 8 8 .int := ⟨RX8, TX8, 14, tyX8, rfl, by decide, (fun w h9 => List.mem_cons_of_mem _ (wC_wsX80 w h9)), (List.mem_cons_of_mem _ wT_14_18), tyX8_ok, nmX8, rfl, rfl⟩
theorem lp8_forget_60 : Pl vX8_forget RX8 60 8 9 .int := ⟨RX8, TX8, 14, tyX8, rfl, by decide, (fun w h9 => List.mem_cons_of_mem _ (wC_wsX80 w h9)), (List.mem_cons_of_mem _ wT_14_19), tyX8_ok, nmX8, rfl, rfl⟩
theorem lp8_forget_63 : Pl vX8_forget RX8 63 8 10 .int := ⟨RX8, TX8, 14, tyX8, rfl, by decide, (fun w h9 => List.mem_cons_of_mem _ (wC_wsX80 w h9)), (List.mem_cons_of_mem _ wT_14_20), tyX8_ok, nmX8, rfl, rfl⟩
theorem cd8_forget : Cd yX8_forget 0 := ⟨by decide, by decide, by decide +kernel⟩
set_option maxHeartbeats 4000000 in
set_option maxRecDepth 100000 in
theorem T8_forget_63 (S : CallFix p m c cX8_forget 2 s args vX8_forget RX8) (hr : meth.sig.returnType = none) (hlo : meth.locks = false) {out : PH} : ∀ (n : Nat) {h : PH} {a0 : Nat} {x1 : Int32} (f : F8_forget_63  n h a0 x1 = some out) {H : Heap} {locs : List Loc} (I : ph_I D cy b A fl h s H locs) {ls : Array Slot} (hl : lv_has ls 2 [(0, .ref (b + a0)), (1, .int x1)]), W p l e ({ frames := 1, cells := 0, slots := 0, locals := 20 } : Room) s m args below meth c H locs 0 0 (MQ below (va_Qv (fun (u : PH) => u = out) (ph_B D cy b A fl) A) args s 0 0 A) (F0 m 63 ls []) := by
  intro n
  induction n with
  | zero => intro h a0 x1 f; rw [F8_forget_63] at f; cases f
  | succ n ih =>
    intro h a0 x1 f H locs I ls hl
    rw [F8_forget_63] at f
    refine lv_iload_n S.1 S.2.1 dX8_forget_63 rfl (lv_at hl 1 rfl) ?_
    refine lv_iconst (v := 3) S.1 S.2.1 dX8_forget_64 (by decide) ?_
    refine lv_icmp_ge (tgt := 83) S.1 S.2.1 dX8_forget_65 (by decide) (fun q1 => ?_) (fun q1 => ?_)
    · have f := (if_pos q1).symm.trans f
      refine lv_aload_n S.1 S.2.1 dX8_forget_83 rfl (lv_at hl 0 rfl) ?_
      refine lv_iconst (v := 0) S.1 S.2.1 dX8_forget_84 (by decide) ?_
      obtain ⟨h2, e3, f⟩ := ob f
      refine o_pI S lp8_forget_67 I e3 dX8_forget_85 (fun H locs I => ?_)
      refine lv_aload_n S.1 S.2.1 dX8_forget_88 rfl (lv_at hl 0 rfl) ?_
      refine lv_iconst (v := 0) S.1 S.2.1 dX8_forget_89 (by decide) ?_
      obtain ⟨h4, e5, f⟩ := ob f
      refine o_pI S lp8_forget_70 I e5 dX8_forget_90 (fun H locs I => ?_)
      exact o_vret S hr hlo I f dX8_forget_93
    · have f := (if_neg q1).symm.trans f
      refine lv_aload_n S.1 S.2.1 dX8_forget_68 rfl (lv_at hl 0 rfl) ?_
      obtain ⟨r6, e7, f⟩ := ob f
      refine o_gR S lf8_forget_27 I e7 dX8_forget_69 ?_
      refine lv_iload_n S.1 S.2.1 dX8_forget_72 rfl (lv_at hl 1 rfl) ?_
      obtain ⟨r9, e8, f⟩ := ob f
      refine o_aald S I e8 dX8_forget_73 ?_
      obtain ⟨o10, e11, f⟩ := ob f
      refine o_Vv S (As := []) (rest := []) (ci := 2) (M2_forget l D cy b A fl e11) gX8_forget_X2_forget rfl rfl rfl cd2_forget ⟨Nat.le_of_ble_eq_true rfl, Nat.le_of_ble_eq_true rfl⟩ I (gd e11).1 clX2 rfl rfl hl.1 rfl (Nat.le_of_ble_eq_true rfl) dX8_forget_74 ⟨Nat.le_of_ble_eq_true rfl, Nat.le_of_ble_eq_true rfl⟩ (fun H locs I => ?_)
      refine lv_iinc (v := (x1 + 1)) (lv' := [(1, .int (x1 + 1)), (0, .ref (b + a0))]) S.1 S.2.1 dX8_forget_77 hl (k := 1) rfl (congrArg (fun z => x1 + z) (by decide)) (by decide) rfl (fun ls hl => ?_)
      refine lv_goto (tgt := 63) S.1 S.2.1 dX8_forget_80 (by decide) ?_
      exact ih f I (lv_sub hl [1, 0] rfl)
set_option maxHeartbeats 4000000 in
set_option maxRecDepth 100000 in
theorem T8_forget_0 (S : CallFix p m c cX8_forget 2 s args vX8_forget RX8) (hr : meth.sig.returnType = none) (hlo : meth.locks = false) {out : PH} {h : PH} {a0 : Nat} (f : F8_forget_0  h a0 = some out) {H : Heap} {locs : List Loc} (I : ph_I D cy b A fl h s H locs) {ls : Array Slot} (hl : lv_has ls 2 [(0, .ref (b + a0))]) : W p l e ({ frames := 1, cells := 0, slots := 0, locals := 20 } : Room) s m args below meth c H locs 0 0 (MQ below (va_Qv (fun (u : PH) => u = out) (ph_B D cy b A fl) A) args s 0 0 A) (F0 m 0 ls []) := by
  unfold F8_forget_0 at f
  refine lv_aload_n S.1 S.2.1 dX8_forget_0 rfl (lv_at hl 0 rfl) ?_
  refine lv_bipush (v := 6) S.1 S.2.1 dX8_forget_1 (by decide) ?_
  obtain ⟨h1, e2, f⟩ := ob f
  refine o_pI S lp8_forget_32 I e2 dX8_forget_3 (fun H locs I => ?_)
  refine lv_aload_n S.1 S.2.1 dX8_forget_6 rfl (lv_at hl 0 rfl) ?_
  refine lv_iconst (v := 4) S.1 S.2.1 dX8_forget_7 (by decide) ?_
  obtain ⟨h3, e4, f⟩ := ob f
  refine o_pI S lp8_forget_36 I e4 dX8_forget_8 (fun H locs I => ?_)
  refine lv_aload_n S.1 S.2.1 dX8_forget_11 rfl (lv_at hl 0 rfl) ?_
  refine lv_iconst (v := 0) S.1 S.2.1 dX8_forget_12 (by decide) ?_
  obtain ⟨h5, e6, f⟩ := ob f
  refine o_pI S lp8_forget_39 I e6 dX8_forget_13 (fun H locs I => ?_)
  refine lv_aload_n S.1 S.2.1 dX8_forget_16 rfl (lv_at hl 0 rfl) ?_
  refine lv_iconst (v := 0) S.1 S.2.1 dX8_forget_17 (by decide) ?_
  obtain ⟨h7, e8, f⟩ := ob f
  refine o_pI S lp8_forget_42 I e8 dX8_forget_18 (fun H locs I => ?_)
  refine lv_aload_n S.1 S.2.1 dX8_forget_21 rfl (lv_at hl 0 rfl) ?_
  obtain ⟨r9, e10, f⟩ := ob f
  refine o_gR S lf8_forget_12 I e10 dX8_forget_22 ?_
  refine lv_iconst (v := 0) S.1 S.2.1 dX8_forget_25 (by decide) ?_
  obtain ⟨h11, e12, f⟩ := ob f
  refine o_pI S lp8_forget_45 I e12 dX8_forget_26 (fun H locs I => ?_)
  refine lv_aload_n S.1 S.2.1 dX8_forget_29 rfl (lv_at hl 0 rfl) ?_
  obtain ⟨r13, e14, f⟩ := ob f
  refine o_gR S lf8_forget_21 I e14 dX8_forget_30 ?_
  obtain ⟨o15, e16, f⟩ := ob f
  refine o_Vv S (As := []) (rest := []) (ci := 10) (M10_forget l D cy b A fl e16) gX8_forget_X10_forget rfl rfl rfl cd10_forget ⟨Nat.le_of_ble_eq_true rfl, Nat.le_of_ble_eq_true rfl⟩ I (gd e16).1 clX10 rfl rfl hl.1 rfl (Nat.le_of_ble_eq_true rfl) dX8_forget_33 ⟨Nat.le_of_ble_eq_true rfl, Nat.le_of_ble_eq_true rfl⟩ (fun H locs I => ?_)
  refine lv_aload_n S.1 S.2.1 dX8_forget_36 rfl (lv_at hl 0 rfl) ?_
  refine lv_iconst (v := 0) S.1 S.2.1 dX8_forget_37 (by decide) ?_
  obtain ⟨h17, e18, f⟩ := ob f
  refine o_pI S lp8_forget_51 I e18 dX8_forget_38 (fun H locs I => ?_)
  refine lv_aload_n S.1 S.2.1 dX8_forget_41 rfl (lv_at hl 0 rfl) ?_
  refine lv_iconst (v := 0) S.1 S.2.1 dX8_forget_42 (by decide) ?_
  obtain ⟨h19, e20, f⟩ := ob f
  refine o_pI S lp8_forget_54 I e20 dX8_forget_43 (fun H locs I => ?_)
  refine lv_aload_n S.1 S.2.1 dX8_forget_46 rfl (lv_at hl 0 rfl) ?_
  refine lv_iconst (v := 0) S.1 S.2.1 dX8_forget_47 (by decide) ?_
  obtain ⟨h21, e22, f⟩ := ob f
  refine o_pI S lp8_forget_57 I e22 dX8_forget_48 (fun H locs I => ?_)
  refine lv_aload_n S.1 S.2.1 dX8_forget_51 rfl (lv_at hl 0 rfl) ?_
  refine lv_iconst (v := 0) S.1 S.2.1 dX8_forget_52 (by decide) ?_
  obtain ⟨h23, e24, f⟩ := ob f
  refine o_pI S lp8_forget_60 I e24 dX8_forget_53 (fun H locs I => ?_)
  refine lv_aload_n S.1 S.2.1 dX8_forget_56 rfl (lv_at hl 0 rfl) ?_
  refine lv_iconst (v := 0) S.1 S.2.1 dX8_forget_57 (by decide) ?_
  obtain ⟨h25, e26, f⟩ := ob f
  refine o_pI S lp8_forget_63 I e26 dX8_forget_58 (fun H locs I => ?_)
  refine lv_iconst (v := 0) S.1 S.2.1 dX8_forget_61 (by decide) ?_
  refine lv_istore_n (lv' := [(1, .int 0), (0, .ref (b + a0))]) S.1 S.2.1 dX8_forget_62 rfl hl (by decide) rfl (fun ls hl => ?_)
  exact T8_forget_63 S hr hlo  1024 f I (lv_sub hl [1, 0] rfl)
theorem M8_forget (l : Launch) (D : va_G) (cy : Nat → ClassId) (b : Nat) (A : Nat → Prop) (fl : Bool) {h : PH} {a0 : Nat} {out : PH} (f : F8_forget h a0 = some out) : Met l yX8_forget vX8_forget ({ frames := 1, cells := 0, slots := 0, locals := 20 } : Room) (va_Pc [.ref (b + a0)] (ph_B D cy b A fl h)) (va_Qv (fun (u : PH) => u = out) (ph_B D cy b A fl) A) 0 0 A :=
  o_met (by decide) rfl (Nat.le_of_ble_eq_true rfl) rfl (fun p e s m below meth c S hr hlo hnm ls hl I => T8_forget_0 S hr hlo ((gd f).2) I (lv_sub hl [0] rfl))
def vX7_begin : List Cond := .code yX7_begin cX7_begin 3 none :: TB
theorem lp7_begin_15 : Pl vX7_begin RX7 15 7 1 (.array .byte) := ⟨RX7, TX7, 7, tyX7, rfl, by decide, (fun w h9 => List.mem_cons_of_mem _ (wC_wsX70 w h9)), (List.mem_cons_of_mem _ wT_5_11), tyX7_ok, nmX7, rfl, rfl⟩
theorem lp7_begin_40 : Pl vX7_begin RX7 40 7 2 .int := ⟨RX7, TX7, 7, tyX7, rfl, by decide, (fun w h9 => List.mem_cons_of_mem _ (wC_wsX70 w h9)), (List.mem_cons_of_mem _ wT_15_19), tyX7_ok, nmX7, rfl, rfl⟩
theorem lp7_begin_44 : Pl vX7_begin RX7 44 7 3 .int := ⟨RX7, TX7, 7, tyX7, rfl, by decide, (fun w h9 => List.mem_cons_of_mem _ (wC_wsX70 w h9)), (List.mem_cons_of_mem _ wT_15_20), tyX7_ok, nmX7, rfl, rfl⟩
theorem cd7_begin : Cd yX7_begin 2 := ⟨by decide, by decide, by decide +kernel⟩
set_option maxHeartbeats 4000000 in
set_option maxRecDepth 100000 in
theorem T7_begin_0 (S : CallFix p m c cX7_begin 3 s args vX7_begin RX7) (hr : meth.sig.returnType = none) (hlo : meth.locks = false) {out : PH} {h : PH} {a0 : Nat} {a1 : Nat} {x2 : Int32} (f : F7_begin_0  h a0 a1 x2 = some out) {H : Heap} {locs : List Loc} (I : ph_I D cy b A fl h s H locs) {ls : Array Slot} (hl : lv_has ls 3 [(0, .ref (b + a0)), (1, .ref (b + a1)), (2, .int x2)]) : W p l e ({ frames := 1, cells := 0, slots := 0, locals := 24 } : Room) s m args below meth c H locs 0 0 (MQ below (va_Qv (fun (u : PH) => u = out) (ph_B D cy b A fl) A) args s 0 0 A) (F0 m 0 ls []) := by
  unfold F7_begin_0 at f
  refine lv_aload_n S.1 S.2.1 dX7_begin_0 rfl (lv_at hl 0 rfl) ?_
  refine lv_aload_n S.1 S.2.1 dX7_begin_1 rfl (lv_at hl 1 rfl) ?_
  obtain ⟨h1, e2, f⟩ := ob f
  refine o_pR S lp7_begin_15 (Or.inr ⟨_, rfl⟩) I e2 dX7_begin_2 (fun H locs I => ?_)
  refine lv_aload_n S.1 S.2.1 dX7_begin_5 rfl (lv_at hl 0 rfl) ?_
  refine lv_iload_n S.1 S.2.1 dX7_begin_6 rfl (lv_at hl 2 rfl) ?_
  refine lv_aload_n S.1 S.2.1 dX7_begin_7 rfl (lv_at hl 1 rfl) ?_
  obtain ⟨v3, e4, f⟩ := ob f
  refine o_alen S I e4 dX7_begin_8 ?_
  refine va_mmin S.1 S.2.1 (by rw [S.2.2.1, hl.1]) S.2.2.2.1 (S.2.2.2.2 _ (List.mem_cons_of_mem _ wT_15_15)) (S.2.2.2.2 _ (List.mem_cons_of_mem _ wT_15_16)) (S.2.2.2.2 _ (List.mem_cons_of_mem _ wT_15_17)) (S.2.2.2.2 _ (List.mem_cons_of_mem _ wT_15_18)) (Nat.le_of_ble_eq_true rfl) (Nat.le_of_ble_eq_true rfl) (Nat.zero_le _) (Nat.zero_le _) dX7_begin_9 ?_
  obtain ⟨h5, e6, f⟩ := ob f
  refine o_pI S lp7_begin_40 I e6 dX7_begin_12 (fun H locs I => ?_)
  refine lv_aload_n S.1 S.2.1 dX7_begin_15 rfl (lv_at hl 0 rfl) ?_
  refine lv_iconst (v := 0) S.1 S.2.1 dX7_begin_16 (by decide) ?_
  obtain ⟨h7, e8, f⟩ := ob f
  refine o_pI S lp7_begin_44 I e8 dX7_begin_17 (fun H locs I => ?_)
  exact o_vret S hr hlo I f dX7_begin_20
theorem M7_begin (l : Launch) (D : va_G) (cy : Nat → ClassId) (b : Nat) (A : Nat → Prop) (fl : Bool) {h : PH} {a0 : Nat} {a1 : Nat} {x2 : Int32} {out : PH} (f : F7_begin h a0 a1 x2 = some out) : Met l yX7_begin vX7_begin ({ frames := 1, cells := 0, slots := 0, locals := 24 } : Room) (va_Pc [.ref (b + a0), .ref (b + a1), .int x2] (ph_B D cy b A fl h)) (va_Qv (fun (u : PH) => u = out) (ph_B D cy b A fl) A) 0 0 A :=
  o_met (by decide) rfl (Nat.le_of_ble_eq_true rfl) rfl (fun p e s m below meth c S hr hlo hnm ls hl I => T7_begin_0 S hr hlo ((gd f).2) I (lv_sub hl [0, 1, 2] rfl))
def vX5_readStop : List Cond := .code yX5_readStop cX5_readStop 1 (some .boolean) :: TB
theorem lf5_readStop_18 : Fl vX5_readStop RX5 18 5 0 := ⟨RX5, TX5, 11, rfl, by decide, (fun w h9 => List.mem_cons_of_mem _ (wC_wsX50 w h9)), (List.mem_cons_of_mem _ wT_5_3)⟩
theorem gX5_readStop_X7_advance : GoodIn vX5_readStop (wsV RX5 49 RX7 yX7_advance vX7_advance) := gV_of wT_15_21 wT_15_22 wT_15_23 wT_5_2 wT_16_0
theorem lf5_readStop_52 : Fl vX5_readStop RX5 52 7 4 := ⟨RX7, TX7, 7, rfl, by decide, (fun w h9 => List.mem_cons_of_mem _ (wC_wsX70 w h9)), (List.mem_cons_of_mem _ wT_14_7)⟩
theorem gX5_readStop_X5_refuse : GoodIn vX5_readStop (wsV RX5 89 RX5 yX5_refuse vX5_refuse) := gV_of wT_18_1 wT_18_2 wT_18_3 wT_1_22 wT_18_4
theorem cd5_readStop : Cd yX5_readStop 0 := ⟨by decide, by decide, by decide +kernel⟩
set_option maxHeartbeats 4000000 in
set_option maxRecDepth 100000 in
theorem T5_readStop_0 (S : CallFix p m c cX5_readStop 1 s args vX5_readStop RX5) (hr : meth.sig.returnType = (some .boolean)) (hlo : meth.locks = false) {out : Int32 × PH} {h : PH} {a0 : Nat} (f : F5_readStop_0  h a0 = some out) {H : Heap} {locs : List Loc} (I : ph_I D cy b A fl h s H locs) {ls : Array Slot} (hl : lv_has ls 1 [(0, .ref (b + a0))]) : W p l e ({ frames := 3, cells := 0, slots := 0, locals := 64 } : Room) s m args below meth c H locs 0 0 (MQ below (va_Qi (fun (r : Int32) (u : PH) => (r, u) = out) (ph_B D cy b A fl) A) args s 0 0 A) (F0 m 0 ls []) := by
  unfold F5_readStop_0 at f
  refine lv_aload_n S.1 S.2.1 dX5_readStop_0 rfl (lv_at hl 0 rfl) ?_
  obtain ⟨r1, e2, f⟩ := ob f
  refine o_gR S lf5_readStop_18 I e2 dX5_readStop_1 ?_
  obtain ⟨o3, e4, f⟩ := ob f
  refine o_Vv S (As := []) (rest := []) (ci := 7) (M7_advance l D cy b A fl e4) gX5_readStop_X7_advance rfl rfl rfl cd7_advance ⟨Nat.le_of_ble_eq_true rfl, Nat.le_of_ble_eq_true rfl⟩ I (gd e4).1 clX7 rfl rfl hl.1 rfl (Nat.le_of_ble_eq_true rfl) dX5_readStop_4 ⟨Nat.le_of_ble_eq_true rfl, Nat.le_of_ble_eq_true rfl⟩ (fun H locs I => ?_)
  refine lv_aload_n S.1 S.2.1 dX5_readStop_7 rfl (lv_at hl 0 rfl) ?_
  obtain ⟨r5, e6, f⟩ := ob f
  refine o_gR S lf5_readStop_18 I e6 dX5_readStop_8 ?_
  obtain ⟨v7, e8, f⟩ := ob f
  refine o_gI S lf5_readStop_52 I e8 dX5_readStop_11 ?_
  refine lv_bipush (v := 38) S.1 S.2.1 dX5_readStop_14 (by decide) ?_
  refine lv_icmp_eq (tgt := 27) S.1 S.2.1 dX5_readStop_16 (by decide) (fun q9 => ?_) (fun q9 => ?_)
  · have f := (if_pos q9).symm.trans f
    refine lv_iconst (v := 1) S.1 S.2.1 dX5_readStop_27 (by decide) ?_
    refine lv_goto (tgt := 32) S.1 S.2.1 dX5_readStop_28 (by decide) ?_
    exact o_zret S hr hlo I f dX5_readStop_32
  · have f := (if_neg q9).symm.trans f
    refine lv_aload_n S.1 S.2.1 dX5_readStop_19 rfl (lv_at hl 0 rfl) ?_
    refine lv_iconst (v := 1) S.1 S.2.1 dX5_readStop_20 (by decide) ?_
    obtain ⟨o10, e11, f⟩ := ob f
    refine o_Vi S (As := [.int 1]) (rest := []) (ci := 5) (M5_refuse l D cy b A fl e11) gX5_readStop_X5_refuse rfl rfl rfl cd5_refuse ⟨Nat.le_of_ble_eq_true rfl, Nat.le_of_ble_eq_true rfl⟩ I (gd e11).1 clX5 rfl rfl hl.1 rfl (Nat.le_of_ble_eq_true rfl) dX5_readStop_21 ⟨Nat.le_of_ble_eq_true rfl, Nat.le_of_ble_eq_true rfl⟩ (fun H locs I => ?_)
    refine lv_if_eq (tgt := 31) S.1 S.2.1 dX5_readStop_24 (by decide) (fun q12 => ?_) (fun q12 => ?_)
    · have f := (if_pos q12).symm.trans f
      refine lv_iconst (v := 0) S.1 S.2.1 dX5_readStop_31 (by decide) ?_
      exact o_zret S hr hlo I f dX5_readStop_32
    · have f := (if_neg q12).symm.trans f
      refine lv_iconst (v := 1) S.1 S.2.1 dX5_readStop_27 (by decide) ?_
      refine lv_goto (tgt := 32) S.1 S.2.1 dX5_readStop_28 (by decide) ?_
      exact o_zret S hr hlo I f dX5_readStop_32
theorem M5_readStop (l : Launch) (D : va_G) (cy : Nat → ClassId) (b : Nat) (A : Nat → Prop) (fl : Bool) {h : PH} {a0 : Nat} {out : Int32 × PH} (f : F5_readStop h a0 = some out) : Met l yX5_readStop vX5_readStop ({ frames := 3, cells := 0, slots := 0, locals := 64 } : Room) (va_Pc [.ref (b + a0)] (ph_B D cy b A fl h)) (va_Qi (fun (r : Int32) (u : PH) => (r, u) = out) (ph_B D cy b A fl) A) 0 0 A :=
  o_met (by decide) rfl (Nat.le_of_ble_eq_true rfl) rfl (fun p e s m below meth c S hr hlo hnm ls hl I => T5_readStop_0 S hr hlo ((gd f).2) I (lv_sub hl [0] rfl))
def vX5_readSea : List Cond := .code yX5_readSea cX5_readSea 3 (some .boolean) :: TB
theorem lf5_readSea_9 : Fl vX5_readSea RX5 9 5 10 := ⟨RX5, TX5, 11, rfl, by decide, (fun w h9 => List.mem_cons_of_mem _ (wC_wsX50 w h9)), (List.mem_cons_of_mem _ wT_4_23)⟩
theorem lp5_readSea_106 : Pl vX5_readSea RX5 106 8 0 .int := ⟨RX8, TX8, 14, tyX8, rfl, by decide, (fun w h9 => List.mem_cons_of_mem _ (wC_wsX80 w h9)), (List.mem_cons_of_mem _ wT_17_19), tyX8_ok, nmX8, rfl, rfl⟩
theorem lp5_readSea_109 : Pl vX5_readSea RX5 109 8 1 .int := ⟨RX8, TX8, 14, tyX8, rfl, by decide, (fun w h9 => List.mem_cons_of_mem _ (wC_wsX80 w h9)), (List.mem_cons_of_mem _ wT_17_20), tyX8_ok, nmX8, rfl, rfl⟩
theorem gX5_readSea_X5_readStop : GoodIn vX5_readSea (wsV RX5 112 RX5 yX5_readStop vX5_readStop) := gV_of wT_18_15 wT_18_16 wT_18_17 wT_1_22 wT_18_18
theorem gX5_readSea_X5_isFirst : GoodIn vX5_readSea (wsV RX5 100 RX5 yX5_isFirst vX5_isFirst) := gV_of wT_17_21 wT_17_22 wT_17_23 wT_1_22 wT_18_0
theorem lf5_readSea_41 : Fl vX5_readSea RX5 41 5 7 := ⟨RX5, TX5, 11, rfl, by decide, (fun w h9 => List.mem_cons_of_mem _ (wC_wsX50 w h9)), (List.mem_cons_of_mem _ wT_14_6)⟩
theorem gX5_readSea_X5_numberIn : GoodIn vX5_readSea (wsV RX5 103 RX5 yX5_numberIn vX5_numberIn) := gV_of wT_18_6 wT_18_7 wT_18_8 wT_1_22 wT_18_9
theorem gX5_readSea_X5_refuse : GoodIn vX5_readSea (wsV RX5 89 RX5 yX5_refuse vX5_refuse) := gV_of wT_18_1 wT_18_2 wT_18_3 wT_1_22 wT_18_4
theorem cd5_readSea : Cd yX5_readSea 0 := ⟨by decide, by decide, by decide +kernel⟩
set_option maxHeartbeats 4000000 in
set_option maxRecDepth 100000 in
theorem T5_readSea_47 (S : CallFix p m c cX5_readSea 3 s args vX5_readSea RX5) (hr : meth.sig.returnType = (some .boolean)) (hlo : meth.locks = false) {out : Int32 × PH} {h : PH} {a0 : Nat} {x1 : Int32} {s0 : Int32} (f : F5_readSea_47  h a0 x1 s0 = some out) {H : Heap} {locs : List Loc} (I : ph_I D cy b A fl h s H locs) {ls : Array Slot} (hl : lv_has ls 3 [(0, .ref (b + a0)), (1, .int x1)]) : W p l e ({ frames := 4, cells := 0, slots := 0, locals := 86 } : Room) s m args below meth c H locs 0 0 (MQ below (va_Qi (fun (r : Int32) (u : PH) => (r, u) = out) (ph_B D cy b A fl) A) args s 0 0 A) (F0 m 47 ls [.int s0]) := by
  unfold F5_readSea_47 at f
  refine lv_istore_n (lv' := [(2, .int s0), (0, .ref (b + a0)), (1, .int x1)]) S.1 S.2.1 dX5_readSea_47 rfl hl (by decide) rfl (fun ls hl => ?_)
  refine lv_iload_n S.1 S.2.1 dX5_readSea_48 rfl (lv_at hl 0 rfl) ?_
  refine lv_iconst (v := (-1)) S.1 S.2.1 dX5_readSea_49 (by decide) ?_
  refine lv_icmp_ne (tgt := 55) S.1 S.2.1 dX5_readSea_50 (by decide) (fun q1 => ?_) (fun q1 => ?_)
  · have f := (if_neg q1).symm.trans f
    refine lv_aload_n S.1 S.2.1 dX5_readSea_55 rfl (lv_at hl 1 rfl) ?_
    obtain ⟨r2, e3, f⟩ := ob f
    refine o_gR S lf5_readSea_9 I e3 dX5_readSea_56 ?_
    refine lv_iload_n S.1 S.2.1 dX5_readSea_59 rfl (lv_at hl 2 rfl) ?_
    obtain ⟨h4, e5, f⟩ := ob f
    refine o_pI S lp5_readSea_106 I e5 dX5_readSea_60 (fun H locs I => ?_)
    refine lv_aload_n S.1 S.2.1 dX5_readSea_63 rfl (lv_at hl 1 rfl) ?_
    obtain ⟨r6, e7, f⟩ := ob f
    refine o_gR S lf5_readSea_9 I e7 dX5_readSea_64 ?_
    refine lv_iload_n S.1 S.2.1 dX5_readSea_67 rfl (lv_at hl 0 rfl) ?_
    obtain ⟨h8, e9, f⟩ := ob f
    refine o_pI S lp5_readSea_109 I e9 dX5_readSea_68 (fun H locs I => ?_)
    refine lv_aload_n S.1 S.2.1 dX5_readSea_71 rfl (lv_at hl 1 rfl) ?_
    obtain ⟨o10, e11, f⟩ := ob f
    refine o_Vi S (As := []) (rest := []) (ci := 5) (M5_readStop l D cy b A fl e11) gX5_readSea_X5_readStop rfl rfl rfl cd5_readStop ⟨Nat.le_of_ble_eq_true rfl, Nat.le_of_ble_eq_true rfl⟩ I (gd e11).1 clX5 rfl rfl hl.1 rfl (Nat.le_of_ble_eq_true rfl) dX5_readSea_72 ⟨Nat.le_of_ble_eq_true rfl, Nat.le_of_ble_eq_true rfl⟩ (fun H locs I => ?_)
    exact o_zret S hr hlo I f dX5_readSea_75
  · have f := (if_pos q1).symm.trans f
    refine lv_iconst (v := 0) S.1 S.2.1 dX5_readSea_53 (by decide) ?_
    exact o_zret S hr hlo I f dX5_readSea_54
set_option maxHeartbeats 4000000 in
set_option maxRecDepth 100000 in
theorem T5_readSea_0 (S : CallFix p m c cX5_readSea 3 s args vX5_readSea RX5) (hr : meth.sig.returnType = (some .boolean)) (hlo : meth.locks = false) {out : Int32 × PH} {h : PH} {a0 : Nat} (f : F5_readSea_0  h a0 = some out) {H : Heap} {locs : List Loc} (I : ph_I D cy b A fl h s H locs) {ls : Array Slot} (hl : lv_has ls 3 [(0, .ref (b + a0))]) : W p l e ({ frames := 4, cells := 0, slots := 0, locals := 86 } : Room) s m args below meth c H locs 0 0 (MQ below (va_Qi (fun (r : Int32) (u : PH) => (r, u) = out) (ph_B D cy b A fl) A) args s 0 0 A) (F0 m 0 ls []) := by
  unfold F5_readSea_0 at f
  refine lv_aload_n S.1 S.2.1 dX5_readSea_0 rfl (lv_at hl 0 rfl) ?_
  refine lv_iconst (v := 0) S.1 S.2.1 dX5_readSea_1 (by decide) ?_
  obtain ⟨o1, e2, f⟩ := ob f
  refine o_Vi S (As := [.int 0]) (rest := []) (ci := 5) (M5_isFirst l D cy b A fl e2) gX5_readSea_X5_isFirst rfl rfl rfl cd5_isFirst ⟨Nat.le_of_ble_eq_true rfl, Nat.le_of_ble_eq_true rfl⟩ I (gd e2).1 clX5 rfl rfl hl.1 rfl (Nat.le_of_ble_eq_true rfl) dX5_readSea_2 ⟨Nat.le_of_ble_eq_true rfl, Nat.le_of_ble_eq_true rfl⟩ (fun H locs I => ?_)
  refine lv_if_ne (tgt := 10) S.1 S.2.1 dX5_readSea_5 (by decide) (fun q3 => ?_) (fun q3 => ?_)
  · have f := (if_neg q3).symm.trans f
    refine lv_aload_n S.1 S.2.1 dX5_readSea_10 rfl (lv_at hl 0 rfl) ?_
    obtain ⟨v4, e5, f⟩ := ob f
    refine o_gI S lf5_readSea_41 I e5 dX5_readSea_11 ?_
    refine lv_if_eq (tgt := 23) S.1 S.2.1 dX5_readSea_14 (by decide) (fun q6 => ?_) (fun q6 => ?_)
    · have f := (if_pos q6).symm.trans f
      refine lv_aload_n S.1 S.2.1 dX5_readSea_23 rfl (lv_at hl 0 rfl) ?_
      refine lv_iconst (v := 1) S.1 S.2.1 dX5_readSea_24 (by decide) ?_
      refine lv_bipush (v := 8) S.1 S.2.1 dX5_readSea_25 (by decide) ?_
      obtain ⟨o7, e8, f⟩ := ob f
      refine o_Vi S (As := [.int 1, .int 8]) (rest := []) (ci := 5) (M5_numberIn l D cy b A fl e8) gX5_readSea_X5_numberIn rfl rfl rfl cd5_numberIn ⟨Nat.le_of_ble_eq_true rfl, Nat.le_of_ble_eq_true rfl⟩ I (gd e8).1 clX5 rfl rfl hl.1 rfl (Nat.le_of_ble_eq_true rfl) dX5_readSea_27 ⟨Nat.le_of_ble_eq_true rfl, Nat.le_of_ble_eq_true rfl⟩ (fun H locs I => ?_)
      refine lv_istore_n (lv' := [(1, .int o7.1), (0, .ref (b + a0))]) S.1 S.2.1 dX5_readSea_30 rfl hl (by decide) rfl (fun ls hl => ?_)
      refine lv_iload_n S.1 S.2.1 dX5_readSea_31 rfl (lv_at hl 0 rfl) ?_
      refine lv_iconst (v := (-1)) S.1 S.2.1 dX5_readSea_32 (by decide) ?_
      refine lv_icmp_ne (tgt := 40) S.1 S.2.1 dX5_readSea_33 (by decide) (fun q9 => ?_) (fun q9 => ?_)
      · have f := (if_neg q9).symm.trans f
        refine lv_aload_n S.1 S.2.1 dX5_readSea_40 rfl (lv_at hl 1 rfl) ?_
        refine lv_iconst (v := 1) S.1 S.2.1 dX5_readSea_41 (by decide) ?_
        refine lv_bipush (v := 6) S.1 S.2.1 dX5_readSea_42 (by decide) ?_
        obtain ⟨o10, e11, f⟩ := ob f
        refine o_Vi S (As := [.int 1, .int 6]) (rest := []) (ci := 5) (M5_numberIn l D cy b A fl e11) gX5_readSea_X5_numberIn rfl rfl rfl cd5_numberIn ⟨Nat.le_of_ble_eq_true rfl, Nat.le_of_ble_eq_true rfl⟩ I (gd e11).1 clX5 rfl rfl hl.1 rfl (Nat.le_of_ble_eq_true rfl) dX5_readSea_44 ⟨Nat.le_of_ble_eq_true rfl, Nat.le_of_ble_eq_true rfl⟩ (fun H locs I => ?_)
        exact T5_readSea_47 S hr hlo  f I (lv_sub hl [1, 0] rfl)
      · have f := (if_pos q9).symm.trans f
        refine lv_iconst (v := (-1)) S.1 S.2.1 dX5_readSea_36 (by decide) ?_
        refine lv_goto (tgt := 47) S.1 S.2.1 dX5_readSea_37 (by decide) ?_
        exact T5_readSea_47 S hr hlo  f I (lv_sub hl [1, 0] rfl)
    · have f := (if_neg q6).symm.trans f
      refine lv_aload_n S.1 S.2.1 dX5_readSea_17 rfl (lv_at hl 0 rfl) ?_
      refine lv_iconst (v := 4) S.1 S.2.1 dX5_readSea_18 (by decide) ?_
      obtain ⟨o12, e13, f⟩ := ob f
      refine o_Vi S (As := [.int 4]) (rest := []) (ci := 5) (M5_refuse l D cy b A fl e13) gX5_readSea_X5_refuse rfl rfl rfl cd5_refuse ⟨Nat.le_of_ble_eq_true rfl, Nat.le_of_ble_eq_true rfl⟩ I (gd e13).1 clX5 rfl rfl hl.1 rfl (Nat.le_of_ble_eq_true rfl) dX5_readSea_19 ⟨Nat.le_of_ble_eq_true rfl, Nat.le_of_ble_eq_true rfl⟩ (fun H locs I => ?_)
      exact o_zret S hr hlo I f dX5_readSea_22
  · have f := (if_pos q3).symm.trans f
    refine lv_iconst (v := 0) S.1 S.2.1 dX5_readSea_8 (by decide) ?_
    exact o_zret S hr hlo I f dX5_readSea_9
theorem M5_readSea (l : Launch) (D : va_G) (cy : Nat → ClassId) (b : Nat) (A : Nat → Prop) (fl : Bool) {h : PH} {a0 : Nat} {out : Int32 × PH} (f : F5_readSea h a0 = some out) : Met l yX5_readSea vX5_readSea ({ frames := 4, cells := 0, slots := 0, locals := 86 } : Room) (va_Pc [.ref (b + a0)] (ph_B D cy b A fl h)) (va_Qi (fun (r : Int32) (u : PH) => (r, u) = out) (ph_B D cy b A fl) A) 0 0 A :=
  o_met (by decide) rfl (Nat.le_of_ble_eq_true rfl) rfl (fun p e s m below meth c S hr hlo hnm ls hl I => T5_readSea_0 S hr hlo ((gd f).2) I (lv_sub hl [0] rfl))
def vX5_readPeak : List Cond := .code yX5_readPeak cX5_readPeak 3 (some .boolean) :: TB
theorem lf5_readPeak_9 : Fl vX5_readPeak RX5 9 5 10 := ⟨RX5, TX5, 11, rfl, by decide, (fun w h9 => List.mem_cons_of_mem _ (wC_wsX50 w h9)), (List.mem_cons_of_mem _ wT_4_23)⟩
theorem lp5_readPeak_115 : Pl vX5_readPeak RX5 115 8 2 .int := ⟨RX8, TX8, 14, tyX8, rfl, by decide, (fun w h9 => List.mem_cons_of_mem _ (wC_wsX80 w h9)), (List.mem_cons_of_mem _ wT_18_23), tyX8_ok, nmX8, rfl, rfl⟩
theorem lp5_readPeak_118 : Pl vX5_readPeak RX5 118 8 3 .int := ⟨RX8, TX8, 14, tyX8, rfl, by decide, (fun w h9 => List.mem_cons_of_mem _ (wC_wsX80 w h9)), (List.mem_cons_of_mem _ wT_19_0), tyX8_ok, nmX8, rfl, rfl⟩
theorem gX5_readPeak_X5_readStop : GoodIn vX5_readPeak (wsV RX5 112 RX5 yX5_readStop vX5_readStop) := gV_of wT_18_15 wT_18_16 wT_18_17 wT_1_22 wT_18_18
theorem gX5_readPeak_X5_isFirst : GoodIn vX5_readPeak (wsV RX5 100 RX5 yX5_isFirst vX5_isFirst) := gV_of wT_17_21 wT_17_22 wT_17_23 wT_1_22 wT_18_0
theorem lp5_readPeak_41 : Pl vX5_readPeak RX5 41 5 7 .boolean := ⟨RX5, TX5, 11, tyX5, rfl, by decide, (fun w h9 => List.mem_cons_of_mem _ (wC_wsX50 w h9)), (List.mem_cons_of_mem _ wT_14_6), tyX5_ok, nmX5, rfl, rfl⟩
theorem lf5_readPeak_106 : Fl vX5_readPeak RX5 106 8 0 := ⟨RX8, TX8, 14, rfl, by decide, (fun w h9 => List.mem_cons_of_mem _ (wC_wsX80 w h9)), (List.mem_cons_of_mem _ wT_17_19)⟩
theorem gX5_readPeak_X5_numberIn : GoodIn vX5_readPeak (wsV RX5 103 RX5 yX5_numberIn vX5_numberIn) := gV_of wT_18_6 wT_18_7 wT_18_8 wT_1_22 wT_18_9
theorem lf5_readPeak_109 : Fl vX5_readPeak RX5 109 8 1 := ⟨RX8, TX8, 14, rfl, by decide, (fun w h9 => List.mem_cons_of_mem _ (wC_wsX80 w h9)), (List.mem_cons_of_mem _ wT_17_20)⟩
theorem cd5_readPeak : Cd yX5_readPeak 0 := ⟨by decide, by decide, by decide +kernel⟩
set_option maxHeartbeats 4000000 in
set_option maxRecDepth 100000 in
theorem T5_readPeak_53 (S : CallFix p m c cX5_readPeak 3 s args vX5_readPeak RX5) (hr : meth.sig.returnType = (some .boolean)) (hlo : meth.locks = false) {out : Int32 × PH} {h : PH} {a0 : Nat} {x1 : Int32} {s0 : Int32} (f : F5_readPeak_53  h a0 x1 s0 = some out) {H : Heap} {locs : List Loc} (I : ph_I D cy b A fl h s H locs) {ls : Array Slot} (hl : lv_has ls 3 [(0, .ref (b + a0)), (1, .int x1)]) : W p l e ({ frames := 4, cells := 0, slots := 0, locals := 86 } : Room) s m args below meth c H locs 0 0 (MQ below (va_Qi (fun (r : Int32) (u : PH) => (r, u) = out) (ph_B D cy b A fl) A) args s 0 0 A) (F0 m 53 ls [.int s0]) := by
  unfold F5_readPeak_53 at f
  refine lv_istore_n (lv' := [(2, .int s0), (0, .ref (b + a0)), (1, .int x1)]) S.1 S.2.1 dX5_readPeak_53 rfl hl (by decide) rfl (fun ls hl => ?_)
  refine lv_iload_n S.1 S.2.1 dX5_readPeak_54 rfl (lv_at hl 0 rfl) ?_
  refine lv_iconst (v := (-1)) S.1 S.2.1 dX5_readPeak_55 (by decide) ?_
  refine lv_icmp_ne (tgt := 61) S.1 S.2.1 dX5_readPeak_56 (by decide) (fun q1 => ?_) (fun q1 => ?_)
  · have f := (if_neg q1).symm.trans f
    refine lv_aload_n S.1 S.2.1 dX5_readPeak_61 rfl (lv_at hl 1 rfl) ?_
    obtain ⟨r2, e3, f⟩ := ob f
    refine o_gR S lf5_readPeak_9 I e3 dX5_readPeak_62 ?_
    refine lv_iload_n S.1 S.2.1 dX5_readPeak_65 rfl (lv_at hl 2 rfl) ?_
    obtain ⟨h4, e5, f⟩ := ob f
    refine o_pI S lp5_readPeak_115 I e5 dX5_readPeak_66 (fun H locs I => ?_)
    refine lv_aload_n S.1 S.2.1 dX5_readPeak_69 rfl (lv_at hl 1 rfl) ?_
    obtain ⟨r6, e7, f⟩ := ob f
    refine o_gR S lf5_readPeak_9 I e7 dX5_readPeak_70 ?_
    refine lv_iload_n S.1 S.2.1 dX5_readPeak_73 rfl (lv_at hl 0 rfl) ?_
    obtain ⟨h8, e9, f⟩ := ob f
    refine o_pI S lp5_readPeak_118 I e9 dX5_readPeak_74 (fun H locs I => ?_)
    refine lv_aload_n S.1 S.2.1 dX5_readPeak_77 rfl (lv_at hl 1 rfl) ?_
    obtain ⟨o10, e11, f⟩ := ob f
    refine o_Vi S (As := []) (rest := []) (ci := 5) (M5_readStop l D cy b A fl e11) gX5_readPeak_X5_readStop rfl rfl rfl cd5_readStop ⟨Nat.le_of_ble_eq_true rfl, Nat.le_of_ble_eq_true rfl⟩ I (gd e11).1 clX5 rfl rfl hl.1 rfl (Nat.le_of_ble_eq_true rfl) dX5_readPeak_78 ⟨Nat.le_of_ble_eq_true rfl, Nat.le_of_ble_eq_true rfl⟩ (fun H locs I => ?_)
    exact o_zret S hr hlo I f dX5_readPeak_81
  · have f := (if_pos q1).symm.trans f
    refine lv_iconst (v := 0) S.1 S.2.1 dX5_readPeak_59 (by decide) ?_
    exact o_zret S hr hlo I f dX5_readPeak_60
set_option maxHeartbeats 4000000 in
set_option maxRecDepth 100000 in
theorem T5_readPeak_0 (S : CallFix p m c cX5_readPeak 3 s args vX5_readPeak RX5) (hr : meth.sig.returnType = (some .boolean)) (hlo : meth.locks = false) {out : Int32 × PH} {h : PH} {a0 : Nat} (f : F5_readPeak_0  h a0 = some out) {H : Heap} {locs : List Loc} (I : ph_I D cy b A fl h s H locs) {ls : Array Slot} (hl : lv_has ls 3 [(0, .ref (b + a0))]) : W p l e ({ frames := 4, cells := 0, slots := 0, locals := 86 } : Room) s m args below meth c H locs 0 0 (MQ below (va_Qi (fun (r : Int32) (u : PH) => (r, u) = out) (ph_B D cy b A fl) A) args s 0 0 A) (F0 m 0 ls []) := by
  unfold F5_readPeak_0 at f
  refine lv_aload_n S.1 S.2.1 dX5_readPeak_0 rfl (lv_at hl 0 rfl) ?_
  refine lv_iconst (v := 1) S.1 S.2.1 dX5_readPeak_1 (by decide) ?_
  obtain ⟨o1, e2, f⟩ := ob f
  refine o_Vi S (As := [.int 1]) (rest := []) (ci := 5) (M5_isFirst l D cy b A fl e2) gX5_readPeak_X5_isFirst rfl rfl rfl cd5_isFirst ⟨Nat.le_of_ble_eq_true rfl, Nat.le_of_ble_eq_true rfl⟩ I (gd e2).1 clX5 rfl rfl hl.1 rfl (Nat.le_of_ble_eq_true rfl) dX5_readPeak_2 ⟨Nat.le_of_ble_eq_true rfl, Nat.le_of_ble_eq_true rfl⟩ (fun H locs I => ?_)
  refine lv_if_ne (tgt := 10) S.1 S.2.1 dX5_readPeak_5 (by decide) (fun q3 => ?_) (fun q3 => ?_)
  · have f := (if_neg q3).symm.trans f
    refine lv_aload_n S.1 S.2.1 dX5_readPeak_10 rfl (lv_at hl 0 rfl) ?_
    refine lv_iconst (v := 1) S.1 S.2.1 dX5_readPeak_11 (by decide) ?_
    obtain ⟨h4, e5, f⟩ := ob f
    refine o_pZ S lp5_readPeak_41 I e5 dX5_readPeak_12 (fun H locs I => ?_)
    refine lv_aload_n S.1 S.2.1 dX5_readPeak_15 rfl (lv_at hl 0 rfl) ?_
    refine lv_iconst (v := 0) S.1 S.2.1 dX5_readPeak_16 (by decide) ?_
    refine lv_aload_n S.1 S.2.1 dX5_readPeak_17 rfl (lv_at hl 0 rfl) ?_
    obtain ⟨r6, e7, f⟩ := ob f
    refine o_gR S lf5_readPeak_9 I e7 dX5_readPeak_18 ?_
    obtain ⟨v8, e9, f⟩ := ob f
    refine o_gI S lf5_readPeak_106 I e9 dX5_readPeak_21 ?_
    refine lv_iconst (v := 1) S.1 S.2.1 dX5_readPeak_24 (by decide) ?_
    refine lv_isub S.1 S.2.1 dX5_readPeak_25 ?_
    obtain ⟨o10, e11, f⟩ := ob f
    refine o_Vi S (As := [.int 0, .int (v8 - 1)]) (rest := []) (ci := 5) (M5_numberIn l D cy b A fl e11) gX5_readPeak_X5_numberIn rfl rfl rfl cd5_numberIn ⟨Nat.le_of_ble_eq_true rfl, Nat.le_of_ble_eq_true rfl⟩ I (gd e11).1 clX5 rfl rfl hl.1 rfl (Nat.le_of_ble_eq_true rfl) dX5_readPeak_26 ⟨Nat.le_of_ble_eq_true rfl, Nat.le_of_ble_eq_true rfl⟩ (fun H locs I => ?_)
    refine lv_istore_n (lv' := [(1, .int o10.1), (0, .ref (b + a0))]) S.1 S.2.1 dX5_readPeak_29 rfl hl (by decide) rfl (fun ls hl => ?_)
    refine lv_iload_n S.1 S.2.1 dX5_readPeak_30 rfl (lv_at hl 0 rfl) ?_
    refine lv_iconst (v := (-1)) S.1 S.2.1 dX5_readPeak_31 (by decide) ?_
    refine lv_icmp_ne (tgt := 39) S.1 S.2.1 dX5_readPeak_32 (by decide) (fun q12 => ?_) (fun q12 => ?_)
    · have f := (if_neg q12).symm.trans f
      refine lv_aload_n S.1 S.2.1 dX5_readPeak_39 rfl (lv_at hl 1 rfl) ?_
      refine lv_iconst (v := 0) S.1 S.2.1 dX5_readPeak_40 (by decide) ?_
      refine lv_aload_n S.1 S.2.1 dX5_readPeak_41 rfl (lv_at hl 1 rfl) ?_
      obtain ⟨r13, e14, f⟩ := ob f
      refine o_gR S lf5_readPeak_9 I e14 dX5_readPeak_42 ?_
      obtain ⟨v15, e16, f⟩ := ob f
      refine o_gI S lf5_readPeak_109 I e16 dX5_readPeak_45 ?_
      refine lv_iconst (v := 1) S.1 S.2.1 dX5_readPeak_48 (by decide) ?_
      refine lv_isub S.1 S.2.1 dX5_readPeak_49 ?_
      obtain ⟨o17, e18, f⟩ := ob f
      refine o_Vi S (As := [.int 0, .int (v15 - 1)]) (rest := []) (ci := 5) (M5_numberIn l D cy b A fl e18) gX5_readPeak_X5_numberIn rfl rfl rfl cd5_numberIn ⟨Nat.le_of_ble_eq_true rfl, Nat.le_of_ble_eq_true rfl⟩ I (gd e18).1 clX5 rfl rfl hl.1 rfl (Nat.le_of_ble_eq_true rfl) dX5_readPeak_50 ⟨Nat.le_of_ble_eq_true rfl, Nat.le_of_ble_eq_true rfl⟩ (fun H locs I => ?_)
      exact T5_readPeak_53 S hr hlo  f I (lv_sub hl [1, 0] rfl)
    · have f := (if_pos q12).symm.trans f
      refine lv_iconst (v := (-1)) S.1 S.2.1 dX5_readPeak_35 (by decide) ?_
      refine lv_goto (tgt := 53) S.1 S.2.1 dX5_readPeak_36 (by decide) ?_
      exact T5_readPeak_53 S hr hlo  f I (lv_sub hl [1, 0] rfl)
  · have f := (if_pos q3).symm.trans f
    refine lv_iconst (v := 0) S.1 S.2.1 dX5_readPeak_8 (by decide) ?_
    exact o_zret S hr hlo I f dX5_readPeak_9
theorem M5_readPeak (l : Launch) (D : va_G) (cy : Nat → ClassId) (b : Nat) (A : Nat → Prop) (fl : Bool) {h : PH} {a0 : Nat} {out : Int32 × PH} (f : F5_readPeak h a0 = some out) : Met l yX5_readPeak vX5_readPeak ({ frames := 4, cells := 0, slots := 0, locals := 86 } : Room) (va_Pc [.ref (b + a0)] (ph_B D cy b A fl h)) (va_Qi (fun (r : Int32) (u : PH) => (r, u) = out) (ph_B D cy b A fl) A) 0 0 A :=
  o_met (by decide) rfl (Nat.le_of_ble_eq_true rfl) rfl (fun p e s m below meth c S hr hlo hnm ls hl I => T5_readPeak_0 S hr hlo ((gd f).2) I (lv_sub hl [0] rfl))
def vX5_readSurfer : List Cond := .code yX5_readSurfer cX5_readSurfer 8 (some .boolean) :: TB
theorem lf5_readSurfer_9 : Fl vX5_readSurfer RX5 9 5 10 := ⟨RX5, TX5, 11, rfl, by decide, (fun w h9 => List.mem_cons_of_mem _ (wC_wsX50 w h9)), (List.mem_cons_of_mem _ wT_4_23)⟩
theorem lf5_readSurfer_121 : Fl vX5_readSurfer RX5 121 8 4 := ⟨RX8, TX8, 14, rfl, by decide, (fun w h9 => List.mem_cons_of_mem _ (wC_wsX80 w h9)), (List.mem_cons_of_mem _ wT_19_5)⟩
theorem lf5_readSurfer_106 : Fl vX5_readSurfer RX5 106 8 0 := ⟨RX8, TX8, 14, rfl, by decide, (fun w h9 => List.mem_cons_of_mem _ (wC_wsX80 w h9)), (List.mem_cons_of_mem _ wT_17_19)⟩
theorem gX5_readSurfer_X1_add : GoodIn vX5_readSurfer (wsV RX5 133 RX1 yX1_add vX1_add) := gV_of wT_19_12 wT_19_13 wT_19_14 wT_3_5 wT_19_15
theorem gX5_readSurfer_X5_readStop : GoodIn vX5_readSurfer (wsV RX5 112 RX5 yX5_readStop vX5_readStop) := gV_of wT_18_15 wT_18_16 wT_18_17 wT_1_22 wT_18_18
theorem gX5_readSurfer_X5_numberIn : GoodIn vX5_readSurfer (wsV RX5 103 RX5 yX5_numberIn vX5_numberIn) := gV_of wT_18_6 wT_18_7 wT_18_8 wT_1_22 wT_18_9
theorem lf5_readSurfer_125 : Fl vX5_readSurfer RX5 125 1 0 := ⟨RX1, TX1, 7, rfl, by decide, (fun w h9 => List.mem_cons_of_mem _ (wC_wsX10 w h9)), (List.mem_cons_of_mem _ wT_19_6)⟩
theorem lp5_readSurfer_41 : Pl vX5_readSurfer RX5 41 5 7 .boolean := ⟨RX5, TX5, 11, tyX5, rfl, by decide, (fun w h9 => List.mem_cons_of_mem _ (wC_wsX50 w h9)), (List.mem_cons_of_mem _ wT_14_6), tyX5_ok, nmX5, rfl, rfl⟩
theorem lf5_readSurfer_18 : Fl vX5_readSurfer RX5 18 5 0 := ⟨RX5, TX5, 11, rfl, by decide, (fun w h9 => List.mem_cons_of_mem _ (wC_wsX50 w h9)), (List.mem_cons_of_mem _ wT_5_3)⟩
theorem gX5_readSurfer_X7_advance : GoodIn vX5_readSurfer (wsV RX5 49 RX7 yX7_advance vX7_advance) := gV_of wT_15_21 wT_15_22 wT_15_23 wT_5_2 wT_16_0
theorem lf5_readSurfer_52 : Fl vX5_readSurfer RX5 52 7 4 := ⟨RX7, TX7, 7, rfl, by decide, (fun w h9 => List.mem_cons_of_mem _ (wC_wsX70 w h9)), (List.mem_cons_of_mem _ wT_14_7)⟩
theorem lf5_readSurfer_97 : Fl vX5_readSurfer RX5 97 7 6 := ⟨RX7, TX7, 7, rfl, by decide, (fun w h9 => List.mem_cons_of_mem _ (wC_wsX70 w h9)), (List.mem_cons_of_mem _ wT_18_14)⟩
theorem gX5_readSurfer_X1_hasName : GoodIn vX5_readSurfer (wsV RX5 130 RX1 yX1_hasName vX1_hasName) := gV_of wT_19_7 wT_19_8 wT_19_9 wT_3_5 wT_19_10
theorem lf5_readSurfer_109 : Fl vX5_readSurfer RX5 109 8 1 := ⟨RX8, TX8, 14, rfl, by decide, (fun w h9 => List.mem_cons_of_mem _ (wC_wsX80 w h9)), (List.mem_cons_of_mem _ wT_17_20)⟩
theorem gX5_readSurfer_X5_refuse : GoodIn vX5_readSurfer (wsV RX5 89 RX5 yX5_refuse vX5_refuse) := gV_of wT_18_1 wT_18_2 wT_18_3 wT_1_22 wT_18_4
theorem cd5_readSurfer : Cd yX5_readSurfer 0 := ⟨by decide, by decide, by decide +kernel⟩
set_option maxHeartbeats 4000000 in
set_option maxRecDepth 100000 in
theorem T5_readSurfer_195 (S : CallFix p m c cX5_readSurfer 8 s args vX5_readSurfer RX5) (hr : meth.sig.returnType = (some .boolean)) (hlo : meth.locks = false) {out : Int32 × PH} {h : PH} {a0 : Nat} {x1 : Int32} {x2 : Int32} {x3 : Int32} {x4 : Int32} {x5 : Int32} {x6 : Int32} {s0 : Int32} (f : F5_readSurfer_195  h a0 x1 x2 x3 x4 x5 x6 s0 = some out) {H : Heap} {locs : List Loc} (I : ph_I D cy b A fl h s H locs) {ls : Array Slot} (hl : lv_has ls 8 [(0, .ref (b + a0)), (1, .int x1), (2, .int x2), (3, .int x3), (4, .int x4), (5, .int x5), (6, .int x6)]) : W p l e ({ frames := 4, cells := 0, slots := 0, locals := 86 } : Room) s m args below meth c H locs 0 0 (MQ below (va_Qi (fun (r : Int32) (u : PH) => (r, u) = out) (ph_B D cy b A fl) A) args s 0 0 A) (F0 m 195 ls [.int s0]) := by
  unfold F5_readSurfer_195 at f
  refine lv_istore (lv' := [(7, .int s0), (0, .ref (b + a0)), (1, .int x1), (2, .int x2), (3, .int x3), (4, .int x4), (5, .int x5), (6, .int x6)]) S.1 S.2.1 dX5_readSurfer_195 hl (by decide) rfl (fun ls hl => ?_)
  refine lv_iload S.1 S.2.1 dX5_readSurfer_197 (lv_at hl 0 rfl) ?_
  refine lv_iconst (v := (-1)) S.1 S.2.1 dX5_readSurfer_199 (by decide) ?_
  refine lv_icmp_ne (tgt := 205) S.1 S.2.1 dX5_readSurfer_200 (by decide) (fun q1 => ?_) (fun q1 => ?_)
  · have f := (if_neg q1).symm.trans f
    refine lv_aload_n S.1 S.2.1 dX5_readSurfer_205 rfl (lv_at hl 1 rfl) ?_
    obtain ⟨r2, e3, f⟩ := ob f
    refine o_gR S lf5_readSurfer_9 I e3 dX5_readSurfer_206 ?_
    obtain ⟨r4, e5, f⟩ := ob f
    refine o_gR S lf5_readSurfer_121 I e5 dX5_readSurfer_209 ?_
    refine lv_iload_n S.1 S.2.1 dX5_readSurfer_212 rfl (lv_at hl 2 rfl) ?_
    refine lv_iload_n S.1 S.2.1 dX5_readSurfer_213 rfl (lv_at hl 4 rfl) ?_
    refine lv_aload_n S.1 S.2.1 dX5_readSurfer_214 rfl (lv_at hl 1 rfl) ?_
    obtain ⟨r6, e7, f⟩ := ob f
    refine o_gR S lf5_readSurfer_9 I e7 dX5_readSurfer_215 ?_
    obtain ⟨v8, e9, f⟩ := ob f
    refine o_gI S lf5_readSurfer_106 I e9 dX5_readSurfer_218 ?_
    refine lv_imul S.1 S.2.1 dX5_readSurfer_221 ?_
    refine lv_iload_n S.1 S.2.1 dX5_readSurfer_222 rfl (lv_at hl 3 rfl) ?_
    refine lv_iadd S.1 S.2.1 dX5_readSurfer_223 ?_
    refine lv_iload S.1 S.2.1 dX5_readSurfer_224 (lv_at hl 5 rfl) ?_
    refine lv_iload S.1 S.2.1 dX5_readSurfer_226 (lv_at hl 6 rfl) ?_
    refine lv_iload S.1 S.2.1 dX5_readSurfer_228 (lv_at hl 7 rfl) ?_
    refine lv_iload S.1 S.2.1 dX5_readSurfer_230 (lv_at hl 0 rfl) ?_
    obtain ⟨o10, e11, f⟩ := ob f
    refine o_Vv S (As := [.int x1, .int ((x3 * v8) + x2), .int x4, .int x5, .int x6, .int s0]) (rest := []) (ci := 1) (M1_add l D cy b A fl e11) gX5_readSurfer_X1_add rfl rfl rfl cd1_add ⟨Nat.le_of_ble_eq_true rfl, Nat.le_of_ble_eq_true rfl⟩ I (gd e11).1 clX1 rfl rfl hl.1 rfl (Nat.le_of_ble_eq_true rfl) dX5_readSurfer_232 ⟨Nat.le_of_ble_eq_true rfl, Nat.le_of_ble_eq_true rfl⟩ (fun H locs I => ?_)
    refine lv_aload_n S.1 S.2.1 dX5_readSurfer_235 rfl (lv_at hl 1 rfl) ?_
    obtain ⟨o12, e13, f⟩ := ob f
    refine o_Vi S (As := []) (rest := []) (ci := 5) (M5_readStop l D cy b A fl e13) gX5_readSurfer_X5_readStop rfl rfl rfl cd5_readStop ⟨Nat.le_of_ble_eq_true rfl, Nat.le_of_ble_eq_true rfl⟩ I (gd e13).1 clX5 rfl rfl hl.1 rfl (Nat.le_of_ble_eq_true rfl) dX5_readSurfer_236 ⟨Nat.le_of_ble_eq_true rfl, Nat.le_of_ble_eq_true rfl⟩ (fun H locs I => ?_)
    exact o_zret S hr hlo I f dX5_readSurfer_239
  · have f := (if_pos q1).symm.trans f
    refine lv_iconst (v := 0) S.1 S.2.1 dX5_readSurfer_203 (by decide) ?_
    exact o_zret S hr hlo I f dX5_readSurfer_204
set_option maxHeartbeats 4000000 in
set_option maxRecDepth 100000 in
theorem T5_readSurfer_176 (S : CallFix p m c cX5_readSurfer 8 s args vX5_readSurfer RX5) (hr : meth.sig.returnType = (some .boolean)) (hlo : meth.locks = false) {out : Int32 × PH} {h : PH} {a0 : Nat} {x1 : Int32} {x2 : Int32} {x3 : Int32} {x4 : Int32} {x5 : Int32} {s0 : Int32} (f : F5_readSurfer_176  h a0 x1 x2 x3 x4 x5 s0 = some out) {H : Heap} {locs : List Loc} (I : ph_I D cy b A fl h s H locs) {ls : Array Slot} (hl : lv_has ls 8 [(0, .ref (b + a0)), (1, .int x1), (2, .int x2), (3, .int x3), (4, .int x4), (5, .int x5)]) : W p l e ({ frames := 4, cells := 0, slots := 0, locals := 86 } : Room) s m args below meth c H locs 0 0 (MQ below (va_Qi (fun (r : Int32) (u : PH) => (r, u) = out) (ph_B D cy b A fl) A) args s 0 0 A) (F0 m 176 ls [.int s0]) := by
  unfold F5_readSurfer_176 at f
  refine lv_istore (lv' := [(6, .int s0), (0, .ref (b + a0)), (1, .int x1), (2, .int x2), (3, .int x3), (4, .int x4), (5, .int x5)]) S.1 S.2.1 dX5_readSurfer_176 hl (by decide) rfl (fun ls hl => ?_)
  refine lv_iload S.1 S.2.1 dX5_readSurfer_178 (lv_at hl 0 rfl) ?_
  refine lv_iconst (v := (-1)) S.1 S.2.1 dX5_readSurfer_180 (by decide) ?_
  refine lv_icmp_ne (tgt := 188) S.1 S.2.1 dX5_readSurfer_181 (by decide) (fun q1 => ?_) (fun q1 => ?_)
  · have f := (if_neg q1).symm.trans f
    refine lv_aload_n S.1 S.2.1 dX5_readSurfer_188 rfl (lv_at hl 1 rfl) ?_
    refine lv_iconst (v := 0) S.1 S.2.1 dX5_readSurfer_189 (by decide) ?_
    refine lv_bipush (v := 100) S.1 S.2.1 dX5_readSurfer_190 (by decide) ?_
    obtain ⟨o2, e3, f⟩ := ob f
    refine o_Vi S (As := [.int 0, .int 100]) (rest := []) (ci := 5) (M5_numberIn l D cy b A fl e3) gX5_readSurfer_X5_numberIn rfl rfl rfl cd5_numberIn ⟨Nat.le_of_ble_eq_true rfl, Nat.le_of_ble_eq_true rfl⟩ I (gd e3).1 clX5 rfl rfl hl.1 rfl (Nat.le_of_ble_eq_true rfl) dX5_readSurfer_192 ⟨Nat.le_of_ble_eq_true rfl, Nat.le_of_ble_eq_true rfl⟩ (fun H locs I => ?_)
    exact T5_readSurfer_195 S hr hlo  f I (lv_sub hl [1, 2, 3, 4, 5, 6, 0] rfl)
  · have f := (if_pos q1).symm.trans f
    refine lv_iconst (v := (-1)) S.1 S.2.1 dX5_readSurfer_184 (by decide) ?_
    refine lv_goto (tgt := 195) S.1 S.2.1 dX5_readSurfer_185 (by decide) ?_
    exact T5_readSurfer_195 S hr hlo  f I (lv_sub hl [1, 2, 3, 4, 5, 6, 0] rfl)
set_option maxHeartbeats 4000000 in
set_option maxRecDepth 100000 in
theorem T5_readSurfer_157 (S : CallFix p m c cX5_readSurfer 8 s args vX5_readSurfer RX5) (hr : meth.sig.returnType = (some .boolean)) (hlo : meth.locks = false) {out : Int32 × PH} {h : PH} {a0 : Nat} {x1 : Int32} {x2 : Int32} {x3 : Int32} {x4 : Int32} {s0 : Int32} (f : F5_readSurfer_157  h a0 x1 x2 x3 x4 s0 = some out) {H : Heap} {locs : List Loc} (I : ph_I D cy b A fl h s H locs) {ls : Array Slot} (hl : lv_has ls 8 [(0, .ref (b + a0)), (1, .int x1), (2, .int x2), (3, .int x3), (4, .int x4)]) : W p l e ({ frames := 4, cells := 0, slots := 0, locals := 86 } : Room) s m args below meth c H locs 0 0 (MQ below (va_Qi (fun (r : Int32) (u : PH) => (r, u) = out) (ph_B D cy b A fl) A) args s 0 0 A) (F0 m 157 ls [.int s0]) := by
  unfold F5_readSurfer_157 at f
  refine lv_istore (lv' := [(5, .int s0), (0, .ref (b + a0)), (1, .int x1), (2, .int x2), (3, .int x3), (4, .int x4)]) S.1 S.2.1 dX5_readSurfer_157 hl (by decide) rfl (fun ls hl => ?_)
  refine lv_iload S.1 S.2.1 dX5_readSurfer_159 (lv_at hl 0 rfl) ?_
  refine lv_iconst (v := (-1)) S.1 S.2.1 dX5_readSurfer_161 (by decide) ?_
  refine lv_icmp_ne (tgt := 169) S.1 S.2.1 dX5_readSurfer_162 (by decide) (fun q1 => ?_) (fun q1 => ?_)
  · have f := (if_neg q1).symm.trans f
    refine lv_aload_n S.1 S.2.1 dX5_readSurfer_169 rfl (lv_at hl 1 rfl) ?_
    refine lv_iconst (v := 0) S.1 S.2.1 dX5_readSurfer_170 (by decide) ?_
    refine lv_bipush (v := 100) S.1 S.2.1 dX5_readSurfer_171 (by decide) ?_
    obtain ⟨o2, e3, f⟩ := ob f
    refine o_Vi S (As := [.int 0, .int 100]) (rest := []) (ci := 5) (M5_numberIn l D cy b A fl e3) gX5_readSurfer_X5_numberIn rfl rfl rfl cd5_numberIn ⟨Nat.le_of_ble_eq_true rfl, Nat.le_of_ble_eq_true rfl⟩ I (gd e3).1 clX5 rfl rfl hl.1 rfl (Nat.le_of_ble_eq_true rfl) dX5_readSurfer_173 ⟨Nat.le_of_ble_eq_true rfl, Nat.le_of_ble_eq_true rfl⟩ (fun H locs I => ?_)
    exact T5_readSurfer_176 S hr hlo  f I (lv_sub hl [1, 2, 3, 4, 5, 0] rfl)
  · have f := (if_pos q1).symm.trans f
    refine lv_iconst (v := (-1)) S.1 S.2.1 dX5_readSurfer_165 (by decide) ?_
    refine lv_goto (tgt := 176) S.1 S.2.1 dX5_readSurfer_166 (by decide) ?_
    exact T5_readSurfer_176 S hr hlo  f I (lv_sub hl [1, 2, 3, 4, 5, 0] rfl)
set_option maxHeartbeats 4000000 in
set_option maxRecDepth 100000 in
theorem T5_readSurfer_139 (S : CallFix p m c cX5_readSurfer 8 s args vX5_readSurfer RX5) (hr : meth.sig.returnType = (some .boolean)) (hlo : meth.locks = false) {out : Int32 × PH} {h : PH} {a0 : Nat} {x1 : Int32} {x2 : Int32} {x3 : Int32} {s0 : Int32} (f : F5_readSurfer_139  h a0 x1 x2 x3 s0 = some out) {H : Heap} {locs : List Loc} (I : ph_I D cy b A fl h s H locs) {ls : Array Slot} (hl : lv_has ls 8 [(0, .ref (b + a0)), (1, .int x1), (2, .int x2), (3, .int x3)]) : W p l e ({ frames := 4, cells := 0, slots := 0, locals := 86 } : Room) s m args below meth c H locs 0 0 (MQ below (va_Qi (fun (r : Int32) (u : PH) => (r, u) = out) (ph_B D cy b A fl) A) args s 0 0 A) (F0 m 139 ls [.int s0]) := by
  unfold F5_readSurfer_139 at f
  refine lv_istore (lv' := [(4, .int s0), (0, .ref (b + a0)), (1, .int x1), (2, .int x2), (3, .int x3)]) S.1 S.2.1 dX5_readSurfer_139 hl (by decide) rfl (fun ls hl => ?_)
  refine lv_iload S.1 S.2.1 dX5_readSurfer_141 (lv_at hl 0 rfl) ?_
  refine lv_iconst (v := (-1)) S.1 S.2.1 dX5_readSurfer_143 (by decide) ?_
  refine lv_icmp_ne (tgt := 151) S.1 S.2.1 dX5_readSurfer_144 (by decide) (fun q1 => ?_) (fun q1 => ?_)
  · have f := (if_neg q1).symm.trans f
    refine lv_aload_n S.1 S.2.1 dX5_readSurfer_151 rfl (lv_at hl 1 rfl) ?_
    refine lv_iconst (v := 1) S.1 S.2.1 dX5_readSurfer_152 (by decide) ?_
    refine lv_iconst (v := 3) S.1 S.2.1 dX5_readSurfer_153 (by decide) ?_
    obtain ⟨o2, e3, f⟩ := ob f
    refine o_Vi S (As := [.int 1, .int 3]) (rest := []) (ci := 5) (M5_numberIn l D cy b A fl e3) gX5_readSurfer_X5_numberIn rfl rfl rfl cd5_numberIn ⟨Nat.le_of_ble_eq_true rfl, Nat.le_of_ble_eq_true rfl⟩ I (gd e3).1 clX5 rfl rfl hl.1 rfl (Nat.le_of_ble_eq_true rfl) dX5_readSurfer_154 ⟨Nat.le_of_ble_eq_true rfl, Nat.le_of_ble_eq_true rfl⟩ (fun H locs I => ?_)
    exact T5_readSurfer_157 S hr hlo  f I (lv_sub hl [1, 2, 3, 4, 0] rfl)
  · have f := (if_pos q1).symm.trans f
    refine lv_iconst (v := (-1)) S.1 S.2.1 dX5_readSurfer_147 (by decide) ?_
    refine lv_goto (tgt := 157) S.1 S.2.1 dX5_readSurfer_148 (by decide) ?_
    exact T5_readSurfer_157 S hr hlo  f I (lv_sub hl [1, 2, 3, 4, 0] rfl)
set_option maxHeartbeats 4000000 in
set_option maxRecDepth 100000 in
theorem T5_readSurfer_122 (S : CallFix p m c cX5_readSurfer 8 s args vX5_readSurfer RX5) (hr : meth.sig.returnType = (some .boolean)) (hlo : meth.locks = false) {out : Int32 × PH} {h : PH} {a0 : Nat} {x1 : Int32} {x2 : Int32} {s0 : Int32} (f : F5_readSurfer_122  h a0 x1 x2 s0 = some out) {H : Heap} {locs : List Loc} (I : ph_I D cy b A fl h s H locs) {ls : Array Slot} (hl : lv_has ls 8 [(0, .ref (b + a0)), (1, .int x1), (2, .int x2)]) : W p l e ({ frames := 4, cells := 0, slots := 0, locals := 86 } : Room) s m args below meth c H locs 0 0 (MQ below (va_Qi (fun (r : Int32) (u : PH) => (r, u) = out) (ph_B D cy b A fl) A) args s 0 0 A) (F0 m 122 ls [.int s0]) := by
  unfold F5_readSurfer_122 at f
  refine lv_istore_n (lv' := [(3, .int s0), (0, .ref (b + a0)), (1, .int x1), (2, .int x2)]) S.1 S.2.1 dX5_readSurfer_122 rfl hl (by decide) rfl (fun ls hl => ?_)
  refine lv_iload_n S.1 S.2.1 dX5_readSurfer_123 rfl (lv_at hl 0 rfl) ?_
  refine lv_iconst (v := (-1)) S.1 S.2.1 dX5_readSurfer_124 (by decide) ?_
  refine lv_icmp_ne (tgt := 132) S.1 S.2.1 dX5_readSurfer_125 (by decide) (fun q1 => ?_) (fun q1 => ?_)
  · have f := (if_neg q1).symm.trans f
    refine lv_aload_n S.1 S.2.1 dX5_readSurfer_132 rfl (lv_at hl 1 rfl) ?_
    refine lv_iconst (v := 1) S.1 S.2.1 dX5_readSurfer_133 (by decide) ?_
    refine lv_bipush (v := 9) S.1 S.2.1 dX5_readSurfer_134 (by decide) ?_
    obtain ⟨o2, e3, f⟩ := ob f
    refine o_Vi S (As := [.int 1, .int 9]) (rest := []) (ci := 5) (M5_numberIn l D cy b A fl e3) gX5_readSurfer_X5_numberIn rfl rfl rfl cd5_numberIn ⟨Nat.le_of_ble_eq_true rfl, Nat.le_of_ble_eq_true rfl⟩ I (gd e3).1 clX5 rfl rfl hl.1 rfl (Nat.le_of_ble_eq_true rfl) dX5_readSurfer_136 ⟨Nat.le_of_ble_eq_true rfl, Nat.le_of_ble_eq_true rfl⟩ (fun H locs I => ?_)
    exact T5_readSurfer_139 S hr hlo  f I (lv_sub hl [1, 2, 3, 0] rfl)
  · have f := (if_pos q1).symm.trans f
    refine lv_iconst (v := (-1)) S.1 S.2.1 dX5_readSurfer_128 (by decide) ?_
    refine lv_goto (tgt := 139) S.1 S.2.1 dX5_readSurfer_129 (by decide) ?_
    exact T5_readSurfer_139 S hr hlo  f I (lv_sub hl [1, 2, 3, 0] rfl)
set_option maxHeartbeats 4000000 in
set_option maxRecDepth 100000 in
theorem T5_readSurfer_0 (S : CallFix p m c cX5_readSurfer 8 s args vX5_readSurfer RX5) (hr : meth.sig.returnType = (some .boolean)) (hlo : meth.locks = false) {out : Int32 × PH} {h : PH} {a0 : Nat} (f : F5_readSurfer_0  h a0 = some out) {H : Heap} {locs : List Loc} (I : ph_I D cy b A fl h s H locs) {ls : Array Slot} (hl : lv_has ls 8 [(0, .ref (b + a0))]) : W p l e ({ frames := 4, cells := 0, slots := 0, locals := 86 } : Room) s m args below meth c H locs 0 0 (MQ below (va_Qi (fun (r : Int32) (u : PH) => (r, u) = out) (ph_B D cy b A fl) A) args s 0 0 A) (F0 m 0 ls []) := by
  unfold F5_readSurfer_0 at f
  refine lv_aload_n S.1 S.2.1 dX5_readSurfer_0 rfl (lv_at hl 0 rfl) ?_
  obtain ⟨r1, e2, f⟩ := ob f
  refine o_gR S lf5_readSurfer_9 I e2 dX5_readSurfer_1 ?_
  obtain ⟨r3, e4, f⟩ := ob f
  refine o_gR S lf5_readSurfer_121 I e4 dX5_readSurfer_4 ?_
  obtain ⟨v5, e6, f⟩ := ob f
  refine o_gI S lf5_readSurfer_125 I e6 dX5_readSurfer_7 ?_
  refine lv_iconst (v := 5) S.1 S.2.1 dX5_readSurfer_10 (by decide) ?_
  refine lv_icmp_lt (tgt := 20) S.1 S.2.1 dX5_readSurfer_11 (by decide) (fun q7 => ?_) (fun q7 => ?_)
  · have f := (if_pos q7).symm.trans f
    refine lv_aload_n S.1 S.2.1 dX5_readSurfer_20 rfl (lv_at hl 0 rfl) ?_
    refine lv_iconst (v := 1) S.1 S.2.1 dX5_readSurfer_21 (by decide) ?_
    obtain ⟨h8, e9, f⟩ := ob f
    refine o_pZ S lp5_readSurfer_41 I e9 dX5_readSurfer_22 (fun H locs I => ?_)
    refine lv_aload_n S.1 S.2.1 dX5_readSurfer_25 rfl (lv_at hl 0 rfl) ?_
    obtain ⟨r10, e11, f⟩ := ob f
    refine o_gR S lf5_readSurfer_18 I e11 dX5_readSurfer_26 ?_
    obtain ⟨o12, e13, f⟩ := ob f
    refine o_Vv S (As := []) (rest := []) (ci := 7) (M7_advance l D cy b A fl e13) gX5_readSurfer_X7_advance rfl rfl rfl cd7_advance ⟨Nat.le_of_ble_eq_true rfl, Nat.le_of_ble_eq_true rfl⟩ I (gd e13).1 clX7 rfl rfl hl.1 rfl (Nat.le_of_ble_eq_true rfl) dX5_readSurfer_29 ⟨Nat.le_of_ble_eq_true rfl, Nat.le_of_ble_eq_true rfl⟩ (fun H locs I => ?_)
    refine lv_aload_n S.1 S.2.1 dX5_readSurfer_32 rfl (lv_at hl 0 rfl) ?_
    obtain ⟨r14, e15, f⟩ := ob f
    refine o_gR S lf5_readSurfer_18 I e15 dX5_readSurfer_33 ?_
    obtain ⟨v16, e17, f⟩ := ob f
    refine o_gI S lf5_readSurfer_52 I e17 dX5_readSurfer_36 ?_
    refine lv_bipush (v := 24) S.1 S.2.1 dX5_readSurfer_39 (by decide) ?_
    refine lv_icmp_eq (tgt := 50) S.1 S.2.1 dX5_readSurfer_41 (by decide) (fun q18 => ?_) (fun q18 => ?_)
    · have f := (if_pos q18).symm.trans f
      refine lv_aload_n S.1 S.2.1 dX5_readSurfer_50 rfl (lv_at hl 0 rfl) ?_
      obtain ⟨r19, e20, f⟩ := ob f
      refine o_gR S lf5_readSurfer_9 I e20 dX5_readSurfer_51 ?_
      obtain ⟨r21, e22, f⟩ := ob f
      refine o_gR S lf5_readSurfer_121 I e22 dX5_readSurfer_54 ?_
      refine lv_aload_n S.1 S.2.1 dX5_readSurfer_57 rfl (lv_at hl 0 rfl) ?_
      obtain ⟨r23, e24, f⟩ := ob f
      refine o_gR S lf5_readSurfer_18 I e24 dX5_readSurfer_58 ?_
      obtain ⟨v25, e26, f⟩ := ob f
      refine o_gI S lf5_readSurfer_97 I e26 dX5_readSurfer_61 ?_
      obtain ⟨o27, e28, f⟩ := ob f
      refine o_Vi S (As := [.int v25]) (rest := []) (ci := 1) (M1_hasName l D cy b A fl e28) gX5_readSurfer_X1_hasName rfl rfl rfl cd1_hasName ⟨Nat.le_of_ble_eq_true rfl, Nat.le_of_ble_eq_true rfl⟩ I (gd e28).1 clX1 rfl rfl hl.1 rfl (Nat.le_of_ble_eq_true rfl) dX5_readSurfer_64 ⟨Nat.le_of_ble_eq_true rfl, Nat.le_of_ble_eq_true rfl⟩ (fun H locs I => ?_)
      refine lv_if_eq (tgt := 76) S.1 S.2.1 dX5_readSurfer_67 (by decide) (fun q29 => ?_) (fun q29 => ?_)
      · have f := (if_pos q29).symm.trans f
        refine lv_aload_n S.1 S.2.1 dX5_readSurfer_76 rfl (lv_at hl 0 rfl) ?_
        obtain ⟨r30, e31, f⟩ := ob f
        refine o_gR S lf5_readSurfer_18 I e31 dX5_readSurfer_77 ?_
        obtain ⟨v32, e33, f⟩ := ob f
        refine o_gI S lf5_readSurfer_97 I e33 dX5_readSurfer_80 ?_
        refine lv_istore_n (lv' := [(1, .int v32), (0, .ref (b + a0))]) S.1 S.2.1 dX5_readSurfer_83 rfl hl (by decide) rfl (fun ls hl => ?_)
        refine lv_aload_n S.1 S.2.1 dX5_readSurfer_84 rfl (lv_at hl 1 rfl) ?_
        refine lv_iconst (v := 0) S.1 S.2.1 dX5_readSurfer_85 (by decide) ?_
        refine lv_aload_n S.1 S.2.1 dX5_readSurfer_86 rfl (lv_at hl 1 rfl) ?_
        obtain ⟨r34, e35, f⟩ := ob f
        refine o_gR S lf5_readSurfer_9 I e35 dX5_readSurfer_87 ?_
        obtain ⟨v36, e37, f⟩ := ob f
        refine o_gI S lf5_readSurfer_106 I e37 dX5_readSurfer_90 ?_
        refine lv_iconst (v := 1) S.1 S.2.1 dX5_readSurfer_93 (by decide) ?_
        refine lv_isub S.1 S.2.1 dX5_readSurfer_94 ?_
        obtain ⟨o38, e39, f⟩ := ob f
        refine o_Vi S (As := [.int 0, .int (v36 - 1)]) (rest := []) (ci := 5) (M5_numberIn l D cy b A fl e39) gX5_readSurfer_X5_numberIn rfl rfl rfl cd5_numberIn ⟨Nat.le_of_ble_eq_true rfl, Nat.le_of_ble_eq_true rfl⟩ I (gd e39).1 clX5 rfl rfl hl.1 rfl (Nat.le_of_ble_eq_true rfl) dX5_readSurfer_95 ⟨Nat.le_of_ble_eq_true rfl, Nat.le_of_ble_eq_true rfl⟩ (fun H locs I => ?_)
        refine lv_istore_n (lv' := [(2, .int o38.1), (1, .int v32), (0, .ref (b + a0))]) S.1 S.2.1 dX5_readSurfer_98 rfl hl (by decide) rfl (fun ls hl => ?_)
        refine lv_iload_n S.1 S.2.1 dX5_readSurfer_99 rfl (lv_at hl 0 rfl) ?_
        refine lv_iconst (v := (-1)) S.1 S.2.1 dX5_readSurfer_100 (by decide) ?_
        refine lv_icmp_ne (tgt := 108) S.1 S.2.1 dX5_readSurfer_101 (by decide) (fun q40 => ?_) (fun q40 => ?_)
        · have f := (if_neg q40).symm.trans f
          refine lv_aload_n S.1 S.2.1 dX5_readSurfer_108 rfl (lv_at hl 2 rfl) ?_
          refine lv_iconst (v := 0) S.1 S.2.1 dX5_readSurfer_109 (by decide) ?_
          refine lv_aload_n S.1 S.2.1 dX5_readSurfer_110 rfl (lv_at hl 2 rfl) ?_
          obtain ⟨r41, e42, f⟩ := ob f
          refine o_gR S lf5_readSurfer_9 I e42 dX5_readSurfer_111 ?_
          obtain ⟨v43, e44, f⟩ := ob f
          refine o_gI S lf5_readSurfer_109 I e44 dX5_readSurfer_114 ?_
          refine lv_iconst (v := 1) S.1 S.2.1 dX5_readSurfer_117 (by decide) ?_
          refine lv_isub S.1 S.2.1 dX5_readSurfer_118 ?_
          obtain ⟨o45, e46, f⟩ := ob f
          refine o_Vi S (As := [.int 0, .int (v43 - 1)]) (rest := []) (ci := 5) (M5_numberIn l D cy b A fl e46) gX5_readSurfer_X5_numberIn rfl rfl rfl cd5_numberIn ⟨Nat.le_of_ble_eq_true rfl, Nat.le_of_ble_eq_true rfl⟩ I (gd e46).1 clX5 rfl rfl hl.1 rfl (Nat.le_of_ble_eq_true rfl) dX5_readSurfer_119 ⟨Nat.le_of_ble_eq_true rfl, Nat.le_of_ble_eq_true rfl⟩ (fun H locs I => ?_)
          exact T5_readSurfer_122 S hr hlo  f I (lv_sub hl [2, 1, 0] rfl)
        · have f := (if_pos q40).symm.trans f
          refine lv_iconst (v := (-1)) S.1 S.2.1 dX5_readSurfer_104 (by decide) ?_
          refine lv_goto (tgt := 122) S.1 S.2.1 dX5_readSurfer_105 (by decide) ?_
          exact T5_readSurfer_122 S hr hlo  f I (lv_sub hl [2, 1, 0] rfl)
      · have f := (if_neg q29).symm.trans f
        refine lv_aload_n S.1 S.2.1 dX5_readSurfer_70 rfl (lv_at hl 0 rfl) ?_
        refine lv_iconst (v := 3) S.1 S.2.1 dX5_readSurfer_71 (by decide) ?_
        obtain ⟨o47, e48, f⟩ := ob f
        refine o_Vi S (As := [.int 3]) (rest := []) (ci := 5) (M5_refuse l D cy b A fl e48) gX5_readSurfer_X5_refuse rfl rfl rfl cd5_refuse ⟨Nat.le_of_ble_eq_true rfl, Nat.le_of_ble_eq_true rfl⟩ I (gd e48).1 clX5 rfl rfl hl.1 rfl (Nat.le_of_ble_eq_true rfl) dX5_readSurfer_72 ⟨Nat.le_of_ble_eq_true rfl, Nat.le_of_ble_eq_true rfl⟩ (fun H locs I => ?_)
        exact o_zret S hr hlo I f dX5_readSurfer_75
    · have f := (if_neg q18).symm.trans f
      refine lv_aload_n S.1 S.2.1 dX5_readSurfer_44 rfl (lv_at hl 0 rfl) ?_
      refine lv_iconst (v := 1) S.1 S.2.1 dX5_readSurfer_45 (by decide) ?_
      obtain ⟨o49, e50, f⟩ := ob f
      refine o_Vi S (As := [.int 1]) (rest := []) (ci := 5) (M5_refuse l D cy b A fl e50) gX5_readSurfer_X5_refuse rfl rfl rfl cd5_refuse ⟨Nat.le_of_ble_eq_true rfl, Nat.le_of_ble_eq_true rfl⟩ I (gd e50).1 clX5 rfl rfl hl.1 rfl (Nat.le_of_ble_eq_true rfl) dX5_readSurfer_46 ⟨Nat.le_of_ble_eq_true rfl, Nat.le_of_ble_eq_true rfl⟩ (fun H locs I => ?_)
      exact o_zret S hr hlo I f dX5_readSurfer_49
  · have f := (if_neg q7).symm.trans f
    refine lv_aload_n S.1 S.2.1 dX5_readSurfer_14 rfl (lv_at hl 0 rfl) ?_
    refine lv_iconst (v := 2) S.1 S.2.1 dX5_readSurfer_15 (by decide) ?_
    obtain ⟨o51, e52, f⟩ := ob f
    refine o_Vi S (As := [.int 2]) (rest := []) (ci := 5) (M5_refuse l D cy b A fl e52) gX5_readSurfer_X5_refuse rfl rfl rfl cd5_refuse ⟨Nat.le_of_ble_eq_true rfl, Nat.le_of_ble_eq_true rfl⟩ I (gd e52).1 clX5 rfl rfl hl.1 rfl (Nat.le_of_ble_eq_true rfl) dX5_readSurfer_16 ⟨Nat.le_of_ble_eq_true rfl, Nat.le_of_ble_eq_true rfl⟩ (fun H locs I => ?_)
    exact o_zret S hr hlo I f dX5_readSurfer_19
theorem M5_readSurfer (l : Launch) (D : va_G) (cy : Nat → ClassId) (b : Nat) (A : Nat → Prop) (fl : Bool) {h : PH} {a0 : Nat} {out : Int32 × PH} (f : F5_readSurfer h a0 = some out) : Met l yX5_readSurfer vX5_readSurfer ({ frames := 4, cells := 0, slots := 0, locals := 86 } : Room) (va_Pc [.ref (b + a0)] (ph_B D cy b A fl h)) (va_Qi (fun (r : Int32) (u : PH) => (r, u) = out) (ph_B D cy b A fl) A) 0 0 A :=
  o_met (by decide) rfl (Nat.le_of_ble_eq_true rfl) rfl (fun p e s m below meth c S hr hlo hnm ls hl I => T5_readSurfer_0 S hr hlo ((gd f).2) I (lv_sub hl [0] rfl))
def vX10_firstMinute : List Cond := .code yX10_firstMinute cX10_firstMinute 2 (some .int) :: TB
theorem lf10_firstMinute_18 : Fl vX10_firstMinute RX10 18 10 4 := ⟨RX10, TX10, 8, rfl, by decide, (fun w h9 => List.mem_cons_of_mem _ (wC_wsX100 w h9)), (List.mem_cons_of_mem _ wT_4_10)⟩
theorem lf10_firstMinute_9 : Fl vX10_firstMinute RX10 9 10 2 := ⟨RX10, TX10, 8, rfl, by decide, (fun w h9 => List.mem_cons_of_mem _ (wC_wsX100 w h9)), (List.mem_cons_of_mem _ wT_4_8)⟩
theorem cd10_firstMinute : Cd yX10_firstMinute 1 := ⟨by decide, by decide, by decide +kernel⟩
set_option maxHeartbeats 4000000 in
set_option maxRecDepth 100000 in
theorem T10_firstMinute_0 (S : CallFix p m c cX10_firstMinute 2 s args vX10_firstMinute RX10) (hr : meth.sig.returnType = (some .int)) (hlo : meth.locks = false) {out : Int32 × PH} {h : PH} {a0 : Nat} {x1 : Int32} (f : F10_firstMinute_0  h a0 x1 = some out) {H : Heap} {locs : List Loc} (I : ph_I D cy b A fl h s H locs) {ls : Array Slot} (hl : lv_has ls 2 [(0, .ref (b + a0)), (1, .int x1)]) : W p l e ({ frames := 0, cells := 0, slots := 0, locals := 0 } : Room) s m args below meth c H locs 0 0 (MQ below (va_Qi (fun (r : Int32) (u : PH) => (r, u) = out) (ph_B D cy b A fl) A) args s 0 0 A) (F0 m 0 ls []) := by
  unfold F10_firstMinute_0 at f
  refine lv_aload_n S.1 S.2.1 dX10_firstMinute_0 rfl (lv_at hl 0 rfl) ?_
  obtain ⟨r1, e2, f⟩ := ob f
  refine o_gR S lf10_firstMinute_18 I e2 dX10_firstMinute_1 ?_
  refine lv_aload_n S.1 S.2.1 dX10_firstMinute_4 rfl (lv_at hl 0 rfl) ?_
  obtain ⟨r3, e4, f⟩ := ob f
  refine o_gR S lf10_firstMinute_9 I e4 dX10_firstMinute_5 ?_
  refine lv_iload_n S.1 S.2.1 dX10_firstMinute_8 rfl (lv_at hl 1 rfl) ?_
  obtain ⟨v6, e5, f⟩ := ob f
  refine o_iald S I e5 dX10_firstMinute_9 ?_
  obtain ⟨v8, e7, f⟩ := ob f
  refine o_iald S I e7 dX10_firstMinute_10 ?_
  exact o_iret S hr hlo I f dX10_firstMinute_11
theorem M10_firstMinute (l : Launch) (D : va_G) (cy : Nat → ClassId) (b : Nat) (A : Nat → Prop) (fl : Bool) {h : PH} {a0 : Nat} {x1 : Int32} {out : Int32 × PH} (f : F10_firstMinute h a0 x1 = some out) : Met l yX10_firstMinute vX10_firstMinute ({ frames := 0, cells := 0, slots := 0, locals := 0 } : Room) (va_Pc [.ref (b + a0), .int x1] (ph_B D cy b A fl h)) (va_Qi (fun (r : Int32) (u : PH) => (r, u) = out) (ph_B D cy b A fl) A) 0 0 A :=
  o_met (by decide) rfl (Nat.le_of_ble_eq_true rfl) rfl (fun p e s m below meth c S hr hlo hnm ls hl I => T10_firstMinute_0 S hr hlo ((gd f).2) I (lv_sub hl [0, 1] rfl))
def vX10_lastMinute : List Cond := .code yX10_lastMinute cX10_lastMinute 2 (some .int) :: TB
theorem gX10_lastMinute_X10_firstMinute : GoodIn vX10_lastMinute (wsV RX10 37 RX10 yX10_firstMinute vX10_firstMinute) := gV_of wT_20_2 wT_20_3 wT_20_4 wT_3_9 wT_20_5
theorem lf10_lastMinute_15 : Fl vX10_lastMinute RX10 15 10 3 := ⟨RX10, TX10, 8, rfl, by decide, (fun w h9 => List.mem_cons_of_mem _ (wC_wsX100 w h9)), (List.mem_cons_of_mem _ wT_4_9)⟩
theorem cd10_lastMinute : Cd yX10_lastMinute 1 := ⟨by decide, by decide, by decide +kernel⟩
set_option maxHeartbeats 4000000 in
set_option maxRecDepth 100000 in
theorem T10_lastMinute_0 (S : CallFix p m c cX10_lastMinute 2 s args vX10_lastMinute RX10) (hr : meth.sig.returnType = (some .int)) (hlo : meth.locks = false) {out : Int32 × PH} {h : PH} {a0 : Nat} {x1 : Int32} (f : F10_lastMinute_0  h a0 x1 = some out) {H : Heap} {locs : List Loc} (I : ph_I D cy b A fl h s H locs) {ls : Array Slot} (hl : lv_has ls 2 [(0, .ref (b + a0)), (1, .int x1)]) : W p l e ({ frames := 1, cells := 0, slots := 0, locals := 21 } : Room) s m args below meth c H locs 0 0 (MQ below (va_Qi (fun (r : Int32) (u : PH) => (r, u) = out) (ph_B D cy b A fl) A) args s 0 0 A) (F0 m 0 ls []) := by
  unfold F10_lastMinute_0 at f
  refine lv_aload_n S.1 S.2.1 dX10_lastMinute_0 rfl (lv_at hl 0 rfl) ?_
  refine lv_iload_n S.1 S.2.1 dX10_lastMinute_1 rfl (lv_at hl 1 rfl) ?_
  obtain ⟨o1, e2, f⟩ := ob f
  refine o_Vi S (As := [.int x1]) (rest := []) (ci := 10) (M10_firstMinute l D cy b A fl e2) gX10_lastMinute_X10_firstMinute rfl rfl rfl cd10_firstMinute ⟨Nat.le_of_ble_eq_true rfl, Nat.le_of_ble_eq_true rfl⟩ I (gd e2).1 clX10 rfl rfl hl.1 rfl (Nat.le_of_ble_eq_true rfl) dX10_lastMinute_2 ⟨Nat.le_of_ble_eq_true rfl, Nat.le_of_ble_eq_true rfl⟩ (fun H locs I => ?_)
  refine lv_aload_n S.1 S.2.1 dX10_lastMinute_5 rfl (lv_at hl 0 rfl) ?_
  obtain ⟨r3, e4, f⟩ := ob f
  refine o_gR S lf10_lastMinute_15 I e4 dX10_lastMinute_6 ?_
  refine lv_iload_n S.1 S.2.1 dX10_lastMinute_9 rfl (lv_at hl 1 rfl) ?_
  obtain ⟨v6, e5, f⟩ := ob f
  refine o_iald S I e5 dX10_lastMinute_10 ?_
  refine lv_iadd S.1 S.2.1 dX10_lastMinute_11 ?_
  refine lv_iconst (v := 1) S.1 S.2.1 dX10_lastMinute_12 (by decide) ?_
  refine lv_isub S.1 S.2.1 dX10_lastMinute_13 ?_
  exact o_iret S hr hlo I f dX10_lastMinute_14
theorem M10_lastMinute (l : Launch) (D : va_G) (cy : Nat → ClassId) (b : Nat) (A : Nat → Prop) (fl : Bool) {h : PH} {a0 : Nat} {x1 : Int32} {out : Int32 × PH} (f : F10_lastMinute h a0 x1 = some out) : Met l yX10_lastMinute vX10_lastMinute ({ frames := 1, cells := 0, slots := 0, locals := 21 } : Room) (va_Pc [.ref (b + a0), .int x1] (ph_B D cy b A fl h)) (va_Qi (fun (r : Int32) (u : PH) => (r, u) = out) (ph_B D cy b A fl) A) 0 0 A :=
  o_met (by decide) rfl (Nat.le_of_ble_eq_true rfl) rfl (fun p e s m below meth c S hr hlo hnm ls hl I => T10_lastMinute_0 S hr hlo ((gd f).2) I (lv_sub hl [0, 1] rfl))
def vX10_beginSet : List Cond := .code yX10_beginSet cX10_beginSet 1 none :: TB
theorem lf10_beginSet_30 : Fl vX10_beginSet RX10 30 10 0 := ⟨RX10, TX10, 8, rfl, by decide, (fun w h9 => List.mem_cons_of_mem _ (wC_wsX100 w h9)), (List.mem_cons_of_mem _ wT_15_3)⟩
theorem lf10_beginSet_9 : Fl vX10_beginSet RX10 9 10 2 := ⟨RX10, TX10, 8, rfl, by decide, (fun w h9 => List.mem_cons_of_mem _ (wC_wsX100 w h9)), (List.mem_cons_of_mem _ wT_4_8)⟩
theorem lf10_beginSet_34 : Fl vX10_beginSet RX10 34 10 1 := ⟨RX10, TX10, 8, rfl, by decide, (fun w h9 => List.mem_cons_of_mem _ (wC_wsX100 w h9)), (List.mem_cons_of_mem _ wT_15_4)⟩
theorem lf10_beginSet_15 : Fl vX10_beginSet RX10 15 10 3 := ⟨RX10, TX10, 8, rfl, by decide, (fun w h9 => List.mem_cons_of_mem _ (wC_wsX100 w h9)), (List.mem_cons_of_mem _ wT_4_9)⟩
theorem lp10_beginSet_30 : Pl vX10_beginSet RX10 30 10 0 .int := ⟨RX10, TX10, 8, tyX10, rfl, by decide, (fun w h9 => List.mem_cons_of_mem _ (wC_wsX100 w h9)), (List.mem_cons_of_mem _ wT_15_3), tyX10_ok, nmX10, rfl, rfl⟩
theorem cd10_beginSet : Cd yX10_beginSet 0 := ⟨by decide, by decide, by decide +kernel⟩
set_option maxHeartbeats 4000000 in
set_option maxRecDepth 100000 in
theorem T10_beginSet_0 (S : CallFix p m c cX10_beginSet 1 s args vX10_beginSet RX10) (hr : meth.sig.returnType = none) (hlo : meth.locks = false) {out : PH} {h : PH} {a0 : Nat} (f : F10_beginSet_0  h a0 = some out) {H : Heap} {locs : List Loc} (I : ph_I D cy b A fl h s H locs) {ls : Array Slot} (hl : lv_has ls 1 [(0, .ref (b + a0))]) : W p l e ({ frames := 0, cells := 0, slots := 0, locals := 0 } : Room) s m args below meth c H locs 0 0 (MQ below (va_Qv (fun (u : PH) => u = out) (ph_B D cy b A fl) A) args s 0 0 A) (F0 m 0 ls []) := by
  unfold F10_beginSet_0 at f
  refine lv_aload_n S.1 S.2.1 dX10_beginSet_0 rfl (lv_at hl 0 rfl) ?_
  obtain ⟨v1, e2, f⟩ := ob f
  refine o_gI S lf10_beginSet_30 I e2 dX10_beginSet_1 ?_
  refine lv_iconst (v := 4) S.1 S.2.1 dX10_beginSet_4 (by decide) ?_
  refine lv_icmp_ge (tgt := 41) S.1 S.2.1 dX10_beginSet_5 (by decide) (fun q3 => ?_) (fun q3 => ?_)
  · have f := (if_pos q3).symm.trans f
    exact o_vret S hr hlo I f dX10_beginSet_41
  · have f := (if_neg q3).symm.trans f
    refine lv_aload_n S.1 S.2.1 dX10_beginSet_8 rfl (lv_at hl 0 rfl) ?_
    obtain ⟨r4, e5, f⟩ := ob f
    refine o_gR S lf10_beginSet_9 I e5 dX10_beginSet_9 ?_
    refine lv_aload_n S.1 S.2.1 dX10_beginSet_12 rfl (lv_at hl 0 rfl) ?_
    obtain ⟨v6, e7, f⟩ := ob f
    refine o_gI S lf10_beginSet_30 I e7 dX10_beginSet_13 ?_
    refine lv_aload_n S.1 S.2.1 dX10_beginSet_16 rfl (lv_at hl 0 rfl) ?_
    obtain ⟨v8, e9, f⟩ := ob f
    refine o_gI S lf10_beginSet_34 I e9 dX10_beginSet_17 ?_
    obtain ⟨h11, e10, f⟩ := ob f
    refine o_iast S I e10 dX10_beginSet_20 (fun H locs I => ?_)
    refine lv_aload_n S.1 S.2.1 dX10_beginSet_21 rfl (lv_at hl 0 rfl) ?_
    obtain ⟨r12, e13, f⟩ := ob f
    refine o_gR S lf10_beginSet_15 I e13 dX10_beginSet_22 ?_
    refine lv_aload_n S.1 S.2.1 dX10_beginSet_25 rfl (lv_at hl 0 rfl) ?_
    obtain ⟨v14, e15, f⟩ := ob f
    refine o_gI S lf10_beginSet_30 I e15 dX10_beginSet_26 ?_
    refine lv_iconst (v := 0) S.1 S.2.1 dX10_beginSet_29 (by decide) ?_
    obtain ⟨h17, e16, f⟩ := ob f
    refine o_iast S I e16 dX10_beginSet_30 (fun H locs I => ?_)
    refine lv_aload_n S.1 S.2.1 dX10_beginSet_31 rfl (lv_at hl 0 rfl) ?_
    refine lv_dup S.1 S.2.1 dX10_beginSet_32 rfl ?_
    obtain ⟨v18, e19, f⟩ := ob f
    refine o_gI S lf10_beginSet_30 I e19 dX10_beginSet_33 ?_
    refine lv_iconst (v := 1) S.1 S.2.1 dX10_beginSet_36 (by decide) ?_
    refine lv_iadd S.1 S.2.1 dX10_beginSet_37 ?_
    obtain ⟨h20, e21, f⟩ := ob f
    refine o_pI S lp10_beginSet_30 I e21 dX10_beginSet_38 (fun H locs I => ?_)
    exact o_vret S hr hlo I f dX10_beginSet_41
theorem M10_beginSet (l : Launch) (D : va_G) (cy : Nat → ClassId) (b : Nat) (A : Nat → Prop) (fl : Bool) {h : PH} {a0 : Nat} {out : PH} (f : F10_beginSet h a0 = some out) : Met l yX10_beginSet vX10_beginSet ({ frames := 0, cells := 0, slots := 0, locals := 0 } : Room) (va_Pc [.ref (b + a0)] (ph_B D cy b A fl h)) (va_Qv (fun (u : PH) => u = out) (ph_B D cy b A fl) A) 0 0 A :=
  o_met (by decide) rfl (Nat.le_of_ble_eq_true rfl) rfl (fun p e s m below meth c S hr hlo hnm ls hl I => T10_beginSet_0 S hr hlo ((gd f).2) I (lv_sub hl [0] rfl))
def vX10_add : List Cond := .code yX10_add cX10_add 3 none :: TB
theorem lf10_add_34 : Fl vX10_add RX10 34 10 1 := ⟨RX10, TX10, 8, rfl, by decide, (fun w h9 => List.mem_cons_of_mem _ (wC_wsX100 w h9)), (List.mem_cons_of_mem _ wT_15_4)⟩
theorem lf10_add_30 : Fl vX10_add RX10 30 10 0 := ⟨RX10, TX10, 8, rfl, by decide, (fun w h9 => List.mem_cons_of_mem _ (wC_wsX100 w h9)), (List.mem_cons_of_mem _ wT_15_3)⟩
theorem lf10_add_15 : Fl vX10_add RX10 15 10 3 := ⟨RX10, TX10, 8, rfl, by decide, (fun w h9 => List.mem_cons_of_mem _ (wC_wsX100 w h9)), (List.mem_cons_of_mem _ wT_4_9)⟩
theorem lf10_add_18 : Fl vX10_add RX10 18 10 4 := ⟨RX10, TX10, 8, rfl, by decide, (fun w h9 => List.mem_cons_of_mem _ (wC_wsX100 w h9)), (List.mem_cons_of_mem _ wT_4_10)⟩
theorem lf10_add_21 : Fl vX10_add RX10 21 10 5 := ⟨RX10, TX10, 8, rfl, by decide, (fun w h9 => List.mem_cons_of_mem _ (wC_wsX100 w h9)), (List.mem_cons_of_mem _ wT_4_11)⟩
theorem lf10_add_24 : Fl vX10_add RX10 24 10 6 := ⟨RX10, TX10, 8, rfl, by decide, (fun w h9 => List.mem_cons_of_mem _ (wC_wsX100 w h9)), (List.mem_cons_of_mem _ wT_4_12)⟩
theorem lf10_add_27 : Fl vX10_add RX10 27 10 7 := ⟨RX10, TX10, 8, rfl, by decide, (fun w h9 => List.mem_cons_of_mem _ (wC_wsX100 w h9)), (List.mem_cons_of_mem _ wT_4_13)⟩
theorem lp10_add_34 : Pl vX10_add RX10 34 10 1 .int := ⟨RX10, TX10, 8, tyX10, rfl, by decide, (fun w h9 => List.mem_cons_of_mem _ (wC_wsX100 w h9)), (List.mem_cons_of_mem _ wT_15_4), tyX10_ok, nmX10, rfl, rfl⟩
theorem cd10_add : Cd yX10_add 2 := ⟨by decide, by decide, by decide +kernel⟩
set_option maxHeartbeats 4000000 in
set_option maxRecDepth 100000 in
theorem T10_add_0 (S : CallFix p m c cX10_add 3 s args vX10_add RX10) (hr : meth.sig.returnType = none) (hlo : meth.locks = false) {out : PH} {h : PH} {a0 : Nat} {x1 : Int32} {x2 : Int32} (f : F10_add_0  h a0 x1 x2 = some out) {H : Heap} {locs : List Loc} (I : ph_I D cy b A fl h s H locs) {ls : Array Slot} (hl : lv_has ls 3 [(0, .ref (b + a0)), (1, .int x1), (2, .int x2)]) : W p l e ({ frames := 0, cells := 0, slots := 0, locals := 0 } : Room) s m args below meth c H locs 0 0 (MQ below (va_Qv (fun (u : PH) => u = out) (ph_B D cy b A fl) A) args s 0 0 A) (F0 m 0 ls []) := by
  unfold F10_add_0 at f
  refine lv_aload_n S.1 S.2.1 dX10_add_0 rfl (lv_at hl 0 rfl) ?_
  obtain ⟨v1, e2, f⟩ := ob f
  refine o_gI S lf10_add_34 I e2 dX10_add_1 ?_
  refine lv_bipush (v := 28) S.1 S.2.1 dX10_add_4 (by decide) ?_
  refine lv_icmp_ge (tgt := 17) S.1 S.2.1 dX10_add_6 (by decide) (fun q3 => ?_) (fun q3 => ?_)
  · have f := (if_pos q3).symm.trans f
    exact o_vret S hr hlo I f dX10_add_17
  · have f := (if_neg q3).symm.trans f
    refine lv_aload_n S.1 S.2.1 dX10_add_9 rfl (lv_at hl 0 rfl) ?_
    obtain ⟨v4, e5, f⟩ := ob f
    refine o_gI S lf10_add_30 I e5 dX10_add_10 ?_
    refine lv_iconst (v := 1) S.1 S.2.1 dX10_add_13 (by decide) ?_
    refine lv_icmp_ge (tgt := 18) S.1 S.2.1 dX10_add_14 (by decide) (fun q6 => ?_) (fun q6 => ?_)
    · have f := (if_pos q6).symm.trans f
      refine lv_aload_n S.1 S.2.1 dX10_add_18 rfl (lv_at hl 0 rfl) ?_
      obtain ⟨r7, e8, f⟩ := ob f
      refine o_gR S lf10_add_15 I e8 dX10_add_19 ?_
      refine lv_aload_n S.1 S.2.1 dX10_add_22 rfl (lv_at hl 0 rfl) ?_
      obtain ⟨v9, e10, f⟩ := ob f
      refine o_gI S lf10_add_30 I e10 dX10_add_23 ?_
      refine lv_iconst (v := 1) S.1 S.2.1 dX10_add_26 (by decide) ?_
      refine lv_isub S.1 S.2.1 dX10_add_27 ?_
      refine lv_dup2_11 S.1 S.2.1 dX10_add_28 rfl rfl ?_
      obtain ⟨v12, e11, f⟩ := ob f
      refine o_iald S I e11 dX10_add_29 ?_
      refine lv_iconst (v := 1) S.1 S.2.1 dX10_add_30 (by decide) ?_
      refine lv_iadd S.1 S.2.1 dX10_add_31 ?_
      obtain ⟨h14, e13, f⟩ := ob f
      refine o_iast S I e13 dX10_add_32 (fun H locs I => ?_)
      refine lv_aload_n S.1 S.2.1 dX10_add_33 rfl (lv_at hl 0 rfl) ?_
      obtain ⟨r15, e16, f⟩ := ob f
      refine o_gR S lf10_add_18 I e16 dX10_add_34 ?_
      refine lv_aload_n S.1 S.2.1 dX10_add_37 rfl (lv_at hl 0 rfl) ?_
      obtain ⟨v17, e18, f⟩ := ob f
      refine o_gI S lf10_add_34 I e18 dX10_add_38 ?_
      refine lv_iload_n S.1 S.2.1 dX10_add_41 rfl (lv_at hl 1 rfl) ?_
      obtain ⟨h20, e19, f⟩ := ob f
      refine o_iast S I e19 dX10_add_42 (fun H locs I => ?_)
      refine lv_aload_n S.1 S.2.1 dX10_add_43 rfl (lv_at hl 0 rfl) ?_
      obtain ⟨r21, e22, f⟩ := ob f
      refine o_gR S lf10_add_21 I e22 dX10_add_44 ?_
      refine lv_aload_n S.1 S.2.1 dX10_add_47 rfl (lv_at hl 0 rfl) ?_
      obtain ⟨v23, e24, f⟩ := ob f
      refine o_gI S lf10_add_34 I e24 dX10_add_48 ?_
      refine lv_iload_n S.1 S.2.1 dX10_add_51 rfl (lv_at hl 2 rfl) ?_
      obtain ⟨h26, e25, f⟩ := ob f
      refine o_iast S I e25 dX10_add_52 (fun H locs I => ?_)
      refine lv_aload_n S.1 S.2.1 dX10_add_53 rfl (lv_at hl 0 rfl) ?_
      obtain ⟨r27, e28, f⟩ := ob f
      refine o_gR S lf10_add_24 I e28 dX10_add_54 ?_
      refine lv_aload_n S.1 S.2.1 dX10_add_57 rfl (lv_at hl 0 rfl) ?_
      obtain ⟨v29, e30, f⟩ := ob f
      refine o_gI S lf10_add_34 I e30 dX10_add_58 ?_
      refine lv_aload_n S.1 S.2.1 dX10_add_61 rfl (lv_at hl 0 rfl) ?_
      obtain ⟨v31, e32, f⟩ := ob f
      refine o_gI S lf10_add_30 I e32 dX10_add_62 ?_
      refine lv_iconst (v := 1) S.1 S.2.1 dX10_add_65 (by decide) ?_
      refine lv_isub S.1 S.2.1 dX10_add_66 ?_
      obtain ⟨h34, e33, f⟩ := ob f
      refine o_iast S I e33 dX10_add_67 (fun H locs I => ?_)
      refine lv_aload_n S.1 S.2.1 dX10_add_68 rfl (lv_at hl 0 rfl) ?_
      obtain ⟨r35, e36, f⟩ := ob f
      refine o_gR S lf10_add_27 I e36 dX10_add_69 ?_
      refine lv_aload_n S.1 S.2.1 dX10_add_72 rfl (lv_at hl 0 rfl) ?_
      obtain ⟨v37, e38, f⟩ := ob f
      refine o_gI S lf10_add_34 I e38 dX10_add_73 ?_
      refine lv_aload_n S.1 S.2.1 dX10_add_76 rfl (lv_at hl 0 rfl) ?_
      obtain ⟨r39, e40, f⟩ := ob f
      refine o_gR S lf10_add_15 I e40 dX10_add_77 ?_
      refine lv_aload_n S.1 S.2.1 dX10_add_80 rfl (lv_at hl 0 rfl) ?_
      obtain ⟨v41, e42, f⟩ := ob f
      refine o_gI S lf10_add_30 I e42 dX10_add_81 ?_
      refine lv_iconst (v := 1) S.1 S.2.1 dX10_add_84 (by decide) ?_
      refine lv_isub S.1 S.2.1 dX10_add_85 ?_
      obtain ⟨v44, e43, f⟩ := ob f
      refine o_iald S I e43 dX10_add_86 ?_
      obtain ⟨h46, e45, f⟩ := ob f
      refine o_iast S I e45 dX10_add_87 (fun H locs I => ?_)
      refine lv_aload_n S.1 S.2.1 dX10_add_88 rfl (lv_at hl 0 rfl) ?_
      refine lv_dup S.1 S.2.1 dX10_add_89 rfl ?_
      obtain ⟨v47, e48, f⟩ := ob f
      refine o_gI S lf10_add_34 I e48 dX10_add_90 ?_
      refine lv_iconst (v := 1) S.1 S.2.1 dX10_add_93 (by decide) ?_
      refine lv_iadd S.1 S.2.1 dX10_add_94 ?_
      obtain ⟨h49, e50, f⟩ := ob f
      refine o_pI S lp10_add_34 I e50 dX10_add_95 (fun H locs I => ?_)
      exact o_vret S hr hlo I f dX10_add_98
    · have f := (if_neg q6).symm.trans f
      exact o_vret S hr hlo I f dX10_add_17
theorem M10_add (l : Launch) (D : va_G) (cy : Nat → ClassId) (b : Nat) (A : Nat → Prop) (fl : Bool) {h : PH} {a0 : Nat} {x1 : Int32} {x2 : Int32} {out : PH} (f : F10_add h a0 x1 x2 = some out) : Met l yX10_add vX10_add ({ frames := 0, cells := 0, slots := 0, locals := 0 } : Room) (va_Pc [.ref (b + a0), .int x1, .int x2] (ph_B D cy b A fl h)) (va_Qv (fun (u : PH) => u = out) (ph_B D cy b A fl) A) 0 0 A :=
  o_met (by decide) rfl (Nat.le_of_ble_eq_true rfl) rfl (fun p e s m below meth c S hr hlo hnm ls hl I => T10_add_0 S hr hlo ((gd f).2) I (lv_sub hl [0, 1, 2] rfl))
def vX5_readSet : List Cond := .code yX5_readSet cX5_readSet 5 (some .boolean) :: TB
theorem gX5_readSet_X5_takenNumber : GoodIn vX5_readSet (wsV RX5 93 RX5 yX5_takenNumber vX5_takenNumber) := gV_of wT_18_10 wT_18_11 wT_18_12 wT_1_22 wT_18_13
theorem gX5_readSet_X10_add : GoodIn vX5_readSet (wsV RX5 153 RX10 yX10_add vX10_add) := gV_of wT_20_10 wT_20_11 wT_20_12 wT_3_9 wT_20_13
theorem gX5_readSet_X5_refuse : GoodIn vX5_readSet (wsV RX5 89 RX5 yX5_refuse vX5_refuse) := gV_of wT_18_1 wT_18_2 wT_18_3 wT_1_22 wT_18_4
theorem lf5_readSet_18 : Fl vX5_readSet RX5 18 5 0 := ⟨RX5, TX5, 11, rfl, by decide, (fun w h9 => List.mem_cons_of_mem _ (wC_wsX50 w h9)), (List.mem_cons_of_mem _ wT_5_3)⟩
theorem gX5_readSet_X7_advance : GoodIn vX5_readSet (wsV RX5 49 RX7 yX7_advance vX7_advance) := gV_of wT_15_21 wT_15_22 wT_15_23 wT_5_2 wT_16_0
theorem lf5_readSet_52 : Fl vX5_readSet RX5 52 7 4 := ⟨RX7, TX7, 7, rfl, by decide, (fun w h9 => List.mem_cons_of_mem _ (wC_wsX70 w h9)), (List.mem_cons_of_mem _ wT_14_7)⟩
theorem gX5_readSet_X10_beginSet : GoodIn vX5_readSet (wsV RX5 150 RX10 yX10_beginSet vX10_beginSet) := gV_of wT_20_6 wT_20_7 wT_20_8 wT_3_9 wT_20_9
theorem lf5_readSet_9 : Fl vX5_readSet RX5 9 5 10 := ⟨RX5, TX5, 11, rfl, by decide, (fun w h9 => List.mem_cons_of_mem _ (wC_wsX50 w h9)), (List.mem_cons_of_mem _ wT_4_23)⟩
theorem lf5_readSet_137 : Fl vX5_readSet RX5 137 8 5 := ⟨RX8, TX8, 14, rfl, by decide, (fun w h9 => List.mem_cons_of_mem _ (wC_wsX80 w h9)), (List.mem_cons_of_mem _ wT_19_20)⟩
theorem lf5_readSet_141 : Fl vX5_readSet RX5 141 10 0 := ⟨RX10, TX10, 8, rfl, by decide, (fun w h9 => List.mem_cons_of_mem _ (wC_wsX100 w h9)), (List.mem_cons_of_mem _ wT_19_21)⟩
theorem gX5_readSet_X5_numberIn : GoodIn vX5_readSet (wsV RX5 103 RX5 yX5_numberIn vX5_numberIn) := gV_of wT_18_6 wT_18_7 wT_18_8 wT_1_22 wT_18_9
theorem gX5_readSet_X10_lastMinute : GoodIn vX5_readSet (wsV RX5 146 RX10 yX10_lastMinute vX10_lastMinute) := gV_of wT_19_22 wT_19_23 wT_20_0 wT_3_9 wT_20_1
theorem cd5_readSet : Cd yX5_readSet 0 := ⟨by decide, by decide, by decide +kernel⟩
set_option maxHeartbeats 4000000 in
set_option maxRecDepth 100000 in
theorem T5_readSet_101 (S : CallFix p m c cX5_readSet 5 s args vX5_readSet RX5) (hr : meth.sig.returnType = (some .boolean)) (hlo : meth.locks = false) {out : Int32 × PH} {k70 : PH → Nat → Nat → Int32 → Int32 → Option (Int32 × PH)} (hk70 : ∀ {h : PH} {a0 : Nat} {a1 : Nat} {x2 : Int32} {x3 : Int32}, k70 h a0 a1 x2 x3 = some out → ∀ (H : Heap) (locs : List Loc), ph_I D cy b A fl h s H locs → ∀ (ls : Array Slot), lv_has ls 5 [(0, .ref (b + a0)), (1, .ref (b + a1)), (2, .int x2), (3, .int x3)] → W p l e ({ frames := 4, cells := 0, slots := 0, locals := 86 } : Room) s m args below meth c H locs 0 0 (MQ below (va_Qi (fun (r : Int32) (u : PH) => (r, u) = out) (ph_B D cy b A fl) A) args s 0 0 A) (F0 m 70 ls [])) {h : PH} {a0 : Nat} {a1 : Nat} {x2 : Int32} {x3 : Int32} (f : F5_readSet_101 k70 h a0 a1 x2 x3 = some out) {H : Heap} {locs : List Loc} (I : ph_I D cy b A fl h s H locs) {ls : Array Slot} (hl : lv_has ls 5 [(0, .ref (b + a0)), (1, .ref (b + a1)), (2, .int x2), (3, .int x3)]) : W p l e ({ frames := 4, cells := 0, slots := 0, locals := 86 } : Room) s m args below meth c H locs 0 0 (MQ below (va_Qi (fun (r : Int32) (u : PH) => (r, u) = out) (ph_B D cy b A fl) A) args s 0 0 A) (F0 m 101 ls []) := by
  unfold F5_readSet_101 at f
  refine lv_aload_n S.1 S.2.1 dX5_readSet_101 rfl (lv_at hl 0 rfl) ?_
  refine lv_iconst (v := 1) S.1 S.2.1 dX5_readSet_102 (by decide) ?_
  refine lv_bipush (v := 9) S.1 S.2.1 dX5_readSet_103 (by decide) ?_
  obtain ⟨o1, e2, f⟩ := ob f
  refine o_Vi S (As := [.int 1, .int 9]) (rest := []) (ci := 5) (M5_takenNumber l D cy b A fl e2) gX5_readSet_X5_takenNumber rfl rfl rfl cd5_takenNumber ⟨Nat.le_of_ble_eq_true rfl, Nat.le_of_ble_eq_true rfl⟩ I (gd e2).1 clX5 rfl rfl hl.1 rfl (Nat.le_of_ble_eq_true rfl) dX5_readSet_105 ⟨Nat.le_of_ble_eq_true rfl, Nat.le_of_ble_eq_true rfl⟩ (fun H locs I => ?_)
  refine lv_istore (lv' := [(4, .int o1.1), (0, .ref (b + a0)), (1, .ref (b + a1)), (2, .int x2), (3, .int x3)]) S.1 S.2.1 dX5_readSet_108 hl (by decide) rfl (fun ls hl => ?_)
  refine lv_iload S.1 S.2.1 dX5_readSet_110 (lv_at hl 0 rfl) ?_
  refine lv_iconst (v := (-1)) S.1 S.2.1 dX5_readSet_112 (by decide) ?_
  refine lv_icmp_ne (tgt := 118) S.1 S.2.1 dX5_readSet_113 (by decide) (fun q3 => ?_) (fun q3 => ?_)
  · have f := (if_neg q3).symm.trans f
    refine lv_iload_n S.1 S.2.1 dX5_readSet_118 rfl (lv_at hl 4 rfl) ?_
    refine lv_bipush (v := 7) S.1 S.2.1 dX5_readSet_119 (by decide) ?_
    refine lv_icmp_ne (tgt := 130) S.1 S.2.1 dX5_readSet_121 (by decide) (fun q4 => ?_) (fun q4 => ?_)
    · have f := (if_neg q4).symm.trans f
      refine lv_aload_n S.1 S.2.1 dX5_readSet_130 rfl (lv_at hl 2 rfl) ?_
      refine lv_iload_n S.1 S.2.1 dX5_readSet_131 rfl (lv_at hl 3 rfl) ?_
      refine lv_iload_n S.1 S.2.1 dX5_readSet_132 rfl (lv_at hl 4 rfl) ?_
      refine lv_iadd S.1 S.2.1 dX5_readSet_133 ?_
      refine lv_iload S.1 S.2.1 dX5_readSet_134 (lv_at hl 0 rfl) ?_
      obtain ⟨o5, e6, f⟩ := ob f
      refine o_Vv S (As := [.int (x2 + x3), .int o1.1]) (rest := []) (ci := 10) (M10_add l D cy b A fl e6) gX5_readSet_X10_add rfl rfl rfl cd10_add ⟨Nat.le_of_ble_eq_true rfl, Nat.le_of_ble_eq_true rfl⟩ I (gd e6).1 clX10 rfl rfl hl.1 rfl (Nat.le_of_ble_eq_true rfl) dX5_readSet_136 ⟨Nat.le_of_ble_eq_true rfl, Nat.le_of_ble_eq_true rfl⟩ (fun H locs I => ?_)
      refine lv_iinc (v := (x3 + 1)) (lv' := [(3, .int (x3 + 1)), (4, .int o1.1), (0, .ref (b + a0)), (1, .ref (b + a1)), (2, .int x2)]) S.1 S.2.1 dX5_readSet_139 hl (k := 4) rfl (congrArg (fun z => x3 + z) (by decide)) (by decide) rfl (fun ls hl => ?_)
      refine lv_goto (tgt := 70) S.1 S.2.1 dX5_readSet_142 (by decide) ?_
      exact hk70 f _ _ I _ (lv_sub hl [2, 3, 4, 0] rfl)
    · have f := (if_pos q4).symm.trans f
      refine lv_aload_n S.1 S.2.1 dX5_readSet_124 rfl (lv_at hl 1 rfl) ?_
      refine lv_iconst (v := 2) S.1 S.2.1 dX5_readSet_125 (by decide) ?_
      obtain ⟨o7, e8, f⟩ := ob f
      refine o_Vi S (As := [.int 2]) (rest := []) (ci := 5) (M5_refuse l D cy b A fl e8) gX5_readSet_X5_refuse rfl rfl rfl cd5_refuse ⟨Nat.le_of_ble_eq_true rfl, Nat.le_of_ble_eq_true rfl⟩ I (gd e8).1 clX5 rfl rfl hl.1 rfl (Nat.le_of_ble_eq_true rfl) dX5_readSet_126 ⟨Nat.le_of_ble_eq_true rfl, Nat.le_of_ble_eq_true rfl⟩ (fun H locs I => ?_)
      exact o_zret S hr hlo I f dX5_readSet_129
  · have f := (if_pos q3).symm.trans f
    refine lv_iconst (v := 0) S.1 S.2.1 dX5_readSet_116 (by decide) ?_
    exact o_zret S hr hlo I f dX5_readSet_117
set_option maxHeartbeats 4000000 in
set_option maxRecDepth 100000 in
theorem T5_readSet_70 (S : CallFix p m c cX5_readSet 5 s args vX5_readSet RX5) (hr : meth.sig.returnType = (some .boolean)) (hlo : meth.locks = false) {out : Int32 × PH} : ∀ (n : Nat) {h : PH} {a0 : Nat} {a1 : Nat} {x2 : Int32} {x3 : Int32} (f : F5_readSet_70  n h a0 a1 x2 x3 = some out) {H : Heap} {locs : List Loc} (I : ph_I D cy b A fl h s H locs) {ls : Array Slot} (hl : lv_has ls 5 [(0, .ref (b + a0)), (1, .ref (b + a1)), (2, .int x2), (3, .int x3)]), W p l e ({ frames := 4, cells := 0, slots := 0, locals := 86 } : Room) s m args below meth c H locs 0 0 (MQ below (va_Qi (fun (r : Int32) (u : PH) => (r, u) = out) (ph_B D cy b A fl) A) args s 0 0 A) (F0 m 70 ls []) := by
  intro n
  induction n with
  | zero => intro h a0 a1 x2 x3 f; rw [F5_readSet_70] at f; cases f
  | succ n ih =>
    intro h a0 a1 x2 x3 f H locs I ls hl
    rw [F5_readSet_70] at f
    refine lv_iload_n S.1 S.2.1 dX5_readSet_70 rfl (lv_at hl 3 rfl) ?_
    refine lv_bipush (v := 7) S.1 S.2.1 dX5_readSet_71 (by decide) ?_
    refine lv_icmp_gt (tgt := 145) S.1 S.2.1 dX5_readSet_73 (by decide) (fun q1 => ?_) (fun q1 => ?_)
    · have f := (if_pos q1).symm.trans f
      refine lv_iconst (v := 0) S.1 S.2.1 dX5_readSet_145 (by decide) ?_
      exact o_zret S hr hlo I f dX5_readSet_146
    · have f := (if_neg q1).symm.trans f
      refine lv_aload_n S.1 S.2.1 dX5_readSet_76 rfl (lv_at hl 0 rfl) ?_
      obtain ⟨r2, e3, f⟩ := ob f
      refine o_gR S lf5_readSet_18 I e3 dX5_readSet_77 ?_
      obtain ⟨o4, e5, f⟩ := ob f
      refine o_Vv S (As := []) (rest := []) (ci := 7) (M7_advance l D cy b A fl e5) gX5_readSet_X7_advance rfl rfl rfl cd7_advance ⟨Nat.le_of_ble_eq_true rfl, Nat.le_of_ble_eq_true rfl⟩ I (gd e5).1 clX7 rfl rfl hl.1 rfl (Nat.le_of_ble_eq_true rfl) dX5_readSet_80 ⟨Nat.le_of_ble_eq_true rfl, Nat.le_of_ble_eq_true rfl⟩ (fun H locs I => ?_)
      refine lv_iload_n S.1 S.2.1 dX5_readSet_83 rfl (lv_at hl 3 rfl) ?_
      refine lv_if_le (tgt := 101) S.1 S.2.1 dX5_readSet_84 (by decide) (fun q6 => ?_) (fun q6 => ?_)
      · have f := (if_pos q6).symm.trans f
        exact T5_readSet_101 S hr hlo (fun f _ _ I _ hl => ih f I hl) f I (lv_sub hl [0, 1, 2, 3] rfl)
      · have f := (if_neg q6).symm.trans f
        refine lv_aload_n S.1 S.2.1 dX5_readSet_87 rfl (lv_at hl 0 rfl) ?_
        obtain ⟨r7, e8, f⟩ := ob f
        refine o_gR S lf5_readSet_18 I e8 dX5_readSet_88 ?_
        obtain ⟨v9, e10, f⟩ := ob f
        refine o_gI S lf5_readSet_52 I e10 dX5_readSet_91 ?_
        refine lv_bipush (v := 38) S.1 S.2.1 dX5_readSet_94 (by decide) ?_
        refine lv_icmp_ne (tgt := 101) S.1 S.2.1 dX5_readSet_96 (by decide) (fun q11 => ?_) (fun q11 => ?_)
        · have f := (if_neg q11).symm.trans f
          exact T5_readSet_101 S hr hlo (fun f _ _ I _ hl => ih f I hl) f I (lv_sub hl [0, 1, 2, 3] rfl)
        · have f := (if_pos q11).symm.trans f
          refine lv_iconst (v := 1) S.1 S.2.1 dX5_readSet_99 (by decide) ?_
          exact o_zret S hr hlo I f dX5_readSet_100
set_option maxHeartbeats 4000000 in
set_option maxRecDepth 100000 in
theorem T5_readSet_64 (S : CallFix p m c cX5_readSet 5 s args vX5_readSet RX5) (hr : meth.sig.returnType = (some .boolean)) (hlo : meth.locks = false) {out : Int32 × PH} {h : PH} {a0 : Nat} {a1 : Nat} {x2 : Int32} (f : F5_readSet_64  h a0 a1 x2 = some out) {H : Heap} {locs : List Loc} (I : ph_I D cy b A fl h s H locs) {ls : Array Slot} (hl : lv_has ls 5 [(0, .ref (b + a0)), (1, .ref (b + a1)), (2, .int x2)]) : W p l e ({ frames := 4, cells := 0, slots := 0, locals := 86 } : Room) s m args below meth c H locs 0 0 (MQ below (va_Qi (fun (r : Int32) (u : PH) => (r, u) = out) (ph_B D cy b A fl) A) args s 0 0 A) (F0 m 64 ls []) := by
  unfold F5_readSet_64 at f
  refine lv_aload_n S.1 S.2.1 dX5_readSet_64 rfl (lv_at hl 1 rfl) ?_
  obtain ⟨o1, e2, f⟩ := ob f
  refine o_Vv S (As := []) (rest := []) (ci := 10) (M10_beginSet l D cy b A fl e2) gX5_readSet_X10_beginSet rfl rfl rfl cd10_beginSet ⟨Nat.le_of_ble_eq_true rfl, Nat.le_of_ble_eq_true rfl⟩ I (gd e2).1 clX10 rfl rfl hl.1 rfl (Nat.le_of_ble_eq_true rfl) dX5_readSet_65 ⟨Nat.le_of_ble_eq_true rfl, Nat.le_of_ble_eq_true rfl⟩ (fun H locs I => ?_)
  refine lv_iconst (v := 0) S.1 S.2.1 dX5_readSet_68 (by decide) ?_
  refine lv_istore_n (lv' := [(3, .int 0), (0, .ref (b + a0)), (1, .ref (b + a1)), (2, .int x2)]) S.1 S.2.1 dX5_readSet_69 rfl hl (by decide) rfl (fun ls hl => ?_)
  exact T5_readSet_70 S hr hlo  1024 f I (lv_sub hl [1, 2, 3, 0] rfl)
set_option maxHeartbeats 4000000 in
set_option maxRecDepth 100000 in
theorem T5_readSet_0 (S : CallFix p m c cX5_readSet 5 s args vX5_readSet RX5) (hr : meth.sig.returnType = (some .boolean)) (hlo : meth.locks = false) {out : Int32 × PH} {h : PH} {a0 : Nat} (f : F5_readSet_0  h a0 = some out) {H : Heap} {locs : List Loc} (I : ph_I D cy b A fl h s H locs) {ls : Array Slot} (hl : lv_has ls 5 [(0, .ref (b + a0))]) : W p l e ({ frames := 4, cells := 0, slots := 0, locals := 86 } : Room) s m args below meth c H locs 0 0 (MQ below (va_Qi (fun (r : Int32) (u : PH) => (r, u) = out) (ph_B D cy b A fl) A) args s 0 0 A) (F0 m 0 ls []) := by
  unfold F5_readSet_0 at f
  refine lv_aload_n S.1 S.2.1 dX5_readSet_0 rfl (lv_at hl 0 rfl) ?_
  obtain ⟨r1, e2, f⟩ := ob f
  refine o_gR S lf5_readSet_9 I e2 dX5_readSet_1 ?_
  obtain ⟨r3, e4, f⟩ := ob f
  refine o_gR S lf5_readSet_137 I e4 dX5_readSet_4 ?_
  refine lv_astore_n (lv' := [(1, .ref (b + r3)), (0, .ref (b + a0))]) S.1 S.2.1 dX5_readSet_7 rfl hl (by decide) rfl (fun ls hl => ?_)
  refine lv_aload_n S.1 S.2.1 dX5_readSet_8 rfl (lv_at hl 0 rfl) ?_
  obtain ⟨v5, e6, f⟩ := ob f
  refine o_gI S lf5_readSet_141 I e6 dX5_readSet_9 ?_
  refine lv_iconst (v := 4) S.1 S.2.1 dX5_readSet_12 (by decide) ?_
  refine lv_icmp_lt (tgt := 22) S.1 S.2.1 dX5_readSet_13 (by decide) (fun q7 => ?_) (fun q7 => ?_)
  · have f := (if_pos q7).symm.trans f
    refine lv_aload_n S.1 S.2.1 dX5_readSet_22 rfl (lv_at hl 1 rfl) ?_
    refine lv_iconst (v := 0) S.1 S.2.1 dX5_readSet_23 (by decide) ?_
    refine lv_bipush (v := 99) S.1 S.2.1 dX5_readSet_24 (by decide) ?_
    obtain ⟨o8, e9, f⟩ := ob f
    refine o_Vi S (As := [.int 0, .int 99]) (rest := []) (ci := 5) (M5_numberIn l D cy b A fl e9) gX5_readSet_X5_numberIn rfl rfl rfl cd5_numberIn ⟨Nat.le_of_ble_eq_true rfl, Nat.le_of_ble_eq_true rfl⟩ I (gd e9).1 clX5 rfl rfl hl.1 rfl (Nat.le_of_ble_eq_true rfl) dX5_readSet_26 ⟨Nat.le_of_ble_eq_true rfl, Nat.le_of_ble_eq_true rfl⟩ (fun H locs I => ?_)
    refine lv_istore_n (lv' := [(2, .int o8.1), (1, .ref (b + r3)), (0, .ref (b + a0))]) S.1 S.2.1 dX5_readSet_29 rfl hl (by decide) rfl (fun ls hl => ?_)
    refine lv_iload_n S.1 S.2.1 dX5_readSet_30 rfl (lv_at hl 0 rfl) ?_
    refine lv_iconst (v := (-1)) S.1 S.2.1 dX5_readSet_31 (by decide) ?_
    refine lv_icmp_ne (tgt := 37) S.1 S.2.1 dX5_readSet_32 (by decide) (fun q10 => ?_) (fun q10 => ?_)
    · have f := (if_neg q10).symm.trans f
      refine lv_aload_n S.1 S.2.1 dX5_readSet_37 rfl (lv_at hl 1 rfl) ?_
      obtain ⟨v11, e12, f⟩ := ob f
      refine o_gI S lf5_readSet_141 I e12 dX5_readSet_38 ?_
      refine lv_if_le (tgt := 64) S.1 S.2.1 dX5_readSet_41 (by decide) (fun q13 => ?_) (fun q13 => ?_)
      · have f := (if_pos q13).symm.trans f
        exact T5_readSet_64 S hr hlo  f I (lv_sub hl [2, 1, 0] rfl)
      · have f := (if_neg q13).symm.trans f
        refine lv_iload_n S.1 S.2.1 dX5_readSet_44 rfl (lv_at hl 0 rfl) ?_
        refine lv_aload_n S.1 S.2.1 dX5_readSet_45 rfl (lv_at hl 1 rfl) ?_
        refine lv_aload_n S.1 S.2.1 dX5_readSet_46 rfl (lv_at hl 1 rfl) ?_
        obtain ⟨v14, e15, f⟩ := ob f
        refine o_gI S lf5_readSet_141 I e15 dX5_readSet_47 ?_
        refine lv_iconst (v := 1) S.1 S.2.1 dX5_readSet_50 (by decide) ?_
        refine lv_isub S.1 S.2.1 dX5_readSet_51 ?_
        obtain ⟨o16, e17, f⟩ := ob f
        refine o_Vi S (As := [.int (v14 - 1)]) (rest := [.int o8.1]) (ci := 10) (M10_lastMinute l D cy b A fl e17) gX5_readSet_X10_lastMinute rfl rfl rfl cd10_lastMinute ⟨Nat.le_of_ble_eq_true rfl, Nat.le_of_ble_eq_true rfl⟩ I (gd e17).1 clX10 rfl rfl hl.1 rfl (Nat.le_of_ble_eq_true rfl) dX5_readSet_52 ⟨Nat.le_of_ble_eq_true rfl, Nat.le_of_ble_eq_true rfl⟩ (fun H locs I => ?_)
        refine lv_icmp_gt (tgt := 64) S.1 S.2.1 dX5_readSet_55 (by decide) (fun q18 => ?_) (fun q18 => ?_)
        · have f := (if_pos q18).symm.trans f
          exact T5_readSet_64 S hr hlo  f I (lv_sub hl [2, 1, 0] rfl)
        · have f := (if_neg q18).symm.trans f
          refine lv_aload_n S.1 S.2.1 dX5_readSet_58 rfl (lv_at hl 2 rfl) ?_
          refine lv_iconst (v := 5) S.1 S.2.1 dX5_readSet_59 (by decide) ?_
          obtain ⟨o19, e20, f⟩ := ob f
          refine o_Vi S (As := [.int 5]) (rest := []) (ci := 5) (M5_refuse l D cy b A fl e20) gX5_readSet_X5_refuse rfl rfl rfl cd5_refuse ⟨Nat.le_of_ble_eq_true rfl, Nat.le_of_ble_eq_true rfl⟩ I (gd e20).1 clX5 rfl rfl hl.1 rfl (Nat.le_of_ble_eq_true rfl) dX5_readSet_60 ⟨Nat.le_of_ble_eq_true rfl, Nat.le_of_ble_eq_true rfl⟩ (fun H locs I => ?_)
          exact o_zret S hr hlo I f dX5_readSet_63
    · have f := (if_pos q10).symm.trans f
      refine lv_iconst (v := 0) S.1 S.2.1 dX5_readSet_35 (by decide) ?_
      exact o_zret S hr hlo I f dX5_readSet_36
  · have f := (if_neg q7).symm.trans f
    refine lv_aload_n S.1 S.2.1 dX5_readSet_16 rfl (lv_at hl 1 rfl) ?_
    refine lv_iconst (v := 2) S.1 S.2.1 dX5_readSet_17 (by decide) ?_
    obtain ⟨o21, e22, f⟩ := ob f
    refine o_Vi S (As := [.int 2]) (rest := []) (ci := 5) (M5_refuse l D cy b A fl e22) gX5_readSet_X5_refuse rfl rfl rfl cd5_refuse ⟨Nat.le_of_ble_eq_true rfl, Nat.le_of_ble_eq_true rfl⟩ I (gd e22).1 clX5 rfl rfl hl.1 rfl (Nat.le_of_ble_eq_true rfl) dX5_readSet_18 ⟨Nat.le_of_ble_eq_true rfl, Nat.le_of_ble_eq_true rfl⟩ (fun H locs I => ?_)
    exact o_zret S hr hlo I f dX5_readSet_21
theorem M5_readSet (l : Launch) (D : va_G) (cy : Nat → ClassId) (b : Nat) (A : Nat → Prop) (fl : Bool) {h : PH} {a0 : Nat} {out : Int32 × PH} (f : F5_readSet h a0 = some out) : Met l yX5_readSet vX5_readSet ({ frames := 4, cells := 0, slots := 0, locals := 86 } : Room) (va_Pc [.ref (b + a0)] (ph_B D cy b A fl h)) (va_Qi (fun (r : Int32) (u : PH) => (r, u) = out) (ph_B D cy b A fl) A) 0 0 A :=
  o_met (by decide) rfl (Nat.le_of_ble_eq_true rfl) rfl (fun p e s m below meth c S hr hlo hnm ls hl I => T5_readSet_0 S hr hlo ((gd f).2) I (lv_sub hl [0] rfl))
def vX5_readBank : List Cond := .code yX5_readBank cX5_readBank 4 (some .boolean) :: TB
theorem lf5_readBank_9 : Fl vX5_readBank RX5 9 5 10 := ⟨RX5, TX5, 11, rfl, by decide, (fun w h9 => List.mem_cons_of_mem _ (wC_wsX50 w h9)), (List.mem_cons_of_mem _ wT_4_23)⟩
theorem lp5_readBank_156 : Pl vX5_readBank RX5 156 8 6 .int := ⟨RX8, TX8, 14, tyX8, rfl, by decide, (fun w h9 => List.mem_cons_of_mem _ (wC_wsX80 w h9)), (List.mem_cons_of_mem _ wT_20_18), tyX8_ok, nmX8, rfl, rfl⟩
theorem lp5_readBank_159 : Pl vX5_readBank RX5 159 8 7 .int := ⟨RX8, TX8, 14, tyX8, rfl, by decide, (fun w h9 => List.mem_cons_of_mem _ (wC_wsX80 w h9)), (List.mem_cons_of_mem _ wT_20_19), tyX8_ok, nmX8, rfl, rfl⟩
theorem lp5_readBank_162 : Pl vX5_readBank RX5 162 8 8 .int := ⟨RX8, TX8, 14, tyX8, rfl, by decide, (fun w h9 => List.mem_cons_of_mem _ (wC_wsX80 w h9)), (List.mem_cons_of_mem _ wT_20_20), tyX8_ok, nmX8, rfl, rfl⟩
theorem gX5_readBank_X5_readStop : GoodIn vX5_readBank (wsV RX5 112 RX5 yX5_readStop vX5_readStop) := gV_of wT_18_15 wT_18_16 wT_18_17 wT_1_22 wT_18_18
theorem gX5_readBank_X5_numberIn : GoodIn vX5_readBank (wsV RX5 103 RX5 yX5_numberIn vX5_numberIn) := gV_of wT_18_6 wT_18_7 wT_18_8 wT_1_22 wT_18_9
theorem gX5_readBank_X5_isFirst : GoodIn vX5_readBank (wsV RX5 100 RX5 yX5_isFirst vX5_isFirst) := gV_of wT_17_21 wT_17_22 wT_17_23 wT_1_22 wT_18_0
theorem cd5_readBank : Cd yX5_readBank 0 := ⟨by decide, by decide, by decide +kernel⟩
set_option maxHeartbeats 4000000 in
set_option maxRecDepth 100000 in
theorem T5_readBank_51 (S : CallFix p m c cX5_readBank 4 s args vX5_readBank RX5) (hr : meth.sig.returnType = (some .boolean)) (hlo : meth.locks = false) {out : Int32 × PH} {h : PH} {a0 : Nat} {x1 : Int32} {x2 : Int32} {s0 : Int32} (f : F5_readBank_51  h a0 x1 x2 s0 = some out) {H : Heap} {locs : List Loc} (I : ph_I D cy b A fl h s H locs) {ls : Array Slot} (hl : lv_has ls 4 [(0, .ref (b + a0)), (1, .int x1), (2, .int x2)]) : W p l e ({ frames := 4, cells := 0, slots := 0, locals := 86 } : Room) s m args below meth c H locs 0 0 (MQ below (va_Qi (fun (r : Int32) (u : PH) => (r, u) = out) (ph_B D cy b A fl) A) args s 0 0 A) (F0 m 51 ls [.int s0]) := by
  unfold F5_readBank_51 at f
  refine lv_istore_n (lv' := [(3, .int s0), (0, .ref (b + a0)), (1, .int x1), (2, .int x2)]) S.1 S.2.1 dX5_readBank_51 rfl hl (by decide) rfl (fun ls hl => ?_)
  refine lv_iload_n S.1 S.2.1 dX5_readBank_52 rfl (lv_at hl 0 rfl) ?_
  refine lv_iconst (v := (-1)) S.1 S.2.1 dX5_readBank_53 (by decide) ?_
  refine lv_icmp_ne (tgt := 59) S.1 S.2.1 dX5_readBank_54 (by decide) (fun q1 => ?_) (fun q1 => ?_)
  · have f := (if_neg q1).symm.trans f
    refine lv_aload_n S.1 S.2.1 dX5_readBank_59 rfl (lv_at hl 1 rfl) ?_
    obtain ⟨r2, e3, f⟩ := ob f
    refine o_gR S lf5_readBank_9 I e3 dX5_readBank_60 ?_
    refine lv_iload_n S.1 S.2.1 dX5_readBank_63 rfl (lv_at hl 2 rfl) ?_
    obtain ⟨h4, e5, f⟩ := ob f
    refine o_pI S lp5_readBank_156 I e5 dX5_readBank_64 (fun H locs I => ?_)
    refine lv_aload_n S.1 S.2.1 dX5_readBank_67 rfl (lv_at hl 1 rfl) ?_
    obtain ⟨r6, e7, f⟩ := ob f
    refine o_gR S lf5_readBank_9 I e7 dX5_readBank_68 ?_
    refine lv_iload_n S.1 S.2.1 dX5_readBank_71 rfl (lv_at hl 3 rfl) ?_
    obtain ⟨h8, e9, f⟩ := ob f
    refine o_pI S lp5_readBank_159 I e9 dX5_readBank_72 (fun H locs I => ?_)
    refine lv_aload_n S.1 S.2.1 dX5_readBank_75 rfl (lv_at hl 1 rfl) ?_
    obtain ⟨r10, e11, f⟩ := ob f
    refine o_gR S lf5_readBank_9 I e11 dX5_readBank_76 ?_
    refine lv_iload_n S.1 S.2.1 dX5_readBank_79 rfl (lv_at hl 0 rfl) ?_
    obtain ⟨h12, e13, f⟩ := ob f
    refine o_pI S lp5_readBank_162 I e13 dX5_readBank_80 (fun H locs I => ?_)
    refine lv_aload_n S.1 S.2.1 dX5_readBank_83 rfl (lv_at hl 1 rfl) ?_
    obtain ⟨o14, e15, f⟩ := ob f
    refine o_Vi S (As := []) (rest := []) (ci := 5) (M5_readStop l D cy b A fl e15) gX5_readBank_X5_readStop rfl rfl rfl cd5_readStop ⟨Nat.le_of_ble_eq_true rfl, Nat.le_of_ble_eq_true rfl⟩ I (gd e15).1 clX5 rfl rfl hl.1 rfl (Nat.le_of_ble_eq_true rfl) dX5_readBank_84 ⟨Nat.le_of_ble_eq_true rfl, Nat.le_of_ble_eq_true rfl⟩ (fun H locs I => ?_)
    exact o_zret S hr hlo I f dX5_readBank_87
  · have f := (if_pos q1).symm.trans f
    refine lv_iconst (v := 0) S.1 S.2.1 dX5_readBank_57 (by decide) ?_
    exact o_zret S hr hlo I f dX5_readBank_58
set_option maxHeartbeats 4000000 in
set_option maxRecDepth 100000 in
theorem T5_readBank_34 (S : CallFix p m c cX5_readBank 4 s args vX5_readBank RX5) (hr : meth.sig.returnType = (some .boolean)) (hlo : meth.locks = false) {out : Int32 × PH} {h : PH} {a0 : Nat} {x1 : Int32} {s0 : Int32} (f : F5_readBank_34  h a0 x1 s0 = some out) {H : Heap} {locs : List Loc} (I : ph_I D cy b A fl h s H locs) {ls : Array Slot} (hl : lv_has ls 4 [(0, .ref (b + a0)), (1, .int x1)]) : W p l e ({ frames := 4, cells := 0, slots := 0, locals := 86 } : Room) s m args below meth c H locs 0 0 (MQ below (va_Qi (fun (r : Int32) (u : PH) => (r, u) = out) (ph_B D cy b A fl) A) args s 0 0 A) (F0 m 34 ls [.int s0]) := by
  unfold F5_readBank_34 at f
  refine lv_istore_n (lv' := [(2, .int s0), (0, .ref (b + a0)), (1, .int x1)]) S.1 S.2.1 dX5_readBank_34 rfl hl (by decide) rfl (fun ls hl => ?_)
  refine lv_iload_n S.1 S.2.1 dX5_readBank_35 rfl (lv_at hl 0 rfl) ?_
  refine lv_iconst (v := (-1)) S.1 S.2.1 dX5_readBank_36 (by decide) ?_
  refine lv_icmp_ne (tgt := 44) S.1 S.2.1 dX5_readBank_37 (by decide) (fun q1 => ?_) (fun q1 => ?_)
  · have f := (if_neg q1).symm.trans f
    refine lv_aload_n S.1 S.2.1 dX5_readBank_44 rfl (lv_at hl 1 rfl) ?_
    refine lv_iconst (v := 1) S.1 S.2.1 dX5_readBank_45 (by decide) ?_
    refine lv_bipush (v := 9) S.1 S.2.1 dX5_readBank_46 (by decide) ?_
    obtain ⟨o2, e3, f⟩ := ob f
    refine o_Vi S (As := [.int 1, .int 9]) (rest := []) (ci := 5) (M5_numberIn l D cy b A fl e3) gX5_readBank_X5_numberIn rfl rfl rfl cd5_numberIn ⟨Nat.le_of_ble_eq_true rfl, Nat.le_of_ble_eq_true rfl⟩ I (gd e3).1 clX5 rfl rfl hl.1 rfl (Nat.le_of_ble_eq_true rfl) dX5_readBank_48 ⟨Nat.le_of_ble_eq_true rfl, Nat.le_of_ble_eq_true rfl⟩ (fun H locs I => ?_)
    exact T5_readBank_51 S hr hlo  f I (lv_sub hl [1, 2, 0] rfl)
  · have f := (if_pos q1).symm.trans f
    refine lv_iconst (v := (-1)) S.1 S.2.1 dX5_readBank_40 (by decide) ?_
    refine lv_goto (tgt := 51) S.1 S.2.1 dX5_readBank_41 (by decide) ?_
    exact T5_readBank_51 S hr hlo  f I (lv_sub hl [1, 2, 0] rfl)
set_option maxHeartbeats 4000000 in
set_option maxRecDepth 100000 in
theorem T5_readBank_0 (S : CallFix p m c cX5_readBank 4 s args vX5_readBank RX5) (hr : meth.sig.returnType = (some .boolean)) (hlo : meth.locks = false) {out : Int32 × PH} {h : PH} {a0 : Nat} (f : F5_readBank_0  h a0 = some out) {H : Heap} {locs : List Loc} (I : ph_I D cy b A fl h s H locs) {ls : Array Slot} (hl : lv_has ls 4 [(0, .ref (b + a0))]) : W p l e ({ frames := 4, cells := 0, slots := 0, locals := 86 } : Room) s m args below meth c H locs 0 0 (MQ below (va_Qi (fun (r : Int32) (u : PH) => (r, u) = out) (ph_B D cy b A fl) A) args s 0 0 A) (F0 m 0 ls []) := by
  unfold F5_readBank_0 at f
  refine lv_aload_n S.1 S.2.1 dX5_readBank_0 rfl (lv_at hl 0 rfl) ?_
  refine lv_iconst (v := 4) S.1 S.2.1 dX5_readBank_1 (by decide) ?_
  obtain ⟨o1, e2, f⟩ := ob f
  refine o_Vi S (As := [.int 4]) (rest := []) (ci := 5) (M5_isFirst l D cy b A fl e2) gX5_readBank_X5_isFirst rfl rfl rfl cd5_isFirst ⟨Nat.le_of_ble_eq_true rfl, Nat.le_of_ble_eq_true rfl⟩ I (gd e2).1 clX5 rfl rfl hl.1 rfl (Nat.le_of_ble_eq_true rfl) dX5_readBank_2 ⟨Nat.le_of_ble_eq_true rfl, Nat.le_of_ble_eq_true rfl⟩ (fun H locs I => ?_)
  refine lv_if_ne (tgt := 10) S.1 S.2.1 dX5_readBank_5 (by decide) (fun q3 => ?_) (fun q3 => ?_)
  · have f := (if_neg q3).symm.trans f
    refine lv_aload_n S.1 S.2.1 dX5_readBank_10 rfl (lv_at hl 0 rfl) ?_
    refine lv_iconst (v := 1) S.1 S.2.1 dX5_readBank_11 (by decide) ?_
    refine lv_bipush (v := 20) S.1 S.2.1 dX5_readBank_12 (by decide) ?_
    obtain ⟨o4, e5, f⟩ := ob f
    refine o_Vi S (As := [.int 1, .int 20]) (rest := []) (ci := 5) (M5_numberIn l D cy b A fl e5) gX5_readBank_X5_numberIn rfl rfl rfl cd5_numberIn ⟨Nat.le_of_ble_eq_true rfl, Nat.le_of_ble_eq_true rfl⟩ I (gd e5).1 clX5 rfl rfl hl.1 rfl (Nat.le_of_ble_eq_true rfl) dX5_readBank_14 ⟨Nat.le_of_ble_eq_true rfl, Nat.le_of_ble_eq_true rfl⟩ (fun H locs I => ?_)
    refine lv_istore_n (lv' := [(1, .int o4.1), (0, .ref (b + a0))]) S.1 S.2.1 dX5_readBank_17 rfl hl (by decide) rfl (fun ls hl => ?_)
    refine lv_iload_n S.1 S.2.1 dX5_readBank_18 rfl (lv_at hl 0 rfl) ?_
    refine lv_iconst (v := (-1)) S.1 S.2.1 dX5_readBank_19 (by decide) ?_
    refine lv_icmp_ne (tgt := 27) S.1 S.2.1 dX5_readBank_20 (by decide) (fun q6 => ?_) (fun q6 => ?_)
    · have f := (if_neg q6).symm.trans f
      refine lv_aload_n S.1 S.2.1 dX5_readBank_27 rfl (lv_at hl 1 rfl) ?_
      refine lv_iconst (v := 1) S.1 S.2.1 dX5_readBank_28 (by decide) ?_
      refine lv_bipush (v := 20) S.1 S.2.1 dX5_readBank_29 (by decide) ?_
      obtain ⟨o7, e8, f⟩ := ob f
      refine o_Vi S (As := [.int 1, .int 20]) (rest := []) (ci := 5) (M5_numberIn l D cy b A fl e8) gX5_readBank_X5_numberIn rfl rfl rfl cd5_numberIn ⟨Nat.le_of_ble_eq_true rfl, Nat.le_of_ble_eq_true rfl⟩ I (gd e8).1 clX5 rfl rfl hl.1 rfl (Nat.le_of_ble_eq_true rfl) dX5_readBank_31 ⟨Nat.le_of_ble_eq_true rfl, Nat.le_of_ble_eq_true rfl⟩ (fun H locs I => ?_)
      exact T5_readBank_34 S hr hlo  f I (lv_sub hl [1, 0] rfl)
    · have f := (if_pos q6).symm.trans f
      refine lv_iconst (v := (-1)) S.1 S.2.1 dX5_readBank_23 (by decide) ?_
      refine lv_goto (tgt := 34) S.1 S.2.1 dX5_readBank_24 (by decide) ?_
      exact T5_readBank_34 S hr hlo  f I (lv_sub hl [1, 0] rfl)
  · have f := (if_pos q3).symm.trans f
    refine lv_iconst (v := 0) S.1 S.2.1 dX5_readBank_8 (by decide) ?_
    exact o_zret S hr hlo I f dX5_readBank_9
theorem M5_readBank (l : Launch) (D : va_G) (cy : Nat → ClassId) (b : Nat) (A : Nat → Prop) (fl : Bool) {h : PH} {a0 : Nat} {out : Int32 × PH} (f : F5_readBank h a0 = some out) : Met l yX5_readBank vX5_readBank ({ frames := 4, cells := 0, slots := 0, locals := 86 } : Room) (va_Pc [.ref (b + a0)] (ph_B D cy b A fl h)) (va_Qi (fun (r : Int32) (u : PH) => (r, u) = out) (ph_B D cy b A fl) A) 0 0 A :=
  o_met (by decide) rfl (Nat.le_of_ble_eq_true rfl) rfl (fun p e s m below meth c S hr hlo hnm ls hl I => T5_readBank_0 S hr hlo ((gd f).2) I (lv_sub hl [0] rfl))
def vX5_readRule : List Cond := .code yX5_readRule cX5_readRule 2 (some .boolean) :: TB
theorem gX5_readRule_X5_refuse : GoodIn vX5_readRule (wsV RX5 89 RX5 yX5_refuse vX5_refuse) := gV_of wT_18_1 wT_18_2 wT_18_3 wT_1_22 wT_18_4
theorem gX5_readRule_X5_isFirst : GoodIn vX5_readRule (wsV RX5 100 RX5 yX5_isFirst vX5_isFirst) := gV_of wT_17_21 wT_17_22 wT_17_23 wT_1_22 wT_18_0
theorem lf5_readRule_18 : Fl vX5_readRule RX5 18 5 0 := ⟨RX5, TX5, 11, rfl, by decide, (fun w h9 => List.mem_cons_of_mem _ (wC_wsX50 w h9)), (List.mem_cons_of_mem _ wT_5_3)⟩
theorem gX5_readRule_X7_advance : GoodIn vX5_readRule (wsV RX5 49 RX7 yX7_advance vX7_advance) := gV_of wT_15_21 wT_15_22 wT_15_23 wT_5_2 wT_16_0
theorem lf5_readRule_52 : Fl vX5_readRule RX5 52 7 4 := ⟨RX7, TX7, 7, rfl, by decide, (fun w h9 => List.mem_cons_of_mem _ (wC_wsX70 w h9)), (List.mem_cons_of_mem _ wT_14_7)⟩
theorem lf5_readRule_9 : Fl vX5_readRule RX5 9 5 10 := ⟨RX5, TX5, 11, rfl, by decide, (fun w h9 => List.mem_cons_of_mem _ (wC_wsX50 w h9)), (List.mem_cons_of_mem _ wT_4_23)⟩
theorem lp5_readRule_165 : Pl vX5_readRule RX5 165 8 9 .int := ⟨RX8, TX8, 14, tyX8, rfl, by decide, (fun w h9 => List.mem_cons_of_mem _ (wC_wsX80 w h9)), (List.mem_cons_of_mem _ wT_21_1), tyX8_ok, nmX8, rfl, rfl⟩
theorem gX5_readRule_X5_readStop : GoodIn vX5_readRule (wsV RX5 112 RX5 yX5_readStop vX5_readStop) := gV_of wT_18_15 wT_18_16 wT_18_17 wT_1_22 wT_18_18
theorem cd5_readRule : Cd yX5_readRule 0 := ⟨by decide, by decide, by decide +kernel⟩
set_option maxHeartbeats 4000000 in
set_option maxRecDepth 100000 in
theorem T5_readRule_37 (S : CallFix p m c cX5_readRule 2 s args vX5_readRule RX5) (hr : meth.sig.returnType = (some .boolean)) (hlo : meth.locks = false) {out : Int32 × PH} {h : PH} {a0 : Nat} (f : F5_readRule_37  h a0 = some out) {H : Heap} {locs : List Loc} (I : ph_I D cy b A fl h s H locs) {ls : Array Slot} (hl : lv_has ls 2 [(0, .ref (b + a0))]) : W p l e ({ frames := 4, cells := 0, slots := 0, locals := 84 } : Room) s m args below meth c H locs 0 0 (MQ below (va_Qi (fun (r : Int32) (u : PH) => (r, u) = out) (ph_B D cy b A fl) A) args s 0 0 A) (F0 m 37 ls []) := by
  unfold F5_readRule_37 at f
  refine lv_aload_n S.1 S.2.1 dX5_readRule_37 rfl (lv_at hl 0 rfl) ?_
  refine lv_iconst (v := 1) S.1 S.2.1 dX5_readRule_38 (by decide) ?_
  obtain ⟨o1, e2, f⟩ := ob f
  refine o_Vi S (As := [.int 1]) (rest := []) (ci := 5) (M5_refuse l D cy b A fl e2) gX5_readRule_X5_refuse rfl rfl rfl cd5_refuse ⟨Nat.le_of_ble_eq_true rfl, Nat.le_of_ble_eq_true rfl⟩ I (gd e2).1 clX5 rfl rfl hl.1 rfl (Nat.le_of_ble_eq_true rfl) dX5_readRule_39 ⟨Nat.le_of_ble_eq_true rfl, Nat.le_of_ble_eq_true rfl⟩ (fun H locs I => ?_)
  exact o_zret S hr hlo I f dX5_readRule_42
set_option maxHeartbeats 4000000 in
set_option maxRecDepth 100000 in
theorem T5_readRule_0 (S : CallFix p m c cX5_readRule 2 s args vX5_readRule RX5) (hr : meth.sig.returnType = (some .boolean)) (hlo : meth.locks = false) {out : Int32 × PH} {h : PH} {a0 : Nat} (f : F5_readRule_0  h a0 = some out) {H : Heap} {locs : List Loc} (I : ph_I D cy b A fl h s H locs) {ls : Array Slot} (hl : lv_has ls 2 [(0, .ref (b + a0))]) : W p l e ({ frames := 4, cells := 0, slots := 0, locals := 84 } : Room) s m args below meth c H locs 0 0 (MQ below (va_Qi (fun (r : Int32) (u : PH) => (r, u) = out) (ph_B D cy b A fl) A) args s 0 0 A) (F0 m 0 ls []) := by
  unfold F5_readRule_0 at f
  refine lv_aload_n S.1 S.2.1 dX5_readRule_0 rfl (lv_at hl 0 rfl) ?_
  refine lv_iconst (v := 5) S.1 S.2.1 dX5_readRule_1 (by decide) ?_
  obtain ⟨o1, e2, f⟩ := ob f
  refine o_Vi S (As := [.int 5]) (rest := []) (ci := 5) (M5_isFirst l D cy b A fl e2) gX5_readRule_X5_isFirst rfl rfl rfl cd5_isFirst ⟨Nat.le_of_ble_eq_true rfl, Nat.le_of_ble_eq_true rfl⟩ I (gd e2).1 clX5 rfl rfl hl.1 rfl (Nat.le_of_ble_eq_true rfl) dX5_readRule_2 ⟨Nat.le_of_ble_eq_true rfl, Nat.le_of_ble_eq_true rfl⟩ (fun H locs I => ?_)
  refine lv_if_ne (tgt := 10) S.1 S.2.1 dX5_readRule_5 (by decide) (fun q3 => ?_) (fun q3 => ?_)
  · have f := (if_neg q3).symm.trans f
    refine lv_aload_n S.1 S.2.1 dX5_readRule_10 rfl (lv_at hl 0 rfl) ?_
    obtain ⟨r4, e5, f⟩ := ob f
    refine o_gR S lf5_readRule_18 I e5 dX5_readRule_11 ?_
    obtain ⟨o6, e7, f⟩ := ob f
    refine o_Vv S (As := []) (rest := []) (ci := 7) (M7_advance l D cy b A fl e7) gX5_readRule_X7_advance rfl rfl rfl cd7_advance ⟨Nat.le_of_ble_eq_true rfl, Nat.le_of_ble_eq_true rfl⟩ I (gd e7).1 clX7 rfl rfl hl.1 rfl (Nat.le_of_ble_eq_true rfl) dX5_readRule_14 ⟨Nat.le_of_ble_eq_true rfl, Nat.le_of_ble_eq_true rfl⟩ (fun H locs I => ?_)
    refine lv_aload_n S.1 S.2.1 dX5_readRule_17 rfl (lv_at hl 0 rfl) ?_
    obtain ⟨r8, e9, f⟩ := ob f
    refine o_gR S lf5_readRule_18 I e9 dX5_readRule_18 ?_
    obtain ⟨v10, e11, f⟩ := ob f
    refine o_gI S lf5_readRule_52 I e11 dX5_readRule_21 ?_
    refine lv_bipush (v := 8) S.1 S.2.1 dX5_readRule_24 (by decide) ?_
    refine lv_isub S.1 S.2.1 dX5_readRule_26 ?_
    refine lv_istore_n (lv' := [(1, .int (v10 - 8)), (0, .ref (b + a0))]) S.1 S.2.1 dX5_readRule_27 rfl hl (by decide) rfl (fun ls hl => ?_)
    refine lv_iload_n S.1 S.2.1 dX5_readRule_28 rfl (lv_at hl 0 rfl) ?_
    refine lv_if_lt (tgt := 37) S.1 S.2.1 dX5_readRule_29 (by decide) (fun q12 => ?_) (fun q12 => ?_)
    · have f := (if_pos q12).symm.trans f
      exact T5_readRule_37 S hr hlo  f I (lv_sub hl [1] rfl)
    · have f := (if_neg q12).symm.trans f
      refine lv_iload_n S.1 S.2.1 dX5_readRule_32 rfl (lv_at hl 0 rfl) ?_
      refine lv_iconst (v := 4) S.1 S.2.1 dX5_readRule_33 (by decide) ?_
      refine lv_icmp_lt (tgt := 43) S.1 S.2.1 dX5_readRule_34 (by decide) (fun q13 => ?_) (fun q13 => ?_)
      · have f := (if_pos q13).symm.trans f
        refine lv_aload_n S.1 S.2.1 dX5_readRule_43 rfl (lv_at hl 1 rfl) ?_
        obtain ⟨r14, e15, f⟩ := ob f
        refine o_gR S lf5_readRule_9 I e15 dX5_readRule_44 ?_
        refine lv_iload_n S.1 S.2.1 dX5_readRule_47 rfl (lv_at hl 0 rfl) ?_
        obtain ⟨h16, e17, f⟩ := ob f
        refine o_pI S lp5_readRule_165 I e17 dX5_readRule_48 (fun H locs I => ?_)
        refine lv_aload_n S.1 S.2.1 dX5_readRule_51 rfl (lv_at hl 1 rfl) ?_
        obtain ⟨o18, e19, f⟩ := ob f
        refine o_Vi S (As := []) (rest := []) (ci := 5) (M5_readStop l D cy b A fl e19) gX5_readRule_X5_readStop rfl rfl rfl cd5_readStop ⟨Nat.le_of_ble_eq_true rfl, Nat.le_of_ble_eq_true rfl⟩ I (gd e19).1 clX5 rfl rfl hl.1 rfl (Nat.le_of_ble_eq_true rfl) dX5_readRule_52 ⟨Nat.le_of_ble_eq_true rfl, Nat.le_of_ble_eq_true rfl⟩ (fun H locs I => ?_)
        exact o_zret S hr hlo I f dX5_readRule_55
      · have f := (if_neg q13).symm.trans f
        exact T5_readRule_37 S hr hlo  f I (lv_sub hl [1] rfl)
  · have f := (if_pos q3).symm.trans f
    refine lv_iconst (v := 0) S.1 S.2.1 dX5_readRule_8 (by decide) ?_
    exact o_zret S hr hlo I f dX5_readRule_9
theorem M5_readRule (l : Launch) (D : va_G) (cy : Nat → ClassId) (b : Nat) (A : Nat → Prop) (fl : Bool) {h : PH} {a0 : Nat} {out : Int32 × PH} (f : F5_readRule h a0 = some out) : Met l yX5_readRule vX5_readRule ({ frames := 4, cells := 0, slots := 0, locals := 84 } : Room) (va_Pc [.ref (b + a0)] (ph_B D cy b A fl h)) (va_Qi (fun (r : Int32) (u : PH) => (r, u) = out) (ph_B D cy b A fl) A) 0 0 A :=
  o_met (by decide) rfl (Nat.le_of_ble_eq_true rfl) rfl (fun p e s m below meth c S hr hlo hnm ls hl I => T5_readRule_0 S hr hlo ((gd f).2) I (lv_sub hl [0] rfl))
end
theorem zd_dX5_readSeed_0 : sg (cX5_readSeed.data.toList.drop 0) [[42], [16, 6], [182, 0, 100], [154, 0, 5], [3], [172], [42], [3], [18, 168], [182, 0, 103], [60], [27], [2], [160, 0, 5], [3], [172], [42], [180, 0, 9], [27], [181, 0, 169]] = true := by decide +kernel
theorem dX5_readSeed_0 : decode cX5_readSeed 0 = .ok (.aload_n 0, 1) := dc_42 (sg_at zd_dX5_readSeed_0 0 rfl rfl)
theorem dX5_readSeed_1 : decode cX5_readSeed 1 = .ok (.bipush 6, 2) := dc_16 (sg_at zd_dX5_readSeed_0 1 rfl rfl) rfl
theorem dX5_readSeed_3 : decode cX5_readSeed 3 = .ok (.invokevirtual 100, 3) := dc_182 (sg_at zd_dX5_readSeed_0 2 rfl rfl) rfl
theorem dX5_readSeed_6 : decode cX5_readSeed 6 = .ok (.ifCond .ne 5, 3) := dc_154 (sg_at zd_dX5_readSeed_0 3 rfl rfl) rfl
theorem dX5_readSeed_9 : decode cX5_readSeed 9 = .ok (.iconst 0, 1) := dc_3 (sg_at zd_dX5_readSeed_0 4 rfl rfl)
theorem dX5_readSeed_10 : decode cX5_readSeed 10 = .ok (.ireturn, 1) := dc_172 (sg_at zd_dX5_readSeed_0 5 rfl rfl)
theorem dX5_readSeed_11 : decode cX5_readSeed 11 = .ok (.aload_n 0, 1) := dc_42 (sg_at zd_dX5_readSeed_0 6 rfl rfl)
theorem dX5_readSeed_12 : decode cX5_readSeed 12 = .ok (.iconst 0, 1) := dc_3 (sg_at zd_dX5_readSeed_0 7 rfl rfl)
theorem dX5_readSeed_13 : decode cX5_readSeed 13 = .ok (.ldc 168, 2) := dc_18 (sg_at zd_dX5_readSeed_0 8 rfl rfl)
theorem dX5_readSeed_15 : decode cX5_readSeed 15 = .ok (.invokevirtual 103, 3) := dc_182 (sg_at zd_dX5_readSeed_0 9 rfl rfl) rfl
theorem dX5_readSeed_18 : decode cX5_readSeed 18 = .ok (.istore_n 1, 1) := dc_60 (sg_at zd_dX5_readSeed_0 10 rfl rfl)
theorem dX5_readSeed_19 : decode cX5_readSeed 19 = .ok (.iload_n 1, 1) := dc_27 (sg_at zd_dX5_readSeed_0 11 rfl rfl)
theorem dX5_readSeed_20 : decode cX5_readSeed 20 = .ok (.iconst (-1), 1) := dc_2 (sg_at zd_dX5_readSeed_0 12 rfl rfl)
theorem dX5_readSeed_21 : decode cX5_readSeed 21 = .ok (.if_icmp .ne 5, 3) := dc_160 (sg_at zd_dX5_readSeed_0 13 rfl rfl) rfl
theorem dX5_readSeed_24 : decode cX5_readSeed 24 = .ok (.iconst 0, 1) := dc_3 (sg_at zd_dX5_readSeed_0 14 rfl rfl)
theorem dX5_readSeed_25 : decode cX5_readSeed 25 = .ok (.ireturn, 1) := dc_172 (sg_at zd_dX5_readSeed_0 15 rfl rfl)
theorem dX5_readSeed_26 : decode cX5_readSeed 26 = .ok (.aload_n 0, 1) := dc_42 (sg_at zd_dX5_readSeed_0 16 rfl rfl)
theorem dX5_readSeed_27 : decode cX5_readSeed 27 = .ok (.getfield 9, 3) := dc_180 (sg_at zd_dX5_readSeed_0 17 rfl rfl) rfl
theorem dX5_readSeed_30 : decode cX5_readSeed 30 = .ok (.iload_n 1, 1) := dc_27 (sg_at zd_dX5_readSeed_0 18 rfl rfl)
theorem dX5_readSeed_31 : decode cX5_readSeed 31 = .ok (.putfield 169, 3) := dc_181 (sg_at zd_dX5_readSeed_0 19 rfl rfl) rfl
theorem zd_dX5_readSeed_34 : sg (cX5_readSeed.data.toList.drop 34) [[42], [182, 0, 112], [172]] = true := by decide +kernel
theorem dX5_readSeed_34 : decode cX5_readSeed 34 = .ok (.aload_n 0, 1) := dc_42 (sg_at zd_dX5_readSeed_34 0 rfl rfl)
theorem dX5_readSeed_35 : decode cX5_readSeed 35 = .ok (.invokevirtual 112, 3) := dc_182 (sg_at zd_dX5_readSeed_34 1 rfl rfl) rfl
theorem dX5_readSeed_38 : decode cX5_readSeed 38 = .ok (.ireturn, 1) := dc_172 (sg_at zd_dX5_readSeed_34 2 rfl rfl)
theorem zd_dX5_readKind_0 : sg (cX5_readKind.data.toList.drop 0) [[42], [180, 0, 18], [182, 0, 49], [42], [180, 0, 18], [180, 0, 52], [16, 12], [100], [60], [27], [155, 0, 8], [27], [6], [161, 0, 11], [42], [4], [182, 0, 89], [87], [1], [176]] = true := by decide +kernel
theorem dX5_readKind_0 : decode cX5_readKind 0 = .ok (.aload_n 0, 1) := dc_42 (sg_at zd_dX5_readKind_0 0 rfl rfl)
theorem dX5_readKind_1 : decode cX5_readKind 1 = .ok (.getfield 18, 3) := dc_180 (sg_at zd_dX5_readKind_0 1 rfl rfl) rfl
theorem dX5_readKind_4 : decode cX5_readKind 4 = .ok (.invokevirtual 49, 3) := dc_182 (sg_at zd_dX5_readKind_0 2 rfl rfl) rfl
theorem dX5_readKind_7 : decode cX5_readKind 7 = .ok (.aload_n 0, 1) := dc_42 (sg_at zd_dX5_readKind_0 3 rfl rfl)
theorem dX5_readKind_8 : decode cX5_readKind 8 = .ok (.getfield 18, 3) := dc_180 (sg_at zd_dX5_readKind_0 4 rfl rfl) rfl
theorem dX5_readKind_11 : decode cX5_readKind 11 = .ok (.getfield 52, 3) := dc_180 (sg_at zd_dX5_readKind_0 5 rfl rfl) rfl
theorem dX5_readKind_14 : decode cX5_readKind 14 = .ok (.bipush 12, 2) := dc_16 (sg_at zd_dX5_readKind_0 6 rfl rfl) rfl
theorem dX5_readKind_16 : decode cX5_readKind 16 = .ok (.isub, 1) := dc_100 (sg_at zd_dX5_readKind_0 7 rfl rfl)
theorem dX5_readKind_17 : decode cX5_readKind 17 = .ok (.istore_n 1, 1) := dc_60 (sg_at zd_dX5_readKind_0 8 rfl rfl)
theorem dX5_readKind_18 : decode cX5_readKind 18 = .ok (.iload_n 1, 1) := dc_27 (sg_at zd_dX5_readKind_0 9 rfl rfl)
theorem dX5_readKind_19 : decode cX5_readKind 19 = .ok (.ifCond .lt 8, 3) := dc_155 (sg_at zd_dX5_readKind_0 10 rfl rfl) rfl
theorem dX5_readKind_22 : decode cX5_readKind 22 = .ok (.iload_n 1, 1) := dc_27 (sg_at zd_dX5_readKind_0 11 rfl rfl)
theorem dX5_readKind_23 : decode cX5_readKind 23 = .ok (.iconst 3, 1) := dc_6 (sg_at zd_dX5_readKind_0 12 rfl rfl)
theorem dX5_readKind_24 : decode cX5_readKind 24 = .ok (.if_icmp .lt 11, 3) := dc_161 (sg_at zd_dX5_readKind_0 13 rfl rfl) rfl
theorem dX5_readKind_27 : decode cX5_readKind 27 = .ok (.aload_n 0, 1) := dc_42 (sg_at zd_dX5_readKind_0 14 rfl rfl)
theorem dX5_readKind_28 : decode cX5_readKind 28 = .ok (.iconst 1, 1) := dc_4 (sg_at zd_dX5_readKind_0 15 rfl rfl)
theorem dX5_readKind_29 : decode cX5_readKind 29 = .ok (.invokevirtual 89, 3) := dc_182 (sg_at zd_dX5_readKind_0 16 rfl rfl) rfl
theorem dX5_readKind_32 : decode cX5_readKind 32 = .ok (.pop, 1) := dc_87 (sg_at zd_dX5_readKind_0 17 rfl rfl)
theorem dX5_readKind_33 : decode cX5_readKind 33 = .ok (.aconst_null, 1) := dc_1 (sg_at zd_dX5_readKind_0 18 rfl rfl)
theorem dX5_readKind_34 : decode cX5_readKind 34 = .ok (.areturn, 1) := dc_176 (sg_at zd_dX5_readKind_0 19 rfl rfl)
theorem zd_dX5_readKind_35 : sg (cX5_readKind.data.toList.drop 35) [[42], [180, 0, 9], [180, 0, 172], [27], [50], [180, 0, 176], [153, 0, 11], [42], [6], [182, 0, 89], [87], [1], [176], [42], [180, 0, 9], [180, 0, 172], [27], [50], [4], [181, 0, 176]] = true := by decide +kernel
theorem dX5_readKind_35 : decode cX5_readKind 35 = .ok (.aload_n 0, 1) := dc_42 (sg_at zd_dX5_readKind_35 0 rfl rfl)
theorem dX5_readKind_36 : decode cX5_readKind 36 = .ok (.getfield 9, 3) := dc_180 (sg_at zd_dX5_readKind_35 1 rfl rfl) rfl
theorem dX5_readKind_39 : decode cX5_readKind 39 = .ok (.getfield 172, 3) := dc_180 (sg_at zd_dX5_readKind_35 2 rfl rfl) rfl
theorem dX5_readKind_42 : decode cX5_readKind 42 = .ok (.iload_n 1, 1) := dc_27 (sg_at zd_dX5_readKind_35 3 rfl rfl)
theorem dX5_readKind_43 : decode cX5_readKind 43 = .ok (.aaload, 1) := dc_50 (sg_at zd_dX5_readKind_35 4 rfl rfl)
theorem dX5_readKind_44 : decode cX5_readKind 44 = .ok (.getfield 176, 3) := dc_180 (sg_at zd_dX5_readKind_35 5 rfl rfl) rfl
theorem dX5_readKind_47 : decode cX5_readKind 47 = .ok (.ifCond .eq 11, 3) := dc_153 (sg_at zd_dX5_readKind_35 6 rfl rfl) rfl
theorem dX5_readKind_50 : decode cX5_readKind 50 = .ok (.aload_n 0, 1) := dc_42 (sg_at zd_dX5_readKind_35 7 rfl rfl)
theorem dX5_readKind_51 : decode cX5_readKind 51 = .ok (.iconst 3, 1) := dc_6 (sg_at zd_dX5_readKind_35 8 rfl rfl)
theorem dX5_readKind_52 : decode cX5_readKind 52 = .ok (.invokevirtual 89, 3) := dc_182 (sg_at zd_dX5_readKind_35 9 rfl rfl) rfl
theorem dX5_readKind_55 : decode cX5_readKind 55 = .ok (.pop, 1) := dc_87 (sg_at zd_dX5_readKind_35 10 rfl rfl)
theorem dX5_readKind_56 : decode cX5_readKind 56 = .ok (.aconst_null, 1) := dc_1 (sg_at zd_dX5_readKind_35 11 rfl rfl)
theorem dX5_readKind_57 : decode cX5_readKind 57 = .ok (.areturn, 1) := dc_176 (sg_at zd_dX5_readKind_35 12 rfl rfl)
theorem dX5_readKind_58 : decode cX5_readKind 58 = .ok (.aload_n 0, 1) := dc_42 (sg_at zd_dX5_readKind_35 13 rfl rfl)
theorem dX5_readKind_59 : decode cX5_readKind 59 = .ok (.getfield 9, 3) := dc_180 (sg_at zd_dX5_readKind_35 14 rfl rfl) rfl
theorem dX5_readKind_62 : decode cX5_readKind 62 = .ok (.getfield 172, 3) := dc_180 (sg_at zd_dX5_readKind_35 15 rfl rfl) rfl
theorem dX5_readKind_65 : decode cX5_readKind 65 = .ok (.iload_n 1, 1) := dc_27 (sg_at zd_dX5_readKind_35 16 rfl rfl)
theorem dX5_readKind_66 : decode cX5_readKind 66 = .ok (.aaload, 1) := dc_50 (sg_at zd_dX5_readKind_35 17 rfl rfl)
theorem dX5_readKind_67 : decode cX5_readKind 67 = .ok (.iconst 1, 1) := dc_4 (sg_at zd_dX5_readKind_35 18 rfl rfl)
theorem dX5_readKind_68 : decode cX5_readKind 68 = .ok (.putfield 176, 3) := dc_181 (sg_at zd_dX5_readKind_35 19 rfl rfl) rfl
theorem zd_dX5_readKind_71 : sg (cX5_readKind.data.toList.drop 71) [[42], [180, 0, 9], [180, 0, 172], [27], [50], [176]] = true := by decide +kernel
theorem dX5_readKind_71 : decode cX5_readKind 71 = .ok (.aload_n 0, 1) := dc_42 (sg_at zd_dX5_readKind_71 0 rfl rfl)
theorem dX5_readKind_72 : decode cX5_readKind 72 = .ok (.getfield 9, 3) := dc_180 (sg_at zd_dX5_readKind_71 1 rfl rfl) rfl
theorem dX5_readKind_75 : decode cX5_readKind 75 = .ok (.getfield 172, 3) := dc_180 (sg_at zd_dX5_readKind_71 2 rfl rfl) rfl
theorem dX5_readKind_78 : decode cX5_readKind 78 = .ok (.iload_n 1, 1) := dc_27 (sg_at zd_dX5_readKind_71 3 rfl rfl)
theorem dX5_readKind_79 : decode cX5_readKind 79 = .ok (.aaload, 1) := dc_50 (sg_at zd_dX5_readKind_71 4 rfl rfl)
theorem dX5_readKind_80 : decode cX5_readKind 80 = .ok (.areturn, 1) := dc_176 (sg_at zd_dX5_readKind_71 5 rfl rfl)
theorem zd_dX5_strengthOf_0 : sg (cX5_strengthOf.data.toList.drop 0) [[26]] = true := by decide +kernel
theorem dX5_strengthOf_0 : decode cX5_strengthOf 0 = .ok (.iload_n 0, 1) := dc_26 (sg_at zd_dX5_strengthOf_0 0 rfl rfl)
theorem dX5_strengthOf_1 : decode cX5_strengthOf 1 = .ok (.tableswitch 112 15 35 #[103, 101, 99, 112, 112, 112, 112, 112, 112, 112, 112, 105, 105, 105, 105, 105, 105, 107, 107, 109, 109], 99) := by decide +kernel
theorem zd_dX5_strengthOf_100 : sg (cX5_strengthOf.data.toList.drop 100) [[4], [172], [5], [172], [6], [172], [7], [172], [8], [172], [16, 6], [172], [3], [172]] = true := by decide +kernel
theorem dX5_strengthOf_100 : decode cX5_strengthOf 100 = .ok (.iconst 1, 1) := dc_4 (sg_at zd_dX5_strengthOf_100 0 rfl rfl)
theorem dX5_strengthOf_101 : decode cX5_strengthOf 101 = .ok (.ireturn, 1) := dc_172 (sg_at zd_dX5_strengthOf_100 1 rfl rfl)
theorem dX5_strengthOf_102 : decode cX5_strengthOf 102 = .ok (.iconst 2, 1) := dc_5 (sg_at zd_dX5_strengthOf_100 2 rfl rfl)
theorem dX5_strengthOf_103 : decode cX5_strengthOf 103 = .ok (.ireturn, 1) := dc_172 (sg_at zd_dX5_strengthOf_100 3 rfl rfl)
theorem dX5_strengthOf_104 : decode cX5_strengthOf 104 = .ok (.iconst 3, 1) := dc_6 (sg_at zd_dX5_strengthOf_100 4 rfl rfl)
theorem dX5_strengthOf_105 : decode cX5_strengthOf 105 = .ok (.ireturn, 1) := dc_172 (sg_at zd_dX5_strengthOf_100 5 rfl rfl)
theorem dX5_strengthOf_106 : decode cX5_strengthOf 106 = .ok (.iconst 4, 1) := dc_7 (sg_at zd_dX5_strengthOf_100 6 rfl rfl)
theorem dX5_strengthOf_107 : decode cX5_strengthOf 107 = .ok (.ireturn, 1) := dc_172 (sg_at zd_dX5_strengthOf_100 7 rfl rfl)
theorem dX5_strengthOf_108 : decode cX5_strengthOf 108 = .ok (.iconst 5, 1) := dc_8 (sg_at zd_dX5_strengthOf_100 8 rfl rfl)
theorem dX5_strengthOf_109 : decode cX5_strengthOf 109 = .ok (.ireturn, 1) := dc_172 (sg_at zd_dX5_strengthOf_100 9 rfl rfl)
theorem dX5_strengthOf_110 : decode cX5_strengthOf 110 = .ok (.bipush 6, 2) := dc_16 (sg_at zd_dX5_strengthOf_100 10 rfl rfl) rfl
theorem dX5_strengthOf_112 : decode cX5_strengthOf 112 = .ok (.ireturn, 1) := dc_172 (sg_at zd_dX5_strengthOf_100 11 rfl rfl)
theorem dX5_strengthOf_113 : decode cX5_strengthOf 113 = .ok (.iconst 0, 1) := dc_3 (sg_at zd_dX5_strengthOf_100 12 rfl rfl)
theorem dX5_strengthOf_114 : decode cX5_strengthOf 114 = .ok (.ireturn, 1) := dc_172 (sg_at zd_dX5_strengthOf_100 13 rfl rfl)
theorem zd_dX5_release_0 : sg (cX5_release.data.toList.drop 0) [[42], [180, 0, 185], [158, 0, 46], [42], [180, 0, 22], [42], [180, 0, 185], [4], [100], [46], [62], [29], [184, 0, 223], [28], [162, 0, 4], [177], [43], [17, 39, 16], [29], [96]] = true := by decide +kernel
theorem dX5_release_0 : decode cX5_release 0 = .ok (.aload_n 0, 1) := dc_42 (sg_at zd_dX5_release_0 0 rfl rfl)
theorem dX5_release_1 : decode cX5_release 1 = .ok (.getfield 185, 3) := dc_180 (sg_at zd_dX5_release_0 1 rfl rfl) rfl
theorem dX5_release_4 : decode cX5_release 4 = .ok (.ifCond .le 46, 3) := dc_158 (sg_at zd_dX5_release_0 2 rfl rfl) rfl
theorem dX5_release_7 : decode cX5_release 7 = .ok (.aload_n 0, 1) := dc_42 (sg_at zd_dX5_release_0 3 rfl rfl)
theorem dX5_release_8 : decode cX5_release 8 = .ok (.getfield 22, 3) := dc_180 (sg_at zd_dX5_release_0 4 rfl rfl) rfl
theorem dX5_release_11 : decode cX5_release 11 = .ok (.aload_n 0, 1) := dc_42 (sg_at zd_dX5_release_0 5 rfl rfl)
theorem dX5_release_12 : decode cX5_release 12 = .ok (.getfield 185, 3) := dc_180 (sg_at zd_dX5_release_0 6 rfl rfl) rfl
theorem dX5_release_15 : decode cX5_release 15 = .ok (.iconst 1, 1) := dc_4 (sg_at zd_dX5_release_0 7 rfl rfl)
theorem dX5_release_16 : decode cX5_release 16 = .ok (.isub, 1) := dc_100 (sg_at zd_dX5_release_0 8 rfl rfl)
theorem dX5_release_17 : decode cX5_release 17 = .ok (.iaload, 1) := dc_46 (sg_at zd_dX5_release_0 9 rfl rfl)
theorem dX5_release_18 : decode cX5_release 18 = .ok (.istore_n 3, 1) := dc_62 (sg_at zd_dX5_release_0 10 rfl rfl)
theorem dX5_release_19 : decode cX5_release 19 = .ok (.iload_n 3, 1) := dc_29 (sg_at zd_dX5_release_0 11 rfl rfl)
theorem dX5_release_20 : decode cX5_release 20 = .ok (.invokestatic 223, 3) := dc_184 (sg_at zd_dX5_release_0 12 rfl rfl) rfl
theorem dX5_release_23 : decode cX5_release 23 = .ok (.iload_n 2, 1) := dc_28 (sg_at zd_dX5_release_0 13 rfl rfl)
theorem dX5_release_24 : decode cX5_release 24 = .ok (.if_icmp .ge 4, 3) := dc_162 (sg_at zd_dX5_release_0 14 rfl rfl) rfl
theorem dX5_release_27 : decode cX5_release 27 = .ok (.return_, 1) := dc_177 (sg_at zd_dX5_release_0 15 rfl rfl)
theorem dX5_release_28 : decode cX5_release 28 = .ok (.aload_n 1, 1) := dc_43 (sg_at zd_dX5_release_0 16 rfl rfl)
theorem dX5_release_29 : decode cX5_release 29 = .ok (.sipush 10000, 3) := dc_17 (sg_at zd_dX5_release_0 17 rfl rfl) rfl
theorem dX5_release_32 : decode cX5_release 32 = .ok (.iload_n 3, 1) := dc_29 (sg_at zd_dX5_release_0 18 rfl rfl)
theorem dX5_release_33 : decode cX5_release 33 = .ok (.iadd, 1) := dc_96 (sg_at zd_dX5_release_0 19 rfl rfl)
theorem zd_dX5_release_34 : sg (cX5_release.data.toList.drop 34) [[182, 0, 217], [42], [89], [180, 0, 185], [4], [100], [181, 0, 185], [167, 255, 209], [177]] = true := by decide +kernel
theorem dX5_release_34 : decode cX5_release 34 = .ok (.invokevirtual 217, 3) := dc_182 (sg_at zd_dX5_release_34 0 rfl rfl) rfl
theorem dX5_release_37 : decode cX5_release 37 = .ok (.aload_n 0, 1) := dc_42 (sg_at zd_dX5_release_34 1 rfl rfl)
theorem dX5_release_38 : decode cX5_release 38 = .ok (.dup, 1) := dc_89 (sg_at zd_dX5_release_34 2 rfl rfl)
theorem dX5_release_39 : decode cX5_release 39 = .ok (.getfield 185, 3) := dc_180 (sg_at zd_dX5_release_34 3 rfl rfl) rfl
theorem dX5_release_42 : decode cX5_release 42 = .ok (.iconst 1, 1) := dc_4 (sg_at zd_dX5_release_34 4 rfl rfl)
theorem dX5_release_43 : decode cX5_release 43 = .ok (.isub, 1) := dc_100 (sg_at zd_dX5_release_34 5 rfl rfl)
theorem dX5_release_44 : decode cX5_release 44 = .ok (.putfield 185, 3) := dc_181 (sg_at zd_dX5_release_34 6 rfl rfl) rfl
theorem dX5_release_47 : decode cX5_release 47 = .ok (.goto (-47), 3) := dc_167 (sg_at zd_dX5_release_34 7 rfl rfl) rfl
theorem dX5_release_50 : decode cX5_release 50 = .ok (.return_, 1) := dc_177 (sg_at zd_dX5_release_34 8 rfl rfl)
theorem zd_dX5_takeOpen_0 : sg (cX5_takeOpen.data.toList.drop 0) [[42], [180, 0, 188], [16, 8], [161, 0, 9], [42], [5], [182, 0, 89], [172], [42], [89], [180, 0, 188], [4], [96], [181, 0, 188], [42], [4], [181, 0, 194], [42], [16, 36], [182, 0, 214]] = true := by decide +kernel
theorem dX5_takeOpen_0 : decode cX5_takeOpen 0 = .ok (.aload_n 0, 1) := dc_42 (sg_at zd_dX5_takeOpen_0 0 rfl rfl)
theorem dX5_takeOpen_1 : decode cX5_takeOpen 1 = .ok (.getfield 188, 3) := dc_180 (sg_at zd_dX5_takeOpen_0 1 rfl rfl) rfl
theorem dX5_takeOpen_4 : decode cX5_takeOpen 4 = .ok (.bipush 8, 2) := dc_16 (sg_at zd_dX5_takeOpen_0 2 rfl rfl) rfl
theorem dX5_takeOpen_6 : decode cX5_takeOpen 6 = .ok (.if_icmp .lt 9, 3) := dc_161 (sg_at zd_dX5_takeOpen_0 3 rfl rfl) rfl
theorem dX5_takeOpen_9 : decode cX5_takeOpen 9 = .ok (.aload_n 0, 1) := dc_42 (sg_at zd_dX5_takeOpen_0 4 rfl rfl)
theorem dX5_takeOpen_10 : decode cX5_takeOpen 10 = .ok (.iconst 2, 1) := dc_5 (sg_at zd_dX5_takeOpen_0 5 rfl rfl)
theorem dX5_takeOpen_11 : decode cX5_takeOpen 11 = .ok (.invokevirtual 89, 3) := dc_182 (sg_at zd_dX5_takeOpen_0 6 rfl rfl) rfl
theorem dX5_takeOpen_14 : decode cX5_takeOpen 14 = .ok (.ireturn, 1) := dc_172 (sg_at zd_dX5_takeOpen_0 7 rfl rfl)
theorem dX5_takeOpen_15 : decode cX5_takeOpen 15 = .ok (.aload_n 0, 1) := dc_42 (sg_at zd_dX5_takeOpen_0 8 rfl rfl)
theorem dX5_takeOpen_16 : decode cX5_takeOpen 16 = .ok (.dup, 1) := dc_89 (sg_at zd_dX5_takeOpen_0 9 rfl rfl)
theorem dX5_takeOpen_17 : decode cX5_takeOpen 17 = .ok (.getfield 188, 3) := dc_180 (sg_at zd_dX5_takeOpen_0 10 rfl rfl) rfl
theorem dX5_takeOpen_20 : decode cX5_takeOpen 20 = .ok (.iconst 1, 1) := dc_4 (sg_at zd_dX5_takeOpen_0 11 rfl rfl)
theorem dX5_takeOpen_21 : decode cX5_takeOpen 21 = .ok (.iadd, 1) := dc_96 (sg_at zd_dX5_takeOpen_0 12 rfl rfl)
theorem dX5_takeOpen_22 : decode cX5_takeOpen 22 = .ok (.putfield 188, 3) := dc_181 (sg_at zd_dX5_takeOpen_0 13 rfl rfl) rfl
theorem dX5_takeOpen_25 : decode cX5_takeOpen 25 = .ok (.aload_n 0, 1) := dc_42 (sg_at zd_dX5_takeOpen_0 14 rfl rfl)
theorem dX5_takeOpen_26 : decode cX5_takeOpen 26 = .ok (.iconst 1, 1) := dc_4 (sg_at zd_dX5_takeOpen_0 15 rfl rfl)
theorem dX5_takeOpen_27 : decode cX5_takeOpen 27 = .ok (.putfield 194, 3) := dc_181 (sg_at zd_dX5_takeOpen_0 16 rfl rfl) rfl
theorem dX5_takeOpen_30 : decode cX5_takeOpen 30 = .ok (.aload_n 0, 1) := dc_42 (sg_at zd_dX5_takeOpen_0 17 rfl rfl)
theorem dX5_takeOpen_31 : decode cX5_takeOpen 31 = .ok (.bipush 36, 2) := dc_16 (sg_at zd_dX5_takeOpen_0 18 rfl rfl) rfl
theorem dX5_takeOpen_33 : decode cX5_takeOpen 33 = .ok (.invokevirtual 214, 3) := dc_182 (sg_at zd_dX5_takeOpen_0 19 rfl rfl) rfl
theorem zd_dX5_takeOpen_36 : sg (cX5_takeOpen.data.toList.drop 36) [[172]] = true := by decide +kernel
theorem dX5_takeOpen_36 : decode cX5_takeOpen 36 = .ok (.ireturn, 1) := dc_172 (sg_at zd_dX5_takeOpen_36 0 rfl rfl)
theorem zd_dX5_takePart_0 : sg (cX5_takePart.data.toList.drop 0) [[42], [180, 0, 18], [180, 0, 52], [61], [28], [16, 36], [160, 0, 8], [42], [182, 0, 208], [172], [28], [16, 15], [160, 0, 31], [42], [180, 0, 194], [153, 0, 24], [42], [182, 0, 211], [153, 0, 15], [42]] = true := by decide +kernel
theorem dX5_takePart_0 : decode cX5_takePart 0 = .ok (.aload_n 0, 1) := dc_42 (sg_at zd_dX5_takePart_0 0 rfl rfl)
theorem dX5_takePart_1 : decode cX5_takePart 1 = .ok (.getfield 18, 3) := dc_180 (sg_at zd_dX5_takePart_0 1 rfl rfl) rfl
theorem dX5_takePart_4 : decode cX5_takePart 4 = .ok (.getfield 52, 3) := dc_180 (sg_at zd_dX5_takePart_0 2 rfl rfl) rfl
theorem dX5_takePart_7 : decode cX5_takePart 7 = .ok (.istore_n 2, 1) := dc_61 (sg_at zd_dX5_takePart_0 3 rfl rfl)
theorem dX5_takePart_8 : decode cX5_takePart 8 = .ok (.iload_n 2, 1) := dc_28 (sg_at zd_dX5_takePart_0 4 rfl rfl)
theorem dX5_takePart_9 : decode cX5_takePart 9 = .ok (.bipush 36, 2) := dc_16 (sg_at zd_dX5_takePart_0 5 rfl rfl) rfl
theorem dX5_takePart_11 : decode cX5_takePart 11 = .ok (.if_icmp .ne 8, 3) := dc_160 (sg_at zd_dX5_takePart_0 6 rfl rfl) rfl
theorem dX5_takePart_14 : decode cX5_takePart 14 = .ok (.aload_n 0, 1) := dc_42 (sg_at zd_dX5_takePart_0 7 rfl rfl)
theorem dX5_takePart_15 : decode cX5_takePart 15 = .ok (.invokevirtual 208, 3) := dc_182 (sg_at zd_dX5_takePart_0 8 rfl rfl) rfl
theorem dX5_takePart_18 : decode cX5_takePart 18 = .ok (.ireturn, 1) := dc_172 (sg_at zd_dX5_takePart_0 9 rfl rfl)
theorem dX5_takePart_19 : decode cX5_takePart 19 = .ok (.iload_n 2, 1) := dc_28 (sg_at zd_dX5_takePart_0 10 rfl rfl)
theorem dX5_takePart_20 : decode cX5_takePart 20 = .ok (.bipush 15, 2) := dc_16 (sg_at zd_dX5_takePart_0 11 rfl rfl) rfl
theorem dX5_takePart_22 : decode cX5_takePart 22 = .ok (.if_icmp .ne 31, 3) := dc_160 (sg_at zd_dX5_takePart_0 12 rfl rfl) rfl
theorem dX5_takePart_25 : decode cX5_takePart 25 = .ok (.aload_n 0, 1) := dc_42 (sg_at zd_dX5_takePart_0 13 rfl rfl)
theorem dX5_takePart_26 : decode cX5_takePart 26 = .ok (.getfield 194, 3) := dc_180 (sg_at zd_dX5_takePart_0 14 rfl rfl) rfl
theorem dX5_takePart_29 : decode cX5_takePart 29 = .ok (.ifCond .eq 24, 3) := dc_153 (sg_at zd_dX5_takePart_0 15 rfl rfl) rfl
theorem dX5_takePart_32 : decode cX5_takePart 32 = .ok (.aload_n 0, 1) := dc_42 (sg_at zd_dX5_takePart_0 16 rfl rfl)
theorem dX5_takePart_33 : decode cX5_takePart 33 = .ok (.invokevirtual 211, 3) := dc_182 (sg_at zd_dX5_takePart_0 17 rfl rfl) rfl
theorem dX5_takePart_36 : decode cX5_takePart 36 = .ok (.ifCond .eq 15, 3) := dc_153 (sg_at zd_dX5_takePart_0 18 rfl rfl) rfl
theorem dX5_takePart_39 : decode cX5_takePart 39 = .ok (.aload_n 0, 1) := dc_42 (sg_at zd_dX5_takePart_0 19 rfl rfl)
theorem zd_dX5_takePart_40 : sg (cX5_takePart.data.toList.drop 40) [[28], [182, 0, 214], [153, 0, 7], [4], [167, 0, 4], [3], [172], [28], [16, 18], [161, 0, 13], [28], [16, 24], [162, 0, 7], [4], [167, 0, 4], [3], [62], [28], [16, 25], [159, 0, 13]] = true := by decide +kernel
theorem dX5_takePart_40 : decode cX5_takePart 40 = .ok (.iload_n 2, 1) := dc_28 (sg_at zd_dX5_takePart_40 0 rfl rfl)
theorem dX5_takePart_41 : decode cX5_takePart 41 = .ok (.invokevirtual 214, 3) := dc_182 (sg_at zd_dX5_takePart_40 1 rfl rfl) rfl
theorem dX5_takePart_44 : decode cX5_takePart 44 = .ok (.ifCond .eq 7, 3) := dc_153 (sg_at zd_dX5_takePart_40 2 rfl rfl) rfl
theorem dX5_takePart_47 : decode cX5_takePart 47 = .ok (.iconst 1, 1) := dc_4 (sg_at zd_dX5_takePart_40 3 rfl rfl)
theorem dX5_takePart_48 : decode cX5_takePart 48 = .ok (.goto 4, 3) := dc_167 (sg_at zd_dX5_takePart_40 4 rfl rfl) rfl
theorem dX5_takePart_51 : decode cX5_takePart 51 = .ok (.iconst 0, 1) := dc_3 (sg_at zd_dX5_takePart_40 5 rfl rfl)
theorem dX5_takePart_52 : decode cX5_takePart 52 = .ok (.ireturn, 1) := dc_172 (sg_at zd_dX5_takePart_40 6 rfl rfl)
theorem dX5_takePart_53 : decode cX5_takePart 53 = .ok (.iload_n 2, 1) := dc_28 (sg_at zd_dX5_takePart_40 7 rfl rfl)
theorem dX5_takePart_54 : decode cX5_takePart 54 = .ok (.bipush 18, 2) := dc_16 (sg_at zd_dX5_takePart_40 8 rfl rfl) rfl
theorem dX5_takePart_56 : decode cX5_takePart 56 = .ok (.if_icmp .lt 13, 3) := dc_161 (sg_at zd_dX5_takePart_40 9 rfl rfl) rfl
theorem dX5_takePart_59 : decode cX5_takePart 59 = .ok (.iload_n 2, 1) := dc_28 (sg_at zd_dX5_takePart_40 10 rfl rfl)
theorem dX5_takePart_60 : decode cX5_takePart 60 = .ok (.bipush 24, 2) := dc_16 (sg_at zd_dX5_takePart_40 11 rfl rfl) rfl
theorem dX5_takePart_62 : decode cX5_takePart 62 = .ok (.if_icmp .ge 7, 3) := dc_162 (sg_at zd_dX5_takePart_40 12 rfl rfl) rfl
theorem dX5_takePart_65 : decode cX5_takePart 65 = .ok (.iconst 1, 1) := dc_4 (sg_at zd_dX5_takePart_40 13 rfl rfl)
theorem dX5_takePart_66 : decode cX5_takePart 66 = .ok (.goto 4, 3) := dc_167 (sg_at zd_dX5_takePart_40 14 rfl rfl) rfl
theorem dX5_takePart_69 : decode cX5_takePart 69 = .ok (.iconst 0, 1) := dc_3 (sg_at zd_dX5_takePart_40 15 rfl rfl)
theorem dX5_takePart_70 : decode cX5_takePart 70 = .ok (.istore_n 3, 1) := dc_62 (sg_at zd_dX5_takePart_40 16 rfl rfl)
theorem dX5_takePart_71 : decode cX5_takePart 71 = .ok (.iload_n 2, 1) := dc_28 (sg_at zd_dX5_takePart_40 17 rfl rfl)
theorem dX5_takePart_72 : decode cX5_takePart 72 = .ok (.bipush 25, 2) := dc_16 (sg_at zd_dX5_takePart_40 18 rfl rfl) rfl
theorem dX5_takePart_74 : decode cX5_takePart 74 = .ok (.if_icmp .eq 13, 3) := dc_159 (sg_at zd_dX5_takePart_40 19 rfl rfl) rfl
theorem zd_dX5_takePart_77 : sg (cX5_takePart.data.toList.drop 77) [[29], [154, 0, 9], [42], [4], [182, 0, 89], [172], [42], [180, 0, 18], [180, 0, 97], [17, 39, 15], [164, 0, 13], [29], [154, 0, 9], [42], [5], [182, 0, 89], [172], [42], [182, 0, 211], [154, 0, 5]] = true := by decide +kernel
theorem dX5_takePart_77 : decode cX5_takePart 77 = .ok (.iload_n 3, 1) := dc_29 (sg_at zd_dX5_takePart_77 0 rfl rfl)
theorem dX5_takePart_78 : decode cX5_takePart 78 = .ok (.ifCond .ne 9, 3) := dc_154 (sg_at zd_dX5_takePart_77 1 rfl rfl) rfl
theorem dX5_takePart_81 : decode cX5_takePart 81 = .ok (.aload_n 0, 1) := dc_42 (sg_at zd_dX5_takePart_77 2 rfl rfl)
theorem dX5_takePart_82 : decode cX5_takePart 82 = .ok (.iconst 1, 1) := dc_4 (sg_at zd_dX5_takePart_77 3 rfl rfl)
theorem dX5_takePart_83 : decode cX5_takePart 83 = .ok (.invokevirtual 89, 3) := dc_182 (sg_at zd_dX5_takePart_77 4 rfl rfl) rfl
theorem dX5_takePart_86 : decode cX5_takePart 86 = .ok (.ireturn, 1) := dc_172 (sg_at zd_dX5_takePart_77 5 rfl rfl)
theorem dX5_takePart_87 : decode cX5_takePart 87 = .ok (.aload_n 0, 1) := dc_42 (sg_at zd_dX5_takePart_77 6 rfl rfl)
theorem dX5_takePart_88 : decode cX5_takePart 88 = .ok (.getfield 18, 3) := dc_180 (sg_at zd_dX5_takePart_77 7 rfl rfl) rfl
theorem dX5_takePart_91 : decode cX5_takePart 91 = .ok (.getfield 97, 3) := dc_180 (sg_at zd_dX5_takePart_77 8 rfl rfl) rfl
theorem dX5_takePart_94 : decode cX5_takePart 94 = .ok (.sipush 9999, 3) := dc_17 (sg_at zd_dX5_takePart_77 9 rfl rfl) rfl
theorem dX5_takePart_97 : decode cX5_takePart 97 = .ok (.if_icmp .le 13, 3) := dc_164 (sg_at zd_dX5_takePart_77 10 rfl rfl) rfl
theorem dX5_takePart_100 : decode cX5_takePart 100 = .ok (.iload_n 3, 1) := dc_29 (sg_at zd_dX5_takePart_77 11 rfl rfl)
theorem dX5_takePart_101 : decode cX5_takePart 101 = .ok (.ifCond .ne 9, 3) := dc_154 (sg_at zd_dX5_takePart_77 12 rfl rfl) rfl
theorem dX5_takePart_104 : decode cX5_takePart 104 = .ok (.aload_n 0, 1) := dc_42 (sg_at zd_dX5_takePart_77 13 rfl rfl)
theorem dX5_takePart_105 : decode cX5_takePart 105 = .ok (.iconst 2, 1) := dc_5 (sg_at zd_dX5_takePart_77 14 rfl rfl)
theorem dX5_takePart_106 : decode cX5_takePart 106 = .ok (.invokevirtual 89, 3) := dc_182 (sg_at zd_dX5_takePart_77 15 rfl rfl) rfl
theorem dX5_takePart_109 : decode cX5_takePart 109 = .ok (.ireturn, 1) := dc_172 (sg_at zd_dX5_takePart_77 16 rfl rfl)
theorem dX5_takePart_110 : decode cX5_takePart 110 = .ok (.aload_n 0, 1) := dc_42 (sg_at zd_dX5_takePart_77 17 rfl rfl)
theorem dX5_takePart_111 : decode cX5_takePart 111 = .ok (.invokevirtual 211, 3) := dc_182 (sg_at zd_dX5_takePart_77 18 rfl rfl) rfl
theorem dX5_takePart_114 : decode cX5_takePart 114 = .ok (.ifCond .ne 5, 3) := dc_154 (sg_at zd_dX5_takePart_77 19 rfl rfl) rfl
theorem zd_dX5_takePart_117 : sg (cX5_takePart.data.toList.drop 117) [[3], [172], [43], [29], [153, 0, 11], [17, 39, 16], [28], [96], [167, 0, 10], [42], [180, 0, 18], [180, 0, 97], [182, 0, 217], [42], [3], [181, 0, 191], [4], [172]] = true := by decide +kernel
theorem dX5_takePart_117 : decode cX5_takePart 117 = .ok (.iconst 0, 1) := dc_3 (sg_at zd_dX5_takePart_117 0 rfl rfl)
theorem dX5_takePart_118 : decode cX5_takePart 118 = .ok (.ireturn, 1) := dc_172 (sg_at zd_dX5_takePart_117 1 rfl rfl)
theorem dX5_takePart_119 : decode cX5_takePart 119 = .ok (.aload_n 1, 1) := dc_43 (sg_at zd_dX5_takePart_117 2 rfl rfl)
theorem dX5_takePart_120 : decode cX5_takePart 120 = .ok (.iload_n 3, 1) := dc_29 (sg_at zd_dX5_takePart_117 3 rfl rfl)
theorem dX5_takePart_121 : decode cX5_takePart 121 = .ok (.ifCond .eq 11, 3) := dc_153 (sg_at zd_dX5_takePart_117 4 rfl rfl) rfl
theorem dX5_takePart_124 : decode cX5_takePart 124 = .ok (.sipush 10000, 3) := dc_17 (sg_at zd_dX5_takePart_117 5 rfl rfl) rfl
theorem dX5_takePart_127 : decode cX5_takePart 127 = .ok (.iload_n 2, 1) := dc_28 (sg_at zd_dX5_takePart_117 6 rfl rfl)
theorem dX5_takePart_128 : decode cX5_takePart 128 = .ok (.iadd, 1) := dc_96 (sg_at zd_dX5_takePart_117 7 rfl rfl)
theorem dX5_takePart_129 : decode cX5_takePart 129 = .ok (.goto 10, 3) := dc_167 (sg_at zd_dX5_takePart_117 8 rfl rfl) rfl
theorem dX5_takePart_132 : decode cX5_takePart 132 = .ok (.aload_n 0, 1) := dc_42 (sg_at zd_dX5_takePart_117 9 rfl rfl)
theorem dX5_takePart_133 : decode cX5_takePart 133 = .ok (.getfield 18, 3) := dc_180 (sg_at zd_dX5_takePart_117 10 rfl rfl) rfl
theorem dX5_takePart_136 : decode cX5_takePart 136 = .ok (.getfield 97, 3) := dc_180 (sg_at zd_dX5_takePart_117 11 rfl rfl) rfl
theorem dX5_takePart_139 : decode cX5_takePart 139 = .ok (.invokevirtual 217, 3) := dc_182 (sg_at zd_dX5_takePart_117 12 rfl rfl) rfl
theorem dX5_takePart_142 : decode cX5_takePart 142 = .ok (.aload_n 0, 1) := dc_42 (sg_at zd_dX5_takePart_117 13 rfl rfl)
theorem dX5_takePart_143 : decode cX5_takePart 143 = .ok (.iconst 0, 1) := dc_3 (sg_at zd_dX5_takePart_117 14 rfl rfl)
theorem dX5_takePart_144 : decode cX5_takePart 144 = .ok (.putfield 191, 3) := dc_181 (sg_at zd_dX5_takePart_117 15 rfl rfl) rfl
theorem dX5_takePart_147 : decode cX5_takePart 147 = .ok (.iconst 1, 1) := dc_4 (sg_at zd_dX5_takePart_117 16 rfl rfl)
theorem dX5_takePart_148 : decode cX5_takePart 148 = .ok (.ireturn, 1) := dc_172 (sg_at zd_dX5_takePart_117 17 rfl rfl)
theorem zd_dX5_takeClose_0 : sg (cX5_takeClose.data.toList.drop 0) [[42], [180, 0, 188], [154, 0, 9], [42], [4], [182, 0, 89], [172], [42], [43], [4], [182, 0, 197], [42], [89], [180, 0, 188], [4], [100], [181, 0, 188], [42], [180, 0, 185], [158, 0, 13]] = true := by decide +kernel
theorem dX5_takeClose_0 : decode cX5_takeClose 0 = .ok (.aload_n 0, 1) := dc_42 (sg_at zd_dX5_takeClose_0 0 rfl rfl)
theorem dX5_takeClose_1 : decode cX5_takeClose 1 = .ok (.getfield 188, 3) := dc_180 (sg_at zd_dX5_takeClose_0 1 rfl rfl) rfl
theorem dX5_takeClose_4 : decode cX5_takeClose 4 = .ok (.ifCond .ne 9, 3) := dc_154 (sg_at zd_dX5_takeClose_0 2 rfl rfl) rfl
theorem dX5_takeClose_7 : decode cX5_takeClose 7 = .ok (.aload_n 0, 1) := dc_42 (sg_at zd_dX5_takeClose_0 3 rfl rfl)
theorem dX5_takeClose_8 : decode cX5_takeClose 8 = .ok (.iconst 1, 1) := dc_4 (sg_at zd_dX5_takeClose_0 4 rfl rfl)
theorem dX5_takeClose_9 : decode cX5_takeClose 9 = .ok (.invokevirtual 89, 3) := dc_182 (sg_at zd_dX5_takeClose_0 5 rfl rfl) rfl
theorem dX5_takeClose_12 : decode cX5_takeClose 12 = .ok (.ireturn, 1) := dc_172 (sg_at zd_dX5_takeClose_0 6 rfl rfl)
theorem dX5_takeClose_13 : decode cX5_takeClose 13 = .ok (.aload_n 0, 1) := dc_42 (sg_at zd_dX5_takeClose_0 7 rfl rfl)
theorem dX5_takeClose_14 : decode cX5_takeClose 14 = .ok (.aload_n 1, 1) := dc_43 (sg_at zd_dX5_takeClose_0 8 rfl rfl)
theorem dX5_takeClose_15 : decode cX5_takeClose 15 = .ok (.iconst 1, 1) := dc_4 (sg_at zd_dX5_takeClose_0 9 rfl rfl)
theorem dX5_takeClose_16 : decode cX5_takeClose 16 = .ok (.invokevirtual 197, 3) := dc_182 (sg_at zd_dX5_takeClose_0 10 rfl rfl) rfl
theorem dX5_takeClose_19 : decode cX5_takeClose 19 = .ok (.aload_n 0, 1) := dc_42 (sg_at zd_dX5_takeClose_0 11 rfl rfl)
theorem dX5_takeClose_20 : decode cX5_takeClose 20 = .ok (.dup, 1) := dc_89 (sg_at zd_dX5_takeClose_0 12 rfl rfl)
theorem dX5_takeClose_21 : decode cX5_takeClose 21 = .ok (.getfield 188, 3) := dc_180 (sg_at zd_dX5_takeClose_0 13 rfl rfl) rfl
theorem dX5_takeClose_24 : decode cX5_takeClose 24 = .ok (.iconst 1, 1) := dc_4 (sg_at zd_dX5_takeClose_0 14 rfl rfl)
theorem dX5_takeClose_25 : decode cX5_takeClose 25 = .ok (.isub, 1) := dc_100 (sg_at zd_dX5_takeClose_0 15 rfl rfl)
theorem dX5_takeClose_26 : decode cX5_takeClose 26 = .ok (.putfield 188, 3) := dc_181 (sg_at zd_dX5_takeClose_0 16 rfl rfl) rfl
theorem dX5_takeClose_29 : decode cX5_takeClose 29 = .ok (.aload_n 0, 1) := dc_42 (sg_at zd_dX5_takeClose_0 17 rfl rfl)
theorem dX5_takeClose_30 : decode cX5_takeClose 30 = .ok (.getfield 185, 3) := dc_180 (sg_at zd_dX5_takeClose_0 18 rfl rfl) rfl
theorem dX5_takeClose_33 : decode cX5_takeClose 33 = .ok (.ifCond .le 13, 3) := dc_158 (sg_at zd_dX5_takeClose_0 19 rfl rfl) rfl
theorem zd_dX5_takeClose_36 : sg (cX5_takeClose.data.toList.drop 36) [[42], [89], [180, 0, 185], [4], [100], [181, 0, 185], [4], [172]] = true := by decide +kernel
theorem dX5_takeClose_36 : decode cX5_takeClose 36 = .ok (.aload_n 0, 1) := dc_42 (sg_at zd_dX5_takeClose_36 0 rfl rfl)
theorem dX5_takeClose_37 : decode cX5_takeClose 37 = .ok (.dup, 1) := dc_89 (sg_at zd_dX5_takeClose_36 1 rfl rfl)
theorem dX5_takeClose_38 : decode cX5_takeClose 38 = .ok (.getfield 185, 3) := dc_180 (sg_at zd_dX5_takeClose_36 2 rfl rfl) rfl
theorem dX5_takeClose_41 : decode cX5_takeClose 41 = .ok (.iconst 1, 1) := dc_4 (sg_at zd_dX5_takeClose_36 3 rfl rfl)
theorem dX5_takeClose_42 : decode cX5_takeClose 42 = .ok (.isub, 1) := dc_100 (sg_at zd_dX5_takeClose_36 4 rfl rfl)
theorem dX5_takeClose_43 : decode cX5_takeClose 43 = .ok (.putfield 185, 3) := dc_181 (sg_at zd_dX5_takeClose_36 5 rfl rfl) rfl
theorem dX5_takeClose_46 : decode cX5_takeClose 46 = .ok (.iconst 1, 1) := dc_4 (sg_at zd_dX5_takeClose_36 6 rfl rfl)
theorem dX5_takeClose_47 : decode cX5_takeClose 47 = .ok (.ireturn, 1) := dc_172 (sg_at zd_dX5_takeClose_36 7 rfl rfl)
theorem zd_dX5_waitsForLike_0 : sg (cX5_waitsForLike.data.toList.drop 0) [[42], [180, 0, 185], [158, 0, 29], [42], [180, 0, 22], [42], [180, 0, 185], [4], [100], [46], [184, 0, 223], [16, 28], [184, 0, 223], [160, 0, 7], [4], [167, 0, 4], [3], [172]] = true := by decide +kernel
theorem dX5_waitsForLike_0 : decode cX5_waitsForLike 0 = .ok (.aload_n 0, 1) := dc_42 (sg_at zd_dX5_waitsForLike_0 0 rfl rfl)
theorem dX5_waitsForLike_1 : decode cX5_waitsForLike 1 = .ok (.getfield 185, 3) := dc_180 (sg_at zd_dX5_waitsForLike_0 1 rfl rfl) rfl
theorem dX5_waitsForLike_4 : decode cX5_waitsForLike 4 = .ok (.ifCond .le 29, 3) := dc_158 (sg_at zd_dX5_waitsForLike_0 2 rfl rfl) rfl
theorem dX5_waitsForLike_7 : decode cX5_waitsForLike 7 = .ok (.aload_n 0, 1) := dc_42 (sg_at zd_dX5_waitsForLike_0 3 rfl rfl)
theorem dX5_waitsForLike_8 : decode cX5_waitsForLike 8 = .ok (.getfield 22, 3) := dc_180 (sg_at zd_dX5_waitsForLike_0 4 rfl rfl) rfl
theorem dX5_waitsForLike_11 : decode cX5_waitsForLike 11 = .ok (.aload_n 0, 1) := dc_42 (sg_at zd_dX5_waitsForLike_0 5 rfl rfl)
theorem dX5_waitsForLike_12 : decode cX5_waitsForLike 12 = .ok (.getfield 185, 3) := dc_180 (sg_at zd_dX5_waitsForLike_0 6 rfl rfl) rfl
theorem dX5_waitsForLike_15 : decode cX5_waitsForLike 15 = .ok (.iconst 1, 1) := dc_4 (sg_at zd_dX5_waitsForLike_0 7 rfl rfl)
theorem dX5_waitsForLike_16 : decode cX5_waitsForLike 16 = .ok (.isub, 1) := dc_100 (sg_at zd_dX5_waitsForLike_0 8 rfl rfl)
theorem dX5_waitsForLike_17 : decode cX5_waitsForLike 17 = .ok (.iaload, 1) := dc_46 (sg_at zd_dX5_waitsForLike_0 9 rfl rfl)
theorem dX5_waitsForLike_18 : decode cX5_waitsForLike 18 = .ok (.invokestatic 223, 3) := dc_184 (sg_at zd_dX5_waitsForLike_0 10 rfl rfl) rfl
theorem dX5_waitsForLike_21 : decode cX5_waitsForLike 21 = .ok (.bipush 28, 2) := dc_16 (sg_at zd_dX5_waitsForLike_0 11 rfl rfl) rfl
theorem dX5_waitsForLike_23 : decode cX5_waitsForLike 23 = .ok (.invokestatic 223, 3) := dc_184 (sg_at zd_dX5_waitsForLike_0 12 rfl rfl) rfl
theorem dX5_waitsForLike_26 : decode cX5_waitsForLike 26 = .ok (.if_icmp .ne 7, 3) := dc_160 (sg_at zd_dX5_waitsForLike_0 13 rfl rfl) rfl
theorem dX5_waitsForLike_29 : decode cX5_waitsForLike 29 = .ok (.iconst 1, 1) := dc_4 (sg_at zd_dX5_waitsForLike_0 14 rfl rfl)
theorem dX5_waitsForLike_30 : decode cX5_waitsForLike 30 = .ok (.goto 4, 3) := dc_167 (sg_at zd_dX5_waitsForLike_0 15 rfl rfl) rfl
theorem dX5_waitsForLike_33 : decode cX5_waitsForLike 33 = .ok (.iconst 0, 1) := dc_3 (sg_at zd_dX5_waitsForLike_0 16 rfl rfl)
theorem dX5_waitsForLike_34 : decode cX5_waitsForLike 34 = .ok (.ireturn, 1) := dc_172 (sg_at zd_dX5_waitsForLike_0 17 rfl rfl)
theorem zd_dX5_takeJoint_0 : sg (cX5_takeJoint.data.toList.drop 0) [[42], [180, 0, 18], [180, 0, 52], [61], [28], [16, 37], [160, 0, 9], [42], [43], [182, 0, 220], [172], [28], [184, 0, 223], [62], [29], [153, 0, 9], [28], [16, 15], [160, 0, 9], [42]] = true := by decide +kernel
theorem dX5_takeJoint_0 : decode cX5_takeJoint 0 = .ok (.aload_n 0, 1) := dc_42 (sg_at zd_dX5_takeJoint_0 0 rfl rfl)
theorem dX5_takeJoint_1 : decode cX5_takeJoint 1 = .ok (.getfield 18, 3) := dc_180 (sg_at zd_dX5_takeJoint_0 1 rfl rfl) rfl
theorem dX5_takeJoint_4 : decode cX5_takeJoint 4 = .ok (.getfield 52, 3) := dc_180 (sg_at zd_dX5_takeJoint_0 2 rfl rfl) rfl
theorem dX5_takeJoint_7 : decode cX5_takeJoint 7 = .ok (.istore_n 2, 1) := dc_61 (sg_at zd_dX5_takeJoint_0 3 rfl rfl)
theorem dX5_takeJoint_8 : decode cX5_takeJoint 8 = .ok (.iload_n 2, 1) := dc_28 (sg_at zd_dX5_takeJoint_0 4 rfl rfl)
theorem dX5_takeJoint_9 : decode cX5_takeJoint 9 = .ok (.bipush 37, 2) := dc_16 (sg_at zd_dX5_takeJoint_0 5 rfl rfl) rfl
theorem dX5_takeJoint_11 : decode cX5_takeJoint 11 = .ok (.if_icmp .ne 9, 3) := dc_160 (sg_at zd_dX5_takeJoint_0 6 rfl rfl) rfl
theorem dX5_takeJoint_14 : decode cX5_takeJoint 14 = .ok (.aload_n 0, 1) := dc_42 (sg_at zd_dX5_takeJoint_0 7 rfl rfl)
theorem dX5_takeJoint_15 : decode cX5_takeJoint 15 = .ok (.aload_n 1, 1) := dc_43 (sg_at zd_dX5_takeJoint_0 8 rfl rfl)
theorem dX5_takeJoint_16 : decode cX5_takeJoint 16 = .ok (.invokevirtual 220, 3) := dc_182 (sg_at zd_dX5_takeJoint_0 9 rfl rfl) rfl
theorem dX5_takeJoint_19 : decode cX5_takeJoint 19 = .ok (.ireturn, 1) := dc_172 (sg_at zd_dX5_takeJoint_0 10 rfl rfl)
theorem dX5_takeJoint_20 : decode cX5_takeJoint 20 = .ok (.iload_n 2, 1) := dc_28 (sg_at zd_dX5_takeJoint_0 11 rfl rfl)
theorem dX5_takeJoint_21 : decode cX5_takeJoint 21 = .ok (.invokestatic 223, 3) := dc_184 (sg_at zd_dX5_takeJoint_0 12 rfl rfl) rfl
theorem dX5_takeJoint_24 : decode cX5_takeJoint 24 = .ok (.istore_n 3, 1) := dc_62 (sg_at zd_dX5_takeJoint_0 13 rfl rfl)
theorem dX5_takeJoint_25 : decode cX5_takeJoint 25 = .ok (.iload_n 3, 1) := dc_29 (sg_at zd_dX5_takeJoint_0 14 rfl rfl)
theorem dX5_takeJoint_26 : decode cX5_takeJoint 26 = .ok (.ifCond .eq 9, 3) := dc_153 (sg_at zd_dX5_takeJoint_0 15 rfl rfl) rfl
theorem dX5_takeJoint_29 : decode cX5_takeJoint 29 = .ok (.iload_n 2, 1) := dc_28 (sg_at zd_dX5_takeJoint_0 16 rfl rfl)
theorem dX5_takeJoint_30 : decode cX5_takeJoint 30 = .ok (.bipush 15, 2) := dc_16 (sg_at zd_dX5_takeJoint_0 17 rfl rfl) rfl
theorem dX5_takeJoint_32 : decode cX5_takeJoint 32 = .ok (.if_icmp .ne 9, 3) := dc_160 (sg_at zd_dX5_takeJoint_0 18 rfl rfl) rfl
theorem dX5_takeJoint_35 : decode cX5_takeJoint 35 = .ok (.aload_n 0, 1) := dc_42 (sg_at zd_dX5_takeJoint_0 19 rfl rfl)
theorem zd_dX5_takeJoint_36 : sg (cX5_takeJoint.data.toList.drop 36) [[4], [182, 0, 89], [172], [29], [16, 28], [184, 0, 223], [160, 0, 7], [4], [167, 0, 4], [3], [54, 4], [42], [43], [21, 4], [153, 0, 9], [29], [4], [96], [167, 0, 4], [29]] = true := by decide +kernel
theorem dX5_takeJoint_36 : decode cX5_takeJoint 36 = .ok (.iconst 1, 1) := dc_4 (sg_at zd_dX5_takeJoint_36 0 rfl rfl)
theorem dX5_takeJoint_37 : decode cX5_takeJoint 37 = .ok (.invokevirtual 89, 3) := dc_182 (sg_at zd_dX5_takeJoint_36 1 rfl rfl) rfl
theorem dX5_takeJoint_40 : decode cX5_takeJoint 40 = .ok (.ireturn, 1) := dc_172 (sg_at zd_dX5_takeJoint_36 2 rfl rfl)
theorem dX5_takeJoint_41 : decode cX5_takeJoint 41 = .ok (.iload_n 3, 1) := dc_29 (sg_at zd_dX5_takeJoint_36 3 rfl rfl)
theorem dX5_takeJoint_42 : decode cX5_takeJoint 42 = .ok (.bipush 28, 2) := dc_16 (sg_at zd_dX5_takeJoint_36 4 rfl rfl) rfl
theorem dX5_takeJoint_44 : decode cX5_takeJoint 44 = .ok (.invokestatic 223, 3) := dc_184 (sg_at zd_dX5_takeJoint_36 5 rfl rfl) rfl
theorem dX5_takeJoint_47 : decode cX5_takeJoint 47 = .ok (.if_icmp .ne 7, 3) := dc_160 (sg_at zd_dX5_takeJoint_36 6 rfl rfl) rfl
theorem dX5_takeJoint_50 : decode cX5_takeJoint 50 = .ok (.iconst 1, 1) := dc_4 (sg_at zd_dX5_takeJoint_36 7 rfl rfl)
theorem dX5_takeJoint_51 : decode cX5_takeJoint 51 = .ok (.goto 4, 3) := dc_167 (sg_at zd_dX5_takeJoint_36 8 rfl rfl) rfl
theorem dX5_takeJoint_54 : decode cX5_takeJoint 54 = .ok (.iconst 0, 1) := dc_3 (sg_at zd_dX5_takeJoint_36 9 rfl rfl)
theorem dX5_takeJoint_55 : decode cX5_takeJoint 55 = .ok (.istore 4, 2) := dc_54 (sg_at zd_dX5_takeJoint_36 10 rfl rfl)
theorem dX5_takeJoint_57 : decode cX5_takeJoint 57 = .ok (.aload_n 0, 1) := dc_42 (sg_at zd_dX5_takeJoint_36 11 rfl rfl)
theorem dX5_takeJoint_58 : decode cX5_takeJoint 58 = .ok (.aload_n 1, 1) := dc_43 (sg_at zd_dX5_takeJoint_36 12 rfl rfl)
theorem dX5_takeJoint_59 : decode cX5_takeJoint 59 = .ok (.iload 4, 2) := dc_21 (sg_at zd_dX5_takeJoint_36 13 rfl rfl)
theorem dX5_takeJoint_61 : decode cX5_takeJoint 61 = .ok (.ifCond .eq 9, 3) := dc_153 (sg_at zd_dX5_takeJoint_36 14 rfl rfl) rfl
theorem dX5_takeJoint_64 : decode cX5_takeJoint 64 = .ok (.iload_n 3, 1) := dc_29 (sg_at zd_dX5_takeJoint_36 15 rfl rfl)
theorem dX5_takeJoint_65 : decode cX5_takeJoint 65 = .ok (.iconst 1, 1) := dc_4 (sg_at zd_dX5_takeJoint_36 16 rfl rfl)
theorem dX5_takeJoint_66 : decode cX5_takeJoint 66 = .ok (.iadd, 1) := dc_96 (sg_at zd_dX5_takeJoint_36 17 rfl rfl)
theorem dX5_takeJoint_67 : decode cX5_takeJoint 67 = .ok (.goto 4, 3) := dc_167 (sg_at zd_dX5_takeJoint_36 18 rfl rfl) rfl
theorem dX5_takeJoint_70 : decode cX5_takeJoint 70 = .ok (.iload_n 3, 1) := dc_29 (sg_at zd_dX5_takeJoint_36 19 rfl rfl)
theorem zd_dX5_takeJoint_71 : sg (cX5_takeJoint.data.toList.drop 71) [[182, 0, 197], [21, 4], [153, 0, 16], [42], [182, 0, 226], [153, 0, 9], [42], [4], [182, 0, 89], [172], [42], [4], [181, 0, 191], [42], [28], [16, 16], [159, 0, 9], [28], [16, 17], [160, 0, 7]] = true := by decide +kernel
theorem dX5_takeJoint_71 : decode cX5_takeJoint 71 = .ok (.invokevirtual 197, 3) := dc_182 (sg_at zd_dX5_takeJoint_71 0 rfl rfl) rfl
theorem dX5_takeJoint_74 : decode cX5_takeJoint 74 = .ok (.iload 4, 2) := dc_21 (sg_at zd_dX5_takeJoint_71 1 rfl rfl)
theorem dX5_takeJoint_76 : decode cX5_takeJoint 76 = .ok (.ifCond .eq 16, 3) := dc_153 (sg_at zd_dX5_takeJoint_71 2 rfl rfl) rfl
theorem dX5_takeJoint_79 : decode cX5_takeJoint 79 = .ok (.aload_n 0, 1) := dc_42 (sg_at zd_dX5_takeJoint_71 3 rfl rfl)
theorem dX5_takeJoint_80 : decode cX5_takeJoint 80 = .ok (.invokevirtual 226, 3) := dc_182 (sg_at zd_dX5_takeJoint_71 4 rfl rfl) rfl
theorem dX5_takeJoint_83 : decode cX5_takeJoint 83 = .ok (.ifCond .eq 9, 3) := dc_153 (sg_at zd_dX5_takeJoint_71 5 rfl rfl) rfl
theorem dX5_takeJoint_86 : decode cX5_takeJoint 86 = .ok (.aload_n 0, 1) := dc_42 (sg_at zd_dX5_takeJoint_71 6 rfl rfl)
theorem dX5_takeJoint_87 : decode cX5_takeJoint 87 = .ok (.iconst 1, 1) := dc_4 (sg_at zd_dX5_takeJoint_71 7 rfl rfl)
theorem dX5_takeJoint_88 : decode cX5_takeJoint 88 = .ok (.invokevirtual 89, 3) := dc_182 (sg_at zd_dX5_takeJoint_71 8 rfl rfl) rfl
theorem dX5_takeJoint_91 : decode cX5_takeJoint 91 = .ok (.ireturn, 1) := dc_172 (sg_at zd_dX5_takeJoint_71 9 rfl rfl)
theorem dX5_takeJoint_92 : decode cX5_takeJoint 92 = .ok (.aload_n 0, 1) := dc_42 (sg_at zd_dX5_takeJoint_71 10 rfl rfl)
theorem dX5_takeJoint_93 : decode cX5_takeJoint 93 = .ok (.iconst 1, 1) := dc_4 (sg_at zd_dX5_takeJoint_71 11 rfl rfl)
theorem dX5_takeJoint_94 : decode cX5_takeJoint 94 = .ok (.putfield 191, 3) := dc_181 (sg_at zd_dX5_takeJoint_71 12 rfl rfl) rfl
theorem dX5_takeJoint_97 : decode cX5_takeJoint 97 = .ok (.aload_n 0, 1) := dc_42 (sg_at zd_dX5_takeJoint_71 13 rfl rfl)
theorem dX5_takeJoint_98 : decode cX5_takeJoint 98 = .ok (.iload_n 2, 1) := dc_28 (sg_at zd_dX5_takeJoint_71 14 rfl rfl)
theorem dX5_takeJoint_99 : decode cX5_takeJoint 99 = .ok (.bipush 16, 2) := dc_16 (sg_at zd_dX5_takeJoint_71 15 rfl rfl) rfl
theorem dX5_takeJoint_101 : decode cX5_takeJoint 101 = .ok (.if_icmp .eq 9, 3) := dc_159 (sg_at zd_dX5_takeJoint_71 16 rfl rfl) rfl
theorem dX5_takeJoint_104 : decode cX5_takeJoint 104 = .ok (.iload_n 2, 1) := dc_28 (sg_at zd_dX5_takeJoint_71 17 rfl rfl)
theorem dX5_takeJoint_105 : decode cX5_takeJoint 105 = .ok (.bipush 17, 2) := dc_16 (sg_at zd_dX5_takeJoint_71 18 rfl rfl) rfl
theorem dX5_takeJoint_107 : decode cX5_takeJoint 107 = .ok (.if_icmp .ne 7, 3) := dc_160 (sg_at zd_dX5_takeJoint_71 19 rfl rfl) rfl
theorem zd_dX5_takeJoint_110 : sg (cX5_takeJoint.data.toList.drop 110) [[4], [167, 0, 4], [3], [181, 0, 194], [42], [182, 0, 211], [153, 0, 15], [42], [28], [182, 0, 214], [153, 0, 7], [4], [167, 0, 4], [3], [172]] = true := by decide +kernel
theorem dX5_takeJoint_110 : decode cX5_takeJoint 110 = .ok (.iconst 1, 1) := dc_4 (sg_at zd_dX5_takeJoint_110 0 rfl rfl)
theorem dX5_takeJoint_111 : decode cX5_takeJoint 111 = .ok (.goto 4, 3) := dc_167 (sg_at zd_dX5_takeJoint_110 1 rfl rfl) rfl
theorem dX5_takeJoint_114 : decode cX5_takeJoint 114 = .ok (.iconst 0, 1) := dc_3 (sg_at zd_dX5_takeJoint_110 2 rfl rfl)
theorem dX5_takeJoint_115 : decode cX5_takeJoint 115 = .ok (.putfield 194, 3) := dc_181 (sg_at zd_dX5_takeJoint_110 3 rfl rfl) rfl
theorem dX5_takeJoint_118 : decode cX5_takeJoint 118 = .ok (.aload_n 0, 1) := dc_42 (sg_at zd_dX5_takeJoint_110 4 rfl rfl)
theorem dX5_takeJoint_119 : decode cX5_takeJoint 119 = .ok (.invokevirtual 211, 3) := dc_182 (sg_at zd_dX5_takeJoint_110 5 rfl rfl) rfl
theorem dX5_takeJoint_122 : decode cX5_takeJoint 122 = .ok (.ifCond .eq 15, 3) := dc_153 (sg_at zd_dX5_takeJoint_110 6 rfl rfl) rfl
theorem dX5_takeJoint_125 : decode cX5_takeJoint 125 = .ok (.aload_n 0, 1) := dc_42 (sg_at zd_dX5_takeJoint_110 7 rfl rfl)
theorem dX5_takeJoint_126 : decode cX5_takeJoint 126 = .ok (.iload_n 2, 1) := dc_28 (sg_at zd_dX5_takeJoint_110 8 rfl rfl)
theorem dX5_takeJoint_127 : decode cX5_takeJoint 127 = .ok (.invokevirtual 214, 3) := dc_182 (sg_at zd_dX5_takeJoint_110 9 rfl rfl) rfl
theorem dX5_takeJoint_130 : decode cX5_takeJoint 130 = .ok (.ifCond .eq 7, 3) := dc_153 (sg_at zd_dX5_takeJoint_110 10 rfl rfl) rfl
theorem dX5_takeJoint_133 : decode cX5_takeJoint 133 = .ok (.iconst 1, 1) := dc_4 (sg_at zd_dX5_takeJoint_110 11 rfl rfl)
theorem dX5_takeJoint_134 : decode cX5_takeJoint 134 = .ok (.goto 4, 3) := dc_167 (sg_at zd_dX5_takeJoint_110 12 rfl rfl) rfl
theorem dX5_takeJoint_137 : decode cX5_takeJoint 137 = .ok (.iconst 0, 1) := dc_3 (sg_at zd_dX5_takeJoint_110 13 rfl rfl)
theorem dX5_takeJoint_138 : decode cX5_takeJoint 138 = .ok (.ireturn, 1) := dc_172 (sg_at zd_dX5_takeJoint_110 14 rfl rfl)
theorem zd_dX5_readLaw_0 : sg (cX5_readLaw.data.toList.drop 0) [[42], [182, 0, 181], [76], [43], [199, 0, 5], [3], [172], [42], [3], [181, 0, 185], [42], [3], [181, 0, 188], [42], [4], [181, 0, 191], [42], [4], [181, 0, 194], [3]] = true := by decide +kernel
theorem dX5_readLaw_0 : decode cX5_readLaw 0 = .ok (.aload_n 0, 1) := dc_42 (sg_at zd_dX5_readLaw_0 0 rfl rfl)
theorem dX5_readLaw_1 : decode cX5_readLaw 1 = .ok (.invokevirtual 181, 3) := dc_182 (sg_at zd_dX5_readLaw_0 1 rfl rfl) rfl
theorem dX5_readLaw_4 : decode cX5_readLaw 4 = .ok (.astore_n 1, 1) := dc_76 (sg_at zd_dX5_readLaw_0 2 rfl rfl)
theorem dX5_readLaw_5 : decode cX5_readLaw 5 = .ok (.aload_n 1, 1) := dc_43 (sg_at zd_dX5_readLaw_0 3 rfl rfl)
theorem dX5_readLaw_6 : decode cX5_readLaw 6 = .ok (.ifnonnull 5, 3) := dc_199 (sg_at zd_dX5_readLaw_0 4 rfl rfl) rfl
theorem dX5_readLaw_9 : decode cX5_readLaw 9 = .ok (.iconst 0, 1) := dc_3 (sg_at zd_dX5_readLaw_0 5 rfl rfl)
theorem dX5_readLaw_10 : decode cX5_readLaw 10 = .ok (.ireturn, 1) := dc_172 (sg_at zd_dX5_readLaw_0 6 rfl rfl)
theorem dX5_readLaw_11 : decode cX5_readLaw 11 = .ok (.aload_n 0, 1) := dc_42 (sg_at zd_dX5_readLaw_0 7 rfl rfl)
theorem dX5_readLaw_12 : decode cX5_readLaw 12 = .ok (.iconst 0, 1) := dc_3 (sg_at zd_dX5_readLaw_0 8 rfl rfl)
theorem dX5_readLaw_13 : decode cX5_readLaw 13 = .ok (.putfield 185, 3) := dc_181 (sg_at zd_dX5_readLaw_0 9 rfl rfl) rfl
theorem dX5_readLaw_16 : decode cX5_readLaw 16 = .ok (.aload_n 0, 1) := dc_42 (sg_at zd_dX5_readLaw_0 10 rfl rfl)
theorem dX5_readLaw_17 : decode cX5_readLaw 17 = .ok (.iconst 0, 1) := dc_3 (sg_at zd_dX5_readLaw_0 11 rfl rfl)
theorem dX5_readLaw_18 : decode cX5_readLaw 18 = .ok (.putfield 188, 3) := dc_181 (sg_at zd_dX5_readLaw_0 12 rfl rfl) rfl
theorem dX5_readLaw_21 : decode cX5_readLaw 21 = .ok (.aload_n 0, 1) := dc_42 (sg_at zd_dX5_readLaw_0 13 rfl rfl)
theorem dX5_readLaw_22 : decode cX5_readLaw 22 = .ok (.iconst 1, 1) := dc_4 (sg_at zd_dX5_readLaw_0 14 rfl rfl)
theorem dX5_readLaw_23 : decode cX5_readLaw 23 = .ok (.putfield 191, 3) := dc_181 (sg_at zd_dX5_readLaw_0 15 rfl rfl) rfl
theorem dX5_readLaw_26 : decode cX5_readLaw 26 = .ok (.aload_n 0, 1) := dc_42 (sg_at zd_dX5_readLaw_0 16 rfl rfl)
theorem dX5_readLaw_27 : decode cX5_readLaw 27 = .ok (.iconst 1, 1) := dc_4 (sg_at zd_dX5_readLaw_0 17 rfl rfl)
theorem dX5_readLaw_28 : decode cX5_readLaw 28 = .ok (.putfield 194, 3) := dc_181 (sg_at zd_dX5_readLaw_0 18 rfl rfl) rfl
theorem dX5_readLaw_31 : decode cX5_readLaw 31 = .ok (.iconst 0, 1) := dc_3 (sg_at zd_dX5_readLaw_0 19 rfl rfl)
theorem zd_dX5_readLaw_32 : sg (cX5_readLaw.data.toList.drop 32) [[61], [28], [17, 2, 188], [163, 0, 78], [42], [180, 0, 18], [182, 0, 49], [42], [180, 0, 191], [154, 0, 30], [42], [180, 0, 188], [154, 0, 23], [42], [180, 0, 18], [180, 0, 52], [16, 38], [160, 0, 11], [42], [43]] = true := by decide +kernel
theorem dX5_readLaw_32 : decode cX5_readLaw 32 = .ok (.istore_n 2, 1) := dc_61 (sg_at zd_dX5_readLaw_32 0 rfl rfl)
theorem dX5_readLaw_33 : decode cX5_readLaw 33 = .ok (.iload_n 2, 1) := dc_28 (sg_at zd_dX5_readLaw_32 1 rfl rfl)
theorem dX5_readLaw_34 : decode cX5_readLaw 34 = .ok (.sipush 700, 3) := dc_17 (sg_at zd_dX5_readLaw_32 2 rfl rfl) rfl
theorem dX5_readLaw_37 : decode cX5_readLaw 37 = .ok (.if_icmp .gt 78, 3) := dc_163 (sg_at zd_dX5_readLaw_32 3 rfl rfl) rfl
theorem dX5_readLaw_40 : decode cX5_readLaw 40 = .ok (.aload_n 0, 1) := dc_42 (sg_at zd_dX5_readLaw_32 4 rfl rfl)
theorem dX5_readLaw_41 : decode cX5_readLaw 41 = .ok (.getfield 18, 3) := dc_180 (sg_at zd_dX5_readLaw_32 5 rfl rfl) rfl
theorem dX5_readLaw_44 : decode cX5_readLaw 44 = .ok (.invokevirtual 49, 3) := dc_182 (sg_at zd_dX5_readLaw_32 6 rfl rfl) rfl
theorem dX5_readLaw_47 : decode cX5_readLaw 47 = .ok (.aload_n 0, 1) := dc_42 (sg_at zd_dX5_readLaw_32 7 rfl rfl)
theorem dX5_readLaw_48 : decode cX5_readLaw 48 = .ok (.getfield 191, 3) := dc_180 (sg_at zd_dX5_readLaw_32 8 rfl rfl) rfl
theorem dX5_readLaw_51 : decode cX5_readLaw 51 = .ok (.ifCond .ne 30, 3) := dc_154 (sg_at zd_dX5_readLaw_32 9 rfl rfl) rfl
theorem dX5_readLaw_54 : decode cX5_readLaw 54 = .ok (.aload_n 0, 1) := dc_42 (sg_at zd_dX5_readLaw_32 10 rfl rfl)
theorem dX5_readLaw_55 : decode cX5_readLaw 55 = .ok (.getfield 188, 3) := dc_180 (sg_at zd_dX5_readLaw_32 11 rfl rfl) rfl
theorem dX5_readLaw_58 : decode cX5_readLaw 58 = .ok (.ifCond .ne 23, 3) := dc_154 (sg_at zd_dX5_readLaw_32 12 rfl rfl) rfl
theorem dX5_readLaw_61 : decode cX5_readLaw 61 = .ok (.aload_n 0, 1) := dc_42 (sg_at zd_dX5_readLaw_32 13 rfl rfl)
theorem dX5_readLaw_62 : decode cX5_readLaw 62 = .ok (.getfield 18, 3) := dc_180 (sg_at zd_dX5_readLaw_32 14 rfl rfl) rfl
theorem dX5_readLaw_65 : decode cX5_readLaw 65 = .ok (.getfield 52, 3) := dc_180 (sg_at zd_dX5_readLaw_32 15 rfl rfl) rfl
theorem dX5_readLaw_68 : decode cX5_readLaw 68 = .ok (.bipush 38, 2) := dc_16 (sg_at zd_dX5_readLaw_32 16 rfl rfl) rfl
theorem dX5_readLaw_70 : decode cX5_readLaw 70 = .ok (.if_icmp .ne 11, 3) := dc_160 (sg_at zd_dX5_readLaw_32 17 rfl rfl) rfl
theorem dX5_readLaw_73 : decode cX5_readLaw 73 = .ok (.aload_n 0, 1) := dc_42 (sg_at zd_dX5_readLaw_32 18 rfl rfl)
theorem dX5_readLaw_74 : decode cX5_readLaw 74 = .ok (.aload_n 1, 1) := dc_43 (sg_at zd_dX5_readLaw_32 19 rfl rfl)
theorem zd_dX5_readLaw_75 : sg (cX5_readLaw.data.toList.drop 75) [[4], [182, 0, 197], [4], [172], [42], [180, 0, 191], [153, 0, 14], [42], [43], [182, 0, 201], [153, 0, 14], [167, 0, 13], [42], [43], [182, 0, 205], [154, 0, 5], [3], [172], [132, 2, 1], [167, 255, 177]] = true := by decide +kernel
theorem dX5_readLaw_75 : decode cX5_readLaw 75 = .ok (.iconst 1, 1) := dc_4 (sg_at zd_dX5_readLaw_75 0 rfl rfl)
theorem dX5_readLaw_76 : decode cX5_readLaw 76 = .ok (.invokevirtual 197, 3) := dc_182 (sg_at zd_dX5_readLaw_75 1 rfl rfl) rfl
theorem dX5_readLaw_79 : decode cX5_readLaw 79 = .ok (.iconst 1, 1) := dc_4 (sg_at zd_dX5_readLaw_75 2 rfl rfl)
theorem dX5_readLaw_80 : decode cX5_readLaw 80 = .ok (.ireturn, 1) := dc_172 (sg_at zd_dX5_readLaw_75 3 rfl rfl)
theorem dX5_readLaw_81 : decode cX5_readLaw 81 = .ok (.aload_n 0, 1) := dc_42 (sg_at zd_dX5_readLaw_75 4 rfl rfl)
theorem dX5_readLaw_82 : decode cX5_readLaw 82 = .ok (.getfield 191, 3) := dc_180 (sg_at zd_dX5_readLaw_75 5 rfl rfl) rfl
theorem dX5_readLaw_85 : decode cX5_readLaw 85 = .ok (.ifCond .eq 14, 3) := dc_153 (sg_at zd_dX5_readLaw_75 6 rfl rfl) rfl
theorem dX5_readLaw_88 : decode cX5_readLaw 88 = .ok (.aload_n 0, 1) := dc_42 (sg_at zd_dX5_readLaw_75 7 rfl rfl)
theorem dX5_readLaw_89 : decode cX5_readLaw 89 = .ok (.aload_n 1, 1) := dc_43 (sg_at zd_dX5_readLaw_75 8 rfl rfl)
theorem dX5_readLaw_90 : decode cX5_readLaw 90 = .ok (.invokevirtual 201, 3) := dc_182 (sg_at zd_dX5_readLaw_75 9 rfl rfl) rfl
theorem dX5_readLaw_93 : decode cX5_readLaw 93 = .ok (.ifCond .eq 14, 3) := dc_153 (sg_at zd_dX5_readLaw_75 10 rfl rfl) rfl
theorem dX5_readLaw_96 : decode cX5_readLaw 96 = .ok (.goto 13, 3) := dc_167 (sg_at zd_dX5_readLaw_75 11 rfl rfl) rfl
theorem dX5_readLaw_99 : decode cX5_readLaw 99 = .ok (.aload_n 0, 1) := dc_42 (sg_at zd_dX5_readLaw_75 12 rfl rfl)
theorem dX5_readLaw_100 : decode cX5_readLaw 100 = .ok (.aload_n 1, 1) := dc_43 (sg_at zd_dX5_readLaw_75 13 rfl rfl)
theorem dX5_readLaw_101 : decode cX5_readLaw 101 = .ok (.invokevirtual 205, 3) := dc_182 (sg_at zd_dX5_readLaw_75 14 rfl rfl) rfl
theorem dX5_readLaw_104 : decode cX5_readLaw 104 = .ok (.ifCond .ne 5, 3) := dc_154 (sg_at zd_dX5_readLaw_75 15 rfl rfl) rfl
theorem dX5_readLaw_107 : decode cX5_readLaw 107 = .ok (.iconst 0, 1) := dc_3 (sg_at zd_dX5_readLaw_75 16 rfl rfl)
theorem dX5_readLaw_108 : decode cX5_readLaw 108 = .ok (.ireturn, 1) := dc_172 (sg_at zd_dX5_readLaw_75 17 rfl rfl)
theorem dX5_readLaw_109 : decode cX5_readLaw 109 = .ok (.iinc 2 1, 3) := dc_132 (sg_at zd_dX5_readLaw_75 18 rfl rfl) rfl
theorem dX5_readLaw_112 : decode cX5_readLaw 112 = .ok (.goto (-79), 3) := dc_167 (sg_at zd_dX5_readLaw_75 19 rfl rfl) rfl
theorem zd_dX5_readLaw_115 : sg (cX5_readLaw.data.toList.drop 115) [[3], [172]] = true := by decide +kernel
theorem dX5_readLaw_115 : decode cX5_readLaw 115 = .ok (.iconst 0, 1) := dc_3 (sg_at zd_dX5_readLaw_115 0 rfl rfl)
theorem dX5_readLaw_116 : decode cX5_readLaw 116 = .ok (.ireturn, 1) := dc_172 (sg_at zd_dX5_readLaw_115 1 rfl rfl)
theorem zd_dX5_readLine_0 : sg (cX5_readLine.data.toList.drop 0) [[42], [180, 0, 18], [180, 0, 52]] = true := by decide +kernel
theorem dX5_readLine_0 : decode cX5_readLine 0 = .ok (.aload_n 0, 1) := dc_42 (sg_at zd_dX5_readLine_0 0 rfl rfl)
theorem dX5_readLine_1 : decode cX5_readLine 1 = .ok (.getfield 18, 3) := dc_180 (sg_at zd_dX5_readLine_0 1 rfl rfl) rfl
theorem dX5_readLine_4 : decode cX5_readLine 4 = .ok (.getfield 52, 3) := dc_180 (sg_at zd_dX5_readLine_0 2 rfl rfl) rfl
theorem dX5_readLine_7 : decode cX5_readLine 7 = .ok (.tableswitch 85 0 7 #[45, 50, 55, 60, 65, 70, 75, 80], 45) := by decide +kernel
theorem zd_dX5_readLine_52 : sg (cX5_readLine.data.toList.drop 52) [[42], [182, 0, 65], [172], [42], [182, 0, 68], [172], [42], [182, 0, 71], [172], [42], [182, 0, 74], [172], [42], [182, 0, 77], [172], [42], [182, 0, 80], [172], [42], [182, 0, 83]] = true := by decide +kernel
theorem dX5_readLine_52 : decode cX5_readLine 52 = .ok (.aload_n 0, 1) := dc_42 (sg_at zd_dX5_readLine_52 0 rfl rfl)
theorem dX5_readLine_53 : decode cX5_readLine 53 = .ok (.invokevirtual 65, 3) := dc_182 (sg_at zd_dX5_readLine_52 1 rfl rfl) rfl
theorem dX5_readLine_56 : decode cX5_readLine 56 = .ok (.ireturn, 1) := dc_172 (sg_at zd_dX5_readLine_52 2 rfl rfl)
theorem dX5_readLine_57 : decode cX5_readLine 57 = .ok (.aload_n 0, 1) := dc_42 (sg_at zd_dX5_readLine_52 3 rfl rfl)
theorem dX5_readLine_58 : decode cX5_readLine 58 = .ok (.invokevirtual 68, 3) := dc_182 (sg_at zd_dX5_readLine_52 4 rfl rfl) rfl
theorem dX5_readLine_61 : decode cX5_readLine 61 = .ok (.ireturn, 1) := dc_172 (sg_at zd_dX5_readLine_52 5 rfl rfl)
theorem dX5_readLine_62 : decode cX5_readLine 62 = .ok (.aload_n 0, 1) := dc_42 (sg_at zd_dX5_readLine_52 6 rfl rfl)
theorem dX5_readLine_63 : decode cX5_readLine 63 = .ok (.invokevirtual 71, 3) := dc_182 (sg_at zd_dX5_readLine_52 7 rfl rfl) rfl
theorem dX5_readLine_66 : decode cX5_readLine 66 = .ok (.ireturn, 1) := dc_172 (sg_at zd_dX5_readLine_52 8 rfl rfl)
theorem dX5_readLine_67 : decode cX5_readLine 67 = .ok (.aload_n 0, 1) := dc_42 (sg_at zd_dX5_readLine_52 9 rfl rfl)
theorem dX5_readLine_68 : decode cX5_readLine 68 = .ok (.invokevirtual 74, 3) := dc_182 (sg_at zd_dX5_readLine_52 10 rfl rfl) rfl
theorem dX5_readLine_71 : decode cX5_readLine 71 = .ok (.ireturn, 1) := dc_172 (sg_at zd_dX5_readLine_52 11 rfl rfl)
theorem dX5_readLine_72 : decode cX5_readLine 72 = .ok (.aload_n 0, 1) := dc_42 (sg_at zd_dX5_readLine_52 12 rfl rfl)
theorem dX5_readLine_73 : decode cX5_readLine 73 = .ok (.invokevirtual 77, 3) := dc_182 (sg_at zd_dX5_readLine_52 13 rfl rfl) rfl
theorem dX5_readLine_76 : decode cX5_readLine 76 = .ok (.ireturn, 1) := dc_172 (sg_at zd_dX5_readLine_52 14 rfl rfl)
theorem dX5_readLine_77 : decode cX5_readLine 77 = .ok (.aload_n 0, 1) := dc_42 (sg_at zd_dX5_readLine_52 15 rfl rfl)
theorem dX5_readLine_78 : decode cX5_readLine 78 = .ok (.invokevirtual 80, 3) := dc_182 (sg_at zd_dX5_readLine_52 16 rfl rfl) rfl
theorem dX5_readLine_81 : decode cX5_readLine 81 = .ok (.ireturn, 1) := dc_172 (sg_at zd_dX5_readLine_52 17 rfl rfl)
theorem dX5_readLine_82 : decode cX5_readLine 82 = .ok (.aload_n 0, 1) := dc_42 (sg_at zd_dX5_readLine_52 18 rfl rfl)
theorem dX5_readLine_83 : decode cX5_readLine 83 = .ok (.invokevirtual 83, 3) := dc_182 (sg_at zd_dX5_readLine_52 19 rfl rfl) rfl
theorem zd_dX5_readLine_86 : sg (cX5_readLine.data.toList.drop 86) [[172], [42], [182, 0, 86], [172], [42], [4], [182, 0, 89], [172]] = true := by decide +kernel
theorem dX5_readLine_86 : decode cX5_readLine 86 = .ok (.ireturn, 1) := dc_172 (sg_at zd_dX5_readLine_86 0 rfl rfl)
theorem dX5_readLine_87 : decode cX5_readLine 87 = .ok (.aload_n 0, 1) := dc_42 (sg_at zd_dX5_readLine_86 1 rfl rfl)
theorem dX5_readLine_88 : decode cX5_readLine 88 = .ok (.invokevirtual 86, 3) := dc_182 (sg_at zd_dX5_readLine_86 2 rfl rfl) rfl
theorem dX5_readLine_91 : decode cX5_readLine 91 = .ok (.ireturn, 1) := dc_172 (sg_at zd_dX5_readLine_86 3 rfl rfl)
theorem dX5_readLine_92 : decode cX5_readLine 92 = .ok (.aload_n 0, 1) := dc_42 (sg_at zd_dX5_readLine_86 4 rfl rfl)
theorem dX5_readLine_93 : decode cX5_readLine 93 = .ok (.iconst 1, 1) := dc_4 (sg_at zd_dX5_readLine_86 5 rfl rfl)
theorem dX5_readLine_94 : decode cX5_readLine 94 = .ok (.invokevirtual 89, 3) := dc_182 (sg_at zd_dX5_readLine_86 6 rfl rfl) rfl
theorem dX5_readLine_97 : decode cX5_readLine 97 = .ok (.ireturn, 1) := dc_172 (sg_at zd_dX5_readLine_86 7 rfl rfl)
theorem zd_dX5_readAll_0 : sg (cX5_readAll.data.toList.drop 0) [[42], [45], [181, 0, 9], [42], [180, 0, 9], [182, 0, 30], [42], [3], [181, 0, 35], [42], [2], [181, 0, 26], [42], [3], [181, 0, 38], [42], [3], [181, 0, 41], [42], [180, 0, 18]] = true := by decide +kernel
theorem dX5_readAll_0 : decode cX5_readAll 0 = .ok (.aload_n 0, 1) := dc_42 (sg_at zd_dX5_readAll_0 0 rfl rfl)
theorem dX5_readAll_1 : decode cX5_readAll 1 = .ok (.aload_n 3, 1) := dc_45 (sg_at zd_dX5_readAll_0 1 rfl rfl)
theorem dX5_readAll_2 : decode cX5_readAll 2 = .ok (.putfield 9, 3) := dc_181 (sg_at zd_dX5_readAll_0 2 rfl rfl) rfl
theorem dX5_readAll_5 : decode cX5_readAll 5 = .ok (.aload_n 0, 1) := dc_42 (sg_at zd_dX5_readAll_0 3 rfl rfl)
theorem dX5_readAll_6 : decode cX5_readAll 6 = .ok (.getfield 9, 3) := dc_180 (sg_at zd_dX5_readAll_0 4 rfl rfl) rfl
theorem dX5_readAll_9 : decode cX5_readAll 9 = .ok (.invokevirtual 30, 3) := dc_182 (sg_at zd_dX5_readAll_0 5 rfl rfl) rfl
theorem dX5_readAll_12 : decode cX5_readAll 12 = .ok (.aload_n 0, 1) := dc_42 (sg_at zd_dX5_readAll_0 6 rfl rfl)
theorem dX5_readAll_13 : decode cX5_readAll 13 = .ok (.iconst 0, 1) := dc_3 (sg_at zd_dX5_readAll_0 7 rfl rfl)
theorem dX5_readAll_14 : decode cX5_readAll 14 = .ok (.putfield 35, 3) := dc_181 (sg_at zd_dX5_readAll_0 8 rfl rfl) rfl
theorem dX5_readAll_17 : decode cX5_readAll 17 = .ok (.aload_n 0, 1) := dc_42 (sg_at zd_dX5_readAll_0 9 rfl rfl)
theorem dX5_readAll_18 : decode cX5_readAll 18 = .ok (.iconst (-1), 1) := dc_2 (sg_at zd_dX5_readAll_0 10 rfl rfl)
theorem dX5_readAll_19 : decode cX5_readAll 19 = .ok (.putfield 26, 3) := dc_181 (sg_at zd_dX5_readAll_0 11 rfl rfl) rfl
theorem dX5_readAll_22 : decode cX5_readAll 22 = .ok (.aload_n 0, 1) := dc_42 (sg_at zd_dX5_readAll_0 12 rfl rfl)
theorem dX5_readAll_23 : decode cX5_readAll 23 = .ok (.iconst 0, 1) := dc_3 (sg_at zd_dX5_readAll_0 13 rfl rfl)
theorem dX5_readAll_24 : decode cX5_readAll 24 = .ok (.putfield 38, 3) := dc_181 (sg_at zd_dX5_readAll_0 14 rfl rfl) rfl
theorem dX5_readAll_27 : decode cX5_readAll 27 = .ok (.aload_n 0, 1) := dc_42 (sg_at zd_dX5_readAll_0 15 rfl rfl)
theorem dX5_readAll_28 : decode cX5_readAll 28 = .ok (.iconst 0, 1) := dc_3 (sg_at zd_dX5_readAll_0 16 rfl rfl)
theorem dX5_readAll_29 : decode cX5_readAll 29 = .ok (.putfield 41, 3) := dc_181 (sg_at zd_dX5_readAll_0 17 rfl rfl) rfl
theorem dX5_readAll_32 : decode cX5_readAll 32 = .ok (.aload_n 0, 1) := dc_42 (sg_at zd_dX5_readAll_0 18 rfl rfl)
theorem dX5_readAll_33 : decode cX5_readAll 33 = .ok (.getfield 18, 3) := dc_180 (sg_at zd_dX5_readAll_0 19 rfl rfl) rfl
theorem zd_dX5_readAll_36 : sg (cX5_readAll.data.toList.drop 36) [[43], [28], [182, 0, 45], [3], [54, 4], [21, 4], [17, 2, 188], [163, 0, 52], [42], [180, 0, 18], [182, 0, 49], [42], [180, 0, 18], [180, 0, 52], [16, 39], [160, 0, 5], [4], [172], [42], [182, 0, 55]] = true := by decide +kernel
theorem dX5_readAll_36 : decode cX5_readAll 36 = .ok (.aload_n 1, 1) := dc_43 (sg_at zd_dX5_readAll_36 0 rfl rfl)
theorem dX5_readAll_37 : decode cX5_readAll 37 = .ok (.iload_n 2, 1) := dc_28 (sg_at zd_dX5_readAll_36 1 rfl rfl)
theorem dX5_readAll_38 : decode cX5_readAll 38 = .ok (.invokevirtual 45, 3) := dc_182 (sg_at zd_dX5_readAll_36 2 rfl rfl) rfl
theorem dX5_readAll_41 : decode cX5_readAll 41 = .ok (.iconst 0, 1) := dc_3 (sg_at zd_dX5_readAll_36 3 rfl rfl)
theorem dX5_readAll_42 : decode cX5_readAll 42 = .ok (.istore 4, 2) := dc_54 (sg_at zd_dX5_readAll_36 4 rfl rfl)
theorem dX5_readAll_44 : decode cX5_readAll 44 = .ok (.iload 4, 2) := dc_21 (sg_at zd_dX5_readAll_36 5 rfl rfl)
theorem dX5_readAll_46 : decode cX5_readAll 46 = .ok (.sipush 700, 3) := dc_17 (sg_at zd_dX5_readAll_36 6 rfl rfl) rfl
theorem dX5_readAll_49 : decode cX5_readAll 49 = .ok (.if_icmp .gt 52, 3) := dc_163 (sg_at zd_dX5_readAll_36 7 rfl rfl) rfl
theorem dX5_readAll_52 : decode cX5_readAll 52 = .ok (.aload_n 0, 1) := dc_42 (sg_at zd_dX5_readAll_36 8 rfl rfl)
theorem dX5_readAll_53 : decode cX5_readAll 53 = .ok (.getfield 18, 3) := dc_180 (sg_at zd_dX5_readAll_36 9 rfl rfl) rfl
theorem dX5_readAll_56 : decode cX5_readAll 56 = .ok (.invokevirtual 49, 3) := dc_182 (sg_at zd_dX5_readAll_36 10 rfl rfl) rfl
theorem dX5_readAll_59 : decode cX5_readAll 59 = .ok (.aload_n 0, 1) := dc_42 (sg_at zd_dX5_readAll_36 11 rfl rfl)
theorem dX5_readAll_60 : decode cX5_readAll 60 = .ok (.getfield 18, 3) := dc_180 (sg_at zd_dX5_readAll_36 12 rfl rfl) rfl
theorem dX5_readAll_63 : decode cX5_readAll 63 = .ok (.getfield 52, 3) := dc_180 (sg_at zd_dX5_readAll_36 13 rfl rfl) rfl
theorem dX5_readAll_66 : decode cX5_readAll 66 = .ok (.bipush 39, 2) := dc_16 (sg_at zd_dX5_readAll_36 14 rfl rfl) rfl
theorem dX5_readAll_68 : decode cX5_readAll 68 = .ok (.if_icmp .ne 5, 3) := dc_160 (sg_at zd_dX5_readAll_36 15 rfl rfl) rfl
theorem dX5_readAll_71 : decode cX5_readAll 71 = .ok (.iconst 1, 1) := dc_4 (sg_at zd_dX5_readAll_36 16 rfl rfl)
theorem dX5_readAll_72 : decode cX5_readAll 72 = .ok (.ireturn, 1) := dc_172 (sg_at zd_dX5_readAll_36 17 rfl rfl)
theorem dX5_readAll_73 : decode cX5_readAll 73 = .ok (.aload_n 0, 1) := dc_42 (sg_at zd_dX5_readAll_36 18 rfl rfl)
theorem dX5_readAll_74 : decode cX5_readAll 74 = .ok (.invokevirtual 55, 3) := dc_182 (sg_at zd_dX5_readAll_36 19 rfl rfl) rfl
theorem zd_dX5_readAll_77 : sg (cX5_readAll.data.toList.drop 77) [[154, 0, 5], [3], [172], [42], [180, 0, 9], [89], [180, 0, 59], [4], [96], [181, 0, 59], [132, 4, 1], [167, 255, 202], [4], [172]] = true := by decide +kernel
theorem dX5_readAll_77 : decode cX5_readAll 77 = .ok (.ifCond .ne 5, 3) := dc_154 (sg_at zd_dX5_readAll_77 0 rfl rfl) rfl
theorem dX5_readAll_80 : decode cX5_readAll 80 = .ok (.iconst 0, 1) := dc_3 (sg_at zd_dX5_readAll_77 1 rfl rfl)
theorem dX5_readAll_81 : decode cX5_readAll 81 = .ok (.ireturn, 1) := dc_172 (sg_at zd_dX5_readAll_77 2 rfl rfl)
theorem dX5_readAll_82 : decode cX5_readAll 82 = .ok (.aload_n 0, 1) := dc_42 (sg_at zd_dX5_readAll_77 3 rfl rfl)
theorem dX5_readAll_83 : decode cX5_readAll 83 = .ok (.getfield 9, 3) := dc_180 (sg_at zd_dX5_readAll_77 4 rfl rfl) rfl
theorem dX5_readAll_86 : decode cX5_readAll 86 = .ok (.dup, 1) := dc_89 (sg_at zd_dX5_readAll_77 5 rfl rfl)
theorem dX5_readAll_87 : decode cX5_readAll 87 = .ok (.getfield 59, 3) := dc_180 (sg_at zd_dX5_readAll_77 6 rfl rfl) rfl
theorem dX5_readAll_90 : decode cX5_readAll 90 = .ok (.iconst 1, 1) := dc_4 (sg_at zd_dX5_readAll_77 7 rfl rfl)
theorem dX5_readAll_91 : decode cX5_readAll 91 = .ok (.iadd, 1) := dc_96 (sg_at zd_dX5_readAll_77 8 rfl rfl)
theorem dX5_readAll_92 : decode cX5_readAll 92 = .ok (.putfield 59, 3) := dc_181 (sg_at zd_dX5_readAll_77 9 rfl rfl) rfl
theorem dX5_readAll_95 : decode cX5_readAll 95 = .ok (.iinc 4 1, 3) := dc_132 (sg_at zd_dX5_readAll_77 10 rfl rfl) rfl
theorem dX5_readAll_98 : decode cX5_readAll 98 = .ok (.goto (-54), 3) := dc_167 (sg_at zd_dX5_readAll_77 11 rfl rfl) rfl
theorem dX5_readAll_101 : decode cX5_readAll 101 = .ok (.iconst 1, 1) := dc_4 (sg_at zd_dX5_readAll_77 12 rfl rfl)
theorem dX5_readAll_102 : decode cX5_readAll 102 = .ok (.ireturn, 1) := dc_172 (sg_at zd_dX5_readAll_77 13 rfl rfl)
theorem zd_dX6_awayValue_0 : sg (cX6_awayValue.data.toList.drop 0) [[42], [27], [28], [182, 0, 118], [42], [180, 0, 9], [180, 0, 76], [5], [50], [42], [180, 0, 25], [42], [180, 0, 29], [182, 0, 80], [173]] = true := by decide +kernel
theorem dX6_awayValue_0 : decode cX6_awayValue 0 = .ok (.aload_n 0, 1) := dc_42 (sg_at zd_dX6_awayValue_0 0 rfl rfl)
theorem dX6_awayValue_1 : decode cX6_awayValue 1 = .ok (.iload_n 1, 1) := dc_27 (sg_at zd_dX6_awayValue_0 1 rfl rfl)
theorem dX6_awayValue_2 : decode cX6_awayValue 2 = .ok (.iload_n 2, 1) := dc_28 (sg_at zd_dX6_awayValue_0 2 rfl rfl)
theorem dX6_awayValue_3 : decode cX6_awayValue 3 = .ok (.invokevirtual 118, 3) := dc_182 (sg_at zd_dX6_awayValue_0 3 rfl rfl) rfl
theorem dX6_awayValue_6 : decode cX6_awayValue 6 = .ok (.aload_n 0, 1) := dc_42 (sg_at zd_dX6_awayValue_0 4 rfl rfl)
theorem dX6_awayValue_7 : decode cX6_awayValue 7 = .ok (.getfield 9, 3) := dc_180 (sg_at zd_dX6_awayValue_0 5 rfl rfl) rfl
theorem dX6_awayValue_10 : decode cX6_awayValue 10 = .ok (.getfield 76, 3) := dc_180 (sg_at zd_dX6_awayValue_0 6 rfl rfl) rfl
theorem dX6_awayValue_13 : decode cX6_awayValue 13 = .ok (.iconst 2, 1) := dc_5 (sg_at zd_dX6_awayValue_0 7 rfl rfl)
theorem dX6_awayValue_14 : decode cX6_awayValue 14 = .ok (.aaload, 1) := dc_50 (sg_at zd_dX6_awayValue_0 8 rfl rfl)
theorem dX6_awayValue_15 : decode cX6_awayValue 15 = .ok (.aload_n 0, 1) := dc_42 (sg_at zd_dX6_awayValue_0 9 rfl rfl)
theorem dX6_awayValue_16 : decode cX6_awayValue 16 = .ok (.getfield 25, 3) := dc_180 (sg_at zd_dX6_awayValue_0 10 rfl rfl) rfl
theorem dX6_awayValue_19 : decode cX6_awayValue 19 = .ok (.aload_n 0, 1) := dc_42 (sg_at zd_dX6_awayValue_0 11 rfl rfl)
theorem dX6_awayValue_20 : decode cX6_awayValue 20 = .ok (.getfield 29, 3) := dc_180 (sg_at zd_dX6_awayValue_0 12 rfl rfl) rfl
theorem dX6_awayValue_23 : decode cX6_awayValue 23 = .ok (.invokevirtual 80, 3) := dc_182 (sg_at zd_dX6_awayValue_0 13 rfl rfl) rfl
theorem dX6_awayValue_26 : decode cX6_awayValue 26 = .ok (.lreturn, 1) := dc_173 (sg_at zd_dX6_awayValue_0 14 rfl rfl)
theorem zd_dX6_hadOfSet_0 : sg (cX6_hadOfSet.data.toList.drop 0) [[3], [54, 4], [21, 4], [42], [180, 0, 9], [180, 0, 57], [180, 0, 61], [162, 0, 39], [42], [180, 0, 9], [180, 0, 57], [180, 0, 159], [21, 4], [46], [29], [160, 0, 16], [43], [180, 0, 166], [21, 4], [46]] = true := by decide +kernel
theorem dX6_hadOfSet_0 : decode cX6_hadOfSet 0 = .ok (.iconst 0, 1) := dc_3 (sg_at zd_dX6_hadOfSet_0 0 rfl rfl)
theorem dX6_hadOfSet_1 : decode cX6_hadOfSet 1 = .ok (.istore 4, 2) := dc_54 (sg_at zd_dX6_hadOfSet_0 1 rfl rfl)
theorem dX6_hadOfSet_3 : decode cX6_hadOfSet 3 = .ok (.iload 4, 2) := dc_21 (sg_at zd_dX6_hadOfSet_0 2 rfl rfl)
theorem dX6_hadOfSet_5 : decode cX6_hadOfSet 5 = .ok (.aload_n 0, 1) := dc_42 (sg_at zd_dX6_hadOfSet_0 3 rfl rfl)
theorem dX6_hadOfSet_6 : decode cX6_hadOfSet 6 = .ok (.getfield 9, 3) := dc_180 (sg_at zd_dX6_hadOfSet_0 4 rfl rfl) rfl
theorem dX6_hadOfSet_9 : decode cX6_hadOfSet 9 = .ok (.getfield 57, 3) := dc_180 (sg_at zd_dX6_hadOfSet_0 5 rfl rfl) rfl
theorem dX6_hadOfSet_12 : decode cX6_hadOfSet 12 = .ok (.getfield 61, 3) := dc_180 (sg_at zd_dX6_hadOfSet_0 6 rfl rfl) rfl
theorem dX6_hadOfSet_15 : decode cX6_hadOfSet 15 = .ok (.if_icmp .ge 39, 3) := dc_162 (sg_at zd_dX6_hadOfSet_0 7 rfl rfl) rfl
theorem dX6_hadOfSet_18 : decode cX6_hadOfSet 18 = .ok (.aload_n 0, 1) := dc_42 (sg_at zd_dX6_hadOfSet_0 8 rfl rfl)
theorem dX6_hadOfSet_19 : decode cX6_hadOfSet 19 = .ok (.getfield 9, 3) := dc_180 (sg_at zd_dX6_hadOfSet_0 9 rfl rfl) rfl
theorem dX6_hadOfSet_22 : decode cX6_hadOfSet 22 = .ok (.getfield 57, 3) := dc_180 (sg_at zd_dX6_hadOfSet_0 10 rfl rfl) rfl
theorem dX6_hadOfSet_25 : decode cX6_hadOfSet 25 = .ok (.getfield 159, 3) := dc_180 (sg_at zd_dX6_hadOfSet_0 11 rfl rfl) rfl
theorem dX6_hadOfSet_28 : decode cX6_hadOfSet 28 = .ok (.iload 4, 2) := dc_21 (sg_at zd_dX6_hadOfSet_0 12 rfl rfl)
theorem dX6_hadOfSet_30 : decode cX6_hadOfSet 30 = .ok (.iaload, 1) := dc_46 (sg_at zd_dX6_hadOfSet_0 13 rfl rfl)
theorem dX6_hadOfSet_31 : decode cX6_hadOfSet 31 = .ok (.iload_n 3, 1) := dc_29 (sg_at zd_dX6_hadOfSet_0 14 rfl rfl)
theorem dX6_hadOfSet_32 : decode cX6_hadOfSet 32 = .ok (.if_icmp .ne 16, 3) := dc_160 (sg_at zd_dX6_hadOfSet_0 15 rfl rfl) rfl
theorem dX6_hadOfSet_35 : decode cX6_hadOfSet 35 = .ok (.aload_n 1, 1) := dc_43 (sg_at zd_dX6_hadOfSet_0 16 rfl rfl)
theorem dX6_hadOfSet_36 : decode cX6_hadOfSet 36 = .ok (.getfield 166, 3) := dc_180 (sg_at zd_dX6_hadOfSet_0 17 rfl rfl) rfl
theorem dX6_hadOfSet_39 : decode cX6_hadOfSet 39 = .ok (.iload 4, 2) := dc_21 (sg_at zd_dX6_hadOfSet_0 18 rfl rfl)
theorem dX6_hadOfSet_41 : decode cX6_hadOfSet 41 = .ok (.iaload, 1) := dc_46 (sg_at zd_dX6_hadOfSet_0 19 rfl rfl)
theorem zd_dX6_hadOfSet_42 : sg (cX6_hadOfSet.data.toList.drop 42) [[28], [160, 0, 5], [4], [172], [132, 4, 1], [167, 255, 208], [3], [172]] = true := by decide +kernel
theorem dX6_hadOfSet_42 : decode cX6_hadOfSet 42 = .ok (.iload_n 2, 1) := dc_28 (sg_at zd_dX6_hadOfSet_42 0 rfl rfl)
theorem dX6_hadOfSet_43 : decode cX6_hadOfSet 43 = .ok (.if_icmp .ne 5, 3) := dc_160 (sg_at zd_dX6_hadOfSet_42 1 rfl rfl) rfl
theorem dX6_hadOfSet_46 : decode cX6_hadOfSet 46 = .ok (.iconst 1, 1) := dc_4 (sg_at zd_dX6_hadOfSet_42 2 rfl rfl)
theorem dX6_hadOfSet_47 : decode cX6_hadOfSet 47 = .ok (.ireturn, 1) := dc_172 (sg_at zd_dX6_hadOfSet_42 3 rfl rfl)
theorem dX6_hadOfSet_48 : decode cX6_hadOfSet 48 = .ok (.iinc 4 1, 3) := dc_132 (sg_at zd_dX6_hadOfSet_42 4 rfl rfl) rfl
theorem dX6_hadOfSet_51 : decode cX6_hadOfSet 51 = .ok (.goto (-48), 3) := dc_167 (sg_at zd_dX6_hadOfSet_42 5 rfl rfl) rfl
theorem dX6_hadOfSet_54 : decode cX6_hadOfSet 54 = .ok (.iconst 0, 1) := dc_3 (sg_at zd_dX6_hadOfSet_42 6 rfl rfl)
theorem dX6_hadOfSet_55 : decode cX6_hadOfSet 55 = .ok (.ireturn, 1) := dc_172 (sg_at zd_dX6_hadOfSet_42 7 rfl rfl)
theorem zd_dX6_keyFor_0 : sg (cX6_keyFor.data.toList.drop 0) [[42], [43], [180, 0, 148], [28], [46], [29], [182, 0, 132], [54, 4], [43], [180, 0, 153]] = true := by decide +kernel
theorem dX6_keyFor_0 : decode cX6_keyFor 0 = .ok (.aload_n 0, 1) := dc_42 (sg_at zd_dX6_keyFor_0 0 rfl rfl)
theorem dX6_keyFor_1 : decode cX6_keyFor 1 = .ok (.aload_n 1, 1) := dc_43 (sg_at zd_dX6_keyFor_0 1 rfl rfl)
theorem dX6_keyFor_2 : decode cX6_keyFor 2 = .ok (.getfield 148, 3) := dc_180 (sg_at zd_dX6_keyFor_0 2 rfl rfl) rfl
theorem dX6_keyFor_5 : decode cX6_keyFor 5 = .ok (.iload_n 2, 1) := dc_28 (sg_at zd_dX6_keyFor_0 3 rfl rfl)
theorem dX6_keyFor_6 : decode cX6_keyFor 6 = .ok (.iaload, 1) := dc_46 (sg_at zd_dX6_keyFor_0 4 rfl rfl)
theorem dX6_keyFor_7 : decode cX6_keyFor 7 = .ok (.iload_n 3, 1) := dc_29 (sg_at zd_dX6_keyFor_0 5 rfl rfl)
theorem dX6_keyFor_8 : decode cX6_keyFor 8 = .ok (.invokevirtual 132, 3) := dc_182 (sg_at zd_dX6_keyFor_0 6 rfl rfl) rfl
theorem dX6_keyFor_11 : decode cX6_keyFor 11 = .ok (.istore 4, 2) := dc_54 (sg_at zd_dX6_keyFor_0 7 rfl rfl)
theorem dX6_keyFor_13 : decode cX6_keyFor 13 = .ok (.aload_n 1, 1) := dc_43 (sg_at zd_dX6_keyFor_0 8 rfl rfl)
theorem dX6_keyFor_14 : decode cX6_keyFor 14 = .ok (.getfield 153, 3) := dc_180 (sg_at zd_dX6_keyFor_0 9 rfl rfl) rfl
theorem dX6_keyFor_17 : decode cX6_keyFor 17 = .ok (.tableswitch 81 1 3 #[27, 34, 66], 27) := by decide +kernel
theorem zd_dX6_keyFor_44 : sg (cX6_keyFor.data.toList.drop 44) [[43], [180, 0, 156], [28], [46], [172], [42], [43], [28], [42], [180, 0, 9], [180, 0, 57], [180, 0, 159], [29], [46], [182, 0, 162], [153, 0, 11], [16, 100], [21, 4], [96], [167, 0, 5]] = true := by decide +kernel
theorem dX6_keyFor_44 : decode cX6_keyFor 44 = .ok (.aload_n 1, 1) := dc_43 (sg_at zd_dX6_keyFor_44 0 rfl rfl)
theorem dX6_keyFor_45 : decode cX6_keyFor 45 = .ok (.getfield 156, 3) := dc_180 (sg_at zd_dX6_keyFor_44 1 rfl rfl) rfl
theorem dX6_keyFor_48 : decode cX6_keyFor 48 = .ok (.iload_n 2, 1) := dc_28 (sg_at zd_dX6_keyFor_44 2 rfl rfl)
theorem dX6_keyFor_49 : decode cX6_keyFor 49 = .ok (.iaload, 1) := dc_46 (sg_at zd_dX6_keyFor_44 3 rfl rfl)
theorem dX6_keyFor_50 : decode cX6_keyFor 50 = .ok (.ireturn, 1) := dc_172 (sg_at zd_dX6_keyFor_44 4 rfl rfl)
theorem dX6_keyFor_51 : decode cX6_keyFor 51 = .ok (.aload_n 0, 1) := dc_42 (sg_at zd_dX6_keyFor_44 5 rfl rfl)
theorem dX6_keyFor_52 : decode cX6_keyFor 52 = .ok (.aload_n 1, 1) := dc_43 (sg_at zd_dX6_keyFor_44 6 rfl rfl)
theorem dX6_keyFor_53 : decode cX6_keyFor 53 = .ok (.iload_n 2, 1) := dc_28 (sg_at zd_dX6_keyFor_44 7 rfl rfl)
theorem dX6_keyFor_54 : decode cX6_keyFor 54 = .ok (.aload_n 0, 1) := dc_42 (sg_at zd_dX6_keyFor_44 8 rfl rfl)
theorem dX6_keyFor_55 : decode cX6_keyFor 55 = .ok (.getfield 9, 3) := dc_180 (sg_at zd_dX6_keyFor_44 9 rfl rfl) rfl
theorem dX6_keyFor_58 : decode cX6_keyFor 58 = .ok (.getfield 57, 3) := dc_180 (sg_at zd_dX6_keyFor_44 10 rfl rfl) rfl
theorem dX6_keyFor_61 : decode cX6_keyFor 61 = .ok (.getfield 159, 3) := dc_180 (sg_at zd_dX6_keyFor_44 11 rfl rfl) rfl
theorem dX6_keyFor_64 : decode cX6_keyFor 64 = .ok (.iload_n 3, 1) := dc_29 (sg_at zd_dX6_keyFor_44 12 rfl rfl)
theorem dX6_keyFor_65 : decode cX6_keyFor 65 = .ok (.iaload, 1) := dc_46 (sg_at zd_dX6_keyFor_44 13 rfl rfl)
theorem dX6_keyFor_66 : decode cX6_keyFor 66 = .ok (.invokevirtual 162, 3) := dc_182 (sg_at zd_dX6_keyFor_44 14 rfl rfl) rfl
theorem dX6_keyFor_69 : decode cX6_keyFor 69 = .ok (.ifCond .eq 11, 3) := dc_153 (sg_at zd_dX6_keyFor_44 15 rfl rfl) rfl
theorem dX6_keyFor_72 : decode cX6_keyFor 72 = .ok (.bipush 100, 2) := dc_16 (sg_at zd_dX6_keyFor_44 16 rfl rfl) rfl
theorem dX6_keyFor_74 : decode cX6_keyFor 74 = .ok (.iload 4, 2) := dc_21 (sg_at zd_dX6_keyFor_44 17 rfl rfl)
theorem dX6_keyFor_76 : decode cX6_keyFor 76 = .ok (.iadd, 1) := dc_96 (sg_at zd_dX6_keyFor_44 18 rfl rfl)
theorem dX6_keyFor_77 : decode cX6_keyFor 77 = .ok (.goto 5, 3) := dc_167 (sg_at zd_dX6_keyFor_44 19 rfl rfl) rfl
theorem zd_dX6_keyFor_80 : sg (cX6_keyFor.data.toList.drop 80) [[21, 4], [172], [42], [180, 0, 9], [43], [180, 0, 148], [28], [46], [182, 0, 122], [116], [172], [21, 4], [172]] = true := by decide +kernel
theorem dX6_keyFor_80 : decode cX6_keyFor 80 = .ok (.iload 4, 2) := dc_21 (sg_at zd_dX6_keyFor_80 0 rfl rfl)
theorem dX6_keyFor_82 : decode cX6_keyFor 82 = .ok (.ireturn, 1) := dc_172 (sg_at zd_dX6_keyFor_80 1 rfl rfl)
theorem dX6_keyFor_83 : decode cX6_keyFor 83 = .ok (.aload_n 0, 1) := dc_42 (sg_at zd_dX6_keyFor_80 2 rfl rfl)
theorem dX6_keyFor_84 : decode cX6_keyFor 84 = .ok (.getfield 9, 3) := dc_180 (sg_at zd_dX6_keyFor_80 3 rfl rfl) rfl
theorem dX6_keyFor_87 : decode cX6_keyFor 87 = .ok (.aload_n 1, 1) := dc_43 (sg_at zd_dX6_keyFor_80 4 rfl rfl)
theorem dX6_keyFor_88 : decode cX6_keyFor 88 = .ok (.getfield 148, 3) := dc_180 (sg_at zd_dX6_keyFor_80 5 rfl rfl) rfl
theorem dX6_keyFor_91 : decode cX6_keyFor 91 = .ok (.iload_n 2, 1) := dc_28 (sg_at zd_dX6_keyFor_80 6 rfl rfl)
theorem dX6_keyFor_92 : decode cX6_keyFor 92 = .ok (.iaload, 1) := dc_46 (sg_at zd_dX6_keyFor_80 7 rfl rfl)
theorem dX6_keyFor_93 : decode cX6_keyFor 93 = .ok (.invokevirtual 122, 3) := dc_182 (sg_at zd_dX6_keyFor_80 8 rfl rfl) rfl
theorem dX6_keyFor_96 : decode cX6_keyFor 96 = .ok (.ineg, 1) := dc_116 (sg_at zd_dX6_keyFor_80 9 rfl rfl)
theorem dX6_keyFor_97 : decode cX6_keyFor 97 = .ok (.ireturn, 1) := dc_172 (sg_at zd_dX6_keyFor_80 10 rfl rfl)
theorem dX6_keyFor_98 : decode cX6_keyFor 98 = .ok (.iload 4, 2) := dc_21 (sg_at zd_dX6_keyFor_80 11 rfl rfl)
theorem dX6_keyFor_100 : decode cX6_keyFor 100 = .ok (.ireturn, 1) := dc_172 (sg_at zd_dX6_keyFor_80 12 rfl rfl)
theorem zd_dX6_putInLine_0 : sg (cX6_putInLine.data.toList.drop 0) [[28], [62], [29], [158, 0, 45], [42], [180, 0, 38], [42], [180, 0, 32], [29], [4], [100], [46], [46], [42], [180, 0, 38], [27], [46], [164, 0, 23], [42], [180, 0, 32]] = true := by decide +kernel
theorem dX6_putInLine_0 : decode cX6_putInLine 0 = .ok (.iload_n 2, 1) := dc_28 (sg_at zd_dX6_putInLine_0 0 rfl rfl)
theorem dX6_putInLine_1 : decode cX6_putInLine 1 = .ok (.istore_n 3, 1) := dc_62 (sg_at zd_dX6_putInLine_0 1 rfl rfl)
theorem dX6_putInLine_2 : decode cX6_putInLine 2 = .ok (.iload_n 3, 1) := dc_29 (sg_at zd_dX6_putInLine_0 2 rfl rfl)
theorem dX6_putInLine_3 : decode cX6_putInLine 3 = .ok (.ifCond .le 45, 3) := dc_158 (sg_at zd_dX6_putInLine_0 3 rfl rfl) rfl
theorem dX6_putInLine_6 : decode cX6_putInLine 6 = .ok (.aload_n 0, 1) := dc_42 (sg_at zd_dX6_putInLine_0 4 rfl rfl)
theorem dX6_putInLine_7 : decode cX6_putInLine 7 = .ok (.getfield 38, 3) := dc_180 (sg_at zd_dX6_putInLine_0 5 rfl rfl) rfl
theorem dX6_putInLine_10 : decode cX6_putInLine 10 = .ok (.aload_n 0, 1) := dc_42 (sg_at zd_dX6_putInLine_0 6 rfl rfl)
theorem dX6_putInLine_11 : decode cX6_putInLine 11 = .ok (.getfield 32, 3) := dc_180 (sg_at zd_dX6_putInLine_0 7 rfl rfl) rfl
theorem dX6_putInLine_14 : decode cX6_putInLine 14 = .ok (.iload_n 3, 1) := dc_29 (sg_at zd_dX6_putInLine_0 8 rfl rfl)
theorem dX6_putInLine_15 : decode cX6_putInLine 15 = .ok (.iconst 1, 1) := dc_4 (sg_at zd_dX6_putInLine_0 9 rfl rfl)
theorem dX6_putInLine_16 : decode cX6_putInLine 16 = .ok (.isub, 1) := dc_100 (sg_at zd_dX6_putInLine_0 10 rfl rfl)
theorem dX6_putInLine_17 : decode cX6_putInLine 17 = .ok (.iaload, 1) := dc_46 (sg_at zd_dX6_putInLine_0 11 rfl rfl)
theorem dX6_putInLine_18 : decode cX6_putInLine 18 = .ok (.iaload, 1) := dc_46 (sg_at zd_dX6_putInLine_0 12 rfl rfl)
theorem dX6_putInLine_19 : decode cX6_putInLine 19 = .ok (.aload_n 0, 1) := dc_42 (sg_at zd_dX6_putInLine_0 13 rfl rfl)
theorem dX6_putInLine_20 : decode cX6_putInLine 20 = .ok (.getfield 38, 3) := dc_180 (sg_at zd_dX6_putInLine_0 14 rfl rfl) rfl
theorem dX6_putInLine_23 : decode cX6_putInLine 23 = .ok (.iload_n 1, 1) := dc_27 (sg_at zd_dX6_putInLine_0 15 rfl rfl)
theorem dX6_putInLine_24 : decode cX6_putInLine 24 = .ok (.iaload, 1) := dc_46 (sg_at zd_dX6_putInLine_0 16 rfl rfl)
theorem dX6_putInLine_25 : decode cX6_putInLine 25 = .ok (.if_icmp .le 23, 3) := dc_164 (sg_at zd_dX6_putInLine_0 17 rfl rfl) rfl
theorem dX6_putInLine_28 : decode cX6_putInLine 28 = .ok (.aload_n 0, 1) := dc_42 (sg_at zd_dX6_putInLine_0 18 rfl rfl)
theorem dX6_putInLine_29 : decode cX6_putInLine 29 = .ok (.getfield 32, 3) := dc_180 (sg_at zd_dX6_putInLine_0 19 rfl rfl) rfl
theorem zd_dX6_putInLine_32 : sg (cX6_putInLine.data.toList.drop 32) [[29], [42], [180, 0, 32], [29], [4], [100], [46], [79], [132, 3, 255], [167, 255, 213], [42], [180, 0, 32], [29], [27], [79], [177]] = true := by decide +kernel
theorem dX6_putInLine_32 : decode cX6_putInLine 32 = .ok (.iload_n 3, 1) := dc_29 (sg_at zd_dX6_putInLine_32 0 rfl rfl)
theorem dX6_putInLine_33 : decode cX6_putInLine 33 = .ok (.aload_n 0, 1) := dc_42 (sg_at zd_dX6_putInLine_32 1 rfl rfl)
theorem dX6_putInLine_34 : decode cX6_putInLine 34 = .ok (.getfield 32, 3) := dc_180 (sg_at zd_dX6_putInLine_32 2 rfl rfl) rfl
theorem dX6_putInLine_37 : decode cX6_putInLine 37 = .ok (.iload_n 3, 1) := dc_29 (sg_at zd_dX6_putInLine_32 3 rfl rfl)
theorem dX6_putInLine_38 : decode cX6_putInLine 38 = .ok (.iconst 1, 1) := dc_4 (sg_at zd_dX6_putInLine_32 4 rfl rfl)
theorem dX6_putInLine_39 : decode cX6_putInLine 39 = .ok (.isub, 1) := dc_100 (sg_at zd_dX6_putInLine_32 5 rfl rfl)
theorem dX6_putInLine_40 : decode cX6_putInLine 40 = .ok (.iaload, 1) := dc_46 (sg_at zd_dX6_putInLine_32 6 rfl rfl)
theorem dX6_putInLine_41 : decode cX6_putInLine 41 = .ok (.iastore, 1) := dc_79 (sg_at zd_dX6_putInLine_32 7 rfl rfl)
theorem dX6_putInLine_42 : decode cX6_putInLine 42 = .ok (.iinc 3 (-1), 3) := dc_132 (sg_at zd_dX6_putInLine_32 8 rfl rfl) rfl
theorem dX6_putInLine_45 : decode cX6_putInLine 45 = .ok (.goto (-43), 3) := dc_167 (sg_at zd_dX6_putInLine_32 9 rfl rfl) rfl
theorem dX6_putInLine_48 : decode cX6_putInLine 48 = .ok (.aload_n 0, 1) := dc_42 (sg_at zd_dX6_putInLine_32 10 rfl rfl)
theorem dX6_putInLine_49 : decode cX6_putInLine 49 = .ok (.getfield 32, 3) := dc_180 (sg_at zd_dX6_putInLine_32 11 rfl rfl) rfl
theorem dX6_putInLine_52 : decode cX6_putInLine 52 = .ok (.iload_n 3, 1) := dc_29 (sg_at zd_dX6_putInLine_32 12 rfl rfl)
theorem dX6_putInLine_53 : decode cX6_putInLine 53 = .ok (.iload_n 1, 1) := dc_27 (sg_at zd_dX6_putInLine_32 13 rfl rfl)
theorem dX6_putInLine_54 : decode cX6_putInLine 54 = .ok (.iastore, 1) := dc_79 (sg_at zd_dX6_putInLine_32 14 rfl rfl)
theorem dX6_putInLine_55 : decode cX6_putInLine 55 = .ok (.return_, 1) := dc_177 (sg_at zd_dX6_putInLine_32 15 rfl rfl)
theorem zd_dX6_lineUp_0 : sg (cX6_lineUp.data.toList.drop 0) [[3], [54, 4], [3], [54, 5], [21, 5], [42], [180, 0, 9], [180, 0, 41], [180, 0, 169], [162, 0, 76], [43], [21, 5], [29], [182, 0, 171], [153, 0, 60], [42], [180, 0, 35], [21, 5], [42], [21, 5]] = true := by decide +kernel
theorem dX6_lineUp_0 : decode cX6_lineUp 0 = .ok (.iconst 0, 1) := dc_3 (sg_at zd_dX6_lineUp_0 0 rfl rfl)
theorem dX6_lineUp_1 : decode cX6_lineUp 1 = .ok (.istore 4, 2) := dc_54 (sg_at zd_dX6_lineUp_0 1 rfl rfl)
theorem dX6_lineUp_3 : decode cX6_lineUp 3 = .ok (.iconst 0, 1) := dc_3 (sg_at zd_dX6_lineUp_0 2 rfl rfl)
theorem dX6_lineUp_4 : decode cX6_lineUp 4 = .ok (.istore 5, 2) := dc_54 (sg_at zd_dX6_lineUp_0 3 rfl rfl)
theorem dX6_lineUp_6 : decode cX6_lineUp 6 = .ok (.iload 5, 2) := dc_21 (sg_at zd_dX6_lineUp_0 4 rfl rfl)
theorem dX6_lineUp_8 : decode cX6_lineUp 8 = .ok (.aload_n 0, 1) := dc_42 (sg_at zd_dX6_lineUp_0 5 rfl rfl)
theorem dX6_lineUp_9 : decode cX6_lineUp 9 = .ok (.getfield 9, 3) := dc_180 (sg_at zd_dX6_lineUp_0 6 rfl rfl) rfl
theorem dX6_lineUp_12 : decode cX6_lineUp 12 = .ok (.getfield 41, 3) := dc_180 (sg_at zd_dX6_lineUp_0 7 rfl rfl) rfl
theorem dX6_lineUp_15 : decode cX6_lineUp 15 = .ok (.getfield 169, 3) := dc_180 (sg_at zd_dX6_lineUp_0 8 rfl rfl) rfl
theorem dX6_lineUp_18 : decode cX6_lineUp 18 = .ok (.if_icmp .ge 76, 3) := dc_162 (sg_at zd_dX6_lineUp_0 9 rfl rfl) rfl
theorem dX6_lineUp_21 : decode cX6_lineUp 21 = .ok (.aload_n 1, 1) := dc_43 (sg_at zd_dX6_lineUp_0 10 rfl rfl)
theorem dX6_lineUp_22 : decode cX6_lineUp 22 = .ok (.iload 5, 2) := dc_21 (sg_at zd_dX6_lineUp_0 11 rfl rfl)
theorem dX6_lineUp_24 : decode cX6_lineUp 24 = .ok (.iload_n 3, 1) := dc_29 (sg_at zd_dX6_lineUp_0 12 rfl rfl)
theorem dX6_lineUp_25 : decode cX6_lineUp 25 = .ok (.invokevirtual 171, 3) := dc_182 (sg_at zd_dX6_lineUp_0 13 rfl rfl) rfl
theorem dX6_lineUp_28 : decode cX6_lineUp 28 = .ok (.ifCond .eq 60, 3) := dc_153 (sg_at zd_dX6_lineUp_0 14 rfl rfl) rfl
theorem dX6_lineUp_31 : decode cX6_lineUp 31 = .ok (.aload_n 0, 1) := dc_42 (sg_at zd_dX6_lineUp_0 15 rfl rfl)
theorem dX6_lineUp_32 : decode cX6_lineUp 32 = .ok (.getfield 35, 3) := dc_180 (sg_at zd_dX6_lineUp_0 16 rfl rfl) rfl
theorem dX6_lineUp_35 : decode cX6_lineUp 35 = .ok (.iload 5, 2) := dc_21 (sg_at zd_dX6_lineUp_0 17 rfl rfl)
theorem dX6_lineUp_37 : decode cX6_lineUp 37 = .ok (.aload_n 0, 1) := dc_42 (sg_at zd_dX6_lineUp_0 18 rfl rfl)
theorem dX6_lineUp_38 : decode cX6_lineUp 38 = .ok (.iload 5, 2) := dc_21 (sg_at zd_dX6_lineUp_0 19 rfl rfl)
theorem zd_dX6_lineUp_40 : sg (cX6_lineUp.data.toList.drop 40) [[28], [43], [180, 0, 148], [21, 5], [46], [182, 0, 141], [79], [42], [180, 0, 35], [21, 5], [46], [158, 0, 29], [42], [180, 0, 38], [21, 5], [42], [43], [21, 5], [28], [182, 0, 175]] = true := by decide +kernel
theorem dX6_lineUp_40 : decode cX6_lineUp 40 = .ok (.iload_n 2, 1) := dc_28 (sg_at zd_dX6_lineUp_40 0 rfl rfl)
theorem dX6_lineUp_41 : decode cX6_lineUp 41 = .ok (.aload_n 1, 1) := dc_43 (sg_at zd_dX6_lineUp_40 1 rfl rfl)
theorem dX6_lineUp_42 : decode cX6_lineUp 42 = .ok (.getfield 148, 3) := dc_180 (sg_at zd_dX6_lineUp_40 2 rfl rfl) rfl
theorem dX6_lineUp_45 : decode cX6_lineUp 45 = .ok (.iload 5, 2) := dc_21 (sg_at zd_dX6_lineUp_40 3 rfl rfl)
theorem dX6_lineUp_47 : decode cX6_lineUp 47 = .ok (.iaload, 1) := dc_46 (sg_at zd_dX6_lineUp_40 4 rfl rfl)
theorem dX6_lineUp_48 : decode cX6_lineUp 48 = .ok (.invokevirtual 141, 3) := dc_182 (sg_at zd_dX6_lineUp_40 5 rfl rfl) rfl
theorem dX6_lineUp_51 : decode cX6_lineUp 51 = .ok (.iastore, 1) := dc_79 (sg_at zd_dX6_lineUp_40 6 rfl rfl)
theorem dX6_lineUp_52 : decode cX6_lineUp 52 = .ok (.aload_n 0, 1) := dc_42 (sg_at zd_dX6_lineUp_40 7 rfl rfl)
theorem dX6_lineUp_53 : decode cX6_lineUp 53 = .ok (.getfield 35, 3) := dc_180 (sg_at zd_dX6_lineUp_40 8 rfl rfl) rfl
theorem dX6_lineUp_56 : decode cX6_lineUp 56 = .ok (.iload 5, 2) := dc_21 (sg_at zd_dX6_lineUp_40 9 rfl rfl)
theorem dX6_lineUp_58 : decode cX6_lineUp 58 = .ok (.iaload, 1) := dc_46 (sg_at zd_dX6_lineUp_40 10 rfl rfl)
theorem dX6_lineUp_59 : decode cX6_lineUp 59 = .ok (.ifCond .le 29, 3) := dc_158 (sg_at zd_dX6_lineUp_40 11 rfl rfl) rfl
theorem dX6_lineUp_62 : decode cX6_lineUp 62 = .ok (.aload_n 0, 1) := dc_42 (sg_at zd_dX6_lineUp_40 12 rfl rfl)
theorem dX6_lineUp_63 : decode cX6_lineUp 63 = .ok (.getfield 38, 3) := dc_180 (sg_at zd_dX6_lineUp_40 13 rfl rfl) rfl
theorem dX6_lineUp_66 : decode cX6_lineUp 66 = .ok (.iload 5, 2) := dc_21 (sg_at zd_dX6_lineUp_40 14 rfl rfl)
theorem dX6_lineUp_68 : decode cX6_lineUp 68 = .ok (.aload_n 0, 1) := dc_42 (sg_at zd_dX6_lineUp_40 15 rfl rfl)
theorem dX6_lineUp_69 : decode cX6_lineUp 69 = .ok (.aload_n 1, 1) := dc_43 (sg_at zd_dX6_lineUp_40 16 rfl rfl)
theorem dX6_lineUp_70 : decode cX6_lineUp 70 = .ok (.iload 5, 2) := dc_21 (sg_at zd_dX6_lineUp_40 17 rfl rfl)
theorem dX6_lineUp_72 : decode cX6_lineUp 72 = .ok (.iload_n 2, 1) := dc_28 (sg_at zd_dX6_lineUp_40 18 rfl rfl)
theorem dX6_lineUp_73 : decode cX6_lineUp 73 = .ok (.invokevirtual 175, 3) := dc_182 (sg_at zd_dX6_lineUp_40 19 rfl rfl) rfl
theorem zd_dX6_lineUp_76 : sg (cX6_lineUp.data.toList.drop 76) [[79], [42], [21, 5], [21, 4], [182, 0, 179], [132, 4, 1], [132, 5, 1], [167, 255, 171], [21, 4], [172]] = true := by decide +kernel
theorem dX6_lineUp_76 : decode cX6_lineUp 76 = .ok (.iastore, 1) := dc_79 (sg_at zd_dX6_lineUp_76 0 rfl rfl)
theorem dX6_lineUp_77 : decode cX6_lineUp 77 = .ok (.aload_n 0, 1) := dc_42 (sg_at zd_dX6_lineUp_76 1 rfl rfl)
theorem dX6_lineUp_78 : decode cX6_lineUp 78 = .ok (.iload 5, 2) := dc_21 (sg_at zd_dX6_lineUp_76 2 rfl rfl)
theorem dX6_lineUp_80 : decode cX6_lineUp 80 = .ok (.iload 4, 2) := dc_21 (sg_at zd_dX6_lineUp_76 3 rfl rfl)
theorem dX6_lineUp_82 : decode cX6_lineUp 82 = .ok (.invokevirtual 179, 3) := dc_182 (sg_at zd_dX6_lineUp_76 4 rfl rfl) rfl
theorem dX6_lineUp_85 : decode cX6_lineUp 85 = .ok (.iinc 4 1, 3) := dc_132 (sg_at zd_dX6_lineUp_76 5 rfl rfl) rfl
theorem dX6_lineUp_88 : decode cX6_lineUp 88 = .ok (.iinc 5 1, 3) := dc_132 (sg_at zd_dX6_lineUp_76 6 rfl rfl) rfl
theorem dX6_lineUp_91 : decode cX6_lineUp 91 = .ok (.goto (-85), 3) := dc_167 (sg_at zd_dX6_lineUp_76 7 rfl rfl) rfl
theorem dX6_lineUp_94 : decode cX6_lineUp 94 = .ok (.iload 4, 2) := dc_21 (sg_at zd_dX6_lineUp_76 8 rfl rfl)
theorem dX6_lineUp_96 : decode cX6_lineUp 96 = .ok (.ireturn, 1) := dc_172 (sg_at zd_dX6_lineUp_76 9 rfl rfl)
theorem zd_dX6_placeOfRider_0 : sg (cX6_placeOfRider.data.toList.drop 0) [[3], [62], [29], [28], [162, 0, 29], [43], [182, 0, 205], [42], [180, 0, 35], [42], [180, 0, 32], [29], [46], [46], [162, 0, 5], [29], [172], [132, 3, 1], [167, 255, 228], [2]] = true := by decide +kernel
theorem dX6_placeOfRider_0 : decode cX6_placeOfRider 0 = .ok (.iconst 0, 1) := dc_3 (sg_at zd_dX6_placeOfRider_0 0 rfl rfl)
theorem dX6_placeOfRider_1 : decode cX6_placeOfRider 1 = .ok (.istore_n 3, 1) := dc_62 (sg_at zd_dX6_placeOfRider_0 1 rfl rfl)
theorem dX6_placeOfRider_2 : decode cX6_placeOfRider 2 = .ok (.iload_n 3, 1) := dc_29 (sg_at zd_dX6_placeOfRider_0 2 rfl rfl)
theorem dX6_placeOfRider_3 : decode cX6_placeOfRider 3 = .ok (.iload_n 2, 1) := dc_28 (sg_at zd_dX6_placeOfRider_0 3 rfl rfl)
theorem dX6_placeOfRider_4 : decode cX6_placeOfRider 4 = .ok (.if_icmp .ge 29, 3) := dc_162 (sg_at zd_dX6_placeOfRider_0 4 rfl rfl) rfl
theorem dX6_placeOfRider_7 : decode cX6_placeOfRider 7 = .ok (.aload_n 1, 1) := dc_43 (sg_at zd_dX6_placeOfRider_0 5 rfl rfl)
theorem dX6_placeOfRider_8 : decode cX6_placeOfRider 8 = .ok (.invokevirtual 205, 3) := dc_182 (sg_at zd_dX6_placeOfRider_0 6 rfl rfl) rfl
theorem dX6_placeOfRider_11 : decode cX6_placeOfRider 11 = .ok (.aload_n 0, 1) := dc_42 (sg_at zd_dX6_placeOfRider_0 7 rfl rfl)
theorem dX6_placeOfRider_12 : decode cX6_placeOfRider 12 = .ok (.getfield 35, 3) := dc_180 (sg_at zd_dX6_placeOfRider_0 8 rfl rfl) rfl
theorem dX6_placeOfRider_15 : decode cX6_placeOfRider 15 = .ok (.aload_n 0, 1) := dc_42 (sg_at zd_dX6_placeOfRider_0 9 rfl rfl)
theorem dX6_placeOfRider_16 : decode cX6_placeOfRider 16 = .ok (.getfield 32, 3) := dc_180 (sg_at zd_dX6_placeOfRider_0 10 rfl rfl) rfl
theorem dX6_placeOfRider_19 : decode cX6_placeOfRider 19 = .ok (.iload_n 3, 1) := dc_29 (sg_at zd_dX6_placeOfRider_0 11 rfl rfl)
theorem dX6_placeOfRider_20 : decode cX6_placeOfRider 20 = .ok (.iaload, 1) := dc_46 (sg_at zd_dX6_placeOfRider_0 12 rfl rfl)
theorem dX6_placeOfRider_21 : decode cX6_placeOfRider 21 = .ok (.iaload, 1) := dc_46 (sg_at zd_dX6_placeOfRider_0 13 rfl rfl)
theorem dX6_placeOfRider_22 : decode cX6_placeOfRider 22 = .ok (.if_icmp .ge 5, 3) := dc_162 (sg_at zd_dX6_placeOfRider_0 14 rfl rfl) rfl
theorem dX6_placeOfRider_25 : decode cX6_placeOfRider 25 = .ok (.iload_n 3, 1) := dc_29 (sg_at zd_dX6_placeOfRider_0 15 rfl rfl)
theorem dX6_placeOfRider_26 : decode cX6_placeOfRider 26 = .ok (.ireturn, 1) := dc_172 (sg_at zd_dX6_placeOfRider_0 16 rfl rfl)
theorem dX6_placeOfRider_27 : decode cX6_placeOfRider 27 = .ok (.iinc 3 1, 3) := dc_132 (sg_at zd_dX6_placeOfRider_0 17 rfl rfl) rfl
theorem dX6_placeOfRider_30 : decode cX6_placeOfRider 30 = .ok (.goto (-28), 3) := dc_167 (sg_at zd_dX6_placeOfRider_0 18 rfl rfl) rfl
theorem dX6_placeOfRider_33 : decode cX6_placeOfRider 33 = .ok (.iconst (-1), 1) := dc_2 (sg_at zd_dX6_placeOfRider_0 19 rfl rfl)
theorem zd_dX6_placeOfRider_34 : sg (cX6_placeOfRider.data.toList.drop 34) [[172]] = true := by decide +kernel
theorem dX6_placeOfRider_34 : decode cX6_placeOfRider 34 = .ok (.ireturn, 1) := dc_172 (sg_at zd_dX6_placeOfRider_34 0 rfl rfl)
theorem zd_dX6_crosserBehind_0 : sg (cX6_crosserBehind.data.toList.drop 0) [[28], [4], [96], [54, 4], [21, 4], [29], [162, 0, 45], [42], [180, 0, 19], [42], [180, 0, 32], [21, 4], [46], [46], [54, 5], [21, 5], [158, 0, 20], [43], [182, 0, 205], [21, 5]] = true := by decide +kernel
theorem dX6_crosserBehind_0 : decode cX6_crosserBehind 0 = .ok (.iload_n 2, 1) := dc_28 (sg_at zd_dX6_crosserBehind_0 0 rfl rfl)
theorem dX6_crosserBehind_1 : decode cX6_crosserBehind 1 = .ok (.iconst 1, 1) := dc_4 (sg_at zd_dX6_crosserBehind_0 1 rfl rfl)
theorem dX6_crosserBehind_2 : decode cX6_crosserBehind 2 = .ok (.iadd, 1) := dc_96 (sg_at zd_dX6_crosserBehind_0 2 rfl rfl)
theorem dX6_crosserBehind_3 : decode cX6_crosserBehind 3 = .ok (.istore 4, 2) := dc_54 (sg_at zd_dX6_crosserBehind_0 3 rfl rfl)
theorem dX6_crosserBehind_5 : decode cX6_crosserBehind 5 = .ok (.iload 4, 2) := dc_21 (sg_at zd_dX6_crosserBehind_0 4 rfl rfl)
theorem dX6_crosserBehind_7 : decode cX6_crosserBehind 7 = .ok (.iload_n 3, 1) := dc_29 (sg_at zd_dX6_crosserBehind_0 5 rfl rfl)
theorem dX6_crosserBehind_8 : decode cX6_crosserBehind 8 = .ok (.if_icmp .ge 45, 3) := dc_162 (sg_at zd_dX6_crosserBehind_0 6 rfl rfl) rfl
theorem dX6_crosserBehind_11 : decode cX6_crosserBehind 11 = .ok (.aload_n 0, 1) := dc_42 (sg_at zd_dX6_crosserBehind_0 7 rfl rfl)
theorem dX6_crosserBehind_12 : decode cX6_crosserBehind 12 = .ok (.getfield 19, 3) := dc_180 (sg_at zd_dX6_crosserBehind_0 8 rfl rfl) rfl
theorem dX6_crosserBehind_15 : decode cX6_crosserBehind 15 = .ok (.aload_n 0, 1) := dc_42 (sg_at zd_dX6_crosserBehind_0 9 rfl rfl)
theorem dX6_crosserBehind_16 : decode cX6_crosserBehind 16 = .ok (.getfield 32, 3) := dc_180 (sg_at zd_dX6_crosserBehind_0 10 rfl rfl) rfl
theorem dX6_crosserBehind_19 : decode cX6_crosserBehind 19 = .ok (.iload 4, 2) := dc_21 (sg_at zd_dX6_crosserBehind_0 11 rfl rfl)
theorem dX6_crosserBehind_21 : decode cX6_crosserBehind 21 = .ok (.iaload, 1) := dc_46 (sg_at zd_dX6_crosserBehind_0 12 rfl rfl)
theorem dX6_crosserBehind_22 : decode cX6_crosserBehind 22 = .ok (.iaload, 1) := dc_46 (sg_at zd_dX6_crosserBehind_0 13 rfl rfl)
theorem dX6_crosserBehind_23 : decode cX6_crosserBehind 23 = .ok (.istore 5, 2) := dc_54 (sg_at zd_dX6_crosserBehind_0 14 rfl rfl)
theorem dX6_crosserBehind_25 : decode cX6_crosserBehind 25 = .ok (.iload 5, 2) := dc_21 (sg_at zd_dX6_crosserBehind_0 15 rfl rfl)
theorem dX6_crosserBehind_27 : decode cX6_crosserBehind 27 = .ok (.ifCond .le 20, 3) := dc_158 (sg_at zd_dX6_crosserBehind_0 16 rfl rfl) rfl
theorem dX6_crosserBehind_30 : decode cX6_crosserBehind 30 = .ok (.aload_n 1, 1) := dc_43 (sg_at zd_dX6_crosserBehind_0 17 rfl rfl)
theorem dX6_crosserBehind_31 : decode cX6_crosserBehind 31 = .ok (.invokevirtual 205, 3) := dc_182 (sg_at zd_dX6_crosserBehind_0 18 rfl rfl) rfl
theorem dX6_crosserBehind_34 : decode cX6_crosserBehind 34 = .ok (.iload 5, 2) := dc_21 (sg_at zd_dX6_crosserBehind_0 19 rfl rfl)
theorem zd_dX6_crosserBehind_36 : sg (cX6_crosserBehind.data.toList.drop 36) [[162, 0, 11], [42], [180, 0, 32], [21, 4], [46], [172], [132, 4, 1], [167, 255, 211], [2], [172]] = true := by decide +kernel
theorem dX6_crosserBehind_36 : decode cX6_crosserBehind 36 = .ok (.if_icmp .ge 11, 3) := dc_162 (sg_at zd_dX6_crosserBehind_36 0 rfl rfl) rfl
theorem dX6_crosserBehind_39 : decode cX6_crosserBehind 39 = .ok (.aload_n 0, 1) := dc_42 (sg_at zd_dX6_crosserBehind_36 1 rfl rfl)
theorem dX6_crosserBehind_40 : decode cX6_crosserBehind 40 = .ok (.getfield 32, 3) := dc_180 (sg_at zd_dX6_crosserBehind_36 2 rfl rfl) rfl
theorem dX6_crosserBehind_43 : decode cX6_crosserBehind 43 = .ok (.iload 4, 2) := dc_21 (sg_at zd_dX6_crosserBehind_36 3 rfl rfl)
theorem dX6_crosserBehind_45 : decode cX6_crosserBehind 45 = .ok (.iaload, 1) := dc_46 (sg_at zd_dX6_crosserBehind_36 4 rfl rfl)
theorem dX6_crosserBehind_46 : decode cX6_crosserBehind 46 = .ok (.ireturn, 1) := dc_172 (sg_at zd_dX6_crosserBehind_36 5 rfl rfl)
theorem dX6_crosserBehind_47 : decode cX6_crosserBehind 47 = .ok (.iinc 4 1, 3) := dc_132 (sg_at zd_dX6_crosserBehind_36 6 rfl rfl) rfl
theorem dX6_crosserBehind_50 : decode cX6_crosserBehind 50 = .ok (.goto (-45), 3) := dc_167 (sg_at zd_dX6_crosserBehind_36 7 rfl rfl) rfl
theorem dX6_crosserBehind_53 : decode cX6_crosserBehind 53 = .ok (.iconst (-1), 1) := dc_2 (sg_at zd_dX6_crosserBehind_36 8 rfl rfl)
theorem dX6_crosserBehind_54 : decode cX6_crosserBehind 54 = .ok (.ireturn, 1) := dc_172 (sg_at zd_dX6_crosserBehind_36 9 rfl rfl)
theorem zd_dX6_sendAway_0 : sg (cX6_sendAway.data.toList.drop 0) [[43], [180, 0, 209], [28], [42], [180, 0, 9], [180, 0, 57], [180, 0, 67], [29], [46], [21, 4], [42], [28], [29], [182, 0, 212], [104], [96], [79], [177]] = true := by decide +kernel
theorem dX6_sendAway_0 : decode cX6_sendAway 0 = .ok (.aload_n 1, 1) := dc_43 (sg_at zd_dX6_sendAway_0 0 rfl rfl)
theorem dX6_sendAway_1 : decode cX6_sendAway 1 = .ok (.getfield 209, 3) := dc_180 (sg_at zd_dX6_sendAway_0 1 rfl rfl) rfl
theorem dX6_sendAway_4 : decode cX6_sendAway 4 = .ok (.iload_n 2, 1) := dc_28 (sg_at zd_dX6_sendAway_0 2 rfl rfl)
theorem dX6_sendAway_5 : decode cX6_sendAway 5 = .ok (.aload_n 0, 1) := dc_42 (sg_at zd_dX6_sendAway_0 3 rfl rfl)
theorem dX6_sendAway_6 : decode cX6_sendAway 6 = .ok (.getfield 9, 3) := dc_180 (sg_at zd_dX6_sendAway_0 4 rfl rfl) rfl
theorem dX6_sendAway_9 : decode cX6_sendAway 9 = .ok (.getfield 57, 3) := dc_180 (sg_at zd_dX6_sendAway_0 5 rfl rfl) rfl
theorem dX6_sendAway_12 : decode cX6_sendAway 12 = .ok (.getfield 67, 3) := dc_180 (sg_at zd_dX6_sendAway_0 6 rfl rfl) rfl
theorem dX6_sendAway_15 : decode cX6_sendAway 15 = .ok (.iload_n 3, 1) := dc_29 (sg_at zd_dX6_sendAway_0 7 rfl rfl)
theorem dX6_sendAway_16 : decode cX6_sendAway 16 = .ok (.iaload, 1) := dc_46 (sg_at zd_dX6_sendAway_0 8 rfl rfl)
theorem dX6_sendAway_17 : decode cX6_sendAway 17 = .ok (.iload 4, 2) := dc_21 (sg_at zd_dX6_sendAway_0 9 rfl rfl)
theorem dX6_sendAway_19 : decode cX6_sendAway 19 = .ok (.aload_n 0, 1) := dc_42 (sg_at zd_dX6_sendAway_0 10 rfl rfl)
theorem dX6_sendAway_20 : decode cX6_sendAway 20 = .ok (.iload_n 2, 1) := dc_28 (sg_at zd_dX6_sendAway_0 11 rfl rfl)
theorem dX6_sendAway_21 : decode cX6_sendAway 21 = .ok (.iload_n 3, 1) := dc_29 (sg_at zd_dX6_sendAway_0 12 rfl rfl)
theorem dX6_sendAway_22 : decode cX6_sendAway 22 = .ok (.invokevirtual 212, 3) := dc_182 (sg_at zd_dX6_sendAway_0 13 rfl rfl) rfl
theorem dX6_sendAway_25 : decode cX6_sendAway 25 = .ok (.imul, 1) := dc_104 (sg_at zd_dX6_sendAway_0 14 rfl rfl)
theorem dX6_sendAway_26 : decode cX6_sendAway 26 = .ok (.iadd, 1) := dc_96 (sg_at zd_dX6_sendAway_0 15 rfl rfl)
theorem dX6_sendAway_27 : decode cX6_sendAway 27 = .ok (.iastore, 1) := dc_79 (sg_at zd_dX6_sendAway_0 16 rfl rfl)
theorem dX6_sendAway_28 : decode cX6_sendAway 28 = .ok (.return_, 1) := dc_177 (sg_at zd_dX6_sendAway_0 17 rfl rfl)
theorem zd_dX6_bringWave_0 : sg (cX6_bringWave.data.toList.drop 0) [[42], [43], [28], [42], [180, 0, 9], [180, 0, 57], [180, 0, 67], [28], [46], [182, 0, 182], [62], [42], [43], [29], [182, 0, 185], [54, 4], [21, 4], [2], [160, 0, 21], [43]] = true := by decide +kernel
theorem dX6_bringWave_0 : decode cX6_bringWave 0 = .ok (.aload_n 0, 1) := dc_42 (sg_at zd_dX6_bringWave_0 0 rfl rfl)
theorem dX6_bringWave_1 : decode cX6_bringWave 1 = .ok (.aload_n 1, 1) := dc_43 (sg_at zd_dX6_bringWave_0 1 rfl rfl)
theorem dX6_bringWave_2 : decode cX6_bringWave 2 = .ok (.iload_n 2, 1) := dc_28 (sg_at zd_dX6_bringWave_0 2 rfl rfl)
theorem dX6_bringWave_3 : decode cX6_bringWave 3 = .ok (.aload_n 0, 1) := dc_42 (sg_at zd_dX6_bringWave_0 3 rfl rfl)
theorem dX6_bringWave_4 : decode cX6_bringWave 4 = .ok (.getfield 9, 3) := dc_180 (sg_at zd_dX6_bringWave_0 4 rfl rfl) rfl
theorem dX6_bringWave_7 : decode cX6_bringWave 7 = .ok (.getfield 57, 3) := dc_180 (sg_at zd_dX6_bringWave_0 5 rfl rfl) rfl
theorem dX6_bringWave_10 : decode cX6_bringWave 10 = .ok (.getfield 67, 3) := dc_180 (sg_at zd_dX6_bringWave_0 6 rfl rfl) rfl
theorem dX6_bringWave_13 : decode cX6_bringWave 13 = .ok (.iload_n 2, 1) := dc_28 (sg_at zd_dX6_bringWave_0 7 rfl rfl)
theorem dX6_bringWave_14 : decode cX6_bringWave 14 = .ok (.iaload, 1) := dc_46 (sg_at zd_dX6_bringWave_0 8 rfl rfl)
theorem dX6_bringWave_15 : decode cX6_bringWave 15 = .ok (.invokevirtual 182, 3) := dc_182 (sg_at zd_dX6_bringWave_0 9 rfl rfl) rfl
theorem dX6_bringWave_18 : decode cX6_bringWave 18 = .ok (.istore_n 3, 1) := dc_62 (sg_at zd_dX6_bringWave_0 10 rfl rfl)
theorem dX6_bringWave_19 : decode cX6_bringWave 19 = .ok (.aload_n 0, 1) := dc_42 (sg_at zd_dX6_bringWave_0 11 rfl rfl)
theorem dX6_bringWave_20 : decode cX6_bringWave 20 = .ok (.aload_n 1, 1) := dc_43 (sg_at zd_dX6_bringWave_0 12 rfl rfl)
theorem dX6_bringWave_21 : decode cX6_bringWave 21 = .ok (.iload_n 3, 1) := dc_29 (sg_at zd_dX6_bringWave_0 13 rfl rfl)
theorem dX6_bringWave_22 : decode cX6_bringWave 22 = .ok (.invokevirtual 185, 3) := dc_182 (sg_at zd_dX6_bringWave_0 14 rfl rfl) rfl
theorem dX6_bringWave_25 : decode cX6_bringWave 25 = .ok (.istore 4, 2) := dc_54 (sg_at zd_dX6_bringWave_0 15 rfl rfl)
theorem dX6_bringWave_27 : decode cX6_bringWave 27 = .ok (.iload 4, 2) := dc_21 (sg_at zd_dX6_bringWave_0 16 rfl rfl)
theorem dX6_bringWave_29 : decode cX6_bringWave 29 = .ok (.iconst (-1), 1) := dc_2 (sg_at zd_dX6_bringWave_0 17 rfl rfl)
theorem dX6_bringWave_30 : decode cX6_bringWave 30 = .ok (.if_icmp .ne 21, 3) := dc_160 (sg_at zd_dX6_bringWave_0 18 rfl rfl) rfl
theorem dX6_bringWave_33 : decode cX6_bringWave 33 = .ok (.aload_n 1, 1) := dc_43 (sg_at zd_dX6_bringWave_0 19 rfl rfl)
theorem zd_dX6_bringWave_34 : sg (cX6_bringWave.data.toList.drop 34) [[180, 0, 166], [28], [2], [79], [43], [89], [180, 0, 189], [4], [96], [181, 0, 189], [177], [42], [180, 0, 32], [21, 4], [46], [54, 5], [42], [43], [21, 4], [29]] = true := by decide +kernel
theorem dX6_bringWave_34 : decode cX6_bringWave 34 = .ok (.getfield 166, 3) := dc_180 (sg_at zd_dX6_bringWave_34 0 rfl rfl) rfl
theorem dX6_bringWave_37 : decode cX6_bringWave 37 = .ok (.iload_n 2, 1) := dc_28 (sg_at zd_dX6_bringWave_34 1 rfl rfl)
theorem dX6_bringWave_38 : decode cX6_bringWave 38 = .ok (.iconst (-1), 1) := dc_2 (sg_at zd_dX6_bringWave_34 2 rfl rfl)
theorem dX6_bringWave_39 : decode cX6_bringWave 39 = .ok (.iastore, 1) := dc_79 (sg_at zd_dX6_bringWave_34 3 rfl rfl)
theorem dX6_bringWave_40 : decode cX6_bringWave 40 = .ok (.aload_n 1, 1) := dc_43 (sg_at zd_dX6_bringWave_34 4 rfl rfl)
theorem dX6_bringWave_41 : decode cX6_bringWave 41 = .ok (.dup, 1) := dc_89 (sg_at zd_dX6_bringWave_34 5 rfl rfl)
theorem dX6_bringWave_42 : decode cX6_bringWave 42 = .ok (.getfield 189, 3) := dc_180 (sg_at zd_dX6_bringWave_34 6 rfl rfl) rfl
theorem dX6_bringWave_45 : decode cX6_bringWave 45 = .ok (.iconst 1, 1) := dc_4 (sg_at zd_dX6_bringWave_34 7 rfl rfl)
theorem dX6_bringWave_46 : decode cX6_bringWave 46 = .ok (.iadd, 1) := dc_96 (sg_at zd_dX6_bringWave_34 8 rfl rfl)
theorem dX6_bringWave_47 : decode cX6_bringWave 47 = .ok (.putfield 189, 3) := dc_181 (sg_at zd_dX6_bringWave_34 9 rfl rfl) rfl
theorem dX6_bringWave_50 : decode cX6_bringWave 50 = .ok (.return_, 1) := dc_177 (sg_at zd_dX6_bringWave_34 10 rfl rfl)
theorem dX6_bringWave_51 : decode cX6_bringWave 51 = .ok (.aload_n 0, 1) := dc_42 (sg_at zd_dX6_bringWave_34 11 rfl rfl)
theorem dX6_bringWave_52 : decode cX6_bringWave 52 = .ok (.getfield 32, 3) := dc_180 (sg_at zd_dX6_bringWave_34 12 rfl rfl) rfl
theorem dX6_bringWave_55 : decode cX6_bringWave 55 = .ok (.iload 4, 2) := dc_21 (sg_at zd_dX6_bringWave_34 13 rfl rfl)
theorem dX6_bringWave_57 : decode cX6_bringWave 57 = .ok (.iaload, 1) := dc_46 (sg_at zd_dX6_bringWave_34 14 rfl rfl)
theorem dX6_bringWave_58 : decode cX6_bringWave 58 = .ok (.istore 5, 2) := dc_54 (sg_at zd_dX6_bringWave_34 15 rfl rfl)
theorem dX6_bringWave_60 : decode cX6_bringWave 60 = .ok (.aload_n 0, 1) := dc_42 (sg_at zd_dX6_bringWave_34 16 rfl rfl)
theorem dX6_bringWave_61 : decode cX6_bringWave 61 = .ok (.aload_n 1, 1) := dc_43 (sg_at zd_dX6_bringWave_34 17 rfl rfl)
theorem dX6_bringWave_62 : decode cX6_bringWave 62 = .ok (.iload 4, 2) := dc_21 (sg_at zd_dX6_bringWave_34 18 rfl rfl)
theorem dX6_bringWave_64 : decode cX6_bringWave 64 = .ok (.iload_n 3, 1) := dc_29 (sg_at zd_dX6_bringWave_34 19 rfl rfl)
theorem zd_dX6_bringWave_65 : sg (cX6_bringWave.data.toList.drop 65) [[182, 0, 192], [54, 6], [21, 6], [2], [160, 0, 32], [43], [180, 0, 166], [28], [21, 5], [79], [43], [180, 0, 156], [21, 5], [92], [46], [4], [96], [79], [42], [43]] = true := by decide +kernel
theorem dX6_bringWave_65 : decode cX6_bringWave 65 = .ok (.invokevirtual 192, 3) := dc_182 (sg_at zd_dX6_bringWave_65 0 rfl rfl) rfl
theorem dX6_bringWave_68 : decode cX6_bringWave 68 = .ok (.istore 6, 2) := dc_54 (sg_at zd_dX6_bringWave_65 1 rfl rfl)
theorem dX6_bringWave_70 : decode cX6_bringWave 70 = .ok (.iload 6, 2) := dc_21 (sg_at zd_dX6_bringWave_65 2 rfl rfl)
theorem dX6_bringWave_72 : decode cX6_bringWave 72 = .ok (.iconst (-1), 1) := dc_2 (sg_at zd_dX6_bringWave_65 3 rfl rfl)
theorem dX6_bringWave_73 : decode cX6_bringWave 73 = .ok (.if_icmp .ne 32, 3) := dc_160 (sg_at zd_dX6_bringWave_65 4 rfl rfl) rfl
theorem dX6_bringWave_76 : decode cX6_bringWave 76 = .ok (.aload_n 1, 1) := dc_43 (sg_at zd_dX6_bringWave_65 5 rfl rfl)
theorem dX6_bringWave_77 : decode cX6_bringWave 77 = .ok (.getfield 166, 3) := dc_180 (sg_at zd_dX6_bringWave_65 6 rfl rfl) rfl
theorem dX6_bringWave_80 : decode cX6_bringWave 80 = .ok (.iload_n 2, 1) := dc_28 (sg_at zd_dX6_bringWave_65 7 rfl rfl)
theorem dX6_bringWave_81 : decode cX6_bringWave 81 = .ok (.iload 5, 2) := dc_21 (sg_at zd_dX6_bringWave_65 8 rfl rfl)
theorem dX6_bringWave_83 : decode cX6_bringWave 83 = .ok (.iastore, 1) := dc_79 (sg_at zd_dX6_bringWave_65 9 rfl rfl)
theorem dX6_bringWave_84 : decode cX6_bringWave 84 = .ok (.aload_n 1, 1) := dc_43 (sg_at zd_dX6_bringWave_65 10 rfl rfl)
theorem dX6_bringWave_85 : decode cX6_bringWave 85 = .ok (.getfield 156, 3) := dc_180 (sg_at zd_dX6_bringWave_65 11 rfl rfl) rfl
theorem dX6_bringWave_88 : decode cX6_bringWave 88 = .ok (.iload 5, 2) := dc_21 (sg_at zd_dX6_bringWave_65 12 rfl rfl)
theorem dX6_bringWave_90 : decode cX6_bringWave 90 = .ok (.dup2, 1) := dc_92 (sg_at zd_dX6_bringWave_65 13 rfl rfl)
theorem dX6_bringWave_91 : decode cX6_bringWave 91 = .ok (.iaload, 1) := dc_46 (sg_at zd_dX6_bringWave_65 14 rfl rfl)
theorem dX6_bringWave_92 : decode cX6_bringWave 92 = .ok (.iconst 1, 1) := dc_4 (sg_at zd_dX6_bringWave_65 15 rfl rfl)
theorem dX6_bringWave_93 : decode cX6_bringWave 93 = .ok (.iadd, 1) := dc_96 (sg_at zd_dX6_bringWave_65 16 rfl rfl)
theorem dX6_bringWave_94 : decode cX6_bringWave 94 = .ok (.iastore, 1) := dc_79 (sg_at zd_dX6_bringWave_65 17 rfl rfl)
theorem dX6_bringWave_95 : decode cX6_bringWave 95 = .ok (.aload_n 0, 1) := dc_42 (sg_at zd_dX6_bringWave_65 18 rfl rfl)
theorem dX6_bringWave_96 : decode cX6_bringWave 96 = .ok (.aload_n 1, 1) := dc_43 (sg_at zd_dX6_bringWave_65 19 rfl rfl)
theorem zd_dX6_bringWave_97 : sg (cX6_bringWave.data.toList.drop 97) [[21, 5], [28], [4], [182, 0, 195], [177], [43], [180, 0, 166], [28], [16, 253], [79], [43], [89], [180, 0, 199], [4], [96], [181, 0, 199], [43], [180, 0, 202], [21, 5], [92]] = true := by decide +kernel
theorem dX6_bringWave_97 : decode cX6_bringWave 97 = .ok (.iload 5, 2) := dc_21 (sg_at zd_dX6_bringWave_97 0 rfl rfl)
theorem dX6_bringWave_99 : decode cX6_bringWave 99 = .ok (.iload_n 2, 1) := dc_28 (sg_at zd_dX6_bringWave_97 1 rfl rfl)
theorem dX6_bringWave_100 : decode cX6_bringWave 100 = .ok (.iconst 1, 1) := dc_4 (sg_at zd_dX6_bringWave_97 2 rfl rfl)
theorem dX6_bringWave_101 : decode cX6_bringWave 101 = .ok (.invokevirtual 195, 3) := dc_182 (sg_at zd_dX6_bringWave_97 3 rfl rfl) rfl
theorem dX6_bringWave_104 : decode cX6_bringWave 104 = .ok (.return_, 1) := dc_177 (sg_at zd_dX6_bringWave_97 4 rfl rfl)
theorem dX6_bringWave_105 : decode cX6_bringWave 105 = .ok (.aload_n 1, 1) := dc_43 (sg_at zd_dX6_bringWave_97 5 rfl rfl)
theorem dX6_bringWave_106 : decode cX6_bringWave 106 = .ok (.getfield 166, 3) := dc_180 (sg_at zd_dX6_bringWave_97 6 rfl rfl) rfl
theorem dX6_bringWave_109 : decode cX6_bringWave 109 = .ok (.iload_n 2, 1) := dc_28 (sg_at zd_dX6_bringWave_97 7 rfl rfl)
theorem dX6_bringWave_110 : decode cX6_bringWave 110 = .ok (.bipush (-3), 2) := dc_16 (sg_at zd_dX6_bringWave_97 8 rfl rfl) rfl
theorem dX6_bringWave_112 : decode cX6_bringWave 112 = .ok (.iastore, 1) := dc_79 (sg_at zd_dX6_bringWave_97 9 rfl rfl)
theorem dX6_bringWave_113 : decode cX6_bringWave 113 = .ok (.aload_n 1, 1) := dc_43 (sg_at zd_dX6_bringWave_97 10 rfl rfl)
theorem dX6_bringWave_114 : decode cX6_bringWave 114 = .ok (.dup, 1) := dc_89 (sg_at zd_dX6_bringWave_97 11 rfl rfl)
theorem dX6_bringWave_115 : decode cX6_bringWave 115 = .ok (.getfield 199, 3) := dc_180 (sg_at zd_dX6_bringWave_97 12 rfl rfl) rfl
theorem dX6_bringWave_118 : decode cX6_bringWave 118 = .ok (.iconst 1, 1) := dc_4 (sg_at zd_dX6_bringWave_97 13 rfl rfl)
theorem dX6_bringWave_119 : decode cX6_bringWave 119 = .ok (.iadd, 1) := dc_96 (sg_at zd_dX6_bringWave_97 14 rfl rfl)
theorem dX6_bringWave_120 : decode cX6_bringWave 120 = .ok (.putfield 199, 3) := dc_181 (sg_at zd_dX6_bringWave_97 15 rfl rfl) rfl
theorem dX6_bringWave_123 : decode cX6_bringWave 123 = .ok (.aload_n 1, 1) := dc_43 (sg_at zd_dX6_bringWave_97 16 rfl rfl)
theorem dX6_bringWave_124 : decode cX6_bringWave 124 = .ok (.getfield 202, 3) := dc_180 (sg_at zd_dX6_bringWave_97 17 rfl rfl) rfl
theorem dX6_bringWave_127 : decode cX6_bringWave 127 = .ok (.iload 5, 2) := dc_21 (sg_at zd_dX6_bringWave_97 18 rfl rfl)
theorem dX6_bringWave_129 : decode cX6_bringWave 129 = .ok (.dup2, 1) := dc_92 (sg_at zd_dX6_bringWave_97 19 rfl rfl)
theorem zd_dX6_bringWave_130 : sg (cX6_bringWave.data.toList.drop 130) [[46], [4], [96], [79], [43], [180, 0, 202], [21, 6], [92], [46], [4], [96], [79], [42], [43], [21, 5], [28], [5], [182, 0, 195], [42], [43]] = true := by decide +kernel
theorem dX6_bringWave_130 : decode cX6_bringWave 130 = .ok (.iaload, 1) := dc_46 (sg_at zd_dX6_bringWave_130 0 rfl rfl)
theorem dX6_bringWave_131 : decode cX6_bringWave 131 = .ok (.iconst 1, 1) := dc_4 (sg_at zd_dX6_bringWave_130 1 rfl rfl)
theorem dX6_bringWave_132 : decode cX6_bringWave 132 = .ok (.iadd, 1) := dc_96 (sg_at zd_dX6_bringWave_130 2 rfl rfl)
theorem dX6_bringWave_133 : decode cX6_bringWave 133 = .ok (.iastore, 1) := dc_79 (sg_at zd_dX6_bringWave_130 3 rfl rfl)
theorem dX6_bringWave_134 : decode cX6_bringWave 134 = .ok (.aload_n 1, 1) := dc_43 (sg_at zd_dX6_bringWave_130 4 rfl rfl)
theorem dX6_bringWave_135 : decode cX6_bringWave 135 = .ok (.getfield 202, 3) := dc_180 (sg_at zd_dX6_bringWave_130 5 rfl rfl) rfl
theorem dX6_bringWave_138 : decode cX6_bringWave 138 = .ok (.iload 6, 2) := dc_21 (sg_at zd_dX6_bringWave_130 6 rfl rfl)
theorem dX6_bringWave_140 : decode cX6_bringWave 140 = .ok (.dup2, 1) := dc_92 (sg_at zd_dX6_bringWave_130 7 rfl rfl)
theorem dX6_bringWave_141 : decode cX6_bringWave 141 = .ok (.iaload, 1) := dc_46 (sg_at zd_dX6_bringWave_130 8 rfl rfl)
theorem dX6_bringWave_142 : decode cX6_bringWave 142 = .ok (.iconst 1, 1) := dc_4 (sg_at zd_dX6_bringWave_130 9 rfl rfl)
theorem dX6_bringWave_143 : decode cX6_bringWave 143 = .ok (.iadd, 1) := dc_96 (sg_at zd_dX6_bringWave_130 10 rfl rfl)
theorem dX6_bringWave_144 : decode cX6_bringWave 144 = .ok (.iastore, 1) := dc_79 (sg_at zd_dX6_bringWave_130 11 rfl rfl)
theorem dX6_bringWave_145 : decode cX6_bringWave 145 = .ok (.aload_n 0, 1) := dc_42 (sg_at zd_dX6_bringWave_130 12 rfl rfl)
theorem dX6_bringWave_146 : decode cX6_bringWave 146 = .ok (.aload_n 1, 1) := dc_43 (sg_at zd_dX6_bringWave_130 13 rfl rfl)
theorem dX6_bringWave_147 : decode cX6_bringWave 147 = .ok (.iload 5, 2) := dc_21 (sg_at zd_dX6_bringWave_130 14 rfl rfl)
theorem dX6_bringWave_149 : decode cX6_bringWave 149 = .ok (.iload_n 2, 1) := dc_28 (sg_at zd_dX6_bringWave_130 15 rfl rfl)
theorem dX6_bringWave_150 : decode cX6_bringWave 150 = .ok (.iconst 2, 1) := dc_5 (sg_at zd_dX6_bringWave_130 16 rfl rfl)
theorem dX6_bringWave_151 : decode cX6_bringWave 151 = .ok (.invokevirtual 195, 3) := dc_182 (sg_at zd_dX6_bringWave_130 17 rfl rfl) rfl
theorem dX6_bringWave_154 : decode cX6_bringWave 154 = .ok (.aload_n 0, 1) := dc_42 (sg_at zd_dX6_bringWave_130 18 rfl rfl)
theorem dX6_bringWave_155 : decode cX6_bringWave 155 = .ok (.aload_n 1, 1) := dc_43 (sg_at zd_dX6_bringWave_130 19 rfl rfl)
theorem zd_dX6_bringWave_156 : sg (cX6_bringWave.data.toList.drop 156) [[21, 6], [28], [5], [182, 0, 195], [177]] = true := by decide +kernel
theorem dX6_bringWave_156 : decode cX6_bringWave 156 = .ok (.iload 6, 2) := dc_21 (sg_at zd_dX6_bringWave_156 0 rfl rfl)
theorem dX6_bringWave_158 : decode cX6_bringWave 158 = .ok (.iload_n 2, 1) := dc_28 (sg_at zd_dX6_bringWave_156 1 rfl rfl)
theorem dX6_bringWave_159 : decode cX6_bringWave 159 = .ok (.iconst 2, 1) := dc_5 (sg_at zd_dX6_bringWave_156 2 rfl rfl)
theorem dX6_bringWave_160 : decode cX6_bringWave 160 = .ok (.invokevirtual 195, 3) := dc_182 (sg_at zd_dX6_bringWave_156 3 rfl rfl) rfl
theorem dX6_bringWave_163 : decode cX6_bringWave 163 = .ok (.return_, 1) := dc_177 (sg_at zd_dX6_bringWave_156 4 rfl rfl)
theorem zd_dX6_catchValue_0 : sg (cX6_catchValue.data.toList.drop 0) [[42], [27], [28], [29], [182, 0, 128], [42], [180, 0, 9], [180, 0, 76], [3], [50], [42], [180, 0, 25], [42], [180, 0, 29], [182, 0, 80], [173]] = true := by decide +kernel
theorem dX6_catchValue_0 : decode cX6_catchValue 0 = .ok (.aload_n 0, 1) := dc_42 (sg_at zd_dX6_catchValue_0 0 rfl rfl)
theorem dX6_catchValue_1 : decode cX6_catchValue 1 = .ok (.iload_n 1, 1) := dc_27 (sg_at zd_dX6_catchValue_0 1 rfl rfl)
theorem dX6_catchValue_2 : decode cX6_catchValue 2 = .ok (.iload_n 2, 1) := dc_28 (sg_at zd_dX6_catchValue_0 2 rfl rfl)
theorem dX6_catchValue_3 : decode cX6_catchValue 3 = .ok (.iload_n 3, 1) := dc_29 (sg_at zd_dX6_catchValue_0 3 rfl rfl)
theorem dX6_catchValue_4 : decode cX6_catchValue 4 = .ok (.invokevirtual 128, 3) := dc_182 (sg_at zd_dX6_catchValue_0 4 rfl rfl) rfl
theorem dX6_catchValue_7 : decode cX6_catchValue 7 = .ok (.aload_n 0, 1) := dc_42 (sg_at zd_dX6_catchValue_0 5 rfl rfl)
theorem dX6_catchValue_8 : decode cX6_catchValue 8 = .ok (.getfield 9, 3) := dc_180 (sg_at zd_dX6_catchValue_0 6 rfl rfl) rfl
theorem dX6_catchValue_11 : decode cX6_catchValue 11 = .ok (.getfield 76, 3) := dc_180 (sg_at zd_dX6_catchValue_0 7 rfl rfl) rfl
theorem dX6_catchValue_14 : decode cX6_catchValue 14 = .ok (.iconst 0, 1) := dc_3 (sg_at zd_dX6_catchValue_0 8 rfl rfl)
theorem dX6_catchValue_15 : decode cX6_catchValue 15 = .ok (.aaload, 1) := dc_50 (sg_at zd_dX6_catchValue_0 9 rfl rfl)
theorem dX6_catchValue_16 : decode cX6_catchValue 16 = .ok (.aload_n 0, 1) := dc_42 (sg_at zd_dX6_catchValue_0 10 rfl rfl)
theorem dX6_catchValue_17 : decode cX6_catchValue 17 = .ok (.getfield 25, 3) := dc_180 (sg_at zd_dX6_catchValue_0 11 rfl rfl) rfl
theorem dX6_catchValue_20 : decode cX6_catchValue 20 = .ok (.aload_n 0, 1) := dc_42 (sg_at zd_dX6_catchValue_0 12 rfl rfl)
theorem dX6_catchValue_21 : decode cX6_catchValue 21 = .ok (.getfield 29, 3) := dc_180 (sg_at zd_dX6_catchValue_0 13 rfl rfl) rfl
theorem dX6_catchValue_24 : decode cX6_catchValue 24 = .ok (.invokevirtual 80, 3) := dc_182 (sg_at zd_dX6_catchValue_0 14 rfl rfl) rfl
theorem dX6_catchValue_27 : decode cX6_catchValue 27 = .ok (.lreturn, 1) := dc_173 (sg_at zd_dX6_catchValue_0 15 rfl rfl)
theorem zd_dX6_crossingOdds_0 : sg (cX6_crossingOdds.data.toList.drop 0) [[42], [43], [29], [43], [180, 0, 215], [182, 0, 182], [54, 4], [42], [43], [28], [29], [182, 0, 175], [54, 5], [16, 100], [54, 6], [3], [54, 7], [21, 7], [21, 4], [162, 0, 66]] = true := by decide +kernel
theorem dX6_crossingOdds_0 : decode cX6_crossingOdds 0 = .ok (.aload_n 0, 1) := dc_42 (sg_at zd_dX6_crossingOdds_0 0 rfl rfl)
theorem dX6_crossingOdds_1 : decode cX6_crossingOdds 1 = .ok (.aload_n 1, 1) := dc_43 (sg_at zd_dX6_crossingOdds_0 1 rfl rfl)
theorem dX6_crossingOdds_2 : decode cX6_crossingOdds 2 = .ok (.iload_n 3, 1) := dc_29 (sg_at zd_dX6_crossingOdds_0 2 rfl rfl)
theorem dX6_crossingOdds_3 : decode cX6_crossingOdds 3 = .ok (.aload_n 1, 1) := dc_43 (sg_at zd_dX6_crossingOdds_0 3 rfl rfl)
theorem dX6_crossingOdds_4 : decode cX6_crossingOdds 4 = .ok (.getfield 215, 3) := dc_180 (sg_at zd_dX6_crossingOdds_0 4 rfl rfl) rfl
theorem dX6_crossingOdds_7 : decode cX6_crossingOdds 7 = .ok (.invokevirtual 182, 3) := dc_182 (sg_at zd_dX6_crossingOdds_0 5 rfl rfl) rfl
theorem dX6_crossingOdds_10 : decode cX6_crossingOdds 10 = .ok (.istore 4, 2) := dc_54 (sg_at zd_dX6_crossingOdds_0 6 rfl rfl)
theorem dX6_crossingOdds_12 : decode cX6_crossingOdds 12 = .ok (.aload_n 0, 1) := dc_42 (sg_at zd_dX6_crossingOdds_0 7 rfl rfl)
theorem dX6_crossingOdds_13 : decode cX6_crossingOdds 13 = .ok (.aload_n 1, 1) := dc_43 (sg_at zd_dX6_crossingOdds_0 8 rfl rfl)
theorem dX6_crossingOdds_14 : decode cX6_crossingOdds 14 = .ok (.iload_n 2, 1) := dc_28 (sg_at zd_dX6_crossingOdds_0 9 rfl rfl)
theorem dX6_crossingOdds_15 : decode cX6_crossingOdds 15 = .ok (.iload_n 3, 1) := dc_29 (sg_at zd_dX6_crossingOdds_0 10 rfl rfl)
theorem dX6_crossingOdds_16 : decode cX6_crossingOdds 16 = .ok (.invokevirtual 175, 3) := dc_182 (sg_at zd_dX6_crossingOdds_0 11 rfl rfl) rfl
theorem dX6_crossingOdds_19 : decode cX6_crossingOdds 19 = .ok (.istore 5, 2) := dc_54 (sg_at zd_dX6_crossingOdds_0 12 rfl rfl)
theorem dX6_crossingOdds_21 : decode cX6_crossingOdds 21 = .ok (.bipush 100, 2) := dc_16 (sg_at zd_dX6_crossingOdds_0 13 rfl rfl) rfl
theorem dX6_crossingOdds_23 : decode cX6_crossingOdds 23 = .ok (.istore 6, 2) := dc_54 (sg_at zd_dX6_crossingOdds_0 14 rfl rfl)
theorem dX6_crossingOdds_25 : decode cX6_crossingOdds 25 = .ok (.iconst 0, 1) := dc_3 (sg_at zd_dX6_crossingOdds_0 15 rfl rfl)
theorem dX6_crossingOdds_26 : decode cX6_crossingOdds 26 = .ok (.istore 7, 2) := dc_54 (sg_at zd_dX6_crossingOdds_0 16 rfl rfl)
theorem dX6_crossingOdds_28 : decode cX6_crossingOdds 28 = .ok (.iload 7, 2) := dc_21 (sg_at zd_dX6_crossingOdds_0 17 rfl rfl)
theorem dX6_crossingOdds_30 : decode cX6_crossingOdds 30 = .ok (.iload 4, 2) := dc_21 (sg_at zd_dX6_crossingOdds_0 18 rfl rfl)
theorem dX6_crossingOdds_32 : decode cX6_crossingOdds 32 = .ok (.if_icmp .ge 66, 3) := dc_162 (sg_at zd_dX6_crossingOdds_0 19 rfl rfl) rfl
theorem zd_dX6_crossingOdds_35 : sg (cX6_crossingOdds.data.toList.drop 35) [[42], [180, 0, 32], [21, 7], [46], [54, 8], [42], [180, 0, 38], [21, 8], [46], [21, 5], [163, 0, 21], [42], [180, 0, 38], [21, 8], [46], [21, 5], [160, 0, 27], [21, 8], [28], [164, 0, 21]] = true := by decide +kernel
theorem dX6_crossingOdds_35 : decode cX6_crossingOdds 35 = .ok (.aload_n 0, 1) := dc_42 (sg_at zd_dX6_crossingOdds_35 0 rfl rfl)
theorem dX6_crossingOdds_36 : decode cX6_crossingOdds 36 = .ok (.getfield 32, 3) := dc_180 (sg_at zd_dX6_crossingOdds_35 1 rfl rfl) rfl
theorem dX6_crossingOdds_39 : decode cX6_crossingOdds 39 = .ok (.iload 7, 2) := dc_21 (sg_at zd_dX6_crossingOdds_35 2 rfl rfl)
theorem dX6_crossingOdds_41 : decode cX6_crossingOdds 41 = .ok (.iaload, 1) := dc_46 (sg_at zd_dX6_crossingOdds_35 3 rfl rfl)
theorem dX6_crossingOdds_42 : decode cX6_crossingOdds 42 = .ok (.istore 8, 2) := dc_54 (sg_at zd_dX6_crossingOdds_35 4 rfl rfl)
theorem dX6_crossingOdds_44 : decode cX6_crossingOdds 44 = .ok (.aload_n 0, 1) := dc_42 (sg_at zd_dX6_crossingOdds_35 5 rfl rfl)
theorem dX6_crossingOdds_45 : decode cX6_crossingOdds 45 = .ok (.getfield 38, 3) := dc_180 (sg_at zd_dX6_crossingOdds_35 6 rfl rfl) rfl
theorem dX6_crossingOdds_48 : decode cX6_crossingOdds 48 = .ok (.iload 8, 2) := dc_21 (sg_at zd_dX6_crossingOdds_35 7 rfl rfl)
theorem dX6_crossingOdds_50 : decode cX6_crossingOdds 50 = .ok (.iaload, 1) := dc_46 (sg_at zd_dX6_crossingOdds_35 8 rfl rfl)
theorem dX6_crossingOdds_51 : decode cX6_crossingOdds 51 = .ok (.iload 5, 2) := dc_21 (sg_at zd_dX6_crossingOdds_35 9 rfl rfl)
theorem dX6_crossingOdds_53 : decode cX6_crossingOdds 53 = .ok (.if_icmp .gt 21, 3) := dc_163 (sg_at zd_dX6_crossingOdds_35 10 rfl rfl) rfl
theorem dX6_crossingOdds_56 : decode cX6_crossingOdds 56 = .ok (.aload_n 0, 1) := dc_42 (sg_at zd_dX6_crossingOdds_35 11 rfl rfl)
theorem dX6_crossingOdds_57 : decode cX6_crossingOdds 57 = .ok (.getfield 38, 3) := dc_180 (sg_at zd_dX6_crossingOdds_35 12 rfl rfl) rfl
theorem dX6_crossingOdds_60 : decode cX6_crossingOdds 60 = .ok (.iload 8, 2) := dc_21 (sg_at zd_dX6_crossingOdds_35 13 rfl rfl)
theorem dX6_crossingOdds_62 : decode cX6_crossingOdds 62 = .ok (.iaload, 1) := dc_46 (sg_at zd_dX6_crossingOdds_35 14 rfl rfl)
theorem dX6_crossingOdds_63 : decode cX6_crossingOdds 63 = .ok (.iload 5, 2) := dc_21 (sg_at zd_dX6_crossingOdds_35 15 rfl rfl)
theorem dX6_crossingOdds_65 : decode cX6_crossingOdds 65 = .ok (.if_icmp .ne 27, 3) := dc_160 (sg_at zd_dX6_crossingOdds_35 16 rfl rfl) rfl
theorem dX6_crossingOdds_68 : decode cX6_crossingOdds 68 = .ok (.iload 8, 2) := dc_21 (sg_at zd_dX6_crossingOdds_35 17 rfl rfl)
theorem dX6_crossingOdds_70 : decode cX6_crossingOdds 70 = .ok (.iload_n 2, 1) := dc_28 (sg_at zd_dX6_crossingOdds_35 18 rfl rfl)
theorem dX6_crossingOdds_71 : decode cX6_crossingOdds 71 = .ok (.if_icmp .le 21, 3) := dc_164 (sg_at zd_dX6_crossingOdds_35 19 rfl rfl) rfl
theorem zd_dX6_crossingOdds_74 : sg (cX6_crossingOdds.data.toList.drop 74) [[21, 6], [16, 100], [42], [180, 0, 19], [21, 8], [46], [100], [104], [16, 100], [108], [54, 6], [132, 7, 1], [167, 255, 189], [16, 100], [21, 6], [100], [172]] = true := by decide +kernel
theorem dX6_crossingOdds_74 : decode cX6_crossingOdds 74 = .ok (.iload 6, 2) := dc_21 (sg_at zd_dX6_crossingOdds_74 0 rfl rfl)
theorem dX6_crossingOdds_76 : decode cX6_crossingOdds 76 = .ok (.bipush 100, 2) := dc_16 (sg_at zd_dX6_crossingOdds_74 1 rfl rfl) rfl
theorem dX6_crossingOdds_78 : decode cX6_crossingOdds 78 = .ok (.aload_n 0, 1) := dc_42 (sg_at zd_dX6_crossingOdds_74 2 rfl rfl)
theorem dX6_crossingOdds_79 : decode cX6_crossingOdds 79 = .ok (.getfield 19, 3) := dc_180 (sg_at zd_dX6_crossingOdds_74 3 rfl rfl) rfl
theorem dX6_crossingOdds_82 : decode cX6_crossingOdds 82 = .ok (.iload 8, 2) := dc_21 (sg_at zd_dX6_crossingOdds_74 4 rfl rfl)
theorem dX6_crossingOdds_84 : decode cX6_crossingOdds 84 = .ok (.iaload, 1) := dc_46 (sg_at zd_dX6_crossingOdds_74 5 rfl rfl)
theorem dX6_crossingOdds_85 : decode cX6_crossingOdds 85 = .ok (.isub, 1) := dc_100 (sg_at zd_dX6_crossingOdds_74 6 rfl rfl)
theorem dX6_crossingOdds_86 : decode cX6_crossingOdds 86 = .ok (.imul, 1) := dc_104 (sg_at zd_dX6_crossingOdds_74 7 rfl rfl)
theorem dX6_crossingOdds_87 : decode cX6_crossingOdds 87 = .ok (.bipush 100, 2) := dc_16 (sg_at zd_dX6_crossingOdds_74 8 rfl rfl) rfl
theorem dX6_crossingOdds_89 : decode cX6_crossingOdds 89 = .ok (.idiv, 1) := dc_108 (sg_at zd_dX6_crossingOdds_74 9 rfl rfl)
theorem dX6_crossingOdds_90 : decode cX6_crossingOdds 90 = .ok (.istore 6, 2) := dc_54 (sg_at zd_dX6_crossingOdds_74 10 rfl rfl)
theorem dX6_crossingOdds_92 : decode cX6_crossingOdds 92 = .ok (.iinc 7 1, 3) := dc_132 (sg_at zd_dX6_crossingOdds_74 11 rfl rfl) rfl
theorem dX6_crossingOdds_95 : decode cX6_crossingOdds 95 = .ok (.goto (-67), 3) := dc_167 (sg_at zd_dX6_crossingOdds_74 12 rfl rfl) rfl
theorem dX6_crossingOdds_98 : decode cX6_crossingOdds 98 = .ok (.bipush 100, 2) := dc_16 (sg_at zd_dX6_crossingOdds_74 13 rfl rfl) rfl
theorem dX6_crossingOdds_100 : decode cX6_crossingOdds 100 = .ok (.iload 6, 2) := dc_21 (sg_at zd_dX6_crossingOdds_74 14 rfl rfl)
theorem dX6_crossingOdds_102 : decode cX6_crossingOdds 102 = .ok (.isub, 1) := dc_100 (sg_at zd_dX6_crossingOdds_74 15 rfl rfl)
theorem dX6_crossingOdds_103 : decode cX6_crossingOdds 103 = .ok (.ireturn, 1) := dc_172 (sg_at zd_dX6_crossingOdds_74 16 rfl rfl)
theorem zd_dX6_driftValue_0 : sg (cX6_driftValue.data.toList.drop 0) [[3], [61], [28], [16, 6], [162, 0, 16], [42], [180, 0, 25], [28], [9], [80], [132, 2, 1], [167, 255, 240], [42], [180, 0, 25], [7], [27], [133], [80], [42], [180, 0, 9]] = true := by decide +kernel
theorem dX6_driftValue_0 : decode cX6_driftValue 0 = .ok (.iconst 0, 1) := dc_3 (sg_at zd_dX6_driftValue_0 0 rfl rfl)
theorem dX6_driftValue_1 : decode cX6_driftValue 1 = .ok (.istore_n 2, 1) := dc_61 (sg_at zd_dX6_driftValue_0 1 rfl rfl)
theorem dX6_driftValue_2 : decode cX6_driftValue 2 = .ok (.iload_n 2, 1) := dc_28 (sg_at zd_dX6_driftValue_0 2 rfl rfl)
theorem dX6_driftValue_3 : decode cX6_driftValue 3 = .ok (.bipush 6, 2) := dc_16 (sg_at zd_dX6_driftValue_0 3 rfl rfl) rfl
theorem dX6_driftValue_5 : decode cX6_driftValue 5 = .ok (.if_icmp .ge 16, 3) := dc_162 (sg_at zd_dX6_driftValue_0 4 rfl rfl) rfl
theorem dX6_driftValue_8 : decode cX6_driftValue 8 = .ok (.aload_n 0, 1) := dc_42 (sg_at zd_dX6_driftValue_0 5 rfl rfl)
theorem dX6_driftValue_9 : decode cX6_driftValue 9 = .ok (.getfield 25, 3) := dc_180 (sg_at zd_dX6_driftValue_0 6 rfl rfl) rfl
theorem dX6_driftValue_12 : decode cX6_driftValue 12 = .ok (.iload_n 2, 1) := dc_28 (sg_at zd_dX6_driftValue_0 7 rfl rfl)
theorem dX6_driftValue_13 : decode cX6_driftValue 13 = .ok (.lconst 0, 1) := dc_9 (sg_at zd_dX6_driftValue_0 8 rfl rfl)
theorem dX6_driftValue_14 : decode cX6_driftValue 14 = .ok (.lastore, 1) := dc_80 (sg_at zd_dX6_driftValue_0 9 rfl rfl)
theorem dX6_driftValue_15 : decode cX6_driftValue 15 = .ok (.iinc 2 1, 3) := dc_132 (sg_at zd_dX6_driftValue_0 10 rfl rfl) rfl
theorem dX6_driftValue_18 : decode cX6_driftValue 18 = .ok (.goto (-16), 3) := dc_167 (sg_at zd_dX6_driftValue_0 11 rfl rfl) rfl
theorem dX6_driftValue_21 : decode cX6_driftValue 21 = .ok (.aload_n 0, 1) := dc_42 (sg_at zd_dX6_driftValue_0 12 rfl rfl)
theorem dX6_driftValue_22 : decode cX6_driftValue 22 = .ok (.getfield 25, 3) := dc_180 (sg_at zd_dX6_driftValue_0 13 rfl rfl) rfl
theorem dX6_driftValue_25 : decode cX6_driftValue 25 = .ok (.iconst 4, 1) := dc_7 (sg_at zd_dX6_driftValue_0 14 rfl rfl)
theorem dX6_driftValue_26 : decode cX6_driftValue 26 = .ok (.iload_n 1, 1) := dc_27 (sg_at zd_dX6_driftValue_0 15 rfl rfl)
theorem dX6_driftValue_27 : decode cX6_driftValue 27 = .ok (.i2l, 1) := dc_133 (sg_at zd_dX6_driftValue_0 16 rfl rfl)
theorem dX6_driftValue_28 : decode cX6_driftValue 28 = .ok (.lastore, 1) := dc_80 (sg_at zd_dX6_driftValue_0 17 rfl rfl)
theorem dX6_driftValue_29 : decode cX6_driftValue 29 = .ok (.aload_n 0, 1) := dc_42 (sg_at zd_dX6_driftValue_0 18 rfl rfl)
theorem dX6_driftValue_30 : decode cX6_driftValue 30 = .ok (.getfield 9, 3) := dc_180 (sg_at zd_dX6_driftValue_0 19 rfl rfl) rfl
theorem zd_dX6_driftValue_33 : sg (cX6_driftValue.data.toList.drop 33) [[180, 0, 76], [4], [50], [42], [180, 0, 25], [42], [180, 0, 29], [182, 0, 80], [173]] = true := by decide +kernel
theorem dX6_driftValue_33 : decode cX6_driftValue 33 = .ok (.getfield 76, 3) := dc_180 (sg_at zd_dX6_driftValue_33 0 rfl rfl) rfl
theorem dX6_driftValue_36 : decode cX6_driftValue 36 = .ok (.iconst 1, 1) := dc_4 (sg_at zd_dX6_driftValue_33 1 rfl rfl)
theorem dX6_driftValue_37 : decode cX6_driftValue 37 = .ok (.aaload, 1) := dc_50 (sg_at zd_dX6_driftValue_33 2 rfl rfl)
theorem dX6_driftValue_38 : decode cX6_driftValue 38 = .ok (.aload_n 0, 1) := dc_42 (sg_at zd_dX6_driftValue_33 3 rfl rfl)
theorem dX6_driftValue_39 : decode cX6_driftValue 39 = .ok (.getfield 25, 3) := dc_180 (sg_at zd_dX6_driftValue_33 4 rfl rfl) rfl
theorem dX6_driftValue_42 : decode cX6_driftValue 42 = .ok (.aload_n 0, 1) := dc_42 (sg_at zd_dX6_driftValue_33 5 rfl rfl)
theorem dX6_driftValue_43 : decode cX6_driftValue 43 = .ok (.getfield 29, 3) := dc_180 (sg_at zd_dX6_driftValue_33 6 rfl rfl) rfl
theorem dX6_driftValue_46 : decode cX6_driftValue 46 = .ok (.invokevirtual 80, 3) := dc_182 (sg_at zd_dX6_driftValue_33 7 rfl rfl) rfl
theorem dX6_driftValue_49 : decode cX6_driftValue 49 = .ok (.lreturn, 1) := dc_173 (sg_at zd_dX6_driftValue_33 8 rfl rfl)
section
variable {p : Program} {l : Launch} {e : Env} {s : State} {m : MethodId} {args : Array Value} {below : List Frame} {meth : Method} {c : Code} {D : va_G} {cy : Nat → ClassId} {b : Nat} {A : Nat → Prop} {fl : Bool}
def vX5_readSeed : List Cond := .code yX5_readSeed cX5_readSeed 2 (some .boolean) :: TB
theorem gX5_readSeed_X5_isFirst : GoodIn vX5_readSeed (wsV RX5 100 RX5 yX5_isFirst vX5_isFirst) := gV_of wT_17_21 wT_17_22 wT_17_23 wT_1_22 wT_18_0
theorem gX5_readSeed_X5_numberIn : GoodIn vX5_readSeed (wsV RX5 103 RX5 yX5_numberIn vX5_numberIn) := gV_of wT_18_6 wT_18_7 wT_18_8 wT_1_22 wT_18_9
theorem lf5_readSeed_9 : Fl vX5_readSeed RX5 9 5 10 := ⟨RX5, TX5, 11, rfl, by decide, (fun w h9 => List.mem_cons_of_mem _ (wC_wsX50 w h9)), (List.mem_cons_of_mem _ wT_4_23)⟩
theorem lp5_readSeed_169 : Pl vX5_readSeed RX5 169 8 10 .int := ⟨RX8, TX8, 14, tyX8, rfl, by decide, (fun w h9 => List.mem_cons_of_mem _ (wC_wsX80 w h9)), (List.mem_cons_of_mem _ wT_21_7), tyX8_ok, nmX8, rfl, rfl⟩
theorem gX5_readSeed_X5_readStop : GoodIn vX5_readSeed (wsV RX5 112 RX5 yX5_readStop vX5_readStop) := gV_of wT_18_15 wT_18_16 wT_18_17 wT_1_22 wT_18_18
theorem cd5_readSeed : Cd yX5_readSeed 0 := ⟨by decide, by decide, by decide +kernel⟩
set_option maxHeartbeats 4000000 in
set_option maxRecDepth 100000 in
theorem T5_readSeed_0 (S : CallFix p m c cX5_readSeed 2 s args vX5_readSeed RX5) (hr : meth.sig.returnType = (some .boolean)) (hlo : meth.locks = false) {out : Int32 × PH} {h : PH} {a0 : Nat} (f : F5_readSeed_0  h a0 = some out) {H : Heap} {locs : List Loc} (I : ph_I D cy b A fl h s H locs) {ls : Array Slot} (hl : lv_has ls 2 [(0, .ref (b + a0))]) : W p l e ({ frames := 4, cells := 0, slots := 0, locals := 86 } : Room) s m args below meth c H locs 0 0 (MQ below (va_Qi (fun (r : Int32) (u : PH) => (r, u) = out) (ph_B D cy b A fl) A) args s 0 0 A) (F0 m 0 ls []) := by
  unfold F5_readSeed_0 at f
  refine lv_aload_n S.1 S.2.1 dX5_readSeed_0 rfl (lv_at hl 0 rfl) ?_
  refine lv_bipush (v := 6) S.1 S.2.1 dX5_readSeed_1 (by decide) ?_
  obtain ⟨o1, e2, f⟩ := ob f
  refine o_Vi S (As := [.int 6]) (rest := []) (ci := 5) (M5_isFirst l D cy b A fl e2) gX5_readSeed_X5_isFirst rfl rfl rfl cd5_isFirst ⟨Nat.le_of_ble_eq_true rfl, Nat.le_of_ble_eq_true rfl⟩ I (gd e2).1 clX5 rfl rfl hl.1 rfl (Nat.le_of_ble_eq_true rfl) dX5_readSeed_3 ⟨Nat.le_of_ble_eq_true rfl, Nat.le_of_ble_eq_true rfl⟩ (fun H locs I => ?_)
  refine lv_if_ne (tgt := 11) S.1 S.2.1 dX5_readSeed_6 (by decide) (fun q3 => ?_) (fun q3 => ?_)
  · have f := (if_neg q3).symm.trans f
    refine lv_aload_n S.1 S.2.1 dX5_readSeed_11 rfl (lv_at hl 0 rfl) ?_
    refine lv_iconst (v := 0) S.1 S.2.1 dX5_readSeed_12 (by decide) ?_
    refine lv_ldc (v := 99999) S.1 S.2.1 S.2.2.2.1 (S.2.2.2.2 _ (List.mem_cons_of_mem _ wT_21_6)) dX5_readSeed_13 ?_
    obtain ⟨o4, e5, f⟩ := ob f
    refine o_Vi S (As := [.int 0, .int 99999]) (rest := []) (ci := 5) (M5_numberIn l D cy b A fl e5) gX5_readSeed_X5_numberIn rfl rfl rfl cd5_numberIn ⟨Nat.le_of_ble_eq_true rfl, Nat.le_of_ble_eq_true rfl⟩ I (gd e5).1 clX5 rfl rfl hl.1 rfl (Nat.le_of_ble_eq_true rfl) dX5_readSeed_15 ⟨Nat.le_of_ble_eq_true rfl, Nat.le_of_ble_eq_true rfl⟩ (fun H locs I => ?_)
    refine lv_istore_n (lv' := [(1, .int o4.1), (0, .ref (b + a0))]) S.1 S.2.1 dX5_readSeed_18 rfl hl (by decide) rfl (fun ls hl => ?_)
    refine lv_iload_n S.1 S.2.1 dX5_readSeed_19 rfl (lv_at hl 0 rfl) ?_
    refine lv_iconst (v := (-1)) S.1 S.2.1 dX5_readSeed_20 (by decide) ?_
    refine lv_icmp_ne (tgt := 26) S.1 S.2.1 dX5_readSeed_21 (by decide) (fun q6 => ?_) (fun q6 => ?_)
    · have f := (if_neg q6).symm.trans f
      refine lv_aload_n S.1 S.2.1 dX5_readSeed_26 rfl (lv_at hl 1 rfl) ?_
      obtain ⟨r7, e8, f⟩ := ob f
      refine o_gR S lf5_readSeed_9 I e8 dX5_readSeed_27 ?_
      refine lv_iload_n S.1 S.2.1 dX5_readSeed_30 rfl (lv_at hl 0 rfl) ?_
      obtain ⟨h9, e10, f⟩ := ob f
      refine o_pI S lp5_readSeed_169 I e10 dX5_readSeed_31 (fun H locs I => ?_)
      refine lv_aload_n S.1 S.2.1 dX5_readSeed_34 rfl (lv_at hl 1 rfl) ?_
      obtain ⟨o11, e12, f⟩ := ob f
      refine o_Vi S (As := []) (rest := []) (ci := 5) (M5_readStop l D cy b A fl e12) gX5_readSeed_X5_readStop rfl rfl rfl cd5_readStop ⟨Nat.le_of_ble_eq_true rfl, Nat.le_of_ble_eq_true rfl⟩ I (gd e12).1 clX5 rfl rfl hl.1 rfl (Nat.le_of_ble_eq_true rfl) dX5_readSeed_35 ⟨Nat.le_of_ble_eq_true rfl, Nat.le_of_ble_eq_true rfl⟩ (fun H locs I => ?_)
      exact o_zret S hr hlo I f dX5_readSeed_38
    · have f := (if_pos q6).symm.trans f
      refine lv_iconst (v := 0) S.1 S.2.1 dX5_readSeed_24 (by decide) ?_
      exact o_zret S hr hlo I f dX5_readSeed_25
  · have f := (if_pos q3).symm.trans f
    refine lv_iconst (v := 0) S.1 S.2.1 dX5_readSeed_9 (by decide) ?_
    exact o_zret S hr hlo I f dX5_readSeed_10
theorem M5_readSeed (l : Launch) (D : va_G) (cy : Nat → ClassId) (b : Nat) (A : Nat → Prop) (fl : Bool) {h : PH} {a0 : Nat} {out : Int32 × PH} (f : F5_readSeed h a0 = some out) : Met l yX5_readSeed vX5_readSeed ({ frames := 4, cells := 0, slots := 0, locals := 86 } : Room) (va_Pc [.ref (b + a0)] (ph_B D cy b A fl h)) (va_Qi (fun (r : Int32) (u : PH) => (r, u) = out) (ph_B D cy b A fl) A) 0 0 A :=
  o_met (by decide) rfl (Nat.le_of_ble_eq_true rfl) rfl (fun p e s m below meth c S hr hlo hnm ls hl I => T5_readSeed_0 S hr hlo ((gd f).2) I (lv_sub hl [0] rfl))
def vX5_readKind : List Cond := .code yX5_readKind cX5_readKind 2 (some (.object "WhoseWave$Law")) :: TB
theorem gX5_readKind_X5_refuse : GoodIn vX5_readKind (wsV RX5 89 RX5 yX5_refuse vX5_refuse) := gV_of wT_18_1 wT_18_2 wT_18_3 wT_1_22 wT_18_4
theorem lf5_readKind_18 : Fl vX5_readKind RX5 18 5 0 := ⟨RX5, TX5, 11, rfl, by decide, (fun w h9 => List.mem_cons_of_mem _ (wC_wsX50 w h9)), (List.mem_cons_of_mem _ wT_5_3)⟩
theorem gX5_readKind_X7_advance : GoodIn vX5_readKind (wsV RX5 49 RX7 yX7_advance vX7_advance) := gV_of wT_15_21 wT_15_22 wT_15_23 wT_5_2 wT_16_0
theorem lf5_readKind_52 : Fl vX5_readKind RX5 52 7 4 := ⟨RX7, TX7, 7, rfl, by decide, (fun w h9 => List.mem_cons_of_mem _ (wC_wsX70 w h9)), (List.mem_cons_of_mem _ wT_14_7)⟩
theorem lf5_readKind_9 : Fl vX5_readKind RX5 9 5 10 := ⟨RX5, TX5, 11, rfl, by decide, (fun w h9 => List.mem_cons_of_mem _ (wC_wsX50 w h9)), (List.mem_cons_of_mem _ wT_4_23)⟩
theorem lf5_readKind_172 : Fl vX5_readKind RX5 172 8 11 := ⟨RX8, TX8, 14, rfl, by decide, (fun w h9 => List.mem_cons_of_mem _ (wC_wsX80 w h9)), (List.mem_cons_of_mem _ wT_21_20)⟩
theorem lf5_readKind_176 : Fl vX5_readKind RX5 176 2 2 := ⟨RX2, TX2, 3, rfl, by decide, (fun w h9 => List.mem_cons_of_mem _ (wC_wsX20 w h9)), (List.mem_cons_of_mem _ wT_21_21)⟩
theorem lp5_readKind_176 : Pl vX5_readKind RX5 176 2 2 .boolean := ⟨RX2, TX2, 3, tyX2, rfl, by decide, (fun w h9 => List.mem_cons_of_mem _ (wC_wsX20 w h9)), (List.mem_cons_of_mem _ wT_21_21), tyX2_ok, nmX2, rfl, rfl⟩
theorem cd5_readKind : Cd yX5_readKind 0 := ⟨by decide, by decide, by decide +kernel⟩
set_option maxHeartbeats 4000000 in
set_option maxRecDepth 100000 in
theorem T5_readKind_27 (S : CallFix p m c cX5_readKind 2 s args vX5_readKind RX5) (hr : meth.sig.returnType = (some (.object "WhoseWave$Law"))) (hlo : meth.locks = false) {out : Option Nat × PH} {h : PH} {a0 : Nat} (f : F5_readKind_27  h a0 = some out) {H : Heap} {locs : List Loc} (I : ph_I D cy b A fl h s H locs) {ls : Array Slot} (hl : lv_has ls 2 [(0, .ref (b + a0))]) : W p l e ({ frames := 3, cells := 0, slots := 0, locals := 64 } : Room) s m args below meth c H locs 0 0 (MQ below (va_Qq (fun (r : Option Nat) (u : PH) => (r, u) = (out.1.map (fun x => b + x), out.2)) (ph_B D cy b A fl) A) args s 0 0 A) (F0 m 27 ls []) := by
  unfold F5_readKind_27 at f
  refine lv_aload_n S.1 S.2.1 dX5_readKind_27 rfl (lv_at hl 0 rfl) ?_
  refine lv_iconst (v := 1) S.1 S.2.1 dX5_readKind_28 (by decide) ?_
  obtain ⟨o1, e2, f⟩ := ob f
  refine o_Vi S (As := [.int 1]) (rest := []) (ci := 5) (M5_refuse l D cy b A fl e2) gX5_readKind_X5_refuse rfl rfl rfl cd5_refuse ⟨Nat.le_of_ble_eq_true rfl, Nat.le_of_ble_eq_true rfl⟩ I (gd e2).1 clX5 rfl rfl hl.1 rfl (Nat.le_of_ble_eq_true rfl) dX5_readKind_29 ⟨Nat.le_of_ble_eq_true rfl, Nat.le_of_ble_eq_true rfl⟩ (fun H locs I => ?_)
  refine lv_pop S.1 S.2.1 dX5_readKind_32 rfl ?_
  refine lv_null S.1 S.2.1 dX5_readKind_33 ?_
  exact o_aretN S hr (Or.inl ⟨_, rfl⟩) hlo I f dX5_readKind_34
set_option maxHeartbeats 4000000 in
set_option maxRecDepth 100000 in
theorem T5_readKind_0 (S : CallFix p m c cX5_readKind 2 s args vX5_readKind RX5) (hr : meth.sig.returnType = (some (.object "WhoseWave$Law"))) (hlo : meth.locks = false) {out : Option Nat × PH} {h : PH} {a0 : Nat} (f : F5_readKind_0  h a0 = some out) {H : Heap} {locs : List Loc} (I : ph_I D cy b A fl h s H locs) {ls : Array Slot} (hl : lv_has ls 2 [(0, .ref (b + a0))]) : W p l e ({ frames := 3, cells := 0, slots := 0, locals := 64 } : Room) s m args below meth c H locs 0 0 (MQ below (va_Qq (fun (r : Option Nat) (u : PH) => (r, u) = (out.1.map (fun x => b + x), out.2)) (ph_B D cy b A fl) A) args s 0 0 A) (F0 m 0 ls []) := by
  unfold F5_readKind_0 at f
  refine lv_aload_n S.1 S.2.1 dX5_readKind_0 rfl (lv_at hl 0 rfl) ?_
  obtain ⟨r1, e2, f⟩ := ob f
  refine o_gR S lf5_readKind_18 I e2 dX5_readKind_1 ?_
  obtain ⟨o3, e4, f⟩ := ob f
  refine o_Vv S (As := []) (rest := []) (ci := 7) (M7_advance l D cy b A fl e4) gX5_readKind_X7_advance rfl rfl rfl cd7_advance ⟨Nat.le_of_ble_eq_true rfl, Nat.le_of_ble_eq_true rfl⟩ I (gd e4).1 clX7 rfl rfl hl.1 rfl (Nat.le_of_ble_eq_true rfl) dX5_readKind_4 ⟨Nat.le_of_ble_eq_true rfl, Nat.le_of_ble_eq_true rfl⟩ (fun H locs I => ?_)
  refine lv_aload_n S.1 S.2.1 dX5_readKind_7 rfl (lv_at hl 0 rfl) ?_
  obtain ⟨r5, e6, f⟩ := ob f
  refine o_gR S lf5_readKind_18 I e6 dX5_readKind_8 ?_
  obtain ⟨v7, e8, f⟩ := ob f
  refine o_gI S lf5_readKind_52 I e8 dX5_readKind_11 ?_
  refine lv_bipush (v := 12) S.1 S.2.1 dX5_readKind_14 (by decide) ?_
  refine lv_isub S.1 S.2.1 dX5_readKind_16 ?_
  refine lv_istore_n (lv' := [(1, .int (v7 - 12)), (0, .ref (b + a0))]) S.1 S.2.1 dX5_readKind_17 rfl hl (by decide) rfl (fun ls hl => ?_)
  refine lv_iload_n S.1 S.2.1 dX5_readKind_18 rfl (lv_at hl 0 rfl) ?_
  refine lv_if_lt (tgt := 27) S.1 S.2.1 dX5_readKind_19 (by decide) (fun q9 => ?_) (fun q9 => ?_)
  · have f := (if_pos q9).symm.trans f
    exact T5_readKind_27 S hr hlo  f I (lv_sub hl [1] rfl)
  · have f := (if_neg q9).symm.trans f
    refine lv_iload_n S.1 S.2.1 dX5_readKind_22 rfl (lv_at hl 0 rfl) ?_
    refine lv_iconst (v := 3) S.1 S.2.1 dX5_readKind_23 (by decide) ?_
    refine lv_icmp_lt (tgt := 35) S.1 S.2.1 dX5_readKind_24 (by decide) (fun q10 => ?_) (fun q10 => ?_)
    · have f := (if_pos q10).symm.trans f
      refine lv_aload_n S.1 S.2.1 dX5_readKind_35 rfl (lv_at hl 1 rfl) ?_
      obtain ⟨r11, e12, f⟩ := ob f
      refine o_gR S lf5_readKind_9 I e12 dX5_readKind_36 ?_
      obtain ⟨r13, e14, f⟩ := ob f
      refine o_gR S lf5_readKind_172 I e14 dX5_readKind_39 ?_
      refine lv_iload_n S.1 S.2.1 dX5_readKind_42 rfl (lv_at hl 0 rfl) ?_
      obtain ⟨r16, e15, f⟩ := ob f
      refine o_aald S I e15 dX5_readKind_43 ?_
      obtain ⟨v17, e18, f⟩ := ob f
      refine o_gI S lf5_readKind_176 I e18 dX5_readKind_44 ?_
      refine lv_if_eq (tgt := 58) S.1 S.2.1 dX5_readKind_47 (by decide) (fun q19 => ?_) (fun q19 => ?_)
      · have f := (if_pos q19).symm.trans f
        refine lv_aload_n S.1 S.2.1 dX5_readKind_58 rfl (lv_at hl 1 rfl) ?_
        obtain ⟨r20, e21, f⟩ := ob f
        refine o_gR S lf5_readKind_9 I e21 dX5_readKind_59 ?_
        obtain ⟨r22, e23, f⟩ := ob f
        refine o_gR S lf5_readKind_172 I e23 dX5_readKind_62 ?_
        refine lv_iload_n S.1 S.2.1 dX5_readKind_65 rfl (lv_at hl 0 rfl) ?_
        obtain ⟨r25, e24, f⟩ := ob f
        refine o_aald S I e24 dX5_readKind_66 ?_
        refine lv_iconst (v := 1) S.1 S.2.1 dX5_readKind_67 (by decide) ?_
        obtain ⟨h26, e27, f⟩ := ob f
        refine o_pZ S lp5_readKind_176 I e27 dX5_readKind_68 (fun H locs I => ?_)
        refine lv_aload_n S.1 S.2.1 dX5_readKind_71 rfl (lv_at hl 1 rfl) ?_
        obtain ⟨r28, e29, f⟩ := ob f
        refine o_gR S lf5_readKind_9 I e29 dX5_readKind_72 ?_
        obtain ⟨r30, e31, f⟩ := ob f
        refine o_gR S lf5_readKind_172 I e31 dX5_readKind_75 ?_
        refine lv_iload_n S.1 S.2.1 dX5_readKind_78 rfl (lv_at hl 0 rfl) ?_
        obtain ⟨r33, e32, f⟩ := ob f
        refine o_aald S I e32 dX5_readKind_79 ?_
        exact o_aret S hr (Or.inl ⟨_, rfl⟩) hlo I f dX5_readKind_80
      · have f := (if_neg q19).symm.trans f
        refine lv_aload_n S.1 S.2.1 dX5_readKind_50 rfl (lv_at hl 1 rfl) ?_
        refine lv_iconst (v := 3) S.1 S.2.1 dX5_readKind_51 (by decide) ?_
        obtain ⟨o34, e35, f⟩ := ob f
        refine o_Vi S (As := [.int 3]) (rest := []) (ci := 5) (M5_refuse l D cy b A fl e35) gX5_readKind_X5_refuse rfl rfl rfl cd5_refuse ⟨Nat.le_of_ble_eq_true rfl, Nat.le_of_ble_eq_true rfl⟩ I (gd e35).1 clX5 rfl rfl hl.1 rfl (Nat.le_of_ble_eq_true rfl) dX5_readKind_52 ⟨Nat.le_of_ble_eq_true rfl, Nat.le_of_ble_eq_true rfl⟩ (fun H locs I => ?_)
        refine lv_pop S.1 S.2.1 dX5_readKind_55 rfl ?_
        refine lv_null S.1 S.2.1 dX5_readKind_56 ?_
        exact o_aretN S hr (Or.inl ⟨_, rfl⟩) hlo I f dX5_readKind_57
    · have f := (if_neg q10).symm.trans f
      exact T5_readKind_27 S hr hlo  f I (lv_sub hl [1] rfl)
theorem M5_readKind (l : Launch) (D : va_G) (cy : Nat → ClassId) (b : Nat) (A : Nat → Prop) (fl : Bool) {h : PH} {a0 : Nat} {out : Option Nat × PH} (f : F5_readKind h a0 = some out) : Met l yX5_readKind vX5_readKind ({ frames := 3, cells := 0, slots := 0, locals := 64 } : Room) (va_Pc [.ref (b + a0)] (ph_B D cy b A fl h)) (va_Qq (fun (r : Option Nat) (u : PH) => (r, u) = (out.1.map (fun x => b + x), out.2)) (ph_B D cy b A fl) A) 0 0 A :=
  o_met (by decide) rfl (Nat.le_of_ble_eq_true rfl) rfl (fun p e s m below meth c S hr hlo hnm ls hl I => T5_readKind_0 S hr hlo ((gd f).2) I (lv_sub hl [0] rfl))
def vX5_strengthOf : List Cond := .code yX5_strengthOf cX5_strengthOf 1 (some .int) :: TB
theorem cd5_strengthOf : Cd yX5_strengthOf 1 := ⟨by decide, by decide, by decide +kernel⟩
set_option maxHeartbeats 4000000 in
set_option maxRecDepth 100000 in
theorem T5_strengthOf_0 (S : CallFix p m c cX5_strengthOf 1 s args vX5_strengthOf RX5) (hr : meth.sig.returnType = (some .int)) (hlo : meth.locks = false) {out : Int32 × PH} {h : PH} {x0 : Int32} (f : F5_strengthOf_0  h x0 = some out) {H : Heap} {locs : List Loc} (I : ph_I D cy b A fl h s H locs) {ls : Array Slot} (hl : lv_has ls 1 [(0, .int x0)]) : W p l e ({ frames := 0, cells := 0, slots := 0, locals := 0 } : Room) s m args below meth c H locs 0 0 (MQ below (va_Qi (fun (r : Int32) (u : PH) => (r, u) = out) (ph_B D cy b A fl) A) args s 0 0 A) (F0 m 0 ls []) := by
  unfold F5_strengthOf_0 at f
  refine lv_iload_n S.1 S.2.1 dX5_strengthOf_0 rfl (lv_at hl 0 rfl) ?_
  rcases Decidable.em (x0 = 15) with q1 | q1
  · have f := (if_pos q1).symm.trans f
    refine lv_tableIn (off := 103) (tgt := 104) S.1 S.2.1 dX5_strengthOf_1 (by rw [q1]; decide) (by rw [q1]; decide) (by rw [q1]; rfl) (by decide) ?_
    refine lv_iconst (v := 3) S.1 S.2.1 dX5_strengthOf_104 (by decide) ?_
    exact o_iret S hr hlo I f dX5_strengthOf_105
  have f := (if_neg q1).symm.trans f
  rcases Decidable.em (x0 = 16) with q2 | q2
  · have f := (if_pos q2).symm.trans f
    refine lv_tableIn (off := 101) (tgt := 102) S.1 S.2.1 dX5_strengthOf_1 (by rw [q2]; decide) (by rw [q2]; decide) (by rw [q2]; rfl) (by decide) ?_
    refine lv_iconst (v := 2) S.1 S.2.1 dX5_strengthOf_102 (by decide) ?_
    exact o_iret S hr hlo I f dX5_strengthOf_103
  have f := (if_neg q2).symm.trans f
  rcases Decidable.em (x0 = 17) with q3 | q3
  · have f := (if_pos q3).symm.trans f
    refine lv_tableIn (off := 99) (tgt := 100) S.1 S.2.1 dX5_strengthOf_1 (by rw [q3]; decide) (by rw [q3]; decide) (by rw [q3]; rfl) (by decide) ?_
    refine lv_iconst (v := 1) S.1 S.2.1 dX5_strengthOf_100 (by decide) ?_
    exact o_iret S hr hlo I f dX5_strengthOf_101
  have f := (if_neg q3).symm.trans f
  rcases Decidable.em (x0 = 26) with q4 | q4
  · have f := (if_pos q4).symm.trans f
    refine lv_tableIn (off := 105) (tgt := 106) S.1 S.2.1 dX5_strengthOf_1 (by rw [q4]; decide) (by rw [q4]; decide) (by rw [q4]; rfl) (by decide) ?_
    refine lv_iconst (v := 4) S.1 S.2.1 dX5_strengthOf_106 (by decide) ?_
    exact o_iret S hr hlo I f dX5_strengthOf_107
  have f := (if_neg q4).symm.trans f
  rcases Decidable.em (x0 = 27) with q5 | q5
  · have f := (if_pos q5).symm.trans f
    refine lv_tableIn (off := 105) (tgt := 106) S.1 S.2.1 dX5_strengthOf_1 (by rw [q5]; decide) (by rw [q5]; decide) (by rw [q5]; rfl) (by decide) ?_
    refine lv_iconst (v := 4) S.1 S.2.1 dX5_strengthOf_106 (by decide) ?_
    exact o_iret S hr hlo I f dX5_strengthOf_107
  have f := (if_neg q5).symm.trans f
  rcases Decidable.em (x0 = 28) with q6 | q6
  · have f := (if_pos q6).symm.trans f
    refine lv_tableIn (off := 105) (tgt := 106) S.1 S.2.1 dX5_strengthOf_1 (by rw [q6]; decide) (by rw [q6]; decide) (by rw [q6]; rfl) (by decide) ?_
    refine lv_iconst (v := 4) S.1 S.2.1 dX5_strengthOf_106 (by decide) ?_
    exact o_iret S hr hlo I f dX5_strengthOf_107
  have f := (if_neg q6).symm.trans f
  rcases Decidable.em (x0 = 29) with q7 | q7
  · have f := (if_pos q7).symm.trans f
    refine lv_tableIn (off := 105) (tgt := 106) S.1 S.2.1 dX5_strengthOf_1 (by rw [q7]; decide) (by rw [q7]; decide) (by rw [q7]; rfl) (by decide) ?_
    refine lv_iconst (v := 4) S.1 S.2.1 dX5_strengthOf_106 (by decide) ?_
    exact o_iret S hr hlo I f dX5_strengthOf_107
  have f := (if_neg q7).symm.trans f
  rcases Decidable.em (x0 = 30) with q8 | q8
  · have f := (if_pos q8).symm.trans f
    refine lv_tableIn (off := 105) (tgt := 106) S.1 S.2.1 dX5_strengthOf_1 (by rw [q8]; decide) (by rw [q8]; decide) (by rw [q8]; rfl) (by decide) ?_
    refine lv_iconst (v := 4) S.1 S.2.1 dX5_strengthOf_106 (by decide) ?_
    exact o_iret S hr hlo I f dX5_strengthOf_107
  have f := (if_neg q8).symm.trans f
  rcases Decidable.em (x0 = 31) with q9 | q9
  · have f := (if_pos q9).symm.trans f
    refine lv_tableIn (off := 105) (tgt := 106) S.1 S.2.1 dX5_strengthOf_1 (by rw [q9]; decide) (by rw [q9]; decide) (by rw [q9]; rfl) (by decide) ?_
    refine lv_iconst (v := 4) S.1 S.2.1 dX5_strengthOf_106 (by decide) ?_
    exact o_iret S hr hlo I f dX5_strengthOf_107
  have f := (if_neg q9).symm.trans f
  rcases Decidable.em (x0 = 32) with q10 | q10
  · have f := (if_pos q10).symm.trans f
    refine lv_tableIn (off := 107) (tgt := 108) S.1 S.2.1 dX5_strengthOf_1 (by rw [q10]; decide) (by rw [q10]; decide) (by rw [q10]; rfl) (by decide) ?_
    refine lv_iconst (v := 5) S.1 S.2.1 dX5_strengthOf_108 (by decide) ?_
    exact o_iret S hr hlo I f dX5_strengthOf_109
  have f := (if_neg q10).symm.trans f
  rcases Decidable.em (x0 = 33) with q11 | q11
  · have f := (if_pos q11).symm.trans f
    refine lv_tableIn (off := 107) (tgt := 108) S.1 S.2.1 dX5_strengthOf_1 (by rw [q11]; decide) (by rw [q11]; decide) (by rw [q11]; rfl) (by decide) ?_
    refine lv_iconst (v := 5) S.1 S.2.1 dX5_strengthOf_108 (by decide) ?_
    exact o_iret S hr hlo I f dX5_strengthOf_109
  have f := (if_neg q11).symm.trans f
  rcases Decidable.em (x0 = 34) with q12 | q12
  · have f := (if_pos q12).symm.trans f
    refine lv_tableIn (off := 109) (tgt := 110) S.1 S.2.1 dX5_strengthOf_1 (by rw [q12]; decide) (by rw [q12]; decide) (by rw [q12]; rfl) (by decide) ?_
    refine lv_bipush (v := 6) S.1 S.2.1 dX5_strengthOf_110 (by decide) ?_
    exact o_iret S hr hlo I f dX5_strengthOf_112
  have f := (if_neg q12).symm.trans f
  rcases Decidable.em (x0 = 35) with q13 | q13
  · have f := (if_pos q13).symm.trans f
    refine lv_tableIn (off := 109) (tgt := 110) S.1 S.2.1 dX5_strengthOf_1 (by rw [q13]; decide) (by rw [q13]; decide) (by rw [q13]; rfl) (by decide) ?_
    refine lv_bipush (v := 6) S.1 S.2.1 dX5_strengthOf_110 (by decide) ?_
    exact o_iret S hr hlo I f dX5_strengthOf_112
  have f := (if_neg q13).symm.trans f
  suffices K : W p l e ({ frames := 0, cells := 0, slots := 0, locals := 0 } : Room) s m args below meth c H locs 0 0 (MQ below (va_Qi (fun (r : Int32) (u : PH) => (r, u) = out) (ph_B D cy b A fl) A) args s 0 0 A) (F0 m 113 ls []) by
    have := lv_neT q1 (a := 15) (by decide)
    have := lv_neT q2 (a := 16) (by decide)
    have := lv_neT q3 (a := 17) (by decide)
    have := lv_neT q4 (a := 26) (by decide)
    have := lv_neT q5 (a := 27) (by decide)
    have := lv_neT q6 (a := 28) (by decide)
    have := lv_neT q7 (a := 29) (by decide)
    have := lv_neT q8 (a := 30) (by decide)
    have := lv_neT q9 (a := 31) (by decide)
    have := lv_neT q10 (a := 32) (by decide)
    have := lv_neT q11 (a := 33) (by decide)
    have := lv_neT q12 (a := 34) (by decide)
    have := lv_neT q13 (a := 35) (by decide)
    have g9 : (x0).toInt < 15 ∨ 35 < (x0).toInt ∨ (x0).toInt = 18 ∨ (x0).toInt = 19 ∨ (x0).toInt = 20 ∨ (x0).toInt = 21 ∨ (x0).toInt = 22 ∨ (x0).toInt = 23 ∨ (x0).toInt = 24 ∨ (x0).toInt = 25 := by omega
    rcases g9 with g9 | g9 | g9 | g9 | g9 | g9 | g9 | g9 | g9 | g9
    · exact lv_tableOut (tgt := 113) S.1 S.2.1 dX5_strengthOf_1 (Or.inl g9) (by decide) K
    · exact lv_tableOut (tgt := 113) S.1 S.2.1 dX5_strengthOf_1 (Or.inr g9) (by decide) K
    · exact lv_tableIn (off := 112) (tgt := 113) S.1 S.2.1 dX5_strengthOf_1 (by rw [g9]; decide) (by rw [g9]; decide) (by rw [g9]; rfl) (by decide) K
    · exact lv_tableIn (off := 112) (tgt := 113) S.1 S.2.1 dX5_strengthOf_1 (by rw [g9]; decide) (by rw [g9]; decide) (by rw [g9]; rfl) (by decide) K
    · exact lv_tableIn (off := 112) (tgt := 113) S.1 S.2.1 dX5_strengthOf_1 (by rw [g9]; decide) (by rw [g9]; decide) (by rw [g9]; rfl) (by decide) K
    · exact lv_tableIn (off := 112) (tgt := 113) S.1 S.2.1 dX5_strengthOf_1 (by rw [g9]; decide) (by rw [g9]; decide) (by rw [g9]; rfl) (by decide) K
    · exact lv_tableIn (off := 112) (tgt := 113) S.1 S.2.1 dX5_strengthOf_1 (by rw [g9]; decide) (by rw [g9]; decide) (by rw [g9]; rfl) (by decide) K
    · exact lv_tableIn (off := 112) (tgt := 113) S.1 S.2.1 dX5_strengthOf_1 (by rw [g9]; decide) (by rw [g9]; decide) (by rw [g9]; rfl) (by decide) K
    · exact lv_tableIn (off := 112) (tgt := 113) S.1 S.2.1 dX5_strengthOf_1 (by rw [g9]; decide) (by rw [g9]; decide) (by rw [g9]; rfl) (by decide) K
    · exact lv_tableIn (off := 112) (tgt := 113) S.1 S.2.1 dX5_strengthOf_1 (by rw [g9]; decide) (by rw [g9]; decide) (by rw [g9]; rfl) (by decide) K
  refine lv_iconst (v := 0) S.1 S.2.1 dX5_strengthOf_113 (by decide) ?_
  exact o_iret S hr hlo I f dX5_strengthOf_114
theorem M5_strengthOf (l : Launch) (D : va_G) (cy : Nat → ClassId) (b : Nat) (A : Nat → Prop) (fl : Bool) {h : PH} {x0 : Int32} {out : Int32 × PH} (f : F5_strengthOf h x0 = some out) : Met l yX5_strengthOf vX5_strengthOf ({ frames := 0, cells := 0, slots := 0, locals := 0 } : Room) (va_Pc [.int x0] (ph_B D cy b A fl h)) (va_Qi (fun (r : Int32) (u : PH) => (r, u) = out) (ph_B D cy b A fl) A) 0 0 A :=
  o_met (by decide) rfl (Nat.le_of_ble_eq_true rfl) rfl (fun p e s m below meth c S hr hlo hnm ls hl I => T5_strengthOf_0 S hr hlo (f) I (lv_sub hl [0] rfl))
def vX5_release : List Cond := .code yX5_release cX5_release 4 none :: TB
theorem lf5_release_185 : Fl vX5_release RX5 185 5 2 := ⟨RX5, TX5, 11, rfl, by decide, (fun w h9 => List.mem_cons_of_mem _ (wC_wsX50 w h9)), (List.mem_cons_of_mem _ wT_21_12)⟩
theorem lf5_release_22 : Fl vX5_release RX5 22 5 1 := ⟨RX5, TX5, 11, rfl, by decide, (fun w h9 => List.mem_cons_of_mem _ (wC_wsX50 w h9)), (List.mem_cons_of_mem _ wT_5_4)⟩
theorem gX5_release_X5_strengthOf : GoodIn vX5_release (va_wsS RX5 223 yX5_strengthOf vX5_strengthOf) := gS_of wT_22_2 wT_22_3 wT_1_22 wT_22_4
theorem gX5_release_X2_add : GoodIn vX5_release (wsV RX5 217 RX2 yX2_add vX2_add) := gV_of wT_22_5 wT_22_6 wT_22_7 wT_3_14 wT_22_8
theorem lp5_release_185 : Pl vX5_release RX5 185 5 2 .int := ⟨RX5, TX5, 11, tyX5, rfl, by decide, (fun w h9 => List.mem_cons_of_mem _ (wC_wsX50 w h9)), (List.mem_cons_of_mem _ wT_21_12), tyX5_ok, nmX5, rfl, rfl⟩
theorem cd5_release : Cd yX5_release 2 := ⟨by decide, by decide, by decide +kernel⟩
set_option maxHeartbeats 4000000 in
set_option maxRecDepth 100000 in
theorem T5_release_0 (S : CallFix p m c cX5_release 4 s args vX5_release RX5) (hr : meth.sig.returnType = none) (hlo : meth.locks = false) {out : PH} : ∀ (n : Nat) {h : PH} {a0 : Nat} {a1 : Nat} {x2 : Int32} (f : F5_release_0  n h a0 a1 x2 = some out) {H : Heap} {locs : List Loc} (I : ph_I D cy b A fl h s H locs) {ls : Array Slot} (hl : lv_has ls 4 [(0, .ref (b + a0)), (1, .ref (b + a1)), (2, .int x2)]), W p l e ({ frames := 1, cells := 0, slots := 0, locals := 21 } : Room) s m args below meth c H locs 0 0 (MQ below (va_Qv (fun (u : PH) => u = out) (ph_B D cy b A fl) A) args s 0 0 A) (F0 m 0 ls []) := by
  intro n
  induction n with
  | zero => intro h a0 a1 x2 f; rw [F5_release_0] at f; cases f
  | succ n ih =>
    intro h a0 a1 x2 f H locs I ls hl
    rw [F5_release_0] at f
    refine lv_aload_n S.1 S.2.1 dX5_release_0 rfl (lv_at hl 0 rfl) ?_
    obtain ⟨v1, e2, f⟩ := ob f
    refine o_gI S lf5_release_185 I e2 dX5_release_1 ?_
    refine lv_if_le (tgt := 50) S.1 S.2.1 dX5_release_4 (by decide) (fun q3 => ?_) (fun q3 => ?_)
    · have f := (if_pos q3).symm.trans f
      exact o_vret S hr hlo I f dX5_release_50
    · have f := (if_neg q3).symm.trans f
      refine lv_aload_n S.1 S.2.1 dX5_release_7 rfl (lv_at hl 0 rfl) ?_
      obtain ⟨r4, e5, f⟩ := ob f
      refine o_gR S lf5_release_22 I e5 dX5_release_8 ?_
      refine lv_aload_n S.1 S.2.1 dX5_release_11 rfl (lv_at hl 0 rfl) ?_
      obtain ⟨v6, e7, f⟩ := ob f
      refine o_gI S lf5_release_185 I e7 dX5_release_12 ?_
      refine lv_iconst (v := 1) S.1 S.2.1 dX5_release_15 (by decide) ?_
      refine lv_isub S.1 S.2.1 dX5_release_16 ?_
      obtain ⟨v9, e8, f⟩ := ob f
      refine o_iald S I e8 dX5_release_17 ?_
      refine lv_istore_n (lv' := [(3, .int v9), (0, .ref (b + a0)), (1, .ref (b + a1)), (2, .int x2)]) S.1 S.2.1 dX5_release_18 rfl hl (by decide) rfl (fun ls hl => ?_)
      refine lv_iload_n S.1 S.2.1 dX5_release_19 rfl (lv_at hl 0 rfl) ?_
      obtain ⟨o10, e11, f⟩ := ob f
      refine o_Si S (As := [.int v9]) (rest := []) (M5_strengthOf l D cy b A fl e11) gX5_release_X5_strengthOf rfl rfl rfl cd5_strengthOf ⟨Nat.le_of_ble_eq_true rfl, Nat.le_of_ble_eq_true rfl⟩ I rfl hl.1 rfl (Nat.le_of_ble_eq_true rfl) dX5_release_20 ⟨Nat.le_of_ble_eq_true rfl, Nat.le_of_ble_eq_true rfl⟩ (fun H locs I => ?_)
      refine lv_iload_n S.1 S.2.1 dX5_release_23 rfl (lv_at hl 3 rfl) ?_
      refine lv_icmp_ge (tgt := 28) S.1 S.2.1 dX5_release_24 (by decide) (fun q12 => ?_) (fun q12 => ?_)
      · have f := (if_pos q12).symm.trans f
        refine lv_aload_n S.1 S.2.1 dX5_release_28 rfl (lv_at hl 2 rfl) ?_
        refine lv_sipush (v := 10000) S.1 S.2.1 dX5_release_29 (by decide) ?_
        refine lv_iload_n S.1 S.2.1 dX5_release_32 rfl (lv_at hl 0 rfl) ?_
        refine lv_iadd S.1 S.2.1 dX5_release_33 ?_
        obtain ⟨o13, e14, f⟩ := ob f
        refine o_Vv S (As := [.int (10000 + v9)]) (rest := []) (ci := 2) (M2_add l D cy b A fl e14) gX5_release_X2_add rfl rfl rfl cd2_add ⟨Nat.le_of_ble_eq_true rfl, Nat.le_of_ble_eq_true rfl⟩ I (gd e14).1 clX2 rfl rfl hl.1 rfl (Nat.le_of_ble_eq_true rfl) dX5_release_34 ⟨Nat.le_of_ble_eq_true rfl, Nat.le_of_ble_eq_true rfl⟩ (fun H locs I => ?_)
        refine lv_aload_n S.1 S.2.1 dX5_release_37 rfl (lv_at hl 1 rfl) ?_
        refine lv_dup S.1 S.2.1 dX5_release_38 rfl ?_
        obtain ⟨v15, e16, f⟩ := ob f
        refine o_gI S lf5_release_185 I e16 dX5_release_39 ?_
        refine lv_iconst (v := 1) S.1 S.2.1 dX5_release_42 (by decide) ?_
        refine lv_isub S.1 S.2.1 dX5_release_43 ?_
        obtain ⟨h17, e18, f⟩ := ob f
        refine o_pI S lp5_release_185 I e18 dX5_release_44 (fun H locs I => ?_)
        refine lv_goto (tgt := 0) S.1 S.2.1 dX5_release_47 (by decide) ?_
        exact ih f I (lv_sub hl [1, 2, 3] rfl)
      · have f := (if_neg q12).symm.trans f
        exact o_vret S hr hlo I f dX5_release_27
theorem M5_release (l : Launch) (D : va_G) (cy : Nat → ClassId) (b : Nat) (A : Nat → Prop) (fl : Bool) {h : PH} {a0 : Nat} {a1 : Nat} {x2 : Int32} {out : PH} (f : F5_release h a0 a1 x2 = some out) : Met l yX5_release vX5_release ({ frames := 1, cells := 0, slots := 0, locals := 21 } : Room) (va_Pc [.ref (b + a0), .ref (b + a1), .int x2] (ph_B D cy b A fl h)) (va_Qv (fun (u : PH) => u = out) (ph_B D cy b A fl) A) 0 0 A :=
  o_met (by decide) rfl (Nat.le_of_ble_eq_true rfl) rfl (fun p e s m below meth c S hr hlo hnm ls hl I => T5_release_0 S hr hlo 1024 ((gd f).2) I (lv_sub hl [0, 1, 2] rfl))
def vX5_takeOpen : List Cond := .code yX5_takeOpen cX5_takeOpen 1 (some .boolean) :: TB
theorem lf5_takeOpen_188 : Fl vX5_takeOpen RX5 188 5 3 := ⟨RX5, TX5, 11, rfl, by decide, (fun w h9 => List.mem_cons_of_mem _ (wC_wsX50 w h9)), (List.mem_cons_of_mem _ wT_21_13)⟩
theorem lp5_takeOpen_188 : Pl vX5_takeOpen RX5 188 5 3 .int := ⟨RX5, TX5, 11, tyX5, rfl, by decide, (fun w h9 => List.mem_cons_of_mem _ (wC_wsX50 w h9)), (List.mem_cons_of_mem _ wT_21_13), tyX5_ok, nmX5, rfl, rfl⟩
theorem lp5_takeOpen_194 : Pl vX5_takeOpen RX5 194 5 5 .boolean := ⟨RX5, TX5, 11, tyX5, rfl, by decide, (fun w h9 => List.mem_cons_of_mem _ (wC_wsX50 w h9)), (List.mem_cons_of_mem _ wT_21_15), tyX5_ok, nmX5, rfl, rfl⟩
theorem gX5_takeOpen_X5_letWait : GoodIn vX5_takeOpen (wsV RX5 214 RX5 yX5_letWait vX5_letWait) := gV_of wT_22_17 wT_22_18 wT_22_19 wT_1_22 wT_22_20
theorem gX5_takeOpen_X5_refuse : GoodIn vX5_takeOpen (wsV RX5 89 RX5 yX5_refuse vX5_refuse) := gV_of wT_18_1 wT_18_2 wT_18_3 wT_1_22 wT_18_4
theorem cd5_takeOpen : Cd yX5_takeOpen 0 := ⟨by decide, by decide, by decide +kernel⟩
set_option maxHeartbeats 4000000 in
set_option maxRecDepth 100000 in
theorem T5_takeOpen_0 (S : CallFix p m c cX5_takeOpen 1 s args vX5_takeOpen RX5) (hr : meth.sig.returnType = (some .boolean)) (hlo : meth.locks = false) {out : Int32 × PH} {h : PH} {a0 : Nat} (f : F5_takeOpen_0  h a0 = some out) {H : Heap} {locs : List Loc} (I : ph_I D cy b A fl h s H locs) {ls : Array Slot} (hl : lv_has ls 1 [(0, .ref (b + a0))]) : W p l e ({ frames := 2, cells := 0, slots := 0, locals := 42 } : Room) s m args below meth c H locs 0 0 (MQ below (va_Qi (fun (r : Int32) (u : PH) => (r, u) = out) (ph_B D cy b A fl) A) args s 0 0 A) (F0 m 0 ls []) := by
  unfold F5_takeOpen_0 at f
  refine lv_aload_n S.1 S.2.1 dX5_takeOpen_0 rfl (lv_at hl 0 rfl) ?_
  obtain ⟨v1, e2, f⟩ := ob f
  refine o_gI S lf5_takeOpen_188 I e2 dX5_takeOpen_1 ?_
  refine lv_bipush (v := 8) S.1 S.2.1 dX5_takeOpen_4 (by decide) ?_
  refine lv_icmp_lt (tgt := 15) S.1 S.2.1 dX5_takeOpen_6 (by decide) (fun q3 => ?_) (fun q3 => ?_)
  · have f := (if_pos q3).symm.trans f
    refine lv_aload_n S.1 S.2.1 dX5_takeOpen_15 rfl (lv_at hl 0 rfl) ?_
    refine lv_dup S.1 S.2.1 dX5_takeOpen_16 rfl ?_
    obtain ⟨v4, e5, f⟩ := ob f
    refine o_gI S lf5_takeOpen_188 I e5 dX5_takeOpen_17 ?_
    refine lv_iconst (v := 1) S.1 S.2.1 dX5_takeOpen_20 (by decide) ?_
    refine lv_iadd S.1 S.2.1 dX5_takeOpen_21 ?_
    obtain ⟨h6, e7, f⟩ := ob f
    refine o_pI S lp5_takeOpen_188 I e7 dX5_takeOpen_22 (fun H locs I => ?_)
    refine lv_aload_n S.1 S.2.1 dX5_takeOpen_25 rfl (lv_at hl 0 rfl) ?_
    refine lv_iconst (v := 1) S.1 S.2.1 dX5_takeOpen_26 (by decide) ?_
    obtain ⟨h8, e9, f⟩ := ob f
    refine o_pZ S lp5_takeOpen_194 I e9 dX5_takeOpen_27 (fun H locs I => ?_)
    refine lv_aload_n S.1 S.2.1 dX5_takeOpen_30 rfl (lv_at hl 0 rfl) ?_
    refine lv_bipush (v := 36) S.1 S.2.1 dX5_takeOpen_31 (by decide) ?_
    obtain ⟨o10, e11, f⟩ := ob f
    refine o_Vi S (As := [.int 36]) (rest := []) (ci := 5) (M5_letWait l D cy b A fl e11) gX5_takeOpen_X5_letWait rfl rfl rfl cd5_letWait ⟨Nat.le_of_ble_eq_true rfl, Nat.le_of_ble_eq_true rfl⟩ I (gd e11).1 clX5 rfl rfl hl.1 rfl (Nat.le_of_ble_eq_true rfl) dX5_takeOpen_33 ⟨Nat.le_of_ble_eq_true rfl, Nat.le_of_ble_eq_true rfl⟩ (fun H locs I => ?_)
    exact o_zret S hr hlo I f dX5_takeOpen_36
  · have f := (if_neg q3).symm.trans f
    refine lv_aload_n S.1 S.2.1 dX5_takeOpen_9 rfl (lv_at hl 0 rfl) ?_
    refine lv_iconst (v := 2) S.1 S.2.1 dX5_takeOpen_10 (by decide) ?_
    obtain ⟨o12, e13, f⟩ := ob f
    refine o_Vi S (As := [.int 2]) (rest := []) (ci := 5) (M5_refuse l D cy b A fl e13) gX5_takeOpen_X5_refuse rfl rfl rfl cd5_refuse ⟨Nat.le_of_ble_eq_true rfl, Nat.le_of_ble_eq_true rfl⟩ I (gd e13).1 clX5 rfl rfl hl.1 rfl (Nat.le_of_ble_eq_true rfl) dX5_takeOpen_11 ⟨Nat.le_of_ble_eq_true rfl, Nat.le_of_ble_eq_true rfl⟩ (fun H locs I => ?_)
    exact o_zret S hr hlo I f dX5_takeOpen_14
theorem M5_takeOpen (l : Launch) (D : va_G) (cy : Nat → ClassId) (b : Nat) (A : Nat → Prop) (fl : Bool) {h : PH} {a0 : Nat} {out : Int32 × PH} (f : F5_takeOpen h a0 = some out) : Met l yX5_takeOpen vX5_takeOpen ({ frames := 2, cells := 0, slots := 0, locals := 42 } : Room) (va_Pc [.ref (b + a0)] (ph_B D cy b A fl h)) (va_Qi (fun (r : Int32) (u : PH) => (r, u) = out) (ph_B D cy b A fl) A) 0 0 A :=
  o_met (by decide) rfl (Nat.le_of_ble_eq_true rfl) rfl (fun p e s m below meth c S hr hlo hnm ls hl I => T5_takeOpen_0 S hr hlo ((gd f).2) I (lv_sub hl [0] rfl))
def vX5_takePart : List Cond := .code yX5_takePart cX5_takePart 4 (some .boolean) :: TB
theorem gX5_takePart_X2_add : GoodIn vX5_takePart (wsV RX5 217 RX2 yX2_add vX2_add) := gV_of wT_22_5 wT_22_6 wT_22_7 wT_3_14 wT_22_8
theorem lp5_takePart_191 : Pl vX5_takePart RX5 191 5 4 .boolean := ⟨RX5, TX5, 11, tyX5, rfl, by decide, (fun w h9 => List.mem_cons_of_mem _ (wC_wsX50 w h9)), (List.mem_cons_of_mem _ wT_21_14), tyX5_ok, nmX5, rfl, rfl⟩
theorem gX5_takePart_X5_countKnot : GoodIn vX5_takePart (wsV RX5 211 RX5 yX5_countKnot vX5_countKnot) := gV_of wT_22_21 wT_22_22 wT_22_23 wT_1_22 wT_23_0
theorem lf5_takePart_18 : Fl vX5_takePart RX5 18 5 0 := ⟨RX5, TX5, 11, rfl, by decide, (fun w h9 => List.mem_cons_of_mem _ (wC_wsX50 w h9)), (List.mem_cons_of_mem _ wT_5_3)⟩
theorem lf5_takePart_97 : Fl vX5_takePart RX5 97 7 6 := ⟨RX7, TX7, 7, rfl, by decide, (fun w h9 => List.mem_cons_of_mem _ (wC_wsX70 w h9)), (List.mem_cons_of_mem _ wT_18_14)⟩
theorem gX5_takePart_X5_refuse : GoodIn vX5_takePart (wsV RX5 89 RX5 yX5_refuse vX5_refuse) := gV_of wT_18_1 wT_18_2 wT_18_3 wT_1_22 wT_18_4
theorem lf5_takePart_52 : Fl vX5_takePart RX5 52 7 4 := ⟨RX7, TX7, 7, rfl, by decide, (fun w h9 => List.mem_cons_of_mem _ (wC_wsX70 w h9)), (List.mem_cons_of_mem _ wT_14_7)⟩
theorem lf5_takePart_194 : Fl vX5_takePart RX5 194 5 5 := ⟨RX5, TX5, 11, rfl, by decide, (fun w h9 => List.mem_cons_of_mem _ (wC_wsX50 w h9)), (List.mem_cons_of_mem _ wT_21_15)⟩
theorem gX5_takePart_X5_letWait : GoodIn vX5_takePart (wsV RX5 214 RX5 yX5_letWait vX5_letWait) := gV_of wT_22_17 wT_22_18 wT_22_19 wT_1_22 wT_22_20
theorem gX5_takePart_X5_takeOpen : GoodIn vX5_takePart (wsV RX5 208 RX5 yX5_takeOpen vX5_takeOpen) := gV_of wT_22_13 wT_22_14 wT_22_15 wT_1_22 wT_22_16
theorem cd5_takePart : Cd yX5_takePart 1 := ⟨by decide, by decide, by decide +kernel⟩
set_option maxHeartbeats 4000000 in
set_option maxRecDepth 100000 in
theorem T5_takePart_139 (S : CallFix p m c cX5_takePart 4 s args vX5_takePart RX5) (hr : meth.sig.returnType = (some .boolean)) (hlo : meth.locks = false) {out : Int32 × PH} {h : PH} {a0 : Nat} {s0 : Int32} {u1 : Nat} (f : F5_takePart_139  h a0 s0 u1 = some out) {H : Heap} {locs : List Loc} (I : ph_I D cy b A fl h s H locs) {ls : Array Slot} (hl : lv_has ls 4 [(0, .ref (b + a0))]) : W p l e ({ frames := 3, cells := 0, slots := 0, locals := 62 } : Room) s m args below meth c H locs 0 0 (MQ below (va_Qi (fun (r : Int32) (u : PH) => (r, u) = out) (ph_B D cy b A fl) A) args s 0 0 A) (F0 m 139 ls [.int s0, .ref (b + u1)]) := by
  unfold F5_takePart_139 at f
  obtain ⟨o1, e2, f⟩ := ob f
  refine o_Vv S (As := [.int s0]) (rest := []) (ci := 2) (M2_add l D cy b A fl e2) gX5_takePart_X2_add rfl rfl rfl cd2_add ⟨Nat.le_of_ble_eq_true rfl, Nat.le_of_ble_eq_true rfl⟩ I (gd e2).1 clX2 rfl rfl hl.1 rfl (Nat.le_of_ble_eq_true rfl) dX5_takePart_139 ⟨Nat.le_of_ble_eq_true rfl, Nat.le_of_ble_eq_true rfl⟩ (fun H locs I => ?_)
  refine lv_aload_n S.1 S.2.1 dX5_takePart_142 rfl (lv_at hl 0 rfl) ?_
  refine lv_iconst (v := 0) S.1 S.2.1 dX5_takePart_143 (by decide) ?_
  obtain ⟨h3, e4, f⟩ := ob f
  refine o_pZ S lp5_takePart_191 I e4 dX5_takePart_144 (fun H locs I => ?_)
  refine lv_iconst (v := 1) S.1 S.2.1 dX5_takePart_147 (by decide) ?_
  exact o_zret S hr hlo I f dX5_takePart_148
set_option maxHeartbeats 4000000 in
set_option maxRecDepth 100000 in
theorem T5_takePart_110 (S : CallFix p m c cX5_takePart 4 s args vX5_takePart RX5) (hr : meth.sig.returnType = (some .boolean)) (hlo : meth.locks = false) {out : Int32 × PH} {h : PH} {a0 : Nat} {a1 : Nat} {x2 : Int32} {x3 : Int32} (f : F5_takePart_110  h a0 a1 x2 x3 = some out) {H : Heap} {locs : List Loc} (I : ph_I D cy b A fl h s H locs) {ls : Array Slot} (hl : lv_has ls 4 [(0, .ref (b + a0)), (1, .ref (b + a1)), (2, .int x2), (3, .int x3)]) : W p l e ({ frames := 3, cells := 0, slots := 0, locals := 62 } : Room) s m args below meth c H locs 0 0 (MQ below (va_Qi (fun (r : Int32) (u : PH) => (r, u) = out) (ph_B D cy b A fl) A) args s 0 0 A) (F0 m 110 ls []) := by
  unfold F5_takePart_110 at f
  refine lv_aload_n S.1 S.2.1 dX5_takePart_110 rfl (lv_at hl 0 rfl) ?_
  obtain ⟨o1, e2, f⟩ := ob f
  refine o_Vi S (As := []) (rest := []) (ci := 5) (M5_countKnot l D cy b A fl e2) gX5_takePart_X5_countKnot rfl rfl rfl cd5_countKnot ⟨Nat.le_of_ble_eq_true rfl, Nat.le_of_ble_eq_true rfl⟩ I (gd e2).1 clX5 rfl rfl hl.1 rfl (Nat.le_of_ble_eq_true rfl) dX5_takePart_111 ⟨Nat.le_of_ble_eq_true rfl, Nat.le_of_ble_eq_true rfl⟩ (fun H locs I => ?_)
  refine lv_if_ne (tgt := 119) S.1 S.2.1 dX5_takePart_114 (by decide) (fun q3 => ?_) (fun q3 => ?_)
  · have f := (if_neg q3).symm.trans f
    refine lv_aload_n S.1 S.2.1 dX5_takePart_119 rfl (lv_at hl 1 rfl) ?_
    refine lv_iload_n S.1 S.2.1 dX5_takePart_120 rfl (lv_at hl 3 rfl) ?_
    refine lv_if_eq (tgt := 132) S.1 S.2.1 dX5_takePart_121 (by decide) (fun q4 => ?_) (fun q4 => ?_)
    · have f := (if_pos q4).symm.trans f
      refine lv_aload_n S.1 S.2.1 dX5_takePart_132 rfl (lv_at hl 0 rfl) ?_
      obtain ⟨r5, e6, f⟩ := ob f
      refine o_gR S lf5_takePart_18 I e6 dX5_takePart_133 ?_
      obtain ⟨v7, e8, f⟩ := ob f
      refine o_gI S lf5_takePart_97 I e8 dX5_takePart_136 ?_
      exact T5_takePart_139 S hr hlo  f I (lv_sub hl [0] rfl)
    · have f := (if_neg q4).symm.trans f
      refine lv_sipush (v := 10000) S.1 S.2.1 dX5_takePart_124 (by decide) ?_
      refine lv_iload_n S.1 S.2.1 dX5_takePart_127 rfl (lv_at hl 2 rfl) ?_
      refine lv_iadd S.1 S.2.1 dX5_takePart_128 ?_
      refine lv_goto (tgt := 139) S.1 S.2.1 dX5_takePart_129 (by decide) ?_
      exact T5_takePart_139 S hr hlo  f I (lv_sub hl [0] rfl)
  · have f := (if_pos q3).symm.trans f
    refine lv_iconst (v := 0) S.1 S.2.1 dX5_takePart_117 (by decide) ?_
    exact o_zret S hr hlo I f dX5_takePart_118
set_option maxHeartbeats 4000000 in
set_option maxRecDepth 100000 in
theorem T5_takePart_87 (S : CallFix p m c cX5_takePart 4 s args vX5_takePart RX5) (hr : meth.sig.returnType = (some .boolean)) (hlo : meth.locks = false) {out : Int32 × PH} {h : PH} {a0 : Nat} {a1 : Nat} {x2 : Int32} {x3 : Int32} (f : F5_takePart_87  h a0 a1 x2 x3 = some out) {H : Heap} {locs : List Loc} (I : ph_I D cy b A fl h s H locs) {ls : Array Slot} (hl : lv_has ls 4 [(0, .ref (b + a0)), (1, .ref (b + a1)), (2, .int x2), (3, .int x3)]) : W p l e ({ frames := 3, cells := 0, slots := 0, locals := 62 } : Room) s m args below meth c H locs 0 0 (MQ below (va_Qi (fun (r : Int32) (u : PH) => (r, u) = out) (ph_B D cy b A fl) A) args s 0 0 A) (F0 m 87 ls []) := by
  unfold F5_takePart_87 at f
  refine lv_aload_n S.1 S.2.1 dX5_takePart_87 rfl (lv_at hl 0 rfl) ?_
  obtain ⟨r1, e2, f⟩ := ob f
  refine o_gR S lf5_takePart_18 I e2 dX5_takePart_88 ?_
  obtain ⟨v3, e4, f⟩ := ob f
  refine o_gI S lf5_takePart_97 I e4 dX5_takePart_91 ?_
  refine lv_sipush (v := 9999) S.1 S.2.1 dX5_takePart_94 (by decide) ?_
  refine lv_icmp_le (tgt := 110) S.1 S.2.1 dX5_takePart_97 (by decide) (fun q5 => ?_) (fun q5 => ?_)
  · have f := (if_pos q5).symm.trans f
    exact T5_takePart_110 S hr hlo  f I (lv_sub hl [0, 1, 2, 3] rfl)
  · have f := (if_neg q5).symm.trans f
    refine lv_iload_n S.1 S.2.1 dX5_takePart_100 rfl (lv_at hl 3 rfl) ?_
    refine lv_if_ne (tgt := 110) S.1 S.2.1 dX5_takePart_101 (by decide) (fun q6 => ?_) (fun q6 => ?_)
    · have f := (if_neg q6).symm.trans f
      exact T5_takePart_110 S hr hlo  f I (lv_sub hl [0, 1, 2, 3] rfl)
    · have f := (if_pos q6).symm.trans f
      refine lv_aload_n S.1 S.2.1 dX5_takePart_104 rfl (lv_at hl 0 rfl) ?_
      refine lv_iconst (v := 2) S.1 S.2.1 dX5_takePart_105 (by decide) ?_
      obtain ⟨o7, e8, f⟩ := ob f
      refine o_Vi S (As := [.int 2]) (rest := []) (ci := 5) (M5_refuse l D cy b A fl e8) gX5_takePart_X5_refuse rfl rfl rfl cd5_refuse ⟨Nat.le_of_ble_eq_true rfl, Nat.le_of_ble_eq_true rfl⟩ I (gd e8).1 clX5 rfl rfl hl.1 rfl (Nat.le_of_ble_eq_true rfl) dX5_takePart_106 ⟨Nat.le_of_ble_eq_true rfl, Nat.le_of_ble_eq_true rfl⟩ (fun H locs I => ?_)
      exact o_zret S hr hlo I f dX5_takePart_109
set_option maxHeartbeats 4000000 in
set_option maxRecDepth 100000 in
theorem T5_takePart_70 (S : CallFix p m c cX5_takePart 4 s args vX5_takePart RX5) (hr : meth.sig.returnType = (some .boolean)) (hlo : meth.locks = false) {out : Int32 × PH} {h : PH} {a0 : Nat} {a1 : Nat} {x2 : Int32} {s0 : Int32} (f : F5_takePart_70  h a0 a1 x2 s0 = some out) {H : Heap} {locs : List Loc} (I : ph_I D cy b A fl h s H locs) {ls : Array Slot} (hl : lv_has ls 4 [(0, .ref (b + a0)), (1, .ref (b + a1)), (2, .int x2)]) : W p l e ({ frames := 3, cells := 0, slots := 0, locals := 62 } : Room) s m args below meth c H locs 0 0 (MQ below (va_Qi (fun (r : Int32) (u : PH) => (r, u) = out) (ph_B D cy b A fl) A) args s 0 0 A) (F0 m 70 ls [.int s0]) := by
  unfold F5_takePart_70 at f
  refine lv_istore_n (lv' := [(3, .int s0), (0, .ref (b + a0)), (1, .ref (b + a1)), (2, .int x2)]) S.1 S.2.1 dX5_takePart_70 rfl hl (by decide) rfl (fun ls hl => ?_)
  refine lv_iload_n S.1 S.2.1 dX5_takePart_71 rfl (lv_at hl 3 rfl) ?_
  refine lv_bipush (v := 25) S.1 S.2.1 dX5_takePart_72 (by decide) ?_
  refine lv_icmp_eq (tgt := 87) S.1 S.2.1 dX5_takePart_74 (by decide) (fun q1 => ?_) (fun q1 => ?_)
  · have f := (if_pos q1).symm.trans f
    exact T5_takePart_87 S hr hlo  f I (lv_sub hl [1, 2, 3, 0] rfl)
  · have f := (if_neg q1).symm.trans f
    refine lv_iload_n S.1 S.2.1 dX5_takePart_77 rfl (lv_at hl 0 rfl) ?_
    refine lv_if_ne (tgt := 87) S.1 S.2.1 dX5_takePart_78 (by decide) (fun q2 => ?_) (fun q2 => ?_)
    · have f := (if_neg q2).symm.trans f
      exact T5_takePart_87 S hr hlo  f I (lv_sub hl [1, 2, 3, 0] rfl)
    · have f := (if_pos q2).symm.trans f
      refine lv_aload_n S.1 S.2.1 dX5_takePart_81 rfl (lv_at hl 1 rfl) ?_
      refine lv_iconst (v := 1) S.1 S.2.1 dX5_takePart_82 (by decide) ?_
      obtain ⟨o3, e4, f⟩ := ob f
      refine o_Vi S (As := [.int 1]) (rest := []) (ci := 5) (M5_refuse l D cy b A fl e4) gX5_takePart_X5_refuse rfl rfl rfl cd5_refuse ⟨Nat.le_of_ble_eq_true rfl, Nat.le_of_ble_eq_true rfl⟩ I (gd e4).1 clX5 rfl rfl hl.1 rfl (Nat.le_of_ble_eq_true rfl) dX5_takePart_83 ⟨Nat.le_of_ble_eq_true rfl, Nat.le_of_ble_eq_true rfl⟩ (fun H locs I => ?_)
      exact o_zret S hr hlo I f dX5_takePart_86
set_option maxHeartbeats 4000000 in
set_option maxRecDepth 100000 in
theorem T5_takePart_69 (S : CallFix p m c cX5_takePart 4 s args vX5_takePart RX5) (hr : meth.sig.returnType = (some .boolean)) (hlo : meth.locks = false) {out : Int32 × PH} {h : PH} {a0 : Nat} {a1 : Nat} {x2 : Int32} (f : F5_takePart_69  h a0 a1 x2 = some out) {H : Heap} {locs : List Loc} (I : ph_I D cy b A fl h s H locs) {ls : Array Slot} (hl : lv_has ls 4 [(0, .ref (b + a0)), (1, .ref (b + a1)), (2, .int x2)]) : W p l e ({ frames := 3, cells := 0, slots := 0, locals := 62 } : Room) s m args below meth c H locs 0 0 (MQ below (va_Qi (fun (r : Int32) (u : PH) => (r, u) = out) (ph_B D cy b A fl) A) args s 0 0 A) (F0 m 69 ls []) := by
  unfold F5_takePart_69 at f
  refine lv_iconst (v := 0) S.1 S.2.1 dX5_takePart_69 (by decide) ?_
  exact T5_takePart_70 S hr hlo  f I (lv_sub hl [0, 1, 2] rfl)
set_option maxHeartbeats 4000000 in
set_option maxRecDepth 100000 in
theorem T5_takePart_53 (S : CallFix p m c cX5_takePart 4 s args vX5_takePart RX5) (hr : meth.sig.returnType = (some .boolean)) (hlo : meth.locks = false) {out : Int32 × PH} {h : PH} {a0 : Nat} {a1 : Nat} {x2 : Int32} (f : F5_takePart_53  h a0 a1 x2 = some out) {H : Heap} {locs : List Loc} (I : ph_I D cy b A fl h s H locs) {ls : Array Slot} (hl : lv_has ls 4 [(0, .ref (b + a0)), (1, .ref (b + a1)), (2, .int x2)]) : W p l e ({ frames := 3, cells := 0, slots := 0, locals := 62 } : Room) s m args below meth c H locs 0 0 (MQ below (va_Qi (fun (r : Int32) (u : PH) => (r, u) = out) (ph_B D cy b A fl) A) args s 0 0 A) (F0 m 53 ls []) := by
  unfold F5_takePart_53 at f
  refine lv_iload_n S.1 S.2.1 dX5_takePart_53 rfl (lv_at hl 2 rfl) ?_
  refine lv_bipush (v := 18) S.1 S.2.1 dX5_takePart_54 (by decide) ?_
  refine lv_icmp_lt (tgt := 69) S.1 S.2.1 dX5_takePart_56 (by decide) (fun q1 => ?_) (fun q1 => ?_)
  · have f := (if_pos q1).symm.trans f
    exact T5_takePart_69 S hr hlo  f I (lv_sub hl [0, 1, 2] rfl)
  · have f := (if_neg q1).symm.trans f
    refine lv_iload_n S.1 S.2.1 dX5_takePart_59 rfl (lv_at hl 2 rfl) ?_
    refine lv_bipush (v := 24) S.1 S.2.1 dX5_takePart_60 (by decide) ?_
    refine lv_icmp_ge (tgt := 69) S.1 S.2.1 dX5_takePart_62 (by decide) (fun q2 => ?_) (fun q2 => ?_)
    · have f := (if_pos q2).symm.trans f
      exact T5_takePart_69 S hr hlo  f I (lv_sub hl [0, 1, 2] rfl)
    · have f := (if_neg q2).symm.trans f
      refine lv_iconst (v := 1) S.1 S.2.1 dX5_takePart_65 (by decide) ?_
      refine lv_goto (tgt := 70) S.1 S.2.1 dX5_takePart_66 (by decide) ?_
      exact T5_takePart_70 S hr hlo  f I (lv_sub hl [0, 1, 2] rfl)
set_option maxHeartbeats 4000000 in
set_option maxRecDepth 100000 in
theorem T5_takePart_0 (S : CallFix p m c cX5_takePart 4 s args vX5_takePart RX5) (hr : meth.sig.returnType = (some .boolean)) (hlo : meth.locks = false) {out : Int32 × PH} {h : PH} {a0 : Nat} {a1 : Nat} (f : F5_takePart_0  h a0 a1 = some out) {H : Heap} {locs : List Loc} (I : ph_I D cy b A fl h s H locs) {ls : Array Slot} (hl : lv_has ls 4 [(0, .ref (b + a0)), (1, .ref (b + a1))]) : W p l e ({ frames := 3, cells := 0, slots := 0, locals := 62 } : Room) s m args below meth c H locs 0 0 (MQ below (va_Qi (fun (r : Int32) (u : PH) => (r, u) = out) (ph_B D cy b A fl) A) args s 0 0 A) (F0 m 0 ls []) := by
  unfold F5_takePart_0 at f
  refine lv_aload_n S.1 S.2.1 dX5_takePart_0 rfl (lv_at hl 0 rfl) ?_
  obtain ⟨r1, e2, f⟩ := ob f
  refine o_gR S lf5_takePart_18 I e2 dX5_takePart_1 ?_
  obtain ⟨v3, e4, f⟩ := ob f
  refine o_gI S lf5_takePart_52 I e4 dX5_takePart_4 ?_
  refine lv_istore_n (lv' := [(2, .int v3), (0, .ref (b + a0)), (1, .ref (b + a1))]) S.1 S.2.1 dX5_takePart_7 rfl hl (by decide) rfl (fun ls hl => ?_)
  refine lv_iload_n S.1 S.2.1 dX5_takePart_8 rfl (lv_at hl 0 rfl) ?_
  refine lv_bipush (v := 36) S.1 S.2.1 dX5_takePart_9 (by decide) ?_
  refine lv_icmp_ne (tgt := 19) S.1 S.2.1 dX5_takePart_11 (by decide) (fun q5 => ?_) (fun q5 => ?_)
  · have f := (if_neg q5).symm.trans f
    refine lv_iload_n S.1 S.2.1 dX5_takePart_19 rfl (lv_at hl 0 rfl) ?_
    refine lv_bipush (v := 15) S.1 S.2.1 dX5_takePart_20 (by decide) ?_
    refine lv_icmp_ne (tgt := 53) S.1 S.2.1 dX5_takePart_22 (by decide) (fun q6 => ?_) (fun q6 => ?_)
    · have f := (if_neg q6).symm.trans f
      exact T5_takePart_53 S hr hlo  f I (lv_sub hl [1, 2, 0] rfl)
    · have f := (if_pos q6).symm.trans f
      refine lv_aload_n S.1 S.2.1 dX5_takePart_25 rfl (lv_at hl 1 rfl) ?_
      obtain ⟨v7, e8, f⟩ := ob f
      refine o_gI S lf5_takePart_194 I e8 dX5_takePart_26 ?_
      refine lv_if_eq (tgt := 53) S.1 S.2.1 dX5_takePart_29 (by decide) (fun q9 => ?_) (fun q9 => ?_)
      · have f := (if_pos q9).symm.trans f
        exact T5_takePart_53 S hr hlo  f I (lv_sub hl [1, 2, 0] rfl)
      · have f := (if_neg q9).symm.trans f
        refine lv_aload_n S.1 S.2.1 dX5_takePart_32 rfl (lv_at hl 1 rfl) ?_
        obtain ⟨o10, e11, f⟩ := ob f
        refine o_Vi S (As := []) (rest := []) (ci := 5) (M5_countKnot l D cy b A fl e11) gX5_takePart_X5_countKnot rfl rfl rfl cd5_countKnot ⟨Nat.le_of_ble_eq_true rfl, Nat.le_of_ble_eq_true rfl⟩ I (gd e11).1 clX5 rfl rfl hl.1 rfl (Nat.le_of_ble_eq_true rfl) dX5_takePart_33 ⟨Nat.le_of_ble_eq_true rfl, Nat.le_of_ble_eq_true rfl⟩ (fun H locs I => ?_)
        refine lv_if_eq (tgt := 51) S.1 S.2.1 dX5_takePart_36 (by decide) (fun q12 => ?_) (fun q12 => ?_)
        · have f := (if_pos q12).symm.trans f
          refine lv_iconst (v := 0) S.1 S.2.1 dX5_takePart_51 (by decide) ?_
          exact o_zret S hr hlo I f dX5_takePart_52
        · have f := (if_neg q12).symm.trans f
          refine lv_aload_n S.1 S.2.1 dX5_takePart_39 rfl (lv_at hl 1 rfl) ?_
          refine lv_iload_n S.1 S.2.1 dX5_takePart_40 rfl (lv_at hl 0 rfl) ?_
          obtain ⟨o13, e14, f⟩ := ob f
          refine o_Vi S (As := [.int v3]) (rest := []) (ci := 5) (M5_letWait l D cy b A fl e14) gX5_takePart_X5_letWait rfl rfl rfl cd5_letWait ⟨Nat.le_of_ble_eq_true rfl, Nat.le_of_ble_eq_true rfl⟩ I (gd e14).1 clX5 rfl rfl hl.1 rfl (Nat.le_of_ble_eq_true rfl) dX5_takePart_41 ⟨Nat.le_of_ble_eq_true rfl, Nat.le_of_ble_eq_true rfl⟩ (fun H locs I => ?_)
          refine lv_if_eq (tgt := 51) S.1 S.2.1 dX5_takePart_44 (by decide) (fun q15 => ?_) (fun q15 => ?_)
          · have f := (if_pos q15).symm.trans f
            refine lv_iconst (v := 0) S.1 S.2.1 dX5_takePart_51 (by decide) ?_
            exact o_zret S hr hlo I f dX5_takePart_52
          · have f := (if_neg q15).symm.trans f
            refine lv_iconst (v := 1) S.1 S.2.1 dX5_takePart_47 (by decide) ?_
            refine lv_goto (tgt := 52) S.1 S.2.1 dX5_takePart_48 (by decide) ?_
            exact o_zret S hr hlo I f dX5_takePart_52
  · have f := (if_pos q5).symm.trans f
    refine lv_aload_n S.1 S.2.1 dX5_takePart_14 rfl (lv_at hl 1 rfl) ?_
    obtain ⟨o16, e17, f⟩ := ob f
    refine o_Vi S (As := []) (rest := []) (ci := 5) (M5_takeOpen l D cy b A fl e17) gX5_takePart_X5_takeOpen rfl rfl rfl cd5_takeOpen ⟨Nat.le_of_ble_eq_true rfl, Nat.le_of_ble_eq_true rfl⟩ I (gd e17).1 clX5 rfl rfl hl.1 rfl (Nat.le_of_ble_eq_true rfl) dX5_takePart_15 ⟨Nat.le_of_ble_eq_true rfl, Nat.le_of_ble_eq_true rfl⟩ (fun H locs I => ?_)
    exact o_zret S hr hlo I f dX5_takePart_18
theorem M5_takePart (l : Launch) (D : va_G) (cy : Nat → ClassId) (b : Nat) (A : Nat → Prop) (fl : Bool) {h : PH} {a0 : Nat} {a1 : Nat} {out : Int32 × PH} (f : F5_takePart h a0 a1 = some out) : Met l yX5_takePart vX5_takePart ({ frames := 3, cells := 0, slots := 0, locals := 62 } : Room) (va_Pc [.ref (b + a0), .ref (b + a1)] (ph_B D cy b A fl h)) (va_Qi (fun (r : Int32) (u : PH) => (r, u) = out) (ph_B D cy b A fl) A) 0 0 A :=
  o_met (by decide) rfl (Nat.le_of_ble_eq_true rfl) rfl (fun p e s m below meth c S hr hlo hnm ls hl I => T5_takePart_0 S hr hlo ((gd f).2) I (lv_sub hl [0, 1] rfl))
def vX5_takeClose : List Cond := .code yX5_takeClose cX5_takeClose 2 (some .boolean) :: TB
theorem lf5_takeClose_188 : Fl vX5_takeClose RX5 188 5 3 := ⟨RX5, TX5, 11, rfl, by decide, (fun w h9 => List.mem_cons_of_mem _ (wC_wsX50 w h9)), (List.mem_cons_of_mem _ wT_21_13)⟩
theorem gX5_takeClose_X5_release : GoodIn vX5_takeClose (wsV RX5 197 RX5 yX5_release vX5_release) := gV_of wT_21_22 wT_21_23 wT_22_0 wT_1_22 wT_22_1
theorem lp5_takeClose_188 : Pl vX5_takeClose RX5 188 5 3 .int := ⟨RX5, TX5, 11, tyX5, rfl, by decide, (fun w h9 => List.mem_cons_of_mem _ (wC_wsX50 w h9)), (List.mem_cons_of_mem _ wT_21_13), tyX5_ok, nmX5, rfl, rfl⟩
theorem lf5_takeClose_185 : Fl vX5_takeClose RX5 185 5 2 := ⟨RX5, TX5, 11, rfl, by decide, (fun w h9 => List.mem_cons_of_mem _ (wC_wsX50 w h9)), (List.mem_cons_of_mem _ wT_21_12)⟩
theorem lp5_takeClose_185 : Pl vX5_takeClose RX5 185 5 2 .int := ⟨RX5, TX5, 11, tyX5, rfl, by decide, (fun w h9 => List.mem_cons_of_mem _ (wC_wsX50 w h9)), (List.mem_cons_of_mem _ wT_21_12), tyX5_ok, nmX5, rfl, rfl⟩
theorem gX5_takeClose_X5_refuse : GoodIn vX5_takeClose (wsV RX5 89 RX5 yX5_refuse vX5_refuse) := gV_of wT_18_1 wT_18_2 wT_18_3 wT_1_22 wT_18_4
theorem cd5_takeClose : Cd yX5_takeClose 1 := ⟨by decide, by decide, by decide +kernel⟩
set_option maxHeartbeats 4000000 in
set_option maxRecDepth 100000 in
theorem T5_takeClose_0 (S : CallFix p m c cX5_takeClose 2 s args vX5_takeClose RX5) (hr : meth.sig.returnType = (some .boolean)) (hlo : meth.locks = false) {out : Int32 × PH} {h : PH} {a0 : Nat} {a1 : Nat} (f : F5_takeClose_0  h a0 a1 = some out) {H : Heap} {locs : List Loc} (I : ph_I D cy b A fl h s H locs) {ls : Array Slot} (hl : lv_has ls 2 [(0, .ref (b + a0)), (1, .ref (b + a1))]) : W p l e ({ frames := 2, cells := 0, slots := 0, locals := 44 } : Room) s m args below meth c H locs 0 0 (MQ below (va_Qi (fun (r : Int32) (u : PH) => (r, u) = out) (ph_B D cy b A fl) A) args s 0 0 A) (F0 m 0 ls []) := by
  unfold F5_takeClose_0 at f
  refine lv_aload_n S.1 S.2.1 dX5_takeClose_0 rfl (lv_at hl 0 rfl) ?_
  obtain ⟨v1, e2, f⟩ := ob f
  refine o_gI S lf5_takeClose_188 I e2 dX5_takeClose_1 ?_
  refine lv_if_ne (tgt := 13) S.1 S.2.1 dX5_takeClose_4 (by decide) (fun q3 => ?_) (fun q3 => ?_)
  · have f := (if_neg q3).symm.trans f
    refine lv_aload_n S.1 S.2.1 dX5_takeClose_13 rfl (lv_at hl 0 rfl) ?_
    refine lv_aload_n S.1 S.2.1 dX5_takeClose_14 rfl (lv_at hl 1 rfl) ?_
    refine lv_iconst (v := 1) S.1 S.2.1 dX5_takeClose_15 (by decide) ?_
    obtain ⟨o4, e5, f⟩ := ob f
    refine o_Vv S (As := [.ref (b + a1), .int 1]) (rest := []) (ci := 5) (M5_release l D cy b A fl e5) gX5_takeClose_X5_release rfl rfl rfl cd5_release ⟨Nat.le_of_ble_eq_true rfl, Nat.le_of_ble_eq_true rfl⟩ I (gd e5).1 clX5 rfl rfl hl.1 rfl (Nat.le_of_ble_eq_true rfl) dX5_takeClose_16 ⟨Nat.le_of_ble_eq_true rfl, Nat.le_of_ble_eq_true rfl⟩ (fun H locs I => ?_)
    refine lv_aload_n S.1 S.2.1 dX5_takeClose_19 rfl (lv_at hl 0 rfl) ?_
    refine lv_dup S.1 S.2.1 dX5_takeClose_20 rfl ?_
    obtain ⟨v6, e7, f⟩ := ob f
    refine o_gI S lf5_takeClose_188 I e7 dX5_takeClose_21 ?_
    refine lv_iconst (v := 1) S.1 S.2.1 dX5_takeClose_24 (by decide) ?_
    refine lv_isub S.1 S.2.1 dX5_takeClose_25 ?_
    obtain ⟨h8, e9, f⟩ := ob f
    refine o_pI S lp5_takeClose_188 I e9 dX5_takeClose_26 (fun H locs I => ?_)
    refine lv_aload_n S.1 S.2.1 dX5_takeClose_29 rfl (lv_at hl 0 rfl) ?_
    obtain ⟨v10, e11, f⟩ := ob f
    refine o_gI S lf5_takeClose_185 I e11 dX5_takeClose_30 ?_
    refine lv_if_le (tgt := 46) S.1 S.2.1 dX5_takeClose_33 (by decide) (fun q12 => ?_) (fun q12 => ?_)
    · have f := (if_pos q12).symm.trans f
      refine lv_iconst (v := 1) S.1 S.2.1 dX5_takeClose_46 (by decide) ?_
      exact o_zret S hr hlo I f dX5_takeClose_47
    · have f := (if_neg q12).symm.trans f
      refine lv_aload_n S.1 S.2.1 dX5_takeClose_36 rfl (lv_at hl 0 rfl) ?_
      refine lv_dup S.1 S.2.1 dX5_takeClose_37 rfl ?_
      obtain ⟨v13, e14, f⟩ := ob f
      refine o_gI S lf5_takeClose_185 I e14 dX5_takeClose_38 ?_
      refine lv_iconst (v := 1) S.1 S.2.1 dX5_takeClose_41 (by decide) ?_
      refine lv_isub S.1 S.2.1 dX5_takeClose_42 ?_
      obtain ⟨h15, e16, f⟩ := ob f
      refine o_pI S lp5_takeClose_185 I e16 dX5_takeClose_43 (fun H locs I => ?_)
      refine lv_iconst (v := 1) S.1 S.2.1 dX5_takeClose_46 (by decide) ?_
      exact o_zret S hr hlo I f dX5_takeClose_47
  · have f := (if_pos q3).symm.trans f
    refine lv_aload_n S.1 S.2.1 dX5_takeClose_7 rfl (lv_at hl 0 rfl) ?_
    refine lv_iconst (v := 1) S.1 S.2.1 dX5_takeClose_8 (by decide) ?_
    obtain ⟨o17, e18, f⟩ := ob f
    refine o_Vi S (As := [.int 1]) (rest := []) (ci := 5) (M5_refuse l D cy b A fl e18) gX5_takeClose_X5_refuse rfl rfl rfl cd5_refuse ⟨Nat.le_of_ble_eq_true rfl, Nat.le_of_ble_eq_true rfl⟩ I (gd e18).1 clX5 rfl rfl hl.1 rfl (Nat.le_of_ble_eq_true rfl) dX5_takeClose_9 ⟨Nat.le_of_ble_eq_true rfl, Nat.le_of_ble_eq_true rfl⟩ (fun H locs I => ?_)
    exact o_zret S hr hlo I f dX5_takeClose_12
theorem M5_takeClose (l : Launch) (D : va_G) (cy : Nat → ClassId) (b : Nat) (A : Nat → Prop) (fl : Bool) {h : PH} {a0 : Nat} {a1 : Nat} {out : Int32 × PH} (f : F5_takeClose h a0 a1 = some out) : Met l yX5_takeClose vX5_takeClose ({ frames := 2, cells := 0, slots := 0, locals := 44 } : Room) (va_Pc [.ref (b + a0), .ref (b + a1)] (ph_B D cy b A fl h)) (va_Qi (fun (r : Int32) (u : PH) => (r, u) = out) (ph_B D cy b A fl) A) 0 0 A :=
  o_met (by decide) rfl (Nat.le_of_ble_eq_true rfl) rfl (fun p e s m below meth c S hr hlo hnm ls hl I => T5_takeClose_0 S hr hlo ((gd f).2) I (lv_sub hl [0, 1] rfl))
def vX5_waitsForLike : List Cond := .code yX5_waitsForLike cX5_waitsForLike 1 (some .boolean) :: TB
theorem lf5_waitsForLike_185 : Fl vX5_waitsForLike RX5 185 5 2 := ⟨RX5, TX5, 11, rfl, by decide, (fun w h9 => List.mem_cons_of_mem _ (wC_wsX50 w h9)), (List.mem_cons_of_mem _ wT_21_12)⟩
theorem lf5_waitsForLike_22 : Fl vX5_waitsForLike RX5 22 5 1 := ⟨RX5, TX5, 11, rfl, by decide, (fun w h9 => List.mem_cons_of_mem _ (wC_wsX50 w h9)), (List.mem_cons_of_mem _ wT_5_4)⟩
theorem gX5_waitsForLike_X5_strengthOf : GoodIn vX5_waitsForLike (va_wsS RX5 223 yX5_strengthOf vX5_strengthOf) := gS_of wT_22_2 wT_22_3 wT_1_22 wT_22_4
theorem cd5_waitsForLike : Cd yX5_waitsForLike 0 := ⟨by decide, by decide, by decide +kernel⟩
set_option maxHeartbeats 4000000 in
set_option maxRecDepth 100000 in
theorem T5_waitsForLike_0 (S : CallFix p m c cX5_waitsForLike 1 s args vX5_waitsForLike RX5) (hr : meth.sig.returnType = (some .boolean)) (hlo : meth.locks = false) {out : Int32 × PH} {h : PH} {a0 : Nat} (f : F5_waitsForLike_0  h a0 = some out) {H : Heap} {locs : List Loc} (I : ph_I D cy b A fl h s H locs) {ls : Array Slot} (hl : lv_has ls 1 [(0, .ref (b + a0))]) : W p l e ({ frames := 1, cells := 0, slots := 0, locals := 20 } : Room) s m args below meth c H locs 0 0 (MQ below (va_Qi (fun (r : Int32) (u : PH) => (r, u) = out) (ph_B D cy b A fl) A) args s 0 0 A) (F0 m 0 ls []) := by
  unfold F5_waitsForLike_0 at f
  refine lv_aload_n S.1 S.2.1 dX5_waitsForLike_0 rfl (lv_at hl 0 rfl) ?_
  obtain ⟨v1, e2, f⟩ := ob f
  refine o_gI S lf5_waitsForLike_185 I e2 dX5_waitsForLike_1 ?_
  refine lv_if_le (tgt := 33) S.1 S.2.1 dX5_waitsForLike_4 (by decide) (fun q3 => ?_) (fun q3 => ?_)
  · have f := (if_pos q3).symm.trans f
    refine lv_iconst (v := 0) S.1 S.2.1 dX5_waitsForLike_33 (by decide) ?_
    exact o_zret S hr hlo I f dX5_waitsForLike_34
  · have f := (if_neg q3).symm.trans f
    refine lv_aload_n S.1 S.2.1 dX5_waitsForLike_7 rfl (lv_at hl 0 rfl) ?_
    obtain ⟨r4, e5, f⟩ := ob f
    refine o_gR S lf5_waitsForLike_22 I e5 dX5_waitsForLike_8 ?_
    refine lv_aload_n S.1 S.2.1 dX5_waitsForLike_11 rfl (lv_at hl 0 rfl) ?_
    obtain ⟨v6, e7, f⟩ := ob f
    refine o_gI S lf5_waitsForLike_185 I e7 dX5_waitsForLike_12 ?_
    refine lv_iconst (v := 1) S.1 S.2.1 dX5_waitsForLike_15 (by decide) ?_
    refine lv_isub S.1 S.2.1 dX5_waitsForLike_16 ?_
    obtain ⟨v9, e8, f⟩ := ob f
    refine o_iald S I e8 dX5_waitsForLike_17 ?_
    obtain ⟨o10, e11, f⟩ := ob f
    refine o_Si S (As := [.int v9]) (rest := []) (M5_strengthOf l D cy b A fl e11) gX5_waitsForLike_X5_strengthOf rfl rfl rfl cd5_strengthOf ⟨Nat.le_of_ble_eq_true rfl, Nat.le_of_ble_eq_true rfl⟩ I rfl hl.1 rfl (Nat.le_of_ble_eq_true rfl) dX5_waitsForLike_18 ⟨Nat.le_of_ble_eq_true rfl, Nat.le_of_ble_eq_true rfl⟩ (fun H locs I => ?_)
    refine lv_bipush (v := 28) S.1 S.2.1 dX5_waitsForLike_21 (by decide) ?_
    obtain ⟨o12, e13, f⟩ := ob f
    refine o_Si S (As := [.int 28]) (rest := [.int o10.1]) (M5_strengthOf l D cy b A fl e13) gX5_waitsForLike_X5_strengthOf rfl rfl rfl cd5_strengthOf ⟨Nat.le_of_ble_eq_true rfl, Nat.le_of_ble_eq_true rfl⟩ I rfl hl.1 rfl (Nat.le_of_ble_eq_true rfl) dX5_waitsForLike_23 ⟨Nat.le_of_ble_eq_true rfl, Nat.le_of_ble_eq_true rfl⟩ (fun H locs I => ?_)
    refine lv_icmp_ne (tgt := 33) S.1 S.2.1 dX5_waitsForLike_26 (by decide) (fun q14 => ?_) (fun q14 => ?_)
    · have f := (if_neg q14).symm.trans f
      refine lv_iconst (v := 0) S.1 S.2.1 dX5_waitsForLike_33 (by decide) ?_
      exact o_zret S hr hlo I f dX5_waitsForLike_34
    · have f := (if_pos q14).symm.trans f
      refine lv_iconst (v := 1) S.1 S.2.1 dX5_waitsForLike_29 (by decide) ?_
      refine lv_goto (tgt := 34) S.1 S.2.1 dX5_waitsForLike_30 (by decide) ?_
      exact o_zret S hr hlo I f dX5_waitsForLike_34
theorem M5_waitsForLike (l : Launch) (D : va_G) (cy : Nat → ClassId) (b : Nat) (A : Nat → Prop) (fl : Bool) {h : PH} {a0 : Nat} {out : Int32 × PH} (f : F5_waitsForLike h a0 = some out) : Met l yX5_waitsForLike vX5_waitsForLike ({ frames := 1, cells := 0, slots := 0, locals := 20 } : Room) (va_Pc [.ref (b + a0)] (ph_B D cy b A fl h)) (va_Qi (fun (r : Int32) (u : PH) => (r, u) = out) (ph_B D cy b A fl) A) 0 0 A :=
  o_met (by decide) rfl (Nat.le_of_ble_eq_true rfl) rfl (fun p e s m below meth c S hr hlo hnm ls hl I => T5_waitsForLike_0 S hr hlo ((gd f).2) I (lv_sub hl [0] rfl))
def vX5_takeJoint : List Cond := .code yX5_takeJoint cX5_takeJoint 5 (some .boolean) :: TB
theorem gX5_takeJoint_X5_refuse : GoodIn vX5_takeJoint (wsV RX5 89 RX5 yX5_refuse vX5_refuse) := gV_of wT_18_1 wT_18_2 wT_18_3 wT_1_22 wT_18_4
theorem lp5_takeJoint_194 : Pl vX5_takeJoint RX5 194 5 5 .boolean := ⟨RX5, TX5, 11, tyX5, rfl, by decide, (fun w h9 => List.mem_cons_of_mem _ (wC_wsX50 w h9)), (List.mem_cons_of_mem _ wT_21_15), tyX5_ok, nmX5, rfl, rfl⟩
theorem gX5_takeJoint_X5_countKnot : GoodIn vX5_takeJoint (wsV RX5 211 RX5 yX5_countKnot vX5_countKnot) := gV_of wT_22_21 wT_22_22 wT_22_23 wT_1_22 wT_23_0
theorem gX5_takeJoint_X5_letWait : GoodIn vX5_takeJoint (wsV RX5 214 RX5 yX5_letWait vX5_letWait) := gV_of wT_22_17 wT_22_18 wT_22_19 wT_1_22 wT_22_20
theorem lp5_takeJoint_191 : Pl vX5_takeJoint RX5 191 5 4 .boolean := ⟨RX5, TX5, 11, tyX5, rfl, by decide, (fun w h9 => List.mem_cons_of_mem _ (wC_wsX50 w h9)), (List.mem_cons_of_mem _ wT_21_14), tyX5_ok, nmX5, rfl, rfl⟩
theorem gX5_takeJoint_X5_release : GoodIn vX5_takeJoint (wsV RX5 197 RX5 yX5_release vX5_release) := gV_of wT_21_22 wT_21_23 wT_22_0 wT_1_22 wT_22_1
theorem gX5_takeJoint_X5_waitsForLike : GoodIn vX5_takeJoint (wsV RX5 226 RX5 yX5_waitsForLike vX5_waitsForLike) := gV_of wT_23_10 wT_23_11 wT_23_12 wT_1_22 wT_23_13
theorem lf5_takeJoint_18 : Fl vX5_takeJoint RX5 18 5 0 := ⟨RX5, TX5, 11, rfl, by decide, (fun w h9 => List.mem_cons_of_mem _ (wC_wsX50 w h9)), (List.mem_cons_of_mem _ wT_5_3)⟩
theorem lf5_takeJoint_52 : Fl vX5_takeJoint RX5 52 7 4 := ⟨RX7, TX7, 7, rfl, by decide, (fun w h9 => List.mem_cons_of_mem _ (wC_wsX70 w h9)), (List.mem_cons_of_mem _ wT_14_7)⟩
theorem gX5_takeJoint_X5_strengthOf : GoodIn vX5_takeJoint (va_wsS RX5 223 yX5_strengthOf vX5_strengthOf) := gS_of wT_22_2 wT_22_3 wT_1_22 wT_22_4
theorem gX5_takeJoint_X5_takeClose : GoodIn vX5_takeJoint (wsV RX5 220 RX5 yX5_takeClose vX5_takeClose) := gV_of wT_23_6 wT_23_7 wT_23_8 wT_1_22 wT_23_9
theorem cd5_takeJoint : Cd yX5_takeJoint 1 := ⟨by decide, by decide, by decide +kernel⟩
set_option maxHeartbeats 4000000 in
set_option maxRecDepth 100000 in
theorem T5_takeJoint_35 (S : CallFix p m c cX5_takeJoint 5 s args vX5_takeJoint RX5) (hr : meth.sig.returnType = (some .boolean)) (hlo : meth.locks = false) {out : Int32 × PH} {h : PH} {a0 : Nat} (f : F5_takeJoint_35  h a0 = some out) {H : Heap} {locs : List Loc} (I : ph_I D cy b A fl h s H locs) {ls : Array Slot} (hl : lv_has ls 5 [(0, .ref (b + a0))]) : W p l e ({ frames := 3, cells := 0, slots := 0, locals := 65 } : Room) s m args below meth c H locs 0 0 (MQ below (va_Qi (fun (r : Int32) (u : PH) => (r, u) = out) (ph_B D cy b A fl) A) args s 0 0 A) (F0 m 35 ls []) := by
  unfold F5_takeJoint_35 at f
  refine lv_aload_n S.1 S.2.1 dX5_takeJoint_35 rfl (lv_at hl 0 rfl) ?_
  refine lv_iconst (v := 1) S.1 S.2.1 dX5_takeJoint_36 (by decide) ?_
  obtain ⟨o1, e2, f⟩ := ob f
  refine o_Vi S (As := [.int 1]) (rest := []) (ci := 5) (M5_refuse l D cy b A fl e2) gX5_takeJoint_X5_refuse rfl rfl rfl cd5_refuse ⟨Nat.le_of_ble_eq_true rfl, Nat.le_of_ble_eq_true rfl⟩ I (gd e2).1 clX5 rfl rfl hl.1 rfl (Nat.le_of_ble_eq_true rfl) dX5_takeJoint_37 ⟨Nat.le_of_ble_eq_true rfl, Nat.le_of_ble_eq_true rfl⟩ (fun H locs I => ?_)
  exact o_zret S hr hlo I f dX5_takeJoint_40
set_option maxHeartbeats 4000000 in
set_option maxRecDepth 100000 in
theorem T5_takeJoint_115 (S : CallFix p m c cX5_takeJoint 5 s args vX5_takeJoint RX5) (hr : meth.sig.returnType = (some .boolean)) (hlo : meth.locks = false) {out : Int32 × PH} {h : PH} {a0 : Nat} {x2 : Int32} {s0 : Int32} {u1 : Nat} (f : F5_takeJoint_115  h a0 x2 s0 u1 = some out) {H : Heap} {locs : List Loc} (I : ph_I D cy b A fl h s H locs) {ls : Array Slot} (hl : lv_has ls 5 [(0, .ref (b + a0)), (2, .int x2)]) : W p l e ({ frames := 3, cells := 0, slots := 0, locals := 65 } : Room) s m args below meth c H locs 0 0 (MQ below (va_Qi (fun (r : Int32) (u : PH) => (r, u) = out) (ph_B D cy b A fl) A) args s 0 0 A) (F0 m 115 ls [.int s0, .ref (b + u1)]) := by
  unfold F5_takeJoint_115 at f
  obtain ⟨h1, e2, f⟩ := ob f
  refine o_pZ S lp5_takeJoint_194 I e2 dX5_takeJoint_115 (fun H locs I => ?_)
  refine lv_aload_n S.1 S.2.1 dX5_takeJoint_118 rfl (lv_at hl 0 rfl) ?_
  obtain ⟨o3, e4, f⟩ := ob f
  refine o_Vi S (As := []) (rest := []) (ci := 5) (M5_countKnot l D cy b A fl e4) gX5_takeJoint_X5_countKnot rfl rfl rfl cd5_countKnot ⟨Nat.le_of_ble_eq_true rfl, Nat.le_of_ble_eq_true rfl⟩ I (gd e4).1 clX5 rfl rfl hl.1 rfl (Nat.le_of_ble_eq_true rfl) dX5_takeJoint_119 ⟨Nat.le_of_ble_eq_true rfl, Nat.le_of_ble_eq_true rfl⟩ (fun H locs I => ?_)
  refine lv_if_eq (tgt := 137) S.1 S.2.1 dX5_takeJoint_122 (by decide) (fun q5 => ?_) (fun q5 => ?_)
  · have f := (if_pos q5).symm.trans f
    refine lv_iconst (v := 0) S.1 S.2.1 dX5_takeJoint_137 (by decide) ?_
    exact o_zret S hr hlo I f dX5_takeJoint_138
  · have f := (if_neg q5).symm.trans f
    refine lv_aload_n S.1 S.2.1 dX5_takeJoint_125 rfl (lv_at hl 0 rfl) ?_
    refine lv_iload_n S.1 S.2.1 dX5_takeJoint_126 rfl (lv_at hl 1 rfl) ?_
    obtain ⟨o6, e7, f⟩ := ob f
    refine o_Vi S (As := [.int x2]) (rest := []) (ci := 5) (M5_letWait l D cy b A fl e7) gX5_takeJoint_X5_letWait rfl rfl rfl cd5_letWait ⟨Nat.le_of_ble_eq_true rfl, Nat.le_of_ble_eq_true rfl⟩ I (gd e7).1 clX5 rfl rfl hl.1 rfl (Nat.le_of_ble_eq_true rfl) dX5_takeJoint_127 ⟨Nat.le_of_ble_eq_true rfl, Nat.le_of_ble_eq_true rfl⟩ (fun H locs I => ?_)
    refine lv_if_eq (tgt := 137) S.1 S.2.1 dX5_takeJoint_130 (by decide) (fun q8 => ?_) (fun q8 => ?_)
    · have f := (if_pos q8).symm.trans f
      refine lv_iconst (v := 0) S.1 S.2.1 dX5_takeJoint_137 (by decide) ?_
      exact o_zret S hr hlo I f dX5_takeJoint_138
    · have f := (if_neg q8).symm.trans f
      refine lv_iconst (v := 1) S.1 S.2.1 dX5_takeJoint_133 (by decide) ?_
      refine lv_goto (tgt := 138) S.1 S.2.1 dX5_takeJoint_134 (by decide) ?_
      exact o_zret S hr hlo I f dX5_takeJoint_138
set_option maxHeartbeats 4000000 in
set_option maxRecDepth 100000 in
theorem T5_takeJoint_110 (S : CallFix p m c cX5_takeJoint 5 s args vX5_takeJoint RX5) (hr : meth.sig.returnType = (some .boolean)) (hlo : meth.locks = false) {out : Int32 × PH} {h : PH} {a0 : Nat} {x2 : Int32} {u0 : Nat} (f : F5_takeJoint_110  h a0 x2 u0 = some out) {H : Heap} {locs : List Loc} (I : ph_I D cy b A fl h s H locs) {ls : Array Slot} (hl : lv_has ls 5 [(0, .ref (b + a0)), (2, .int x2)]) : W p l e ({ frames := 3, cells := 0, slots := 0, locals := 65 } : Room) s m args below meth c H locs 0 0 (MQ below (va_Qi (fun (r : Int32) (u : PH) => (r, u) = out) (ph_B D cy b A fl) A) args s 0 0 A) (F0 m 110 ls [.ref (b + u0)]) := by
  unfold F5_takeJoint_110 at f
  refine lv_iconst (v := 1) S.1 S.2.1 dX5_takeJoint_110 (by decide) ?_
  refine lv_goto (tgt := 115) S.1 S.2.1 dX5_takeJoint_111 (by decide) ?_
  exact T5_takeJoint_115 S hr hlo  f I (lv_sub hl [0, 1] rfl)
set_option maxHeartbeats 4000000 in
set_option maxRecDepth 100000 in
theorem T5_takeJoint_92 (S : CallFix p m c cX5_takeJoint 5 s args vX5_takeJoint RX5) (hr : meth.sig.returnType = (some .boolean)) (hlo : meth.locks = false) {out : Int32 × PH} {h : PH} {a0 : Nat} {x2 : Int32} (f : F5_takeJoint_92  h a0 x2 = some out) {H : Heap} {locs : List Loc} (I : ph_I D cy b A fl h s H locs) {ls : Array Slot} (hl : lv_has ls 5 [(0, .ref (b + a0)), (2, .int x2)]) : W p l e ({ frames := 3, cells := 0, slots := 0, locals := 65 } : Room) s m args below meth c H locs 0 0 (MQ below (va_Qi (fun (r : Int32) (u : PH) => (r, u) = out) (ph_B D cy b A fl) A) args s 0 0 A) (F0 m 92 ls []) := by
  unfold F5_takeJoint_92 at f
  refine lv_aload_n S.1 S.2.1 dX5_takeJoint_92 rfl (lv_at hl 0 rfl) ?_
  refine lv_iconst (v := 1) S.1 S.2.1 dX5_takeJoint_93 (by decide) ?_
  obtain ⟨h1, e2, f⟩ := ob f
  refine o_pZ S lp5_takeJoint_191 I e2 dX5_takeJoint_94 (fun H locs I => ?_)
  refine lv_aload_n S.1 S.2.1 dX5_takeJoint_97 rfl (lv_at hl 0 rfl) ?_
  refine lv_iload_n S.1 S.2.1 dX5_takeJoint_98 rfl (lv_at hl 1 rfl) ?_
  refine lv_bipush (v := 16) S.1 S.2.1 dX5_takeJoint_99 (by decide) ?_
  refine lv_icmp_eq (tgt := 110) S.1 S.2.1 dX5_takeJoint_101 (by decide) (fun q3 => ?_) (fun q3 => ?_)
  · have f := (if_pos q3).symm.trans f
    exact T5_takeJoint_110 S hr hlo  f I (lv_sub hl [0, 1] rfl)
  · have f := (if_neg q3).symm.trans f
    refine lv_iload_n S.1 S.2.1 dX5_takeJoint_104 rfl (lv_at hl 1 rfl) ?_
    refine lv_bipush (v := 17) S.1 S.2.1 dX5_takeJoint_105 (by decide) ?_
    refine lv_icmp_ne (tgt := 114) S.1 S.2.1 dX5_takeJoint_107 (by decide) (fun q4 => ?_) (fun q4 => ?_)
    · have f := (if_neg q4).symm.trans f
      refine lv_iconst (v := 0) S.1 S.2.1 dX5_takeJoint_114 (by decide) ?_
      exact T5_takeJoint_115 S hr hlo  f I (lv_sub hl [0, 1] rfl)
    · have f := (if_pos q4).symm.trans f
      exact T5_takeJoint_110 S hr hlo  f I (lv_sub hl [0, 1] rfl)
set_option maxHeartbeats 4000000 in
set_option maxRecDepth 100000 in
theorem T5_takeJoint_71 (S : CallFix p m c cX5_takeJoint 5 s args vX5_takeJoint RX5) (hr : meth.sig.returnType = (some .boolean)) (hlo : meth.locks = false) {out : Int32 × PH} {h : PH} {a0 : Nat} {x2 : Int32} {x4 : Int32} {s0 : Int32} {u1 : Nat} {u2 : Nat} (f : F5_takeJoint_71  h a0 x2 x4 s0 u1 u2 = some out) {H : Heap} {locs : List Loc} (I : ph_I D cy b A fl h s H locs) {ls : Array Slot} (hl : lv_has ls 5 [(0, .ref (b + a0)), (2, .int x2), (4, .int x4)]) : W p l e ({ frames := 3, cells := 0, slots := 0, locals := 65 } : Room) s m args below meth c H locs 0 0 (MQ below (va_Qi (fun (r : Int32) (u : PH) => (r, u) = out) (ph_B D cy b A fl) A) args s 0 0 A) (F0 m 71 ls [.int s0, .ref (b + u1), .ref (b + u2)]) := by
  unfold F5_takeJoint_71 at f
  obtain ⟨o1, e2, f⟩ := ob f
  refine o_Vv S (As := [.ref (b + u1), .int s0]) (rest := []) (ci := 5) (M5_release l D cy b A fl e2) gX5_takeJoint_X5_release rfl rfl rfl cd5_release ⟨Nat.le_of_ble_eq_true rfl, Nat.le_of_ble_eq_true rfl⟩ I (gd e2).1 clX5 rfl rfl hl.1 rfl (Nat.le_of_ble_eq_true rfl) dX5_takeJoint_71 ⟨Nat.le_of_ble_eq_true rfl, Nat.le_of_ble_eq_true rfl⟩ (fun H locs I => ?_)
  refine lv_iload S.1 S.2.1 dX5_takeJoint_74 (lv_at hl 2 rfl) ?_
  refine lv_if_eq (tgt := 92) S.1 S.2.1 dX5_takeJoint_76 (by decide) (fun q3 => ?_) (fun q3 => ?_)
  · have f := (if_pos q3).symm.trans f
    exact T5_takeJoint_92 S hr hlo  f I (lv_sub hl [0, 1] rfl)
  · have f := (if_neg q3).symm.trans f
    refine lv_aload_n S.1 S.2.1 dX5_takeJoint_79 rfl (lv_at hl 0 rfl) ?_
    obtain ⟨o4, e5, f⟩ := ob f
    refine o_Vi S (As := []) (rest := []) (ci := 5) (M5_waitsForLike l D cy b A fl e5) gX5_takeJoint_X5_waitsForLike rfl rfl rfl cd5_waitsForLike ⟨Nat.le_of_ble_eq_true rfl, Nat.le_of_ble_eq_true rfl⟩ I (gd e5).1 clX5 rfl rfl hl.1 rfl (Nat.le_of_ble_eq_true rfl) dX5_takeJoint_80 ⟨Nat.le_of_ble_eq_true rfl, Nat.le_of_ble_eq_true rfl⟩ (fun H locs I => ?_)
    refine lv_if_eq (tgt := 92) S.1 S.2.1 dX5_takeJoint_83 (by decide) (fun q6 => ?_) (fun q6 => ?_)
    · have f := (if_pos q6).symm.trans f
      exact T5_takeJoint_92 S hr hlo  f I (lv_sub hl [0, 1] rfl)
    · have f := (if_neg q6).symm.trans f
      refine lv_aload_n S.1 S.2.1 dX5_takeJoint_86 rfl (lv_at hl 0 rfl) ?_
      refine lv_iconst (v := 1) S.1 S.2.1 dX5_takeJoint_87 (by decide) ?_
      obtain ⟨o7, e8, f⟩ := ob f
      refine o_Vi S (As := [.int 1]) (rest := []) (ci := 5) (M5_refuse l D cy b A fl e8) gX5_takeJoint_X5_refuse rfl rfl rfl cd5_refuse ⟨Nat.le_of_ble_eq_true rfl, Nat.le_of_ble_eq_true rfl⟩ I (gd e8).1 clX5 rfl rfl hl.1 rfl (Nat.le_of_ble_eq_true rfl) dX5_takeJoint_88 ⟨Nat.le_of_ble_eq_true rfl, Nat.le_of_ble_eq_true rfl⟩ (fun H locs I => ?_)
      exact o_zret S hr hlo I f dX5_takeJoint_91
set_option maxHeartbeats 4000000 in
set_option maxRecDepth 100000 in
theorem T5_takeJoint_55 (S : CallFix p m c cX5_takeJoint 5 s args vX5_takeJoint RX5) (hr : meth.sig.returnType = (some .boolean)) (hlo : meth.locks = false) {out : Int32 × PH} {h : PH} {a0 : Nat} {a1 : Nat} {x2 : Int32} {x3 : Int32} {s0 : Int32} (f : F5_takeJoint_55  h a0 a1 x2 x3 s0 = some out) {H : Heap} {locs : List Loc} (I : ph_I D cy b A fl h s H locs) {ls : Array Slot} (hl : lv_has ls 5 [(0, .ref (b + a0)), (1, .ref (b + a1)), (2, .int x2), (3, .int x3)]) : W p l e ({ frames := 3, cells := 0, slots := 0, locals := 65 } : Room) s m args below meth c H locs 0 0 (MQ below (va_Qi (fun (r : Int32) (u : PH) => (r, u) = out) (ph_B D cy b A fl) A) args s 0 0 A) (F0 m 55 ls [.int s0]) := by
  unfold F5_takeJoint_55 at f
  refine lv_istore (lv' := [(4, .int s0), (0, .ref (b + a0)), (1, .ref (b + a1)), (2, .int x2), (3, .int x3)]) S.1 S.2.1 dX5_takeJoint_55 hl (by decide) rfl (fun ls hl => ?_)
  refine lv_aload_n S.1 S.2.1 dX5_takeJoint_57 rfl (lv_at hl 1 rfl) ?_
  refine lv_aload_n S.1 S.2.1 dX5_takeJoint_58 rfl (lv_at hl 2 rfl) ?_
  refine lv_iload S.1 S.2.1 dX5_takeJoint_59 (lv_at hl 0 rfl) ?_
  refine lv_if_eq (tgt := 70) S.1 S.2.1 dX5_takeJoint_61 (by decide) (fun q1 => ?_) (fun q1 => ?_)
  · have f := (if_pos q1).symm.trans f
    refine lv_iload_n S.1 S.2.1 dX5_takeJoint_70 rfl (lv_at hl 4 rfl) ?_
    exact T5_takeJoint_71 S hr hlo  f I (lv_sub hl [1, 3, 0] rfl)
  · have f := (if_neg q1).symm.trans f
    refine lv_iload_n S.1 S.2.1 dX5_takeJoint_64 rfl (lv_at hl 4 rfl) ?_
    refine lv_iconst (v := 1) S.1 S.2.1 dX5_takeJoint_65 (by decide) ?_
    refine lv_iadd S.1 S.2.1 dX5_takeJoint_66 ?_
    refine lv_goto (tgt := 71) S.1 S.2.1 dX5_takeJoint_67 (by decide) ?_
    exact T5_takeJoint_71 S hr hlo  f I (lv_sub hl [1, 3, 0] rfl)
set_option maxHeartbeats 4000000 in
set_option maxRecDepth 100000 in
theorem T5_takeJoint_0 (S : CallFix p m c cX5_takeJoint 5 s args vX5_takeJoint RX5) (hr : meth.sig.returnType = (some .boolean)) (hlo : meth.locks = false) {out : Int32 × PH} {h : PH} {a0 : Nat} {a1 : Nat} (f : F5_takeJoint_0  h a0 a1 = some out) {H : Heap} {locs : List Loc} (I : ph_I D cy b A fl h s H locs) {ls : Array Slot} (hl : lv_has ls 5 [(0, .ref (b + a0)), (1, .ref (b + a1))]) : W p l e ({ frames := 3, cells := 0, slots := 0, locals := 65 } : Room) s m args below meth c H locs 0 0 (MQ below (va_Qi (fun (r : Int32) (u : PH) => (r, u) = out) (ph_B D cy b A fl) A) args s 0 0 A) (F0 m 0 ls []) := by
  unfold F5_takeJoint_0 at f
  refine lv_aload_n S.1 S.2.1 dX5_takeJoint_0 rfl (lv_at hl 0 rfl) ?_
  obtain ⟨r1, e2, f⟩ := ob f
  refine o_gR S lf5_takeJoint_18 I e2 dX5_takeJoint_1 ?_
  obtain ⟨v3, e4, f⟩ := ob f
  refine o_gI S lf5_takeJoint_52 I e4 dX5_takeJoint_4 ?_
  refine lv_istore_n (lv' := [(2, .int v3), (0, .ref (b + a0)), (1, .ref (b + a1))]) S.1 S.2.1 dX5_takeJoint_7 rfl hl (by decide) rfl (fun ls hl => ?_)
  refine lv_iload_n S.1 S.2.1 dX5_takeJoint_8 rfl (lv_at hl 0 rfl) ?_
  refine lv_bipush (v := 37) S.1 S.2.1 dX5_takeJoint_9 (by decide) ?_
  refine lv_icmp_ne (tgt := 20) S.1 S.2.1 dX5_takeJoint_11 (by decide) (fun q5 => ?_) (fun q5 => ?_)
  · have f := (if_neg q5).symm.trans f
    refine lv_iload_n S.1 S.2.1 dX5_takeJoint_20 rfl (lv_at hl 0 rfl) ?_
    obtain ⟨o6, e7, f⟩ := ob f
    refine o_Si S (As := [.int v3]) (rest := []) (M5_strengthOf l D cy b A fl e7) gX5_takeJoint_X5_strengthOf rfl rfl rfl cd5_strengthOf ⟨Nat.le_of_ble_eq_true rfl, Nat.le_of_ble_eq_true rfl⟩ I rfl hl.1 rfl (Nat.le_of_ble_eq_true rfl) dX5_takeJoint_21 ⟨Nat.le_of_ble_eq_true rfl, Nat.le_of_ble_eq_true rfl⟩ (fun H locs I => ?_)
    refine lv_istore_n (lv' := [(3, .int o6.1), (2, .int v3), (0, .ref (b + a0)), (1, .ref (b + a1))]) S.1 S.2.1 dX5_takeJoint_24 rfl hl (by decide) rfl (fun ls hl => ?_)
    refine lv_iload_n S.1 S.2.1 dX5_takeJoint_25 rfl (lv_at hl 0 rfl) ?_
    refine lv_if_eq (tgt := 35) S.1 S.2.1 dX5_takeJoint_26 (by decide) (fun q8 => ?_) (fun q8 => ?_)
    · have f := (if_pos q8).symm.trans f
      exact T5_takeJoint_35 S hr hlo  f I (lv_sub hl [2] rfl)
    · have f := (if_neg q8).symm.trans f
      refine lv_iload_n S.1 S.2.1 dX5_takeJoint_29 rfl (lv_at hl 1 rfl) ?_
      refine lv_bipush (v := 15) S.1 S.2.1 dX5_takeJoint_30 (by decide) ?_
      refine lv_icmp_ne (tgt := 41) S.1 S.2.1 dX5_takeJoint_32 (by decide) (fun q9 => ?_) (fun q9 => ?_)
      · have f := (if_neg q9).symm.trans f
        refine lv_iload_n S.1 S.2.1 dX5_takeJoint_41 rfl (lv_at hl 0 rfl) ?_
        refine lv_bipush (v := 28) S.1 S.2.1 dX5_takeJoint_42 (by decide) ?_
        obtain ⟨o10, e11, f⟩ := ob f
        refine o_Si S (As := [.int 28]) (rest := [.int o6.1]) (M5_strengthOf l D cy b A fl e11) gX5_takeJoint_X5_strengthOf rfl rfl rfl cd5_strengthOf ⟨Nat.le_of_ble_eq_true rfl, Nat.le_of_ble_eq_true rfl⟩ I rfl hl.1 rfl (Nat.le_of_ble_eq_true rfl) dX5_takeJoint_44 ⟨Nat.le_of_ble_eq_true rfl, Nat.le_of_ble_eq_true rfl⟩ (fun H locs I => ?_)
        refine lv_icmp_ne (tgt := 54) S.1 S.2.1 dX5_takeJoint_47 (by decide) (fun q12 => ?_) (fun q12 => ?_)
        · have f := (if_neg q12).symm.trans f
          refine lv_iconst (v := 0) S.1 S.2.1 dX5_takeJoint_54 (by decide) ?_
          exact T5_takeJoint_55 S hr hlo  f I (lv_sub hl [2, 3, 1, 0] rfl)
        · have f := (if_pos q12).symm.trans f
          refine lv_iconst (v := 1) S.1 S.2.1 dX5_takeJoint_50 (by decide) ?_
          refine lv_goto (tgt := 55) S.1 S.2.1 dX5_takeJoint_51 (by decide) ?_
          exact T5_takeJoint_55 S hr hlo  f I (lv_sub hl [2, 3, 1, 0] rfl)
      · have f := (if_pos q9).symm.trans f
        exact T5_takeJoint_35 S hr hlo  f I (lv_sub hl [2] rfl)
  · have f := (if_pos q5).symm.trans f
    refine lv_aload_n S.1 S.2.1 dX5_takeJoint_14 rfl (lv_at hl 1 rfl) ?_
    refine lv_aload_n S.1 S.2.1 dX5_takeJoint_15 rfl (lv_at hl 2 rfl) ?_
    obtain ⟨o13, e14, f⟩ := ob f
    refine o_Vi S (As := [.ref (b + a1)]) (rest := []) (ci := 5) (M5_takeClose l D cy b A fl e14) gX5_takeJoint_X5_takeClose rfl rfl rfl cd5_takeClose ⟨Nat.le_of_ble_eq_true rfl, Nat.le_of_ble_eq_true rfl⟩ I (gd e14).1 clX5 rfl rfl hl.1 rfl (Nat.le_of_ble_eq_true rfl) dX5_takeJoint_16 ⟨Nat.le_of_ble_eq_true rfl, Nat.le_of_ble_eq_true rfl⟩ (fun H locs I => ?_)
    exact o_zret S hr hlo I f dX5_takeJoint_19
theorem M5_takeJoint (l : Launch) (D : va_G) (cy : Nat → ClassId) (b : Nat) (A : Nat → Prop) (fl : Bool) {h : PH} {a0 : Nat} {a1 : Nat} {out : Int32 × PH} (f : F5_takeJoint h a0 a1 = some out) : Met l yX5_takeJoint vX5_takeJoint ({ frames := 3, cells := 0, slots := 0, locals := 65 } : Room) (va_Pc [.ref (b + a0), .ref (b + a1)] (ph_B D cy b A fl h)) (va_Qi (fun (r : Int32) (u : PH) => (r, u) = out) (ph_B D cy b A fl) A) 0 0 A :=
  o_met (by decide) rfl (Nat.le_of_ble_eq_true rfl) rfl (fun p e s m below meth c S hr hlo hnm ls hl I => T5_takeJoint_0 S hr hlo ((gd f).2) I (lv_sub hl [0, 1] rfl))
def vX5_readLaw : List Cond := .code yX5_readLaw cX5_readLaw 3 (some .boolean) :: TB
theorem lf5_readLaw_191 : Fl vX5_readLaw RX5 191 5 4 := ⟨RX5, TX5, 11, rfl, by decide, (fun w h9 => List.mem_cons_of_mem _ (wC_wsX50 w h9)), (List.mem_cons_of_mem _ wT_21_14)⟩
theorem gX5_readLaw_X5_takeJoint : GoodIn vX5_readLaw (wsV RX5 205 RX5 yX5_takeJoint vX5_takeJoint) := gV_of wT_23_2 wT_23_3 wT_23_4 wT_1_22 wT_23_5
theorem gX5_readLaw_X5_takePart : GoodIn vX5_readLaw (wsV RX5 201 RX5 yX5_takePart vX5_takePart) := gV_of wT_22_9 wT_22_10 wT_22_11 wT_1_22 wT_22_12
theorem lf5_readLaw_18 : Fl vX5_readLaw RX5 18 5 0 := ⟨RX5, TX5, 11, rfl, by decide, (fun w h9 => List.mem_cons_of_mem _ (wC_wsX50 w h9)), (List.mem_cons_of_mem _ wT_5_3)⟩
theorem gX5_readLaw_X7_advance : GoodIn vX5_readLaw (wsV RX5 49 RX7 yX7_advance vX7_advance) := gV_of wT_15_21 wT_15_22 wT_15_23 wT_5_2 wT_16_0
theorem lf5_readLaw_188 : Fl vX5_readLaw RX5 188 5 3 := ⟨RX5, TX5, 11, rfl, by decide, (fun w h9 => List.mem_cons_of_mem _ (wC_wsX50 w h9)), (List.mem_cons_of_mem _ wT_21_13)⟩
theorem lf5_readLaw_52 : Fl vX5_readLaw RX5 52 7 4 := ⟨RX7, TX7, 7, rfl, by decide, (fun w h9 => List.mem_cons_of_mem _ (wC_wsX70 w h9)), (List.mem_cons_of_mem _ wT_14_7)⟩
theorem gX5_readLaw_X5_release : GoodIn vX5_readLaw (wsV RX5 197 RX5 yX5_release vX5_release) := gV_of wT_21_22 wT_21_23 wT_22_0 wT_1_22 wT_22_1
theorem gX5_readLaw_X5_readKind : GoodIn vX5_readLaw (wsV RX5 181 RX5 yX5_readKind vX5_readKind) := gV_of wT_21_16 wT_21_17 wT_21_18 wT_1_22 wT_21_19
theorem lp5_readLaw_185 : Pl vX5_readLaw RX5 185 5 2 .int := ⟨RX5, TX5, 11, tyX5, rfl, by decide, (fun w h9 => List.mem_cons_of_mem _ (wC_wsX50 w h9)), (List.mem_cons_of_mem _ wT_21_12), tyX5_ok, nmX5, rfl, rfl⟩
theorem lp5_readLaw_188 : Pl vX5_readLaw RX5 188 5 3 .int := ⟨RX5, TX5, 11, tyX5, rfl, by decide, (fun w h9 => List.mem_cons_of_mem _ (wC_wsX50 w h9)), (List.mem_cons_of_mem _ wT_21_13), tyX5_ok, nmX5, rfl, rfl⟩
theorem lp5_readLaw_191 : Pl vX5_readLaw RX5 191 5 4 .boolean := ⟨RX5, TX5, 11, tyX5, rfl, by decide, (fun w h9 => List.mem_cons_of_mem _ (wC_wsX50 w h9)), (List.mem_cons_of_mem _ wT_21_14), tyX5_ok, nmX5, rfl, rfl⟩
theorem lp5_readLaw_194 : Pl vX5_readLaw RX5 194 5 5 .boolean := ⟨RX5, TX5, 11, tyX5, rfl, by decide, (fun w h9 => List.mem_cons_of_mem _ (wC_wsX50 w h9)), (List.mem_cons_of_mem _ wT_21_15), tyX5_ok, nmX5, rfl, rfl⟩
theorem cd5_readLaw : Cd yX5_readLaw 0 := ⟨by decide, by decide, by decide +kernel⟩
set_option maxHeartbeats 4000000 in
set_option maxRecDepth 100000 in
theorem T5_readLaw_81 (S : CallFix p m c cX5_readLaw 3 s args vX5_readLaw RX5) (hr : meth.sig.returnType = (some .boolean)) (hlo : meth.locks = false) {out : Int32 × PH} {k33 : PH → Nat → Nat → Int32 → Option (Int32 × PH)} (hk33 : ∀ {h : PH} {a0 : Nat} {a1 : Nat} {x2 : Int32}, k33 h a0 a1 x2 = some out → ∀ (H : Heap) (locs : List Loc), ph_I D cy b A fl h s H locs → ∀ (ls : Array Slot), lv_has ls 3 [(0, .ref (b + a0)), (1, .ref (b + a1)), (2, .int x2)] → W p l e ({ frames := 4, cells := 0, slots := 0, locals := 89 } : Room) s m args below meth c H locs 0 0 (MQ below (va_Qi (fun (r : Int32) (u : PH) => (r, u) = out) (ph_B D cy b A fl) A) args s 0 0 A) (F0 m 33 ls [])) {h : PH} {a0 : Nat} {a1 : Nat} {x2 : Int32} (f : F5_readLaw_81 k33 h a0 a1 x2 = some out) {H : Heap} {locs : List Loc} (I : ph_I D cy b A fl h s H locs) {ls : Array Slot} (hl : lv_has ls 3 [(0, .ref (b + a0)), (1, .ref (b + a1)), (2, .int x2)]) : W p l e ({ frames := 4, cells := 0, slots := 0, locals := 89 } : Room) s m args below meth c H locs 0 0 (MQ below (va_Qi (fun (r : Int32) (u : PH) => (r, u) = out) (ph_B D cy b A fl) A) args s 0 0 A) (F0 m 81 ls []) := by
  unfold F5_readLaw_81 at f
  refine lv_aload_n S.1 S.2.1 dX5_readLaw_81 rfl (lv_at hl 0 rfl) ?_
  obtain ⟨v1, e2, f⟩ := ob f
  refine o_gI S lf5_readLaw_191 I e2 dX5_readLaw_82 ?_
  refine lv_if_eq (tgt := 99) S.1 S.2.1 dX5_readLaw_85 (by decide) (fun q3 => ?_) (fun q3 => ?_)
  · have f := (if_pos q3).symm.trans f
    refine lv_aload_n S.1 S.2.1 dX5_readLaw_99 rfl (lv_at hl 0 rfl) ?_
    refine lv_aload_n S.1 S.2.1 dX5_readLaw_100 rfl (lv_at hl 1 rfl) ?_
    obtain ⟨o4, e5, f⟩ := ob f
    refine o_Vi S (As := [.ref (b + a1)]) (rest := []) (ci := 5) (M5_takeJoint l D cy b A fl e5) gX5_readLaw_X5_takeJoint rfl rfl rfl cd5_takeJoint ⟨Nat.le_of_ble_eq_true rfl, Nat.le_of_ble_eq_true rfl⟩ I (gd e5).1 clX5 rfl rfl hl.1 rfl (Nat.le_of_ble_eq_true rfl) dX5_readLaw_101 ⟨Nat.le_of_ble_eq_true rfl, Nat.le_of_ble_eq_true rfl⟩ (fun H locs I => ?_)
    refine lv_if_ne (tgt := 109) S.1 S.2.1 dX5_readLaw_104 (by decide) (fun q6 => ?_) (fun q6 => ?_)
    · have f := (if_neg q6).symm.trans f
      refine lv_iinc (v := (x2 + 1)) (lv' := [(2, .int (x2 + 1)), (0, .ref (b + a0)), (1, .ref (b + a1))]) S.1 S.2.1 dX5_readLaw_109 hl (k := 2) rfl (congrArg (fun z => x2 + z) (by decide)) (by decide) rfl (fun ls hl => ?_)
      refine lv_goto (tgt := 33) S.1 S.2.1 dX5_readLaw_112 (by decide) ?_
      exact hk33 f _ _ I _ (lv_sub hl [1, 2, 0] rfl)
    · have f := (if_pos q6).symm.trans f
      refine lv_iconst (v := 0) S.1 S.2.1 dX5_readLaw_107 (by decide) ?_
      exact o_zret S hr hlo I f dX5_readLaw_108
  · have f := (if_neg q3).symm.trans f
    refine lv_aload_n S.1 S.2.1 dX5_readLaw_88 rfl (lv_at hl 0 rfl) ?_
    refine lv_aload_n S.1 S.2.1 dX5_readLaw_89 rfl (lv_at hl 1 rfl) ?_
    obtain ⟨o7, e8, f⟩ := ob f
    refine o_Vi S (As := [.ref (b + a1)]) (rest := []) (ci := 5) (M5_takePart l D cy b A fl e8) gX5_readLaw_X5_takePart rfl rfl rfl cd5_takePart ⟨Nat.le_of_ble_eq_true rfl, Nat.le_of_ble_eq_true rfl⟩ I (gd e8).1 clX5 rfl rfl hl.1 rfl (Nat.le_of_ble_eq_true rfl) dX5_readLaw_90 ⟨Nat.le_of_ble_eq_true rfl, Nat.le_of_ble_eq_true rfl⟩ (fun H locs I => ?_)
    refine lv_if_eq (tgt := 107) S.1 S.2.1 dX5_readLaw_93 (by decide) (fun q9 => ?_) (fun q9 => ?_)
    · have f := (if_pos q9).symm.trans f
      refine lv_iconst (v := 0) S.1 S.2.1 dX5_readLaw_107 (by decide) ?_
      exact o_zret S hr hlo I f dX5_readLaw_108
    · have f := (if_neg q9).symm.trans f
      refine lv_goto (tgt := 109) S.1 S.2.1 dX5_readLaw_96 (by decide) ?_
      refine lv_iinc (v := (x2 + 1)) (lv' := [(2, .int (x2 + 1)), (0, .ref (b + a0)), (1, .ref (b + a1))]) S.1 S.2.1 dX5_readLaw_109 hl (k := 2) rfl (congrArg (fun z => x2 + z) (by decide)) (by decide) rfl (fun ls hl => ?_)
      refine lv_goto (tgt := 33) S.1 S.2.1 dX5_readLaw_112 (by decide) ?_
      exact hk33 f _ _ I _ (lv_sub hl [1, 2, 0] rfl)
set_option maxHeartbeats 4000000 in
set_option maxRecDepth 100000 in
theorem T5_readLaw_33 (S : CallFix p m c cX5_readLaw 3 s args vX5_readLaw RX5) (hr : meth.sig.returnType = (some .boolean)) (hlo : meth.locks = false) {out : Int32 × PH} : ∀ (n : Nat) {h : PH} {a0 : Nat} {a1 : Nat} {x2 : Int32} (f : F5_readLaw_33  n h a0 a1 x2 = some out) {H : Heap} {locs : List Loc} (I : ph_I D cy b A fl h s H locs) {ls : Array Slot} (hl : lv_has ls 3 [(0, .ref (b + a0)), (1, .ref (b + a1)), (2, .int x2)]), W p l e ({ frames := 4, cells := 0, slots := 0, locals := 89 } : Room) s m args below meth c H locs 0 0 (MQ below (va_Qi (fun (r : Int32) (u : PH) => (r, u) = out) (ph_B D cy b A fl) A) args s 0 0 A) (F0 m 33 ls []) := by
  intro n
  induction n with
  | zero => intro h a0 a1 x2 f; rw [F5_readLaw_33] at f; cases f
  | succ n ih =>
    intro h a0 a1 x2 f H locs I ls hl
    rw [F5_readLaw_33] at f
    refine lv_iload_n S.1 S.2.1 dX5_readLaw_33 rfl (lv_at hl 2 rfl) ?_
    refine lv_sipush (v := 700) S.1 S.2.1 dX5_readLaw_34 (by decide) ?_
    refine lv_icmp_gt (tgt := 115) S.1 S.2.1 dX5_readLaw_37 (by decide) (fun q1 => ?_) (fun q1 => ?_)
    · have f := (if_pos q1).symm.trans f
      refine lv_iconst (v := 0) S.1 S.2.1 dX5_readLaw_115 (by decide) ?_
      exact o_zret S hr hlo I f dX5_readLaw_116
    · have f := (if_neg q1).symm.trans f
      refine lv_aload_n S.1 S.2.1 dX5_readLaw_40 rfl (lv_at hl 0 rfl) ?_
      obtain ⟨r2, e3, f⟩ := ob f
      refine o_gR S lf5_readLaw_18 I e3 dX5_readLaw_41 ?_
      obtain ⟨o4, e5, f⟩ := ob f
      refine o_Vv S (As := []) (rest := []) (ci := 7) (M7_advance l D cy b A fl e5) gX5_readLaw_X7_advance rfl rfl rfl cd7_advance ⟨Nat.le_of_ble_eq_true rfl, Nat.le_of_ble_eq_true rfl⟩ I (gd e5).1 clX7 rfl rfl hl.1 rfl (Nat.le_of_ble_eq_true rfl) dX5_readLaw_44 ⟨Nat.le_of_ble_eq_true rfl, Nat.le_of_ble_eq_true rfl⟩ (fun H locs I => ?_)
      refine lv_aload_n S.1 S.2.1 dX5_readLaw_47 rfl (lv_at hl 0 rfl) ?_
      obtain ⟨v6, e7, f⟩ := ob f
      refine o_gI S lf5_readLaw_191 I e7 dX5_readLaw_48 ?_
      refine lv_if_ne (tgt := 81) S.1 S.2.1 dX5_readLaw_51 (by decide) (fun q8 => ?_) (fun q8 => ?_)
      · have f := (if_neg q8).symm.trans f
        exact T5_readLaw_81 S hr hlo (fun f _ _ I _ hl => ih f I hl) f I (lv_sub hl [0, 1, 2] rfl)
      · have f := (if_pos q8).symm.trans f
        refine lv_aload_n S.1 S.2.1 dX5_readLaw_54 rfl (lv_at hl 0 rfl) ?_
        obtain ⟨v9, e10, f⟩ := ob f
        refine o_gI S lf5_readLaw_188 I e10 dX5_readLaw_55 ?_
        refine lv_if_ne (tgt := 81) S.1 S.2.1 dX5_readLaw_58 (by decide) (fun q11 => ?_) (fun q11 => ?_)
        · have f := (if_neg q11).symm.trans f
          exact T5_readLaw_81 S hr hlo (fun f _ _ I _ hl => ih f I hl) f I (lv_sub hl [0, 1, 2] rfl)
        · have f := (if_pos q11).symm.trans f
          refine lv_aload_n S.1 S.2.1 dX5_readLaw_61 rfl (lv_at hl 0 rfl) ?_
          obtain ⟨r12, e13, f⟩ := ob f
          refine o_gR S lf5_readLaw_18 I e13 dX5_readLaw_62 ?_
          obtain ⟨v14, e15, f⟩ := ob f
          refine o_gI S lf5_readLaw_52 I e15 dX5_readLaw_65 ?_
          refine lv_bipush (v := 38) S.1 S.2.1 dX5_readLaw_68 (by decide) ?_
          refine lv_icmp_ne (tgt := 81) S.1 S.2.1 dX5_readLaw_70 (by decide) (fun q16 => ?_) (fun q16 => ?_)
          · have f := (if_neg q16).symm.trans f
            exact T5_readLaw_81 S hr hlo (fun f _ _ I _ hl => ih f I hl) f I (lv_sub hl [0, 1, 2] rfl)
          · have f := (if_pos q16).symm.trans f
            refine lv_aload_n S.1 S.2.1 dX5_readLaw_73 rfl (lv_at hl 0 rfl) ?_
            refine lv_aload_n S.1 S.2.1 dX5_readLaw_74 rfl (lv_at hl 1 rfl) ?_
            refine lv_iconst (v := 1) S.1 S.2.1 dX5_readLaw_75 (by decide) ?_
            obtain ⟨o17, e18, f⟩ := ob f
            refine o_Vv S (As := [.ref (b + a1), .int 1]) (rest := []) (ci := 5) (M5_release l D cy b A fl e18) gX5_readLaw_X5_release rfl rfl rfl cd5_release ⟨Nat.le_of_ble_eq_true rfl, Nat.le_of_ble_eq_true rfl⟩ I (gd e18).1 clX5 rfl rfl hl.1 rfl (Nat.le_of_ble_eq_true rfl) dX5_readLaw_76 ⟨Nat.le_of_ble_eq_true rfl, Nat.le_of_ble_eq_true rfl⟩ (fun H locs I => ?_)
            refine lv_iconst (v := 1) S.1 S.2.1 dX5_readLaw_79 (by decide) ?_
            exact o_zret S hr hlo I f dX5_readLaw_80
set_option maxHeartbeats 4000000 in
set_option maxRecDepth 100000 in
theorem T5_readLaw_0 (S : CallFix p m c cX5_readLaw 3 s args vX5_readLaw RX5) (hr : meth.sig.returnType = (some .boolean)) (hlo : meth.locks = false) {out : Int32 × PH} {h : PH} {a0 : Nat} (f : F5_readLaw_0  h a0 = some out) {H : Heap} {locs : List Loc} (I : ph_I D cy b A fl h s H locs) {ls : Array Slot} (hl : lv_has ls 3 [(0, .ref (b + a0))]) : W p l e ({ frames := 4, cells := 0, slots := 0, locals := 89 } : Room) s m args below meth c H locs 0 0 (MQ below (va_Qi (fun (r : Int32) (u : PH) => (r, u) = out) (ph_B D cy b A fl) A) args s 0 0 A) (F0 m 0 ls []) := by
  unfold F5_readLaw_0 at f
  refine lv_aload_n S.1 S.2.1 dX5_readLaw_0 rfl (lv_at hl 0 rfl) ?_
  obtain ⟨o1, e2, f⟩ := ob f
  refine o_Vq S (As := []) (rest := []) (ci := 5) (M5_readKind l D cy b A fl e2) gX5_readLaw_X5_readKind rfl rfl rfl cd5_readKind ⟨Nat.le_of_ble_eq_true rfl, Nat.le_of_ble_eq_true rfl⟩ I (gd e2).1 clX5 rfl rfl hl.1 rfl (Nat.le_of_ble_eq_true rfl) dX5_readLaw_1 ⟨Nat.le_of_ble_eq_true rfl, Nat.le_of_ble_eq_true rfl⟩ (fun q4 H locs I => ?_) (fun r3 q4 H locs I => ?_)
  · rw [q4] at f
    refine lv_astore_nN (lv' := [(1, .null), (0, .ref (b + a0))]) S.1 S.2.1 dX5_readLaw_4 rfl hl (by decide) rfl (fun ls hl => ?_)
    refine lv_aload_nN S.1 S.2.1 dX5_readLaw_5 rfl (lv_at hl 0 rfl) ?_
    refine lv_ifnonnullN S.1 S.2.1 dX5_readLaw_6 ?_
    refine lv_iconst (v := 0) S.1 S.2.1 dX5_readLaw_9 (by decide) ?_
    exact o_zret S hr hlo I f dX5_readLaw_10
  · rw [q4] at f
    refine lv_astore_n (lv' := [(1, .ref (b + r3)), (0, .ref (b + a0))]) S.1 S.2.1 dX5_readLaw_4 rfl hl (by decide) rfl (fun ls hl => ?_)
    refine lv_aload_n S.1 S.2.1 dX5_readLaw_5 rfl (lv_at hl 0 rfl) ?_
    refine lv_ifnonnull (tgt := 11) S.1 S.2.1 dX5_readLaw_6 (by decide) ?_
    refine lv_aload_n S.1 S.2.1 dX5_readLaw_11 rfl (lv_at hl 1 rfl) ?_
    refine lv_iconst (v := 0) S.1 S.2.1 dX5_readLaw_12 (by decide) ?_
    obtain ⟨h5, e6, f⟩ := ob f
    refine o_pI S lp5_readLaw_185 I e6 dX5_readLaw_13 (fun H locs I => ?_)
    refine lv_aload_n S.1 S.2.1 dX5_readLaw_16 rfl (lv_at hl 1 rfl) ?_
    refine lv_iconst (v := 0) S.1 S.2.1 dX5_readLaw_17 (by decide) ?_
    obtain ⟨h7, e8, f⟩ := ob f
    refine o_pI S lp5_readLaw_188 I e8 dX5_readLaw_18 (fun H locs I => ?_)
    refine lv_aload_n S.1 S.2.1 dX5_readLaw_21 rfl (lv_at hl 1 rfl) ?_
    refine lv_iconst (v := 1) S.1 S.2.1 dX5_readLaw_22 (by decide) ?_
    obtain ⟨h9, e10, f⟩ := ob f
    refine o_pZ S lp5_readLaw_191 I e10 dX5_readLaw_23 (fun H locs I => ?_)
    refine lv_aload_n S.1 S.2.1 dX5_readLaw_26 rfl (lv_at hl 1 rfl) ?_
    refine lv_iconst (v := 1) S.1 S.2.1 dX5_readLaw_27 (by decide) ?_
    obtain ⟨h11, e12, f⟩ := ob f
    refine o_pZ S lp5_readLaw_194 I e12 dX5_readLaw_28 (fun H locs I => ?_)
    refine lv_iconst (v := 0) S.1 S.2.1 dX5_readLaw_31 (by decide) ?_
    refine lv_istore_n (lv' := [(2, .int 0), (1, .ref (b + r3)), (0, .ref (b + a0))]) S.1 S.2.1 dX5_readLaw_32 rfl hl (by decide) rfl (fun ls hl => ?_)
    exact T5_readLaw_33 S hr hlo  1024 f I (lv_sub hl [2, 1, 0] rfl)
theorem M5_readLaw (l : Launch) (D : va_G) (cy : Nat → ClassId) (b : Nat) (A : Nat → Prop) (fl : Bool) {h : PH} {a0 : Nat} {out : Int32 × PH} (f : F5_readLaw h a0 = some out) : Met l yX5_readLaw vX5_readLaw ({ frames := 4, cells := 0, slots := 0, locals := 89 } : Room) (va_Pc [.ref (b + a0)] (ph_B D cy b A fl h)) (va_Qi (fun (r : Int32) (u : PH) => (r, u) = out) (ph_B D cy b A fl) A) 0 0 A :=
  o_met (by decide) rfl (Nat.le_of_ble_eq_true rfl) rfl (fun p e s m below meth c S hr hlo hnm ls hl I => T5_readLaw_0 S hr hlo ((gd f).2) I (lv_sub hl [0] rfl))
def vX5_readLine : List Cond := .code yX5_readLine cX5_readLine 1 (some .boolean) :: TB
theorem lf5_readLine_18 : Fl vX5_readLine RX5 18 5 0 := ⟨RX5, TX5, 11, rfl, by decide, (fun w h9 => List.mem_cons_of_mem _ (wC_wsX50 w h9)), (List.mem_cons_of_mem _ wT_5_3)⟩
theorem lf5_readLine_52 : Fl vX5_readLine RX5 52 7 4 := ⟨RX7, TX7, 7, rfl, by decide, (fun w h9 => List.mem_cons_of_mem _ (wC_wsX70 w h9)), (List.mem_cons_of_mem _ wT_14_7)⟩
theorem gX5_readLine_X5_readSea : GoodIn vX5_readLine (wsV RX5 65 RX5 yX5_readSea vX5_readSea) := gV_of wT_17_15 wT_17_16 wT_17_17 wT_1_22 wT_17_18
theorem gX5_readLine_X5_readPeak : GoodIn vX5_readLine (wsV RX5 68 RX5 yX5_readPeak vX5_readPeak) := gV_of wT_18_19 wT_18_20 wT_18_21 wT_1_22 wT_18_22
theorem gX5_readLine_X5_readSurfer : GoodIn vX5_readLine (wsV RX5 71 RX5 yX5_readSurfer vX5_readSurfer) := gV_of wT_19_1 wT_19_2 wT_19_3 wT_1_22 wT_19_4
theorem gX5_readLine_X5_readSet : GoodIn vX5_readLine (wsV RX5 74 RX5 yX5_readSet vX5_readSet) := gV_of wT_19_16 wT_19_17 wT_19_18 wT_1_22 wT_19_19
theorem gX5_readLine_X5_readBank : GoodIn vX5_readLine (wsV RX5 77 RX5 yX5_readBank vX5_readBank) := gV_of wT_20_14 wT_20_15 wT_20_16 wT_1_22 wT_20_17
theorem gX5_readLine_X5_readRule : GoodIn vX5_readLine (wsV RX5 80 RX5 yX5_readRule vX5_readRule) := gV_of wT_20_21 wT_20_22 wT_20_23 wT_1_22 wT_21_0
theorem gX5_readLine_X5_readSeed : GoodIn vX5_readLine (wsV RX5 83 RX5 yX5_readSeed vX5_readSeed) := gV_of wT_21_2 wT_21_3 wT_21_4 wT_1_22 wT_21_5
theorem gX5_readLine_X5_readLaw : GoodIn vX5_readLine (wsV RX5 86 RX5 yX5_readLaw vX5_readLaw) := gV_of wT_21_8 wT_21_9 wT_21_10 wT_1_22 wT_21_11
theorem gX5_readLine_X5_refuse : GoodIn vX5_readLine (wsV RX5 89 RX5 yX5_refuse vX5_refuse) := gV_of wT_18_1 wT_18_2 wT_18_3 wT_1_22 wT_18_4
theorem cd5_readLine : Cd yX5_readLine 0 := ⟨by decide, by decide, by decide +kernel⟩
set_option maxHeartbeats 4000000 in
set_option maxRecDepth 100000 in
theorem T5_readLine_0 (S : CallFix p m c cX5_readLine 1 s args vX5_readLine RX5) (hr : meth.sig.returnType = (some .boolean)) (hlo : meth.locks = false) {out : Int32 × PH} {h : PH} {a0 : Nat} (f : F5_readLine_0  h a0 = some out) {H : Heap} {locs : List Loc} (I : ph_I D cy b A fl h s H locs) {ls : Array Slot} (hl : lv_has ls 1 [(0, .ref (b + a0))]) : W p l e ({ frames := 5, cells := 0, slots := 0, locals := 113 } : Room) s m args below meth c H locs 0 0 (MQ below (va_Qi (fun (r : Int32) (u : PH) => (r, u) = out) (ph_B D cy b A fl) A) args s 0 0 A) (F0 m 0 ls []) := by
  unfold F5_readLine_0 at f
  refine lv_aload_n S.1 S.2.1 dX5_readLine_0 rfl (lv_at hl 0 rfl) ?_
  obtain ⟨r1, e2, f⟩ := ob f
  refine o_gR S lf5_readLine_18 I e2 dX5_readLine_1 ?_
  obtain ⟨v3, e4, f⟩ := ob f
  refine o_gI S lf5_readLine_52 I e4 dX5_readLine_4 ?_
  rcases Decidable.em (v3 = 0) with q5 | q5
  · have f := (if_pos q5).symm.trans f
    refine lv_tableIn (off := 45) (tgt := 52) S.1 S.2.1 dX5_readLine_7 (by rw [q5]; decide) (by rw [q5]; decide) (by rw [q5]; rfl) (by decide) ?_
    refine lv_aload_n S.1 S.2.1 dX5_readLine_52 rfl (lv_at hl 0 rfl) ?_
    obtain ⟨o6, e7, f⟩ := ob f
    refine o_Vi S (As := []) (rest := []) (ci := 5) (M5_readSea l D cy b A fl e7) gX5_readLine_X5_readSea rfl rfl rfl cd5_readSea ⟨Nat.le_of_ble_eq_true rfl, Nat.le_of_ble_eq_true rfl⟩ I (gd e7).1 clX5 rfl rfl hl.1 rfl (Nat.le_of_ble_eq_true rfl) dX5_readLine_53 ⟨Nat.le_of_ble_eq_true rfl, Nat.le_of_ble_eq_true rfl⟩ (fun H locs I => ?_)
    exact o_zret S hr hlo I f dX5_readLine_56
  have f := (if_neg q5).symm.trans f
  rcases Decidable.em (v3 = 1) with q8 | q8
  · have f := (if_pos q8).symm.trans f
    refine lv_tableIn (off := 50) (tgt := 57) S.1 S.2.1 dX5_readLine_7 (by rw [q8]; decide) (by rw [q8]; decide) (by rw [q8]; rfl) (by decide) ?_
    refine lv_aload_n S.1 S.2.1 dX5_readLine_57 rfl (lv_at hl 0 rfl) ?_
    obtain ⟨o9, e10, f⟩ := ob f
    refine o_Vi S (As := []) (rest := []) (ci := 5) (M5_readPeak l D cy b A fl e10) gX5_readLine_X5_readPeak rfl rfl rfl cd5_readPeak ⟨Nat.le_of_ble_eq_true rfl, Nat.le_of_ble_eq_true rfl⟩ I (gd e10).1 clX5 rfl rfl hl.1 rfl (Nat.le_of_ble_eq_true rfl) dX5_readLine_58 ⟨Nat.le_of_ble_eq_true rfl, Nat.le_of_ble_eq_true rfl⟩ (fun H locs I => ?_)
    exact o_zret S hr hlo I f dX5_readLine_61
  have f := (if_neg q8).symm.trans f
  rcases Decidable.em (v3 = 2) with q11 | q11
  · have f := (if_pos q11).symm.trans f
    refine lv_tableIn (off := 55) (tgt := 62) S.1 S.2.1 dX5_readLine_7 (by rw [q11]; decide) (by rw [q11]; decide) (by rw [q11]; rfl) (by decide) ?_
    refine lv_aload_n S.1 S.2.1 dX5_readLine_62 rfl (lv_at hl 0 rfl) ?_
    obtain ⟨o12, e13, f⟩ := ob f
    refine o_Vi S (As := []) (rest := []) (ci := 5) (M5_readSurfer l D cy b A fl e13) gX5_readLine_X5_readSurfer rfl rfl rfl cd5_readSurfer ⟨Nat.le_of_ble_eq_true rfl, Nat.le_of_ble_eq_true rfl⟩ I (gd e13).1 clX5 rfl rfl hl.1 rfl (Nat.le_of_ble_eq_true rfl) dX5_readLine_63 ⟨Nat.le_of_ble_eq_true rfl, Nat.le_of_ble_eq_true rfl⟩ (fun H locs I => ?_)
    exact o_zret S hr hlo I f dX5_readLine_66
  have f := (if_neg q11).symm.trans f
  rcases Decidable.em (v3 = 3) with q14 | q14
  · have f := (if_pos q14).symm.trans f
    refine lv_tableIn (off := 60) (tgt := 67) S.1 S.2.1 dX5_readLine_7 (by rw [q14]; decide) (by rw [q14]; decide) (by rw [q14]; rfl) (by decide) ?_
    refine lv_aload_n S.1 S.2.1 dX5_readLine_67 rfl (lv_at hl 0 rfl) ?_
    obtain ⟨o15, e16, f⟩ := ob f
    refine o_Vi S (As := []) (rest := []) (ci := 5) (M5_readSet l D cy b A fl e16) gX5_readLine_X5_readSet rfl rfl rfl cd5_readSet ⟨Nat.le_of_ble_eq_true rfl, Nat.le_of_ble_eq_true rfl⟩ I (gd e16).1 clX5 rfl rfl hl.1 rfl (Nat.le_of_ble_eq_true rfl) dX5_readLine_68 ⟨Nat.le_of_ble_eq_true rfl, Nat.le_of_ble_eq_true rfl⟩ (fun H locs I => ?_)
    exact o_zret S hr hlo I f dX5_readLine_71
  have f := (if_neg q14).symm.trans f
  rcases Decidable.em (v3 = 4) with q17 | q17
  · have f := (if_pos q17).symm.trans f
    refine lv_tableIn (off := 65) (tgt := 72) S.1 S.2.1 dX5_readLine_7 (by rw [q17]; decide) (by rw [q17]; decide) (by rw [q17]; rfl) (by decide) ?_
    refine lv_aload_n S.1 S.2.1 dX5_readLine_72 rfl (lv_at hl 0 rfl) ?_
    obtain ⟨o18, e19, f⟩ := ob f
    refine o_Vi S (As := []) (rest := []) (ci := 5) (M5_readBank l D cy b A fl e19) gX5_readLine_X5_readBank rfl rfl rfl cd5_readBank ⟨Nat.le_of_ble_eq_true rfl, Nat.le_of_ble_eq_true rfl⟩ I (gd e19).1 clX5 rfl rfl hl.1 rfl (Nat.le_of_ble_eq_true rfl) dX5_readLine_73 ⟨Nat.le_of_ble_eq_true rfl, Nat.le_of_ble_eq_true rfl⟩ (fun H locs I => ?_)
    exact o_zret S hr hlo I f dX5_readLine_76
  have f := (if_neg q17).symm.trans f
  rcases Decidable.em (v3 = 5) with q20 | q20
  · have f := (if_pos q20).symm.trans f
    refine lv_tableIn (off := 70) (tgt := 77) S.1 S.2.1 dX5_readLine_7 (by rw [q20]; decide) (by rw [q20]; decide) (by rw [q20]; rfl) (by decide) ?_
    refine lv_aload_n S.1 S.2.1 dX5_readLine_77 rfl (lv_at hl 0 rfl) ?_
    obtain ⟨o21, e22, f⟩ := ob f
    refine o_Vi S (As := []) (rest := []) (ci := 5) (M5_readRule l D cy b A fl e22) gX5_readLine_X5_readRule rfl rfl rfl cd5_readRule ⟨Nat.le_of_ble_eq_true rfl, Nat.le_of_ble_eq_true rfl⟩ I (gd e22).1 clX5 rfl rfl hl.1 rfl (Nat.le_of_ble_eq_true rfl) dX5_readLine_78 ⟨Nat.le_of_ble_eq_true rfl, Nat.le_of_ble_eq_true rfl⟩ (fun H locs I => ?_)
    exact o_zret S hr hlo I f dX5_readLine_81
  have f := (if_neg q20).symm.trans f
  rcases Decidable.em (v3 = 6) with q23 | q23
  · have f := (if_pos q23).symm.trans f
    refine lv_tableIn (off := 75) (tgt := 82) S.1 S.2.1 dX5_readLine_7 (by rw [q23]; decide) (by rw [q23]; decide) (by rw [q23]; rfl) (by decide) ?_
    refine lv_aload_n S.1 S.2.1 dX5_readLine_82 rfl (lv_at hl 0 rfl) ?_
    obtain ⟨o24, e25, f⟩ := ob f
    refine o_Vi S (As := []) (rest := []) (ci := 5) (M5_readSeed l D cy b A fl e25) gX5_readLine_X5_readSeed rfl rfl rfl cd5_readSeed ⟨Nat.le_of_ble_eq_true rfl, Nat.le_of_ble_eq_true rfl⟩ I (gd e25).1 clX5 rfl rfl hl.1 rfl (Nat.le_of_ble_eq_true rfl) dX5_readLine_83 ⟨Nat.le_of_ble_eq_true rfl, Nat.le_of_ble_eq_true rfl⟩ (fun H locs I => ?_)
    exact o_zret S hr hlo I f dX5_readLine_86
  have f := (if_neg q23).symm.trans f
  rcases Decidable.em (v3 = 7) with q26 | q26
  · have f := (if_pos q26).symm.trans f
    refine lv_tableIn (off := 80) (tgt := 87) S.1 S.2.1 dX5_readLine_7 (by rw [q26]; decide) (by rw [q26]; decide) (by rw [q26]; rfl) (by decide) ?_
    refine lv_aload_n S.1 S.2.1 dX5_readLine_87 rfl (lv_at hl 0 rfl) ?_
    obtain ⟨o27, e28, f⟩ := ob f
    refine o_Vi S (As := []) (rest := []) (ci := 5) (M5_readLaw l D cy b A fl e28) gX5_readLine_X5_readLaw rfl rfl rfl cd5_readLaw ⟨Nat.le_of_ble_eq_true rfl, Nat.le_of_ble_eq_true rfl⟩ I (gd e28).1 clX5 rfl rfl hl.1 rfl (Nat.le_of_ble_eq_true rfl) dX5_readLine_88 ⟨Nat.le_of_ble_eq_true rfl, Nat.le_of_ble_eq_true rfl⟩ (fun H locs I => ?_)
    exact o_zret S hr hlo I f dX5_readLine_91
  have f := (if_neg q26).symm.trans f
  refine lv_tableOut (tgt := 92) S.1 S.2.1 dX5_readLine_7 (by have := lv_neT q5 (a := 0) (by decide); have := lv_neT q8 (a := 1) (by decide); have := lv_neT q11 (a := 2) (by decide); have := lv_neT q14 (a := 3) (by decide); have := lv_neT q17 (a := 4) (by decide); have := lv_neT q20 (a := 5) (by decide); have := lv_neT q23 (a := 6) (by decide); have := lv_neT q26 (a := 7) (by decide); omega) (by decide) ?_
  refine lv_aload_n S.1 S.2.1 dX5_readLine_92 rfl (lv_at hl 0 rfl) ?_
  refine lv_iconst (v := 1) S.1 S.2.1 dX5_readLine_93 (by decide) ?_
  obtain ⟨o29, e30, f⟩ := ob f
  refine o_Vi S (As := [.int 1]) (rest := []) (ci := 5) (M5_refuse l D cy b A fl e30) gX5_readLine_X5_refuse rfl rfl rfl cd5_refuse ⟨Nat.le_of_ble_eq_true rfl, Nat.le_of_ble_eq_true rfl⟩ I (gd e30).1 clX5 rfl rfl hl.1 rfl (Nat.le_of_ble_eq_true rfl) dX5_readLine_94 ⟨Nat.le_of_ble_eq_true rfl, Nat.le_of_ble_eq_true rfl⟩ (fun H locs I => ?_)
  exact o_zret S hr hlo I f dX5_readLine_97
theorem M5_readLine (l : Launch) (D : va_G) (cy : Nat → ClassId) (b : Nat) (A : Nat → Prop) (fl : Bool) {h : PH} {a0 : Nat} {out : Int32 × PH} (f : F5_readLine h a0 = some out) : Met l yX5_readLine vX5_readLine ({ frames := 5, cells := 0, slots := 0, locals := 113 } : Room) (va_Pc [.ref (b + a0)] (ph_B D cy b A fl h)) (va_Qi (fun (r : Int32) (u : PH) => (r, u) = out) (ph_B D cy b A fl) A) 0 0 A :=
  o_met (by decide) rfl (Nat.le_of_ble_eq_true rfl) rfl (fun p e s m below meth c S hr hlo hnm ls hl I => T5_readLine_0 S hr hlo ((gd f).2) I (lv_sub hl [0] rfl))
def vX5_readAll : List Cond := .code yX5_readAll cX5_readAll 5 (some .boolean) :: TB
theorem lf5_readAll_18 : Fl vX5_readAll RX5 18 5 0 := ⟨RX5, TX5, 11, rfl, by decide, (fun w h9 => List.mem_cons_of_mem _ (wC_wsX50 w h9)), (List.mem_cons_of_mem _ wT_5_3)⟩
theorem gX5_readAll_X7_advance : GoodIn vX5_readAll (wsV RX5 49 RX7 yX7_advance vX7_advance) := gV_of wT_15_21 wT_15_22 wT_15_23 wT_5_2 wT_16_0
theorem lf5_readAll_52 : Fl vX5_readAll RX5 52 7 4 := ⟨RX7, TX7, 7, rfl, by decide, (fun w h9 => List.mem_cons_of_mem _ (wC_wsX70 w h9)), (List.mem_cons_of_mem _ wT_14_7)⟩
theorem gX5_readAll_X5_readLine : GoodIn vX5_readAll (wsV RX5 55 RX5 yX5_readLine vX5_readLine) := gV_of wT_17_11 wT_17_12 wT_17_13 wT_1_22 wT_17_14
theorem lf5_readAll_9 : Fl vX5_readAll RX5 9 5 10 := ⟨RX5, TX5, 11, rfl, by decide, (fun w h9 => List.mem_cons_of_mem _ (wC_wsX50 w h9)), (List.mem_cons_of_mem _ wT_4_23)⟩
theorem lf5_readAll_59 : Fl vX5_readAll RX5 59 8 12 := ⟨RX8, TX8, 14, rfl, by decide, (fun w h9 => List.mem_cons_of_mem _ (wC_wsX80 w h9)), (List.mem_cons_of_mem _ wT_14_8)⟩
theorem lp5_readAll_59 : Pl vX5_readAll RX5 59 8 12 .int := ⟨RX8, TX8, 14, tyX8, rfl, by decide, (fun w h9 => List.mem_cons_of_mem _ (wC_wsX80 w h9)), (List.mem_cons_of_mem _ wT_14_8), tyX8_ok, nmX8, rfl, rfl⟩
theorem lp5_readAll_9 : Pl vX5_readAll RX5 9 5 10 (.object "WhoseWave$Told") := ⟨RX5, TX5, 11, tyX5, rfl, by decide, (fun w h9 => List.mem_cons_of_mem _ (wC_wsX50 w h9)), (List.mem_cons_of_mem _ wT_4_23), tyX5_ok, nmX5, rfl, rfl⟩
theorem gX5_readAll_X8_forget : GoodIn vX5_readAll (wsV RX5 30 RX8 yX8_forget vX8_forget) := gV_of wT_14_9 wT_14_10 wT_14_11 wT_1_17 wT_14_12
theorem lp5_readAll_35 : Pl vX5_readAll RX5 35 5 8 .int := ⟨RX5, TX5, 11, tyX5, rfl, by decide, (fun w h9 => List.mem_cons_of_mem _ (wC_wsX50 w h9)), (List.mem_cons_of_mem _ wT_14_4), tyX5_ok, nmX5, rfl, rfl⟩
theorem lp5_readAll_26 : Pl vX5_readAll RX5 26 5 9 .int := ⟨RX5, TX5, 11, tyX5, rfl, by decide, (fun w h9 => List.mem_cons_of_mem _ (wC_wsX50 w h9)), (List.mem_cons_of_mem _ wT_5_5), tyX5_ok, nmX5, rfl, rfl⟩
theorem lp5_readAll_38 : Pl vX5_readAll RX5 38 5 6 .int := ⟨RX5, TX5, 11, tyX5, rfl, by decide, (fun w h9 => List.mem_cons_of_mem _ (wC_wsX50 w h9)), (List.mem_cons_of_mem _ wT_14_5), tyX5_ok, nmX5, rfl, rfl⟩
theorem lp5_readAll_41 : Pl vX5_readAll RX5 41 5 7 .boolean := ⟨RX5, TX5, 11, tyX5, rfl, by decide, (fun w h9 => List.mem_cons_of_mem _ (wC_wsX50 w h9)), (List.mem_cons_of_mem _ wT_14_6), tyX5_ok, nmX5, rfl, rfl⟩
theorem gX5_readAll_X7_begin : GoodIn vX5_readAll (wsV RX5 45 RX7 yX7_begin vX7_begin) := gV_of wT_15_11 wT_15_12 wT_15_13 wT_5_2 wT_15_14
theorem cd5_readAll : Cd yX5_readAll 3 := ⟨by decide, by decide, by decide +kernel⟩
set_option maxHeartbeats 4000000 in
set_option maxRecDepth 100000 in
theorem T5_readAll_44 (S : CallFix p m c cX5_readAll 5 s args vX5_readAll RX5) (hr : meth.sig.returnType = (some .boolean)) (hlo : meth.locks = false) {out : Int32 × PH} : ∀ (n : Nat) {h : PH} {a0 : Nat} {x4 : Int32} (f : F5_readAll_44  n h a0 x4 = some out) {H : Heap} {locs : List Loc} (I : ph_I D cy b A fl h s H locs) {ls : Array Slot} (hl : lv_has ls 5 [(0, .ref (b + a0)), (4, .int x4)]), W p l e ({ frames := 6, cells := 0, slots := 0, locals := 133 } : Room) s m args below meth c H locs 0 0 (MQ below (va_Qi (fun (r : Int32) (u : PH) => (r, u) = out) (ph_B D cy b A fl) A) args s 0 0 A) (F0 m 44 ls []) := by
  intro n
  induction n with
  | zero => intro h a0 x4 f; rw [F5_readAll_44] at f; cases f
  | succ n ih =>
    intro h a0 x4 f H locs I ls hl
    rw [F5_readAll_44] at f
    refine lv_iload S.1 S.2.1 dX5_readAll_44 (lv_at hl 1 rfl) ?_
    refine lv_sipush (v := 700) S.1 S.2.1 dX5_readAll_46 (by decide) ?_
    refine lv_icmp_gt (tgt := 101) S.1 S.2.1 dX5_readAll_49 (by decide) (fun q1 => ?_) (fun q1 => ?_)
    · have f := (if_pos q1).symm.trans f
      refine lv_iconst (v := 1) S.1 S.2.1 dX5_readAll_101 (by decide) ?_
      exact o_zret S hr hlo I f dX5_readAll_102
    · have f := (if_neg q1).symm.trans f
      refine lv_aload_n S.1 S.2.1 dX5_readAll_52 rfl (lv_at hl 0 rfl) ?_
      obtain ⟨r2, e3, f⟩ := ob f
      refine o_gR S lf5_readAll_18 I e3 dX5_readAll_53 ?_
      obtain ⟨o4, e5, f⟩ := ob f
      refine o_Vv S (As := []) (rest := []) (ci := 7) (M7_advance l D cy b A fl e5) gX5_readAll_X7_advance rfl rfl rfl cd7_advance ⟨Nat.le_of_ble_eq_true rfl, Nat.le_of_ble_eq_true rfl⟩ I (gd e5).1 clX7 rfl rfl hl.1 rfl (Nat.le_of_ble_eq_true rfl) dX5_readAll_56 ⟨Nat.le_of_ble_eq_true rfl, Nat.le_of_ble_eq_true rfl⟩ (fun H locs I => ?_)
      refine lv_aload_n S.1 S.2.1 dX5_readAll_59 rfl (lv_at hl 0 rfl) ?_
      obtain ⟨r6, e7, f⟩ := ob f
      refine o_gR S lf5_readAll_18 I e7 dX5_readAll_60 ?_
      obtain ⟨v8, e9, f⟩ := ob f
      refine o_gI S lf5_readAll_52 I e9 dX5_readAll_63 ?_
      refine lv_bipush (v := 39) S.1 S.2.1 dX5_readAll_66 (by decide) ?_
      refine lv_icmp_ne (tgt := 73) S.1 S.2.1 dX5_readAll_68 (by decide) (fun q10 => ?_) (fun q10 => ?_)
      · have f := (if_neg q10).symm.trans f
        refine lv_aload_n S.1 S.2.1 dX5_readAll_73 rfl (lv_at hl 0 rfl) ?_
        obtain ⟨o11, e12, f⟩ := ob f
        refine o_Vi S (As := []) (rest := []) (ci := 5) (M5_readLine l D cy b A fl e12) gX5_readAll_X5_readLine rfl rfl rfl cd5_readLine ⟨Nat.le_of_ble_eq_true rfl, Nat.le_of_ble_eq_true rfl⟩ I (gd e12).1 clX5 rfl rfl hl.1 rfl (Nat.le_of_ble_eq_true rfl) dX5_readAll_74 ⟨Nat.le_of_ble_eq_true rfl, Nat.le_of_ble_eq_true rfl⟩ (fun H locs I => ?_)
        refine lv_if_ne (tgt := 82) S.1 S.2.1 dX5_readAll_77 (by decide) (fun q13 => ?_) (fun q13 => ?_)
        · have f := (if_neg q13).symm.trans f
          refine lv_aload_n S.1 S.2.1 dX5_readAll_82 rfl (lv_at hl 0 rfl) ?_
          obtain ⟨r14, e15, f⟩ := ob f
          refine o_gR S lf5_readAll_9 I e15 dX5_readAll_83 ?_
          refine lv_dup S.1 S.2.1 dX5_readAll_86 rfl ?_
          obtain ⟨v16, e17, f⟩ := ob f
          refine o_gI S lf5_readAll_59 I e17 dX5_readAll_87 ?_
          refine lv_iconst (v := 1) S.1 S.2.1 dX5_readAll_90 (by decide) ?_
          refine lv_iadd S.1 S.2.1 dX5_readAll_91 ?_
          obtain ⟨h18, e19, f⟩ := ob f
          refine o_pI S lp5_readAll_59 I e19 dX5_readAll_92 (fun H locs I => ?_)
          refine lv_iinc (v := (x4 + 1)) (lv' := [(4, .int (x4 + 1)), (0, .ref (b + a0))]) S.1 S.2.1 dX5_readAll_95 hl (k := 1) rfl (congrArg (fun z => x4 + z) (by decide)) (by decide) rfl (fun ls hl => ?_)
          refine lv_goto (tgt := 44) S.1 S.2.1 dX5_readAll_98 (by decide) ?_
          exact ih f I (lv_sub hl [1, 0] rfl)
        · have f := (if_pos q13).symm.trans f
          refine lv_iconst (v := 0) S.1 S.2.1 dX5_readAll_80 (by decide) ?_
          exact o_zret S hr hlo I f dX5_readAll_81
      · have f := (if_pos q10).symm.trans f
        refine lv_iconst (v := 1) S.1 S.2.1 dX5_readAll_71 (by decide) ?_
        exact o_zret S hr hlo I f dX5_readAll_72
set_option maxHeartbeats 4000000 in
set_option maxRecDepth 100000 in
theorem T5_readAll_0 (S : CallFix p m c cX5_readAll 5 s args vX5_readAll RX5) (hr : meth.sig.returnType = (some .boolean)) (hlo : meth.locks = false) {out : Int32 × PH} {h : PH} {a0 : Nat} {a1 : Nat} {x2 : Int32} {a3 : Nat} (f : F5_readAll_0  h a0 a1 x2 a3 = some out) {H : Heap} {locs : List Loc} (I : ph_I D cy b A fl h s H locs) {ls : Array Slot} (hl : lv_has ls 5 [(0, .ref (b + a0)), (1, .ref (b + a1)), (2, .int x2), (3, .ref (b + a3))]) : W p l e ({ frames := 6, cells := 0, slots := 0, locals := 133 } : Room) s m args below meth c H locs 0 0 (MQ below (va_Qi (fun (r : Int32) (u : PH) => (r, u) = out) (ph_B D cy b A fl) A) args s 0 0 A) (F0 m 0 ls []) := by
  unfold F5_readAll_0 at f
  refine lv_aload_n S.1 S.2.1 dX5_readAll_0 rfl (lv_at hl 0 rfl) ?_
  refine lv_aload_n S.1 S.2.1 dX5_readAll_1 rfl (lv_at hl 3 rfl) ?_
  obtain ⟨h1, e2, f⟩ := ob f
  refine o_pR S lp5_readAll_9 (Or.inl ⟨_, rfl⟩) I e2 dX5_readAll_2 (fun H locs I => ?_)
  refine lv_aload_n S.1 S.2.1 dX5_readAll_5 rfl (lv_at hl 0 rfl) ?_
  obtain ⟨r3, e4, f⟩ := ob f
  refine o_gR S lf5_readAll_9 I e4 dX5_readAll_6 ?_
  obtain ⟨o5, e6, f⟩ := ob f
  refine o_Vv S (As := []) (rest := []) (ci := 8) (M8_forget l D cy b A fl e6) gX5_readAll_X8_forget rfl rfl rfl cd8_forget ⟨Nat.le_of_ble_eq_true rfl, Nat.le_of_ble_eq_true rfl⟩ I (gd e6).1 clX8 rfl rfl hl.1 rfl (Nat.le_of_ble_eq_true rfl) dX5_readAll_9 ⟨Nat.le_of_ble_eq_true rfl, Nat.le_of_ble_eq_true rfl⟩ (fun H locs I => ?_)
  refine lv_aload_n S.1 S.2.1 dX5_readAll_12 rfl (lv_at hl 0 rfl) ?_
  refine lv_iconst (v := 0) S.1 S.2.1 dX5_readAll_13 (by decide) ?_
  obtain ⟨h7, e8, f⟩ := ob f
  refine o_pI S lp5_readAll_35 I e8 dX5_readAll_14 (fun H locs I => ?_)
  refine lv_aload_n S.1 S.2.1 dX5_readAll_17 rfl (lv_at hl 0 rfl) ?_
  refine lv_iconst (v := (-1)) S.1 S.2.1 dX5_readAll_18 (by decide) ?_
  obtain ⟨h9, e10, f⟩ := ob f
  refine o_pI S lp5_readAll_26 I e10 dX5_readAll_19 (fun H locs I => ?_)
  refine lv_aload_n S.1 S.2.1 dX5_readAll_22 rfl (lv_at hl 0 rfl) ?_
  refine lv_iconst (v := 0) S.1 S.2.1 dX5_readAll_23 (by decide) ?_
  obtain ⟨h11, e12, f⟩ := ob f
  refine o_pI S lp5_readAll_38 I e12 dX5_readAll_24 (fun H locs I => ?_)
  refine lv_aload_n S.1 S.2.1 dX5_readAll_27 rfl (lv_at hl 0 rfl) ?_
  refine lv_iconst (v := 0) S.1 S.2.1 dX5_readAll_28 (by decide) ?_
  obtain ⟨h13, e14, f⟩ := ob f
  refine o_pZ S lp5_readAll_41 I e14 dX5_readAll_29 (fun H locs I => ?_)
  refine lv_aload_n S.1 S.2.1 dX5_readAll_32 rfl (lv_at hl 0 rfl) ?_
  obtain ⟨r15, e16, f⟩ := ob f
  refine o_gR S lf5_readAll_18 I e16 dX5_readAll_33 ?_
  refine lv_aload_n S.1 S.2.1 dX5_readAll_36 rfl (lv_at hl 1 rfl) ?_
  refine lv_iload_n S.1 S.2.1 dX5_readAll_37 rfl (lv_at hl 2 rfl) ?_
  obtain ⟨o17, e18, f⟩ := ob f
  refine o_Vv S (As := [.ref (b + a1), .int x2]) (rest := []) (ci := 7) (M7_begin l D cy b A fl e18) gX5_readAll_X7_begin rfl rfl rfl cd7_begin ⟨Nat.le_of_ble_eq_true rfl, Nat.le_of_ble_eq_true rfl⟩ I (gd e18).1 clX7 rfl rfl hl.1 rfl (Nat.le_of_ble_eq_true rfl) dX5_readAll_38 ⟨Nat.le_of_ble_eq_true rfl, Nat.le_of_ble_eq_true rfl⟩ (fun H locs I => ?_)
  refine lv_iconst (v := 0) S.1 S.2.1 dX5_readAll_41 (by decide) ?_
  refine lv_istore (lv' := [(4, .int 0), (0, .ref (b + a0)), (1, .ref (b + a1)), (2, .int x2), (3, .ref (b + a3))]) S.1 S.2.1 dX5_readAll_42 hl (by decide) rfl (fun ls hl => ?_)
  exact T5_readAll_44 S hr hlo  1024 f I (lv_sub hl [1, 0] rfl)
theorem M5_readAll (l : Launch) (D : va_G) (cy : Nat → ClassId) (b : Nat) (A : Nat → Prop) (fl : Bool) {h : PH} {a0 : Nat} {a1 : Nat} {x2 : Int32} {a3 : Nat} {out : Int32 × PH} (f : F5_readAll h a0 a1 x2 a3 = some out) : Met l yX5_readAll vX5_readAll ({ frames := 6, cells := 0, slots := 0, locals := 133 } : Room) (va_Pc [.ref (b + a0), .ref (b + a1), .int x2, .ref (b + a3)] (ph_B D cy b A fl h)) (va_Qi (fun (r : Int32) (u : PH) => (r, u) = out) (ph_B D cy b A fl) A) 0 0 A :=
  o_met (by decide) rfl (Nat.le_of_ble_eq_true rfl) rfl (fun p e s m below meth c S hr hlo hnm ls hl I => T5_readAll_0 S hr hlo ((gd f).2) I (lv_sub hl [0, 1, 2, 3] rfl))
def vX6_awayValue : List Cond := .code yX6_awayValue cX6_awayValue 3 (some .long) :: TB
theorem gX6_awayValue_X6_nameAway : GoodIn vX6_awayValue (wsV RX6 118 RX6 yX6_nameAway vX6_nameAway) := gV_of wT_38_22 wT_38_23 wT_39_0 wT_2_2 wT_39_1
theorem lf6_awayValue_9 : Fl vX6_awayValue RX6 9 6 0 := ⟨RX6, TX6, 9, rfl, by decide, (fun w h9 => List.mem_cons_of_mem _ (wC_wsX60 w h9)), (List.mem_cons_of_mem _ wT_7_15)⟩
theorem lf6_awayValue_76 : Fl vX6_awayValue RX6 76 8 11 := ⟨RX8, TX8, 14, rfl, by decide, (fun w h9 => List.mem_cons_of_mem _ (wC_wsX80 w h9)), (List.mem_cons_of_mem _ wT_25_7)⟩
theorem lf6_awayValue_25 : Fl vX6_awayValue RX6 25 6 4 := ⟨RX6, TX6, 9, rfl, by decide, (fun w h9 => List.mem_cons_of_mem _ (wC_wsX60 w h9)), (List.mem_cons_of_mem _ wT_7_19)⟩
theorem lf6_awayValue_29 : Fl vX6_awayValue RX6 29 6 5 := ⟨RX6, TX6, 9, rfl, by decide, (fun w h9 => List.mem_cons_of_mem _ (wC_wsX60 w h9)), (List.mem_cons_of_mem _ wT_7_20)⟩
theorem gX6_awayValue_X2_valueFor : GoodIn vX6_awayValue (wsV RX6 80 RX2 yX2_valueFor vX2_valueFor) := gV_of wT_25_8 wT_25_9 wT_25_10 wT_3_14 wT_25_11
theorem cd6_awayValue : Cd yX6_awayValue 2 := ⟨by decide, by decide, by decide +kernel⟩
set_option maxHeartbeats 4000000 in
set_option maxRecDepth 100000 in
theorem T6_awayValue_0 (S : CallFix p m c cX6_awayValue 3 s args vX6_awayValue RX6) (hr : meth.sig.returnType = (some .long)) (hlo : meth.locks = false) {out : Int64 × PH} {h : PH} {a0 : Nat} {x1 : Int32} {x2 : Int32} (f : F6_awayValue_0  h a0 x1 x2 = some out) {H : Heap} {locs : List Loc} (I : ph_I D cy b A fl h s H locs) {ls : Array Slot} (hl : lv_has ls 3 [(0, .ref (b + a0)), (1, .int x1), (2, .int x2)]) : W p l e ({ frames := 3, cells := 0, slots := 0, locals := 78 } : Room) s m args below meth c H locs 0 0 (MQ below (va_Ql (fun (r : Int64) (u : PH) => (r, u) = out) (ph_B D cy b A fl) A) args s 0 0 A) (F0 m 0 ls []) := by
  unfold F6_awayValue_0 at f
  refine lv_aload_n S.1 S.2.1 dX6_awayValue_0 rfl (lv_at hl 0 rfl) ?_
  refine lv_iload_n S.1 S.2.1 dX6_awayValue_1 rfl (lv_at hl 1 rfl) ?_
  refine lv_iload_n S.1 S.2.1 dX6_awayValue_2 rfl (lv_at hl 2 rfl) ?_
  obtain ⟨o1, e2, f⟩ := ob f
  refine o_Vv S (As := [.int x1, .int x2]) (rest := []) (ci := 6) (M6_nameAway l D cy b A fl e2) gX6_awayValue_X6_nameAway rfl rfl rfl cd6_nameAway ⟨Nat.le_of_ble_eq_true rfl, Nat.le_of_ble_eq_true rfl⟩ I (gd e2).1 clX6 rfl rfl hl.1 rfl (Nat.le_of_ble_eq_true rfl) dX6_awayValue_3 ⟨Nat.le_of_ble_eq_true rfl, Nat.le_of_ble_eq_true rfl⟩ (fun H locs I => ?_)
  refine lv_aload_n S.1 S.2.1 dX6_awayValue_6 rfl (lv_at hl 0 rfl) ?_
  obtain ⟨r3, e4, f⟩ := ob f
  refine o_gR S lf6_awayValue_9 I e4 dX6_awayValue_7 ?_
  obtain ⟨r5, e6, f⟩ := ob f
  refine o_gR S lf6_awayValue_76 I e6 dX6_awayValue_10 ?_
  refine lv_iconst (v := 2) S.1 S.2.1 dX6_awayValue_13 (by decide) ?_
  obtain ⟨r8, e7, f⟩ := ob f
  refine o_aald S I e7 dX6_awayValue_14 ?_
  refine lv_aload_n S.1 S.2.1 dX6_awayValue_15 rfl (lv_at hl 0 rfl) ?_
  obtain ⟨r9, e10, f⟩ := ob f
  refine o_gR S lf6_awayValue_25 I e10 dX6_awayValue_16 ?_
  refine lv_aload_n S.1 S.2.1 dX6_awayValue_19 rfl (lv_at hl 0 rfl) ?_
  obtain ⟨r11, e12, f⟩ := ob f
  refine o_gR S lf6_awayValue_29 I e12 dX6_awayValue_20 ?_
  obtain ⟨o13, e14, f⟩ := ob f
  refine o_Vl S (As := [.ref (b + r9), .ref (b + r11)]) (rest := []) (ci := 2) (M2_valueFor l D cy b A fl e14) gX6_awayValue_X2_valueFor rfl rfl rfl cd2_valueFor ⟨Nat.le_of_ble_eq_true rfl, Nat.le_of_ble_eq_true rfl⟩ I (gd e14).1 clX2 rfl rfl hl.1 rfl (Nat.le_of_ble_eq_true rfl) dX6_awayValue_23 ⟨Nat.le_of_ble_eq_true rfl, Nat.le_of_ble_eq_true rfl⟩ (fun H locs I => ?_)
  exact o_lret S hr hlo I f dX6_awayValue_26
theorem M6_awayValue (l : Launch) (D : va_G) (cy : Nat → ClassId) (b : Nat) (A : Nat → Prop) (fl : Bool) {h : PH} {a0 : Nat} {x1 : Int32} {x2 : Int32} {out : Int64 × PH} (f : F6_awayValue h a0 x1 x2 = some out) : Met l yX6_awayValue vX6_awayValue ({ frames := 3, cells := 0, slots := 0, locals := 78 } : Room) (va_Pc [.ref (b + a0), .int x1, .int x2] (ph_B D cy b A fl h)) (va_Ql (fun (r : Int64) (u : PH) => (r, u) = out) (ph_B D cy b A fl) A) 0 0 A :=
  o_met (by decide) rfl (Nat.le_of_ble_eq_true rfl) rfl (fun p e s m below meth c S hr hlo hnm ls hl I => T6_awayValue_0 S hr hlo ((gd f).2) I (lv_sub hl [0, 1, 2] rfl))
def vX6_hadOfSet : List Cond := .code yX6_hadOfSet cX6_hadOfSet 5 (some .boolean) :: TB
theorem lf6_hadOfSet_9 : Fl vX6_hadOfSet RX6 9 6 0 := ⟨RX6, TX6, 9, rfl, by decide, (fun w h9 => List.mem_cons_of_mem _ (wC_wsX60 w h9)), (List.mem_cons_of_mem _ wT_7_15)⟩
theorem lf6_hadOfSet_57 : Fl vX6_hadOfSet RX6 57 8 5 := ⟨RX8, TX8, 14, rfl, by decide, (fun w h9 => List.mem_cons_of_mem _ (wC_wsX80 w h9)), (List.mem_cons_of_mem _ wT_24_9)⟩
theorem lf6_hadOfSet_61 : Fl vX6_hadOfSet RX6 61 10 1 := ⟨RX10, TX10, 8, rfl, by decide, (fun w h9 => List.mem_cons_of_mem _ (wC_wsX100 w h9)), (List.mem_cons_of_mem _ wT_24_10)⟩
theorem lf6_hadOfSet_159 : Fl vX6_hadOfSet RX6 159 10 6 := ⟨RX10, TX10, 8, rfl, by decide, (fun w h9 => List.mem_cons_of_mem _ (wC_wsX100 w h9)), (List.mem_cons_of_mem _ wT_44_18)⟩
theorem lf6_hadOfSet_166 : Fl vX6_hadOfSet RX6 166 4 10 := ⟨RX4, TX4, 11, rfl, by decide, (fun w h9 => List.mem_cons_of_mem _ (wC_wsX40 w h9)), (List.mem_cons_of_mem _ wT_44_0)⟩
theorem cd6_hadOfSet : Cd yX6_hadOfSet 3 := ⟨by decide, by decide, by decide +kernel⟩
set_option maxHeartbeats 4000000 in
set_option maxRecDepth 100000 in
theorem T6_hadOfSet_3 (S : CallFix p m c cX6_hadOfSet 5 s args vX6_hadOfSet RX6) (hr : meth.sig.returnType = (some .boolean)) (hlo : meth.locks = false) {out : Int32 × PH} : ∀ (n : Nat) {h : PH} {a0 : Nat} {a1 : Nat} {x2 : Int32} {x3 : Int32} {x4 : Int32} (f : F6_hadOfSet_3  n h a0 a1 x2 x3 x4 = some out) {H : Heap} {locs : List Loc} (I : ph_I D cy b A fl h s H locs) {ls : Array Slot} (hl : lv_has ls 5 [(0, .ref (b + a0)), (1, .ref (b + a1)), (2, .int x2), (3, .int x3), (4, .int x4)]), W p l e ({ frames := 0, cells := 0, slots := 0, locals := 0 } : Room) s m args below meth c H locs 0 0 (MQ below (va_Qi (fun (r : Int32) (u : PH) => (r, u) = out) (ph_B D cy b A fl) A) args s 0 0 A) (F0 m 3 ls []) := by
  intro n
  induction n with
  | zero => intro h a0 a1 x2 x3 x4 f; rw [F6_hadOfSet_3] at f; cases f
  | succ n ih =>
    intro h a0 a1 x2 x3 x4 f H locs I ls hl
    rw [F6_hadOfSet_3] at f
    refine lv_iload S.1 S.2.1 dX6_hadOfSet_3 (lv_at hl 4 rfl) ?_
    refine lv_aload_n S.1 S.2.1 dX6_hadOfSet_5 rfl (lv_at hl 0 rfl) ?_
    obtain ⟨r1, e2, f⟩ := ob f
    refine o_gR S lf6_hadOfSet_9 I e2 dX6_hadOfSet_6 ?_
    obtain ⟨r3, e4, f⟩ := ob f
    refine o_gR S lf6_hadOfSet_57 I e4 dX6_hadOfSet_9 ?_
    obtain ⟨v5, e6, f⟩ := ob f
    refine o_gI S lf6_hadOfSet_61 I e6 dX6_hadOfSet_12 ?_
    refine lv_icmp_ge (tgt := 54) S.1 S.2.1 dX6_hadOfSet_15 (by decide) (fun q7 => ?_) (fun q7 => ?_)
    · have f := (if_pos q7).symm.trans f
      refine lv_iconst (v := 0) S.1 S.2.1 dX6_hadOfSet_54 (by decide) ?_
      exact o_zret S hr hlo I f dX6_hadOfSet_55
    · have f := (if_neg q7).symm.trans f
      refine lv_aload_n S.1 S.2.1 dX6_hadOfSet_18 rfl (lv_at hl 0 rfl) ?_
      obtain ⟨r8, e9, f⟩ := ob f
      refine o_gR S lf6_hadOfSet_9 I e9 dX6_hadOfSet_19 ?_
      obtain ⟨r10, e11, f⟩ := ob f
      refine o_gR S lf6_hadOfSet_57 I e11 dX6_hadOfSet_22 ?_
      obtain ⟨r12, e13, f⟩ := ob f
      refine o_gR S lf6_hadOfSet_159 I e13 dX6_hadOfSet_25 ?_
      refine lv_iload S.1 S.2.1 dX6_hadOfSet_28 (lv_at hl 4 rfl) ?_
      obtain ⟨v15, e14, f⟩ := ob f
      refine o_iald S I e14 dX6_hadOfSet_30 ?_
      refine lv_iload_n S.1 S.2.1 dX6_hadOfSet_31 rfl (lv_at hl 3 rfl) ?_
      refine lv_icmp_ne (tgt := 48) S.1 S.2.1 dX6_hadOfSet_32 (by decide) (fun q16 => ?_) (fun q16 => ?_)
      · have f := (if_neg q16).symm.trans f
        refine lv_iinc (v := (x4 + 1)) (lv' := [(4, .int (x4 + 1)), (0, .ref (b + a0)), (1, .ref (b + a1)), (2, .int x2), (3, .int x3)]) S.1 S.2.1 dX6_hadOfSet_48 hl (k := 4) rfl (congrArg (fun z => x4 + z) (by decide)) (by decide) rfl (fun ls hl => ?_)
        refine lv_goto (tgt := 3) S.1 S.2.1 dX6_hadOfSet_51 (by decide) ?_
        exact ih f I (lv_sub hl [1, 2, 3, 4, 0] rfl)
      · have f := (if_pos q16).symm.trans f
        refine lv_aload_n S.1 S.2.1 dX6_hadOfSet_35 rfl (lv_at hl 1 rfl) ?_
        obtain ⟨r17, e18, f⟩ := ob f
        refine o_gR S lf6_hadOfSet_166 I e18 dX6_hadOfSet_36 ?_
        refine lv_iload S.1 S.2.1 dX6_hadOfSet_39 (lv_at hl 4 rfl) ?_
        obtain ⟨v20, e19, f⟩ := ob f
        refine o_iald S I e19 dX6_hadOfSet_41 ?_
        refine lv_iload_n S.1 S.2.1 dX6_hadOfSet_42 rfl (lv_at hl 2 rfl) ?_
        refine lv_icmp_ne (tgt := 48) S.1 S.2.1 dX6_hadOfSet_43 (by decide) (fun q21 => ?_) (fun q21 => ?_)
        · have f := (if_neg q21).symm.trans f
          refine lv_iinc (v := (x4 + 1)) (lv' := [(4, .int (x4 + 1)), (0, .ref (b + a0)), (1, .ref (b + a1)), (2, .int x2), (3, .int x3)]) S.1 S.2.1 dX6_hadOfSet_48 hl (k := 4) rfl (congrArg (fun z => x4 + z) (by decide)) (by decide) rfl (fun ls hl => ?_)
          refine lv_goto (tgt := 3) S.1 S.2.1 dX6_hadOfSet_51 (by decide) ?_
          exact ih f I (lv_sub hl [1, 2, 3, 4, 0] rfl)
        · have f := (if_pos q21).symm.trans f
          refine lv_iconst (v := 1) S.1 S.2.1 dX6_hadOfSet_46 (by decide) ?_
          exact o_zret S hr hlo I f dX6_hadOfSet_47
set_option maxHeartbeats 4000000 in
set_option maxRecDepth 100000 in
theorem T6_hadOfSet_0 (S : CallFix p m c cX6_hadOfSet 5 s args vX6_hadOfSet RX6) (hr : meth.sig.returnType = (some .boolean)) (hlo : meth.locks = false) {out : Int32 × PH} {h : PH} {a0 : Nat} {a1 : Nat} {x2 : Int32} {x3 : Int32} (f : F6_hadOfSet_0  h a0 a1 x2 x3 = some out) {H : Heap} {locs : List Loc} (I : ph_I D cy b A fl h s H locs) {ls : Array Slot} (hl : lv_has ls 5 [(0, .ref (b + a0)), (1, .ref (b + a1)), (2, .int x2), (3, .int x3)]) : W p l e ({ frames := 0, cells := 0, slots := 0, locals := 0 } : Room) s m args below meth c H locs 0 0 (MQ below (va_Qi (fun (r : Int32) (u : PH) => (r, u) = out) (ph_B D cy b A fl) A) args s 0 0 A) (F0 m 0 ls []) := by
  unfold F6_hadOfSet_0 at f
  refine lv_iconst (v := 0) S.1 S.2.1 dX6_hadOfSet_0 (by decide) ?_
  refine lv_istore (lv' := [(4, .int 0), (0, .ref (b + a0)), (1, .ref (b + a1)), (2, .int x2), (3, .int x3)]) S.1 S.2.1 dX6_hadOfSet_1 hl (by decide) rfl (fun ls hl => ?_)
  exact T6_hadOfSet_3 S hr hlo  1024 f I (lv_sub hl [1, 2, 3, 4, 0] rfl)
theorem M6_hadOfSet (l : Launch) (D : va_G) (cy : Nat → ClassId) (b : Nat) (A : Nat → Prop) (fl : Bool) {h : PH} {a0 : Nat} {a1 : Nat} {x2 : Int32} {x3 : Int32} {out : Int32 × PH} (f : F6_hadOfSet h a0 a1 x2 x3 = some out) : Met l yX6_hadOfSet vX6_hadOfSet ({ frames := 0, cells := 0, slots := 0, locals := 0 } : Room) (va_Pc [.ref (b + a0), .ref (b + a1), .int x2, .int x3] (ph_B D cy b A fl h)) (va_Qi (fun (r : Int32) (u : PH) => (r, u) = out) (ph_B D cy b A fl) A) 0 0 A :=
  o_met (by decide) rfl (Nat.le_of_ble_eq_true rfl) rfl (fun p e s m below meth c S hr hlo hnm ls hl I => T6_hadOfSet_0 S hr hlo ((gd f).2) I (lv_sub hl [0, 1, 2, 3] rfl))
def vX6_keyFor : List Cond := .code yX6_keyFor cX6_keyFor 5 (some .int) :: TB
theorem lf6_keyFor_148 : Fl vX6_keyFor RX6 148 4 5 := ⟨RX4, TX4, 11, rfl, by decide, (fun w h9 => List.mem_cons_of_mem _ (wC_wsX40 w h9)), (List.mem_cons_of_mem _ wT_44_10)⟩
theorem gX6_keyFor_X6_farOf : GoodIn vX6_keyFor (wsV RX6 132 RX6 yX6_farOf vX6_farOf) := gV_of wT_39_9 wT_39_10 wT_39_11 wT_2_2 wT_39_12
theorem lf6_keyFor_153 : Fl vX6_keyFor RX6 153 4 1 := ⟨RX4, TX4, 11, rfl, by decide, (fun w h9 => List.mem_cons_of_mem _ (wC_wsX40 w h9)), (List.mem_cons_of_mem _ wT_44_17)⟩
theorem lf6_keyFor_156 : Fl vX6_keyFor RX6 156 4 6 := ⟨RX4, TX4, 11, rfl, by decide, (fun w h9 => List.mem_cons_of_mem _ (wC_wsX40 w h9)), (List.mem_cons_of_mem _ wT_44_2)⟩
theorem lf6_keyFor_9 : Fl vX6_keyFor RX6 9 6 0 := ⟨RX6, TX6, 9, rfl, by decide, (fun w h9 => List.mem_cons_of_mem _ (wC_wsX60 w h9)), (List.mem_cons_of_mem _ wT_7_15)⟩
theorem lf6_keyFor_57 : Fl vX6_keyFor RX6 57 8 5 := ⟨RX8, TX8, 14, rfl, by decide, (fun w h9 => List.mem_cons_of_mem _ (wC_wsX80 w h9)), (List.mem_cons_of_mem _ wT_24_9)⟩
theorem lf6_keyFor_159 : Fl vX6_keyFor RX6 159 10 6 := ⟨RX10, TX10, 8, rfl, by decide, (fun w h9 => List.mem_cons_of_mem _ (wC_wsX100 w h9)), (List.mem_cons_of_mem _ wT_44_18)⟩
theorem gX6_keyFor_X6_hadOfSet : GoodIn vX6_keyFor (wsV RX6 162 RX6 yX6_hadOfSet vX6_hadOfSet) := gV_of wT_44_19 wT_44_20 wT_44_21 wT_2_2 wT_44_22
theorem gX6_keyFor_X8_rowOf : GoodIn vX6_keyFor (wsV RX6 122 RX8 yX8_rowOf vX8_rowOf) := gV_of wT_39_5 wT_39_6 wT_39_7 wT_1_17 wT_39_8
theorem cd6_keyFor : Cd yX6_keyFor 3 := ⟨by decide, by decide, by decide +kernel⟩
set_option maxHeartbeats 4000000 in
set_option maxRecDepth 100000 in
theorem T6_keyFor_0 (S : CallFix p m c cX6_keyFor 5 s args vX6_keyFor RX6) (hr : meth.sig.returnType = (some .int)) (hlo : meth.locks = false) {out : Int32 × PH} {h : PH} {a0 : Nat} {a1 : Nat} {x2 : Int32} {x3 : Int32} (f : F6_keyFor_0  h a0 a1 x2 x3 = some out) {H : Heap} {locs : List Loc} (I : ph_I D cy b A fl h s H locs) {ls : Array Slot} (hl : lv_has ls 5 [(0, .ref (b + a0)), (1, .ref (b + a1)), (2, .int x2), (3, .int x3)]) : W p l e ({ frames := 3, cells := 0, slots := 0, locals := 68 } : Room) s m args below meth c H locs 0 0 (MQ below (va_Qi (fun (r : Int32) (u : PH) => (r, u) = out) (ph_B D cy b A fl) A) args s 0 0 A) (F0 m 0 ls []) := by
  unfold F6_keyFor_0 at f
  refine lv_aload_n S.1 S.2.1 dX6_keyFor_0 rfl (lv_at hl 0 rfl) ?_
  refine lv_aload_n S.1 S.2.1 dX6_keyFor_1 rfl (lv_at hl 1 rfl) ?_
  obtain ⟨r1, e2, f⟩ := ob f
  refine o_gR S lf6_keyFor_148 I e2 dX6_keyFor_2 ?_
  refine lv_iload_n S.1 S.2.1 dX6_keyFor_5 rfl (lv_at hl 2 rfl) ?_
  obtain ⟨v4, e3, f⟩ := ob f
  refine o_iald S I e3 dX6_keyFor_6 ?_
  refine lv_iload_n S.1 S.2.1 dX6_keyFor_7 rfl (lv_at hl 3 rfl) ?_
  obtain ⟨o5, e6, f⟩ := ob f
  refine o_Vi S (As := [.int v4, .int x3]) (rest := []) (ci := 6) (M6_farOf l D cy b A fl e6) gX6_keyFor_X6_farOf rfl rfl rfl cd6_farOf ⟨Nat.le_of_ble_eq_true rfl, Nat.le_of_ble_eq_true rfl⟩ I (gd e6).1 clX6 rfl rfl hl.1 rfl (Nat.le_of_ble_eq_true rfl) dX6_keyFor_8 ⟨Nat.le_of_ble_eq_true rfl, Nat.le_of_ble_eq_true rfl⟩ (fun H locs I => ?_)
  refine lv_istore (lv' := [(4, .int o5.1), (0, .ref (b + a0)), (1, .ref (b + a1)), (2, .int x2), (3, .int x3)]) S.1 S.2.1 dX6_keyFor_11 hl (by decide) rfl (fun ls hl => ?_)
  refine lv_aload_n S.1 S.2.1 dX6_keyFor_13 rfl (lv_at hl 2 rfl) ?_
  obtain ⟨v7, e8, f⟩ := ob f
  refine o_gI S lf6_keyFor_153 I e8 dX6_keyFor_14 ?_
  rcases Decidable.em (v7 = 1) with q9 | q9
  · have f := (if_pos q9).symm.trans f
    refine lv_tableIn (off := 27) (tgt := 44) S.1 S.2.1 dX6_keyFor_17 (by rw [q9]; decide) (by rw [q9]; decide) (by rw [q9]; rfl) (by decide) ?_
    refine lv_aload_n S.1 S.2.1 dX6_keyFor_44 rfl (lv_at hl 2 rfl) ?_
    obtain ⟨r10, e11, f⟩ := ob f
    refine o_gR S lf6_keyFor_156 I e11 dX6_keyFor_45 ?_
    refine lv_iload_n S.1 S.2.1 dX6_keyFor_48 rfl (lv_at hl 3 rfl) ?_
    obtain ⟨v13, e12, f⟩ := ob f
    refine o_iald S I e12 dX6_keyFor_49 ?_
    exact o_iret S hr hlo I f dX6_keyFor_50
  have f := (if_neg q9).symm.trans f
  rcases Decidable.em (v7 = 2) with q14 | q14
  · have f := (if_pos q14).symm.trans f
    refine lv_tableIn (off := 34) (tgt := 51) S.1 S.2.1 dX6_keyFor_17 (by rw [q14]; decide) (by rw [q14]; decide) (by rw [q14]; rfl) (by decide) ?_
    refine lv_aload_n S.1 S.2.1 dX6_keyFor_51 rfl (lv_at hl 1 rfl) ?_
    refine lv_aload_n S.1 S.2.1 dX6_keyFor_52 rfl (lv_at hl 2 rfl) ?_
    refine lv_iload_n S.1 S.2.1 dX6_keyFor_53 rfl (lv_at hl 3 rfl) ?_
    refine lv_aload_n S.1 S.2.1 dX6_keyFor_54 rfl (lv_at hl 1 rfl) ?_
    obtain ⟨r15, e16, f⟩ := ob f
    refine o_gR S lf6_keyFor_9 I e16 dX6_keyFor_55 ?_
    obtain ⟨r17, e18, f⟩ := ob f
    refine o_gR S lf6_keyFor_57 I e18 dX6_keyFor_58 ?_
    obtain ⟨r19, e20, f⟩ := ob f
    refine o_gR S lf6_keyFor_159 I e20 dX6_keyFor_61 ?_
    refine lv_iload_n S.1 S.2.1 dX6_keyFor_64 rfl (lv_at hl 4 rfl) ?_
    obtain ⟨v22, e21, f⟩ := ob f
    refine o_iald S I e21 dX6_keyFor_65 ?_
    obtain ⟨o23, e24, f⟩ := ob f
    refine o_Vi S (As := [.ref (b + a1), .int x2, .int v22]) (rest := []) (ci := 6) (M6_hadOfSet l D cy b A fl e24) gX6_keyFor_X6_hadOfSet rfl rfl rfl cd6_hadOfSet ⟨Nat.le_of_ble_eq_true rfl, Nat.le_of_ble_eq_true rfl⟩ I (gd e24).1 clX6 rfl rfl hl.1 rfl (Nat.le_of_ble_eq_true rfl) dX6_keyFor_66 ⟨Nat.le_of_ble_eq_true rfl, Nat.le_of_ble_eq_true rfl⟩ (fun H locs I => ?_)
    refine lv_if_eq (tgt := 80) S.1 S.2.1 dX6_keyFor_69 (by decide) (fun q25 => ?_) (fun q25 => ?_)
    · have f := (if_pos q25).symm.trans f
      refine lv_iload S.1 S.2.1 dX6_keyFor_80 (lv_at hl 0 rfl) ?_
      exact o_iret S hr hlo I f dX6_keyFor_82
    · have f := (if_neg q25).symm.trans f
      refine lv_bipush (v := 100) S.1 S.2.1 dX6_keyFor_72 (by decide) ?_
      refine lv_iload S.1 S.2.1 dX6_keyFor_74 (lv_at hl 0 rfl) ?_
      refine lv_iadd S.1 S.2.1 dX6_keyFor_76 ?_
      refine lv_goto (tgt := 82) S.1 S.2.1 dX6_keyFor_77 (by decide) ?_
      exact o_iret S hr hlo I f dX6_keyFor_82
  have f := (if_neg q14).symm.trans f
  rcases Decidable.em (v7 = 3) with q26 | q26
  · have f := (if_pos q26).symm.trans f
    refine lv_tableIn (off := 66) (tgt := 83) S.1 S.2.1 dX6_keyFor_17 (by rw [q26]; decide) (by rw [q26]; decide) (by rw [q26]; rfl) (by decide) ?_
    refine lv_aload_n S.1 S.2.1 dX6_keyFor_83 rfl (lv_at hl 1 rfl) ?_
    obtain ⟨r27, e28, f⟩ := ob f
    refine o_gR S lf6_keyFor_9 I e28 dX6_keyFor_84 ?_
    refine lv_aload_n S.1 S.2.1 dX6_keyFor_87 rfl (lv_at hl 2 rfl) ?_
    obtain ⟨r29, e30, f⟩ := ob f
    refine o_gR S lf6_keyFor_148 I e30 dX6_keyFor_88 ?_
    refine lv_iload_n S.1 S.2.1 dX6_keyFor_91 rfl (lv_at hl 3 rfl) ?_
    obtain ⟨v32, e31, f⟩ := ob f
    refine o_iald S I e31 dX6_keyFor_92 ?_
    obtain ⟨o33, e34, f⟩ := ob f
    refine o_Vi S (As := [.int v32]) (rest := []) (ci := 8) (M8_rowOf l D cy b A fl e34) gX6_keyFor_X8_rowOf rfl rfl rfl cd8_rowOf ⟨Nat.le_of_ble_eq_true rfl, Nat.le_of_ble_eq_true rfl⟩ I (gd e34).1 clX8 rfl rfl hl.1 rfl (Nat.le_of_ble_eq_true rfl) dX6_keyFor_93 ⟨Nat.le_of_ble_eq_true rfl, Nat.le_of_ble_eq_true rfl⟩ (fun H locs I => ?_)
    refine lv_ineg S.1 S.2.1 dX6_keyFor_96 ?_
    exact o_iret S hr hlo I f dX6_keyFor_97
  have f := (if_neg q26).symm.trans f
  refine lv_tableOut (tgt := 98) S.1 S.2.1 dX6_keyFor_17 (by have := lv_neT q9 (a := 1) (by decide); have := lv_neT q14 (a := 2) (by decide); have := lv_neT q26 (a := 3) (by decide); omega) (by decide) ?_
  refine lv_iload S.1 S.2.1 dX6_keyFor_98 (lv_at hl 0 rfl) ?_
  exact o_iret S hr hlo I f dX6_keyFor_100
theorem M6_keyFor (l : Launch) (D : va_G) (cy : Nat → ClassId) (b : Nat) (A : Nat → Prop) (fl : Bool) {h : PH} {a0 : Nat} {a1 : Nat} {x2 : Int32} {x3 : Int32} {out : Int32 × PH} (f : F6_keyFor h a0 a1 x2 x3 = some out) : Met l yX6_keyFor vX6_keyFor ({ frames := 3, cells := 0, slots := 0, locals := 68 } : Room) (va_Pc [.ref (b + a0), .ref (b + a1), .int x2, .int x3] (ph_B D cy b A fl h)) (va_Qi (fun (r : Int32) (u : PH) => (r, u) = out) (ph_B D cy b A fl) A) 0 0 A :=
  o_met (by decide) rfl (Nat.le_of_ble_eq_true rfl) rfl (fun p e s m below meth c S hr hlo hnm ls hl I => T6_keyFor_0 S hr hlo ((gd f).2) I (lv_sub hl [0, 1, 2, 3] rfl))
def vX6_putInLine : List Cond := .code yX6_putInLine cX6_putInLine 4 none :: TB
theorem lf6_putInLine_32 : Fl vX6_putInLine RX6 32 6 6 := ⟨RX6, TX6, 9, rfl, by decide, (fun w h9 => List.mem_cons_of_mem _ (wC_wsX60 w h9)), (List.mem_cons_of_mem _ wT_7_21)⟩
theorem lf6_putInLine_38 : Fl vX6_putInLine RX6 38 6 8 := ⟨RX6, TX6, 9, rfl, by decide, (fun w h9 => List.mem_cons_of_mem _ (wC_wsX60 w h9)), (List.mem_cons_of_mem _ wT_7_23)⟩
theorem cd6_putInLine : Cd yX6_putInLine 2 := ⟨by decide, by decide, by decide +kernel⟩
set_option maxHeartbeats 4000000 in
set_option maxRecDepth 100000 in
theorem T6_putInLine_48 (S : CallFix p m c cX6_putInLine 4 s args vX6_putInLine RX6) (hr : meth.sig.returnType = none) (hlo : meth.locks = false) {out : PH} {h : PH} {a0 : Nat} {x1 : Int32} {x3 : Int32} (f : F6_putInLine_48  h a0 x1 x3 = some out) {H : Heap} {locs : List Loc} (I : ph_I D cy b A fl h s H locs) {ls : Array Slot} (hl : lv_has ls 4 [(0, .ref (b + a0)), (1, .int x1), (3, .int x3)]) : W p l e ({ frames := 0, cells := 0, slots := 0, locals := 0 } : Room) s m args below meth c H locs 0 0 (MQ below (va_Qv (fun (u : PH) => u = out) (ph_B D cy b A fl) A) args s 0 0 A) (F0 m 48 ls []) := by
  unfold F6_putInLine_48 at f
  refine lv_aload_n S.1 S.2.1 dX6_putInLine_48 rfl (lv_at hl 0 rfl) ?_
  obtain ⟨r1, e2, f⟩ := ob f
  refine o_gR S lf6_putInLine_32 I e2 dX6_putInLine_49 ?_
  refine lv_iload_n S.1 S.2.1 dX6_putInLine_52 rfl (lv_at hl 2 rfl) ?_
  refine lv_iload_n S.1 S.2.1 dX6_putInLine_53 rfl (lv_at hl 1 rfl) ?_
  obtain ⟨h4, e3, f⟩ := ob f
  refine o_iast S I e3 dX6_putInLine_54 (fun H locs I => ?_)
  exact o_vret S hr hlo I f dX6_putInLine_55
set_option maxHeartbeats 4000000 in
set_option maxRecDepth 100000 in
theorem T6_putInLine_2 (S : CallFix p m c cX6_putInLine 4 s args vX6_putInLine RX6) (hr : meth.sig.returnType = none) (hlo : meth.locks = false) {out : PH} : ∀ (n : Nat) {h : PH} {a0 : Nat} {x1 : Int32} {x3 : Int32} (f : F6_putInLine_2  n h a0 x1 x3 = some out) {H : Heap} {locs : List Loc} (I : ph_I D cy b A fl h s H locs) {ls : Array Slot} (hl : lv_has ls 4 [(0, .ref (b + a0)), (1, .int x1), (3, .int x3)]), W p l e ({ frames := 0, cells := 0, slots := 0, locals := 0 } : Room) s m args below meth c H locs 0 0 (MQ below (va_Qv (fun (u : PH) => u = out) (ph_B D cy b A fl) A) args s 0 0 A) (F0 m 2 ls []) := by
  intro n
  induction n with
  | zero => intro h a0 x1 x3 f; rw [F6_putInLine_2] at f; cases f
  | succ n ih =>
    intro h a0 x1 x3 f H locs I ls hl
    rw [F6_putInLine_2] at f
    refine lv_iload_n S.1 S.2.1 dX6_putInLine_2 rfl (lv_at hl 2 rfl) ?_
    refine lv_if_le (tgt := 48) S.1 S.2.1 dX6_putInLine_3 (by decide) (fun q1 => ?_) (fun q1 => ?_)
    · have f := (if_pos q1).symm.trans f
      exact T6_putInLine_48 S hr hlo  f I (lv_sub hl [0, 1, 2] rfl)
    · have f := (if_neg q1).symm.trans f
      refine lv_aload_n S.1 S.2.1 dX6_putInLine_6 rfl (lv_at hl 0 rfl) ?_
      obtain ⟨r2, e3, f⟩ := ob f
      refine o_gR S lf6_putInLine_38 I e3 dX6_putInLine_7 ?_
      refine lv_aload_n S.1 S.2.1 dX6_putInLine_10 rfl (lv_at hl 0 rfl) ?_
      obtain ⟨r4, e5, f⟩ := ob f
      refine o_gR S lf6_putInLine_32 I e5 dX6_putInLine_11 ?_
      refine lv_iload_n S.1 S.2.1 dX6_putInLine_14 rfl (lv_at hl 2 rfl) ?_
      refine lv_iconst (v := 1) S.1 S.2.1 dX6_putInLine_15 (by decide) ?_
      refine lv_isub S.1 S.2.1 dX6_putInLine_16 ?_
      obtain ⟨v7, e6, f⟩ := ob f
      refine o_iald S I e6 dX6_putInLine_17 ?_
      obtain ⟨v9, e8, f⟩ := ob f
      refine o_iald S I e8 dX6_putInLine_18 ?_
      refine lv_aload_n S.1 S.2.1 dX6_putInLine_19 rfl (lv_at hl 0 rfl) ?_
      obtain ⟨r10, e11, f⟩ := ob f
      refine o_gR S lf6_putInLine_38 I e11 dX6_putInLine_20 ?_
      refine lv_iload_n S.1 S.2.1 dX6_putInLine_23 rfl (lv_at hl 1 rfl) ?_
      obtain ⟨v13, e12, f⟩ := ob f
      refine o_iald S I e12 dX6_putInLine_24 ?_
      refine lv_icmp_le (tgt := 48) S.1 S.2.1 dX6_putInLine_25 (by decide) (fun q14 => ?_) (fun q14 => ?_)
      · have f := (if_pos q14).symm.trans f
        exact T6_putInLine_48 S hr hlo  f I (lv_sub hl [0, 1, 2] rfl)
      · have f := (if_neg q14).symm.trans f
        refine lv_aload_n S.1 S.2.1 dX6_putInLine_28 rfl (lv_at hl 0 rfl) ?_
        obtain ⟨r15, e16, f⟩ := ob f
        refine o_gR S lf6_putInLine_32 I e16 dX6_putInLine_29 ?_
        refine lv_iload_n S.1 S.2.1 dX6_putInLine_32 rfl (lv_at hl 2 rfl) ?_
        refine lv_aload_n S.1 S.2.1 dX6_putInLine_33 rfl (lv_at hl 0 rfl) ?_
        obtain ⟨r17, e18, f⟩ := ob f
        refine o_gR S lf6_putInLine_32 I e18 dX6_putInLine_34 ?_
        refine lv_iload_n S.1 S.2.1 dX6_putInLine_37 rfl (lv_at hl 2 rfl) ?_
        refine lv_iconst (v := 1) S.1 S.2.1 dX6_putInLine_38 (by decide) ?_
        refine lv_isub S.1 S.2.1 dX6_putInLine_39 ?_
        obtain ⟨v20, e19, f⟩ := ob f
        refine o_iald S I e19 dX6_putInLine_40 ?_
        obtain ⟨h22, e21, f⟩ := ob f
        refine o_iast S I e21 dX6_putInLine_41 (fun H locs I => ?_)
        refine lv_iinc (v := (x3 + (-1))) (lv' := [(3, .int (x3 + (-1))), (0, .ref (b + a0)), (1, .int x1)]) S.1 S.2.1 dX6_putInLine_42 hl (k := 2) rfl (congrArg (fun z => x3 + z) (by decide)) (by decide) rfl (fun ls hl => ?_)
        refine lv_goto (tgt := 2) S.1 S.2.1 dX6_putInLine_45 (by decide) ?_
        exact ih f I (lv_sub hl [1, 2, 0] rfl)
set_option maxHeartbeats 4000000 in
set_option maxRecDepth 100000 in
theorem T6_putInLine_0 (S : CallFix p m c cX6_putInLine 4 s args vX6_putInLine RX6) (hr : meth.sig.returnType = none) (hlo : meth.locks = false) {out : PH} {h : PH} {a0 : Nat} {x1 : Int32} {x2 : Int32} (f : F6_putInLine_0  h a0 x1 x2 = some out) {H : Heap} {locs : List Loc} (I : ph_I D cy b A fl h s H locs) {ls : Array Slot} (hl : lv_has ls 4 [(0, .ref (b + a0)), (1, .int x1), (2, .int x2)]) : W p l e ({ frames := 0, cells := 0, slots := 0, locals := 0 } : Room) s m args below meth c H locs 0 0 (MQ below (va_Qv (fun (u : PH) => u = out) (ph_B D cy b A fl) A) args s 0 0 A) (F0 m 0 ls []) := by
  unfold F6_putInLine_0 at f
  refine lv_iload_n S.1 S.2.1 dX6_putInLine_0 rfl (lv_at hl 2 rfl) ?_
  refine lv_istore_n (lv' := [(3, .int x2), (0, .ref (b + a0)), (1, .int x1), (2, .int x2)]) S.1 S.2.1 dX6_putInLine_1 rfl hl (by decide) rfl (fun ls hl => ?_)
  exact T6_putInLine_2 S hr hlo  1024 f I (lv_sub hl [1, 2, 0] rfl)
theorem M6_putInLine (l : Launch) (D : va_G) (cy : Nat → ClassId) (b : Nat) (A : Nat → Prop) (fl : Bool) {h : PH} {a0 : Nat} {x1 : Int32} {x2 : Int32} {out : PH} (f : F6_putInLine h a0 x1 x2 = some out) : Met l yX6_putInLine vX6_putInLine ({ frames := 0, cells := 0, slots := 0, locals := 0 } : Room) (va_Pc [.ref (b + a0), .int x1, .int x2] (ph_B D cy b A fl h)) (va_Qv (fun (u : PH) => u = out) (ph_B D cy b A fl) A) 0 0 A :=
  o_met (by decide) rfl (Nat.le_of_ble_eq_true rfl) rfl (fun p e s m below meth c S hr hlo hnm ls hl I => T6_putInLine_0 S hr hlo ((gd f).2) I (lv_sub hl [0, 1, 2] rfl))
def vX6_lineUp : List Cond := .code yX6_lineUp cX6_lineUp 6 (some .int) :: TB
theorem lf6_lineUp_9 : Fl vX6_lineUp RX6 9 6 0 := ⟨RX6, TX6, 9, rfl, by decide, (fun w h9 => List.mem_cons_of_mem _ (wC_wsX60 w h9)), (List.mem_cons_of_mem _ wT_7_15)⟩
theorem lf6_lineUp_41 : Fl vX6_lineUp RX6 41 8 4 := ⟨RX8, TX8, 14, rfl, by decide, (fun w h9 => List.mem_cons_of_mem _ (wC_wsX80 w h9)), (List.mem_cons_of_mem _ wT_24_2)⟩
theorem lf6_lineUp_169 : Fl vX6_lineUp RX6 169 1 0 := ⟨RX1, TX1, 7, rfl, by decide, (fun w h9 => List.mem_cons_of_mem _ (wC_wsX10 w h9)), (List.mem_cons_of_mem _ wT_44_9)⟩
theorem gX6_lineUp_X4_isIn : GoodIn vX6_lineUp (wsV RX6 171 RX4 yX4_isIn vX4_isIn) := gV_of wT_44_11 wT_41_22 wT_41_23 wT_2_7 wT_42_0
theorem lf6_lineUp_35 : Fl vX6_lineUp RX6 35 6 7 := ⟨RX6, TX6, 9, rfl, by decide, (fun w h9 => List.mem_cons_of_mem _ (wC_wsX60 w h9)), (List.mem_cons_of_mem _ wT_7_22)⟩
theorem lf6_lineUp_148 : Fl vX6_lineUp RX6 148 4 5 := ⟨RX4, TX4, 11, rfl, by decide, (fun w h9 => List.mem_cons_of_mem _ (wC_wsX40 w h9)), (List.mem_cons_of_mem _ wT_44_10)⟩
theorem gX6_lineUp_X6_oddsAt : GoodIn vX6_lineUp (wsV RX6 141 RX6 yX6_oddsAt vX6_oddsAt) := gV_of wT_44_12 wT_38_10 wT_38_11 wT_2_2 wT_38_12
theorem lf6_lineUp_38 : Fl vX6_lineUp RX6 38 6 8 := ⟨RX6, TX6, 9, rfl, by decide, (fun w h9 => List.mem_cons_of_mem _ (wC_wsX60 w h9)), (List.mem_cons_of_mem _ wT_7_23)⟩
theorem gX6_lineUp_X6_keyFor : GoodIn vX6_lineUp (wsV RX6 175 RX6 yX6_keyFor vX6_keyFor) := gV_of wT_44_13 wT_44_14 wT_44_15 wT_2_2 wT_44_16
theorem gX6_lineUp_X6_putInLine : GoodIn vX6_lineUp (wsV RX6 179 RX6 yX6_putInLine vX6_putInLine) := gV_of wT_44_23 wT_45_0 wT_45_1 wT_2_2 wT_45_2
theorem cd6_lineUp : Cd yX6_lineUp 3 := ⟨by decide, by decide, by decide +kernel⟩
set_option maxHeartbeats 4000000 in
set_option maxRecDepth 100000 in
theorem T6_lineUp_6 (S : CallFix p m c cX6_lineUp 6 s args vX6_lineUp RX6) (hr : meth.sig.returnType = (some .int)) (hlo : meth.locks = false) {out : Int32 × PH} : ∀ (n : Nat) {h : PH} {a0 : Nat} {a1 : Nat} {x2 : Int32} {x3 : Int32} {x4 : Int32} {x5 : Int32} (f : F6_lineUp_6  n h a0 a1 x2 x3 x4 x5 = some out) {H : Heap} {locs : List Loc} (I : ph_I D cy b A fl h s H locs) {ls : Array Slot} (hl : lv_has ls 6 [(0, .ref (b + a0)), (1, .ref (b + a1)), (2, .int x2), (3, .int x3), (4, .int x4), (5, .int x5)]), W p l e ({ frames := 4, cells := 0, slots := 0, locals := 103 } : Room) s m args below meth c H locs 0 0 (MQ below (va_Qi (fun (r : Int32) (u : PH) => (r, u) = out) (ph_B D cy b A fl) A) args s 0 0 A) (F0 m 6 ls []) := by
  intro n
  induction n with
  | zero => intro h a0 a1 x2 x3 x4 x5 f; rw [F6_lineUp_6] at f; cases f
  | succ n ih =>
    intro h a0 a1 x2 x3 x4 x5 f H locs I ls hl
    rw [F6_lineUp_6] at f
    refine lv_iload S.1 S.2.1 dX6_lineUp_6 (lv_at hl 5 rfl) ?_
    refine lv_aload_n S.1 S.2.1 dX6_lineUp_8 rfl (lv_at hl 0 rfl) ?_
    obtain ⟨r1, e2, f⟩ := ob f
    refine o_gR S lf6_lineUp_9 I e2 dX6_lineUp_9 ?_
    obtain ⟨r3, e4, f⟩ := ob f
    refine o_gR S lf6_lineUp_41 I e4 dX6_lineUp_12 ?_
    obtain ⟨v5, e6, f⟩ := ob f
    refine o_gI S lf6_lineUp_169 I e6 dX6_lineUp_15 ?_
    refine lv_icmp_ge (tgt := 94) S.1 S.2.1 dX6_lineUp_18 (by decide) (fun q7 => ?_) (fun q7 => ?_)
    · have f := (if_pos q7).symm.trans f
      refine lv_iload S.1 S.2.1 dX6_lineUp_94 (lv_at hl 4 rfl) ?_
      exact o_iret S hr hlo I f dX6_lineUp_96
    · have f := (if_neg q7).symm.trans f
      refine lv_aload_n S.1 S.2.1 dX6_lineUp_21 rfl (lv_at hl 1 rfl) ?_
      refine lv_iload S.1 S.2.1 dX6_lineUp_22 (lv_at hl 5 rfl) ?_
      refine lv_iload_n S.1 S.2.1 dX6_lineUp_24 rfl (lv_at hl 3 rfl) ?_
      obtain ⟨o8, e9, f⟩ := ob f
      refine o_Vi S (As := [.int x5, .int x3]) (rest := []) (ci := 4) (M4_isIn l D cy b A fl e9) gX6_lineUp_X4_isIn rfl rfl rfl cd4_isIn ⟨Nat.le_of_ble_eq_true rfl, Nat.le_of_ble_eq_true rfl⟩ I (gd e9).1 clX4 rfl rfl hl.1 rfl (Nat.le_of_ble_eq_true rfl) dX6_lineUp_25 ⟨Nat.le_of_ble_eq_true rfl, Nat.le_of_ble_eq_true rfl⟩ (fun H locs I => ?_)
      refine lv_if_eq (tgt := 88) S.1 S.2.1 dX6_lineUp_28 (by decide) (fun q10 => ?_) (fun q10 => ?_)
      · have f := (if_pos q10).symm.trans f
        refine lv_iinc (v := (x5 + 1)) (lv' := [(5, .int (x5 + 1)), (0, .ref (b + a0)), (1, .ref (b + a1)), (2, .int x2), (3, .int x3), (4, .int x4)]) S.1 S.2.1 dX6_lineUp_88 hl (k := 5) rfl (congrArg (fun z => x5 + z) (by decide)) (by decide) rfl (fun ls hl => ?_)
        refine lv_goto (tgt := 6) S.1 S.2.1 dX6_lineUp_91 (by decide) ?_
        exact ih f I (lv_sub hl [1, 2, 3, 4, 5, 0] rfl)
      · have f := (if_neg q10).symm.trans f
        refine lv_aload_n S.1 S.2.1 dX6_lineUp_31 rfl (lv_at hl 0 rfl) ?_
        obtain ⟨r11, e12, f⟩ := ob f
        refine o_gR S lf6_lineUp_35 I e12 dX6_lineUp_32 ?_
        refine lv_iload S.1 S.2.1 dX6_lineUp_35 (lv_at hl 5 rfl) ?_
        refine lv_aload_n S.1 S.2.1 dX6_lineUp_37 rfl (lv_at hl 0 rfl) ?_
        refine lv_iload S.1 S.2.1 dX6_lineUp_38 (lv_at hl 5 rfl) ?_
        refine lv_iload_n S.1 S.2.1 dX6_lineUp_40 rfl (lv_at hl 2 rfl) ?_
        refine lv_aload_n S.1 S.2.1 dX6_lineUp_41 rfl (lv_at hl 1 rfl) ?_
        obtain ⟨r13, e14, f⟩ := ob f
        refine o_gR S lf6_lineUp_148 I e14 dX6_lineUp_42 ?_
        refine lv_iload S.1 S.2.1 dX6_lineUp_45 (lv_at hl 5 rfl) ?_
        obtain ⟨v16, e15, f⟩ := ob f
        refine o_iald S I e15 dX6_lineUp_47 ?_
        obtain ⟨o17, e18, f⟩ := ob f
        refine o_Vi S (As := [.int x5, .int x2, .int v16]) (rest := [.int x5, .ref (b + r11)]) (ci := 6) (M6_oddsAt l D cy b A fl e18) gX6_lineUp_X6_oddsAt rfl rfl rfl cd6_oddsAt ⟨Nat.le_of_ble_eq_true rfl, Nat.le_of_ble_eq_true rfl⟩ I (gd e18).1 clX6 rfl rfl hl.1 rfl (Nat.le_of_ble_eq_true rfl) dX6_lineUp_48 ⟨Nat.le_of_ble_eq_true rfl, Nat.le_of_ble_eq_true rfl⟩ (fun H locs I => ?_)
        obtain ⟨h20, e19, f⟩ := ob f
        refine o_iast S I e19 dX6_lineUp_51 (fun H locs I => ?_)
        refine lv_aload_n S.1 S.2.1 dX6_lineUp_52 rfl (lv_at hl 0 rfl) ?_
        obtain ⟨r21, e22, f⟩ := ob f
        refine o_gR S lf6_lineUp_35 I e22 dX6_lineUp_53 ?_
        refine lv_iload S.1 S.2.1 dX6_lineUp_56 (lv_at hl 5 rfl) ?_
        obtain ⟨v24, e23, f⟩ := ob f
        refine o_iald S I e23 dX6_lineUp_58 ?_
        refine lv_if_le (tgt := 88) S.1 S.2.1 dX6_lineUp_59 (by decide) (fun q25 => ?_) (fun q25 => ?_)
        · have f := (if_pos q25).symm.trans f
          refine lv_iinc (v := (x5 + 1)) (lv' := [(5, .int (x5 + 1)), (0, .ref (b + a0)), (1, .ref (b + a1)), (2, .int x2), (3, .int x3), (4, .int x4)]) S.1 S.2.1 dX6_lineUp_88 hl (k := 5) rfl (congrArg (fun z => x5 + z) (by decide)) (by decide) rfl (fun ls hl => ?_)
          refine lv_goto (tgt := 6) S.1 S.2.1 dX6_lineUp_91 (by decide) ?_
          exact ih f I (lv_sub hl [1, 2, 3, 4, 5, 0] rfl)
        · have f := (if_neg q25).symm.trans f
          refine lv_aload_n S.1 S.2.1 dX6_lineUp_62 rfl (lv_at hl 0 rfl) ?_
          obtain ⟨r26, e27, f⟩ := ob f
          refine o_gR S lf6_lineUp_38 I e27 dX6_lineUp_63 ?_
          refine lv_iload S.1 S.2.1 dX6_lineUp_66 (lv_at hl 5 rfl) ?_
          refine lv_aload_n S.1 S.2.1 dX6_lineUp_68 rfl (lv_at hl 0 rfl) ?_
          refine lv_aload_n S.1 S.2.1 dX6_lineUp_69 rfl (lv_at hl 1 rfl) ?_
          refine lv_iload S.1 S.2.1 dX6_lineUp_70 (lv_at hl 5 rfl) ?_
          refine lv_iload_n S.1 S.2.1 dX6_lineUp_72 rfl (lv_at hl 2 rfl) ?_
          obtain ⟨o28, e29, f⟩ := ob f
          refine o_Vi S (As := [.ref (b + a1), .int x5, .int x2]) (rest := [.int x5, .ref (b + r26)]) (ci := 6) (M6_keyFor l D cy b A fl e29) gX6_lineUp_X6_keyFor rfl rfl rfl cd6_keyFor ⟨Nat.le_of_ble_eq_true rfl, Nat.le_of_ble_eq_true rfl⟩ I (gd e29).1 clX6 rfl rfl hl.1 rfl (Nat.le_of_ble_eq_true rfl) dX6_lineUp_73 ⟨Nat.le_of_ble_eq_true rfl, Nat.le_of_ble_eq_true rfl⟩ (fun H locs I => ?_)
          obtain ⟨h31, e30, f⟩ := ob f
          refine o_iast S I e30 dX6_lineUp_76 (fun H locs I => ?_)
          refine lv_aload_n S.1 S.2.1 dX6_lineUp_77 rfl (lv_at hl 0 rfl) ?_
          refine lv_iload S.1 S.2.1 dX6_lineUp_78 (lv_at hl 5 rfl) ?_
          refine lv_iload S.1 S.2.1 dX6_lineUp_80 (lv_at hl 4 rfl) ?_
          obtain ⟨o32, e33, f⟩ := ob f
          refine o_Vv S (As := [.int x5, .int x4]) (rest := []) (ci := 6) (M6_putInLine l D cy b A fl e33) gX6_lineUp_X6_putInLine rfl rfl rfl cd6_putInLine ⟨Nat.le_of_ble_eq_true rfl, Nat.le_of_ble_eq_true rfl⟩ I (gd e33).1 clX6 rfl rfl hl.1 rfl (Nat.le_of_ble_eq_true rfl) dX6_lineUp_82 ⟨Nat.le_of_ble_eq_true rfl, Nat.le_of_ble_eq_true rfl⟩ (fun H locs I => ?_)
          refine lv_iinc (v := (x4 + 1)) (lv' := [(4, .int (x4 + 1)), (0, .ref (b + a0)), (1, .ref (b + a1)), (2, .int x2), (3, .int x3), (5, .int x5)]) S.1 S.2.1 dX6_lineUp_85 hl (k := 4) rfl (congrArg (fun z => x4 + z) (by decide)) (by decide) rfl (fun ls hl => ?_)
          refine lv_iinc (v := (x5 + 1)) (lv' := [(5, .int (x5 + 1)), (4, .int (x4 + 1)), (0, .ref (b + a0)), (1, .ref (b + a1)), (2, .int x2), (3, .int x3)]) S.1 S.2.1 dX6_lineUp_88 hl (k := 5) rfl (congrArg (fun z => x5 + z) (by decide)) (by decide) rfl (fun ls hl => ?_)
          refine lv_goto (tgt := 6) S.1 S.2.1 dX6_lineUp_91 (by decide) ?_
          exact ih f I (lv_sub hl [2, 3, 4, 5, 1, 0] rfl)
set_option maxHeartbeats 4000000 in
set_option maxRecDepth 100000 in
theorem T6_lineUp_0 (S : CallFix p m c cX6_lineUp 6 s args vX6_lineUp RX6) (hr : meth.sig.returnType = (some .int)) (hlo : meth.locks = false) {out : Int32 × PH} {h : PH} {a0 : Nat} {a1 : Nat} {x2 : Int32} {x3 : Int32} (f : F6_lineUp_0  h a0 a1 x2 x3 = some out) {H : Heap} {locs : List Loc} (I : ph_I D cy b A fl h s H locs) {ls : Array Slot} (hl : lv_has ls 6 [(0, .ref (b + a0)), (1, .ref (b + a1)), (2, .int x2), (3, .int x3)]) : W p l e ({ frames := 4, cells := 0, slots := 0, locals := 103 } : Room) s m args below meth c H locs 0 0 (MQ below (va_Qi (fun (r : Int32) (u : PH) => (r, u) = out) (ph_B D cy b A fl) A) args s 0 0 A) (F0 m 0 ls []) := by
  unfold F6_lineUp_0 at f
  refine lv_iconst (v := 0) S.1 S.2.1 dX6_lineUp_0 (by decide) ?_
  refine lv_istore (lv' := [(4, .int 0), (0, .ref (b + a0)), (1, .ref (b + a1)), (2, .int x2), (3, .int x3)]) S.1 S.2.1 dX6_lineUp_1 hl (by decide) rfl (fun ls hl => ?_)
  refine lv_iconst (v := 0) S.1 S.2.1 dX6_lineUp_3 (by decide) ?_
  refine lv_istore (lv' := [(5, .int 0), (4, .int 0), (0, .ref (b + a0)), (1, .ref (b + a1)), (2, .int x2), (3, .int x3)]) S.1 S.2.1 dX6_lineUp_4 hl (by decide) rfl (fun ls hl => ?_)
  exact T6_lineUp_6 S hr hlo  1024 f I (lv_sub hl [2, 3, 4, 5, 1, 0] rfl)
theorem M6_lineUp (l : Launch) (D : va_G) (cy : Nat → ClassId) (b : Nat) (A : Nat → Prop) (fl : Bool) {h : PH} {a0 : Nat} {a1 : Nat} {x2 : Int32} {x3 : Int32} {out : Int32 × PH} (f : F6_lineUp h a0 a1 x2 x3 = some out) : Met l yX6_lineUp vX6_lineUp ({ frames := 4, cells := 0, slots := 0, locals := 103 } : Room) (va_Pc [.ref (b + a0), .ref (b + a1), .int x2, .int x3] (ph_B D cy b A fl h)) (va_Qi (fun (r : Int32) (u : PH) => (r, u) = out) (ph_B D cy b A fl) A) 0 0 A :=
  o_met (by decide) rfl (Nat.le_of_ble_eq_true rfl) rfl (fun p e s m below meth c S hr hlo hnm ls hl I => T6_lineUp_0 S hr hlo ((gd f).2) I (lv_sub hl [0, 1, 2, 3] rfl))
def vX6_placeOfRider : List Cond := .code yX6_placeOfRider cX6_placeOfRider 4 (some .int) :: TB
theorem gX6_placeOfRider_X4_drawHundredth : GoodIn vX6_placeOfRider (wsV RX6 205 RX4 yX4_drawHundredth vX4_drawHundredth) := gV_of wT_45_7 wT_45_8 wT_45_9 wT_2_7 wT_45_10
theorem lf6_placeOfRider_35 : Fl vX6_placeOfRider RX6 35 6 7 := ⟨RX6, TX6, 9, rfl, by decide, (fun w h9 => List.mem_cons_of_mem _ (wC_wsX60 w h9)), (List.mem_cons_of_mem _ wT_7_22)⟩
theorem lf6_placeOfRider_32 : Fl vX6_placeOfRider RX6 32 6 6 := ⟨RX6, TX6, 9, rfl, by decide, (fun w h9 => List.mem_cons_of_mem _ (wC_wsX60 w h9)), (List.mem_cons_of_mem _ wT_7_21)⟩
theorem cd6_placeOfRider : Cd yX6_placeOfRider 2 := ⟨by decide, by decide, by decide +kernel⟩
set_option maxHeartbeats 4000000 in
set_option maxRecDepth 100000 in
theorem T6_placeOfRider_2 (S : CallFix p m c cX6_placeOfRider 4 s args vX6_placeOfRider RX6) (hr : meth.sig.returnType = (some .int)) (hlo : meth.locks = false) {out : Int32 × PH} : ∀ (n : Nat) {h : PH} {a0 : Nat} {a1 : Nat} {x2 : Int32} {x3 : Int32} (f : F6_placeOfRider_2  n h a0 a1 x2 x3 = some out) {H : Heap} {locs : List Loc} (I : ph_I D cy b A fl h s H locs) {ls : Array Slot} (hl : lv_has ls 4 [(0, .ref (b + a0)), (1, .ref (b + a1)), (2, .int x2), (3, .int x3)]), W p l e ({ frames := 1, cells := 0, slots := 0, locals := 20 } : Room) s m args below meth c H locs 0 0 (MQ below (va_Qi (fun (r : Int32) (u : PH) => (r, u) = out) (ph_B D cy b A fl) A) args s 0 0 A) (F0 m 2 ls []) := by
  intro n
  induction n with
  | zero => intro h a0 a1 x2 x3 f; rw [F6_placeOfRider_2] at f; cases f
  | succ n ih =>
    intro h a0 a1 x2 x3 f H locs I ls hl
    rw [F6_placeOfRider_2] at f
    refine lv_iload_n S.1 S.2.1 dX6_placeOfRider_2 rfl (lv_at hl 3 rfl) ?_
    refine lv_iload_n S.1 S.2.1 dX6_placeOfRider_3 rfl (lv_at hl 2 rfl) ?_
    refine lv_icmp_ge (tgt := 33) S.1 S.2.1 dX6_placeOfRider_4 (by decide) (fun q1 => ?_) (fun q1 => ?_)
    · have f := (if_pos q1).symm.trans f
      refine lv_iconst (v := (-1)) S.1 S.2.1 dX6_placeOfRider_33 (by decide) ?_
      exact o_iret S hr hlo I f dX6_placeOfRider_34
    · have f := (if_neg q1).symm.trans f
      refine lv_aload_n S.1 S.2.1 dX6_placeOfRider_7 rfl (lv_at hl 1 rfl) ?_
      obtain ⟨o2, e3, f⟩ := ob f
      refine o_Vi S (As := []) (rest := []) (ci := 4) (M4_drawHundredth l D cy b A fl e3) gX6_placeOfRider_X4_drawHundredth rfl rfl rfl cd4_drawHundredth ⟨Nat.le_of_ble_eq_true rfl, Nat.le_of_ble_eq_true rfl⟩ I (gd e3).1 clX4 rfl rfl hl.1 rfl (Nat.le_of_ble_eq_true rfl) dX6_placeOfRider_8 ⟨Nat.le_of_ble_eq_true rfl, Nat.le_of_ble_eq_true rfl⟩ (fun H locs I => ?_)
      refine lv_aload_n S.1 S.2.1 dX6_placeOfRider_11 rfl (lv_at hl 0 rfl) ?_
      obtain ⟨r4, e5, f⟩ := ob f
      refine o_gR S lf6_placeOfRider_35 I e5 dX6_placeOfRider_12 ?_
      refine lv_aload_n S.1 S.2.1 dX6_placeOfRider_15 rfl (lv_at hl 0 rfl) ?_
      obtain ⟨r6, e7, f⟩ := ob f
      refine o_gR S lf6_placeOfRider_32 I e7 dX6_placeOfRider_16 ?_
      refine lv_iload_n S.1 S.2.1 dX6_placeOfRider_19 rfl (lv_at hl 3 rfl) ?_
      obtain ⟨v9, e8, f⟩ := ob f
      refine o_iald S I e8 dX6_placeOfRider_20 ?_
      obtain ⟨v11, e10, f⟩ := ob f
      refine o_iald S I e10 dX6_placeOfRider_21 ?_
      refine lv_icmp_ge (tgt := 27) S.1 S.2.1 dX6_placeOfRider_22 (by decide) (fun q12 => ?_) (fun q12 => ?_)
      · have f := (if_pos q12).symm.trans f
        refine lv_iinc (v := (x3 + 1)) (lv' := [(3, .int (x3 + 1)), (0, .ref (b + a0)), (1, .ref (b + a1)), (2, .int x2)]) S.1 S.2.1 dX6_placeOfRider_27 hl (k := 3) rfl (congrArg (fun z => x3 + z) (by decide)) (by decide) rfl (fun ls hl => ?_)
        refine lv_goto (tgt := 2) S.1 S.2.1 dX6_placeOfRider_30 (by decide) ?_
        exact ih f I (lv_sub hl [1, 2, 3, 0] rfl)
      · have f := (if_neg q12).symm.trans f
        refine lv_iload_n S.1 S.2.1 dX6_placeOfRider_25 rfl (lv_at hl 3 rfl) ?_
        exact o_iret S hr hlo I f dX6_placeOfRider_26
set_option maxHeartbeats 4000000 in
set_option maxRecDepth 100000 in
theorem T6_placeOfRider_0 (S : CallFix p m c cX6_placeOfRider 4 s args vX6_placeOfRider RX6) (hr : meth.sig.returnType = (some .int)) (hlo : meth.locks = false) {out : Int32 × PH} {h : PH} {a0 : Nat} {a1 : Nat} {x2 : Int32} (f : F6_placeOfRider_0  h a0 a1 x2 = some out) {H : Heap} {locs : List Loc} (I : ph_I D cy b A fl h s H locs) {ls : Array Slot} (hl : lv_has ls 4 [(0, .ref (b + a0)), (1, .ref (b + a1)), (2, .int x2)]) : W p l e ({ frames := 1, cells := 0, slots := 0, locals := 20 } : Room) s m args below meth c H locs 0 0 (MQ below (va_Qi (fun (r : Int32) (u : PH) => (r, u) = out) (ph_B D cy b A fl) A) args s 0 0 A) (F0 m 0 ls []) := by
  unfold F6_placeOfRider_0 at f
  refine lv_iconst (v := 0) S.1 S.2.1 dX6_placeOfRider_0 (by decide) ?_
  refine lv_istore_n (lv' := [(3, .int 0), (0, .ref (b + a0)), (1, .ref (b + a1)), (2, .int x2)]) S.1 S.2.1 dX6_placeOfRider_1 rfl hl (by decide) rfl (fun ls hl => ?_)
  exact T6_placeOfRider_2 S hr hlo  1024 f I (lv_sub hl [1, 2, 3, 0] rfl)
theorem M6_placeOfRider (l : Launch) (D : va_G) (cy : Nat → ClassId) (b : Nat) (A : Nat → Prop) (fl : Bool) {h : PH} {a0 : Nat} {a1 : Nat} {x2 : Int32} {out : Int32 × PH} (f : F6_placeOfRider h a0 a1 x2 = some out) : Met l yX6_placeOfRider vX6_placeOfRider ({ frames := 1, cells := 0, slots := 0, locals := 20 } : Room) (va_Pc [.ref (b + a0), .ref (b + a1), .int x2] (ph_B D cy b A fl h)) (va_Qi (fun (r : Int32) (u : PH) => (r, u) = out) (ph_B D cy b A fl) A) 0 0 A :=
  o_met (by decide) rfl (Nat.le_of_ble_eq_true rfl) rfl (fun p e s m below meth c S hr hlo hnm ls hl I => T6_placeOfRider_0 S hr hlo ((gd f).2) I (lv_sub hl [0, 1, 2] rfl))
def vX6_crosserBehind : List Cond := .code yX6_crosserBehind cX6_crosserBehind 6 (some .int) :: TB
theorem lf6_crosserBehind_19 : Fl vX6_crosserBehind RX6 19 6 2 := ⟨RX6, TX6, 9, rfl, by decide, (fun w h9 => List.mem_cons_of_mem _ (wC_wsX60 w h9)), (List.mem_cons_of_mem _ wT_7_17)⟩
theorem lf6_crosserBehind_32 : Fl vX6_crosserBehind RX6 32 6 6 := ⟨RX6, TX6, 9, rfl, by decide, (fun w h9 => List.mem_cons_of_mem _ (wC_wsX60 w h9)), (List.mem_cons_of_mem _ wT_7_21)⟩
theorem gX6_crosserBehind_X4_drawHundredth : GoodIn vX6_crosserBehind (wsV RX6 205 RX4 yX4_drawHundredth vX4_drawHundredth) := gV_of wT_45_7 wT_45_8 wT_45_9 wT_2_7 wT_45_10
theorem cd6_crosserBehind : Cd yX6_crosserBehind 3 := ⟨by decide, by decide, by decide +kernel⟩
set_option maxHeartbeats 4000000 in
set_option maxRecDepth 100000 in
theorem T6_crosserBehind_5 (S : CallFix p m c cX6_crosserBehind 6 s args vX6_crosserBehind RX6) (hr : meth.sig.returnType = (some .int)) (hlo : meth.locks = false) {out : Int32 × PH} : ∀ (n : Nat) {h : PH} {a0 : Nat} {a1 : Nat} {x3 : Int32} {x4 : Int32} (f : F6_crosserBehind_5  n h a0 a1 x3 x4 = some out) {H : Heap} {locs : List Loc} (I : ph_I D cy b A fl h s H locs) {ls : Array Slot} (hl : lv_has ls 6 [(0, .ref (b + a0)), (1, .ref (b + a1)), (3, .int x3), (4, .int x4)]), W p l e ({ frames := 1, cells := 0, slots := 0, locals := 20 } : Room) s m args below meth c H locs 0 0 (MQ below (va_Qi (fun (r : Int32) (u : PH) => (r, u) = out) (ph_B D cy b A fl) A) args s 0 0 A) (F0 m 5 ls []) := by
  intro n
  induction n with
  | zero => intro h a0 a1 x3 x4 f; rw [F6_crosserBehind_5] at f; cases f
  | succ n ih =>
    intro h a0 a1 x3 x4 f H locs I ls hl
    rw [F6_crosserBehind_5] at f
    refine lv_iload S.1 S.2.1 dX6_crosserBehind_5 (lv_at hl 3 rfl) ?_
    refine lv_iload_n S.1 S.2.1 dX6_crosserBehind_7 rfl (lv_at hl 2 rfl) ?_
    refine lv_icmp_ge (tgt := 53) S.1 S.2.1 dX6_crosserBehind_8 (by decide) (fun q1 => ?_) (fun q1 => ?_)
    · have f := (if_pos q1).symm.trans f
      refine lv_iconst (v := (-1)) S.1 S.2.1 dX6_crosserBehind_53 (by decide) ?_
      exact o_iret S hr hlo I f dX6_crosserBehind_54
    · have f := (if_neg q1).symm.trans f
      refine lv_aload_n S.1 S.2.1 dX6_crosserBehind_11 rfl (lv_at hl 0 rfl) ?_
      obtain ⟨r2, e3, f⟩ := ob f
      refine o_gR S lf6_crosserBehind_19 I e3 dX6_crosserBehind_12 ?_
      refine lv_aload_n S.1 S.2.1 dX6_crosserBehind_15 rfl (lv_at hl 0 rfl) ?_
      obtain ⟨r4, e5, f⟩ := ob f
      refine o_gR S lf6_crosserBehind_32 I e5 dX6_crosserBehind_16 ?_
      refine lv_iload S.1 S.2.1 dX6_crosserBehind_19 (lv_at hl 3 rfl) ?_
      obtain ⟨v7, e6, f⟩ := ob f
      refine o_iald S I e6 dX6_crosserBehind_21 ?_
      obtain ⟨v9, e8, f⟩ := ob f
      refine o_iald S I e8 dX6_crosserBehind_22 ?_
      refine lv_istore (lv' := [(5, .int v9), (0, .ref (b + a0)), (1, .ref (b + a1)), (3, .int x3), (4, .int x4)]) S.1 S.2.1 dX6_crosserBehind_23 hl (by decide) rfl (fun ls hl => ?_)
      refine lv_iload S.1 S.2.1 dX6_crosserBehind_25 (lv_at hl 0 rfl) ?_
      refine lv_if_le (tgt := 47) S.1 S.2.1 dX6_crosserBehind_27 (by decide) (fun q10 => ?_) (fun q10 => ?_)
      · have f := (if_pos q10).symm.trans f
        refine lv_iinc (v := (x4 + 1)) (lv' := [(4, .int (x4 + 1)), (5, .int v9), (0, .ref (b + a0)), (1, .ref (b + a1)), (3, .int x3)]) S.1 S.2.1 dX6_crosserBehind_47 hl (k := 4) rfl (congrArg (fun z => x4 + z) (by decide)) (by decide) rfl (fun ls hl => ?_)
        refine lv_goto (tgt := 5) S.1 S.2.1 dX6_crosserBehind_50 (by decide) ?_
        exact ih f I (lv_sub hl [2, 3, 4, 0] rfl)
      · have f := (if_neg q10).symm.trans f
        refine lv_aload_n S.1 S.2.1 dX6_crosserBehind_30 rfl (lv_at hl 2 rfl) ?_
        obtain ⟨o11, e12, f⟩ := ob f
        refine o_Vi S (As := []) (rest := []) (ci := 4) (M4_drawHundredth l D cy b A fl e12) gX6_crosserBehind_X4_drawHundredth rfl rfl rfl cd4_drawHundredth ⟨Nat.le_of_ble_eq_true rfl, Nat.le_of_ble_eq_true rfl⟩ I (gd e12).1 clX4 rfl rfl hl.1 rfl (Nat.le_of_ble_eq_true rfl) dX6_crosserBehind_31 ⟨Nat.le_of_ble_eq_true rfl, Nat.le_of_ble_eq_true rfl⟩ (fun H locs I => ?_)
        refine lv_iload S.1 S.2.1 dX6_crosserBehind_34 (lv_at hl 0 rfl) ?_
        refine lv_icmp_ge (tgt := 47) S.1 S.2.1 dX6_crosserBehind_36 (by decide) (fun q13 => ?_) (fun q13 => ?_)
        · have f := (if_pos q13).symm.trans f
          refine lv_iinc (v := (x4 + 1)) (lv' := [(4, .int (x4 + 1)), (5, .int v9), (0, .ref (b + a0)), (1, .ref (b + a1)), (3, .int x3)]) S.1 S.2.1 dX6_crosserBehind_47 hl (k := 4) rfl (congrArg (fun z => x4 + z) (by decide)) (by decide) rfl (fun ls hl => ?_)
          refine lv_goto (tgt := 5) S.1 S.2.1 dX6_crosserBehind_50 (by decide) ?_
          exact ih f I (lv_sub hl [2, 3, 4, 0] rfl)
        · have f := (if_neg q13).symm.trans f
          refine lv_aload_n S.1 S.2.1 dX6_crosserBehind_39 rfl (lv_at hl 1 rfl) ?_
          obtain ⟨r14, e15, f⟩ := ob f
          refine o_gR S lf6_crosserBehind_32 I e15 dX6_crosserBehind_40 ?_
          refine lv_iload S.1 S.2.1 dX6_crosserBehind_43 (lv_at hl 4 rfl) ?_
          obtain ⟨v17, e16, f⟩ := ob f
          refine o_iald S I e16 dX6_crosserBehind_45 ?_
          exact o_iret S hr hlo I f dX6_crosserBehind_46
set_option maxHeartbeats 4000000 in
set_option maxRecDepth 100000 in
theorem T6_crosserBehind_0 (S : CallFix p m c cX6_crosserBehind 6 s args vX6_crosserBehind RX6) (hr : meth.sig.returnType = (some .int)) (hlo : meth.locks = false) {out : Int32 × PH} {h : PH} {a0 : Nat} {a1 : Nat} {x2 : Int32} {x3 : Int32} (f : F6_crosserBehind_0  h a0 a1 x2 x3 = some out) {H : Heap} {locs : List Loc} (I : ph_I D cy b A fl h s H locs) {ls : Array Slot} (hl : lv_has ls 6 [(0, .ref (b + a0)), (1, .ref (b + a1)), (2, .int x2), (3, .int x3)]) : W p l e ({ frames := 1, cells := 0, slots := 0, locals := 20 } : Room) s m args below meth c H locs 0 0 (MQ below (va_Qi (fun (r : Int32) (u : PH) => (r, u) = out) (ph_B D cy b A fl) A) args s 0 0 A) (F0 m 0 ls []) := by
  unfold F6_crosserBehind_0 at f
  refine lv_iload_n S.1 S.2.1 dX6_crosserBehind_0 rfl (lv_at hl 2 rfl) ?_
  refine lv_iconst (v := 1) S.1 S.2.1 dX6_crosserBehind_1 (by decide) ?_
  refine lv_iadd S.1 S.2.1 dX6_crosserBehind_2 ?_
  refine lv_istore (lv' := [(4, .int (x2 + 1)), (0, .ref (b + a0)), (1, .ref (b + a1)), (2, .int x2), (3, .int x3)]) S.1 S.2.1 dX6_crosserBehind_3 hl (by decide) rfl (fun ls hl => ?_)
  exact T6_crosserBehind_5 S hr hlo  1024 f I (lv_sub hl [1, 2, 4, 0] rfl)
theorem M6_crosserBehind (l : Launch) (D : va_G) (cy : Nat → ClassId) (b : Nat) (A : Nat → Prop) (fl : Bool) {h : PH} {a0 : Nat} {a1 : Nat} {x2 : Int32} {x3 : Int32} {out : Int32 × PH} (f : F6_crosserBehind h a0 a1 x2 x3 = some out) : Met l yX6_crosserBehind vX6_crosserBehind ({ frames := 1, cells := 0, slots := 0, locals := 20 } : Room) (va_Pc [.ref (b + a0), .ref (b + a1), .int x2, .int x3] (ph_B D cy b A fl h)) (va_Qi (fun (r : Int32) (u : PH) => (r, u) = out) (ph_B D cy b A fl) A) 0 0 A :=
  o_met (by decide) rfl (Nat.le_of_ble_eq_true rfl) rfl (fun p e s m below meth c S hr hlo hnm ls hl I => T6_crosserBehind_0 S hr hlo ((gd f).2) I (lv_sub hl [0, 1, 2, 3] rfl))
def vX6_sendAway : List Cond := .code yX6_sendAway cX6_sendAway 5 none :: TB
theorem lf6_sendAway_209 : Fl vX6_sendAway RX6 209 4 8 := ⟨RX4, TX4, 11, rfl, by decide, (fun w h9 => List.mem_cons_of_mem _ (wC_wsX40 w h9)), (List.mem_cons_of_mem _ wT_45_22)⟩
theorem lf6_sendAway_9 : Fl vX6_sendAway RX6 9 6 0 := ⟨RX6, TX6, 9, rfl, by decide, (fun w h9 => List.mem_cons_of_mem _ (wC_wsX60 w h9)), (List.mem_cons_of_mem _ wT_7_15)⟩
theorem lf6_sendAway_57 : Fl vX6_sendAway RX6 57 8 5 := ⟨RX8, TX8, 14, rfl, by decide, (fun w h9 => List.mem_cons_of_mem _ (wC_wsX80 w h9)), (List.mem_cons_of_mem _ wT_24_9)⟩
theorem lf6_sendAway_67 : Fl vX6_sendAway RX6 67 10 4 := ⟨RX10, TX10, 8, rfl, by decide, (fun w h9 => List.mem_cons_of_mem _ (wC_wsX100 w h9)), (List.mem_cons_of_mem _ wT_24_11)⟩
theorem gX6_sendAway_X6_awayFor : GoodIn vX6_sendAway (wsV RX6 212 RX6 yX6_awayFor vX6_awayFor) := gV_of wT_45_23 wT_46_0 wT_46_1 wT_2_2 wT_46_2
theorem cd6_sendAway : Cd yX6_sendAway 4 := ⟨by decide, by decide, by decide +kernel⟩
set_option maxHeartbeats 4000000 in
set_option maxRecDepth 100000 in
theorem T6_sendAway_0 (S : CallFix p m c cX6_sendAway 5 s args vX6_sendAway RX6) (hr : meth.sig.returnType = none) (hlo : meth.locks = false) {out : PH} {h : PH} {a0 : Nat} {a1 : Nat} {x2 : Int32} {x3 : Int32} {x4 : Int32} (f : F6_sendAway_0  h a0 a1 x2 x3 x4 = some out) {H : Heap} {locs : List Loc} (I : ph_I D cy b A fl h s H locs) {ls : Array Slot} (hl : lv_has ls 5 [(0, .ref (b + a0)), (1, .ref (b + a1)), (2, .int x2), (3, .int x3), (4, .int x4)]) : W p l e ({ frames := 4, cells := 0, slots := 0, locals := 102 } : Room) s m args below meth c H locs 0 0 (MQ below (va_Qv (fun (u : PH) => u = out) (ph_B D cy b A fl) A) args s 0 0 A) (F0 m 0 ls []) := by
  unfold F6_sendAway_0 at f
  refine lv_aload_n S.1 S.2.1 dX6_sendAway_0 rfl (lv_at hl 1 rfl) ?_
  obtain ⟨r1, e2, f⟩ := ob f
  refine o_gR S lf6_sendAway_209 I e2 dX6_sendAway_1 ?_
  refine lv_iload_n S.1 S.2.1 dX6_sendAway_4 rfl (lv_at hl 2 rfl) ?_
  refine lv_aload_n S.1 S.2.1 dX6_sendAway_5 rfl (lv_at hl 0 rfl) ?_
  obtain ⟨r3, e4, f⟩ := ob f
  refine o_gR S lf6_sendAway_9 I e4 dX6_sendAway_6 ?_
  obtain ⟨r5, e6, f⟩ := ob f
  refine o_gR S lf6_sendAway_57 I e6 dX6_sendAway_9 ?_
  obtain ⟨r7, e8, f⟩ := ob f
  refine o_gR S lf6_sendAway_67 I e8 dX6_sendAway_12 ?_
  refine lv_iload_n S.1 S.2.1 dX6_sendAway_15 rfl (lv_at hl 3 rfl) ?_
  obtain ⟨v10, e9, f⟩ := ob f
  refine o_iald S I e9 dX6_sendAway_16 ?_
  refine lv_iload S.1 S.2.1 dX6_sendAway_17 (lv_at hl 4 rfl) ?_
  refine lv_aload_n S.1 S.2.1 dX6_sendAway_19 rfl (lv_at hl 0 rfl) ?_
  refine lv_iload_n S.1 S.2.1 dX6_sendAway_20 rfl (lv_at hl 2 rfl) ?_
  refine lv_iload_n S.1 S.2.1 dX6_sendAway_21 rfl (lv_at hl 3 rfl) ?_
  obtain ⟨o11, e12, f⟩ := ob f
  refine o_Vi S (As := [.int x2, .int x3]) (rest := [.int x4, .int v10, .int x2, .ref (b + r1)]) (ci := 6) (M6_awayFor l D cy b A fl e12) gX6_sendAway_X6_awayFor rfl rfl rfl cd6_awayFor ⟨Nat.le_of_ble_eq_true rfl, Nat.le_of_ble_eq_true rfl⟩ I (gd e12).1 clX6 rfl rfl hl.1 rfl (Nat.le_of_ble_eq_true rfl) dX6_sendAway_22 ⟨Nat.le_of_ble_eq_true rfl, Nat.le_of_ble_eq_true rfl⟩ (fun H locs I => ?_)
  refine lv_imul S.1 S.2.1 dX6_sendAway_25 ?_
  refine lv_iadd S.1 S.2.1 dX6_sendAway_26 ?_
  obtain ⟨h14, e13, f⟩ := ob f
  refine o_iast S I e13 dX6_sendAway_27 (fun H locs I => ?_)
  exact o_vret S hr hlo I f dX6_sendAway_28
theorem M6_sendAway (l : Launch) (D : va_G) (cy : Nat → ClassId) (b : Nat) (A : Nat → Prop) (fl : Bool) {h : PH} {a0 : Nat} {a1 : Nat} {x2 : Int32} {x3 : Int32} {x4 : Int32} {out : PH} (f : F6_sendAway h a0 a1 x2 x3 x4 = some out) : Met l yX6_sendAway vX6_sendAway ({ frames := 4, cells := 0, slots := 0, locals := 102 } : Room) (va_Pc [.ref (b + a0), .ref (b + a1), .int x2, .int x3, .int x4] (ph_B D cy b A fl h)) (va_Qv (fun (u : PH) => u = out) (ph_B D cy b A fl) A) 0 0 A :=
  o_met (by decide) rfl (Nat.le_of_ble_eq_true rfl) rfl (fun p e s m below meth c S hr hlo hnm ls hl I => T6_sendAway_0 S hr hlo ((gd f).2) I (lv_sub hl [0, 1, 2, 3, 4] rfl))
def vX6_bringWave : List Cond := .code yX6_bringWave cX6_bringWave 7 none :: TB
theorem lf6_bringWave_9 : Fl vX6_bringWave RX6 9 6 0 := ⟨RX6, TX6, 9, rfl, by decide, (fun w h9 => List.mem_cons_of_mem _ (wC_wsX60 w h9)), (List.mem_cons_of_mem _ wT_7_15)⟩
theorem lf6_bringWave_57 : Fl vX6_bringWave RX6 57 8 5 := ⟨RX8, TX8, 14, rfl, by decide, (fun w h9 => List.mem_cons_of_mem _ (wC_wsX80 w h9)), (List.mem_cons_of_mem _ wT_24_9)⟩
theorem lf6_bringWave_67 : Fl vX6_bringWave RX6 67 10 4 := ⟨RX10, TX10, 8, rfl, by decide, (fun w h9 => List.mem_cons_of_mem _ (wC_wsX100 w h9)), (List.mem_cons_of_mem _ wT_24_11)⟩
theorem gX6_bringWave_X6_lineUp : GoodIn vX6_bringWave (wsV RX6 182 RX6 yX6_lineUp vX6_lineUp) := gV_of wT_44_5 wT_44_6 wT_44_7 wT_2_2 wT_44_8
theorem gX6_bringWave_X6_placeOfRider : GoodIn vX6_bringWave (wsV RX6 185 RX6 yX6_placeOfRider vX6_placeOfRider) := gV_of wT_45_3 wT_45_4 wT_45_5 wT_2_2 wT_45_6
theorem lf6_bringWave_32 : Fl vX6_bringWave RX6 32 6 6 := ⟨RX6, TX6, 9, rfl, by decide, (fun w h9 => List.mem_cons_of_mem _ (wC_wsX60 w h9)), (List.mem_cons_of_mem _ wT_7_21)⟩
theorem gX6_bringWave_X6_crosserBehind : GoodIn vX6_bringWave (wsV RX6 192 RX6 yX6_crosserBehind vX6_crosserBehind) := gV_of wT_45_14 wT_45_15 wT_45_16 wT_2_2 wT_45_17
theorem lf6_bringWave_166 : Fl vX6_bringWave RX6 166 4 10 := ⟨RX4, TX4, 11, rfl, by decide, (fun w h9 => List.mem_cons_of_mem _ (wC_wsX40 w h9)), (List.mem_cons_of_mem _ wT_44_0)⟩
theorem lf6_bringWave_199 : Fl vX6_bringWave RX6 199 4 3 := ⟨RX4, TX4, 11, rfl, by decide, (fun w h9 => List.mem_cons_of_mem _ (wC_wsX40 w h9)), (List.mem_cons_of_mem _ wT_44_3)⟩
theorem lp6_bringWave_199 : Pl vX6_bringWave RX6 199 4 3 .int := ⟨RX4, TX4, 11, tyX4, rfl, by decide, (fun w h9 => List.mem_cons_of_mem _ (wC_wsX40 w h9)), (List.mem_cons_of_mem _ wT_44_3), tyX4_ok, nmX4, rfl, rfl⟩
theorem lf6_bringWave_202 : Fl vX6_bringWave RX6 202 4 7 := ⟨RX4, TX4, 11, rfl, by decide, (fun w h9 => List.mem_cons_of_mem _ (wC_wsX40 w h9)), (List.mem_cons_of_mem _ wT_44_4)⟩
theorem gX6_bringWave_X6_sendAway : GoodIn vX6_bringWave (wsV RX6 195 RX6 yX6_sendAway vX6_sendAway) := gV_of wT_45_18 wT_45_19 wT_45_20 wT_2_2 wT_45_21
theorem lf6_bringWave_156 : Fl vX6_bringWave RX6 156 4 6 := ⟨RX4, TX4, 11, rfl, by decide, (fun w h9 => List.mem_cons_of_mem _ (wC_wsX40 w h9)), (List.mem_cons_of_mem _ wT_44_2)⟩
theorem lf6_bringWave_189 : Fl vX6_bringWave RX6 189 4 4 := ⟨RX4, TX4, 11, rfl, by decide, (fun w h9 => List.mem_cons_of_mem _ (wC_wsX40 w h9)), (List.mem_cons_of_mem _ wT_44_1)⟩
theorem lp6_bringWave_189 : Pl vX6_bringWave RX6 189 4 4 .int := ⟨RX4, TX4, 11, tyX4, rfl, by decide, (fun w h9 => List.mem_cons_of_mem _ (wC_wsX40 w h9)), (List.mem_cons_of_mem _ wT_44_1), tyX4_ok, nmX4, rfl, rfl⟩
theorem cd6_bringWave : Cd yX6_bringWave 2 := ⟨by decide, by decide, by decide +kernel⟩
set_option maxHeartbeats 4000000 in
set_option maxRecDepth 100000 in
theorem T6_bringWave_0 (S : CallFix p m c cX6_bringWave 7 s args vX6_bringWave RX6) (hr : meth.sig.returnType = none) (hlo : meth.locks = false) {out : PH} {h : PH} {a0 : Nat} {a1 : Nat} {x2 : Int32} (f : F6_bringWave_0  h a0 a1 x2 = some out) {H : Heap} {locs : List Loc} (I : ph_I D cy b A fl h s H locs) {ls : Array Slot} (hl : lv_has ls 7 [(0, .ref (b + a0)), (1, .ref (b + a1)), (2, .int x2)]) : W p l e ({ frames := 5, cells := 0, slots := 0, locals := 128 } : Room) s m args below meth c H locs 0 0 (MQ below (va_Qv (fun (u : PH) => u = out) (ph_B D cy b A fl) A) args s 0 0 A) (F0 m 0 ls []) := by
  unfold F6_bringWave_0 at f
  refine lv_aload_n S.1 S.2.1 dX6_bringWave_0 rfl (lv_at hl 0 rfl) ?_
  refine lv_aload_n S.1 S.2.1 dX6_bringWave_1 rfl (lv_at hl 1 rfl) ?_
  refine lv_iload_n S.1 S.2.1 dX6_bringWave_2 rfl (lv_at hl 2 rfl) ?_
  refine lv_aload_n S.1 S.2.1 dX6_bringWave_3 rfl (lv_at hl 0 rfl) ?_
  obtain ⟨r1, e2, f⟩ := ob f
  refine o_gR S lf6_bringWave_9 I e2 dX6_bringWave_4 ?_
  obtain ⟨r3, e4, f⟩ := ob f
  refine o_gR S lf6_bringWave_57 I e4 dX6_bringWave_7 ?_
  obtain ⟨r5, e6, f⟩ := ob f
  refine o_gR S lf6_bringWave_67 I e6 dX6_bringWave_10 ?_
  refine lv_iload_n S.1 S.2.1 dX6_bringWave_13 rfl (lv_at hl 2 rfl) ?_
  obtain ⟨v8, e7, f⟩ := ob f
  refine o_iald S I e7 dX6_bringWave_14 ?_
  obtain ⟨o9, e10, f⟩ := ob f
  refine o_Vi S (As := [.ref (b + a1), .int x2, .int v8]) (rest := []) (ci := 6) (M6_lineUp l D cy b A fl e10) gX6_bringWave_X6_lineUp rfl rfl rfl cd6_lineUp ⟨Nat.le_of_ble_eq_true rfl, Nat.le_of_ble_eq_true rfl⟩ I (gd e10).1 clX6 rfl rfl hl.1 rfl (Nat.le_of_ble_eq_true rfl) dX6_bringWave_15 ⟨Nat.le_of_ble_eq_true rfl, Nat.le_of_ble_eq_true rfl⟩ (fun H locs I => ?_)
  refine lv_istore_n (lv' := [(3, .int o9.1), (0, .ref (b + a0)), (1, .ref (b + a1)), (2, .int x2)]) S.1 S.2.1 dX6_bringWave_18 rfl hl (by decide) rfl (fun ls hl => ?_)
  refine lv_aload_n S.1 S.2.1 dX6_bringWave_19 rfl (lv_at hl 1 rfl) ?_
  refine lv_aload_n S.1 S.2.1 dX6_bringWave_20 rfl (lv_at hl 2 rfl) ?_
  refine lv_iload_n S.1 S.2.1 dX6_bringWave_21 rfl (lv_at hl 0 rfl) ?_
  obtain ⟨o11, e12, f⟩ := ob f
  refine o_Vi S (As := [.ref (b + a1), .int o9.1]) (rest := []) (ci := 6) (M6_placeOfRider l D cy b A fl e12) gX6_bringWave_X6_placeOfRider rfl rfl rfl cd6_placeOfRider ⟨Nat.le_of_ble_eq_true rfl, Nat.le_of_ble_eq_true rfl⟩ I (gd e12).1 clX6 rfl rfl hl.1 rfl (Nat.le_of_ble_eq_true rfl) dX6_bringWave_22 ⟨Nat.le_of_ble_eq_true rfl, Nat.le_of_ble_eq_true rfl⟩ (fun H locs I => ?_)
  refine lv_istore (lv' := [(4, .int o11.1), (3, .int o9.1), (0, .ref (b + a0)), (1, .ref (b + a1)), (2, .int x2)]) S.1 S.2.1 dX6_bringWave_25 hl (by decide) rfl (fun ls hl => ?_)
  refine lv_iload S.1 S.2.1 dX6_bringWave_27 (lv_at hl 0 rfl) ?_
  refine lv_iconst (v := (-1)) S.1 S.2.1 dX6_bringWave_29 (by decide) ?_
  refine lv_icmp_ne (tgt := 51) S.1 S.2.1 dX6_bringWave_30 (by decide) (fun q13 => ?_) (fun q13 => ?_)
  · have f := (if_neg q13).symm.trans f
    refine lv_aload_n S.1 S.2.1 dX6_bringWave_51 rfl (lv_at hl 2 rfl) ?_
    obtain ⟨r14, e15, f⟩ := ob f
    refine o_gR S lf6_bringWave_32 I e15 dX6_bringWave_52 ?_
    refine lv_iload S.1 S.2.1 dX6_bringWave_55 (lv_at hl 0 rfl) ?_
    obtain ⟨v17, e16, f⟩ := ob f
    refine o_iald S I e16 dX6_bringWave_57 ?_
    refine lv_istore (lv' := [(5, .int v17), (4, .int o11.1), (3, .int o9.1), (0, .ref (b + a0)), (1, .ref (b + a1)), (2, .int x2)]) S.1 S.2.1 dX6_bringWave_58 hl (by decide) rfl (fun ls hl => ?_)
    refine lv_aload_n S.1 S.2.1 dX6_bringWave_60 rfl (lv_at hl 3 rfl) ?_
    refine lv_aload_n S.1 S.2.1 dX6_bringWave_61 rfl (lv_at hl 4 rfl) ?_
    refine lv_iload S.1 S.2.1 dX6_bringWave_62 (lv_at hl 1 rfl) ?_
    refine lv_iload_n S.1 S.2.1 dX6_bringWave_64 rfl (lv_at hl 2 rfl) ?_
    obtain ⟨o18, e19, f⟩ := ob f
    refine o_Vi S (As := [.ref (b + a1), .int o11.1, .int o9.1]) (rest := []) (ci := 6) (M6_crosserBehind l D cy b A fl e19) gX6_bringWave_X6_crosserBehind rfl rfl rfl cd6_crosserBehind ⟨Nat.le_of_ble_eq_true rfl, Nat.le_of_ble_eq_true rfl⟩ I (gd e19).1 clX6 rfl rfl hl.1 rfl (Nat.le_of_ble_eq_true rfl) dX6_bringWave_65 ⟨Nat.le_of_ble_eq_true rfl, Nat.le_of_ble_eq_true rfl⟩ (fun H locs I => ?_)
    refine lv_istore (lv' := [(6, .int o18.1), (5, .int v17), (4, .int o11.1), (3, .int o9.1), (0, .ref (b + a0)), (1, .ref (b + a1)), (2, .int x2)]) S.1 S.2.1 dX6_bringWave_68 hl (by decide) rfl (fun ls hl => ?_)
    refine lv_iload S.1 S.2.1 dX6_bringWave_70 (lv_at hl 0 rfl) ?_
    refine lv_iconst (v := (-1)) S.1 S.2.1 dX6_bringWave_72 (by decide) ?_
    refine lv_icmp_ne (tgt := 105) S.1 S.2.1 dX6_bringWave_73 (by decide) (fun q20 => ?_) (fun q20 => ?_)
    · have f := (if_neg q20).symm.trans f
      refine lv_aload_n S.1 S.2.1 dX6_bringWave_105 rfl (lv_at hl 5 rfl) ?_
      obtain ⟨r21, e22, f⟩ := ob f
      refine o_gR S lf6_bringWave_166 I e22 dX6_bringWave_106 ?_
      refine lv_iload_n S.1 S.2.1 dX6_bringWave_109 rfl (lv_at hl 6 rfl) ?_
      refine lv_bipush (v := (-3)) S.1 S.2.1 dX6_bringWave_110 (by decide) ?_
      obtain ⟨h24, e23, f⟩ := ob f
      refine o_iast S I e23 dX6_bringWave_112 (fun H locs I => ?_)
      refine lv_aload_n S.1 S.2.1 dX6_bringWave_113 rfl (lv_at hl 5 rfl) ?_
      refine lv_dup S.1 S.2.1 dX6_bringWave_114 rfl ?_
      obtain ⟨v25, e26, f⟩ := ob f
      refine o_gI S lf6_bringWave_199 I e26 dX6_bringWave_115 ?_
      refine lv_iconst (v := 1) S.1 S.2.1 dX6_bringWave_118 (by decide) ?_
      refine lv_iadd S.1 S.2.1 dX6_bringWave_119 ?_
      obtain ⟨h27, e28, f⟩ := ob f
      refine o_pI S lp6_bringWave_199 I e28 dX6_bringWave_120 (fun H locs I => ?_)
      refine lv_aload_n S.1 S.2.1 dX6_bringWave_123 rfl (lv_at hl 5 rfl) ?_
      obtain ⟨r29, e30, f⟩ := ob f
      refine o_gR S lf6_bringWave_202 I e30 dX6_bringWave_124 ?_
      refine lv_iload S.1 S.2.1 dX6_bringWave_127 (lv_at hl 1 rfl) ?_
      refine lv_dup2_11 S.1 S.2.1 dX6_bringWave_129 rfl rfl ?_
      obtain ⟨v32, e31, f⟩ := ob f
      refine o_iald S I e31 dX6_bringWave_130 ?_
      refine lv_iconst (v := 1) S.1 S.2.1 dX6_bringWave_131 (by decide) ?_
      refine lv_iadd S.1 S.2.1 dX6_bringWave_132 ?_
      obtain ⟨h34, e33, f⟩ := ob f
      refine o_iast S I e33 dX6_bringWave_133 (fun H locs I => ?_)
      refine lv_aload_n S.1 S.2.1 dX6_bringWave_134 rfl (lv_at hl 5 rfl) ?_
      obtain ⟨r35, e36, f⟩ := ob f
      refine o_gR S lf6_bringWave_202 I e36 dX6_bringWave_135 ?_
      refine lv_iload S.1 S.2.1 dX6_bringWave_138 (lv_at hl 0 rfl) ?_
      refine lv_dup2_11 S.1 S.2.1 dX6_bringWave_140 rfl rfl ?_
      obtain ⟨v38, e37, f⟩ := ob f
      refine o_iald S I e37 dX6_bringWave_141 ?_
      refine lv_iconst (v := 1) S.1 S.2.1 dX6_bringWave_142 (by decide) ?_
      refine lv_iadd S.1 S.2.1 dX6_bringWave_143 ?_
      obtain ⟨h40, e39, f⟩ := ob f
      refine o_iast S I e39 dX6_bringWave_144 (fun H locs I => ?_)
      refine lv_aload_n S.1 S.2.1 dX6_bringWave_145 rfl (lv_at hl 4 rfl) ?_
      refine lv_aload_n S.1 S.2.1 dX6_bringWave_146 rfl (lv_at hl 5 rfl) ?_
      refine lv_iload S.1 S.2.1 dX6_bringWave_147 (lv_at hl 1 rfl) ?_
      refine lv_iload_n S.1 S.2.1 dX6_bringWave_149 rfl (lv_at hl 6 rfl) ?_
      refine lv_iconst (v := 2) S.1 S.2.1 dX6_bringWave_150 (by decide) ?_
      obtain ⟨o41, e42, f⟩ := ob f
      refine o_Vv S (As := [.ref (b + a1), .int v17, .int x2, .int 2]) (rest := []) (ci := 6) (M6_sendAway l D cy b A fl e42) gX6_bringWave_X6_sendAway rfl rfl rfl cd6_sendAway ⟨Nat.le_of_ble_eq_true rfl, Nat.le_of_ble_eq_true rfl⟩ I (gd e42).1 clX6 rfl rfl hl.1 rfl (Nat.le_of_ble_eq_true rfl) dX6_bringWave_151 ⟨Nat.le_of_ble_eq_true rfl, Nat.le_of_ble_eq_true rfl⟩ (fun H locs I => ?_)
      refine lv_aload_n S.1 S.2.1 dX6_bringWave_154 rfl (lv_at hl 4 rfl) ?_
      refine lv_aload_n S.1 S.2.1 dX6_bringWave_155 rfl (lv_at hl 5 rfl) ?_
      refine lv_iload S.1 S.2.1 dX6_bringWave_156 (lv_at hl 0 rfl) ?_
      refine lv_iload_n S.1 S.2.1 dX6_bringWave_158 rfl (lv_at hl 6 rfl) ?_
      refine lv_iconst (v := 2) S.1 S.2.1 dX6_bringWave_159 (by decide) ?_
      obtain ⟨o43, e44, f⟩ := ob f
      refine o_Vv S (As := [.ref (b + a1), .int o18.1, .int x2, .int 2]) (rest := []) (ci := 6) (M6_sendAway l D cy b A fl e44) gX6_bringWave_X6_sendAway rfl rfl rfl cd6_sendAway ⟨Nat.le_of_ble_eq_true rfl, Nat.le_of_ble_eq_true rfl⟩ I (gd e44).1 clX6 rfl rfl hl.1 rfl (Nat.le_of_ble_eq_true rfl) dX6_bringWave_160 ⟨Nat.le_of_ble_eq_true rfl, Nat.le_of_ble_eq_true rfl⟩ (fun H locs I => ?_)
      exact o_vret S hr hlo I f dX6_bringWave_163
    · have f := (if_pos q20).symm.trans f
      refine lv_aload_n S.1 S.2.1 dX6_bringWave_76 rfl (lv_at hl 5 rfl) ?_
      obtain ⟨r45, e46, f⟩ := ob f
      refine o_gR S lf6_bringWave_166 I e46 dX6_bringWave_77 ?_
      refine lv_iload_n S.1 S.2.1 dX6_bringWave_80 rfl (lv_at hl 6 rfl) ?_
      refine lv_iload S.1 S.2.1 dX6_bringWave_81 (lv_at hl 1 rfl) ?_
      obtain ⟨h48, e47, f⟩ := ob f
      refine o_iast S I e47 dX6_bringWave_83 (fun H locs I => ?_)
      refine lv_aload_n S.1 S.2.1 dX6_bringWave_84 rfl (lv_at hl 5 rfl) ?_
      obtain ⟨r49, e50, f⟩ := ob f
      refine o_gR S lf6_bringWave_156 I e50 dX6_bringWave_85 ?_
      refine lv_iload S.1 S.2.1 dX6_bringWave_88 (lv_at hl 1 rfl) ?_
      refine lv_dup2_11 S.1 S.2.1 dX6_bringWave_90 rfl rfl ?_
      obtain ⟨v52, e51, f⟩ := ob f
      refine o_iald S I e51 dX6_bringWave_91 ?_
      refine lv_iconst (v := 1) S.1 S.2.1 dX6_bringWave_92 (by decide) ?_
      refine lv_iadd S.1 S.2.1 dX6_bringWave_93 ?_
      obtain ⟨h54, e53, f⟩ := ob f
      refine o_iast S I e53 dX6_bringWave_94 (fun H locs I => ?_)
      refine lv_aload_n S.1 S.2.1 dX6_bringWave_95 rfl (lv_at hl 4 rfl) ?_
      refine lv_aload_n S.1 S.2.1 dX6_bringWave_96 rfl (lv_at hl 5 rfl) ?_
      refine lv_iload S.1 S.2.1 dX6_bringWave_97 (lv_at hl 1 rfl) ?_
      refine lv_iload_n S.1 S.2.1 dX6_bringWave_99 rfl (lv_at hl 6 rfl) ?_
      refine lv_iconst (v := 1) S.1 S.2.1 dX6_bringWave_100 (by decide) ?_
      obtain ⟨o55, e56, f⟩ := ob f
      refine o_Vv S (As := [.ref (b + a1), .int v17, .int x2, .int 1]) (rest := []) (ci := 6) (M6_sendAway l D cy b A fl e56) gX6_bringWave_X6_sendAway rfl rfl rfl cd6_sendAway ⟨Nat.le_of_ble_eq_true rfl, Nat.le_of_ble_eq_true rfl⟩ I (gd e56).1 clX6 rfl rfl hl.1 rfl (Nat.le_of_ble_eq_true rfl) dX6_bringWave_101 ⟨Nat.le_of_ble_eq_true rfl, Nat.le_of_ble_eq_true rfl⟩ (fun H locs I => ?_)
      exact o_vret S hr hlo I f dX6_bringWave_104
  · have f := (if_pos q13).symm.trans f
    refine lv_aload_n S.1 S.2.1 dX6_bringWave_33 rfl (lv_at hl 3 rfl) ?_
    obtain ⟨r57, e58, f⟩ := ob f
    refine o_gR S lf6_bringWave_166 I e58 dX6_bringWave_34 ?_
    refine lv_iload_n S.1 S.2.1 dX6_bringWave_37 rfl (lv_at hl 4 rfl) ?_
    refine lv_iconst (v := (-1)) S.1 S.2.1 dX6_bringWave_38 (by decide) ?_
    obtain ⟨h60, e59, f⟩ := ob f
    refine o_iast S I e59 dX6_bringWave_39 (fun H locs I => ?_)
    refine lv_aload_n S.1 S.2.1 dX6_bringWave_40 rfl (lv_at hl 3 rfl) ?_
    refine lv_dup S.1 S.2.1 dX6_bringWave_41 rfl ?_
    obtain ⟨v61, e62, f⟩ := ob f
    refine o_gI S lf6_bringWave_189 I e62 dX6_bringWave_42 ?_
    refine lv_iconst (v := 1) S.1 S.2.1 dX6_bringWave_45 (by decide) ?_
    refine lv_iadd S.1 S.2.1 dX6_bringWave_46 ?_
    obtain ⟨h63, e64, f⟩ := ob f
    refine o_pI S lp6_bringWave_189 I e64 dX6_bringWave_47 (fun H locs I => ?_)
    exact o_vret S hr hlo I f dX6_bringWave_50
theorem M6_bringWave (l : Launch) (D : va_G) (cy : Nat → ClassId) (b : Nat) (A : Nat → Prop) (fl : Bool) {h : PH} {a0 : Nat} {a1 : Nat} {x2 : Int32} {out : PH} (f : F6_bringWave h a0 a1 x2 = some out) : Met l yX6_bringWave vX6_bringWave ({ frames := 5, cells := 0, slots := 0, locals := 128 } : Room) (va_Pc [.ref (b + a0), .ref (b + a1), .int x2] (ph_B D cy b A fl h)) (va_Qv (fun (u : PH) => u = out) (ph_B D cy b A fl) A) 0 0 A :=
  o_met (by decide) rfl (Nat.le_of_ble_eq_true rfl) rfl (fun p e s m below meth c S hr hlo hnm ls hl I => T6_bringWave_0 S hr hlo ((gd f).2) I (lv_sub hl [0, 1, 2] rfl))
def vX6_catchValue : List Cond := .code yX6_catchValue cX6_catchValue 4 (some .long) :: TB
theorem gX6_catchValue_X6_nameCatch : GoodIn vX6_catchValue (wsV RX6 128 RX6 yX6_nameCatch vX6_nameCatch) := gV_of wT_38_17 wT_38_18 wT_38_19 wT_2_2 wT_38_20
theorem lf6_catchValue_9 : Fl vX6_catchValue RX6 9 6 0 := ⟨RX6, TX6, 9, rfl, by decide, (fun w h9 => List.mem_cons_of_mem _ (wC_wsX60 w h9)), (List.mem_cons_of_mem _ wT_7_15)⟩
theorem lf6_catchValue_76 : Fl vX6_catchValue RX6 76 8 11 := ⟨RX8, TX8, 14, rfl, by decide, (fun w h9 => List.mem_cons_of_mem _ (wC_wsX80 w h9)), (List.mem_cons_of_mem _ wT_25_7)⟩
theorem lf6_catchValue_25 : Fl vX6_catchValue RX6 25 6 4 := ⟨RX6, TX6, 9, rfl, by decide, (fun w h9 => List.mem_cons_of_mem _ (wC_wsX60 w h9)), (List.mem_cons_of_mem _ wT_7_19)⟩
theorem lf6_catchValue_29 : Fl vX6_catchValue RX6 29 6 5 := ⟨RX6, TX6, 9, rfl, by decide, (fun w h9 => List.mem_cons_of_mem _ (wC_wsX60 w h9)), (List.mem_cons_of_mem _ wT_7_20)⟩
theorem gX6_catchValue_X2_valueFor : GoodIn vX6_catchValue (wsV RX6 80 RX2 yX2_valueFor vX2_valueFor) := gV_of wT_25_8 wT_25_9 wT_25_10 wT_3_14 wT_25_11
theorem cd6_catchValue : Cd yX6_catchValue 3 := ⟨by decide, by decide, by decide +kernel⟩
set_option maxHeartbeats 4000000 in
set_option maxRecDepth 100000 in
theorem T6_catchValue_0 (S : CallFix p m c cX6_catchValue 4 s args vX6_catchValue RX6) (hr : meth.sig.returnType = (some .long)) (hlo : meth.locks = false) {out : Int64 × PH} {h : PH} {a0 : Nat} {x1 : Int32} {x2 : Int32} {x3 : Int32} (f : F6_catchValue_0  h a0 x1 x2 x3 = some out) {H : Heap} {locs : List Loc} (I : ph_I D cy b A fl h s H locs) {ls : Array Slot} (hl : lv_has ls 4 [(0, .ref (b + a0)), (1, .int x1), (2, .int x2), (3, .int x3)]) : W p l e ({ frames := 3, cells := 0, slots := 0, locals := 78 } : Room) s m args below meth c H locs 0 0 (MQ below (va_Ql (fun (r : Int64) (u : PH) => (r, u) = out) (ph_B D cy b A fl) A) args s 0 0 A) (F0 m 0 ls []) := by
  unfold F6_catchValue_0 at f
  refine lv_aload_n S.1 S.2.1 dX6_catchValue_0 rfl (lv_at hl 0 rfl) ?_
  refine lv_iload_n S.1 S.2.1 dX6_catchValue_1 rfl (lv_at hl 1 rfl) ?_
  refine lv_iload_n S.1 S.2.1 dX6_catchValue_2 rfl (lv_at hl 2 rfl) ?_
  refine lv_iload_n S.1 S.2.1 dX6_catchValue_3 rfl (lv_at hl 3 rfl) ?_
  obtain ⟨o1, e2, f⟩ := ob f
  refine o_Vv S (As := [.int x1, .int x2, .int x3]) (rest := []) (ci := 6) (M6_nameCatch l D cy b A fl e2) gX6_catchValue_X6_nameCatch rfl rfl rfl cd6_nameCatch ⟨Nat.le_of_ble_eq_true rfl, Nat.le_of_ble_eq_true rfl⟩ I (gd e2).1 clX6 rfl rfl hl.1 rfl (Nat.le_of_ble_eq_true rfl) dX6_catchValue_4 ⟨Nat.le_of_ble_eq_true rfl, Nat.le_of_ble_eq_true rfl⟩ (fun H locs I => ?_)
  refine lv_aload_n S.1 S.2.1 dX6_catchValue_7 rfl (lv_at hl 0 rfl) ?_
  obtain ⟨r3, e4, f⟩ := ob f
  refine o_gR S lf6_catchValue_9 I e4 dX6_catchValue_8 ?_
  obtain ⟨r5, e6, f⟩ := ob f
  refine o_gR S lf6_catchValue_76 I e6 dX6_catchValue_11 ?_
  refine lv_iconst (v := 0) S.1 S.2.1 dX6_catchValue_14 (by decide) ?_
  obtain ⟨r8, e7, f⟩ := ob f
  refine o_aald S I e7 dX6_catchValue_15 ?_
  refine lv_aload_n S.1 S.2.1 dX6_catchValue_16 rfl (lv_at hl 0 rfl) ?_
  obtain ⟨r9, e10, f⟩ := ob f
  refine o_gR S lf6_catchValue_25 I e10 dX6_catchValue_17 ?_
  refine lv_aload_n S.1 S.2.1 dX6_catchValue_20 rfl (lv_at hl 0 rfl) ?_
  obtain ⟨r11, e12, f⟩ := ob f
  refine o_gR S lf6_catchValue_29 I e12 dX6_catchValue_21 ?_
  obtain ⟨o13, e14, f⟩ := ob f
  refine o_Vl S (As := [.ref (b + r9), .ref (b + r11)]) (rest := []) (ci := 2) (M2_valueFor l D cy b A fl e14) gX6_catchValue_X2_valueFor rfl rfl rfl cd2_valueFor ⟨Nat.le_of_ble_eq_true rfl, Nat.le_of_ble_eq_true rfl⟩ I (gd e14).1 clX2 rfl rfl hl.1 rfl (Nat.le_of_ble_eq_true rfl) dX6_catchValue_24 ⟨Nat.le_of_ble_eq_true rfl, Nat.le_of_ble_eq_true rfl⟩ (fun H locs I => ?_)
  exact o_lret S hr hlo I f dX6_catchValue_27
theorem M6_catchValue (l : Launch) (D : va_G) (cy : Nat → ClassId) (b : Nat) (A : Nat → Prop) (fl : Bool) {h : PH} {a0 : Nat} {x1 : Int32} {x2 : Int32} {x3 : Int32} {out : Int64 × PH} (f : F6_catchValue h a0 x1 x2 x3 = some out) : Met l yX6_catchValue vX6_catchValue ({ frames := 3, cells := 0, slots := 0, locals := 78 } : Room) (va_Pc [.ref (b + a0), .int x1, .int x2, .int x3] (ph_B D cy b A fl h)) (va_Ql (fun (r : Int64) (u : PH) => (r, u) = out) (ph_B D cy b A fl) A) 0 0 A :=
  o_met (by decide) rfl (Nat.le_of_ble_eq_true rfl) rfl (fun p e s m below meth c S hr hlo hnm ls hl I => T6_catchValue_0 S hr hlo ((gd f).2) I (lv_sub hl [0, 1, 2, 3] rfl))
def vX6_crossingOdds : List Cond := .code yX6_crossingOdds cX6_crossingOdds 9 (some .int) :: TB
theorem lf6_crossingOdds_19 : Fl vX6_crossingOdds RX6 19 6 2 := ⟨RX6, TX6, 9, rfl, by decide, (fun w h9 => List.mem_cons_of_mem _ (wC_wsX60 w h9)), (List.mem_cons_of_mem _ wT_7_17)⟩
theorem lf6_crossingOdds_32 : Fl vX6_crossingOdds RX6 32 6 6 := ⟨RX6, TX6, 9, rfl, by decide, (fun w h9 => List.mem_cons_of_mem _ (wC_wsX60 w h9)), (List.mem_cons_of_mem _ wT_7_21)⟩
theorem lf6_crossingOdds_38 : Fl vX6_crossingOdds RX6 38 6 8 := ⟨RX6, TX6, 9, rfl, by decide, (fun w h9 => List.mem_cons_of_mem _ (wC_wsX60 w h9)), (List.mem_cons_of_mem _ wT_7_23)⟩
theorem lf6_crossingOdds_215 : Fl vX6_crossingOdds RX6 215 4 0 := ⟨RX4, TX4, 11, rfl, by decide, (fun w h9 => List.mem_cons_of_mem _ (wC_wsX40 w h9)), (List.mem_cons_of_mem _ wT_56_10)⟩
theorem gX6_crossingOdds_X6_lineUp : GoodIn vX6_crossingOdds (wsV RX6 182 RX6 yX6_lineUp vX6_lineUp) := gV_of wT_44_5 wT_44_6 wT_44_7 wT_2_2 wT_44_8
theorem gX6_crossingOdds_X6_keyFor : GoodIn vX6_crossingOdds (wsV RX6 175 RX6 yX6_keyFor vX6_keyFor) := gV_of wT_44_13 wT_44_14 wT_44_15 wT_2_2 wT_44_16
theorem cd6_crossingOdds : Cd yX6_crossingOdds 3 := ⟨by decide, by decide, by decide +kernel⟩
set_option maxHeartbeats 4000000 in
set_option maxRecDepth 100000 in
theorem T6_crossingOdds_74 (S : CallFix p m c cX6_crossingOdds 9 s args vX6_crossingOdds RX6) (hr : meth.sig.returnType = (some .int)) (hlo : meth.locks = false) {out : Int32 × PH} {k28 : PH → Nat → Int32 → Int32 → Int32 → Int32 → Int32 → Option (Int32 × PH)} (hk28 : ∀ {h : PH} {a0 : Nat} {x2 : Int32} {x4 : Int32} {x5 : Int32} {x6 : Int32} {x7 : Int32}, k28 h a0 x2 x4 x5 x6 x7 = some out → ∀ (H : Heap) (locs : List Loc), ph_I D cy b A fl h s H locs → ∀ (ls : Array Slot), lv_has ls 9 [(0, .ref (b + a0)), (2, .int x2), (4, .int x4), (5, .int x5), (6, .int x6), (7, .int x7)] → W p l e ({ frames := 5, cells := 0, slots := 0, locals := 128 } : Room) s m args below meth c H locs 0 0 (MQ below (va_Qi (fun (r : Int32) (u : PH) => (r, u) = out) (ph_B D cy b A fl) A) args s 0 0 A) (F0 m 28 ls [])) {h : PH} {a0 : Nat} {x2 : Int32} {x4 : Int32} {x5 : Int32} {x6 : Int32} {x7 : Int32} {x8 : Int32} (f : F6_crossingOdds_74 k28 h a0 x2 x4 x5 x6 x7 x8 = some out) {H : Heap} {locs : List Loc} (I : ph_I D cy b A fl h s H locs) {ls : Array Slot} (hl : lv_has ls 9 [(0, .ref (b + a0)), (2, .int x2), (4, .int x4), (5, .int x5), (6, .int x6), (7, .int x7), (8, .int x8)]) : W p l e ({ frames := 5, cells := 0, slots := 0, locals := 128 } : Room) s m args below meth c H locs 0 0 (MQ below (va_Qi (fun (r : Int32) (u : PH) => (r, u) = out) (ph_B D cy b A fl) A) args s 0 0 A) (F0 m 74 ls []) := by
  unfold F6_crossingOdds_74 at f
  refine lv_iload S.1 S.2.1 dX6_crossingOdds_74 (lv_at hl 4 rfl) ?_
  refine lv_bipush (v := 100) S.1 S.2.1 dX6_crossingOdds_76 (by decide) ?_
  refine lv_aload_n S.1 S.2.1 dX6_crossingOdds_78 rfl (lv_at hl 0 rfl) ?_
  obtain ⟨r1, e2, f⟩ := ob f
  refine o_gR S lf6_crossingOdds_19 I e2 dX6_crossingOdds_79 ?_
  refine lv_iload S.1 S.2.1 dX6_crossingOdds_82 (lv_at hl 6 rfl) ?_
  obtain ⟨v4, e3, f⟩ := ob f
  refine o_iald S I e3 dX6_crossingOdds_84 ?_
  refine lv_isub S.1 S.2.1 dX6_crossingOdds_85 ?_
  refine lv_imul S.1 S.2.1 dX6_crossingOdds_86 ?_
  refine lv_bipush (v := 100) S.1 S.2.1 dX6_crossingOdds_87 (by decide) ?_
  refine lv_idiv S.1 S.2.1 dX6_crossingOdds_89 (by decide) ?_
  refine lv_istore (lv' := [(6, .int ((x6 * (100 - v4)) / 100)), (0, .ref (b + a0)), (2, .int x2), (4, .int x4), (5, .int x5), (7, .int x7), (8, .int x8)]) S.1 S.2.1 dX6_crossingOdds_90 hl (by decide) rfl (fun ls hl => ?_)
  refine lv_iinc (v := (x7 + 1)) (lv' := [(7, .int (x7 + 1)), (6, .int ((x6 * (100 - v4)) / 100)), (0, .ref (b + a0)), (2, .int x2), (4, .int x4), (5, .int x5), (8, .int x8)]) S.1 S.2.1 dX6_crossingOdds_92 hl (k := 5) rfl (congrArg (fun z => x7 + z) (by decide)) (by decide) rfl (fun ls hl => ?_)
  refine lv_goto (tgt := 28) S.1 S.2.1 dX6_crossingOdds_95 (by decide) ?_
  exact hk28 f _ _ I _ (lv_sub hl [2, 3, 4, 5, 1, 0] rfl)
set_option maxHeartbeats 4000000 in
set_option maxRecDepth 100000 in
theorem T6_crossingOdds_28 (S : CallFix p m c cX6_crossingOdds 9 s args vX6_crossingOdds RX6) (hr : meth.sig.returnType = (some .int)) (hlo : meth.locks = false) {out : Int32 × PH} : ∀ (n : Nat) {h : PH} {a0 : Nat} {x2 : Int32} {x4 : Int32} {x5 : Int32} {x6 : Int32} {x7 : Int32} (f : F6_crossingOdds_28  n h a0 x2 x4 x5 x6 x7 = some out) {H : Heap} {locs : List Loc} (I : ph_I D cy b A fl h s H locs) {ls : Array Slot} (hl : lv_has ls 9 [(0, .ref (b + a0)), (2, .int x2), (4, .int x4), (5, .int x5), (6, .int x6), (7, .int x7)]), W p l e ({ frames := 5, cells := 0, slots := 0, locals := 128 } : Room) s m args below meth c H locs 0 0 (MQ below (va_Qi (fun (r : Int32) (u : PH) => (r, u) = out) (ph_B D cy b A fl) A) args s 0 0 A) (F0 m 28 ls []) := by
  intro n
  induction n with
  | zero => intro h a0 x2 x4 x5 x6 x7 f; rw [F6_crossingOdds_28] at f; cases f
  | succ n ih =>
    intro h a0 x2 x4 x5 x6 x7 f H locs I ls hl
    rw [F6_crossingOdds_28] at f
    refine lv_iload S.1 S.2.1 dX6_crossingOdds_28 (lv_at hl 5 rfl) ?_
    refine lv_iload S.1 S.2.1 dX6_crossingOdds_30 (lv_at hl 2 rfl) ?_
    refine lv_icmp_ge (tgt := 98) S.1 S.2.1 dX6_crossingOdds_32 (by decide) (fun q1 => ?_) (fun q1 => ?_)
    · have f := (if_pos q1).symm.trans f
      refine lv_bipush (v := 100) S.1 S.2.1 dX6_crossingOdds_98 (by decide) ?_
      refine lv_iload S.1 S.2.1 dX6_crossingOdds_100 (lv_at hl 4 rfl) ?_
      refine lv_isub S.1 S.2.1 dX6_crossingOdds_102 ?_
      exact o_iret S hr hlo I f dX6_crossingOdds_103
    · have f := (if_neg q1).symm.trans f
      refine lv_aload_n S.1 S.2.1 dX6_crossingOdds_35 rfl (lv_at hl 0 rfl) ?_
      obtain ⟨r2, e3, f⟩ := ob f
      refine o_gR S lf6_crossingOdds_32 I e3 dX6_crossingOdds_36 ?_
      refine lv_iload S.1 S.2.1 dX6_crossingOdds_39 (lv_at hl 5 rfl) ?_
      obtain ⟨v5, e4, f⟩ := ob f
      refine o_iald S I e4 dX6_crossingOdds_41 ?_
      refine lv_istore (lv' := [(8, .int v5), (0, .ref (b + a0)), (2, .int x2), (4, .int x4), (5, .int x5), (6, .int x6), (7, .int x7)]) S.1 S.2.1 dX6_crossingOdds_42 hl (by decide) rfl (fun ls hl => ?_)
      refine lv_aload_n S.1 S.2.1 dX6_crossingOdds_44 rfl (lv_at hl 1 rfl) ?_
      obtain ⟨r6, e7, f⟩ := ob f
      refine o_gR S lf6_crossingOdds_38 I e7 dX6_crossingOdds_45 ?_
      refine lv_iload S.1 S.2.1 dX6_crossingOdds_48 (lv_at hl 0 rfl) ?_
      obtain ⟨v9, e8, f⟩ := ob f
      refine o_iald S I e8 dX6_crossingOdds_50 ?_
      refine lv_iload S.1 S.2.1 dX6_crossingOdds_51 (lv_at hl 4 rfl) ?_
      refine lv_icmp_gt (tgt := 74) S.1 S.2.1 dX6_crossingOdds_53 (by decide) (fun q10 => ?_) (fun q10 => ?_)
      · have f := (if_pos q10).symm.trans f
        exact T6_crossingOdds_74 S hr hlo (fun f _ _ I _ hl => ih f I hl) f I (lv_sub hl [1, 2, 3, 4, 5, 6, 0] rfl)
      · have f := (if_neg q10).symm.trans f
        refine lv_aload_n S.1 S.2.1 dX6_crossingOdds_56 rfl (lv_at hl 1 rfl) ?_
        obtain ⟨r11, e12, f⟩ := ob f
        refine o_gR S lf6_crossingOdds_38 I e12 dX6_crossingOdds_57 ?_
        refine lv_iload S.1 S.2.1 dX6_crossingOdds_60 (lv_at hl 0 rfl) ?_
        obtain ⟨v14, e13, f⟩ := ob f
        refine o_iald S I e13 dX6_crossingOdds_62 ?_
        refine lv_iload S.1 S.2.1 dX6_crossingOdds_63 (lv_at hl 4 rfl) ?_
        refine lv_icmp_ne (tgt := 92) S.1 S.2.1 dX6_crossingOdds_65 (by decide) (fun q15 => ?_) (fun q15 => ?_)
        · have f := (if_neg q15).symm.trans f
          refine lv_iinc (v := (x7 + 1)) (lv' := [(7, .int (x7 + 1)), (8, .int v5), (0, .ref (b + a0)), (2, .int x2), (4, .int x4), (5, .int x5), (6, .int x6)]) S.1 S.2.1 dX6_crossingOdds_92 hl (k := 6) rfl (congrArg (fun z => x7 + z) (by decide)) (by decide) rfl (fun ls hl => ?_)
          refine lv_goto (tgt := 28) S.1 S.2.1 dX6_crossingOdds_95 (by decide) ?_
          exact ih f I (lv_sub hl [2, 3, 4, 5, 6, 0] rfl)
        · have f := (if_pos q15).symm.trans f
          refine lv_iload S.1 S.2.1 dX6_crossingOdds_68 (lv_at hl 0 rfl) ?_
          refine lv_iload_n S.1 S.2.1 dX6_crossingOdds_70 rfl (lv_at hl 2 rfl) ?_
          refine lv_icmp_le (tgt := 92) S.1 S.2.1 dX6_crossingOdds_71 (by decide) (fun q16 => ?_) (fun q16 => ?_)
          · have f := (if_pos q16).symm.trans f
            refine lv_iinc (v := (x7 + 1)) (lv' := [(7, .int (x7 + 1)), (8, .int v5), (0, .ref (b + a0)), (2, .int x2), (4, .int x4), (5, .int x5), (6, .int x6)]) S.1 S.2.1 dX6_crossingOdds_92 hl (k := 6) rfl (congrArg (fun z => x7 + z) (by decide)) (by decide) rfl (fun ls hl => ?_)
            refine lv_goto (tgt := 28) S.1 S.2.1 dX6_crossingOdds_95 (by decide) ?_
            exact ih f I (lv_sub hl [2, 3, 4, 5, 6, 0] rfl)
          · have f := (if_neg q16).symm.trans f
            exact T6_crossingOdds_74 S hr hlo (fun f _ _ I _ hl => ih f I hl) f I (lv_sub hl [1, 2, 3, 4, 5, 6, 0] rfl)
set_option maxHeartbeats 4000000 in
set_option maxRecDepth 100000 in
theorem T6_crossingOdds_0 (S : CallFix p m c cX6_crossingOdds 9 s args vX6_crossingOdds RX6) (hr : meth.sig.returnType = (some .int)) (hlo : meth.locks = false) {out : Int32 × PH} {h : PH} {a0 : Nat} {a1 : Nat} {x2 : Int32} {x3 : Int32} (f : F6_crossingOdds_0  h a0 a1 x2 x3 = some out) {H : Heap} {locs : List Loc} (I : ph_I D cy b A fl h s H locs) {ls : Array Slot} (hl : lv_has ls 9 [(0, .ref (b + a0)), (1, .ref (b + a1)), (2, .int x2), (3, .int x3)]) : W p l e ({ frames := 5, cells := 0, slots := 0, locals := 128 } : Room) s m args below meth c H locs 0 0 (MQ below (va_Qi (fun (r : Int32) (u : PH) => (r, u) = out) (ph_B D cy b A fl) A) args s 0 0 A) (F0 m 0 ls []) := by
  unfold F6_crossingOdds_0 at f
  refine lv_aload_n S.1 S.2.1 dX6_crossingOdds_0 rfl (lv_at hl 0 rfl) ?_
  refine lv_aload_n S.1 S.2.1 dX6_crossingOdds_1 rfl (lv_at hl 1 rfl) ?_
  refine lv_iload_n S.1 S.2.1 dX6_crossingOdds_2 rfl (lv_at hl 3 rfl) ?_
  refine lv_aload_n S.1 S.2.1 dX6_crossingOdds_3 rfl (lv_at hl 1 rfl) ?_
  obtain ⟨v1, e2, f⟩ := ob f
  refine o_gI S lf6_crossingOdds_215 I e2 dX6_crossingOdds_4 ?_
  obtain ⟨o3, e4, f⟩ := ob f
  refine o_Vi S (As := [.ref (b + a1), .int x3, .int v1]) (rest := []) (ci := 6) (M6_lineUp l D cy b A fl e4) gX6_crossingOdds_X6_lineUp rfl rfl rfl cd6_lineUp ⟨Nat.le_of_ble_eq_true rfl, Nat.le_of_ble_eq_true rfl⟩ I (gd e4).1 clX6 rfl rfl hl.1 rfl (Nat.le_of_ble_eq_true rfl) dX6_crossingOdds_7 ⟨Nat.le_of_ble_eq_true rfl, Nat.le_of_ble_eq_true rfl⟩ (fun H locs I => ?_)
  refine lv_istore (lv' := [(4, .int o3.1), (0, .ref (b + a0)), (1, .ref (b + a1)), (2, .int x2), (3, .int x3)]) S.1 S.2.1 dX6_crossingOdds_10 hl (by decide) rfl (fun ls hl => ?_)
  refine lv_aload_n S.1 S.2.1 dX6_crossingOdds_12 rfl (lv_at hl 1 rfl) ?_
  refine lv_aload_n S.1 S.2.1 dX6_crossingOdds_13 rfl (lv_at hl 2 rfl) ?_
  refine lv_iload_n S.1 S.2.1 dX6_crossingOdds_14 rfl (lv_at hl 3 rfl) ?_
  refine lv_iload_n S.1 S.2.1 dX6_crossingOdds_15 rfl (lv_at hl 4 rfl) ?_
  obtain ⟨o5, e6, f⟩ := ob f
  refine o_Vi S (As := [.ref (b + a1), .int x2, .int x3]) (rest := []) (ci := 6) (M6_keyFor l D cy b A fl e6) gX6_crossingOdds_X6_keyFor rfl rfl rfl cd6_keyFor ⟨Nat.le_of_ble_eq_true rfl, Nat.le_of_ble_eq_true rfl⟩ I (gd e6).1 clX6 rfl rfl hl.1 rfl (Nat.le_of_ble_eq_true rfl) dX6_crossingOdds_16 ⟨Nat.le_of_ble_eq_true rfl, Nat.le_of_ble_eq_true rfl⟩ (fun H locs I => ?_)
  refine lv_istore (lv' := [(5, .int o5.1), (4, .int o3.1), (0, .ref (b + a0)), (1, .ref (b + a1)), (2, .int x2), (3, .int x3)]) S.1 S.2.1 dX6_crossingOdds_19 hl (by decide) rfl (fun ls hl => ?_)
  refine lv_bipush (v := 100) S.1 S.2.1 dX6_crossingOdds_21 (by decide) ?_
  refine lv_istore (lv' := [(6, .int 100), (5, .int o5.1), (4, .int o3.1), (0, .ref (b + a0)), (1, .ref (b + a1)), (2, .int x2), (3, .int x3)]) S.1 S.2.1 dX6_crossingOdds_23 hl (by decide) rfl (fun ls hl => ?_)
  refine lv_iconst (v := 0) S.1 S.2.1 dX6_crossingOdds_25 (by decide) ?_
  refine lv_istore (lv' := [(7, .int 0), (6, .int 100), (5, .int o5.1), (4, .int o3.1), (0, .ref (b + a0)), (1, .ref (b + a1)), (2, .int x2), (3, .int x3)]) S.1 S.2.1 dX6_crossingOdds_26 hl (by decide) rfl (fun ls hl => ?_)
  exact T6_crossingOdds_28 S hr hlo  1024 f I (lv_sub hl [4, 6, 3, 2, 1, 0] rfl)
theorem M6_crossingOdds (l : Launch) (D : va_G) (cy : Nat → ClassId) (b : Nat) (A : Nat → Prop) (fl : Bool) {h : PH} {a0 : Nat} {a1 : Nat} {x2 : Int32} {x3 : Int32} {out : Int32 × PH} (f : F6_crossingOdds h a0 a1 x2 x3 = some out) : Met l yX6_crossingOdds vX6_crossingOdds ({ frames := 5, cells := 0, slots := 0, locals := 128 } : Room) (va_Pc [.ref (b + a0), .ref (b + a1), .int x2, .int x3] (ph_B D cy b A fl h)) (va_Qi (fun (r : Int32) (u : PH) => (r, u) = out) (ph_B D cy b A fl) A) 0 0 A :=
  o_met (by decide) rfl (Nat.le_of_ble_eq_true rfl) rfl (fun p e s m below meth c S hr hlo hnm ls hl I => T6_crossingOdds_0 S hr hlo ((gd f).2) I (lv_sub hl [0, 1, 2, 3] rfl))
def vX6_driftValue : List Cond := .code yX6_driftValue cX6_driftValue 3 (some .long) :: TB
theorem lf6_driftValue_25 : Fl vX6_driftValue RX6 25 6 4 := ⟨RX6, TX6, 9, rfl, by decide, (fun w h9 => List.mem_cons_of_mem _ (wC_wsX60 w h9)), (List.mem_cons_of_mem _ wT_7_19)⟩
theorem lf6_driftValue_9 : Fl vX6_driftValue RX6 9 6 0 := ⟨RX6, TX6, 9, rfl, by decide, (fun w h9 => List.mem_cons_of_mem _ (wC_wsX60 w h9)), (List.mem_cons_of_mem _ wT_7_15)⟩
theorem lf6_driftValue_76 : Fl vX6_driftValue RX6 76 8 11 := ⟨RX8, TX8, 14, rfl, by decide, (fun w h9 => List.mem_cons_of_mem _ (wC_wsX80 w h9)), (List.mem_cons_of_mem _ wT_25_7)⟩
theorem lf6_driftValue_29 : Fl vX6_driftValue RX6 29 6 5 := ⟨RX6, TX6, 9, rfl, by decide, (fun w h9 => List.mem_cons_of_mem _ (wC_wsX60 w h9)), (List.mem_cons_of_mem _ wT_7_20)⟩
theorem gX6_driftValue_X2_valueFor : GoodIn vX6_driftValue (wsV RX6 80 RX2 yX2_valueFor vX2_valueFor) := gV_of wT_25_8 wT_25_9 wT_25_10 wT_3_14 wT_25_11
theorem cd6_driftValue : Cd yX6_driftValue 1 := ⟨by decide, by decide, by decide +kernel⟩
set_option maxHeartbeats 4000000 in
set_option maxRecDepth 100000 in
theorem T6_driftValue_2 (S : CallFix p m c cX6_driftValue 3 s args vX6_driftValue RX6) (hr : meth.sig.returnType = (some .long)) (hlo : meth.locks = false) {out : Int64 × PH} : ∀ (n : Nat) {h : PH} {a0 : Nat} {x1 : Int32} {x2 : Int32} (f : F6_driftValue_2  n h a0 x1 x2 = some out) {H : Heap} {locs : List Loc} (I : ph_I D cy b A fl h s H locs) {ls : Array Slot} (hl : lv_has ls 3 [(0, .ref (b + a0)), (1, .int x1), (2, .int x2)]), W p l e ({ frames := 3, cells := 0, slots := 0, locals := 78 } : Room) s m args below meth c H locs 0 0 (MQ below (va_Ql (fun (r : Int64) (u : PH) => (r, u) = out) (ph_B D cy b A fl) A) args s 0 0 A) (F0 m 2 ls []) := by
  intro n
  induction n with
  | zero => intro h a0 x1 x2 f; rw [F6_driftValue_2] at f; cases f
  | succ n ih =>
    intro h a0 x1 x2 f H locs I ls hl
    rw [F6_driftValue_2] at f
    refine lv_iload_n S.1 S.2.1 dX6_driftValue_2 rfl (lv_at hl 2 rfl) ?_
    refine lv_bipush (v := 6) S.1 S.2.1 dX6_driftValue_3 (by decide) ?_
    refine lv_icmp_ge (tgt := 21) S.1 S.2.1 dX6_driftValue_5 (by decide) (fun q1 => ?_) (fun q1 => ?_)
    · have f := (if_pos q1).symm.trans f
      refine lv_aload_n S.1 S.2.1 dX6_driftValue_21 rfl (lv_at hl 0 rfl) ?_
      obtain ⟨r2, e3, f⟩ := ob f
      refine o_gR S lf6_driftValue_25 I e3 dX6_driftValue_22 ?_
      refine lv_iconst (v := 4) S.1 S.2.1 dX6_driftValue_25 (by decide) ?_
      refine lv_iload_n S.1 S.2.1 dX6_driftValue_26 rfl (lv_at hl 1 rfl) ?_
      refine lv_i2l (v := Int32.toInt64 x1) S.1 S.2.1 dX6_driftValue_27 rfl ?_
      obtain ⟨h5, e4, f⟩ := ob f
      refine o_last S I e4 dX6_driftValue_28 (fun H locs I => ?_)
      refine lv_aload_n S.1 S.2.1 dX6_driftValue_29 rfl (lv_at hl 0 rfl) ?_
      obtain ⟨r6, e7, f⟩ := ob f
      refine o_gR S lf6_driftValue_9 I e7 dX6_driftValue_30 ?_
      obtain ⟨r8, e9, f⟩ := ob f
      refine o_gR S lf6_driftValue_76 I e9 dX6_driftValue_33 ?_
      refine lv_iconst (v := 1) S.1 S.2.1 dX6_driftValue_36 (by decide) ?_
      obtain ⟨r11, e10, f⟩ := ob f
      refine o_aald S I e10 dX6_driftValue_37 ?_
      refine lv_aload_n S.1 S.2.1 dX6_driftValue_38 rfl (lv_at hl 0 rfl) ?_
      obtain ⟨r12, e13, f⟩ := ob f
      refine o_gR S lf6_driftValue_25 I e13 dX6_driftValue_39 ?_
      refine lv_aload_n S.1 S.2.1 dX6_driftValue_42 rfl (lv_at hl 0 rfl) ?_
      obtain ⟨r14, e15, f⟩ := ob f
      refine o_gR S lf6_driftValue_29 I e15 dX6_driftValue_43 ?_
      obtain ⟨o16, e17, f⟩ := ob f
      refine o_Vl S (As := [.ref (b + r12), .ref (b + r14)]) (rest := []) (ci := 2) (M2_valueFor l D cy b A fl e17) gX6_driftValue_X2_valueFor rfl rfl rfl cd2_valueFor ⟨Nat.le_of_ble_eq_true rfl, Nat.le_of_ble_eq_true rfl⟩ I (gd e17).1 clX2 rfl rfl hl.1 rfl (Nat.le_of_ble_eq_true rfl) dX6_driftValue_46 ⟨Nat.le_of_ble_eq_true rfl, Nat.le_of_ble_eq_true rfl⟩ (fun H locs I => ?_)
      exact o_lret S hr hlo I f dX6_driftValue_49
    · have f := (if_neg q1).symm.trans f
      refine lv_aload_n S.1 S.2.1 dX6_driftValue_8 rfl (lv_at hl 0 rfl) ?_
      obtain ⟨r18, e19, f⟩ := ob f
      refine o_gR S lf6_driftValue_25 I e19 dX6_driftValue_9 ?_
      refine lv_iload_n S.1 S.2.1 dX6_driftValue_12 rfl (lv_at hl 2 rfl) ?_
      refine lv_lconst (v := 0) S.1 S.2.1 dX6_driftValue_13 (by decide) ?_
      obtain ⟨h21, e20, f⟩ := ob f
      refine o_last S I e20 dX6_driftValue_14 (fun H locs I => ?_)
      refine lv_iinc (v := (x2 + 1)) (lv' := [(2, .int (x2 + 1)), (0, .ref (b + a0)), (1, .int x1)]) S.1 S.2.1 dX6_driftValue_15 hl (k := 2) rfl (congrArg (fun z => x2 + z) (by decide)) (by decide) rfl (fun ls hl => ?_)
      refine lv_goto (tgt := 2) S.1 S.2.1 dX6_driftValue_18 (by decide) ?_
      exact ih f I (lv_sub hl [1, 2, 0] rfl)
set_option maxHeartbeats 4000000 in
set_option maxRecDepth 100000 in
theorem T6_driftValue_0 (S : CallFix p m c cX6_driftValue 3 s args vX6_driftValue RX6) (hr : meth.sig.returnType = (some .long)) (hlo : meth.locks = false) {out : Int64 × PH} {h : PH} {a0 : Nat} {x1 : Int32} (f : F6_driftValue_0  h a0 x1 = some out) {H : Heap} {locs : List Loc} (I : ph_I D cy b A fl h s H locs) {ls : Array Slot} (hl : lv_has ls 3 [(0, .ref (b + a0)), (1, .int x1)]) : W p l e ({ frames := 3, cells := 0, slots := 0, locals := 78 } : Room) s m args below meth c H locs 0 0 (MQ below (va_Ql (fun (r : Int64) (u : PH) => (r, u) = out) (ph_B D cy b A fl) A) args s 0 0 A) (F0 m 0 ls []) := by
  unfold F6_driftValue_0 at f
  refine lv_iconst (v := 0) S.1 S.2.1 dX6_driftValue_0 (by decide) ?_
  refine lv_istore_n (lv' := [(2, .int 0), (0, .ref (b + a0)), (1, .int x1)]) S.1 S.2.1 dX6_driftValue_1 rfl hl (by decide) rfl (fun ls hl => ?_)
  exact T6_driftValue_2 S hr hlo  1024 f I (lv_sub hl [1, 2, 0] rfl)
theorem M6_driftValue (l : Launch) (D : va_G) (cy : Nat → ClassId) (b : Nat) (A : Nat → Prop) (fl : Bool) {h : PH} {a0 : Nat} {x1 : Int32} {out : Int64 × PH} (f : F6_driftValue h a0 x1 = some out) : Met l yX6_driftValue vX6_driftValue ({ frames := 3, cells := 0, slots := 0, locals := 78 } : Room) (va_Pc [.ref (b + a0), .int x1] (ph_B D cy b A fl h)) (va_Ql (fun (r : Int64) (u : PH) => (r, u) = out) (ph_B D cy b A fl) A) 0 0 A :=
  o_met (by decide) rfl (Nat.le_of_ble_eq_true rfl) rfl (fun p e s m below meth c S hr hlo hnm ls hl I => T6_driftValue_0 S hr hlo ((gd f).2) I (lv_sub hl [0, 1] rfl))
end
