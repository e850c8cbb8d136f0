theorem zd_dX0_isRest_0 : sg (cX0_isRest.data.toList.drop 0) [[42], [180, 0, 9], [27], [46], [2], [159, 0, 15], [42], [180, 0, 9], [8], [28], [96], [46], [2], [160, 0, 5], [3], [172], [3], [62], [29], [8]] = true := by decide +kernel
theorem dX0_isRest_0 : decode cX0_isRest 0 = .ok (.aload_n 0, 1) := dc_42 (sg_at zd_dX0_isRest_0 0 rfl rfl)
theorem dX0_isRest_1 : decode cX0_isRest 1 = .ok (.getfield 9, 3) := dc_180 (sg_at zd_dX0_isRest_0 1 rfl rfl) rfl
theorem dX0_isRest_4 : decode cX0_isRest 4 = .ok (.iload_n 1, 1) := dc_27 (sg_at zd_dX0_isRest_0 2 rfl rfl)
theorem dX0_isRest_5 : decode cX0_isRest 5 = .ok (.iaload, 1) := dc_46 (sg_at zd_dX0_isRest_0 3 rfl rfl)
theorem dX0_isRest_6 : decode cX0_isRest 6 = .ok (.iconst (-1), 1) := dc_2 (sg_at zd_dX0_isRest_0 4 rfl rfl)
theorem dX0_isRest_7 : decode cX0_isRest 7 = .ok (.if_icmp .eq 15, 3) := dc_159 (sg_at zd_dX0_isRest_0 5 rfl rfl) rfl
theorem dX0_isRest_10 : decode cX0_isRest 10 = .ok (.aload_n 0, 1) := dc_42 (sg_at zd_dX0_isRest_0 6 rfl rfl)
theorem dX0_isRest_11 : decode cX0_isRest 11 = .ok (.getfield 9, 3) := dc_180 (sg_at zd_dX0_isRest_0 7 rfl rfl) rfl
theorem dX0_isRest_14 : decode cX0_isRest 14 = .ok (.iconst 5, 1) := dc_8 (sg_at zd_dX0_isRest_0 8 rfl rfl)
theorem dX0_isRest_15 : decode cX0_isRest 15 = .ok (.iload_n 2, 1) := dc_28 (sg_at zd_dX0_isRest_0 9 rfl rfl)
theorem dX0_isRest_16 : decode cX0_isRest 16 = .ok (.iadd, 1) := dc_96 (sg_at zd_dX0_isRest_0 10 rfl rfl)
theorem dX0_isRest_17 : decode cX0_isRest 17 = .ok (.iaload, 1) := dc_46 (sg_at zd_dX0_isRest_0 11 rfl rfl)
theorem dX0_isRest_18 : decode cX0_isRest 18 = .ok (.iconst (-1), 1) := dc_2 (sg_at zd_dX0_isRest_0 12 rfl rfl)
theorem dX0_isRest_19 : decode cX0_isRest 19 = .ok (.if_icmp .ne 5, 3) := dc_160 (sg_at zd_dX0_isRest_0 13 rfl rfl) rfl
theorem dX0_isRest_22 : decode cX0_isRest 22 = .ok (.iconst 0, 1) := dc_3 (sg_at zd_dX0_isRest_0 14 rfl rfl)
theorem dX0_isRest_23 : decode cX0_isRest 23 = .ok (.ireturn, 1) := dc_172 (sg_at zd_dX0_isRest_0 15 rfl rfl)
theorem dX0_isRest_24 : decode cX0_isRest 24 = .ok (.iconst 0, 1) := dc_3 (sg_at zd_dX0_isRest_0 16 rfl rfl)
theorem dX0_isRest_25 : decode cX0_isRest 25 = .ok (.istore_n 3, 1) := dc_62 (sg_at zd_dX0_isRest_0 17 rfl rfl)
theorem dX0_isRest_26 : decode cX0_isRest 26 = .ok (.iload_n 3, 1) := dc_29 (sg_at zd_dX0_isRest_0 18 rfl rfl)
theorem dX0_isRest_27 : decode cX0_isRest 27 = .ok (.iconst 5, 1) := dc_8 (sg_at zd_dX0_isRest_0 19 rfl rfl)
theorem zd_dX0_isRest_28 : sg (cX0_isRest.data.toList.drop 28) [[162, 0, 81], [42], [180, 0, 9], [29], [46], [2], [159, 0, 28], [42], [180, 0, 21], [29], [8], [104], [28], [96], [46], [42], [180, 0, 21], [27], [8], [104]] = true := by decide +kernel
theorem dX0_isRest_28 : decode cX0_isRest 28 = .ok (.if_icmp .ge 81, 3) := dc_162 (sg_at zd_dX0_isRest_28 0 rfl rfl) rfl
theorem dX0_isRest_31 : decode cX0_isRest 31 = .ok (.aload_n 0, 1) := dc_42 (sg_at zd_dX0_isRest_28 1 rfl rfl)
theorem dX0_isRest_32 : decode cX0_isRest 32 = .ok (.getfield 9, 3) := dc_180 (sg_at zd_dX0_isRest_28 2 rfl rfl) rfl
theorem dX0_isRest_35 : decode cX0_isRest 35 = .ok (.iload_n 3, 1) := dc_29 (sg_at zd_dX0_isRest_28 3 rfl rfl)
theorem dX0_isRest_36 : decode cX0_isRest 36 = .ok (.iaload, 1) := dc_46 (sg_at zd_dX0_isRest_28 4 rfl rfl)
theorem dX0_isRest_37 : decode cX0_isRest 37 = .ok (.iconst (-1), 1) := dc_2 (sg_at zd_dX0_isRest_28 5 rfl rfl)
theorem dX0_isRest_38 : decode cX0_isRest 38 = .ok (.if_icmp .eq 28, 3) := dc_159 (sg_at zd_dX0_isRest_28 6 rfl rfl) rfl
theorem dX0_isRest_41 : decode cX0_isRest 41 = .ok (.aload_n 0, 1) := dc_42 (sg_at zd_dX0_isRest_28 7 rfl rfl)
theorem dX0_isRest_42 : decode cX0_isRest 42 = .ok (.getfield 21, 3) := dc_180 (sg_at zd_dX0_isRest_28 8 rfl rfl) rfl
theorem dX0_isRest_45 : decode cX0_isRest 45 = .ok (.iload_n 3, 1) := dc_29 (sg_at zd_dX0_isRest_28 9 rfl rfl)
theorem dX0_isRest_46 : decode cX0_isRest 46 = .ok (.iconst 5, 1) := dc_8 (sg_at zd_dX0_isRest_28 10 rfl rfl)
theorem dX0_isRest_47 : decode cX0_isRest 47 = .ok (.imul, 1) := dc_104 (sg_at zd_dX0_isRest_28 11 rfl rfl)
theorem dX0_isRest_48 : decode cX0_isRest 48 = .ok (.iload_n 2, 1) := dc_28 (sg_at zd_dX0_isRest_28 12 rfl rfl)
theorem dX0_isRest_49 : decode cX0_isRest 49 = .ok (.iadd, 1) := dc_96 (sg_at zd_dX0_isRest_28 13 rfl rfl)
theorem dX0_isRest_50 : decode cX0_isRest 50 = .ok (.iaload, 1) := dc_46 (sg_at zd_dX0_isRest_28 14 rfl rfl)
theorem dX0_isRest_51 : decode cX0_isRest 51 = .ok (.aload_n 0, 1) := dc_42 (sg_at zd_dX0_isRest_28 15 rfl rfl)
theorem dX0_isRest_52 : decode cX0_isRest 52 = .ok (.getfield 21, 3) := dc_180 (sg_at zd_dX0_isRest_28 16 rfl rfl) rfl
theorem dX0_isRest_55 : decode cX0_isRest 55 = .ok (.iload_n 1, 1) := dc_27 (sg_at zd_dX0_isRest_28 17 rfl rfl)
theorem dX0_isRest_56 : decode cX0_isRest 56 = .ok (.iconst 5, 1) := dc_8 (sg_at zd_dX0_isRest_28 18 rfl rfl)
theorem dX0_isRest_57 : decode cX0_isRest 57 = .ok (.imul, 1) := dc_104 (sg_at zd_dX0_isRest_28 19 rfl rfl)
theorem zd_dX0_isRest_58 : sg (cX0_isRest.data.toList.drop 58) [[28], [96], [46], [164, 0, 5], [3], [172], [42], [180, 0, 9], [8], [29], [96], [46], [2], [159, 0, 28], [42], [180, 0, 24], [27], [8], [104], [29]] = true := by decide +kernel
theorem dX0_isRest_58 : decode cX0_isRest 58 = .ok (.iload_n 2, 1) := dc_28 (sg_at zd_dX0_isRest_58 0 rfl rfl)
theorem dX0_isRest_59 : decode cX0_isRest 59 = .ok (.iadd, 1) := dc_96 (sg_at zd_dX0_isRest_58 1 rfl rfl)
theorem dX0_isRest_60 : decode cX0_isRest 60 = .ok (.iaload, 1) := dc_46 (sg_at zd_dX0_isRest_58 2 rfl rfl)
theorem dX0_isRest_61 : decode cX0_isRest 61 = .ok (.if_icmp .le 5, 3) := dc_164 (sg_at zd_dX0_isRest_58 3 rfl rfl) rfl
theorem dX0_isRest_64 : decode cX0_isRest 64 = .ok (.iconst 0, 1) := dc_3 (sg_at zd_dX0_isRest_58 4 rfl rfl)
theorem dX0_isRest_65 : decode cX0_isRest 65 = .ok (.ireturn, 1) := dc_172 (sg_at zd_dX0_isRest_58 5 rfl rfl)
theorem dX0_isRest_66 : decode cX0_isRest 66 = .ok (.aload_n 0, 1) := dc_42 (sg_at zd_dX0_isRest_58 6 rfl rfl)
theorem dX0_isRest_67 : decode cX0_isRest 67 = .ok (.getfield 9, 3) := dc_180 (sg_at zd_dX0_isRest_58 7 rfl rfl) rfl
theorem dX0_isRest_70 : decode cX0_isRest 70 = .ok (.iconst 5, 1) := dc_8 (sg_at zd_dX0_isRest_58 8 rfl rfl)
theorem dX0_isRest_71 : decode cX0_isRest 71 = .ok (.iload_n 3, 1) := dc_29 (sg_at zd_dX0_isRest_58 9 rfl rfl)
theorem dX0_isRest_72 : decode cX0_isRest 72 = .ok (.iadd, 1) := dc_96 (sg_at zd_dX0_isRest_58 10 rfl rfl)
theorem dX0_isRest_73 : decode cX0_isRest 73 = .ok (.iaload, 1) := dc_46 (sg_at zd_dX0_isRest_58 11 rfl rfl)
theorem dX0_isRest_74 : decode cX0_isRest 74 = .ok (.iconst (-1), 1) := dc_2 (sg_at zd_dX0_isRest_58 12 rfl rfl)
theorem dX0_isRest_75 : decode cX0_isRest 75 = .ok (.if_icmp .eq 28, 3) := dc_159 (sg_at zd_dX0_isRest_58 13 rfl rfl) rfl
theorem dX0_isRest_78 : decode cX0_isRest 78 = .ok (.aload_n 0, 1) := dc_42 (sg_at zd_dX0_isRest_58 14 rfl rfl)
theorem dX0_isRest_79 : decode cX0_isRest 79 = .ok (.getfield 24, 3) := dc_180 (sg_at zd_dX0_isRest_58 15 rfl rfl) rfl
theorem dX0_isRest_82 : decode cX0_isRest 82 = .ok (.iload_n 1, 1) := dc_27 (sg_at zd_dX0_isRest_58 16 rfl rfl)
theorem dX0_isRest_83 : decode cX0_isRest 83 = .ok (.iconst 5, 1) := dc_8 (sg_at zd_dX0_isRest_58 17 rfl rfl)
theorem dX0_isRest_84 : decode cX0_isRest 84 = .ok (.imul, 1) := dc_104 (sg_at zd_dX0_isRest_58 18 rfl rfl)
theorem dX0_isRest_85 : decode cX0_isRest 85 = .ok (.iload_n 3, 1) := dc_29 (sg_at zd_dX0_isRest_58 19 rfl rfl)
theorem zd_dX0_isRest_86 : sg (cX0_isRest.data.toList.drop 86) [[96], [46], [42], [180, 0, 24], [27], [8], [104], [28], [96], [46], [164, 0, 5], [3], [172], [132, 3, 1], [167, 255, 176], [4], [172]] = true := by decide +kernel
theorem dX0_isRest_86 : decode cX0_isRest 86 = .ok (.iadd, 1) := dc_96 (sg_at zd_dX0_isRest_86 0 rfl rfl)
theorem dX0_isRest_87 : decode cX0_isRest 87 = .ok (.iaload, 1) := dc_46 (sg_at zd_dX0_isRest_86 1 rfl rfl)
theorem dX0_isRest_88 : decode cX0_isRest 88 = .ok (.aload_n 0, 1) := dc_42 (sg_at zd_dX0_isRest_86 2 rfl rfl)
theorem dX0_isRest_89 : decode cX0_isRest 89 = .ok (.getfield 24, 3) := dc_180 (sg_at zd_dX0_isRest_86 3 rfl rfl) rfl
theorem dX0_isRest_92 : decode cX0_isRest 92 = .ok (.iload_n 1, 1) := dc_27 (sg_at zd_dX0_isRest_86 4 rfl rfl)
theorem dX0_isRest_93 : decode cX0_isRest 93 = .ok (.iconst 5, 1) := dc_8 (sg_at zd_dX0_isRest_86 5 rfl rfl)
theorem dX0_isRest_94 : decode cX0_isRest 94 = .ok (.imul, 1) := dc_104 (sg_at zd_dX0_isRest_86 6 rfl rfl)
theorem dX0_isRest_95 : decode cX0_isRest 95 = .ok (.iload_n 2, 1) := dc_28 (sg_at zd_dX0_isRest_86 7 rfl rfl)
theorem dX0_isRest_96 : decode cX0_isRest 96 = .ok (.iadd, 1) := dc_96 (sg_at zd_dX0_isRest_86 8 rfl rfl)
theorem dX0_isRest_97 : decode cX0_isRest 97 = .ok (.iaload, 1) := dc_46 (sg_at zd_dX0_isRest_86 9 rfl rfl)
theorem dX0_isRest_98 : decode cX0_isRest 98 = .ok (.if_icmp .le 5, 3) := dc_164 (sg_at zd_dX0_isRest_86 10 rfl rfl) rfl
theorem dX0_isRest_101 : decode cX0_isRest 101 = .ok (.iconst 0, 1) := dc_3 (sg_at zd_dX0_isRest_86 11 rfl rfl)
theorem dX0_isRest_102 : decode cX0_isRest 102 = .ok (.ireturn, 1) := dc_172 (sg_at zd_dX0_isRest_86 12 rfl rfl)
theorem dX0_isRest_103 : decode cX0_isRest 103 = .ok (.iinc 3 1, 3) := dc_132 (sg_at zd_dX0_isRest_86 13 rfl rfl) rfl
theorem dX0_isRest_106 : decode cX0_isRest 106 = .ok (.goto (-80), 3) := dc_167 (sg_at zd_dX0_isRest_86 14 rfl rfl) rfl
theorem dX0_isRest_109 : decode cX0_isRest 109 = .ok (.iconst 1, 1) := dc_4 (sg_at zd_dX0_isRest_86 15 rfl rfl)
theorem dX0_isRest_110 : decode cX0_isRest 110 = .ok (.ireturn, 1) := dc_172 (sg_at zd_dX0_isRest_86 16 rfl rfl)
theorem zd_dX0_findRests_0 : sg (cX0_findRests.data.toList.drop 0) [[42], [3], [181, 0, 98], [3], [60], [27], [8], [162, 0, 64], [3], [61], [28], [8], [162, 0, 51], [42], [27], [28], [182, 0, 101], [153, 0, 36], [42], [180, 0, 27]] = true := by decide +kernel
theorem dX0_findRests_0 : decode cX0_findRests 0 = .ok (.aload_n 0, 1) := dc_42 (sg_at zd_dX0_findRests_0 0 rfl rfl)
theorem dX0_findRests_1 : decode cX0_findRests 1 = .ok (.iconst 0, 1) := dc_3 (sg_at zd_dX0_findRests_0 1 rfl rfl)
theorem dX0_findRests_2 : decode cX0_findRests 2 = .ok (.putfield 98, 3) := dc_181 (sg_at zd_dX0_findRests_0 2 rfl rfl) rfl
theorem dX0_findRests_5 : decode cX0_findRests 5 = .ok (.iconst 0, 1) := dc_3 (sg_at zd_dX0_findRests_0 3 rfl rfl)
theorem dX0_findRests_6 : decode cX0_findRests 6 = .ok (.istore_n 1, 1) := dc_60 (sg_at zd_dX0_findRests_0 4 rfl rfl)
theorem dX0_findRests_7 : decode cX0_findRests 7 = .ok (.iload_n 1, 1) := dc_27 (sg_at zd_dX0_findRests_0 5 rfl rfl)
theorem dX0_findRests_8 : decode cX0_findRests 8 = .ok (.iconst 5, 1) := dc_8 (sg_at zd_dX0_findRests_0 6 rfl rfl)
theorem dX0_findRests_9 : decode cX0_findRests 9 = .ok (.if_icmp .ge 64, 3) := dc_162 (sg_at zd_dX0_findRests_0 7 rfl rfl) rfl
theorem dX0_findRests_12 : decode cX0_findRests 12 = .ok (.iconst 0, 1) := dc_3 (sg_at zd_dX0_findRests_0 8 rfl rfl)
theorem dX0_findRests_13 : decode cX0_findRests 13 = .ok (.istore_n 2, 1) := dc_61 (sg_at zd_dX0_findRests_0 9 rfl rfl)
theorem dX0_findRests_14 : decode cX0_findRests 14 = .ok (.iload_n 2, 1) := dc_28 (sg_at zd_dX0_findRests_0 10 rfl rfl)
theorem dX0_findRests_15 : decode cX0_findRests 15 = .ok (.iconst 5, 1) := dc_8 (sg_at zd_dX0_findRests_0 11 rfl rfl)
theorem dX0_findRests_16 : decode cX0_findRests 16 = .ok (.if_icmp .ge 51, 3) := dc_162 (sg_at zd_dX0_findRests_0 12 rfl rfl) rfl
theorem dX0_findRests_19 : decode cX0_findRests 19 = .ok (.aload_n 0, 1) := dc_42 (sg_at zd_dX0_findRests_0 13 rfl rfl)
theorem dX0_findRests_20 : decode cX0_findRests 20 = .ok (.iload_n 1, 1) := dc_27 (sg_at zd_dX0_findRests_0 14 rfl rfl)
theorem dX0_findRests_21 : decode cX0_findRests 21 = .ok (.iload_n 2, 1) := dc_28 (sg_at zd_dX0_findRests_0 15 rfl rfl)
theorem dX0_findRests_22 : decode cX0_findRests 22 = .ok (.invokevirtual 101, 3) := dc_182 (sg_at zd_dX0_findRests_0 16 rfl rfl) rfl
theorem dX0_findRests_25 : decode cX0_findRests 25 = .ok (.ifCond .eq 36, 3) := dc_153 (sg_at zd_dX0_findRests_0 17 rfl rfl) rfl
theorem dX0_findRests_28 : decode cX0_findRests 28 = .ok (.aload_n 0, 1) := dc_42 (sg_at zd_dX0_findRests_0 18 rfl rfl)
theorem dX0_findRests_29 : decode cX0_findRests 29 = .ok (.getfield 27, 3) := dc_180 (sg_at zd_dX0_findRests_0 19 rfl rfl) rfl
theorem zd_dX0_findRests_32 : sg (cX0_findRests.data.toList.drop 32) [[42], [180, 0, 98], [16, 10], [178, 0, 84], [27], [46], [104], [178, 0, 84], [28], [46], [96], [79], [42], [89], [180, 0, 98], [4], [96], [181, 0, 98], [132, 2, 1], [167, 255, 206]] = true := by decide +kernel
theorem dX0_findRests_32 : decode cX0_findRests 32 = .ok (.aload_n 0, 1) := dc_42 (sg_at zd_dX0_findRests_32 0 rfl rfl)
theorem dX0_findRests_33 : decode cX0_findRests 33 = .ok (.getfield 98, 3) := dc_180 (sg_at zd_dX0_findRests_32 1 rfl rfl) rfl
theorem dX0_findRests_36 : decode cX0_findRests 36 = .ok (.bipush 10, 2) := dc_16 (sg_at zd_dX0_findRests_32 2 rfl rfl) rfl
theorem dX0_findRests_38 : decode cX0_findRests 38 = .ok (.getstatic 84, 3) := dc_178 (sg_at zd_dX0_findRests_32 3 rfl rfl) rfl
theorem dX0_findRests_41 : decode cX0_findRests 41 = .ok (.iload_n 1, 1) := dc_27 (sg_at zd_dX0_findRests_32 4 rfl rfl)
theorem dX0_findRests_42 : decode cX0_findRests 42 = .ok (.iaload, 1) := dc_46 (sg_at zd_dX0_findRests_32 5 rfl rfl)
theorem dX0_findRests_43 : decode cX0_findRests 43 = .ok (.imul, 1) := dc_104 (sg_at zd_dX0_findRests_32 6 rfl rfl)
theorem dX0_findRests_44 : decode cX0_findRests 44 = .ok (.getstatic 84, 3) := dc_178 (sg_at zd_dX0_findRests_32 7 rfl rfl) rfl
theorem dX0_findRests_47 : decode cX0_findRests 47 = .ok (.iload_n 2, 1) := dc_28 (sg_at zd_dX0_findRests_32 8 rfl rfl)
theorem dX0_findRests_48 : decode cX0_findRests 48 = .ok (.iaload, 1) := dc_46 (sg_at zd_dX0_findRests_32 9 rfl rfl)
theorem dX0_findRests_49 : decode cX0_findRests 49 = .ok (.iadd, 1) := dc_96 (sg_at zd_dX0_findRests_32 10 rfl rfl)
theorem dX0_findRests_50 : decode cX0_findRests 50 = .ok (.iastore, 1) := dc_79 (sg_at zd_dX0_findRests_32 11 rfl rfl)
theorem dX0_findRests_51 : decode cX0_findRests 51 = .ok (.aload_n 0, 1) := dc_42 (sg_at zd_dX0_findRests_32 12 rfl rfl)
theorem dX0_findRests_52 : decode cX0_findRests 52 = .ok (.dup, 1) := dc_89 (sg_at zd_dX0_findRests_32 13 rfl rfl)
theorem dX0_findRests_53 : decode cX0_findRests 53 = .ok (.getfield 98, 3) := dc_180 (sg_at zd_dX0_findRests_32 14 rfl rfl) rfl
theorem dX0_findRests_56 : decode cX0_findRests 56 = .ok (.iconst 1, 1) := dc_4 (sg_at zd_dX0_findRests_32 15 rfl rfl)
theorem dX0_findRests_57 : decode cX0_findRests 57 = .ok (.iadd, 1) := dc_96 (sg_at zd_dX0_findRests_32 16 rfl rfl)
theorem dX0_findRests_58 : decode cX0_findRests 58 = .ok (.putfield 98, 3) := dc_181 (sg_at zd_dX0_findRests_32 17 rfl rfl) rfl
theorem dX0_findRests_61 : decode cX0_findRests 61 = .ok (.iinc 2 1, 3) := dc_132 (sg_at zd_dX0_findRests_32 18 rfl rfl) rfl
theorem dX0_findRests_64 : decode cX0_findRests 64 = .ok (.goto (-50), 3) := dc_167 (sg_at zd_dX0_findRests_32 19 rfl rfl) rfl
theorem zd_dX0_findRests_67 : sg (cX0_findRests.data.toList.drop 67) [[132, 1, 1], [167, 255, 193], [177]] = true := by decide +kernel
theorem dX0_findRests_67 : decode cX0_findRests 67 = .ok (.iinc 1 1, 3) := dc_132 (sg_at zd_dX0_findRests_67 0 rfl rfl) rfl
theorem dX0_findRests_70 : decode cX0_findRests 70 = .ok (.goto (-63), 3) := dc_167 (sg_at zd_dX0_findRests_67 1 rfl rfl) rfl
theorem dX0_findRests_73 : decode cX0_findRests 73 = .ok (.return_, 1) := dc_177 (sg_at zd_dX0_findRests_67 2 rfl rfl)
theorem zd_dX0_listPlan_0 : sg (cX0_listPlan.data.toList.drop 0) [[42], [3], [181, 0, 122], [27], [62], [27], [54, 4], [21, 4], [28], [162, 0, 54], [21, 4], [29], [161, 0, 42], [42], [180, 0, 36], [21, 4], [51], [153, 0, 32], [42], [180, 0, 40]] = true := by decide +kernel
theorem dX0_listPlan_0 : decode cX0_listPlan 0 = .ok (.aload_n 0, 1) := dc_42 (sg_at zd_dX0_listPlan_0 0 rfl rfl)
theorem dX0_listPlan_1 : decode cX0_listPlan 1 = .ok (.iconst 0, 1) := dc_3 (sg_at zd_dX0_listPlan_0 1 rfl rfl)
theorem dX0_listPlan_2 : decode cX0_listPlan 2 = .ok (.putfield 122, 3) := dc_181 (sg_at zd_dX0_listPlan_0 2 rfl rfl) rfl
theorem dX0_listPlan_5 : decode cX0_listPlan 5 = .ok (.iload_n 1, 1) := dc_27 (sg_at zd_dX0_listPlan_0 3 rfl rfl)
theorem dX0_listPlan_6 : decode cX0_listPlan 6 = .ok (.istore_n 3, 1) := dc_62 (sg_at zd_dX0_listPlan_0 4 rfl rfl)
theorem dX0_listPlan_7 : decode cX0_listPlan 7 = .ok (.iload_n 1, 1) := dc_27 (sg_at zd_dX0_listPlan_0 5 rfl rfl)
theorem dX0_listPlan_8 : decode cX0_listPlan 8 = .ok (.istore 4, 2) := dc_54 (sg_at zd_dX0_listPlan_0 6 rfl rfl)
theorem dX0_listPlan_10 : decode cX0_listPlan 10 = .ok (.iload 4, 2) := dc_21 (sg_at zd_dX0_listPlan_0 7 rfl rfl)
theorem dX0_listPlan_12 : decode cX0_listPlan 12 = .ok (.iload_n 2, 1) := dc_28 (sg_at zd_dX0_listPlan_0 8 rfl rfl)
theorem dX0_listPlan_13 : decode cX0_listPlan 13 = .ok (.if_icmp .ge 54, 3) := dc_162 (sg_at zd_dX0_listPlan_0 9 rfl rfl) rfl
theorem dX0_listPlan_16 : decode cX0_listPlan 16 = .ok (.iload 4, 2) := dc_21 (sg_at zd_dX0_listPlan_0 10 rfl rfl)
theorem dX0_listPlan_18 : decode cX0_listPlan 18 = .ok (.iload_n 3, 1) := dc_29 (sg_at zd_dX0_listPlan_0 11 rfl rfl)
theorem dX0_listPlan_19 : decode cX0_listPlan 19 = .ok (.if_icmp .lt 42, 3) := dc_161 (sg_at zd_dX0_listPlan_0 12 rfl rfl) rfl
theorem dX0_listPlan_22 : decode cX0_listPlan 22 = .ok (.aload_n 0, 1) := dc_42 (sg_at zd_dX0_listPlan_0 13 rfl rfl)
theorem dX0_listPlan_23 : decode cX0_listPlan 23 = .ok (.getfield 36, 3) := dc_180 (sg_at zd_dX0_listPlan_0 14 rfl rfl) rfl
theorem dX0_listPlan_26 : decode cX0_listPlan 26 = .ok (.iload 4, 2) := dc_21 (sg_at zd_dX0_listPlan_0 15 rfl rfl)
theorem dX0_listPlan_28 : decode cX0_listPlan 28 = .ok (.baload, 1) := dc_51 (sg_at zd_dX0_listPlan_0 16 rfl rfl)
theorem dX0_listPlan_29 : decode cX0_listPlan 29 = .ok (.ifCond .eq 32, 3) := dc_153 (sg_at zd_dX0_listPlan_0 17 rfl rfl) rfl
theorem dX0_listPlan_32 : decode cX0_listPlan 32 = .ok (.aload_n 0, 1) := dc_42 (sg_at zd_dX0_listPlan_0 18 rfl rfl)
theorem dX0_listPlan_33 : decode cX0_listPlan 33 = .ok (.getfield 40, 3) := dc_180 (sg_at zd_dX0_listPlan_0 19 rfl rfl) rfl
theorem zd_dX0_listPlan_36 : sg (cX0_listPlan.data.toList.drop 36) [[42], [180, 0, 122], [21, 4], [79], [42], [89], [180, 0, 122], [4], [96], [181, 0, 122], [42], [180, 0, 33], [21, 4], [46], [62], [132, 4, 1], [167, 255, 202], [177]] = true := by decide +kernel
theorem dX0_listPlan_36 : decode cX0_listPlan 36 = .ok (.aload_n 0, 1) := dc_42 (sg_at zd_dX0_listPlan_36 0 rfl rfl)
theorem dX0_listPlan_37 : decode cX0_listPlan 37 = .ok (.getfield 122, 3) := dc_180 (sg_at zd_dX0_listPlan_36 1 rfl rfl) rfl
theorem dX0_listPlan_40 : decode cX0_listPlan 40 = .ok (.iload 4, 2) := dc_21 (sg_at zd_dX0_listPlan_36 2 rfl rfl)
theorem dX0_listPlan_42 : decode cX0_listPlan 42 = .ok (.iastore, 1) := dc_79 (sg_at zd_dX0_listPlan_36 3 rfl rfl)
theorem dX0_listPlan_43 : decode cX0_listPlan 43 = .ok (.aload_n 0, 1) := dc_42 (sg_at zd_dX0_listPlan_36 4 rfl rfl)
theorem dX0_listPlan_44 : decode cX0_listPlan 44 = .ok (.dup, 1) := dc_89 (sg_at zd_dX0_listPlan_36 5 rfl rfl)
theorem dX0_listPlan_45 : decode cX0_listPlan 45 = .ok (.getfield 122, 3) := dc_180 (sg_at zd_dX0_listPlan_36 6 rfl rfl) rfl
theorem dX0_listPlan_48 : decode cX0_listPlan 48 = .ok (.iconst 1, 1) := dc_4 (sg_at zd_dX0_listPlan_36 7 rfl rfl)
theorem dX0_listPlan_49 : decode cX0_listPlan 49 = .ok (.iadd, 1) := dc_96 (sg_at zd_dX0_listPlan_36 8 rfl rfl)
theorem dX0_listPlan_50 : decode cX0_listPlan 50 = .ok (.putfield 122, 3) := dc_181 (sg_at zd_dX0_listPlan_36 9 rfl rfl) rfl
theorem dX0_listPlan_53 : decode cX0_listPlan 53 = .ok (.aload_n 0, 1) := dc_42 (sg_at zd_dX0_listPlan_36 10 rfl rfl)
theorem dX0_listPlan_54 : decode cX0_listPlan 54 = .ok (.getfield 33, 3) := dc_180 (sg_at zd_dX0_listPlan_36 11 rfl rfl) rfl
theorem dX0_listPlan_57 : decode cX0_listPlan 57 = .ok (.iload 4, 2) := dc_21 (sg_at zd_dX0_listPlan_36 12 rfl rfl)
theorem dX0_listPlan_59 : decode cX0_listPlan 59 = .ok (.iaload, 1) := dc_46 (sg_at zd_dX0_listPlan_36 13 rfl rfl)
theorem dX0_listPlan_60 : decode cX0_listPlan 60 = .ok (.istore_n 3, 1) := dc_62 (sg_at zd_dX0_listPlan_36 14 rfl rfl)
theorem dX0_listPlan_61 : decode cX0_listPlan 61 = .ok (.iinc 4 1, 3) := dc_132 (sg_at zd_dX0_listPlan_36 15 rfl rfl) rfl
theorem dX0_listPlan_64 : decode cX0_listPlan 64 = .ok (.goto (-54), 3) := dc_167 (sg_at zd_dX0_listPlan_36 16 rfl rfl) rfl
theorem dX0_listPlan_67 : decode cX0_listPlan 67 = .ok (.return_, 1) := dc_177 (sg_at zd_dX0_listPlan_36 17 rfl rfl)
theorem zd_dX10_firstFrom_0 : sg (cX10_firstFrom.data.toList.drop 0) [[3], [61], [28], [42], [180, 0, 34], [162, 0, 21], [42], [180, 0, 18], [28], [46], [27], [161, 0, 5], [28], [172], [132, 2, 1], [167, 255, 233], [42], [180, 0, 34], [172]] = true := by decide +kernel
theorem dX10_firstFrom_0 : decode cX10_firstFrom 0 = .ok (.iconst 0, 1) := dc_3 (sg_at zd_dX10_firstFrom_0 0 rfl rfl)
theorem dX10_firstFrom_1 : decode cX10_firstFrom 1 = .ok (.istore_n 2, 1) := dc_61 (sg_at zd_dX10_firstFrom_0 1 rfl rfl)
theorem dX10_firstFrom_2 : decode cX10_firstFrom 2 = .ok (.iload_n 2, 1) := dc_28 (sg_at zd_dX10_firstFrom_0 2 rfl rfl)
theorem dX10_firstFrom_3 : decode cX10_firstFrom 3 = .ok (.aload_n 0, 1) := dc_42 (sg_at zd_dX10_firstFrom_0 3 rfl rfl)
theorem dX10_firstFrom_4 : decode cX10_firstFrom 4 = .ok (.getfield 34, 3) := dc_180 (sg_at zd_dX10_firstFrom_0 4 rfl rfl) rfl
theorem dX10_firstFrom_7 : decode cX10_firstFrom 7 = .ok (.if_icmp .ge 21, 3) := dc_162 (sg_at zd_dX10_firstFrom_0 5 rfl rfl) rfl
theorem dX10_firstFrom_10 : decode cX10_firstFrom 10 = .ok (.aload_n 0, 1) := dc_42 (sg_at zd_dX10_firstFrom_0 6 rfl rfl)
theorem dX10_firstFrom_11 : decode cX10_firstFrom 11 = .ok (.getfield 18, 3) := dc_180 (sg_at zd_dX10_firstFrom_0 7 rfl rfl) rfl
theorem dX10_firstFrom_14 : decode cX10_firstFrom 14 = .ok (.iload_n 2, 1) := dc_28 (sg_at zd_dX10_firstFrom_0 8 rfl rfl)
theorem dX10_firstFrom_15 : decode cX10_firstFrom 15 = .ok (.iaload, 1) := dc_46 (sg_at zd_dX10_firstFrom_0 9 rfl rfl)
theorem dX10_firstFrom_16 : decode cX10_firstFrom 16 = .ok (.iload_n 1, 1) := dc_27 (sg_at zd_dX10_firstFrom_0 10 rfl rfl)
theorem dX10_firstFrom_17 : decode cX10_firstFrom 17 = .ok (.if_icmp .lt 5, 3) := dc_161 (sg_at zd_dX10_firstFrom_0 11 rfl rfl) rfl
theorem dX10_firstFrom_20 : decode cX10_firstFrom 20 = .ok (.iload_n 2, 1) := dc_28 (sg_at zd_dX10_firstFrom_0 12 rfl rfl)
theorem dX10_firstFrom_21 : decode cX10_firstFrom 21 = .ok (.ireturn, 1) := dc_172 (sg_at zd_dX10_firstFrom_0 13 rfl rfl)
theorem dX10_firstFrom_22 : decode cX10_firstFrom 22 = .ok (.iinc 2 1, 3) := dc_132 (sg_at zd_dX10_firstFrom_0 14 rfl rfl) rfl
theorem dX10_firstFrom_25 : decode cX10_firstFrom 25 = .ok (.goto (-23), 3) := dc_167 (sg_at zd_dX10_firstFrom_0 15 rfl rfl) rfl
theorem dX10_firstFrom_28 : decode cX10_firstFrom 28 = .ok (.aload_n 0, 1) := dc_42 (sg_at zd_dX10_firstFrom_0 16 rfl rfl)
theorem dX10_firstFrom_29 : decode cX10_firstFrom 29 = .ok (.getfield 34, 3) := dc_180 (sg_at zd_dX10_firstFrom_0 17 rfl rfl) rfl
theorem dX10_firstFrom_32 : decode cX10_firstFrom 32 = .ok (.ireturn, 1) := dc_172 (sg_at zd_dX10_firstFrom_0 18 rfl rfl)
theorem zd_dX6_nameAway_0 : sg (cX6_nameAway.data.toList.drop 0) [[42], [180, 0, 25], [3], [9], [80], [42], [180, 0, 25], [4], [9], [80], [42], [180, 0, 25], [5], [42], [180, 0, 15], [27], [46], [133], [80], [42]] = true := by decide +kernel
theorem dX6_nameAway_0 : decode cX6_nameAway 0 = .ok (.aload_n 0, 1) := dc_42 (sg_at zd_dX6_nameAway_0 0 rfl rfl)
theorem dX6_nameAway_1 : decode cX6_nameAway 1 = .ok (.getfield 25, 3) := dc_180 (sg_at zd_dX6_nameAway_0 1 rfl rfl) rfl
theorem dX6_nameAway_4 : decode cX6_nameAway 4 = .ok (.iconst 0, 1) := dc_3 (sg_at zd_dX6_nameAway_0 2 rfl rfl)
theorem dX6_nameAway_5 : decode cX6_nameAway 5 = .ok (.lconst 0, 1) := dc_9 (sg_at zd_dX6_nameAway_0 3 rfl rfl)
theorem dX6_nameAway_6 : decode cX6_nameAway 6 = .ok (.lastore, 1) := dc_80 (sg_at zd_dX6_nameAway_0 4 rfl rfl)
theorem dX6_nameAway_7 : decode cX6_nameAway 7 = .ok (.aload_n 0, 1) := dc_42 (sg_at zd_dX6_nameAway_0 5 rfl rfl)
theorem dX6_nameAway_8 : decode cX6_nameAway 8 = .ok (.getfield 25, 3) := dc_180 (sg_at zd_dX6_nameAway_0 6 rfl rfl) rfl
theorem dX6_nameAway_11 : decode cX6_nameAway 11 = .ok (.iconst 1, 1) := dc_4 (sg_at zd_dX6_nameAway_0 7 rfl rfl)
theorem dX6_nameAway_12 : decode cX6_nameAway 12 = .ok (.lconst 0, 1) := dc_9 (sg_at zd_dX6_nameAway_0 8 rfl rfl)
theorem dX6_nameAway_13 : decode cX6_nameAway 13 = .ok (.lastore, 1) := dc_80 (sg_at zd_dX6_nameAway_0 9 rfl rfl)
theorem dX6_nameAway_14 : decode cX6_nameAway 14 = .ok (.aload_n 0, 1) := dc_42 (sg_at zd_dX6_nameAway_0 10 rfl rfl)
theorem dX6_nameAway_15 : decode cX6_nameAway 15 = .ok (.getfield 25, 3) := dc_180 (sg_at zd_dX6_nameAway_0 11 rfl rfl) rfl
theorem dX6_nameAway_18 : decode cX6_nameAway 18 = .ok (.iconst 2, 1) := dc_5 (sg_at zd_dX6_nameAway_0 12 rfl rfl)
theorem dX6_nameAway_19 : decode cX6_nameAway 19 = .ok (.aload_n 0, 1) := dc_42 (sg_at zd_dX6_nameAway_0 13 rfl rfl)
theorem dX6_nameAway_20 : decode cX6_nameAway 20 = .ok (.getfield 15, 3) := dc_180 (sg_at zd_dX6_nameAway_0 14 rfl rfl) rfl
theorem dX6_nameAway_23 : decode cX6_nameAway 23 = .ok (.iload_n 1, 1) := dc_27 (sg_at zd_dX6_nameAway_0 15 rfl rfl)
theorem dX6_nameAway_24 : decode cX6_nameAway 24 = .ok (.iaload, 1) := dc_46 (sg_at zd_dX6_nameAway_0 16 rfl rfl)
theorem dX6_nameAway_25 : decode cX6_nameAway 25 = .ok (.i2l, 1) := dc_133 (sg_at zd_dX6_nameAway_0 17 rfl rfl)
theorem dX6_nameAway_26 : decode cX6_nameAway 26 = .ok (.lastore, 1) := dc_80 (sg_at zd_dX6_nameAway_0 18 rfl rfl)
theorem dX6_nameAway_27 : decode cX6_nameAway 27 = .ok (.aload_n 0, 1) := dc_42 (sg_at zd_dX6_nameAway_0 19 rfl rfl)
theorem zd_dX6_nameAway_28 : sg (cX6_nameAway.data.toList.drop 28) [[180, 0, 25], [6], [42], [180, 0, 9], [180, 0, 57], [180, 0, 112], [28], [46], [133], [80], [42], [180, 0, 25], [7], [42], [180, 0, 9], [180, 0, 57], [180, 0, 67], [28], [46], [133]] = true := by decide +kernel
theorem dX6_nameAway_28 : decode cX6_nameAway 28 = .ok (.getfield 25, 3) := dc_180 (sg_at zd_dX6_nameAway_28 0 rfl rfl) rfl
theorem dX6_nameAway_31 : decode cX6_nameAway 31 = .ok (.iconst 3, 1) := dc_6 (sg_at zd_dX6_nameAway_28 1 rfl rfl)
theorem dX6_nameAway_32 : decode cX6_nameAway 32 = .ok (.aload_n 0, 1) := dc_42 (sg_at zd_dX6_nameAway_28 2 rfl rfl)
theorem dX6_nameAway_33 : decode cX6_nameAway 33 = .ok (.getfield 9, 3) := dc_180 (sg_at zd_dX6_nameAway_28 3 rfl rfl) rfl
theorem dX6_nameAway_36 : decode cX6_nameAway 36 = .ok (.getfield 57, 3) := dc_180 (sg_at zd_dX6_nameAway_28 4 rfl rfl) rfl
theorem dX6_nameAway_39 : decode cX6_nameAway 39 = .ok (.getfield 112, 3) := dc_180 (sg_at zd_dX6_nameAway_28 5 rfl rfl) rfl
theorem dX6_nameAway_42 : decode cX6_nameAway 42 = .ok (.iload_n 2, 1) := dc_28 (sg_at zd_dX6_nameAway_28 6 rfl rfl)
theorem dX6_nameAway_43 : decode cX6_nameAway 43 = .ok (.iaload, 1) := dc_46 (sg_at zd_dX6_nameAway_28 7 rfl rfl)
theorem dX6_nameAway_44 : decode cX6_nameAway 44 = .ok (.i2l, 1) := dc_133 (sg_at zd_dX6_nameAway_28 8 rfl rfl)
theorem dX6_nameAway_45 : decode cX6_nameAway 45 = .ok (.lastore, 1) := dc_80 (sg_at zd_dX6_nameAway_28 9 rfl rfl)
theorem dX6_nameAway_46 : decode cX6_nameAway 46 = .ok (.aload_n 0, 1) := dc_42 (sg_at zd_dX6_nameAway_28 10 rfl rfl)
theorem dX6_nameAway_47 : decode cX6_nameAway 47 = .ok (.getfield 25, 3) := dc_180 (sg_at zd_dX6_nameAway_28 11 rfl rfl) rfl
theorem dX6_nameAway_50 : decode cX6_nameAway 50 = .ok (.iconst 4, 1) := dc_7 (sg_at zd_dX6_nameAway_28 12 rfl rfl)
theorem dX6_nameAway_51 : decode cX6_nameAway 51 = .ok (.aload_n 0, 1) := dc_42 (sg_at zd_dX6_nameAway_28 13 rfl rfl)
theorem dX6_nameAway_52 : decode cX6_nameAway 52 = .ok (.getfield 9, 3) := dc_180 (sg_at zd_dX6_nameAway_28 14 rfl rfl) rfl
theorem dX6_nameAway_55 : decode cX6_nameAway 55 = .ok (.getfield 57, 3) := dc_180 (sg_at zd_dX6_nameAway_28 15 rfl rfl) rfl
theorem dX6_nameAway_58 : decode cX6_nameAway 58 = .ok (.getfield 67, 3) := dc_180 (sg_at zd_dX6_nameAway_28 16 rfl rfl) rfl
theorem dX6_nameAway_61 : decode cX6_nameAway 61 = .ok (.iload_n 2, 1) := dc_28 (sg_at zd_dX6_nameAway_28 17 rfl rfl)
theorem dX6_nameAway_62 : decode cX6_nameAway 62 = .ok (.iaload, 1) := dc_46 (sg_at zd_dX6_nameAway_28 18 rfl rfl)
theorem dX6_nameAway_63 : decode cX6_nameAway 63 = .ok (.i2l, 1) := dc_133 (sg_at zd_dX6_nameAway_28 19 rfl rfl)
theorem zd_dX6_nameAway_64 : sg (cX6_nameAway.data.toList.drop 64) [[80], [42], [180, 0, 25], [8], [42], [180, 0, 9], [180, 0, 57], [180, 0, 115], [28], [46], [133], [80], [177]] = true := by decide +kernel
theorem dX6_nameAway_64 : decode cX6_nameAway 64 = .ok (.lastore, 1) := dc_80 (sg_at zd_dX6_nameAway_64 0 rfl rfl)
theorem dX6_nameAway_65 : decode cX6_nameAway 65 = .ok (.aload_n 0, 1) := dc_42 (sg_at zd_dX6_nameAway_64 1 rfl rfl)
theorem dX6_nameAway_66 : decode cX6_nameAway 66 = .ok (.getfield 25, 3) := dc_180 (sg_at zd_dX6_nameAway_64 2 rfl rfl) rfl
theorem dX6_nameAway_69 : decode cX6_nameAway 69 = .ok (.iconst 5, 1) := dc_8 (sg_at zd_dX6_nameAway_64 3 rfl rfl)
theorem dX6_nameAway_70 : decode cX6_nameAway 70 = .ok (.aload_n 0, 1) := dc_42 (sg_at zd_dX6_nameAway_64 4 rfl rfl)
theorem dX6_nameAway_71 : decode cX6_nameAway 71 = .ok (.getfield 9, 3) := dc_180 (sg_at zd_dX6_nameAway_64 5 rfl rfl) rfl
theorem dX6_nameAway_74 : decode cX6_nameAway 74 = .ok (.getfield 57, 3) := dc_180 (sg_at zd_dX6_nameAway_64 6 rfl rfl) rfl
theorem dX6_nameAway_77 : decode cX6_nameAway 77 = .ok (.getfield 115, 3) := dc_180 (sg_at zd_dX6_nameAway_64 7 rfl rfl) rfl
theorem dX6_nameAway_80 : decode cX6_nameAway 80 = .ok (.iload_n 2, 1) := dc_28 (sg_at zd_dX6_nameAway_64 8 rfl rfl)
theorem dX6_nameAway_81 : decode cX6_nameAway 81 = .ok (.iaload, 1) := dc_46 (sg_at zd_dX6_nameAway_64 9 rfl rfl)
theorem dX6_nameAway_82 : decode cX6_nameAway 82 = .ok (.i2l, 1) := dc_133 (sg_at zd_dX6_nameAway_64 10 rfl rfl)
theorem dX6_nameAway_83 : decode cX6_nameAway 83 = .ok (.lastore, 1) := dc_80 (sg_at zd_dX6_nameAway_64 11 rfl rfl)
theorem dX6_nameAway_84 : decode cX6_nameAway 84 = .ok (.return_, 1) := dc_177 (sg_at zd_dX6_nameAway_64 12 rfl rfl)
theorem zd_dX2_oneIf_0 : sg (cX2_oneIf.data.toList.drop 0) [[26], [153, 0, 7], [10], [167, 0, 4], [9], [173]] = true := by decide +kernel
theorem dX2_oneIf_0 : decode cX2_oneIf 0 = .ok (.iload_n 0, 1) := dc_26 (sg_at zd_dX2_oneIf_0 0 rfl rfl)
theorem dX2_oneIf_1 : decode cX2_oneIf 1 = .ok (.ifCond .eq 7, 3) := dc_153 (sg_at zd_dX2_oneIf_0 1 rfl rfl) rfl
theorem dX2_oneIf_4 : decode cX2_oneIf 4 = .ok (.lconst 1, 1) := dc_10 (sg_at zd_dX2_oneIf_0 2 rfl rfl)
theorem dX2_oneIf_5 : decode cX2_oneIf 5 = .ok (.goto 4, 3) := dc_167 (sg_at zd_dX2_oneIf_0 3 rfl rfl) rfl
theorem dX2_oneIf_8 : decode cX2_oneIf 8 = .ok (.lconst 0, 1) := dc_9 (sg_at zd_dX2_oneIf_0 4 rfl rfl)
theorem dX2_oneIf_9 : decode cX2_oneIf 9 = .ok (.lreturn, 1) := dc_173 (sg_at zd_dX2_oneIf_0 5 rfl rfl)
theorem zd_dX2_product_0 : sg (cX2_product.data.toList.drop 0) [[30], [9], [148], [156, 0, 8], [30], [117], [167, 0, 4], [30], [55, 4], [32], [9], [148], [156, 0, 8], [32], [117], [167, 0, 4], [32], [55, 6], [22, 6], [9]] = true := by decide +kernel
theorem dX2_product_0 : decode cX2_product 0 = .ok (.lload_n 0, 1) := dc_30 (sg_at zd_dX2_product_0 0 rfl rfl)
theorem dX2_product_1 : decode cX2_product 1 = .ok (.lconst 0, 1) := dc_9 (sg_at zd_dX2_product_0 1 rfl rfl)
theorem dX2_product_2 : decode cX2_product 2 = .ok (.lcmp, 1) := dc_148 (sg_at zd_dX2_product_0 2 rfl rfl)
theorem dX2_product_3 : decode cX2_product 3 = .ok (.ifCond .ge 8, 3) := dc_156 (sg_at zd_dX2_product_0 3 rfl rfl) rfl
theorem dX2_product_6 : decode cX2_product 6 = .ok (.lload_n 0, 1) := dc_30 (sg_at zd_dX2_product_0 4 rfl rfl)
theorem dX2_product_7 : decode cX2_product 7 = .ok (.lneg, 1) := dc_117 (sg_at zd_dX2_product_0 5 rfl rfl)
theorem dX2_product_8 : decode cX2_product 8 = .ok (.goto 4, 3) := dc_167 (sg_at zd_dX2_product_0 6 rfl rfl) rfl
theorem dX2_product_11 : decode cX2_product 11 = .ok (.lload_n 0, 1) := dc_30 (sg_at zd_dX2_product_0 7 rfl rfl)
theorem dX2_product_12 : decode cX2_product 12 = .ok (.lstore 4, 2) := dc_55 (sg_at zd_dX2_product_0 8 rfl rfl)
theorem dX2_product_14 : decode cX2_product 14 = .ok (.lload_n 2, 1) := dc_32 (sg_at zd_dX2_product_0 9 rfl rfl)
theorem dX2_product_15 : decode cX2_product 15 = .ok (.lconst 0, 1) := dc_9 (sg_at zd_dX2_product_0 10 rfl rfl)
theorem dX2_product_16 : decode cX2_product 16 = .ok (.lcmp, 1) := dc_148 (sg_at zd_dX2_product_0 11 rfl rfl)
theorem dX2_product_17 : decode cX2_product 17 = .ok (.ifCond .ge 8, 3) := dc_156 (sg_at zd_dX2_product_0 12 rfl rfl) rfl
theorem dX2_product_20 : decode cX2_product 20 = .ok (.lload_n 2, 1) := dc_32 (sg_at zd_dX2_product_0 13 rfl rfl)
theorem dX2_product_21 : decode cX2_product 21 = .ok (.lneg, 1) := dc_117 (sg_at zd_dX2_product_0 14 rfl rfl)
theorem dX2_product_22 : decode cX2_product 22 = .ok (.goto 4, 3) := dc_167 (sg_at zd_dX2_product_0 15 rfl rfl) rfl
theorem dX2_product_25 : decode cX2_product 25 = .ok (.lload_n 2, 1) := dc_32 (sg_at zd_dX2_product_0 16 rfl rfl)
theorem dX2_product_26 : decode cX2_product 26 = .ok (.lstore 6, 2) := dc_55 (sg_at zd_dX2_product_0 17 rfl rfl)
theorem dX2_product_28 : decode cX2_product 28 = .ok (.lload 6, 2) := dc_22 (sg_at zd_dX2_product_0 18 rfl rfl)
theorem dX2_product_30 : decode cX2_product 30 = .ok (.lconst 0, 1) := dc_9 (sg_at zd_dX2_product_0 19 rfl rfl)
theorem zd_dX2_product_31 : sg (cX2_product.data.toList.drop 31) [[148], [158, 0, 19], [22, 4], [20, 0, 27], [22, 6], [109], [148], [158, 0, 7], [20, 0, 31], [173], [30], [32], [105], [173]] = true := by decide +kernel
theorem dX2_product_31 : decode cX2_product 31 = .ok (.lcmp, 1) := dc_148 (sg_at zd_dX2_product_31 0 rfl rfl)
theorem dX2_product_32 : decode cX2_product 32 = .ok (.ifCond .le 19, 3) := dc_158 (sg_at zd_dX2_product_31 1 rfl rfl) rfl
theorem dX2_product_35 : decode cX2_product 35 = .ok (.lload 4, 2) := dc_22 (sg_at zd_dX2_product_31 2 rfl rfl)
theorem dX2_product_37 : decode cX2_product 37 = .ok (.ldc2_w 27, 3) := dc_20 (sg_at zd_dX2_product_31 3 rfl rfl) rfl
theorem dX2_product_40 : decode cX2_product 40 = .ok (.lload 6, 2) := dc_22 (sg_at zd_dX2_product_31 4 rfl rfl)
theorem dX2_product_42 : decode cX2_product 42 = .ok (.ldiv, 1) := dc_109 (sg_at zd_dX2_product_31 5 rfl rfl)
theorem dX2_product_43 : decode cX2_product 43 = .ok (.lcmp, 1) := dc_148 (sg_at zd_dX2_product_31 6 rfl rfl)
theorem dX2_product_44 : decode cX2_product 44 = .ok (.ifCond .le 7, 3) := dc_158 (sg_at zd_dX2_product_31 7 rfl rfl) rfl
theorem dX2_product_47 : decode cX2_product 47 = .ok (.ldc2_w 31, 3) := dc_20 (sg_at zd_dX2_product_31 8 rfl rfl) rfl
theorem dX2_product_50 : decode cX2_product 50 = .ok (.lreturn, 1) := dc_173 (sg_at zd_dX2_product_31 9 rfl rfl)
theorem dX2_product_51 : decode cX2_product 51 = .ok (.lload_n 0, 1) := dc_30 (sg_at zd_dX2_product_31 10 rfl rfl)
theorem dX2_product_52 : decode cX2_product 52 = .ok (.lload_n 2, 1) := dc_32 (sg_at zd_dX2_product_31 11 rfl rfl)
theorem dX2_product_53 : decode cX2_product 53 = .ok (.lmul, 1) := dc_105 (sg_at zd_dX2_product_31 12 rfl rfl)
theorem dX2_product_54 : decode cX2_product 54 = .ok (.lreturn, 1) := dc_173 (sg_at zd_dX2_product_31 13 rfl rfl)
theorem zd_dX2_join_0 : sg (cX2_join.data.toList.drop 0) [[26]] = true := by decide +kernel
theorem dX2_join_0 : decode cX2_join 0 = .ok (.iload_n 0, 1) := dc_26 (sg_at zd_dX2_join_0 0 rfl rfl)
theorem dX2_join_1 : decode cX2_join 1 = .ok (.tableswitch 257 16 35 #[116, 95, 257, 257, 257, 257, 257, 257, 257, 257, 137, 152, 167, 182, 197, 212, 227, 231, 235, 241], 95) := by decide +kernel
theorem zd_dX2_join_96 : sg (cX2_join.data.toList.drop 96) [[31], [9], [148], [154, 0, 9], [33], [9], [148], [153, 0, 7], [4], [167, 0, 4], [3], [184, 0, 33], [173], [31], [9], [148], [153, 0, 13], [33], [9], [148]] = true := by decide +kernel
theorem dX2_join_96 : decode cX2_join 96 = .ok (.lload_n 1, 1) := dc_31 (sg_at zd_dX2_join_96 0 rfl rfl)
theorem dX2_join_97 : decode cX2_join 97 = .ok (.lconst 0, 1) := dc_9 (sg_at zd_dX2_join_96 1 rfl rfl)
theorem dX2_join_98 : decode cX2_join 98 = .ok (.lcmp, 1) := dc_148 (sg_at zd_dX2_join_96 2 rfl rfl)
theorem dX2_join_99 : decode cX2_join 99 = .ok (.ifCond .ne 9, 3) := dc_154 (sg_at zd_dX2_join_96 3 rfl rfl) rfl
theorem dX2_join_102 : decode cX2_join 102 = .ok (.lload_n 3, 1) := dc_33 (sg_at zd_dX2_join_96 4 rfl rfl)
theorem dX2_join_103 : decode cX2_join 103 = .ok (.lconst 0, 1) := dc_9 (sg_at zd_dX2_join_96 5 rfl rfl)
theorem dX2_join_104 : decode cX2_join 104 = .ok (.lcmp, 1) := dc_148 (sg_at zd_dX2_join_96 6 rfl rfl)
theorem dX2_join_105 : decode cX2_join 105 = .ok (.ifCond .eq 7, 3) := dc_153 (sg_at zd_dX2_join_96 7 rfl rfl) rfl
theorem dX2_join_108 : decode cX2_join 108 = .ok (.iconst 1, 1) := dc_4 (sg_at zd_dX2_join_96 8 rfl rfl)
theorem dX2_join_109 : decode cX2_join 109 = .ok (.goto 4, 3) := dc_167 (sg_at zd_dX2_join_96 9 rfl rfl) rfl
theorem dX2_join_112 : decode cX2_join 112 = .ok (.iconst 0, 1) := dc_3 (sg_at zd_dX2_join_96 10 rfl rfl)
theorem dX2_join_113 : decode cX2_join 113 = .ok (.invokestatic 33, 3) := dc_184 (sg_at zd_dX2_join_96 11 rfl rfl) rfl
theorem dX2_join_116 : decode cX2_join 116 = .ok (.lreturn, 1) := dc_173 (sg_at zd_dX2_join_96 12 rfl rfl)
theorem dX2_join_117 : decode cX2_join 117 = .ok (.lload_n 1, 1) := dc_31 (sg_at zd_dX2_join_96 13 rfl rfl)
theorem dX2_join_118 : decode cX2_join 118 = .ok (.lconst 0, 1) := dc_9 (sg_at zd_dX2_join_96 14 rfl rfl)
theorem dX2_join_119 : decode cX2_join 119 = .ok (.lcmp, 1) := dc_148 (sg_at zd_dX2_join_96 15 rfl rfl)
theorem dX2_join_120 : decode cX2_join 120 = .ok (.ifCond .eq 13, 3) := dc_153 (sg_at zd_dX2_join_96 16 rfl rfl) rfl
theorem dX2_join_123 : decode cX2_join 123 = .ok (.lload_n 3, 1) := dc_33 (sg_at zd_dX2_join_96 17 rfl rfl)
theorem dX2_join_124 : decode cX2_join 124 = .ok (.lconst 0, 1) := dc_9 (sg_at zd_dX2_join_96 18 rfl rfl)
theorem dX2_join_125 : decode cX2_join 125 = .ok (.lcmp, 1) := dc_148 (sg_at zd_dX2_join_96 19 rfl rfl)
theorem zd_dX2_join_126 : sg (cX2_join.data.toList.drop 126) [[153, 0, 7], [4], [167, 0, 4], [3], [184, 0, 33], [173], [31], [33], [148], [156, 0, 7], [4], [167, 0, 4], [3], [184, 0, 33], [173], [31], [33], [148], [157, 0, 7], [4]] = true := by decide +kernel
theorem dX2_join_126 : decode cX2_join 126 = .ok (.ifCond .eq 7, 3) := dc_153 (sg_at zd_dX2_join_126 0 rfl rfl) rfl
theorem dX2_join_129 : decode cX2_join 129 = .ok (.iconst 1, 1) := dc_4 (sg_at zd_dX2_join_126 1 rfl rfl)
theorem dX2_join_130 : decode cX2_join 130 = .ok (.goto 4, 3) := dc_167 (sg_at zd_dX2_join_126 2 rfl rfl) rfl
theorem dX2_join_133 : decode cX2_join 133 = .ok (.iconst 0, 1) := dc_3 (sg_at zd_dX2_join_126 3 rfl rfl)
theorem dX2_join_134 : decode cX2_join 134 = .ok (.invokestatic 33, 3) := dc_184 (sg_at zd_dX2_join_126 4 rfl rfl) rfl
theorem dX2_join_137 : decode cX2_join 137 = .ok (.lreturn, 1) := dc_173 (sg_at zd_dX2_join_126 5 rfl rfl)
theorem dX2_join_138 : decode cX2_join 138 = .ok (.lload_n 1, 1) := dc_31 (sg_at zd_dX2_join_126 6 rfl rfl)
theorem dX2_join_139 : decode cX2_join 139 = .ok (.lload_n 3, 1) := dc_33 (sg_at zd_dX2_join_126 7 rfl rfl)
theorem dX2_join_140 : decode cX2_join 140 = .ok (.lcmp, 1) := dc_148 (sg_at zd_dX2_join_126 8 rfl rfl)
theorem dX2_join_141 : decode cX2_join 141 = .ok (.ifCond .ge 7, 3) := dc_156 (sg_at zd_dX2_join_126 9 rfl rfl) rfl
theorem dX2_join_144 : decode cX2_join 144 = .ok (.iconst 1, 1) := dc_4 (sg_at zd_dX2_join_126 10 rfl rfl)
theorem dX2_join_145 : decode cX2_join 145 = .ok (.goto 4, 3) := dc_167 (sg_at zd_dX2_join_126 11 rfl rfl) rfl
theorem dX2_join_148 : decode cX2_join 148 = .ok (.iconst 0, 1) := dc_3 (sg_at zd_dX2_join_126 12 rfl rfl)
theorem dX2_join_149 : decode cX2_join 149 = .ok (.invokestatic 33, 3) := dc_184 (sg_at zd_dX2_join_126 13 rfl rfl) rfl
theorem dX2_join_152 : decode cX2_join 152 = .ok (.lreturn, 1) := dc_173 (sg_at zd_dX2_join_126 14 rfl rfl)
theorem dX2_join_153 : decode cX2_join 153 = .ok (.lload_n 1, 1) := dc_31 (sg_at zd_dX2_join_126 15 rfl rfl)
theorem dX2_join_154 : decode cX2_join 154 = .ok (.lload_n 3, 1) := dc_33 (sg_at zd_dX2_join_126 16 rfl rfl)
theorem dX2_join_155 : decode cX2_join 155 = .ok (.lcmp, 1) := dc_148 (sg_at zd_dX2_join_126 17 rfl rfl)
theorem dX2_join_156 : decode cX2_join 156 = .ok (.ifCond .gt 7, 3) := dc_157 (sg_at zd_dX2_join_126 18 rfl rfl) rfl
theorem dX2_join_159 : decode cX2_join 159 = .ok (.iconst 1, 1) := dc_4 (sg_at zd_dX2_join_126 19 rfl rfl)
theorem zd_dX2_join_160 : sg (cX2_join.data.toList.drop 160) [[167, 0, 4], [3], [184, 0, 33], [173], [31], [33], [148], [154, 0, 7], [4], [167, 0, 4], [3], [184, 0, 33], [173], [31], [33], [148], [153, 0, 7], [4], [167, 0, 4], [3]] = true := by decide +kernel
theorem dX2_join_160 : decode cX2_join 160 = .ok (.goto 4, 3) := dc_167 (sg_at zd_dX2_join_160 0 rfl rfl) rfl
theorem dX2_join_163 : decode cX2_join 163 = .ok (.iconst 0, 1) := dc_3 (sg_at zd_dX2_join_160 1 rfl rfl)
theorem dX2_join_164 : decode cX2_join 164 = .ok (.invokestatic 33, 3) := dc_184 (sg_at zd_dX2_join_160 2 rfl rfl) rfl
theorem dX2_join_167 : decode cX2_join 167 = .ok (.lreturn, 1) := dc_173 (sg_at zd_dX2_join_160 3 rfl rfl)
theorem dX2_join_168 : decode cX2_join 168 = .ok (.lload_n 1, 1) := dc_31 (sg_at zd_dX2_join_160 4 rfl rfl)
theorem dX2_join_169 : decode cX2_join 169 = .ok (.lload_n 3, 1) := dc_33 (sg_at zd_dX2_join_160 5 rfl rfl)
theorem dX2_join_170 : decode cX2_join 170 = .ok (.lcmp, 1) := dc_148 (sg_at zd_dX2_join_160 6 rfl rfl)
theorem dX2_join_171 : decode cX2_join 171 = .ok (.ifCond .ne 7, 3) := dc_154 (sg_at zd_dX2_join_160 7 rfl rfl) rfl
theorem dX2_join_174 : decode cX2_join 174 = .ok (.iconst 1, 1) := dc_4 (sg_at zd_dX2_join_160 8 rfl rfl)
theorem dX2_join_175 : decode cX2_join 175 = .ok (.goto 4, 3) := dc_167 (sg_at zd_dX2_join_160 9 rfl rfl) rfl
theorem dX2_join_178 : decode cX2_join 178 = .ok (.iconst 0, 1) := dc_3 (sg_at zd_dX2_join_160 10 rfl rfl)
theorem dX2_join_179 : decode cX2_join 179 = .ok (.invokestatic 33, 3) := dc_184 (sg_at zd_dX2_join_160 11 rfl rfl) rfl
theorem dX2_join_182 : decode cX2_join 182 = .ok (.lreturn, 1) := dc_173 (sg_at zd_dX2_join_160 12 rfl rfl)
theorem dX2_join_183 : decode cX2_join 183 = .ok (.lload_n 1, 1) := dc_31 (sg_at zd_dX2_join_160 13 rfl rfl)
theorem dX2_join_184 : decode cX2_join 184 = .ok (.lload_n 3, 1) := dc_33 (sg_at zd_dX2_join_160 14 rfl rfl)
theorem dX2_join_185 : decode cX2_join 185 = .ok (.lcmp, 1) := dc_148 (sg_at zd_dX2_join_160 15 rfl rfl)
theorem dX2_join_186 : decode cX2_join 186 = .ok (.ifCond .eq 7, 3) := dc_153 (sg_at zd_dX2_join_160 16 rfl rfl) rfl
theorem dX2_join_189 : decode cX2_join 189 = .ok (.iconst 1, 1) := dc_4 (sg_at zd_dX2_join_160 17 rfl rfl)
theorem dX2_join_190 : decode cX2_join 190 = .ok (.goto 4, 3) := dc_167 (sg_at zd_dX2_join_160 18 rfl rfl) rfl
theorem dX2_join_193 : decode cX2_join 193 = .ok (.iconst 0, 1) := dc_3 (sg_at zd_dX2_join_160 19 rfl rfl)
theorem zd_dX2_join_194 : sg (cX2_join.data.toList.drop 194) [[184, 0, 33], [173], [31], [33], [148], [155, 0, 7], [4], [167, 0, 4], [3], [184, 0, 33], [173], [31], [33], [148], [158, 0, 7], [4], [167, 0, 4], [3], [184, 0, 33], [173]] = true := by decide +kernel
theorem dX2_join_194 : decode cX2_join 194 = .ok (.invokestatic 33, 3) := dc_184 (sg_at zd_dX2_join_194 0 rfl rfl) rfl
theorem dX2_join_197 : decode cX2_join 197 = .ok (.lreturn, 1) := dc_173 (sg_at zd_dX2_join_194 1 rfl rfl)
theorem dX2_join_198 : decode cX2_join 198 = .ok (.lload_n 1, 1) := dc_31 (sg_at zd_dX2_join_194 2 rfl rfl)
theorem dX2_join_199 : decode cX2_join 199 = .ok (.lload_n 3, 1) := dc_33 (sg_at zd_dX2_join_194 3 rfl rfl)
theorem dX2_join_200 : decode cX2_join 200 = .ok (.lcmp, 1) := dc_148 (sg_at zd_dX2_join_194 4 rfl rfl)
theorem dX2_join_201 : decode cX2_join 201 = .ok (.ifCond .lt 7, 3) := dc_155 (sg_at zd_dX2_join_194 5 rfl rfl) rfl
theorem dX2_join_204 : decode cX2_join 204 = .ok (.iconst 1, 1) := dc_4 (sg_at zd_dX2_join_194 6 rfl rfl)
theorem dX2_join_205 : decode cX2_join 205 = .ok (.goto 4, 3) := dc_167 (sg_at zd_dX2_join_194 7 rfl rfl) rfl
theorem dX2_join_208 : decode cX2_join 208 = .ok (.iconst 0, 1) := dc_3 (sg_at zd_dX2_join_194 8 rfl rfl)
theorem dX2_join_209 : decode cX2_join 209 = .ok (.invokestatic 33, 3) := dc_184 (sg_at zd_dX2_join_194 9 rfl rfl) rfl
theorem dX2_join_212 : decode cX2_join 212 = .ok (.lreturn, 1) := dc_173 (sg_at zd_dX2_join_194 10 rfl rfl)
theorem dX2_join_213 : decode cX2_join 213 = .ok (.lload_n 1, 1) := dc_31 (sg_at zd_dX2_join_194 11 rfl rfl)
theorem dX2_join_214 : decode cX2_join 214 = .ok (.lload_n 3, 1) := dc_33 (sg_at zd_dX2_join_194 12 rfl rfl)
theorem dX2_join_215 : decode cX2_join 215 = .ok (.lcmp, 1) := dc_148 (sg_at zd_dX2_join_194 13 rfl rfl)
theorem dX2_join_216 : decode cX2_join 216 = .ok (.ifCond .le 7, 3) := dc_158 (sg_at zd_dX2_join_194 14 rfl rfl) rfl
theorem dX2_join_219 : decode cX2_join 219 = .ok (.iconst 1, 1) := dc_4 (sg_at zd_dX2_join_194 15 rfl rfl)
theorem dX2_join_220 : decode cX2_join 220 = .ok (.goto 4, 3) := dc_167 (sg_at zd_dX2_join_194 16 rfl rfl) rfl
theorem dX2_join_223 : decode cX2_join 223 = .ok (.iconst 0, 1) := dc_3 (sg_at zd_dX2_join_194 17 rfl rfl)
theorem dX2_join_224 : decode cX2_join 224 = .ok (.invokestatic 33, 3) := dc_184 (sg_at zd_dX2_join_194 18 rfl rfl) rfl
theorem dX2_join_227 : decode cX2_join 227 = .ok (.lreturn, 1) := dc_173 (sg_at zd_dX2_join_194 19 rfl rfl)
theorem zd_dX2_join_228 : sg (cX2_join.data.toList.drop 228) [[31], [33], [97], [173], [31], [33], [101], [173], [31], [33], [184, 0, 37], [173], [33], [9], [148], [154, 0, 9], [20, 0, 31], [167, 0, 6], [31], [33]] = true := by decide +kernel
theorem dX2_join_228 : decode cX2_join 228 = .ok (.lload_n 1, 1) := dc_31 (sg_at zd_dX2_join_228 0 rfl rfl)
theorem dX2_join_229 : decode cX2_join 229 = .ok (.lload_n 3, 1) := dc_33 (sg_at zd_dX2_join_228 1 rfl rfl)
theorem dX2_join_230 : decode cX2_join 230 = .ok (.ladd, 1) := dc_97 (sg_at zd_dX2_join_228 2 rfl rfl)
theorem dX2_join_231 : decode cX2_join 231 = .ok (.lreturn, 1) := dc_173 (sg_at zd_dX2_join_228 3 rfl rfl)
theorem dX2_join_232 : decode cX2_join 232 = .ok (.lload_n 1, 1) := dc_31 (sg_at zd_dX2_join_228 4 rfl rfl)
theorem dX2_join_233 : decode cX2_join 233 = .ok (.lload_n 3, 1) := dc_33 (sg_at zd_dX2_join_228 5 rfl rfl)
theorem dX2_join_234 : decode cX2_join 234 = .ok (.lsub, 1) := dc_101 (sg_at zd_dX2_join_228 6 rfl rfl)
theorem dX2_join_235 : decode cX2_join 235 = .ok (.lreturn, 1) := dc_173 (sg_at zd_dX2_join_228 7 rfl rfl)
theorem dX2_join_236 : decode cX2_join 236 = .ok (.lload_n 1, 1) := dc_31 (sg_at zd_dX2_join_228 8 rfl rfl)
theorem dX2_join_237 : decode cX2_join 237 = .ok (.lload_n 3, 1) := dc_33 (sg_at zd_dX2_join_228 9 rfl rfl)
theorem dX2_join_238 : decode cX2_join 238 = .ok (.invokestatic 37, 3) := dc_184 (sg_at zd_dX2_join_228 10 rfl rfl) rfl
theorem dX2_join_241 : decode cX2_join 241 = .ok (.lreturn, 1) := dc_173 (sg_at zd_dX2_join_228 11 rfl rfl)
theorem dX2_join_242 : decode cX2_join 242 = .ok (.lload_n 3, 1) := dc_33 (sg_at zd_dX2_join_228 12 rfl rfl)
theorem dX2_join_243 : decode cX2_join 243 = .ok (.lconst 0, 1) := dc_9 (sg_at zd_dX2_join_228 13 rfl rfl)
theorem dX2_join_244 : decode cX2_join 244 = .ok (.lcmp, 1) := dc_148 (sg_at zd_dX2_join_228 14 rfl rfl)
theorem dX2_join_245 : decode cX2_join 245 = .ok (.ifCond .ne 9, 3) := dc_154 (sg_at zd_dX2_join_228 15 rfl rfl) rfl
theorem dX2_join_248 : decode cX2_join 248 = .ok (.ldc2_w 31, 3) := dc_20 (sg_at zd_dX2_join_228 16 rfl rfl) rfl
theorem dX2_join_251 : decode cX2_join 251 = .ok (.goto 6, 3) := dc_167 (sg_at zd_dX2_join_228 17 rfl rfl) rfl
theorem dX2_join_254 : decode cX2_join 254 = .ok (.lload_n 1, 1) := dc_31 (sg_at zd_dX2_join_228 18 rfl rfl)
theorem dX2_join_255 : decode cX2_join 255 = .ok (.lload_n 3, 1) := dc_33 (sg_at zd_dX2_join_228 19 rfl rfl)
theorem zd_dX2_join_256 : sg (cX2_join.data.toList.drop 256) [[109], [173], [20, 0, 31], [173]] = true := by decide +kernel
theorem dX2_join_256 : decode cX2_join 256 = .ok (.ldiv, 1) := dc_109 (sg_at zd_dX2_join_256 0 rfl rfl)
theorem dX2_join_257 : decode cX2_join 257 = .ok (.lreturn, 1) := dc_173 (sg_at zd_dX2_join_256 1 rfl rfl)
theorem dX2_join_258 : decode cX2_join 258 = .ok (.ldc2_w 31, 3) := dc_20 (sg_at zd_dX2_join_256 2 rfl rfl) rfl
theorem dX2_join_261 : decode cX2_join 261 = .ok (.lreturn, 1) := dc_173 (sg_at zd_dX2_join_256 3 rfl rfl)
theorem zd_dX2_valueFor_0 : sg (cX2_valueFor.data.toList.drop 0) [[3], [62], [3], [54, 4], [21, 4], [42], [180, 0, 15], [162, 0, 166], [29], [44], [190], [162, 0, 160], [42], [180, 0, 9], [21, 4], [46], [17, 39, 16], [100], [54, 5], [21, 5]] = true := by decide +kernel
theorem dX2_valueFor_0 : decode cX2_valueFor 0 = .ok (.iconst 0, 1) := dc_3 (sg_at zd_dX2_valueFor_0 0 rfl rfl)
theorem dX2_valueFor_1 : decode cX2_valueFor 1 = .ok (.istore_n 3, 1) := dc_62 (sg_at zd_dX2_valueFor_0 1 rfl rfl)
theorem dX2_valueFor_2 : decode cX2_valueFor 2 = .ok (.iconst 0, 1) := dc_3 (sg_at zd_dX2_valueFor_0 2 rfl rfl)
theorem dX2_valueFor_3 : decode cX2_valueFor 3 = .ok (.istore 4, 2) := dc_54 (sg_at zd_dX2_valueFor_0 3 rfl rfl)
theorem dX2_valueFor_5 : decode cX2_valueFor 5 = .ok (.iload 4, 2) := dc_21 (sg_at zd_dX2_valueFor_0 4 rfl rfl)
theorem dX2_valueFor_7 : decode cX2_valueFor 7 = .ok (.aload_n 0, 1) := dc_42 (sg_at zd_dX2_valueFor_0 5 rfl rfl)
theorem dX2_valueFor_8 : decode cX2_valueFor 8 = .ok (.getfield 15, 3) := dc_180 (sg_at zd_dX2_valueFor_0 6 rfl rfl) rfl
theorem dX2_valueFor_11 : decode cX2_valueFor 11 = .ok (.if_icmp .ge 166, 3) := dc_162 (sg_at zd_dX2_valueFor_0 7 rfl rfl) rfl
theorem dX2_valueFor_14 : decode cX2_valueFor 14 = .ok (.iload_n 3, 1) := dc_29 (sg_at zd_dX2_valueFor_0 8 rfl rfl)
theorem dX2_valueFor_15 : decode cX2_valueFor 15 = .ok (.aload_n 2, 1) := dc_44 (sg_at zd_dX2_valueFor_0 9 rfl rfl)
theorem dX2_valueFor_16 : decode cX2_valueFor 16 = .ok (.arraylength, 1) := dc_190 (sg_at zd_dX2_valueFor_0 10 rfl rfl)
theorem dX2_valueFor_17 : decode cX2_valueFor 17 = .ok (.if_icmp .ge 160, 3) := dc_162 (sg_at zd_dX2_valueFor_0 11 rfl rfl) rfl
theorem dX2_valueFor_20 : decode cX2_valueFor 20 = .ok (.aload_n 0, 1) := dc_42 (sg_at zd_dX2_valueFor_0 12 rfl rfl)
theorem dX2_valueFor_21 : decode cX2_valueFor 21 = .ok (.getfield 9, 3) := dc_180 (sg_at zd_dX2_valueFor_0 13 rfl rfl) rfl
theorem dX2_valueFor_24 : decode cX2_valueFor 24 = .ok (.iload 4, 2) := dc_21 (sg_at zd_dX2_valueFor_0 14 rfl rfl)
theorem dX2_valueFor_26 : decode cX2_valueFor 26 = .ok (.iaload, 1) := dc_46 (sg_at zd_dX2_valueFor_0 15 rfl rfl)
theorem dX2_valueFor_27 : decode cX2_valueFor 27 = .ok (.sipush 10000, 3) := dc_17 (sg_at zd_dX2_valueFor_0 16 rfl rfl) rfl
theorem dX2_valueFor_30 : decode cX2_valueFor 30 = .ok (.isub, 1) := dc_100 (sg_at zd_dX2_valueFor_0 17 rfl rfl)
theorem dX2_valueFor_31 : decode cX2_valueFor 31 = .ok (.istore 5, 2) := dc_54 (sg_at zd_dX2_valueFor_0 18 rfl rfl)
theorem dX2_valueFor_33 : decode cX2_valueFor 33 = .ok (.iload 5, 2) := dc_21 (sg_at zd_dX2_valueFor_0 19 rfl rfl)
theorem zd_dX2_valueFor_35 : sg (cX2_valueFor.data.toList.drop 35) [[156, 0, 20], [44], [29], [42], [180, 0, 9], [21, 4], [46], [133], [80], [132, 3, 1], [167, 0, 119], [21, 5], [16, 18], [161, 0, 26], [21, 5], [16, 24], [162, 0, 19], [44], [29], [43]] = true := by decide +kernel
theorem dX2_valueFor_35 : decode cX2_valueFor 35 = .ok (.ifCond .ge 20, 3) := dc_156 (sg_at zd_dX2_valueFor_35 0 rfl rfl) rfl
theorem dX2_valueFor_38 : decode cX2_valueFor 38 = .ok (.aload_n 2, 1) := dc_44 (sg_at zd_dX2_valueFor_35 1 rfl rfl)
theorem dX2_valueFor_39 : decode cX2_valueFor 39 = .ok (.iload_n 3, 1) := dc_29 (sg_at zd_dX2_valueFor_35 2 rfl rfl)
theorem dX2_valueFor_40 : decode cX2_valueFor 40 = .ok (.aload_n 0, 1) := dc_42 (sg_at zd_dX2_valueFor_35 3 rfl rfl)
theorem dX2_valueFor_41 : decode cX2_valueFor 41 = .ok (.getfield 9, 3) := dc_180 (sg_at zd_dX2_valueFor_35 4 rfl rfl) rfl
theorem dX2_valueFor_44 : decode cX2_valueFor 44 = .ok (.iload 4, 2) := dc_21 (sg_at zd_dX2_valueFor_35 5 rfl rfl)
theorem dX2_valueFor_46 : decode cX2_valueFor 46 = .ok (.iaload, 1) := dc_46 (sg_at zd_dX2_valueFor_35 6 rfl rfl)
theorem dX2_valueFor_47 : decode cX2_valueFor 47 = .ok (.i2l, 1) := dc_133 (sg_at zd_dX2_valueFor_35 7 rfl rfl)
theorem dX2_valueFor_48 : decode cX2_valueFor 48 = .ok (.lastore, 1) := dc_80 (sg_at zd_dX2_valueFor_35 8 rfl rfl)
theorem dX2_valueFor_49 : decode cX2_valueFor 49 = .ok (.iinc 3 1, 3) := dc_132 (sg_at zd_dX2_valueFor_35 9 rfl rfl) rfl
theorem dX2_valueFor_52 : decode cX2_valueFor 52 = .ok (.goto 119, 3) := dc_167 (sg_at zd_dX2_valueFor_35 10 rfl rfl) rfl
theorem dX2_valueFor_55 : decode cX2_valueFor 55 = .ok (.iload 5, 2) := dc_21 (sg_at zd_dX2_valueFor_35 11 rfl rfl)
theorem dX2_valueFor_57 : decode cX2_valueFor 57 = .ok (.bipush 18, 2) := dc_16 (sg_at zd_dX2_valueFor_35 12 rfl rfl) rfl
theorem dX2_valueFor_59 : decode cX2_valueFor 59 = .ok (.if_icmp .lt 26, 3) := dc_161 (sg_at zd_dX2_valueFor_35 13 rfl rfl) rfl
theorem dX2_valueFor_62 : decode cX2_valueFor 62 = .ok (.iload 5, 2) := dc_21 (sg_at zd_dX2_valueFor_35 14 rfl rfl)
theorem dX2_valueFor_64 : decode cX2_valueFor 64 = .ok (.bipush 24, 2) := dc_16 (sg_at zd_dX2_valueFor_35 15 rfl rfl) rfl
theorem dX2_valueFor_66 : decode cX2_valueFor 66 = .ok (.if_icmp .ge 19, 3) := dc_162 (sg_at zd_dX2_valueFor_35 16 rfl rfl) rfl
theorem dX2_valueFor_69 : decode cX2_valueFor 69 = .ok (.aload_n 2, 1) := dc_44 (sg_at zd_dX2_valueFor_35 17 rfl rfl)
theorem dX2_valueFor_70 : decode cX2_valueFor 70 = .ok (.iload_n 3, 1) := dc_29 (sg_at zd_dX2_valueFor_35 18 rfl rfl)
theorem dX2_valueFor_71 : decode cX2_valueFor 71 = .ok (.aload_n 1, 1) := dc_43 (sg_at zd_dX2_valueFor_35 19 rfl rfl)
theorem zd_dX2_valueFor_72 : sg (cX2_valueFor.data.toList.drop 72) [[21, 5], [16, 18], [100], [47], [80], [132, 3, 1], [167, 0, 89], [21, 5], [16, 15], [160, 0, 30], [29], [158, 0, 26], [44], [29], [4], [100], [44], [29], [4], [100]] = true := by decide +kernel
theorem dX2_valueFor_72 : decode cX2_valueFor 72 = .ok (.iload 5, 2) := dc_21 (sg_at zd_dX2_valueFor_72 0 rfl rfl)
theorem dX2_valueFor_74 : decode cX2_valueFor 74 = .ok (.bipush 18, 2) := dc_16 (sg_at zd_dX2_valueFor_72 1 rfl rfl) rfl
theorem dX2_valueFor_76 : decode cX2_valueFor 76 = .ok (.isub, 1) := dc_100 (sg_at zd_dX2_valueFor_72 2 rfl rfl)
theorem dX2_valueFor_77 : decode cX2_valueFor 77 = .ok (.laload, 1) := dc_47 (sg_at zd_dX2_valueFor_72 3 rfl rfl)
theorem dX2_valueFor_78 : decode cX2_valueFor 78 = .ok (.lastore, 1) := dc_80 (sg_at zd_dX2_valueFor_72 4 rfl rfl)
theorem dX2_valueFor_79 : decode cX2_valueFor 79 = .ok (.iinc 3 1, 3) := dc_132 (sg_at zd_dX2_valueFor_72 5 rfl rfl) rfl
theorem dX2_valueFor_82 : decode cX2_valueFor 82 = .ok (.goto 89, 3) := dc_167 (sg_at zd_dX2_valueFor_72 6 rfl rfl) rfl
theorem dX2_valueFor_85 : decode cX2_valueFor 85 = .ok (.iload 5, 2) := dc_21 (sg_at zd_dX2_valueFor_72 7 rfl rfl)
theorem dX2_valueFor_87 : decode cX2_valueFor 87 = .ok (.bipush 15, 2) := dc_16 (sg_at zd_dX2_valueFor_72 8 rfl rfl) rfl
theorem dX2_valueFor_89 : decode cX2_valueFor 89 = .ok (.if_icmp .ne 30, 3) := dc_160 (sg_at zd_dX2_valueFor_72 9 rfl rfl) rfl
theorem dX2_valueFor_92 : decode cX2_valueFor 92 = .ok (.iload_n 3, 1) := dc_29 (sg_at zd_dX2_valueFor_72 10 rfl rfl)
theorem dX2_valueFor_93 : decode cX2_valueFor 93 = .ok (.ifCond .le 26, 3) := dc_158 (sg_at zd_dX2_valueFor_72 11 rfl rfl) rfl
theorem dX2_valueFor_96 : decode cX2_valueFor 96 = .ok (.aload_n 2, 1) := dc_44 (sg_at zd_dX2_valueFor_72 12 rfl rfl)
theorem dX2_valueFor_97 : decode cX2_valueFor 97 = .ok (.iload_n 3, 1) := dc_29 (sg_at zd_dX2_valueFor_72 13 rfl rfl)
theorem dX2_valueFor_98 : decode cX2_valueFor 98 = .ok (.iconst 1, 1) := dc_4 (sg_at zd_dX2_valueFor_72 14 rfl rfl)
theorem dX2_valueFor_99 : decode cX2_valueFor 99 = .ok (.isub, 1) := dc_100 (sg_at zd_dX2_valueFor_72 15 rfl rfl)
theorem dX2_valueFor_100 : decode cX2_valueFor 100 = .ok (.aload_n 2, 1) := dc_44 (sg_at zd_dX2_valueFor_72 16 rfl rfl)
theorem dX2_valueFor_101 : decode cX2_valueFor 101 = .ok (.iload_n 3, 1) := dc_29 (sg_at zd_dX2_valueFor_72 17 rfl rfl)
theorem dX2_valueFor_102 : decode cX2_valueFor 102 = .ok (.iconst 1, 1) := dc_4 (sg_at zd_dX2_valueFor_72 18 rfl rfl)
theorem dX2_valueFor_103 : decode cX2_valueFor 103 = .ok (.isub, 1) := dc_100 (sg_at zd_dX2_valueFor_72 19 rfl rfl)
theorem zd_dX2_valueFor_104 : sg (cX2_valueFor.data.toList.drop 104) [[47], [9], [148], [154, 0, 7], [10], [167, 0, 4], [9], [80], [167, 0, 55], [29], [4], [164, 0, 50], [132, 3, 255], [21, 5], [44], [29], [4], [100], [47], [44]] = true := by decide +kernel
theorem dX2_valueFor_104 : decode cX2_valueFor 104 = .ok (.laload, 1) := dc_47 (sg_at zd_dX2_valueFor_104 0 rfl rfl)
theorem dX2_valueFor_105 : decode cX2_valueFor 105 = .ok (.lconst 0, 1) := dc_9 (sg_at zd_dX2_valueFor_104 1 rfl rfl)
theorem dX2_valueFor_106 : decode cX2_valueFor 106 = .ok (.lcmp, 1) := dc_148 (sg_at zd_dX2_valueFor_104 2 rfl rfl)
theorem dX2_valueFor_107 : decode cX2_valueFor 107 = .ok (.ifCond .ne 7, 3) := dc_154 (sg_at zd_dX2_valueFor_104 3 rfl rfl) rfl
theorem dX2_valueFor_110 : decode cX2_valueFor 110 = .ok (.lconst 1, 1) := dc_10 (sg_at zd_dX2_valueFor_104 4 rfl rfl)
theorem dX2_valueFor_111 : decode cX2_valueFor 111 = .ok (.goto 4, 3) := dc_167 (sg_at zd_dX2_valueFor_104 5 rfl rfl) rfl
theorem dX2_valueFor_114 : decode cX2_valueFor 114 = .ok (.lconst 0, 1) := dc_9 (sg_at zd_dX2_valueFor_104 6 rfl rfl)
theorem dX2_valueFor_115 : decode cX2_valueFor 115 = .ok (.lastore, 1) := dc_80 (sg_at zd_dX2_valueFor_104 7 rfl rfl)
theorem dX2_valueFor_116 : decode cX2_valueFor 116 = .ok (.goto 55, 3) := dc_167 (sg_at zd_dX2_valueFor_104 8 rfl rfl) rfl
theorem dX2_valueFor_119 : decode cX2_valueFor 119 = .ok (.iload_n 3, 1) := dc_29 (sg_at zd_dX2_valueFor_104 9 rfl rfl)
theorem dX2_valueFor_120 : decode cX2_valueFor 120 = .ok (.iconst 1, 1) := dc_4 (sg_at zd_dX2_valueFor_104 10 rfl rfl)
theorem dX2_valueFor_121 : decode cX2_valueFor 121 = .ok (.if_icmp .le 50, 3) := dc_164 (sg_at zd_dX2_valueFor_104 11 rfl rfl) rfl
theorem dX2_valueFor_124 : decode cX2_valueFor 124 = .ok (.iinc 3 (-1), 3) := dc_132 (sg_at zd_dX2_valueFor_104 12 rfl rfl) rfl
theorem dX2_valueFor_127 : decode cX2_valueFor 127 = .ok (.iload 5, 2) := dc_21 (sg_at zd_dX2_valueFor_104 13 rfl rfl)
theorem dX2_valueFor_129 : decode cX2_valueFor 129 = .ok (.aload_n 2, 1) := dc_44 (sg_at zd_dX2_valueFor_104 14 rfl rfl)
theorem dX2_valueFor_130 : decode cX2_valueFor 130 = .ok (.iload_n 3, 1) := dc_29 (sg_at zd_dX2_valueFor_104 15 rfl rfl)
theorem dX2_valueFor_131 : decode cX2_valueFor 131 = .ok (.iconst 1, 1) := dc_4 (sg_at zd_dX2_valueFor_104 16 rfl rfl)
theorem dX2_valueFor_132 : decode cX2_valueFor 132 = .ok (.isub, 1) := dc_100 (sg_at zd_dX2_valueFor_104 17 rfl rfl)
theorem dX2_valueFor_133 : decode cX2_valueFor 133 = .ok (.laload, 1) := dc_47 (sg_at zd_dX2_valueFor_104 18 rfl rfl)
theorem dX2_valueFor_134 : decode cX2_valueFor 134 = .ok (.aload_n 2, 1) := dc_44 (sg_at zd_dX2_valueFor_104 19 rfl rfl)
theorem zd_dX2_valueFor_135 : sg (cX2_valueFor.data.toList.drop 135) [[29], [47], [184, 0, 23], [55, 6], [22, 6], [20, 0, 27], [148], [157, 0, 12], [22, 6], [20, 0, 29], [148], [156, 0, 7], [20, 0, 31], [173], [44], [29], [4], [100], [22, 6], [80]] = true := by decide +kernel
theorem dX2_valueFor_135 : decode cX2_valueFor 135 = .ok (.iload_n 3, 1) := dc_29 (sg_at zd_dX2_valueFor_135 0 rfl rfl)
theorem dX2_valueFor_136 : decode cX2_valueFor 136 = .ok (.laload, 1) := dc_47 (sg_at zd_dX2_valueFor_135 1 rfl rfl)
theorem dX2_valueFor_137 : decode cX2_valueFor 137 = .ok (.invokestatic 23, 3) := dc_184 (sg_at zd_dX2_valueFor_135 2 rfl rfl) rfl
theorem dX2_valueFor_140 : decode cX2_valueFor 140 = .ok (.lstore 6, 2) := dc_55 (sg_at zd_dX2_valueFor_135 3 rfl rfl)
theorem dX2_valueFor_142 : decode cX2_valueFor 142 = .ok (.lload 6, 2) := dc_22 (sg_at zd_dX2_valueFor_135 4 rfl rfl)
theorem dX2_valueFor_144 : decode cX2_valueFor 144 = .ok (.ldc2_w 27, 3) := dc_20 (sg_at zd_dX2_valueFor_135 5 rfl rfl) rfl
theorem dX2_valueFor_147 : decode cX2_valueFor 147 = .ok (.lcmp, 1) := dc_148 (sg_at zd_dX2_valueFor_135 6 rfl rfl)
theorem dX2_valueFor_148 : decode cX2_valueFor 148 = .ok (.ifCond .gt 12, 3) := dc_157 (sg_at zd_dX2_valueFor_135 7 rfl rfl) rfl
theorem dX2_valueFor_151 : decode cX2_valueFor 151 = .ok (.lload 6, 2) := dc_22 (sg_at zd_dX2_valueFor_135 8 rfl rfl)
theorem dX2_valueFor_153 : decode cX2_valueFor 153 = .ok (.ldc2_w 29, 3) := dc_20 (sg_at zd_dX2_valueFor_135 9 rfl rfl) rfl
theorem dX2_valueFor_156 : decode cX2_valueFor 156 = .ok (.lcmp, 1) := dc_148 (sg_at zd_dX2_valueFor_135 10 rfl rfl)
theorem dX2_valueFor_157 : decode cX2_valueFor 157 = .ok (.ifCond .ge 7, 3) := dc_156 (sg_at zd_dX2_valueFor_135 11 rfl rfl) rfl
theorem dX2_valueFor_160 : decode cX2_valueFor 160 = .ok (.ldc2_w 31, 3) := dc_20 (sg_at zd_dX2_valueFor_135 12 rfl rfl) rfl
theorem dX2_valueFor_163 : decode cX2_valueFor 163 = .ok (.lreturn, 1) := dc_173 (sg_at zd_dX2_valueFor_135 13 rfl rfl)
theorem dX2_valueFor_164 : decode cX2_valueFor 164 = .ok (.aload_n 2, 1) := dc_44 (sg_at zd_dX2_valueFor_135 14 rfl rfl)
theorem dX2_valueFor_165 : decode cX2_valueFor 165 = .ok (.iload_n 3, 1) := dc_29 (sg_at zd_dX2_valueFor_135 15 rfl rfl)
theorem dX2_valueFor_166 : decode cX2_valueFor 166 = .ok (.iconst 1, 1) := dc_4 (sg_at zd_dX2_valueFor_135 16 rfl rfl)
theorem dX2_valueFor_167 : decode cX2_valueFor 167 = .ok (.isub, 1) := dc_100 (sg_at zd_dX2_valueFor_135 17 rfl rfl)
theorem dX2_valueFor_168 : decode cX2_valueFor 168 = .ok (.lload 6, 2) := dc_22 (sg_at zd_dX2_valueFor_135 18 rfl rfl)
theorem dX2_valueFor_170 : decode cX2_valueFor 170 = .ok (.lastore, 1) := dc_80 (sg_at zd_dX2_valueFor_135 19 rfl rfl)
theorem zd_dX2_valueFor_171 : sg (cX2_valueFor.data.toList.drop 171) [[132, 4, 1], [167, 255, 87], [29], [4], [160, 0, 9], [44], [3], [47], [167, 0, 6], [20, 0, 31], [173]] = true := by decide +kernel
theorem dX2_valueFor_171 : decode cX2_valueFor 171 = .ok (.iinc 4 1, 3) := dc_132 (sg_at zd_dX2_valueFor_171 0 rfl rfl) rfl
theorem dX2_valueFor_174 : decode cX2_valueFor 174 = .ok (.goto (-169), 3) := dc_167 (sg_at zd_dX2_valueFor_171 1 rfl rfl) rfl
theorem dX2_valueFor_177 : decode cX2_valueFor 177 = .ok (.iload_n 3, 1) := dc_29 (sg_at zd_dX2_valueFor_171 2 rfl rfl)
theorem dX2_valueFor_178 : decode cX2_valueFor 178 = .ok (.iconst 1, 1) := dc_4 (sg_at zd_dX2_valueFor_171 3 rfl rfl)
theorem dX2_valueFor_179 : decode cX2_valueFor 179 = .ok (.if_icmp .ne 9, 3) := dc_160 (sg_at zd_dX2_valueFor_171 4 rfl rfl) rfl
theorem dX2_valueFor_182 : decode cX2_valueFor 182 = .ok (.aload_n 2, 1) := dc_44 (sg_at zd_dX2_valueFor_171 5 rfl rfl)
theorem dX2_valueFor_183 : decode cX2_valueFor 183 = .ok (.iconst 0, 1) := dc_3 (sg_at zd_dX2_valueFor_171 6 rfl rfl)
theorem dX2_valueFor_184 : decode cX2_valueFor 184 = .ok (.laload, 1) := dc_47 (sg_at zd_dX2_valueFor_171 7 rfl rfl)
theorem dX2_valueFor_185 : decode cX2_valueFor 185 = .ok (.goto 6, 3) := dc_167 (sg_at zd_dX2_valueFor_171 8 rfl rfl) rfl
theorem dX2_valueFor_188 : decode cX2_valueFor 188 = .ok (.ldc2_w 31, 3) := dc_20 (sg_at zd_dX2_valueFor_171 9 rfl rfl) rfl
theorem dX2_valueFor_191 : decode cX2_valueFor 191 = .ok (.lreturn, 1) := dc_173 (sg_at zd_dX2_valueFor_171 10 rfl rfl)
theorem zd_dX6_awayFor_0 : sg (cX6_awayFor.data.toList.drop 0) [[42], [27], [28], [182, 0, 118], [42], [180, 0, 9], [180, 0, 76], [5], [50], [42], [180, 0, 25], [42], [180, 0, 29], [182, 0, 80], [66], [33], [20, 0, 90], [148], [154, 0, 7], [8]] = true := by decide +kernel
theorem dX6_awayFor_0 : decode cX6_awayFor 0 = .ok (.aload_n 0, 1) := dc_42 (sg_at zd_dX6_awayFor_0 0 rfl rfl)
theorem dX6_awayFor_1 : decode cX6_awayFor 1 = .ok (.iload_n 1, 1) := dc_27 (sg_at zd_dX6_awayFor_0 1 rfl rfl)
theorem dX6_awayFor_2 : decode cX6_awayFor 2 = .ok (.iload_n 2, 1) := dc_28 (sg_at zd_dX6_awayFor_0 2 rfl rfl)
theorem dX6_awayFor_3 : decode cX6_awayFor 3 = .ok (.invokevirtual 118, 3) := dc_182 (sg_at zd_dX6_awayFor_0 3 rfl rfl) rfl
theorem dX6_awayFor_6 : decode cX6_awayFor 6 = .ok (.aload_n 0, 1) := dc_42 (sg_at zd_dX6_awayFor_0 4 rfl rfl)
theorem dX6_awayFor_7 : decode cX6_awayFor 7 = .ok (.getfield 9, 3) := dc_180 (sg_at zd_dX6_awayFor_0 5 rfl rfl) rfl
theorem dX6_awayFor_10 : decode cX6_awayFor 10 = .ok (.getfield 76, 3) := dc_180 (sg_at zd_dX6_awayFor_0 6 rfl rfl) rfl
theorem dX6_awayFor_13 : decode cX6_awayFor 13 = .ok (.iconst 2, 1) := dc_5 (sg_at zd_dX6_awayFor_0 7 rfl rfl)
theorem dX6_awayFor_14 : decode cX6_awayFor 14 = .ok (.aaload, 1) := dc_50 (sg_at zd_dX6_awayFor_0 8 rfl rfl)
theorem dX6_awayFor_15 : decode cX6_awayFor 15 = .ok (.aload_n 0, 1) := dc_42 (sg_at zd_dX6_awayFor_0 9 rfl rfl)
theorem dX6_awayFor_16 : decode cX6_awayFor 16 = .ok (.getfield 25, 3) := dc_180 (sg_at zd_dX6_awayFor_0 10 rfl rfl) rfl
theorem dX6_awayFor_19 : decode cX6_awayFor 19 = .ok (.aload_n 0, 1) := dc_42 (sg_at zd_dX6_awayFor_0 11 rfl rfl)
theorem dX6_awayFor_20 : decode cX6_awayFor 20 = .ok (.getfield 29, 3) := dc_180 (sg_at zd_dX6_awayFor_0 12 rfl rfl) rfl
theorem dX6_awayFor_23 : decode cX6_awayFor 23 = .ok (.invokevirtual 80, 3) := dc_182 (sg_at zd_dX6_awayFor_0 13 rfl rfl) rfl
theorem dX6_awayFor_26 : decode cX6_awayFor 26 = .ok (.lstore_n 3, 1) := dc_66 (sg_at zd_dX6_awayFor_0 14 rfl rfl)
theorem dX6_awayFor_27 : decode cX6_awayFor 27 = .ok (.lload_n 3, 1) := dc_33 (sg_at zd_dX6_awayFor_0 15 rfl rfl)
theorem dX6_awayFor_28 : decode cX6_awayFor 28 = .ok (.ldc2_w 90, 3) := dc_20 (sg_at zd_dX6_awayFor_0 16 rfl rfl) rfl
theorem dX6_awayFor_31 : decode cX6_awayFor 31 = .ok (.lcmp, 1) := dc_148 (sg_at zd_dX6_awayFor_0 17 rfl rfl)
theorem dX6_awayFor_32 : decode cX6_awayFor 32 = .ok (.ifCond .ne 7, 3) := dc_154 (sg_at zd_dX6_awayFor_0 18 rfl rfl) rfl
theorem dX6_awayFor_35 : decode cX6_awayFor 35 = .ok (.iconst 5, 1) := dc_8 (sg_at zd_dX6_awayFor_0 19 rfl rfl)
theorem zd_dX6_awayFor_36 : sg (cX6_awayFor.data.toList.drop 36) [[167, 0, 15], [10], [20, 0, 139], [33], [184, 0, 96], [184, 0, 102], [136], [172]] = true := by decide +kernel
theorem dX6_awayFor_36 : decode cX6_awayFor 36 = .ok (.goto 15, 3) := dc_167 (sg_at zd_dX6_awayFor_36 0 rfl rfl) rfl
theorem dX6_awayFor_39 : decode cX6_awayFor 39 = .ok (.lconst 1, 1) := dc_10 (sg_at zd_dX6_awayFor_36 1 rfl rfl)
theorem dX6_awayFor_40 : decode cX6_awayFor 40 = .ok (.ldc2_w 139, 3) := dc_20 (sg_at zd_dX6_awayFor_36 2 rfl rfl) rfl
theorem dX6_awayFor_43 : decode cX6_awayFor 43 = .ok (.lload_n 3, 1) := dc_33 (sg_at zd_dX6_awayFor_36 3 rfl rfl)
theorem dX6_awayFor_44 : decode cX6_awayFor 44 = .ok (.invokestatic 96, 3) := dc_184 (sg_at zd_dX6_awayFor_36 4 rfl rfl) rfl
theorem dX6_awayFor_47 : decode cX6_awayFor 47 = .ok (.invokestatic 102, 3) := dc_184 (sg_at zd_dX6_awayFor_36 5 rfl rfl) rfl
theorem dX6_awayFor_50 : decode cX6_awayFor 50 = .ok (.l2i, 1) := dc_136 (sg_at zd_dX6_awayFor_36 6 rfl rfl)
theorem dX6_awayFor_51 : decode cX6_awayFor 51 = .ok (.ireturn, 1) := dc_172 (sg_at zd_dX6_awayFor_36 7 rfl rfl)
theorem zd_dX8_farFrom_0 : sg (cX8_farFrom.data.toList.drop 0) [[42], [180, 0, 32], [4], [162, 0, 5], [3], [172], [27], [42], [180, 0, 32], [112], [28], [100], [184, 0, 73], [27], [42], [180, 0, 32], [108], [42], [180, 0, 42], [100]] = true := by decide +kernel
theorem dX8_farFrom_0 : decode cX8_farFrom 0 = .ok (.aload_n 0, 1) := dc_42 (sg_at zd_dX8_farFrom_0 0 rfl rfl)
theorem dX8_farFrom_1 : decode cX8_farFrom 1 = .ok (.getfield 32, 3) := dc_180 (sg_at zd_dX8_farFrom_0 1 rfl rfl) rfl
theorem dX8_farFrom_4 : decode cX8_farFrom 4 = .ok (.iconst 1, 1) := dc_4 (sg_at zd_dX8_farFrom_0 2 rfl rfl)
theorem dX8_farFrom_5 : decode cX8_farFrom 5 = .ok (.if_icmp .ge 5, 3) := dc_162 (sg_at zd_dX8_farFrom_0 3 rfl rfl) rfl
theorem dX8_farFrom_8 : decode cX8_farFrom 8 = .ok (.iconst 0, 1) := dc_3 (sg_at zd_dX8_farFrom_0 4 rfl rfl)
theorem dX8_farFrom_9 : decode cX8_farFrom 9 = .ok (.ireturn, 1) := dc_172 (sg_at zd_dX8_farFrom_0 5 rfl rfl)
theorem dX8_farFrom_10 : decode cX8_farFrom 10 = .ok (.iload_n 1, 1) := dc_27 (sg_at zd_dX8_farFrom_0 6 rfl rfl)
theorem dX8_farFrom_11 : decode cX8_farFrom 11 = .ok (.aload_n 0, 1) := dc_42 (sg_at zd_dX8_farFrom_0 7 rfl rfl)
theorem dX8_farFrom_12 : decode cX8_farFrom 12 = .ok (.getfield 32, 3) := dc_180 (sg_at zd_dX8_farFrom_0 8 rfl rfl) rfl
theorem dX8_farFrom_15 : decode cX8_farFrom 15 = .ok (.irem, 1) := dc_112 (sg_at zd_dX8_farFrom_0 9 rfl rfl)
theorem dX8_farFrom_16 : decode cX8_farFrom 16 = .ok (.iload_n 2, 1) := dc_28 (sg_at zd_dX8_farFrom_0 10 rfl rfl)
theorem dX8_farFrom_17 : decode cX8_farFrom 17 = .ok (.isub, 1) := dc_100 (sg_at zd_dX8_farFrom_0 11 rfl rfl)
theorem dX8_farFrom_18 : decode cX8_farFrom 18 = .ok (.invokestatic 73, 3) := dc_184 (sg_at zd_dX8_farFrom_0 12 rfl rfl) rfl
theorem dX8_farFrom_21 : decode cX8_farFrom 21 = .ok (.iload_n 1, 1) := dc_27 (sg_at zd_dX8_farFrom_0 13 rfl rfl)
theorem dX8_farFrom_22 : decode cX8_farFrom 22 = .ok (.aload_n 0, 1) := dc_42 (sg_at zd_dX8_farFrom_0 14 rfl rfl)
theorem dX8_farFrom_23 : decode cX8_farFrom 23 = .ok (.getfield 32, 3) := dc_180 (sg_at zd_dX8_farFrom_0 15 rfl rfl) rfl
theorem dX8_farFrom_26 : decode cX8_farFrom 26 = .ok (.idiv, 1) := dc_108 (sg_at zd_dX8_farFrom_0 16 rfl rfl)
theorem dX8_farFrom_27 : decode cX8_farFrom 27 = .ok (.aload_n 0, 1) := dc_42 (sg_at zd_dX8_farFrom_0 17 rfl rfl)
theorem dX8_farFrom_28 : decode cX8_farFrom 28 = .ok (.getfield 42, 3) := dc_180 (sg_at zd_dX8_farFrom_0 18 rfl rfl) rfl
theorem dX8_farFrom_31 : decode cX8_farFrom 31 = .ok (.isub, 1) := dc_100 (sg_at zd_dX8_farFrom_0 19 rfl rfl)
theorem zd_dX8_farFrom_32 : sg (cX8_farFrom.data.toList.drop 32) [[184, 0, 73], [96], [172]] = true := by decide +kernel
theorem dX8_farFrom_32 : decode cX8_farFrom 32 = .ok (.invokestatic 73, 3) := dc_184 (sg_at zd_dX8_farFrom_32 0 rfl rfl) rfl
theorem dX8_farFrom_35 : decode cX8_farFrom 35 = .ok (.iadd, 1) := dc_96 (sg_at zd_dX8_farFrom_32 1 rfl rfl)
theorem dX8_farFrom_36 : decode cX8_farFrom 36 = .ok (.ireturn, 1) := dc_172 (sg_at zd_dX8_farFrom_32 2 rfl rfl)
theorem zd_dX8_rowOf_0 : sg (cX8_rowOf.data.toList.drop 0) [[42], [180, 0, 32], [158, 0, 12], [27], [42], [180, 0, 32], [108], [167, 0, 4], [3], [172]] = true := by decide +kernel
theorem dX8_rowOf_0 : decode cX8_rowOf 0 = .ok (.aload_n 0, 1) := dc_42 (sg_at zd_dX8_rowOf_0 0 rfl rfl)
theorem dX8_rowOf_1 : decode cX8_rowOf 1 = .ok (.getfield 32, 3) := dc_180 (sg_at zd_dX8_rowOf_0 1 rfl rfl) rfl
theorem dX8_rowOf_4 : decode cX8_rowOf 4 = .ok (.ifCond .le 12, 3) := dc_158 (sg_at zd_dX8_rowOf_0 2 rfl rfl) rfl
theorem dX8_rowOf_7 : decode cX8_rowOf 7 = .ok (.iload_n 1, 1) := dc_27 (sg_at zd_dX8_rowOf_0 3 rfl rfl)
theorem dX8_rowOf_8 : decode cX8_rowOf 8 = .ok (.aload_n 0, 1) := dc_42 (sg_at zd_dX8_rowOf_0 4 rfl rfl)
theorem dX8_rowOf_9 : decode cX8_rowOf 9 = .ok (.getfield 32, 3) := dc_180 (sg_at zd_dX8_rowOf_0 5 rfl rfl) rfl
theorem dX8_rowOf_12 : decode cX8_rowOf 12 = .ok (.idiv, 1) := dc_108 (sg_at zd_dX8_rowOf_0 6 rfl rfl)
theorem dX8_rowOf_13 : decode cX8_rowOf 13 = .ok (.goto 4, 3) := dc_167 (sg_at zd_dX8_rowOf_0 7 rfl rfl) rfl
theorem dX8_rowOf_16 : decode cX8_rowOf 16 = .ok (.iconst 0, 1) := dc_3 (sg_at zd_dX8_rowOf_0 8 rfl rfl)
theorem dX8_rowOf_17 : decode cX8_rowOf 17 = .ok (.ireturn, 1) := dc_172 (sg_at zd_dX8_rowOf_0 9 rfl rfl)
theorem zd_dX6_nameCatch_0 : sg (cX6_nameCatch.data.toList.drop 0) [[42], [27], [28], [182, 0, 118], [42], [180, 0, 25], [3], [42], [180, 0, 9], [29], [42], [180, 0, 22], [28], [46], [182, 0, 108], [133], [80], [42], [180, 0, 25], [4]] = true := by decide +kernel
theorem dX6_nameCatch_0 : decode cX6_nameCatch 0 = .ok (.aload_n 0, 1) := dc_42 (sg_at zd_dX6_nameCatch_0 0 rfl rfl)
theorem dX6_nameCatch_1 : decode cX6_nameCatch 1 = .ok (.iload_n 1, 1) := dc_27 (sg_at zd_dX6_nameCatch_0 1 rfl rfl)
theorem dX6_nameCatch_2 : decode cX6_nameCatch 2 = .ok (.iload_n 2, 1) := dc_28 (sg_at zd_dX6_nameCatch_0 2 rfl rfl)
theorem dX6_nameCatch_3 : decode cX6_nameCatch 3 = .ok (.invokevirtual 118, 3) := dc_182 (sg_at zd_dX6_nameCatch_0 3 rfl rfl) rfl
theorem dX6_nameCatch_6 : decode cX6_nameCatch 6 = .ok (.aload_n 0, 1) := dc_42 (sg_at zd_dX6_nameCatch_0 4 rfl rfl)
theorem dX6_nameCatch_7 : decode cX6_nameCatch 7 = .ok (.getfield 25, 3) := dc_180 (sg_at zd_dX6_nameCatch_0 5 rfl rfl) rfl
theorem dX6_nameCatch_10 : decode cX6_nameCatch 10 = .ok (.iconst 0, 1) := dc_3 (sg_at zd_dX6_nameCatch_0 6 rfl rfl)
theorem dX6_nameCatch_11 : decode cX6_nameCatch 11 = .ok (.aload_n 0, 1) := dc_42 (sg_at zd_dX6_nameCatch_0 7 rfl rfl)
theorem dX6_nameCatch_12 : decode cX6_nameCatch 12 = .ok (.getfield 9, 3) := dc_180 (sg_at zd_dX6_nameCatch_0 8 rfl rfl) rfl
theorem dX6_nameCatch_15 : decode cX6_nameCatch 15 = .ok (.iload_n 3, 1) := dc_29 (sg_at zd_dX6_nameCatch_0 9 rfl rfl)
theorem dX6_nameCatch_16 : decode cX6_nameCatch 16 = .ok (.aload_n 0, 1) := dc_42 (sg_at zd_dX6_nameCatch_0 10 rfl rfl)
theorem dX6_nameCatch_17 : decode cX6_nameCatch 17 = .ok (.getfield 22, 3) := dc_180 (sg_at zd_dX6_nameCatch_0 11 rfl rfl) rfl
theorem dX6_nameCatch_20 : decode cX6_nameCatch 20 = .ok (.iload_n 2, 1) := dc_28 (sg_at zd_dX6_nameCatch_0 12 rfl rfl)
theorem dX6_nameCatch_21 : decode cX6_nameCatch 21 = .ok (.iaload, 1) := dc_46 (sg_at zd_dX6_nameCatch_0 13 rfl rfl)
theorem dX6_nameCatch_22 : decode cX6_nameCatch 22 = .ok (.invokevirtual 108, 3) := dc_182 (sg_at zd_dX6_nameCatch_0 14 rfl rfl) rfl
theorem dX6_nameCatch_25 : decode cX6_nameCatch 25 = .ok (.i2l, 1) := dc_133 (sg_at zd_dX6_nameCatch_0 15 rfl rfl)
theorem dX6_nameCatch_26 : decode cX6_nameCatch 26 = .ok (.lastore, 1) := dc_80 (sg_at zd_dX6_nameCatch_0 16 rfl rfl)
theorem dX6_nameCatch_27 : decode cX6_nameCatch 27 = .ok (.aload_n 0, 1) := dc_42 (sg_at zd_dX6_nameCatch_0 17 rfl rfl)
theorem dX6_nameCatch_28 : decode cX6_nameCatch 28 = .ok (.getfield 25, 3) := dc_180 (sg_at zd_dX6_nameCatch_0 18 rfl rfl) rfl
theorem dX6_nameCatch_31 : decode cX6_nameCatch 31 = .ok (.iconst 1, 1) := dc_4 (sg_at zd_dX6_nameCatch_0 19 rfl rfl)
theorem zd_dX6_nameCatch_32 : sg (cX6_nameCatch.data.toList.drop 32) [[42], [180, 0, 9], [29], [182, 0, 122], [42], [180, 0, 9], [180, 0, 125], [100], [133], [80], [177]] = true := by decide +kernel
theorem dX6_nameCatch_32 : decode cX6_nameCatch 32 = .ok (.aload_n 0, 1) := dc_42 (sg_at zd_dX6_nameCatch_32 0 rfl rfl)
theorem dX6_nameCatch_33 : decode cX6_nameCatch 33 = .ok (.getfield 9, 3) := dc_180 (sg_at zd_dX6_nameCatch_32 1 rfl rfl) rfl
theorem dX6_nameCatch_36 : decode cX6_nameCatch 36 = .ok (.iload_n 3, 1) := dc_29 (sg_at zd_dX6_nameCatch_32 2 rfl rfl)
theorem dX6_nameCatch_37 : decode cX6_nameCatch 37 = .ok (.invokevirtual 122, 3) := dc_182 (sg_at zd_dX6_nameCatch_32 3 rfl rfl) rfl
theorem dX6_nameCatch_40 : decode cX6_nameCatch 40 = .ok (.aload_n 0, 1) := dc_42 (sg_at zd_dX6_nameCatch_32 4 rfl rfl)
theorem dX6_nameCatch_41 : decode cX6_nameCatch 41 = .ok (.getfield 9, 3) := dc_180 (sg_at zd_dX6_nameCatch_32 5 rfl rfl) rfl
theorem dX6_nameCatch_44 : decode cX6_nameCatch 44 = .ok (.getfield 125, 3) := dc_180 (sg_at zd_dX6_nameCatch_32 6 rfl rfl) rfl
theorem dX6_nameCatch_47 : decode cX6_nameCatch 47 = .ok (.isub, 1) := dc_100 (sg_at zd_dX6_nameCatch_32 7 rfl rfl)
theorem dX6_nameCatch_48 : decode cX6_nameCatch 48 = .ok (.i2l, 1) := dc_133 (sg_at zd_dX6_nameCatch_32 8 rfl rfl)
theorem dX6_nameCatch_49 : decode cX6_nameCatch 49 = .ok (.lastore, 1) := dc_80 (sg_at zd_dX6_nameCatch_32 9 rfl rfl)
theorem dX6_nameCatch_50 : decode cX6_nameCatch 50 = .ok (.return_, 1) := dc_177 (sg_at zd_dX6_nameCatch_32 10 rfl rfl)
theorem zd_dX6_farOf_0 : sg (cX6_farOf.data.toList.drop 0) [[42], [180, 0, 9], [27], [42], [180, 0, 22], [28], [46], [182, 0, 108], [172]] = true := by decide +kernel
theorem dX6_farOf_0 : decode cX6_farOf 0 = .ok (.aload_n 0, 1) := dc_42 (sg_at zd_dX6_farOf_0 0 rfl rfl)
theorem dX6_farOf_1 : decode cX6_farOf 1 = .ok (.getfield 9, 3) := dc_180 (sg_at zd_dX6_farOf_0 1 rfl rfl) rfl
theorem dX6_farOf_4 : decode cX6_farOf 4 = .ok (.iload_n 1, 1) := dc_27 (sg_at zd_dX6_farOf_0 2 rfl rfl)
theorem dX6_farOf_5 : decode cX6_farOf 5 = .ok (.aload_n 0, 1) := dc_42 (sg_at zd_dX6_farOf_0 3 rfl rfl)
theorem dX6_farOf_6 : decode cX6_farOf 6 = .ok (.getfield 22, 3) := dc_180 (sg_at zd_dX6_farOf_0 4 rfl rfl) rfl
theorem dX6_farOf_9 : decode cX6_farOf 9 = .ok (.iload_n 2, 1) := dc_28 (sg_at zd_dX6_farOf_0 5 rfl rfl)
theorem dX6_farOf_10 : decode cX6_farOf 10 = .ok (.iaload, 1) := dc_46 (sg_at zd_dX6_farOf_0 6 rfl rfl)
theorem dX6_farOf_11 : decode cX6_farOf 11 = .ok (.invokevirtual 108, 3) := dc_182 (sg_at zd_dX6_farOf_0 7 rfl rfl) rfl
theorem dX6_farOf_14 : decode cX6_farOf 14 = .ok (.ireturn, 1) := dc_172 (sg_at zd_dX6_farOf_0 8 rfl rfl)
theorem zd_dX6_oddsAt_0 : sg (cX6_oddsAt.data.toList.drop 0) [[42], [27], [28], [29], [182, 0, 128], [42], [180, 0, 9], [180, 0, 76], [3], [50], [42], [180, 0, 25], [42], [180, 0, 29], [182, 0, 80], [55, 4], [22, 4], [20, 0, 90], [148], [154, 0, 20]] = true := by decide +kernel
theorem dX6_oddsAt_0 : decode cX6_oddsAt 0 = .ok (.aload_n 0, 1) := dc_42 (sg_at zd_dX6_oddsAt_0 0 rfl rfl)
theorem dX6_oddsAt_1 : decode cX6_oddsAt 1 = .ok (.iload_n 1, 1) := dc_27 (sg_at zd_dX6_oddsAt_0 1 rfl rfl)
theorem dX6_oddsAt_2 : decode cX6_oddsAt 2 = .ok (.iload_n 2, 1) := dc_28 (sg_at zd_dX6_oddsAt_0 2 rfl rfl)
theorem dX6_oddsAt_3 : decode cX6_oddsAt 3 = .ok (.iload_n 3, 1) := dc_29 (sg_at zd_dX6_oddsAt_0 3 rfl rfl)
theorem dX6_oddsAt_4 : decode cX6_oddsAt 4 = .ok (.invokevirtual 128, 3) := dc_182 (sg_at zd_dX6_oddsAt_0 4 rfl rfl) rfl
theorem dX6_oddsAt_7 : decode cX6_oddsAt 7 = .ok (.aload_n 0, 1) := dc_42 (sg_at zd_dX6_oddsAt_0 5 rfl rfl)
theorem dX6_oddsAt_8 : decode cX6_oddsAt 8 = .ok (.getfield 9, 3) := dc_180 (sg_at zd_dX6_oddsAt_0 6 rfl rfl) rfl
theorem dX6_oddsAt_11 : decode cX6_oddsAt 11 = .ok (.getfield 76, 3) := dc_180 (sg_at zd_dX6_oddsAt_0 7 rfl rfl) rfl
theorem dX6_oddsAt_14 : decode cX6_oddsAt 14 = .ok (.iconst 0, 1) := dc_3 (sg_at zd_dX6_oddsAt_0 8 rfl rfl)
theorem dX6_oddsAt_15 : decode cX6_oddsAt 15 = .ok (.aaload, 1) := dc_50 (sg_at zd_dX6_oddsAt_0 9 rfl rfl)
theorem dX6_oddsAt_16 : decode cX6_oddsAt 16 = .ok (.aload_n 0, 1) := dc_42 (sg_at zd_dX6_oddsAt_0 10 rfl rfl)
theorem dX6_oddsAt_17 : decode cX6_oddsAt 17 = .ok (.getfield 25, 3) := dc_180 (sg_at zd_dX6_oddsAt_0 11 rfl rfl) rfl
theorem dX6_oddsAt_20 : decode cX6_oddsAt 20 = .ok (.aload_n 0, 1) := dc_42 (sg_at zd_dX6_oddsAt_0 12 rfl rfl)
theorem dX6_oddsAt_21 : decode cX6_oddsAt 21 = .ok (.getfield 29, 3) := dc_180 (sg_at zd_dX6_oddsAt_0 13 rfl rfl) rfl
theorem dX6_oddsAt_24 : decode cX6_oddsAt 24 = .ok (.invokevirtual 80, 3) := dc_182 (sg_at zd_dX6_oddsAt_0 14 rfl rfl) rfl
theorem dX6_oddsAt_27 : decode cX6_oddsAt 27 = .ok (.lstore 4, 2) := dc_55 (sg_at zd_dX6_oddsAt_0 15 rfl rfl)
theorem dX6_oddsAt_29 : decode cX6_oddsAt 29 = .ok (.lload 4, 2) := dc_22 (sg_at zd_dX6_oddsAt_0 16 rfl rfl)
theorem dX6_oddsAt_31 : decode cX6_oddsAt 31 = .ok (.ldc2_w 90, 3) := dc_20 (sg_at zd_dX6_oddsAt_0 17 rfl rfl) rfl
theorem dX6_oddsAt_34 : decode cX6_oddsAt 34 = .ok (.lcmp, 1) := dc_148 (sg_at zd_dX6_oddsAt_0 18 rfl rfl)
theorem dX6_oddsAt_35 : decode cX6_oddsAt 35 = .ok (.ifCond .ne 20, 3) := dc_154 (sg_at zd_dX6_oddsAt_0 19 rfl rfl) rfl
theorem zd_dX6_oddsAt_38 : sg (cX6_oddsAt.data.toList.drop 38) [[3], [16, 100], [16, 20], [42], [29], [28], [182, 0, 132], [104], [100], [184, 0, 135], [172], [9], [20, 0, 137], [22, 4], [184, 0, 96], [184, 0, 102], [136], [172]] = true := by decide +kernel
theorem dX6_oddsAt_38 : decode cX6_oddsAt 38 = .ok (.iconst 0, 1) := dc_3 (sg_at zd_dX6_oddsAt_38 0 rfl rfl)
theorem dX6_oddsAt_39 : decode cX6_oddsAt 39 = .ok (.bipush 100, 2) := dc_16 (sg_at zd_dX6_oddsAt_38 1 rfl rfl) rfl
theorem dX6_oddsAt_41 : decode cX6_oddsAt 41 = .ok (.bipush 20, 2) := dc_16 (sg_at zd_dX6_oddsAt_38 2 rfl rfl) rfl
theorem dX6_oddsAt_43 : decode cX6_oddsAt 43 = .ok (.aload_n 0, 1) := dc_42 (sg_at zd_dX6_oddsAt_38 3 rfl rfl)
theorem dX6_oddsAt_44 : decode cX6_oddsAt 44 = .ok (.iload_n 3, 1) := dc_29 (sg_at zd_dX6_oddsAt_38 4 rfl rfl)
theorem dX6_oddsAt_45 : decode cX6_oddsAt 45 = .ok (.iload_n 2, 1) := dc_28 (sg_at zd_dX6_oddsAt_38 5 rfl rfl)
theorem dX6_oddsAt_46 : decode cX6_oddsAt 46 = .ok (.invokevirtual 132, 3) := dc_182 (sg_at zd_dX6_oddsAt_38 6 rfl rfl) rfl
theorem dX6_oddsAt_49 : decode cX6_oddsAt 49 = .ok (.imul, 1) := dc_104 (sg_at zd_dX6_oddsAt_38 7 rfl rfl)
theorem dX6_oddsAt_50 : decode cX6_oddsAt 50 = .ok (.isub, 1) := dc_100 (sg_at zd_dX6_oddsAt_38 8 rfl rfl)
theorem dX6_oddsAt_51 : decode cX6_oddsAt 51 = .ok (.invokestatic 135, 3) := dc_184 (sg_at zd_dX6_oddsAt_38 9 rfl rfl) rfl
theorem dX6_oddsAt_54 : decode cX6_oddsAt 54 = .ok (.ireturn, 1) := dc_172 (sg_at zd_dX6_oddsAt_38 10 rfl rfl)
theorem dX6_oddsAt_55 : decode cX6_oddsAt 55 = .ok (.lconst 0, 1) := dc_9 (sg_at zd_dX6_oddsAt_38 11 rfl rfl)
theorem dX6_oddsAt_56 : decode cX6_oddsAt 56 = .ok (.ldc2_w 137, 3) := dc_20 (sg_at zd_dX6_oddsAt_38 12 rfl rfl) rfl
theorem dX6_oddsAt_59 : decode cX6_oddsAt 59 = .ok (.lload 4, 2) := dc_22 (sg_at zd_dX6_oddsAt_38 13 rfl rfl)
theorem dX6_oddsAt_61 : decode cX6_oddsAt 61 = .ok (.invokestatic 96, 3) := dc_184 (sg_at zd_dX6_oddsAt_38 14 rfl rfl) rfl
theorem dX6_oddsAt_64 : decode cX6_oddsAt 64 = .ok (.invokestatic 102, 3) := dc_184 (sg_at zd_dX6_oddsAt_38 15 rfl rfl) rfl
theorem dX6_oddsAt_67 : decode cX6_oddsAt 67 = .ok (.l2i, 1) := dc_136 (sg_at zd_dX6_oddsAt_38 16 rfl rfl)
theorem dX6_oddsAt_68 : decode cX6_oddsAt 68 = .ok (.ireturn, 1) := dc_172 (sg_at zd_dX6_oddsAt_38 17 rfl rfl)
theorem zd_dX6_worthAt_0 : sg (cX6_worthAt.data.toList.drop 0) [[42], [27], [28], [29], [182, 0, 141], [42], [180, 0, 9], [180, 0, 57], [180, 0, 112], [28], [46], [104], [172]] = true := by decide +kernel
theorem dX6_worthAt_0 : decode cX6_worthAt 0 = .ok (.aload_n 0, 1) := dc_42 (sg_at zd_dX6_worthAt_0 0 rfl rfl)
theorem dX6_worthAt_1 : decode cX6_worthAt 1 = .ok (.iload_n 1, 1) := dc_27 (sg_at zd_dX6_worthAt_0 1 rfl rfl)
theorem dX6_worthAt_2 : decode cX6_worthAt 2 = .ok (.iload_n 2, 1) := dc_28 (sg_at zd_dX6_worthAt_0 2 rfl rfl)
theorem dX6_worthAt_3 : decode cX6_worthAt 3 = .ok (.iload_n 3, 1) := dc_29 (sg_at zd_dX6_worthAt_0 3 rfl rfl)
theorem dX6_worthAt_4 : decode cX6_worthAt 4 = .ok (.invokevirtual 141, 3) := dc_182 (sg_at zd_dX6_worthAt_0 4 rfl rfl) rfl
theorem dX6_worthAt_7 : decode cX6_worthAt 7 = .ok (.aload_n 0, 1) := dc_42 (sg_at zd_dX6_worthAt_0 5 rfl rfl)
theorem dX6_worthAt_8 : decode cX6_worthAt 8 = .ok (.getfield 9, 3) := dc_180 (sg_at zd_dX6_worthAt_0 6 rfl rfl) rfl
theorem dX6_worthAt_11 : decode cX6_worthAt 11 = .ok (.getfield 57, 3) := dc_180 (sg_at zd_dX6_worthAt_0 7 rfl rfl) rfl
theorem dX6_worthAt_14 : decode cX6_worthAt 14 = .ok (.getfield 112, 3) := dc_180 (sg_at zd_dX6_worthAt_0 8 rfl rfl) rfl
theorem dX6_worthAt_17 : decode cX6_worthAt 17 = .ok (.iload_n 2, 1) := dc_28 (sg_at zd_dX6_worthAt_0 9 rfl rfl)
theorem dX6_worthAt_18 : decode cX6_worthAt 18 = .ok (.iaload, 1) := dc_46 (sg_at zd_dX6_worthAt_0 10 rfl rfl)
theorem dX6_worthAt_19 : decode cX6_worthAt 19 = .ok (.imul, 1) := dc_104 (sg_at zd_dX6_worthAt_0 11 rfl rfl)
theorem dX6_worthAt_20 : decode cX6_worthAt 20 = .ok (.ireturn, 1) := dc_172 (sg_at zd_dX6_worthAt_0 12 rfl rfl)
theorem zd_dX0_makePlan_0 : sg (cX0_makePlan.data.toList.drop 0) [[43], [180, 0, 43], [180, 0, 49], [58, 4], [25, 4], [44], [180, 0, 55], [182, 0, 61], [54, 5], [42], [180, 0, 30], [25, 4], [180, 0, 71], [3], [79], [25, 4], [180, 0, 71], [4], [100], [54, 6]] = true := by decide +kernel
theorem dX0_makePlan_0 : decode cX0_makePlan 0 = .ok (.aload_n 1, 1) := dc_43 (sg_at zd_dX0_makePlan_0 0 rfl rfl)
theorem dX0_makePlan_1 : decode cX0_makePlan 1 = .ok (.getfield 43, 3) := dc_180 (sg_at zd_dX0_makePlan_0 1 rfl rfl) rfl
theorem dX0_makePlan_4 : decode cX0_makePlan 4 = .ok (.getfield 49, 3) := dc_180 (sg_at zd_dX0_makePlan_0 2 rfl rfl) rfl
theorem dX0_makePlan_7 : decode cX0_makePlan 7 = .ok (.astore 4, 2) := dc_58 (sg_at zd_dX0_makePlan_0 3 rfl rfl)
theorem dX0_makePlan_9 : decode cX0_makePlan 9 = .ok (.aload 4, 2) := dc_25 (sg_at zd_dX0_makePlan_0 4 rfl rfl)
theorem dX0_makePlan_11 : decode cX0_makePlan 11 = .ok (.aload_n 2, 1) := dc_44 (sg_at zd_dX0_makePlan_0 5 rfl rfl)
theorem dX0_makePlan_12 : decode cX0_makePlan 12 = .ok (.getfield 55, 3) := dc_180 (sg_at zd_dX0_makePlan_0 6 rfl rfl) rfl
theorem dX0_makePlan_15 : decode cX0_makePlan 15 = .ok (.invokevirtual 61, 3) := dc_182 (sg_at zd_dX0_makePlan_0 7 rfl rfl) rfl
theorem dX0_makePlan_18 : decode cX0_makePlan 18 = .ok (.istore 5, 2) := dc_54 (sg_at zd_dX0_makePlan_0 8 rfl rfl)
theorem dX0_makePlan_20 : decode cX0_makePlan 20 = .ok (.aload_n 0, 1) := dc_42 (sg_at zd_dX0_makePlan_0 9 rfl rfl)
theorem dX0_makePlan_21 : decode cX0_makePlan 21 = .ok (.getfield 30, 3) := dc_180 (sg_at zd_dX0_makePlan_0 10 rfl rfl) rfl
theorem dX0_makePlan_24 : decode cX0_makePlan 24 = .ok (.aload 4, 2) := dc_25 (sg_at zd_dX0_makePlan_0 11 rfl rfl)
theorem dX0_makePlan_26 : decode cX0_makePlan 26 = .ok (.getfield 71, 3) := dc_180 (sg_at zd_dX0_makePlan_0 12 rfl rfl) rfl
theorem dX0_makePlan_29 : decode cX0_makePlan 29 = .ok (.iconst 0, 1) := dc_3 (sg_at zd_dX0_makePlan_0 13 rfl rfl)
theorem dX0_makePlan_30 : decode cX0_makePlan 30 = .ok (.iastore, 1) := dc_79 (sg_at zd_dX0_makePlan_0 14 rfl rfl)
theorem dX0_makePlan_31 : decode cX0_makePlan 31 = .ok (.aload 4, 2) := dc_25 (sg_at zd_dX0_makePlan_0 15 rfl rfl)
theorem dX0_makePlan_33 : decode cX0_makePlan 33 = .ok (.getfield 71, 3) := dc_180 (sg_at zd_dX0_makePlan_0 16 rfl rfl) rfl
theorem dX0_makePlan_36 : decode cX0_makePlan 36 = .ok (.iconst 1, 1) := dc_4 (sg_at zd_dX0_makePlan_0 17 rfl rfl)
theorem dX0_makePlan_37 : decode cX0_makePlan 37 = .ok (.isub, 1) := dc_100 (sg_at zd_dX0_makePlan_0 18 rfl rfl)
theorem dX0_makePlan_38 : decode cX0_makePlan 38 = .ok (.istore 6, 2) := dc_54 (sg_at zd_dX0_makePlan_0 19 rfl rfl)
theorem zd_dX0_makePlan_40 : sg (cX0_makePlan.data.toList.drop 40) [[21, 6], [21, 5], [161, 0, 112], [42], [180, 0, 33], [21, 6], [25, 4], [25, 4], [180, 0, 105], [21, 6], [46], [43], [29], [21, 6], [182, 0, 107], [96], [182, 0, 61], [79], [43], [29]] = true := by decide +kernel
theorem dX0_makePlan_40 : decode cX0_makePlan 40 = .ok (.iload 6, 2) := dc_21 (sg_at zd_dX0_makePlan_40 0 rfl rfl)
theorem dX0_makePlan_42 : decode cX0_makePlan 42 = .ok (.iload 5, 2) := dc_21 (sg_at zd_dX0_makePlan_40 1 rfl rfl)
theorem dX0_makePlan_44 : decode cX0_makePlan 44 = .ok (.if_icmp .lt 112, 3) := dc_161 (sg_at zd_dX0_makePlan_40 2 rfl rfl) rfl
theorem dX0_makePlan_47 : decode cX0_makePlan 47 = .ok (.aload_n 0, 1) := dc_42 (sg_at zd_dX0_makePlan_40 3 rfl rfl)
theorem dX0_makePlan_48 : decode cX0_makePlan 48 = .ok (.getfield 33, 3) := dc_180 (sg_at zd_dX0_makePlan_40 4 rfl rfl) rfl
theorem dX0_makePlan_51 : decode cX0_makePlan 51 = .ok (.iload 6, 2) := dc_21 (sg_at zd_dX0_makePlan_40 5 rfl rfl)
theorem dX0_makePlan_53 : decode cX0_makePlan 53 = .ok (.aload 4, 2) := dc_25 (sg_at zd_dX0_makePlan_40 6 rfl rfl)
theorem dX0_makePlan_55 : decode cX0_makePlan 55 = .ok (.aload 4, 2) := dc_25 (sg_at zd_dX0_makePlan_40 7 rfl rfl)
theorem dX0_makePlan_57 : decode cX0_makePlan 57 = .ok (.getfield 105, 3) := dc_180 (sg_at zd_dX0_makePlan_40 8 rfl rfl) rfl
theorem dX0_makePlan_60 : decode cX0_makePlan 60 = .ok (.iload 6, 2) := dc_21 (sg_at zd_dX0_makePlan_40 9 rfl rfl)
theorem dX0_makePlan_62 : decode cX0_makePlan 62 = .ok (.iaload, 1) := dc_46 (sg_at zd_dX0_makePlan_40 10 rfl rfl)
theorem dX0_makePlan_63 : decode cX0_makePlan 63 = .ok (.aload_n 1, 1) := dc_43 (sg_at zd_dX0_makePlan_40 11 rfl rfl)
theorem dX0_makePlan_64 : decode cX0_makePlan 64 = .ok (.iload_n 3, 1) := dc_29 (sg_at zd_dX0_makePlan_40 12 rfl rfl)
theorem dX0_makePlan_65 : decode cX0_makePlan 65 = .ok (.iload 6, 2) := dc_21 (sg_at zd_dX0_makePlan_40 13 rfl rfl)
theorem dX0_makePlan_67 : decode cX0_makePlan 67 = .ok (.invokevirtual 107, 3) := dc_182 (sg_at zd_dX0_makePlan_40 14 rfl rfl) rfl
theorem dX0_makePlan_70 : decode cX0_makePlan 70 = .ok (.iadd, 1) := dc_96 (sg_at zd_dX0_makePlan_40 15 rfl rfl)
theorem dX0_makePlan_71 : decode cX0_makePlan 71 = .ok (.invokevirtual 61, 3) := dc_182 (sg_at zd_dX0_makePlan_40 16 rfl rfl) rfl
theorem dX0_makePlan_74 : decode cX0_makePlan 74 = .ok (.iastore, 1) := dc_79 (sg_at zd_dX0_makePlan_40 17 rfl rfl)
theorem dX0_makePlan_75 : decode cX0_makePlan 75 = .ok (.aload_n 1, 1) := dc_43 (sg_at zd_dX0_makePlan_40 18 rfl rfl)
theorem dX0_makePlan_76 : decode cX0_makePlan 76 = .ok (.iload_n 3, 1) := dc_29 (sg_at zd_dX0_makePlan_40 19 rfl rfl)
theorem zd_dX0_makePlan_77 : sg (cX0_makePlan.data.toList.drop 77) [[21, 6], [44], [180, 0, 81], [29], [46], [182, 0, 94], [42], [180, 0, 30], [42], [180, 0, 33], [21, 6], [46], [46], [96], [54, 7], [42], [180, 0, 36], [21, 6], [21, 7], [42]] = true := by decide +kernel
theorem dX0_makePlan_77 : decode cX0_makePlan 77 = .ok (.iload 6, 2) := dc_21 (sg_at zd_dX0_makePlan_77 0 rfl rfl)
theorem dX0_makePlan_79 : decode cX0_makePlan 79 = .ok (.aload_n 2, 1) := dc_44 (sg_at zd_dX0_makePlan_77 1 rfl rfl)
theorem dX0_makePlan_80 : decode cX0_makePlan 80 = .ok (.getfield 81, 3) := dc_180 (sg_at zd_dX0_makePlan_77 2 rfl rfl) rfl
theorem dX0_makePlan_83 : decode cX0_makePlan 83 = .ok (.iload_n 3, 1) := dc_29 (sg_at zd_dX0_makePlan_77 3 rfl rfl)
theorem dX0_makePlan_84 : decode cX0_makePlan 84 = .ok (.iaload, 1) := dc_46 (sg_at zd_dX0_makePlan_77 4 rfl rfl)
theorem dX0_makePlan_85 : decode cX0_makePlan 85 = .ok (.invokevirtual 94, 3) := dc_182 (sg_at zd_dX0_makePlan_77 5 rfl rfl) rfl
theorem dX0_makePlan_88 : decode cX0_makePlan 88 = .ok (.aload_n 0, 1) := dc_42 (sg_at zd_dX0_makePlan_77 6 rfl rfl)
theorem dX0_makePlan_89 : decode cX0_makePlan 89 = .ok (.getfield 30, 3) := dc_180 (sg_at zd_dX0_makePlan_77 7 rfl rfl) rfl
theorem dX0_makePlan_92 : decode cX0_makePlan 92 = .ok (.aload_n 0, 1) := dc_42 (sg_at zd_dX0_makePlan_77 8 rfl rfl)
theorem dX0_makePlan_93 : decode cX0_makePlan 93 = .ok (.getfield 33, 3) := dc_180 (sg_at zd_dX0_makePlan_77 9 rfl rfl) rfl
theorem dX0_makePlan_96 : decode cX0_makePlan 96 = .ok (.iload 6, 2) := dc_21 (sg_at zd_dX0_makePlan_77 10 rfl rfl)
theorem dX0_makePlan_98 : decode cX0_makePlan 98 = .ok (.iaload, 1) := dc_46 (sg_at zd_dX0_makePlan_77 11 rfl rfl)
theorem dX0_makePlan_99 : decode cX0_makePlan 99 = .ok (.iaload, 1) := dc_46 (sg_at zd_dX0_makePlan_77 12 rfl rfl)
theorem dX0_makePlan_100 : decode cX0_makePlan 100 = .ok (.iadd, 1) := dc_96 (sg_at zd_dX0_makePlan_77 13 rfl rfl)
theorem dX0_makePlan_101 : decode cX0_makePlan 101 = .ok (.istore 7, 2) := dc_54 (sg_at zd_dX0_makePlan_77 14 rfl rfl)
theorem dX0_makePlan_103 : decode cX0_makePlan 103 = .ok (.aload_n 0, 1) := dc_42 (sg_at zd_dX0_makePlan_77 15 rfl rfl)
theorem dX0_makePlan_104 : decode cX0_makePlan 104 = .ok (.getfield 36, 3) := dc_180 (sg_at zd_dX0_makePlan_77 16 rfl rfl) rfl
theorem dX0_makePlan_107 : decode cX0_makePlan 107 = .ok (.iload 6, 2) := dc_21 (sg_at zd_dX0_makePlan_77 17 rfl rfl)
theorem dX0_makePlan_109 : decode cX0_makePlan 109 = .ok (.iload 7, 2) := dc_21 (sg_at zd_dX0_makePlan_77 18 rfl rfl)
theorem dX0_makePlan_111 : decode cX0_makePlan 111 = .ok (.aload_n 0, 1) := dc_42 (sg_at zd_dX0_makePlan_77 19 rfl rfl)
theorem zd_dX0_makePlan_112 : sg (cX0_makePlan.data.toList.drop 112) [[180, 0, 30], [21, 6], [4], [96], [46], [161, 0, 7], [4], [167, 0, 4], [3], [84], [42], [180, 0, 30], [21, 6], [21, 7], [42], [180, 0, 30], [21, 6], [4], [96], [46]] = true := by decide +kernel
theorem dX0_makePlan_112 : decode cX0_makePlan 112 = .ok (.getfield 30, 3) := dc_180 (sg_at zd_dX0_makePlan_112 0 rfl rfl) rfl
theorem dX0_makePlan_115 : decode cX0_makePlan 115 = .ok (.iload 6, 2) := dc_21 (sg_at zd_dX0_makePlan_112 1 rfl rfl)
theorem dX0_makePlan_117 : decode cX0_makePlan 117 = .ok (.iconst 1, 1) := dc_4 (sg_at zd_dX0_makePlan_112 2 rfl rfl)
theorem dX0_makePlan_118 : decode cX0_makePlan 118 = .ok (.iadd, 1) := dc_96 (sg_at zd_dX0_makePlan_112 3 rfl rfl)
theorem dX0_makePlan_119 : decode cX0_makePlan 119 = .ok (.iaload, 1) := dc_46 (sg_at zd_dX0_makePlan_112 4 rfl rfl)
theorem dX0_makePlan_120 : decode cX0_makePlan 120 = .ok (.if_icmp .lt 7, 3) := dc_161 (sg_at zd_dX0_makePlan_112 5 rfl rfl) rfl
theorem dX0_makePlan_123 : decode cX0_makePlan 123 = .ok (.iconst 1, 1) := dc_4 (sg_at zd_dX0_makePlan_112 6 rfl rfl)
theorem dX0_makePlan_124 : decode cX0_makePlan 124 = .ok (.goto 4, 3) := dc_167 (sg_at zd_dX0_makePlan_112 7 rfl rfl) rfl
theorem dX0_makePlan_127 : decode cX0_makePlan 127 = .ok (.iconst 0, 1) := dc_3 (sg_at zd_dX0_makePlan_112 8 rfl rfl)
theorem dX0_makePlan_128 : decode cX0_makePlan 128 = .ok (.bastore, 1) := dc_84 (sg_at zd_dX0_makePlan_112 9 rfl rfl)
theorem dX0_makePlan_129 : decode cX0_makePlan 129 = .ok (.aload_n 0, 1) := dc_42 (sg_at zd_dX0_makePlan_112 10 rfl rfl)
theorem dX0_makePlan_130 : decode cX0_makePlan 130 = .ok (.getfield 30, 3) := dc_180 (sg_at zd_dX0_makePlan_112 11 rfl rfl) rfl
theorem dX0_makePlan_133 : decode cX0_makePlan 133 = .ok (.iload 6, 2) := dc_21 (sg_at zd_dX0_makePlan_112 12 rfl rfl)
theorem dX0_makePlan_135 : decode cX0_makePlan 135 = .ok (.iload 7, 2) := dc_21 (sg_at zd_dX0_makePlan_112 13 rfl rfl)
theorem dX0_makePlan_137 : decode cX0_makePlan 137 = .ok (.aload_n 0, 1) := dc_42 (sg_at zd_dX0_makePlan_112 14 rfl rfl)
theorem dX0_makePlan_138 : decode cX0_makePlan 138 = .ok (.getfield 30, 3) := dc_180 (sg_at zd_dX0_makePlan_112 15 rfl rfl) rfl
theorem dX0_makePlan_141 : decode cX0_makePlan 141 = .ok (.iload 6, 2) := dc_21 (sg_at zd_dX0_makePlan_112 16 rfl rfl)
theorem dX0_makePlan_143 : decode cX0_makePlan 143 = .ok (.iconst 1, 1) := dc_4 (sg_at zd_dX0_makePlan_112 17 rfl rfl)
theorem dX0_makePlan_144 : decode cX0_makePlan 144 = .ok (.iadd, 1) := dc_96 (sg_at zd_dX0_makePlan_112 18 rfl rfl)
theorem dX0_makePlan_145 : decode cX0_makePlan 145 = .ok (.iaload, 1) := dc_46 (sg_at zd_dX0_makePlan_112 19 rfl rfl)
theorem zd_dX0_makePlan_146 : sg (cX0_makePlan.data.toList.drop 146) [[184, 0, 110], [79], [132, 6, 255], [167, 255, 143], [42], [42], [180, 0, 30], [21, 5], [46], [181, 0, 115], [42], [21, 5], [25, 4], [180, 0, 71], [182, 0, 118], [177]] = true := by decide +kernel
theorem dX0_makePlan_146 : decode cX0_makePlan 146 = .ok (.invokestatic 110, 3) := dc_184 (sg_at zd_dX0_makePlan_146 0 rfl rfl) rfl
theorem dX0_makePlan_149 : decode cX0_makePlan 149 = .ok (.iastore, 1) := dc_79 (sg_at zd_dX0_makePlan_146 1 rfl rfl)
theorem dX0_makePlan_150 : decode cX0_makePlan 150 = .ok (.iinc 6 (-1), 3) := dc_132 (sg_at zd_dX0_makePlan_146 2 rfl rfl) rfl
theorem dX0_makePlan_153 : decode cX0_makePlan 153 = .ok (.goto (-113), 3) := dc_167 (sg_at zd_dX0_makePlan_146 3 rfl rfl) rfl
theorem dX0_makePlan_156 : decode cX0_makePlan 156 = .ok (.aload_n 0, 1) := dc_42 (sg_at zd_dX0_makePlan_146 4 rfl rfl)
theorem dX0_makePlan_157 : decode cX0_makePlan 157 = .ok (.aload_n 0, 1) := dc_42 (sg_at zd_dX0_makePlan_146 5 rfl rfl)
theorem dX0_makePlan_158 : decode cX0_makePlan 158 = .ok (.getfield 30, 3) := dc_180 (sg_at zd_dX0_makePlan_146 6 rfl rfl) rfl
theorem dX0_makePlan_161 : decode cX0_makePlan 161 = .ok (.iload 5, 2) := dc_21 (sg_at zd_dX0_makePlan_146 7 rfl rfl)
theorem dX0_makePlan_163 : decode cX0_makePlan 163 = .ok (.iaload, 1) := dc_46 (sg_at zd_dX0_makePlan_146 8 rfl rfl)
theorem dX0_makePlan_164 : decode cX0_makePlan 164 = .ok (.putfield 115, 3) := dc_181 (sg_at zd_dX0_makePlan_146 9 rfl rfl) rfl
theorem dX0_makePlan_167 : decode cX0_makePlan 167 = .ok (.aload_n 0, 1) := dc_42 (sg_at zd_dX0_makePlan_146 10 rfl rfl)
theorem dX0_makePlan_168 : decode cX0_makePlan 168 = .ok (.iload 5, 2) := dc_21 (sg_at zd_dX0_makePlan_146 11 rfl rfl)
theorem dX0_makePlan_170 : decode cX0_makePlan 170 = .ok (.aload 4, 2) := dc_25 (sg_at zd_dX0_makePlan_146 12 rfl rfl)
theorem dX0_makePlan_172 : decode cX0_makePlan 172 = .ok (.getfield 71, 3) := dc_180 (sg_at zd_dX0_makePlan_146 13 rfl rfl) rfl
theorem dX0_makePlan_175 : decode cX0_makePlan 175 = .ok (.invokevirtual 118, 3) := dc_182 (sg_at zd_dX0_makePlan_146 14 rfl rfl) rfl
theorem dX0_makePlan_178 : decode cX0_makePlan 178 = .ok (.return_, 1) := dc_177 (sg_at zd_dX0_makePlan_146 15 rfl rfl)
theorem zd_dX8_columnOf_0 : sg (cX8_columnOf.data.toList.drop 0) [[42], [180, 0, 32], [158, 0, 12], [27], [42], [180, 0, 32], [112], [167, 0, 4], [3], [172]] = true := by decide +kernel
theorem dX8_columnOf_0 : decode cX8_columnOf 0 = .ok (.aload_n 0, 1) := dc_42 (sg_at zd_dX8_columnOf_0 0 rfl rfl)
theorem dX8_columnOf_1 : decode cX8_columnOf 1 = .ok (.getfield 32, 3) := dc_180 (sg_at zd_dX8_columnOf_0 1 rfl rfl) rfl
theorem dX8_columnOf_4 : decode cX8_columnOf 4 = .ok (.ifCond .le 12, 3) := dc_158 (sg_at zd_dX8_columnOf_0 2 rfl rfl) rfl
theorem dX8_columnOf_7 : decode cX8_columnOf 7 = .ok (.iload_n 1, 1) := dc_27 (sg_at zd_dX8_columnOf_0 3 rfl rfl)
theorem dX8_columnOf_8 : decode cX8_columnOf 8 = .ok (.aload_n 0, 1) := dc_42 (sg_at zd_dX8_columnOf_0 4 rfl rfl)
theorem dX8_columnOf_9 : decode cX8_columnOf 9 = .ok (.getfield 32, 3) := dc_180 (sg_at zd_dX8_columnOf_0 5 rfl rfl) rfl
theorem dX8_columnOf_12 : decode cX8_columnOf 12 = .ok (.irem, 1) := dc_112 (sg_at zd_dX8_columnOf_0 6 rfl rfl)
theorem dX8_columnOf_13 : decode cX8_columnOf 13 = .ok (.goto 4, 3) := dc_167 (sg_at zd_dX8_columnOf_0 7 rfl rfl) rfl
theorem dX8_columnOf_16 : decode cX8_columnOf 16 = .ok (.iconst 0, 1) := dc_3 (sg_at zd_dX8_columnOf_0 8 rfl rfl)
theorem dX8_columnOf_17 : decode cX8_columnOf 17 = .ok (.ireturn, 1) := dc_172 (sg_at zd_dX8_columnOf_0 9 rfl rfl)
theorem zd_dX8_cellBeside_0 : sg (cX8_cellBeside.data.toList.drop 0) [[42], [27], [182, 0, 79], [62], [42], [27], [182, 0, 82], [54, 4], [28]] = true := by decide +kernel
theorem dX8_cellBeside_0 : decode cX8_cellBeside 0 = .ok (.aload_n 0, 1) := dc_42 (sg_at zd_dX8_cellBeside_0 0 rfl rfl)
theorem dX8_cellBeside_1 : decode cX8_cellBeside 1 = .ok (.iload_n 1, 1) := dc_27 (sg_at zd_dX8_cellBeside_0 1 rfl rfl)
theorem dX8_cellBeside_2 : decode cX8_cellBeside 2 = .ok (.invokevirtual 79, 3) := dc_182 (sg_at zd_dX8_cellBeside_0 2 rfl rfl) rfl
theorem dX8_cellBeside_5 : decode cX8_cellBeside 5 = .ok (.istore_n 3, 1) := dc_62 (sg_at zd_dX8_cellBeside_0 3 rfl rfl)
theorem dX8_cellBeside_6 : decode cX8_cellBeside 6 = .ok (.aload_n 0, 1) := dc_42 (sg_at zd_dX8_cellBeside_0 4 rfl rfl)
theorem dX8_cellBeside_7 : decode cX8_cellBeside 7 = .ok (.iload_n 1, 1) := dc_27 (sg_at zd_dX8_cellBeside_0 5 rfl rfl)
theorem dX8_cellBeside_8 : decode cX8_cellBeside 8 = .ok (.invokevirtual 82, 3) := dc_182 (sg_at zd_dX8_cellBeside_0 6 rfl rfl) rfl
theorem dX8_cellBeside_11 : decode cX8_cellBeside 11 = .ok (.istore 4, 2) := dc_54 (sg_at zd_dX8_cellBeside_0 7 rfl rfl)
theorem dX8_cellBeside_13 : decode cX8_cellBeside 13 = .ok (.iload_n 2, 1) := dc_28 (sg_at zd_dX8_cellBeside_0 8 rfl rfl)
theorem dX8_cellBeside_14 : decode cX8_cellBeside 14 = .ok (.tableswitch 98 0 3 #[30, 46, 64, 86], 30) := by decide +kernel
theorem zd_dX8_cellBeside_44 : sg (cX8_cellBeside.data.toList.drop 44) [[21, 4], [158, 0, 12], [27], [42], [180, 0, 32], [100], [167, 0, 4], [2], [172], [29], [42], [180, 0, 32], [4], [100], [162, 0, 9], [27], [4], [96], [167, 0, 4], [2]] = true := by decide +kernel
theorem dX8_cellBeside_44 : decode cX8_cellBeside 44 = .ok (.iload 4, 2) := dc_21 (sg_at zd_dX8_cellBeside_44 0 rfl rfl)
theorem dX8_cellBeside_46 : decode cX8_cellBeside 46 = .ok (.ifCond .le 12, 3) := dc_158 (sg_at zd_dX8_cellBeside_44 1 rfl rfl) rfl
theorem dX8_cellBeside_49 : decode cX8_cellBeside 49 = .ok (.iload_n 1, 1) := dc_27 (sg_at zd_dX8_cellBeside_44 2 rfl rfl)
theorem dX8_cellBeside_50 : decode cX8_cellBeside 50 = .ok (.aload_n 0, 1) := dc_42 (sg_at zd_dX8_cellBeside_44 3 rfl rfl)
theorem dX8_cellBeside_51 : decode cX8_cellBeside 51 = .ok (.getfield 32, 3) := dc_180 (sg_at zd_dX8_cellBeside_44 4 rfl rfl) rfl
theorem dX8_cellBeside_54 : decode cX8_cellBeside 54 = .ok (.isub, 1) := dc_100 (sg_at zd_dX8_cellBeside_44 5 rfl rfl)
theorem dX8_cellBeside_55 : decode cX8_cellBeside 55 = .ok (.goto 4, 3) := dc_167 (sg_at zd_dX8_cellBeside_44 6 rfl rfl) rfl
theorem dX8_cellBeside_58 : decode cX8_cellBeside 58 = .ok (.iconst (-1), 1) := dc_2 (sg_at zd_dX8_cellBeside_44 7 rfl rfl)
theorem dX8_cellBeside_59 : decode cX8_cellBeside 59 = .ok (.ireturn, 1) := dc_172 (sg_at zd_dX8_cellBeside_44 8 rfl rfl)
theorem dX8_cellBeside_60 : decode cX8_cellBeside 60 = .ok (.iload_n 3, 1) := dc_29 (sg_at zd_dX8_cellBeside_44 9 rfl rfl)
theorem dX8_cellBeside_61 : decode cX8_cellBeside 61 = .ok (.aload_n 0, 1) := dc_42 (sg_at zd_dX8_cellBeside_44 10 rfl rfl)
theorem dX8_cellBeside_62 : decode cX8_cellBeside 62 = .ok (.getfield 32, 3) := dc_180 (sg_at zd_dX8_cellBeside_44 11 rfl rfl) rfl
theorem dX8_cellBeside_65 : decode cX8_cellBeside 65 = .ok (.iconst 1, 1) := dc_4 (sg_at zd_dX8_cellBeside_44 12 rfl rfl)
theorem dX8_cellBeside_66 : decode cX8_cellBeside 66 = .ok (.isub, 1) := dc_100 (sg_at zd_dX8_cellBeside_44 13 rfl rfl)
theorem dX8_cellBeside_67 : decode cX8_cellBeside 67 = .ok (.if_icmp .ge 9, 3) := dc_162 (sg_at zd_dX8_cellBeside_44 14 rfl rfl) rfl
theorem dX8_cellBeside_70 : decode cX8_cellBeside 70 = .ok (.iload_n 1, 1) := dc_27 (sg_at zd_dX8_cellBeside_44 15 rfl rfl)
theorem dX8_cellBeside_71 : decode cX8_cellBeside 71 = .ok (.iconst 1, 1) := dc_4 (sg_at zd_dX8_cellBeside_44 16 rfl rfl)
theorem dX8_cellBeside_72 : decode cX8_cellBeside 72 = .ok (.iadd, 1) := dc_96 (sg_at zd_dX8_cellBeside_44 17 rfl rfl)
theorem dX8_cellBeside_73 : decode cX8_cellBeside 73 = .ok (.goto 4, 3) := dc_167 (sg_at zd_dX8_cellBeside_44 18 rfl rfl) rfl
theorem dX8_cellBeside_76 : decode cX8_cellBeside 76 = .ok (.iconst (-1), 1) := dc_2 (sg_at zd_dX8_cellBeside_44 19 rfl rfl)
theorem zd_dX8_cellBeside_77 : sg (cX8_cellBeside.data.toList.drop 77) [[172], [21, 4], [42], [180, 0, 36], [4], [100], [162, 0, 12], [27], [42], [180, 0, 32], [96], [167, 0, 4], [2], [172], [29], [158, 0, 9], [27], [4], [100], [167, 0, 4]] = true := by decide +kernel
theorem dX8_cellBeside_77 : decode cX8_cellBeside 77 = .ok (.ireturn, 1) := dc_172 (sg_at zd_dX8_cellBeside_77 0 rfl rfl)
theorem dX8_cellBeside_78 : decode cX8_cellBeside 78 = .ok (.iload 4, 2) := dc_21 (sg_at zd_dX8_cellBeside_77 1 rfl rfl)
theorem dX8_cellBeside_80 : decode cX8_cellBeside 80 = .ok (.aload_n 0, 1) := dc_42 (sg_at zd_dX8_cellBeside_77 2 rfl rfl)
theorem dX8_cellBeside_81 : decode cX8_cellBeside 81 = .ok (.getfield 36, 3) := dc_180 (sg_at zd_dX8_cellBeside_77 3 rfl rfl) rfl
theorem dX8_cellBeside_84 : decode cX8_cellBeside 84 = .ok (.iconst 1, 1) := dc_4 (sg_at zd_dX8_cellBeside_77 4 rfl rfl)
theorem dX8_cellBeside_85 : decode cX8_cellBeside 85 = .ok (.isub, 1) := dc_100 (sg_at zd_dX8_cellBeside_77 5 rfl rfl)
theorem dX8_cellBeside_86 : decode cX8_cellBeside 86 = .ok (.if_icmp .ge 12, 3) := dc_162 (sg_at zd_dX8_cellBeside_77 6 rfl rfl) rfl
theorem dX8_cellBeside_89 : decode cX8_cellBeside 89 = .ok (.iload_n 1, 1) := dc_27 (sg_at zd_dX8_cellBeside_77 7 rfl rfl)
theorem dX8_cellBeside_90 : decode cX8_cellBeside 90 = .ok (.aload_n 0, 1) := dc_42 (sg_at zd_dX8_cellBeside_77 8 rfl rfl)
theorem dX8_cellBeside_91 : decode cX8_cellBeside 91 = .ok (.getfield 32, 3) := dc_180 (sg_at zd_dX8_cellBeside_77 9 rfl rfl) rfl
theorem dX8_cellBeside_94 : decode cX8_cellBeside 94 = .ok (.iadd, 1) := dc_96 (sg_at zd_dX8_cellBeside_77 10 rfl rfl)
theorem dX8_cellBeside_95 : decode cX8_cellBeside 95 = .ok (.goto 4, 3) := dc_167 (sg_at zd_dX8_cellBeside_77 11 rfl rfl) rfl
theorem dX8_cellBeside_98 : decode cX8_cellBeside 98 = .ok (.iconst (-1), 1) := dc_2 (sg_at zd_dX8_cellBeside_77 12 rfl rfl)
theorem dX8_cellBeside_99 : decode cX8_cellBeside 99 = .ok (.ireturn, 1) := dc_172 (sg_at zd_dX8_cellBeside_77 13 rfl rfl)
theorem dX8_cellBeside_100 : decode cX8_cellBeside 100 = .ok (.iload_n 3, 1) := dc_29 (sg_at zd_dX8_cellBeside_77 14 rfl rfl)
theorem dX8_cellBeside_101 : decode cX8_cellBeside 101 = .ok (.ifCond .le 9, 3) := dc_158 (sg_at zd_dX8_cellBeside_77 15 rfl rfl) rfl
theorem dX8_cellBeside_104 : decode cX8_cellBeside 104 = .ok (.iload_n 1, 1) := dc_27 (sg_at zd_dX8_cellBeside_77 16 rfl rfl)
theorem dX8_cellBeside_105 : decode cX8_cellBeside 105 = .ok (.iconst 1, 1) := dc_4 (sg_at zd_dX8_cellBeside_77 17 rfl rfl)
theorem dX8_cellBeside_106 : decode cX8_cellBeside 106 = .ok (.isub, 1) := dc_100 (sg_at zd_dX8_cellBeside_77 18 rfl rfl)
theorem dX8_cellBeside_107 : decode cX8_cellBeside 107 = .ok (.goto 4, 3) := dc_167 (sg_at zd_dX8_cellBeside_77 19 rfl rfl) rfl
theorem zd_dX8_cellBeside_110 : sg (cX8_cellBeside.data.toList.drop 110) [[2], [172], [27], [172]] = true := by decide +kernel
theorem dX8_cellBeside_110 : decode cX8_cellBeside 110 = .ok (.iconst (-1), 1) := dc_2 (sg_at zd_dX8_cellBeside_110 0 rfl rfl)
theorem dX8_cellBeside_111 : decode cX8_cellBeside 111 = .ok (.ireturn, 1) := dc_172 (sg_at zd_dX8_cellBeside_110 1 rfl rfl)
theorem dX8_cellBeside_112 : decode cX8_cellBeside 112 = .ok (.iload_n 1, 1) := dc_27 (sg_at zd_dX8_cellBeside_110 2 rfl rfl)
theorem dX8_cellBeside_113 : decode cX8_cellBeside 113 = .ok (.ireturn, 1) := dc_172 (sg_at zd_dX8_cellBeside_110 3 rfl rfl)
theorem zd_dX0_weighWays_0 : sg (cX0_weighWays.data.toList.drop 0) [[3], [54, 6], [21, 6], [8], [162, 0, 117], [43], [180, 0, 43], [44], [180, 0, 81], [29], [46], [178, 0, 84], [21, 6], [46], [182, 0, 87], [54, 7], [42], [180, 0, 9], [21, 4], [21, 6]] = true := by decide +kernel
theorem dX0_weighWays_0 : decode cX0_weighWays 0 = .ok (.iconst 0, 1) := dc_3 (sg_at zd_dX0_weighWays_0 0 rfl rfl)
theorem dX0_weighWays_1 : decode cX0_weighWays 1 = .ok (.istore 6, 2) := dc_54 (sg_at zd_dX0_weighWays_0 1 rfl rfl)
theorem dX0_weighWays_3 : decode cX0_weighWays 3 = .ok (.iload 6, 2) := dc_21 (sg_at zd_dX0_weighWays_0 2 rfl rfl)
theorem dX0_weighWays_5 : decode cX0_weighWays 5 = .ok (.iconst 5, 1) := dc_8 (sg_at zd_dX0_weighWays_0 3 rfl rfl)
theorem dX0_weighWays_6 : decode cX0_weighWays 6 = .ok (.if_icmp .ge 117, 3) := dc_162 (sg_at zd_dX0_weighWays_0 4 rfl rfl) rfl
theorem dX0_weighWays_9 : decode cX0_weighWays 9 = .ok (.aload_n 1, 1) := dc_43 (sg_at zd_dX0_weighWays_0 5 rfl rfl)
theorem dX0_weighWays_10 : decode cX0_weighWays 10 = .ok (.getfield 43, 3) := dc_180 (sg_at zd_dX0_weighWays_0 6 rfl rfl) rfl
theorem dX0_weighWays_13 : decode cX0_weighWays 13 = .ok (.aload_n 2, 1) := dc_44 (sg_at zd_dX0_weighWays_0 7 rfl rfl)
theorem dX0_weighWays_14 : decode cX0_weighWays 14 = .ok (.getfield 81, 3) := dc_180 (sg_at zd_dX0_weighWays_0 8 rfl rfl) rfl
theorem dX0_weighWays_17 : decode cX0_weighWays 17 = .ok (.iload_n 3, 1) := dc_29 (sg_at zd_dX0_weighWays_0 9 rfl rfl)
theorem dX0_weighWays_18 : decode cX0_weighWays 18 = .ok (.iaload, 1) := dc_46 (sg_at zd_dX0_weighWays_0 10 rfl rfl)
theorem dX0_weighWays_19 : decode cX0_weighWays 19 = .ok (.getstatic 84, 3) := dc_178 (sg_at zd_dX0_weighWays_0 11 rfl rfl) rfl
theorem dX0_weighWays_22 : decode cX0_weighWays 22 = .ok (.iload 6, 2) := dc_21 (sg_at zd_dX0_weighWays_0 12 rfl rfl)
theorem dX0_weighWays_24 : decode cX0_weighWays 24 = .ok (.iaload, 1) := dc_46 (sg_at zd_dX0_weighWays_0 13 rfl rfl)
theorem dX0_weighWays_25 : decode cX0_weighWays 25 = .ok (.invokevirtual 87, 3) := dc_182 (sg_at zd_dX0_weighWays_0 14 rfl rfl) rfl
theorem dX0_weighWays_28 : decode cX0_weighWays 28 = .ok (.istore 7, 2) := dc_54 (sg_at zd_dX0_weighWays_0 15 rfl rfl)
theorem dX0_weighWays_30 : decode cX0_weighWays 30 = .ok (.aload_n 0, 1) := dc_42 (sg_at zd_dX0_weighWays_0 16 rfl rfl)
theorem dX0_weighWays_31 : decode cX0_weighWays 31 = .ok (.getfield 9, 3) := dc_180 (sg_at zd_dX0_weighWays_0 17 rfl rfl) rfl
theorem dX0_weighWays_34 : decode cX0_weighWays 34 = .ok (.iload 4, 2) := dc_21 (sg_at zd_dX0_weighWays_0 18 rfl rfl)
theorem dX0_weighWays_36 : decode cX0_weighWays 36 = .ok (.iload 6, 2) := dc_21 (sg_at zd_dX0_weighWays_0 19 rfl rfl)
theorem zd_dX0_weighWays_38 : sg (cX0_weighWays.data.toList.drop 38) [[96], [21, 7], [79], [21, 5], [54, 8], [21, 7], [2], [159, 0, 68], [21, 8], [43], [180, 0, 43], [180, 0, 49], [180, 0, 71], [162, 0, 53], [21, 4], [21, 6], [96], [16, 28], [104], [21, 8]] = true := by decide +kernel
theorem dX0_weighWays_38 : decode cX0_weighWays 38 = .ok (.iadd, 1) := dc_96 (sg_at zd_dX0_weighWays_38 0 rfl rfl)
theorem dX0_weighWays_39 : decode cX0_weighWays 39 = .ok (.iload 7, 2) := dc_21 (sg_at zd_dX0_weighWays_38 1 rfl rfl)
theorem dX0_weighWays_41 : decode cX0_weighWays 41 = .ok (.iastore, 1) := dc_79 (sg_at zd_dX0_weighWays_38 2 rfl rfl)
theorem dX0_weighWays_42 : decode cX0_weighWays 42 = .ok (.iload 5, 2) := dc_21 (sg_at zd_dX0_weighWays_38 3 rfl rfl)
theorem dX0_weighWays_44 : decode cX0_weighWays 44 = .ok (.istore 8, 2) := dc_54 (sg_at zd_dX0_weighWays_38 4 rfl rfl)
theorem dX0_weighWays_46 : decode cX0_weighWays 46 = .ok (.iload 7, 2) := dc_21 (sg_at zd_dX0_weighWays_38 5 rfl rfl)
theorem dX0_weighWays_48 : decode cX0_weighWays 48 = .ok (.iconst (-1), 1) := dc_2 (sg_at zd_dX0_weighWays_38 6 rfl rfl)
theorem dX0_weighWays_49 : decode cX0_weighWays 49 = .ok (.if_icmp .eq 68, 3) := dc_159 (sg_at zd_dX0_weighWays_38 7 rfl rfl) rfl
theorem dX0_weighWays_52 : decode cX0_weighWays 52 = .ok (.iload 8, 2) := dc_21 (sg_at zd_dX0_weighWays_38 8 rfl rfl)
theorem dX0_weighWays_54 : decode cX0_weighWays 54 = .ok (.aload_n 1, 1) := dc_43 (sg_at zd_dX0_weighWays_38 9 rfl rfl)
theorem dX0_weighWays_55 : decode cX0_weighWays 55 = .ok (.getfield 43, 3) := dc_180 (sg_at zd_dX0_weighWays_38 10 rfl rfl) rfl
theorem dX0_weighWays_58 : decode cX0_weighWays 58 = .ok (.getfield 49, 3) := dc_180 (sg_at zd_dX0_weighWays_38 11 rfl rfl) rfl
theorem dX0_weighWays_61 : decode cX0_weighWays 61 = .ok (.getfield 71, 3) := dc_180 (sg_at zd_dX0_weighWays_38 12 rfl rfl) rfl
theorem dX0_weighWays_64 : decode cX0_weighWays 64 = .ok (.if_icmp .ge 53, 3) := dc_162 (sg_at zd_dX0_weighWays_38 13 rfl rfl) rfl
theorem dX0_weighWays_67 : decode cX0_weighWays 67 = .ok (.iload 4, 2) := dc_21 (sg_at zd_dX0_weighWays_38 14 rfl rfl)
theorem dX0_weighWays_69 : decode cX0_weighWays 69 = .ok (.iload 6, 2) := dc_21 (sg_at zd_dX0_weighWays_38 15 rfl rfl)
theorem dX0_weighWays_71 : decode cX0_weighWays 71 = .ok (.iadd, 1) := dc_96 (sg_at zd_dX0_weighWays_38 16 rfl rfl)
theorem dX0_weighWays_72 : decode cX0_weighWays 72 = .ok (.bipush 28, 2) := dc_16 (sg_at zd_dX0_weighWays_38 17 rfl rfl) rfl
theorem dX0_weighWays_74 : decode cX0_weighWays 74 = .ok (.imul, 1) := dc_104 (sg_at zd_dX0_weighWays_38 18 rfl rfl)
theorem dX0_weighWays_75 : decode cX0_weighWays 75 = .ok (.iload 8, 2) := dc_21 (sg_at zd_dX0_weighWays_38 19 rfl rfl)
theorem zd_dX0_weighWays_77 : sg (cX0_weighWays.data.toList.drop 77) [[96], [54, 9], [42], [180, 0, 15], [21, 9], [43], [21, 7], [21, 8], [182, 0, 91], [79], [42], [180, 0, 18], [21, 9], [43], [29], [21, 8], [21, 7], [182, 0, 94], [79], [132, 8, 1]] = true := by decide +kernel
theorem dX0_weighWays_77 : decode cX0_weighWays 77 = .ok (.iadd, 1) := dc_96 (sg_at zd_dX0_weighWays_77 0 rfl rfl)
theorem dX0_weighWays_78 : decode cX0_weighWays 78 = .ok (.istore 9, 2) := dc_54 (sg_at zd_dX0_weighWays_77 1 rfl rfl)
theorem dX0_weighWays_80 : decode cX0_weighWays 80 = .ok (.aload_n 0, 1) := dc_42 (sg_at zd_dX0_weighWays_77 2 rfl rfl)
theorem dX0_weighWays_81 : decode cX0_weighWays 81 = .ok (.getfield 15, 3) := dc_180 (sg_at zd_dX0_weighWays_77 3 rfl rfl) rfl
theorem dX0_weighWays_84 : decode cX0_weighWays 84 = .ok (.iload 9, 2) := dc_21 (sg_at zd_dX0_weighWays_77 4 rfl rfl)
theorem dX0_weighWays_86 : decode cX0_weighWays 86 = .ok (.aload_n 1, 1) := dc_43 (sg_at zd_dX0_weighWays_77 5 rfl rfl)
theorem dX0_weighWays_87 : decode cX0_weighWays 87 = .ok (.iload 7, 2) := dc_21 (sg_at zd_dX0_weighWays_77 6 rfl rfl)
theorem dX0_weighWays_89 : decode cX0_weighWays 89 = .ok (.iload 8, 2) := dc_21 (sg_at zd_dX0_weighWays_77 7 rfl rfl)
theorem dX0_weighWays_91 : decode cX0_weighWays 91 = .ok (.invokevirtual 91, 3) := dc_182 (sg_at zd_dX0_weighWays_77 8 rfl rfl) rfl
theorem dX0_weighWays_94 : decode cX0_weighWays 94 = .ok (.iastore, 1) := dc_79 (sg_at zd_dX0_weighWays_77 9 rfl rfl)
theorem dX0_weighWays_95 : decode cX0_weighWays 95 = .ok (.aload_n 0, 1) := dc_42 (sg_at zd_dX0_weighWays_77 10 rfl rfl)
theorem dX0_weighWays_96 : decode cX0_weighWays 96 = .ok (.getfield 18, 3) := dc_180 (sg_at zd_dX0_weighWays_77 11 rfl rfl) rfl
theorem dX0_weighWays_99 : decode cX0_weighWays 99 = .ok (.iload 9, 2) := dc_21 (sg_at zd_dX0_weighWays_77 12 rfl rfl)
theorem dX0_weighWays_101 : decode cX0_weighWays 101 = .ok (.aload_n 1, 1) := dc_43 (sg_at zd_dX0_weighWays_77 13 rfl rfl)
theorem dX0_weighWays_102 : decode cX0_weighWays 102 = .ok (.iload_n 3, 1) := dc_29 (sg_at zd_dX0_weighWays_77 14 rfl rfl)
theorem dX0_weighWays_103 : decode cX0_weighWays 103 = .ok (.iload 8, 2) := dc_21 (sg_at zd_dX0_weighWays_77 15 rfl rfl)
theorem dX0_weighWays_105 : decode cX0_weighWays 105 = .ok (.iload 7, 2) := dc_21 (sg_at zd_dX0_weighWays_77 16 rfl rfl)
theorem dX0_weighWays_107 : decode cX0_weighWays 107 = .ok (.invokevirtual 94, 3) := dc_182 (sg_at zd_dX0_weighWays_77 17 rfl rfl) rfl
theorem dX0_weighWays_110 : decode cX0_weighWays 110 = .ok (.iastore, 1) := dc_79 (sg_at zd_dX0_weighWays_77 18 rfl rfl)
theorem dX0_weighWays_111 : decode cX0_weighWays 111 = .ok (.iinc 8 1, 3) := dc_132 (sg_at zd_dX0_weighWays_77 19 rfl rfl) rfl
theorem zd_dX0_weighWays_114 : sg (cX0_weighWays.data.toList.drop 114) [[167, 255, 188], [132, 6, 1], [167, 255, 139], [177]] = true := by decide +kernel
theorem dX0_weighWays_114 : decode cX0_weighWays 114 = .ok (.goto (-68), 3) := dc_167 (sg_at zd_dX0_weighWays_114 0 rfl rfl) rfl
theorem dX0_weighWays_117 : decode cX0_weighWays 117 = .ok (.iinc 6 1, 3) := dc_132 (sg_at zd_dX0_weighWays_114 1 rfl rfl) rfl
theorem dX0_weighWays_120 : decode cX0_weighWays 120 = .ok (.goto (-117), 3) := dc_167 (sg_at zd_dX0_weighWays_114 2 rfl rfl) rfl
theorem dX0_weighWays_123 : decode cX0_weighWays 123 = .ok (.return_, 1) := dc_177 (sg_at zd_dX0_weighWays_114 3 rfl rfl)
theorem zd_dX0_sharePair_0 : sg (cX0_sharePair.data.toList.drop 0) [[3], [54, 6], [3], [54, 7], [29], [54, 8], [21, 8], [21, 4], [162, 0, 95], [27], [16, 28], [104], [21, 8], [96], [54, 9], [8], [28], [96], [16, 28], [104]] = true := by decide +kernel
theorem dX0_sharePair_0 : decode cX0_sharePair 0 = .ok (.iconst 0, 1) := dc_3 (sg_at zd_dX0_sharePair_0 0 rfl rfl)
theorem dX0_sharePair_1 : decode cX0_sharePair 1 = .ok (.istore 6, 2) := dc_54 (sg_at zd_dX0_sharePair_0 1 rfl rfl)
theorem dX0_sharePair_3 : decode cX0_sharePair 3 = .ok (.iconst 0, 1) := dc_3 (sg_at zd_dX0_sharePair_0 2 rfl rfl)
theorem dX0_sharePair_4 : decode cX0_sharePair 4 = .ok (.istore 7, 2) := dc_54 (sg_at zd_dX0_sharePair_0 3 rfl rfl)
theorem dX0_sharePair_6 : decode cX0_sharePair 6 = .ok (.iload_n 3, 1) := dc_29 (sg_at zd_dX0_sharePair_0 4 rfl rfl)
theorem dX0_sharePair_7 : decode cX0_sharePair 7 = .ok (.istore 8, 2) := dc_54 (sg_at zd_dX0_sharePair_0 5 rfl rfl)
theorem dX0_sharePair_9 : decode cX0_sharePair 9 = .ok (.iload 8, 2) := dc_21 (sg_at zd_dX0_sharePair_0 6 rfl rfl)
theorem dX0_sharePair_11 : decode cX0_sharePair 11 = .ok (.iload 4, 2) := dc_21 (sg_at zd_dX0_sharePair_0 7 rfl rfl)
theorem dX0_sharePair_13 : decode cX0_sharePair 13 = .ok (.if_icmp .ge 95, 3) := dc_162 (sg_at zd_dX0_sharePair_0 8 rfl rfl) rfl
theorem dX0_sharePair_16 : decode cX0_sharePair 16 = .ok (.iload_n 1, 1) := dc_27 (sg_at zd_dX0_sharePair_0 9 rfl rfl)
theorem dX0_sharePair_17 : decode cX0_sharePair 17 = .ok (.bipush 28, 2) := dc_16 (sg_at zd_dX0_sharePair_0 10 rfl rfl) rfl
theorem dX0_sharePair_19 : decode cX0_sharePair 19 = .ok (.imul, 1) := dc_104 (sg_at zd_dX0_sharePair_0 11 rfl rfl)
theorem dX0_sharePair_20 : decode cX0_sharePair 20 = .ok (.iload 8, 2) := dc_21 (sg_at zd_dX0_sharePair_0 12 rfl rfl)
theorem dX0_sharePair_22 : decode cX0_sharePair 22 = .ok (.iadd, 1) := dc_96 (sg_at zd_dX0_sharePair_0 13 rfl rfl)
theorem dX0_sharePair_23 : decode cX0_sharePair 23 = .ok (.istore 9, 2) := dc_54 (sg_at zd_dX0_sharePair_0 14 rfl rfl)
theorem dX0_sharePair_25 : decode cX0_sharePair 25 = .ok (.iconst 5, 1) := dc_8 (sg_at zd_dX0_sharePair_0 15 rfl rfl)
theorem dX0_sharePair_26 : decode cX0_sharePair 26 = .ok (.iload_n 2, 1) := dc_28 (sg_at zd_dX0_sharePair_0 16 rfl rfl)
theorem dX0_sharePair_27 : decode cX0_sharePair 27 = .ok (.iadd, 1) := dc_96 (sg_at zd_dX0_sharePair_0 17 rfl rfl)
theorem dX0_sharePair_28 : decode cX0_sharePair 28 = .ok (.bipush 28, 2) := dc_16 (sg_at zd_dX0_sharePair_0 18 rfl rfl) rfl
theorem dX0_sharePair_30 : decode cX0_sharePair 30 = .ok (.imul, 1) := dc_104 (sg_at zd_dX0_sharePair_0 19 rfl rfl)
theorem zd_dX0_sharePair_31 : sg (cX0_sharePair.data.toList.drop 31) [[21, 8], [96], [54, 10], [42], [180, 0, 15], [21, 9], [46], [42], [180, 0, 15], [21, 10], [46], [161, 0, 25], [42], [180, 0, 15], [21, 9], [46], [42], [180, 0, 15], [21, 10], [46]] = true := by decide +kernel
theorem dX0_sharePair_31 : decode cX0_sharePair 31 = .ok (.iload 8, 2) := dc_21 (sg_at zd_dX0_sharePair_31 0 rfl rfl)
theorem dX0_sharePair_33 : decode cX0_sharePair 33 = .ok (.iadd, 1) := dc_96 (sg_at zd_dX0_sharePair_31 1 rfl rfl)
theorem dX0_sharePair_34 : decode cX0_sharePair 34 = .ok (.istore 10, 2) := dc_54 (sg_at zd_dX0_sharePair_31 2 rfl rfl)
theorem dX0_sharePair_36 : decode cX0_sharePair 36 = .ok (.aload_n 0, 1) := dc_42 (sg_at zd_dX0_sharePair_31 3 rfl rfl)
theorem dX0_sharePair_37 : decode cX0_sharePair 37 = .ok (.getfield 15, 3) := dc_180 (sg_at zd_dX0_sharePair_31 4 rfl rfl) rfl
theorem dX0_sharePair_40 : decode cX0_sharePair 40 = .ok (.iload 9, 2) := dc_21 (sg_at zd_dX0_sharePair_31 5 rfl rfl)
theorem dX0_sharePair_42 : decode cX0_sharePair 42 = .ok (.iaload, 1) := dc_46 (sg_at zd_dX0_sharePair_31 6 rfl rfl)
theorem dX0_sharePair_43 : decode cX0_sharePair 43 = .ok (.aload_n 0, 1) := dc_42 (sg_at zd_dX0_sharePair_31 7 rfl rfl)
theorem dX0_sharePair_44 : decode cX0_sharePair 44 = .ok (.getfield 15, 3) := dc_180 (sg_at zd_dX0_sharePair_31 8 rfl rfl) rfl
theorem dX0_sharePair_47 : decode cX0_sharePair 47 = .ok (.iload 10, 2) := dc_21 (sg_at zd_dX0_sharePair_31 9 rfl rfl)
theorem dX0_sharePair_49 : decode cX0_sharePair 49 = .ok (.iaload, 1) := dc_46 (sg_at zd_dX0_sharePair_31 10 rfl rfl)
theorem dX0_sharePair_50 : decode cX0_sharePair 50 = .ok (.if_icmp .lt 25, 3) := dc_161 (sg_at zd_dX0_sharePair_31 11 rfl rfl) rfl
theorem dX0_sharePair_53 : decode cX0_sharePair 53 = .ok (.aload_n 0, 1) := dc_42 (sg_at zd_dX0_sharePair_31 12 rfl rfl)
theorem dX0_sharePair_54 : decode cX0_sharePair 54 = .ok (.getfield 15, 3) := dc_180 (sg_at zd_dX0_sharePair_31 13 rfl rfl) rfl
theorem dX0_sharePair_57 : decode cX0_sharePair 57 = .ok (.iload 9, 2) := dc_21 (sg_at zd_dX0_sharePair_31 14 rfl rfl)
theorem dX0_sharePair_59 : decode cX0_sharePair 59 = .ok (.iaload, 1) := dc_46 (sg_at zd_dX0_sharePair_31 15 rfl rfl)
theorem dX0_sharePair_60 : decode cX0_sharePair 60 = .ok (.aload_n 0, 1) := dc_42 (sg_at zd_dX0_sharePair_31 16 rfl rfl)
theorem dX0_sharePair_61 : decode cX0_sharePair 61 = .ok (.getfield 15, 3) := dc_180 (sg_at zd_dX0_sharePair_31 17 rfl rfl) rfl
theorem dX0_sharePair_64 : decode cX0_sharePair 64 = .ok (.iload 10, 2) := dc_21 (sg_at zd_dX0_sharePair_31 18 rfl rfl)
theorem dX0_sharePair_66 : decode cX0_sharePair 66 = .ok (.iaload, 1) := dc_46 (sg_at zd_dX0_sharePair_31 19 rfl rfl)
theorem zd_dX0_sharePair_67 : sg (cX0_sharePair.data.toList.drop 67) [[160, 0, 23], [21, 5], [153, 0, 18], [21, 6], [42], [180, 0, 18], [21, 9], [46], [96], [54, 6], [167, 0, 15], [21, 7], [42], [180, 0, 18], [21, 10], [46], [96], [54, 7], [132, 8, 1], [167, 255, 160]] = true := by decide +kernel
theorem dX0_sharePair_67 : decode cX0_sharePair 67 = .ok (.if_icmp .ne 23, 3) := dc_160 (sg_at zd_dX0_sharePair_67 0 rfl rfl) rfl
theorem dX0_sharePair_70 : decode cX0_sharePair 70 = .ok (.iload 5, 2) := dc_21 (sg_at zd_dX0_sharePair_67 1 rfl rfl)
theorem dX0_sharePair_72 : decode cX0_sharePair 72 = .ok (.ifCond .eq 18, 3) := dc_153 (sg_at zd_dX0_sharePair_67 2 rfl rfl) rfl
theorem dX0_sharePair_75 : decode cX0_sharePair 75 = .ok (.iload 6, 2) := dc_21 (sg_at zd_dX0_sharePair_67 3 rfl rfl)
theorem dX0_sharePair_77 : decode cX0_sharePair 77 = .ok (.aload_n 0, 1) := dc_42 (sg_at zd_dX0_sharePair_67 4 rfl rfl)
theorem dX0_sharePair_78 : decode cX0_sharePair 78 = .ok (.getfield 18, 3) := dc_180 (sg_at zd_dX0_sharePair_67 5 rfl rfl) rfl
theorem dX0_sharePair_81 : decode cX0_sharePair 81 = .ok (.iload 9, 2) := dc_21 (sg_at zd_dX0_sharePair_67 6 rfl rfl)
theorem dX0_sharePair_83 : decode cX0_sharePair 83 = .ok (.iaload, 1) := dc_46 (sg_at zd_dX0_sharePair_67 7 rfl rfl)
theorem dX0_sharePair_84 : decode cX0_sharePair 84 = .ok (.iadd, 1) := dc_96 (sg_at zd_dX0_sharePair_67 8 rfl rfl)
theorem dX0_sharePair_85 : decode cX0_sharePair 85 = .ok (.istore 6, 2) := dc_54 (sg_at zd_dX0_sharePair_67 9 rfl rfl)
theorem dX0_sharePair_87 : decode cX0_sharePair 87 = .ok (.goto 15, 3) := dc_167 (sg_at zd_dX0_sharePair_67 10 rfl rfl) rfl
theorem dX0_sharePair_90 : decode cX0_sharePair 90 = .ok (.iload 7, 2) := dc_21 (sg_at zd_dX0_sharePair_67 11 rfl rfl)
theorem dX0_sharePair_92 : decode cX0_sharePair 92 = .ok (.aload_n 0, 1) := dc_42 (sg_at zd_dX0_sharePair_67 12 rfl rfl)
theorem dX0_sharePair_93 : decode cX0_sharePair 93 = .ok (.getfield 18, 3) := dc_180 (sg_at zd_dX0_sharePair_67 13 rfl rfl) rfl
theorem dX0_sharePair_96 : decode cX0_sharePair 96 = .ok (.iload 10, 2) := dc_21 (sg_at zd_dX0_sharePair_67 14 rfl rfl)
theorem dX0_sharePair_98 : decode cX0_sharePair 98 = .ok (.iaload, 1) := dc_46 (sg_at zd_dX0_sharePair_67 15 rfl rfl)
theorem dX0_sharePair_99 : decode cX0_sharePair 99 = .ok (.iadd, 1) := dc_96 (sg_at zd_dX0_sharePair_67 16 rfl rfl)
theorem dX0_sharePair_100 : decode cX0_sharePair 100 = .ok (.istore 7, 2) := dc_54 (sg_at zd_dX0_sharePair_67 17 rfl rfl)
theorem dX0_sharePair_102 : decode cX0_sharePair 102 = .ok (.iinc 8 1, 3) := dc_132 (sg_at zd_dX0_sharePair_67 18 rfl rfl) rfl
theorem dX0_sharePair_105 : decode cX0_sharePair 105 = .ok (.goto (-96), 3) := dc_167 (sg_at zd_dX0_sharePair_67 19 rfl rfl) rfl
theorem zd_dX0_sharePair_108 : sg (cX0_sharePair.data.toList.drop 108) [[42], [180, 0, 21], [27], [8], [104], [28], [96], [21, 6], [79], [42], [180, 0, 24], [27], [8], [104], [28], [96], [21, 7], [79], [177]] = true := by decide +kernel
theorem dX0_sharePair_108 : decode cX0_sharePair 108 = .ok (.aload_n 0, 1) := dc_42 (sg_at zd_dX0_sharePair_108 0 rfl rfl)
theorem dX0_sharePair_109 : decode cX0_sharePair 109 = .ok (.getfield 21, 3) := dc_180 (sg_at zd_dX0_sharePair_108 1 rfl rfl) rfl
theorem dX0_sharePair_112 : decode cX0_sharePair 112 = .ok (.iload_n 1, 1) := dc_27 (sg_at zd_dX0_sharePair_108 2 rfl rfl)
theorem dX0_sharePair_113 : decode cX0_sharePair 113 = .ok (.iconst 5, 1) := dc_8 (sg_at zd_dX0_sharePair_108 3 rfl rfl)
theorem dX0_sharePair_114 : decode cX0_sharePair 114 = .ok (.imul, 1) := dc_104 (sg_at zd_dX0_sharePair_108 4 rfl rfl)
theorem dX0_sharePair_115 : decode cX0_sharePair 115 = .ok (.iload_n 2, 1) := dc_28 (sg_at zd_dX0_sharePair_108 5 rfl rfl)
theorem dX0_sharePair_116 : decode cX0_sharePair 116 = .ok (.iadd, 1) := dc_96 (sg_at zd_dX0_sharePair_108 6 rfl rfl)
theorem dX0_sharePair_117 : decode cX0_sharePair 117 = .ok (.iload 6, 2) := dc_21 (sg_at zd_dX0_sharePair_108 7 rfl rfl)
theorem dX0_sharePair_119 : decode cX0_sharePair 119 = .ok (.iastore, 1) := dc_79 (sg_at zd_dX0_sharePair_108 8 rfl rfl)
theorem dX0_sharePair_120 : decode cX0_sharePair 120 = .ok (.aload_n 0, 1) := dc_42 (sg_at zd_dX0_sharePair_108 9 rfl rfl)
theorem dX0_sharePair_121 : decode cX0_sharePair 121 = .ok (.getfield 24, 3) := dc_180 (sg_at zd_dX0_sharePair_108 10 rfl rfl) rfl
theorem dX0_sharePair_124 : decode cX0_sharePair 124 = .ok (.iload_n 1, 1) := dc_27 (sg_at zd_dX0_sharePair_108 11 rfl rfl)
theorem dX0_sharePair_125 : decode cX0_sharePair 125 = .ok (.iconst 5, 1) := dc_8 (sg_at zd_dX0_sharePair_108 12 rfl rfl)
theorem dX0_sharePair_126 : decode cX0_sharePair 126 = .ok (.imul, 1) := dc_104 (sg_at zd_dX0_sharePair_108 13 rfl rfl)
theorem dX0_sharePair_127 : decode cX0_sharePair 127 = .ok (.iload_n 2, 1) := dc_28 (sg_at zd_dX0_sharePair_108 14 rfl rfl)
theorem dX0_sharePair_128 : decode cX0_sharePair 128 = .ok (.iadd, 1) := dc_96 (sg_at zd_dX0_sharePair_108 15 rfl rfl)
theorem dX0_sharePair_129 : decode cX0_sharePair 129 = .ok (.iload 7, 2) := dc_21 (sg_at zd_dX0_sharePair_108 16 rfl rfl)
theorem dX0_sharePair_131 : decode cX0_sharePair 131 = .ok (.iastore, 1) := dc_79 (sg_at zd_dX0_sharePair_108 17 rfl rfl)
theorem dX0_sharePair_132 : decode cX0_sharePair 132 = .ok (.return_, 1) := dc_177 (sg_at zd_dX0_sharePair_108 18 rfl rfl)
theorem zd_dX0_playGame_0 : sg (cX0_playGame.data.toList.drop 0) [[43], [180, 0, 43], [180, 0, 49], [44], [180, 0, 55], [182, 0, 61], [54, 5], [42], [43], [44], [29], [3], [21, 5], [182, 0, 67], [42], [43], [44], [21, 4], [8], [21, 5]] = true := by decide +kernel
theorem dX0_playGame_0 : decode cX0_playGame 0 = .ok (.aload_n 1, 1) := dc_43 (sg_at zd_dX0_playGame_0 0 rfl rfl)
theorem dX0_playGame_1 : decode cX0_playGame 1 = .ok (.getfield 43, 3) := dc_180 (sg_at zd_dX0_playGame_0 1 rfl rfl) rfl
theorem dX0_playGame_4 : decode cX0_playGame 4 = .ok (.getfield 49, 3) := dc_180 (sg_at zd_dX0_playGame_0 2 rfl rfl) rfl
theorem dX0_playGame_7 : decode cX0_playGame 7 = .ok (.aload_n 2, 1) := dc_44 (sg_at zd_dX0_playGame_0 3 rfl rfl)
theorem dX0_playGame_8 : decode cX0_playGame 8 = .ok (.getfield 55, 3) := dc_180 (sg_at zd_dX0_playGame_0 4 rfl rfl) rfl
theorem dX0_playGame_11 : decode cX0_playGame 11 = .ok (.invokevirtual 61, 3) := dc_182 (sg_at zd_dX0_playGame_0 5 rfl rfl) rfl
theorem dX0_playGame_14 : decode cX0_playGame 14 = .ok (.istore 5, 2) := dc_54 (sg_at zd_dX0_playGame_0 6 rfl rfl)
theorem dX0_playGame_16 : decode cX0_playGame 16 = .ok (.aload_n 0, 1) := dc_42 (sg_at zd_dX0_playGame_0 7 rfl rfl)
theorem dX0_playGame_17 : decode cX0_playGame 17 = .ok (.aload_n 1, 1) := dc_43 (sg_at zd_dX0_playGame_0 8 rfl rfl)
theorem dX0_playGame_18 : decode cX0_playGame 18 = .ok (.aload_n 2, 1) := dc_44 (sg_at zd_dX0_playGame_0 9 rfl rfl)
theorem dX0_playGame_19 : decode cX0_playGame 19 = .ok (.iload_n 3, 1) := dc_29 (sg_at zd_dX0_playGame_0 10 rfl rfl)
theorem dX0_playGame_20 : decode cX0_playGame 20 = .ok (.iconst 0, 1) := dc_3 (sg_at zd_dX0_playGame_0 11 rfl rfl)
theorem dX0_playGame_21 : decode cX0_playGame 21 = .ok (.iload 5, 2) := dc_21 (sg_at zd_dX0_playGame_0 12 rfl rfl)
theorem dX0_playGame_23 : decode cX0_playGame 23 = .ok (.invokevirtual 67, 3) := dc_182 (sg_at zd_dX0_playGame_0 13 rfl rfl) rfl
theorem dX0_playGame_26 : decode cX0_playGame 26 = .ok (.aload_n 0, 1) := dc_42 (sg_at zd_dX0_playGame_0 14 rfl rfl)
theorem dX0_playGame_27 : decode cX0_playGame 27 = .ok (.aload_n 1, 1) := dc_43 (sg_at zd_dX0_playGame_0 15 rfl rfl)
theorem dX0_playGame_28 : decode cX0_playGame 28 = .ok (.aload_n 2, 1) := dc_44 (sg_at zd_dX0_playGame_0 16 rfl rfl)
theorem dX0_playGame_29 : decode cX0_playGame 29 = .ok (.iload 4, 2) := dc_21 (sg_at zd_dX0_playGame_0 17 rfl rfl)
theorem dX0_playGame_31 : decode cX0_playGame 31 = .ok (.iconst 5, 1) := dc_8 (sg_at zd_dX0_playGame_0 18 rfl rfl)
theorem dX0_playGame_32 : decode cX0_playGame 32 = .ok (.iload 5, 2) := dc_21 (sg_at zd_dX0_playGame_0 19 rfl rfl)
theorem zd_dX0_playGame_34 : sg (cX0_playGame.data.toList.drop 34) [[182, 0, 67], [3], [54, 6], [21, 6], [8], [162, 0, 55], [3], [54, 7], [21, 7], [8], [162, 0, 40], [42], [21, 6], [21, 7], [21, 5], [43], [180, 0, 43], [180, 0, 49], [180, 0, 71], [29]] = true := by decide +kernel
theorem dX0_playGame_34 : decode cX0_playGame 34 = .ok (.invokevirtual 67, 3) := dc_182 (sg_at zd_dX0_playGame_34 0 rfl rfl) rfl
theorem dX0_playGame_37 : decode cX0_playGame 37 = .ok (.iconst 0, 1) := dc_3 (sg_at zd_dX0_playGame_34 1 rfl rfl)
theorem dX0_playGame_38 : decode cX0_playGame 38 = .ok (.istore 6, 2) := dc_54 (sg_at zd_dX0_playGame_34 2 rfl rfl)
theorem dX0_playGame_40 : decode cX0_playGame 40 = .ok (.iload 6, 2) := dc_21 (sg_at zd_dX0_playGame_34 3 rfl rfl)
theorem dX0_playGame_42 : decode cX0_playGame 42 = .ok (.iconst 5, 1) := dc_8 (sg_at zd_dX0_playGame_34 4 rfl rfl)
theorem dX0_playGame_43 : decode cX0_playGame 43 = .ok (.if_icmp .ge 55, 3) := dc_162 (sg_at zd_dX0_playGame_34 5 rfl rfl) rfl
theorem dX0_playGame_46 : decode cX0_playGame 46 = .ok (.iconst 0, 1) := dc_3 (sg_at zd_dX0_playGame_34 6 rfl rfl)
theorem dX0_playGame_47 : decode cX0_playGame 47 = .ok (.istore 7, 2) := dc_54 (sg_at zd_dX0_playGame_34 7 rfl rfl)
theorem dX0_playGame_49 : decode cX0_playGame 49 = .ok (.iload 7, 2) := dc_21 (sg_at zd_dX0_playGame_34 8 rfl rfl)
theorem dX0_playGame_51 : decode cX0_playGame 51 = .ok (.iconst 5, 1) := dc_8 (sg_at zd_dX0_playGame_34 9 rfl rfl)
theorem dX0_playGame_52 : decode cX0_playGame 52 = .ok (.if_icmp .ge 40, 3) := dc_162 (sg_at zd_dX0_playGame_34 10 rfl rfl) rfl
theorem dX0_playGame_55 : decode cX0_playGame 55 = .ok (.aload_n 0, 1) := dc_42 (sg_at zd_dX0_playGame_34 11 rfl rfl)
theorem dX0_playGame_56 : decode cX0_playGame 56 = .ok (.iload 6, 2) := dc_21 (sg_at zd_dX0_playGame_34 12 rfl rfl)
theorem dX0_playGame_58 : decode cX0_playGame 58 = .ok (.iload 7, 2) := dc_21 (sg_at zd_dX0_playGame_34 13 rfl rfl)
theorem dX0_playGame_60 : decode cX0_playGame 60 = .ok (.iload 5, 2) := dc_21 (sg_at zd_dX0_playGame_34 14 rfl rfl)
theorem dX0_playGame_62 : decode cX0_playGame 62 = .ok (.aload_n 1, 1) := dc_43 (sg_at zd_dX0_playGame_34 15 rfl rfl)
theorem dX0_playGame_63 : decode cX0_playGame 63 = .ok (.getfield 43, 3) := dc_180 (sg_at zd_dX0_playGame_34 16 rfl rfl) rfl
theorem dX0_playGame_66 : decode cX0_playGame 66 = .ok (.getfield 49, 3) := dc_180 (sg_at zd_dX0_playGame_34 17 rfl rfl) rfl
theorem dX0_playGame_69 : decode cX0_playGame 69 = .ok (.getfield 71, 3) := dc_180 (sg_at zd_dX0_playGame_34 18 rfl rfl) rfl
theorem dX0_playGame_72 : decode cX0_playGame 72 = .ok (.iload_n 3, 1) := dc_29 (sg_at zd_dX0_playGame_34 19 rfl rfl)
theorem zd_dX0_playGame_73 : sg (cX0_playGame.data.toList.drop 73) [[21, 4], [162, 0, 7], [4], [167, 0, 4], [3], [182, 0, 74], [132, 7, 1], [167, 255, 216], [132, 6, 1], [167, 255, 201], [42], [182, 0, 78], [177]] = true := by decide +kernel
theorem dX0_playGame_73 : decode cX0_playGame 73 = .ok (.iload 4, 2) := dc_21 (sg_at zd_dX0_playGame_73 0 rfl rfl)
theorem dX0_playGame_75 : decode cX0_playGame 75 = .ok (.if_icmp .ge 7, 3) := dc_162 (sg_at zd_dX0_playGame_73 1 rfl rfl) rfl
theorem dX0_playGame_78 : decode cX0_playGame 78 = .ok (.iconst 1, 1) := dc_4 (sg_at zd_dX0_playGame_73 2 rfl rfl)
theorem dX0_playGame_79 : decode cX0_playGame 79 = .ok (.goto 4, 3) := dc_167 (sg_at zd_dX0_playGame_73 3 rfl rfl) rfl
theorem dX0_playGame_82 : decode cX0_playGame 82 = .ok (.iconst 0, 1) := dc_3 (sg_at zd_dX0_playGame_73 4 rfl rfl)
theorem dX0_playGame_83 : decode cX0_playGame 83 = .ok (.invokevirtual 74, 3) := dc_182 (sg_at zd_dX0_playGame_73 5 rfl rfl) rfl
theorem dX0_playGame_86 : decode cX0_playGame 86 = .ok (.iinc 7 1, 3) := dc_132 (sg_at zd_dX0_playGame_73 6 rfl rfl) rfl
theorem dX0_playGame_89 : decode cX0_playGame 89 = .ok (.goto (-40), 3) := dc_167 (sg_at zd_dX0_playGame_73 7 rfl rfl) rfl
theorem dX0_playGame_92 : decode cX0_playGame 92 = .ok (.iinc 6 1, 3) := dc_132 (sg_at zd_dX0_playGame_73 8 rfl rfl) rfl
theorem dX0_playGame_95 : decode cX0_playGame 95 = .ok (.goto (-55), 3) := dc_167 (sg_at zd_dX0_playGame_73 9 rfl rfl) rfl
theorem dX0_playGame_98 : decode cX0_playGame 98 = .ok (.aload_n 0, 1) := dc_42 (sg_at zd_dX0_playGame_73 10 rfl rfl)
theorem dX0_playGame_99 : decode cX0_playGame 99 = .ok (.invokevirtual 78, 3) := dc_182 (sg_at zd_dX0_playGame_73 11 rfl rfl) rfl
theorem dX0_playGame_102 : decode cX0_playGame 102 = .ok (.return_, 1) := dc_177 (sg_at zd_dX0_playGame_73 12 rfl rfl)
theorem zd_dX1_add_0 : sg (cX1_add.data.toList.drop 0) [[42], [180, 0, 30], [8], [161, 0, 4], [177], [42], [180, 0, 9], [42], [180, 0, 30], [27], [79], [42], [180, 0, 15], [42], [180, 0, 30], [28], [79], [42], [180, 0, 18], [42]] = true := by decide +kernel
theorem dX1_add_0 : decode cX1_add 0 = .ok (.aload_n 0, 1) := dc_42 (sg_at zd_dX1_add_0 0 rfl rfl)
theorem dX1_add_1 : decode cX1_add 1 = .ok (.getfield 30, 3) := dc_180 (sg_at zd_dX1_add_0 1 rfl rfl) rfl
theorem dX1_add_4 : decode cX1_add 4 = .ok (.iconst 5, 1) := dc_8 (sg_at zd_dX1_add_0 2 rfl rfl)
theorem dX1_add_5 : decode cX1_add 5 = .ok (.if_icmp .lt 4, 3) := dc_161 (sg_at zd_dX1_add_0 3 rfl rfl) rfl
theorem dX1_add_8 : decode cX1_add 8 = .ok (.return_, 1) := dc_177 (sg_at zd_dX1_add_0 4 rfl rfl)
theorem dX1_add_9 : decode cX1_add 9 = .ok (.aload_n 0, 1) := dc_42 (sg_at zd_dX1_add_0 5 rfl rfl)
theorem dX1_add_10 : decode cX1_add 10 = .ok (.getfield 9, 3) := dc_180 (sg_at zd_dX1_add_0 6 rfl rfl) rfl
theorem dX1_add_13 : decode cX1_add 13 = .ok (.aload_n 0, 1) := dc_42 (sg_at zd_dX1_add_0 7 rfl rfl)
theorem dX1_add_14 : decode cX1_add 14 = .ok (.getfield 30, 3) := dc_180 (sg_at zd_dX1_add_0 8 rfl rfl) rfl
theorem dX1_add_17 : decode cX1_add 17 = .ok (.iload_n 1, 1) := dc_27 (sg_at zd_dX1_add_0 9 rfl rfl)
theorem dX1_add_18 : decode cX1_add 18 = .ok (.iastore, 1) := dc_79 (sg_at zd_dX1_add_0 10 rfl rfl)
theorem dX1_add_19 : decode cX1_add 19 = .ok (.aload_n 0, 1) := dc_42 (sg_at zd_dX1_add_0 11 rfl rfl)
theorem dX1_add_20 : decode cX1_add 20 = .ok (.getfield 15, 3) := dc_180 (sg_at zd_dX1_add_0 12 rfl rfl) rfl
theorem dX1_add_23 : decode cX1_add 23 = .ok (.aload_n 0, 1) := dc_42 (sg_at zd_dX1_add_0 13 rfl rfl)
theorem dX1_add_24 : decode cX1_add 24 = .ok (.getfield 30, 3) := dc_180 (sg_at zd_dX1_add_0 14 rfl rfl) rfl
theorem dX1_add_27 : decode cX1_add 27 = .ok (.iload_n 2, 1) := dc_28 (sg_at zd_dX1_add_0 15 rfl rfl)
theorem dX1_add_28 : decode cX1_add 28 = .ok (.iastore, 1) := dc_79 (sg_at zd_dX1_add_0 16 rfl rfl)
theorem dX1_add_29 : decode cX1_add 29 = .ok (.aload_n 0, 1) := dc_42 (sg_at zd_dX1_add_0 17 rfl rfl)
theorem dX1_add_30 : decode cX1_add 30 = .ok (.getfield 18, 3) := dc_180 (sg_at zd_dX1_add_0 18 rfl rfl) rfl
theorem dX1_add_33 : decode cX1_add 33 = .ok (.aload_n 0, 1) := dc_42 (sg_at zd_dX1_add_0 19 rfl rfl)
theorem zd_dX1_add_34 : sg (cX1_add.data.toList.drop 34) [[180, 0, 30], [29], [79], [42], [180, 0, 21], [42], [180, 0, 30], [21, 4], [79], [42], [180, 0, 24], [42], [180, 0, 30], [21, 5], [79], [42], [180, 0, 27], [42], [180, 0, 30], [21, 6]] = true := by decide +kernel
theorem dX1_add_34 : decode cX1_add 34 = .ok (.getfield 30, 3) := dc_180 (sg_at zd_dX1_add_34 0 rfl rfl) rfl
theorem dX1_add_37 : decode cX1_add 37 = .ok (.iload_n 3, 1) := dc_29 (sg_at zd_dX1_add_34 1 rfl rfl)
theorem dX1_add_38 : decode cX1_add 38 = .ok (.iastore, 1) := dc_79 (sg_at zd_dX1_add_34 2 rfl rfl)
theorem dX1_add_39 : decode cX1_add 39 = .ok (.aload_n 0, 1) := dc_42 (sg_at zd_dX1_add_34 3 rfl rfl)
theorem dX1_add_40 : decode cX1_add 40 = .ok (.getfield 21, 3) := dc_180 (sg_at zd_dX1_add_34 4 rfl rfl) rfl
theorem dX1_add_43 : decode cX1_add 43 = .ok (.aload_n 0, 1) := dc_42 (sg_at zd_dX1_add_34 5 rfl rfl)
theorem dX1_add_44 : decode cX1_add 44 = .ok (.getfield 30, 3) := dc_180 (sg_at zd_dX1_add_34 6 rfl rfl) rfl
theorem dX1_add_47 : decode cX1_add 47 = .ok (.iload 4, 2) := dc_21 (sg_at zd_dX1_add_34 7 rfl rfl)
theorem dX1_add_49 : decode cX1_add 49 = .ok (.iastore, 1) := dc_79 (sg_at zd_dX1_add_34 8 rfl rfl)
theorem dX1_add_50 : decode cX1_add 50 = .ok (.aload_n 0, 1) := dc_42 (sg_at zd_dX1_add_34 9 rfl rfl)
theorem dX1_add_51 : decode cX1_add 51 = .ok (.getfield 24, 3) := dc_180 (sg_at zd_dX1_add_34 10 rfl rfl) rfl
theorem dX1_add_54 : decode cX1_add 54 = .ok (.aload_n 0, 1) := dc_42 (sg_at zd_dX1_add_34 11 rfl rfl)
theorem dX1_add_55 : decode cX1_add 55 = .ok (.getfield 30, 3) := dc_180 (sg_at zd_dX1_add_34 12 rfl rfl) rfl
theorem dX1_add_58 : decode cX1_add 58 = .ok (.iload 5, 2) := dc_21 (sg_at zd_dX1_add_34 13 rfl rfl)
theorem dX1_add_60 : decode cX1_add 60 = .ok (.iastore, 1) := dc_79 (sg_at zd_dX1_add_34 14 rfl rfl)
theorem dX1_add_61 : decode cX1_add 61 = .ok (.aload_n 0, 1) := dc_42 (sg_at zd_dX1_add_34 15 rfl rfl)
theorem dX1_add_62 : decode cX1_add 62 = .ok (.getfield 27, 3) := dc_180 (sg_at zd_dX1_add_34 16 rfl rfl) rfl
theorem dX1_add_65 : decode cX1_add 65 = .ok (.aload_n 0, 1) := dc_42 (sg_at zd_dX1_add_34 17 rfl rfl)
theorem dX1_add_66 : decode cX1_add 66 = .ok (.getfield 30, 3) := dc_180 (sg_at zd_dX1_add_34 18 rfl rfl) rfl
theorem dX1_add_69 : decode cX1_add 69 = .ok (.iload 6, 2) := dc_21 (sg_at zd_dX1_add_34 19 rfl rfl)
theorem zd_dX1_add_71 : sg (cX1_add.data.toList.drop 71) [[79], [42], [89], [180, 0, 30], [4], [96], [181, 0, 30], [177]] = true := by decide +kernel
theorem dX1_add_71 : decode cX1_add 71 = .ok (.iastore, 1) := dc_79 (sg_at zd_dX1_add_71 0 rfl rfl)
theorem dX1_add_72 : decode cX1_add 72 = .ok (.aload_n 0, 1) := dc_42 (sg_at zd_dX1_add_71 1 rfl rfl)
theorem dX1_add_73 : decode cX1_add 73 = .ok (.dup, 1) := dc_89 (sg_at zd_dX1_add_71 2 rfl rfl)
theorem dX1_add_74 : decode cX1_add 74 = .ok (.getfield 30, 3) := dc_180 (sg_at zd_dX1_add_71 3 rfl rfl) rfl
theorem dX1_add_77 : decode cX1_add 77 = .ok (.iconst 1, 1) := dc_4 (sg_at zd_dX1_add_71 4 rfl rfl)
theorem dX1_add_78 : decode cX1_add 78 = .ok (.iadd, 1) := dc_96 (sg_at zd_dX1_add_71 5 rfl rfl)
theorem dX1_add_79 : decode cX1_add 79 = .ok (.putfield 30, 3) := dc_181 (sg_at zd_dX1_add_71 6 rfl rfl) rfl
theorem dX1_add_82 : decode cX1_add 82 = .ok (.return_, 1) := dc_177 (sg_at zd_dX1_add_71 7 rfl rfl)
theorem zd_dX1_hasName_0 : sg (cX1_hasName.data.toList.drop 0) [[3], [61], [28], [42], [180, 0, 30], [162, 0, 21], [42], [180, 0, 9], [28], [46], [27], [160, 0, 5], [4], [172], [132, 2, 1], [167, 255, 233], [3], [172]] = true := by decide +kernel
theorem dX1_hasName_0 : decode cX1_hasName 0 = .ok (.iconst 0, 1) := dc_3 (sg_at zd_dX1_hasName_0 0 rfl rfl)
theorem dX1_hasName_1 : decode cX1_hasName 1 = .ok (.istore_n 2, 1) := dc_61 (sg_at zd_dX1_hasName_0 1 rfl rfl)
theorem dX1_hasName_2 : decode cX1_hasName 2 = .ok (.iload_n 2, 1) := dc_28 (sg_at zd_dX1_hasName_0 2 rfl rfl)
theorem dX1_hasName_3 : decode cX1_hasName 3 = .ok (.aload_n 0, 1) := dc_42 (sg_at zd_dX1_hasName_0 3 rfl rfl)
theorem dX1_hasName_4 : decode cX1_hasName 4 = .ok (.getfield 30, 3) := dc_180 (sg_at zd_dX1_hasName_0 4 rfl rfl) rfl
theorem dX1_hasName_7 : decode cX1_hasName 7 = .ok (.if_icmp .ge 21, 3) := dc_162 (sg_at zd_dX1_hasName_0 5 rfl rfl) rfl
theorem dX1_hasName_10 : decode cX1_hasName 10 = .ok (.aload_n 0, 1) := dc_42 (sg_at zd_dX1_hasName_0 6 rfl rfl)
theorem dX1_hasName_11 : decode cX1_hasName 11 = .ok (.getfield 9, 3) := dc_180 (sg_at zd_dX1_hasName_0 7 rfl rfl) rfl
theorem dX1_hasName_14 : decode cX1_hasName 14 = .ok (.iload_n 2, 1) := dc_28 (sg_at zd_dX1_hasName_0 8 rfl rfl)
theorem dX1_hasName_15 : decode cX1_hasName 15 = .ok (.iaload, 1) := dc_46 (sg_at zd_dX1_hasName_0 9 rfl rfl)
theorem dX1_hasName_16 : decode cX1_hasName 16 = .ok (.iload_n 1, 1) := dc_27 (sg_at zd_dX1_hasName_0 10 rfl rfl)
theorem dX1_hasName_17 : decode cX1_hasName 17 = .ok (.if_icmp .ne 5, 3) := dc_160 (sg_at zd_dX1_hasName_0 11 rfl rfl) rfl
theorem dX1_hasName_20 : decode cX1_hasName 20 = .ok (.iconst 1, 1) := dc_4 (sg_at zd_dX1_hasName_0 12 rfl rfl)
theorem dX1_hasName_21 : decode cX1_hasName 21 = .ok (.ireturn, 1) := dc_172 (sg_at zd_dX1_hasName_0 13 rfl rfl)
theorem dX1_hasName_22 : decode cX1_hasName 22 = .ok (.iinc 2 1, 3) := dc_132 (sg_at zd_dX1_hasName_0 14 rfl rfl) rfl
theorem dX1_hasName_25 : decode cX1_hasName 25 = .ok (.goto (-23), 3) := dc_167 (sg_at zd_dX1_hasName_0 15 rfl rfl) rfl
theorem dX1_hasName_28 : decode cX1_hasName 28 = .ok (.iconst 0, 1) := dc_3 (sg_at zd_dX1_hasName_0 16 rfl rfl)
theorem dX1_hasName_29 : decode cX1_hasName 29 = .ok (.ireturn, 1) := dc_172 (sg_at zd_dX1_hasName_0 17 rfl rfl)
section
variable {p : Program} {l : Launch} {e : Env} {s : State} {m : MethodId} {args : Array Value} {below : List Frame} {meth : Method} {c : Code} {D : va_G} {cy : Nat → ClassId} {b : Nat} {A : Nat → Prop} {fl : Bool}
def vX0_isRest : List Cond := .code yX0_isRest cX0_isRest 4 (some .boolean) :: TB
theorem lf0_isRest_9 : Fl vX0_isRest RX0 9 0 0 := ⟨RX0, TX0, 13, rfl, by decide, (fun w h9 => List.mem_cons_of_mem _ (wC_wsX00 w h9)), (List.mem_cons_of_mem _ wT_9_7)⟩
theorem lf0_isRest_24 : Fl vX0_isRest RX0 24 0 4 := ⟨RX0, TX0, 13, rfl, by decide, (fun w h9 => List.mem_cons_of_mem _ (wC_wsX00 w h9)), (List.mem_cons_of_mem _ wT_9_11)⟩
theorem lf0_isRest_21 : Fl vX0_isRest RX0 21 0 3 := ⟨RX0, TX0, 13, rfl, by decide, (fun w h9 => List.mem_cons_of_mem _ (wC_wsX00 w h9)), (List.mem_cons_of_mem _ wT_9_10)⟩
theorem cd0_isRest : Cd yX0_isRest 2 := ⟨by decide, by decide, by decide +kernel⟩
set_option maxHeartbeats 4000000 in
set_option maxRecDepth 100000 in
theorem T0_isRest_66 (S : CallFix p m c cX0_isRest 4 s args vX0_isRest RX0) (hr : meth.sig.returnType = (some .boolean)) (hlo : meth.locks = false) {out : Int32 × PH} {k26 : PH → Nat → Int32 → Int32 → Int32 → Option (Int32 × PH)} (hk26 : ∀ {h : PH} {a0 : Nat} {x1 : Int32} {x2 : Int32} {x3 : Int32}, k26 h a0 x1 x2 x3 = some out → ∀ (H : Heap) (locs : List Loc), ph_I D cy b A fl h s H locs → ∀ (ls : Array Slot), lv_has ls 4 [(0, .ref (b + a0)), (1, .int x1), (2, .int x2), (3, .int x3)] → W p l e ({ frames := 0, cells := 0, slots := 0, locals := 0 } : Room) s m args below meth c H locs 0 0 (MQ below (va_Qi (fun (r : Int32) (u : PH) => (r, u) = out) (ph_B D cy b A fl) A) args s 0 0 A) (F0 m 26 ls [])) {h : PH} {a0 : Nat} {x1 : Int32} {x2 : Int32} {x3 : Int32} (f : F0_isRest_66 k26 h a0 x1 x2 x3 = some out) {H : Heap} {locs : List Loc} (I : ph_I D cy b A fl h s H locs) {ls : Array Slot} (hl : lv_has ls 4 [(0, .ref (b + a0)), (1, .int x1), (2, .int x2), (3, .int x3)]) : W p l e ({ frames := 0, cells := 0, slots := 0, locals := 0 } : Room) s m args below meth c H locs 0 0 (MQ below (va_Qi (fun (r : Int32) (u : PH) => (r, u) = out) (ph_B D cy b A fl) A) args s 0 0 A) (F0 m 66 ls []) := by
  unfold F0_isRest_66 at f
  refine lv_aload_n S.1 S.2.1 dX0_isRest_66 rfl (lv_at hl 0 rfl) ?_
  obtain ⟨r1, e2, f⟩ := ob f
  refine o_gR S lf0_isRest_9 I e2 dX0_isRest_67 ?_
  refine lv_iconst (v := 5) S.1 S.2.1 dX0_isRest_70 (by decide) ?_
  refine lv_iload_n S.1 S.2.1 dX0_isRest_71 rfl (lv_at hl 3 rfl) ?_
  refine lv_iadd S.1 S.2.1 dX0_isRest_72 ?_
  obtain ⟨v4, e3, f⟩ := ob f
  refine o_iald S I e3 dX0_isRest_73 ?_
  refine lv_iconst (v := (-1)) S.1 S.2.1 dX0_isRest_74 (by decide) ?_
  refine lv_icmp_eq (tgt := 103) S.1 S.2.1 dX0_isRest_75 (by decide) (fun q5 => ?_) (fun q5 => ?_)
  · have f := (if_pos q5).symm.trans f
    refine lv_iinc (v := (x3 + 1)) (lv' := [(3, .int (x3 + 1)), (0, .ref (b + a0)), (1, .int x1), (2, .int x2)]) S.1 S.2.1 dX0_isRest_103 hl (k := 3) rfl (congrArg (fun z => x3 + z) (by decide)) (by decide) rfl (fun ls hl => ?_)
    refine lv_goto (tgt := 26) S.1 S.2.1 dX0_isRest_106 (by decide) ?_
    exact hk26 f _ _ I _ (lv_sub hl [1, 2, 3, 0] rfl)
  · have f := (if_neg q5).symm.trans f
    refine lv_aload_n S.1 S.2.1 dX0_isRest_78 rfl (lv_at hl 0 rfl) ?_
    obtain ⟨r6, e7, f⟩ := ob f
    refine o_gR S lf0_isRest_24 I e7 dX0_isRest_79 ?_
    refine lv_iload_n S.1 S.2.1 dX0_isRest_82 rfl (lv_at hl 1 rfl) ?_
    refine lv_iconst (v := 5) S.1 S.2.1 dX0_isRest_83 (by decide) ?_
    refine lv_imul S.1 S.2.1 dX0_isRest_84 ?_
    refine lv_iload_n S.1 S.2.1 dX0_isRest_85 rfl (lv_at hl 3 rfl) ?_
    refine lv_iadd S.1 S.2.1 dX0_isRest_86 ?_
    obtain ⟨v9, e8, f⟩ := ob f
    refine o_iald S I e8 dX0_isRest_87 ?_
    refine lv_aload_n S.1 S.2.1 dX0_isRest_88 rfl (lv_at hl 0 rfl) ?_
    obtain ⟨r10, e11, f⟩ := ob f
    refine o_gR S lf0_isRest_24 I e11 dX0_isRest_89 ?_
    refine lv_iload_n S.1 S.2.1 dX0_isRest_92 rfl (lv_at hl 1 rfl) ?_
    refine lv_iconst (v := 5) S.1 S.2.1 dX0_isRest_93 (by decide) ?_
    refine lv_imul S.1 S.2.1 dX0_isRest_94 ?_
    refine lv_iload_n S.1 S.2.1 dX0_isRest_95 rfl (lv_at hl 2 rfl) ?_
    refine lv_iadd S.1 S.2.1 dX0_isRest_96 ?_
    obtain ⟨v13, e12, f⟩ := ob f
    refine o_iald S I e12 dX0_isRest_97 ?_
    refine lv_icmp_le (tgt := 103) S.1 S.2.1 dX0_isRest_98 (by decide) (fun q14 => ?_) (fun q14 => ?_)
    · have f := (if_pos q14).symm.trans f
      refine lv_iinc (v := (x3 + 1)) (lv' := [(3, .int (x3 + 1)), (0, .ref (b + a0)), (1, .int x1), (2, .int x2)]) S.1 S.2.1 dX0_isRest_103 hl (k := 3) rfl (congrArg (fun z => x3 + z) (by decide)) (by decide) rfl (fun ls hl => ?_)
      refine lv_goto (tgt := 26) S.1 S.2.1 dX0_isRest_106 (by decide) ?_
      exact hk26 f _ _ I _ (lv_sub hl [1, 2, 3, 0] rfl)
    · have f := (if_neg q14).symm.trans f
      refine lv_iconst (v := 0) S.1 S.2.1 dX0_isRest_101 (by decide) ?_
      exact o_zret S hr hlo I f dX0_isRest_102
set_option maxHeartbeats 4000000 in
set_option maxRecDepth 100000 in
theorem T0_isRest_26 (S : CallFix p m c cX0_isRest 4 s args vX0_isRest RX0) (hr : meth.sig.returnType = (some .boolean)) (hlo : meth.locks = false) {out : Int32 × PH} : ∀ (n : Nat) {h : PH} {a0 : Nat} {x1 : Int32} {x2 : Int32} {x3 : Int32} (f : F0_isRest_26  n h a0 x1 x2 x3 = some out) {H : Heap} {locs : List Loc} (I : ph_I D cy b A fl h s H locs) {ls : Array Slot} (hl : lv_has ls 4 [(0, .ref (b + a0)), (1, .int x1), (2, .int x2), (3, .int x3)]), W p l e ({ frames := 0, cells := 0, slots := 0, locals := 0 } : Room) s m args below meth c H locs 0 0 (MQ below (va_Qi (fun (r : Int32) (u : PH) => (r, u) = out) (ph_B D cy b A fl) A) args s 0 0 A) (F0 m 26 ls []) := by
  intro n
  induction n with
  | zero => intro h a0 x1 x2 x3 f; rw [F0_isRest_26] at f; cases f
  | succ n ih =>
    intro h a0 x1 x2 x3 f H locs I ls hl
    rw [F0_isRest_26] at f
    refine lv_iload_n S.1 S.2.1 dX0_isRest_26 rfl (lv_at hl 3 rfl) ?_
    refine lv_iconst (v := 5) S.1 S.2.1 dX0_isRest_27 (by decide) ?_
    refine lv_icmp_ge (tgt := 109) S.1 S.2.1 dX0_isRest_28 (by decide) (fun q1 => ?_) (fun q1 => ?_)
    · have f := (if_pos q1).symm.trans f
      refine lv_iconst (v := 1) S.1 S.2.1 dX0_isRest_109 (by decide) ?_
      exact o_zret S hr hlo I f dX0_isRest_110
    · have f := (if_neg q1).symm.trans f
      refine lv_aload_n S.1 S.2.1 dX0_isRest_31 rfl (lv_at hl 0 rfl) ?_
      obtain ⟨r2, e3, f⟩ := ob f
      refine o_gR S lf0_isRest_9 I e3 dX0_isRest_32 ?_
      refine lv_iload_n S.1 S.2.1 dX0_isRest_35 rfl (lv_at hl 3 rfl) ?_
      obtain ⟨v5, e4, f⟩ := ob f
      refine o_iald S I e4 dX0_isRest_36 ?_
      refine lv_iconst (v := (-1)) S.1 S.2.1 dX0_isRest_37 (by decide) ?_
      refine lv_icmp_eq (tgt := 66) S.1 S.2.1 dX0_isRest_38 (by decide) (fun q6 => ?_) (fun q6 => ?_)
      · have f := (if_pos q6).symm.trans f
        exact T0_isRest_66 S hr hlo (fun f _ _ I _ hl => ih f I hl) f I (lv_sub hl [0, 1, 2, 3] rfl)
      · have f := (if_neg q6).symm.trans f
        refine lv_aload_n S.1 S.2.1 dX0_isRest_41 rfl (lv_at hl 0 rfl) ?_
        obtain ⟨r7, e8, f⟩ := ob f
        refine o_gR S lf0_isRest_21 I e8 dX0_isRest_42 ?_
        refine lv_iload_n S.1 S.2.1 dX0_isRest_45 rfl (lv_at hl 3 rfl) ?_
        refine lv_iconst (v := 5) S.1 S.2.1 dX0_isRest_46 (by decide) ?_
        refine lv_imul S.1 S.2.1 dX0_isRest_47 ?_
        refine lv_iload_n S.1 S.2.1 dX0_isRest_48 rfl (lv_at hl 2 rfl) ?_
        refine lv_iadd S.1 S.2.1 dX0_isRest_49 ?_
        obtain ⟨v10, e9, f⟩ := ob f
        refine o_iald S I e9 dX0_isRest_50 ?_
        refine lv_aload_n S.1 S.2.1 dX0_isRest_51 rfl (lv_at hl 0 rfl) ?_
        obtain ⟨r11, e12, f⟩ := ob f
        refine o_gR S lf0_isRest_21 I e12 dX0_isRest_52 ?_
        refine lv_iload_n S.1 S.2.1 dX0_isRest_55 rfl (lv_at hl 1 rfl) ?_
        refine lv_iconst (v := 5) S.1 S.2.1 dX0_isRest_56 (by decide) ?_
        refine lv_imul S.1 S.2.1 dX0_isRest_57 ?_
        refine lv_iload_n S.1 S.2.1 dX0_isRest_58 rfl (lv_at hl 2 rfl) ?_
        refine lv_iadd S.1 S.2.1 dX0_isRest_59 ?_
        obtain ⟨v14, e13, f⟩ := ob f
        refine o_iald S I e13 dX0_isRest_60 ?_
        refine lv_icmp_le (tgt := 66) S.1 S.2.1 dX0_isRest_61 (by decide) (fun q15 => ?_) (fun q15 => ?_)
        · have f := (if_pos q15).symm.trans f
          exact T0_isRest_66 S hr hlo (fun f _ _ I _ hl => ih f I hl) f I (lv_sub hl [0, 1, 2, 3] rfl)
        · have f := (if_neg q15).symm.trans f
          refine lv_iconst (v := 0) S.1 S.2.1 dX0_isRest_64 (by decide) ?_
          exact o_zret S hr hlo I f dX0_isRest_65
set_option maxHeartbeats 4000000 in
set_option maxRecDepth 100000 in
theorem T0_isRest_0 (S : CallFix p m c cX0_isRest 4 s args vX0_isRest RX0) (hr : meth.sig.returnType = (some .boolean)) (hlo : meth.locks = false) {out : Int32 × PH} {h : PH} {a0 : Nat} {x1 : Int32} {x2 : Int32} (f : F0_isRest_0  h a0 x1 x2 = some out) {H : Heap} {locs : List Loc} (I : ph_I D cy b A fl h s H locs) {ls : Array Slot} (hl : lv_has ls 4 [(0, .ref (b + a0)), (1, .int x1), (2, .int x2)]) : W p l e ({ frames := 0, cells := 0, slots := 0, locals := 0 } : Room) s m args below meth c H locs 0 0 (MQ below (va_Qi (fun (r : Int32) (u : PH) => (r, u) = out) (ph_B D cy b A fl) A) args s 0 0 A) (F0 m 0 ls []) := by
  unfold F0_isRest_0 at f
  refine lv_aload_n S.1 S.2.1 dX0_isRest_0 rfl (lv_at hl 0 rfl) ?_
  obtain ⟨r1, e2, f⟩ := ob f
  refine o_gR S lf0_isRest_9 I e2 dX0_isRest_1 ?_
  refine lv_iload_n S.1 S.2.1 dX0_isRest_4 rfl (lv_at hl 1 rfl) ?_
  obtain ⟨v4, e3, f⟩ := ob f
  refine o_iald S I e3 dX0_isRest_5 ?_
  refine lv_iconst (v := (-1)) S.1 S.2.1 dX0_isRest_6 (by decide) ?_
  refine lv_icmp_eq (tgt := 22) S.1 S.2.1 dX0_isRest_7 (by decide) (fun q5 => ?_) (fun q5 => ?_)
  · have f := (if_pos q5).symm.trans f
    refine lv_iconst (v := 0) S.1 S.2.1 dX0_isRest_22 (by decide) ?_
    exact o_zret S hr hlo I f dX0_isRest_23
  · have f := (if_neg q5).symm.trans f
    refine lv_aload_n S.1 S.2.1 dX0_isRest_10 rfl (lv_at hl 0 rfl) ?_
    obtain ⟨r6, e7, f⟩ := ob f
    refine o_gR S lf0_isRest_9 I e7 dX0_isRest_11 ?_
    refine lv_iconst (v := 5) S.1 S.2.1 dX0_isRest_14 (by decide) ?_
    refine lv_iload_n S.1 S.2.1 dX0_isRest_15 rfl (lv_at hl 2 rfl) ?_
    refine lv_iadd S.1 S.2.1 dX0_isRest_16 ?_
    obtain ⟨v9, e8, f⟩ := ob f
    refine o_iald S I e8 dX0_isRest_17 ?_
    refine lv_iconst (v := (-1)) S.1 S.2.1 dX0_isRest_18 (by decide) ?_
    refine lv_icmp_ne (tgt := 24) S.1 S.2.1 dX0_isRest_19 (by decide) (fun q10 => ?_) (fun q10 => ?_)
    · have f := (if_neg q10).symm.trans f
      refine lv_iconst (v := 0) S.1 S.2.1 dX0_isRest_24 (by decide) ?_
      refine lv_istore_n (lv' := [(3, .int 0), (0, .ref (b + a0)), (1, .int x1), (2, .int x2)]) S.1 S.2.1 dX0_isRest_25 rfl hl (by decide) rfl (fun ls hl => ?_)
      exact T0_isRest_26 S hr hlo  1024 f I (lv_sub hl [1, 2, 3, 0] rfl)
    · have f := (if_pos q10).symm.trans f
      refine lv_iconst (v := 0) S.1 S.2.1 dX0_isRest_22 (by decide) ?_
      exact o_zret S hr hlo I f dX0_isRest_23
theorem M0_isRest (l : Launch) (D : va_G) (cy : Nat → ClassId) (b : Nat) (A : Nat → Prop) (fl : Bool) {h : PH} {a0 : Nat} {x1 : Int32} {x2 : Int32} {out : Int32 × PH} (f : F0_isRest h a0 x1 x2 = some out) : Met l yX0_isRest vX0_isRest ({ frames := 0, cells := 0, slots := 0, locals := 0 } : Room) (va_Pc [.ref (b + a0), .int x1, .int x2] (ph_B D cy b A fl h)) (va_Qi (fun (r : Int32) (u : PH) => (r, u) = out) (ph_B D cy b A fl) A) 0 0 A :=
  o_met (by decide) rfl (Nat.le_of_ble_eq_true rfl) rfl (fun p e s m below meth c S hr hlo hnm ls hl I => T0_isRest_0 S hr hlo ((gd f).2) I (lv_sub hl [0, 1, 2] rfl))
def vX0_findRests : List Cond := .code yX0_findRests cX0_findRests 3 none :: TB
theorem gX0_findRests_X0_isRest : GoodIn vX0_findRests (wsV RX0 101 RX0 yX0_isRest vX0_isRest) := gV_of wT_52_0 wT_52_1 wT_52_2 wT_2_21 wT_52_3
theorem lf0_findRests_27 : Fl vX0_findRests RX0 27 0 5 := ⟨RX0, TX0, 13, rfl, by decide, (fun w h9 => List.mem_cons_of_mem _ (wC_wsX00 w h9)), (List.mem_cons_of_mem _ wT_9_12)⟩
theorem lf0_findRests_98 : Fl vX0_findRests RX0 98 0 6 := ⟨RX0, TX0, 13, rfl, by decide, (fun w h9 => List.mem_cons_of_mem _ (wC_wsX00 w h9)), (List.mem_cons_of_mem _ wT_51_23)⟩
theorem lp0_findRests_98 : Pl vX0_findRests RX0 98 0 6 .int := ⟨RX0, TX0, 13, tyX0, rfl, by decide, (fun w h9 => List.mem_cons_of_mem _ (wC_wsX00 w h9)), (List.mem_cons_of_mem _ wT_51_23), tyX0_ok, nmX0, rfl, rfl⟩
theorem cd0_findRests : Cd yX0_findRests 0 := ⟨by decide, by decide, by decide +kernel⟩
set_option maxHeartbeats 4000000 in
set_option maxRecDepth 100000 in
theorem T0_findRests_14 (S : CallFix p m c cX0_findRests 3 s args vX0_findRests RX0) (hr : meth.sig.returnType = none) (hlo : meth.locks = false) {out : PH} {k7 : PH → Nat → Int32 → Option (PH)} (hk7 : ∀ {h : PH} {a0 : Nat} {x1 : Int32}, k7 h a0 x1 = some out → ∀ (H : Heap) (locs : List Loc), ph_I D cy b A fl h s H locs → ∀ (ls : Array Slot), lv_has ls 3 [(0, .ref (b + a0)), (1, .int x1)] → W p l e ({ frames := 1, cells := 0, slots := 0, locals := 23 } : Room) s m args below meth c H locs 0 0 (MQ below (va_Qv (fun (u : PH) => u = out) (ph_B D cy b A fl) A) args s 0 0 A) (F0 m 7 ls [])) : ∀ (n : Nat) {h : PH} {a0 : Nat} {x1 : Int32} {x2 : Int32} (f : F0_findRests_14 k7 n h a0 x1 x2 = some out) {H : Heap} {locs : List Loc} (I : ph_I D cy b A fl h s H locs) {ls : Array Slot} (hl : lv_has ls 3 [(0, .ref (b + a0)), (1, .int x1), (2, .int x2)]), W p l e ({ frames := 1, cells := 0, slots := 0, locals := 23 } : Room) s m args below meth c H locs 0 0 (MQ below (va_Qv (fun (u : PH) => u = out) (ph_B D cy b A fl) A) args s 0 0 A) (F0 m 14 ls []) := by
  intro n
  induction n with
  | zero => intro h a0 x1 x2 f; rw [F0_findRests_14] at f; cases f
  | succ n ih =>
    intro h a0 x1 x2 f H locs I ls hl
    rw [F0_findRests_14] at f
    refine lv_iload_n S.1 S.2.1 dX0_findRests_14 rfl (lv_at hl 2 rfl) ?_
    refine lv_iconst (v := 5) S.1 S.2.1 dX0_findRests_15 (by decide) ?_
    refine lv_icmp_ge (tgt := 67) S.1 S.2.1 dX0_findRests_16 (by decide) (fun q1 => ?_) (fun q1 => ?_)
    · have f := (if_pos q1).symm.trans f
      refine lv_iinc (v := (x1 + 1)) (lv' := [(1, .int (x1 + 1)), (0, .ref (b + a0)), (2, .int x2)]) S.1 S.2.1 dX0_findRests_67 hl (k := 1) rfl (congrArg (fun z => x1 + z) (by decide)) (by decide) rfl (fun ls hl => ?_)
      refine lv_goto (tgt := 7) S.1 S.2.1 dX0_findRests_70 (by decide) ?_
      exact hk7 f _ _ I _ (lv_sub hl [1, 0] rfl)
    · have f := (if_neg q1).symm.trans f
      refine lv_aload_n S.1 S.2.1 dX0_findRests_19 rfl (lv_at hl 0 rfl) ?_
      refine lv_iload_n S.1 S.2.1 dX0_findRests_20 rfl (lv_at hl 1 rfl) ?_
      refine lv_iload_n S.1 S.2.1 dX0_findRests_21 rfl (lv_at hl 2 rfl) ?_
      obtain ⟨o2, e3, f⟩ := ob f
      refine o_Vi S (As := [.int x1, .int x2]) (rest := []) (ci := 0) (M0_isRest l D cy b A fl e3) gX0_findRests_X0_isRest rfl rfl rfl cd0_isRest ⟨Nat.le_of_ble_eq_true rfl, Nat.le_of_ble_eq_true rfl⟩ I (gd e3).1 clX0 rfl rfl hl.1 rfl (Nat.le_of_ble_eq_true rfl) dX0_findRests_22 ⟨Nat.le_of_ble_eq_true rfl, Nat.le_of_ble_eq_true rfl⟩ (fun H locs I => ?_)
      refine lv_if_eq (tgt := 61) S.1 S.2.1 dX0_findRests_25 (by decide) (fun q4 => ?_) (fun q4 => ?_)
      · have f := (if_pos q4).symm.trans f
        refine lv_iinc (v := (x2 + 1)) (lv' := [(2, .int (x2 + 1)), (0, .ref (b + a0)), (1, .int x1)]) S.1 S.2.1 dX0_findRests_61 hl (k := 2) rfl (congrArg (fun z => x2 + z) (by decide)) (by decide) rfl (fun ls hl => ?_)
        refine lv_goto (tgt := 14) S.1 S.2.1 dX0_findRests_64 (by decide) ?_
        exact ih f I (lv_sub hl [1, 2, 0] rfl)
      · have f := (if_neg q4).symm.trans f
        refine lv_aload_n S.1 S.2.1 dX0_findRests_28 rfl (lv_at hl 0 rfl) ?_
        obtain ⟨r5, e6, f⟩ := ob f
        refine o_gR S lf0_findRests_27 I e6 dX0_findRests_29 ?_
        refine lv_aload_n S.1 S.2.1 dX0_findRests_32 rfl (lv_at hl 0 rfl) ?_
        obtain ⟨v7, e8, f⟩ := ob f
        refine o_gI S lf0_findRests_98 I e8 dX0_findRests_33 ?_
        refine lv_bipush (v := 10) S.1 S.2.1 dX0_findRests_36 (by decide) ?_
        refine o_gws S I dX0_findRests_38 (fun g9 z10 => ?_)
        refine lv_iload_n S.1 S.2.1 dX0_findRests_41 rfl (lv_at hl 1 rfl) ?_
        obtain ⟨v12, e11, f⟩ := ob f
        refine o_gwald S I z10 e11 dX0_findRests_42 ?_
        refine lv_imul S.1 S.2.1 dX0_findRests_43 ?_
        refine o_gws S I dX0_findRests_44 (fun g13 z14 => ?_)
        refine lv_iload_n S.1 S.2.1 dX0_findRests_47 rfl (lv_at hl 2 rfl) ?_
        obtain ⟨v16, e15, f⟩ := ob f
        refine o_gwald S I z14 e15 dX0_findRests_48 ?_
        refine lv_iadd S.1 S.2.1 dX0_findRests_49 ?_
        obtain ⟨h18, e17, f⟩ := ob f
        refine o_iast S I e17 dX0_findRests_50 (fun H locs I => ?_)
        refine lv_aload_n S.1 S.2.1 dX0_findRests_51 rfl (lv_at hl 0 rfl) ?_
        refine lv_dup S.1 S.2.1 dX0_findRests_52 rfl ?_
        obtain ⟨v19, e20, f⟩ := ob f
        refine o_gI S lf0_findRests_98 I e20 dX0_findRests_53 ?_
        refine lv_iconst (v := 1) S.1 S.2.1 dX0_findRests_56 (by decide) ?_
        refine lv_iadd S.1 S.2.1 dX0_findRests_57 ?_
        obtain ⟨h21, e22, f⟩ := ob f
        refine o_pI S lp0_findRests_98 I e22 dX0_findRests_58 (fun H locs I => ?_)
        refine lv_iinc (v := (x2 + 1)) (lv' := [(2, .int (x2 + 1)), (0, .ref (b + a0)), (1, .int x1)]) S.1 S.2.1 dX0_findRests_61 hl (k := 2) rfl (congrArg (fun z => x2 + z) (by decide)) (by decide) rfl (fun ls hl => ?_)
        refine lv_goto (tgt := 14) S.1 S.2.1 dX0_findRests_64 (by decide) ?_
        exact ih f I (lv_sub hl [1, 2, 0] rfl)
set_option maxHeartbeats 4000000 in
set_option maxRecDepth 100000 in
theorem T0_findRests_7 (S : CallFix p m c cX0_findRests 3 s args vX0_findRests RX0) (hr : meth.sig.returnType = none) (hlo : meth.locks = false) {out : PH} : ∀ (n : Nat) {h : PH} {a0 : Nat} {x1 : Int32} (f : F0_findRests_7  n h a0 x1 = some out) {H : Heap} {locs : List Loc} (I : ph_I D cy b A fl h s H locs) {ls : Array Slot} (hl : lv_has ls 3 [(0, .ref (b + a0)), (1, .int x1)]), W p l e ({ frames := 1, cells := 0, slots := 0, locals := 23 } : Room) s m args below meth c H locs 0 0 (MQ below (va_Qv (fun (u : PH) => u = out) (ph_B D cy b A fl) A) args s 0 0 A) (F0 m 7 ls []) := by
  intro n
  induction n with
  | zero => intro h a0 x1 f; rw [F0_findRests_7] at f; cases f
  | succ n ih =>
    intro h a0 x1 f H locs I ls hl
    rw [F0_findRests_7] at f
    refine lv_iload_n S.1 S.2.1 dX0_findRests_7 rfl (lv_at hl 1 rfl) ?_
    refine lv_iconst (v := 5) S.1 S.2.1 dX0_findRests_8 (by decide) ?_
    refine lv_icmp_ge (tgt := 73) S.1 S.2.1 dX0_findRests_9 (by decide) (fun q1 => ?_) (fun q1 => ?_)
    · have f := (if_pos q1).symm.trans f
      exact o_vret S hr hlo I f dX0_findRests_73
    · have f := (if_neg q1).symm.trans f
      refine lv_iconst (v := 0) S.1 S.2.1 dX0_findRests_12 (by decide) ?_
      refine lv_istore_n (lv' := [(2, .int 0), (0, .ref (b + a0)), (1, .int x1)]) S.1 S.2.1 dX0_findRests_13 rfl hl (by decide) rfl (fun ls hl => ?_)
      exact T0_findRests_14 S hr hlo (fun f _ _ I _ hl => ih f I hl) 1024 f I (lv_sub hl [1, 2, 0] rfl)
set_option maxHeartbeats 4000000 in
set_option maxRecDepth 100000 in
theorem T0_findRests_0 (S : CallFix p m c cX0_findRests 3 s args vX0_findRests RX0) (hr : meth.sig.returnType = none) (hlo : meth.locks = false) {out : PH} {h : PH} {a0 : Nat} (f : F0_findRests_0  h a0 = some out) {H : Heap} {locs : List Loc} (I : ph_I D cy b A fl h s H locs) {ls : Array Slot} (hl : lv_has ls 3 [(0, .ref (b + a0))]) : W p l e ({ frames := 1, cells := 0, slots := 0, locals := 23 } : Room) s m args below meth c H locs 0 0 (MQ below (va_Qv (fun (u : PH) => u = out) (ph_B D cy b A fl) A) args s 0 0 A) (F0 m 0 ls []) := by
  unfold F0_findRests_0 at f
  refine lv_aload_n S.1 S.2.1 dX0_findRests_0 rfl (lv_at hl 0 rfl) ?_
  refine lv_iconst (v := 0) S.1 S.2.1 dX0_findRests_1 (by decide) ?_
  obtain ⟨h1, e2, f⟩ := ob f
  refine o_pI S lp0_findRests_98 I e2 dX0_findRests_2 (fun H locs I => ?_)
  refine lv_iconst (v := 0) S.1 S.2.1 dX0_findRests_5 (by decide) ?_
  refine lv_istore_n (lv' := [(1, .int 0), (0, .ref (b + a0))]) S.1 S.2.1 dX0_findRests_6 rfl hl (by decide) rfl (fun ls hl => ?_)
  exact T0_findRests_7 S hr hlo  1024 f I (lv_sub hl [1, 0] rfl)
theorem M0_findRests (l : Launch) (D : va_G) (cy : Nat → ClassId) (b : Nat) (A : Nat → Prop) (fl : Bool) {h : PH} {a0 : Nat} {out : PH} (f : F0_findRests h a0 = some out) : Met l yX0_findRests vX0_findRests ({ frames := 1, cells := 0, slots := 0, locals := 23 } : Room) (va_Pc [.ref (b + a0)] (ph_B D cy b A fl h)) (va_Qv (fun (u : PH) => u = out) (ph_B D cy b A fl) A) 0 0 A :=
  o_met (by decide) rfl (Nat.le_of_ble_eq_true rfl) rfl (fun p e s m below meth c S hr hlo hnm ls hl I => T0_findRests_0 S hr hlo ((gd f).2) I (lv_sub hl [0] rfl))
def vX0_listPlan : List Cond := .code yX0_listPlan cX0_listPlan 5 none :: TB
theorem lf0_listPlan_36 : Fl vX0_listPlan RX0 36 0 9 := ⟨RX0, TX0, 13, rfl, by decide, (fun w h9 => List.mem_cons_of_mem _ (wC_wsX00 w h9)), (List.mem_cons_of_mem _ wT_9_15)⟩
theorem lf0_listPlan_40 : Fl vX0_listPlan RX0 40 0 10 := ⟨RX0, TX0, 13, rfl, by decide, (fun w h9 => List.mem_cons_of_mem _ (wC_wsX00 w h9)), (List.mem_cons_of_mem _ wT_9_16)⟩
theorem lf0_listPlan_122 : Fl vX0_listPlan RX0 122 0 11 := ⟨RX0, TX0, 13, rfl, by decide, (fun w h9 => List.mem_cons_of_mem _ (wC_wsX00 w h9)), (List.mem_cons_of_mem _ wT_55_2)⟩
theorem lp0_listPlan_122 : Pl vX0_listPlan RX0 122 0 11 .int := ⟨RX0, TX0, 13, tyX0, rfl, by decide, (fun w h9 => List.mem_cons_of_mem _ (wC_wsX00 w h9)), (List.mem_cons_of_mem _ wT_55_2), tyX0_ok, nmX0, rfl, rfl⟩
theorem lf0_listPlan_33 : Fl vX0_listPlan RX0 33 0 8 := ⟨RX0, TX0, 13, rfl, by decide, (fun w h9 => List.mem_cons_of_mem _ (wC_wsX00 w h9)), (List.mem_cons_of_mem _ wT_9_14)⟩
theorem cd0_listPlan : Cd yX0_listPlan 2 := ⟨by decide, by decide, by decide +kernel⟩
set_option maxHeartbeats 4000000 in
set_option maxRecDepth 100000 in
theorem T0_listPlan_10 (S : CallFix p m c cX0_listPlan 5 s args vX0_listPlan RX0) (hr : meth.sig.returnType = none) (hlo : meth.locks = false) {out : PH} : ∀ (n : Nat) {h : PH} {a0 : Nat} {x2 : Int32} {x3 : Int32} {x4 : Int32} (f : F0_listPlan_10  n h a0 x2 x3 x4 = some out) {H : Heap} {locs : List Loc} (I : ph_I D cy b A fl h s H locs) {ls : Array Slot} (hl : lv_has ls 5 [(0, .ref (b + a0)), (2, .int x2), (3, .int x3), (4, .int x4)]), W p l e ({ frames := 0, cells := 0, slots := 0, locals := 0 } : Room) s m args below meth c H locs 0 0 (MQ below (va_Qv (fun (u : PH) => u = out) (ph_B D cy b A fl) A) args s 0 0 A) (F0 m 10 ls []) := by
  intro n
  induction n with
  | zero => intro h a0 x2 x3 x4 f; rw [F0_listPlan_10] at f; cases f
  | succ n ih =>
    intro h a0 x2 x3 x4 f H locs I ls hl
    rw [F0_listPlan_10] at f
    refine lv_iload S.1 S.2.1 dX0_listPlan_10 (lv_at hl 3 rfl) ?_
    refine lv_iload_n S.1 S.2.1 dX0_listPlan_12 rfl (lv_at hl 1 rfl) ?_
    refine lv_icmp_ge (tgt := 67) S.1 S.2.1 dX0_listPlan_13 (by decide) (fun q1 => ?_) (fun q1 => ?_)
    · have f := (if_pos q1).symm.trans f
      exact o_vret S hr hlo I f dX0_listPlan_67
    · have f := (if_neg q1).symm.trans f
      refine lv_iload S.1 S.2.1 dX0_listPlan_16 (lv_at hl 3 rfl) ?_
      refine lv_iload_n S.1 S.2.1 dX0_listPlan_18 rfl (lv_at hl 2 rfl) ?_
      refine lv_icmp_lt (tgt := 61) S.1 S.2.1 dX0_listPlan_19 (by decide) (fun q2 => ?_) (fun q2 => ?_)
      · have f := (if_pos q2).symm.trans f
        refine lv_iinc (v := (x4 + 1)) (lv' := [(4, .int (x4 + 1)), (0, .ref (b + a0)), (2, .int x2), (3, .int x3)]) S.1 S.2.1 dX0_listPlan_61 hl (k := 3) rfl (congrArg (fun z => x4 + z) (by decide)) (by decide) rfl (fun ls hl => ?_)
        refine lv_goto (tgt := 10) S.1 S.2.1 dX0_listPlan_64 (by decide) ?_
        exact ih f I (lv_sub hl [1, 2, 3, 0] rfl)
      · have f := (if_neg q2).symm.trans f
        refine lv_aload_n S.1 S.2.1 dX0_listPlan_22 rfl (lv_at hl 0 rfl) ?_
        obtain ⟨r3, e4, f⟩ := ob f
        refine o_gR S lf0_listPlan_36 I e4 dX0_listPlan_23 ?_
        refine lv_iload S.1 S.2.1 dX0_listPlan_26 (lv_at hl 3 rfl) ?_
        obtain ⟨v6, e5, f⟩ := ob f
        refine o_zald S I e5 dX0_listPlan_28 ?_
        refine lv_if_eq (tgt := 61) S.1 S.2.1 dX0_listPlan_29 (by decide) (fun q7 => ?_) (fun q7 => ?_)
        · have f := (if_pos q7).symm.trans f
          refine lv_iinc (v := (x4 + 1)) (lv' := [(4, .int (x4 + 1)), (0, .ref (b + a0)), (2, .int x2), (3, .int x3)]) S.1 S.2.1 dX0_listPlan_61 hl (k := 3) rfl (congrArg (fun z => x4 + z) (by decide)) (by decide) rfl (fun ls hl => ?_)
          refine lv_goto (tgt := 10) S.1 S.2.1 dX0_listPlan_64 (by decide) ?_
          exact ih f I (lv_sub hl [1, 2, 3, 0] rfl)
        · have f := (if_neg q7).symm.trans f
          refine lv_aload_n S.1 S.2.1 dX0_listPlan_32 rfl (lv_at hl 0 rfl) ?_
          obtain ⟨r8, e9, f⟩ := ob f
          refine o_gR S lf0_listPlan_40 I e9 dX0_listPlan_33 ?_
          refine lv_aload_n S.1 S.2.1 dX0_listPlan_36 rfl (lv_at hl 0 rfl) ?_
          obtain ⟨v10, e11, f⟩ := ob f
          refine o_gI S lf0_listPlan_122 I e11 dX0_listPlan_37 ?_
          refine lv_iload S.1 S.2.1 dX0_listPlan_40 (lv_at hl 3 rfl) ?_
          obtain ⟨h13, e12, f⟩ := ob f
          refine o_iast S I e12 dX0_listPlan_42 (fun H locs I => ?_)
          refine lv_aload_n S.1 S.2.1 dX0_listPlan_43 rfl (lv_at hl 0 rfl) ?_
          refine lv_dup S.1 S.2.1 dX0_listPlan_44 rfl ?_
          obtain ⟨v14, e15, f⟩ := ob f
          refine o_gI S lf0_listPlan_122 I e15 dX0_listPlan_45 ?_
          refine lv_iconst (v := 1) S.1 S.2.1 dX0_listPlan_48 (by decide) ?_
          refine lv_iadd S.1 S.2.1 dX0_listPlan_49 ?_
          obtain ⟨h16, e17, f⟩ := ob f
          refine o_pI S lp0_listPlan_122 I e17 dX0_listPlan_50 (fun H locs I => ?_)
          refine lv_aload_n S.1 S.2.1 dX0_listPlan_53 rfl (lv_at hl 0 rfl) ?_
          obtain ⟨r18, e19, f⟩ := ob f
          refine o_gR S lf0_listPlan_33 I e19 dX0_listPlan_54 ?_
          refine lv_iload S.1 S.2.1 dX0_listPlan_57 (lv_at hl 3 rfl) ?_
          obtain ⟨v21, e20, f⟩ := ob f
          refine o_iald S I e20 dX0_listPlan_59 ?_
          refine lv_istore_n (lv' := [(3, .int v21), (0, .ref (b + a0)), (2, .int x2), (4, .int x4)]) S.1 S.2.1 dX0_listPlan_60 rfl hl (by decide) rfl (fun ls hl => ?_)
          refine lv_iinc (v := (x4 + 1)) (lv' := [(4, .int (x4 + 1)), (3, .int v21), (0, .ref (b + a0)), (2, .int x2)]) S.1 S.2.1 dX0_listPlan_61 hl (k := 3) rfl (congrArg (fun z => x4 + z) (by decide)) (by decide) rfl (fun ls hl => ?_)
          refine lv_goto (tgt := 10) S.1 S.2.1 dX0_listPlan_64 (by decide) ?_
          exact ih f I (lv_sub hl [2, 3, 1, 0] rfl)
set_option maxHeartbeats 4000000 in
set_option maxRecDepth 100000 in
theorem T0_listPlan_0 (S : CallFix p m c cX0_listPlan 5 s args vX0_listPlan RX0) (hr : meth.sig.returnType = none) (hlo : meth.locks = false) {out : PH} {h : PH} {a0 : Nat} {x1 : Int32} {x2 : Int32} (f : F0_listPlan_0  h a0 x1 x2 = some out) {H : Heap} {locs : List Loc} (I : ph_I D cy b A fl h s H locs) {ls : Array Slot} (hl : lv_has ls 5 [(0, .ref (b + a0)), (1, .int x1), (2, .int x2)]) : W p l e ({ frames := 0, cells := 0, slots := 0, locals := 0 } : Room) s m args below meth c H locs 0 0 (MQ below (va_Qv (fun (u : PH) => u = out) (ph_B D cy b A fl) A) args s 0 0 A) (F0 m 0 ls []) := by
  unfold F0_listPlan_0 at f
  refine lv_aload_n S.1 S.2.1 dX0_listPlan_0 rfl (lv_at hl 0 rfl) ?_
  refine lv_iconst (v := 0) S.1 S.2.1 dX0_listPlan_1 (by decide) ?_
  obtain ⟨h1, e2, f⟩ := ob f
  refine o_pI S lp0_listPlan_122 I e2 dX0_listPlan_2 (fun H locs I => ?_)
  refine lv_iload_n S.1 S.2.1 dX0_listPlan_5 rfl (lv_at hl 1 rfl) ?_
  refine lv_istore_n (lv' := [(3, .int x1), (0, .ref (b + a0)), (1, .int x1), (2, .int x2)]) S.1 S.2.1 dX0_listPlan_6 rfl hl (by decide) rfl (fun ls hl => ?_)
  refine lv_iload_n S.1 S.2.1 dX0_listPlan_7 rfl (lv_at hl 2 rfl) ?_
  refine lv_istore (lv' := [(4, .int x1), (3, .int x1), (0, .ref (b + a0)), (1, .int x1), (2, .int x2)]) S.1 S.2.1 dX0_listPlan_8 hl (by decide) rfl (fun ls hl => ?_)
  exact T0_listPlan_10 S hr hlo  1024 f I (lv_sub hl [2, 4, 1, 0] rfl)
theorem M0_listPlan (l : Launch) (D : va_G) (cy : Nat → ClassId) (b : Nat) (A : Nat → Prop) (fl : Bool) {h : PH} {a0 : Nat} {x1 : Int32} {x2 : Int32} {out : PH} (f : F0_listPlan h a0 x1 x2 = some out) : Met l yX0_listPlan vX0_listPlan ({ frames := 0, cells := 0, slots := 0, locals := 0 } : Room) (va_Pc [.ref (b + a0), .int x1, .int x2] (ph_B D cy b A fl h)) (va_Qv (fun (u : PH) => u = out) (ph_B D cy b A fl) A) 0 0 A :=
  o_met (by decide) rfl (Nat.le_of_ble_eq_true rfl) rfl (fun p e s m below meth c S hr hlo hnm ls hl I => T0_listPlan_0 S hr hlo ((gd f).2) I (lv_sub hl [0, 1, 2] rfl))
def vX10_firstFrom : List Cond := .code yX10_firstFrom cX10_firstFrom 3 (some .int) :: TB
theorem lf10_firstFrom_34 : Fl vX10_firstFrom RX10 34 10 1 := ⟨RX10, TX10, 8, rfl, by decide, (fun w h9 => List.mem_cons_of_mem _ (wC_wsX100 w h9)), (List.mem_cons_of_mem _ wT_15_4)⟩
theorem lf10_firstFrom_18 : Fl vX10_firstFrom RX10 18 10 4 := ⟨RX10, TX10, 8, rfl, by decide, (fun w h9 => List.mem_cons_of_mem _ (wC_wsX100 w h9)), (List.mem_cons_of_mem _ wT_4_10)⟩
theorem cd10_firstFrom : Cd yX10_firstFrom 1 := ⟨by decide, by decide, by decide +kernel⟩
set_option maxHeartbeats 4000000 in
set_option maxRecDepth 100000 in
theorem T10_firstFrom_2 (S : CallFix p m c cX10_firstFrom 3 s args vX10_firstFrom RX10) (hr : meth.sig.returnType = (some .int)) (hlo : meth.locks = false) {out : Int32 × PH} : ∀ (n : Nat) {h : PH} {a0 : Nat} {x1 : Int32} {x2 : Int32} (f : F10_firstFrom_2  n h a0 x1 x2 = some out) {H : Heap} {locs : List Loc} (I : ph_I D cy b A fl h s H locs) {ls : Array Slot} (hl : lv_has ls 3 [(0, .ref (b + a0)), (1, .int x1), (2, .int x2)]), W p l e ({ frames := 0, cells := 0, slots := 0, locals := 0 } : Room) s m args below meth c H locs 0 0 (MQ below (va_Qi (fun (r : Int32) (u : PH) => (r, u) = out) (ph_B D cy b A fl) A) args s 0 0 A) (F0 m 2 ls []) := by
  intro n
  induction n with
  | zero => intro h a0 x1 x2 f; rw [F10_firstFrom_2] at f; cases f
  | succ n ih =>
    intro h a0 x1 x2 f H locs I ls hl
    rw [F10_firstFrom_2] at f
    refine lv_iload_n S.1 S.2.1 dX10_firstFrom_2 rfl (lv_at hl 2 rfl) ?_
    refine lv_aload_n S.1 S.2.1 dX10_firstFrom_3 rfl (lv_at hl 0 rfl) ?_
    obtain ⟨v1, e2, f⟩ := ob f
    refine o_gI S lf10_firstFrom_34 I e2 dX10_firstFrom_4 ?_
    refine lv_icmp_ge (tgt := 28) S.1 S.2.1 dX10_firstFrom_7 (by decide) (fun q3 => ?_) (fun q3 => ?_)
    · have f := (if_pos q3).symm.trans f
      refine lv_aload_n S.1 S.2.1 dX10_firstFrom_28 rfl (lv_at hl 0 rfl) ?_
      obtain ⟨v4, e5, f⟩ := ob f
      refine o_gI S lf10_firstFrom_34 I e5 dX10_firstFrom_29 ?_
      exact o_iret S hr hlo I f dX10_firstFrom_32
    · have f := (if_neg q3).symm.trans f
      refine lv_aload_n S.1 S.2.1 dX10_firstFrom_10 rfl (lv_at hl 0 rfl) ?_
      obtain ⟨r6, e7, f⟩ := ob f
      refine o_gR S lf10_firstFrom_18 I e7 dX10_firstFrom_11 ?_
      refine lv_iload_n S.1 S.2.1 dX10_firstFrom_14 rfl (lv_at hl 2 rfl) ?_
      obtain ⟨v9, e8, f⟩ := ob f
      refine o_iald S I e8 dX10_firstFrom_15 ?_
      refine lv_iload_n S.1 S.2.1 dX10_firstFrom_16 rfl (lv_at hl 1 rfl) ?_
      refine lv_icmp_lt (tgt := 22) S.1 S.2.1 dX10_firstFrom_17 (by decide) (fun q10 => ?_) (fun q10 => ?_)
      · have f := (if_pos q10).symm.trans f
        refine lv_iinc (v := (x2 + 1)) (lv' := [(2, .int (x2 + 1)), (0, .ref (b + a0)), (1, .int x1)]) S.1 S.2.1 dX10_firstFrom_22 hl (k := 2) rfl (congrArg (fun z => x2 + z) (by decide)) (by decide) rfl (fun ls hl => ?_)
        refine lv_goto (tgt := 2) S.1 S.2.1 dX10_firstFrom_25 (by decide) ?_
        exact ih f I (lv_sub hl [1, 2, 0] rfl)
      · have f := (if_neg q10).symm.trans f
        refine lv_iload_n S.1 S.2.1 dX10_firstFrom_20 rfl (lv_at hl 2 rfl) ?_
        exact o_iret S hr hlo I f dX10_firstFrom_21
set_option maxHeartbeats 4000000 in
set_option maxRecDepth 100000 in
theorem T10_firstFrom_0 (S : CallFix p m c cX10_firstFrom 3 s args vX10_firstFrom RX10) (hr : meth.sig.returnType = (some .int)) (hlo : meth.locks = false) {out : Int32 × PH} {h : PH} {a0 : Nat} {x1 : Int32} (f : F10_firstFrom_0  h a0 x1 = some out) {H : Heap} {locs : List Loc} (I : ph_I D cy b A fl h s H locs) {ls : Array Slot} (hl : lv_has ls 3 [(0, .ref (b + a0)), (1, .int x1)]) : W p l e ({ frames := 0, cells := 0, slots := 0, locals := 0 } : Room) s m args below meth c H locs 0 0 (MQ below (va_Qi (fun (r : Int32) (u : PH) => (r, u) = out) (ph_B D cy b A fl) A) args s 0 0 A) (F0 m 0 ls []) := by
  unfold F10_firstFrom_0 at f
  refine lv_iconst (v := 0) S.1 S.2.1 dX10_firstFrom_0 (by decide) ?_
  refine lv_istore_n (lv' := [(2, .int 0), (0, .ref (b + a0)), (1, .int x1)]) S.1 S.2.1 dX10_firstFrom_1 rfl hl (by decide) rfl (fun ls hl => ?_)
  exact T10_firstFrom_2 S hr hlo  1024 f I (lv_sub hl [1, 2, 0] rfl)
theorem M10_firstFrom (l : Launch) (D : va_G) (cy : Nat → ClassId) (b : Nat) (A : Nat → Prop) (fl : Bool) {h : PH} {a0 : Nat} {x1 : Int32} {out : Int32 × PH} (f : F10_firstFrom h a0 x1 = some out) : Met l yX10_firstFrom vX10_firstFrom ({ frames := 0, cells := 0, slots := 0, locals := 0 } : Room) (va_Pc [.ref (b + a0), .int x1] (ph_B D cy b A fl h)) (va_Qi (fun (r : Int32) (u : PH) => (r, u) = out) (ph_B D cy b A fl) A) 0 0 A :=
  o_met (by decide) rfl (Nat.le_of_ble_eq_true rfl) rfl (fun p e s m below meth c S hr hlo hnm ls hl I => T10_firstFrom_0 S hr hlo ((gd f).2) I (lv_sub hl [0, 1] rfl))
def vX6_nameAway : List Cond := .code yX6_nameAway cX6_nameAway 3 none :: TB
theorem lf6_nameAway_25 : Fl vX6_nameAway RX6 25 6 4 := ⟨RX6, TX6, 9, rfl, by decide, (fun w h9 => List.mem_cons_of_mem _ (wC_wsX60 w h9)), (List.mem_cons_of_mem _ wT_7_19)⟩
theorem lf6_nameAway_15 : Fl vX6_nameAway RX6 15 6 1 := ⟨RX6, TX6, 9, rfl, by decide, (fun w h9 => List.mem_cons_of_mem _ (wC_wsX60 w h9)), (List.mem_cons_of_mem _ wT_7_16)⟩
theorem lf6_nameAway_9 : Fl vX6_nameAway RX6 9 6 0 := ⟨RX6, TX6, 9, rfl, by decide, (fun w h9 => List.mem_cons_of_mem _ (wC_wsX60 w h9)), (List.mem_cons_of_mem _ wT_7_15)⟩
theorem lf6_nameAway_57 : Fl vX6_nameAway RX6 57 8 5 := ⟨RX8, TX8, 14, rfl, by decide, (fun w h9 => List.mem_cons_of_mem _ (wC_wsX80 w h9)), (List.mem_cons_of_mem _ wT_24_9)⟩
theorem lf6_nameAway_112 : Fl vX6_nameAway RX6 112 10 5 := ⟨RX10, TX10, 8, rfl, by decide, (fun w h9 => List.mem_cons_of_mem _ (wC_wsX100 w h9)), (List.mem_cons_of_mem _ wT_39_2)⟩
theorem lf6_nameAway_67 : Fl vX6_nameAway RX6 67 10 4 := ⟨RX10, TX10, 8, rfl, by decide, (fun w h9 => List.mem_cons_of_mem _ (wC_wsX100 w h9)), (List.mem_cons_of_mem _ wT_24_11)⟩
theorem lf6_nameAway_115 : Fl vX6_nameAway RX6 115 10 7 := ⟨RX10, TX10, 8, rfl, by decide, (fun w h9 => List.mem_cons_of_mem _ (wC_wsX100 w h9)), (List.mem_cons_of_mem _ wT_39_3)⟩
theorem cd6_nameAway : Cd yX6_nameAway 2 := ⟨by decide, by decide, by decide +kernel⟩
set_option maxHeartbeats 4000000 in
set_option maxRecDepth 100000 in
theorem T6_nameAway_0 (S : CallFix p m c cX6_nameAway 3 s args vX6_nameAway RX6) (hr : meth.sig.returnType = none) (hlo : meth.locks = false) {out : PH} {h : PH} {a0 : Nat} {x1 : Int32} {x2 : Int32} (f : F6_nameAway_0  h a0 x1 x2 = some out) {H : Heap} {locs : List Loc} (I : ph_I D cy b A fl h s H locs) {ls : Array Slot} (hl : lv_has ls 3 [(0, .ref (b + a0)), (1, .int x1), (2, .int x2)]) : W p l e ({ frames := 0, cells := 0, slots := 0, locals := 0 } : Room) s m args below meth c H locs 0 0 (MQ below (va_Qv (fun (u : PH) => u = out) (ph_B D cy b A fl) A) args s 0 0 A) (F0 m 0 ls []) := by
  unfold F6_nameAway_0 at f
  refine lv_aload_n S.1 S.2.1 dX6_nameAway_0 rfl (lv_at hl 0 rfl) ?_
  obtain ⟨r1, e2, f⟩ := ob f
  refine o_gR S lf6_nameAway_25 I e2 dX6_nameAway_1 ?_
  refine lv_iconst (v := 0) S.1 S.2.1 dX6_nameAway_4 (by decide) ?_
  refine lv_lconst (v := 0) S.1 S.2.1 dX6_nameAway_5 (by decide) ?_
  obtain ⟨h4, e3, f⟩ := ob f
  refine o_last S I e3 dX6_nameAway_6 (fun H locs I => ?_)
  refine lv_aload_n S.1 S.2.1 dX6_nameAway_7 rfl (lv_at hl 0 rfl) ?_
  obtain ⟨r5, e6, f⟩ := ob f
  refine o_gR S lf6_nameAway_25 I e6 dX6_nameAway_8 ?_
  refine lv_iconst (v := 1) S.1 S.2.1 dX6_nameAway_11 (by decide) ?_
  refine lv_lconst (v := 0) S.1 S.2.1 dX6_nameAway_12 (by decide) ?_
  obtain ⟨h8, e7, f⟩ := ob f
  refine o_last S I e7 dX6_nameAway_13 (fun H locs I => ?_)
  refine lv_aload_n S.1 S.2.1 dX6_nameAway_14 rfl (lv_at hl 0 rfl) ?_
  obtain ⟨r9, e10, f⟩ := ob f
  refine o_gR S lf6_nameAway_25 I e10 dX6_nameAway_15 ?_
  refine lv_iconst (v := 2) S.1 S.2.1 dX6_nameAway_18 (by decide) ?_
  refine lv_aload_n S.1 S.2.1 dX6_nameAway_19 rfl (lv_at hl 0 rfl) ?_
  obtain ⟨r11, e12, f⟩ := ob f
  refine o_gR S lf6_nameAway_15 I e12 dX6_nameAway_20 ?_
  refine lv_iload_n S.1 S.2.1 dX6_nameAway_23 rfl (lv_at hl 1 rfl) ?_
  obtain ⟨v14, e13, f⟩ := ob f
  refine o_iald S I e13 dX6_nameAway_24 ?_
  refine lv_i2l (v := Int32.toInt64 v14) S.1 S.2.1 dX6_nameAway_25 rfl ?_
  obtain ⟨h16, e15, f⟩ := ob f
  refine o_last S I e15 dX6_nameAway_26 (fun H locs I => ?_)
  refine lv_aload_n S.1 S.2.1 dX6_nameAway_27 rfl (lv_at hl 0 rfl) ?_
  obtain ⟨r17, e18, f⟩ := ob f
  refine o_gR S lf6_nameAway_25 I e18 dX6_nameAway_28 ?_
  refine lv_iconst (v := 3) S.1 S.2.1 dX6_nameAway_31 (by decide) ?_
  refine lv_aload_n S.1 S.2.1 dX6_nameAway_32 rfl (lv_at hl 0 rfl) ?_
  obtain ⟨r19, e20, f⟩ := ob f
  refine o_gR S lf6_nameAway_9 I e20 dX6_nameAway_33 ?_
  obtain ⟨r21, e22, f⟩ := ob f
  refine o_gR S lf6_nameAway_57 I e22 dX6_nameAway_36 ?_
  obtain ⟨r23, e24, f⟩ := ob f
  refine o_gR S lf6_nameAway_112 I e24 dX6_nameAway_39 ?_
  refine lv_iload_n S.1 S.2.1 dX6_nameAway_42 rfl (lv_at hl 2 rfl) ?_
  obtain ⟨v26, e25, f⟩ := ob f
  refine o_iald S I e25 dX6_nameAway_43 ?_
  refine lv_i2l (v := Int32.toInt64 v26) S.1 S.2.1 dX6_nameAway_44 rfl ?_
  obtain ⟨h28, e27, f⟩ := ob f
  refine o_last S I e27 dX6_nameAway_45 (fun H locs I => ?_)
  refine lv_aload_n S.1 S.2.1 dX6_nameAway_46 rfl (lv_at hl 0 rfl) ?_
  obtain ⟨r29, e30, f⟩ := ob f
  refine o_gR S lf6_nameAway_25 I e30 dX6_nameAway_47 ?_
  refine lv_iconst (v := 4) S.1 S.2.1 dX6_nameAway_50 (by decide) ?_
  refine lv_aload_n S.1 S.2.1 dX6_nameAway_51 rfl (lv_at hl 0 rfl) ?_
  obtain ⟨r31, e32, f⟩ := ob f
  refine o_gR S lf6_nameAway_9 I e32 dX6_nameAway_52 ?_
  obtain ⟨r33, e34, f⟩ := ob f
  refine o_gR S lf6_nameAway_57 I e34 dX6_nameAway_55 ?_
  obtain ⟨r35, e36, f⟩ := ob f
  refine o_gR S lf6_nameAway_67 I e36 dX6_nameAway_58 ?_
  refine lv_iload_n S.1 S.2.1 dX6_nameAway_61 rfl (lv_at hl 2 rfl) ?_
  obtain ⟨v38, e37, f⟩ := ob f
  refine o_iald S I e37 dX6_nameAway_62 ?_
  refine lv_i2l (v := Int32.toInt64 v38) S.1 S.2.1 dX6_nameAway_63 rfl ?_
  obtain ⟨h40, e39, f⟩ := ob f
  refine o_last S I e39 dX6_nameAway_64 (fun H locs I => ?_)
  refine lv_aload_n S.1 S.2.1 dX6_nameAway_65 rfl (lv_at hl 0 rfl) ?_
  obtain ⟨r41, e42, f⟩ := ob f
  refine o_gR S lf6_nameAway_25 I e42 dX6_nameAway_66 ?_
  refine lv_iconst (v := 5) S.1 S.2.1 dX6_nameAway_69 (by decide) ?_
  refine lv_aload_n S.1 S.2.1 dX6_nameAway_70 rfl (lv_at hl 0 rfl) ?_
  obtain ⟨r43, e44, f⟩ := ob f
  refine o_gR S lf6_nameAway_9 I e44 dX6_nameAway_71 ?_
  obtain ⟨r45, e46, f⟩ := ob f
  refine o_gR S lf6_nameAway_57 I e46 dX6_nameAway_74 ?_
  obtain ⟨r47, e48, f⟩ := ob f
  refine o_gR S lf6_nameAway_115 I e48 dX6_nameAway_77 ?_
  refine lv_iload_n S.1 S.2.1 dX6_nameAway_80 rfl (lv_at hl 2 rfl) ?_
  obtain ⟨v50, e49, f⟩ := ob f
  refine o_iald S I e49 dX6_nameAway_81 ?_
  refine lv_i2l (v := Int32.toInt64 v50) S.1 S.2.1 dX6_nameAway_82 rfl ?_
  obtain ⟨h52, e51, f⟩ := ob f
  refine o_last S I e51 dX6_nameAway_83 (fun H locs I => ?_)
  exact o_vret S hr hlo I f dX6_nameAway_84
theorem M6_nameAway (l : Launch) (D : va_G) (cy : Nat → ClassId) (b : Nat) (A : Nat → Prop) (fl : Bool) {h : PH} {a0 : Nat} {x1 : Int32} {x2 : Int32} {out : PH} (f : F6_nameAway h a0 x1 x2 = some out) : Met l yX6_nameAway vX6_nameAway ({ frames := 0, cells := 0, slots := 0, locals := 0 } : Room) (va_Pc [.ref (b + a0), .int x1, .int x2] (ph_B D cy b A fl h)) (va_Qv (fun (u : PH) => u = out) (ph_B D cy b A fl) A) 0 0 A :=
  o_met (by decide) rfl (Nat.le_of_ble_eq_true rfl) rfl (fun p e s m below meth c S hr hlo hnm ls hl I => T6_nameAway_0 S hr hlo ((gd f).2) I (lv_sub hl [0, 1, 2] rfl))
def vX2_oneIf : List Cond := .code yX2_oneIf cX2_oneIf 1 (some .long) :: TB
theorem cd2_oneIf : Cd yX2_oneIf 1 := ⟨by decide, by decide, by decide +kernel⟩
set_option maxHeartbeats 4000000 in
set_option maxRecDepth 100000 in
theorem T2_oneIf_0 (S : CallFix p m c cX2_oneIf 1 s args vX2_oneIf RX2) (hr : meth.sig.returnType = (some .long)) (hlo : meth.locks = false) {out : Int64 × PH} {h : PH} {x0 : Int32} (f : F2_oneIf_0  h x0 = some out) {H : Heap} {locs : List Loc} (I : ph_I D cy b A fl h s H locs) {ls : Array Slot} (hl : lv_has ls 1 [(0, .int x0)]) : W p l e ({ frames := 0, cells := 0, slots := 0, locals := 0 } : Room) s m args below meth c H locs 0 0 (MQ below (va_Ql (fun (r : Int64) (u : PH) => (r, u) = out) (ph_B D cy b A fl) A) args s 0 0 A) (F0 m 0 ls []) := by
  unfold F2_oneIf_0 at f
  refine lv_iload_n S.1 S.2.1 dX2_oneIf_0 rfl (lv_at hl 0 rfl) ?_
  refine lv_if_eq (tgt := 8) S.1 S.2.1 dX2_oneIf_1 (by decide) (fun q1 => ?_) (fun q1 => ?_)
  · have f := (if_pos q1).symm.trans f
    refine lv_lconst (v := 0) S.1 S.2.1 dX2_oneIf_8 (by decide) ?_
    exact o_lret S hr hlo I f dX2_oneIf_9
  · have f := (if_neg q1).symm.trans f
    refine lv_lconst (v := 1) S.1 S.2.1 dX2_oneIf_4 (by decide) ?_
    refine lv_goto (tgt := 9) S.1 S.2.1 dX2_oneIf_5 (by decide) ?_
    exact o_lret S hr hlo I f dX2_oneIf_9
theorem M2_oneIf (l : Launch) (D : va_G) (cy : Nat → ClassId) (b : Nat) (A : Nat → Prop) (fl : Bool) {h : PH} {x0 : Int32} {out : Int64 × PH} (f : F2_oneIf h x0 = some out) : Met l yX2_oneIf vX2_oneIf ({ frames := 0, cells := 0, slots := 0, locals := 0 } : Room) (va_Pc [.int x0] (ph_B D cy b A fl h)) (va_Ql (fun (r : Int64) (u : PH) => (r, u) = out) (ph_B D cy b A fl) A) 0 0 A :=
  o_met (by decide) rfl (Nat.le_of_ble_eq_true rfl) rfl (fun p e s m below meth c S hr hlo hnm ls hl I => T2_oneIf_0 S hr hlo (f) I (lv_sub hl [0] rfl))
def vX2_product : List Cond := .code yX2_product cX2_product 8 (some .long) :: TB
theorem cd2_product : Cd yX2_product 2 := ⟨by decide, by decide, by decide +kernel⟩
set_option maxHeartbeats 4000000 in
set_option maxRecDepth 100000 in
theorem T2_product_26 (S : CallFix p m c cX2_product 8 s args vX2_product RX2) (hr : meth.sig.returnType = (some .long)) (hlo : meth.locks = false) {out : Int64 × PH} {h : PH} {j0 : Int64} {j2 : Int64} {j4 : Int64} {t0 : Int64} (f : F2_product_26  h j0 j2 j4 t0 = some out) {H : Heap} {locs : List Loc} (I : ph_I D cy b A fl h s H locs) {ls : Array Slot} (hl : lv_has ls 8 [(0, .long j0), (2, .long j2), (4, .long j4)]) : W p l e ({ frames := 0, cells := 0, slots := 0, locals := 0 } : Room) s m args below meth c H locs 0 0 (MQ below (va_Ql (fun (r : Int64) (u : PH) => (r, u) = out) (ph_B D cy b A fl) A) args s 0 0 A) (F0 m 26 ls [.long t0]) := by
  unfold F2_product_26 at f
  refine lv_lstore (lv' := [(6, .long t0), (0, .long j0), (2, .long j2), (4, .long j4)]) S.1 S.2.1 dX2_product_26 hl (by decide) rfl (fun ls hl => ?_)
  refine lv_lload S.1 S.2.1 dX2_product_28 (lv_at hl 0 rfl) ?_
  refine lv_lconst (v := 0) S.1 S.2.1 dX2_product_30 (by decide) ?_
  refine W.lcmp S.1 S.2.1 dX2_product_31 ?_
  refine lv_if_le (tgt := 51) S.1 S.2.1 dX2_product_32 (by decide) (fun q1 => ?_) (fun q1 => ?_)
  · have f := (if_pos q1).symm.trans f
    refine lv_lload_n S.1 S.2.1 dX2_product_51 rfl (lv_at hl 1 rfl) ?_
    refine lv_lload_n S.1 S.2.1 dX2_product_52 rfl (lv_at hl 2 rfl) ?_
    refine lv_lmul S.1 S.2.1 dX2_product_53 ?_
    exact o_lret S hr hlo I f dX2_product_54
  · have f := (if_neg q1).symm.trans f
    refine lv_lload S.1 S.2.1 dX2_product_35 (lv_at hl 3 rfl) ?_
    refine lv_ldc2 (v := 1000000000000) S.1 S.2.1 S.2.2.2.1 (S.2.2.2.2 _ (List.mem_cons_of_mem _ wT_25_12)) dX2_product_37 ?_
    refine lv_lload S.1 S.2.1 dX2_product_40 (lv_at hl 0 rfl) ?_
    have q2 : ¬ t0 = 0 := fun q => by rw [if_pos q] at f; cases f
    have f := (if_neg q2).symm.trans f
    refine lv_ldiv S.1 S.2.1 dX2_product_42 q2 ?_
    refine W.lcmp S.1 S.2.1 dX2_product_43 ?_
    refine lv_if_le (tgt := 51) S.1 S.2.1 dX2_product_44 (by decide) (fun q3 => ?_) (fun q3 => ?_)
    · have f := (if_pos q3).symm.trans f
      refine lv_lload_n S.1 S.2.1 dX2_product_51 rfl (lv_at hl 1 rfl) ?_
      refine lv_lload_n S.1 S.2.1 dX2_product_52 rfl (lv_at hl 2 rfl) ?_
      refine lv_lmul S.1 S.2.1 dX2_product_53 ?_
      exact o_lret S hr hlo I f dX2_product_54
    · have f := (if_neg q3).symm.trans f
      refine lv_ldc2 (v := (-9223372036854775808)) S.1 S.2.1 S.2.2.2.1 (S.2.2.2.2 _ (List.mem_cons_of_mem _ wT_25_14)) dX2_product_47 ?_
      exact o_lret S hr hlo I f dX2_product_50
set_option maxHeartbeats 4000000 in
set_option maxRecDepth 100000 in
theorem T2_product_12 (S : CallFix p m c cX2_product 8 s args vX2_product RX2) (hr : meth.sig.returnType = (some .long)) (hlo : meth.locks = false) {out : Int64 × PH} {h : PH} {j0 : Int64} {j2 : Int64} {t0 : Int64} (f : F2_product_12  h j0 j2 t0 = some out) {H : Heap} {locs : List Loc} (I : ph_I D cy b A fl h s H locs) {ls : Array Slot} (hl : lv_has ls 8 [(0, .long j0), (2, .long j2)]) : W p l e ({ frames := 0, cells := 0, slots := 0, locals := 0 } : Room) s m args below meth c H locs 0 0 (MQ below (va_Ql (fun (r : Int64) (u : PH) => (r, u) = out) (ph_B D cy b A fl) A) args s 0 0 A) (F0 m 12 ls [.long t0]) := by
  unfold F2_product_12 at f
  refine lv_lstore (lv' := [(4, .long t0), (0, .long j0), (2, .long j2)]) S.1 S.2.1 dX2_product_12 hl (by decide) rfl (fun ls hl => ?_)
  refine lv_lload_n S.1 S.2.1 dX2_product_14 rfl (lv_at hl 2 rfl) ?_
  refine lv_lconst (v := 0) S.1 S.2.1 dX2_product_15 (by decide) ?_
  refine W.lcmp S.1 S.2.1 dX2_product_16 ?_
  refine lv_if_ge (tgt := 25) S.1 S.2.1 dX2_product_17 (by decide) (fun q1 => ?_) (fun q1 => ?_)
  · have f := (if_pos q1).symm.trans f
    refine lv_lload_n S.1 S.2.1 dX2_product_25 rfl (lv_at hl 2 rfl) ?_
    exact T2_product_26 S hr hlo  f I (lv_sub hl [1, 2, 0] rfl)
  · have f := (if_neg q1).symm.trans f
    refine lv_lload_n S.1 S.2.1 dX2_product_20 rfl (lv_at hl 2 rfl) ?_
    refine lv_lneg S.1 S.2.1 dX2_product_21 ?_
    refine lv_goto (tgt := 26) S.1 S.2.1 dX2_product_22 (by decide) ?_
    exact T2_product_26 S hr hlo  f I (lv_sub hl [1, 2, 0] rfl)
set_option maxHeartbeats 4000000 in
set_option maxRecDepth 100000 in
theorem T2_product_0 (S : CallFix p m c cX2_product 8 s args vX2_product RX2) (hr : meth.sig.returnType = (some .long)) (hlo : meth.locks = false) {out : Int64 × PH} {h : PH} {j0 : Int64} {j2 : Int64} (f : F2_product_0  h j0 j2 = some out) {H : Heap} {locs : List Loc} (I : ph_I D cy b A fl h s H locs) {ls : Array Slot} (hl : lv_has ls 8 [(0, .long j0), (2, .long j2)]) : W p l e ({ frames := 0, cells := 0, slots := 0, locals := 0 } : Room) s m args below meth c H locs 0 0 (MQ below (va_Ql (fun (r : Int64) (u : PH) => (r, u) = out) (ph_B D cy b A fl) A) args s 0 0 A) (F0 m 0 ls []) := by
  unfold F2_product_0 at f
  refine lv_lload_n S.1 S.2.1 dX2_product_0 rfl (lv_at hl 0 rfl) ?_
  refine lv_lconst (v := 0) S.1 S.2.1 dX2_product_1 (by decide) ?_
  refine W.lcmp S.1 S.2.1 dX2_product_2 ?_
  refine lv_if_ge (tgt := 11) S.1 S.2.1 dX2_product_3 (by decide) (fun q1 => ?_) (fun q1 => ?_)
  · have f := (if_pos q1).symm.trans f
    refine lv_lload_n S.1 S.2.1 dX2_product_11 rfl (lv_at hl 0 rfl) ?_
    exact T2_product_12 S hr hlo  f I (lv_sub hl [0, 1] rfl)
  · have f := (if_neg q1).symm.trans f
    refine lv_lload_n S.1 S.2.1 dX2_product_6 rfl (lv_at hl 0 rfl) ?_
    refine lv_lneg S.1 S.2.1 dX2_product_7 ?_
    refine lv_goto (tgt := 12) S.1 S.2.1 dX2_product_8 (by decide) ?_
    exact T2_product_12 S hr hlo  f I (lv_sub hl [0, 1] rfl)
theorem M2_product (l : Launch) (D : va_G) (cy : Nat → ClassId) (b : Nat) (A : Nat → Prop) (fl : Bool) {h : PH} {j0 : Int64} {j2 : Int64} {out : Int64 × PH} (f : F2_product h j0 j2 = some out) : Met l yX2_product vX2_product ({ frames := 0, cells := 0, slots := 0, locals := 0 } : Room) (va_Pc [.long j0, .long j2] (ph_B D cy b A fl h)) (va_Ql (fun (r : Int64) (u : PH) => (r, u) = out) (ph_B D cy b A fl) A) 0 0 A :=
  o_met (by decide) rfl (Nat.le_of_ble_eq_true rfl) rfl (fun p e s m below meth c S hr hlo hnm ls hl I => T2_product_0 S hr hlo (f) I (lv_sub hl [0, 1] rfl))
def vX2_join : List Cond := .code yX2_join cX2_join 5 (some .long) :: TB
theorem gX2_join_X2_oneIf : GoodIn vX2_join (va_wsS RX2 33 yX2_oneIf vX2_oneIf) := gS_of wT_25_18 wT_25_19 wT_3_14 wT_25_20
theorem gX2_join_X2_product : GoodIn vX2_join (va_wsS RX2 37 yX2_product vX2_product) := gS_of wT_25_21 wT_25_22 wT_3_14 wT_25_23
theorem cd2_join : Cd yX2_join 3 := ⟨by decide, by decide, by decide +kernel⟩
set_option maxHeartbeats 4000000 in
set_option maxRecDepth 100000 in
theorem T2_join_134 (S : CallFix p m c cX2_join 5 s args vX2_join RX2) (hr : meth.sig.returnType = (some .long)) (hlo : meth.locks = false) {out : Int64 × PH} {h : PH} {s0 : Int32} (f : F2_join_134  h s0 = some out) {H : Heap} {locs : List Loc} (I : ph_I D cy b A fl h s H locs) {ls : Array Slot} (hl : lv_has ls 5 []) : W p l e ({ frames := 1, cells := 0, slots := 0, locals := 27 } : Room) s m args below meth c H locs 0 0 (MQ below (va_Ql (fun (r : Int64) (u : PH) => (r, u) = out) (ph_B D cy b A fl) A) args s 0 0 A) (F0 m 134 ls [.int s0]) := by
  unfold F2_join_134 at f
  obtain ⟨o1, e2, f⟩ := ob f
  refine o_Sl S (As := [.int s0]) (rest := []) (M2_oneIf l D cy b A fl e2) gX2_join_X2_oneIf rfl rfl rfl cd2_oneIf ⟨Nat.le_of_ble_eq_true rfl, Nat.le_of_ble_eq_true rfl⟩ I rfl hl.1 rfl (Nat.le_of_ble_eq_true rfl) dX2_join_134 ⟨Nat.le_of_ble_eq_true rfl, Nat.le_of_ble_eq_true rfl⟩ (fun H locs I => ?_)
  exact o_lret S hr hlo I f dX2_join_137
set_option maxHeartbeats 4000000 in
set_option maxRecDepth 100000 in
theorem T2_join_133 (S : CallFix p m c cX2_join 5 s args vX2_join RX2) (hr : meth.sig.returnType = (some .long)) (hlo : meth.locks = false) {out : Int64 × PH} {h : PH}  (f : F2_join_133  h  = some out) {H : Heap} {locs : List Loc} (I : ph_I D cy b A fl h s H locs) {ls : Array Slot} (hl : lv_has ls 5 []) : W p l e ({ frames := 1, cells := 0, slots := 0, locals := 27 } : Room) s m args below meth c H locs 0 0 (MQ below (va_Ql (fun (r : Int64) (u : PH) => (r, u) = out) (ph_B D cy b A fl) A) args s 0 0 A) (F0 m 133 ls []) := by
  unfold F2_join_133 at f
  refine lv_iconst (v := 0) S.1 S.2.1 dX2_join_133 (by decide) ?_
  exact T2_join_134 S hr hlo  f I (lv_sub hl [] rfl)
set_option maxHeartbeats 4000000 in
set_option maxRecDepth 100000 in
theorem T2_join_113 (S : CallFix p m c cX2_join 5 s args vX2_join RX2) (hr : meth.sig.returnType = (some .long)) (hlo : meth.locks = false) {out : Int64 × PH} {h : PH} {s0 : Int32} (f : F2_join_113  h s0 = some out) {H : Heap} {locs : List Loc} (I : ph_I D cy b A fl h s H locs) {ls : Array Slot} (hl : lv_has ls 5 []) : W p l e ({ frames := 1, cells := 0, slots := 0, locals := 27 } : Room) s m args below meth c H locs 0 0 (MQ below (va_Ql (fun (r : Int64) (u : PH) => (r, u) = out) (ph_B D cy b A fl) A) args s 0 0 A) (F0 m 113 ls [.int s0]) := by
  unfold F2_join_113 at f
  obtain ⟨o1, e2, f⟩ := ob f
  refine o_Sl S (As := [.int s0]) (rest := []) (M2_oneIf l D cy b A fl e2) gX2_join_X2_oneIf rfl rfl rfl cd2_oneIf ⟨Nat.le_of_ble_eq_true rfl, Nat.le_of_ble_eq_true rfl⟩ I rfl hl.1 rfl (Nat.le_of_ble_eq_true rfl) dX2_join_113 ⟨Nat.le_of_ble_eq_true rfl, Nat.le_of_ble_eq_true rfl⟩ (fun H locs I => ?_)
  exact o_lret S hr hlo I f dX2_join_116
set_option maxHeartbeats 4000000 in
set_option maxRecDepth 100000 in
theorem T2_join_108 (S : CallFix p m c cX2_join 5 s args vX2_join RX2) (hr : meth.sig.returnType = (some .long)) (hlo : meth.locks = false) {out : Int64 × PH} {h : PH}  (f : F2_join_108  h  = some out) {H : Heap} {locs : List Loc} (I : ph_I D cy b A fl h s H locs) {ls : Array Slot} (hl : lv_has ls 5 []) : W p l e ({ frames := 1, cells := 0, slots := 0, locals := 27 } : Room) s m args below meth c H locs 0 0 (MQ below (va_Ql (fun (r : Int64) (u : PH) => (r, u) = out) (ph_B D cy b A fl) A) args s 0 0 A) (F0 m 108 ls []) := by
  unfold F2_join_108 at f
  refine lv_iconst (v := 1) S.1 S.2.1 dX2_join_108 (by decide) ?_
  refine lv_goto (tgt := 113) S.1 S.2.1 dX2_join_109 (by decide) ?_
  exact T2_join_113 S hr hlo  f I (lv_sub hl [] rfl)
set_option maxHeartbeats 4000000 in
set_option maxRecDepth 100000 in
theorem T2_join_149 (S : CallFix p m c cX2_join 5 s args vX2_join RX2) (hr : meth.sig.returnType = (some .long)) (hlo : meth.locks = false) {out : Int64 × PH} {h : PH} {s0 : Int32} (f : F2_join_149  h s0 = some out) {H : Heap} {locs : List Loc} (I : ph_I D cy b A fl h s H locs) {ls : Array Slot} (hl : lv_has ls 5 []) : W p l e ({ frames := 1, cells := 0, slots := 0, locals := 27 } : Room) s m args below meth c H locs 0 0 (MQ below (va_Ql (fun (r : Int64) (u : PH) => (r, u) = out) (ph_B D cy b A fl) A) args s 0 0 A) (F0 m 149 ls [.int s0]) := by
  unfold F2_join_149 at f
  obtain ⟨o1, e2, f⟩ := ob f
  refine o_Sl S (As := [.int s0]) (rest := []) (M2_oneIf l D cy b A fl e2) gX2_join_X2_oneIf rfl rfl rfl cd2_oneIf ⟨Nat.le_of_ble_eq_true rfl, Nat.le_of_ble_eq_true rfl⟩ I rfl hl.1 rfl (Nat.le_of_ble_eq_true rfl) dX2_join_149 ⟨Nat.le_of_ble_eq_true rfl, Nat.le_of_ble_eq_true rfl⟩ (fun H locs I => ?_)
  exact o_lret S hr hlo I f dX2_join_152
set_option maxHeartbeats 4000000 in
set_option maxRecDepth 100000 in
theorem T2_join_164 (S : CallFix p m c cX2_join 5 s args vX2_join RX2) (hr : meth.sig.returnType = (some .long)) (hlo : meth.locks = false) {out : Int64 × PH} {h : PH} {s0 : Int32} (f : F2_join_164  h s0 = some out) {H : Heap} {locs : List Loc} (I : ph_I D cy b A fl h s H locs) {ls : Array Slot} (hl : lv_has ls 5 []) : W p l e ({ frames := 1, cells := 0, slots := 0, locals := 27 } : Room) s m args below meth c H locs 0 0 (MQ below (va_Ql (fun (r : Int64) (u : PH) => (r, u) = out) (ph_B D cy b A fl) A) args s 0 0 A) (F0 m 164 ls [.int s0]) := by
  unfold F2_join_164 at f
  obtain ⟨o1, e2, f⟩ := ob f
  refine o_Sl S (As := [.int s0]) (rest := []) (M2_oneIf l D cy b A fl e2) gX2_join_X2_oneIf rfl rfl rfl cd2_oneIf ⟨Nat.le_of_ble_eq_true rfl, Nat.le_of_ble_eq_true rfl⟩ I rfl hl.1 rfl (Nat.le_of_ble_eq_true rfl) dX2_join_164 ⟨Nat.le_of_ble_eq_true rfl, Nat.le_of_ble_eq_true rfl⟩ (fun H locs I => ?_)
  exact o_lret S hr hlo I f dX2_join_167
set_option maxHeartbeats 4000000 in
set_option maxRecDepth 100000 in
theorem T2_join_179 (S : CallFix p m c cX2_join 5 s args vX2_join RX2) (hr : meth.sig.returnType = (some .long)) (hlo : meth.locks = false) {out : Int64 × PH} {h : PH} {s0 : Int32} (f : F2_join_179  h s0 = some out) {H : Heap} {locs : List Loc} (I : ph_I D cy b A fl h s H locs) {ls : Array Slot} (hl : lv_has ls 5 []) : W p l e ({ frames := 1, cells := 0, slots := 0, locals := 27 } : Room) s m args below meth c H locs 0 0 (MQ below (va_Ql (fun (r : Int64) (u : PH) => (r, u) = out) (ph_B D cy b A fl) A) args s 0 0 A) (F0 m 179 ls [.int s0]) := by
  unfold F2_join_179 at f
  obtain ⟨o1, e2, f⟩ := ob f
  refine o_Sl S (As := [.int s0]) (rest := []) (M2_oneIf l D cy b A fl e2) gX2_join_X2_oneIf rfl rfl rfl cd2_oneIf ⟨Nat.le_of_ble_eq_true rfl, Nat.le_of_ble_eq_true rfl⟩ I rfl hl.1 rfl (Nat.le_of_ble_eq_true rfl) dX2_join_179 ⟨Nat.le_of_ble_eq_true rfl, Nat.le_of_ble_eq_true rfl⟩ (fun H locs I => ?_)
  exact o_lret S hr hlo I f dX2_join_182
set_option maxHeartbeats 4000000 in
set_option maxRecDepth 100000 in
theorem T2_join_194 (S : CallFix p m c cX2_join 5 s args vX2_join RX2) (hr : meth.sig.returnType = (some .long)) (hlo : meth.locks = false) {out : Int64 × PH} {h : PH} {s0 : Int32} (f : F2_join_194  h s0 = some out) {H : Heap} {locs : List Loc} (I : ph_I D cy b A fl h s H locs) {ls : Array Slot} (hl : lv_has ls 5 []) : W p l e ({ frames := 1, cells := 0, slots := 0, locals := 27 } : Room) s m args below meth c H locs 0 0 (MQ below (va_Ql (fun (r : Int64) (u : PH) => (r, u) = out) (ph_B D cy b A fl) A) args s 0 0 A) (F0 m 194 ls [.int s0]) := by
  unfold F2_join_194 at f
  obtain ⟨o1, e2, f⟩ := ob f
  refine o_Sl S (As := [.int s0]) (rest := []) (M2_oneIf l D cy b A fl e2) gX2_join_X2_oneIf rfl rfl rfl cd2_oneIf ⟨Nat.le_of_ble_eq_true rfl, Nat.le_of_ble_eq_true rfl⟩ I rfl hl.1 rfl (Nat.le_of_ble_eq_true rfl) dX2_join_194 ⟨Nat.le_of_ble_eq_true rfl, Nat.le_of_ble_eq_true rfl⟩ (fun H locs I => ?_)
  exact o_lret S hr hlo I f dX2_join_197
set_option maxHeartbeats 4000000 in
set_option maxRecDepth 100000 in
theorem T2_join_209 (S : CallFix p m c cX2_join 5 s args vX2_join RX2) (hr : meth.sig.returnType = (some .long)) (hlo : meth.locks = false) {out : Int64 × PH} {h : PH} {s0 : Int32} (f : F2_join_209  h s0 = some out) {H : Heap} {locs : List Loc} (I : ph_I D cy b A fl h s H locs) {ls : Array Slot} (hl : lv_has ls 5 []) : W p l e ({ frames := 1, cells := 0, slots := 0, locals := 27 } : Room) s m args below meth c H locs 0 0 (MQ below (va_Ql (fun (r : Int64) (u : PH) => (r, u) = out) (ph_B D cy b A fl) A) args s 0 0 A) (F0 m 209 ls [.int s0]) := by
  unfold F2_join_209 at f
  obtain ⟨o1, e2, f⟩ := ob f
  refine o_Sl S (As := [.int s0]) (rest := []) (M2_oneIf l D cy b A fl e2) gX2_join_X2_oneIf rfl rfl rfl cd2_oneIf ⟨Nat.le_of_ble_eq_true rfl, Nat.le_of_ble_eq_true rfl⟩ I rfl hl.1 rfl (Nat.le_of_ble_eq_true rfl) dX2_join_209 ⟨Nat.le_of_ble_eq_true rfl, Nat.le_of_ble_eq_true rfl⟩ (fun H locs I => ?_)
  exact o_lret S hr hlo I f dX2_join_212
set_option maxHeartbeats 4000000 in
set_option maxRecDepth 100000 in
theorem T2_join_224 (S : CallFix p m c cX2_join 5 s args vX2_join RX2) (hr : meth.sig.returnType = (some .long)) (hlo : meth.locks = false) {out : Int64 × PH} {h : PH} {s0 : Int32} (f : F2_join_224  h s0 = some out) {H : Heap} {locs : List Loc} (I : ph_I D cy b A fl h s H locs) {ls : Array Slot} (hl : lv_has ls 5 []) : W p l e ({ frames := 1, cells := 0, slots := 0, locals := 27 } : Room) s m args below meth c H locs 0 0 (MQ below (va_Ql (fun (r : Int64) (u : PH) => (r, u) = out) (ph_B D cy b A fl) A) args s 0 0 A) (F0 m 224 ls [.int s0]) := by
  unfold F2_join_224 at f
  obtain ⟨o1, e2, f⟩ := ob f
  refine o_Sl S (As := [.int s0]) (rest := []) (M2_oneIf l D cy b A fl e2) gX2_join_X2_oneIf rfl rfl rfl cd2_oneIf ⟨Nat.le_of_ble_eq_true rfl, Nat.le_of_ble_eq_true rfl⟩ I rfl hl.1 rfl (Nat.le_of_ble_eq_true rfl) dX2_join_224 ⟨Nat.le_of_ble_eq_true rfl, Nat.le_of_ble_eq_true rfl⟩ (fun H locs I => ?_)
  exact o_lret S hr hlo I f dX2_join_227
set_option maxHeartbeats 4000000 in
set_option maxRecDepth 100000 in
theorem T2_join_0 (S : CallFix p m c cX2_join 5 s args vX2_join RX2) (hr : meth.sig.returnType = (some .long)) (hlo : meth.locks = false) {out : Int64 × PH} {h : PH} {x0 : Int32} {j1 : Int64} {j3 : Int64} (f : F2_join_0  h x0 j1 j3 = some out) {H : Heap} {locs : List Loc} (I : ph_I D cy b A fl h s H locs) {ls : Array Slot} (hl : lv_has ls 5 [(0, .int x0), (1, .long j1), (3, .long j3)]) : W p l e ({ frames := 1, cells := 0, slots := 0, locals := 27 } : Room) s m args below meth c H locs 0 0 (MQ below (va_Ql (fun (r : Int64) (u : PH) => (r, u) = out) (ph_B D cy b A fl) A) args s 0 0 A) (F0 m 0 ls []) := by
  unfold F2_join_0 at f
  refine lv_iload_n S.1 S.2.1 dX2_join_0 rfl (lv_at hl 0 rfl) ?_
  rcases Decidable.em (x0 = 16) with q1 | q1
  · have f := (if_pos q1).symm.trans f
    refine lv_tableIn (off := 116) (tgt := 117) S.1 S.2.1 dX2_join_1 (by rw [q1]; decide) (by rw [q1]; decide) (by rw [q1]; rfl) (by decide) ?_
    refine lv_lload_n S.1 S.2.1 dX2_join_117 rfl (lv_at hl 1 rfl) ?_
    refine lv_lconst (v := 0) S.1 S.2.1 dX2_join_118 (by decide) ?_
    refine W.lcmp S.1 S.2.1 dX2_join_119 ?_
    refine lv_if_eq (tgt := 133) S.1 S.2.1 dX2_join_120 (by decide) (fun q2 => ?_) (fun q2 => ?_)
    · have f := (if_pos q2).symm.trans f
      exact T2_join_133 S hr hlo  f I (lv_sub hl [] rfl)
    · have f := (if_neg q2).symm.trans f
      refine lv_lload_n S.1 S.2.1 dX2_join_123 rfl (lv_at hl 2 rfl) ?_
      refine lv_lconst (v := 0) S.1 S.2.1 dX2_join_124 (by decide) ?_
      refine W.lcmp S.1 S.2.1 dX2_join_125 ?_
      refine lv_if_eq (tgt := 133) S.1 S.2.1 dX2_join_126 (by decide) (fun q3 => ?_) (fun q3 => ?_)
      · have f := (if_pos q3).symm.trans f
        exact T2_join_133 S hr hlo  f I (lv_sub hl [] rfl)
      · have f := (if_neg q3).symm.trans f
        refine lv_iconst (v := 1) S.1 S.2.1 dX2_join_129 (by decide) ?_
        refine lv_goto (tgt := 134) S.1 S.2.1 dX2_join_130 (by decide) ?_
        exact T2_join_134 S hr hlo  f I (lv_sub hl [] rfl)
  have f := (if_neg q1).symm.trans f
  rcases Decidable.em (x0 = 17) with q4 | q4
  · have f := (if_pos q4).symm.trans f
    refine lv_tableIn (off := 95) (tgt := 96) S.1 S.2.1 dX2_join_1 (by rw [q4]; decide) (by rw [q4]; decide) (by rw [q4]; rfl) (by decide) ?_
    refine lv_lload_n S.1 S.2.1 dX2_join_96 rfl (lv_at hl 1 rfl) ?_
    refine lv_lconst (v := 0) S.1 S.2.1 dX2_join_97 (by decide) ?_
    refine W.lcmp S.1 S.2.1 dX2_join_98 ?_
    refine lv_if_ne (tgt := 108) S.1 S.2.1 dX2_join_99 (by decide) (fun q5 => ?_) (fun q5 => ?_)
    · have f := (if_neg q5).symm.trans f
      exact T2_join_108 S hr hlo  f I (lv_sub hl [] rfl)
    · have f := (if_pos q5).symm.trans f
      refine lv_lload_n S.1 S.2.1 dX2_join_102 rfl (lv_at hl 2 rfl) ?_
      refine lv_lconst (v := 0) S.1 S.2.1 dX2_join_103 (by decide) ?_
      refine W.lcmp S.1 S.2.1 dX2_join_104 ?_
      refine lv_if_eq (tgt := 112) S.1 S.2.1 dX2_join_105 (by decide) (fun q6 => ?_) (fun q6 => ?_)
      · have f := (if_pos q6).symm.trans f
        refine lv_iconst (v := 0) S.1 S.2.1 dX2_join_112 (by decide) ?_
        exact T2_join_113 S hr hlo  f I (lv_sub hl [] rfl)
      · have f := (if_neg q6).symm.trans f
        exact T2_join_108 S hr hlo  f I (lv_sub hl [] rfl)
  have f := (if_neg q4).symm.trans f
  rcases Decidable.em (x0 = 26) with q7 | q7
  · have f := (if_pos q7).symm.trans f
    refine lv_tableIn (off := 137) (tgt := 138) S.1 S.2.1 dX2_join_1 (by rw [q7]; decide) (by rw [q7]; decide) (by rw [q7]; rfl) (by decide) ?_
    refine lv_lload_n S.1 S.2.1 dX2_join_138 rfl (lv_at hl 1 rfl) ?_
    refine lv_lload_n S.1 S.2.1 dX2_join_139 rfl (lv_at hl 2 rfl) ?_
    refine W.lcmp S.1 S.2.1 dX2_join_140 ?_
    refine lv_if_ge (tgt := 148) S.1 S.2.1 dX2_join_141 (by decide) (fun q8 => ?_) (fun q8 => ?_)
    · have f := (if_pos q8).symm.trans f
      refine lv_iconst (v := 0) S.1 S.2.1 dX2_join_148 (by decide) ?_
      exact T2_join_149 S hr hlo  f I (lv_sub hl [] rfl)
    · have f := (if_neg q8).symm.trans f
      refine lv_iconst (v := 1) S.1 S.2.1 dX2_join_144 (by decide) ?_
      refine lv_goto (tgt := 149) S.1 S.2.1 dX2_join_145 (by decide) ?_
      exact T2_join_149 S hr hlo  f I (lv_sub hl [] rfl)
  have f := (if_neg q7).symm.trans f
  rcases Decidable.em (x0 = 27) with q9 | q9
  · have f := (if_pos q9).symm.trans f
    refine lv_tableIn (off := 152) (tgt := 153) S.1 S.2.1 dX2_join_1 (by rw [q9]; decide) (by rw [q9]; decide) (by rw [q9]; rfl) (by decide) ?_
    refine lv_lload_n S.1 S.2.1 dX2_join_153 rfl (lv_at hl 1 rfl) ?_
    refine lv_lload_n S.1 S.2.1 dX2_join_154 rfl (lv_at hl 2 rfl) ?_
    refine W.lcmp S.1 S.2.1 dX2_join_155 ?_
    refine lv_if_gt (tgt := 163) S.1 S.2.1 dX2_join_156 (by decide) (fun q10 => ?_) (fun q10 => ?_)
    · have f := (if_pos q10).symm.trans f
      refine lv_iconst (v := 0) S.1 S.2.1 dX2_join_163 (by decide) ?_
      exact T2_join_164 S hr hlo  f I (lv_sub hl [] rfl)
    · have f := (if_neg q10).symm.trans f
      refine lv_iconst (v := 1) S.1 S.2.1 dX2_join_159 (by decide) ?_
      refine lv_goto (tgt := 164) S.1 S.2.1 dX2_join_160 (by decide) ?_
      exact T2_join_164 S hr hlo  f I (lv_sub hl [] rfl)
  have f := (if_neg q9).symm.trans f
  rcases Decidable.em (x0 = 28) with q11 | q11
  · have f := (if_pos q11).symm.trans f
    refine lv_tableIn (off := 167) (tgt := 168) S.1 S.2.1 dX2_join_1 (by rw [q11]; decide) (by rw [q11]; decide) (by rw [q11]; rfl) (by decide) ?_
    refine lv_lload_n S.1 S.2.1 dX2_join_168 rfl (lv_at hl 1 rfl) ?_
    refine lv_lload_n S.1 S.2.1 dX2_join_169 rfl (lv_at hl 2 rfl) ?_
    refine W.lcmp S.1 S.2.1 dX2_join_170 ?_
    refine lv_if_ne (tgt := 178) S.1 S.2.1 dX2_join_171 (by decide) (fun q12 => ?_) (fun q12 => ?_)
    · have f := (if_neg q12).symm.trans f
      refine lv_iconst (v := 0) S.1 S.2.1 dX2_join_178 (by decide) ?_
      exact T2_join_179 S hr hlo  f I (lv_sub hl [] rfl)
    · have f := (if_pos q12).symm.trans f
      refine lv_iconst (v := 1) S.1 S.2.1 dX2_join_174 (by decide) ?_
      refine lv_goto (tgt := 179) S.1 S.2.1 dX2_join_175 (by decide) ?_
      exact T2_join_179 S hr hlo  f I (lv_sub hl [] rfl)
  have f := (if_neg q11).symm.trans f
  rcases Decidable.em (x0 = 29) with q13 | q13
  · have f := (if_pos q13).symm.trans f
    refine lv_tableIn (off := 182) (tgt := 183) S.1 S.2.1 dX2_join_1 (by rw [q13]; decide) (by rw [q13]; decide) (by rw [q13]; rfl) (by decide) ?_
    refine lv_lload_n S.1 S.2.1 dX2_join_183 rfl (lv_at hl 1 rfl) ?_
    refine lv_lload_n S.1 S.2.1 dX2_join_184 rfl (lv_at hl 2 rfl) ?_
    refine W.lcmp S.1 S.2.1 dX2_join_185 ?_
    refine lv_if_eq (tgt := 193) S.1 S.2.1 dX2_join_186 (by decide) (fun q14 => ?_) (fun q14 => ?_)
    · have f := (if_pos q14).symm.trans f
      refine lv_iconst (v := 0) S.1 S.2.1 dX2_join_193 (by decide) ?_
      exact T2_join_194 S hr hlo  f I (lv_sub hl [] rfl)
    · have f := (if_neg q14).symm.trans f
      refine lv_iconst (v := 1) S.1 S.2.1 dX2_join_189 (by decide) ?_
      refine lv_goto (tgt := 194) S.1 S.2.1 dX2_join_190 (by decide) ?_
      exact T2_join_194 S hr hlo  f I (lv_sub hl [] rfl)
  have f := (if_neg q13).symm.trans f
  rcases Decidable.em (x0 = 30) with q15 | q15
  · have f := (if_pos q15).symm.trans f
    refine lv_tableIn (off := 197) (tgt := 198) S.1 S.2.1 dX2_join_1 (by rw [q15]; decide) (by rw [q15]; decide) (by rw [q15]; rfl) (by decide) ?_
    refine lv_lload_n S.1 S.2.1 dX2_join_198 rfl (lv_at hl 1 rfl) ?_
    refine lv_lload_n S.1 S.2.1 dX2_join_199 rfl (lv_at hl 2 rfl) ?_
    refine W.lcmp S.1 S.2.1 dX2_join_200 ?_
    refine lv_if_lt (tgt := 208) S.1 S.2.1 dX2_join_201 (by decide) (fun q16 => ?_) (fun q16 => ?_)
    · have f := (if_pos q16).symm.trans f
      refine lv_iconst (v := 0) S.1 S.2.1 dX2_join_208 (by decide) ?_
      exact T2_join_209 S hr hlo  f I (lv_sub hl [] rfl)
    · have f := (if_neg q16).symm.trans f
      refine lv_iconst (v := 1) S.1 S.2.1 dX2_join_204 (by decide) ?_
      refine lv_goto (tgt := 209) S.1 S.2.1 dX2_join_205 (by decide) ?_
      exact T2_join_209 S hr hlo  f I (lv_sub hl [] rfl)
  have f := (if_neg q15).symm.trans f
  rcases Decidable.em (x0 = 31) with q17 | q17
  · have f := (if_pos q17).symm.trans f
    refine lv_tableIn (off := 212) (tgt := 213) S.1 S.2.1 dX2_join_1 (by rw [q17]; decide) (by rw [q17]; decide) (by rw [q17]; rfl) (by decide) ?_
    refine lv_lload_n S.1 S.2.1 dX2_join_213 rfl (lv_at hl 1 rfl) ?_
    refine lv_lload_n S.1 S.2.1 dX2_join_214 rfl (lv_at hl 2 rfl) ?_
    refine W.lcmp S.1 S.2.1 dX2_join_215 ?_
    refine lv_if_le (tgt := 223) S.1 S.2.1 dX2_join_216 (by decide) (fun q18 => ?_) (fun q18 => ?_)
    · have f := (if_pos q18).symm.trans f
      refine lv_iconst (v := 0) S.1 S.2.1 dX2_join_223 (by decide) ?_
      exact T2_join_224 S hr hlo  f I (lv_sub hl [] rfl)
    · have f := (if_neg q18).symm.trans f
      refine lv_iconst (v := 1) S.1 S.2.1 dX2_join_219 (by decide) ?_
      refine lv_goto (tgt := 224) S.1 S.2.1 dX2_join_220 (by decide) ?_
      exact T2_join_224 S hr hlo  f I (lv_sub hl [] rfl)
  have f := (if_neg q17).symm.trans f
  rcases Decidable.em (x0 = 32) with q19 | q19
  · have f := (if_pos q19).symm.trans f
    refine lv_tableIn (off := 227) (tgt := 228) S.1 S.2.1 dX2_join_1 (by rw [q19]; decide) (by rw [q19]; decide) (by rw [q19]; rfl) (by decide) ?_
    refine lv_lload_n S.1 S.2.1 dX2_join_228 rfl (lv_at hl 1 rfl) ?_
    refine lv_lload_n S.1 S.2.1 dX2_join_229 rfl (lv_at hl 2 rfl) ?_
    refine lv_ladd S.1 S.2.1 dX2_join_230 ?_
    exact o_lret S hr hlo I f dX2_join_231
  have f := (if_neg q19).symm.trans f
  rcases Decidable.em (x0 = 33) with q20 | q20
  · have f := (if_pos q20).symm.trans f
    refine lv_tableIn (off := 231) (tgt := 232) S.1 S.2.1 dX2_join_1 (by rw [q20]; decide) (by rw [q20]; decide) (by rw [q20]; rfl) (by decide) ?_
    refine lv_lload_n S.1 S.2.1 dX2_join_232 rfl (lv_at hl 1 rfl) ?_
    refine lv_lload_n S.1 S.2.1 dX2_join_233 rfl (lv_at hl 2 rfl) ?_
    refine lv_lsub S.1 S.2.1 dX2_join_234 ?_
    exact o_lret S hr hlo I f dX2_join_235
  have f := (if_neg q20).symm.trans f
  rcases Decidable.em (x0 = 34) with q21 | q21
  · have f := (if_pos q21).symm.trans f
    refine lv_tableIn (off := 235) (tgt := 236) S.1 S.2.1 dX2_join_1 (by rw [q21]; decide) (by rw [q21]; decide) (by rw [q21]; rfl) (by decide) ?_
    refine lv_lload_n S.1 S.2.1 dX2_join_236 rfl (lv_at hl 1 rfl) ?_
    refine lv_lload_n S.1 S.2.1 dX2_join_237 rfl (lv_at hl 2 rfl) ?_
    obtain ⟨o22, e23, f⟩ := ob f
    refine o_Sl S (As := [.long j1, .long j3]) (rest := []) (M2_product l D cy b A fl e23) gX2_join_X2_product rfl rfl rfl cd2_product ⟨Nat.le_of_ble_eq_true rfl, Nat.le_of_ble_eq_true rfl⟩ I rfl hl.1 rfl (Nat.le_of_ble_eq_true rfl) dX2_join_238 ⟨Nat.le_of_ble_eq_true rfl, Nat.le_of_ble_eq_true rfl⟩ (fun H locs I => ?_)
    exact o_lret S hr hlo I f dX2_join_241
  have f := (if_neg q21).symm.trans f
  rcases Decidable.em (x0 = 35) with q24 | q24
  · have f := (if_pos q24).symm.trans f
    refine lv_tableIn (off := 241) (tgt := 242) S.1 S.2.1 dX2_join_1 (by rw [q24]; decide) (by rw [q24]; decide) (by rw [q24]; rfl) (by decide) ?_
    refine lv_lload_n S.1 S.2.1 dX2_join_242 rfl (lv_at hl 2 rfl) ?_
    refine lv_lconst (v := 0) S.1 S.2.1 dX2_join_243 (by decide) ?_
    refine W.lcmp S.1 S.2.1 dX2_join_244 ?_
    refine lv_if_ne (tgt := 254) S.1 S.2.1 dX2_join_245 (by decide) (fun q25 => ?_) (fun q25 => ?_)
    · have f := (if_neg q25).symm.trans f
      refine lv_lload_n S.1 S.2.1 dX2_join_254 rfl (lv_at hl 1 rfl) ?_
      refine lv_lload_n S.1 S.2.1 dX2_join_255 rfl (lv_at hl 2 rfl) ?_
      have q26 : ¬ j3 = 0 := fun q => by rw [if_pos q] at f; cases f
      have f := (if_neg q26).symm.trans f
      refine lv_ldiv S.1 S.2.1 dX2_join_256 q26 ?_
      exact o_lret S hr hlo I f dX2_join_257
    · have f := (if_pos q25).symm.trans f
      refine lv_ldc2 (v := (-9223372036854775808)) S.1 S.2.1 S.2.2.2.1 (S.2.2.2.2 _ (List.mem_cons_of_mem _ wT_25_14)) dX2_join_248 ?_
      refine lv_goto (tgt := 257) S.1 S.2.1 dX2_join_251 (by decide) ?_
      exact o_lret S hr hlo I f dX2_join_257
  have f := (if_neg q24).symm.trans f
  suffices K : W p l e ({ frames := 1, cells := 0, slots := 0, locals := 27 } : Room) s m args below meth c H locs 0 0 (MQ below (va_Ql (fun (r : Int64) (u : PH) => (r, u) = out) (ph_B D cy b A fl) A) args s 0 0 A) (F0 m 258 ls []) by
    have := lv_neT q1 (a := 16) (by decide)
    have := lv_neT q4 (a := 17) (by decide)
    have := lv_neT q7 (a := 26) (by decide)
    have := lv_neT q9 (a := 27) (by decide)
    have := lv_neT q11 (a := 28) (by decide)
    have := lv_neT q13 (a := 29) (by decide)
    have := lv_neT q15 (a := 30) (by decide)
    have := lv_neT q17 (a := 31) (by decide)
    have := lv_neT q19 (a := 32) (by decide)
    have := lv_neT q20 (a := 33) (by decide)
    have := lv_neT q21 (a := 34) (by decide)
    have := lv_neT q24 (a := 35) (by decide)
    have g9 : (x0).toInt < 16 ∨ 35 < (x0).toInt ∨ (x0).toInt = 18 ∨ (x0).toInt = 19 ∨ (x0).toInt = 20 ∨ (x0).toInt = 21 ∨ (x0).toInt = 22 ∨ (x0).toInt = 23 ∨ (x0).toInt = 24 ∨ (x0).toInt = 25 := by omega
    rcases g9 with g9 | g9 | g9 | g9 | g9 | g9 | g9 | g9 | g9 | g9
    · exact lv_tableOut (tgt := 258) S.1 S.2.1 dX2_join_1 (Or.inl g9) (by decide) K
    · exact lv_tableOut (tgt := 258) S.1 S.2.1 dX2_join_1 (Or.inr g9) (by decide) K
    · exact lv_tableIn (off := 257) (tgt := 258) S.1 S.2.1 dX2_join_1 (by rw [g9]; decide) (by rw [g9]; decide) (by rw [g9]; rfl) (by decide) K
    · exact lv_tableIn (off := 257) (tgt := 258) S.1 S.2.1 dX2_join_1 (by rw [g9]; decide) (by rw [g9]; decide) (by rw [g9]; rfl) (by decide) K
    · exact lv_tableIn (off := 257) (tgt := 258) S.1 S.2.1 dX2_join_1 (by rw [g9]; decide) (by rw [g9]; decide) (by rw [g9]; rfl) (by decide) K
    · exact lv_tableIn (off := 257) (tgt := 258) S.1 S.2.1 dX2_join_1 (by rw [g9]; decide) (by rw [g9]; decide) (by rw [g9]; rfl) (by decide) K
    · exact lv_tableIn (off := 257) (tgt := 258) S.1 S.2.1 dX2_join_1 (by rw [g9]; decide) (by rw [g9]; decide) (by rw [g9]; rfl) (by decide) K
    · exact lv_tableIn (off := 257) (tgt := 258) S.1 S.2.1 dX2_join_1 (by rw [g9]; decide) (by rw [g9]; decide) (by rw [g9]; rfl) (by decide) K
    · exact lv_tableIn (off := 257) (tgt := 258) S.1 S.2.1 dX2_join_1 (by rw [g9]; decide) (by rw [g9]; decide) (by rw [g9]; rfl) (by decide) K
    · exact lv_tableIn (off := 257) (tgt := 258) S.1 S.2.1 dX2_join_1 (by rw [g9]; decide) (by rw [g9]; decide) (by rw [g9]; rfl) (by decide) K
  refine lv_ldc2 (v := (-9223372036854775808)) S.1 S.2.1 S.2.2.2.1 (S.2.2.2.2 _ (List.mem_cons_of_mem _ wT_25_14)) dX2_join_258 ?_
  exact o_lret S hr hlo I f dX2_join_261
theorem M2_join (l : Launch) (D : va_G) (cy : Nat → ClassId) (b : Nat) (A : Nat → Prop) (fl : Bool) {h : PH} {x0 : Int32} {j1 : Int64} {j3 : Int64} {out : Int64 × PH} (f : F2_join h x0 j1 j3 = some out) : Met l yX2_join vX2_join ({ frames := 1, cells := 0, slots := 0, locals := 27 } : Room) (va_Pc [.int x0, .long j1, .long j3] (ph_B D cy b A fl h)) (va_Ql (fun (r : Int64) (u : PH) => (r, u) = out) (ph_B D cy b A fl) A) 0 0 A :=
  o_met (by decide) rfl (Nat.le_of_ble_eq_true rfl) rfl (fun p e s m below meth c S hr hlo hnm ls hl I => T2_join_0 S hr hlo (f) I (lv_sub hl [0, 1, 2] rfl))
def vX2_valueFor : List Cond := .code yX2_valueFor cX2_valueFor 8 (some .long) :: TB
theorem gX2_valueFor_X2_join : GoodIn vX2_valueFor (va_wsS RX2 23 yX2_join vX2_join) := gS_of wT_25_15 wT_25_16 wT_3_14 wT_25_17
theorem lf2_valueFor_15 : Fl vX2_valueFor RX2 15 2 1 := ⟨RX2, TX2, 3, rfl, by decide, (fun w h9 => List.mem_cons_of_mem _ (wC_wsX20 w h9)), (List.mem_cons_of_mem _ wT_15_9)⟩
theorem lf2_valueFor_9 : Fl vX2_valueFor RX2 9 2 0 := ⟨RX2, TX2, 3, rfl, by decide, (fun w h9 => List.mem_cons_of_mem _ (wC_wsX20 w h9)), (List.mem_cons_of_mem _ wT_4_18)⟩
theorem cd2_valueFor : Cd yX2_valueFor 2 := ⟨by decide, by decide, by decide +kernel⟩
set_option maxHeartbeats 4000000 in
set_option maxRecDepth 100000 in
theorem T2_valueFor_177 (S : CallFix p m c cX2_valueFor 8 s args vX2_valueFor RX2) (hr : meth.sig.returnType = (some .long)) (hlo : meth.locks = false) {out : Int64 × PH} {h : PH} {a2 : Nat} {x3 : Int32} (f : F2_valueFor_177  h a2 x3 = some out) {H : Heap} {locs : List Loc} (I : ph_I D cy b A fl h s H locs) {ls : Array Slot} (hl : lv_has ls 8 [(2, .ref (b + a2)), (3, .int x3)]) : W p l e ({ frames := 2, cells := 0, slots := 0, locals := 51 } : Room) s m args below meth c H locs 0 0 (MQ below (va_Ql (fun (r : Int64) (u : PH) => (r, u) = out) (ph_B D cy b A fl) A) args s 0 0 A) (F0 m 177 ls []) := by
  unfold F2_valueFor_177 at f
  refine lv_iload_n S.1 S.2.1 dX2_valueFor_177 rfl (lv_at hl 1 rfl) ?_
  refine lv_iconst (v := 1) S.1 S.2.1 dX2_valueFor_178 (by decide) ?_
  refine lv_icmp_ne (tgt := 188) S.1 S.2.1 dX2_valueFor_179 (by decide) (fun q1 => ?_) (fun q1 => ?_)
  · have f := (if_neg q1).symm.trans f
    refine lv_ldc2 (v := (-9223372036854775808)) S.1 S.2.1 S.2.2.2.1 (S.2.2.2.2 _ (List.mem_cons_of_mem _ wT_25_14)) dX2_valueFor_188 ?_
    exact o_lret S hr hlo I f dX2_valueFor_191
  · have f := (if_pos q1).symm.trans f
    refine lv_aload_n S.1 S.2.1 dX2_valueFor_182 rfl (lv_at hl 0 rfl) ?_
    refine lv_iconst (v := 0) S.1 S.2.1 dX2_valueFor_183 (by decide) ?_
    obtain ⟨w3, e2, f⟩ := ob f
    refine o_lald S I e2 dX2_valueFor_184 ?_
    refine lv_goto (tgt := 191) S.1 S.2.1 dX2_valueFor_185 (by decide) ?_
    exact o_lret S hr hlo I f dX2_valueFor_191
set_option maxHeartbeats 4000000 in
set_option maxRecDepth 100000 in
theorem T2_valueFor_119 (S : CallFix p m c cX2_valueFor 8 s args vX2_valueFor RX2) (hr : meth.sig.returnType = (some .long)) (hlo : meth.locks = false) {out : Int64 × PH} {k5 : PH → Nat → Nat → Nat → Int32 → Int32 → Option (Int64 × PH)} (hk5 : ∀ {h : PH} {a0 : Nat} {a1 : Nat} {a2 : Nat} {x3 : Int32} {x4 : Int32}, k5 h a0 a1 a2 x3 x4 = some out → ∀ (H : Heap) (locs : List Loc), ph_I D cy b A fl h s H locs → ∀ (ls : Array Slot), lv_has ls 8 [(0, .ref (b + a0)), (1, .ref (b + a1)), (2, .ref (b + a2)), (3, .int x3), (4, .int x4)] → W p l e ({ frames := 2, cells := 0, slots := 0, locals := 51 } : Room) s m args below meth c H locs 0 0 (MQ below (va_Ql (fun (r : Int64) (u : PH) => (r, u) = out) (ph_B D cy b A fl) A) args s 0 0 A) (F0 m 5 ls [])) {h : PH} {a0 : Nat} {a1 : Nat} {a2 : Nat} {x3 : Int32} {x4 : Int32} {x5 : Int32} (f : F2_valueFor_119 k5 h a0 a1 a2 x3 x4 x5 = some out) {H : Heap} {locs : List Loc} (I : ph_I D cy b A fl h s H locs) {ls : Array Slot} (hl : lv_has ls 8 [(0, .ref (b + a0)), (1, .ref (b + a1)), (2, .ref (b + a2)), (3, .int x3), (4, .int x4), (5, .int x5)]) : W p l e ({ frames := 2, cells := 0, slots := 0, locals := 51 } : Room) s m args below meth c H locs 0 0 (MQ below (va_Ql (fun (r : Int64) (u : PH) => (r, u) = out) (ph_B D cy b A fl) A) args s 0 0 A) (F0 m 119 ls []) := by
  unfold F2_valueFor_119 at f
  refine lv_iload_n S.1 S.2.1 dX2_valueFor_119 rfl (lv_at hl 3 rfl) ?_
  refine lv_iconst (v := 1) S.1 S.2.1 dX2_valueFor_120 (by decide) ?_
  refine lv_icmp_le (tgt := 171) S.1 S.2.1 dX2_valueFor_121 (by decide) (fun q1 => ?_) (fun q1 => ?_)
  · have f := (if_pos q1).symm.trans f
    refine lv_iinc (v := (x4 + 1)) (lv' := [(4, .int (x4 + 1)), (0, .ref (b + a0)), (1, .ref (b + a1)), (2, .ref (b + a2)), (3, .int x3), (5, .int x5)]) S.1 S.2.1 dX2_valueFor_171 hl (k := 4) rfl (congrArg (fun z => x4 + z) (by decide)) (by decide) rfl (fun ls hl => ?_)
    refine lv_goto (tgt := 5) S.1 S.2.1 dX2_valueFor_174 (by decide) ?_
    exact hk5 f _ _ I _ (lv_sub hl [1, 2, 3, 4, 0] rfl)
  · have f := (if_neg q1).symm.trans f
    refine lv_iinc (v := (x3 + (-1))) (lv' := [(3, .int (x3 + (-1))), (0, .ref (b + a0)), (1, .ref (b + a1)), (2, .ref (b + a2)), (4, .int x4), (5, .int x5)]) S.1 S.2.1 dX2_valueFor_124 hl (k := 3) rfl (congrArg (fun z => x3 + z) (by decide)) (by decide) rfl (fun ls hl => ?_)
    refine lv_iload S.1 S.2.1 dX2_valueFor_127 (lv_at hl 5 rfl) ?_
    refine lv_aload_n S.1 S.2.1 dX2_valueFor_129 rfl (lv_at hl 3 rfl) ?_
    refine lv_iload_n S.1 S.2.1 dX2_valueFor_130 rfl (lv_at hl 0 rfl) ?_
    refine lv_iconst (v := 1) S.1 S.2.1 dX2_valueFor_131 (by decide) ?_
    refine lv_isub S.1 S.2.1 dX2_valueFor_132 ?_
    obtain ⟨w3, e2, f⟩ := ob f
    refine o_lald S I e2 dX2_valueFor_133 ?_
    refine lv_aload_n S.1 S.2.1 dX2_valueFor_134 rfl (lv_at hl 3 rfl) ?_
    refine lv_iload_n S.1 S.2.1 dX2_valueFor_135 rfl (lv_at hl 0 rfl) ?_
    obtain ⟨w5, e4, f⟩ := ob f
    refine o_lald S I e4 dX2_valueFor_136 ?_
    obtain ⟨o6, e7, f⟩ := ob f
    refine o_Sl S (As := [.int x5, .long w3, .long w5]) (rest := []) (M2_join l D cy b A fl e7) gX2_valueFor_X2_join rfl rfl rfl cd2_join ⟨Nat.le_of_ble_eq_true rfl, Nat.le_of_ble_eq_true rfl⟩ I rfl hl.1 rfl (Nat.le_of_ble_eq_true rfl) dX2_valueFor_137 ⟨Nat.le_of_ble_eq_true rfl, Nat.le_of_ble_eq_true rfl⟩ (fun H locs I => ?_)
    refine lv_lstore (lv' := [(6, .long o6.1), (3, .int (x3 + (-1))), (0, .ref (b + a0)), (1, .ref (b + a1)), (2, .ref (b + a2)), (4, .int x4), (5, .int x5)]) S.1 S.2.1 dX2_valueFor_140 hl (by decide) rfl (fun ls hl => ?_)
    refine lv_lload S.1 S.2.1 dX2_valueFor_142 (lv_at hl 0 rfl) ?_
    refine lv_ldc2 (v := 1000000000000) S.1 S.2.1 S.2.2.2.1 (S.2.2.2.2 _ (List.mem_cons_of_mem _ wT_25_12)) dX2_valueFor_144 ?_
    refine W.lcmp S.1 S.2.1 dX2_valueFor_147 ?_
    refine lv_if_gt (tgt := 160) S.1 S.2.1 dX2_valueFor_148 (by decide) (fun q8 => ?_) (fun q8 => ?_)
    · have f := (if_pos q8).symm.trans f
      refine lv_ldc2 (v := (-9223372036854775808)) S.1 S.2.1 S.2.2.2.1 (S.2.2.2.2 _ (List.mem_cons_of_mem _ wT_25_14)) dX2_valueFor_160 ?_
      exact o_lret S hr hlo I f dX2_valueFor_163
    · have f := (if_neg q8).symm.trans f
      refine lv_lload S.1 S.2.1 dX2_valueFor_151 (lv_at hl 0 rfl) ?_
      refine lv_ldc2 (v := (-1000000000000)) S.1 S.2.1 S.2.2.2.1 (S.2.2.2.2 _ (List.mem_cons_of_mem _ wT_25_13)) dX2_valueFor_153 ?_
      refine W.lcmp S.1 S.2.1 dX2_valueFor_156 ?_
      refine lv_if_ge (tgt := 164) S.1 S.2.1 dX2_valueFor_157 (by decide) (fun q9 => ?_) (fun q9 => ?_)
      · have f := (if_pos q9).symm.trans f
        refine lv_aload_n S.1 S.2.1 dX2_valueFor_164 rfl (lv_at hl 4 rfl) ?_
        refine lv_iload_n S.1 S.2.1 dX2_valueFor_165 rfl (lv_at hl 1 rfl) ?_
        refine lv_iconst (v := 1) S.1 S.2.1 dX2_valueFor_166 (by decide) ?_
        refine lv_isub S.1 S.2.1 dX2_valueFor_167 ?_
        refine lv_lload S.1 S.2.1 dX2_valueFor_168 (lv_at hl 0 rfl) ?_
        obtain ⟨h11, e10, f⟩ := ob f
        refine o_last S I e10 dX2_valueFor_170 (fun H locs I => ?_)
        refine lv_iinc (v := (x4 + 1)) (lv' := [(4, .int (x4 + 1)), (6, .long o6.1), (3, .int (x3 + (-1))), (0, .ref (b + a0)), (1, .ref (b + a1)), (2, .ref (b + a2)), (5, .int x5)]) S.1 S.2.1 dX2_valueFor_171 hl (k := 5) rfl (congrArg (fun z => x4 + z) (by decide)) (by decide) rfl (fun ls hl => ?_)
        refine lv_goto (tgt := 5) S.1 S.2.1 dX2_valueFor_174 (by decide) ?_
        exact hk5 f _ _ I _ (lv_sub hl [3, 4, 5, 2, 0] rfl)
      · have f := (if_neg q9).symm.trans f
        refine lv_ldc2 (v := (-9223372036854775808)) S.1 S.2.1 S.2.2.2.1 (S.2.2.2.2 _ (List.mem_cons_of_mem _ wT_25_14)) dX2_valueFor_160 ?_
        exact o_lret S hr hlo I f dX2_valueFor_163
set_option maxHeartbeats 4000000 in
set_option maxRecDepth 100000 in
theorem T2_valueFor_115 (S : CallFix p m c cX2_valueFor 8 s args vX2_valueFor RX2) (hr : meth.sig.returnType = (some .long)) (hlo : meth.locks = false) {out : Int64 × PH} {k5 : PH → Nat → Nat → Nat → Int32 → Int32 → Option (Int64 × PH)} (hk5 : ∀ {h : PH} {a0 : Nat} {a1 : Nat} {a2 : Nat} {x3 : Int32} {x4 : Int32}, k5 h a0 a1 a2 x3 x4 = some out → ∀ (H : Heap) (locs : List Loc), ph_I D cy b A fl h s H locs → ∀ (ls : Array Slot), lv_has ls 8 [(0, .ref (b + a0)), (1, .ref (b + a1)), (2, .ref (b + a2)), (3, .int x3), (4, .int x4)] → W p l e ({ frames := 2, cells := 0, slots := 0, locals := 51 } : Room) s m args below meth c H locs 0 0 (MQ below (va_Ql (fun (r : Int64) (u : PH) => (r, u) = out) (ph_B D cy b A fl) A) args s 0 0 A) (F0 m 5 ls [])) {h : PH} {a0 : Nat} {a1 : Nat} {a2 : Nat} {x3 : Int32} {x4 : Int32} {t0 : Int64} {s1 : Int32} {u2 : Nat} (f : F2_valueFor_115 k5 h a0 a1 a2 x3 x4 t0 s1 u2 = some out) {H : Heap} {locs : List Loc} (I : ph_I D cy b A fl h s H locs) {ls : Array Slot} (hl : lv_has ls 8 [(0, .ref (b + a0)), (1, .ref (b + a1)), (2, .ref (b + a2)), (3, .int x3), (4, .int x4)]) : W p l e ({ frames := 2, cells := 0, slots := 0, locals := 51 } : Room) s m args below meth c H locs 0 0 (MQ below (va_Ql (fun (r : Int64) (u : PH) => (r, u) = out) (ph_B D cy b A fl) A) args s 0 0 A) (F0 m 115 ls [.long t0, .int s1, .ref (b + u2)]) := by
  unfold F2_valueFor_115 at f
  obtain ⟨h2, e1, f⟩ := ob f
  refine o_last S I e1 dX2_valueFor_115 (fun H locs I => ?_)
  refine lv_goto (tgt := 171) S.1 S.2.1 dX2_valueFor_116 (by decide) ?_
  refine lv_iinc (v := (x4 + 1)) (lv' := [(4, .int (x4 + 1)), (0, .ref (b + a0)), (1, .ref (b + a1)), (2, .ref (b + a2)), (3, .int x3)]) S.1 S.2.1 dX2_valueFor_171 hl (k := 4) rfl (congrArg (fun z => x4 + z) (by decide)) (by decide) rfl (fun ls hl => ?_)
  refine lv_goto (tgt := 5) S.1 S.2.1 dX2_valueFor_174 (by decide) ?_
  exact hk5 f _ _ I _ (lv_sub hl [1, 2, 3, 4, 0] rfl)
set_option maxHeartbeats 4000000 in
set_option maxRecDepth 100000 in
theorem T2_valueFor_85 (S : CallFix p m c cX2_valueFor 8 s args vX2_valueFor RX2) (hr : meth.sig.returnType = (some .long)) (hlo : meth.locks = false) {out : Int64 × PH} {k5 : PH → Nat → Nat → Nat → Int32 → Int32 → Option (Int64 × PH)} (hk5 : ∀ {h : PH} {a0 : Nat} {a1 : Nat} {a2 : Nat} {x3 : Int32} {x4 : Int32}, k5 h a0 a1 a2 x3 x4 = some out → ∀ (H : Heap) (locs : List Loc), ph_I D cy b A fl h s H locs → ∀ (ls : Array Slot), lv_has ls 8 [(0, .ref (b + a0)), (1, .ref (b + a1)), (2, .ref (b + a2)), (3, .int x3), (4, .int x4)] → W p l e ({ frames := 2, cells := 0, slots := 0, locals := 51 } : Room) s m args below meth c H locs 0 0 (MQ below (va_Ql (fun (r : Int64) (u : PH) => (r, u) = out) (ph_B D cy b A fl) A) args s 0 0 A) (F0 m 5 ls [])) {h : PH} {a0 : Nat} {a1 : Nat} {a2 : Nat} {x3 : Int32} {x4 : Int32} {x5 : Int32} (f : F2_valueFor_85 k5 h a0 a1 a2 x3 x4 x5 = some out) {H : Heap} {locs : List Loc} (I : ph_I D cy b A fl h s H locs) {ls : Array Slot} (hl : lv_has ls 8 [(0, .ref (b + a0)), (1, .ref (b + a1)), (2, .ref (b + a2)), (3, .int x3), (4, .int x4), (5, .int x5)]) : W p l e ({ frames := 2, cells := 0, slots := 0, locals := 51 } : Room) s m args below meth c H locs 0 0 (MQ below (va_Ql (fun (r : Int64) (u : PH) => (r, u) = out) (ph_B D cy b A fl) A) args s 0 0 A) (F0 m 85 ls []) := by
  unfold F2_valueFor_85 at f
  refine lv_iload S.1 S.2.1 dX2_valueFor_85 (lv_at hl 5 rfl) ?_
  refine lv_bipush (v := 15) S.1 S.2.1 dX2_valueFor_87 (by decide) ?_
  refine lv_icmp_ne (tgt := 119) S.1 S.2.1 dX2_valueFor_89 (by decide) (fun q1 => ?_) (fun q1 => ?_)
  · have f := (if_neg q1).symm.trans f
    exact T2_valueFor_119 S hr hlo (fun f _ _ I _ hl => hk5 f _ _ I _ hl) f I (lv_sub hl [0, 1, 2, 3, 4, 5] rfl)
  · have f := (if_pos q1).symm.trans f
    refine lv_iload_n S.1 S.2.1 dX2_valueFor_92 rfl (lv_at hl 3 rfl) ?_
    refine lv_if_le (tgt := 119) S.1 S.2.1 dX2_valueFor_93 (by decide) (fun q2 => ?_) (fun q2 => ?_)
    · have f := (if_pos q2).symm.trans f
      exact T2_valueFor_119 S hr hlo (fun f _ _ I _ hl => hk5 f _ _ I _ hl) f I (lv_sub hl [0, 1, 2, 3, 4, 5] rfl)
    · have f := (if_neg q2).symm.trans f
      refine lv_aload_n S.1 S.2.1 dX2_valueFor_96 rfl (lv_at hl 2 rfl) ?_
      refine lv_iload_n S.1 S.2.1 dX2_valueFor_97 rfl (lv_at hl 3 rfl) ?_
      refine lv_iconst (v := 1) S.1 S.2.1 dX2_valueFor_98 (by decide) ?_
      refine lv_isub S.1 S.2.1 dX2_valueFor_99 ?_
      refine lv_aload_n S.1 S.2.1 dX2_valueFor_100 rfl (lv_at hl 2 rfl) ?_
      refine lv_iload_n S.1 S.2.1 dX2_valueFor_101 rfl (lv_at hl 3 rfl) ?_
      refine lv_iconst (v := 1) S.1 S.2.1 dX2_valueFor_102 (by decide) ?_
      refine lv_isub S.1 S.2.1 dX2_valueFor_103 ?_
      obtain ⟨w4, e3, f⟩ := ob f
      refine o_lald S I e3 dX2_valueFor_104 ?_
      refine lv_lconst (v := 0) S.1 S.2.1 dX2_valueFor_105 (by decide) ?_
      refine W.lcmp S.1 S.2.1 dX2_valueFor_106 ?_
      refine lv_if_ne (tgt := 114) S.1 S.2.1 dX2_valueFor_107 (by decide) (fun q5 => ?_) (fun q5 => ?_)
      · have f := (if_neg q5).symm.trans f
        refine lv_lconst (v := 0) S.1 S.2.1 dX2_valueFor_114 (by decide) ?_
        exact T2_valueFor_115 S hr hlo (fun f _ _ I _ hl => hk5 f _ _ I _ hl) f I (lv_sub hl [0, 1, 2, 3, 4] rfl)
      · have f := (if_pos q5).symm.trans f
        refine lv_lconst (v := 1) S.1 S.2.1 dX2_valueFor_110 (by decide) ?_
        refine lv_goto (tgt := 115) S.1 S.2.1 dX2_valueFor_111 (by decide) ?_
        exact T2_valueFor_115 S hr hlo (fun f _ _ I _ hl => hk5 f _ _ I _ hl) f I (lv_sub hl [0, 1, 2, 3, 4] rfl)
set_option maxHeartbeats 4000000 in
set_option maxRecDepth 100000 in
theorem T2_valueFor_5 (S : CallFix p m c cX2_valueFor 8 s args vX2_valueFor RX2) (hr : meth.sig.returnType = (some .long)) (hlo : meth.locks = false) {out : Int64 × PH} : ∀ (n : Nat) {h : PH} {a0 : Nat} {a1 : Nat} {a2 : Nat} {x3 : Int32} {x4 : Int32} (f : F2_valueFor_5  n h a0 a1 a2 x3 x4 = some out) {H : Heap} {locs : List Loc} (I : ph_I D cy b A fl h s H locs) {ls : Array Slot} (hl : lv_has ls 8 [(0, .ref (b + a0)), (1, .ref (b + a1)), (2, .ref (b + a2)), (3, .int x3), (4, .int x4)]), W p l e ({ frames := 2, cells := 0, slots := 0, locals := 51 } : Room) s m args below meth c H locs 0 0 (MQ below (va_Ql (fun (r : Int64) (u : PH) => (r, u) = out) (ph_B D cy b A fl) A) args s 0 0 A) (F0 m 5 ls []) := by
  intro n
  induction n with
  | zero => intro h a0 a1 a2 x3 x4 f; rw [F2_valueFor_5] at f; cases f
  | succ n ih =>
    intro h a0 a1 a2 x3 x4 f H locs I ls hl
    rw [F2_valueFor_5] at f
    refine lv_iload S.1 S.2.1 dX2_valueFor_5 (lv_at hl 4 rfl) ?_
    refine lv_aload_n S.1 S.2.1 dX2_valueFor_7 rfl (lv_at hl 0 rfl) ?_
    obtain ⟨v1, e2, f⟩ := ob f
    refine o_gI S lf2_valueFor_15 I e2 dX2_valueFor_8 ?_
    refine lv_icmp_ge (tgt := 177) S.1 S.2.1 dX2_valueFor_11 (by decide) (fun q3 => ?_) (fun q3 => ?_)
    · have f := (if_pos q3).symm.trans f
      exact T2_valueFor_177 S hr hlo  f I (lv_sub hl [2, 3] rfl)
    · have f := (if_neg q3).symm.trans f
      refine lv_iload_n S.1 S.2.1 dX2_valueFor_14 rfl (lv_at hl 3 rfl) ?_
      refine lv_aload_n S.1 S.2.1 dX2_valueFor_15 rfl (lv_at hl 2 rfl) ?_
      obtain ⟨v4, e5, f⟩ := ob f
      refine o_alen S I e5 dX2_valueFor_16 ?_
      refine lv_icmp_ge (tgt := 177) S.1 S.2.1 dX2_valueFor_17 (by decide) (fun q6 => ?_) (fun q6 => ?_)
      · have f := (if_pos q6).symm.trans f
        exact T2_valueFor_177 S hr hlo  f I (lv_sub hl [2, 3] rfl)
      · have f := (if_neg q6).symm.trans f
        refine lv_aload_n S.1 S.2.1 dX2_valueFor_20 rfl (lv_at hl 0 rfl) ?_
        obtain ⟨r7, e8, f⟩ := ob f
        refine o_gR S lf2_valueFor_9 I e8 dX2_valueFor_21 ?_
        refine lv_iload S.1 S.2.1 dX2_valueFor_24 (lv_at hl 4 rfl) ?_
        obtain ⟨v10, e9, f⟩ := ob f
        refine o_iald S I e9 dX2_valueFor_26 ?_
        refine lv_sipush (v := 10000) S.1 S.2.1 dX2_valueFor_27 (by decide) ?_
        refine lv_isub S.1 S.2.1 dX2_valueFor_30 ?_
        refine lv_istore (lv' := [(5, .int (v10 - 10000)), (0, .ref (b + a0)), (1, .ref (b + a1)), (2, .ref (b + a2)), (3, .int x3), (4, .int x4)]) S.1 S.2.1 dX2_valueFor_31 hl (by decide) rfl (fun ls hl => ?_)
        refine lv_iload S.1 S.2.1 dX2_valueFor_33 (lv_at hl 0 rfl) ?_
        refine lv_if_ge (tgt := 55) S.1 S.2.1 dX2_valueFor_35 (by decide) (fun q11 => ?_) (fun q11 => ?_)
        · have f := (if_pos q11).symm.trans f
          refine lv_iload S.1 S.2.1 dX2_valueFor_55 (lv_at hl 0 rfl) ?_
          refine lv_bipush (v := 18) S.1 S.2.1 dX2_valueFor_57 (by decide) ?_
          refine lv_icmp_lt (tgt := 85) S.1 S.2.1 dX2_valueFor_59 (by decide) (fun q12 => ?_) (fun q12 => ?_)
          · have f := (if_pos q12).symm.trans f
            exact T2_valueFor_85 S hr hlo (fun f _ _ I _ hl => ih f I hl) f I (lv_sub hl [1, 2, 3, 4, 5, 0] rfl)
          · have f := (if_neg q12).symm.trans f
            refine lv_iload S.1 S.2.1 dX2_valueFor_62 (lv_at hl 0 rfl) ?_
            refine lv_bipush (v := 24) S.1 S.2.1 dX2_valueFor_64 (by decide) ?_
            refine lv_icmp_ge (tgt := 85) S.1 S.2.1 dX2_valueFor_66 (by decide) (fun q13 => ?_) (fun q13 => ?_)
            · have f := (if_pos q13).symm.trans f
              exact T2_valueFor_85 S hr hlo (fun f _ _ I _ hl => ih f I hl) f I (lv_sub hl [1, 2, 3, 4, 5, 0] rfl)
            · have f := (if_neg q13).symm.trans f
              refine lv_aload_n S.1 S.2.1 dX2_valueFor_69 rfl (lv_at hl 3 rfl) ?_
              refine lv_iload_n S.1 S.2.1 dX2_valueFor_70 rfl (lv_at hl 4 rfl) ?_
              refine lv_aload_n S.1 S.2.1 dX2_valueFor_71 rfl (lv_at hl 2 rfl) ?_
              refine lv_iload S.1 S.2.1 dX2_valueFor_72 (lv_at hl 0 rfl) ?_
              refine lv_bipush (v := 18) S.1 S.2.1 dX2_valueFor_74 (by decide) ?_
              refine lv_isub S.1 S.2.1 dX2_valueFor_76 ?_
              obtain ⟨w15, e14, f⟩ := ob f
              refine o_lald S I e14 dX2_valueFor_77 ?_
              obtain ⟨h17, e16, f⟩ := ob f
              refine o_last S I e16 dX2_valueFor_78 (fun H locs I => ?_)
              refine lv_iinc (v := (x3 + 1)) (lv' := [(3, .int (x3 + 1)), (5, .int (v10 - 10000)), (0, .ref (b + a0)), (1, .ref (b + a1)), (2, .ref (b + a2)), (4, .int x4)]) S.1 S.2.1 dX2_valueFor_79 hl (k := 4) rfl (congrArg (fun z => x3 + z) (by decide)) (by decide) rfl (fun ls hl => ?_)
              refine lv_goto (tgt := 171) S.1 S.2.1 dX2_valueFor_82 (by decide) ?_
              refine lv_iinc (v := (x4 + 1)) (lv' := [(4, .int (x4 + 1)), (3, .int (x3 + 1)), (5, .int (v10 - 10000)), (0, .ref (b + a0)), (1, .ref (b + a1)), (2, .ref (b + a2))]) S.1 S.2.1 dX2_valueFor_171 hl (k := 5) rfl (congrArg (fun z => x4 + z) (by decide)) (by decide) rfl (fun ls hl => ?_)
              refine lv_goto (tgt := 5) S.1 S.2.1 dX2_valueFor_174 (by decide) ?_
              exact ih f I (lv_sub hl [3, 4, 5, 1, 0] rfl)
        · have f := (if_neg q11).symm.trans f
          refine lv_aload_n S.1 S.2.1 dX2_valueFor_38 rfl (lv_at hl 3 rfl) ?_
          refine lv_iload_n S.1 S.2.1 dX2_valueFor_39 rfl (lv_at hl 4 rfl) ?_
          refine lv_aload_n S.1 S.2.1 dX2_valueFor_40 rfl (lv_at hl 1 rfl) ?_
          obtain ⟨r18, e19, f⟩ := ob f
          refine o_gR S lf2_valueFor_9 I e19 dX2_valueFor_41 ?_
          refine lv_iload S.1 S.2.1 dX2_valueFor_44 (lv_at hl 5 rfl) ?_
          obtain ⟨v21, e20, f⟩ := ob f
          refine o_iald S I e20 dX2_valueFor_46 ?_
          refine lv_i2l (v := Int32.toInt64 v21) S.1 S.2.1 dX2_valueFor_47 rfl ?_
          obtain ⟨h23, e22, f⟩ := ob f
          refine o_last S I e22 dX2_valueFor_48 (fun H locs I => ?_)
          refine lv_iinc (v := (x3 + 1)) (lv' := [(3, .int (x3 + 1)), (5, .int (v10 - 10000)), (0, .ref (b + a0)), (1, .ref (b + a1)), (2, .ref (b + a2)), (4, .int x4)]) S.1 S.2.1 dX2_valueFor_49 hl (k := 4) rfl (congrArg (fun z => x3 + z) (by decide)) (by decide) rfl (fun ls hl => ?_)
          refine lv_goto (tgt := 171) S.1 S.2.1 dX2_valueFor_52 (by decide) ?_
          refine lv_iinc (v := (x4 + 1)) (lv' := [(4, .int (x4 + 1)), (3, .int (x3 + 1)), (5, .int (v10 - 10000)), (0, .ref (b + a0)), (1, .ref (b + a1)), (2, .ref (b + a2))]) S.1 S.2.1 dX2_valueFor_171 hl (k := 5) rfl (congrArg (fun z => x4 + z) (by decide)) (by decide) rfl (fun ls hl => ?_)
          refine lv_goto (tgt := 5) S.1 S.2.1 dX2_valueFor_174 (by decide) ?_
          exact ih f I (lv_sub hl [3, 4, 5, 1, 0] rfl)
set_option maxHeartbeats 4000000 in
set_option maxRecDepth 100000 in
theorem T2_valueFor_0 (S : CallFix p m c cX2_valueFor 8 s args vX2_valueFor RX2) (hr : meth.sig.returnType = (some .long)) (hlo : meth.locks = false) {out : Int64 × PH} {h : PH} {a0 : Nat} {a1 : Nat} {a2 : Nat} (f : F2_valueFor_0  h a0 a1 a2 = some out) {H : Heap} {locs : List Loc} (I : ph_I D cy b A fl h s H locs) {ls : Array Slot} (hl : lv_has ls 8 [(0, .ref (b + a0)), (1, .ref (b + a1)), (2, .ref (b + a2))]) : W p l e ({ frames := 2, cells := 0, slots := 0, locals := 51 } : Room) s m args below meth c H locs 0 0 (MQ below (va_Ql (fun (r : Int64) (u : PH) => (r, u) = out) (ph_B D cy b A fl) A) args s 0 0 A) (F0 m 0 ls []) := by
  unfold F2_valueFor_0 at f
  refine lv_iconst (v := 0) S.1 S.2.1 dX2_valueFor_0 (by decide) ?_
  refine lv_istore_n (lv' := [(3, .int 0), (0, .ref (b + a0)), (1, .ref (b + a1)), (2, .ref (b + a2))]) S.1 S.2.1 dX2_valueFor_1 rfl hl (by decide) rfl (fun ls hl => ?_)
  refine lv_iconst (v := 0) S.1 S.2.1 dX2_valueFor_2 (by decide) ?_
  refine lv_istore (lv' := [(4, .int 0), (3, .int 0), (0, .ref (b + a0)), (1, .ref (b + a1)), (2, .ref (b + a2))]) S.1 S.2.1 dX2_valueFor_3 hl (by decide) rfl (fun ls hl => ?_)
  exact T2_valueFor_5 S hr hlo  1024 f I (lv_sub hl [2, 3, 4, 1, 0] rfl)
theorem M2_valueFor (l : Launch) (D : va_G) (cy : Nat → ClassId) (b : Nat) (A : Nat → Prop) (fl : Bool) {h : PH} {a0 : Nat} {a1 : Nat} {a2 : Nat} {out : Int64 × PH} (f : F2_valueFor h a0 a1 a2 = some out) : Met l yX2_valueFor vX2_valueFor ({ frames := 2, cells := 0, slots := 0, locals := 51 } : Room) (va_Pc [.ref (b + a0), .ref (b + a1), .ref (b + a2)] (ph_B D cy b A fl h)) (va_Ql (fun (r : Int64) (u : PH) => (r, u) = out) (ph_B D cy b A fl) A) 0 0 A :=
  o_met (by decide) rfl (Nat.le_of_ble_eq_true rfl) rfl (fun p e s m below meth c S hr hlo hnm ls hl I => T2_valueFor_0 S hr hlo ((gd f).2) I (lv_sub hl [0, 1, 2] rfl))
def vX6_awayFor : List Cond := .code yX6_awayFor cX6_awayFor 5 (some .int) :: TB
theorem gX6_awayFor_X6_nameAway : GoodIn vX6_awayFor (wsV RX6 118 RX6 yX6_nameAway vX6_nameAway) := gV_of wT_38_22 wT_38_23 wT_39_0 wT_2_2 wT_39_1
theorem lf6_awayFor_9 : Fl vX6_awayFor RX6 9 6 0 := ⟨RX6, TX6, 9, rfl, by decide, (fun w h9 => List.mem_cons_of_mem _ (wC_wsX60 w h9)), (List.mem_cons_of_mem _ wT_7_15)⟩
theorem lf6_awayFor_76 : Fl vX6_awayFor RX6 76 8 11 := ⟨RX8, TX8, 14, rfl, by decide, (fun w h9 => List.mem_cons_of_mem _ (wC_wsX80 w h9)), (List.mem_cons_of_mem _ wT_25_7)⟩
theorem lf6_awayFor_25 : Fl vX6_awayFor RX6 25 6 4 := ⟨RX6, TX6, 9, rfl, by decide, (fun w h9 => List.mem_cons_of_mem _ (wC_wsX60 w h9)), (List.mem_cons_of_mem _ wT_7_19)⟩
theorem lf6_awayFor_29 : Fl vX6_awayFor RX6 29 6 5 := ⟨RX6, TX6, 9, rfl, by decide, (fun w h9 => List.mem_cons_of_mem _ (wC_wsX60 w h9)), (List.mem_cons_of_mem _ wT_7_20)⟩
theorem gX6_awayFor_X2_valueFor : GoodIn vX6_awayFor (wsV RX6 80 RX2 yX2_valueFor vX2_valueFor) := gV_of wT_25_8 wT_25_9 wT_25_10 wT_3_14 wT_25_11
theorem cd6_awayFor : Cd yX6_awayFor 2 := ⟨by decide, by decide, by decide +kernel⟩
set_option maxHeartbeats 4000000 in
set_option maxRecDepth 100000 in
theorem T6_awayFor_0 (S : CallFix p m c cX6_awayFor 5 s args vX6_awayFor RX6) (hr : meth.sig.returnType = (some .int)) (hlo : meth.locks = false) {out : Int32 × PH} {h : PH} {a0 : Nat} {x1 : Int32} {x2 : Int32} (f : F6_awayFor_0  h a0 x1 x2 = some out) {H : Heap} {locs : List Loc} (I : ph_I D cy b A fl h s H locs) {ls : Array Slot} (hl : lv_has ls 5 [(0, .ref (b + a0)), (1, .int x1), (2, .int x2)]) : W p l e ({ frames := 3, cells := 0, slots := 0, locals := 78 } : Room) s m args below meth c H locs 0 0 (MQ below (va_Qi (fun (r : Int32) (u : PH) => (r, u) = out) (ph_B D cy b A fl) A) args s 0 0 A) (F0 m 0 ls []) := by
  unfold F6_awayFor_0 at f
  refine lv_aload_n S.1 S.2.1 dX6_awayFor_0 rfl (lv_at hl 0 rfl) ?_
  refine lv_iload_n S.1 S.2.1 dX6_awayFor_1 rfl (lv_at hl 1 rfl) ?_
  refine lv_iload_n S.1 S.2.1 dX6_awayFor_2 rfl (lv_at hl 2 rfl) ?_
  obtain ⟨o1, e2, f⟩ := ob f
  refine o_Vv S (As := [.int x1, .int x2]) (rest := []) (ci := 6) (M6_nameAway l D cy b A fl e2) gX6_awayFor_X6_nameAway rfl rfl rfl cd6_nameAway ⟨Nat.le_of_ble_eq_true rfl, Nat.le_of_ble_eq_true rfl⟩ I (gd e2).1 clX6 rfl rfl hl.1 rfl (Nat.le_of_ble_eq_true rfl) dX6_awayFor_3 ⟨Nat.le_of_ble_eq_true rfl, Nat.le_of_ble_eq_true rfl⟩ (fun H locs I => ?_)
  refine lv_aload_n S.1 S.2.1 dX6_awayFor_6 rfl (lv_at hl 0 rfl) ?_
  obtain ⟨r3, e4, f⟩ := ob f
  refine o_gR S lf6_awayFor_9 I e4 dX6_awayFor_7 ?_
  obtain ⟨r5, e6, f⟩ := ob f
  refine o_gR S lf6_awayFor_76 I e6 dX6_awayFor_10 ?_
  refine lv_iconst (v := 2) S.1 S.2.1 dX6_awayFor_13 (by decide) ?_
  obtain ⟨r8, e7, f⟩ := ob f
  refine o_aald S I e7 dX6_awayFor_14 ?_
  refine lv_aload_n S.1 S.2.1 dX6_awayFor_15 rfl (lv_at hl 0 rfl) ?_
  obtain ⟨r9, e10, f⟩ := ob f
  refine o_gR S lf6_awayFor_25 I e10 dX6_awayFor_16 ?_
  refine lv_aload_n S.1 S.2.1 dX6_awayFor_19 rfl (lv_at hl 0 rfl) ?_
  obtain ⟨r11, e12, f⟩ := ob f
  refine o_gR S lf6_awayFor_29 I e12 dX6_awayFor_20 ?_
  obtain ⟨o13, e14, f⟩ := ob f
  refine o_Vl S (As := [.ref (b + r9), .ref (b + r11)]) (rest := []) (ci := 2) (M2_valueFor l D cy b A fl e14) gX6_awayFor_X2_valueFor rfl rfl rfl cd2_valueFor ⟨Nat.le_of_ble_eq_true rfl, Nat.le_of_ble_eq_true rfl⟩ I (gd e14).1 clX2 rfl rfl hl.1 rfl (Nat.le_of_ble_eq_true rfl) dX6_awayFor_23 ⟨Nat.le_of_ble_eq_true rfl, Nat.le_of_ble_eq_true rfl⟩ (fun H locs I => ?_)
  refine lv_lstore_n (lv' := [(3, .long o13.1), (0, .ref (b + a0)), (1, .int x1), (2, .int x2)]) S.1 S.2.1 dX6_awayFor_26 rfl hl (by decide) rfl (fun ls hl => ?_)
  refine lv_lload_n S.1 S.2.1 dX6_awayFor_27 rfl (lv_at hl 0 rfl) ?_
  refine lv_ldc2 (v := (-9223372036854775808)) S.1 S.2.1 S.2.2.2.1 (S.2.2.2.2 _ (List.mem_cons_of_mem _ wT_24_17)) dX6_awayFor_28 ?_
  refine W.lcmp S.1 S.2.1 dX6_awayFor_31 ?_
  refine lv_if_ne (tgt := 39) S.1 S.2.1 dX6_awayFor_32 (by decide) (fun q15 => ?_) (fun q15 => ?_)
  · have f := (if_neg q15).symm.trans f
    refine lv_lconst (v := 1) S.1 S.2.1 dX6_awayFor_39 (by decide) ?_
    refine lv_ldc2 (v := 30) S.1 S.2.1 S.2.2.2.1 (S.2.2.2.2 _ (List.mem_cons_of_mem _ wT_46_3)) dX6_awayFor_40 ?_
    refine lv_lload_n S.1 S.2.1 dX6_awayFor_43 rfl (lv_at hl 0 rfl) ?_
    refine va_mmin_long S.1 S.2.1 (by rw [S.2.2.1, hl.1]) S.2.2.2.1 (S.2.2.2.2 _ (List.mem_cons_of_mem _ wT_24_20)) (S.2.2.2.2 _ (List.mem_cons_of_mem _ wT_24_21)) (S.2.2.2.2 _ (List.mem_cons_of_mem _ wT_15_17)) (S.2.2.2.2 _ (List.mem_cons_of_mem _ wT_24_22)) (Nat.le_of_ble_eq_true rfl) (Nat.le_of_ble_eq_true rfl) (Nat.zero_le _) (Nat.zero_le _) dX6_awayFor_44 ?_
    refine va_mmax_long S.1 S.2.1 (by rw [S.2.2.1, hl.1]) S.2.2.2.1 (S.2.2.2.2 _ (List.mem_cons_of_mem _ wT_24_23)) (S.2.2.2.2 _ (List.mem_cons_of_mem _ wT_25_0)) (S.2.2.2.2 _ (List.mem_cons_of_mem _ wT_15_17)) (S.2.2.2.2 _ (List.mem_cons_of_mem _ wT_25_1)) (Nat.le_of_ble_eq_true rfl) (Nat.le_of_ble_eq_true rfl) (Nat.zero_le _) (Nat.zero_le _) dX6_awayFor_47 ?_
    refine lv_l2i (v := Int64.toInt32 (if (if o13.1 < (30 : Int64) then o13.1 else (30 : Int64)) < (1 : Int64) then (1 : Int64) else (if o13.1 < (30 : Int64) then o13.1 else (30 : Int64)))) S.1 S.2.1 dX6_awayFor_50 rfl ?_
    exact o_iret S hr hlo I f dX6_awayFor_51
  · have f := (if_pos q15).symm.trans f
    refine lv_iconst (v := 5) S.1 S.2.1 dX6_awayFor_35 (by decide) ?_
    refine lv_goto (tgt := 51) S.1 S.2.1 dX6_awayFor_36 (by decide) ?_
    exact o_iret S hr hlo I f dX6_awayFor_51
theorem M6_awayFor (l : Launch) (D : va_G) (cy : Nat → ClassId) (b : Nat) (A : Nat → Prop) (fl : Bool) {h : PH} {a0 : Nat} {x1 : Int32} {x2 : Int32} {out : Int32 × PH} (f : F6_awayFor h a0 x1 x2 = some out) : Met l yX6_awayFor vX6_awayFor ({ frames := 3, cells := 0, slots := 0, locals := 78 } : Room) (va_Pc [.ref (b + a0), .int x1, .int x2] (ph_B D cy b A fl h)) (va_Qi (fun (r : Int32) (u : PH) => (r, u) = out) (ph_B D cy b A fl) A) 0 0 A :=
  o_met (by decide) rfl (Nat.le_of_ble_eq_true rfl) rfl (fun p e s m below meth c S hr hlo hnm ls hl I => T6_awayFor_0 S hr hlo ((gd f).2) I (lv_sub hl [0, 1, 2] rfl))
def vX8_farFrom : List Cond := .code yX8_farFrom cX8_farFrom 3 (some .int) :: TB
theorem lf8_farFrom_32 : Fl vX8_farFrom RX8 32 8 0 := ⟨RX8, TX8, 14, rfl, by decide, (fun w h9 => List.mem_cons_of_mem _ (wC_wsX80 w h9)), (List.mem_cons_of_mem _ wT_3_15)⟩
theorem lf8_farFrom_42 : Fl vX8_farFrom RX8 42 8 3 := ⟨RX8, TX8, 14, rfl, by decide, (fun w h9 => List.mem_cons_of_mem _ (wC_wsX80 w h9)), (List.mem_cons_of_mem _ wT_14_14)⟩
theorem cd8_farFrom : Cd yX8_farFrom 2 := ⟨by decide, by decide, by decide +kernel⟩
set_option maxHeartbeats 4000000 in
set_option maxRecDepth 100000 in
theorem T8_farFrom_0 (S : CallFix p m c cX8_farFrom 3 s args vX8_farFrom RX8) (hr : meth.sig.returnType = (some .int)) (hlo : meth.locks = false) {out : Int32 × PH} {h : PH} {a0 : Nat} {x1 : Int32} {x2 : Int32} (f : F8_farFrom_0  h a0 x1 x2 = some out) {H : Heap} {locs : List Loc} (I : ph_I D cy b A fl h s H locs) {ls : Array Slot} (hl : lv_has ls 3 [(0, .ref (b + a0)), (1, .int x1), (2, .int x2)]) : W p l e ({ frames := 1, cells := 0, slots := 0, locals := 24 } : Room) s m args below meth c H locs 0 0 (MQ below (va_Qi (fun (r : Int32) (u : PH) => (r, u) = out) (ph_B D cy b A fl) A) args s 0 0 A) (F0 m 0 ls []) := by
  unfold F8_farFrom_0 at f
  refine lv_aload_n S.1 S.2.1 dX8_farFrom_0 rfl (lv_at hl 0 rfl) ?_
  obtain ⟨v1, e2, f⟩ := ob f
  refine o_gI S lf8_farFrom_32 I e2 dX8_farFrom_1 ?_
  refine lv_iconst (v := 1) S.1 S.2.1 dX8_farFrom_4 (by decide) ?_
  refine lv_icmp_ge (tgt := 10) S.1 S.2.1 dX8_farFrom_5 (by decide) (fun q3 => ?_) (fun q3 => ?_)
  · have f := (if_pos q3).symm.trans f
    refine lv_iload_n S.1 S.2.1 dX8_farFrom_10 rfl (lv_at hl 1 rfl) ?_
    refine lv_aload_n S.1 S.2.1 dX8_farFrom_11 rfl (lv_at hl 0 rfl) ?_
    obtain ⟨v4, e5, f⟩ := ob f
    refine o_gI S lf8_farFrom_32 I e5 dX8_farFrom_12 ?_
    have q6 : ¬ v4 = 0 := fun q => by rw [if_pos q] at f; cases f
    have f := (if_neg q6).symm.trans f
    refine lv_irem S.1 S.2.1 dX8_farFrom_15 q6 ?_
    refine lv_iload_n S.1 S.2.1 dX8_farFrom_16 rfl (lv_at hl 2 rfl) ?_
    refine lv_isub S.1 S.2.1 dX8_farFrom_17 ?_
    refine va_mabs S.1 S.2.1 (by rw [S.2.2.1, hl.1]) S.2.2.2.1 (S.2.2.2.2 _ (List.mem_cons_of_mem _ wT_34_7)) (S.2.2.2.2 _ (List.mem_cons_of_mem _ wT_34_8)) (S.2.2.2.2 _ (List.mem_cons_of_mem _ wT_15_17)) (S.2.2.2.2 _ (List.mem_cons_of_mem _ wT_34_9)) (Nat.le_of_ble_eq_true rfl) (Nat.le_of_ble_eq_true rfl) (Nat.zero_le _) (Nat.zero_le _) dX8_farFrom_18 ?_
    refine lv_iload_n S.1 S.2.1 dX8_farFrom_21 rfl (lv_at hl 1 rfl) ?_
    refine lv_aload_n S.1 S.2.1 dX8_farFrom_22 rfl (lv_at hl 0 rfl) ?_
    obtain ⟨v7, e8, f⟩ := ob f
    refine o_gI S lf8_farFrom_32 I e8 dX8_farFrom_23 ?_
    have q9 : ¬ v7 = 0 := fun q => by rw [if_pos q] at f; cases f
    have f := (if_neg q9).symm.trans f
    refine lv_idiv S.1 S.2.1 dX8_farFrom_26 q9 ?_
    refine lv_aload_n S.1 S.2.1 dX8_farFrom_27 rfl (lv_at hl 0 rfl) ?_
    obtain ⟨v10, e11, f⟩ := ob f
    refine o_gI S lf8_farFrom_42 I e11 dX8_farFrom_28 ?_
    refine lv_isub S.1 S.2.1 dX8_farFrom_31 ?_
    refine va_mabs S.1 S.2.1 (by rw [S.2.2.1, hl.1]) S.2.2.2.1 (S.2.2.2.2 _ (List.mem_cons_of_mem _ wT_34_7)) (S.2.2.2.2 _ (List.mem_cons_of_mem _ wT_34_8)) (S.2.2.2.2 _ (List.mem_cons_of_mem _ wT_15_17)) (S.2.2.2.2 _ (List.mem_cons_of_mem _ wT_34_9)) (Nat.le_of_ble_eq_true rfl) (Nat.le_of_ble_eq_true rfl) (Nat.zero_le _) (Nat.zero_le _) dX8_farFrom_32 ?_
    refine lv_iadd S.1 S.2.1 dX8_farFrom_35 ?_
    exact o_iret S hr hlo I f dX8_farFrom_36
  · have f := (if_neg q3).symm.trans f
    refine lv_iconst (v := 0) S.1 S.2.1 dX8_farFrom_8 (by decide) ?_
    exact o_iret S hr hlo I f dX8_farFrom_9
theorem M8_farFrom (l : Launch) (D : va_G) (cy : Nat → ClassId) (b : Nat) (A : Nat → Prop) (fl : Bool) {h : PH} {a0 : Nat} {x1 : Int32} {x2 : Int32} {out : Int32 × PH} (f : F8_farFrom h a0 x1 x2 = some out) : Met l yX8_farFrom vX8_farFrom ({ frames := 1, cells := 0, slots := 0, locals := 24 } : Room) (va_Pc [.ref (b + a0), .int x1, .int x2] (ph_B D cy b A fl h)) (va_Qi (fun (r : Int32) (u : PH) => (r, u) = out) (ph_B D cy b A fl) A) 0 0 A :=
  o_met (by decide) rfl (Nat.le_of_ble_eq_true rfl) rfl (fun p e s m below meth c S hr hlo hnm ls hl I => T8_farFrom_0 S hr hlo ((gd f).2) I (lv_sub hl [0, 1, 2] rfl))
def vX8_rowOf : List Cond := .code yX8_rowOf cX8_rowOf 2 (some .int) :: TB
theorem lf8_rowOf_32 : Fl vX8_rowOf RX8 32 8 0 := ⟨RX8, TX8, 14, rfl, by decide, (fun w h9 => List.mem_cons_of_mem _ (wC_wsX80 w h9)), (List.mem_cons_of_mem _ wT_3_15)⟩
theorem cd8_rowOf : Cd yX8_rowOf 1 := ⟨by decide, by decide, by decide +kernel⟩
set_option maxHeartbeats 4000000 in
set_option maxRecDepth 100000 in
theorem T8_rowOf_0 (S : CallFix p m c cX8_rowOf 2 s args vX8_rowOf RX8) (hr : meth.sig.returnType = (some .int)) (hlo : meth.locks = false) {out : Int32 × PH} {h : PH} {a0 : Nat} {x1 : Int32} (f : F8_rowOf_0  h a0 x1 = some out) {H : Heap} {locs : List Loc} (I : ph_I D cy b A fl h s H locs) {ls : Array Slot} (hl : lv_has ls 2 [(0, .ref (b + a0)), (1, .int x1)]) : W p l e ({ frames := 0, cells := 0, slots := 0, locals := 0 } : Room) s m args below meth c H locs 0 0 (MQ below (va_Qi (fun (r : Int32) (u : PH) => (r, u) = out) (ph_B D cy b A fl) A) args s 0 0 A) (F0 m 0 ls []) := by
  unfold F8_rowOf_0 at f
  refine lv_aload_n S.1 S.2.1 dX8_rowOf_0 rfl (lv_at hl 0 rfl) ?_
  obtain ⟨v1, e2, f⟩ := ob f
  refine o_gI S lf8_rowOf_32 I e2 dX8_rowOf_1 ?_
  refine lv_if_le (tgt := 16) S.1 S.2.1 dX8_rowOf_4 (by decide) (fun q3 => ?_) (fun q3 => ?_)
  · have f := (if_pos q3).symm.trans f
    refine lv_iconst (v := 0) S.1 S.2.1 dX8_rowOf_16 (by decide) ?_
    exact o_iret S hr hlo I f dX8_rowOf_17
  · have f := (if_neg q3).symm.trans f
    refine lv_iload_n S.1 S.2.1 dX8_rowOf_7 rfl (lv_at hl 1 rfl) ?_
    refine lv_aload_n S.1 S.2.1 dX8_rowOf_8 rfl (lv_at hl 0 rfl) ?_
    obtain ⟨v4, e5, f⟩ := ob f
    refine o_gI S lf8_rowOf_32 I e5 dX8_rowOf_9 ?_
    have q6 : ¬ v4 = 0 := fun q => by rw [if_pos q] at f; cases f
    have f := (if_neg q6).symm.trans f
    refine lv_idiv S.1 S.2.1 dX8_rowOf_12 q6 ?_
    refine lv_goto (tgt := 17) S.1 S.2.1 dX8_rowOf_13 (by decide) ?_
    exact o_iret S hr hlo I f dX8_rowOf_17
theorem M8_rowOf (l : Launch) (D : va_G) (cy : Nat → ClassId) (b : Nat) (A : Nat → Prop) (fl : Bool) {h : PH} {a0 : Nat} {x1 : Int32} {out : Int32 × PH} (f : F8_rowOf h a0 x1 = some out) : Met l yX8_rowOf vX8_rowOf ({ frames := 0, cells := 0, slots := 0, locals := 0 } : Room) (va_Pc [.ref (b + a0), .int x1] (ph_B D cy b A fl h)) (va_Qi (fun (r : Int32) (u : PH) => (r, u) = out) (ph_B D cy b A fl) A) 0 0 A :=
  o_met (by decide) rfl (Nat.le_of_ble_eq_true rfl) rfl (fun p e s m below meth c S hr hlo hnm ls hl I => T8_rowOf_0 S hr hlo ((gd f).2) I (lv_sub hl [0, 1] rfl))
def vX6_nameCatch : List Cond := .code yX6_nameCatch cX6_nameCatch 4 none :: TB
theorem gX6_nameCatch_X6_nameAway : GoodIn vX6_nameCatch (wsV RX6 118 RX6 yX6_nameAway vX6_nameAway) := gV_of wT_38_22 wT_38_23 wT_39_0 wT_2_2 wT_39_1
theorem lf6_nameCatch_25 : Fl vX6_nameCatch RX6 25 6 4 := ⟨RX6, TX6, 9, rfl, by decide, (fun w h9 => List.mem_cons_of_mem _ (wC_wsX60 w h9)), (List.mem_cons_of_mem _ wT_7_19)⟩
theorem lf6_nameCatch_9 : Fl vX6_nameCatch RX6 9 6 0 := ⟨RX6, TX6, 9, rfl, by decide, (fun w h9 => List.mem_cons_of_mem _ (wC_wsX60 w h9)), (List.mem_cons_of_mem _ wT_7_15)⟩
theorem lf6_nameCatch_22 : Fl vX6_nameCatch RX6 22 6 3 := ⟨RX6, TX6, 9, rfl, by decide, (fun w h9 => List.mem_cons_of_mem _ (wC_wsX60 w h9)), (List.mem_cons_of_mem _ wT_7_18)⟩
theorem gX6_nameCatch_X8_farFrom : GoodIn vX6_nameCatch (wsV RX6 108 RX8 yX8_farFrom vX8_farFrom) := gV_of wT_39_4 wT_34_4 wT_34_5 wT_1_17 wT_34_6
theorem gX6_nameCatch_X8_rowOf : GoodIn vX6_nameCatch (wsV RX6 122 RX8 yX8_rowOf vX8_rowOf) := gV_of wT_39_5 wT_39_6 wT_39_7 wT_1_17 wT_39_8
theorem lf6_nameCatch_125 : Fl vX6_nameCatch RX6 125 8 3 := ⟨RX8, TX8, 14, rfl, by decide, (fun w h9 => List.mem_cons_of_mem _ (wC_wsX80 w h9)), (List.mem_cons_of_mem _ wT_38_21)⟩
theorem cd6_nameCatch : Cd yX6_nameCatch 3 := ⟨by decide, by decide, by decide +kernel⟩
set_option maxHeartbeats 4000000 in
set_option maxRecDepth 100000 in
theorem T6_nameCatch_0 (S : CallFix p m c cX6_nameCatch 4 s args vX6_nameCatch RX6) (hr : meth.sig.returnType = none) (hlo : meth.locks = false) {out : PH} {h : PH} {a0 : Nat} {x1 : Int32} {x2 : Int32} {x3 : Int32} (f : F6_nameCatch_0  h a0 x1 x2 x3 = some out) {H : Heap} {locs : List Loc} (I : ph_I D cy b A fl h s H locs) {ls : Array Slot} (hl : lv_has ls 4 [(0, .ref (b + a0)), (1, .int x1), (2, .int x2), (3, .int x3)]) : W p l e ({ frames := 2, cells := 0, slots := 0, locals := 46 } : Room) s m args below meth c H locs 0 0 (MQ below (va_Qv (fun (u : PH) => u = out) (ph_B D cy b A fl) A) args s 0 0 A) (F0 m 0 ls []) := by
  unfold F6_nameCatch_0 at f
  refine lv_aload_n S.1 S.2.1 dX6_nameCatch_0 rfl (lv_at hl 0 rfl) ?_
  refine lv_iload_n S.1 S.2.1 dX6_nameCatch_1 rfl (lv_at hl 1 rfl) ?_
  refine lv_iload_n S.1 S.2.1 dX6_nameCatch_2 rfl (lv_at hl 2 rfl) ?_
  obtain ⟨o1, e2, f⟩ := ob f
  refine o_Vv S (As := [.int x1, .int x2]) (rest := []) (ci := 6) (M6_nameAway l D cy b A fl e2) gX6_nameCatch_X6_nameAway rfl rfl rfl cd6_nameAway ⟨Nat.le_of_ble_eq_true rfl, Nat.le_of_ble_eq_true rfl⟩ I (gd e2).1 clX6 rfl rfl hl.1 rfl (Nat.le_of_ble_eq_true rfl) dX6_nameCatch_3 ⟨Nat.le_of_ble_eq_true rfl, Nat.le_of_ble_eq_true rfl⟩ (fun H locs I => ?_)
  refine lv_aload_n S.1 S.2.1 dX6_nameCatch_6 rfl (lv_at hl 0 rfl) ?_
  obtain ⟨r3, e4, f⟩ := ob f
  refine o_gR S lf6_nameCatch_25 I e4 dX6_nameCatch_7 ?_
  refine lv_iconst (v := 0) S.1 S.2.1 dX6_nameCatch_10 (by decide) ?_
  refine lv_aload_n S.1 S.2.1 dX6_nameCatch_11 rfl (lv_at hl 0 rfl) ?_
  obtain ⟨r5, e6, f⟩ := ob f
  refine o_gR S lf6_nameCatch_9 I e6 dX6_nameCatch_12 ?_
  refine lv_iload_n S.1 S.2.1 dX6_nameCatch_15 rfl (lv_at hl 3 rfl) ?_
  refine lv_aload_n S.1 S.2.1 dX6_nameCatch_16 rfl (lv_at hl 0 rfl) ?_
  obtain ⟨r7, e8, f⟩ := ob f
  refine o_gR S lf6_nameCatch_22 I e8 dX6_nameCatch_17 ?_
  refine lv_iload_n S.1 S.2.1 dX6_nameCatch_20 rfl (lv_at hl 2 rfl) ?_
  obtain ⟨v10, e9, f⟩ := ob f
  refine o_iald S I e9 dX6_nameCatch_21 ?_
  obtain ⟨o11, e12, f⟩ := ob f
  refine o_Vi S (As := [.int x3, .int v10]) (rest := [.int 0, .ref (b + r3)]) (ci := 8) (M8_farFrom l D cy b A fl e12) gX6_nameCatch_X8_farFrom rfl rfl rfl cd8_farFrom ⟨Nat.le_of_ble_eq_true rfl, Nat.le_of_ble_eq_true rfl⟩ I (gd e12).1 clX8 rfl rfl hl.1 rfl (Nat.le_of_ble_eq_true rfl) dX6_nameCatch_22 ⟨Nat.le_of_ble_eq_true rfl, Nat.le_of_ble_eq_true rfl⟩ (fun H locs I => ?_)
  refine lv_i2l (v := Int32.toInt64 o11.1) S.1 S.2.1 dX6_nameCatch_25 rfl ?_
  obtain ⟨h14, e13, f⟩ := ob f
  refine o_last S I e13 dX6_nameCatch_26 (fun H locs I => ?_)
  refine lv_aload_n S.1 S.2.1 dX6_nameCatch_27 rfl (lv_at hl 0 rfl) ?_
  obtain ⟨r15, e16, f⟩ := ob f
  refine o_gR S lf6_nameCatch_25 I e16 dX6_nameCatch_28 ?_
  refine lv_iconst (v := 1) S.1 S.2.1 dX6_nameCatch_31 (by decide) ?_
  refine lv_aload_n S.1 S.2.1 dX6_nameCatch_32 rfl (lv_at hl 0 rfl) ?_
  obtain ⟨r17, e18, f⟩ := ob f
  refine o_gR S lf6_nameCatch_9 I e18 dX6_nameCatch_33 ?_
  refine lv_iload_n S.1 S.2.1 dX6_nameCatch_36 rfl (lv_at hl 3 rfl) ?_
  obtain ⟨o19, e20, f⟩ := ob f
  refine o_Vi S (As := [.int x3]) (rest := [.int 1, .ref (b + r15)]) (ci := 8) (M8_rowOf l D cy b A fl e20) gX6_nameCatch_X8_rowOf rfl rfl rfl cd8_rowOf ⟨Nat.le_of_ble_eq_true rfl, Nat.le_of_ble_eq_true rfl⟩ I (gd e20).1 clX8 rfl rfl hl.1 rfl (Nat.le_of_ble_eq_true rfl) dX6_nameCatch_37 ⟨Nat.le_of_ble_eq_true rfl, Nat.le_of_ble_eq_true rfl⟩ (fun H locs I => ?_)
  refine lv_aload_n S.1 S.2.1 dX6_nameCatch_40 rfl (lv_at hl 0 rfl) ?_
  obtain ⟨r21, e22, f⟩ := ob f
  refine o_gR S lf6_nameCatch_9 I e22 dX6_nameCatch_41 ?_
  obtain ⟨v23, e24, f⟩ := ob f
  refine o_gI S lf6_nameCatch_125 I e24 dX6_nameCatch_44 ?_
  refine lv_isub S.1 S.2.1 dX6_nameCatch_47 ?_
  refine lv_i2l (v := Int32.toInt64 (o19.1 - v23)) S.1 S.2.1 dX6_nameCatch_48 rfl ?_
  obtain ⟨h26, e25, f⟩ := ob f
  refine o_last S I e25 dX6_nameCatch_49 (fun H locs I => ?_)
  exact o_vret S hr hlo I f dX6_nameCatch_50
theorem M6_nameCatch (l : Launch) (D : va_G) (cy : Nat → ClassId) (b : Nat) (A : Nat → Prop) (fl : Bool) {h : PH} {a0 : Nat} {x1 : Int32} {x2 : Int32} {x3 : Int32} {out : PH} (f : F6_nameCatch h a0 x1 x2 x3 = some out) : Met l yX6_nameCatch vX6_nameCatch ({ frames := 2, cells := 0, slots := 0, locals := 46 } : Room) (va_Pc [.ref (b + a0), .int x1, .int x2, .int x3] (ph_B D cy b A fl h)) (va_Qv (fun (u : PH) => u = out) (ph_B D cy b A fl) A) 0 0 A :=
  o_met (by decide) rfl (Nat.le_of_ble_eq_true rfl) rfl (fun p e s m below meth c S hr hlo hnm ls hl I => T6_nameCatch_0 S hr hlo ((gd f).2) I (lv_sub hl [0, 1, 2, 3] rfl))
def vX6_farOf : List Cond := .code yX6_farOf cX6_farOf 3 (some .int) :: TB
theorem lf6_farOf_9 : Fl vX6_farOf RX6 9 6 0 := ⟨RX6, TX6, 9, rfl, by decide, (fun w h9 => List.mem_cons_of_mem _ (wC_wsX60 w h9)), (List.mem_cons_of_mem _ wT_7_15)⟩
theorem lf6_farOf_22 : Fl vX6_farOf RX6 22 6 3 := ⟨RX6, TX6, 9, rfl, by decide, (fun w h9 => List.mem_cons_of_mem _ (wC_wsX60 w h9)), (List.mem_cons_of_mem _ wT_7_18)⟩
theorem gX6_farOf_X8_farFrom : GoodIn vX6_farOf (wsV RX6 108 RX8 yX8_farFrom vX8_farFrom) := gV_of wT_39_4 wT_34_4 wT_34_5 wT_1_17 wT_34_6
theorem cd6_farOf : Cd yX6_farOf 2 := ⟨by decide, by decide, by decide +kernel⟩
set_option maxHeartbeats 4000000 in
set_option maxRecDepth 100000 in
theorem T6_farOf_0 (S : CallFix p m c cX6_farOf 3 s args vX6_farOf RX6) (hr : meth.sig.returnType = (some .int)) (hlo : meth.locks = false) {out : Int32 × PH} {h : PH} {a0 : Nat} {x1 : Int32} {x2 : Int32} (f : F6_farOf_0  h a0 x1 x2 = some out) {H : Heap} {locs : List Loc} (I : ph_I D cy b A fl h s H locs) {ls : Array Slot} (hl : lv_has ls 3 [(0, .ref (b + a0)), (1, .int x1), (2, .int x2)]) : W p l e ({ frames := 2, cells := 0, slots := 0, locals := 46 } : Room) s m args below meth c H locs 0 0 (MQ below (va_Qi (fun (r : Int32) (u : PH) => (r, u) = out) (ph_B D cy b A fl) A) args s 0 0 A) (F0 m 0 ls []) := by
  unfold F6_farOf_0 at f
  refine lv_aload_n S.1 S.2.1 dX6_farOf_0 rfl (lv_at hl 0 rfl) ?_
  obtain ⟨r1, e2, f⟩ := ob f
  refine o_gR S lf6_farOf_9 I e2 dX6_farOf_1 ?_
  refine lv_iload_n S.1 S.2.1 dX6_farOf_4 rfl (lv_at hl 1 rfl) ?_
  refine lv_aload_n S.1 S.2.1 dX6_farOf_5 rfl (lv_at hl 0 rfl) ?_
  obtain ⟨r3, e4, f⟩ := ob f
  refine o_gR S lf6_farOf_22 I e4 dX6_farOf_6 ?_
  refine lv_iload_n S.1 S.2.1 dX6_farOf_9 rfl (lv_at hl 2 rfl) ?_
  obtain ⟨v6, e5, f⟩ := ob f
  refine o_iald S I e5 dX6_farOf_10 ?_
  obtain ⟨o7, e8, f⟩ := ob f
  refine o_Vi S (As := [.int x1, .int v6]) (rest := []) (ci := 8) (M8_farFrom l D cy b A fl e8) gX6_farOf_X8_farFrom rfl rfl rfl cd8_farFrom ⟨Nat.le_of_ble_eq_true rfl, Nat.le_of_ble_eq_true rfl⟩ I (gd e8).1 clX8 rfl rfl hl.1 rfl (Nat.le_of_ble_eq_true rfl) dX6_farOf_11 ⟨Nat.le_of_ble_eq_true rfl, Nat.le_of_ble_eq_true rfl⟩ (fun H locs I => ?_)
  exact o_iret S hr hlo I f dX6_farOf_14
theorem M6_farOf (l : Launch) (D : va_G) (cy : Nat → ClassId) (b : Nat) (A : Nat → Prop) (fl : Bool) {h : PH} {a0 : Nat} {x1 : Int32} {x2 : Int32} {out : Int32 × PH} (f : F6_farOf h a0 x1 x2 = some out) : Met l yX6_farOf vX6_farOf ({ frames := 2, cells := 0, slots := 0, locals := 46 } : Room) (va_Pc [.ref (b + a0), .int x1, .int x2] (ph_B D cy b A fl h)) (va_Qi (fun (r : Int32) (u : PH) => (r, u) = out) (ph_B D cy b A fl) A) 0 0 A :=
  o_met (by decide) rfl (Nat.le_of_ble_eq_true rfl) rfl (fun p e s m below meth c S hr hlo hnm ls hl I => T6_farOf_0 S hr hlo ((gd f).2) I (lv_sub hl [0, 1, 2] rfl))
def vX6_oddsAt : List Cond := .code yX6_oddsAt cX6_oddsAt 6 (some .int) :: TB
theorem gX6_oddsAt_X6_nameCatch : GoodIn vX6_oddsAt (wsV RX6 128 RX6 yX6_nameCatch vX6_nameCatch) := gV_of wT_38_17 wT_38_18 wT_38_19 wT_2_2 wT_38_20
theorem lf6_oddsAt_9 : Fl vX6_oddsAt RX6 9 6 0 := ⟨RX6, TX6, 9, rfl, by decide, (fun w h9 => List.mem_cons_of_mem _ (wC_wsX60 w h9)), (List.mem_cons_of_mem _ wT_7_15)⟩
theorem lf6_oddsAt_76 : Fl vX6_oddsAt RX6 76 8 11 := ⟨RX8, TX8, 14, rfl, by decide, (fun w h9 => List.mem_cons_of_mem _ (wC_wsX80 w h9)), (List.mem_cons_of_mem _ wT_25_7)⟩
theorem lf6_oddsAt_25 : Fl vX6_oddsAt RX6 25 6 4 := ⟨RX6, TX6, 9, rfl, by decide, (fun w h9 => List.mem_cons_of_mem _ (wC_wsX60 w h9)), (List.mem_cons_of_mem _ wT_7_19)⟩
theorem lf6_oddsAt_29 : Fl vX6_oddsAt RX6 29 6 5 := ⟨RX6, TX6, 9, rfl, by decide, (fun w h9 => List.mem_cons_of_mem _ (wC_wsX60 w h9)), (List.mem_cons_of_mem _ wT_7_20)⟩
theorem gX6_oddsAt_X2_valueFor : GoodIn vX6_oddsAt (wsV RX6 80 RX2 yX2_valueFor vX2_valueFor) := gV_of wT_25_8 wT_25_9 wT_25_10 wT_3_14 wT_25_11
theorem gX6_oddsAt_X6_farOf : GoodIn vX6_oddsAt (wsV RX6 132 RX6 yX6_farOf vX6_farOf) := gV_of wT_39_9 wT_39_10 wT_39_11 wT_2_2 wT_39_12
theorem cd6_oddsAt : Cd yX6_oddsAt 3 := ⟨by decide, by decide, by decide +kernel⟩
set_option maxHeartbeats 4000000 in
set_option maxRecDepth 100000 in
theorem T6_oddsAt_0 (S : CallFix p m c cX6_oddsAt 6 s args vX6_oddsAt RX6) (hr : meth.sig.returnType = (some .int)) (hlo : meth.locks = false) {out : Int32 × PH} {h : PH} {a0 : Nat} {x1 : Int32} {x2 : Int32} {x3 : Int32} (f : F6_oddsAt_0  h a0 x1 x2 x3 = some out) {H : Heap} {locs : List Loc} (I : ph_I D cy b A fl h s H locs) {ls : Array Slot} (hl : lv_has ls 6 [(0, .ref (b + a0)), (1, .int x1), (2, .int x2), (3, .int x3)]) : W p l e ({ frames := 3, cells := 0, slots := 0, locals := 78 } : Room) s m args below meth c H locs 0 0 (MQ below (va_Qi (fun (r : Int32) (u : PH) => (r, u) = out) (ph_B D cy b A fl) A) args s 0 0 A) (F0 m 0 ls []) := by
  unfold F6_oddsAt_0 at f
  refine lv_aload_n S.1 S.2.1 dX6_oddsAt_0 rfl (lv_at hl 0 rfl) ?_
  refine lv_iload_n S.1 S.2.1 dX6_oddsAt_1 rfl (lv_at hl 1 rfl) ?_
  refine lv_iload_n S.1 S.2.1 dX6_oddsAt_2 rfl (lv_at hl 2 rfl) ?_
  refine lv_iload_n S.1 S.2.1 dX6_oddsAt_3 rfl (lv_at hl 3 rfl) ?_
  obtain ⟨o1, e2, f⟩ := ob f
  refine o_Vv S (As := [.int x1, .int x2, .int x3]) (rest := []) (ci := 6) (M6_nameCatch l D cy b A fl e2) gX6_oddsAt_X6_nameCatch rfl rfl rfl cd6_nameCatch ⟨Nat.le_of_ble_eq_true rfl, Nat.le_of_ble_eq_true rfl⟩ I (gd e2).1 clX6 rfl rfl hl.1 rfl (Nat.le_of_ble_eq_true rfl) dX6_oddsAt_4 ⟨Nat.le_of_ble_eq_true rfl, Nat.le_of_ble_eq_true rfl⟩ (fun H locs I => ?_)
  refine lv_aload_n S.1 S.2.1 dX6_oddsAt_7 rfl (lv_at hl 0 rfl) ?_
  obtain ⟨r3, e4, f⟩ := ob f
  refine o_gR S lf6_oddsAt_9 I e4 dX6_oddsAt_8 ?_
  obtain ⟨r5, e6, f⟩ := ob f
  refine o_gR S lf6_oddsAt_76 I e6 dX6_oddsAt_11 ?_
  refine lv_iconst (v := 0) S.1 S.2.1 dX6_oddsAt_14 (by decide) ?_
  obtain ⟨r8, e7, f⟩ := ob f
  refine o_aald S I e7 dX6_oddsAt_15 ?_
  refine lv_aload_n S.1 S.2.1 dX6_oddsAt_16 rfl (lv_at hl 0 rfl) ?_
  obtain ⟨r9, e10, f⟩ := ob f
  refine o_gR S lf6_oddsAt_25 I e10 dX6_oddsAt_17 ?_
  refine lv_aload_n S.1 S.2.1 dX6_oddsAt_20 rfl (lv_at hl 0 rfl) ?_
  obtain ⟨r11, e12, f⟩ := ob f
  refine o_gR S lf6_oddsAt_29 I e12 dX6_oddsAt_21 ?_
  obtain ⟨o13, e14, f⟩ := ob f
  refine o_Vl S (As := [.ref (b + r9), .ref (b + r11)]) (rest := []) (ci := 2) (M2_valueFor l D cy b A fl e14) gX6_oddsAt_X2_valueFor rfl rfl rfl cd2_valueFor ⟨Nat.le_of_ble_eq_true rfl, Nat.le_of_ble_eq_true rfl⟩ I (gd e14).1 clX2 rfl rfl hl.1 rfl (Nat.le_of_ble_eq_true rfl) dX6_oddsAt_24 ⟨Nat.le_of_ble_eq_true rfl, Nat.le_of_ble_eq_true rfl⟩ (fun H locs I => ?_)
  refine lv_lstore (lv' := [(4, .long o13.1), (0, .ref (b + a0)), (1, .int x1), (2, .int x2), (3, .int x3)]) S.1 S.2.1 dX6_oddsAt_27 hl (by decide) rfl (fun ls hl => ?_)
  refine lv_lload S.1 S.2.1 dX6_oddsAt_29 (lv_at hl 0 rfl) ?_
  refine lv_ldc2 (v := (-9223372036854775808)) S.1 S.2.1 S.2.2.2.1 (S.2.2.2.2 _ (List.mem_cons_of_mem _ wT_24_17)) dX6_oddsAt_31 ?_
  refine W.lcmp S.1 S.2.1 dX6_oddsAt_34 ?_
  refine lv_if_ne (tgt := 55) S.1 S.2.1 dX6_oddsAt_35 (by decide) (fun q15 => ?_) (fun q15 => ?_)
  · have f := (if_neg q15).symm.trans f
    refine lv_lconst (v := 0) S.1 S.2.1 dX6_oddsAt_55 (by decide) ?_
    refine lv_ldc2 (v := 100) S.1 S.2.1 S.2.2.2.1 (S.2.2.2.2 _ (List.mem_cons_of_mem _ wT_38_16)) dX6_oddsAt_56 ?_
    refine lv_lload S.1 S.2.1 dX6_oddsAt_59 (lv_at hl 0 rfl) ?_
    refine va_mmin_long S.1 S.2.1 (by rw [S.2.2.1, hl.1]) S.2.2.2.1 (S.2.2.2.2 _ (List.mem_cons_of_mem _ wT_24_20)) (S.2.2.2.2 _ (List.mem_cons_of_mem _ wT_24_21)) (S.2.2.2.2 _ (List.mem_cons_of_mem _ wT_15_17)) (S.2.2.2.2 _ (List.mem_cons_of_mem _ wT_24_22)) (Nat.le_of_ble_eq_true rfl) (Nat.le_of_ble_eq_true rfl) (Nat.zero_le _) (Nat.zero_le _) dX6_oddsAt_61 ?_
    refine va_mmax_long S.1 S.2.1 (by rw [S.2.2.1, hl.1]) S.2.2.2.1 (S.2.2.2.2 _ (List.mem_cons_of_mem _ wT_24_23)) (S.2.2.2.2 _ (List.mem_cons_of_mem _ wT_25_0)) (S.2.2.2.2 _ (List.mem_cons_of_mem _ wT_15_17)) (S.2.2.2.2 _ (List.mem_cons_of_mem _ wT_25_1)) (Nat.le_of_ble_eq_true rfl) (Nat.le_of_ble_eq_true rfl) (Nat.zero_le _) (Nat.zero_le _) dX6_oddsAt_64 ?_
    refine lv_l2i (v := Int64.toInt32 (if (if o13.1 < (100 : Int64) then o13.1 else (100 : Int64)) < (0 : Int64) then (0 : Int64) else (if o13.1 < (100 : Int64) then o13.1 else (100 : Int64)))) S.1 S.2.1 dX6_oddsAt_67 rfl ?_
    exact o_iret S hr hlo I f dX6_oddsAt_68
  · have f := (if_pos q15).symm.trans f
    refine lv_iconst (v := 0) S.1 S.2.1 dX6_oddsAt_38 (by decide) ?_
    refine lv_bipush (v := 100) S.1 S.2.1 dX6_oddsAt_39 (by decide) ?_
    refine lv_bipush (v := 20) S.1 S.2.1 dX6_oddsAt_41 (by decide) ?_
    refine lv_aload_n S.1 S.2.1 dX6_oddsAt_43 rfl (lv_at hl 1 rfl) ?_
    refine lv_iload_n S.1 S.2.1 dX6_oddsAt_44 rfl (lv_at hl 4 rfl) ?_
    refine lv_iload_n S.1 S.2.1 dX6_oddsAt_45 rfl (lv_at hl 3 rfl) ?_
    obtain ⟨o16, e17, f⟩ := ob f
    refine o_Vi S (As := [.int x3, .int x2]) (rest := [.int 20, .int 100, .int 0]) (ci := 6) (M6_farOf l D cy b A fl e17) gX6_oddsAt_X6_farOf rfl rfl rfl cd6_farOf ⟨Nat.le_of_ble_eq_true rfl, Nat.le_of_ble_eq_true rfl⟩ I (gd e17).1 clX6 rfl rfl hl.1 rfl (Nat.le_of_ble_eq_true rfl) dX6_oddsAt_46 ⟨Nat.le_of_ble_eq_true rfl, Nat.le_of_ble_eq_true rfl⟩ (fun H locs I => ?_)
    refine lv_imul S.1 S.2.1 dX6_oddsAt_49 ?_
    refine lv_isub S.1 S.2.1 dX6_oddsAt_50 ?_
    refine va_mmax S.1 S.2.1 (by rw [S.2.2.1, hl.1]) S.2.2.2.1 (S.2.2.2.2 _ (List.mem_cons_of_mem _ wT_38_13)) (S.2.2.2.2 _ (List.mem_cons_of_mem _ wT_38_14)) (S.2.2.2.2 _ (List.mem_cons_of_mem _ wT_15_17)) (S.2.2.2.2 _ (List.mem_cons_of_mem _ wT_38_15)) (Nat.le_of_ble_eq_true rfl) (Nat.le_of_ble_eq_true rfl) (Nat.zero_le _) (Nat.zero_le _) dX6_oddsAt_51 ?_
    exact o_iret S hr hlo I f dX6_oddsAt_54
theorem M6_oddsAt (l : Launch) (D : va_G) (cy : Nat → ClassId) (b : Nat) (A : Nat → Prop) (fl : Bool) {h : PH} {a0 : Nat} {x1 : Int32} {x2 : Int32} {x3 : Int32} {out : Int32 × PH} (f : F6_oddsAt h a0 x1 x2 x3 = some out) : Met l yX6_oddsAt vX6_oddsAt ({ frames := 3, cells := 0, slots := 0, locals := 78 } : Room) (va_Pc [.ref (b + a0), .int x1, .int x2, .int x3] (ph_B D cy b A fl h)) (va_Qi (fun (r : Int32) (u : PH) => (r, u) = out) (ph_B D cy b A fl) A) 0 0 A :=
  o_met (by decide) rfl (Nat.le_of_ble_eq_true rfl) rfl (fun p e s m below meth c S hr hlo hnm ls hl I => T6_oddsAt_0 S hr hlo ((gd f).2) I (lv_sub hl [0, 1, 2, 3] rfl))
def vX6_worthAt : List Cond := .code yX6_worthAt cX6_worthAt 4 (some .int) :: TB
theorem gX6_worthAt_X6_oddsAt : GoodIn vX6_worthAt (wsV RX6 141 RX6 yX6_oddsAt vX6_oddsAt) := gV_of wT_44_12 wT_38_10 wT_38_11 wT_2_2 wT_38_12
theorem lf6_worthAt_9 : Fl vX6_worthAt RX6 9 6 0 := ⟨RX6, TX6, 9, rfl, by decide, (fun w h9 => List.mem_cons_of_mem _ (wC_wsX60 w h9)), (List.mem_cons_of_mem _ wT_7_15)⟩
theorem lf6_worthAt_57 : Fl vX6_worthAt RX6 57 8 5 := ⟨RX8, TX8, 14, rfl, by decide, (fun w h9 => List.mem_cons_of_mem _ (wC_wsX80 w h9)), (List.mem_cons_of_mem _ wT_24_9)⟩
theorem lf6_worthAt_112 : Fl vX6_worthAt RX6 112 10 5 := ⟨RX10, TX10, 8, rfl, by decide, (fun w h9 => List.mem_cons_of_mem _ (wC_wsX100 w h9)), (List.mem_cons_of_mem _ wT_39_2)⟩
theorem cd6_worthAt : Cd yX6_worthAt 3 := ⟨by decide, by decide, by decide +kernel⟩
set_option maxHeartbeats 4000000 in
set_option maxRecDepth 100000 in
theorem T6_worthAt_0 (S : CallFix p m c cX6_worthAt 4 s args vX6_worthAt RX6) (hr : meth.sig.returnType = (some .int)) (hlo : meth.locks = false) {out : Int32 × PH} {h : PH} {a0 : Nat} {x1 : Int32} {x2 : Int32} {x3 : Int32} (f : F6_worthAt_0  h a0 x1 x2 x3 = some out) {H : Heap} {locs : List Loc} (I : ph_I D cy b A fl h s H locs) {ls : Array Slot} (hl : lv_has ls 4 [(0, .ref (b + a0)), (1, .int x1), (2, .int x2), (3, .int x3)]) : W p l e ({ frames := 4, cells := 0, slots := 0, locals := 103 } : Room) s m args below meth c H locs 0 0 (MQ below (va_Qi (fun (r : Int32) (u : PH) => (r, u) = out) (ph_B D cy b A fl) A) args s 0 0 A) (F0 m 0 ls []) := by
  unfold F6_worthAt_0 at f
  refine lv_aload_n S.1 S.2.1 dX6_worthAt_0 rfl (lv_at hl 0 rfl) ?_
  refine lv_iload_n S.1 S.2.1 dX6_worthAt_1 rfl (lv_at hl 1 rfl) ?_
  refine lv_iload_n S.1 S.2.1 dX6_worthAt_2 rfl (lv_at hl 2 rfl) ?_
  refine lv_iload_n S.1 S.2.1 dX6_worthAt_3 rfl (lv_at hl 3 rfl) ?_
  obtain ⟨o1, e2, f⟩ := ob f
  refine o_Vi S (As := [.int x1, .int x2, .int x3]) (rest := []) (ci := 6) (M6_oddsAt l D cy b A fl e2) gX6_worthAt_X6_oddsAt rfl rfl rfl cd6_oddsAt ⟨Nat.le_of_ble_eq_true rfl, Nat.le_of_ble_eq_true rfl⟩ I (gd e2).1 clX6 rfl rfl hl.1 rfl (Nat.le_of_ble_eq_true rfl) dX6_worthAt_4 ⟨Nat.le_of_ble_eq_true rfl, Nat.le_of_ble_eq_true rfl⟩ (fun H locs I => ?_)
  refine lv_aload_n S.1 S.2.1 dX6_worthAt_7 rfl (lv_at hl 0 rfl) ?_
  obtain ⟨r3, e4, f⟩ := ob f
  refine o_gR S lf6_worthAt_9 I e4 dX6_worthAt_8 ?_
  obtain ⟨r5, e6, f⟩ := ob f
  refine o_gR S lf6_worthAt_57 I e6 dX6_worthAt_11 ?_
  obtain ⟨r7, e8, f⟩ := ob f
  refine o_gR S lf6_worthAt_112 I e8 dX6_worthAt_14 ?_
  refine lv_iload_n S.1 S.2.1 dX6_worthAt_17 rfl (lv_at hl 2 rfl) ?_
  obtain ⟨v10, e9, f⟩ := ob f
  refine o_iald S I e9 dX6_worthAt_18 ?_
  refine lv_imul S.1 S.2.1 dX6_worthAt_19 ?_
  exact o_iret S hr hlo I f dX6_worthAt_20
theorem M6_worthAt (l : Launch) (D : va_G) (cy : Nat → ClassId) (b : Nat) (A : Nat → Prop) (fl : Bool) {h : PH} {a0 : Nat} {x1 : Int32} {x2 : Int32} {x3 : Int32} {out : Int32 × PH} (f : F6_worthAt h a0 x1 x2 x3 = some out) : Met l yX6_worthAt vX6_worthAt ({ frames := 4, cells := 0, slots := 0, locals := 103 } : Room) (va_Pc [.ref (b + a0), .int x1, .int x2, .int x3] (ph_B D cy b A fl h)) (va_Qi (fun (r : Int32) (u : PH) => (r, u) = out) (ph_B D cy b A fl) A) 0 0 A :=
  o_met (by decide) rfl (Nat.le_of_ble_eq_true rfl) rfl (fun p e s m below meth c S hr hlo hnm ls hl I => T6_worthAt_0 S hr hlo ((gd f).2) I (lv_sub hl [0, 1, 2, 3] rfl))
def vX0_makePlan : List Cond := .code yX0_makePlan cX0_makePlan 8 none :: TB
theorem lf0_makePlan_30 : Fl vX0_makePlan RX0 30 0 7 := ⟨RX0, TX0, 13, rfl, by decide, (fun w h9 => List.mem_cons_of_mem _ (wC_wsX00 w h9)), (List.mem_cons_of_mem _ wT_9_13)⟩
theorem lp0_makePlan_115 : Pl vX0_makePlan RX0 115 0 12 .int := ⟨RX0, TX0, 13, tyX0, rfl, by decide, (fun w h9 => List.mem_cons_of_mem _ (wC_wsX00 w h9)), (List.mem_cons_of_mem _ wT_54_20), tyX0_ok, nmX0, rfl, rfl⟩
theorem lf0_makePlan_71 : Fl vX0_makePlan RX0 71 10 1 := ⟨RX10, TX10, 8, rfl, by decide, (fun w h9 => List.mem_cons_of_mem _ (wC_wsX100 w h9)), (List.mem_cons_of_mem _ wT_51_5)⟩
theorem gX0_makePlan_X0_listPlan : GoodIn vX0_makePlan (wsV RX0 118 RX0 yX0_listPlan vX0_listPlan) := gV_of wT_54_22 wT_54_23 wT_55_0 wT_2_21 wT_55_1
theorem lf0_makePlan_33 : Fl vX0_makePlan RX0 33 0 8 := ⟨RX0, TX0, 13, rfl, by decide, (fun w h9 => List.mem_cons_of_mem _ (wC_wsX00 w h9)), (List.mem_cons_of_mem _ wT_9_14)⟩
theorem lf0_makePlan_105 : Fl vX0_makePlan RX0 105 10 4 := ⟨RX10, TX10, 8, rfl, by decide, (fun w h9 => List.mem_cons_of_mem _ (wC_wsX100 w h9)), (List.mem_cons_of_mem _ wT_54_18)⟩
theorem gX0_makePlan_X6_awayFor : GoodIn vX0_makePlan (wsV RX0 107 RX6 yX6_awayFor vX6_awayFor) := gV_of wT_54_21 wT_46_0 wT_46_1 wT_2_2 wT_46_2
theorem gX0_makePlan_X10_firstFrom : GoodIn vX0_makePlan (wsV RX0 61 RX10 yX10_firstFrom vX10_firstFrom) := gV_of wT_51_6 wT_43_17 wT_43_18 wT_3_9 wT_43_19
theorem lf0_makePlan_81 : Fl vX0_makePlan RX0 81 4 5 := ⟨RX4, TX4, 11, rfl, by decide, (fun w h9 => List.mem_cons_of_mem _ (wC_wsX40 w h9)), (List.mem_cons_of_mem _ wT_51_11)⟩
theorem gX0_makePlan_X6_worthAt : GoodIn vX0_makePlan (wsV RX0 94 RX6 yX6_worthAt vX6_worthAt) := gV_of wT_51_14 wT_49_18 wT_49_19 wT_2_2 wT_49_20
theorem lf0_makePlan_36 : Fl vX0_makePlan RX0 36 0 9 := ⟨RX0, TX0, 13, rfl, by decide, (fun w h9 => List.mem_cons_of_mem _ (wC_wsX00 w h9)), (List.mem_cons_of_mem _ wT_9_15)⟩
theorem lf0_makePlan_43 : Fl vX0_makePlan RX0 43 6 0 := ⟨RX6, TX6, 9, rfl, by decide, (fun w h9 => List.mem_cons_of_mem _ (wC_wsX60 w h9)), (List.mem_cons_of_mem _ wT_51_2)⟩
theorem lf0_makePlan_49 : Fl vX0_makePlan RX0 49 8 5 := ⟨RX8, TX8, 14, rfl, by decide, (fun w h9 => List.mem_cons_of_mem _ (wC_wsX80 w h9)), (List.mem_cons_of_mem _ wT_51_3)⟩
theorem lf0_makePlan_55 : Fl vX0_makePlan RX0 55 4 0 := ⟨RX4, TX4, 11, rfl, by decide, (fun w h9 => List.mem_cons_of_mem _ (wC_wsX40 w h9)), (List.mem_cons_of_mem _ wT_51_4)⟩
theorem cd0_makePlan : Cd yX0_makePlan 3 := ⟨by decide, by decide, by decide +kernel⟩
set_option maxHeartbeats 4000000 in
set_option maxRecDepth 100000 in
theorem T0_makePlan_128 (S : CallFix p m c cX0_makePlan 8 s args vX0_makePlan RX0) (hr : meth.sig.returnType = none) (hlo : meth.locks = false) {out : PH} {k40 : PH → Nat → Nat → Nat → Int32 → Nat → Int32 → Int32 → Option (PH)} (hk40 : ∀ {h : PH} {a0 : Nat} {a1 : Nat} {a2 : Nat} {x3 : Int32} {a4 : Nat} {x5 : Int32} {x6 : Int32}, k40 h a0 a1 a2 x3 a4 x5 x6 = some out → ∀ (H : Heap) (locs : List Loc), ph_I D cy b A fl h s H locs → ∀ (ls : Array Slot), lv_has ls 8 [(0, .ref (b + a0)), (1, .ref (b + a1)), (2, .ref (b + a2)), (3, .int x3), (4, .ref (b + a4)), (5, .int x5), (6, .int x6)] → W p l e ({ frames := 5, cells := 0, slots := 0, locals := 126 } : Room) s m args below meth c H locs 0 0 (MQ below (va_Qv (fun (u : PH) => u = out) (ph_B D cy b A fl) A) args s 0 0 A) (F0 m 40 ls [])) {h : PH} {a0 : Nat} {a1 : Nat} {a2 : Nat} {x3 : Int32} {a4 : Nat} {x5 : Int32} {x6 : Int32} {x7 : Int32} {s0 : Int32} {s1 : Int32} {u2 : Nat} (f : F0_makePlan_128 k40 h a0 a1 a2 x3 a4 x5 x6 x7 s0 s1 u2 = some out) {H : Heap} {locs : List Loc} (I : ph_I D cy b A fl h s H locs) {ls : Array Slot} (hl : lv_has ls 8 [(0, .ref (b + a0)), (1, .ref (b + a1)), (2, .ref (b + a2)), (3, .int x3), (4, .ref (b + a4)), (5, .int x5), (6, .int x6), (7, .int x7)]) : W p l e ({ frames := 5, cells := 0, slots := 0, locals := 126 } : Room) s m args below meth c H locs 0 0 (MQ below (va_Qv (fun (u : PH) => u = out) (ph_B D cy b A fl) A) args s 0 0 A) (F0 m 128 ls [.int s0, .int s1, .ref (b + u2)]) := by
  unfold F0_makePlan_128 at f
  obtain ⟨h2, e1, f⟩ := ob f
  refine o_zast S I e1 dX0_makePlan_128 (fun H locs I => ?_)
  refine lv_aload_n S.1 S.2.1 dX0_makePlan_129 rfl (lv_at hl 0 rfl) ?_
  obtain ⟨r3, e4, f⟩ := ob f
  refine o_gR S lf0_makePlan_30 I e4 dX0_makePlan_130 ?_
  refine lv_iload S.1 S.2.1 dX0_makePlan_133 (lv_at hl 6 rfl) ?_
  refine lv_iload S.1 S.2.1 dX0_makePlan_135 (lv_at hl 7 rfl) ?_
  refine lv_aload_n S.1 S.2.1 dX0_makePlan_137 rfl (lv_at hl 0 rfl) ?_
  obtain ⟨r5, e6, f⟩ := ob f
  refine o_gR S lf0_makePlan_30 I e6 dX0_makePlan_138 ?_
  refine lv_iload S.1 S.2.1 dX0_makePlan_141 (lv_at hl 6 rfl) ?_
  refine lv_iconst (v := 1) S.1 S.2.1 dX0_makePlan_143 (by decide) ?_
  refine lv_iadd S.1 S.2.1 dX0_makePlan_144 ?_
  obtain ⟨v8, e7, f⟩ := ob f
  refine o_iald S I e7 dX0_makePlan_145 ?_
  refine va_mmax S.1 S.2.1 (by rw [S.2.2.1, hl.1]) S.2.2.2.1 (S.2.2.2.2 _ (List.mem_cons_of_mem _ wT_54_19)) (S.2.2.2.2 _ (List.mem_cons_of_mem _ wT_38_14)) (S.2.2.2.2 _ (List.mem_cons_of_mem _ wT_15_17)) (S.2.2.2.2 _ (List.mem_cons_of_mem _ wT_38_15)) (Nat.le_of_ble_eq_true rfl) (Nat.le_of_ble_eq_true rfl) (Nat.zero_le _) (Nat.zero_le _) dX0_makePlan_146 ?_
  obtain ⟨h10, e9, f⟩ := ob f
  refine o_iast S I e9 dX0_makePlan_149 (fun H locs I => ?_)
  refine lv_iinc (v := (x6 + (-1))) (lv' := [(6, .int (x6 + (-1))), (0, .ref (b + a0)), (1, .ref (b + a1)), (2, .ref (b + a2)), (3, .int x3), (4, .ref (b + a4)), (5, .int x5), (7, .int x7)]) S.1 S.2.1 dX0_makePlan_150 hl (k := 6) rfl (congrArg (fun z => x6 + z) (by decide)) (by decide) rfl (fun ls hl => ?_)
  refine lv_goto (tgt := 40) S.1 S.2.1 dX0_makePlan_153 (by decide) ?_
  exact hk40 f _ _ I _ (lv_sub hl [1, 2, 3, 4, 5, 6, 0] rfl)
set_option maxHeartbeats 4000000 in
set_option maxRecDepth 100000 in
theorem T0_makePlan_40 (S : CallFix p m c cX0_makePlan 8 s args vX0_makePlan RX0) (hr : meth.sig.returnType = none) (hlo : meth.locks = false) {out : PH} : ∀ (n : Nat) {h : PH} {a0 : Nat} {a1 : Nat} {a2 : Nat} {x3 : Int32} {a4 : Nat} {x5 : Int32} {x6 : Int32} (f : F0_makePlan_40  n h a0 a1 a2 x3 a4 x5 x6 = some out) {H : Heap} {locs : List Loc} (I : ph_I D cy b A fl h s H locs) {ls : Array Slot} (hl : lv_has ls 8 [(0, .ref (b + a0)), (1, .ref (b + a1)), (2, .ref (b + a2)), (3, .int x3), (4, .ref (b + a4)), (5, .int x5), (6, .int x6)]), W p l e ({ frames := 5, cells := 0, slots := 0, locals := 126 } : Room) s m args below meth c H locs 0 0 (MQ below (va_Qv (fun (u : PH) => u = out) (ph_B D cy b A fl) A) args s 0 0 A) (F0 m 40 ls []) := by
  intro n
  induction n with
  | zero => intro h a0 a1 a2 x3 a4 x5 x6 f; rw [F0_makePlan_40] at f; cases f
  | succ n ih =>
    intro h a0 a1 a2 x3 a4 x5 x6 f H locs I ls hl
    rw [F0_makePlan_40] at f
    refine lv_iload S.1 S.2.1 dX0_makePlan_40 (lv_at hl 6 rfl) ?_
    refine lv_iload S.1 S.2.1 dX0_makePlan_42 (lv_at hl 5 rfl) ?_
    refine lv_icmp_lt (tgt := 156) S.1 S.2.1 dX0_makePlan_44 (by decide) (fun q1 => ?_) (fun q1 => ?_)
    · have f := (if_pos q1).symm.trans f
      refine lv_aload_n S.1 S.2.1 dX0_makePlan_156 rfl (lv_at hl 0 rfl) ?_
      refine lv_aload_n S.1 S.2.1 dX0_makePlan_157 rfl (lv_at hl 0 rfl) ?_
      obtain ⟨r2, e3, f⟩ := ob f
      refine o_gR S lf0_makePlan_30 I e3 dX0_makePlan_158 ?_
      refine lv_iload S.1 S.2.1 dX0_makePlan_161 (lv_at hl 5 rfl) ?_
      obtain ⟨v5, e4, f⟩ := ob f
      refine o_iald S I e4 dX0_makePlan_163 ?_
      obtain ⟨h6, e7, f⟩ := ob f
      refine o_pI S lp0_makePlan_115 I e7 dX0_makePlan_164 (fun H locs I => ?_)
      refine lv_aload_n S.1 S.2.1 dX0_makePlan_167 rfl (lv_at hl 0 rfl) ?_
      refine lv_iload S.1 S.2.1 dX0_makePlan_168 (lv_at hl 5 rfl) ?_
      refine lv_aload S.1 S.2.1 dX0_makePlan_170 (lv_at hl 4 rfl) ?_
      obtain ⟨v8, e9, f⟩ := ob f
      refine o_gI S lf0_makePlan_71 I e9 dX0_makePlan_172 ?_
      obtain ⟨o10, e11, f⟩ := ob f
      refine o_Vv S (As := [.int x5, .int v8]) (rest := []) (ci := 0) (M0_listPlan l D cy b A fl e11) gX0_makePlan_X0_listPlan rfl rfl rfl cd0_listPlan ⟨Nat.le_of_ble_eq_true rfl, Nat.le_of_ble_eq_true rfl⟩ I (gd e11).1 clX0 rfl rfl hl.1 rfl (Nat.le_of_ble_eq_true rfl) dX0_makePlan_175 ⟨Nat.le_of_ble_eq_true rfl, Nat.le_of_ble_eq_true rfl⟩ (fun H locs I => ?_)
      exact o_vret S hr hlo I f dX0_makePlan_178
    · have f := (if_neg q1).symm.trans f
      refine lv_aload_n S.1 S.2.1 dX0_makePlan_47 rfl (lv_at hl 0 rfl) ?_
      obtain ⟨r12, e13, f⟩ := ob f
      refine o_gR S lf0_makePlan_33 I e13 dX0_makePlan_48 ?_
      refine lv_iload S.1 S.2.1 dX0_makePlan_51 (lv_at hl 6 rfl) ?_
      refine lv_aload S.1 S.2.1 dX0_makePlan_53 (lv_at hl 4 rfl) ?_
      refine lv_aload S.1 S.2.1 dX0_makePlan_55 (lv_at hl 4 rfl) ?_
      obtain ⟨r14, e15, f⟩ := ob f
      refine o_gR S lf0_makePlan_105 I e15 dX0_makePlan_57 ?_
      refine lv_iload S.1 S.2.1 dX0_makePlan_60 (lv_at hl 6 rfl) ?_
      obtain ⟨v17, e16, f⟩ := ob f
      refine o_iald S I e16 dX0_makePlan_62 ?_
      refine lv_aload_n S.1 S.2.1 dX0_makePlan_63 rfl (lv_at hl 1 rfl) ?_
      refine lv_iload_n S.1 S.2.1 dX0_makePlan_64 rfl (lv_at hl 3 rfl) ?_
      refine lv_iload S.1 S.2.1 dX0_makePlan_65 (lv_at hl 6 rfl) ?_
      obtain ⟨o18, e19, f⟩ := ob f
      refine o_Vi S (As := [.int x3, .int x6]) (rest := [.int v17, .ref (b + a4), .int x6, .ref (b + r12)]) (ci := 6) (M6_awayFor l D cy b A fl e19) gX0_makePlan_X6_awayFor rfl rfl rfl cd6_awayFor ⟨Nat.le_of_ble_eq_true rfl, Nat.le_of_ble_eq_true rfl⟩ I (gd e19).1 clX6 rfl rfl hl.1 rfl (Nat.le_of_ble_eq_true rfl) dX0_makePlan_67 ⟨Nat.le_of_ble_eq_true rfl, Nat.le_of_ble_eq_true rfl⟩ (fun H locs I => ?_)
      refine lv_iadd S.1 S.2.1 dX0_makePlan_70 ?_
      obtain ⟨o20, e21, f⟩ := ob f
      refine o_Vi S (As := [.int (v17 + o18.1)]) (rest := [.int x6, .ref (b + r12)]) (ci := 10) (M10_firstFrom l D cy b A fl e21) gX0_makePlan_X10_firstFrom rfl rfl rfl cd10_firstFrom ⟨Nat.le_of_ble_eq_true rfl, Nat.le_of_ble_eq_true rfl⟩ I (gd e21).1 clX10 rfl rfl hl.1 rfl (Nat.le_of_ble_eq_true rfl) dX0_makePlan_71 ⟨Nat.le_of_ble_eq_true rfl, Nat.le_of_ble_eq_true rfl⟩ (fun H locs I => ?_)
      obtain ⟨h23, e22, f⟩ := ob f
      refine o_iast S I e22 dX0_makePlan_74 (fun H locs I => ?_)
      refine lv_aload_n S.1 S.2.1 dX0_makePlan_75 rfl (lv_at hl 1 rfl) ?_
      refine lv_iload_n S.1 S.2.1 dX0_makePlan_76 rfl (lv_at hl 3 rfl) ?_
      refine lv_iload S.1 S.2.1 dX0_makePlan_77 (lv_at hl 6 rfl) ?_
      refine lv_aload_n S.1 S.2.1 dX0_makePlan_79 rfl (lv_at hl 2 rfl) ?_
      obtain ⟨r24, e25, f⟩ := ob f
      refine o_gR S lf0_makePlan_81 I e25 dX0_makePlan_80 ?_
      refine lv_iload_n S.1 S.2.1 dX0_makePlan_83 rfl (lv_at hl 3 rfl) ?_
      obtain ⟨v27, e26, f⟩ := ob f
      refine o_iald S I e26 dX0_makePlan_84 ?_
      obtain ⟨o28, e29, f⟩ := ob f
      refine o_Vi S (As := [.int x3, .int x6, .int v27]) (rest := []) (ci := 6) (M6_worthAt l D cy b A fl e29) gX0_makePlan_X6_worthAt rfl rfl rfl cd6_worthAt ⟨Nat.le_of_ble_eq_true rfl, Nat.le_of_ble_eq_true rfl⟩ I (gd e29).1 clX6 rfl rfl hl.1 rfl (Nat.le_of_ble_eq_true rfl) dX0_makePlan_85 ⟨Nat.le_of_ble_eq_true rfl, Nat.le_of_ble_eq_true rfl⟩ (fun H locs I => ?_)
      refine lv_aload_n S.1 S.2.1 dX0_makePlan_88 rfl (lv_at hl 0 rfl) ?_
      obtain ⟨r30, e31, f⟩ := ob f
      refine o_gR S lf0_makePlan_30 I e31 dX0_makePlan_89 ?_
      refine lv_aload_n S.1 S.2.1 dX0_makePlan_92 rfl (lv_at hl 0 rfl) ?_
      obtain ⟨r32, e33, f⟩ := ob f
      refine o_gR S lf0_makePlan_33 I e33 dX0_makePlan_93 ?_
      refine lv_iload S.1 S.2.1 dX0_makePlan_96 (lv_at hl 6 rfl) ?_
      obtain ⟨v35, e34, f⟩ := ob f
      refine o_iald S I e34 dX0_makePlan_98 ?_
      obtain ⟨v37, e36, f⟩ := ob f
      refine o_iald S I e36 dX0_makePlan_99 ?_
      refine lv_iadd S.1 S.2.1 dX0_makePlan_100 ?_
      refine lv_istore (lv' := [(7, .int (o28.1 + v37)), (0, .ref (b + a0)), (1, .ref (b + a1)), (2, .ref (b + a2)), (3, .int x3), (4, .ref (b + a4)), (5, .int x5), (6, .int x6)]) S.1 S.2.1 dX0_makePlan_101 hl (by decide) rfl (fun ls hl => ?_)
      refine lv_aload_n S.1 S.2.1 dX0_makePlan_103 rfl (lv_at hl 1 rfl) ?_
      obtain ⟨r38, e39, f⟩ := ob f
      refine o_gR S lf0_makePlan_36 I e39 dX0_makePlan_104 ?_
      refine lv_iload S.1 S.2.1 dX0_makePlan_107 (lv_at hl 7 rfl) ?_
      refine lv_iload S.1 S.2.1 dX0_makePlan_109 (lv_at hl 0 rfl) ?_
      refine lv_aload_n S.1 S.2.1 dX0_makePlan_111 rfl (lv_at hl 1 rfl) ?_
      obtain ⟨r40, e41, f⟩ := ob f
      refine o_gR S lf0_makePlan_30 I e41 dX0_makePlan_112 ?_
      refine lv_iload S.1 S.2.1 dX0_makePlan_115 (lv_at hl 7 rfl) ?_
      refine lv_iconst (v := 1) S.1 S.2.1 dX0_makePlan_117 (by decide) ?_
      refine lv_iadd S.1 S.2.1 dX0_makePlan_118 ?_
      obtain ⟨v43, e42, f⟩ := ob f
      refine o_iald S I e42 dX0_makePlan_119 ?_
      refine lv_icmp_lt (tgt := 127) S.1 S.2.1 dX0_makePlan_120 (by decide) (fun q44 => ?_) (fun q44 => ?_)
      · have f := (if_pos q44).symm.trans f
        refine lv_iconst (v := 0) S.1 S.2.1 dX0_makePlan_127 (by decide) ?_
        exact T0_makePlan_128 S hr hlo (fun f _ _ I _ hl => ih f I hl) f I (lv_sub hl [1, 2, 3, 4, 5, 6, 7, 0] rfl)
      · have f := (if_neg q44).symm.trans f
        refine lv_iconst (v := 1) S.1 S.2.1 dX0_makePlan_123 (by decide) ?_
        refine lv_goto (tgt := 128) S.1 S.2.1 dX0_makePlan_124 (by decide) ?_
        exact T0_makePlan_128 S hr hlo (fun f _ _ I _ hl => ih f I hl) f I (lv_sub hl [1, 2, 3, 4, 5, 6, 7, 0] rfl)
set_option maxHeartbeats 4000000 in
set_option maxRecDepth 100000 in
theorem T0_makePlan_0 (S : CallFix p m c cX0_makePlan 8 s args vX0_makePlan RX0) (hr : meth.sig.returnType = none) (hlo : meth.locks = false) {out : PH} {h : PH} {a0 : Nat} {a1 : Nat} {a2 : Nat} {x3 : Int32} (f : F0_makePlan_0  h a0 a1 a2 x3 = some out) {H : Heap} {locs : List Loc} (I : ph_I D cy b A fl h s H locs) {ls : Array Slot} (hl : lv_has ls 8 [(0, .ref (b + a0)), (1, .ref (b + a1)), (2, .ref (b + a2)), (3, .int x3)]) : W p l e ({ frames := 5, cells := 0, slots := 0, locals := 126 } : Room) s m args below meth c H locs 0 0 (MQ below (va_Qv (fun (u : PH) => u = out) (ph_B D cy b A fl) A) args s 0 0 A) (F0 m 0 ls []) := by
  unfold F0_makePlan_0 at f
  refine lv_aload_n S.1 S.2.1 dX0_makePlan_0 rfl (lv_at hl 1 rfl) ?_
  obtain ⟨r1, e2, f⟩ := ob f
  refine o_gR S lf0_makePlan_43 I e2 dX0_makePlan_1 ?_
  obtain ⟨r3, e4, f⟩ := ob f
  refine o_gR S lf0_makePlan_49 I e4 dX0_makePlan_4 ?_
  refine lv_astore (lv' := [(4, .ref (b + r3)), (0, .ref (b + a0)), (1, .ref (b + a1)), (2, .ref (b + a2)), (3, .int x3)]) S.1 S.2.1 dX0_makePlan_7 hl (by decide) rfl (fun ls hl => ?_)
  refine lv_aload S.1 S.2.1 dX0_makePlan_9 (lv_at hl 0 rfl) ?_
  refine lv_aload_n S.1 S.2.1 dX0_makePlan_11 rfl (lv_at hl 3 rfl) ?_
  obtain ⟨v5, e6, f⟩ := ob f
  refine o_gI S lf0_makePlan_55 I e6 dX0_makePlan_12 ?_
  obtain ⟨o7, e8, f⟩ := ob f
  refine o_Vi S (As := [.int v5]) (rest := []) (ci := 10) (M10_firstFrom l D cy b A fl e8) gX0_makePlan_X10_firstFrom rfl rfl rfl cd10_firstFrom ⟨Nat.le_of_ble_eq_true rfl, Nat.le_of_ble_eq_true rfl⟩ I (gd e8).1 clX10 rfl rfl hl.1 rfl (Nat.le_of_ble_eq_true rfl) dX0_makePlan_15 ⟨Nat.le_of_ble_eq_true rfl, Nat.le_of_ble_eq_true rfl⟩ (fun H locs I => ?_)
  refine lv_istore (lv' := [(5, .int o7.1), (4, .ref (b + r3)), (0, .ref (b + a0)), (1, .ref (b + a1)), (2, .ref (b + a2)), (3, .int x3)]) S.1 S.2.1 dX0_makePlan_18 hl (by decide) rfl (fun ls hl => ?_)
  refine lv_aload_n S.1 S.2.1 dX0_makePlan_20 rfl (lv_at hl 2 rfl) ?_
  obtain ⟨r9, e10, f⟩ := ob f
  refine o_gR S lf0_makePlan_30 I e10 dX0_makePlan_21 ?_
  refine lv_aload S.1 S.2.1 dX0_makePlan_24 (lv_at hl 1 rfl) ?_
  obtain ⟨v11, e12, f⟩ := ob f
  refine o_gI S lf0_makePlan_71 I e12 dX0_makePlan_26 ?_
  refine lv_iconst (v := 0) S.1 S.2.1 dX0_makePlan_29 (by decide) ?_
  obtain ⟨h14, e13, f⟩ := ob f
  refine o_iast S I e13 dX0_makePlan_30 (fun H locs I => ?_)
  refine lv_aload S.1 S.2.1 dX0_makePlan_31 (lv_at hl 1 rfl) ?_
  obtain ⟨v15, e16, f⟩ := ob f
  refine o_gI S lf0_makePlan_71 I e16 dX0_makePlan_33 ?_
  refine lv_iconst (v := 1) S.1 S.2.1 dX0_makePlan_36 (by decide) ?_
  refine lv_isub S.1 S.2.1 dX0_makePlan_37 ?_
  refine lv_istore (lv' := [(6, .int (v15 - 1)), (5, .int o7.1), (4, .ref (b + r3)), (0, .ref (b + a0)), (1, .ref (b + a1)), (2, .ref (b + a2)), (3, .int x3)]) S.1 S.2.1 dX0_makePlan_38 hl (by decide) rfl (fun ls hl => ?_)
  exact T0_makePlan_40 S hr hlo  1024 f I (lv_sub hl [3, 4, 5, 6, 2, 1, 0] rfl)
theorem M0_makePlan (l : Launch) (D : va_G) (cy : Nat → ClassId) (b : Nat) (A : Nat → Prop) (fl : Bool) {h : PH} {a0 : Nat} {a1 : Nat} {a2 : Nat} {x3 : Int32} {out : PH} (f : F0_makePlan h a0 a1 a2 x3 = some out) : Met l yX0_makePlan vX0_makePlan ({ frames := 5, cells := 0, slots := 0, locals := 126 } : Room) (va_Pc [.ref (b + a0), .ref (b + a1), .ref (b + a2), .int x3] (ph_B D cy b A fl h)) (va_Qv (fun (u : PH) => u = out) (ph_B D cy b A fl) A) 0 0 A :=
  o_met (by decide) rfl (Nat.le_of_ble_eq_true rfl) rfl (fun p e s m below meth c S hr hlo hnm ls hl I => T0_makePlan_0 S hr hlo ((gd f).2) I (lv_sub hl [0, 1, 2, 3] rfl))
def vX8_columnOf : List Cond := .code yX8_columnOf cX8_columnOf 2 (some .int) :: TB
theorem lf8_columnOf_32 : Fl vX8_columnOf RX8 32 8 0 := ⟨RX8, TX8, 14, rfl, by decide, (fun w h9 => List.mem_cons_of_mem _ (wC_wsX80 w h9)), (List.mem_cons_of_mem _ wT_3_15)⟩
theorem cd8_columnOf : Cd yX8_columnOf 1 := ⟨by decide, by decide, by decide +kernel⟩
set_option maxHeartbeats 4000000 in
set_option maxRecDepth 100000 in
theorem T8_columnOf_0 (S : CallFix p m c cX8_columnOf 2 s args vX8_columnOf RX8) (hr : meth.sig.returnType = (some .int)) (hlo : meth.locks = false) {out : Int32 × PH} {h : PH} {a0 : Nat} {x1 : Int32} (f : F8_columnOf_0  h a0 x1 = some out) {H : Heap} {locs : List Loc} (I : ph_I D cy b A fl h s H locs) {ls : Array Slot} (hl : lv_has ls 2 [(0, .ref (b + a0)), (1, .int x1)]) : W p l e ({ frames := 0, cells := 0, slots := 0, locals := 0 } : Room) s m args below meth c H locs 0 0 (MQ below (va_Qi (fun (r : Int32) (u : PH) => (r, u) = out) (ph_B D cy b A fl) A) args s 0 0 A) (F0 m 0 ls []) := by
  unfold F8_columnOf_0 at f
  refine lv_aload_n S.1 S.2.1 dX8_columnOf_0 rfl (lv_at hl 0 rfl) ?_
  obtain ⟨v1, e2, f⟩ := ob f
  refine o_gI S lf8_columnOf_32 I e2 dX8_columnOf_1 ?_
  refine lv_if_le (tgt := 16) S.1 S.2.1 dX8_columnOf_4 (by decide) (fun q3 => ?_) (fun q3 => ?_)
  · have f := (if_pos q3).symm.trans f
    refine lv_iconst (v := 0) S.1 S.2.1 dX8_columnOf_16 (by decide) ?_
    exact o_iret S hr hlo I f dX8_columnOf_17
  · have f := (if_neg q3).symm.trans f
    refine lv_iload_n S.1 S.2.1 dX8_columnOf_7 rfl (lv_at hl 1 rfl) ?_
    refine lv_aload_n S.1 S.2.1 dX8_columnOf_8 rfl (lv_at hl 0 rfl) ?_
    obtain ⟨v4, e5, f⟩ := ob f
    refine o_gI S lf8_columnOf_32 I e5 dX8_columnOf_9 ?_
    have q6 : ¬ v4 = 0 := fun q => by rw [if_pos q] at f; cases f
    have f := (if_neg q6).symm.trans f
    refine lv_irem S.1 S.2.1 dX8_columnOf_12 q6 ?_
    refine lv_goto (tgt := 17) S.1 S.2.1 dX8_columnOf_13 (by decide) ?_
    exact o_iret S hr hlo I f dX8_columnOf_17
theorem M8_columnOf (l : Launch) (D : va_G) (cy : Nat → ClassId) (b : Nat) (A : Nat → Prop) (fl : Bool) {h : PH} {a0 : Nat} {x1 : Int32} {out : Int32 × PH} (f : F8_columnOf h a0 x1 = some out) : Met l yX8_columnOf vX8_columnOf ({ frames := 0, cells := 0, slots := 0, locals := 0 } : Room) (va_Pc [.ref (b + a0), .int x1] (ph_B D cy b A fl h)) (va_Qi (fun (r : Int32) (u : PH) => (r, u) = out) (ph_B D cy b A fl) A) 0 0 A :=
  o_met (by decide) rfl (Nat.le_of_ble_eq_true rfl) rfl (fun p e s m below meth c S hr hlo hnm ls hl I => T8_columnOf_0 S hr hlo ((gd f).2) I (lv_sub hl [0, 1] rfl))
def vX8_cellBeside : List Cond := .code yX8_cellBeside cX8_cellBeside 5 (some .int) :: TB
theorem gX8_cellBeside_X8_columnOf : GoodIn vX8_cellBeside (wsV RX8 79 RX8 yX8_columnOf vX8_columnOf) := gV_of wT_41_16 wT_41_17 wT_41_18 wT_1_17 wT_41_19
theorem gX8_cellBeside_X8_rowOf : GoodIn vX8_cellBeside (wsV RX8 82 RX8 yX8_rowOf vX8_rowOf) := gV_of wT_41_20 wT_39_6 wT_39_7 wT_1_17 wT_39_8
theorem lf8_cellBeside_32 : Fl vX8_cellBeside RX8 32 8 0 := ⟨RX8, TX8, 14, rfl, by decide, (fun w h9 => List.mem_cons_of_mem _ (wC_wsX80 w h9)), (List.mem_cons_of_mem _ wT_3_15)⟩
theorem lf8_cellBeside_36 : Fl vX8_cellBeside RX8 36 8 1 := ⟨RX8, TX8, 14, rfl, by decide, (fun w h9 => List.mem_cons_of_mem _ (wC_wsX80 w h9)), (List.mem_cons_of_mem _ wT_3_16)⟩
theorem cd8_cellBeside : Cd yX8_cellBeside 2 := ⟨by decide, by decide, by decide +kernel⟩
set_option maxHeartbeats 4000000 in
set_option maxRecDepth 100000 in
theorem T8_cellBeside_0 (S : CallFix p m c cX8_cellBeside 5 s args vX8_cellBeside RX8) (hr : meth.sig.returnType = (some .int)) (hlo : meth.locks = false) {out : Int32 × PH} {h : PH} {a0 : Nat} {x1 : Int32} {x2 : Int32} (f : F8_cellBeside_0  h a0 x1 x2 = some out) {H : Heap} {locs : List Loc} (I : ph_I D cy b A fl h s H locs) {ls : Array Slot} (hl : lv_has ls 5 [(0, .ref (b + a0)), (1, .int x1), (2, .int x2)]) : W p l e ({ frames := 1, cells := 0, slots := 0, locals := 21 } : Room) s m args below meth c H locs 0 0 (MQ below (va_Qi (fun (r : Int32) (u : PH) => (r, u) = out) (ph_B D cy b A fl) A) args s 0 0 A) (F0 m 0 ls []) := by
  unfold F8_cellBeside_0 at f
  refine lv_aload_n S.1 S.2.1 dX8_cellBeside_0 rfl (lv_at hl 0 rfl) ?_
  refine lv_iload_n S.1 S.2.1 dX8_cellBeside_1 rfl (lv_at hl 1 rfl) ?_
  obtain ⟨o1, e2, f⟩ := ob f
  refine o_Vi S (As := [.int x1]) (rest := []) (ci := 8) (M8_columnOf l D cy b A fl e2) gX8_cellBeside_X8_columnOf rfl rfl rfl cd8_columnOf ⟨Nat.le_of_ble_eq_true rfl, Nat.le_of_ble_eq_true rfl⟩ I (gd e2).1 clX8 rfl rfl hl.1 rfl (Nat.le_of_ble_eq_true rfl) dX8_cellBeside_2 ⟨Nat.le_of_ble_eq_true rfl, Nat.le_of_ble_eq_true rfl⟩ (fun H locs I => ?_)
  refine lv_istore_n (lv' := [(3, .int o1.1), (0, .ref (b + a0)), (1, .int x1), (2, .int x2)]) S.1 S.2.1 dX8_cellBeside_5 rfl hl (by decide) rfl (fun ls hl => ?_)
  refine lv_aload_n S.1 S.2.1 dX8_cellBeside_6 rfl (lv_at hl 1 rfl) ?_
  refine lv_iload_n S.1 S.2.1 dX8_cellBeside_7 rfl (lv_at hl 2 rfl) ?_
  obtain ⟨o3, e4, f⟩ := ob f
  refine o_Vi S (As := [.int x1]) (rest := []) (ci := 8) (M8_rowOf l D cy b A fl e4) gX8_cellBeside_X8_rowOf rfl rfl rfl cd8_rowOf ⟨Nat.le_of_ble_eq_true rfl, Nat.le_of_ble_eq_true rfl⟩ I (gd e4).1 clX8 rfl rfl hl.1 rfl (Nat.le_of_ble_eq_true rfl) dX8_cellBeside_8 ⟨Nat.le_of_ble_eq_true rfl, Nat.le_of_ble_eq_true rfl⟩ (fun H locs I => ?_)
  refine lv_istore (lv' := [(4, .int o3.1), (3, .int o1.1), (0, .ref (b + a0)), (1, .int x1), (2, .int x2)]) S.1 S.2.1 dX8_cellBeside_11 hl (by decide) rfl (fun ls hl => ?_)
  refine lv_iload_n S.1 S.2.1 dX8_cellBeside_13 rfl (lv_at hl 4 rfl) ?_
  rcases Decidable.em (x2 = 0) with q5 | q5
  · have f := (if_pos q5).symm.trans f
    refine lv_tableIn (off := 30) (tgt := 44) S.1 S.2.1 dX8_cellBeside_14 (by rw [q5]; decide) (by rw [q5]; decide) (by rw [q5]; rfl) (by decide) ?_
    refine lv_iload S.1 S.2.1 dX8_cellBeside_44 (lv_at hl 0 rfl) ?_
    refine lv_if_le (tgt := 58) S.1 S.2.1 dX8_cellBeside_46 (by decide) (fun q6 => ?_) (fun q6 => ?_)
    · have f := (if_pos q6).symm.trans f
      refine lv_iconst (v := (-1)) S.1 S.2.1 dX8_cellBeside_58 (by decide) ?_
      exact o_iret S hr hlo I f dX8_cellBeside_59
    · have f := (if_neg q6).symm.trans f
      refine lv_iload_n S.1 S.2.1 dX8_cellBeside_49 rfl (lv_at hl 3 rfl) ?_
      refine lv_aload_n S.1 S.2.1 dX8_cellBeside_50 rfl (lv_at hl 2 rfl) ?_
      obtain ⟨v7, e8, f⟩ := ob f
      refine o_gI S lf8_cellBeside_32 I e8 dX8_cellBeside_51 ?_
      refine lv_isub S.1 S.2.1 dX8_cellBeside_54 ?_
      refine lv_goto (tgt := 59) S.1 S.2.1 dX8_cellBeside_55 (by decide) ?_
      exact o_iret S hr hlo I f dX8_cellBeside_59
  have f := (if_neg q5).symm.trans f
  rcases Decidable.em (x2 = 1) with q9 | q9
  · have f := (if_pos q9).symm.trans f
    refine lv_tableIn (off := 46) (tgt := 60) S.1 S.2.1 dX8_cellBeside_14 (by rw [q9]; decide) (by rw [q9]; decide) (by rw [q9]; rfl) (by decide) ?_
    refine lv_iload_n S.1 S.2.1 dX8_cellBeside_60 rfl (lv_at hl 1 rfl) ?_
    refine lv_aload_n S.1 S.2.1 dX8_cellBeside_61 rfl (lv_at hl 2 rfl) ?_
    obtain ⟨v10, e11, f⟩ := ob f
    refine o_gI S lf8_cellBeside_32 I e11 dX8_cellBeside_62 ?_
    refine lv_iconst (v := 1) S.1 S.2.1 dX8_cellBeside_65 (by decide) ?_
    refine lv_isub S.1 S.2.1 dX8_cellBeside_66 ?_
    refine lv_icmp_ge (tgt := 76) S.1 S.2.1 dX8_cellBeside_67 (by decide) (fun q12 => ?_) (fun q12 => ?_)
    · have f := (if_pos q12).symm.trans f
      refine lv_iconst (v := (-1)) S.1 S.2.1 dX8_cellBeside_76 (by decide) ?_
      exact o_iret S hr hlo I f dX8_cellBeside_77
    · have f := (if_neg q12).symm.trans f
      refine lv_iload_n S.1 S.2.1 dX8_cellBeside_70 rfl (lv_at hl 3 rfl) ?_
      refine lv_iconst (v := 1) S.1 S.2.1 dX8_cellBeside_71 (by decide) ?_
      refine lv_iadd S.1 S.2.1 dX8_cellBeside_72 ?_
      refine lv_goto (tgt := 77) S.1 S.2.1 dX8_cellBeside_73 (by decide) ?_
      exact o_iret S hr hlo I f dX8_cellBeside_77
  have f := (if_neg q9).symm.trans f
  rcases Decidable.em (x2 = 2) with q13 | q13
  · have f := (if_pos q13).symm.trans f
    refine lv_tableIn (off := 64) (tgt := 78) S.1 S.2.1 dX8_cellBeside_14 (by rw [q13]; decide) (by rw [q13]; decide) (by rw [q13]; rfl) (by decide) ?_
    refine lv_iload S.1 S.2.1 dX8_cellBeside_78 (lv_at hl 0 rfl) ?_
    refine lv_aload_n S.1 S.2.1 dX8_cellBeside_80 rfl (lv_at hl 2 rfl) ?_
    obtain ⟨v14, e15, f⟩ := ob f
    refine o_gI S lf8_cellBeside_36 I e15 dX8_cellBeside_81 ?_
    refine lv_iconst (v := 1) S.1 S.2.1 dX8_cellBeside_84 (by decide) ?_
    refine lv_isub S.1 S.2.1 dX8_cellBeside_85 ?_
    refine lv_icmp_ge (tgt := 98) S.1 S.2.1 dX8_cellBeside_86 (by decide) (fun q16 => ?_) (fun q16 => ?_)
    · have f := (if_pos q16).symm.trans f
      refine lv_iconst (v := (-1)) S.1 S.2.1 dX8_cellBeside_98 (by decide) ?_
      exact o_iret S hr hlo I f dX8_cellBeside_99
    · have f := (if_neg q16).symm.trans f
      refine lv_iload_n S.1 S.2.1 dX8_cellBeside_89 rfl (lv_at hl 3 rfl) ?_
      refine lv_aload_n S.1 S.2.1 dX8_cellBeside_90 rfl (lv_at hl 2 rfl) ?_
      obtain ⟨v17, e18, f⟩ := ob f
      refine o_gI S lf8_cellBeside_32 I e18 dX8_cellBeside_91 ?_
      refine lv_iadd S.1 S.2.1 dX8_cellBeside_94 ?_
      refine lv_goto (tgt := 99) S.1 S.2.1 dX8_cellBeside_95 (by decide) ?_
      exact o_iret S hr hlo I f dX8_cellBeside_99
  have f := (if_neg q13).symm.trans f
  rcases Decidable.em (x2 = 3) with q19 | q19
  · have f := (if_pos q19).symm.trans f
    refine lv_tableIn (off := 86) (tgt := 100) S.1 S.2.1 dX8_cellBeside_14 (by rw [q19]; decide) (by rw [q19]; decide) (by rw [q19]; rfl) (by decide) ?_
    refine lv_iload_n S.1 S.2.1 dX8_cellBeside_100 rfl (lv_at hl 1 rfl) ?_
    refine lv_if_le (tgt := 110) S.1 S.2.1 dX8_cellBeside_101 (by decide) (fun q20 => ?_) (fun q20 => ?_)
    · have f := (if_pos q20).symm.trans f
      refine lv_iconst (v := (-1)) S.1 S.2.1 dX8_cellBeside_110 (by decide) ?_
      exact o_iret S hr hlo I f dX8_cellBeside_111
    · have f := (if_neg q20).symm.trans f
      refine lv_iload_n S.1 S.2.1 dX8_cellBeside_104 rfl (lv_at hl 3 rfl) ?_
      refine lv_iconst (v := 1) S.1 S.2.1 dX8_cellBeside_105 (by decide) ?_
      refine lv_isub S.1 S.2.1 dX8_cellBeside_106 ?_
      refine lv_goto (tgt := 111) S.1 S.2.1 dX8_cellBeside_107 (by decide) ?_
      exact o_iret S hr hlo I f dX8_cellBeside_111
  have f := (if_neg q19).symm.trans f
  refine lv_tableOut (tgt := 112) S.1 S.2.1 dX8_cellBeside_14 (by have := lv_neT q5 (a := 0) (by decide); have := lv_neT q9 (a := 1) (by decide); have := lv_neT q13 (a := 2) (by decide); have := lv_neT q19 (a := 3) (by decide); omega) (by decide) ?_
  refine lv_iload_n S.1 S.2.1 dX8_cellBeside_112 rfl (lv_at hl 3 rfl) ?_
  exact o_iret S hr hlo I f dX8_cellBeside_113
theorem M8_cellBeside (l : Launch) (D : va_G) (cy : Nat → ClassId) (b : Nat) (A : Nat → Prop) (fl : Bool) {h : PH} {a0 : Nat} {x1 : Int32} {x2 : Int32} {out : Int32 × PH} (f : F8_cellBeside h a0 x1 x2 = some out) : Met l yX8_cellBeside vX8_cellBeside ({ frames := 1, cells := 0, slots := 0, locals := 21 } : Room) (va_Pc [.ref (b + a0), .int x1, .int x2] (ph_B D cy b A fl h)) (va_Qi (fun (r : Int32) (u : PH) => (r, u) = out) (ph_B D cy b A fl) A) 0 0 A :=
  o_met (by decide) rfl (Nat.le_of_ble_eq_true rfl) rfl (fun p e s m below meth c S hr hlo hnm ls hl I => T8_cellBeside_0 S hr hlo ((gd f).2) I (lv_sub hl [0, 1, 2] rfl))
def vX0_weighWays : List Cond := .code yX0_weighWays cX0_weighWays 10 none :: TB
theorem lf0_weighWays_43 : Fl vX0_weighWays RX0 43 6 0 := ⟨RX6, TX6, 9, rfl, by decide, (fun w h9 => List.mem_cons_of_mem _ (wC_wsX60 w h9)), (List.mem_cons_of_mem _ wT_51_2)⟩
theorem lf0_weighWays_49 : Fl vX0_weighWays RX0 49 8 5 := ⟨RX8, TX8, 14, rfl, by decide, (fun w h9 => List.mem_cons_of_mem _ (wC_wsX80 w h9)), (List.mem_cons_of_mem _ wT_51_3)⟩
theorem lf0_weighWays_71 : Fl vX0_weighWays RX0 71 10 1 := ⟨RX10, TX10, 8, rfl, by decide, (fun w h9 => List.mem_cons_of_mem _ (wC_wsX100 w h9)), (List.mem_cons_of_mem _ wT_51_5)⟩
theorem lf0_weighWays_15 : Fl vX0_weighWays RX0 15 0 1 := ⟨RX0, TX0, 13, rfl, by decide, (fun w h9 => List.mem_cons_of_mem _ (wC_wsX00 w h9)), (List.mem_cons_of_mem _ wT_9_8)⟩
theorem gX0_weighWays_X6_farOf : GoodIn vX0_weighWays (wsV RX0 91 RX6 yX6_farOf vX6_farOf) := gV_of wT_51_13 wT_39_10 wT_39_11 wT_2_2 wT_39_12
theorem lf0_weighWays_18 : Fl vX0_weighWays RX0 18 0 2 := ⟨RX0, TX0, 13, rfl, by decide, (fun w h9 => List.mem_cons_of_mem _ (wC_wsX00 w h9)), (List.mem_cons_of_mem _ wT_9_9)⟩
theorem gX0_weighWays_X6_worthAt : GoodIn vX0_weighWays (wsV RX0 94 RX6 yX6_worthAt vX6_worthAt) := gV_of wT_51_14 wT_49_18 wT_49_19 wT_2_2 wT_49_20
theorem lf0_weighWays_81 : Fl vX0_weighWays RX0 81 4 5 := ⟨RX4, TX4, 11, rfl, by decide, (fun w h9 => List.mem_cons_of_mem _ (wC_wsX40 w h9)), (List.mem_cons_of_mem _ wT_51_11)⟩
theorem gX0_weighWays_X8_cellBeside : GoodIn vX0_weighWays (wsV RX0 87 RX8 yX8_cellBeside vX8_cellBeside) := gV_of wT_51_12 wT_41_13 wT_41_14 wT_1_17 wT_41_15
theorem lf0_weighWays_9 : Fl vX0_weighWays RX0 9 0 0 := ⟨RX0, TX0, 13, rfl, by decide, (fun w h9 => List.mem_cons_of_mem _ (wC_wsX00 w h9)), (List.mem_cons_of_mem _ wT_9_7)⟩
theorem cd0_weighWays : Cd yX0_weighWays 5 := ⟨by decide, by decide, by decide +kernel⟩
set_option maxHeartbeats 4000000 in
set_option maxRecDepth 100000 in
theorem T0_weighWays_46 (S : CallFix p m c cX0_weighWays 10 s args vX0_weighWays RX0) (hr : meth.sig.returnType = none) (hlo : meth.locks = false) {out : PH} {k3 : PH → Nat → Nat → Nat → Int32 → Int32 → Int32 → Int32 → Option (PH)} (hk3 : ∀ {h : PH} {a0 : Nat} {a1 : Nat} {a2 : Nat} {x3 : Int32} {x4 : Int32} {x5 : Int32} {x6 : Int32}, k3 h a0 a1 a2 x3 x4 x5 x6 = some out → ∀ (H : Heap) (locs : List Loc), ph_I D cy b A fl h s H locs → ∀ (ls : Array Slot), lv_has ls 10 [(0, .ref (b + a0)), (1, .ref (b + a1)), (2, .ref (b + a2)), (3, .int x3), (4, .int x4), (5, .int x5), (6, .int x6)] → W p l e ({ frames := 5, cells := 0, slots := 0, locals := 126 } : Room) s m args below meth c H locs 0 0 (MQ below (va_Qv (fun (u : PH) => u = out) (ph_B D cy b A fl) A) args s 0 0 A) (F0 m 3 ls [])) : ∀ (n : Nat) {h : PH} {a0 : Nat} {a1 : Nat} {a2 : Nat} {x3 : Int32} {x4 : Int32} {x5 : Int32} {x6 : Int32} {x7 : Int32} {x8 : Int32} (f : F0_weighWays_46 k3 n h a0 a1 a2 x3 x4 x5 x6 x7 x8 = some out) {H : Heap} {locs : List Loc} (I : ph_I D cy b A fl h s H locs) {ls : Array Slot} (hl : lv_has ls 10 [(0, .ref (b + a0)), (1, .ref (b + a1)), (2, .ref (b + a2)), (3, .int x3), (4, .int x4), (5, .int x5), (6, .int x6), (7, .int x7), (8, .int x8)]), W p l e ({ frames := 5, cells := 0, slots := 0, locals := 126 } : Room) s m args below meth c H locs 0 0 (MQ below (va_Qv (fun (u : PH) => u = out) (ph_B D cy b A fl) A) args s 0 0 A) (F0 m 46 ls []) := by
  intro n
  induction n with
  | zero => intro h a0 a1 a2 x3 x4 x5 x6 x7 x8 f; rw [F0_weighWays_46] at f; cases f
  | succ n ih =>
    intro h a0 a1 a2 x3 x4 x5 x6 x7 x8 f H locs I ls hl
    rw [F0_weighWays_46] at f
    refine lv_iload S.1 S.2.1 dX0_weighWays_46 (lv_at hl 7 rfl) ?_
    refine lv_iconst (v := (-1)) S.1 S.2.1 dX0_weighWays_48 (by decide) ?_
    refine lv_icmp_eq (tgt := 117) S.1 S.2.1 dX0_weighWays_49 (by decide) (fun q1 => ?_) (fun q1 => ?_)
    · have f := (if_pos q1).symm.trans f
      refine lv_iinc (v := (x6 + 1)) (lv' := [(6, .int (x6 + 1)), (0, .ref (b + a0)), (1, .ref (b + a1)), (2, .ref (b + a2)), (3, .int x3), (4, .int x4), (5, .int x5), (7, .int x7), (8, .int x8)]) S.1 S.2.1 dX0_weighWays_117 hl (k := 6) rfl (congrArg (fun z => x6 + z) (by decide)) (by decide) rfl (fun ls hl => ?_)
      refine lv_goto (tgt := 3) S.1 S.2.1 dX0_weighWays_120 (by decide) ?_
      exact hk3 f _ _ I _ (lv_sub hl [1, 2, 3, 4, 5, 6, 0] rfl)
    · have f := (if_neg q1).symm.trans f
      refine lv_iload S.1 S.2.1 dX0_weighWays_52 (lv_at hl 8 rfl) ?_
      refine lv_aload_n S.1 S.2.1 dX0_weighWays_54 rfl (lv_at hl 1 rfl) ?_
      obtain ⟨r2, e3, f⟩ := ob f
      refine o_gR S lf0_weighWays_43 I e3 dX0_weighWays_55 ?_
      obtain ⟨r4, e5, f⟩ := ob f
      refine o_gR S lf0_weighWays_49 I e5 dX0_weighWays_58 ?_
      obtain ⟨v6, e7, f⟩ := ob f
      refine o_gI S lf0_weighWays_71 I e7 dX0_weighWays_61 ?_
      refine lv_icmp_ge (tgt := 117) S.1 S.2.1 dX0_weighWays_64 (by decide) (fun q8 => ?_) (fun q8 => ?_)
      · have f := (if_pos q8).symm.trans f
        refine lv_iinc (v := (x6 + 1)) (lv' := [(6, .int (x6 + 1)), (0, .ref (b + a0)), (1, .ref (b + a1)), (2, .ref (b + a2)), (3, .int x3), (4, .int x4), (5, .int x5), (7, .int x7), (8, .int x8)]) S.1 S.2.1 dX0_weighWays_117 hl (k := 6) rfl (congrArg (fun z => x6 + z) (by decide)) (by decide) rfl (fun ls hl => ?_)
        refine lv_goto (tgt := 3) S.1 S.2.1 dX0_weighWays_120 (by decide) ?_
        exact hk3 f _ _ I _ (lv_sub hl [1, 2, 3, 4, 5, 6, 0] rfl)
      · have f := (if_neg q8).symm.trans f
        refine lv_iload S.1 S.2.1 dX0_weighWays_67 (lv_at hl 4 rfl) ?_
        refine lv_iload S.1 S.2.1 dX0_weighWays_69 (lv_at hl 6 rfl) ?_
        refine lv_iadd S.1 S.2.1 dX0_weighWays_71 ?_
        refine lv_bipush (v := 28) S.1 S.2.1 dX0_weighWays_72 (by decide) ?_
        refine lv_imul S.1 S.2.1 dX0_weighWays_74 ?_
        refine lv_iload S.1 S.2.1 dX0_weighWays_75 (lv_at hl 8 rfl) ?_
        refine lv_iadd S.1 S.2.1 dX0_weighWays_77 ?_
        refine lv_istore (lv' := [(9, .int (((x4 + x6) * 28) + x8)), (0, .ref (b + a0)), (1, .ref (b + a1)), (2, .ref (b + a2)), (3, .int x3), (4, .int x4), (5, .int x5), (6, .int x6), (7, .int x7), (8, .int x8)]) S.1 S.2.1 dX0_weighWays_78 hl (by decide) rfl (fun ls hl => ?_)
        refine lv_aload_n S.1 S.2.1 dX0_weighWays_80 rfl (lv_at hl 1 rfl) ?_
        obtain ⟨r9, e10, f⟩ := ob f
        refine o_gR S lf0_weighWays_15 I e10 dX0_weighWays_81 ?_
        refine lv_iload S.1 S.2.1 dX0_weighWays_84 (lv_at hl 0 rfl) ?_
        refine lv_aload_n S.1 S.2.1 dX0_weighWays_86 rfl (lv_at hl 2 rfl) ?_
        refine lv_iload S.1 S.2.1 dX0_weighWays_87 (lv_at hl 8 rfl) ?_
        refine lv_iload S.1 S.2.1 dX0_weighWays_89 (lv_at hl 9 rfl) ?_
        obtain ⟨o11, e12, f⟩ := ob f
        refine o_Vi S (As := [.int x7, .int x8]) (rest := [.int (((x4 + x6) * 28) + x8), .ref (b + r9)]) (ci := 6) (M6_farOf l D cy b A fl e12) gX0_weighWays_X6_farOf rfl rfl rfl cd6_farOf ⟨Nat.le_of_ble_eq_true rfl, Nat.le_of_ble_eq_true rfl⟩ I (gd e12).1 clX6 rfl rfl hl.1 rfl (Nat.le_of_ble_eq_true rfl) dX0_weighWays_91 ⟨Nat.le_of_ble_eq_true rfl, Nat.le_of_ble_eq_true rfl⟩ (fun H locs I => ?_)
        obtain ⟨h14, e13, f⟩ := ob f
        refine o_iast S I e13 dX0_weighWays_94 (fun H locs I => ?_)
        refine lv_aload_n S.1 S.2.1 dX0_weighWays_95 rfl (lv_at hl 1 rfl) ?_
        obtain ⟨r15, e16, f⟩ := ob f
        refine o_gR S lf0_weighWays_18 I e16 dX0_weighWays_96 ?_
        refine lv_iload S.1 S.2.1 dX0_weighWays_99 (lv_at hl 0 rfl) ?_
        refine lv_aload_n S.1 S.2.1 dX0_weighWays_101 rfl (lv_at hl 2 rfl) ?_
        refine lv_iload_n S.1 S.2.1 dX0_weighWays_102 rfl (lv_at hl 4 rfl) ?_
        refine lv_iload S.1 S.2.1 dX0_weighWays_103 (lv_at hl 9 rfl) ?_
        refine lv_iload S.1 S.2.1 dX0_weighWays_105 (lv_at hl 8 rfl) ?_
        obtain ⟨o17, e18, f⟩ := ob f
        refine o_Vi S (As := [.int x3, .int x8, .int x7]) (rest := [.int (((x4 + x6) * 28) + x8), .ref (b + r15)]) (ci := 6) (M6_worthAt l D cy b A fl e18) gX0_weighWays_X6_worthAt rfl rfl rfl cd6_worthAt ⟨Nat.le_of_ble_eq_true rfl, Nat.le_of_ble_eq_true rfl⟩ I (gd e18).1 clX6 rfl rfl hl.1 rfl (Nat.le_of_ble_eq_true rfl) dX0_weighWays_107 ⟨Nat.le_of_ble_eq_true rfl, Nat.le_of_ble_eq_true rfl⟩ (fun H locs I => ?_)
        obtain ⟨h20, e19, f⟩ := ob f
        refine o_iast S I e19 dX0_weighWays_110 (fun H locs I => ?_)
        refine lv_iinc (v := (x8 + 1)) (lv' := [(8, .int (x8 + 1)), (9, .int (((x4 + x6) * 28) + x8)), (0, .ref (b + a0)), (1, .ref (b + a1)), (2, .ref (b + a2)), (3, .int x3), (4, .int x4), (5, .int x5), (6, .int x6), (7, .int x7)]) S.1 S.2.1 dX0_weighWays_111 hl (k := 9) rfl (congrArg (fun z => x8 + z) (by decide)) (by decide) rfl (fun ls hl => ?_)
        refine lv_goto (tgt := 46) S.1 S.2.1 dX0_weighWays_114 (by decide) ?_
        exact ih f I (lv_sub hl [2, 3, 4, 5, 6, 7, 8, 9, 0] rfl)
set_option maxHeartbeats 4000000 in
set_option maxRecDepth 100000 in
theorem T0_weighWays_3 (S : CallFix p m c cX0_weighWays 10 s args vX0_weighWays RX0) (hr : meth.sig.returnType = none) (hlo : meth.locks = false) {out : PH} : ∀ (n : Nat) {h : PH} {a0 : Nat} {a1 : Nat} {a2 : Nat} {x3 : Int32} {x4 : Int32} {x5 : Int32} {x6 : Int32} (f : F0_weighWays_3  n h a0 a1 a2 x3 x4 x5 x6 = some out) {H : Heap} {locs : List Loc} (I : ph_I D cy b A fl h s H locs) {ls : Array Slot} (hl : lv_has ls 10 [(0, .ref (b + a0)), (1, .ref (b + a1)), (2, .ref (b + a2)), (3, .int x3), (4, .int x4), (5, .int x5), (6, .int x6)]), W p l e ({ frames := 5, cells := 0, slots := 0, locals := 126 } : Room) s m args below meth c H locs 0 0 (MQ below (va_Qv (fun (u : PH) => u = out) (ph_B D cy b A fl) A) args s 0 0 A) (F0 m 3 ls []) := by
  intro n
  induction n with
  | zero => intro h a0 a1 a2 x3 x4 x5 x6 f; rw [F0_weighWays_3] at f; cases f
  | succ n ih =>
    intro h a0 a1 a2 x3 x4 x5 x6 f H locs I ls hl
    rw [F0_weighWays_3] at f
    refine lv_iload S.1 S.2.1 dX0_weighWays_3 (lv_at hl 6 rfl) ?_
    refine lv_iconst (v := 5) S.1 S.2.1 dX0_weighWays_5 (by decide) ?_
    refine lv_icmp_ge (tgt := 123) S.1 S.2.1 dX0_weighWays_6 (by decide) (fun q1 => ?_) (fun q1 => ?_)
    · have f := (if_pos q1).symm.trans f
      exact o_vret S hr hlo I f dX0_weighWays_123
    · have f := (if_neg q1).symm.trans f
      refine lv_aload_n S.1 S.2.1 dX0_weighWays_9 rfl (lv_at hl 1 rfl) ?_
      obtain ⟨r2, e3, f⟩ := ob f
      refine o_gR S lf0_weighWays_43 I e3 dX0_weighWays_10 ?_
      refine lv_aload_n S.1 S.2.1 dX0_weighWays_13 rfl (lv_at hl 2 rfl) ?_
      obtain ⟨r4, e5, f⟩ := ob f
      refine o_gR S lf0_weighWays_81 I e5 dX0_weighWays_14 ?_
      refine lv_iload_n S.1 S.2.1 dX0_weighWays_17 rfl (lv_at hl 3 rfl) ?_
      obtain ⟨v7, e6, f⟩ := ob f
      refine o_iald S I e6 dX0_weighWays_18 ?_
      refine o_gws S I dX0_weighWays_19 (fun g8 z9 => ?_)
      refine lv_iload S.1 S.2.1 dX0_weighWays_22 (lv_at hl 6 rfl) ?_
      obtain ⟨v11, e10, f⟩ := ob f
      refine o_gwald S I z9 e10 dX0_weighWays_24 ?_
      obtain ⟨o12, e13, f⟩ := ob f
      refine o_Vi S (As := [.int v7, .int v11]) (rest := []) (ci := 8) (M8_cellBeside l D cy b A fl e13) gX0_weighWays_X8_cellBeside rfl rfl rfl cd8_cellBeside ⟨Nat.le_of_ble_eq_true rfl, Nat.le_of_ble_eq_true rfl⟩ I (gd e13).1 clX8 rfl rfl hl.1 rfl (Nat.le_of_ble_eq_true rfl) dX0_weighWays_25 ⟨Nat.le_of_ble_eq_true rfl, Nat.le_of_ble_eq_true rfl⟩ (fun H locs I => ?_)
      refine lv_istore (lv' := [(7, .int o12.1), (0, .ref (b + a0)), (1, .ref (b + a1)), (2, .ref (b + a2)), (3, .int x3), (4, .int x4), (5, .int x5), (6, .int x6)]) S.1 S.2.1 dX0_weighWays_28 hl (by decide) rfl (fun ls hl => ?_)
      refine lv_aload_n S.1 S.2.1 dX0_weighWays_30 rfl (lv_at hl 1 rfl) ?_
      obtain ⟨r14, e15, f⟩ := ob f
      refine o_gR S lf0_weighWays_9 I e15 dX0_weighWays_31 ?_
      refine lv_iload S.1 S.2.1 dX0_weighWays_34 (lv_at hl 5 rfl) ?_
      refine lv_iload S.1 S.2.1 dX0_weighWays_36 (lv_at hl 7 rfl) ?_
      refine lv_iadd S.1 S.2.1 dX0_weighWays_38 ?_
      refine lv_iload S.1 S.2.1 dX0_weighWays_39 (lv_at hl 0 rfl) ?_
      obtain ⟨h17, e16, f⟩ := ob f
      refine o_iast S I e16 dX0_weighWays_41 (fun H locs I => ?_)
      refine lv_iload S.1 S.2.1 dX0_weighWays_42 (lv_at hl 6 rfl) ?_
      refine lv_istore (lv' := [(8, .int x5), (7, .int o12.1), (0, .ref (b + a0)), (1, .ref (b + a1)), (2, .ref (b + a2)), (3, .int x3), (4, .int x4), (5, .int x5), (6, .int x6)]) S.1 S.2.1 dX0_weighWays_44 hl (by decide) rfl (fun ls hl => ?_)
      exact T0_weighWays_46 S hr hlo (fun f _ _ I _ hl => ih f I hl) 1024 f I (lv_sub hl [2, 3, 4, 5, 6, 7, 8, 1, 0] rfl)
set_option maxHeartbeats 4000000 in
set_option maxRecDepth 100000 in
theorem T0_weighWays_0 (S : CallFix p m c cX0_weighWays 10 s args vX0_weighWays RX0) (hr : meth.sig.returnType = none) (hlo : meth.locks = false) {out : PH} {h : PH} {a0 : Nat} {a1 : Nat} {a2 : Nat} {x3 : Int32} {x4 : Int32} {x5 : Int32} (f : F0_weighWays_0  h a0 a1 a2 x3 x4 x5 = some out) {H : Heap} {locs : List Loc} (I : ph_I D cy b A fl h s H locs) {ls : Array Slot} (hl : lv_has ls 10 [(0, .ref (b + a0)), (1, .ref (b + a1)), (2, .ref (b + a2)), (3, .int x3), (4, .int x4), (5, .int x5)]) : W p l e ({ frames := 5, cells := 0, slots := 0, locals := 126 } : Room) s m args below meth c H locs 0 0 (MQ below (va_Qv (fun (u : PH) => u = out) (ph_B D cy b A fl) A) args s 0 0 A) (F0 m 0 ls []) := by
  unfold F0_weighWays_0 at f
  refine lv_iconst (v := 0) S.1 S.2.1 dX0_weighWays_0 (by decide) ?_
  refine lv_istore (lv' := [(6, .int 0), (0, .ref (b + a0)), (1, .ref (b + a1)), (2, .ref (b + a2)), (3, .int x3), (4, .int x4), (5, .int x5)]) S.1 S.2.1 dX0_weighWays_1 hl (by decide) rfl (fun ls hl => ?_)
  exact T0_weighWays_3 S hr hlo  1024 f I (lv_sub hl [1, 2, 3, 4, 5, 6, 0] rfl)
theorem M0_weighWays (l : Launch) (D : va_G) (cy : Nat → ClassId) (b : Nat) (A : Nat → Prop) (fl : Bool) {h : PH} {a0 : Nat} {a1 : Nat} {a2 : Nat} {x3 : Int32} {x4 : Int32} {x5 : Int32} {out : PH} (f : F0_weighWays h a0 a1 a2 x3 x4 x5 = some out) : Met l yX0_weighWays vX0_weighWays ({ frames := 5, cells := 0, slots := 0, locals := 126 } : Room) (va_Pc [.ref (b + a0), .ref (b + a1), .ref (b + a2), .int x3, .int x4, .int x5] (ph_B D cy b A fl h)) (va_Qv (fun (u : PH) => u = out) (ph_B D cy b A fl) A) 0 0 A :=
  o_met (by decide) rfl (Nat.le_of_ble_eq_true rfl) rfl (fun p e s m below meth c S hr hlo hnm ls hl I => T0_weighWays_0 S hr hlo ((gd f).2) I (lv_sub hl [0, 1, 2, 3, 4, 5] rfl))
def vX0_sharePair : List Cond := .code yX0_sharePair cX0_sharePair 11 none :: TB
theorem lf0_sharePair_18 : Fl vX0_sharePair RX0 18 0 2 := ⟨RX0, TX0, 13, rfl, by decide, (fun w h9 => List.mem_cons_of_mem _ (wC_wsX00 w h9)), (List.mem_cons_of_mem _ wT_9_9)⟩
theorem lf0_sharePair_21 : Fl vX0_sharePair RX0 21 0 3 := ⟨RX0, TX0, 13, rfl, by decide, (fun w h9 => List.mem_cons_of_mem _ (wC_wsX00 w h9)), (List.mem_cons_of_mem _ wT_9_10)⟩
theorem lf0_sharePair_24 : Fl vX0_sharePair RX0 24 0 4 := ⟨RX0, TX0, 13, rfl, by decide, (fun w h9 => List.mem_cons_of_mem _ (wC_wsX00 w h9)), (List.mem_cons_of_mem _ wT_9_11)⟩
theorem lf0_sharePair_15 : Fl vX0_sharePair RX0 15 0 1 := ⟨RX0, TX0, 13, rfl, by decide, (fun w h9 => List.mem_cons_of_mem _ (wC_wsX00 w h9)), (List.mem_cons_of_mem _ wT_9_8)⟩
theorem cd0_sharePair : Cd yX0_sharePair 5 := ⟨by decide, by decide, by decide +kernel⟩
set_option maxHeartbeats 4000000 in
set_option maxRecDepth 100000 in
theorem T0_sharePair_75 (S : CallFix p m c cX0_sharePair 11 s args vX0_sharePair RX0) (hr : meth.sig.returnType = none) (hlo : meth.locks = false) {out : PH} {k9 : PH → Nat → Int32 → Int32 → Int32 → Int32 → Int32 → Int32 → Int32 → Option (PH)} (hk9 : ∀ {h : PH} {a0 : Nat} {x1 : Int32} {x2 : Int32} {x4 : Int32} {x5 : Int32} {x6 : Int32} {x7 : Int32} {x8 : Int32}, k9 h a0 x1 x2 x4 x5 x6 x7 x8 = some out → ∀ (H : Heap) (locs : List Loc), ph_I D cy b A fl h s H locs → ∀ (ls : Array Slot), lv_has ls 11 [(0, .ref (b + a0)), (1, .int x1), (2, .int x2), (4, .int x4), (5, .int x5), (6, .int x6), (7, .int x7), (8, .int x8)] → W p l e ({ frames := 0, cells := 0, slots := 0, locals := 0 } : Room) s m args below meth c H locs 0 0 (MQ below (va_Qv (fun (u : PH) => u = out) (ph_B D cy b A fl) A) args s 0 0 A) (F0 m 9 ls [])) {h : PH} {a0 : Nat} {x1 : Int32} {x2 : Int32} {x4 : Int32} {x5 : Int32} {x6 : Int32} {x7 : Int32} {x8 : Int32} {x9 : Int32} (f : F0_sharePair_75 k9 h a0 x1 x2 x4 x5 x6 x7 x8 x9 = some out) {H : Heap} {locs : List Loc} (I : ph_I D cy b A fl h s H locs) {ls : Array Slot} (hl : lv_has ls 11 [(0, .ref (b + a0)), (1, .int x1), (2, .int x2), (4, .int x4), (5, .int x5), (6, .int x6), (7, .int x7), (8, .int x8), (9, .int x9)]) : W p l e ({ frames := 0, cells := 0, slots := 0, locals := 0 } : Room) s m args below meth c H locs 0 0 (MQ below (va_Qv (fun (u : PH) => u = out) (ph_B D cy b A fl) A) args s 0 0 A) (F0 m 75 ls []) := by
  unfold F0_sharePair_75 at f
  refine lv_iload S.1 S.2.1 dX0_sharePair_75 (lv_at hl 5 rfl) ?_
  refine lv_aload_n S.1 S.2.1 dX0_sharePair_77 rfl (lv_at hl 0 rfl) ?_
  obtain ⟨r1, e2, f⟩ := ob f
  refine o_gR S lf0_sharePair_18 I e2 dX0_sharePair_78 ?_
  refine lv_iload S.1 S.2.1 dX0_sharePair_81 (lv_at hl 8 rfl) ?_
  obtain ⟨v4, e3, f⟩ := ob f
  refine o_iald S I e3 dX0_sharePair_83 ?_
  refine lv_iadd S.1 S.2.1 dX0_sharePair_84 ?_
  refine lv_istore (lv' := [(6, .int (x6 + v4)), (0, .ref (b + a0)), (1, .int x1), (2, .int x2), (4, .int x4), (5, .int x5), (7, .int x7), (8, .int x8), (9, .int x9)]) S.1 S.2.1 dX0_sharePair_85 hl (by decide) rfl (fun ls hl => ?_)
  refine lv_goto (tgt := 102) S.1 S.2.1 dX0_sharePair_87 (by decide) ?_
  refine lv_iinc (v := (x8 + 1)) (lv' := [(8, .int (x8 + 1)), (6, .int (x6 + v4)), (0, .ref (b + a0)), (1, .int x1), (2, .int x2), (4, .int x4), (5, .int x5), (7, .int x7), (9, .int x9)]) S.1 S.2.1 dX0_sharePair_102 hl (k := 7) rfl (congrArg (fun z => x8 + z) (by decide)) (by decide) rfl (fun ls hl => ?_)
  refine lv_goto (tgt := 9) S.1 S.2.1 dX0_sharePair_105 (by decide) ?_
  exact hk9 f _ _ I _ (lv_sub hl [2, 3, 4, 5, 6, 1, 7, 0] rfl)
set_option maxHeartbeats 4000000 in
set_option maxRecDepth 100000 in
theorem T0_sharePair_90 (S : CallFix p m c cX0_sharePair 11 s args vX0_sharePair RX0) (hr : meth.sig.returnType = none) (hlo : meth.locks = false) {out : PH} {k9 : PH → Nat → Int32 → Int32 → Int32 → Int32 → Int32 → Int32 → Int32 → Option (PH)} (hk9 : ∀ {h : PH} {a0 : Nat} {x1 : Int32} {x2 : Int32} {x4 : Int32} {x5 : Int32} {x6 : Int32} {x7 : Int32} {x8 : Int32}, k9 h a0 x1 x2 x4 x5 x6 x7 x8 = some out → ∀ (H : Heap) (locs : List Loc), ph_I D cy b A fl h s H locs → ∀ (ls : Array Slot), lv_has ls 11 [(0, .ref (b + a0)), (1, .int x1), (2, .int x2), (4, .int x4), (5, .int x5), (6, .int x6), (7, .int x7), (8, .int x8)] → W p l e ({ frames := 0, cells := 0, slots := 0, locals := 0 } : Room) s m args below meth c H locs 0 0 (MQ below (va_Qv (fun (u : PH) => u = out) (ph_B D cy b A fl) A) args s 0 0 A) (F0 m 9 ls [])) {h : PH} {a0 : Nat} {x1 : Int32} {x2 : Int32} {x4 : Int32} {x5 : Int32} {x6 : Int32} {x7 : Int32} {x8 : Int32} {x10 : Int32} (f : F0_sharePair_90 k9 h a0 x1 x2 x4 x5 x6 x7 x8 x10 = some out) {H : Heap} {locs : List Loc} (I : ph_I D cy b A fl h s H locs) {ls : Array Slot} (hl : lv_has ls 11 [(0, .ref (b + a0)), (1, .int x1), (2, .int x2), (4, .int x4), (5, .int x5), (6, .int x6), (7, .int x7), (8, .int x8), (10, .int x10)]) : W p l e ({ frames := 0, cells := 0, slots := 0, locals := 0 } : Room) s m args below meth c H locs 0 0 (MQ below (va_Qv (fun (u : PH) => u = out) (ph_B D cy b A fl) A) args s 0 0 A) (F0 m 90 ls []) := by
  unfold F0_sharePair_90 at f
  refine lv_iload S.1 S.2.1 dX0_sharePair_90 (lv_at hl 6 rfl) ?_
  refine lv_aload_n S.1 S.2.1 dX0_sharePair_92 rfl (lv_at hl 0 rfl) ?_
  obtain ⟨r1, e2, f⟩ := ob f
  refine o_gR S lf0_sharePair_18 I e2 dX0_sharePair_93 ?_
  refine lv_iload S.1 S.2.1 dX0_sharePair_96 (lv_at hl 8 rfl) ?_
  obtain ⟨v4, e3, f⟩ := ob f
  refine o_iald S I e3 dX0_sharePair_98 ?_
  refine lv_iadd S.1 S.2.1 dX0_sharePair_99 ?_
  refine lv_istore (lv' := [(7, .int (x7 + v4)), (0, .ref (b + a0)), (1, .int x1), (2, .int x2), (4, .int x4), (5, .int x5), (6, .int x6), (8, .int x8), (10, .int x10)]) S.1 S.2.1 dX0_sharePair_100 hl (by decide) rfl (fun ls hl => ?_)
  refine lv_iinc (v := (x8 + 1)) (lv' := [(8, .int (x8 + 1)), (7, .int (x7 + v4)), (0, .ref (b + a0)), (1, .int x1), (2, .int x2), (4, .int x4), (5, .int x5), (6, .int x6), (10, .int x10)]) S.1 S.2.1 dX0_sharePair_102 hl (k := 7) rfl (congrArg (fun z => x8 + z) (by decide)) (by decide) rfl (fun ls hl => ?_)
  refine lv_goto (tgt := 9) S.1 S.2.1 dX0_sharePair_105 (by decide) ?_
  exact hk9 f _ _ I _ (lv_sub hl [2, 3, 4, 5, 6, 7, 1, 0] rfl)
set_option maxHeartbeats 4000000 in
set_option maxRecDepth 100000 in
theorem T0_sharePair_9 (S : CallFix p m c cX0_sharePair 11 s args vX0_sharePair RX0) (hr : meth.sig.returnType = none) (hlo : meth.locks = false) {out : PH} : ∀ (n : Nat) {h : PH} {a0 : Nat} {x1 : Int32} {x2 : Int32} {x4 : Int32} {x5 : Int32} {x6 : Int32} {x7 : Int32} {x8 : Int32} (f : F0_sharePair_9  n h a0 x1 x2 x4 x5 x6 x7 x8 = some out) {H : Heap} {locs : List Loc} (I : ph_I D cy b A fl h s H locs) {ls : Array Slot} (hl : lv_has ls 11 [(0, .ref (b + a0)), (1, .int x1), (2, .int x2), (4, .int x4), (5, .int x5), (6, .int x6), (7, .int x7), (8, .int x8)]), W p l e ({ frames := 0, cells := 0, slots := 0, locals := 0 } : Room) s m args below meth c H locs 0 0 (MQ below (va_Qv (fun (u : PH) => u = out) (ph_B D cy b A fl) A) args s 0 0 A) (F0 m 9 ls []) := by
  intro n
  induction n with
  | zero => intro h a0 x1 x2 x4 x5 x6 x7 x8 f; rw [F0_sharePair_9] at f; cases f
  | succ n ih =>
    intro h a0 x1 x2 x4 x5 x6 x7 x8 f H locs I ls hl
    rw [F0_sharePair_9] at f
    refine lv_iload S.1 S.2.1 dX0_sharePair_9 (lv_at hl 7 rfl) ?_
    refine lv_iload S.1 S.2.1 dX0_sharePair_11 (lv_at hl 3 rfl) ?_
    refine lv_icmp_ge (tgt := 108) S.1 S.2.1 dX0_sharePair_13 (by decide) (fun q1 => ?_) (fun q1 => ?_)
    · have f := (if_pos q1).symm.trans f
      refine lv_aload_n S.1 S.2.1 dX0_sharePair_108 rfl (lv_at hl 0 rfl) ?_
      obtain ⟨r2, e3, f⟩ := ob f
      refine o_gR S lf0_sharePair_21 I e3 dX0_sharePair_109 ?_
      refine lv_iload_n S.1 S.2.1 dX0_sharePair_112 rfl (lv_at hl 1 rfl) ?_
      refine lv_iconst (v := 5) S.1 S.2.1 dX0_sharePair_113 (by decide) ?_
      refine lv_imul S.1 S.2.1 dX0_sharePair_114 ?_
      refine lv_iload_n S.1 S.2.1 dX0_sharePair_115 rfl (lv_at hl 2 rfl) ?_
      refine lv_iadd S.1 S.2.1 dX0_sharePair_116 ?_
      refine lv_iload S.1 S.2.1 dX0_sharePair_117 (lv_at hl 5 rfl) ?_
      obtain ⟨h5, e4, f⟩ := ob f
      refine o_iast S I e4 dX0_sharePair_119 (fun H locs I => ?_)
      refine lv_aload_n S.1 S.2.1 dX0_sharePair_120 rfl (lv_at hl 0 rfl) ?_
      obtain ⟨r6, e7, f⟩ := ob f
      refine o_gR S lf0_sharePair_24 I e7 dX0_sharePair_121 ?_
      refine lv_iload_n S.1 S.2.1 dX0_sharePair_124 rfl (lv_at hl 1 rfl) ?_
      refine lv_iconst (v := 5) S.1 S.2.1 dX0_sharePair_125 (by decide) ?_
      refine lv_imul S.1 S.2.1 dX0_sharePair_126 ?_
      refine lv_iload_n S.1 S.2.1 dX0_sharePair_127 rfl (lv_at hl 2 rfl) ?_
      refine lv_iadd S.1 S.2.1 dX0_sharePair_128 ?_
      refine lv_iload S.1 S.2.1 dX0_sharePair_129 (lv_at hl 6 rfl) ?_
      obtain ⟨h9, e8, f⟩ := ob f
      refine o_iast S I e8 dX0_sharePair_131 (fun H locs I => ?_)
      exact o_vret S hr hlo I f dX0_sharePair_132
    · have f := (if_neg q1).symm.trans f
      refine lv_iload_n S.1 S.2.1 dX0_sharePair_16 rfl (lv_at hl 1 rfl) ?_
      refine lv_bipush (v := 28) S.1 S.2.1 dX0_sharePair_17 (by decide) ?_
      refine lv_imul S.1 S.2.1 dX0_sharePair_19 ?_
      refine lv_iload S.1 S.2.1 dX0_sharePair_20 (lv_at hl 7 rfl) ?_
      refine lv_iadd S.1 S.2.1 dX0_sharePair_22 ?_
      refine lv_istore (lv' := [(9, .int ((x1 * 28) + x8)), (0, .ref (b + a0)), (1, .int x1), (2, .int x2), (4, .int x4), (5, .int x5), (6, .int x6), (7, .int x7), (8, .int x8)]) S.1 S.2.1 dX0_sharePair_23 hl (by decide) rfl (fun ls hl => ?_)
      refine lv_iconst (v := 5) S.1 S.2.1 dX0_sharePair_25 (by decide) ?_
      refine lv_iload_n S.1 S.2.1 dX0_sharePair_26 rfl (lv_at hl 3 rfl) ?_
      refine lv_iadd S.1 S.2.1 dX0_sharePair_27 ?_
      refine lv_bipush (v := 28) S.1 S.2.1 dX0_sharePair_28 (by decide) ?_
      refine lv_imul S.1 S.2.1 dX0_sharePair_30 ?_
      refine lv_iload S.1 S.2.1 dX0_sharePair_31 (lv_at hl 8 rfl) ?_
      refine lv_iadd S.1 S.2.1 dX0_sharePair_33 ?_
      refine lv_istore (lv' := [(10, .int (((5 + x2) * 28) + x8)), (9, .int ((x1 * 28) + x8)), (0, .ref (b + a0)), (1, .int x1), (2, .int x2), (4, .int x4), (5, .int x5), (6, .int x6), (7, .int x7), (8, .int x8)]) S.1 S.2.1 dX0_sharePair_34 hl (by decide) rfl (fun ls hl => ?_)
      refine lv_aload_n S.1 S.2.1 dX0_sharePair_36 rfl (lv_at hl 2 rfl) ?_
      obtain ⟨r10, e11, f⟩ := ob f
      refine o_gR S lf0_sharePair_15 I e11 dX0_sharePair_37 ?_
      refine lv_iload S.1 S.2.1 dX0_sharePair_40 (lv_at hl 1 rfl) ?_
      obtain ⟨v13, e12, f⟩ := ob f
      refine o_iald S I e12 dX0_sharePair_42 ?_
      refine lv_aload_n S.1 S.2.1 dX0_sharePair_43 rfl (lv_at hl 2 rfl) ?_
      obtain ⟨r14, e15, f⟩ := ob f
      refine o_gR S lf0_sharePair_15 I e15 dX0_sharePair_44 ?_
      refine lv_iload S.1 S.2.1 dX0_sharePair_47 (lv_at hl 0 rfl) ?_
      obtain ⟨v17, e16, f⟩ := ob f
      refine o_iald S I e16 dX0_sharePair_49 ?_
      refine lv_icmp_lt (tgt := 75) S.1 S.2.1 dX0_sharePair_50 (by decide) (fun q18 => ?_) (fun q18 => ?_)
      · have f := (if_pos q18).symm.trans f
        exact T0_sharePair_75 S hr hlo (fun f _ _ I _ hl => ih f I hl) f I (lv_sub hl [2, 3, 4, 5, 6, 7, 8, 9, 1] rfl)
      · have f := (if_neg q18).symm.trans f
        refine lv_aload_n S.1 S.2.1 dX0_sharePair_53 rfl (lv_at hl 2 rfl) ?_
        obtain ⟨r19, e20, f⟩ := ob f
        refine o_gR S lf0_sharePair_15 I e20 dX0_sharePair_54 ?_
        refine lv_iload S.1 S.2.1 dX0_sharePair_57 (lv_at hl 1 rfl) ?_
        obtain ⟨v22, e21, f⟩ := ob f
        refine o_iald S I e21 dX0_sharePair_59 ?_
        refine lv_aload_n S.1 S.2.1 dX0_sharePair_60 rfl (lv_at hl 2 rfl) ?_
        obtain ⟨r23, e24, f⟩ := ob f
        refine o_gR S lf0_sharePair_15 I e24 dX0_sharePair_61 ?_
        refine lv_iload S.1 S.2.1 dX0_sharePair_64 (lv_at hl 0 rfl) ?_
        obtain ⟨v26, e25, f⟩ := ob f
        refine o_iald S I e25 dX0_sharePair_66 ?_
        refine lv_icmp_ne (tgt := 90) S.1 S.2.1 dX0_sharePair_67 (by decide) (fun q27 => ?_) (fun q27 => ?_)
        · have f := (if_neg q27).symm.trans f
          exact T0_sharePair_90 S hr hlo (fun f _ _ I _ hl => ih f I hl) f I (lv_sub hl [2, 3, 4, 5, 6, 7, 8, 9, 0] rfl)
        · have f := (if_pos q27).symm.trans f
          refine lv_iload S.1 S.2.1 dX0_sharePair_70 (lv_at hl 6 rfl) ?_
          refine lv_if_eq (tgt := 90) S.1 S.2.1 dX0_sharePair_72 (by decide) (fun q28 => ?_) (fun q28 => ?_)
          · have f := (if_pos q28).symm.trans f
            exact T0_sharePair_90 S hr hlo (fun f _ _ I _ hl => ih f I hl) f I (lv_sub hl [2, 3, 4, 5, 6, 7, 8, 9, 0] rfl)
          · have f := (if_neg q28).symm.trans f
            exact T0_sharePair_75 S hr hlo (fun f _ _ I _ hl => ih f I hl) f I (lv_sub hl [2, 3, 4, 5, 6, 7, 8, 9, 1] rfl)
set_option maxHeartbeats 4000000 in
set_option maxRecDepth 100000 in
theorem T0_sharePair_0 (S : CallFix p m c cX0_sharePair 11 s args vX0_sharePair RX0) (hr : meth.sig.returnType = none) (hlo : meth.locks = false) {out : PH} {h : PH} {a0 : Nat} {x1 : Int32} {x2 : Int32} {x3 : Int32} {x4 : Int32} {x5 : Int32} (f : F0_sharePair_0  h a0 x1 x2 x3 x4 x5 = some out) {H : Heap} {locs : List Loc} (I : ph_I D cy b A fl h s H locs) {ls : Array Slot} (hl : lv_has ls 11 [(0, .ref (b + a0)), (1, .int x1), (2, .int x2), (3, .int x3), (4, .int x4), (5, .int x5)]) : W p l e ({ frames := 0, cells := 0, slots := 0, locals := 0 } : Room) s m args below meth c H locs 0 0 (MQ below (va_Qv (fun (u : PH) => u = out) (ph_B D cy b A fl) A) args s 0 0 A) (F0 m 0 ls []) := by
  unfold F0_sharePair_0 at f
  refine lv_iconst (v := 0) S.1 S.2.1 dX0_sharePair_0 (by decide) ?_
  refine lv_istore (lv' := [(6, .int 0), (0, .ref (b + a0)), (1, .int x1), (2, .int x2), (3, .int x3), (4, .int x4), (5, .int x5)]) S.1 S.2.1 dX0_sharePair_1 hl (by decide) rfl (fun ls hl => ?_)
  refine lv_iconst (v := 0) S.1 S.2.1 dX0_sharePair_3 (by decide) ?_
  refine lv_istore (lv' := [(7, .int 0), (6, .int 0), (0, .ref (b + a0)), (1, .int x1), (2, .int x2), (3, .int x3), (4, .int x4), (5, .int x5)]) S.1 S.2.1 dX0_sharePair_4 hl (by decide) rfl (fun ls hl => ?_)
  refine lv_iload_n S.1 S.2.1 dX0_sharePair_6 rfl (lv_at hl 5 rfl) ?_
  refine lv_istore (lv' := [(8, .int x3), (7, .int 0), (6, .int 0), (0, .ref (b + a0)), (1, .int x1), (2, .int x2), (3, .int x3), (4, .int x4), (5, .int x5)]) S.1 S.2.1 dX0_sharePair_7 hl (by decide) rfl (fun ls hl => ?_)
  exact T0_sharePair_9 S hr hlo  1024 f I (lv_sub hl [3, 4, 5, 7, 8, 2, 1, 0] rfl)
theorem M0_sharePair (l : Launch) (D : va_G) (cy : Nat → ClassId) (b : Nat) (A : Nat → Prop) (fl : Bool) {h : PH} {a0 : Nat} {x1 : Int32} {x2 : Int32} {x3 : Int32} {x4 : Int32} {x5 : Int32} {out : PH} (f : F0_sharePair h a0 x1 x2 x3 x4 x5 = some out) : Met l yX0_sharePair vX0_sharePair ({ frames := 0, cells := 0, slots := 0, locals := 0 } : Room) (va_Pc [.ref (b + a0), .int x1, .int x2, .int x3, .int x4, .int x5] (ph_B D cy b A fl h)) (va_Qv (fun (u : PH) => u = out) (ph_B D cy b A fl) A) 0 0 A :=
  o_met (by decide) rfl (Nat.le_of_ble_eq_true rfl) rfl (fun p e s m below meth c S hr hlo hnm ls hl I => T0_sharePair_0 S hr hlo ((gd f).2) I (lv_sub hl [0, 1, 2, 3, 4, 5] rfl))
def vX0_playGame : List Cond := .code yX0_playGame cX0_playGame 8 none :: TB
theorem gX0_playGame_X0_sharePair : GoodIn vX0_playGame (wsV RX0 74 RX0 yX0_sharePair vX0_sharePair) := gV_of wT_51_15 wT_51_16 wT_51_17 wT_2_21 wT_51_18
theorem lf0_playGame_43 : Fl vX0_playGame RX0 43 6 0 := ⟨RX6, TX6, 9, rfl, by decide, (fun w h9 => List.mem_cons_of_mem _ (wC_wsX60 w h9)), (List.mem_cons_of_mem _ wT_51_2)⟩
theorem lf0_playGame_49 : Fl vX0_playGame RX0 49 8 5 := ⟨RX8, TX8, 14, rfl, by decide, (fun w h9 => List.mem_cons_of_mem _ (wC_wsX80 w h9)), (List.mem_cons_of_mem _ wT_51_3)⟩
theorem lf0_playGame_71 : Fl vX0_playGame RX0 71 10 1 := ⟨RX10, TX10, 8, rfl, by decide, (fun w h9 => List.mem_cons_of_mem _ (wC_wsX100 w h9)), (List.mem_cons_of_mem _ wT_51_5)⟩
theorem gX0_playGame_X0_findRests : GoodIn vX0_playGame (wsV RX0 78 RX0 yX0_findRests vX0_findRests) := gV_of wT_51_19 wT_51_20 wT_51_21 wT_2_21 wT_51_22
theorem lf0_playGame_55 : Fl vX0_playGame RX0 55 4 0 := ⟨RX4, TX4, 11, rfl, by decide, (fun w h9 => List.mem_cons_of_mem _ (wC_wsX40 w h9)), (List.mem_cons_of_mem _ wT_51_4)⟩
theorem gX0_playGame_X10_firstFrom : GoodIn vX0_playGame (wsV RX0 61 RX10 yX10_firstFrom vX10_firstFrom) := gV_of wT_51_6 wT_43_17 wT_43_18 wT_3_9 wT_43_19
theorem gX0_playGame_X0_weighWays : GoodIn vX0_playGame (wsV RX0 67 RX0 yX0_weighWays vX0_weighWays) := gV_of wT_51_7 wT_51_8 wT_51_9 wT_2_21 wT_51_10
theorem cd0_playGame : Cd yX0_playGame 4 := ⟨by decide, by decide, by decide +kernel⟩
set_option maxHeartbeats 4000000 in
set_option maxRecDepth 100000 in
theorem T0_playGame_83 (S : CallFix p m c cX0_playGame 8 s args vX0_playGame RX0) (hr : meth.sig.returnType = none) (hlo : meth.locks = false) {out : PH} {k40 : PH → Nat → Nat → Int32 → Int32 → Int32 → Int32 → Option (PH)} (hk40 : ∀ {h : PH} {a0 : Nat} {a1 : Nat} {x3 : Int32} {x4 : Int32} {x5 : Int32} {x6 : Int32}, k40 h a0 a1 x3 x4 x5 x6 = some out → ∀ (H : Heap) (locs : List Loc), ph_I D cy b A fl h s H locs → ∀ (ls : Array Slot), lv_has ls 8 [(0, .ref (b + a0)), (1, .ref (b + a1)), (3, .int x3), (4, .int x4), (5, .int x5), (6, .int x6)] → W p l e ({ frames := 6, cells := 0, slots := 0, locals := 155 } : Room) s m args below meth c H locs 0 0 (MQ below (va_Qv (fun (u : PH) => u = out) (ph_B D cy b A fl) A) args s 0 0 A) (F0 m 40 ls [])) {k49 : PH → Nat → Nat → Int32 → Int32 → Int32 → Int32 → Int32 → Option (PH)} (hk49 : ∀ {h : PH} {a0 : Nat} {a1 : Nat} {x3 : Int32} {x4 : Int32} {x5 : Int32} {x6 : Int32} {x7 : Int32}, k49 h a0 a1 x3 x4 x5 x6 x7 = some out → ∀ (H : Heap) (locs : List Loc), ph_I D cy b A fl h s H locs → ∀ (ls : Array Slot), lv_has ls 8 [(0, .ref (b + a0)), (1, .ref (b + a1)), (3, .int x3), (4, .int x4), (5, .int x5), (6, .int x6), (7, .int x7)] → W p l e ({ frames := 6, cells := 0, slots := 0, locals := 155 } : Room) s m args below meth c H locs 0 0 (MQ below (va_Qv (fun (u : PH) => u = out) (ph_B D cy b A fl) A) args s 0 0 A) (F0 m 49 ls [])) {h : PH} {a0 : Nat} {a1 : Nat} {x3 : Int32} {x4 : Int32} {x5 : Int32} {x6 : Int32} {x7 : Int32} {s0 : Int32} {s1 : Int32} {s2 : Int32} {s3 : Int32} {s4 : Int32} {u5 : Nat} (f : F0_playGame_83 k40 k49 h a0 a1 x3 x4 x5 x6 x7 s0 s1 s2 s3 s4 u5 = some out) {H : Heap} {locs : List Loc} (I : ph_I D cy b A fl h s H locs) {ls : Array Slot} (hl : lv_has ls 8 [(0, .ref (b + a0)), (1, .ref (b + a1)), (3, .int x3), (4, .int x4), (5, .int x5), (6, .int x6), (7, .int x7)]) : W p l e ({ frames := 6, cells := 0, slots := 0, locals := 155 } : Room) s m args below meth c H locs 0 0 (MQ below (va_Qv (fun (u : PH) => u = out) (ph_B D cy b A fl) A) args s 0 0 A) (F0 m 83 ls [.int s0, .int s1, .int s2, .int s3, .int s4, .ref (b + u5)]) := by
  unfold F0_playGame_83 at f
  obtain ⟨o1, e2, f⟩ := ob f
  refine o_Vv S (As := [.int s4, .int s3, .int s2, .int s1, .int s0]) (rest := []) (ci := 0) (M0_sharePair l D cy b A fl e2) gX0_playGame_X0_sharePair rfl rfl rfl cd0_sharePair ⟨Nat.le_of_ble_eq_true rfl, Nat.le_of_ble_eq_true rfl⟩ I (gd e2).1 clX0 rfl rfl hl.1 rfl (Nat.le_of_ble_eq_true rfl) dX0_playGame_83 ⟨Nat.le_of_ble_eq_true rfl, Nat.le_of_ble_eq_true rfl⟩ (fun H locs I => ?_)
  refine lv_iinc (v := (x7 + 1)) (lv' := [(7, .int (x7 + 1)), (0, .ref (b + a0)), (1, .ref (b + a1)), (3, .int x3), (4, .int x4), (5, .int x5), (6, .int x6)]) S.1 S.2.1 dX0_playGame_86 hl (k := 6) rfl (congrArg (fun z => x7 + z) (by decide)) (by decide) rfl (fun ls hl => ?_)
  refine lv_goto (tgt := 49) S.1 S.2.1 dX0_playGame_89 (by decide) ?_
  exact hk49 f _ _ I _ (lv_sub hl [1, 2, 3, 4, 5, 6, 0] rfl)
set_option maxHeartbeats 4000000 in
set_option maxRecDepth 100000 in
theorem T0_playGame_49 (S : CallFix p m c cX0_playGame 8 s args vX0_playGame RX0) (hr : meth.sig.returnType = none) (hlo : meth.locks = false) {out : PH} {k40 : PH → Nat → Nat → Int32 → Int32 → Int32 → Int32 → Option (PH)} (hk40 : ∀ {h : PH} {a0 : Nat} {a1 : Nat} {x3 : Int32} {x4 : Int32} {x5 : Int32} {x6 : Int32}, k40 h a0 a1 x3 x4 x5 x6 = some out → ∀ (H : Heap) (locs : List Loc), ph_I D cy b A fl h s H locs → ∀ (ls : Array Slot), lv_has ls 8 [(0, .ref (b + a0)), (1, .ref (b + a1)), (3, .int x3), (4, .int x4), (5, .int x5), (6, .int x6)] → W p l e ({ frames := 6, cells := 0, slots := 0, locals := 155 } : Room) s m args below meth c H locs 0 0 (MQ below (va_Qv (fun (u : PH) => u = out) (ph_B D cy b A fl) A) args s 0 0 A) (F0 m 40 ls [])) : ∀ (n : Nat) {h : PH} {a0 : Nat} {a1 : Nat} {x3 : Int32} {x4 : Int32} {x5 : Int32} {x6 : Int32} {x7 : Int32} (f : F0_playGame_49 k40 n h a0 a1 x3 x4 x5 x6 x7 = some out) {H : Heap} {locs : List Loc} (I : ph_I D cy b A fl h s H locs) {ls : Array Slot} (hl : lv_has ls 8 [(0, .ref (b + a0)), (1, .ref (b + a1)), (3, .int x3), (4, .int x4), (5, .int x5), (6, .int x6), (7, .int x7)]), W p l e ({ frames := 6, cells := 0, slots := 0, locals := 155 } : Room) s m args below meth c H locs 0 0 (MQ below (va_Qv (fun (u : PH) => u = out) (ph_B D cy b A fl) A) args s 0 0 A) (F0 m 49 ls []) := by
  intro n
  induction n with
  | zero => intro h a0 a1 x3 x4 x5 x6 x7 f; rw [F0_playGame_49] at f; cases f
  | succ n ih =>
    intro h a0 a1 x3 x4 x5 x6 x7 f H locs I ls hl
    rw [F0_playGame_49] at f
    refine lv_iload S.1 S.2.1 dX0_playGame_49 (lv_at hl 6 rfl) ?_
    refine lv_iconst (v := 5) S.1 S.2.1 dX0_playGame_51 (by decide) ?_
    refine lv_icmp_ge (tgt := 92) S.1 S.2.1 dX0_playGame_52 (by decide) (fun q1 => ?_) (fun q1 => ?_)
    · have f := (if_pos q1).symm.trans f
      refine lv_iinc (v := (x6 + 1)) (lv' := [(6, .int (x6 + 1)), (0, .ref (b + a0)), (1, .ref (b + a1)), (3, .int x3), (4, .int x4), (5, .int x5), (7, .int x7)]) S.1 S.2.1 dX0_playGame_92 hl (k := 5) rfl (congrArg (fun z => x6 + z) (by decide)) (by decide) rfl (fun ls hl => ?_)
      refine lv_goto (tgt := 40) S.1 S.2.1 dX0_playGame_95 (by decide) ?_
      exact hk40 f _ _ I _ (lv_sub hl [1, 2, 3, 4, 5, 0] rfl)
    · have f := (if_neg q1).symm.trans f
      refine lv_aload_n S.1 S.2.1 dX0_playGame_55 rfl (lv_at hl 0 rfl) ?_
      refine lv_iload S.1 S.2.1 dX0_playGame_56 (lv_at hl 5 rfl) ?_
      refine lv_iload S.1 S.2.1 dX0_playGame_58 (lv_at hl 6 rfl) ?_
      refine lv_iload S.1 S.2.1 dX0_playGame_60 (lv_at hl 4 rfl) ?_
      refine lv_aload_n S.1 S.2.1 dX0_playGame_62 rfl (lv_at hl 1 rfl) ?_
      obtain ⟨r2, e3, f⟩ := ob f
      refine o_gR S lf0_playGame_43 I e3 dX0_playGame_63 ?_
      obtain ⟨r4, e5, f⟩ := ob f
      refine o_gR S lf0_playGame_49 I e5 dX0_playGame_66 ?_
      obtain ⟨v6, e7, f⟩ := ob f
      refine o_gI S lf0_playGame_71 I e7 dX0_playGame_69 ?_
      refine lv_iload_n S.1 S.2.1 dX0_playGame_72 rfl (lv_at hl 2 rfl) ?_
      refine lv_iload S.1 S.2.1 dX0_playGame_73 (lv_at hl 3 rfl) ?_
      refine lv_icmp_ge (tgt := 82) S.1 S.2.1 dX0_playGame_75 (by decide) (fun q8 => ?_) (fun q8 => ?_)
      · have f := (if_pos q8).symm.trans f
        refine lv_iconst (v := 0) S.1 S.2.1 dX0_playGame_82 (by decide) ?_
        exact T0_playGame_83 S hr hlo (fun f _ _ I _ hl => hk40 f _ _ I _ hl) (fun f _ _ I _ hl => ih f I hl) f I (lv_sub hl [0, 1, 2, 3, 4, 5, 6] rfl)
      · have f := (if_neg q8).symm.trans f
        refine lv_iconst (v := 1) S.1 S.2.1 dX0_playGame_78 (by decide) ?_
        refine lv_goto (tgt := 83) S.1 S.2.1 dX0_playGame_79 (by decide) ?_
        exact T0_playGame_83 S hr hlo (fun f _ _ I _ hl => hk40 f _ _ I _ hl) (fun f _ _ I _ hl => ih f I hl) f I (lv_sub hl [0, 1, 2, 3, 4, 5, 6] rfl)
set_option maxHeartbeats 4000000 in
set_option maxRecDepth 100000 in
theorem T0_playGame_40 (S : CallFix p m c cX0_playGame 8 s args vX0_playGame RX0) (hr : meth.sig.returnType = none) (hlo : meth.locks = false) {out : PH} : ∀ (n : Nat) {h : PH} {a0 : Nat} {a1 : Nat} {x3 : Int32} {x4 : Int32} {x5 : Int32} {x6 : Int32} (f : F0_playGame_40  n h a0 a1 x3 x4 x5 x6 = some out) {H : Heap} {locs : List Loc} (I : ph_I D cy b A fl h s H locs) {ls : Array Slot} (hl : lv_has ls 8 [(0, .ref (b + a0)), (1, .ref (b + a1)), (3, .int x3), (4, .int x4), (5, .int x5), (6, .int x6)]), W p l e ({ frames := 6, cells := 0, slots := 0, locals := 155 } : Room) s m args below meth c H locs 0 0 (MQ below (va_Qv (fun (u : PH) => u = out) (ph_B D cy b A fl) A) args s 0 0 A) (F0 m 40 ls []) := by
  intro n
  induction n with
  | zero => intro h a0 a1 x3 x4 x5 x6 f; rw [F0_playGame_40] at f; cases f
  | succ n ih =>
    intro h a0 a1 x3 x4 x5 x6 f H locs I ls hl
    rw [F0_playGame_40] at f
    refine lv_iload S.1 S.2.1 dX0_playGame_40 (lv_at hl 5 rfl) ?_
    refine lv_iconst (v := 5) S.1 S.2.1 dX0_playGame_42 (by decide) ?_
    refine lv_icmp_ge (tgt := 98) S.1 S.2.1 dX0_playGame_43 (by decide) (fun q1 => ?_) (fun q1 => ?_)
    · have f := (if_pos q1).symm.trans f
      refine lv_aload_n S.1 S.2.1 dX0_playGame_98 rfl (lv_at hl 0 rfl) ?_
      obtain ⟨o2, e3, f⟩ := ob f
      refine o_Vv S (As := []) (rest := []) (ci := 0) (M0_findRests l D cy b A fl e3) gX0_playGame_X0_findRests rfl rfl rfl cd0_findRests ⟨Nat.le_of_ble_eq_true rfl, Nat.le_of_ble_eq_true rfl⟩ I (gd e3).1 clX0 rfl rfl hl.1 rfl (Nat.le_of_ble_eq_true rfl) dX0_playGame_99 ⟨Nat.le_of_ble_eq_true rfl, Nat.le_of_ble_eq_true rfl⟩ (fun H locs I => ?_)
      exact o_vret S hr hlo I f dX0_playGame_102
    · have f := (if_neg q1).symm.trans f
      refine lv_iconst (v := 0) S.1 S.2.1 dX0_playGame_46 (by decide) ?_
      refine lv_istore (lv' := [(7, .int 0), (0, .ref (b + a0)), (1, .ref (b + a1)), (3, .int x3), (4, .int x4), (5, .int x5), (6, .int x6)]) S.1 S.2.1 dX0_playGame_47 hl (by decide) rfl (fun ls hl => ?_)
      exact T0_playGame_49 S hr hlo (fun f _ _ I _ hl => ih f I hl) 1024 f I (lv_sub hl [1, 2, 3, 4, 5, 6, 0] rfl)
set_option maxHeartbeats 4000000 in
set_option maxRecDepth 100000 in
theorem T0_playGame_0 (S : CallFix p m c cX0_playGame 8 s args vX0_playGame RX0) (hr : meth.sig.returnType = none) (hlo : meth.locks = false) {out : PH} {h : PH} {a0 : Nat} {a1 : Nat} {a2 : Nat} {x3 : Int32} {x4 : Int32} (f : F0_playGame_0  h a0 a1 a2 x3 x4 = some out) {H : Heap} {locs : List Loc} (I : ph_I D cy b A fl h s H locs) {ls : Array Slot} (hl : lv_has ls 8 [(0, .ref (b + a0)), (1, .ref (b + a1)), (2, .ref (b + a2)), (3, .int x3), (4, .int x4)]) : W p l e ({ frames := 6, cells := 0, slots := 0, locals := 155 } : Room) s m args below meth c H locs 0 0 (MQ below (va_Qv (fun (u : PH) => u = out) (ph_B D cy b A fl) A) args s 0 0 A) (F0 m 0 ls []) := by
  unfold F0_playGame_0 at f
  refine lv_aload_n S.1 S.2.1 dX0_playGame_0 rfl (lv_at hl 1 rfl) ?_
  obtain ⟨r1, e2, f⟩ := ob f
  refine o_gR S lf0_playGame_43 I e2 dX0_playGame_1 ?_
  obtain ⟨r3, e4, f⟩ := ob f
  refine o_gR S lf0_playGame_49 I e4 dX0_playGame_4 ?_
  refine lv_aload_n S.1 S.2.1 dX0_playGame_7 rfl (lv_at hl 2 rfl) ?_
  obtain ⟨v5, e6, f⟩ := ob f
  refine o_gI S lf0_playGame_55 I e6 dX0_playGame_8 ?_
  obtain ⟨o7, e8, f⟩ := ob f
  refine o_Vi S (As := [.int v5]) (rest := []) (ci := 10) (M10_firstFrom l D cy b A fl e8) gX0_playGame_X10_firstFrom rfl rfl rfl cd10_firstFrom ⟨Nat.le_of_ble_eq_true rfl, Nat.le_of_ble_eq_true rfl⟩ I (gd e8).1 clX10 rfl rfl hl.1 rfl (Nat.le_of_ble_eq_true rfl) dX0_playGame_11 ⟨Nat.le_of_ble_eq_true rfl, Nat.le_of_ble_eq_true rfl⟩ (fun H locs I => ?_)
  refine lv_istore (lv' := [(5, .int o7.1), (0, .ref (b + a0)), (1, .ref (b + a1)), (2, .ref (b + a2)), (3, .int x3), (4, .int x4)]) S.1 S.2.1 dX0_playGame_14 hl (by decide) rfl (fun ls hl => ?_)
  refine lv_aload_n S.1 S.2.1 dX0_playGame_16 rfl (lv_at hl 1 rfl) ?_
  refine lv_aload_n S.1 S.2.1 dX0_playGame_17 rfl (lv_at hl 2 rfl) ?_
  refine lv_aload_n S.1 S.2.1 dX0_playGame_18 rfl (lv_at hl 3 rfl) ?_
  refine lv_iload_n S.1 S.2.1 dX0_playGame_19 rfl (lv_at hl 4 rfl) ?_
  refine lv_iconst (v := 0) S.1 S.2.1 dX0_playGame_20 (by decide) ?_
  refine lv_iload S.1 S.2.1 dX0_playGame_21 (lv_at hl 0 rfl) ?_
  obtain ⟨o9, e10, f⟩ := ob f
  refine o_Vv S (As := [.ref (b + a1), .ref (b + a2), .int x3, .int 0, .int o7.1]) (rest := []) (ci := 0) (M0_weighWays l D cy b A fl e10) gX0_playGame_X0_weighWays rfl rfl rfl cd0_weighWays ⟨Nat.le_of_ble_eq_true rfl, Nat.le_of_ble_eq_true rfl⟩ I (gd e10).1 clX0 rfl rfl hl.1 rfl (Nat.le_of_ble_eq_true rfl) dX0_playGame_23 ⟨Nat.le_of_ble_eq_true rfl, Nat.le_of_ble_eq_true rfl⟩ (fun H locs I => ?_)
  refine lv_aload_n S.1 S.2.1 dX0_playGame_26 rfl (lv_at hl 1 rfl) ?_
  refine lv_aload_n S.1 S.2.1 dX0_playGame_27 rfl (lv_at hl 2 rfl) ?_
  refine lv_aload_n S.1 S.2.1 dX0_playGame_28 rfl (lv_at hl 3 rfl) ?_
  refine lv_iload S.1 S.2.1 dX0_playGame_29 (lv_at hl 5 rfl) ?_
  refine lv_iconst (v := 5) S.1 S.2.1 dX0_playGame_31 (by decide) ?_
  refine lv_iload S.1 S.2.1 dX0_playGame_32 (lv_at hl 0 rfl) ?_
  obtain ⟨o11, e12, f⟩ := ob f
  refine o_Vv S (As := [.ref (b + a1), .ref (b + a2), .int x4, .int 5, .int o7.1]) (rest := []) (ci := 0) (M0_weighWays l D cy b A fl e12) gX0_playGame_X0_weighWays rfl rfl rfl cd0_weighWays ⟨Nat.le_of_ble_eq_true rfl, Nat.le_of_ble_eq_true rfl⟩ I (gd e12).1 clX0 rfl rfl hl.1 rfl (Nat.le_of_ble_eq_true rfl) dX0_playGame_34 ⟨Nat.le_of_ble_eq_true rfl, Nat.le_of_ble_eq_true rfl⟩ (fun H locs I => ?_)
  refine lv_iconst (v := 0) S.1 S.2.1 dX0_playGame_37 (by decide) ?_
  refine lv_istore (lv' := [(6, .int 0), (5, .int o7.1), (0, .ref (b + a0)), (1, .ref (b + a1)), (2, .ref (b + a2)), (3, .int x3), (4, .int x4)]) S.1 S.2.1 dX0_playGame_38 hl (by decide) rfl (fun ls hl => ?_)
  exact T0_playGame_40 S hr hlo  1024 f I (lv_sub hl [2, 3, 5, 6, 1, 0] rfl)
theorem M0_playGame (l : Launch) (D : va_G) (cy : Nat → ClassId) (b : Nat) (A : Nat → Prop) (fl : Bool) {h : PH} {a0 : Nat} {a1 : Nat} {a2 : Nat} {x3 : Int32} {x4 : Int32} {out : PH} (f : F0_playGame h a0 a1 a2 x3 x4 = some out) : Met l yX0_playGame vX0_playGame ({ frames := 6, cells := 0, slots := 0, locals := 155 } : Room) (va_Pc [.ref (b + a0), .ref (b + a1), .ref (b + a2), .int x3, .int x4] (ph_B D cy b A fl h)) (va_Qv (fun (u : PH) => u = out) (ph_B D cy b A fl) A) 0 0 A :=
  o_met (by decide) rfl (Nat.le_of_ble_eq_true rfl) rfl (fun p e s m below meth c S hr hlo hnm ls hl I => T0_playGame_0 S hr hlo ((gd f).2) I (lv_sub hl [0, 1, 2, 3, 4] rfl))
def vX1_add : List Cond := .code yX1_add cX1_add 7 none :: TB
theorem lf1_add_30 : Fl vX1_add RX1 30 1 0 := ⟨RX1, TX1, 7, rfl, by decide, (fun w h9 => List.mem_cons_of_mem _ (wC_wsX10 w h9)), (List.mem_cons_of_mem _ wT_19_11)⟩
theorem lf1_add_9 : Fl vX1_add RX1 9 1 1 := ⟨RX1, TX1, 7, rfl, by decide, (fun w h9 => List.mem_cons_of_mem _ (wC_wsX10 w h9)), (List.mem_cons_of_mem _ wT_3_22)⟩
theorem lf1_add_15 : Fl vX1_add RX1 15 1 2 := ⟨RX1, TX1, 7, rfl, by decide, (fun w h9 => List.mem_cons_of_mem _ (wC_wsX10 w h9)), (List.mem_cons_of_mem _ wT_3_23)⟩
theorem lf1_add_18 : Fl vX1_add RX1 18 1 3 := ⟨RX1, TX1, 7, rfl, by decide, (fun w h9 => List.mem_cons_of_mem _ (wC_wsX10 w h9)), (List.mem_cons_of_mem _ wT_4_0)⟩
theorem lf1_add_21 : Fl vX1_add RX1 21 1 4 := ⟨RX1, TX1, 7, rfl, by decide, (fun w h9 => List.mem_cons_of_mem _ (wC_wsX10 w h9)), (List.mem_cons_of_mem _ wT_4_1)⟩
theorem lf1_add_24 : Fl vX1_add RX1 24 1 5 := ⟨RX1, TX1, 7, rfl, by decide, (fun w h9 => List.mem_cons_of_mem _ (wC_wsX10 w h9)), (List.mem_cons_of_mem _ wT_4_2)⟩
theorem lf1_add_27 : Fl vX1_add RX1 27 1 6 := ⟨RX1, TX1, 7, rfl, by decide, (fun w h9 => List.mem_cons_of_mem _ (wC_wsX10 w h9)), (List.mem_cons_of_mem _ wT_4_3)⟩
theorem lp1_add_30 : Pl vX1_add RX1 30 1 0 .int := ⟨RX1, TX1, 7, tyX1, rfl, by decide, (fun w h9 => List.mem_cons_of_mem _ (wC_wsX10 w h9)), (List.mem_cons_of_mem _ wT_19_11), tyX1_ok, nmX1, rfl, rfl⟩
theorem cd1_add : Cd yX1_add 6 := ⟨by decide, by decide, by decide +kernel⟩
set_option maxHeartbeats 4000000 in
set_option maxRecDepth 100000 in
theorem T1_add_0 (S : CallFix p m c cX1_add 7 s args vX1_add RX1) (hr : meth.sig.returnType = none) (hlo : meth.locks = false) {out : PH} {h : PH} {a0 : Nat} {x1 : Int32} {x2 : Int32} {x3 : Int32} {x4 : Int32} {x5 : Int32} {x6 : Int32} (f : F1_add_0  h a0 x1 x2 x3 x4 x5 x6 = some out) {H : Heap} {locs : List Loc} (I : ph_I D cy b A fl h s H locs) {ls : Array Slot} (hl : lv_has ls 7 [(0, .ref (b + a0)), (1, .int x1), (2, .int x2), (3, .int x3), (4, .int x4), (5, .int x5), (6, .int x6)]) : W p l e ({ frames := 0, cells := 0, slots := 0, locals := 0 } : Room) s m args below meth c H locs 0 0 (MQ below (va_Qv (fun (u : PH) => u = out) (ph_B D cy b A fl) A) args s 0 0 A) (F0 m 0 ls []) := by
  unfold F1_add_0 at f
  refine lv_aload_n S.1 S.2.1 dX1_add_0 rfl (lv_at hl 0 rfl) ?_
  obtain ⟨v1, e2, f⟩ := ob f
  refine o_gI S lf1_add_30 I e2 dX1_add_1 ?_
  refine lv_iconst (v := 5) S.1 S.2.1 dX1_add_4 (by decide) ?_
  refine lv_icmp_lt (tgt := 9) S.1 S.2.1 dX1_add_5 (by decide) (fun q3 => ?_) (fun q3 => ?_)
  · have f := (if_pos q3).symm.trans f
    refine lv_aload_n S.1 S.2.1 dX1_add_9 rfl (lv_at hl 0 rfl) ?_
    obtain ⟨r4, e5, f⟩ := ob f
    refine o_gR S lf1_add_9 I e5 dX1_add_10 ?_
    refine lv_aload_n S.1 S.2.1 dX1_add_13 rfl (lv_at hl 0 rfl) ?_
    obtain ⟨v6, e7, f⟩ := ob f
    refine o_gI S lf1_add_30 I e7 dX1_add_14 ?_
    refine lv_iload_n S.1 S.2.1 dX1_add_17 rfl (lv_at hl 1 rfl) ?_
    obtain ⟨h9, e8, f⟩ := ob f
    refine o_iast S I e8 dX1_add_18 (fun H locs I => ?_)
    refine lv_aload_n S.1 S.2.1 dX1_add_19 rfl (lv_at hl 0 rfl) ?_
    obtain ⟨r10, e11, f⟩ := ob f
    refine o_gR S lf1_add_15 I e11 dX1_add_20 ?_
    refine lv_aload_n S.1 S.2.1 dX1_add_23 rfl (lv_at hl 0 rfl) ?_
    obtain ⟨v12, e13, f⟩ := ob f
    refine o_gI S lf1_add_30 I e13 dX1_add_24 ?_
    refine lv_iload_n S.1 S.2.1 dX1_add_27 rfl (lv_at hl 2 rfl) ?_
    obtain ⟨h15, e14, f⟩ := ob f
    refine o_iast S I e14 dX1_add_28 (fun H locs I => ?_)
    refine lv_aload_n S.1 S.2.1 dX1_add_29 rfl (lv_at hl 0 rfl) ?_
    obtain ⟨r16, e17, f⟩ := ob f
    refine o_gR S lf1_add_18 I e17 dX1_add_30 ?_
    refine lv_aload_n S.1 S.2.1 dX1_add_33 rfl (lv_at hl 0 rfl) ?_
    obtain ⟨v18, e19, f⟩ := ob f
    refine o_gI S lf1_add_30 I e19 dX1_add_34 ?_
    refine lv_iload_n S.1 S.2.1 dX1_add_37 rfl (lv_at hl 3 rfl) ?_
    obtain ⟨h21, e20, f⟩ := ob f
    refine o_iast S I e20 dX1_add_38 (fun H locs I => ?_)
    refine lv_aload_n S.1 S.2.1 dX1_add_39 rfl (lv_at hl 0 rfl) ?_
    obtain ⟨r22, e23, f⟩ := ob f
    refine o_gR S lf1_add_21 I e23 dX1_add_40 ?_
    refine lv_aload_n S.1 S.2.1 dX1_add_43 rfl (lv_at hl 0 rfl) ?_
    obtain ⟨v24, e25, f⟩ := ob f
    refine o_gI S lf1_add_30 I e25 dX1_add_44 ?_
    refine lv_iload S.1 S.2.1 dX1_add_47 (lv_at hl 4 rfl) ?_
    obtain ⟨h27, e26, f⟩ := ob f
    refine o_iast S I e26 dX1_add_49 (fun H locs I => ?_)
    refine lv_aload_n S.1 S.2.1 dX1_add_50 rfl (lv_at hl 0 rfl) ?_
    obtain ⟨r28, e29, f⟩ := ob f
    refine o_gR S lf1_add_24 I e29 dX1_add_51 ?_
    refine lv_aload_n S.1 S.2.1 dX1_add_54 rfl (lv_at hl 0 rfl) ?_
    obtain ⟨v30, e31, f⟩ := ob f
    refine o_gI S lf1_add_30 I e31 dX1_add_55 ?_
    refine lv_iload S.1 S.2.1 dX1_add_58 (lv_at hl 5 rfl) ?_
    obtain ⟨h33, e32, f⟩ := ob f
    refine o_iast S I e32 dX1_add_60 (fun H locs I => ?_)
    refine lv_aload_n S.1 S.2.1 dX1_add_61 rfl (lv_at hl 0 rfl) ?_
    obtain ⟨r34, e35, f⟩ := ob f
    refine o_gR S lf1_add_27 I e35 dX1_add_62 ?_
    refine lv_aload_n S.1 S.2.1 dX1_add_65 rfl (lv_at hl 0 rfl) ?_
    obtain ⟨v36, e37, f⟩ := ob f
    refine o_gI S lf1_add_30 I e37 dX1_add_66 ?_
    refine lv_iload S.1 S.2.1 dX1_add_69 (lv_at hl 6 rfl) ?_
    obtain ⟨h39, e38, f⟩ := ob f
    refine o_iast S I e38 dX1_add_71 (fun H locs I => ?_)
    refine lv_aload_n S.1 S.2.1 dX1_add_72 rfl (lv_at hl 0 rfl) ?_
    refine lv_dup S.1 S.2.1 dX1_add_73 rfl ?_
    obtain ⟨v40, e41, f⟩ := ob f
    refine o_gI S lf1_add_30 I e41 dX1_add_74 ?_
    refine lv_iconst (v := 1) S.1 S.2.1 dX1_add_77 (by decide) ?_
    refine lv_iadd S.1 S.2.1 dX1_add_78 ?_
    obtain ⟨h42, e43, f⟩ := ob f
    refine o_pI S lp1_add_30 I e43 dX1_add_79 (fun H locs I => ?_)
    exact o_vret S hr hlo I f dX1_add_82
  · have f := (if_neg q3).symm.trans f
    exact o_vret S hr hlo I f dX1_add_8
theorem M1_add (l : Launch) (D : va_G) (cy : Nat → ClassId) (b : Nat) (A : Nat → Prop) (fl : Bool) {h : PH} {a0 : Nat} {x1 : Int32} {x2 : Int32} {x3 : Int32} {x4 : Int32} {x5 : Int32} {x6 : Int32} {out : PH} (f : F1_add h a0 x1 x2 x3 x4 x5 x6 = some out) : Met l yX1_add vX1_add ({ frames := 0, cells := 0, slots := 0, locals := 0 } : Room) (va_Pc [.ref (b + a0), .int x1, .int x2, .int x3, .int x4, .int x5, .int x6] (ph_B D cy b A fl h)) (va_Qv (fun (u : PH) => u = out) (ph_B D cy b A fl) A) 0 0 A :=
  o_met (by decide) rfl (Nat.le_of_ble_eq_true rfl) rfl (fun p e s m below meth c S hr hlo hnm ls hl I => T1_add_0 S hr hlo ((gd f).2) I (lv_sub hl [0, 1, 2, 3, 4, 5, 6] rfl))
def vX1_hasName : List Cond := .code yX1_hasName cX1_hasName 3 (some .boolean) :: TB
theorem lf1_hasName_30 : Fl vX1_hasName RX1 30 1 0 := ⟨RX1, TX1, 7, rfl, by decide, (fun w h9 => List.mem_cons_of_mem _ (wC_wsX10 w h9)), (List.mem_cons_of_mem _ wT_19_11)⟩
theorem lf1_hasName_9 : Fl vX1_hasName RX1 9 1 1 := ⟨RX1, TX1, 7, rfl, by decide, (fun w h9 => List.mem_cons_of_mem _ (wC_wsX10 w h9)), (List.mem_cons_of_mem _ wT_3_22)⟩
theorem cd1_hasName : Cd yX1_hasName 1 := ⟨by decide, by decide, by decide +kernel⟩
set_option maxHeartbeats 4000000 in
set_option maxRecDepth 100000 in
theorem T1_hasName_2 (S : CallFix p m c cX1_hasName 3 s args vX1_hasName RX1) (hr : meth.sig.returnType = (some .boolean)) (hlo : meth.locks = false) {out : Int32 × PH} : ∀ (n : Nat) {h : PH} {a0 : Nat} {x1 : Int32} {x2 : Int32} (f : F1_hasName_2  n h a0 x1 x2 = some out) {H : Heap} {locs : List Loc} (I : ph_I D cy b A fl h s H locs) {ls : Array Slot} (hl : lv_has ls 3 [(0, .ref (b + a0)), (1, .int x1), (2, .int x2)]), W p l e ({ frames := 0, cells := 0, slots := 0, locals := 0 } : Room) s m args below meth c H locs 0 0 (MQ below (va_Qi (fun (r : Int32) (u : PH) => (r, u) = out) (ph_B D cy b A fl) A) args s 0 0 A) (F0 m 2 ls []) := by
  intro n
  induction n with
  | zero => intro h a0 x1 x2 f; rw [F1_hasName_2] at f; cases f
  | succ n ih =>
    intro h a0 x1 x2 f H locs I ls hl
    rw [F1_hasName_2] at f
    refine lv_iload_n S.1 S.2.1 dX1_hasName_2 rfl (lv_at hl 2 rfl) ?_
    refine lv_aload_n S.1 S.2.1 dX1_hasName_3 rfl (lv_at hl 0 rfl) ?_
    obtain ⟨v1, e2, f⟩ := ob f
    refine o_gI S lf1_hasName_30 I e2 dX1_hasName_4 ?_
    refine lv_icmp_ge (tgt := 28) S.1 S.2.1 dX1_hasName_7 (by decide) (fun q3 => ?_) (fun q3 => ?_)
    · have f := (if_pos q3).symm.trans f
      refine lv_iconst (v := 0) S.1 S.2.1 dX1_hasName_28 (by decide) ?_
      exact o_zret S hr hlo I f dX1_hasName_29
    · have f := (if_neg q3).symm.trans f
      refine lv_aload_n S.1 S.2.1 dX1_hasName_10 rfl (lv_at hl 0 rfl) ?_
      obtain ⟨r4, e5, f⟩ := ob f
      refine o_gR S lf1_hasName_9 I e5 dX1_hasName_11 ?_
      refine lv_iload_n S.1 S.2.1 dX1_hasName_14 rfl (lv_at hl 2 rfl) ?_
      obtain ⟨v7, e6, f⟩ := ob f
      refine o_iald S I e6 dX1_hasName_15 ?_
      refine lv_iload_n S.1 S.2.1 dX1_hasName_16 rfl (lv_at hl 1 rfl) ?_
      refine lv_icmp_ne (tgt := 22) S.1 S.2.1 dX1_hasName_17 (by decide) (fun q8 => ?_) (fun q8 => ?_)
      · have f := (if_neg q8).symm.trans f
        refine lv_iinc (v := (x2 + 1)) (lv' := [(2, .int (x2 + 1)), (0, .ref (b + a0)), (1, .int x1)]) S.1 S.2.1 dX1_hasName_22 hl (k := 2) rfl (congrArg (fun z => x2 + z) (by decide)) (by decide) rfl (fun ls hl => ?_)
        refine lv_goto (tgt := 2) S.1 S.2.1 dX1_hasName_25 (by decide) ?_
        exact ih f I (lv_sub hl [1, 2, 0] rfl)
      · have f := (if_pos q8).symm.trans f
        refine lv_iconst (v := 1) S.1 S.2.1 dX1_hasName_20 (by decide) ?_
        exact o_zret S hr hlo I f dX1_hasName_21
set_option maxHeartbeats 4000000 in
set_option maxRecDepth 100000 in
theorem T1_hasName_0 (S : CallFix p m c cX1_hasName 3 s args vX1_hasName RX1) (hr : meth.sig.returnType = (some .boolean)) (hlo : meth.locks = false) {out : Int32 × PH} {h : PH} {a0 : Nat} {x1 : Int32} (f : F1_hasName_0  h a0 x1 = some out) {H : Heap} {locs : List Loc} (I : ph_I D cy b A fl h s H locs) {ls : Array Slot} (hl : lv_has ls 3 [(0, .ref (b + a0)), (1, .int x1)]) : W p l e ({ frames := 0, cells := 0, slots := 0, locals := 0 } : Room) s m args below meth c H locs 0 0 (MQ below (va_Qi (fun (r : Int32) (u : PH) => (r, u) = out) (ph_B D cy b A fl) A) args s 0 0 A) (F0 m 0 ls []) := by
  unfold F1_hasName_0 at f
  refine lv_iconst (v := 0) S.1 S.2.1 dX1_hasName_0 (by decide) ?_
  refine lv_istore_n (lv' := [(2, .int 0), (0, .ref (b + a0)), (1, .int x1)]) S.1 S.2.1 dX1_hasName_1 rfl hl (by decide) rfl (fun ls hl => ?_)
  exact T1_hasName_2 S hr hlo  1024 f I (lv_sub hl [1, 2, 0] rfl)
theorem M1_hasName (l : Launch) (D : va_G) (cy : Nat → ClassId) (b : Nat) (A : Nat → Prop) (fl : Bool) {h : PH} {a0 : Nat} {x1 : Int32} {out : Int32 × PH} (f : F1_hasName h a0 x1 = some out) : Met l yX1_hasName vX1_hasName ({ frames := 0, cells := 0, slots := 0, locals := 0 } : Room) (va_Pc [.ref (b + a0), .int x1] (ph_B D cy b A fl h)) (va_Qi (fun (r : Int32) (u : PH) => (r, u) = out) (ph_B D cy b A fl) A) 0 0 A :=
  o_met (by decide) rfl (Nat.le_of_ble_eq_true rfl) rfl (fun p e s m below meth c S hr hlo hnm ls hl I => T1_hasName_0 S hr hlo ((gd f).2) I (lv_sub hl [0, 1] rfl))
end
theorem zd_dX2_add_0 : sg (cX2_add.data.toList.drop 0) [[42], [180, 0, 15], [42], [180, 0, 9], [190], [162, 0, 23], [42], [180, 0, 9], [42], [180, 0, 15], [27], [79], [42], [89], [180, 0, 15], [4], [96], [181, 0, 15], [177]] = true := by decide +kernel
theorem dX2_add_0 : decode cX2_add 0 = .ok (.aload_n 0, 1) := dc_42 (sg_at zd_dX2_add_0 0 rfl rfl)
theorem dX2_add_1 : decode cX2_add 1 = .ok (.getfield 15, 3) := dc_180 (sg_at zd_dX2_add_0 1 rfl rfl) rfl
theorem dX2_add_4 : decode cX2_add 4 = .ok (.aload_n 0, 1) := dc_42 (sg_at zd_dX2_add_0 2 rfl rfl)
theorem dX2_add_5 : decode cX2_add 5 = .ok (.getfield 9, 3) := dc_180 (sg_at zd_dX2_add_0 3 rfl rfl) rfl
theorem dX2_add_8 : decode cX2_add 8 = .ok (.arraylength, 1) := dc_190 (sg_at zd_dX2_add_0 4 rfl rfl)
theorem dX2_add_9 : decode cX2_add 9 = .ok (.if_icmp .ge 23, 3) := dc_162 (sg_at zd_dX2_add_0 5 rfl rfl) rfl
theorem dX2_add_12 : decode cX2_add 12 = .ok (.aload_n 0, 1) := dc_42 (sg_at zd_dX2_add_0 6 rfl rfl)
theorem dX2_add_13 : decode cX2_add 13 = .ok (.getfield 9, 3) := dc_180 (sg_at zd_dX2_add_0 7 rfl rfl) rfl
theorem dX2_add_16 : decode cX2_add 16 = .ok (.aload_n 0, 1) := dc_42 (sg_at zd_dX2_add_0 8 rfl rfl)
theorem dX2_add_17 : decode cX2_add 17 = .ok (.getfield 15, 3) := dc_180 (sg_at zd_dX2_add_0 9 rfl rfl) rfl
theorem dX2_add_20 : decode cX2_add 20 = .ok (.iload_n 1, 1) := dc_27 (sg_at zd_dX2_add_0 10 rfl rfl)
theorem dX2_add_21 : decode cX2_add 21 = .ok (.iastore, 1) := dc_79 (sg_at zd_dX2_add_0 11 rfl rfl)
theorem dX2_add_22 : decode cX2_add 22 = .ok (.aload_n 0, 1) := dc_42 (sg_at zd_dX2_add_0 12 rfl rfl)
theorem dX2_add_23 : decode cX2_add 23 = .ok (.dup, 1) := dc_89 (sg_at zd_dX2_add_0 13 rfl rfl)
theorem dX2_add_24 : decode cX2_add 24 = .ok (.getfield 15, 3) := dc_180 (sg_at zd_dX2_add_0 14 rfl rfl) rfl
theorem dX2_add_27 : decode cX2_add 27 = .ok (.iconst 1, 1) := dc_4 (sg_at zd_dX2_add_0 15 rfl rfl)
theorem dX2_add_28 : decode cX2_add 28 = .ok (.iadd, 1) := dc_96 (sg_at zd_dX2_add_0 16 rfl rfl)
theorem dX2_add_29 : decode cX2_add 29 = .ok (.putfield 15, 3) := dc_181 (sg_at zd_dX2_add_0 17 rfl rfl) rfl
theorem dX2_add_32 : decode cX2_add 32 = .ok (.return_, 1) := dc_177 (sg_at zd_dX2_add_0 18 rfl rfl)
theorem zd_dX2_forget_0 : sg (cX2_forget.data.toList.drop 0) [[42], [3], [181, 0, 15], [42], [3], [181, 0, 19], [177]] = true := by decide +kernel
theorem dX2_forget_0 : decode cX2_forget 0 = .ok (.aload_n 0, 1) := dc_42 (sg_at zd_dX2_forget_0 0 rfl rfl)
theorem dX2_forget_1 : decode cX2_forget 1 = .ok (.iconst 0, 1) := dc_3 (sg_at zd_dX2_forget_0 1 rfl rfl)
theorem dX2_forget_2 : decode cX2_forget 2 = .ok (.putfield 15, 3) := dc_181 (sg_at zd_dX2_forget_0 2 rfl rfl) rfl
theorem dX2_forget_5 : decode cX2_forget 5 = .ok (.aload_n 0, 1) := dc_42 (sg_at zd_dX2_forget_0 3 rfl rfl)
theorem dX2_forget_6 : decode cX2_forget 6 = .ok (.iconst 0, 1) := dc_3 (sg_at zd_dX2_forget_0 4 rfl rfl)
theorem dX2_forget_7 : decode cX2_forget 7 = .ok (.putfield 19, 3) := dc_181 (sg_at zd_dX2_forget_0 5 rfl rfl) rfl
theorem dX2_forget_10 : decode cX2_forget 10 = .ok (.return_, 1) := dc_177 (sg_at zd_dX2_forget_0 6 rfl rfl)
theorem zd_dX3_addSeat_0 : sg (cX3_addSeat.data.toList.drop 0) [[42], [180, 0, 32], [16, 24], [161, 0, 5], [2], [172], [42], [180, 0, 15], [42], [180, 0, 32], [27], [79], [42], [180, 0, 19], [42], [180, 0, 32], [28], [79], [42], [180, 0, 22]] = true := by decide +kernel
theorem dX3_addSeat_0 : decode cX3_addSeat 0 = .ok (.aload_n 0, 1) := dc_42 (sg_at zd_dX3_addSeat_0 0 rfl rfl)
theorem dX3_addSeat_1 : decode cX3_addSeat 1 = .ok (.getfield 32, 3) := dc_180 (sg_at zd_dX3_addSeat_0 1 rfl rfl) rfl
theorem dX3_addSeat_4 : decode cX3_addSeat 4 = .ok (.bipush 24, 2) := dc_16 (sg_at zd_dX3_addSeat_0 2 rfl rfl) rfl
theorem dX3_addSeat_6 : decode cX3_addSeat 6 = .ok (.if_icmp .lt 5, 3) := dc_161 (sg_at zd_dX3_addSeat_0 3 rfl rfl) rfl
theorem dX3_addSeat_9 : decode cX3_addSeat 9 = .ok (.iconst (-1), 1) := dc_2 (sg_at zd_dX3_addSeat_0 4 rfl rfl)
theorem dX3_addSeat_10 : decode cX3_addSeat 10 = .ok (.ireturn, 1) := dc_172 (sg_at zd_dX3_addSeat_0 5 rfl rfl)
theorem dX3_addSeat_11 : decode cX3_addSeat 11 = .ok (.aload_n 0, 1) := dc_42 (sg_at zd_dX3_addSeat_0 6 rfl rfl)
theorem dX3_addSeat_12 : decode cX3_addSeat 12 = .ok (.getfield 15, 3) := dc_180 (sg_at zd_dX3_addSeat_0 7 rfl rfl) rfl
theorem dX3_addSeat_15 : decode cX3_addSeat 15 = .ok (.aload_n 0, 1) := dc_42 (sg_at zd_dX3_addSeat_0 8 rfl rfl)
theorem dX3_addSeat_16 : decode cX3_addSeat 16 = .ok (.getfield 32, 3) := dc_180 (sg_at zd_dX3_addSeat_0 9 rfl rfl) rfl
theorem dX3_addSeat_19 : decode cX3_addSeat 19 = .ok (.iload_n 1, 1) := dc_27 (sg_at zd_dX3_addSeat_0 10 rfl rfl)
theorem dX3_addSeat_20 : decode cX3_addSeat 20 = .ok (.iastore, 1) := dc_79 (sg_at zd_dX3_addSeat_0 11 rfl rfl)
theorem dX3_addSeat_21 : decode cX3_addSeat 21 = .ok (.aload_n 0, 1) := dc_42 (sg_at zd_dX3_addSeat_0 12 rfl rfl)
theorem dX3_addSeat_22 : decode cX3_addSeat 22 = .ok (.getfield 19, 3) := dc_180 (sg_at zd_dX3_addSeat_0 13 rfl rfl) rfl
theorem dX3_addSeat_25 : decode cX3_addSeat 25 = .ok (.aload_n 0, 1) := dc_42 (sg_at zd_dX3_addSeat_0 14 rfl rfl)
theorem dX3_addSeat_26 : decode cX3_addSeat 26 = .ok (.getfield 32, 3) := dc_180 (sg_at zd_dX3_addSeat_0 15 rfl rfl) rfl
theorem dX3_addSeat_29 : decode cX3_addSeat 29 = .ok (.iload_n 2, 1) := dc_28 (sg_at zd_dX3_addSeat_0 16 rfl rfl)
theorem dX3_addSeat_30 : decode cX3_addSeat 30 = .ok (.iastore, 1) := dc_79 (sg_at zd_dX3_addSeat_0 17 rfl rfl)
theorem dX3_addSeat_31 : decode cX3_addSeat 31 = .ok (.aload_n 0, 1) := dc_42 (sg_at zd_dX3_addSeat_0 18 rfl rfl)
theorem dX3_addSeat_32 : decode cX3_addSeat 32 = .ok (.getfield 22, 3) := dc_180 (sg_at zd_dX3_addSeat_0 19 rfl rfl) rfl
theorem zd_dX3_addSeat_35 : sg (cX3_addSeat.data.toList.drop 35) [[42], [180, 0, 32], [29], [79], [42], [180, 0, 25], [42], [180, 0, 32], [2], [79], [42], [89], [180, 0, 32], [4], [96], [181, 0, 32], [42], [180, 0, 32], [4], [100]] = true := by decide +kernel
theorem dX3_addSeat_35 : decode cX3_addSeat 35 = .ok (.aload_n 0, 1) := dc_42 (sg_at zd_dX3_addSeat_35 0 rfl rfl)
theorem dX3_addSeat_36 : decode cX3_addSeat 36 = .ok (.getfield 32, 3) := dc_180 (sg_at zd_dX3_addSeat_35 1 rfl rfl) rfl
theorem dX3_addSeat_39 : decode cX3_addSeat 39 = .ok (.iload_n 3, 1) := dc_29 (sg_at zd_dX3_addSeat_35 2 rfl rfl)
theorem dX3_addSeat_40 : decode cX3_addSeat 40 = .ok (.iastore, 1) := dc_79 (sg_at zd_dX3_addSeat_35 3 rfl rfl)
theorem dX3_addSeat_41 : decode cX3_addSeat 41 = .ok (.aload_n 0, 1) := dc_42 (sg_at zd_dX3_addSeat_35 4 rfl rfl)
theorem dX3_addSeat_42 : decode cX3_addSeat 42 = .ok (.getfield 25, 3) := dc_180 (sg_at zd_dX3_addSeat_35 5 rfl rfl) rfl
theorem dX3_addSeat_45 : decode cX3_addSeat 45 = .ok (.aload_n 0, 1) := dc_42 (sg_at zd_dX3_addSeat_35 6 rfl rfl)
theorem dX3_addSeat_46 : decode cX3_addSeat 46 = .ok (.getfield 32, 3) := dc_180 (sg_at zd_dX3_addSeat_35 7 rfl rfl) rfl
theorem dX3_addSeat_49 : decode cX3_addSeat 49 = .ok (.iconst (-1), 1) := dc_2 (sg_at zd_dX3_addSeat_35 8 rfl rfl)
theorem dX3_addSeat_50 : decode cX3_addSeat 50 = .ok (.iastore, 1) := dc_79 (sg_at zd_dX3_addSeat_35 9 rfl rfl)
theorem dX3_addSeat_51 : decode cX3_addSeat 51 = .ok (.aload_n 0, 1) := dc_42 (sg_at zd_dX3_addSeat_35 10 rfl rfl)
theorem dX3_addSeat_52 : decode cX3_addSeat 52 = .ok (.dup, 1) := dc_89 (sg_at zd_dX3_addSeat_35 11 rfl rfl)
theorem dX3_addSeat_53 : decode cX3_addSeat 53 = .ok (.getfield 32, 3) := dc_180 (sg_at zd_dX3_addSeat_35 12 rfl rfl) rfl
theorem dX3_addSeat_56 : decode cX3_addSeat 56 = .ok (.iconst 1, 1) := dc_4 (sg_at zd_dX3_addSeat_35 13 rfl rfl)
theorem dX3_addSeat_57 : decode cX3_addSeat 57 = .ok (.iadd, 1) := dc_96 (sg_at zd_dX3_addSeat_35 14 rfl rfl)
theorem dX3_addSeat_58 : decode cX3_addSeat 58 = .ok (.putfield 32, 3) := dc_181 (sg_at zd_dX3_addSeat_35 15 rfl rfl) rfl
theorem dX3_addSeat_61 : decode cX3_addSeat 61 = .ok (.aload_n 0, 1) := dc_42 (sg_at zd_dX3_addSeat_35 16 rfl rfl)
theorem dX3_addSeat_62 : decode cX3_addSeat 62 = .ok (.getfield 32, 3) := dc_180 (sg_at zd_dX3_addSeat_35 17 rfl rfl) rfl
theorem dX3_addSeat_65 : decode cX3_addSeat 65 = .ok (.iconst 1, 1) := dc_4 (sg_at zd_dX3_addSeat_35 18 rfl rfl)
theorem dX3_addSeat_66 : decode cX3_addSeat 66 = .ok (.isub, 1) := dc_100 (sg_at zd_dX3_addSeat_35 19 rfl rfl)
theorem zd_dX3_addSeat_67 : sg (cX3_addSeat.data.toList.drop 67) [[172]] = true := by decide +kernel
theorem dX3_addSeat_67 : decode cX3_addSeat 67 = .ok (.ireturn, 1) := dc_172 (sg_at zd_dX3_addSeat_67 0 rfl rfl)
theorem zd_dX3_addStrike_0 : sg (cX3_addStrike.data.toList.drop 0) [[42], [180, 0, 32], [16, 24], [161, 0, 5], [2], [172], [42], [180, 0, 19], [42], [180, 0, 32], [2], [79], [42], [180, 0, 25], [42], [180, 0, 32], [27], [79], [42], [89]] = true := by decide +kernel
theorem dX3_addStrike_0 : decode cX3_addStrike 0 = .ok (.aload_n 0, 1) := dc_42 (sg_at zd_dX3_addStrike_0 0 rfl rfl)
theorem dX3_addStrike_1 : decode cX3_addStrike 1 = .ok (.getfield 32, 3) := dc_180 (sg_at zd_dX3_addStrike_0 1 rfl rfl) rfl
theorem dX3_addStrike_4 : decode cX3_addStrike 4 = .ok (.bipush 24, 2) := dc_16 (sg_at zd_dX3_addStrike_0 2 rfl rfl) rfl
theorem dX3_addStrike_6 : decode cX3_addStrike 6 = .ok (.if_icmp .lt 5, 3) := dc_161 (sg_at zd_dX3_addStrike_0 3 rfl rfl) rfl
theorem dX3_addStrike_9 : decode cX3_addStrike 9 = .ok (.iconst (-1), 1) := dc_2 (sg_at zd_dX3_addStrike_0 4 rfl rfl)
theorem dX3_addStrike_10 : decode cX3_addStrike 10 = .ok (.ireturn, 1) := dc_172 (sg_at zd_dX3_addStrike_0 5 rfl rfl)
theorem dX3_addStrike_11 : decode cX3_addStrike 11 = .ok (.aload_n 0, 1) := dc_42 (sg_at zd_dX3_addStrike_0 6 rfl rfl)
theorem dX3_addStrike_12 : decode cX3_addStrike 12 = .ok (.getfield 19, 3) := dc_180 (sg_at zd_dX3_addStrike_0 7 rfl rfl) rfl
theorem dX3_addStrike_15 : decode cX3_addStrike 15 = .ok (.aload_n 0, 1) := dc_42 (sg_at zd_dX3_addStrike_0 8 rfl rfl)
theorem dX3_addStrike_16 : decode cX3_addStrike 16 = .ok (.getfield 32, 3) := dc_180 (sg_at zd_dX3_addStrike_0 9 rfl rfl) rfl
theorem dX3_addStrike_19 : decode cX3_addStrike 19 = .ok (.iconst (-1), 1) := dc_2 (sg_at zd_dX3_addStrike_0 10 rfl rfl)
theorem dX3_addStrike_20 : decode cX3_addStrike 20 = .ok (.iastore, 1) := dc_79 (sg_at zd_dX3_addStrike_0 11 rfl rfl)
theorem dX3_addStrike_21 : decode cX3_addStrike 21 = .ok (.aload_n 0, 1) := dc_42 (sg_at zd_dX3_addStrike_0 12 rfl rfl)
theorem dX3_addStrike_22 : decode cX3_addStrike 22 = .ok (.getfield 25, 3) := dc_180 (sg_at zd_dX3_addStrike_0 13 rfl rfl) rfl
theorem dX3_addStrike_25 : decode cX3_addStrike 25 = .ok (.aload_n 0, 1) := dc_42 (sg_at zd_dX3_addStrike_0 14 rfl rfl)
theorem dX3_addStrike_26 : decode cX3_addStrike 26 = .ok (.getfield 32, 3) := dc_180 (sg_at zd_dX3_addStrike_0 15 rfl rfl) rfl
theorem dX3_addStrike_29 : decode cX3_addStrike 29 = .ok (.iload_n 1, 1) := dc_27 (sg_at zd_dX3_addStrike_0 16 rfl rfl)
theorem dX3_addStrike_30 : decode cX3_addStrike 30 = .ok (.iastore, 1) := dc_79 (sg_at zd_dX3_addStrike_0 17 rfl rfl)
theorem dX3_addStrike_31 : decode cX3_addStrike 31 = .ok (.aload_n 0, 1) := dc_42 (sg_at zd_dX3_addStrike_0 18 rfl rfl)
theorem dX3_addStrike_32 : decode cX3_addStrike 32 = .ok (.dup, 1) := dc_89 (sg_at zd_dX3_addStrike_0 19 rfl rfl)
theorem zd_dX3_addStrike_33 : sg (cX3_addStrike.data.toList.drop 33) [[180, 0, 32], [4], [96], [181, 0, 32], [42], [180, 0, 32], [4], [100], [172]] = true := by decide +kernel
theorem dX3_addStrike_33 : decode cX3_addStrike 33 = .ok (.getfield 32, 3) := dc_180 (sg_at zd_dX3_addStrike_33 0 rfl rfl) rfl
theorem dX3_addStrike_36 : decode cX3_addStrike 36 = .ok (.iconst 1, 1) := dc_4 (sg_at zd_dX3_addStrike_33 1 rfl rfl)
theorem dX3_addStrike_37 : decode cX3_addStrike 37 = .ok (.iadd, 1) := dc_96 (sg_at zd_dX3_addStrike_33 2 rfl rfl)
theorem dX3_addStrike_38 : decode cX3_addStrike 38 = .ok (.putfield 32, 3) := dc_181 (sg_at zd_dX3_addStrike_33 3 rfl rfl) rfl
theorem dX3_addStrike_41 : decode cX3_addStrike 41 = .ok (.aload_n 0, 1) := dc_42 (sg_at zd_dX3_addStrike_33 4 rfl rfl)
theorem dX3_addStrike_42 : decode cX3_addStrike 42 = .ok (.getfield 32, 3) := dc_180 (sg_at zd_dX3_addStrike_33 5 rfl rfl) rfl
theorem dX3_addStrike_45 : decode cX3_addStrike 45 = .ok (.iconst 1, 1) := dc_4 (sg_at zd_dX3_addStrike_33 6 rfl rfl)
theorem dX3_addStrike_46 : decode cX3_addStrike 46 = .ok (.isub, 1) := dc_100 (sg_at zd_dX3_addStrike_33 7 rfl rfl)
theorem dX3_addStrike_47 : decode cX3_addStrike 47 = .ok (.ireturn, 1) := dc_172 (sg_at zd_dX3_addStrike_33 8 rfl rfl)
theorem zd_dX3_howManyKnown_0 : sg (cX3_howManyKnown.data.toList.drop 0) [[42], [180, 0, 9], [2], [160, 0, 10], [42], [180, 0, 32], [167, 0, 7], [42], [180, 0, 9], [172]] = true := by decide +kernel
theorem dX3_howManyKnown_0 : decode cX3_howManyKnown 0 = .ok (.aload_n 0, 1) := dc_42 (sg_at zd_dX3_howManyKnown_0 0 rfl rfl)
theorem dX3_howManyKnown_1 : decode cX3_howManyKnown 1 = .ok (.getfield 9, 3) := dc_180 (sg_at zd_dX3_howManyKnown_0 1 rfl rfl) rfl
theorem dX3_howManyKnown_4 : decode cX3_howManyKnown 4 = .ok (.iconst (-1), 1) := dc_2 (sg_at zd_dX3_howManyKnown_0 2 rfl rfl)
theorem dX3_howManyKnown_5 : decode cX3_howManyKnown 5 = .ok (.if_icmp .ne 10, 3) := dc_160 (sg_at zd_dX3_howManyKnown_0 3 rfl rfl) rfl
theorem dX3_howManyKnown_8 : decode cX3_howManyKnown 8 = .ok (.aload_n 0, 1) := dc_42 (sg_at zd_dX3_howManyKnown_0 4 rfl rfl)
theorem dX3_howManyKnown_9 : decode cX3_howManyKnown 9 = .ok (.getfield 32, 3) := dc_180 (sg_at zd_dX3_howManyKnown_0 5 rfl rfl) rfl
theorem dX3_howManyKnown_12 : decode cX3_howManyKnown 12 = .ok (.goto 7, 3) := dc_167 (sg_at zd_dX3_howManyKnown_0 6 rfl rfl) rfl
theorem dX3_howManyKnown_15 : decode cX3_howManyKnown 15 = .ok (.aload_n 0, 1) := dc_42 (sg_at zd_dX3_howManyKnown_0 7 rfl rfl)
theorem dX3_howManyKnown_16 : decode cX3_howManyKnown 16 = .ok (.getfield 9, 3) := dc_180 (sg_at zd_dX3_howManyKnown_0 8 rfl rfl) rfl
theorem dX3_howManyKnown_19 : decode cX3_howManyKnown 19 = .ok (.ireturn, 1) := dc_172 (sg_at zd_dX3_howManyKnown_0 9 rfl rfl)
theorem zd_dX3_findStruck_0 : sg (cX3_findStruck.data.toList.drop 0) [[42], [182, 0, 35], [60], [3], [61], [28], [27], [162, 0, 16], [42], [180, 0, 28], [28], [3], [84], [132, 2, 1], [167, 255, 241], [27], [4], [100], [61], [28]] = true := by decide +kernel
theorem dX3_findStruck_0 : decode cX3_findStruck 0 = .ok (.aload_n 0, 1) := dc_42 (sg_at zd_dX3_findStruck_0 0 rfl rfl)
theorem dX3_findStruck_1 : decode cX3_findStruck 1 = .ok (.invokevirtual 35, 3) := dc_182 (sg_at zd_dX3_findStruck_0 1 rfl rfl) rfl
theorem dX3_findStruck_4 : decode cX3_findStruck 4 = .ok (.istore_n 1, 1) := dc_60 (sg_at zd_dX3_findStruck_0 2 rfl rfl)
theorem dX3_findStruck_5 : decode cX3_findStruck 5 = .ok (.iconst 0, 1) := dc_3 (sg_at zd_dX3_findStruck_0 3 rfl rfl)
theorem dX3_findStruck_6 : decode cX3_findStruck 6 = .ok (.istore_n 2, 1) := dc_61 (sg_at zd_dX3_findStruck_0 4 rfl rfl)
theorem dX3_findStruck_7 : decode cX3_findStruck 7 = .ok (.iload_n 2, 1) := dc_28 (sg_at zd_dX3_findStruck_0 5 rfl rfl)
theorem dX3_findStruck_8 : decode cX3_findStruck 8 = .ok (.iload_n 1, 1) := dc_27 (sg_at zd_dX3_findStruck_0 6 rfl rfl)
theorem dX3_findStruck_9 : decode cX3_findStruck 9 = .ok (.if_icmp .ge 16, 3) := dc_162 (sg_at zd_dX3_findStruck_0 7 rfl rfl) rfl
theorem dX3_findStruck_12 : decode cX3_findStruck 12 = .ok (.aload_n 0, 1) := dc_42 (sg_at zd_dX3_findStruck_0 8 rfl rfl)
theorem dX3_findStruck_13 : decode cX3_findStruck 13 = .ok (.getfield 28, 3) := dc_180 (sg_at zd_dX3_findStruck_0 9 rfl rfl) rfl
theorem dX3_findStruck_16 : decode cX3_findStruck 16 = .ok (.iload_n 2, 1) := dc_28 (sg_at zd_dX3_findStruck_0 10 rfl rfl)
theorem dX3_findStruck_17 : decode cX3_findStruck 17 = .ok (.iconst 0, 1) := dc_3 (sg_at zd_dX3_findStruck_0 11 rfl rfl)
theorem dX3_findStruck_18 : decode cX3_findStruck 18 = .ok (.bastore, 1) := dc_84 (sg_at zd_dX3_findStruck_0 12 rfl rfl)
theorem dX3_findStruck_19 : decode cX3_findStruck 19 = .ok (.iinc 2 1, 3) := dc_132 (sg_at zd_dX3_findStruck_0 13 rfl rfl) rfl
theorem dX3_findStruck_22 : decode cX3_findStruck 22 = .ok (.goto (-15), 3) := dc_167 (sg_at zd_dX3_findStruck_0 14 rfl rfl) rfl
theorem dX3_findStruck_25 : decode cX3_findStruck 25 = .ok (.iload_n 1, 1) := dc_27 (sg_at zd_dX3_findStruck_0 15 rfl rfl)
theorem dX3_findStruck_26 : decode cX3_findStruck 26 = .ok (.iconst 1, 1) := dc_4 (sg_at zd_dX3_findStruck_0 16 rfl rfl)
theorem dX3_findStruck_27 : decode cX3_findStruck 27 = .ok (.isub, 1) := dc_100 (sg_at zd_dX3_findStruck_0 17 rfl rfl)
theorem dX3_findStruck_28 : decode cX3_findStruck 28 = .ok (.istore_n 2, 1) := dc_61 (sg_at zd_dX3_findStruck_0 18 rfl rfl)
theorem dX3_findStruck_29 : decode cX3_findStruck 29 = .ok (.iload_n 2, 1) := dc_28 (sg_at zd_dX3_findStruck_0 19 rfl rfl)
theorem zd_dX3_findStruck_30 : sg (cX3_findStruck.data.toList.drop 30) [[155, 0, 40], [42], [180, 0, 28], [28], [51], [154, 0, 25], [42], [180, 0, 25], [28], [46], [2], [159, 0, 15], [42], [180, 0, 28], [42], [180, 0, 25], [28], [46], [4], [84]] = true := by decide +kernel
theorem dX3_findStruck_30 : decode cX3_findStruck 30 = .ok (.ifCond .lt 40, 3) := dc_155 (sg_at zd_dX3_findStruck_30 0 rfl rfl) rfl
theorem dX3_findStruck_33 : decode cX3_findStruck 33 = .ok (.aload_n 0, 1) := dc_42 (sg_at zd_dX3_findStruck_30 1 rfl rfl)
theorem dX3_findStruck_34 : decode cX3_findStruck 34 = .ok (.getfield 28, 3) := dc_180 (sg_at zd_dX3_findStruck_30 2 rfl rfl) rfl
theorem dX3_findStruck_37 : decode cX3_findStruck 37 = .ok (.iload_n 2, 1) := dc_28 (sg_at zd_dX3_findStruck_30 3 rfl rfl)
theorem dX3_findStruck_38 : decode cX3_findStruck 38 = .ok (.baload, 1) := dc_51 (sg_at zd_dX3_findStruck_30 4 rfl rfl)
theorem dX3_findStruck_39 : decode cX3_findStruck 39 = .ok (.ifCond .ne 25, 3) := dc_154 (sg_at zd_dX3_findStruck_30 5 rfl rfl) rfl
theorem dX3_findStruck_42 : decode cX3_findStruck 42 = .ok (.aload_n 0, 1) := dc_42 (sg_at zd_dX3_findStruck_30 6 rfl rfl)
theorem dX3_findStruck_43 : decode cX3_findStruck 43 = .ok (.getfield 25, 3) := dc_180 (sg_at zd_dX3_findStruck_30 7 rfl rfl) rfl
theorem dX3_findStruck_46 : decode cX3_findStruck 46 = .ok (.iload_n 2, 1) := dc_28 (sg_at zd_dX3_findStruck_30 8 rfl rfl)
theorem dX3_findStruck_47 : decode cX3_findStruck 47 = .ok (.iaload, 1) := dc_46 (sg_at zd_dX3_findStruck_30 9 rfl rfl)
theorem dX3_findStruck_48 : decode cX3_findStruck 48 = .ok (.iconst (-1), 1) := dc_2 (sg_at zd_dX3_findStruck_30 10 rfl rfl)
theorem dX3_findStruck_49 : decode cX3_findStruck 49 = .ok (.if_icmp .eq 15, 3) := dc_159 (sg_at zd_dX3_findStruck_30 11 rfl rfl) rfl
theorem dX3_findStruck_52 : decode cX3_findStruck 52 = .ok (.aload_n 0, 1) := dc_42 (sg_at zd_dX3_findStruck_30 12 rfl rfl)
theorem dX3_findStruck_53 : decode cX3_findStruck 53 = .ok (.getfield 28, 3) := dc_180 (sg_at zd_dX3_findStruck_30 13 rfl rfl) rfl
theorem dX3_findStruck_56 : decode cX3_findStruck 56 = .ok (.aload_n 0, 1) := dc_42 (sg_at zd_dX3_findStruck_30 14 rfl rfl)
theorem dX3_findStruck_57 : decode cX3_findStruck 57 = .ok (.getfield 25, 3) := dc_180 (sg_at zd_dX3_findStruck_30 15 rfl rfl) rfl
theorem dX3_findStruck_60 : decode cX3_findStruck 60 = .ok (.iload_n 2, 1) := dc_28 (sg_at zd_dX3_findStruck_30 16 rfl rfl)
theorem dX3_findStruck_61 : decode cX3_findStruck 61 = .ok (.iaload, 1) := dc_46 (sg_at zd_dX3_findStruck_30 17 rfl rfl)
theorem dX3_findStruck_62 : decode cX3_findStruck 62 = .ok (.iconst 1, 1) := dc_4 (sg_at zd_dX3_findStruck_30 18 rfl rfl)
theorem dX3_findStruck_63 : decode cX3_findStruck 63 = .ok (.bastore, 1) := dc_84 (sg_at zd_dX3_findStruck_30 19 rfl rfl)
theorem zd_dX3_findStruck_64 : sg (cX3_findStruck.data.toList.drop 64) [[132, 2, 255], [167, 255, 218], [177]] = true := by decide +kernel
theorem dX3_findStruck_64 : decode cX3_findStruck 64 = .ok (.iinc 2 (-1), 3) := dc_132 (sg_at zd_dX3_findStruck_64 0 rfl rfl) rfl
theorem dX3_findStruck_67 : decode cX3_findStruck 67 = .ok (.goto (-38), 3) := dc_167 (sg_at zd_dX3_findStruck_64 1 rfl rfl) rfl
theorem dX3_findStruck_70 : decode cX3_findStruck 70 = .ok (.return_, 1) := dc_177 (sg_at zd_dX3_findStruck_64 2 rfl rfl)
theorem zd_dX3_isKnownSeat_0 : sg (cX3_isKnownSeat.data.toList.drop 0) [[42], [180, 0, 28], [27], [51], [154, 0, 17], [42], [180, 0, 25], [27], [46], [2], [160, 0, 7], [4], [167, 0, 4], [3], [172]] = true := by decide +kernel
theorem dX3_isKnownSeat_0 : decode cX3_isKnownSeat 0 = .ok (.aload_n 0, 1) := dc_42 (sg_at zd_dX3_isKnownSeat_0 0 rfl rfl)
theorem dX3_isKnownSeat_1 : decode cX3_isKnownSeat 1 = .ok (.getfield 28, 3) := dc_180 (sg_at zd_dX3_isKnownSeat_0 1 rfl rfl) rfl
theorem dX3_isKnownSeat_4 : decode cX3_isKnownSeat 4 = .ok (.iload_n 1, 1) := dc_27 (sg_at zd_dX3_isKnownSeat_0 2 rfl rfl)
theorem dX3_isKnownSeat_5 : decode cX3_isKnownSeat 5 = .ok (.baload, 1) := dc_51 (sg_at zd_dX3_isKnownSeat_0 3 rfl rfl)
theorem dX3_isKnownSeat_6 : decode cX3_isKnownSeat 6 = .ok (.ifCond .ne 17, 3) := dc_154 (sg_at zd_dX3_isKnownSeat_0 4 rfl rfl) rfl
theorem dX3_isKnownSeat_9 : decode cX3_isKnownSeat 9 = .ok (.aload_n 0, 1) := dc_42 (sg_at zd_dX3_isKnownSeat_0 5 rfl rfl)
theorem dX3_isKnownSeat_10 : decode cX3_isKnownSeat 10 = .ok (.getfield 25, 3) := dc_180 (sg_at zd_dX3_isKnownSeat_0 6 rfl rfl) rfl
theorem dX3_isKnownSeat_13 : decode cX3_isKnownSeat 13 = .ok (.iload_n 1, 1) := dc_27 (sg_at zd_dX3_isKnownSeat_0 7 rfl rfl)
theorem dX3_isKnownSeat_14 : decode cX3_isKnownSeat 14 = .ok (.iaload, 1) := dc_46 (sg_at zd_dX3_isKnownSeat_0 8 rfl rfl)
theorem dX3_isKnownSeat_15 : decode cX3_isKnownSeat 15 = .ok (.iconst (-1), 1) := dc_2 (sg_at zd_dX3_isKnownSeat_0 9 rfl rfl)
theorem dX3_isKnownSeat_16 : decode cX3_isKnownSeat 16 = .ok (.if_icmp .ne 7, 3) := dc_160 (sg_at zd_dX3_isKnownSeat_0 10 rfl rfl) rfl
theorem dX3_isKnownSeat_19 : decode cX3_isKnownSeat 19 = .ok (.iconst 1, 1) := dc_4 (sg_at zd_dX3_isKnownSeat_0 11 rfl rfl)
theorem dX3_isKnownSeat_20 : decode cX3_isKnownSeat 20 = .ok (.goto 4, 3) := dc_167 (sg_at zd_dX3_isKnownSeat_0 12 rfl rfl) rfl
theorem dX3_isKnownSeat_23 : decode cX3_isKnownSeat 23 = .ok (.iconst 0, 1) := dc_3 (sg_at zd_dX3_isKnownSeat_0 13 rfl rfl)
theorem dX3_isKnownSeat_24 : decode cX3_isKnownSeat 24 = .ok (.ireturn, 1) := dc_172 (sg_at zd_dX3_isKnownSeat_0 14 rfl rfl)
theorem zd_dX4_begin_0 : sg (cX4_begin.data.toList.drop 0) [[42], [3], [181, 0, 30], [42], [43], [180, 0, 34], [181, 0, 39], [42], [43], [180, 0, 40], [181, 0, 43], [42], [3], [181, 0, 46], [42], [3], [181, 0, 49], [3], [61], [28]] = true := by decide +kernel
theorem dX4_begin_0 : decode cX4_begin 0 = .ok (.aload_n 0, 1) := dc_42 (sg_at zd_dX4_begin_0 0 rfl rfl)
theorem dX4_begin_1 : decode cX4_begin 1 = .ok (.iconst 0, 1) := dc_3 (sg_at zd_dX4_begin_0 1 rfl rfl)
theorem dX4_begin_2 : decode cX4_begin 2 = .ok (.putfield 30, 3) := dc_181 (sg_at zd_dX4_begin_0 2 rfl rfl) rfl
theorem dX4_begin_5 : decode cX4_begin 5 = .ok (.aload_n 0, 1) := dc_42 (sg_at zd_dX4_begin_0 3 rfl rfl)
theorem dX4_begin_6 : decode cX4_begin 6 = .ok (.aload_n 1, 1) := dc_43 (sg_at zd_dX4_begin_0 4 rfl rfl)
theorem dX4_begin_7 : decode cX4_begin 7 = .ok (.getfield 34, 3) := dc_180 (sg_at zd_dX4_begin_0 5 rfl rfl) rfl
theorem dX4_begin_10 : decode cX4_begin 10 = .ok (.putfield 39, 3) := dc_181 (sg_at zd_dX4_begin_0 6 rfl rfl) rfl
theorem dX4_begin_13 : decode cX4_begin 13 = .ok (.aload_n 0, 1) := dc_42 (sg_at zd_dX4_begin_0 7 rfl rfl)
theorem dX4_begin_14 : decode cX4_begin 14 = .ok (.aload_n 1, 1) := dc_43 (sg_at zd_dX4_begin_0 8 rfl rfl)
theorem dX4_begin_15 : decode cX4_begin 15 = .ok (.getfield 40, 3) := dc_180 (sg_at zd_dX4_begin_0 9 rfl rfl) rfl
theorem dX4_begin_18 : decode cX4_begin 18 = .ok (.putfield 43, 3) := dc_181 (sg_at zd_dX4_begin_0 10 rfl rfl) rfl
theorem dX4_begin_21 : decode cX4_begin 21 = .ok (.aload_n 0, 1) := dc_42 (sg_at zd_dX4_begin_0 11 rfl rfl)
theorem dX4_begin_22 : decode cX4_begin 22 = .ok (.iconst 0, 1) := dc_3 (sg_at zd_dX4_begin_0 12 rfl rfl)
theorem dX4_begin_23 : decode cX4_begin 23 = .ok (.putfield 46, 3) := dc_181 (sg_at zd_dX4_begin_0 13 rfl rfl) rfl
theorem dX4_begin_26 : decode cX4_begin 26 = .ok (.aload_n 0, 1) := dc_42 (sg_at zd_dX4_begin_0 14 rfl rfl)
theorem dX4_begin_27 : decode cX4_begin 27 = .ok (.iconst 0, 1) := dc_3 (sg_at zd_dX4_begin_0 15 rfl rfl)
theorem dX4_begin_28 : decode cX4_begin 28 = .ok (.putfield 49, 3) := dc_181 (sg_at zd_dX4_begin_0 16 rfl rfl) rfl
theorem dX4_begin_31 : decode cX4_begin 31 = .ok (.iconst 0, 1) := dc_3 (sg_at zd_dX4_begin_0 17 rfl rfl)
theorem dX4_begin_32 : decode cX4_begin 32 = .ok (.istore_n 2, 1) := dc_61 (sg_at zd_dX4_begin_0 18 rfl rfl)
theorem dX4_begin_33 : decode cX4_begin 33 = .ok (.iload_n 2, 1) := dc_28 (sg_at zd_dX4_begin_0 19 rfl rfl)
theorem zd_dX4_begin_34 : sg (cX4_begin.data.toList.drop 34) [[8], [162, 0, 52], [42], [180, 0, 9], [28], [43], [180, 0, 52], [180, 0, 56], [28], [46], [79], [42], [180, 0, 15], [28], [3], [79], [42], [180, 0, 18], [28], [3]] = true := by decide +kernel
theorem dX4_begin_34 : decode cX4_begin 34 = .ok (.iconst 5, 1) := dc_8 (sg_at zd_dX4_begin_34 0 rfl rfl)
theorem dX4_begin_35 : decode cX4_begin 35 = .ok (.if_icmp .ge 52, 3) := dc_162 (sg_at zd_dX4_begin_34 1 rfl rfl) rfl
theorem dX4_begin_38 : decode cX4_begin 38 = .ok (.aload_n 0, 1) := dc_42 (sg_at zd_dX4_begin_34 2 rfl rfl)
theorem dX4_begin_39 : decode cX4_begin 39 = .ok (.getfield 9, 3) := dc_180 (sg_at zd_dX4_begin_34 3 rfl rfl) rfl
theorem dX4_begin_42 : decode cX4_begin 42 = .ok (.iload_n 2, 1) := dc_28 (sg_at zd_dX4_begin_34 4 rfl rfl)
theorem dX4_begin_43 : decode cX4_begin 43 = .ok (.aload_n 1, 1) := dc_43 (sg_at zd_dX4_begin_34 5 rfl rfl)
theorem dX4_begin_44 : decode cX4_begin 44 = .ok (.getfield 52, 3) := dc_180 (sg_at zd_dX4_begin_34 6 rfl rfl) rfl
theorem dX4_begin_47 : decode cX4_begin 47 = .ok (.getfield 56, 3) := dc_180 (sg_at zd_dX4_begin_34 7 rfl rfl) rfl
theorem dX4_begin_50 : decode cX4_begin 50 = .ok (.iload_n 2, 1) := dc_28 (sg_at zd_dX4_begin_34 8 rfl rfl)
theorem dX4_begin_51 : decode cX4_begin 51 = .ok (.iaload, 1) := dc_46 (sg_at zd_dX4_begin_34 9 rfl rfl)
theorem dX4_begin_52 : decode cX4_begin 52 = .ok (.iastore, 1) := dc_79 (sg_at zd_dX4_begin_34 10 rfl rfl)
theorem dX4_begin_53 : decode cX4_begin 53 = .ok (.aload_n 0, 1) := dc_42 (sg_at zd_dX4_begin_34 11 rfl rfl)
theorem dX4_begin_54 : decode cX4_begin 54 = .ok (.getfield 15, 3) := dc_180 (sg_at zd_dX4_begin_34 12 rfl rfl) rfl
theorem dX4_begin_57 : decode cX4_begin 57 = .ok (.iload_n 2, 1) := dc_28 (sg_at zd_dX4_begin_34 13 rfl rfl)
theorem dX4_begin_58 : decode cX4_begin 58 = .ok (.iconst 0, 1) := dc_3 (sg_at zd_dX4_begin_34 14 rfl rfl)
theorem dX4_begin_59 : decode cX4_begin 59 = .ok (.iastore, 1) := dc_79 (sg_at zd_dX4_begin_34 15 rfl rfl)
theorem dX4_begin_60 : decode cX4_begin 60 = .ok (.aload_n 0, 1) := dc_42 (sg_at zd_dX4_begin_34 16 rfl rfl)
theorem dX4_begin_61 : decode cX4_begin 61 = .ok (.getfield 18, 3) := dc_180 (sg_at zd_dX4_begin_34 17 rfl rfl) rfl
theorem dX4_begin_64 : decode cX4_begin 64 = .ok (.iload_n 2, 1) := dc_28 (sg_at zd_dX4_begin_34 18 rfl rfl)
theorem dX4_begin_65 : decode cX4_begin 65 = .ok (.iconst 0, 1) := dc_3 (sg_at zd_dX4_begin_34 19 rfl rfl)
theorem zd_dX4_begin_66 : sg (cX4_begin.data.toList.drop 66) [[79], [42], [180, 0, 21], [28], [3], [79], [42], [180, 0, 24], [28], [3], [79], [132, 2, 1], [167, 255, 205], [3], [61], [28], [16, 28], [162, 0, 17], [42], [180, 0, 27]] = true := by decide +kernel
theorem dX4_begin_66 : decode cX4_begin 66 = .ok (.iastore, 1) := dc_79 (sg_at zd_dX4_begin_66 0 rfl rfl)
theorem dX4_begin_67 : decode cX4_begin 67 = .ok (.aload_n 0, 1) := dc_42 (sg_at zd_dX4_begin_66 1 rfl rfl)
theorem dX4_begin_68 : decode cX4_begin 68 = .ok (.getfield 21, 3) := dc_180 (sg_at zd_dX4_begin_66 2 rfl rfl) rfl
theorem dX4_begin_71 : decode cX4_begin 71 = .ok (.iload_n 2, 1) := dc_28 (sg_at zd_dX4_begin_66 3 rfl rfl)
theorem dX4_begin_72 : decode cX4_begin 72 = .ok (.iconst 0, 1) := dc_3 (sg_at zd_dX4_begin_66 4 rfl rfl)
theorem dX4_begin_73 : decode cX4_begin 73 = .ok (.iastore, 1) := dc_79 (sg_at zd_dX4_begin_66 5 rfl rfl)
theorem dX4_begin_74 : decode cX4_begin 74 = .ok (.aload_n 0, 1) := dc_42 (sg_at zd_dX4_begin_66 6 rfl rfl)
theorem dX4_begin_75 : decode cX4_begin 75 = .ok (.getfield 24, 3) := dc_180 (sg_at zd_dX4_begin_66 7 rfl rfl) rfl
theorem dX4_begin_78 : decode cX4_begin 78 = .ok (.iload_n 2, 1) := dc_28 (sg_at zd_dX4_begin_66 8 rfl rfl)
theorem dX4_begin_79 : decode cX4_begin 79 = .ok (.iconst 0, 1) := dc_3 (sg_at zd_dX4_begin_66 9 rfl rfl)
theorem dX4_begin_80 : decode cX4_begin 80 = .ok (.iastore, 1) := dc_79 (sg_at zd_dX4_begin_66 10 rfl rfl)
theorem dX4_begin_81 : decode cX4_begin 81 = .ok (.iinc 2 1, 3) := dc_132 (sg_at zd_dX4_begin_66 11 rfl rfl) rfl
theorem dX4_begin_84 : decode cX4_begin 84 = .ok (.goto (-51), 3) := dc_167 (sg_at zd_dX4_begin_66 12 rfl rfl) rfl
theorem dX4_begin_87 : decode cX4_begin 87 = .ok (.iconst 0, 1) := dc_3 (sg_at zd_dX4_begin_66 13 rfl rfl)
theorem dX4_begin_88 : decode cX4_begin 88 = .ok (.istore_n 2, 1) := dc_61 (sg_at zd_dX4_begin_66 14 rfl rfl)
theorem dX4_begin_89 : decode cX4_begin 89 = .ok (.iload_n 2, 1) := dc_28 (sg_at zd_dX4_begin_66 15 rfl rfl)
theorem dX4_begin_90 : decode cX4_begin 90 = .ok (.bipush 28, 2) := dc_16 (sg_at zd_dX4_begin_66 16 rfl rfl) rfl
theorem dX4_begin_92 : decode cX4_begin 92 = .ok (.if_icmp .ge 17, 3) := dc_162 (sg_at zd_dX4_begin_66 17 rfl rfl) rfl
theorem dX4_begin_95 : decode cX4_begin 95 = .ok (.aload_n 0, 1) := dc_42 (sg_at zd_dX4_begin_66 18 rfl rfl)
theorem dX4_begin_96 : decode cX4_begin 96 = .ok (.getfield 27, 3) := dc_180 (sg_at zd_dX4_begin_66 19 rfl rfl) rfl
theorem zd_dX4_begin_99 : sg (cX4_begin.data.toList.drop 99) [[28], [16, 254], [79], [132, 2, 1], [167, 255, 239], [177]] = true := by decide +kernel
theorem dX4_begin_99 : decode cX4_begin 99 = .ok (.iload_n 2, 1) := dc_28 (sg_at zd_dX4_begin_99 0 rfl rfl)
theorem dX4_begin_100 : decode cX4_begin 100 = .ok (.bipush (-2), 2) := dc_16 (sg_at zd_dX4_begin_99 1 rfl rfl) rfl
theorem dX4_begin_102 : decode cX4_begin 102 = .ok (.iastore, 1) := dc_79 (sg_at zd_dX4_begin_99 2 rfl rfl)
theorem dX4_begin_103 : decode cX4_begin 103 = .ok (.iinc 2 1, 3) := dc_132 (sg_at zd_dX4_begin_99 3 rfl rfl) rfl
theorem dX4_begin_106 : decode cX4_begin 106 = .ok (.goto (-17), 3) := dc_167 (sg_at zd_dX4_begin_99 4 rfl rfl) rfl
theorem dX4_begin_109 : decode cX4_begin 109 = .ok (.return_, 1) := dc_177 (sg_at zd_dX4_begin_99 5 rfl rfl)
theorem zd_dX4_isIn_0 : sg (cX4_isIn.data.toList.drop 0) [[42], [180, 0, 21], [27], [46], [28], [163, 0, 7], [4], [167, 0, 4], [3], [172]] = true := by decide +kernel
theorem dX4_isIn_0 : decode cX4_isIn 0 = .ok (.aload_n 0, 1) := dc_42 (sg_at zd_dX4_isIn_0 0 rfl rfl)
theorem dX4_isIn_1 : decode cX4_isIn 1 = .ok (.getfield 21, 3) := dc_180 (sg_at zd_dX4_isIn_0 1 rfl rfl) rfl
theorem dX4_isIn_4 : decode cX4_isIn 4 = .ok (.iload_n 1, 1) := dc_27 (sg_at zd_dX4_isIn_0 2 rfl rfl)
theorem dX4_isIn_5 : decode cX4_isIn 5 = .ok (.iaload, 1) := dc_46 (sg_at zd_dX4_isIn_0 3 rfl rfl)
theorem dX4_isIn_6 : decode cX4_isIn 6 = .ok (.iload_n 2, 1) := dc_28 (sg_at zd_dX4_isIn_0 4 rfl rfl)
theorem dX4_isIn_7 : decode cX4_isIn 7 = .ok (.if_icmp .gt 7, 3) := dc_163 (sg_at zd_dX4_isIn_0 5 rfl rfl) rfl
theorem dX4_isIn_10 : decode cX4_isIn 10 = .ok (.iconst 1, 1) := dc_4 (sg_at zd_dX4_isIn_0 6 rfl rfl)
theorem dX4_isIn_11 : decode cX4_isIn 11 = .ok (.goto 4, 3) := dc_167 (sg_at zd_dX4_isIn_0 7 rfl rfl) rfl
theorem dX4_isIn_14 : decode cX4_isIn 14 = .ok (.iconst 0, 1) := dc_3 (sg_at zd_dX4_isIn_0 8 rfl rfl)
theorem dX4_isIn_15 : decode cX4_isIn 15 = .ok (.ireturn, 1) := dc_172 (sg_at zd_dX4_isIn_0 9 rfl rfl)
theorem zd_dX4_beginMinute_0 : sg (cX4_beginMinute.data.toList.drop 0) [[42], [89], [180, 0, 30], [4], [96], [181, 0, 30], [3], [61], [28], [27], [162, 0, 35], [42], [28], [42], [180, 0, 30], [182, 0, 72], [153, 0, 10], [42], [180, 0, 21], [28]] = true := by decide +kernel
theorem dX4_beginMinute_0 : decode cX4_beginMinute 0 = .ok (.aload_n 0, 1) := dc_42 (sg_at zd_dX4_beginMinute_0 0 rfl rfl)
theorem dX4_beginMinute_1 : decode cX4_beginMinute 1 = .ok (.dup, 1) := dc_89 (sg_at zd_dX4_beginMinute_0 1 rfl rfl)
theorem dX4_beginMinute_2 : decode cX4_beginMinute 2 = .ok (.getfield 30, 3) := dc_180 (sg_at zd_dX4_beginMinute_0 2 rfl rfl) rfl
theorem dX4_beginMinute_5 : decode cX4_beginMinute 5 = .ok (.iconst 1, 1) := dc_4 (sg_at zd_dX4_beginMinute_0 3 rfl rfl)
theorem dX4_beginMinute_6 : decode cX4_beginMinute 6 = .ok (.iadd, 1) := dc_96 (sg_at zd_dX4_beginMinute_0 4 rfl rfl)
theorem dX4_beginMinute_7 : decode cX4_beginMinute 7 = .ok (.putfield 30, 3) := dc_181 (sg_at zd_dX4_beginMinute_0 5 rfl rfl) rfl
theorem dX4_beginMinute_10 : decode cX4_beginMinute 10 = .ok (.iconst 0, 1) := dc_3 (sg_at zd_dX4_beginMinute_0 6 rfl rfl)
theorem dX4_beginMinute_11 : decode cX4_beginMinute 11 = .ok (.istore_n 2, 1) := dc_61 (sg_at zd_dX4_beginMinute_0 7 rfl rfl)
theorem dX4_beginMinute_12 : decode cX4_beginMinute 12 = .ok (.iload_n 2, 1) := dc_28 (sg_at zd_dX4_beginMinute_0 8 rfl rfl)
theorem dX4_beginMinute_13 : decode cX4_beginMinute 13 = .ok (.iload_n 1, 1) := dc_27 (sg_at zd_dX4_beginMinute_0 9 rfl rfl)
theorem dX4_beginMinute_14 : decode cX4_beginMinute 14 = .ok (.if_icmp .ge 35, 3) := dc_162 (sg_at zd_dX4_beginMinute_0 10 rfl rfl) rfl
theorem dX4_beginMinute_17 : decode cX4_beginMinute 17 = .ok (.aload_n 0, 1) := dc_42 (sg_at zd_dX4_beginMinute_0 11 rfl rfl)
theorem dX4_beginMinute_18 : decode cX4_beginMinute 18 = .ok (.iload_n 2, 1) := dc_28 (sg_at zd_dX4_beginMinute_0 12 rfl rfl)
theorem dX4_beginMinute_19 : decode cX4_beginMinute 19 = .ok (.aload_n 0, 1) := dc_42 (sg_at zd_dX4_beginMinute_0 13 rfl rfl)
theorem dX4_beginMinute_20 : decode cX4_beginMinute 20 = .ok (.getfield 30, 3) := dc_180 (sg_at zd_dX4_beginMinute_0 14 rfl rfl) rfl
theorem dX4_beginMinute_23 : decode cX4_beginMinute 23 = .ok (.invokevirtual 72, 3) := dc_182 (sg_at zd_dX4_beginMinute_0 15 rfl rfl) rfl
theorem dX4_beginMinute_26 : decode cX4_beginMinute 26 = .ok (.ifCond .eq 10, 3) := dc_153 (sg_at zd_dX4_beginMinute_0 16 rfl rfl) rfl
theorem dX4_beginMinute_29 : decode cX4_beginMinute 29 = .ok (.aload_n 0, 1) := dc_42 (sg_at zd_dX4_beginMinute_0 17 rfl rfl)
theorem dX4_beginMinute_30 : decode cX4_beginMinute 30 = .ok (.getfield 21, 3) := dc_180 (sg_at zd_dX4_beginMinute_0 18 rfl rfl) rfl
theorem dX4_beginMinute_33 : decode cX4_beginMinute 33 = .ok (.iload_n 2, 1) := dc_28 (sg_at zd_dX4_beginMinute_0 19 rfl rfl)
theorem zd_dX4_beginMinute_34 : sg (cX4_beginMinute.data.toList.drop 34) [[3], [79], [42], [180, 0, 24], [28], [3], [79], [132, 2, 1], [167, 255, 222], [177]] = true := by decide +kernel
theorem dX4_beginMinute_34 : decode cX4_beginMinute 34 = .ok (.iconst 0, 1) := dc_3 (sg_at zd_dX4_beginMinute_34 0 rfl rfl)
theorem dX4_beginMinute_35 : decode cX4_beginMinute 35 = .ok (.iastore, 1) := dc_79 (sg_at zd_dX4_beginMinute_34 1 rfl rfl)
theorem dX4_beginMinute_36 : decode cX4_beginMinute 36 = .ok (.aload_n 0, 1) := dc_42 (sg_at zd_dX4_beginMinute_34 2 rfl rfl)
theorem dX4_beginMinute_37 : decode cX4_beginMinute 37 = .ok (.getfield 24, 3) := dc_180 (sg_at zd_dX4_beginMinute_34 3 rfl rfl) rfl
theorem dX4_beginMinute_40 : decode cX4_beginMinute 40 = .ok (.iload_n 2, 1) := dc_28 (sg_at zd_dX4_beginMinute_34 4 rfl rfl)
theorem dX4_beginMinute_41 : decode cX4_beginMinute 41 = .ok (.iconst 0, 1) := dc_3 (sg_at zd_dX4_beginMinute_34 5 rfl rfl)
theorem dX4_beginMinute_42 : decode cX4_beginMinute 42 = .ok (.iastore, 1) := dc_79 (sg_at zd_dX4_beginMinute_34 6 rfl rfl)
theorem dX4_beginMinute_43 : decode cX4_beginMinute 43 = .ok (.iinc 2 1, 3) := dc_132 (sg_at zd_dX4_beginMinute_34 7 rfl rfl) rfl
theorem dX4_beginMinute_46 : decode cX4_beginMinute 46 = .ok (.goto (-34), 3) := dc_167 (sg_at zd_dX4_beginMinute_34 8 rfl rfl) rfl
theorem dX4_beginMinute_49 : decode cX4_beginMinute 49 = .ok (.return_, 1) := dc_177 (sg_at zd_dX4_beginMinute_34 9 rfl rfl)
theorem zd_dX4_drawHundredth_0 : sg (cX4_drawHundredth.data.toList.drop 0) [[42], [42], [180, 0, 43], [133], [20, 0, 76], [105], [20, 0, 78], [97], [20, 0, 80], [127], [136], [181, 0, 43], [42], [180, 0, 43], [16, 16], [122], [16, 100], [112], [172]] = true := by decide +kernel
theorem dX4_drawHundredth_0 : decode cX4_drawHundredth 0 = .ok (.aload_n 0, 1) := dc_42 (sg_at zd_dX4_drawHundredth_0 0 rfl rfl)
theorem dX4_drawHundredth_1 : decode cX4_drawHundredth 1 = .ok (.aload_n 0, 1) := dc_42 (sg_at zd_dX4_drawHundredth_0 1 rfl rfl)
theorem dX4_drawHundredth_2 : decode cX4_drawHundredth 2 = .ok (.getfield 43, 3) := dc_180 (sg_at zd_dX4_drawHundredth_0 2 rfl rfl) rfl
theorem dX4_drawHundredth_5 : decode cX4_drawHundredth 5 = .ok (.i2l, 1) := dc_133 (sg_at zd_dX4_drawHundredth_0 3 rfl rfl)
theorem dX4_drawHundredth_6 : decode cX4_drawHundredth 6 = .ok (.ldc2_w 76, 3) := dc_20 (sg_at zd_dX4_drawHundredth_0 4 rfl rfl) rfl
theorem dX4_drawHundredth_9 : decode cX4_drawHundredth 9 = .ok (.lmul, 1) := dc_105 (sg_at zd_dX4_drawHundredth_0 5 rfl rfl)
theorem dX4_drawHundredth_10 : decode cX4_drawHundredth 10 = .ok (.ldc2_w 78, 3) := dc_20 (sg_at zd_dX4_drawHundredth_0 6 rfl rfl) rfl
theorem dX4_drawHundredth_13 : decode cX4_drawHundredth 13 = .ok (.ladd, 1) := dc_97 (sg_at zd_dX4_drawHundredth_0 7 rfl rfl)
theorem dX4_drawHundredth_14 : decode cX4_drawHundredth 14 = .ok (.ldc2_w 80, 3) := dc_20 (sg_at zd_dX4_drawHundredth_0 8 rfl rfl) rfl
theorem dX4_drawHundredth_17 : decode cX4_drawHundredth 17 = .ok (.land, 1) := dc_127 (sg_at zd_dX4_drawHundredth_0 9 rfl rfl)
theorem dX4_drawHundredth_18 : decode cX4_drawHundredth 18 = .ok (.l2i, 1) := dc_136 (sg_at zd_dX4_drawHundredth_0 10 rfl rfl)
theorem dX4_drawHundredth_19 : decode cX4_drawHundredth 19 = .ok (.putfield 43, 3) := dc_181 (sg_at zd_dX4_drawHundredth_0 11 rfl rfl) rfl
theorem dX4_drawHundredth_22 : decode cX4_drawHundredth 22 = .ok (.aload_n 0, 1) := dc_42 (sg_at zd_dX4_drawHundredth_0 12 rfl rfl)
theorem dX4_drawHundredth_23 : decode cX4_drawHundredth 23 = .ok (.getfield 43, 3) := dc_180 (sg_at zd_dX4_drawHundredth_0 13 rfl rfl) rfl
theorem dX4_drawHundredth_26 : decode cX4_drawHundredth 26 = .ok (.bipush 16, 2) := dc_16 (sg_at zd_dX4_drawHundredth_0 14 rfl rfl) rfl
theorem dX4_drawHundredth_28 : decode cX4_drawHundredth 28 = .ok (.ishr, 1) := dc_122 (sg_at zd_dX4_drawHundredth_0 15 rfl rfl)
theorem dX4_drawHundredth_29 : decode cX4_drawHundredth 29 = .ok (.bipush 100, 2) := dc_16 (sg_at zd_dX4_drawHundredth_0 16 rfl rfl) rfl
theorem dX4_drawHundredth_31 : decode cX4_drawHundredth 31 = .ok (.irem, 1) := dc_112 (sg_at zd_dX4_drawHundredth_0 17 rfl rfl)
theorem dX4_drawHundredth_32 : decode cX4_drawHundredth 32 = .ok (.ireturn, 1) := dc_172 (sg_at zd_dX4_drawHundredth_0 18 rfl rfl)
theorem zd_dX4_hadInSum_0 : sg (cX4_hadInSum.data.toList.drop 0) [[3], [61], [3], [62], [29], [27], [162, 0, 18], [28], [42], [180, 0, 15], [29], [46], [96], [61], [132, 3, 1], [167, 255, 239], [28], [172]] = true := by decide +kernel
theorem dX4_hadInSum_0 : decode cX4_hadInSum 0 = .ok (.iconst 0, 1) := dc_3 (sg_at zd_dX4_hadInSum_0 0 rfl rfl)
theorem dX4_hadInSum_1 : decode cX4_hadInSum 1 = .ok (.istore_n 2, 1) := dc_61 (sg_at zd_dX4_hadInSum_0 1 rfl rfl)
theorem dX4_hadInSum_2 : decode cX4_hadInSum 2 = .ok (.iconst 0, 1) := dc_3 (sg_at zd_dX4_hadInSum_0 2 rfl rfl)
theorem dX4_hadInSum_3 : decode cX4_hadInSum 3 = .ok (.istore_n 3, 1) := dc_62 (sg_at zd_dX4_hadInSum_0 3 rfl rfl)
theorem dX4_hadInSum_4 : decode cX4_hadInSum 4 = .ok (.iload_n 3, 1) := dc_29 (sg_at zd_dX4_hadInSum_0 4 rfl rfl)
theorem dX4_hadInSum_5 : decode cX4_hadInSum 5 = .ok (.iload_n 1, 1) := dc_27 (sg_at zd_dX4_hadInSum_0 5 rfl rfl)
theorem dX4_hadInSum_6 : decode cX4_hadInSum 6 = .ok (.if_icmp .ge 18, 3) := dc_162 (sg_at zd_dX4_hadInSum_0 6 rfl rfl) rfl
theorem dX4_hadInSum_9 : decode cX4_hadInSum 9 = .ok (.iload_n 2, 1) := dc_28 (sg_at zd_dX4_hadInSum_0 7 rfl rfl)
theorem dX4_hadInSum_10 : decode cX4_hadInSum 10 = .ok (.aload_n 0, 1) := dc_42 (sg_at zd_dX4_hadInSum_0 8 rfl rfl)
theorem dX4_hadInSum_11 : decode cX4_hadInSum 11 = .ok (.getfield 15, 3) := dc_180 (sg_at zd_dX4_hadInSum_0 9 rfl rfl) rfl
theorem dX4_hadInSum_14 : decode cX4_hadInSum 14 = .ok (.iload_n 3, 1) := dc_29 (sg_at zd_dX4_hadInSum_0 10 rfl rfl)
theorem dX4_hadInSum_15 : decode cX4_hadInSum 15 = .ok (.iaload, 1) := dc_46 (sg_at zd_dX4_hadInSum_0 11 rfl rfl)
theorem dX4_hadInSum_16 : decode cX4_hadInSum 16 = .ok (.iadd, 1) := dc_96 (sg_at zd_dX4_hadInSum_0 12 rfl rfl)
theorem dX4_hadInSum_17 : decode cX4_hadInSum 17 = .ok (.istore_n 2, 1) := dc_61 (sg_at zd_dX4_hadInSum_0 13 rfl rfl)
theorem dX4_hadInSum_18 : decode cX4_hadInSum 18 = .ok (.iinc 3 1, 3) := dc_132 (sg_at zd_dX4_hadInSum_0 14 rfl rfl) rfl
theorem dX4_hadInSum_21 : decode cX4_hadInSum 21 = .ok (.goto (-17), 3) := dc_167 (sg_at zd_dX4_hadInSum_0 15 rfl rfl) rfl
theorem dX4_hadInSum_24 : decode cX4_hadInSum 24 = .ok (.iload_n 2, 1) := dc_28 (sg_at zd_dX4_hadInSum_0 16 rfl rfl)
theorem dX4_hadInSum_25 : decode cX4_hadInSum 25 = .ok (.ireturn, 1) := dc_172 (sg_at zd_dX4_hadInSum_0 17 rfl rfl)
theorem zd_dX4_leaveOut_0 : sg (cX4_leaveOut.data.toList.drop 0) [[42], [180, 0, 21], [27], [18, 71], [79], [177]] = true := by decide +kernel
theorem dX4_leaveOut_0 : decode cX4_leaveOut 0 = .ok (.aload_n 0, 1) := dc_42 (sg_at zd_dX4_leaveOut_0 0 rfl rfl)
theorem dX4_leaveOut_1 : decode cX4_leaveOut 1 = .ok (.getfield 21, 3) := dc_180 (sg_at zd_dX4_leaveOut_0 1 rfl rfl) rfl
theorem dX4_leaveOut_4 : decode cX4_leaveOut 4 = .ok (.iload_n 1, 1) := dc_27 (sg_at zd_dX4_leaveOut_0 2 rfl rfl)
theorem dX4_leaveOut_5 : decode cX4_leaveOut 5 = .ok (.ldc 71, 2) := dc_18 (sg_at zd_dX4_leaveOut_0 3 rfl rfl)
theorem dX4_leaveOut_7 : decode cX4_leaveOut 7 = .ok (.iastore, 1) := dc_79 (sg_at zd_dX4_leaveOut_0 4 rfl rfl)
theorem dX4_leaveOut_8 : decode cX4_leaveOut 8 = .ok (.return_, 1) := dc_177 (sg_at zd_dX4_leaveOut_0 5 rfl rfl)
theorem zd_dX4_seatAll_0 : sg (cX4_seatAll.data.toList.drop 0) [[3], [61], [28], [8], [162, 0, 16], [42], [180, 0, 9], [28], [27], [79], [132, 2, 1], [167, 255, 241], [177]] = true := by decide +kernel
theorem dX4_seatAll_0 : decode cX4_seatAll 0 = .ok (.iconst 0, 1) := dc_3 (sg_at zd_dX4_seatAll_0 0 rfl rfl)
theorem dX4_seatAll_1 : decode cX4_seatAll 1 = .ok (.istore_n 2, 1) := dc_61 (sg_at zd_dX4_seatAll_0 1 rfl rfl)
theorem dX4_seatAll_2 : decode cX4_seatAll 2 = .ok (.iload_n 2, 1) := dc_28 (sg_at zd_dX4_seatAll_0 2 rfl rfl)
theorem dX4_seatAll_3 : decode cX4_seatAll 3 = .ok (.iconst 5, 1) := dc_8 (sg_at zd_dX4_seatAll_0 3 rfl rfl)
theorem dX4_seatAll_4 : decode cX4_seatAll 4 = .ok (.if_icmp .ge 16, 3) := dc_162 (sg_at zd_dX4_seatAll_0 4 rfl rfl) rfl
theorem dX4_seatAll_7 : decode cX4_seatAll 7 = .ok (.aload_n 0, 1) := dc_42 (sg_at zd_dX4_seatAll_0 5 rfl rfl)
theorem dX4_seatAll_8 : decode cX4_seatAll 8 = .ok (.getfield 9, 3) := dc_180 (sg_at zd_dX4_seatAll_0 6 rfl rfl) rfl
theorem dX4_seatAll_11 : decode cX4_seatAll 11 = .ok (.iload_n 2, 1) := dc_28 (sg_at zd_dX4_seatAll_0 7 rfl rfl)
theorem dX4_seatAll_12 : decode cX4_seatAll 12 = .ok (.iload_n 1, 1) := dc_27 (sg_at zd_dX4_seatAll_0 8 rfl rfl)
theorem dX4_seatAll_13 : decode cX4_seatAll 13 = .ok (.iastore, 1) := dc_79 (sg_at zd_dX4_seatAll_0 9 rfl rfl)
theorem dX4_seatAll_14 : decode cX4_seatAll 14 = .ok (.iinc 2 1, 3) := dc_132 (sg_at zd_dX4_seatAll_0 10 rfl rfl) rfl
theorem dX4_seatAll_17 : decode cX4_seatAll 17 = .ok (.goto (-15), 3) := dc_167 (sg_at zd_dX4_seatAll_0 11 rfl rfl) rfl
theorem dX4_seatAll_20 : decode cX4_seatAll 20 = .ok (.return_, 1) := dc_177 (sg_at zd_dX4_seatAll_0 12 rfl rfl)
theorem zd_dX4_takeAll_0 : sg (cX4_takeAll.data.toList.drop 0) [[42], [43], [180, 0, 30], [181, 0, 30], [42], [43], [180, 0, 39], [181, 0, 39], [42], [43], [180, 0, 43], [181, 0, 43], [42], [43], [180, 0, 46], [181, 0, 46], [42], [43], [180, 0, 49], [181, 0, 49]] = true := by decide +kernel
theorem dX4_takeAll_0 : decode cX4_takeAll 0 = .ok (.aload_n 0, 1) := dc_42 (sg_at zd_dX4_takeAll_0 0 rfl rfl)
theorem dX4_takeAll_1 : decode cX4_takeAll 1 = .ok (.aload_n 1, 1) := dc_43 (sg_at zd_dX4_takeAll_0 1 rfl rfl)
theorem dX4_takeAll_2 : decode cX4_takeAll 2 = .ok (.getfield 30, 3) := dc_180 (sg_at zd_dX4_takeAll_0 2 rfl rfl) rfl
theorem dX4_takeAll_5 : decode cX4_takeAll 5 = .ok (.putfield 30, 3) := dc_181 (sg_at zd_dX4_takeAll_0 3 rfl rfl) rfl
theorem dX4_takeAll_8 : decode cX4_takeAll 8 = .ok (.aload_n 0, 1) := dc_42 (sg_at zd_dX4_takeAll_0 4 rfl rfl)
theorem dX4_takeAll_9 : decode cX4_takeAll 9 = .ok (.aload_n 1, 1) := dc_43 (sg_at zd_dX4_takeAll_0 5 rfl rfl)
theorem dX4_takeAll_10 : decode cX4_takeAll 10 = .ok (.getfield 39, 3) := dc_180 (sg_at zd_dX4_takeAll_0 6 rfl rfl) rfl
theorem dX4_takeAll_13 : decode cX4_takeAll 13 = .ok (.putfield 39, 3) := dc_181 (sg_at zd_dX4_takeAll_0 7 rfl rfl) rfl
theorem dX4_takeAll_16 : decode cX4_takeAll 16 = .ok (.aload_n 0, 1) := dc_42 (sg_at zd_dX4_takeAll_0 8 rfl rfl)
theorem dX4_takeAll_17 : decode cX4_takeAll 17 = .ok (.aload_n 1, 1) := dc_43 (sg_at zd_dX4_takeAll_0 9 rfl rfl)
theorem dX4_takeAll_18 : decode cX4_takeAll 18 = .ok (.getfield 43, 3) := dc_180 (sg_at zd_dX4_takeAll_0 10 rfl rfl) rfl
theorem dX4_takeAll_21 : decode cX4_takeAll 21 = .ok (.putfield 43, 3) := dc_181 (sg_at zd_dX4_takeAll_0 11 rfl rfl) rfl
theorem dX4_takeAll_24 : decode cX4_takeAll 24 = .ok (.aload_n 0, 1) := dc_42 (sg_at zd_dX4_takeAll_0 12 rfl rfl)
theorem dX4_takeAll_25 : decode cX4_takeAll 25 = .ok (.aload_n 1, 1) := dc_43 (sg_at zd_dX4_takeAll_0 13 rfl rfl)
theorem dX4_takeAll_26 : decode cX4_takeAll 26 = .ok (.getfield 46, 3) := dc_180 (sg_at zd_dX4_takeAll_0 14 rfl rfl) rfl
theorem dX4_takeAll_29 : decode cX4_takeAll 29 = .ok (.putfield 46, 3) := dc_181 (sg_at zd_dX4_takeAll_0 15 rfl rfl) rfl
theorem dX4_takeAll_32 : decode cX4_takeAll 32 = .ok (.aload_n 0, 1) := dc_42 (sg_at zd_dX4_takeAll_0 16 rfl rfl)
theorem dX4_takeAll_33 : decode cX4_takeAll 33 = .ok (.aload_n 1, 1) := dc_43 (sg_at zd_dX4_takeAll_0 17 rfl rfl)
theorem dX4_takeAll_34 : decode cX4_takeAll 34 = .ok (.getfield 49, 3) := dc_180 (sg_at zd_dX4_takeAll_0 18 rfl rfl) rfl
theorem dX4_takeAll_37 : decode cX4_takeAll 37 = .ok (.putfield 49, 3) := dc_181 (sg_at zd_dX4_takeAll_0 19 rfl rfl) rfl
theorem zd_dX4_takeAll_40 : sg (cX4_takeAll.data.toList.drop 40) [[43], [180, 0, 9], [3], [42], [180, 0, 9], [3], [8], [184, 0, 59], [43], [180, 0, 15], [3], [42], [180, 0, 15], [3], [8], [184, 0, 59], [43], [180, 0, 18], [3], [42]] = true := by decide +kernel
theorem dX4_takeAll_40 : decode cX4_takeAll 40 = .ok (.aload_n 1, 1) := dc_43 (sg_at zd_dX4_takeAll_40 0 rfl rfl)
theorem dX4_takeAll_41 : decode cX4_takeAll 41 = .ok (.getfield 9, 3) := dc_180 (sg_at zd_dX4_takeAll_40 1 rfl rfl) rfl
theorem dX4_takeAll_44 : decode cX4_takeAll 44 = .ok (.iconst 0, 1) := dc_3 (sg_at zd_dX4_takeAll_40 2 rfl rfl)
theorem dX4_takeAll_45 : decode cX4_takeAll 45 = .ok (.aload_n 0, 1) := dc_42 (sg_at zd_dX4_takeAll_40 3 rfl rfl)
theorem dX4_takeAll_46 : decode cX4_takeAll 46 = .ok (.getfield 9, 3) := dc_180 (sg_at zd_dX4_takeAll_40 4 rfl rfl) rfl
theorem dX4_takeAll_49 : decode cX4_takeAll 49 = .ok (.iconst 0, 1) := dc_3 (sg_at zd_dX4_takeAll_40 5 rfl rfl)
theorem dX4_takeAll_50 : decode cX4_takeAll 50 = .ok (.iconst 5, 1) := dc_8 (sg_at zd_dX4_takeAll_40 6 rfl rfl)
theorem dX4_takeAll_51 : decode cX4_takeAll 51 = .ok (.invokestatic 59, 3) := dc_184 (sg_at zd_dX4_takeAll_40 7 rfl rfl) rfl
theorem dX4_takeAll_54 : decode cX4_takeAll 54 = .ok (.aload_n 1, 1) := dc_43 (sg_at zd_dX4_takeAll_40 8 rfl rfl)
theorem dX4_takeAll_55 : decode cX4_takeAll 55 = .ok (.getfield 15, 3) := dc_180 (sg_at zd_dX4_takeAll_40 9 rfl rfl) rfl
theorem dX4_takeAll_58 : decode cX4_takeAll 58 = .ok (.iconst 0, 1) := dc_3 (sg_at zd_dX4_takeAll_40 10 rfl rfl)
theorem dX4_takeAll_59 : decode cX4_takeAll 59 = .ok (.aload_n 0, 1) := dc_42 (sg_at zd_dX4_takeAll_40 11 rfl rfl)
theorem dX4_takeAll_60 : decode cX4_takeAll 60 = .ok (.getfield 15, 3) := dc_180 (sg_at zd_dX4_takeAll_40 12 rfl rfl) rfl
theorem dX4_takeAll_63 : decode cX4_takeAll 63 = .ok (.iconst 0, 1) := dc_3 (sg_at zd_dX4_takeAll_40 13 rfl rfl)
theorem dX4_takeAll_64 : decode cX4_takeAll 64 = .ok (.iconst 5, 1) := dc_8 (sg_at zd_dX4_takeAll_40 14 rfl rfl)
theorem dX4_takeAll_65 : decode cX4_takeAll 65 = .ok (.invokestatic 59, 3) := dc_184 (sg_at zd_dX4_takeAll_40 15 rfl rfl) rfl
theorem dX4_takeAll_68 : decode cX4_takeAll 68 = .ok (.aload_n 1, 1) := dc_43 (sg_at zd_dX4_takeAll_40 16 rfl rfl)
theorem dX4_takeAll_69 : decode cX4_takeAll 69 = .ok (.getfield 18, 3) := dc_180 (sg_at zd_dX4_takeAll_40 17 rfl rfl) rfl
theorem dX4_takeAll_72 : decode cX4_takeAll 72 = .ok (.iconst 0, 1) := dc_3 (sg_at zd_dX4_takeAll_40 18 rfl rfl)
theorem dX4_takeAll_73 : decode cX4_takeAll 73 = .ok (.aload_n 0, 1) := dc_42 (sg_at zd_dX4_takeAll_40 19 rfl rfl)
theorem zd_dX4_takeAll_74 : sg (cX4_takeAll.data.toList.drop 74) [[180, 0, 18], [3], [8], [184, 0, 59], [43], [180, 0, 21], [3], [42], [180, 0, 21], [3], [8], [184, 0, 59], [43], [180, 0, 24], [3], [42], [180, 0, 24], [3], [8], [184, 0, 59]] = true := by decide +kernel
theorem dX4_takeAll_74 : decode cX4_takeAll 74 = .ok (.getfield 18, 3) := dc_180 (sg_at zd_dX4_takeAll_74 0 rfl rfl) rfl
theorem dX4_takeAll_77 : decode cX4_takeAll 77 = .ok (.iconst 0, 1) := dc_3 (sg_at zd_dX4_takeAll_74 1 rfl rfl)
theorem dX4_takeAll_78 : decode cX4_takeAll 78 = .ok (.iconst 5, 1) := dc_8 (sg_at zd_dX4_takeAll_74 2 rfl rfl)
theorem dX4_takeAll_79 : decode cX4_takeAll 79 = .ok (.invokestatic 59, 3) := dc_184 (sg_at zd_dX4_takeAll_74 3 rfl rfl) rfl
theorem dX4_takeAll_82 : decode cX4_takeAll 82 = .ok (.aload_n 1, 1) := dc_43 (sg_at zd_dX4_takeAll_74 4 rfl rfl)
theorem dX4_takeAll_83 : decode cX4_takeAll 83 = .ok (.getfield 21, 3) := dc_180 (sg_at zd_dX4_takeAll_74 5 rfl rfl) rfl
theorem dX4_takeAll_86 : decode cX4_takeAll 86 = .ok (.iconst 0, 1) := dc_3 (sg_at zd_dX4_takeAll_74 6 rfl rfl)
theorem dX4_takeAll_87 : decode cX4_takeAll 87 = .ok (.aload_n 0, 1) := dc_42 (sg_at zd_dX4_takeAll_74 7 rfl rfl)
theorem dX4_takeAll_88 : decode cX4_takeAll 88 = .ok (.getfield 21, 3) := dc_180 (sg_at zd_dX4_takeAll_74 8 rfl rfl) rfl
theorem dX4_takeAll_91 : decode cX4_takeAll 91 = .ok (.iconst 0, 1) := dc_3 (sg_at zd_dX4_takeAll_74 9 rfl rfl)
theorem dX4_takeAll_92 : decode cX4_takeAll 92 = .ok (.iconst 5, 1) := dc_8 (sg_at zd_dX4_takeAll_74 10 rfl rfl)
theorem dX4_takeAll_93 : decode cX4_takeAll 93 = .ok (.invokestatic 59, 3) := dc_184 (sg_at zd_dX4_takeAll_74 11 rfl rfl) rfl
theorem dX4_takeAll_96 : decode cX4_takeAll 96 = .ok (.aload_n 1, 1) := dc_43 (sg_at zd_dX4_takeAll_74 12 rfl rfl)
theorem dX4_takeAll_97 : decode cX4_takeAll 97 = .ok (.getfield 24, 3) := dc_180 (sg_at zd_dX4_takeAll_74 13 rfl rfl) rfl
theorem dX4_takeAll_100 : decode cX4_takeAll 100 = .ok (.iconst 0, 1) := dc_3 (sg_at zd_dX4_takeAll_74 14 rfl rfl)
theorem dX4_takeAll_101 : decode cX4_takeAll 101 = .ok (.aload_n 0, 1) := dc_42 (sg_at zd_dX4_takeAll_74 15 rfl rfl)
theorem dX4_takeAll_102 : decode cX4_takeAll 102 = .ok (.getfield 24, 3) := dc_180 (sg_at zd_dX4_takeAll_74 16 rfl rfl) rfl
theorem dX4_takeAll_105 : decode cX4_takeAll 105 = .ok (.iconst 0, 1) := dc_3 (sg_at zd_dX4_takeAll_74 17 rfl rfl)
theorem dX4_takeAll_106 : decode cX4_takeAll 106 = .ok (.iconst 5, 1) := dc_8 (sg_at zd_dX4_takeAll_74 18 rfl rfl)
theorem dX4_takeAll_107 : decode cX4_takeAll 107 = .ok (.invokestatic 59, 3) := dc_184 (sg_at zd_dX4_takeAll_74 19 rfl rfl) rfl
theorem zd_dX4_takeAll_110 : sg (cX4_takeAll.data.toList.drop 110) [[43], [180, 0, 27], [3], [42], [180, 0, 27], [3], [16, 28], [184, 0, 59], [177]] = true := by decide +kernel
theorem dX4_takeAll_110 : decode cX4_takeAll 110 = .ok (.aload_n 1, 1) := dc_43 (sg_at zd_dX4_takeAll_110 0 rfl rfl)
theorem dX4_takeAll_111 : decode cX4_takeAll 111 = .ok (.getfield 27, 3) := dc_180 (sg_at zd_dX4_takeAll_110 1 rfl rfl) rfl
theorem dX4_takeAll_114 : decode cX4_takeAll 114 = .ok (.iconst 0, 1) := dc_3 (sg_at zd_dX4_takeAll_110 2 rfl rfl)
theorem dX4_takeAll_115 : decode cX4_takeAll 115 = .ok (.aload_n 0, 1) := dc_42 (sg_at zd_dX4_takeAll_110 3 rfl rfl)
theorem dX4_takeAll_116 : decode cX4_takeAll 116 = .ok (.getfield 27, 3) := dc_180 (sg_at zd_dX4_takeAll_110 4 rfl rfl) rfl
theorem dX4_takeAll_119 : decode cX4_takeAll 119 = .ok (.iconst 0, 1) := dc_3 (sg_at zd_dX4_takeAll_110 5 rfl rfl)
theorem dX4_takeAll_120 : decode cX4_takeAll 120 = .ok (.bipush 28, 2) := dc_16 (sg_at zd_dX4_takeAll_110 6 rfl rfl) rfl
theorem dX4_takeAll_122 : decode cX4_takeAll 122 = .ok (.invokestatic 59, 3) := dc_184 (sg_at zd_dX4_takeAll_110 7 rfl rfl) rfl
theorem dX4_takeAll_125 : decode cX4_takeAll 125 = .ok (.return_, 1) := dc_177 (sg_at zd_dX4_takeAll_110 8 rfl rfl)
theorem zd_dX4_takeForRun_0 : sg (cX4_takeForRun.data.toList.drop 0) [[42], [43], [182, 0, 65], [42], [28], [181, 0, 39], [42], [29], [181, 0, 43], [42], [3], [181, 0, 46], [42], [3], [181, 0, 49], [177]] = true := by decide +kernel
theorem dX4_takeForRun_0 : decode cX4_takeForRun 0 = .ok (.aload_n 0, 1) := dc_42 (sg_at zd_dX4_takeForRun_0 0 rfl rfl)
theorem dX4_takeForRun_1 : decode cX4_takeForRun 1 = .ok (.aload_n 1, 1) := dc_43 (sg_at zd_dX4_takeForRun_0 1 rfl rfl)
theorem dX4_takeForRun_2 : decode cX4_takeForRun 2 = .ok (.invokevirtual 65, 3) := dc_182 (sg_at zd_dX4_takeForRun_0 2 rfl rfl) rfl
theorem dX4_takeForRun_5 : decode cX4_takeForRun 5 = .ok (.aload_n 0, 1) := dc_42 (sg_at zd_dX4_takeForRun_0 3 rfl rfl)
theorem dX4_takeForRun_6 : decode cX4_takeForRun 6 = .ok (.iload_n 2, 1) := dc_28 (sg_at zd_dX4_takeForRun_0 4 rfl rfl)
theorem dX4_takeForRun_7 : decode cX4_takeForRun 7 = .ok (.putfield 39, 3) := dc_181 (sg_at zd_dX4_takeForRun_0 5 rfl rfl) rfl
theorem dX4_takeForRun_10 : decode cX4_takeForRun 10 = .ok (.aload_n 0, 1) := dc_42 (sg_at zd_dX4_takeForRun_0 6 rfl rfl)
theorem dX4_takeForRun_11 : decode cX4_takeForRun 11 = .ok (.iload_n 3, 1) := dc_29 (sg_at zd_dX4_takeForRun_0 7 rfl rfl)
theorem dX4_takeForRun_12 : decode cX4_takeForRun 12 = .ok (.putfield 43, 3) := dc_181 (sg_at zd_dX4_takeForRun_0 8 rfl rfl) rfl
theorem dX4_takeForRun_15 : decode cX4_takeForRun 15 = .ok (.aload_n 0, 1) := dc_42 (sg_at zd_dX4_takeForRun_0 9 rfl rfl)
theorem dX4_takeForRun_16 : decode cX4_takeForRun 16 = .ok (.iconst 0, 1) := dc_3 (sg_at zd_dX4_takeForRun_0 10 rfl rfl)
theorem dX4_takeForRun_17 : decode cX4_takeForRun 17 = .ok (.putfield 46, 3) := dc_181 (sg_at zd_dX4_takeForRun_0 11 rfl rfl) rfl
theorem dX4_takeForRun_20 : decode cX4_takeForRun 20 = .ok (.aload_n 0, 1) := dc_42 (sg_at zd_dX4_takeForRun_0 12 rfl rfl)
theorem dX4_takeForRun_21 : decode cX4_takeForRun 21 = .ok (.iconst 0, 1) := dc_3 (sg_at zd_dX4_takeForRun_0 13 rfl rfl)
theorem dX4_takeForRun_22 : decode cX4_takeForRun 22 = .ok (.putfield 49, 3) := dc_181 (sg_at zd_dX4_takeForRun_0 14 rfl rfl) rfl
theorem dX4_takeForRun_25 : decode cX4_takeForRun 25 = .ok (.return_, 1) := dc_177 (sg_at zd_dX4_takeForRun_0 15 rfl rfl)
theorem zd_dX4_unlike_0 : sg (cX4_unlike.data.toList.drop 0) [[27], [4], [162, 0, 5], [3], [172], [42], [180, 0, 15], [3], [46], [61], [42], [180, 0, 15], [3], [46], [62], [4], [54, 4], [21, 4], [27], [162, 0, 33]] = true := by decide +kernel
theorem dX4_unlike_0 : decode cX4_unlike 0 = .ok (.iload_n 1, 1) := dc_27 (sg_at zd_dX4_unlike_0 0 rfl rfl)
theorem dX4_unlike_1 : decode cX4_unlike 1 = .ok (.iconst 1, 1) := dc_4 (sg_at zd_dX4_unlike_0 1 rfl rfl)
theorem dX4_unlike_2 : decode cX4_unlike 2 = .ok (.if_icmp .ge 5, 3) := dc_162 (sg_at zd_dX4_unlike_0 2 rfl rfl) rfl
theorem dX4_unlike_5 : decode cX4_unlike 5 = .ok (.iconst 0, 1) := dc_3 (sg_at zd_dX4_unlike_0 3 rfl rfl)
theorem dX4_unlike_6 : decode cX4_unlike 6 = .ok (.ireturn, 1) := dc_172 (sg_at zd_dX4_unlike_0 4 rfl rfl)
theorem dX4_unlike_7 : decode cX4_unlike 7 = .ok (.aload_n 0, 1) := dc_42 (sg_at zd_dX4_unlike_0 5 rfl rfl)
theorem dX4_unlike_8 : decode cX4_unlike 8 = .ok (.getfield 15, 3) := dc_180 (sg_at zd_dX4_unlike_0 6 rfl rfl) rfl
theorem dX4_unlike_11 : decode cX4_unlike 11 = .ok (.iconst 0, 1) := dc_3 (sg_at zd_dX4_unlike_0 7 rfl rfl)
theorem dX4_unlike_12 : decode cX4_unlike 12 = .ok (.iaload, 1) := dc_46 (sg_at zd_dX4_unlike_0 8 rfl rfl)
theorem dX4_unlike_13 : decode cX4_unlike 13 = .ok (.istore_n 2, 1) := dc_61 (sg_at zd_dX4_unlike_0 9 rfl rfl)
theorem dX4_unlike_14 : decode cX4_unlike 14 = .ok (.aload_n 0, 1) := dc_42 (sg_at zd_dX4_unlike_0 10 rfl rfl)
theorem dX4_unlike_15 : decode cX4_unlike 15 = .ok (.getfield 15, 3) := dc_180 (sg_at zd_dX4_unlike_0 11 rfl rfl) rfl
theorem dX4_unlike_18 : decode cX4_unlike 18 = .ok (.iconst 0, 1) := dc_3 (sg_at zd_dX4_unlike_0 12 rfl rfl)
theorem dX4_unlike_19 : decode cX4_unlike 19 = .ok (.iaload, 1) := dc_46 (sg_at zd_dX4_unlike_0 13 rfl rfl)
theorem dX4_unlike_20 : decode cX4_unlike 20 = .ok (.istore_n 3, 1) := dc_62 (sg_at zd_dX4_unlike_0 14 rfl rfl)
theorem dX4_unlike_21 : decode cX4_unlike 21 = .ok (.iconst 1, 1) := dc_4 (sg_at zd_dX4_unlike_0 15 rfl rfl)
theorem dX4_unlike_22 : decode cX4_unlike 22 = .ok (.istore 4, 2) := dc_54 (sg_at zd_dX4_unlike_0 16 rfl rfl)
theorem dX4_unlike_24 : decode cX4_unlike 24 = .ok (.iload 4, 2) := dc_21 (sg_at zd_dX4_unlike_0 17 rfl rfl)
theorem dX4_unlike_26 : decode cX4_unlike 26 = .ok (.iload_n 1, 1) := dc_27 (sg_at zd_dX4_unlike_0 18 rfl rfl)
theorem dX4_unlike_27 : decode cX4_unlike 27 = .ok (.if_icmp .ge 33, 3) := dc_162 (sg_at zd_dX4_unlike_0 19 rfl rfl) rfl
theorem zd_dX4_unlike_30 : sg (cX4_unlike.data.toList.drop 30) [[28], [42], [180, 0, 15], [21, 4], [46], [184, 0, 82], [61], [29], [42], [180, 0, 15], [21, 4], [46], [184, 0, 88], [62], [132, 4, 1], [167, 255, 223], [28], [29], [100], [172]] = true := by decide +kernel
theorem dX4_unlike_30 : decode cX4_unlike 30 = .ok (.iload_n 2, 1) := dc_28 (sg_at zd_dX4_unlike_30 0 rfl rfl)
theorem dX4_unlike_31 : decode cX4_unlike 31 = .ok (.aload_n 0, 1) := dc_42 (sg_at zd_dX4_unlike_30 1 rfl rfl)
theorem dX4_unlike_32 : decode cX4_unlike 32 = .ok (.getfield 15, 3) := dc_180 (sg_at zd_dX4_unlike_30 2 rfl rfl) rfl
theorem dX4_unlike_35 : decode cX4_unlike 35 = .ok (.iload 4, 2) := dc_21 (sg_at zd_dX4_unlike_30 3 rfl rfl)
theorem dX4_unlike_37 : decode cX4_unlike 37 = .ok (.iaload, 1) := dc_46 (sg_at zd_dX4_unlike_30 4 rfl rfl)
theorem dX4_unlike_38 : decode cX4_unlike 38 = .ok (.invokestatic 82, 3) := dc_184 (sg_at zd_dX4_unlike_30 5 rfl rfl) rfl
theorem dX4_unlike_41 : decode cX4_unlike 41 = .ok (.istore_n 2, 1) := dc_61 (sg_at zd_dX4_unlike_30 6 rfl rfl)
theorem dX4_unlike_42 : decode cX4_unlike 42 = .ok (.iload_n 3, 1) := dc_29 (sg_at zd_dX4_unlike_30 7 rfl rfl)
theorem dX4_unlike_43 : decode cX4_unlike 43 = .ok (.aload_n 0, 1) := dc_42 (sg_at zd_dX4_unlike_30 8 rfl rfl)
theorem dX4_unlike_44 : decode cX4_unlike 44 = .ok (.getfield 15, 3) := dc_180 (sg_at zd_dX4_unlike_30 9 rfl rfl) rfl
theorem dX4_unlike_47 : decode cX4_unlike 47 = .ok (.iload 4, 2) := dc_21 (sg_at zd_dX4_unlike_30 10 rfl rfl)
theorem dX4_unlike_49 : decode cX4_unlike 49 = .ok (.iaload, 1) := dc_46 (sg_at zd_dX4_unlike_30 11 rfl rfl)
theorem dX4_unlike_50 : decode cX4_unlike 50 = .ok (.invokestatic 88, 3) := dc_184 (sg_at zd_dX4_unlike_30 12 rfl rfl) rfl
theorem dX4_unlike_53 : decode cX4_unlike 53 = .ok (.istore_n 3, 1) := dc_62 (sg_at zd_dX4_unlike_30 13 rfl rfl)
theorem dX4_unlike_54 : decode cX4_unlike 54 = .ok (.iinc 4 1, 3) := dc_132 (sg_at zd_dX4_unlike_30 14 rfl rfl) rfl
theorem dX4_unlike_57 : decode cX4_unlike 57 = .ok (.goto (-33), 3) := dc_167 (sg_at zd_dX4_unlike_30 15 rfl rfl) rfl
theorem dX4_unlike_60 : decode cX4_unlike 60 = .ok (.iload_n 2, 1) := dc_28 (sg_at zd_dX4_unlike_30 16 rfl rfl)
theorem dX4_unlike_61 : decode cX4_unlike 61 = .ok (.iload_n 3, 1) := dc_29 (sg_at zd_dX4_unlike_30 17 rfl rfl)
theorem dX4_unlike_62 : decode cX4_unlike 62 = .ok (.isub, 1) := dc_100 (sg_at zd_dX4_unlike_30 18 rfl rfl)
theorem dX4_unlike_63 : decode cX4_unlike 63 = .ok (.ireturn, 1) := dc_172 (sg_at zd_dX4_unlike_30 19 rfl rfl)
theorem zd_dX5_refuse_0 : sg (cX5_refuse.data.toList.drop 0) [[42], [27], [181, 0, 35], [42], [42], [180, 0, 18], [180, 0, 62], [181, 0, 26], [3], [172]] = true := by decide +kernel
theorem dX5_refuse_0 : decode cX5_refuse 0 = .ok (.aload_n 0, 1) := dc_42 (sg_at zd_dX5_refuse_0 0 rfl rfl)
theorem dX5_refuse_1 : decode cX5_refuse 1 = .ok (.iload_n 1, 1) := dc_27 (sg_at zd_dX5_refuse_0 1 rfl rfl)
theorem dX5_refuse_2 : decode cX5_refuse 2 = .ok (.putfield 35, 3) := dc_181 (sg_at zd_dX5_refuse_0 2 rfl rfl) rfl
theorem dX5_refuse_5 : decode cX5_refuse 5 = .ok (.aload_n 0, 1) := dc_42 (sg_at zd_dX5_refuse_0 3 rfl rfl)
theorem dX5_refuse_6 : decode cX5_refuse 6 = .ok (.aload_n 0, 1) := dc_42 (sg_at zd_dX5_refuse_0 4 rfl rfl)
theorem dX5_refuse_7 : decode cX5_refuse 7 = .ok (.getfield 18, 3) := dc_180 (sg_at zd_dX5_refuse_0 5 rfl rfl) rfl
theorem dX5_refuse_10 : decode cX5_refuse 10 = .ok (.getfield 62, 3) := dc_180 (sg_at zd_dX5_refuse_0 6 rfl rfl) rfl
theorem dX5_refuse_13 : decode cX5_refuse 13 = .ok (.putfield 26, 3) := dc_181 (sg_at zd_dX5_refuse_0 7 rfl rfl) rfl
theorem dX5_refuse_16 : decode cX5_refuse 16 = .ok (.iconst 0, 1) := dc_3 (sg_at zd_dX5_refuse_0 8 rfl rfl)
theorem dX5_refuse_17 : decode cX5_refuse 17 = .ok (.ireturn, 1) := dc_172 (sg_at zd_dX5_refuse_0 9 rfl rfl)
theorem zd_dX5_countKnot_0 : sg (cX5_countKnot.data.toList.drop 0) [[42], [180, 0, 9], [180, 0, 229], [16, 64], [161, 0, 9], [42], [5], [182, 0, 89], [172], [42], [180, 0, 9], [89], [180, 0, 229], [4], [96], [181, 0, 229], [4], [172]] = true := by decide +kernel
theorem dX5_countKnot_0 : decode cX5_countKnot 0 = .ok (.aload_n 0, 1) := dc_42 (sg_at zd_dX5_countKnot_0 0 rfl rfl)
theorem dX5_countKnot_1 : decode cX5_countKnot 1 = .ok (.getfield 9, 3) := dc_180 (sg_at zd_dX5_countKnot_0 1 rfl rfl) rfl
theorem dX5_countKnot_4 : decode cX5_countKnot 4 = .ok (.getfield 229, 3) := dc_180 (sg_at zd_dX5_countKnot_0 2 rfl rfl) rfl
theorem dX5_countKnot_7 : decode cX5_countKnot 7 = .ok (.bipush 64, 2) := dc_16 (sg_at zd_dX5_countKnot_0 3 rfl rfl) rfl
theorem dX5_countKnot_9 : decode cX5_countKnot 9 = .ok (.if_icmp .lt 9, 3) := dc_161 (sg_at zd_dX5_countKnot_0 4 rfl rfl) rfl
theorem dX5_countKnot_12 : decode cX5_countKnot 12 = .ok (.aload_n 0, 1) := dc_42 (sg_at zd_dX5_countKnot_0 5 rfl rfl)
theorem dX5_countKnot_13 : decode cX5_countKnot 13 = .ok (.iconst 2, 1) := dc_5 (sg_at zd_dX5_countKnot_0 6 rfl rfl)
theorem dX5_countKnot_14 : decode cX5_countKnot 14 = .ok (.invokevirtual 89, 3) := dc_182 (sg_at zd_dX5_countKnot_0 7 rfl rfl) rfl
theorem dX5_countKnot_17 : decode cX5_countKnot 17 = .ok (.ireturn, 1) := dc_172 (sg_at zd_dX5_countKnot_0 8 rfl rfl)
theorem dX5_countKnot_18 : decode cX5_countKnot 18 = .ok (.aload_n 0, 1) := dc_42 (sg_at zd_dX5_countKnot_0 9 rfl rfl)
theorem dX5_countKnot_19 : decode cX5_countKnot 19 = .ok (.getfield 9, 3) := dc_180 (sg_at zd_dX5_countKnot_0 10 rfl rfl) rfl
theorem dX5_countKnot_22 : decode cX5_countKnot 22 = .ok (.dup, 1) := dc_89 (sg_at zd_dX5_countKnot_0 11 rfl rfl)
theorem dX5_countKnot_23 : decode cX5_countKnot 23 = .ok (.getfield 229, 3) := dc_180 (sg_at zd_dX5_countKnot_0 12 rfl rfl) rfl
theorem dX5_countKnot_26 : decode cX5_countKnot 26 = .ok (.iconst 1, 1) := dc_4 (sg_at zd_dX5_countKnot_0 13 rfl rfl)
theorem dX5_countKnot_27 : decode cX5_countKnot 27 = .ok (.iadd, 1) := dc_96 (sg_at zd_dX5_countKnot_0 14 rfl rfl)
theorem dX5_countKnot_28 : decode cX5_countKnot 28 = .ok (.putfield 229, 3) := dc_181 (sg_at zd_dX5_countKnot_0 15 rfl rfl) rfl
theorem dX5_countKnot_31 : decode cX5_countKnot 31 = .ok (.iconst 1, 1) := dc_4 (sg_at zd_dX5_countKnot_0 16 rfl rfl)
theorem dX5_countKnot_32 : decode cX5_countKnot 32 = .ok (.ireturn, 1) := dc_172 (sg_at zd_dX5_countKnot_0 17 rfl rfl)
theorem zd_dX7_isLetter_0 : sg (cX7_isLetter.data.toList.drop 0) [[26], [16, 97], [161, 0, 13], [26], [16, 122], [163, 0, 7], [4], [167, 0, 4], [3], [172]] = true := by decide +kernel
theorem dX7_isLetter_0 : decode cX7_isLetter 0 = .ok (.iload_n 0, 1) := dc_26 (sg_at zd_dX7_isLetter_0 0 rfl rfl)
theorem dX7_isLetter_1 : decode cX7_isLetter 1 = .ok (.bipush 97, 2) := dc_16 (sg_at zd_dX7_isLetter_0 1 rfl rfl) rfl
theorem dX7_isLetter_3 : decode cX7_isLetter 3 = .ok (.if_icmp .lt 13, 3) := dc_161 (sg_at zd_dX7_isLetter_0 2 rfl rfl) rfl
theorem dX7_isLetter_6 : decode cX7_isLetter 6 = .ok (.iload_n 0, 1) := dc_26 (sg_at zd_dX7_isLetter_0 3 rfl rfl)
theorem dX7_isLetter_7 : decode cX7_isLetter 7 = .ok (.bipush 122, 2) := dc_16 (sg_at zd_dX7_isLetter_0 4 rfl rfl) rfl
theorem dX7_isLetter_9 : decode cX7_isLetter 9 = .ok (.if_icmp .gt 7, 3) := dc_163 (sg_at zd_dX7_isLetter_0 5 rfl rfl) rfl
theorem dX7_isLetter_12 : decode cX7_isLetter 12 = .ok (.iconst 1, 1) := dc_4 (sg_at zd_dX7_isLetter_0 6 rfl rfl)
theorem dX7_isLetter_13 : decode cX7_isLetter 13 = .ok (.goto 4, 3) := dc_167 (sg_at zd_dX7_isLetter_0 7 rfl rfl) rfl
theorem dX7_isLetter_16 : decode cX7_isLetter 16 = .ok (.iconst 0, 1) := dc_3 (sg_at zd_dX7_isLetter_0 8 rfl rfl)
theorem dX7_isLetter_17 : decode cX7_isLetter 17 = .ok (.ireturn, 1) := dc_172 (sg_at zd_dX7_isLetter_0 9 rfl rfl)
theorem zd_dX7_letterBits_0 : sg (cX7_letterBits.data.toList.drop 0) [[26], [16, 97], [100], [4], [96], [16, 25], [8], [27], [104], [100], [120], [172]] = true := by decide +kernel
theorem dX7_letterBits_0 : decode cX7_letterBits 0 = .ok (.iload_n 0, 1) := dc_26 (sg_at zd_dX7_letterBits_0 0 rfl rfl)
theorem dX7_letterBits_1 : decode cX7_letterBits 1 = .ok (.bipush 97, 2) := dc_16 (sg_at zd_dX7_letterBits_0 1 rfl rfl) rfl
theorem dX7_letterBits_3 : decode cX7_letterBits 3 = .ok (.isub, 1) := dc_100 (sg_at zd_dX7_letterBits_0 2 rfl rfl)
theorem dX7_letterBits_4 : decode cX7_letterBits 4 = .ok (.iconst 1, 1) := dc_4 (sg_at zd_dX7_letterBits_0 3 rfl rfl)
theorem dX7_letterBits_5 : decode cX7_letterBits 5 = .ok (.iadd, 1) := dc_96 (sg_at zd_dX7_letterBits_0 4 rfl rfl)
theorem dX7_letterBits_6 : decode cX7_letterBits 6 = .ok (.bipush 25, 2) := dc_16 (sg_at zd_dX7_letterBits_0 5 rfl rfl) rfl
theorem dX7_letterBits_8 : decode cX7_letterBits 8 = .ok (.iconst 5, 1) := dc_8 (sg_at zd_dX7_letterBits_0 6 rfl rfl)
theorem dX7_letterBits_9 : decode cX7_letterBits 9 = .ok (.iload_n 1, 1) := dc_27 (sg_at zd_dX7_letterBits_0 7 rfl rfl)
theorem dX7_letterBits_10 : decode cX7_letterBits 10 = .ok (.imul, 1) := dc_104 (sg_at zd_dX7_letterBits_0 8 rfl rfl)
theorem dX7_letterBits_11 : decode cX7_letterBits 11 = .ok (.isub, 1) := dc_100 (sg_at zd_dX7_letterBits_0 9 rfl rfl)
theorem dX7_letterBits_12 : decode cX7_letterBits 12 = .ok (.ishl, 1) := dc_120 (sg_at zd_dX7_letterBits_0 10 rfl rfl)
theorem dX7_letterBits_13 : decode cX7_letterBits 13 = .ok (.ireturn, 1) := dc_172 (sg_at zd_dX7_letterBits_0 11 rfl rfl)
theorem zd_dX5_isFirst_0 : sg (cX5_isFirst.data.toList.drop 0) [[4], [27], [120], [61], [42], [180, 0, 38], [28], [126], [153, 0, 9], [42], [6], [182, 0, 89], [172], [42], [89], [180, 0, 38], [28], [128], [181, 0, 38], [4]] = true := by decide +kernel
theorem dX5_isFirst_0 : decode cX5_isFirst 0 = .ok (.iconst 1, 1) := dc_4 (sg_at zd_dX5_isFirst_0 0 rfl rfl)
theorem dX5_isFirst_1 : decode cX5_isFirst 1 = .ok (.iload_n 1, 1) := dc_27 (sg_at zd_dX5_isFirst_0 1 rfl rfl)
theorem dX5_isFirst_2 : decode cX5_isFirst 2 = .ok (.ishl, 1) := dc_120 (sg_at zd_dX5_isFirst_0 2 rfl rfl)
theorem dX5_isFirst_3 : decode cX5_isFirst 3 = .ok (.istore_n 2, 1) := dc_61 (sg_at zd_dX5_isFirst_0 3 rfl rfl)
theorem dX5_isFirst_4 : decode cX5_isFirst 4 = .ok (.aload_n 0, 1) := dc_42 (sg_at zd_dX5_isFirst_0 4 rfl rfl)
theorem dX5_isFirst_5 : decode cX5_isFirst 5 = .ok (.getfield 38, 3) := dc_180 (sg_at zd_dX5_isFirst_0 5 rfl rfl) rfl
theorem dX5_isFirst_8 : decode cX5_isFirst 8 = .ok (.iload_n 2, 1) := dc_28 (sg_at zd_dX5_isFirst_0 6 rfl rfl)
theorem dX5_isFirst_9 : decode cX5_isFirst 9 = .ok (.iand, 1) := dc_126 (sg_at zd_dX5_isFirst_0 7 rfl rfl)
theorem dX5_isFirst_10 : decode cX5_isFirst 10 = .ok (.ifCond .eq 9, 3) := dc_153 (sg_at zd_dX5_isFirst_0 8 rfl rfl) rfl
theorem dX5_isFirst_13 : decode cX5_isFirst 13 = .ok (.aload_n 0, 1) := dc_42 (sg_at zd_dX5_isFirst_0 9 rfl rfl)
theorem dX5_isFirst_14 : decode cX5_isFirst 14 = .ok (.iconst 3, 1) := dc_6 (sg_at zd_dX5_isFirst_0 10 rfl rfl)
theorem dX5_isFirst_15 : decode cX5_isFirst 15 = .ok (.invokevirtual 89, 3) := dc_182 (sg_at zd_dX5_isFirst_0 11 rfl rfl) rfl
theorem dX5_isFirst_18 : decode cX5_isFirst 18 = .ok (.ireturn, 1) := dc_172 (sg_at zd_dX5_isFirst_0 12 rfl rfl)
theorem dX5_isFirst_19 : decode cX5_isFirst 19 = .ok (.aload_n 0, 1) := dc_42 (sg_at zd_dX5_isFirst_0 13 rfl rfl)
theorem dX5_isFirst_20 : decode cX5_isFirst 20 = .ok (.dup, 1) := dc_89 (sg_at zd_dX5_isFirst_0 14 rfl rfl)
theorem dX5_isFirst_21 : decode cX5_isFirst 21 = .ok (.getfield 38, 3) := dc_180 (sg_at zd_dX5_isFirst_0 15 rfl rfl) rfl
theorem dX5_isFirst_24 : decode cX5_isFirst 24 = .ok (.iload_n 2, 1) := dc_28 (sg_at zd_dX5_isFirst_0 16 rfl rfl)
theorem dX5_isFirst_25 : decode cX5_isFirst 25 = .ok (.ior, 1) := dc_128 (sg_at zd_dX5_isFirst_0 17 rfl rfl)
theorem dX5_isFirst_26 : decode cX5_isFirst 26 = .ok (.putfield 38, 3) := dc_181 (sg_at zd_dX5_isFirst_0 18 rfl rfl) rfl
theorem dX5_isFirst_29 : decode cX5_isFirst 29 = .ok (.iconst 1, 1) := dc_4 (sg_at zd_dX5_isFirst_0 19 rfl rfl)
theorem zd_dX5_isFirst_30 : sg (cX5_isFirst.data.toList.drop 30) [[172]] = true := by decide +kernel
theorem dX5_isFirst_30 : decode cX5_isFirst 30 = .ok (.ireturn, 1) := dc_172 (sg_at zd_dX5_isFirst_30 0 rfl rfl)
theorem zd_dX5_letWait_0 : sg (cX5_letWait.data.toList.drop 0) [[42], [180, 0, 185], [42], [180, 0, 22], [190], [161, 0, 9], [42], [5], [182, 0, 89], [172], [42], [180, 0, 22], [42], [180, 0, 185], [27], [79], [42], [89], [180, 0, 185], [4]] = true := by decide +kernel
theorem dX5_letWait_0 : decode cX5_letWait 0 = .ok (.aload_n 0, 1) := dc_42 (sg_at zd_dX5_letWait_0 0 rfl rfl)
theorem dX5_letWait_1 : decode cX5_letWait 1 = .ok (.getfield 185, 3) := dc_180 (sg_at zd_dX5_letWait_0 1 rfl rfl) rfl
theorem dX5_letWait_4 : decode cX5_letWait 4 = .ok (.aload_n 0, 1) := dc_42 (sg_at zd_dX5_letWait_0 2 rfl rfl)
theorem dX5_letWait_5 : decode cX5_letWait 5 = .ok (.getfield 22, 3) := dc_180 (sg_at zd_dX5_letWait_0 3 rfl rfl) rfl
theorem dX5_letWait_8 : decode cX5_letWait 8 = .ok (.arraylength, 1) := dc_190 (sg_at zd_dX5_letWait_0 4 rfl rfl)
theorem dX5_letWait_9 : decode cX5_letWait 9 = .ok (.if_icmp .lt 9, 3) := dc_161 (sg_at zd_dX5_letWait_0 5 rfl rfl) rfl
theorem dX5_letWait_12 : decode cX5_letWait 12 = .ok (.aload_n 0, 1) := dc_42 (sg_at zd_dX5_letWait_0 6 rfl rfl)
theorem dX5_letWait_13 : decode cX5_letWait 13 = .ok (.iconst 2, 1) := dc_5 (sg_at zd_dX5_letWait_0 7 rfl rfl)
theorem dX5_letWait_14 : decode cX5_letWait 14 = .ok (.invokevirtual 89, 3) := dc_182 (sg_at zd_dX5_letWait_0 8 rfl rfl) rfl
theorem dX5_letWait_17 : decode cX5_letWait 17 = .ok (.ireturn, 1) := dc_172 (sg_at zd_dX5_letWait_0 9 rfl rfl)
theorem dX5_letWait_18 : decode cX5_letWait 18 = .ok (.aload_n 0, 1) := dc_42 (sg_at zd_dX5_letWait_0 10 rfl rfl)
theorem dX5_letWait_19 : decode cX5_letWait 19 = .ok (.getfield 22, 3) := dc_180 (sg_at zd_dX5_letWait_0 11 rfl rfl) rfl
theorem dX5_letWait_22 : decode cX5_letWait 22 = .ok (.aload_n 0, 1) := dc_42 (sg_at zd_dX5_letWait_0 12 rfl rfl)
theorem dX5_letWait_23 : decode cX5_letWait 23 = .ok (.getfield 185, 3) := dc_180 (sg_at zd_dX5_letWait_0 13 rfl rfl) rfl
theorem dX5_letWait_26 : decode cX5_letWait 26 = .ok (.iload_n 1, 1) := dc_27 (sg_at zd_dX5_letWait_0 14 rfl rfl)
theorem dX5_letWait_27 : decode cX5_letWait 27 = .ok (.iastore, 1) := dc_79 (sg_at zd_dX5_letWait_0 15 rfl rfl)
theorem dX5_letWait_28 : decode cX5_letWait 28 = .ok (.aload_n 0, 1) := dc_42 (sg_at zd_dX5_letWait_0 16 rfl rfl)
theorem dX5_letWait_29 : decode cX5_letWait 29 = .ok (.dup, 1) := dc_89 (sg_at zd_dX5_letWait_0 17 rfl rfl)
theorem dX5_letWait_30 : decode cX5_letWait 30 = .ok (.getfield 185, 3) := dc_180 (sg_at zd_dX5_letWait_0 18 rfl rfl) rfl
theorem dX5_letWait_33 : decode cX5_letWait 33 = .ok (.iconst 1, 1) := dc_4 (sg_at zd_dX5_letWait_0 19 rfl rfl)
theorem zd_dX5_letWait_34 : sg (cX5_letWait.data.toList.drop 34) [[96], [181, 0, 185], [4], [172]] = true := by decide +kernel
theorem dX5_letWait_34 : decode cX5_letWait 34 = .ok (.iadd, 1) := dc_96 (sg_at zd_dX5_letWait_34 0 rfl rfl)
theorem dX5_letWait_35 : decode cX5_letWait 35 = .ok (.putfield 185, 3) := dc_181 (sg_at zd_dX5_letWait_34 1 rfl rfl) rfl
theorem dX5_letWait_38 : decode cX5_letWait 38 = .ok (.iconst 1, 1) := dc_4 (sg_at zd_dX5_letWait_34 2 rfl rfl)
theorem dX5_letWait_39 : decode cX5_letWait 39 = .ok (.ireturn, 1) := dc_172 (sg_at zd_dX5_letWait_34 3 rfl rfl)
theorem zd_dX7_skipBlanks_0 : sg (cX7_skipBlanks.data.toList.drop 0) [[42], [180, 0, 44], [42], [180, 0, 40], [162, 0, 45], [42], [180, 0, 15], [42], [180, 0, 44], [51], [16, 10], [159, 0, 18], [42], [180, 0, 15], [42], [180, 0, 44], [51], [16, 32], [159, 0, 4], [177]] = true := by decide +kernel
theorem dX7_skipBlanks_0 : decode cX7_skipBlanks 0 = .ok (.aload_n 0, 1) := dc_42 (sg_at zd_dX7_skipBlanks_0 0 rfl rfl)
theorem dX7_skipBlanks_1 : decode cX7_skipBlanks 1 = .ok (.getfield 44, 3) := dc_180 (sg_at zd_dX7_skipBlanks_0 1 rfl rfl) rfl
theorem dX7_skipBlanks_4 : decode cX7_skipBlanks 4 = .ok (.aload_n 0, 1) := dc_42 (sg_at zd_dX7_skipBlanks_0 2 rfl rfl)
theorem dX7_skipBlanks_5 : decode cX7_skipBlanks 5 = .ok (.getfield 40, 3) := dc_180 (sg_at zd_dX7_skipBlanks_0 3 rfl rfl) rfl
theorem dX7_skipBlanks_8 : decode cX7_skipBlanks 8 = .ok (.if_icmp .ge 45, 3) := dc_162 (sg_at zd_dX7_skipBlanks_0 4 rfl rfl) rfl
theorem dX7_skipBlanks_11 : decode cX7_skipBlanks 11 = .ok (.aload_n 0, 1) := dc_42 (sg_at zd_dX7_skipBlanks_0 5 rfl rfl)
theorem dX7_skipBlanks_12 : decode cX7_skipBlanks 12 = .ok (.getfield 15, 3) := dc_180 (sg_at zd_dX7_skipBlanks_0 6 rfl rfl) rfl
theorem dX7_skipBlanks_15 : decode cX7_skipBlanks 15 = .ok (.aload_n 0, 1) := dc_42 (sg_at zd_dX7_skipBlanks_0 7 rfl rfl)
theorem dX7_skipBlanks_16 : decode cX7_skipBlanks 16 = .ok (.getfield 44, 3) := dc_180 (sg_at zd_dX7_skipBlanks_0 8 rfl rfl) rfl
theorem dX7_skipBlanks_19 : decode cX7_skipBlanks 19 = .ok (.baload, 1) := dc_51 (sg_at zd_dX7_skipBlanks_0 9 rfl rfl)
theorem dX7_skipBlanks_20 : decode cX7_skipBlanks 20 = .ok (.bipush 10, 2) := dc_16 (sg_at zd_dX7_skipBlanks_0 10 rfl rfl) rfl
theorem dX7_skipBlanks_22 : decode cX7_skipBlanks 22 = .ok (.if_icmp .eq 18, 3) := dc_159 (sg_at zd_dX7_skipBlanks_0 11 rfl rfl) rfl
theorem dX7_skipBlanks_25 : decode cX7_skipBlanks 25 = .ok (.aload_n 0, 1) := dc_42 (sg_at zd_dX7_skipBlanks_0 12 rfl rfl)
theorem dX7_skipBlanks_26 : decode cX7_skipBlanks 26 = .ok (.getfield 15, 3) := dc_180 (sg_at zd_dX7_skipBlanks_0 13 rfl rfl) rfl
theorem dX7_skipBlanks_29 : decode cX7_skipBlanks 29 = .ok (.aload_n 0, 1) := dc_42 (sg_at zd_dX7_skipBlanks_0 14 rfl rfl)
theorem dX7_skipBlanks_30 : decode cX7_skipBlanks 30 = .ok (.getfield 44, 3) := dc_180 (sg_at zd_dX7_skipBlanks_0 15 rfl rfl) rfl
theorem dX7_skipBlanks_33 : decode cX7_skipBlanks 33 = .ok (.baload, 1) := dc_51 (sg_at zd_dX7_skipBlanks_0 16 rfl rfl)
theorem dX7_skipBlanks_34 : decode cX7_skipBlanks 34 = .ok (.bipush 32, 2) := dc_16 (sg_at zd_dX7_skipBlanks_0 17 rfl rfl) rfl
theorem dX7_skipBlanks_36 : decode cX7_skipBlanks 36 = .ok (.if_icmp .eq 4, 3) := dc_159 (sg_at zd_dX7_skipBlanks_0 18 rfl rfl) rfl
theorem dX7_skipBlanks_39 : decode cX7_skipBlanks 39 = .ok (.return_, 1) := dc_177 (sg_at zd_dX7_skipBlanks_0 19 rfl rfl)
theorem zd_dX7_skipBlanks_40 : sg (cX7_skipBlanks.data.toList.drop 40) [[42], [89], [180, 0, 44], [4], [96], [181, 0, 44], [167, 255, 206], [177]] = true := by decide +kernel
theorem dX7_skipBlanks_40 : decode cX7_skipBlanks 40 = .ok (.aload_n 0, 1) := dc_42 (sg_at zd_dX7_skipBlanks_40 0 rfl rfl)
theorem dX7_skipBlanks_41 : decode cX7_skipBlanks 41 = .ok (.dup, 1) := dc_89 (sg_at zd_dX7_skipBlanks_40 1 rfl rfl)
theorem dX7_skipBlanks_42 : decode cX7_skipBlanks 42 = .ok (.getfield 44, 3) := dc_180 (sg_at zd_dX7_skipBlanks_40 2 rfl rfl) rfl
theorem dX7_skipBlanks_45 : decode cX7_skipBlanks 45 = .ok (.iconst 1, 1) := dc_4 (sg_at zd_dX7_skipBlanks_40 3 rfl rfl)
theorem dX7_skipBlanks_46 : decode cX7_skipBlanks 46 = .ok (.iadd, 1) := dc_96 (sg_at zd_dX7_skipBlanks_40 4 rfl rfl)
theorem dX7_skipBlanks_47 : decode cX7_skipBlanks 47 = .ok (.putfield 44, 3) := dc_181 (sg_at zd_dX7_skipBlanks_40 5 rfl rfl) rfl
theorem dX7_skipBlanks_50 : decode cX7_skipBlanks 50 = .ok (.goto (-50), 3) := dc_167 (sg_at zd_dX7_skipBlanks_40 6 rfl rfl) rfl
theorem dX7_skipBlanks_53 : decode cX7_skipBlanks 53 = .ok (.return_, 1) := dc_177 (sg_at zd_dX7_skipBlanks_40 7 rfl rfl)
section
variable {p : Program} {l : Launch} {e : Env} {s : State} {m : MethodId} {args : Array Value} {below : List Frame} {meth : Method} {c : Code} {D : va_G} {cy : Nat → ClassId} {b : Nat} {A : Nat → Prop} {fl : Bool}
def vX2_add : List Cond := .code yX2_add cX2_add 2 none :: TB
theorem lf2_add_15 : Fl vX2_add RX2 15 2 1 := ⟨RX2, TX2, 3, rfl, by decide, (fun w h9 => List.mem_cons_of_mem _ (wC_wsX20 w h9)), (List.mem_cons_of_mem _ wT_15_9)⟩
theorem lf2_add_9 : Fl vX2_add RX2 9 2 0 := ⟨RX2, TX2, 3, rfl, by decide, (fun w h9 => List.mem_cons_of_mem _ (wC_wsX20 w h9)), (List.mem_cons_of_mem _ wT_4_18)⟩
theorem lp2_add_15 : Pl vX2_add RX2 15 2 1 .int := ⟨RX2, TX2, 3, tyX2, rfl, by decide, (fun w h9 => List.mem_cons_of_mem _ (wC_wsX20 w h9)), (List.mem_cons_of_mem _ wT_15_9), tyX2_ok, nmX2, rfl, rfl⟩
theorem cd2_add : Cd yX2_add 1 := ⟨by decide, by decide, by decide +kernel⟩
set_option maxHeartbeats 4000000 in
set_option maxRecDepth 100000 in
theorem T2_add_0 (S : CallFix p m c cX2_add 2 s args vX2_add RX2) (hr : meth.sig.returnType = none) (hlo : meth.locks = false) {out : PH} {h : PH} {a0 : Nat} {x1 : Int32} (f : F2_add_0  h a0 x1 = some out) {H : Heap} {locs : List Loc} (I : ph_I D cy b A fl h s H locs) {ls : Array Slot} (hl : lv_has ls 2 [(0, .ref (b + a0)), (1, .int x1)]) : W p l e ({ frames := 0, cells := 0, slots := 0, locals := 0 } : Room) s m args below meth c H locs 0 0 (MQ below (va_Qv (fun (u : PH) => u = out) (ph_B D cy b A fl) A) args s 0 0 A) (F0 m 0 ls []) := by
  unfold F2_add_0 at f
  refine lv_aload_n S.1 S.2.1 dX2_add_0 rfl (lv_at hl 0 rfl) ?_
  obtain ⟨v1, e2, f⟩ := ob f
  refine o_gI S lf2_add_15 I e2 dX2_add_1 ?_
  refine lv_aload_n S.1 S.2.1 dX2_add_4 rfl (lv_at hl 0 rfl) ?_
  obtain ⟨r3, e4, f⟩ := ob f
  refine o_gR S lf2_add_9 I e4 dX2_add_5 ?_
  obtain ⟨v5, e6, f⟩ := ob f
  refine o_alen S I e6 dX2_add_8 ?_
  refine lv_icmp_ge (tgt := 32) S.1 S.2.1 dX2_add_9 (by decide) (fun q7 => ?_) (fun q7 => ?_)
  · have f := (if_pos q7).symm.trans f
    exact o_vret S hr hlo I f dX2_add_32
  · have f := (if_neg q7).symm.trans f
    refine lv_aload_n S.1 S.2.1 dX2_add_12 rfl (lv_at hl 0 rfl) ?_
    obtain ⟨r8, e9, f⟩ := ob f
    refine o_gR S lf2_add_9 I e9 dX2_add_13 ?_
    refine lv_aload_n S.1 S.2.1 dX2_add_16 rfl (lv_at hl 0 rfl) ?_
    obtain ⟨v10, e11, f⟩ := ob f
    refine o_gI S lf2_add_15 I e11 dX2_add_17 ?_
    refine lv_iload_n S.1 S.2.1 dX2_add_20 rfl (lv_at hl 1 rfl) ?_
    obtain ⟨h13, e12, f⟩ := ob f
    refine o_iast S I e12 dX2_add_21 (fun H locs I => ?_)
    refine lv_aload_n S.1 S.2.1 dX2_add_22 rfl (lv_at hl 0 rfl) ?_
    refine lv_dup S.1 S.2.1 dX2_add_23 rfl ?_
    obtain ⟨v14, e15, f⟩ := ob f
    refine o_gI S lf2_add_15 I e15 dX2_add_24 ?_
    refine lv_iconst (v := 1) S.1 S.2.1 dX2_add_27 (by decide) ?_
    refine lv_iadd S.1 S.2.1 dX2_add_28 ?_
    obtain ⟨h16, e17, f⟩ := ob f
    refine o_pI S lp2_add_15 I e17 dX2_add_29 (fun H locs I => ?_)
    exact o_vret S hr hlo I f dX2_add_32
theorem M2_add (l : Launch) (D : va_G) (cy : Nat → ClassId) (b : Nat) (A : Nat → Prop) (fl : Bool) {h : PH} {a0 : Nat} {x1 : Int32} {out : PH} (f : F2_add h a0 x1 = some out) : Met l yX2_add vX2_add ({ frames := 0, cells := 0, slots := 0, locals := 0 } : Room) (va_Pc [.ref (b + a0), .int x1] (ph_B D cy b A fl h)) (va_Qv (fun (u : PH) => u = out) (ph_B D cy b A fl) A) 0 0 A :=
  o_met (by decide) rfl (Nat.le_of_ble_eq_true rfl) rfl (fun p e s m below meth c S hr hlo hnm ls hl I => T2_add_0 S hr hlo ((gd f).2) I (lv_sub hl [0, 1] rfl))
def vX2_forget : List Cond := .code yX2_forget cX2_forget 1 none :: TB
theorem lp2_forget_15 : Pl vX2_forget RX2 15 2 1 .int := ⟨RX2, TX2, 3, tyX2, rfl, by decide, (fun w h9 => List.mem_cons_of_mem _ (wC_wsX20 w h9)), (List.mem_cons_of_mem _ wT_15_9), tyX2_ok, nmX2, rfl, rfl⟩
theorem lp2_forget_19 : Pl vX2_forget RX2 19 2 2 .boolean := ⟨RX2, TX2, 3, tyX2, rfl, by decide, (fun w h9 => List.mem_cons_of_mem _ (wC_wsX20 w h9)), (List.mem_cons_of_mem _ wT_15_10), tyX2_ok, nmX2, rfl, rfl⟩
theorem cd2_forget : Cd yX2_forget 0 := ⟨by decide, by decide, by decide +kernel⟩
set_option maxHeartbeats 4000000 in
set_option maxRecDepth 100000 in
theorem T2_forget_0 (S : CallFix p m c cX2_forget 1 s args vX2_forget RX2) (hr : meth.sig.returnType = none) (hlo : meth.locks = false) {out : PH} {h : PH} {a0 : Nat} (f : F2_forget_0  h a0 = some out) {H : Heap} {locs : List Loc} (I : ph_I D cy b A fl h s H locs) {ls : Array Slot} (hl : lv_has ls 1 [(0, .ref (b + a0))]) : W p l e ({ frames := 0, cells := 0, slots := 0, locals := 0 } : Room) s m args below meth c H locs 0 0 (MQ below (va_Qv (fun (u : PH) => u = out) (ph_B D cy b A fl) A) args s 0 0 A) (F0 m 0 ls []) := by
  unfold F2_forget_0 at f
  refine lv_aload_n S.1 S.2.1 dX2_forget_0 rfl (lv_at hl 0 rfl) ?_
  refine lv_iconst (v := 0) S.1 S.2.1 dX2_forget_1 (by decide) ?_
  obtain ⟨h1, e2, f⟩ := ob f
  refine o_pI S lp2_forget_15 I e2 dX2_forget_2 (fun H locs I => ?_)
  refine lv_aload_n S.1 S.2.1 dX2_forget_5 rfl (lv_at hl 0 rfl) ?_
  refine lv_iconst (v := 0) S.1 S.2.1 dX2_forget_6 (by decide) ?_
  obtain ⟨h3, e4, f⟩ := ob f
  refine o_pZ S lp2_forget_19 I e4 dX2_forget_7 (fun H locs I => ?_)
  exact o_vret S hr hlo I f dX2_forget_10
theorem M2_forget (l : Launch) (D : va_G) (cy : Nat → ClassId) (b : Nat) (A : Nat → Prop) (fl : Bool) {h : PH} {a0 : Nat} {out : PH} (f : F2_forget h a0 = some out) : Met l yX2_forget vX2_forget ({ frames := 0, cells := 0, slots := 0, locals := 0 } : Room) (va_Pc [.ref (b + a0)] (ph_B D cy b A fl h)) (va_Qv (fun (u : PH) => u = out) (ph_B D cy b A fl) A) 0 0 A :=
  o_met (by decide) rfl (Nat.le_of_ble_eq_true rfl) rfl (fun p e s m below meth c S hr hlo hnm ls hl I => T2_forget_0 S hr hlo ((gd f).2) I (lv_sub hl [0] rfl))
def vX3_addSeat : List Cond := .code yX3_addSeat cX3_addSeat 4 (some .int) :: TB
theorem lf3_addSeat_32 : Fl vX3_addSeat RX3 32 3 0 := ⟨RX3, TX3, 7, rfl, by decide, (fun w h9 => List.mem_cons_of_mem _ (wC_wsX30 w h9)), (List.mem_cons_of_mem _ wT_61_17)⟩
theorem lf3_addSeat_15 : Fl vX3_addSeat RX3 15 3 2 := ⟨RX3, TX3, 7, rfl, by decide, (fun w h9 => List.mem_cons_of_mem _ (wC_wsX30 w h9)), (List.mem_cons_of_mem _ wT_8_15)⟩
theorem lf3_addSeat_19 : Fl vX3_addSeat RX3 19 3 3 := ⟨RX3, TX3, 7, rfl, by decide, (fun w h9 => List.mem_cons_of_mem _ (wC_wsX30 w h9)), (List.mem_cons_of_mem _ wT_8_16)⟩
theorem lf3_addSeat_22 : Fl vX3_addSeat RX3 22 3 4 := ⟨RX3, TX3, 7, rfl, by decide, (fun w h9 => List.mem_cons_of_mem _ (wC_wsX30 w h9)), (List.mem_cons_of_mem _ wT_8_17)⟩
theorem lf3_addSeat_25 : Fl vX3_addSeat RX3 25 3 5 := ⟨RX3, TX3, 7, rfl, by decide, (fun w h9 => List.mem_cons_of_mem _ (wC_wsX30 w h9)), (List.mem_cons_of_mem _ wT_8_18)⟩
theorem lp3_addSeat_32 : Pl vX3_addSeat RX3 32 3 0 .int := ⟨RX3, TX3, 7, tyX3, rfl, by decide, (fun w h9 => List.mem_cons_of_mem _ (wC_wsX30 w h9)), (List.mem_cons_of_mem _ wT_61_17), tyX3_ok, nmX3, rfl, rfl⟩
theorem cd3_addSeat : Cd yX3_addSeat 3 := ⟨by decide, by decide, by decide +kernel⟩
set_option maxHeartbeats 4000000 in
set_option maxRecDepth 100000 in
theorem T3_addSeat_0 (S : CallFix p m c cX3_addSeat 4 s args vX3_addSeat RX3) (hr : meth.sig.returnType = (some .int)) (hlo : meth.locks = false) {out : Int32 × PH} {h : PH} {a0 : Nat} {x1 : Int32} {x2 : Int32} {x3 : Int32} (f : F3_addSeat_0  h a0 x1 x2 x3 = some out) {H : Heap} {locs : List Loc} (I : ph_I D cy b A fl h s H locs) {ls : Array Slot} (hl : lv_has ls 4 [(0, .ref (b + a0)), (1, .int x1), (2, .int x2), (3, .int x3)]) : W p l e ({ frames := 0, cells := 0, slots := 0, locals := 0 } : Room) s m args below meth c H locs 0 0 (MQ below (va_Qi (fun (r : Int32) (u : PH) => (r, u) = out) (ph_B D cy b A fl) A) args s 0 0 A) (F0 m 0 ls []) := by
  unfold F3_addSeat_0 at f
  refine lv_aload_n S.1 S.2.1 dX3_addSeat_0 rfl (lv_at hl 0 rfl) ?_
  obtain ⟨v1, e2, f⟩ := ob f
  refine o_gI S lf3_addSeat_32 I e2 dX3_addSeat_1 ?_
  refine lv_bipush (v := 24) S.1 S.2.1 dX3_addSeat_4 (by decide) ?_
  refine lv_icmp_lt (tgt := 11) S.1 S.2.1 dX3_addSeat_6 (by decide) (fun q3 => ?_) (fun q3 => ?_)
  · have f := (if_pos q3).symm.trans f
    refine lv_aload_n S.1 S.2.1 dX3_addSeat_11 rfl (lv_at hl 0 rfl) ?_
    obtain ⟨r4, e5, f⟩ := ob f
    refine o_gR S lf3_addSeat_15 I e5 dX3_addSeat_12 ?_
    refine lv_aload_n S.1 S.2.1 dX3_addSeat_15 rfl (lv_at hl 0 rfl) ?_
    obtain ⟨v6, e7, f⟩ := ob f
    refine o_gI S lf3_addSeat_32 I e7 dX3_addSeat_16 ?_
    refine lv_iload_n S.1 S.2.1 dX3_addSeat_19 rfl (lv_at hl 1 rfl) ?_
    obtain ⟨h9, e8, f⟩ := ob f
    refine o_iast S I e8 dX3_addSeat_20 (fun H locs I => ?_)
    refine lv_aload_n S.1 S.2.1 dX3_addSeat_21 rfl (lv_at hl 0 rfl) ?_
    obtain ⟨r10, e11, f⟩ := ob f
    refine o_gR S lf3_addSeat_19 I e11 dX3_addSeat_22 ?_
    refine lv_aload_n S.1 S.2.1 dX3_addSeat_25 rfl (lv_at hl 0 rfl) ?_
    obtain ⟨v12, e13, f⟩ := ob f
    refine o_gI S lf3_addSeat_32 I e13 dX3_addSeat_26 ?_
    refine lv_iload_n S.1 S.2.1 dX3_addSeat_29 rfl (lv_at hl 2 rfl) ?_
    obtain ⟨h15, e14, f⟩ := ob f
    refine o_iast S I e14 dX3_addSeat_30 (fun H locs I => ?_)
    refine lv_aload_n S.1 S.2.1 dX3_addSeat_31 rfl (lv_at hl 0 rfl) ?_
    obtain ⟨r16, e17, f⟩ := ob f
    refine o_gR S lf3_addSeat_22 I e17 dX3_addSeat_32 ?_
    refine lv_aload_n S.1 S.2.1 dX3_addSeat_35 rfl (lv_at hl 0 rfl) ?_
    obtain ⟨v18, e19, f⟩ := ob f
    refine o_gI S lf3_addSeat_32 I e19 dX3_addSeat_36 ?_
    refine lv_iload_n S.1 S.2.1 dX3_addSeat_39 rfl (lv_at hl 3 rfl) ?_
    obtain ⟨h21, e20, f⟩ := ob f
    refine o_iast S I e20 dX3_addSeat_40 (fun H locs I => ?_)
    refine lv_aload_n S.1 S.2.1 dX3_addSeat_41 rfl (lv_at hl 0 rfl) ?_
    obtain ⟨r22, e23, f⟩ := ob f
    refine o_gR S lf3_addSeat_25 I e23 dX3_addSeat_42 ?_
    refine lv_aload_n S.1 S.2.1 dX3_addSeat_45 rfl (lv_at hl 0 rfl) ?_
    obtain ⟨v24, e25, f⟩ := ob f
    refine o_gI S lf3_addSeat_32 I e25 dX3_addSeat_46 ?_
    refine lv_iconst (v := (-1)) S.1 S.2.1 dX3_addSeat_49 (by decide) ?_
    obtain ⟨h27, e26, f⟩ := ob f
    refine o_iast S I e26 dX3_addSeat_50 (fun H locs I => ?_)
    refine lv_aload_n S.1 S.2.1 dX3_addSeat_51 rfl (lv_at hl 0 rfl) ?_
    refine lv_dup S.1 S.2.1 dX3_addSeat_52 rfl ?_
    obtain ⟨v28, e29, f⟩ := ob f
    refine o_gI S lf3_addSeat_32 I e29 dX3_addSeat_53 ?_
    refine lv_iconst (v := 1) S.1 S.2.1 dX3_addSeat_56 (by decide) ?_
    refine lv_iadd S.1 S.2.1 dX3_addSeat_57 ?_
    obtain ⟨h30, e31, f⟩ := ob f
    refine o_pI S lp3_addSeat_32 I e31 dX3_addSeat_58 (fun H locs I => ?_)
    refine lv_aload_n S.1 S.2.1 dX3_addSeat_61 rfl (lv_at hl 0 rfl) ?_
    obtain ⟨v32, e33, f⟩ := ob f
    refine o_gI S lf3_addSeat_32 I e33 dX3_addSeat_62 ?_
    refine lv_iconst (v := 1) S.1 S.2.1 dX3_addSeat_65 (by decide) ?_
    refine lv_isub S.1 S.2.1 dX3_addSeat_66 ?_
    exact o_iret S hr hlo I f dX3_addSeat_67
  · have f := (if_neg q3).symm.trans f
    refine lv_iconst (v := (-1)) S.1 S.2.1 dX3_addSeat_9 (by decide) ?_
    exact o_iret S hr hlo I f dX3_addSeat_10
theorem M3_addSeat (l : Launch) (D : va_G) (cy : Nat → ClassId) (b : Nat) (A : Nat → Prop) (fl : Bool) {h : PH} {a0 : Nat} {x1 : Int32} {x2 : Int32} {x3 : Int32} {out : Int32 × PH} (f : F3_addSeat h a0 x1 x2 x3 = some out) : Met l yX3_addSeat vX3_addSeat ({ frames := 0, cells := 0, slots := 0, locals := 0 } : Room) (va_Pc [.ref (b + a0), .int x1, .int x2, .int x3] (ph_B D cy b A fl h)) (va_Qi (fun (r : Int32) (u : PH) => (r, u) = out) (ph_B D cy b A fl) A) 0 0 A :=
  o_met (by decide) rfl (Nat.le_of_ble_eq_true rfl) rfl (fun p e s m below meth c S hr hlo hnm ls hl I => T3_addSeat_0 S hr hlo ((gd f).2) I (lv_sub hl [0, 1, 2, 3] rfl))
def vX3_addStrike : List Cond := .code yX3_addStrike cX3_addStrike 2 (some .int) :: TB
theorem lf3_addStrike_32 : Fl vX3_addStrike RX3 32 3 0 := ⟨RX3, TX3, 7, rfl, by decide, (fun w h9 => List.mem_cons_of_mem _ (wC_wsX30 w h9)), (List.mem_cons_of_mem _ wT_61_17)⟩
theorem lf3_addStrike_19 : Fl vX3_addStrike RX3 19 3 3 := ⟨RX3, TX3, 7, rfl, by decide, (fun w h9 => List.mem_cons_of_mem _ (wC_wsX30 w h9)), (List.mem_cons_of_mem _ wT_8_16)⟩
theorem lf3_addStrike_25 : Fl vX3_addStrike RX3 25 3 5 := ⟨RX3, TX3, 7, rfl, by decide, (fun w h9 => List.mem_cons_of_mem _ (wC_wsX30 w h9)), (List.mem_cons_of_mem _ wT_8_18)⟩
theorem lp3_addStrike_32 : Pl vX3_addStrike RX3 32 3 0 .int := ⟨RX3, TX3, 7, tyX3, rfl, by decide, (fun w h9 => List.mem_cons_of_mem _ (wC_wsX30 w h9)), (List.mem_cons_of_mem _ wT_61_17), tyX3_ok, nmX3, rfl, rfl⟩
theorem cd3_addStrike : Cd yX3_addStrike 1 := ⟨by decide, by decide, by decide +kernel⟩
set_option maxHeartbeats 4000000 in
set_option maxRecDepth 100000 in
theorem T3_addStrike_0 (S : CallFix p m c cX3_addStrike 2 s args vX3_addStrike RX3) (hr : meth.sig.returnType = (some .int)) (hlo : meth.locks = false) {out : Int32 × PH} {h : PH} {a0 : Nat} {x1 : Int32} (f : F3_addStrike_0  h a0 x1 = some out) {H : Heap} {locs : List Loc} (I : ph_I D cy b A fl h s H locs) {ls : Array Slot} (hl : lv_has ls 2 [(0, .ref (b + a0)), (1, .int x1)]) : W p l e ({ frames := 0, cells := 0, slots := 0, locals := 0 } : Room) s m args below meth c H locs 0 0 (MQ below (va_Qi (fun (r : Int32) (u : PH) => (r, u) = out) (ph_B D cy b A fl) A) args s 0 0 A) (F0 m 0 ls []) := by
  unfold F3_addStrike_0 at f
  refine lv_aload_n S.1 S.2.1 dX3_addStrike_0 rfl (lv_at hl 0 rfl) ?_
  obtain ⟨v1, e2, f⟩ := ob f
  refine o_gI S lf3_addStrike_32 I e2 dX3_addStrike_1 ?_
  refine lv_bipush (v := 24) S.1 S.2.1 dX3_addStrike_4 (by decide) ?_
  refine lv_icmp_lt (tgt := 11) S.1 S.2.1 dX3_addStrike_6 (by decide) (fun q3 => ?_) (fun q3 => ?_)
  · have f := (if_pos q3).symm.trans f
    refine lv_aload_n S.1 S.2.1 dX3_addStrike_11 rfl (lv_at hl 0 rfl) ?_
    obtain ⟨r4, e5, f⟩ := ob f
    refine o_gR S lf3_addStrike_19 I e5 dX3_addStrike_12 ?_
    refine lv_aload_n S.1 S.2.1 dX3_addStrike_15 rfl (lv_at hl 0 rfl) ?_
    obtain ⟨v6, e7, f⟩ := ob f
    refine o_gI S lf3_addStrike_32 I e7 dX3_addStrike_16 ?_
    refine lv_iconst (v := (-1)) S.1 S.2.1 dX3_addStrike_19 (by decide) ?_
    obtain ⟨h9, e8, f⟩ := ob f
    refine o_iast S I e8 dX3_addStrike_20 (fun H locs I => ?_)
    refine lv_aload_n S.1 S.2.1 dX3_addStrike_21 rfl (lv_at hl 0 rfl) ?_
    obtain ⟨r10, e11, f⟩ := ob f
    refine o_gR S lf3_addStrike_25 I e11 dX3_addStrike_22 ?_
    refine lv_aload_n S.1 S.2.1 dX3_addStrike_25 rfl (lv_at hl 0 rfl) ?_
    obtain ⟨v12, e13, f⟩ := ob f
    refine o_gI S lf3_addStrike_32 I e13 dX3_addStrike_26 ?_
    refine lv_iload_n S.1 S.2.1 dX3_addStrike_29 rfl (lv_at hl 1 rfl) ?_
    obtain ⟨h15, e14, f⟩ := ob f
    refine o_iast S I e14 dX3_addStrike_30 (fun H locs I => ?_)
    refine lv_aload_n S.1 S.2.1 dX3_addStrike_31 rfl (lv_at hl 0 rfl) ?_
    refine lv_dup S.1 S.2.1 dX3_addStrike_32 rfl ?_
    obtain ⟨v16, e17, f⟩ := ob f
    refine o_gI S lf3_addStrike_32 I e17 dX3_addStrike_33 ?_
    refine lv_iconst (v := 1) S.1 S.2.1 dX3_addStrike_36 (by decide) ?_
    refine lv_iadd S.1 S.2.1 dX3_addStrike_37 ?_
    obtain ⟨h18, e19, f⟩ := ob f
    refine o_pI S lp3_addStrike_32 I e19 dX3_addStrike_38 (fun H locs I => ?_)
    refine lv_aload_n S.1 S.2.1 dX3_addStrike_41 rfl (lv_at hl 0 rfl) ?_
    obtain ⟨v20, e21, f⟩ := ob f
    refine o_gI S lf3_addStrike_32 I e21 dX3_addStrike_42 ?_
    refine lv_iconst (v := 1) S.1 S.2.1 dX3_addStrike_45 (by decide) ?_
    refine lv_isub S.1 S.2.1 dX3_addStrike_46 ?_
    exact o_iret S hr hlo I f dX3_addStrike_47
  · have f := (if_neg q3).symm.trans f
    refine lv_iconst (v := (-1)) S.1 S.2.1 dX3_addStrike_9 (by decide) ?_
    exact o_iret S hr hlo I f dX3_addStrike_10
theorem M3_addStrike (l : Launch) (D : va_G) (cy : Nat → ClassId) (b : Nat) (A : Nat → Prop) (fl : Bool) {h : PH} {a0 : Nat} {x1 : Int32} {out : Int32 × PH} (f : F3_addStrike h a0 x1 = some out) : Met l yX3_addStrike vX3_addStrike ({ frames := 0, cells := 0, slots := 0, locals := 0 } : Room) (va_Pc [.ref (b + a0), .int x1] (ph_B D cy b A fl h)) (va_Qi (fun (r : Int32) (u : PH) => (r, u) = out) (ph_B D cy b A fl) A) 0 0 A :=
  o_met (by decide) rfl (Nat.le_of_ble_eq_true rfl) rfl (fun p e s m below meth c S hr hlo hnm ls hl I => T3_addStrike_0 S hr hlo ((gd f).2) I (lv_sub hl [0, 1] rfl))
def vX3_howManyKnown : List Cond := .code yX3_howManyKnown cX3_howManyKnown 1 (some .int) :: TB
theorem lf3_howManyKnown_9 : Fl vX3_howManyKnown RX3 9 3 1 := ⟨RX3, TX3, 7, rfl, by decide, (fun w h9 => List.mem_cons_of_mem _ (wC_wsX30 w h9)), (List.mem_cons_of_mem _ wT_8_14)⟩
theorem lf3_howManyKnown_32 : Fl vX3_howManyKnown RX3 32 3 0 := ⟨RX3, TX3, 7, rfl, by decide, (fun w h9 => List.mem_cons_of_mem _ (wC_wsX30 w h9)), (List.mem_cons_of_mem _ wT_61_17)⟩
theorem cd3_howManyKnown : Cd yX3_howManyKnown 0 := ⟨by decide, by decide, by decide +kernel⟩
set_option maxHeartbeats 4000000 in
set_option maxRecDepth 100000 in
theorem T3_howManyKnown_0 (S : CallFix p m c cX3_howManyKnown 1 s args vX3_howManyKnown RX3) (hr : meth.sig.returnType = (some .int)) (hlo : meth.locks = false) {out : Int32 × PH} {h : PH} {a0 : Nat} (f : F3_howManyKnown_0  h a0 = some out) {H : Heap} {locs : List Loc} (I : ph_I D cy b A fl h s H locs) {ls : Array Slot} (hl : lv_has ls 1 [(0, .ref (b + a0))]) : W p l e ({ frames := 0, cells := 0, slots := 0, locals := 0 } : Room) s m args below meth c H locs 0 0 (MQ below (va_Qi (fun (r : Int32) (u : PH) => (r, u) = out) (ph_B D cy b A fl) A) args s 0 0 A) (F0 m 0 ls []) := by
  unfold F3_howManyKnown_0 at f
  refine lv_aload_n S.1 S.2.1 dX3_howManyKnown_0 rfl (lv_at hl 0 rfl) ?_
  obtain ⟨v1, e2, f⟩ := ob f
  refine o_gI S lf3_howManyKnown_9 I e2 dX3_howManyKnown_1 ?_
  refine lv_iconst (v := (-1)) S.1 S.2.1 dX3_howManyKnown_4 (by decide) ?_
  refine lv_icmp_ne (tgt := 15) S.1 S.2.1 dX3_howManyKnown_5 (by decide) (fun q3 => ?_) (fun q3 => ?_)
  · have f := (if_neg q3).symm.trans f
    refine lv_aload_n S.1 S.2.1 dX3_howManyKnown_15 rfl (lv_at hl 0 rfl) ?_
    obtain ⟨v4, e5, f⟩ := ob f
    refine o_gI S lf3_howManyKnown_9 I e5 dX3_howManyKnown_16 ?_
    exact o_iret S hr hlo I f dX3_howManyKnown_19
  · have f := (if_pos q3).symm.trans f
    refine lv_aload_n S.1 S.2.1 dX3_howManyKnown_8 rfl (lv_at hl 0 rfl) ?_
    obtain ⟨v6, e7, f⟩ := ob f
    refine o_gI S lf3_howManyKnown_32 I e7 dX3_howManyKnown_9 ?_
    refine lv_goto (tgt := 19) S.1 S.2.1 dX3_howManyKnown_12 (by decide) ?_
    exact o_iret S hr hlo I f dX3_howManyKnown_19
theorem M3_howManyKnown (l : Launch) (D : va_G) (cy : Nat → ClassId) (b : Nat) (A : Nat → Prop) (fl : Bool) {h : PH} {a0 : Nat} {out : Int32 × PH} (f : F3_howManyKnown h a0 = some out) : Met l yX3_howManyKnown vX3_howManyKnown ({ frames := 0, cells := 0, slots := 0, locals := 0 } : Room) (va_Pc [.ref (b + a0)] (ph_B D cy b A fl h)) (va_Qi (fun (r : Int32) (u : PH) => (r, u) = out) (ph_B D cy b A fl) A) 0 0 A :=
  o_met (by decide) rfl (Nat.le_of_ble_eq_true rfl) rfl (fun p e s m below meth c S hr hlo hnm ls hl I => T3_howManyKnown_0 S hr hlo ((gd f).2) I (lv_sub hl [0] rfl))
def vX3_findStruck : List Cond := .code yX3_findStruck cX3_findStruck 3 none :: TB
theorem lf3_findStruck_28 : Fl vX3_findStruck RX3 28 3 6 := ⟨RX3, TX3, 7, rfl, by decide, (fun w h9 => List.mem_cons_of_mem _ (wC_wsX30 w h9)), (List.mem_cons_of_mem _ wT_8_20)⟩
theorem lf3_findStruck_25 : Fl vX3_findStruck RX3 25 3 5 := ⟨RX3, TX3, 7, rfl, by decide, (fun w h9 => List.mem_cons_of_mem _ (wC_wsX30 w h9)), (List.mem_cons_of_mem _ wT_8_18)⟩
theorem gX3_findStruck_X3_howManyKnown : GoodIn vX3_findStruck (wsV RX3 35 RX3 yX3_howManyKnown vX3_howManyKnown) := gV_of wT_63_10 wT_63_11 wT_63_12 wT_2_13 wT_63_13
theorem cd3_findStruck : Cd yX3_findStruck 0 := ⟨by decide, by decide, by decide +kernel⟩
set_option maxHeartbeats 4000000 in
set_option maxRecDepth 100000 in
theorem T3_findStruck_29 (S : CallFix p m c cX3_findStruck 3 s args vX3_findStruck RX3) (hr : meth.sig.returnType = none) (hlo : meth.locks = false) {out : PH} : ∀ (n : Nat) {h : PH} {a0 : Nat} {x2 : Int32} (f : F3_findStruck_29  n h a0 x2 = some out) {H : Heap} {locs : List Loc} (I : ph_I D cy b A fl h s H locs) {ls : Array Slot} (hl : lv_has ls 3 [(0, .ref (b + a0)), (2, .int x2)]), W p l e ({ frames := 1, cells := 0, slots := 0, locals := 20 } : Room) s m args below meth c H locs 0 0 (MQ below (va_Qv (fun (u : PH) => u = out) (ph_B D cy b A fl) A) args s 0 0 A) (F0 m 29 ls []) := by
  intro n
  induction n with
  | zero => intro h a0 x2 f; rw [F3_findStruck_29] at f; cases f
  | succ n ih =>
    intro h a0 x2 f H locs I ls hl
    rw [F3_findStruck_29] at f
    refine lv_iload_n S.1 S.2.1 dX3_findStruck_29 rfl (lv_at hl 1 rfl) ?_
    refine lv_if_lt (tgt := 70) S.1 S.2.1 dX3_findStruck_30 (by decide) (fun q1 => ?_) (fun q1 => ?_)
    · have f := (if_pos q1).symm.trans f
      exact o_vret S hr hlo I f dX3_findStruck_70
    · have f := (if_neg q1).symm.trans f
      refine lv_aload_n S.1 S.2.1 dX3_findStruck_33 rfl (lv_at hl 0 rfl) ?_
      obtain ⟨r2, e3, f⟩ := ob f
      refine o_gR S lf3_findStruck_28 I e3 dX3_findStruck_34 ?_
      refine lv_iload_n S.1 S.2.1 dX3_findStruck_37 rfl (lv_at hl 1 rfl) ?_
      obtain ⟨v5, e4, f⟩ := ob f
      refine o_zald S I e4 dX3_findStruck_38 ?_
      refine lv_if_ne (tgt := 64) S.1 S.2.1 dX3_findStruck_39 (by decide) (fun q6 => ?_) (fun q6 => ?_)
      · have f := (if_neg q6).symm.trans f
        refine lv_iinc (v := (x2 + (-1))) (lv' := [(2, .int (x2 + (-1))), (0, .ref (b + a0))]) S.1 S.2.1 dX3_findStruck_64 hl (k := 1) rfl (congrArg (fun z => x2 + z) (by decide)) (by decide) rfl (fun ls hl => ?_)
        refine lv_goto (tgt := 29) S.1 S.2.1 dX3_findStruck_67 (by decide) ?_
        exact ih f I (lv_sub hl [1, 0] rfl)
      · have f := (if_pos q6).symm.trans f
        refine lv_aload_n S.1 S.2.1 dX3_findStruck_42 rfl (lv_at hl 0 rfl) ?_
        obtain ⟨r7, e8, f⟩ := ob f
        refine o_gR S lf3_findStruck_25 I e8 dX3_findStruck_43 ?_
        refine lv_iload_n S.1 S.2.1 dX3_findStruck_46 rfl (lv_at hl 1 rfl) ?_
        obtain ⟨v10, e9, f⟩ := ob f
        refine o_iald S I e9 dX3_findStruck_47 ?_
        refine lv_iconst (v := (-1)) S.1 S.2.1 dX3_findStruck_48 (by decide) ?_
        refine lv_icmp_eq (tgt := 64) S.1 S.2.1 dX3_findStruck_49 (by decide) (fun q11 => ?_) (fun q11 => ?_)
        · have f := (if_pos q11).symm.trans f
          refine lv_iinc (v := (x2 + (-1))) (lv' := [(2, .int (x2 + (-1))), (0, .ref (b + a0))]) S.1 S.2.1 dX3_findStruck_64 hl (k := 1) rfl (congrArg (fun z => x2 + z) (by decide)) (by decide) rfl (fun ls hl => ?_)
          refine lv_goto (tgt := 29) S.1 S.2.1 dX3_findStruck_67 (by decide) ?_
          exact ih f I (lv_sub hl [1, 0] rfl)
        · have f := (if_neg q11).symm.trans f
          refine lv_aload_n S.1 S.2.1 dX3_findStruck_52 rfl (lv_at hl 0 rfl) ?_
          obtain ⟨r12, e13, f⟩ := ob f
          refine o_gR S lf3_findStruck_28 I e13 dX3_findStruck_53 ?_
          refine lv_aload_n S.1 S.2.1 dX3_findStruck_56 rfl (lv_at hl 0 rfl) ?_
          obtain ⟨r14, e15, f⟩ := ob f
          refine o_gR S lf3_findStruck_25 I e15 dX3_findStruck_57 ?_
          refine lv_iload_n S.1 S.2.1 dX3_findStruck_60 rfl (lv_at hl 1 rfl) ?_
          obtain ⟨v17, e16, f⟩ := ob f
          refine o_iald S I e16 dX3_findStruck_61 ?_
          refine lv_iconst (v := 1) S.1 S.2.1 dX3_findStruck_62 (by decide) ?_
          obtain ⟨h19, e18, f⟩ := ob f
          refine o_zast S I e18 dX3_findStruck_63 (fun H locs I => ?_)
          refine lv_iinc (v := (x2 + (-1))) (lv' := [(2, .int (x2 + (-1))), (0, .ref (b + a0))]) S.1 S.2.1 dX3_findStruck_64 hl (k := 1) rfl (congrArg (fun z => x2 + z) (by decide)) (by decide) rfl (fun ls hl => ?_)
          refine lv_goto (tgt := 29) S.1 S.2.1 dX3_findStruck_67 (by decide) ?_
          exact ih f I (lv_sub hl [1, 0] rfl)
set_option maxHeartbeats 4000000 in
set_option maxRecDepth 100000 in
theorem T3_findStruck_7 (S : CallFix p m c cX3_findStruck 3 s args vX3_findStruck RX3) (hr : meth.sig.returnType = none) (hlo : meth.locks = false) {out : PH} : ∀ (n : Nat) {h : PH} {a0 : Nat} {x1 : Int32} {x2 : Int32} (f : F3_findStruck_7  n h a0 x1 x2 = some out) {H : Heap} {locs : List Loc} (I : ph_I D cy b A fl h s H locs) {ls : Array Slot} (hl : lv_has ls 3 [(0, .ref (b + a0)), (1, .int x1), (2, .int x2)]), W p l e ({ frames := 1, cells := 0, slots := 0, locals := 20 } : Room) s m args below meth c H locs 0 0 (MQ below (va_Qv (fun (u : PH) => u = out) (ph_B D cy b A fl) A) args s 0 0 A) (F0 m 7 ls []) := by
  intro n
  induction n with
  | zero => intro h a0 x1 x2 f; rw [F3_findStruck_7] at f; cases f
  | succ n ih =>
    intro h a0 x1 x2 f H locs I ls hl
    rw [F3_findStruck_7] at f
    refine lv_iload_n S.1 S.2.1 dX3_findStruck_7 rfl (lv_at hl 2 rfl) ?_
    refine lv_iload_n S.1 S.2.1 dX3_findStruck_8 rfl (lv_at hl 1 rfl) ?_
    refine lv_icmp_ge (tgt := 25) S.1 S.2.1 dX3_findStruck_9 (by decide) (fun q1 => ?_) (fun q1 => ?_)
    · have f := (if_pos q1).symm.trans f
      refine lv_iload_n S.1 S.2.1 dX3_findStruck_25 rfl (lv_at hl 1 rfl) ?_
      refine lv_iconst (v := 1) S.1 S.2.1 dX3_findStruck_26 (by decide) ?_
      refine lv_isub S.1 S.2.1 dX3_findStruck_27 ?_
      refine lv_istore_n (lv' := [(2, .int (x1 - 1)), (0, .ref (b + a0)), (1, .int x1)]) S.1 S.2.1 dX3_findStruck_28 rfl hl (by decide) rfl (fun ls hl => ?_)
      exact T3_findStruck_29 S hr hlo  1024 f I (lv_sub hl [1, 0] rfl)
    · have f := (if_neg q1).symm.trans f
      refine lv_aload_n S.1 S.2.1 dX3_findStruck_12 rfl (lv_at hl 0 rfl) ?_
      obtain ⟨r2, e3, f⟩ := ob f
      refine o_gR S lf3_findStruck_28 I e3 dX3_findStruck_13 ?_
      refine lv_iload_n S.1 S.2.1 dX3_findStruck_16 rfl (lv_at hl 2 rfl) ?_
      refine lv_iconst (v := 0) S.1 S.2.1 dX3_findStruck_17 (by decide) ?_
      obtain ⟨h5, e4, f⟩ := ob f
      refine o_zast S I e4 dX3_findStruck_18 (fun H locs I => ?_)
      refine lv_iinc (v := (x2 + 1)) (lv' := [(2, .int (x2 + 1)), (0, .ref (b + a0)), (1, .int x1)]) S.1 S.2.1 dX3_findStruck_19 hl (k := 2) rfl (congrArg (fun z => x2 + z) (by decide)) (by decide) rfl (fun ls hl => ?_)
      refine lv_goto (tgt := 7) S.1 S.2.1 dX3_findStruck_22 (by decide) ?_
      exact ih f I (lv_sub hl [1, 2, 0] rfl)
set_option maxHeartbeats 4000000 in
set_option maxRecDepth 100000 in
theorem T3_findStruck_0 (S : CallFix p m c cX3_findStruck 3 s args vX3_findStruck RX3) (hr : meth.sig.returnType = none) (hlo : meth.locks = false) {out : PH} {h : PH} {a0 : Nat} (f : F3_findStruck_0  h a0 = some out) {H : Heap} {locs : List Loc} (I : ph_I D cy b A fl h s H locs) {ls : Array Slot} (hl : lv_has ls 3 [(0, .ref (b + a0))]) : W p l e ({ frames := 1, cells := 0, slots := 0, locals := 20 } : Room) s m args below meth c H locs 0 0 (MQ below (va_Qv (fun (u : PH) => u = out) (ph_B D cy b A fl) A) args s 0 0 A) (F0 m 0 ls []) := by
  unfold F3_findStruck_0 at f
  refine lv_aload_n S.1 S.2.1 dX3_findStruck_0 rfl (lv_at hl 0 rfl) ?_
  obtain ⟨o1, e2, f⟩ := ob f
  refine o_Vi S (As := []) (rest := []) (ci := 3) (M3_howManyKnown l D cy b A fl e2) gX3_findStruck_X3_howManyKnown rfl rfl rfl cd3_howManyKnown ⟨Nat.le_of_ble_eq_true rfl, Nat.le_of_ble_eq_true rfl⟩ I (gd e2).1 clX3 rfl rfl hl.1 rfl (Nat.le_of_ble_eq_true rfl) dX3_findStruck_1 ⟨Nat.le_of_ble_eq_true rfl, Nat.le_of_ble_eq_true rfl⟩ (fun H locs I => ?_)
  refine lv_istore_n (lv' := [(1, .int o1.1), (0, .ref (b + a0))]) S.1 S.2.1 dX3_findStruck_4 rfl hl (by decide) rfl (fun ls hl => ?_)
  refine lv_iconst (v := 0) S.1 S.2.1 dX3_findStruck_5 (by decide) ?_
  refine lv_istore_n (lv' := [(2, .int 0), (1, .int o1.1), (0, .ref (b + a0))]) S.1 S.2.1 dX3_findStruck_6 rfl hl (by decide) rfl (fun ls hl => ?_)
  exact T3_findStruck_7 S hr hlo  1024 f I (lv_sub hl [2, 1, 0] rfl)
theorem M3_findStruck (l : Launch) (D : va_G) (cy : Nat → ClassId) (b : Nat) (A : Nat → Prop) (fl : Bool) {h : PH} {a0 : Nat} {out : PH} (f : F3_findStruck h a0 = some out) : Met l yX3_findStruck vX3_findStruck ({ frames := 1, cells := 0, slots := 0, locals := 20 } : Room) (va_Pc [.ref (b + a0)] (ph_B D cy b A fl h)) (va_Qv (fun (u : PH) => u = out) (ph_B D cy b A fl) A) 0 0 A :=
  o_met (by decide) rfl (Nat.le_of_ble_eq_true rfl) rfl (fun p e s m below meth c S hr hlo hnm ls hl I => T3_findStruck_0 S hr hlo ((gd f).2) I (lv_sub hl [0] rfl))
def vX3_isKnownSeat : List Cond := .code yX3_isKnownSeat cX3_isKnownSeat 2 (some .boolean) :: TB
theorem lf3_isKnownSeat_28 : Fl vX3_isKnownSeat RX3 28 3 6 := ⟨RX3, TX3, 7, rfl, by decide, (fun w h9 => List.mem_cons_of_mem _ (wC_wsX30 w h9)), (List.mem_cons_of_mem _ wT_8_20)⟩
theorem lf3_isKnownSeat_25 : Fl vX3_isKnownSeat RX3 25 3 5 := ⟨RX3, TX3, 7, rfl, by decide, (fun w h9 => List.mem_cons_of_mem _ (wC_wsX30 w h9)), (List.mem_cons_of_mem _ wT_8_18)⟩
theorem cd3_isKnownSeat : Cd yX3_isKnownSeat 1 := ⟨by decide, by decide, by decide +kernel⟩
set_option maxHeartbeats 4000000 in
set_option maxRecDepth 100000 in
theorem T3_isKnownSeat_0 (S : CallFix p m c cX3_isKnownSeat 2 s args vX3_isKnownSeat RX3) (hr : meth.sig.returnType = (some .boolean)) (hlo : meth.locks = false) {out : Int32 × PH} {h : PH} {a0 : Nat} {x1 : Int32} (f : F3_isKnownSeat_0  h a0 x1 = some out) {H : Heap} {locs : List Loc} (I : ph_I D cy b A fl h s H locs) {ls : Array Slot} (hl : lv_has ls 2 [(0, .ref (b + a0)), (1, .int x1)]) : W p l e ({ frames := 0, cells := 0, slots := 0, locals := 0 } : Room) s m args below meth c H locs 0 0 (MQ below (va_Qi (fun (r : Int32) (u : PH) => (r, u) = out) (ph_B D cy b A fl) A) args s 0 0 A) (F0 m 0 ls []) := by
  unfold F3_isKnownSeat_0 at f
  refine lv_aload_n S.1 S.2.1 dX3_isKnownSeat_0 rfl (lv_at hl 0 rfl) ?_
  obtain ⟨r1, e2, f⟩ := ob f
  refine o_gR S lf3_isKnownSeat_28 I e2 dX3_isKnownSeat_1 ?_
  refine lv_iload_n S.1 S.2.1 dX3_isKnownSeat_4 rfl (lv_at hl 1 rfl) ?_
  obtain ⟨v4, e3, f⟩ := ob f
  refine o_zald S I e3 dX3_isKnownSeat_5 ?_
  refine lv_if_ne (tgt := 23) S.1 S.2.1 dX3_isKnownSeat_6 (by decide) (fun q5 => ?_) (fun q5 => ?_)
  · have f := (if_neg q5).symm.trans f
    refine lv_iconst (v := 0) S.1 S.2.1 dX3_isKnownSeat_23 (by decide) ?_
    exact o_zret S hr hlo I f dX3_isKnownSeat_24
  · have f := (if_pos q5).symm.trans f
    refine lv_aload_n S.1 S.2.1 dX3_isKnownSeat_9 rfl (lv_at hl 0 rfl) ?_
    obtain ⟨r6, e7, f⟩ := ob f
    refine o_gR S lf3_isKnownSeat_25 I e7 dX3_isKnownSeat_10 ?_
    refine lv_iload_n S.1 S.2.1 dX3_isKnownSeat_13 rfl (lv_at hl 1 rfl) ?_
    obtain ⟨v9, e8, f⟩ := ob f
    refine o_iald S I e8 dX3_isKnownSeat_14 ?_
    refine lv_iconst (v := (-1)) S.1 S.2.1 dX3_isKnownSeat_15 (by decide) ?_
    refine lv_icmp_ne (tgt := 23) S.1 S.2.1 dX3_isKnownSeat_16 (by decide) (fun q10 => ?_) (fun q10 => ?_)
    · have f := (if_neg q10).symm.trans f
      refine lv_iconst (v := 0) S.1 S.2.1 dX3_isKnownSeat_23 (by decide) ?_
      exact o_zret S hr hlo I f dX3_isKnownSeat_24
    · have f := (if_pos q10).symm.trans f
      refine lv_iconst (v := 1) S.1 S.2.1 dX3_isKnownSeat_19 (by decide) ?_
      refine lv_goto (tgt := 24) S.1 S.2.1 dX3_isKnownSeat_20 (by decide) ?_
      exact o_zret S hr hlo I f dX3_isKnownSeat_24
theorem M3_isKnownSeat (l : Launch) (D : va_G) (cy : Nat → ClassId) (b : Nat) (A : Nat → Prop) (fl : Bool) {h : PH} {a0 : Nat} {x1 : Int32} {out : Int32 × PH} (f : F3_isKnownSeat h a0 x1 = some out) : Met l yX3_isKnownSeat vX3_isKnownSeat ({ frames := 0, cells := 0, slots := 0, locals := 0 } : Room) (va_Pc [.ref (b + a0), .int x1] (ph_B D cy b A fl h)) (va_Qi (fun (r : Int32) (u : PH) => (r, u) = out) (ph_B D cy b A fl) A) 0 0 A :=
  o_met (by decide) rfl (Nat.le_of_ble_eq_true rfl) rfl (fun p e s m below meth c S hr hlo hnm ls hl I => T3_isKnownSeat_0 S hr hlo ((gd f).2) I (lv_sub hl [0, 1] rfl))
def vX4_begin : List Cond := .code yX4_begin cX4_begin 3 none :: TB
theorem lf4_begin_27 : Fl vX4_begin RX4 27 4 10 := ⟨RX4, TX4, 11, rfl, by decide, (fun w h9 => List.mem_cons_of_mem _ (wC_wsX40 w h9)), (List.mem_cons_of_mem _ wT_8_9)⟩
theorem lf4_begin_9 : Fl vX4_begin RX4 9 4 5 := ⟨RX4, TX4, 11, rfl, by decide, (fun w h9 => List.mem_cons_of_mem _ (wC_wsX40 w h9)), (List.mem_cons_of_mem _ wT_8_4)⟩
theorem lf4_begin_52 : Fl vX4_begin RX4 52 8 4 := ⟨RX8, TX8, 14, rfl, by decide, (fun w h9 => List.mem_cons_of_mem _ (wC_wsX80 w h9)), (List.mem_cons_of_mem _ wT_26_11)⟩
theorem lf4_begin_56 : Fl vX4_begin RX4 56 1 2 := ⟨RX1, TX1, 7, rfl, by decide, (fun w h9 => List.mem_cons_of_mem _ (wC_wsX10 w h9)), (List.mem_cons_of_mem _ wT_26_12)⟩
theorem lf4_begin_15 : Fl vX4_begin RX4 15 4 6 := ⟨RX4, TX4, 11, rfl, by decide, (fun w h9 => List.mem_cons_of_mem _ (wC_wsX40 w h9)), (List.mem_cons_of_mem _ wT_8_5)⟩
theorem lf4_begin_18 : Fl vX4_begin RX4 18 4 7 := ⟨RX4, TX4, 11, rfl, by decide, (fun w h9 => List.mem_cons_of_mem _ (wC_wsX40 w h9)), (List.mem_cons_of_mem _ wT_8_6)⟩
theorem lf4_begin_21 : Fl vX4_begin RX4 21 4 8 := ⟨RX4, TX4, 11, rfl, by decide, (fun w h9 => List.mem_cons_of_mem _ (wC_wsX40 w h9)), (List.mem_cons_of_mem _ wT_8_7)⟩
theorem lf4_begin_24 : Fl vX4_begin RX4 24 4 9 := ⟨RX4, TX4, 11, rfl, by decide, (fun w h9 => List.mem_cons_of_mem _ (wC_wsX40 w h9)), (List.mem_cons_of_mem _ wT_8_8)⟩
theorem lp4_begin_30 : Pl vX4_begin RX4 30 4 0 .int := ⟨RX4, TX4, 11, tyX4, rfl, by decide, (fun w h9 => List.mem_cons_of_mem _ (wC_wsX40 w h9)), (List.mem_cons_of_mem _ wT_26_4), tyX4_ok, nmX4, rfl, rfl⟩
theorem lf4_begin_34 : Fl vX4_begin RX4 34 8 9 := ⟨RX8, TX8, 14, rfl, by decide, (fun w h9 => List.mem_cons_of_mem _ (wC_wsX80 w h9)), (List.mem_cons_of_mem _ wT_26_5)⟩
theorem lp4_begin_39 : Pl vX4_begin RX4 39 4 1 .int := ⟨RX4, TX4, 11, tyX4, rfl, by decide, (fun w h9 => List.mem_cons_of_mem _ (wC_wsX40 w h9)), (List.mem_cons_of_mem _ wT_26_6), tyX4_ok, nmX4, rfl, rfl⟩
theorem lf4_begin_40 : Fl vX4_begin RX4 40 8 10 := ⟨RX8, TX8, 14, rfl, by decide, (fun w h9 => List.mem_cons_of_mem _ (wC_wsX80 w h9)), (List.mem_cons_of_mem _ wT_26_7)⟩
theorem lp4_begin_43 : Pl vX4_begin RX4 43 4 2 .int := ⟨RX4, TX4, 11, tyX4, rfl, by decide, (fun w h9 => List.mem_cons_of_mem _ (wC_wsX40 w h9)), (List.mem_cons_of_mem _ wT_26_8), tyX4_ok, nmX4, rfl, rfl⟩
theorem lp4_begin_46 : Pl vX4_begin RX4 46 4 3 .int := ⟨RX4, TX4, 11, tyX4, rfl, by decide, (fun w h9 => List.mem_cons_of_mem _ (wC_wsX40 w h9)), (List.mem_cons_of_mem _ wT_26_9), tyX4_ok, nmX4, rfl, rfl⟩
theorem lp4_begin_49 : Pl vX4_begin RX4 49 4 4 .int := ⟨RX4, TX4, 11, tyX4, rfl, by decide, (fun w h9 => List.mem_cons_of_mem _ (wC_wsX40 w h9)), (List.mem_cons_of_mem _ wT_26_10), tyX4_ok, nmX4, rfl, rfl⟩
theorem cd4_begin : Cd yX4_begin 1 := ⟨by decide, by decide, by decide +kernel⟩
set_option maxHeartbeats 4000000 in
set_option maxRecDepth 100000 in
theorem T4_begin_89 (S : CallFix p m c cX4_begin 3 s args vX4_begin RX4) (hr : meth.sig.returnType = none) (hlo : meth.locks = false) {out : PH} : ∀ (n : Nat) {h : PH} {a0 : Nat} {x2 : Int32} (f : F4_begin_89  n h a0 x2 = some out) {H : Heap} {locs : List Loc} (I : ph_I D cy b A fl h s H locs) {ls : Array Slot} (hl : lv_has ls 3 [(0, .ref (b + a0)), (2, .int x2)]), W p l e ({ frames := 0, cells := 0, slots := 0, locals := 0 } : Room) s m args below meth c H locs 0 0 (MQ below (va_Qv (fun (u : PH) => u = out) (ph_B D cy b A fl) A) args s 0 0 A) (F0 m 89 ls []) := by
  intro n
  induction n with
  | zero => intro h a0 x2 f; rw [F4_begin_89] at f; cases f
  | succ n ih =>
    intro h a0 x2 f H locs I ls hl
    rw [F4_begin_89] at f
    refine lv_iload_n S.1 S.2.1 dX4_begin_89 rfl (lv_at hl 1 rfl) ?_
    refine lv_bipush (v := 28) S.1 S.2.1 dX4_begin_90 (by decide) ?_
    refine lv_icmp_ge (tgt := 109) S.1 S.2.1 dX4_begin_92 (by decide) (fun q1 => ?_) (fun q1 => ?_)
    · have f := (if_pos q1).symm.trans f
      exact o_vret S hr hlo I f dX4_begin_109
    · have f := (if_neg q1).symm.trans f
      refine lv_aload_n S.1 S.2.1 dX4_begin_95 rfl (lv_at hl 0 rfl) ?_
      obtain ⟨r2, e3, f⟩ := ob f
      refine o_gR S lf4_begin_27 I e3 dX4_begin_96 ?_
      refine lv_iload_n S.1 S.2.1 dX4_begin_99 rfl (lv_at hl 1 rfl) ?_
      refine lv_bipush (v := (-2)) S.1 S.2.1 dX4_begin_100 (by decide) ?_
      obtain ⟨h5, e4, f⟩ := ob f
      refine o_iast S I e4 dX4_begin_102 (fun H locs I => ?_)
      refine lv_iinc (v := (x2 + 1)) (lv' := [(2, .int (x2 + 1)), (0, .ref (b + a0))]) S.1 S.2.1 dX4_begin_103 hl (k := 1) rfl (congrArg (fun z => x2 + z) (by decide)) (by decide) rfl (fun ls hl => ?_)
      refine lv_goto (tgt := 89) S.1 S.2.1 dX4_begin_106 (by decide) ?_
      exact ih f I (lv_sub hl [1, 0] rfl)
set_option maxHeartbeats 4000000 in
set_option maxRecDepth 100000 in
theorem T4_begin_33 (S : CallFix p m c cX4_begin 3 s args vX4_begin RX4) (hr : meth.sig.returnType = none) (hlo : meth.locks = false) {out : PH} : ∀ (n : Nat) {h : PH} {a0 : Nat} {a1 : Nat} {x2 : Int32} (f : F4_begin_33  n h a0 a1 x2 = some out) {H : Heap} {locs : List Loc} (I : ph_I D cy b A fl h s H locs) {ls : Array Slot} (hl : lv_has ls 3 [(0, .ref (b + a0)), (1, .ref (b + a1)), (2, .int x2)]), W p l e ({ frames := 0, cells := 0, slots := 0, locals := 0 } : Room) s m args below meth c H locs 0 0 (MQ below (va_Qv (fun (u : PH) => u = out) (ph_B D cy b A fl) A) args s 0 0 A) (F0 m 33 ls []) := by
  intro n
  induction n with
  | zero => intro h a0 a1 x2 f; rw [F4_begin_33] at f; cases f
  | succ n ih =>
    intro h a0 a1 x2 f H locs I ls hl
    rw [F4_begin_33] at f
    refine lv_iload_n S.1 S.2.1 dX4_begin_33 rfl (lv_at hl 2 rfl) ?_
    refine lv_iconst (v := 5) S.1 S.2.1 dX4_begin_34 (by decide) ?_
    refine lv_icmp_ge (tgt := 87) S.1 S.2.1 dX4_begin_35 (by decide) (fun q1 => ?_) (fun q1 => ?_)
    · have f := (if_pos q1).symm.trans f
      refine lv_iconst (v := 0) S.1 S.2.1 dX4_begin_87 (by decide) ?_
      refine lv_istore_n (lv' := [(2, .int 0), (0, .ref (b + a0)), (1, .ref (b + a1))]) S.1 S.2.1 dX4_begin_88 rfl hl (by decide) rfl (fun ls hl => ?_)
      exact T4_begin_89 S hr hlo  1024 f I (lv_sub hl [1, 0] rfl)
    · have f := (if_neg q1).symm.trans f
      refine lv_aload_n S.1 S.2.1 dX4_begin_38 rfl (lv_at hl 0 rfl) ?_
      obtain ⟨r2, e3, f⟩ := ob f
      refine o_gR S lf4_begin_9 I e3 dX4_begin_39 ?_
      refine lv_iload_n S.1 S.2.1 dX4_begin_42 rfl (lv_at hl 2 rfl) ?_
      refine lv_aload_n S.1 S.2.1 dX4_begin_43 rfl (lv_at hl 1 rfl) ?_
      obtain ⟨r4, e5, f⟩ := ob f
      refine o_gR S lf4_begin_52 I e5 dX4_begin_44 ?_
      obtain ⟨r6, e7, f⟩ := ob f
      refine o_gR S lf4_begin_56 I e7 dX4_begin_47 ?_
      refine lv_iload_n S.1 S.2.1 dX4_begin_50 rfl (lv_at hl 2 rfl) ?_
      obtain ⟨v9, e8, f⟩ := ob f
      refine o_iald S I e8 dX4_begin_51 ?_
      obtain ⟨h11, e10, f⟩ := ob f
      refine o_iast S I e10 dX4_begin_52 (fun H locs I => ?_)
      refine lv_aload_n S.1 S.2.1 dX4_begin_53 rfl (lv_at hl 0 rfl) ?_
      obtain ⟨r12, e13, f⟩ := ob f
      refine o_gR S lf4_begin_15 I e13 dX4_begin_54 ?_
      refine lv_iload_n S.1 S.2.1 dX4_begin_57 rfl (lv_at hl 2 rfl) ?_
      refine lv_iconst (v := 0) S.1 S.2.1 dX4_begin_58 (by decide) ?_
      obtain ⟨h15, e14, f⟩ := ob f
      refine o_iast S I e14 dX4_begin_59 (fun H locs I => ?_)
      refine lv_aload_n S.1 S.2.1 dX4_begin_60 rfl (lv_at hl 0 rfl) ?_
      obtain ⟨r16, e17, f⟩ := ob f
      refine o_gR S lf4_begin_18 I e17 dX4_begin_61 ?_
      refine lv_iload_n S.1 S.2.1 dX4_begin_64 rfl (lv_at hl 2 rfl) ?_
      refine lv_iconst (v := 0) S.1 S.2.1 dX4_begin_65 (by decide) ?_
      obtain ⟨h19, e18, f⟩ := ob f
      refine o_iast S I e18 dX4_begin_66 (fun H locs I => ?_)
      refine lv_aload_n S.1 S.2.1 dX4_begin_67 rfl (lv_at hl 0 rfl) ?_
      obtain ⟨r20, e21, f⟩ := ob f
      refine o_gR S lf4_begin_21 I e21 dX4_begin_68 ?_
      refine lv_iload_n S.1 S.2.1 dX4_begin_71 rfl (lv_at hl 2 rfl) ?_
      refine lv_iconst (v := 0) S.1 S.2.1 dX4_begin_72 (by decide) ?_
      obtain ⟨h23, e22, f⟩ := ob f
      refine o_iast S I e22 dX4_begin_73 (fun H locs I => ?_)
      refine lv_aload_n S.1 S.2.1 dX4_begin_74 rfl (lv_at hl 0 rfl) ?_
      obtain ⟨r24, e25, f⟩ := ob f
      refine o_gR S lf4_begin_24 I e25 dX4_begin_75 ?_
      refine lv_iload_n S.1 S.2.1 dX4_begin_78 rfl (lv_at hl 2 rfl) ?_
      refine lv_iconst (v := 0) S.1 S.2.1 dX4_begin_79 (by decide) ?_
      obtain ⟨h27, e26, f⟩ := ob f
      refine o_iast S I e26 dX4_begin_80 (fun H locs I => ?_)
      refine lv_iinc (v := (x2 + 1)) (lv' := [(2, .int (x2 + 1)), (0, .ref (b + a0)), (1, .ref (b + a1))]) S.1 S.2.1 dX4_begin_81 hl (k := 2) rfl (congrArg (fun z => x2 + z) (by decide)) (by decide) rfl (fun ls hl => ?_)
      refine lv_goto (tgt := 33) S.1 S.2.1 dX4_begin_84 (by decide) ?_
      exact ih f I (lv_sub hl [1, 2, 0] rfl)
set_option maxHeartbeats 4000000 in
set_option maxRecDepth 100000 in
theorem T4_begin_0 (S : CallFix p m c cX4_begin 3 s args vX4_begin RX4) (hr : meth.sig.returnType = none) (hlo : meth.locks = false) {out : PH} {h : PH} {a0 : Nat} {a1 : Nat} (f : F4_begin_0  h a0 a1 = some out) {H : Heap} {locs : List Loc} (I : ph_I D cy b A fl h s H locs) {ls : Array Slot} (hl : lv_has ls 3 [(0, .ref (b + a0)), (1, .ref (b + a1))]) : W p l e ({ frames := 0, cells := 0, slots := 0, locals := 0 } : Room) s m args below meth c H locs 0 0 (MQ below (va_Qv (fun (u : PH) => u = out) (ph_B D cy b A fl) A) args s 0 0 A) (F0 m 0 ls []) := by
  unfold F4_begin_0 at f
  refine lv_aload_n S.1 S.2.1 dX4_begin_0 rfl (lv_at hl 0 rfl) ?_
  refine lv_iconst (v := 0) S.1 S.2.1 dX4_begin_1 (by decide) ?_
  obtain ⟨h1, e2, f⟩ := ob f
  refine o_pI S lp4_begin_30 I e2 dX4_begin_2 (fun H locs I => ?_)
  refine lv_aload_n S.1 S.2.1 dX4_begin_5 rfl (lv_at hl 0 rfl) ?_
  refine lv_aload_n S.1 S.2.1 dX4_begin_6 rfl (lv_at hl 1 rfl) ?_
  obtain ⟨v3, e4, f⟩ := ob f
  refine o_gI S lf4_begin_34 I e4 dX4_begin_7 ?_
  obtain ⟨h5, e6, f⟩ := ob f
  refine o_pI S lp4_begin_39 I e6 dX4_begin_10 (fun H locs I => ?_)
  refine lv_aload_n S.1 S.2.1 dX4_begin_13 rfl (lv_at hl 0 rfl) ?_
  refine lv_aload_n S.1 S.2.1 dX4_begin_14 rfl (lv_at hl 1 rfl) ?_
  obtain ⟨v7, e8, f⟩ := ob f
  refine o_gI S lf4_begin_40 I e8 dX4_begin_15 ?_
  obtain ⟨h9, e10, f⟩ := ob f
  refine o_pI S lp4_begin_43 I e10 dX4_begin_18 (fun H locs I => ?_)
  refine lv_aload_n S.1 S.2.1 dX4_begin_21 rfl (lv_at hl 0 rfl) ?_
  refine lv_iconst (v := 0) S.1 S.2.1 dX4_begin_22 (by decide) ?_
  obtain ⟨h11, e12, f⟩ := ob f
  refine o_pI S lp4_begin_46 I e12 dX4_begin_23 (fun H locs I => ?_)
  refine lv_aload_n S.1 S.2.1 dX4_begin_26 rfl (lv_at hl 0 rfl) ?_
  refine lv_iconst (v := 0) S.1 S.2.1 dX4_begin_27 (by decide) ?_
  obtain ⟨h13, e14, f⟩ := ob f
  refine o_pI S lp4_begin_49 I e14 dX4_begin_28 (fun H locs I => ?_)
  refine lv_iconst (v := 0) S.1 S.2.1 dX4_begin_31 (by decide) ?_
  refine lv_istore_n (lv' := [(2, .int 0), (0, .ref (b + a0)), (1, .ref (b + a1))]) S.1 S.2.1 dX4_begin_32 rfl hl (by decide) rfl (fun ls hl => ?_)
  exact T4_begin_33 S hr hlo  1024 f I (lv_sub hl [1, 2, 0] rfl)
theorem M4_begin (l : Launch) (D : va_G) (cy : Nat → ClassId) (b : Nat) (A : Nat → Prop) (fl : Bool) {h : PH} {a0 : Nat} {a1 : Nat} {out : PH} (f : F4_begin h a0 a1 = some out) : Met l yX4_begin vX4_begin ({ frames := 0, cells := 0, slots := 0, locals := 0 } : Room) (va_Pc [.ref (b + a0), .ref (b + a1)] (ph_B D cy b A fl h)) (va_Qv (fun (u : PH) => u = out) (ph_B D cy b A fl) A) 0 0 A :=
  o_met (by decide) rfl (Nat.le_of_ble_eq_true rfl) rfl (fun p e s m below meth c S hr hlo hnm ls hl I => T4_begin_0 S hr hlo ((gd f).2) I (lv_sub hl [0, 1] rfl))
def vX4_isIn : List Cond := .code yX4_isIn cX4_isIn 3 (some .boolean) :: TB
theorem lf4_isIn_21 : Fl vX4_isIn RX4 21 4 8 := ⟨RX4, TX4, 11, rfl, by decide, (fun w h9 => List.mem_cons_of_mem _ (wC_wsX40 w h9)), (List.mem_cons_of_mem _ wT_8_7)⟩
theorem cd4_isIn : Cd yX4_isIn 2 := ⟨by decide, by decide, by decide +kernel⟩
set_option maxHeartbeats 4000000 in
set_option maxRecDepth 100000 in
theorem T4_isIn_0 (S : CallFix p m c cX4_isIn 3 s args vX4_isIn RX4) (hr : meth.sig.returnType = (some .boolean)) (hlo : meth.locks = false) {out : Int32 × PH} {h : PH} {a0 : Nat} {x1 : Int32} {x2 : Int32} (f : F4_isIn_0  h a0 x1 x2 = some out) {H : Heap} {locs : List Loc} (I : ph_I D cy b A fl h s H locs) {ls : Array Slot} (hl : lv_has ls 3 [(0, .ref (b + a0)), (1, .int x1), (2, .int x2)]) : W p l e ({ frames := 0, cells := 0, slots := 0, locals := 0 } : Room) s m args below meth c H locs 0 0 (MQ below (va_Qi (fun (r : Int32) (u : PH) => (r, u) = out) (ph_B D cy b A fl) A) args s 0 0 A) (F0 m 0 ls []) := by
  unfold F4_isIn_0 at f
  refine lv_aload_n S.1 S.2.1 dX4_isIn_0 rfl (lv_at hl 0 rfl) ?_
  obtain ⟨r1, e2, f⟩ := ob f
  refine o_gR S lf4_isIn_21 I e2 dX4_isIn_1 ?_
  refine lv_iload_n S.1 S.2.1 dX4_isIn_4 rfl (lv_at hl 1 rfl) ?_
  obtain ⟨v4, e3, f⟩ := ob f
  refine o_iald S I e3 dX4_isIn_5 ?_
  refine lv_iload_n S.1 S.2.1 dX4_isIn_6 rfl (lv_at hl 2 rfl) ?_
  refine lv_icmp_gt (tgt := 14) S.1 S.2.1 dX4_isIn_7 (by decide) (fun q5 => ?_) (fun q5 => ?_)
  · have f := (if_pos q5).symm.trans f
    refine lv_iconst (v := 0) S.1 S.2.1 dX4_isIn_14 (by decide) ?_
    exact o_zret S hr hlo I f dX4_isIn_15
  · have f := (if_neg q5).symm.trans f
    refine lv_iconst (v := 1) S.1 S.2.1 dX4_isIn_10 (by decide) ?_
    refine lv_goto (tgt := 15) S.1 S.2.1 dX4_isIn_11 (by decide) ?_
    exact o_zret S hr hlo I f dX4_isIn_15
theorem M4_isIn (l : Launch) (D : va_G) (cy : Nat → ClassId) (b : Nat) (A : Nat → Prop) (fl : Bool) {h : PH} {a0 : Nat} {x1 : Int32} {x2 : Int32} {out : Int32 × PH} (f : F4_isIn h a0 x1 x2 = some out) : Met l yX4_isIn vX4_isIn ({ frames := 0, cells := 0, slots := 0, locals := 0 } : Room) (va_Pc [.ref (b + a0), .int x1, .int x2] (ph_B D cy b A fl h)) (va_Qi (fun (r : Int32) (u : PH) => (r, u) = out) (ph_B D cy b A fl) A) 0 0 A :=
  o_met (by decide) rfl (Nat.le_of_ble_eq_true rfl) rfl (fun p e s m below meth c S hr hlo hnm ls hl I => T4_isIn_0 S hr hlo ((gd f).2) I (lv_sub hl [0, 1, 2] rfl))
def vX4_beginMinute : List Cond := .code yX4_beginMinute cX4_beginMinute 3 none :: TB
theorem lf4_beginMinute_24 : Fl vX4_beginMinute RX4 24 4 9 := ⟨RX4, TX4, 11, rfl, by decide, (fun w h9 => List.mem_cons_of_mem _ (wC_wsX40 w h9)), (List.mem_cons_of_mem _ wT_8_8)⟩
theorem lf4_beginMinute_30 : Fl vX4_beginMinute RX4 30 4 0 := ⟨RX4, TX4, 11, rfl, by decide, (fun w h9 => List.mem_cons_of_mem _ (wC_wsX40 w h9)), (List.mem_cons_of_mem _ wT_26_4)⟩
theorem gX4_beginMinute_X4_isIn : GoodIn vX4_beginMinute (wsV RX4 72 RX4 yX4_isIn vX4_isIn) := gV_of wT_46_8 wT_41_22 wT_41_23 wT_2_7 wT_42_0
theorem lf4_beginMinute_21 : Fl vX4_beginMinute RX4 21 4 8 := ⟨RX4, TX4, 11, rfl, by decide, (fun w h9 => List.mem_cons_of_mem _ (wC_wsX40 w h9)), (List.mem_cons_of_mem _ wT_8_7)⟩
theorem lp4_beginMinute_30 : Pl vX4_beginMinute RX4 30 4 0 .int := ⟨RX4, TX4, 11, tyX4, rfl, by decide, (fun w h9 => List.mem_cons_of_mem _ (wC_wsX40 w h9)), (List.mem_cons_of_mem _ wT_26_4), tyX4_ok, nmX4, rfl, rfl⟩
theorem cd4_beginMinute : Cd yX4_beginMinute 1 := ⟨by decide, by decide, by decide +kernel⟩
set_option maxHeartbeats 4000000 in
set_option maxRecDepth 100000 in
theorem T4_beginMinute_36 (S : CallFix p m c cX4_beginMinute 3 s args vX4_beginMinute RX4) (hr : meth.sig.returnType = none) (hlo : meth.locks = false) {out : PH} {k12 : PH → Nat → Int32 → Int32 → Option (PH)} (hk12 : ∀ {h : PH} {a0 : Nat} {x1 : Int32} {x2 : Int32}, k12 h a0 x1 x2 = some out → ∀ (H : Heap) (locs : List Loc), ph_I D cy b A fl h s H locs → ∀ (ls : Array Slot), lv_has ls 3 [(0, .ref (b + a0)), (1, .int x1), (2, .int x2)] → W p l e ({ frames := 1, cells := 0, slots := 0, locals := 22 } : Room) s m args below meth c H locs 0 0 (MQ below (va_Qv (fun (u : PH) => u = out) (ph_B D cy b A fl) A) args s 0 0 A) (F0 m 12 ls [])) {h : PH} {a0 : Nat} {x1 : Int32} {x2 : Int32} (f : F4_beginMinute_36 k12 h a0 x1 x2 = some out) {H : Heap} {locs : List Loc} (I : ph_I D cy b A fl h s H locs) {ls : Array Slot} (hl : lv_has ls 3 [(0, .ref (b + a0)), (1, .int x1), (2, .int x2)]) : W p l e ({ frames := 1, cells := 0, slots := 0, locals := 22 } : Room) s m args below meth c H locs 0 0 (MQ below (va_Qv (fun (u : PH) => u = out) (ph_B D cy b A fl) A) args s 0 0 A) (F0 m 36 ls []) := by
  unfold F4_beginMinute_36 at f
  refine lv_aload_n S.1 S.2.1 dX4_beginMinute_36 rfl (lv_at hl 0 rfl) ?_
  obtain ⟨r1, e2, f⟩ := ob f
  refine o_gR S lf4_beginMinute_24 I e2 dX4_beginMinute_37 ?_
  refine lv_iload_n S.1 S.2.1 dX4_beginMinute_40 rfl (lv_at hl 2 rfl) ?_
  refine lv_iconst (v := 0) S.1 S.2.1 dX4_beginMinute_41 (by decide) ?_
  obtain ⟨h4, e3, f⟩ := ob f
  refine o_iast S I e3 dX4_beginMinute_42 (fun H locs I => ?_)
  refine lv_iinc (v := (x2 + 1)) (lv' := [(2, .int (x2 + 1)), (0, .ref (b + a0)), (1, .int x1)]) S.1 S.2.1 dX4_beginMinute_43 hl (k := 2) rfl (congrArg (fun z => x2 + z) (by decide)) (by decide) rfl (fun ls hl => ?_)
  refine lv_goto (tgt := 12) S.1 S.2.1 dX4_beginMinute_46 (by decide) ?_
  exact hk12 f _ _ I _ (lv_sub hl [1, 2, 0] rfl)
set_option maxHeartbeats 4000000 in
set_option maxRecDepth 100000 in
theorem T4_beginMinute_12 (S : CallFix p m c cX4_beginMinute 3 s args vX4_beginMinute RX4) (hr : meth.sig.returnType = none) (hlo : meth.locks = false) {out : PH} : ∀ (n : Nat) {h : PH} {a0 : Nat} {x1 : Int32} {x2 : Int32} (f : F4_beginMinute_12  n h a0 x1 x2 = some out) {H : Heap} {locs : List Loc} (I : ph_I D cy b A fl h s H locs) {ls : Array Slot} (hl : lv_has ls 3 [(0, .ref (b + a0)), (1, .int x1), (2, .int x2)]), W p l e ({ frames := 1, cells := 0, slots := 0, locals := 22 } : Room) s m args below meth c H locs 0 0 (MQ below (va_Qv (fun (u : PH) => u = out) (ph_B D cy b A fl) A) args s 0 0 A) (F0 m 12 ls []) := by
  intro n
  induction n with
  | zero => intro h a0 x1 x2 f; rw [F4_beginMinute_12] at f; cases f
  | succ n ih =>
    intro h a0 x1 x2 f H locs I ls hl
    rw [F4_beginMinute_12] at f
    refine lv_iload_n S.1 S.2.1 dX4_beginMinute_12 rfl (lv_at hl 2 rfl) ?_
    refine lv_iload_n S.1 S.2.1 dX4_beginMinute_13 rfl (lv_at hl 1 rfl) ?_
    refine lv_icmp_ge (tgt := 49) S.1 S.2.1 dX4_beginMinute_14 (by decide) (fun q1 => ?_) (fun q1 => ?_)
    · have f := (if_pos q1).symm.trans f
      exact o_vret S hr hlo I f dX4_beginMinute_49
    · have f := (if_neg q1).symm.trans f
      refine lv_aload_n S.1 S.2.1 dX4_beginMinute_17 rfl (lv_at hl 0 rfl) ?_
      refine lv_iload_n S.1 S.2.1 dX4_beginMinute_18 rfl (lv_at hl 2 rfl) ?_
      refine lv_aload_n S.1 S.2.1 dX4_beginMinute_19 rfl (lv_at hl 0 rfl) ?_
      obtain ⟨v2, e3, f⟩ := ob f
      refine o_gI S lf4_beginMinute_30 I e3 dX4_beginMinute_20 ?_
      obtain ⟨o4, e5, f⟩ := ob f
      refine o_Vi S (As := [.int x2, .int v2]) (rest := []) (ci := 4) (M4_isIn l D cy b A fl e5) gX4_beginMinute_X4_isIn rfl rfl rfl cd4_isIn ⟨Nat.le_of_ble_eq_true rfl, Nat.le_of_ble_eq_true rfl⟩ I (gd e5).1 clX4 rfl rfl hl.1 rfl (Nat.le_of_ble_eq_true rfl) dX4_beginMinute_23 ⟨Nat.le_of_ble_eq_true rfl, Nat.le_of_ble_eq_true rfl⟩ (fun H locs I => ?_)
      refine lv_if_eq (tgt := 36) S.1 S.2.1 dX4_beginMinute_26 (by decide) (fun q6 => ?_) (fun q6 => ?_)
      · have f := (if_pos q6).symm.trans f
        exact T4_beginMinute_36 S hr hlo (fun f _ _ I _ hl => ih f I hl) f I (lv_sub hl [0, 1, 2] rfl)
      · have f := (if_neg q6).symm.trans f
        refine lv_aload_n S.1 S.2.1 dX4_beginMinute_29 rfl (lv_at hl 0 rfl) ?_
        obtain ⟨r7, e8, f⟩ := ob f
        refine o_gR S lf4_beginMinute_21 I e8 dX4_beginMinute_30 ?_
        refine lv_iload_n S.1 S.2.1 dX4_beginMinute_33 rfl (lv_at hl 2 rfl) ?_
        refine lv_iconst (v := 0) S.1 S.2.1 dX4_beginMinute_34 (by decide) ?_
        obtain ⟨h10, e9, f⟩ := ob f
        refine o_iast S I e9 dX4_beginMinute_35 (fun H locs I => ?_)
        exact T4_beginMinute_36 S hr hlo (fun f _ _ I _ hl => ih f I hl) f I (lv_sub hl [0, 1, 2] rfl)
set_option maxHeartbeats 4000000 in
set_option maxRecDepth 100000 in
theorem T4_beginMinute_0 (S : CallFix p m c cX4_beginMinute 3 s args vX4_beginMinute RX4) (hr : meth.sig.returnType = none) (hlo : meth.locks = false) {out : PH} {h : PH} {a0 : Nat} {x1 : Int32} (f : F4_beginMinute_0  h a0 x1 = some out) {H : Heap} {locs : List Loc} (I : ph_I D cy b A fl h s H locs) {ls : Array Slot} (hl : lv_has ls 3 [(0, .ref (b + a0)), (1, .int x1)]) : W p l e ({ frames := 1, cells := 0, slots := 0, locals := 22 } : Room) s m args below meth c H locs 0 0 (MQ below (va_Qv (fun (u : PH) => u = out) (ph_B D cy b A fl) A) args s 0 0 A) (F0 m 0 ls []) := by
  unfold F4_beginMinute_0 at f
  refine lv_aload_n S.1 S.2.1 dX4_beginMinute_0 rfl (lv_at hl 0 rfl) ?_
  refine lv_dup S.1 S.2.1 dX4_beginMinute_1 rfl ?_
  obtain ⟨v1, e2, f⟩ := ob f
  refine o_gI S lf4_beginMinute_30 I e2 dX4_beginMinute_2 ?_
  refine lv_iconst (v := 1) S.1 S.2.1 dX4_beginMinute_5 (by decide) ?_
  refine lv_iadd S.1 S.2.1 dX4_beginMinute_6 ?_
  obtain ⟨h3, e4, f⟩ := ob f
  refine o_pI S lp4_beginMinute_30 I e4 dX4_beginMinute_7 (fun H locs I => ?_)
  refine lv_iconst (v := 0) S.1 S.2.1 dX4_beginMinute_10 (by decide) ?_
  refine lv_istore_n (lv' := [(2, .int 0), (0, .ref (b + a0)), (1, .int x1)]) S.1 S.2.1 dX4_beginMinute_11 rfl hl (by decide) rfl (fun ls hl => ?_)
  exact T4_beginMinute_12 S hr hlo  1024 f I (lv_sub hl [1, 2, 0] rfl)
theorem M4_beginMinute (l : Launch) (D : va_G) (cy : Nat → ClassId) (b : Nat) (A : Nat → Prop) (fl : Bool) {h : PH} {a0 : Nat} {x1 : Int32} {out : PH} (f : F4_beginMinute h a0 x1 = some out) : Met l yX4_beginMinute vX4_beginMinute ({ frames := 1, cells := 0, slots := 0, locals := 22 } : Room) (va_Pc [.ref (b + a0), .int x1] (ph_B D cy b A fl h)) (va_Qv (fun (u : PH) => u = out) (ph_B D cy b A fl) A) 0 0 A :=
  o_met (by decide) rfl (Nat.le_of_ble_eq_true rfl) rfl (fun p e s m below meth c S hr hlo hnm ls hl I => T4_beginMinute_0 S hr hlo ((gd f).2) I (lv_sub hl [0, 1] rfl))
def vX4_drawHundredth : List Cond := .code yX4_drawHundredth cX4_drawHundredth 1 (some .int) :: TB
theorem lf4_drawHundredth_43 : Fl vX4_drawHundredth RX4 43 4 2 := ⟨RX4, TX4, 11, rfl, by decide, (fun w h9 => List.mem_cons_of_mem _ (wC_wsX40 w h9)), (List.mem_cons_of_mem _ wT_26_8)⟩
theorem lp4_drawHundredth_43 : Pl vX4_drawHundredth RX4 43 4 2 .int := ⟨RX4, TX4, 11, tyX4, rfl, by decide, (fun w h9 => List.mem_cons_of_mem _ (wC_wsX40 w h9)), (List.mem_cons_of_mem _ wT_26_8), tyX4_ok, nmX4, rfl, rfl⟩
theorem cd4_drawHundredth : Cd yX4_drawHundredth 0 := ⟨by decide, by decide, by decide +kernel⟩
set_option maxHeartbeats 4000000 in
set_option maxRecDepth 100000 in
theorem T4_drawHundredth_0 (S : CallFix p m c cX4_drawHundredth 1 s args vX4_drawHundredth RX4) (hr : meth.sig.returnType = (some .int)) (hlo : meth.locks = false) {out : Int32 × PH} {h : PH} {a0 : Nat} (f : F4_drawHundredth_0  h a0 = some out) {H : Heap} {locs : List Loc} (I : ph_I D cy b A fl h s H locs) {ls : Array Slot} (hl : lv_has ls 1 [(0, .ref (b + a0))]) : W p l e ({ frames := 0, cells := 0, slots := 0, locals := 0 } : Room) s m args below meth c H locs 0 0 (MQ below (va_Qi (fun (r : Int32) (u : PH) => (r, u) = out) (ph_B D cy b A fl) A) args s 0 0 A) (F0 m 0 ls []) := by
  unfold F4_drawHundredth_0 at f
  refine lv_aload_n S.1 S.2.1 dX4_drawHundredth_0 rfl (lv_at hl 0 rfl) ?_
  refine lv_aload_n S.1 S.2.1 dX4_drawHundredth_1 rfl (lv_at hl 0 rfl) ?_
  obtain ⟨v1, e2, f⟩ := ob f
  refine o_gI S lf4_drawHundredth_43 I e2 dX4_drawHundredth_2 ?_
  refine lv_i2l (v := Int32.toInt64 v1) S.1 S.2.1 dX4_drawHundredth_5 rfl ?_
  refine lv_ldc2 (v := 1103515245) S.1 S.2.1 S.2.2.2.1 (S.2.2.2.2 _ (List.mem_cons_of_mem _ wT_45_11)) dX4_drawHundredth_6 ?_
  refine lv_lmul S.1 S.2.1 dX4_drawHundredth_9 ?_
  refine lv_ldc2 (v := 12345) S.1 S.2.1 S.2.2.2.1 (S.2.2.2.2 _ (List.mem_cons_of_mem _ wT_45_12)) dX4_drawHundredth_10 ?_
  refine lv_ladd S.1 S.2.1 dX4_drawHundredth_13 ?_
  refine lv_ldc2 (v := 2147483647) S.1 S.2.1 S.2.2.2.1 (S.2.2.2.2 _ (List.mem_cons_of_mem _ wT_45_13)) dX4_drawHundredth_14 ?_
  refine lv_land S.1 S.2.1 dX4_drawHundredth_17 ?_
  refine lv_l2i (v := Int64.toInt32 ((((Int32.toInt64 v1) * (1103515245 : Int64)) + (12345 : Int64)) &&& (2147483647 : Int64))) S.1 S.2.1 dX4_drawHundredth_18 rfl ?_
  obtain ⟨h3, e4, f⟩ := ob f
  refine o_pI S lp4_drawHundredth_43 I e4 dX4_drawHundredth_19 (fun H locs I => ?_)
  refine lv_aload_n S.1 S.2.1 dX4_drawHundredth_22 rfl (lv_at hl 0 rfl) ?_
  obtain ⟨v5, e6, f⟩ := ob f
  refine o_gI S lf4_drawHundredth_43 I e6 dX4_drawHundredth_23 ?_
  refine lv_bipush (v := 16) S.1 S.2.1 dX4_drawHundredth_26 (by decide) ?_
  refine lv_ishr S.1 S.2.1 dX4_drawHundredth_28 ?_
  refine lv_bipush (v := 100) S.1 S.2.1 dX4_drawHundredth_29 (by decide) ?_
  refine lv_irem S.1 S.2.1 dX4_drawHundredth_31 (by decide) ?_
  exact o_iret S hr hlo I f dX4_drawHundredth_32
theorem M4_drawHundredth (l : Launch) (D : va_G) (cy : Nat → ClassId) (b : Nat) (A : Nat → Prop) (fl : Bool) {h : PH} {a0 : Nat} {out : Int32 × PH} (f : F4_drawHundredth h a0 = some out) : Met l yX4_drawHundredth vX4_drawHundredth ({ frames := 0, cells := 0, slots := 0, locals := 0 } : Room) (va_Pc [.ref (b + a0)] (ph_B D cy b A fl h)) (va_Qi (fun (r : Int32) (u : PH) => (r, u) = out) (ph_B D cy b A fl) A) 0 0 A :=
  o_met (by decide) rfl (Nat.le_of_ble_eq_true rfl) rfl (fun p e s m below meth c S hr hlo hnm ls hl I => T4_drawHundredth_0 S hr hlo ((gd f).2) I (lv_sub hl [0] rfl))
def vX4_hadInSum : List Cond := .code yX4_hadInSum cX4_hadInSum 4 (some .int) :: TB
theorem lf4_hadInSum_15 : Fl vX4_hadInSum RX4 15 4 6 := ⟨RX4, TX4, 11, rfl, by decide, (fun w h9 => List.mem_cons_of_mem _ (wC_wsX40 w h9)), (List.mem_cons_of_mem _ wT_8_5)⟩
theorem cd4_hadInSum : Cd yX4_hadInSum 1 := ⟨by decide, by decide, by decide +kernel⟩
set_option maxHeartbeats 4000000 in
set_option maxRecDepth 100000 in
theorem T4_hadInSum_4 (S : CallFix p m c cX4_hadInSum 4 s args vX4_hadInSum RX4) (hr : meth.sig.returnType = (some .int)) (hlo : meth.locks = false) {out : Int32 × PH} : ∀ (n : Nat) {h : PH} {a0 : Nat} {x1 : Int32} {x2 : Int32} {x3 : Int32} (f : F4_hadInSum_4  n h a0 x1 x2 x3 = some out) {H : Heap} {locs : List Loc} (I : ph_I D cy b A fl h s H locs) {ls : Array Slot} (hl : lv_has ls 4 [(0, .ref (b + a0)), (1, .int x1), (2, .int x2), (3, .int x3)]), W p l e ({ frames := 0, cells := 0, slots := 0, locals := 0 } : Room) s m args below meth c H locs 0 0 (MQ below (va_Qi (fun (r : Int32) (u : PH) => (r, u) = out) (ph_B D cy b A fl) A) args s 0 0 A) (F0 m 4 ls []) := by
  intro n
  induction n with
  | zero => intro h a0 x1 x2 x3 f; rw [F4_hadInSum_4] at f; cases f
  | succ n ih =>
    intro h a0 x1 x2 x3 f H locs I ls hl
    rw [F4_hadInSum_4] at f
    refine lv_iload_n S.1 S.2.1 dX4_hadInSum_4 rfl (lv_at hl 3 rfl) ?_
    refine lv_iload_n S.1 S.2.1 dX4_hadInSum_5 rfl (lv_at hl 1 rfl) ?_
    refine lv_icmp_ge (tgt := 24) S.1 S.2.1 dX4_hadInSum_6 (by decide) (fun q1 => ?_) (fun q1 => ?_)
    · have f := (if_pos q1).symm.trans f
      refine lv_iload_n S.1 S.2.1 dX4_hadInSum_24 rfl (lv_at hl 2 rfl) ?_
      exact o_iret S hr hlo I f dX4_hadInSum_25
    · have f := (if_neg q1).symm.trans f
      refine lv_iload_n S.1 S.2.1 dX4_hadInSum_9 rfl (lv_at hl 2 rfl) ?_
      refine lv_aload_n S.1 S.2.1 dX4_hadInSum_10 rfl (lv_at hl 0 rfl) ?_
      obtain ⟨r2, e3, f⟩ := ob f
      refine o_gR S lf4_hadInSum_15 I e3 dX4_hadInSum_11 ?_
      refine lv_iload_n S.1 S.2.1 dX4_hadInSum_14 rfl (lv_at hl 3 rfl) ?_
      obtain ⟨v5, e4, f⟩ := ob f
      refine o_iald S I e4 dX4_hadInSum_15 ?_
      refine lv_iadd S.1 S.2.1 dX4_hadInSum_16 ?_
      refine lv_istore_n (lv' := [(2, .int (x2 + v5)), (0, .ref (b + a0)), (1, .int x1), (3, .int x3)]) S.1 S.2.1 dX4_hadInSum_17 rfl hl (by decide) rfl (fun ls hl => ?_)
      refine lv_iinc (v := (x3 + 1)) (lv' := [(3, .int (x3 + 1)), (2, .int (x2 + v5)), (0, .ref (b + a0)), (1, .int x1)]) S.1 S.2.1 dX4_hadInSum_18 hl (k := 3) rfl (congrArg (fun z => x3 + z) (by decide)) (by decide) rfl (fun ls hl => ?_)
      refine lv_goto (tgt := 4) S.1 S.2.1 dX4_hadInSum_21 (by decide) ?_
      exact ih f I (lv_sub hl [2, 3, 1, 0] rfl)
set_option maxHeartbeats 4000000 in
set_option maxRecDepth 100000 in
theorem T4_hadInSum_0 (S : CallFix p m c cX4_hadInSum 4 s args vX4_hadInSum RX4) (hr : meth.sig.returnType = (some .int)) (hlo : meth.locks = false) {out : Int32 × PH} {h : PH} {a0 : Nat} {x1 : Int32} (f : F4_hadInSum_0  h a0 x1 = some out) {H : Heap} {locs : List Loc} (I : ph_I D cy b A fl h s H locs) {ls : Array Slot} (hl : lv_has ls 4 [(0, .ref (b + a0)), (1, .int x1)]) : W p l e ({ frames := 0, cells := 0, slots := 0, locals := 0 } : Room) s m args below meth c H locs 0 0 (MQ below (va_Qi (fun (r : Int32) (u : PH) => (r, u) = out) (ph_B D cy b A fl) A) args s 0 0 A) (F0 m 0 ls []) := by
  unfold F4_hadInSum_0 at f
  refine lv_iconst (v := 0) S.1 S.2.1 dX4_hadInSum_0 (by decide) ?_
  refine lv_istore_n (lv' := [(2, .int 0), (0, .ref (b + a0)), (1, .int x1)]) S.1 S.2.1 dX4_hadInSum_1 rfl hl (by decide) rfl (fun ls hl => ?_)
  refine lv_iconst (v := 0) S.1 S.2.1 dX4_hadInSum_2 (by decide) ?_
  refine lv_istore_n (lv' := [(3, .int 0), (2, .int 0), (0, .ref (b + a0)), (1, .int x1)]) S.1 S.2.1 dX4_hadInSum_3 rfl hl (by decide) rfl (fun ls hl => ?_)
  exact T4_hadInSum_4 S hr hlo  1024 f I (lv_sub hl [2, 3, 1, 0] rfl)
theorem M4_hadInSum (l : Launch) (D : va_G) (cy : Nat → ClassId) (b : Nat) (A : Nat → Prop) (fl : Bool) {h : PH} {a0 : Nat} {x1 : Int32} {out : Int32 × PH} (f : F4_hadInSum h a0 x1 = some out) : Met l yX4_hadInSum vX4_hadInSum ({ frames := 0, cells := 0, slots := 0, locals := 0 } : Room) (va_Pc [.ref (b + a0), .int x1] (ph_B D cy b A fl h)) (va_Qi (fun (r : Int32) (u : PH) => (r, u) = out) (ph_B D cy b A fl) A) 0 0 A :=
  o_met (by decide) rfl (Nat.le_of_ble_eq_true rfl) rfl (fun p e s m below meth c S hr hlo hnm ls hl I => T4_hadInSum_0 S hr hlo ((gd f).2) I (lv_sub hl [0, 1] rfl))
def vX4_leaveOut : List Cond := .code yX4_leaveOut cX4_leaveOut 2 none :: TB
theorem lf4_leaveOut_21 : Fl vX4_leaveOut RX4 21 4 8 := ⟨RX4, TX4, 11, rfl, by decide, (fun w h9 => List.mem_cons_of_mem _ (wC_wsX40 w h9)), (List.mem_cons_of_mem _ wT_8_7)⟩
theorem cd4_leaveOut : Cd yX4_leaveOut 1 := ⟨by decide, by decide, by decide +kernel⟩
set_option maxHeartbeats 4000000 in
set_option maxRecDepth 100000 in
theorem T4_leaveOut_0 (S : CallFix p m c cX4_leaveOut 2 s args vX4_leaveOut RX4) (hr : meth.sig.returnType = none) (hlo : meth.locks = false) {out : PH} {h : PH} {a0 : Nat} {x1 : Int32} (f : F4_leaveOut_0  h a0 x1 = some out) {H : Heap} {locs : List Loc} (I : ph_I D cy b A fl h s H locs) {ls : Array Slot} (hl : lv_has ls 2 [(0, .ref (b + a0)), (1, .int x1)]) : W p l e ({ frames := 0, cells := 0, slots := 0, locals := 0 } : Room) s m args below meth c H locs 0 0 (MQ below (va_Qv (fun (u : PH) => u = out) (ph_B D cy b A fl) A) args s 0 0 A) (F0 m 0 ls []) := by
  unfold F4_leaveOut_0 at f
  refine lv_aload_n S.1 S.2.1 dX4_leaveOut_0 rfl (lv_at hl 0 rfl) ?_
  obtain ⟨r1, e2, f⟩ := ob f
  refine o_gR S lf4_leaveOut_21 I e2 dX4_leaveOut_1 ?_
  refine lv_iload_n S.1 S.2.1 dX4_leaveOut_4 rfl (lv_at hl 1 rfl) ?_
  refine lv_ldc (v := 2147483647) S.1 S.2.1 S.2.2.2.1 (S.2.2.2.2 _ (List.mem_cons_of_mem _ wT_65_13)) dX4_leaveOut_5 ?_
  obtain ⟨h4, e3, f⟩ := ob f
  refine o_iast S I e3 dX4_leaveOut_7 (fun H locs I => ?_)
  exact o_vret S hr hlo I f dX4_leaveOut_8
theorem M4_leaveOut (l : Launch) (D : va_G) (cy : Nat → ClassId) (b : Nat) (A : Nat → Prop) (fl : Bool) {h : PH} {a0 : Nat} {x1 : Int32} {out : PH} (f : F4_leaveOut h a0 x1 = some out) : Met l yX4_leaveOut vX4_leaveOut ({ frames := 0, cells := 0, slots := 0, locals := 0 } : Room) (va_Pc [.ref (b + a0), .int x1] (ph_B D cy b A fl h)) (va_Qv (fun (u : PH) => u = out) (ph_B D cy b A fl) A) 0 0 A :=
  o_met (by decide) rfl (Nat.le_of_ble_eq_true rfl) rfl (fun p e s m below meth c S hr hlo hnm ls hl I => T4_leaveOut_0 S hr hlo ((gd f).2) I (lv_sub hl [0, 1] rfl))
def vX4_seatAll : List Cond := .code yX4_seatAll cX4_seatAll 3 none :: TB
theorem lf4_seatAll_9 : Fl vX4_seatAll RX4 9 4 5 := ⟨RX4, TX4, 11, rfl, by decide, (fun w h9 => List.mem_cons_of_mem _ (wC_wsX40 w h9)), (List.mem_cons_of_mem _ wT_8_4)⟩
theorem cd4_seatAll : Cd yX4_seatAll 1 := ⟨by decide, by decide, by decide +kernel⟩
set_option maxHeartbeats 4000000 in
set_option maxRecDepth 100000 in
theorem T4_seatAll_2 (S : CallFix p m c cX4_seatAll 3 s args vX4_seatAll RX4) (hr : meth.sig.returnType = none) (hlo : meth.locks = false) {out : PH} : ∀ (n : Nat) {h : PH} {a0 : Nat} {x1 : Int32} {x2 : Int32} (f : F4_seatAll_2  n h a0 x1 x2 = some out) {H : Heap} {locs : List Loc} (I : ph_I D cy b A fl h s H locs) {ls : Array Slot} (hl : lv_has ls 3 [(0, .ref (b + a0)), (1, .int x1), (2, .int x2)]), W p l e ({ frames := 0, cells := 0, slots := 0, locals := 0 } : Room) s m args below meth c H locs 0 0 (MQ below (va_Qv (fun (u : PH) => u = out) (ph_B D cy b A fl) A) args s 0 0 A) (F0 m 2 ls []) := by
  intro n
  induction n with
  | zero => intro h a0 x1 x2 f; rw [F4_seatAll_2] at f; cases f
  | succ n ih =>
    intro h a0 x1 x2 f H locs I ls hl
    rw [F4_seatAll_2] at f
    refine lv_iload_n S.1 S.2.1 dX4_seatAll_2 rfl (lv_at hl 2 rfl) ?_
    refine lv_iconst (v := 5) S.1 S.2.1 dX4_seatAll_3 (by decide) ?_
    refine lv_icmp_ge (tgt := 20) S.1 S.2.1 dX4_seatAll_4 (by decide) (fun q1 => ?_) (fun q1 => ?_)
    · have f := (if_pos q1).symm.trans f
      exact o_vret S hr hlo I f dX4_seatAll_20
    · have f := (if_neg q1).symm.trans f
      refine lv_aload_n S.1 S.2.1 dX4_seatAll_7 rfl (lv_at hl 0 rfl) ?_
      obtain ⟨r2, e3, f⟩ := ob f
      refine o_gR S lf4_seatAll_9 I e3 dX4_seatAll_8 ?_
      refine lv_iload_n S.1 S.2.1 dX4_seatAll_11 rfl (lv_at hl 2 rfl) ?_
      refine lv_iload_n S.1 S.2.1 dX4_seatAll_12 rfl (lv_at hl 1 rfl) ?_
      obtain ⟨h5, e4, f⟩ := ob f
      refine o_iast S I e4 dX4_seatAll_13 (fun H locs I => ?_)
      refine lv_iinc (v := (x2 + 1)) (lv' := [(2, .int (x2 + 1)), (0, .ref (b + a0)), (1, .int x1)]) S.1 S.2.1 dX4_seatAll_14 hl (k := 2) rfl (congrArg (fun z => x2 + z) (by decide)) (by decide) rfl (fun ls hl => ?_)
      refine lv_goto (tgt := 2) S.1 S.2.1 dX4_seatAll_17 (by decide) ?_
      exact ih f I (lv_sub hl [1, 2, 0] rfl)
set_option maxHeartbeats 4000000 in
set_option maxRecDepth 100000 in
theorem T4_seatAll_0 (S : CallFix p m c cX4_seatAll 3 s args vX4_seatAll RX4) (hr : meth.sig.returnType = none) (hlo : meth.locks = false) {out : PH} {h : PH} {a0 : Nat} {x1 : Int32} (f : F4_seatAll_0  h a0 x1 = some out) {H : Heap} {locs : List Loc} (I : ph_I D cy b A fl h s H locs) {ls : Array Slot} (hl : lv_has ls 3 [(0, .ref (b + a0)), (1, .int x1)]) : W p l e ({ frames := 0, cells := 0, slots := 0, locals := 0 } : Room) s m args below meth c H locs 0 0 (MQ below (va_Qv (fun (u : PH) => u = out) (ph_B D cy b A fl) A) args s 0 0 A) (F0 m 0 ls []) := by
  unfold F4_seatAll_0 at f
  refine lv_iconst (v := 0) S.1 S.2.1 dX4_seatAll_0 (by decide) ?_
  refine lv_istore_n (lv' := [(2, .int 0), (0, .ref (b + a0)), (1, .int x1)]) S.1 S.2.1 dX4_seatAll_1 rfl hl (by decide) rfl (fun ls hl => ?_)
  exact T4_seatAll_2 S hr hlo  1024 f I (lv_sub hl [1, 2, 0] rfl)
theorem M4_seatAll (l : Launch) (D : va_G) (cy : Nat → ClassId) (b : Nat) (A : Nat → Prop) (fl : Bool) {h : PH} {a0 : Nat} {x1 : Int32} {out : PH} (f : F4_seatAll h a0 x1 = some out) : Met l yX4_seatAll vX4_seatAll ({ frames := 0, cells := 0, slots := 0, locals := 0 } : Room) (va_Pc [.ref (b + a0), .int x1] (ph_B D cy b A fl h)) (va_Qv (fun (u : PH) => u = out) (ph_B D cy b A fl) A) 0 0 A :=
  o_met (by decide) rfl (Nat.le_of_ble_eq_true rfl) rfl (fun p e s m below meth c S hr hlo hnm ls hl I => T4_seatAll_0 S hr hlo ((gd f).2) I (lv_sub hl [0, 1] rfl))
def vX4_takeAll : List Cond := .code yX4_takeAll cX4_takeAll 2 none :: TB
theorem lf4_takeAll_30 : Fl vX4_takeAll RX4 30 4 0 := ⟨RX4, TX4, 11, rfl, by decide, (fun w h9 => List.mem_cons_of_mem _ (wC_wsX40 w h9)), (List.mem_cons_of_mem _ wT_26_4)⟩
theorem lp4_takeAll_30 : Pl vX4_takeAll RX4 30 4 0 .int := ⟨RX4, TX4, 11, tyX4, rfl, by decide, (fun w h9 => List.mem_cons_of_mem _ (wC_wsX40 w h9)), (List.mem_cons_of_mem _ wT_26_4), tyX4_ok, nmX4, rfl, rfl⟩
theorem lf4_takeAll_39 : Fl vX4_takeAll RX4 39 4 1 := ⟨RX4, TX4, 11, rfl, by decide, (fun w h9 => List.mem_cons_of_mem _ (wC_wsX40 w h9)), (List.mem_cons_of_mem _ wT_26_6)⟩
theorem lp4_takeAll_39 : Pl vX4_takeAll RX4 39 4 1 .int := ⟨RX4, TX4, 11, tyX4, rfl, by decide, (fun w h9 => List.mem_cons_of_mem _ (wC_wsX40 w h9)), (List.mem_cons_of_mem _ wT_26_6), tyX4_ok, nmX4, rfl, rfl⟩
theorem lf4_takeAll_43 : Fl vX4_takeAll RX4 43 4 2 := ⟨RX4, TX4, 11, rfl, by decide, (fun w h9 => List.mem_cons_of_mem _ (wC_wsX40 w h9)), (List.mem_cons_of_mem _ wT_26_8)⟩
theorem lp4_takeAll_43 : Pl vX4_takeAll RX4 43 4 2 .int := ⟨RX4, TX4, 11, tyX4, rfl, by decide, (fun w h9 => List.mem_cons_of_mem _ (wC_wsX40 w h9)), (List.mem_cons_of_mem _ wT_26_8), tyX4_ok, nmX4, rfl, rfl⟩
theorem lf4_takeAll_46 : Fl vX4_takeAll RX4 46 4 3 := ⟨RX4, TX4, 11, rfl, by decide, (fun w h9 => List.mem_cons_of_mem _ (wC_wsX40 w h9)), (List.mem_cons_of_mem _ wT_26_9)⟩
theorem lp4_takeAll_46 : Pl vX4_takeAll RX4 46 4 3 .int := ⟨RX4, TX4, 11, tyX4, rfl, by decide, (fun w h9 => List.mem_cons_of_mem _ (wC_wsX40 w h9)), (List.mem_cons_of_mem _ wT_26_9), tyX4_ok, nmX4, rfl, rfl⟩
theorem lf4_takeAll_49 : Fl vX4_takeAll RX4 49 4 4 := ⟨RX4, TX4, 11, rfl, by decide, (fun w h9 => List.mem_cons_of_mem _ (wC_wsX40 w h9)), (List.mem_cons_of_mem _ wT_26_10)⟩
theorem lp4_takeAll_49 : Pl vX4_takeAll RX4 49 4 4 .int := ⟨RX4, TX4, 11, tyX4, rfl, by decide, (fun w h9 => List.mem_cons_of_mem _ (wC_wsX40 w h9)), (List.mem_cons_of_mem _ wT_26_10), tyX4_ok, nmX4, rfl, rfl⟩
theorem lf4_takeAll_9 : Fl vX4_takeAll RX4 9 4 5 := ⟨RX4, TX4, 11, rfl, by decide, (fun w h9 => List.mem_cons_of_mem _ (wC_wsX40 w h9)), (List.mem_cons_of_mem _ wT_8_4)⟩
theorem la4_takeAll_59 : Al vX4_takeAll RX4 59 := ⟨(List.mem_cons_of_mem _ wT_57_18), (List.mem_cons_of_mem _ wT_24_5), (List.mem_cons_of_mem _ wT_24_6), (List.mem_cons_of_mem _ wT_24_7)⟩
theorem lf4_takeAll_15 : Fl vX4_takeAll RX4 15 4 6 := ⟨RX4, TX4, 11, rfl, by decide, (fun w h9 => List.mem_cons_of_mem _ (wC_wsX40 w h9)), (List.mem_cons_of_mem _ wT_8_5)⟩
theorem lf4_takeAll_18 : Fl vX4_takeAll RX4 18 4 7 := ⟨RX4, TX4, 11, rfl, by decide, (fun w h9 => List.mem_cons_of_mem _ (wC_wsX40 w h9)), (List.mem_cons_of_mem _ wT_8_6)⟩
theorem lf4_takeAll_21 : Fl vX4_takeAll RX4 21 4 8 := ⟨RX4, TX4, 11, rfl, by decide, (fun w h9 => List.mem_cons_of_mem _ (wC_wsX40 w h9)), (List.mem_cons_of_mem _ wT_8_7)⟩
theorem lf4_takeAll_24 : Fl vX4_takeAll RX4 24 4 9 := ⟨RX4, TX4, 11, rfl, by decide, (fun w h9 => List.mem_cons_of_mem _ (wC_wsX40 w h9)), (List.mem_cons_of_mem _ wT_8_8)⟩
theorem lf4_takeAll_27 : Fl vX4_takeAll RX4 27 4 10 := ⟨RX4, TX4, 11, rfl, by decide, (fun w h9 => List.mem_cons_of_mem _ (wC_wsX40 w h9)), (List.mem_cons_of_mem _ wT_8_9)⟩
theorem cd4_takeAll : Cd yX4_takeAll 1 := ⟨by decide, by decide, by decide +kernel⟩
set_option maxHeartbeats 4000000 in
set_option maxRecDepth 100000 in
theorem T4_takeAll_0 (S : CallFix p m c cX4_takeAll 2 s args vX4_takeAll RX4) (hr : meth.sig.returnType = none) (hlo : meth.locks = false) {out : PH} {h : PH} {a0 : Nat} {a1 : Nat} (f : F4_takeAll_0  h a0 a1 = some out) {H : Heap} {locs : List Loc} (I : ph_I D cy b A false h s H locs) {ls : Array Slot} (hl : lv_has ls 2 [(0, .ref (b + a0)), (1, .ref (b + a1))]) : W p l e ({ frames := 1, cells := 0, slots := 0, locals := 40 } : Room) s m args below meth c H locs 0 0 (MQ below (va_Qv (fun (u : PH) => u = out) (ph_B D cy b A false) A) args s 0 0 A) (F0 m 0 ls []) := by
  unfold F4_takeAll_0 at f
  refine lv_aload_n S.1 S.2.1 dX4_takeAll_0 rfl (lv_at hl 0 rfl) ?_
  refine lv_aload_n S.1 S.2.1 dX4_takeAll_1 rfl (lv_at hl 1 rfl) ?_
  obtain ⟨v1, e2, f⟩ := ob f
  refine o_gI S lf4_takeAll_30 I e2 dX4_takeAll_2 ?_
  obtain ⟨h3, e4, f⟩ := ob f
  refine o_pI S lp4_takeAll_30 I e4 dX4_takeAll_5 (fun H locs I => ?_)
  refine lv_aload_n S.1 S.2.1 dX4_takeAll_8 rfl (lv_at hl 0 rfl) ?_
  refine lv_aload_n S.1 S.2.1 dX4_takeAll_9 rfl (lv_at hl 1 rfl) ?_
  obtain ⟨v5, e6, f⟩ := ob f
  refine o_gI S lf4_takeAll_39 I e6 dX4_takeAll_10 ?_
  obtain ⟨h7, e8, f⟩ := ob f
  refine o_pI S lp4_takeAll_39 I e8 dX4_takeAll_13 (fun H locs I => ?_)
  refine lv_aload_n S.1 S.2.1 dX4_takeAll_16 rfl (lv_at hl 0 rfl) ?_
  refine lv_aload_n S.1 S.2.1 dX4_takeAll_17 rfl (lv_at hl 1 rfl) ?_
  obtain ⟨v9, e10, f⟩ := ob f
  refine o_gI S lf4_takeAll_43 I e10 dX4_takeAll_18 ?_
  obtain ⟨h11, e12, f⟩ := ob f
  refine o_pI S lp4_takeAll_43 I e12 dX4_takeAll_21 (fun H locs I => ?_)
  refine lv_aload_n S.1 S.2.1 dX4_takeAll_24 rfl (lv_at hl 0 rfl) ?_
  refine lv_aload_n S.1 S.2.1 dX4_takeAll_25 rfl (lv_at hl 1 rfl) ?_
  obtain ⟨v13, e14, f⟩ := ob f
  refine o_gI S lf4_takeAll_46 I e14 dX4_takeAll_26 ?_
  obtain ⟨h15, e16, f⟩ := ob f
  refine o_pI S lp4_takeAll_46 I e16 dX4_takeAll_29 (fun H locs I => ?_)
  refine lv_aload_n S.1 S.2.1 dX4_takeAll_32 rfl (lv_at hl 0 rfl) ?_
  refine lv_aload_n S.1 S.2.1 dX4_takeAll_33 rfl (lv_at hl 1 rfl) ?_
  obtain ⟨v17, e18, f⟩ := ob f
  refine o_gI S lf4_takeAll_49 I e18 dX4_takeAll_34 ?_
  obtain ⟨h19, e20, f⟩ := ob f
  refine o_pI S lp4_takeAll_49 I e20 dX4_takeAll_37 (fun H locs I => ?_)
  refine lv_aload_n S.1 S.2.1 dX4_takeAll_40 rfl (lv_at hl 1 rfl) ?_
  obtain ⟨r21, e22, f⟩ := ob f
  refine o_gR S lf4_takeAll_9 I e22 dX4_takeAll_41 ?_
  refine lv_iconst (v := 0) S.1 S.2.1 dX4_takeAll_44 (by decide) ?_
  refine lv_aload_n S.1 S.2.1 dX4_takeAll_45 rfl (lv_at hl 0 rfl) ?_
  obtain ⟨r23, e24, f⟩ := ob f
  refine o_gR S lf4_takeAll_9 I e24 dX4_takeAll_46 ?_
  refine lv_iconst (v := 0) S.1 S.2.1 dX4_takeAll_49 (by decide) ?_
  refine lv_iconst (v := 5) S.1 S.2.1 dX4_takeAll_50 (by decide) ?_
  obtain ⟨h25, e26, f⟩ := ob f
  refine o_copy S la4_takeAll_59 hl.1 I e26 (Nat.le_of_ble_eq_true rfl) (Nat.le_of_ble_eq_true rfl) dX4_takeAll_51 (fun H locs I => ?_)
  refine lv_aload_n S.1 S.2.1 dX4_takeAll_54 rfl (lv_at hl 1 rfl) ?_
  obtain ⟨r27, e28, f⟩ := ob f
  refine o_gR S lf4_takeAll_15 I e28 dX4_takeAll_55 ?_
  refine lv_iconst (v := 0) S.1 S.2.1 dX4_takeAll_58 (by decide) ?_
  refine lv_aload_n S.1 S.2.1 dX4_takeAll_59 rfl (lv_at hl 0 rfl) ?_
  obtain ⟨r29, e30, f⟩ := ob f
  refine o_gR S lf4_takeAll_15 I e30 dX4_takeAll_60 ?_
  refine lv_iconst (v := 0) S.1 S.2.1 dX4_takeAll_63 (by decide) ?_
  refine lv_iconst (v := 5) S.1 S.2.1 dX4_takeAll_64 (by decide) ?_
  obtain ⟨h31, e32, f⟩ := ob f
  refine o_copy S la4_takeAll_59 hl.1 I e32 (Nat.le_of_ble_eq_true rfl) (Nat.le_of_ble_eq_true rfl) dX4_takeAll_65 (fun H locs I => ?_)
  refine lv_aload_n S.1 S.2.1 dX4_takeAll_68 rfl (lv_at hl 1 rfl) ?_
  obtain ⟨r33, e34, f⟩ := ob f
  refine o_gR S lf4_takeAll_18 I e34 dX4_takeAll_69 ?_
  refine lv_iconst (v := 0) S.1 S.2.1 dX4_takeAll_72 (by decide) ?_
  refine lv_aload_n S.1 S.2.1 dX4_takeAll_73 rfl (lv_at hl 0 rfl) ?_
  obtain ⟨r35, e36, f⟩ := ob f
  refine o_gR S lf4_takeAll_18 I e36 dX4_takeAll_74 ?_
  refine lv_iconst (v := 0) S.1 S.2.1 dX4_takeAll_77 (by decide) ?_
  refine lv_iconst (v := 5) S.1 S.2.1 dX4_takeAll_78 (by decide) ?_
  obtain ⟨h37, e38, f⟩ := ob f
  refine o_copy S la4_takeAll_59 hl.1 I e38 (Nat.le_of_ble_eq_true rfl) (Nat.le_of_ble_eq_true rfl) dX4_takeAll_79 (fun H locs I => ?_)
  refine lv_aload_n S.1 S.2.1 dX4_takeAll_82 rfl (lv_at hl 1 rfl) ?_
  obtain ⟨r39, e40, f⟩ := ob f
  refine o_gR S lf4_takeAll_21 I e40 dX4_takeAll_83 ?_
  refine lv_iconst (v := 0) S.1 S.2.1 dX4_takeAll_86 (by decide) ?_
  refine lv_aload_n S.1 S.2.1 dX4_takeAll_87 rfl (lv_at hl 0 rfl) ?_
  obtain ⟨r41, e42, f⟩ := ob f
  refine o_gR S lf4_takeAll_21 I e42 dX4_takeAll_88 ?_
  refine lv_iconst (v := 0) S.1 S.2.1 dX4_takeAll_91 (by decide) ?_
  refine lv_iconst (v := 5) S.1 S.2.1 dX4_takeAll_92 (by decide) ?_
  obtain ⟨h43, e44, f⟩ := ob f
  refine o_copy S la4_takeAll_59 hl.1 I e44 (Nat.le_of_ble_eq_true rfl) (Nat.le_of_ble_eq_true rfl) dX4_takeAll_93 (fun H locs I => ?_)
  refine lv_aload_n S.1 S.2.1 dX4_takeAll_96 rfl (lv_at hl 1 rfl) ?_
  obtain ⟨r45, e46, f⟩ := ob f
  refine o_gR S lf4_takeAll_24 I e46 dX4_takeAll_97 ?_
  refine lv_iconst (v := 0) S.1 S.2.1 dX4_takeAll_100 (by decide) ?_
  refine lv_aload_n S.1 S.2.1 dX4_takeAll_101 rfl (lv_at hl 0 rfl) ?_
  obtain ⟨r47, e48, f⟩ := ob f
  refine o_gR S lf4_takeAll_24 I e48 dX4_takeAll_102 ?_
  refine lv_iconst (v := 0) S.1 S.2.1 dX4_takeAll_105 (by decide) ?_
  refine lv_iconst (v := 5) S.1 S.2.1 dX4_takeAll_106 (by decide) ?_
  obtain ⟨h49, e50, f⟩ := ob f
  refine o_copy S la4_takeAll_59 hl.1 I e50 (Nat.le_of_ble_eq_true rfl) (Nat.le_of_ble_eq_true rfl) dX4_takeAll_107 (fun H locs I => ?_)
  refine lv_aload_n S.1 S.2.1 dX4_takeAll_110 rfl (lv_at hl 1 rfl) ?_
  obtain ⟨r51, e52, f⟩ := ob f
  refine o_gR S lf4_takeAll_27 I e52 dX4_takeAll_111 ?_
  refine lv_iconst (v := 0) S.1 S.2.1 dX4_takeAll_114 (by decide) ?_
  refine lv_aload_n S.1 S.2.1 dX4_takeAll_115 rfl (lv_at hl 0 rfl) ?_
  obtain ⟨r53, e54, f⟩ := ob f
  refine o_gR S lf4_takeAll_27 I e54 dX4_takeAll_116 ?_
  refine lv_iconst (v := 0) S.1 S.2.1 dX4_takeAll_119 (by decide) ?_
  refine lv_bipush (v := 28) S.1 S.2.1 dX4_takeAll_120 (by decide) ?_
  obtain ⟨h55, e56, f⟩ := ob f
  refine o_copy S la4_takeAll_59 hl.1 I e56 (Nat.le_of_ble_eq_true rfl) (Nat.le_of_ble_eq_true rfl) dX4_takeAll_122 (fun H locs I => ?_)
  exact o_vret S hr hlo I f dX4_takeAll_125
theorem M4_takeAll (l : Launch) (D : va_G) (cy : Nat → ClassId) (b : Nat) (A : Nat → Prop) {h : PH} {a0 : Nat} {a1 : Nat} {out : PH} (f : F4_takeAll h a0 a1 = some out) : Met l yX4_takeAll vX4_takeAll ({ frames := 1, cells := 0, slots := 0, locals := 40 } : Room) (va_Pc [.ref (b + a0), .ref (b + a1)] (ph_B D cy b A false h)) (va_Qv (fun (u : PH) => u = out) (ph_B D cy b A false) A) 0 0 A :=
  o_met (by decide) rfl (Nat.le_of_ble_eq_true rfl) rfl (fun p e s m below meth c S hr hlo hnm ls hl I => T4_takeAll_0 S hr hlo ((gd f).2) I (lv_sub hl [0, 1] rfl))
def vX4_takeForRun : List Cond := .code yX4_takeForRun cX4_takeForRun 4 none :: TB
theorem gX4_takeForRun_X4_takeAll : GoodIn vX4_takeForRun (wsV RX4 65 RX4 yX4_takeAll vX4_takeAll) := gV_of wT_57_14 wT_57_15 wT_57_16 wT_2_7 wT_57_17
theorem lp4_takeForRun_39 : Pl vX4_takeForRun RX4 39 4 1 .int := ⟨RX4, TX4, 11, tyX4, rfl, by decide, (fun w h9 => List.mem_cons_of_mem _ (wC_wsX40 w h9)), (List.mem_cons_of_mem _ wT_26_6), tyX4_ok, nmX4, rfl, rfl⟩
theorem lp4_takeForRun_43 : Pl vX4_takeForRun RX4 43 4 2 .int := ⟨RX4, TX4, 11, tyX4, rfl, by decide, (fun w h9 => List.mem_cons_of_mem _ (wC_wsX40 w h9)), (List.mem_cons_of_mem _ wT_26_8), tyX4_ok, nmX4, rfl, rfl⟩
theorem lp4_takeForRun_46 : Pl vX4_takeForRun RX4 46 4 3 .int := ⟨RX4, TX4, 11, tyX4, rfl, by decide, (fun w h9 => List.mem_cons_of_mem _ (wC_wsX40 w h9)), (List.mem_cons_of_mem _ wT_26_9), tyX4_ok, nmX4, rfl, rfl⟩
theorem lp4_takeForRun_49 : Pl vX4_takeForRun RX4 49 4 4 .int := ⟨RX4, TX4, 11, tyX4, rfl, by decide, (fun w h9 => List.mem_cons_of_mem _ (wC_wsX40 w h9)), (List.mem_cons_of_mem _ wT_26_10), tyX4_ok, nmX4, rfl, rfl⟩
theorem cd4_takeForRun : Cd yX4_takeForRun 3 := ⟨by decide, by decide, by decide +kernel⟩
set_option maxHeartbeats 4000000 in
set_option maxRecDepth 100000 in
theorem T4_takeForRun_0 (S : CallFix p m c cX4_takeForRun 4 s args vX4_takeForRun RX4) (hr : meth.sig.returnType = none) (hlo : meth.locks = false) {out : PH} {h : PH} {a0 : Nat} {a1 : Nat} {x2 : Int32} {x3 : Int32} (f : F4_takeForRun_0  h a0 a1 x2 x3 = some out) {H : Heap} {locs : List Loc} (I : ph_I D cy b A false h s H locs) {ls : Array Slot} (hl : lv_has ls 4 [(0, .ref (b + a0)), (1, .ref (b + a1)), (2, .int x2), (3, .int x3)]) : W p l e ({ frames := 2, cells := 0, slots := 0, locals := 61 } : Room) s m args below meth c H locs 0 0 (MQ below (va_Qv (fun (u : PH) => u = out) (ph_B D cy b A false) A) args s 0 0 A) (F0 m 0 ls []) := by
  unfold F4_takeForRun_0 at f
  refine lv_aload_n S.1 S.2.1 dX4_takeForRun_0 rfl (lv_at hl 0 rfl) ?_
  refine lv_aload_n S.1 S.2.1 dX4_takeForRun_1 rfl (lv_at hl 1 rfl) ?_
  obtain ⟨o1, e2, f⟩ := ob f
  refine o_Vv S (As := [.ref (b + a1)]) (rest := []) (ci := 4) (M4_takeAll l D cy b A e2) gX4_takeForRun_X4_takeAll rfl rfl rfl cd4_takeAll ⟨Nat.le_of_ble_eq_true rfl, Nat.le_of_ble_eq_true rfl⟩ I (gd e2).1 clX4 rfl rfl hl.1 rfl (Nat.le_of_ble_eq_true rfl) dX4_takeForRun_2 ⟨Nat.le_of_ble_eq_true rfl, Nat.le_of_ble_eq_true rfl⟩ (fun H locs I => ?_)
  refine lv_aload_n S.1 S.2.1 dX4_takeForRun_5 rfl (lv_at hl 0 rfl) ?_
  refine lv_iload_n S.1 S.2.1 dX4_takeForRun_6 rfl (lv_at hl 2 rfl) ?_
  obtain ⟨h3, e4, f⟩ := ob f
  refine o_pI S lp4_takeForRun_39 I e4 dX4_takeForRun_7 (fun H locs I => ?_)
  refine lv_aload_n S.1 S.2.1 dX4_takeForRun_10 rfl (lv_at hl 0 rfl) ?_
  refine lv_iload_n S.1 S.2.1 dX4_takeForRun_11 rfl (lv_at hl 3 rfl) ?_
  obtain ⟨h5, e6, f⟩ := ob f
  refine o_pI S lp4_takeForRun_43 I e6 dX4_takeForRun_12 (fun H locs I => ?_)
  refine lv_aload_n S.1 S.2.1 dX4_takeForRun_15 rfl (lv_at hl 0 rfl) ?_
  refine lv_iconst (v := 0) S.1 S.2.1 dX4_takeForRun_16 (by decide) ?_
  obtain ⟨h7, e8, f⟩ := ob f
  refine o_pI S lp4_takeForRun_46 I e8 dX4_takeForRun_17 (fun H locs I => ?_)
  refine lv_aload_n S.1 S.2.1 dX4_takeForRun_20 rfl (lv_at hl 0 rfl) ?_
  refine lv_iconst (v := 0) S.1 S.2.1 dX4_takeForRun_21 (by decide) ?_
  obtain ⟨h9, e10, f⟩ := ob f
  refine o_pI S lp4_takeForRun_49 I e10 dX4_takeForRun_22 (fun H locs I => ?_)
  exact o_vret S hr hlo I f dX4_takeForRun_25
theorem M4_takeForRun (l : Launch) (D : va_G) (cy : Nat → ClassId) (b : Nat) (A : Nat → Prop) {h : PH} {a0 : Nat} {a1 : Nat} {x2 : Int32} {x3 : Int32} {out : PH} (f : F4_takeForRun h a0 a1 x2 x3 = some out) : Met l yX4_takeForRun vX4_takeForRun ({ frames := 2, cells := 0, slots := 0, locals := 61 } : Room) (va_Pc [.ref (b + a0), .ref (b + a1), .int x2, .int x3] (ph_B D cy b A false h)) (va_Qv (fun (u : PH) => u = out) (ph_B D cy b A false) A) 0 0 A :=
  o_met (by decide) rfl (Nat.le_of_ble_eq_true rfl) rfl (fun p e s m below meth c S hr hlo hnm ls hl I => T4_takeForRun_0 S hr hlo ((gd f).2) I (lv_sub hl [0, 1, 2, 3] rfl))
def vX4_unlike : List Cond := .code yX4_unlike cX4_unlike 5 (some .int) :: TB
theorem lf4_unlike_15 : Fl vX4_unlike RX4 15 4 6 := ⟨RX4, TX4, 11, rfl, by decide, (fun w h9 => List.mem_cons_of_mem _ (wC_wsX40 w h9)), (List.mem_cons_of_mem _ wT_8_5)⟩
theorem cd4_unlike : Cd yX4_unlike 1 := ⟨by decide, by decide, by decide +kernel⟩
set_option maxHeartbeats 4000000 in
set_option maxRecDepth 100000 in
theorem T4_unlike_24 (S : CallFix p m c cX4_unlike 5 s args vX4_unlike RX4) (hr : meth.sig.returnType = (some .int)) (hlo : meth.locks = false) {out : Int32 × PH} : ∀ (n : Nat) {h : PH} {a0 : Nat} {x1 : Int32} {x2 : Int32} {x3 : Int32} {x4 : Int32} (f : F4_unlike_24  n h a0 x1 x2 x3 x4 = some out) {H : Heap} {locs : List Loc} (I : ph_I D cy b A fl h s H locs) {ls : Array Slot} (hl : lv_has ls 5 [(0, .ref (b + a0)), (1, .int x1), (2, .int x2), (3, .int x3), (4, .int x4)]), W p l e ({ frames := 1, cells := 0, slots := 0, locals := 24 } : Room) s m args below meth c H locs 0 0 (MQ below (va_Qi (fun (r : Int32) (u : PH) => (r, u) = out) (ph_B D cy b A fl) A) args s 0 0 A) (F0 m 24 ls []) := by
  intro n
  induction n with
  | zero => intro h a0 x1 x2 x3 x4 f; rw [F4_unlike_24] at f; cases f
  | succ n ih =>
    intro h a0 x1 x2 x3 x4 f H locs I ls hl
    rw [F4_unlike_24] at f
    refine lv_iload S.1 S.2.1 dX4_unlike_24 (lv_at hl 4 rfl) ?_
    refine lv_iload_n S.1 S.2.1 dX4_unlike_26 rfl (lv_at hl 1 rfl) ?_
    refine lv_icmp_ge (tgt := 60) S.1 S.2.1 dX4_unlike_27 (by decide) (fun q1 => ?_) (fun q1 => ?_)
    · have f := (if_pos q1).symm.trans f
      refine lv_iload_n S.1 S.2.1 dX4_unlike_60 rfl (lv_at hl 2 rfl) ?_
      refine lv_iload_n S.1 S.2.1 dX4_unlike_61 rfl (lv_at hl 3 rfl) ?_
      refine lv_isub S.1 S.2.1 dX4_unlike_62 ?_
      exact o_iret S hr hlo I f dX4_unlike_63
    · have f := (if_neg q1).symm.trans f
      refine lv_iload_n S.1 S.2.1 dX4_unlike_30 rfl (lv_at hl 2 rfl) ?_
      refine lv_aload_n S.1 S.2.1 dX4_unlike_31 rfl (lv_at hl 0 rfl) ?_
      obtain ⟨r2, e3, f⟩ := ob f
      refine o_gR S lf4_unlike_15 I e3 dX4_unlike_32 ?_
      refine lv_iload S.1 S.2.1 dX4_unlike_35 (lv_at hl 4 rfl) ?_
      obtain ⟨v5, e4, f⟩ := ob f
      refine o_iald S I e4 dX4_unlike_37 ?_
      refine va_mmax S.1 S.2.1 (by rw [S.2.2.1, hl.1]) S.2.2.2.1 (S.2.2.2.2 _ (List.mem_cons_of_mem _ wT_57_23)) (S.2.2.2.2 _ (List.mem_cons_of_mem _ wT_38_14)) (S.2.2.2.2 _ (List.mem_cons_of_mem _ wT_15_17)) (S.2.2.2.2 _ (List.mem_cons_of_mem _ wT_38_15)) (Nat.le_of_ble_eq_true rfl) (Nat.le_of_ble_eq_true rfl) (Nat.zero_le _) (Nat.zero_le _) dX4_unlike_38 ?_
      refine lv_istore_n (lv' := [(2, .int (if x2 < v5 then v5 else x2)), (0, .ref (b + a0)), (1, .int x1), (3, .int x3), (4, .int x4)]) S.1 S.2.1 dX4_unlike_41 rfl hl (by decide) rfl (fun ls hl => ?_)
      refine lv_iload_n S.1 S.2.1 dX4_unlike_42 rfl (lv_at hl 3 rfl) ?_
      refine lv_aload_n S.1 S.2.1 dX4_unlike_43 rfl (lv_at hl 1 rfl) ?_
      obtain ⟨r6, e7, f⟩ := ob f
      refine o_gR S lf4_unlike_15 I e7 dX4_unlike_44 ?_
      refine lv_iload S.1 S.2.1 dX4_unlike_47 (lv_at hl 4 rfl) ?_
      obtain ⟨v9, e8, f⟩ := ob f
      refine o_iald S I e8 dX4_unlike_49 ?_
      refine va_mmin S.1 S.2.1 (by rw [S.2.2.1, hl.1]) S.2.2.2.1 (S.2.2.2.2 _ (List.mem_cons_of_mem _ wT_58_0)) (S.2.2.2.2 _ (List.mem_cons_of_mem _ wT_15_16)) (S.2.2.2.2 _ (List.mem_cons_of_mem _ wT_15_17)) (S.2.2.2.2 _ (List.mem_cons_of_mem _ wT_15_18)) (Nat.le_of_ble_eq_true rfl) (Nat.le_of_ble_eq_true rfl) (Nat.zero_le _) (Nat.zero_le _) dX4_unlike_50 ?_
      refine lv_istore_n (lv' := [(3, .int (if v9 < x3 then v9 else x3)), (2, .int (if x2 < v5 then v5 else x2)), (0, .ref (b + a0)), (1, .int x1), (4, .int x4)]) S.1 S.2.1 dX4_unlike_53 rfl hl (by decide) rfl (fun ls hl => ?_)
      refine lv_iinc (v := (x4 + 1)) (lv' := [(4, .int (x4 + 1)), (3, .int (if v9 < x3 then v9 else x3)), (2, .int (if x2 < v5 then v5 else x2)), (0, .ref (b + a0)), (1, .int x1)]) S.1 S.2.1 dX4_unlike_54 hl (k := 4) rfl (congrArg (fun z => x4 + z) (by decide)) (by decide) rfl (fun ls hl => ?_)
      refine lv_goto (tgt := 24) S.1 S.2.1 dX4_unlike_57 (by decide) ?_
      exact ih f I (lv_sub hl [3, 4, 2, 1, 0] rfl)
set_option maxHeartbeats 4000000 in
set_option maxRecDepth 100000 in
theorem T4_unlike_0 (S : CallFix p m c cX4_unlike 5 s args vX4_unlike RX4) (hr : meth.sig.returnType = (some .int)) (hlo : meth.locks = false) {out : Int32 × PH} {h : PH} {a0 : Nat} {x1 : Int32} (f : F4_unlike_0  h a0 x1 = some out) {H : Heap} {locs : List Loc} (I : ph_I D cy b A fl h s H locs) {ls : Array Slot} (hl : lv_has ls 5 [(0, .ref (b + a0)), (1, .int x1)]) : W p l e ({ frames := 1, cells := 0, slots := 0, locals := 24 } : Room) s m args below meth c H locs 0 0 (MQ below (va_Qi (fun (r : Int32) (u : PH) => (r, u) = out) (ph_B D cy b A fl) A) args s 0 0 A) (F0 m 0 ls []) := by
  unfold F4_unlike_0 at f
  refine lv_iload_n S.1 S.2.1 dX4_unlike_0 rfl (lv_at hl 1 rfl) ?_
  refine lv_iconst (v := 1) S.1 S.2.1 dX4_unlike_1 (by decide) ?_
  refine lv_icmp_ge (tgt := 7) S.1 S.2.1 dX4_unlike_2 (by decide) (fun q1 => ?_) (fun q1 => ?_)
  · have f := (if_pos q1).symm.trans f
    refine lv_aload_n S.1 S.2.1 dX4_unlike_7 rfl (lv_at hl 0 rfl) ?_
    obtain ⟨r2, e3, f⟩ := ob f
    refine o_gR S lf4_unlike_15 I e3 dX4_unlike_8 ?_
    refine lv_iconst (v := 0) S.1 S.2.1 dX4_unlike_11 (by decide) ?_
    obtain ⟨v5, e4, f⟩ := ob f
    refine o_iald S I e4 dX4_unlike_12 ?_
    refine lv_istore_n (lv' := [(2, .int v5), (0, .ref (b + a0)), (1, .int x1)]) S.1 S.2.1 dX4_unlike_13 rfl hl (by decide) rfl (fun ls hl => ?_)
    refine lv_aload_n S.1 S.2.1 dX4_unlike_14 rfl (lv_at hl 1 rfl) ?_
    obtain ⟨r6, e7, f⟩ := ob f
    refine o_gR S lf4_unlike_15 I e7 dX4_unlike_15 ?_
    refine lv_iconst (v := 0) S.1 S.2.1 dX4_unlike_18 (by decide) ?_
    obtain ⟨v9, e8, f⟩ := ob f
    refine o_iald S I e8 dX4_unlike_19 ?_
    refine lv_istore_n (lv' := [(3, .int v9), (2, .int v5), (0, .ref (b + a0)), (1, .int x1)]) S.1 S.2.1 dX4_unlike_20 rfl hl (by decide) rfl (fun ls hl => ?_)
    refine lv_iconst (v := 1) S.1 S.2.1 dX4_unlike_21 (by decide) ?_
    refine lv_istore (lv' := [(4, .int 1), (3, .int v9), (2, .int v5), (0, .ref (b + a0)), (1, .int x1)]) S.1 S.2.1 dX4_unlike_22 hl (by decide) rfl (fun ls hl => ?_)
    exact T4_unlike_24 S hr hlo  1024 f I (lv_sub hl [3, 4, 2, 1, 0] rfl)
  · have f := (if_neg q1).symm.trans f
    refine lv_iconst (v := 0) S.1 S.2.1 dX4_unlike_5 (by decide) ?_
    exact o_iret S hr hlo I f dX4_unlike_6
theorem M4_unlike (l : Launch) (D : va_G) (cy : Nat → ClassId) (b : Nat) (A : Nat → Prop) (fl : Bool) {h : PH} {a0 : Nat} {x1 : Int32} {out : Int32 × PH} (f : F4_unlike h a0 x1 = some out) : Met l yX4_unlike vX4_unlike ({ frames := 1, cells := 0, slots := 0, locals := 24 } : Room) (va_Pc [.ref (b + a0), .int x1] (ph_B D cy b A fl h)) (va_Qi (fun (r : Int32) (u : PH) => (r, u) = out) (ph_B D cy b A fl) A) 0 0 A :=
  o_met (by decide) rfl (Nat.le_of_ble_eq_true rfl) rfl (fun p e s m below meth c S hr hlo hnm ls hl I => T4_unlike_0 S hr hlo ((gd f).2) I (lv_sub hl [0, 1] rfl))
def vX5_refuse : List Cond := .code yX5_refuse cX5_refuse 2 (some .boolean) :: TB
theorem lp5_refuse_35 : Pl vX5_refuse RX5 35 5 8 .int := ⟨RX5, TX5, 11, tyX5, rfl, by decide, (fun w h9 => List.mem_cons_of_mem _ (wC_wsX50 w h9)), (List.mem_cons_of_mem _ wT_14_4), tyX5_ok, nmX5, rfl, rfl⟩
theorem lf5_refuse_18 : Fl vX5_refuse RX5 18 5 0 := ⟨RX5, TX5, 11, rfl, by decide, (fun w h9 => List.mem_cons_of_mem _ (wC_wsX50 w h9)), (List.mem_cons_of_mem _ wT_5_3)⟩
theorem lf5_refuse_62 : Fl vX5_refuse RX5 62 7 5 := ⟨RX7, TX7, 7, rfl, by decide, (fun w h9 => List.mem_cons_of_mem _ (wC_wsX70 w h9)), (List.mem_cons_of_mem _ wT_18_5)⟩
theorem lp5_refuse_26 : Pl vX5_refuse RX5 26 5 9 .int := ⟨RX5, TX5, 11, tyX5, rfl, by decide, (fun w h9 => List.mem_cons_of_mem _ (wC_wsX50 w h9)), (List.mem_cons_of_mem _ wT_5_5), tyX5_ok, nmX5, rfl, rfl⟩
theorem cd5_refuse : Cd yX5_refuse 1 := ⟨by decide, by decide, by decide +kernel⟩
set_option maxHeartbeats 4000000 in
set_option maxRecDepth 100000 in
theorem T5_refuse_0 (S : CallFix p m c cX5_refuse 2 s args vX5_refuse RX5) (hr : meth.sig.returnType = (some .boolean)) (hlo : meth.locks = false) {out : Int32 × PH} {h : PH} {a0 : Nat} {x1 : Int32} (f : F5_refuse_0  h a0 x1 = some out) {H : Heap} {locs : List Loc} (I : ph_I D cy b A fl h s H locs) {ls : Array Slot} (hl : lv_has ls 2 [(0, .ref (b + a0)), (1, .int x1)]) : W p l e ({ frames := 0, cells := 0, slots := 0, locals := 0 } : Room) s m args below meth c H locs 0 0 (MQ below (va_Qi (fun (r : Int32) (u : PH) => (r, u) = out) (ph_B D cy b A fl) A) args s 0 0 A) (F0 m 0 ls []) := by
  unfold F5_refuse_0 at f
  refine lv_aload_n S.1 S.2.1 dX5_refuse_0 rfl (lv_at hl 0 rfl) ?_
  refine lv_iload_n S.1 S.2.1 dX5_refuse_1 rfl (lv_at hl 1 rfl) ?_
  obtain ⟨h1, e2, f⟩ := ob f
  refine o_pI S lp5_refuse_35 I e2 dX5_refuse_2 (fun H locs I => ?_)
  refine lv_aload_n S.1 S.2.1 dX5_refuse_5 rfl (lv_at hl 0 rfl) ?_
  refine lv_aload_n S.1 S.2.1 dX5_refuse_6 rfl (lv_at hl 0 rfl) ?_
  obtain ⟨r3, e4, f⟩ := ob f
  refine o_gR S lf5_refuse_18 I e4 dX5_refuse_7 ?_
  obtain ⟨v5, e6, f⟩ := ob f
  refine o_gI S lf5_refuse_62 I e6 dX5_refuse_10 ?_
  obtain ⟨h7, e8, f⟩ := ob f
  refine o_pI S lp5_refuse_26 I e8 dX5_refuse_13 (fun H locs I => ?_)
  refine lv_iconst (v := 0) S.1 S.2.1 dX5_refuse_16 (by decide) ?_
  exact o_zret S hr hlo I f dX5_refuse_17
theorem M5_refuse (l : Launch) (D : va_G) (cy : Nat → ClassId) (b : Nat) (A : Nat → Prop) (fl : Bool) {h : PH} {a0 : Nat} {x1 : Int32} {out : Int32 × PH} (f : F5_refuse h a0 x1 = some out) : Met l yX5_refuse vX5_refuse ({ frames := 0, cells := 0, slots := 0, locals := 0 } : Room) (va_Pc [.ref (b + a0), .int x1] (ph_B D cy b A fl h)) (va_Qi (fun (r : Int32) (u : PH) => (r, u) = out) (ph_B D cy b A fl) A) 0 0 A :=
  o_met (by decide) rfl (Nat.le_of_ble_eq_true rfl) rfl (fun p e s m below meth c S hr hlo hnm ls hl I => T5_refuse_0 S hr hlo ((gd f).2) I (lv_sub hl [0, 1] rfl))
def vX5_countKnot : List Cond := .code yX5_countKnot cX5_countKnot 1 (some .boolean) :: TB
theorem lf5_countKnot_9 : Fl vX5_countKnot RX5 9 5 10 := ⟨RX5, TX5, 11, rfl, by decide, (fun w h9 => List.mem_cons_of_mem _ (wC_wsX50 w h9)), (List.mem_cons_of_mem _ wT_4_23)⟩
theorem lf5_countKnot_229 : Fl vX5_countKnot RX5 229 8 13 := ⟨RX8, TX8, 14, rfl, by decide, (fun w h9 => List.mem_cons_of_mem _ (wC_wsX80 w h9)), (List.mem_cons_of_mem _ wT_23_1)⟩
theorem lp5_countKnot_229 : Pl vX5_countKnot RX5 229 8 13 .int := ⟨RX8, TX8, 14, tyX8, rfl, by decide, (fun w h9 => List.mem_cons_of_mem _ (wC_wsX80 w h9)), (List.mem_cons_of_mem _ wT_23_1), tyX8_ok, nmX8, rfl, rfl⟩
theorem gX5_countKnot_X5_refuse : GoodIn vX5_countKnot (wsV RX5 89 RX5 yX5_refuse vX5_refuse) := gV_of wT_18_1 wT_18_2 wT_18_3 wT_1_22 wT_18_4
theorem cd5_countKnot : Cd yX5_countKnot 0 := ⟨by decide, by decide, by decide +kernel⟩
set_option maxHeartbeats 4000000 in
set_option maxRecDepth 100000 in
theorem T5_countKnot_0 (S : CallFix p m c cX5_countKnot 1 s args vX5_countKnot RX5) (hr : meth.sig.returnType = (some .boolean)) (hlo : meth.locks = false) {out : Int32 × PH} {h : PH} {a0 : Nat} (f : F5_countKnot_0  h a0 = some out) {H : Heap} {locs : List Loc} (I : ph_I D cy b A fl h s H locs) {ls : Array Slot} (hl : lv_has ls 1 [(0, .ref (b + a0))]) : W p l e ({ frames := 1, cells := 0, slots := 0, locals := 21 } : Room) s m args below meth c H locs 0 0 (MQ below (va_Qi (fun (r : Int32) (u : PH) => (r, u) = out) (ph_B D cy b A fl) A) args s 0 0 A) (F0 m 0 ls []) := by
  unfold F5_countKnot_0 at f
  refine lv_aload_n S.1 S.2.1 dX5_countKnot_0 rfl (lv_at hl 0 rfl) ?_
  obtain ⟨r1, e2, f⟩ := ob f
  refine o_gR S lf5_countKnot_9 I e2 dX5_countKnot_1 ?_
  obtain ⟨v3, e4, f⟩ := ob f
  refine o_gI S lf5_countKnot_229 I e4 dX5_countKnot_4 ?_
  refine lv_bipush (v := 64) S.1 S.2.1 dX5_countKnot_7 (by decide) ?_
  refine lv_icmp_lt (tgt := 18) S.1 S.2.1 dX5_countKnot_9 (by decide) (fun q5 => ?_) (fun q5 => ?_)
  · have f := (if_pos q5).symm.trans f
    refine lv_aload_n S.1 S.2.1 dX5_countKnot_18 rfl (lv_at hl 0 rfl) ?_
    obtain ⟨r6, e7, f⟩ := ob f
    refine o_gR S lf5_countKnot_9 I e7 dX5_countKnot_19 ?_
    refine lv_dup S.1 S.2.1 dX5_countKnot_22 rfl ?_
    obtain ⟨v8, e9, f⟩ := ob f
    refine o_gI S lf5_countKnot_229 I e9 dX5_countKnot_23 ?_
    refine lv_iconst (v := 1) S.1 S.2.1 dX5_countKnot_26 (by decide) ?_
    refine lv_iadd S.1 S.2.1 dX5_countKnot_27 ?_
    obtain ⟨h10, e11, f⟩ := ob f
    refine o_pI S lp5_countKnot_229 I e11 dX5_countKnot_28 (fun H locs I => ?_)
    refine lv_iconst (v := 1) S.1 S.2.1 dX5_countKnot_31 (by decide) ?_
    exact o_zret S hr hlo I f dX5_countKnot_32
  · have f := (if_neg q5).symm.trans f
    refine lv_aload_n S.1 S.2.1 dX5_countKnot_12 rfl (lv_at hl 0 rfl) ?_
    refine lv_iconst (v := 2) S.1 S.2.1 dX5_countKnot_13 (by decide) ?_
    obtain ⟨o12, e13, f⟩ := ob f
    refine o_Vi S (As := [.int 2]) (rest := []) (ci := 5) (M5_refuse l D cy b A fl e13) gX5_countKnot_X5_refuse rfl rfl rfl cd5_refuse ⟨Nat.le_of_ble_eq_true rfl, Nat.le_of_ble_eq_true rfl⟩ I (gd e13).1 clX5 rfl rfl hl.1 rfl (Nat.le_of_ble_eq_true rfl) dX5_countKnot_14 ⟨Nat.le_of_ble_eq_true rfl, Nat.le_of_ble_eq_true rfl⟩ (fun H locs I => ?_)
    exact o_zret S hr hlo I f dX5_countKnot_17
theorem M5_countKnot (l : Launch) (D : va_G) (cy : Nat → ClassId) (b : Nat) (A : Nat → Prop) (fl : Bool) {h : PH} {a0 : Nat} {out : Int32 × PH} (f : F5_countKnot h a0 = some out) : Met l yX5_countKnot vX5_countKnot ({ frames := 1, cells := 0, slots := 0, locals := 21 } : Room) (va_Pc [.ref (b + a0)] (ph_B D cy b A fl h)) (va_Qi (fun (r : Int32) (u : PH) => (r, u) = out) (ph_B D cy b A fl) A) 0 0 A :=
  o_met (by decide) rfl (Nat.le_of_ble_eq_true rfl) rfl (fun p e s m below meth c S hr hlo hnm ls hl I => T5_countKnot_0 S hr hlo ((gd f).2) I (lv_sub hl [0] rfl))
def vX7_isLetter : List Cond := .code yX7_isLetter cX7_isLetter 1 (some .boolean) :: TB
theorem cd7_isLetter : Cd yX7_isLetter 1 := ⟨by decide, by decide, by decide +kernel⟩
set_option maxHeartbeats 4000000 in
set_option maxRecDepth 100000 in
theorem T7_isLetter_0 (S : CallFix p m c cX7_isLetter 1 s args vX7_isLetter RX7) (hr : meth.sig.returnType = (some .boolean)) (hlo : meth.locks = false) {out : Int32 × PH} {h : PH} {x0 : Int32} (f : F7_isLetter_0  h x0 = some out) {H : Heap} {locs : List Loc} (I : ph_I D cy b A fl h s H locs) {ls : Array Slot} (hl : lv_has ls 1 [(0, .int x0)]) : W p l e ({ frames := 0, cells := 0, slots := 0, locals := 0 } : Room) s m args below meth c H locs 0 0 (MQ below (va_Qi (fun (r : Int32) (u : PH) => (r, u) = out) (ph_B D cy b A fl) A) args s 0 0 A) (F0 m 0 ls []) := by
  unfold F7_isLetter_0 at f
  refine lv_iload_n S.1 S.2.1 dX7_isLetter_0 rfl (lv_at hl 0 rfl) ?_
  refine lv_bipush (v := 97) S.1 S.2.1 dX7_isLetter_1 (by decide) ?_
  refine lv_icmp_lt (tgt := 16) S.1 S.2.1 dX7_isLetter_3 (by decide) (fun q1 => ?_) (fun q1 => ?_)
  · have f := (if_pos q1).symm.trans f
    refine lv_iconst (v := 0) S.1 S.2.1 dX7_isLetter_16 (by decide) ?_
    exact o_zret S hr hlo I f dX7_isLetter_17
  · have f := (if_neg q1).symm.trans f
    refine lv_iload_n S.1 S.2.1 dX7_isLetter_6 rfl (lv_at hl 0 rfl) ?_
    refine lv_bipush (v := 122) S.1 S.2.1 dX7_isLetter_7 (by decide) ?_
    refine lv_icmp_gt (tgt := 16) S.1 S.2.1 dX7_isLetter_9 (by decide) (fun q2 => ?_) (fun q2 => ?_)
    · have f := (if_pos q2).symm.trans f
      refine lv_iconst (v := 0) S.1 S.2.1 dX7_isLetter_16 (by decide) ?_
      exact o_zret S hr hlo I f dX7_isLetter_17
    · have f := (if_neg q2).symm.trans f
      refine lv_iconst (v := 1) S.1 S.2.1 dX7_isLetter_12 (by decide) ?_
      refine lv_goto (tgt := 17) S.1 S.2.1 dX7_isLetter_13 (by decide) ?_
      exact o_zret S hr hlo I f dX7_isLetter_17
theorem M7_isLetter (l : Launch) (D : va_G) (cy : Nat → ClassId) (b : Nat) (A : Nat → Prop) (fl : Bool) {h : PH} {x0 : Int32} {out : Int32 × PH} (f : F7_isLetter h x0 = some out) : Met l yX7_isLetter vX7_isLetter ({ frames := 0, cells := 0, slots := 0, locals := 0 } : Room) (va_Pc [.int x0] (ph_B D cy b A fl h)) (va_Qi (fun (r : Int32) (u : PH) => (r, u) = out) (ph_B D cy b A fl) A) 0 0 A :=
  o_met (by decide) rfl (Nat.le_of_ble_eq_true rfl) rfl (fun p e s m below meth c S hr hlo hnm ls hl I => T7_isLetter_0 S hr hlo (f) I (lv_sub hl [0] rfl))
def vX7_letterBits : List Cond := .code yX7_letterBits cX7_letterBits 2 (some .int) :: TB
theorem cd7_letterBits : Cd yX7_letterBits 2 := ⟨by decide, by decide, by decide +kernel⟩
set_option maxHeartbeats 4000000 in
set_option maxRecDepth 100000 in
theorem T7_letterBits_0 (S : CallFix p m c cX7_letterBits 2 s args vX7_letterBits RX7) (hr : meth.sig.returnType = (some .int)) (hlo : meth.locks = false) {out : Int32 × PH} {h : PH} {x0 : Int32} {x1 : Int32} (f : F7_letterBits_0  h x0 x1 = some out) {H : Heap} {locs : List Loc} (I : ph_I D cy b A fl h s H locs) {ls : Array Slot} (hl : lv_has ls 2 [(0, .int x0), (1, .int x1)]) : W p l e ({ frames := 0, cells := 0, slots := 0, locals := 0 } : Room) s m args below meth c H locs 0 0 (MQ below (va_Qi (fun (r : Int32) (u : PH) => (r, u) = out) (ph_B D cy b A fl) A) args s 0 0 A) (F0 m 0 ls []) := by
  unfold F7_letterBits_0 at f
  refine lv_iload_n S.1 S.2.1 dX7_letterBits_0 rfl (lv_at hl 0 rfl) ?_
  refine lv_bipush (v := 97) S.1 S.2.1 dX7_letterBits_1 (by decide) ?_
  refine lv_isub S.1 S.2.1 dX7_letterBits_3 ?_
  refine lv_iconst (v := 1) S.1 S.2.1 dX7_letterBits_4 (by decide) ?_
  refine lv_iadd S.1 S.2.1 dX7_letterBits_5 ?_
  refine lv_bipush (v := 25) S.1 S.2.1 dX7_letterBits_6 (by decide) ?_
  refine lv_iconst (v := 5) S.1 S.2.1 dX7_letterBits_8 (by decide) ?_
  refine lv_iload_n S.1 S.2.1 dX7_letterBits_9 rfl (lv_at hl 1 rfl) ?_
  refine lv_imul S.1 S.2.1 dX7_letterBits_10 ?_
  refine lv_isub S.1 S.2.1 dX7_letterBits_11 ?_
  refine lv_ishl S.1 S.2.1 dX7_letterBits_12 ?_
  exact o_iret S hr hlo I f dX7_letterBits_13
theorem M7_letterBits (l : Launch) (D : va_G) (cy : Nat → ClassId) (b : Nat) (A : Nat → Prop) (fl : Bool) {h : PH} {x0 : Int32} {x1 : Int32} {out : Int32 × PH} (f : F7_letterBits h x0 x1 = some out) : Met l yX7_letterBits vX7_letterBits ({ frames := 0, cells := 0, slots := 0, locals := 0 } : Room) (va_Pc [.int x0, .int x1] (ph_B D cy b A fl h)) (va_Qi (fun (r : Int32) (u : PH) => (r, u) = out) (ph_B D cy b A fl) A) 0 0 A :=
  o_met (by decide) rfl (Nat.le_of_ble_eq_true rfl) rfl (fun p e s m below meth c S hr hlo hnm ls hl I => T7_letterBits_0 S hr hlo (f) I (lv_sub hl [0, 1] rfl))
def vX5_isFirst : List Cond := .code yX5_isFirst cX5_isFirst 3 (some .boolean) :: TB
theorem lf5_isFirst_38 : Fl vX5_isFirst RX5 38 5 6 := ⟨RX5, TX5, 11, rfl, by decide, (fun w h9 => List.mem_cons_of_mem _ (wC_wsX50 w h9)), (List.mem_cons_of_mem _ wT_14_5)⟩
theorem lp5_isFirst_38 : Pl vX5_isFirst RX5 38 5 6 .int := ⟨RX5, TX5, 11, tyX5, rfl, by decide, (fun w h9 => List.mem_cons_of_mem _ (wC_wsX50 w h9)), (List.mem_cons_of_mem _ wT_14_5), tyX5_ok, nmX5, rfl, rfl⟩
theorem gX5_isFirst_X5_refuse : GoodIn vX5_isFirst (wsV RX5 89 RX5 yX5_refuse vX5_refuse) := gV_of wT_18_1 wT_18_2 wT_18_3 wT_1_22 wT_18_4
theorem cd5_isFirst : Cd yX5_isFirst 1 := ⟨by decide, by decide, by decide +kernel⟩
set_option maxHeartbeats 4000000 in
set_option maxRecDepth 100000 in
theorem T5_isFirst_0 (S : CallFix p m c cX5_isFirst 3 s args vX5_isFirst RX5) (hr : meth.sig.returnType = (some .boolean)) (hlo : meth.locks = false) {out : Int32 × PH} {h : PH} {a0 : Nat} {x1 : Int32} (f : F5_isFirst_0  h a0 x1 = some out) {H : Heap} {locs : List Loc} (I : ph_I D cy b A fl h s H locs) {ls : Array Slot} (hl : lv_has ls 3 [(0, .ref (b + a0)), (1, .int x1)]) : W p l e ({ frames := 1, cells := 0, slots := 0, locals := 21 } : Room) s m args below meth c H locs 0 0 (MQ below (va_Qi (fun (r : Int32) (u : PH) => (r, u) = out) (ph_B D cy b A fl) A) args s 0 0 A) (F0 m 0 ls []) := by
  unfold F5_isFirst_0 at f
  refine lv_iconst (v := 1) S.1 S.2.1 dX5_isFirst_0 (by decide) ?_
  refine lv_iload_n S.1 S.2.1 dX5_isFirst_1 rfl (lv_at hl 1 rfl) ?_
  refine lv_ishl S.1 S.2.1 dX5_isFirst_2 ?_
  refine lv_istore_n (lv' := [(2, .int (1 <<< (x1 &&& 31))), (0, .ref (b + a0)), (1, .int x1)]) S.1 S.2.1 dX5_isFirst_3 rfl hl (by decide) rfl (fun ls hl => ?_)
  refine lv_aload_n S.1 S.2.1 dX5_isFirst_4 rfl (lv_at hl 1 rfl) ?_
  obtain ⟨v1, e2, f⟩ := ob f
  refine o_gI S lf5_isFirst_38 I e2 dX5_isFirst_5 ?_
  refine lv_iload_n S.1 S.2.1 dX5_isFirst_8 rfl (lv_at hl 0 rfl) ?_
  refine lv_iand S.1 S.2.1 dX5_isFirst_9 ?_
  refine lv_if_eq (tgt := 19) S.1 S.2.1 dX5_isFirst_10 (by decide) (fun q3 => ?_) (fun q3 => ?_)
  · have f := (if_pos q3).symm.trans f
    refine lv_aload_n S.1 S.2.1 dX5_isFirst_19 rfl (lv_at hl 1 rfl) ?_
    refine lv_dup S.1 S.2.1 dX5_isFirst_20 rfl ?_
    obtain ⟨v4, e5, f⟩ := ob f
    refine o_gI S lf5_isFirst_38 I e5 dX5_isFirst_21 ?_
    refine lv_iload_n S.1 S.2.1 dX5_isFirst_24 rfl (lv_at hl 0 rfl) ?_
    refine lv_ior S.1 S.2.1 dX5_isFirst_25 ?_
    obtain ⟨h6, e7, f⟩ := ob f
    refine o_pI S lp5_isFirst_38 I e7 dX5_isFirst_26 (fun H locs I => ?_)
    refine lv_iconst (v := 1) S.1 S.2.1 dX5_isFirst_29 (by decide) ?_
    exact o_zret S hr hlo I f dX5_isFirst_30
  · have f := (if_neg q3).symm.trans f
    refine lv_aload_n S.1 S.2.1 dX5_isFirst_13 rfl (lv_at hl 1 rfl) ?_
    refine lv_iconst (v := 3) S.1 S.2.1 dX5_isFirst_14 (by decide) ?_
    obtain ⟨o8, e9, f⟩ := ob f
    refine o_Vi S (As := [.int 3]) (rest := []) (ci := 5) (M5_refuse l D cy b A fl e9) gX5_isFirst_X5_refuse rfl rfl rfl cd5_refuse ⟨Nat.le_of_ble_eq_true rfl, Nat.le_of_ble_eq_true rfl⟩ I (gd e9).1 clX5 rfl rfl hl.1 rfl (Nat.le_of_ble_eq_true rfl) dX5_isFirst_15 ⟨Nat.le_of_ble_eq_true rfl, Nat.le_of_ble_eq_true rfl⟩ (fun H locs I => ?_)
    exact o_zret S hr hlo I f dX5_isFirst_18
theorem M5_isFirst (l : Launch) (D : va_G) (cy : Nat → ClassId) (b : Nat) (A : Nat → Prop) (fl : Bool) {h : PH} {a0 : Nat} {x1 : Int32} {out : Int32 × PH} (f : F5_isFirst h a0 x1 = some out) : Met l yX5_isFirst vX5_isFirst ({ frames := 1, cells := 0, slots := 0, locals := 21 } : Room) (va_Pc [.ref (b + a0), .int x1] (ph_B D cy b A fl h)) (va_Qi (fun (r : Int32) (u : PH) => (r, u) = out) (ph_B D cy b A fl) A) 0 0 A :=
  o_met (by decide) rfl (Nat.le_of_ble_eq_true rfl) rfl (fun p e s m below meth c S hr hlo hnm ls hl I => T5_isFirst_0 S hr hlo ((gd f).2) I (lv_sub hl [0, 1] rfl))
def vX5_letWait : List Cond := .code yX5_letWait cX5_letWait 2 (some .boolean) :: TB
theorem lf5_letWait_185 : Fl vX5_letWait RX5 185 5 2 := ⟨RX5, TX5, 11, rfl, by decide, (fun w h9 => List.mem_cons_of_mem _ (wC_wsX50 w h9)), (List.mem_cons_of_mem _ wT_21_12)⟩
theorem lf5_letWait_22 : Fl vX5_letWait RX5 22 5 1 := ⟨RX5, TX5, 11, rfl, by decide, (fun w h9 => List.mem_cons_of_mem _ (wC_wsX50 w h9)), (List.mem_cons_of_mem _ wT_5_4)⟩
theorem lp5_letWait_185 : Pl vX5_letWait RX5 185 5 2 .int := ⟨RX5, TX5, 11, tyX5, rfl, by decide, (fun w h9 => List.mem_cons_of_mem _ (wC_wsX50 w h9)), (List.mem_cons_of_mem _ wT_21_12), tyX5_ok, nmX5, rfl, rfl⟩
theorem gX5_letWait_X5_refuse : GoodIn vX5_letWait (wsV RX5 89 RX5 yX5_refuse vX5_refuse) := gV_of wT_18_1 wT_18_2 wT_18_3 wT_1_22 wT_18_4
theorem cd5_letWait : Cd yX5_letWait 1 := ⟨by decide, by decide, by decide +kernel⟩
set_option maxHeartbeats 4000000 in
set_option maxRecDepth 100000 in
theorem T5_letWait_0 (S : CallFix p m c cX5_letWait 2 s args vX5_letWait RX5) (hr : meth.sig.returnType = (some .boolean)) (hlo : meth.locks = false) {out : Int32 × PH} {h : PH} {a0 : Nat} {x1 : Int32} (f : F5_letWait_0  h a0 x1 = some out) {H : Heap} {locs : List Loc} (I : ph_I D cy b A fl h s H locs) {ls : Array Slot} (hl : lv_has ls 2 [(0, .ref (b + a0)), (1, .int x1)]) : W p l e ({ frames := 1, cells := 0, slots := 0, locals := 21 } : Room) s m args below meth c H locs 0 0 (MQ below (va_Qi (fun (r : Int32) (u : PH) => (r, u) = out) (ph_B D cy b A fl) A) args s 0 0 A) (F0 m 0 ls []) := by
  unfold F5_letWait_0 at f
  refine lv_aload_n S.1 S.2.1 dX5_letWait_0 rfl (lv_at hl 0 rfl) ?_
  obtain ⟨v1, e2, f⟩ := ob f
  refine o_gI S lf5_letWait_185 I e2 dX5_letWait_1 ?_
  refine lv_aload_n S.1 S.2.1 dX5_letWait_4 rfl (lv_at hl 0 rfl) ?_
  obtain ⟨r3, e4, f⟩ := ob f
  refine o_gR S lf5_letWait_22 I e4 dX5_letWait_5 ?_
  obtain ⟨v5, e6, f⟩ := ob f
  refine o_alen S I e6 dX5_letWait_8 ?_
  refine lv_icmp_lt (tgt := 18) S.1 S.2.1 dX5_letWait_9 (by decide) (fun q7 => ?_) (fun q7 => ?_)
  · have f := (if_pos q7).symm.trans f
    refine lv_aload_n S.1 S.2.1 dX5_letWait_18 rfl (lv_at hl 0 rfl) ?_
    obtain ⟨r8, e9, f⟩ := ob f
    refine o_gR S lf5_letWait_22 I e9 dX5_letWait_19 ?_
    refine lv_aload_n S.1 S.2.1 dX5_letWait_22 rfl (lv_at hl 0 rfl) ?_
    obtain ⟨v10, e11, f⟩ := ob f
    refine o_gI S lf5_letWait_185 I e11 dX5_letWait_23 ?_
    refine lv_iload_n S.1 S.2.1 dX5_letWait_26 rfl (lv_at hl 1 rfl) ?_
    obtain ⟨h13, e12, f⟩ := ob f
    refine o_iast S I e12 dX5_letWait_27 (fun H locs I => ?_)
    refine lv_aload_n S.1 S.2.1 dX5_letWait_28 rfl (lv_at hl 0 rfl) ?_
    refine lv_dup S.1 S.2.1 dX5_letWait_29 rfl ?_
    obtain ⟨v14, e15, f⟩ := ob f
    refine o_gI S lf5_letWait_185 I e15 dX5_letWait_30 ?_
    refine lv_iconst (v := 1) S.1 S.2.1 dX5_letWait_33 (by decide) ?_
    refine lv_iadd S.1 S.2.1 dX5_letWait_34 ?_
    obtain ⟨h16, e17, f⟩ := ob f
    refine o_pI S lp5_letWait_185 I e17 dX5_letWait_35 (fun H locs I => ?_)
    refine lv_iconst (v := 1) S.1 S.2.1 dX5_letWait_38 (by decide) ?_
    exact o_zret S hr hlo I f dX5_letWait_39
  · have f := (if_neg q7).symm.trans f
    refine lv_aload_n S.1 S.2.1 dX5_letWait_12 rfl (lv_at hl 0 rfl) ?_
    refine lv_iconst (v := 2) S.1 S.2.1 dX5_letWait_13 (by decide) ?_
    obtain ⟨o18, e19, f⟩ := ob f
    refine o_Vi S (As := [.int 2]) (rest := []) (ci := 5) (M5_refuse l D cy b A fl e19) gX5_letWait_X5_refuse rfl rfl rfl cd5_refuse ⟨Nat.le_of_ble_eq_true rfl, Nat.le_of_ble_eq_true rfl⟩ I (gd e19).1 clX5 rfl rfl hl.1 rfl (Nat.le_of_ble_eq_true rfl) dX5_letWait_14 ⟨Nat.le_of_ble_eq_true rfl, Nat.le_of_ble_eq_true rfl⟩ (fun H locs I => ?_)
    exact o_zret S hr hlo I f dX5_letWait_17
theorem M5_letWait (l : Launch) (D : va_G) (cy : Nat → ClassId) (b : Nat) (A : Nat → Prop) (fl : Bool) {h : PH} {a0 : Nat} {x1 : Int32} {out : Int32 × PH} (f : F5_letWait h a0 x1 = some out) : Met l yX5_letWait vX5_letWait ({ frames := 1, cells := 0, slots := 0, locals := 21 } : Room) (va_Pc [.ref (b + a0), .int x1] (ph_B D cy b A fl h)) (va_Qi (fun (r : Int32) (u : PH) => (r, u) = out) (ph_B D cy b A fl) A) 0 0 A :=
  o_met (by decide) rfl (Nat.le_of_ble_eq_true rfl) rfl (fun p e s m below meth c S hr hlo hnm ls hl I => T5_letWait_0 S hr hlo ((gd f).2) I (lv_sub hl [0, 1] rfl))
def vX7_skipBlanks : List Cond := .code yX7_skipBlanks cX7_skipBlanks 1 none :: TB
theorem lf7_skipBlanks_44 : Fl vX7_skipBlanks RX7 44 7 3 := ⟨RX7, TX7, 7, rfl, by decide, (fun w h9 => List.mem_cons_of_mem _ (wC_wsX70 w h9)), (List.mem_cons_of_mem _ wT_15_20)⟩
theorem lp7_skipBlanks_44 : Pl vX7_skipBlanks RX7 44 7 3 .int := ⟨RX7, TX7, 7, tyX7, rfl, by decide, (fun w h9 => List.mem_cons_of_mem _ (wC_wsX70 w h9)), (List.mem_cons_of_mem _ wT_15_20), tyX7_ok, nmX7, rfl, rfl⟩
theorem lf7_skipBlanks_40 : Fl vX7_skipBlanks RX7 40 7 2 := ⟨RX7, TX7, 7, rfl, by decide, (fun w h9 => List.mem_cons_of_mem _ (wC_wsX70 w h9)), (List.mem_cons_of_mem _ wT_15_19)⟩
theorem lf7_skipBlanks_15 : Fl vX7_skipBlanks RX7 15 7 1 := ⟨RX7, TX7, 7, rfl, by decide, (fun w h9 => List.mem_cons_of_mem _ (wC_wsX70 w h9)), (List.mem_cons_of_mem _ wT_5_11)⟩
theorem cd7_skipBlanks : Cd yX7_skipBlanks 0 := ⟨by decide, by decide, by decide +kernel⟩
set_option maxHeartbeats 4000000 in
set_option maxRecDepth 100000 in
theorem T7_skipBlanks_40 (S : CallFix p m c cX7_skipBlanks 1 s args vX7_skipBlanks RX7) (hr : meth.sig.returnType = none) (hlo : meth.locks = false) {out : PH} {k0 : PH → Nat → Option (PH)} (hk0 : ∀ {h : PH} {a0 : Nat}, k0 h a0 = some out → ∀ (H : Heap) (locs : List Loc), ph_I D cy b A fl h s H locs → ∀ (ls : Array Slot), lv_has ls 1 [(0, .ref (b + a0))] → W p l e ({ frames := 0, cells := 0, slots := 0, locals := 0 } : Room) s m args below meth c H locs 0 0 (MQ below (va_Qv (fun (u : PH) => u = out) (ph_B D cy b A fl) A) args s 0 0 A) (F0 m 0 ls [])) {h : PH} {a0 : Nat} (f : F7_skipBlanks_40 k0 h a0 = some out) {H : Heap} {locs : List Loc} (I : ph_I D cy b A fl h s H locs) {ls : Array Slot} (hl : lv_has ls 1 [(0, .ref (b + a0))]) : W p l e ({ frames := 0, cells := 0, slots := 0, locals := 0 } : Room) s m args below meth c H locs 0 0 (MQ below (va_Qv (fun (u : PH) => u = out) (ph_B D cy b A fl) A) args s 0 0 A) (F0 m 40 ls []) := by
  unfold F7_skipBlanks_40 at f
  refine lv_aload_n S.1 S.2.1 dX7_skipBlanks_40 rfl (lv_at hl 0 rfl) ?_
  refine lv_dup S.1 S.2.1 dX7_skipBlanks_41 rfl ?_
  obtain ⟨v1, e2, f⟩ := ob f
  refine o_gI S lf7_skipBlanks_44 I e2 dX7_skipBlanks_42 ?_
  refine lv_iconst (v := 1) S.1 S.2.1 dX7_skipBlanks_45 (by decide) ?_
  refine lv_iadd S.1 S.2.1 dX7_skipBlanks_46 ?_
  obtain ⟨h3, e4, f⟩ := ob f
  refine o_pI S lp7_skipBlanks_44 I e4 dX7_skipBlanks_47 (fun H locs I => ?_)
  refine lv_goto (tgt := 0) S.1 S.2.1 dX7_skipBlanks_50 (by decide) ?_
  exact hk0 f _ _ I _ (lv_sub hl [0] rfl)
set_option maxHeartbeats 4000000 in
set_option maxRecDepth 100000 in
theorem T7_skipBlanks_0 (S : CallFix p m c cX7_skipBlanks 1 s args vX7_skipBlanks RX7) (hr : meth.sig.returnType = none) (hlo : meth.locks = false) {out : PH} : ∀ (n : Nat) {h : PH} {a0 : Nat} (f : F7_skipBlanks_0  n h a0 = some out) {H : Heap} {locs : List Loc} (I : ph_I D cy b A fl h s H locs) {ls : Array Slot} (hl : lv_has ls 1 [(0, .ref (b + a0))]), W p l e ({ frames := 0, cells := 0, slots := 0, locals := 0 } : Room) s m args below meth c H locs 0 0 (MQ below (va_Qv (fun (u : PH) => u = out) (ph_B D cy b A fl) A) args s 0 0 A) (F0 m 0 ls []) := by
  intro n
  induction n with
  | zero => intro h a0 f; rw [F7_skipBlanks_0] at f; cases f
  | succ n ih =>
    intro h a0 f H locs I ls hl
    rw [F7_skipBlanks_0] at f
    refine lv_aload_n S.1 S.2.1 dX7_skipBlanks_0 rfl (lv_at hl 0 rfl) ?_
    obtain ⟨v1, e2, f⟩ := ob f
    refine o_gI S lf7_skipBlanks_44 I e2 dX7_skipBlanks_1 ?_
    refine lv_aload_n S.1 S.2.1 dX7_skipBlanks_4 rfl (lv_at hl 0 rfl) ?_
    obtain ⟨v3, e4, f⟩ := ob f
    refine o_gI S lf7_skipBlanks_40 I e4 dX7_skipBlanks_5 ?_
    refine lv_icmp_ge (tgt := 53) S.1 S.2.1 dX7_skipBlanks_8 (by decide) (fun q5 => ?_) (fun q5 => ?_)
    · have f := (if_pos q5).symm.trans f
      exact o_vret S hr hlo I f dX7_skipBlanks_53
    · have f := (if_neg q5).symm.trans f
      refine lv_aload_n S.1 S.2.1 dX7_skipBlanks_11 rfl (lv_at hl 0 rfl) ?_
      obtain ⟨r6, e7, f⟩ := ob f
      refine o_gR S lf7_skipBlanks_15 I e7 dX7_skipBlanks_12 ?_
      refine lv_aload_n S.1 S.2.1 dX7_skipBlanks_15 rfl (lv_at hl 0 rfl) ?_
      obtain ⟨v8, e9, f⟩ := ob f
      refine o_gI S lf7_skipBlanks_44 I e9 dX7_skipBlanks_16 ?_
      obtain ⟨v11, e10, f⟩ := ob f
      refine o_bald S I e10 dX7_skipBlanks_19 ?_
      refine lv_bipush (v := 10) S.1 S.2.1 dX7_skipBlanks_20 (by decide) ?_
      refine lv_icmp_eq (tgt := 40) S.1 S.2.1 dX7_skipBlanks_22 (by decide) (fun q12 => ?_) (fun q12 => ?_)
      · have f := (if_pos q12).symm.trans f
        exact T7_skipBlanks_40 S hr hlo (fun f _ _ I _ hl => ih f I hl) f I (lv_sub hl [0] rfl)
      · have f := (if_neg q12).symm.trans f
        refine lv_aload_n S.1 S.2.1 dX7_skipBlanks_25 rfl (lv_at hl 0 rfl) ?_
        obtain ⟨r13, e14, f⟩ := ob f
        refine o_gR S lf7_skipBlanks_15 I e14 dX7_skipBlanks_26 ?_
        refine lv_aload_n S.1 S.2.1 dX7_skipBlanks_29 rfl (lv_at hl 0 rfl) ?_
        obtain ⟨v15, e16, f⟩ := ob f
        refine o_gI S lf7_skipBlanks_44 I e16 dX7_skipBlanks_30 ?_
        obtain ⟨v18, e17, f⟩ := ob f
        refine o_bald S I e17 dX7_skipBlanks_33 ?_
        refine lv_bipush (v := 32) S.1 S.2.1 dX7_skipBlanks_34 (by decide) ?_
        refine lv_icmp_eq (tgt := 40) S.1 S.2.1 dX7_skipBlanks_36 (by decide) (fun q19 => ?_) (fun q19 => ?_)
        · have f := (if_pos q19).symm.trans f
          exact T7_skipBlanks_40 S hr hlo (fun f _ _ I _ hl => ih f I hl) f I (lv_sub hl [0] rfl)
        · have f := (if_neg q19).symm.trans f
          exact o_vret S hr hlo I f dX7_skipBlanks_39
theorem M7_skipBlanks (l : Launch) (D : va_G) (cy : Nat → ClassId) (b : Nat) (A : Nat → Prop) (fl : Bool) {h : PH} {a0 : Nat} {out : PH} (f : F7_skipBlanks h a0 = some out) : Met l yX7_skipBlanks vX7_skipBlanks ({ frames := 0, cells := 0, slots := 0, locals := 0 } : Room) (va_Pc [.ref (b + a0)] (ph_B D cy b A fl h)) (va_Qv (fun (u : PH) => u = out) (ph_B D cy b A fl) A) 0 0 A :=
  o_met (by decide) rfl (Nat.le_of_ble_eq_true rfl) rfl (fun p e s m below meth c S hr hlo hnm ls hl I => T7_skipBlanks_0 S hr hlo 1024 ((gd f).2) I (lv_sub hl [0] rfl))
end
