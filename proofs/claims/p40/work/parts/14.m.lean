theorem zd_dX6_giveBoards_0 : sg (cX6_giveBoards.data.toList.drop 0) [[3], [61], [28], [8], [162, 0, 16], [42], [180, 0, 15], [28], [27], [79], [132, 2, 1], [167, 255, 241], [177]] = true := by decide +kernel
theorem dX6_giveBoards_0 : decode cX6_giveBoards 0 = .ok (.iconst 0, 1) := dc_3 (sg_at zd_dX6_giveBoards_0 0 rfl rfl)
theorem dX6_giveBoards_1 : decode cX6_giveBoards 1 = .ok (.istore_n 2, 1) := dc_61 (sg_at zd_dX6_giveBoards_0 1 rfl rfl)
theorem dX6_giveBoards_2 : decode cX6_giveBoards 2 = .ok (.iload_n 2, 1) := dc_28 (sg_at zd_dX6_giveBoards_0 2 rfl rfl)
theorem dX6_giveBoards_3 : decode cX6_giveBoards 3 = .ok (.iconst 5, 1) := dc_8 (sg_at zd_dX6_giveBoards_0 3 rfl rfl)
theorem dX6_giveBoards_4 : decode cX6_giveBoards 4 = .ok (.if_icmp .ge 16, 3) := dc_162 (sg_at zd_dX6_giveBoards_0 4 rfl rfl) rfl
theorem dX6_giveBoards_7 : decode cX6_giveBoards 7 = .ok (.aload_n 0, 1) := dc_42 (sg_at zd_dX6_giveBoards_0 5 rfl rfl)
theorem dX6_giveBoards_8 : decode cX6_giveBoards 8 = .ok (.getfield 15, 3) := dc_180 (sg_at zd_dX6_giveBoards_0 6 rfl rfl) rfl
theorem dX6_giveBoards_11 : decode cX6_giveBoards 11 = .ok (.iload_n 2, 1) := dc_28 (sg_at zd_dX6_giveBoards_0 7 rfl rfl)
theorem dX6_giveBoards_12 : decode cX6_giveBoards 12 = .ok (.iload_n 1, 1) := dc_27 (sg_at zd_dX6_giveBoards_0 8 rfl rfl)
theorem dX6_giveBoards_13 : decode cX6_giveBoards 13 = .ok (.iastore, 1) := dc_79 (sg_at zd_dX6_giveBoards_0 9 rfl rfl)
theorem dX6_giveBoards_14 : decode cX6_giveBoards 14 = .ok (.iinc 2 1, 3) := dc_132 (sg_at zd_dX6_giveBoards_0 10 rfl rfl) rfl
theorem dX6_giveBoards_17 : decode cX6_giveBoards 17 = .ok (.goto (-15), 3) := dc_167 (sg_at zd_dX6_giveBoards_0 11 rfl rfl) rfl
theorem dX6_giveBoards_20 : decode cX6_giveBoards 20 = .ok (.return_, 1) := dc_177 (sg_at zd_dX6_giveBoards_0 12 rfl rfl)
theorem zd_dX6_holdPeak_0 : sg (cX6_holdPeak.data.toList.drop 0) [[3], [60], [27], [16, 28], [162, 0, 22], [42], [180, 0, 22], [27], [42], [180, 0, 9], [180, 0, 74], [79], [132, 1, 1], [167, 255, 234], [177]] = true := by decide +kernel
theorem dX6_holdPeak_0 : decode cX6_holdPeak 0 = .ok (.iconst 0, 1) := dc_3 (sg_at zd_dX6_holdPeak_0 0 rfl rfl)
theorem dX6_holdPeak_1 : decode cX6_holdPeak 1 = .ok (.istore_n 1, 1) := dc_60 (sg_at zd_dX6_holdPeak_0 1 rfl rfl)
theorem dX6_holdPeak_2 : decode cX6_holdPeak 2 = .ok (.iload_n 1, 1) := dc_27 (sg_at zd_dX6_holdPeak_0 2 rfl rfl)
theorem dX6_holdPeak_3 : decode cX6_holdPeak 3 = .ok (.bipush 28, 2) := dc_16 (sg_at zd_dX6_holdPeak_0 3 rfl rfl) rfl
theorem dX6_holdPeak_5 : decode cX6_holdPeak 5 = .ok (.if_icmp .ge 22, 3) := dc_162 (sg_at zd_dX6_holdPeak_0 4 rfl rfl) rfl
theorem dX6_holdPeak_8 : decode cX6_holdPeak 8 = .ok (.aload_n 0, 1) := dc_42 (sg_at zd_dX6_holdPeak_0 5 rfl rfl)
theorem dX6_holdPeak_9 : decode cX6_holdPeak 9 = .ok (.getfield 22, 3) := dc_180 (sg_at zd_dX6_holdPeak_0 6 rfl rfl) rfl
theorem dX6_holdPeak_12 : decode cX6_holdPeak 12 = .ok (.iload_n 1, 1) := dc_27 (sg_at zd_dX6_holdPeak_0 7 rfl rfl)
theorem dX6_holdPeak_13 : decode cX6_holdPeak 13 = .ok (.aload_n 0, 1) := dc_42 (sg_at zd_dX6_holdPeak_0 8 rfl rfl)
theorem dX6_holdPeak_14 : decode cX6_holdPeak 14 = .ok (.getfield 9, 3) := dc_180 (sg_at zd_dX6_holdPeak_0 9 rfl rfl) rfl
theorem dX6_holdPeak_17 : decode cX6_holdPeak 17 = .ok (.getfield 74, 3) := dc_180 (sg_at zd_dX6_holdPeak_0 10 rfl rfl) rfl
theorem dX6_holdPeak_20 : decode cX6_holdPeak 20 = .ok (.iastore, 1) := dc_79 (sg_at zd_dX6_holdPeak_0 11 rfl rfl)
theorem dX6_holdPeak_21 : decode cX6_holdPeak 21 = .ok (.iinc 1 1, 3) := dc_132 (sg_at zd_dX6_holdPeak_0 12 rfl rfl) rfl
theorem dX6_holdPeak_24 : decode cX6_holdPeak 24 = .ok (.goto (-22), 3) := dc_167 (sg_at zd_dX6_holdPeak_0 13 rfl rfl) rfl
theorem dX6_holdPeak_27 : decode cX6_holdPeak 27 = .ok (.return_, 1) := dc_177 (sg_at zd_dX6_holdPeak_0 14 rfl rfl)
theorem zd_dX6_makeNobodyBold_0 : sg (cX6_makeNobodyBold.data.toList.drop 0) [[3], [60], [27], [8], [162, 0, 16], [42], [180, 0, 19], [27], [3], [79], [132, 1, 1], [167, 255, 241], [177]] = true := by decide +kernel
theorem dX6_makeNobodyBold_0 : decode cX6_makeNobodyBold 0 = .ok (.iconst 0, 1) := dc_3 (sg_at zd_dX6_makeNobodyBold_0 0 rfl rfl)
theorem dX6_makeNobodyBold_1 : decode cX6_makeNobodyBold 1 = .ok (.istore_n 1, 1) := dc_60 (sg_at zd_dX6_makeNobodyBold_0 1 rfl rfl)
theorem dX6_makeNobodyBold_2 : decode cX6_makeNobodyBold 2 = .ok (.iload_n 1, 1) := dc_27 (sg_at zd_dX6_makeNobodyBold_0 2 rfl rfl)
theorem dX6_makeNobodyBold_3 : decode cX6_makeNobodyBold 3 = .ok (.iconst 5, 1) := dc_8 (sg_at zd_dX6_makeNobodyBold_0 3 rfl rfl)
theorem dX6_makeNobodyBold_4 : decode cX6_makeNobodyBold 4 = .ok (.if_icmp .ge 16, 3) := dc_162 (sg_at zd_dX6_makeNobodyBold_0 4 rfl rfl) rfl
theorem dX6_makeNobodyBold_7 : decode cX6_makeNobodyBold 7 = .ok (.aload_n 0, 1) := dc_42 (sg_at zd_dX6_makeNobodyBold_0 5 rfl rfl)
theorem dX6_makeNobodyBold_8 : decode cX6_makeNobodyBold 8 = .ok (.getfield 19, 3) := dc_180 (sg_at zd_dX6_makeNobodyBold_0 6 rfl rfl) rfl
theorem dX6_makeNobodyBold_11 : decode cX6_makeNobodyBold 11 = .ok (.iload_n 1, 1) := dc_27 (sg_at zd_dX6_makeNobodyBold_0 7 rfl rfl)
theorem dX6_makeNobodyBold_12 : decode cX6_makeNobodyBold 12 = .ok (.iconst 0, 1) := dc_3 (sg_at zd_dX6_makeNobodyBold_0 8 rfl rfl)
theorem dX6_makeNobodyBold_13 : decode cX6_makeNobodyBold 13 = .ok (.iastore, 1) := dc_79 (sg_at zd_dX6_makeNobodyBold_0 9 rfl rfl)
theorem dX6_makeNobodyBold_14 : decode cX6_makeNobodyBold 14 = .ok (.iinc 1 1, 3) := dc_132 (sg_at zd_dX6_makeNobodyBold_0 10 rfl rfl) rfl
theorem dX6_makeNobodyBold_17 : decode cX6_makeNobodyBold 17 = .ok (.goto (-15), 3) := dc_167 (sg_at zd_dX6_makeNobodyBold_0 11 rfl rfl) rfl
theorem dX6_makeNobodyBold_20 : decode cX6_makeNobodyBold 20 = .ok (.return_, 1) := dc_177 (sg_at zd_dX6_makeNobodyBold_0 12 rfl rfl)
theorem zd_dX6_peakXAt_0 : sg (cX6_peakXAt.data.toList.drop 0) [[42], [27], [182, 0, 86], [65], [42], [180, 0, 9], [180, 0, 74], [133], [32], [20, 0, 90], [148], [154, 0, 7], [9], [167, 0, 16], [20, 0, 92], [20, 0, 94], [32], [184, 0, 96], [184, 0, 102], [97]] = true := by decide +kernel
theorem dX6_peakXAt_0 : decode cX6_peakXAt 0 = .ok (.aload_n 0, 1) := dc_42 (sg_at zd_dX6_peakXAt_0 0 rfl rfl)
theorem dX6_peakXAt_1 : decode cX6_peakXAt 1 = .ok (.iload_n 1, 1) := dc_27 (sg_at zd_dX6_peakXAt_0 1 rfl rfl)
theorem dX6_peakXAt_2 : decode cX6_peakXAt 2 = .ok (.invokevirtual 86, 3) := dc_182 (sg_at zd_dX6_peakXAt_0 2 rfl rfl) rfl
theorem dX6_peakXAt_5 : decode cX6_peakXAt 5 = .ok (.lstore_n 2, 1) := dc_65 (sg_at zd_dX6_peakXAt_0 3 rfl rfl)
theorem dX6_peakXAt_6 : decode cX6_peakXAt 6 = .ok (.aload_n 0, 1) := dc_42 (sg_at zd_dX6_peakXAt_0 4 rfl rfl)
theorem dX6_peakXAt_7 : decode cX6_peakXAt 7 = .ok (.getfield 9, 3) := dc_180 (sg_at zd_dX6_peakXAt_0 5 rfl rfl) rfl
theorem dX6_peakXAt_10 : decode cX6_peakXAt 10 = .ok (.getfield 74, 3) := dc_180 (sg_at zd_dX6_peakXAt_0 6 rfl rfl) rfl
theorem dX6_peakXAt_13 : decode cX6_peakXAt 13 = .ok (.i2l, 1) := dc_133 (sg_at zd_dX6_peakXAt_0 7 rfl rfl)
theorem dX6_peakXAt_14 : decode cX6_peakXAt 14 = .ok (.lload_n 2, 1) := dc_32 (sg_at zd_dX6_peakXAt_0 8 rfl rfl)
theorem dX6_peakXAt_15 : decode cX6_peakXAt 15 = .ok (.ldc2_w 90, 3) := dc_20 (sg_at zd_dX6_peakXAt_0 9 rfl rfl) rfl
theorem dX6_peakXAt_18 : decode cX6_peakXAt 18 = .ok (.lcmp, 1) := dc_148 (sg_at zd_dX6_peakXAt_0 10 rfl rfl)
theorem dX6_peakXAt_19 : decode cX6_peakXAt 19 = .ok (.ifCond .ne 7, 3) := dc_154 (sg_at zd_dX6_peakXAt_0 11 rfl rfl) rfl
theorem dX6_peakXAt_22 : decode cX6_peakXAt 22 = .ok (.lconst 0, 1) := dc_9 (sg_at zd_dX6_peakXAt_0 12 rfl rfl)
theorem dX6_peakXAt_23 : decode cX6_peakXAt 23 = .ok (.goto 16, 3) := dc_167 (sg_at zd_dX6_peakXAt_0 13 rfl rfl) rfl
theorem dX6_peakXAt_26 : decode cX6_peakXAt 26 = .ok (.ldc2_w 92, 3) := dc_20 (sg_at zd_dX6_peakXAt_0 14 rfl rfl) rfl
theorem dX6_peakXAt_29 : decode cX6_peakXAt 29 = .ok (.ldc2_w 94, 3) := dc_20 (sg_at zd_dX6_peakXAt_0 15 rfl rfl) rfl
theorem dX6_peakXAt_32 : decode cX6_peakXAt 32 = .ok (.lload_n 2, 1) := dc_32 (sg_at zd_dX6_peakXAt_0 16 rfl rfl)
theorem dX6_peakXAt_33 : decode cX6_peakXAt 33 = .ok (.invokestatic 96, 3) := dc_184 (sg_at zd_dX6_peakXAt_0 17 rfl rfl) rfl
theorem dX6_peakXAt_36 : decode cX6_peakXAt 36 = .ok (.invokestatic 102, 3) := dc_184 (sg_at zd_dX6_peakXAt_0 18 rfl rfl) rfl
theorem dX6_peakXAt_39 : decode cX6_peakXAt 39 = .ok (.ladd, 1) := dc_97 (sg_at zd_dX6_peakXAt_0 19 rfl rfl)
theorem zd_dX6_peakXAt_40 : sg (cX6_peakXAt.data.toList.drop 40) [[55, 4], [9], [42], [180, 0, 9], [180, 0, 105], [4], [100], [133], [22, 4], [184, 0, 96], [184, 0, 102], [136], [172]] = true := by decide +kernel
theorem dX6_peakXAt_40 : decode cX6_peakXAt 40 = .ok (.lstore 4, 2) := dc_55 (sg_at zd_dX6_peakXAt_40 0 rfl rfl)
theorem dX6_peakXAt_42 : decode cX6_peakXAt 42 = .ok (.lconst 0, 1) := dc_9 (sg_at zd_dX6_peakXAt_40 1 rfl rfl)
theorem dX6_peakXAt_43 : decode cX6_peakXAt 43 = .ok (.aload_n 0, 1) := dc_42 (sg_at zd_dX6_peakXAt_40 2 rfl rfl)
theorem dX6_peakXAt_44 : decode cX6_peakXAt 44 = .ok (.getfield 9, 3) := dc_180 (sg_at zd_dX6_peakXAt_40 3 rfl rfl) rfl
theorem dX6_peakXAt_47 : decode cX6_peakXAt 47 = .ok (.getfield 105, 3) := dc_180 (sg_at zd_dX6_peakXAt_40 4 rfl rfl) rfl
theorem dX6_peakXAt_50 : decode cX6_peakXAt 50 = .ok (.iconst 1, 1) := dc_4 (sg_at zd_dX6_peakXAt_40 5 rfl rfl)
theorem dX6_peakXAt_51 : decode cX6_peakXAt 51 = .ok (.isub, 1) := dc_100 (sg_at zd_dX6_peakXAt_40 6 rfl rfl)
theorem dX6_peakXAt_52 : decode cX6_peakXAt 52 = .ok (.i2l, 1) := dc_133 (sg_at zd_dX6_peakXAt_40 7 rfl rfl)
theorem dX6_peakXAt_53 : decode cX6_peakXAt 53 = .ok (.lload 4, 2) := dc_22 (sg_at zd_dX6_peakXAt_40 8 rfl rfl)
theorem dX6_peakXAt_55 : decode cX6_peakXAt 55 = .ok (.invokestatic 96, 3) := dc_184 (sg_at zd_dX6_peakXAt_40 9 rfl rfl) rfl
theorem dX6_peakXAt_58 : decode cX6_peakXAt 58 = .ok (.invokestatic 102, 3) := dc_184 (sg_at zd_dX6_peakXAt_40 10 rfl rfl) rfl
theorem dX6_peakXAt_61 : decode cX6_peakXAt 61 = .ok (.l2i, 1) := dc_136 (sg_at zd_dX6_peakXAt_40 11 rfl rfl)
theorem dX6_peakXAt_62 : decode cX6_peakXAt 62 = .ok (.ireturn, 1) := dc_172 (sg_at zd_dX6_peakXAt_40 12 rfl rfl)
theorem zd_dX6_seatFrom_0 : sg (cX6_seatFrom.data.toList.drop 0) [[3], [54, 4], [29], [54, 5], [21, 5], [42], [180, 0, 9], [180, 0, 57], [180, 0, 61], [162, 0, 22], [21, 4], [42], [27], [21, 5], [28], [182, 0, 145], [96], [54, 4], [132, 5, 1], [167, 255, 225]] = true := by decide +kernel
theorem dX6_seatFrom_0 : decode cX6_seatFrom 0 = .ok (.iconst 0, 1) := dc_3 (sg_at zd_dX6_seatFrom_0 0 rfl rfl)
theorem dX6_seatFrom_1 : decode cX6_seatFrom 1 = .ok (.istore 4, 2) := dc_54 (sg_at zd_dX6_seatFrom_0 1 rfl rfl)
theorem dX6_seatFrom_3 : decode cX6_seatFrom 3 = .ok (.iload_n 3, 1) := dc_29 (sg_at zd_dX6_seatFrom_0 2 rfl rfl)
theorem dX6_seatFrom_4 : decode cX6_seatFrom 4 = .ok (.istore 5, 2) := dc_54 (sg_at zd_dX6_seatFrom_0 3 rfl rfl)
theorem dX6_seatFrom_6 : decode cX6_seatFrom 6 = .ok (.iload 5, 2) := dc_21 (sg_at zd_dX6_seatFrom_0 4 rfl rfl)
theorem dX6_seatFrom_8 : decode cX6_seatFrom 8 = .ok (.aload_n 0, 1) := dc_42 (sg_at zd_dX6_seatFrom_0 5 rfl rfl)
theorem dX6_seatFrom_9 : decode cX6_seatFrom 9 = .ok (.getfield 9, 3) := dc_180 (sg_at zd_dX6_seatFrom_0 6 rfl rfl) rfl
theorem dX6_seatFrom_12 : decode cX6_seatFrom 12 = .ok (.getfield 57, 3) := dc_180 (sg_at zd_dX6_seatFrom_0 7 rfl rfl) rfl
theorem dX6_seatFrom_15 : decode cX6_seatFrom 15 = .ok (.getfield 61, 3) := dc_180 (sg_at zd_dX6_seatFrom_0 8 rfl rfl) rfl
theorem dX6_seatFrom_18 : decode cX6_seatFrom 18 = .ok (.if_icmp .ge 22, 3) := dc_162 (sg_at zd_dX6_seatFrom_0 9 rfl rfl) rfl
theorem dX6_seatFrom_21 : decode cX6_seatFrom 21 = .ok (.iload 4, 2) := dc_21 (sg_at zd_dX6_seatFrom_0 10 rfl rfl)
theorem dX6_seatFrom_23 : decode cX6_seatFrom 23 = .ok (.aload_n 0, 1) := dc_42 (sg_at zd_dX6_seatFrom_0 11 rfl rfl)
theorem dX6_seatFrom_24 : decode cX6_seatFrom 24 = .ok (.iload_n 1, 1) := dc_27 (sg_at zd_dX6_seatFrom_0 12 rfl rfl)
theorem dX6_seatFrom_25 : decode cX6_seatFrom 25 = .ok (.iload 5, 2) := dc_21 (sg_at zd_dX6_seatFrom_0 13 rfl rfl)
theorem dX6_seatFrom_27 : decode cX6_seatFrom 27 = .ok (.iload_n 2, 1) := dc_28 (sg_at zd_dX6_seatFrom_0 14 rfl rfl)
theorem dX6_seatFrom_28 : decode cX6_seatFrom 28 = .ok (.invokevirtual 145, 3) := dc_182 (sg_at zd_dX6_seatFrom_0 15 rfl rfl) rfl
theorem dX6_seatFrom_31 : decode cX6_seatFrom 31 = .ok (.iadd, 1) := dc_96 (sg_at zd_dX6_seatFrom_0 16 rfl rfl)
theorem dX6_seatFrom_32 : decode cX6_seatFrom 32 = .ok (.istore 4, 2) := dc_54 (sg_at zd_dX6_seatFrom_0 17 rfl rfl)
theorem dX6_seatFrom_34 : decode cX6_seatFrom 34 = .ok (.iinc 5 1, 3) := dc_132 (sg_at zd_dX6_seatFrom_0 18 rfl rfl) rfl
theorem dX6_seatFrom_37 : decode cX6_seatFrom 37 = .ok (.goto (-31), 3) := dc_167 (sg_at zd_dX6_seatFrom_0 19 rfl rfl) rfl
theorem zd_dX6_seatFrom_40 : sg (cX6_seatFrom.data.toList.drop 40) [[21, 4], [172]] = true := by decide +kernel
theorem dX6_seatFrom_40 : decode cX6_seatFrom 40 = .ok (.iload 4, 2) := dc_21 (sg_at zd_dX6_seatFrom_40 0 rfl rfl)
theorem dX6_seatFrom_42 : decode cX6_seatFrom 42 = .ok (.ireturn, 1) := dc_172 (sg_at zd_dX6_seatFrom_40 1 rfl rfl)
theorem zd_dX6_takeAsTold_0 : sg (cX6_takeAsTold.data.toList.drop 0) [[42], [43], [181, 0, 9], [42], [180, 0, 9], [180, 0, 41], [180, 0, 47], [3], [42], [180, 0, 15], [3], [8], [184, 0, 50], [42], [180, 0, 9], [180, 0, 41], [180, 0, 56], [3], [42], [180, 0, 19]] = true := by decide +kernel
theorem dX6_takeAsTold_0 : decode cX6_takeAsTold 0 = .ok (.aload_n 0, 1) := dc_42 (sg_at zd_dX6_takeAsTold_0 0 rfl rfl)
theorem dX6_takeAsTold_1 : decode cX6_takeAsTold 1 = .ok (.aload_n 1, 1) := dc_43 (sg_at zd_dX6_takeAsTold_0 1 rfl rfl)
theorem dX6_takeAsTold_2 : decode cX6_takeAsTold 2 = .ok (.putfield 9, 3) := dc_181 (sg_at zd_dX6_takeAsTold_0 2 rfl rfl) rfl
theorem dX6_takeAsTold_5 : decode cX6_takeAsTold 5 = .ok (.aload_n 0, 1) := dc_42 (sg_at zd_dX6_takeAsTold_0 3 rfl rfl)
theorem dX6_takeAsTold_6 : decode cX6_takeAsTold 6 = .ok (.getfield 9, 3) := dc_180 (sg_at zd_dX6_takeAsTold_0 4 rfl rfl) rfl
theorem dX6_takeAsTold_9 : decode cX6_takeAsTold 9 = .ok (.getfield 41, 3) := dc_180 (sg_at zd_dX6_takeAsTold_0 5 rfl rfl) rfl
theorem dX6_takeAsTold_12 : decode cX6_takeAsTold 12 = .ok (.getfield 47, 3) := dc_180 (sg_at zd_dX6_takeAsTold_0 6 rfl rfl) rfl
theorem dX6_takeAsTold_15 : decode cX6_takeAsTold 15 = .ok (.iconst 0, 1) := dc_3 (sg_at zd_dX6_takeAsTold_0 7 rfl rfl)
theorem dX6_takeAsTold_16 : decode cX6_takeAsTold 16 = .ok (.aload_n 0, 1) := dc_42 (sg_at zd_dX6_takeAsTold_0 8 rfl rfl)
theorem dX6_takeAsTold_17 : decode cX6_takeAsTold 17 = .ok (.getfield 15, 3) := dc_180 (sg_at zd_dX6_takeAsTold_0 9 rfl rfl) rfl
theorem dX6_takeAsTold_20 : decode cX6_takeAsTold 20 = .ok (.iconst 0, 1) := dc_3 (sg_at zd_dX6_takeAsTold_0 10 rfl rfl)
theorem dX6_takeAsTold_21 : decode cX6_takeAsTold 21 = .ok (.iconst 5, 1) := dc_8 (sg_at zd_dX6_takeAsTold_0 11 rfl rfl)
theorem dX6_takeAsTold_22 : decode cX6_takeAsTold 22 = .ok (.invokestatic 50, 3) := dc_184 (sg_at zd_dX6_takeAsTold_0 12 rfl rfl) rfl
theorem dX6_takeAsTold_25 : decode cX6_takeAsTold 25 = .ok (.aload_n 0, 1) := dc_42 (sg_at zd_dX6_takeAsTold_0 13 rfl rfl)
theorem dX6_takeAsTold_26 : decode cX6_takeAsTold 26 = .ok (.getfield 9, 3) := dc_180 (sg_at zd_dX6_takeAsTold_0 14 rfl rfl) rfl
theorem dX6_takeAsTold_29 : decode cX6_takeAsTold 29 = .ok (.getfield 41, 3) := dc_180 (sg_at zd_dX6_takeAsTold_0 15 rfl rfl) rfl
theorem dX6_takeAsTold_32 : decode cX6_takeAsTold 32 = .ok (.getfield 56, 3) := dc_180 (sg_at zd_dX6_takeAsTold_0 16 rfl rfl) rfl
theorem dX6_takeAsTold_35 : decode cX6_takeAsTold 35 = .ok (.iconst 0, 1) := dc_3 (sg_at zd_dX6_takeAsTold_0 17 rfl rfl)
theorem dX6_takeAsTold_36 : decode cX6_takeAsTold 36 = .ok (.aload_n 0, 1) := dc_42 (sg_at zd_dX6_takeAsTold_0 18 rfl rfl)
theorem dX6_takeAsTold_37 : decode cX6_takeAsTold 37 = .ok (.getfield 19, 3) := dc_180 (sg_at zd_dX6_takeAsTold_0 19 rfl rfl) rfl
theorem zd_dX6_takeAsTold_40 : sg (cX6_takeAsTold.data.toList.drop 40) [[3], [8], [184, 0, 50], [3], [61], [28], [42], [180, 0, 9], [180, 0, 57], [180, 0, 61], [162, 0, 31], [42], [180, 0, 22], [28], [42], [42], [180, 0, 9], [180, 0, 57], [180, 0, 67], [28]] = true := by decide +kernel
theorem dX6_takeAsTold_40 : decode cX6_takeAsTold 40 = .ok (.iconst 0, 1) := dc_3 (sg_at zd_dX6_takeAsTold_40 0 rfl rfl)
theorem dX6_takeAsTold_41 : decode cX6_takeAsTold 41 = .ok (.iconst 5, 1) := dc_8 (sg_at zd_dX6_takeAsTold_40 1 rfl rfl)
theorem dX6_takeAsTold_42 : decode cX6_takeAsTold 42 = .ok (.invokestatic 50, 3) := dc_184 (sg_at zd_dX6_takeAsTold_40 2 rfl rfl) rfl
theorem dX6_takeAsTold_45 : decode cX6_takeAsTold 45 = .ok (.iconst 0, 1) := dc_3 (sg_at zd_dX6_takeAsTold_40 3 rfl rfl)
theorem dX6_takeAsTold_46 : decode cX6_takeAsTold 46 = .ok (.istore_n 2, 1) := dc_61 (sg_at zd_dX6_takeAsTold_40 4 rfl rfl)
theorem dX6_takeAsTold_47 : decode cX6_takeAsTold 47 = .ok (.iload_n 2, 1) := dc_28 (sg_at zd_dX6_takeAsTold_40 5 rfl rfl)
theorem dX6_takeAsTold_48 : decode cX6_takeAsTold 48 = .ok (.aload_n 0, 1) := dc_42 (sg_at zd_dX6_takeAsTold_40 6 rfl rfl)
theorem dX6_takeAsTold_49 : decode cX6_takeAsTold 49 = .ok (.getfield 9, 3) := dc_180 (sg_at zd_dX6_takeAsTold_40 7 rfl rfl) rfl
theorem dX6_takeAsTold_52 : decode cX6_takeAsTold 52 = .ok (.getfield 57, 3) := dc_180 (sg_at zd_dX6_takeAsTold_40 8 rfl rfl) rfl
theorem dX6_takeAsTold_55 : decode cX6_takeAsTold 55 = .ok (.getfield 61, 3) := dc_180 (sg_at zd_dX6_takeAsTold_40 9 rfl rfl) rfl
theorem dX6_takeAsTold_58 : decode cX6_takeAsTold 58 = .ok (.if_icmp .ge 31, 3) := dc_162 (sg_at zd_dX6_takeAsTold_40 10 rfl rfl) rfl
theorem dX6_takeAsTold_61 : decode cX6_takeAsTold 61 = .ok (.aload_n 0, 1) := dc_42 (sg_at zd_dX6_takeAsTold_40 11 rfl rfl)
theorem dX6_takeAsTold_62 : decode cX6_takeAsTold 62 = .ok (.getfield 22, 3) := dc_180 (sg_at zd_dX6_takeAsTold_40 12 rfl rfl) rfl
theorem dX6_takeAsTold_65 : decode cX6_takeAsTold 65 = .ok (.iload_n 2, 1) := dc_28 (sg_at zd_dX6_takeAsTold_40 13 rfl rfl)
theorem dX6_takeAsTold_66 : decode cX6_takeAsTold 66 = .ok (.aload_n 0, 1) := dc_42 (sg_at zd_dX6_takeAsTold_40 14 rfl rfl)
theorem dX6_takeAsTold_67 : decode cX6_takeAsTold 67 = .ok (.aload_n 0, 1) := dc_42 (sg_at zd_dX6_takeAsTold_40 15 rfl rfl)
theorem dX6_takeAsTold_68 : decode cX6_takeAsTold 68 = .ok (.getfield 9, 3) := dc_180 (sg_at zd_dX6_takeAsTold_40 16 rfl rfl) rfl
theorem dX6_takeAsTold_71 : decode cX6_takeAsTold 71 = .ok (.getfield 57, 3) := dc_180 (sg_at zd_dX6_takeAsTold_40 17 rfl rfl) rfl
theorem dX6_takeAsTold_74 : decode cX6_takeAsTold 74 = .ok (.getfield 67, 3) := dc_180 (sg_at zd_dX6_takeAsTold_40 18 rfl rfl) rfl
theorem dX6_takeAsTold_77 : decode cX6_takeAsTold 77 = .ok (.iload_n 2, 1) := dc_28 (sg_at zd_dX6_takeAsTold_40 19 rfl rfl)
theorem zd_dX6_takeAsTold_78 : sg (cX6_takeAsTold.data.toList.drop 78) [[46], [182, 0, 70], [79], [132, 2, 1], [167, 255, 217], [177]] = true := by decide +kernel
theorem dX6_takeAsTold_78 : decode cX6_takeAsTold 78 = .ok (.iaload, 1) := dc_46 (sg_at zd_dX6_takeAsTold_78 0 rfl rfl)
theorem dX6_takeAsTold_79 : decode cX6_takeAsTold 79 = .ok (.invokevirtual 70, 3) := dc_182 (sg_at zd_dX6_takeAsTold_78 1 rfl rfl) rfl
theorem dX6_takeAsTold_82 : decode cX6_takeAsTold 82 = .ok (.iastore, 1) := dc_79 (sg_at zd_dX6_takeAsTold_78 2 rfl rfl)
theorem dX6_takeAsTold_83 : decode cX6_takeAsTold 83 = .ok (.iinc 2 1, 3) := dc_132 (sg_at zd_dX6_takeAsTold_78 3 rfl rfl) rfl
theorem dX6_takeAsTold_86 : decode cX6_takeAsTold 86 = .ok (.goto (-39), 3) := dc_167 (sg_at zd_dX6_takeAsTold_78 4 rfl rfl) rfl
theorem dX6_takeAsTold_89 : decode cX6_takeAsTold 89 = .ok (.return_, 1) := dc_177 (sg_at zd_dX6_takeAsTold_78 5 rfl rfl)
theorem zd_dX6_takeOver_0 : sg (cX6_takeOver.data.toList.drop 0) [[42], [43], [180, 0, 9], [181, 0, 9], [43], [180, 0, 15], [3], [42], [180, 0, 15], [3], [8], [184, 0, 50], [43], [180, 0, 19], [3], [42], [180, 0, 19], [3], [8], [184, 0, 50]] = true := by decide +kernel
theorem dX6_takeOver_0 : decode cX6_takeOver 0 = .ok (.aload_n 0, 1) := dc_42 (sg_at zd_dX6_takeOver_0 0 rfl rfl)
theorem dX6_takeOver_1 : decode cX6_takeOver 1 = .ok (.aload_n 1, 1) := dc_43 (sg_at zd_dX6_takeOver_0 1 rfl rfl)
theorem dX6_takeOver_2 : decode cX6_takeOver 2 = .ok (.getfield 9, 3) := dc_180 (sg_at zd_dX6_takeOver_0 2 rfl rfl) rfl
theorem dX6_takeOver_5 : decode cX6_takeOver 5 = .ok (.putfield 9, 3) := dc_181 (sg_at zd_dX6_takeOver_0 3 rfl rfl) rfl
theorem dX6_takeOver_8 : decode cX6_takeOver 8 = .ok (.aload_n 1, 1) := dc_43 (sg_at zd_dX6_takeOver_0 4 rfl rfl)
theorem dX6_takeOver_9 : decode cX6_takeOver 9 = .ok (.getfield 15, 3) := dc_180 (sg_at zd_dX6_takeOver_0 5 rfl rfl) rfl
theorem dX6_takeOver_12 : decode cX6_takeOver 12 = .ok (.iconst 0, 1) := dc_3 (sg_at zd_dX6_takeOver_0 6 rfl rfl)
theorem dX6_takeOver_13 : decode cX6_takeOver 13 = .ok (.aload_n 0, 1) := dc_42 (sg_at zd_dX6_takeOver_0 7 rfl rfl)
theorem dX6_takeOver_14 : decode cX6_takeOver 14 = .ok (.getfield 15, 3) := dc_180 (sg_at zd_dX6_takeOver_0 8 rfl rfl) rfl
theorem dX6_takeOver_17 : decode cX6_takeOver 17 = .ok (.iconst 0, 1) := dc_3 (sg_at zd_dX6_takeOver_0 9 rfl rfl)
theorem dX6_takeOver_18 : decode cX6_takeOver 18 = .ok (.iconst 5, 1) := dc_8 (sg_at zd_dX6_takeOver_0 10 rfl rfl)
theorem dX6_takeOver_19 : decode cX6_takeOver 19 = .ok (.invokestatic 50, 3) := dc_184 (sg_at zd_dX6_takeOver_0 11 rfl rfl) rfl
theorem dX6_takeOver_22 : decode cX6_takeOver 22 = .ok (.aload_n 1, 1) := dc_43 (sg_at zd_dX6_takeOver_0 12 rfl rfl)
theorem dX6_takeOver_23 : decode cX6_takeOver 23 = .ok (.getfield 19, 3) := dc_180 (sg_at zd_dX6_takeOver_0 13 rfl rfl) rfl
theorem dX6_takeOver_26 : decode cX6_takeOver 26 = .ok (.iconst 0, 1) := dc_3 (sg_at zd_dX6_takeOver_0 14 rfl rfl)
theorem dX6_takeOver_27 : decode cX6_takeOver 27 = .ok (.aload_n 0, 1) := dc_42 (sg_at zd_dX6_takeOver_0 15 rfl rfl)
theorem dX6_takeOver_28 : decode cX6_takeOver 28 = .ok (.getfield 19, 3) := dc_180 (sg_at zd_dX6_takeOver_0 16 rfl rfl) rfl
theorem dX6_takeOver_31 : decode cX6_takeOver 31 = .ok (.iconst 0, 1) := dc_3 (sg_at zd_dX6_takeOver_0 17 rfl rfl)
theorem dX6_takeOver_32 : decode cX6_takeOver 32 = .ok (.iconst 5, 1) := dc_8 (sg_at zd_dX6_takeOver_0 18 rfl rfl)
theorem dX6_takeOver_33 : decode cX6_takeOver 33 = .ok (.invokestatic 50, 3) := dc_184 (sg_at zd_dX6_takeOver_0 19 rfl rfl) rfl
theorem zd_dX6_takeOver_36 : sg (cX6_takeOver.data.toList.drop 36) [[43], [180, 0, 22], [3], [42], [180, 0, 22], [3], [16, 28], [184, 0, 50], [177]] = true := by decide +kernel
theorem dX6_takeOver_36 : decode cX6_takeOver 36 = .ok (.aload_n 1, 1) := dc_43 (sg_at zd_dX6_takeOver_36 0 rfl rfl)
theorem dX6_takeOver_37 : decode cX6_takeOver 37 = .ok (.getfield 22, 3) := dc_180 (sg_at zd_dX6_takeOver_36 1 rfl rfl) rfl
theorem dX6_takeOver_40 : decode cX6_takeOver 40 = .ok (.iconst 0, 1) := dc_3 (sg_at zd_dX6_takeOver_36 2 rfl rfl)
theorem dX6_takeOver_41 : decode cX6_takeOver 41 = .ok (.aload_n 0, 1) := dc_42 (sg_at zd_dX6_takeOver_36 3 rfl rfl)
theorem dX6_takeOver_42 : decode cX6_takeOver 42 = .ok (.getfield 22, 3) := dc_180 (sg_at zd_dX6_takeOver_36 4 rfl rfl) rfl
theorem dX6_takeOver_45 : decode cX6_takeOver 45 = .ok (.iconst 0, 1) := dc_3 (sg_at zd_dX6_takeOver_36 5 rfl rfl)
theorem dX6_takeOver_46 : decode cX6_takeOver 46 = .ok (.bipush 28, 2) := dc_16 (sg_at zd_dX6_takeOver_36 6 rfl rfl) rfl
theorem dX6_takeOver_48 : decode cX6_takeOver 48 = .ok (.invokestatic 50, 3) := dc_184 (sg_at zd_dX6_takeOver_36 7 rfl rfl) rfl
theorem dX6_takeOver_51 : decode cX6_takeOver 51 = .ok (.return_, 1) := dc_177 (sg_at zd_dX6_takeOver_36 8 rfl rfl)
theorem zd_dX8_bankWaves_0 : sg (cX8_bankWaves.data.toList.drop 0) [[28], [27], [100], [42], [180, 0, 51], [100], [62], [29], [155, 0, 11], [42], [180, 0, 54], [4], [162, 0, 7], [3], [167, 0, 11], [29], [42], [180, 0, 54], [108], [4]] = true := by decide +kernel
theorem dX8_bankWaves_0 : decode cX8_bankWaves 0 = .ok (.iload_n 2, 1) := dc_28 (sg_at zd_dX8_bankWaves_0 0 rfl rfl)
theorem dX8_bankWaves_1 : decode cX8_bankWaves 1 = .ok (.iload_n 1, 1) := dc_27 (sg_at zd_dX8_bankWaves_0 1 rfl rfl)
theorem dX8_bankWaves_2 : decode cX8_bankWaves 2 = .ok (.isub, 1) := dc_100 (sg_at zd_dX8_bankWaves_0 2 rfl rfl)
theorem dX8_bankWaves_3 : decode cX8_bankWaves 3 = .ok (.aload_n 0, 1) := dc_42 (sg_at zd_dX8_bankWaves_0 3 rfl rfl)
theorem dX8_bankWaves_4 : decode cX8_bankWaves 4 = .ok (.getfield 51, 3) := dc_180 (sg_at zd_dX8_bankWaves_0 4 rfl rfl) rfl
theorem dX8_bankWaves_7 : decode cX8_bankWaves 7 = .ok (.isub, 1) := dc_100 (sg_at zd_dX8_bankWaves_0 5 rfl rfl)
theorem dX8_bankWaves_8 : decode cX8_bankWaves 8 = .ok (.istore_n 3, 1) := dc_62 (sg_at zd_dX8_bankWaves_0 6 rfl rfl)
theorem dX8_bankWaves_9 : decode cX8_bankWaves 9 = .ok (.iload_n 3, 1) := dc_29 (sg_at zd_dX8_bankWaves_0 7 rfl rfl)
theorem dX8_bankWaves_10 : decode cX8_bankWaves 10 = .ok (.ifCond .lt 11, 3) := dc_155 (sg_at zd_dX8_bankWaves_0 8 rfl rfl) rfl
theorem dX8_bankWaves_13 : decode cX8_bankWaves 13 = .ok (.aload_n 0, 1) := dc_42 (sg_at zd_dX8_bankWaves_0 9 rfl rfl)
theorem dX8_bankWaves_14 : decode cX8_bankWaves 14 = .ok (.getfield 54, 3) := dc_180 (sg_at zd_dX8_bankWaves_0 10 rfl rfl) rfl
theorem dX8_bankWaves_17 : decode cX8_bankWaves 17 = .ok (.iconst 1, 1) := dc_4 (sg_at zd_dX8_bankWaves_0 11 rfl rfl)
theorem dX8_bankWaves_18 : decode cX8_bankWaves 18 = .ok (.if_icmp .ge 7, 3) := dc_162 (sg_at zd_dX8_bankWaves_0 12 rfl rfl) rfl
theorem dX8_bankWaves_21 : decode cX8_bankWaves 21 = .ok (.iconst 0, 1) := dc_3 (sg_at zd_dX8_bankWaves_0 13 rfl rfl)
theorem dX8_bankWaves_22 : decode cX8_bankWaves 22 = .ok (.goto 11, 3) := dc_167 (sg_at zd_dX8_bankWaves_0 14 rfl rfl) rfl
theorem dX8_bankWaves_25 : decode cX8_bankWaves 25 = .ok (.iload_n 3, 1) := dc_29 (sg_at zd_dX8_bankWaves_0 15 rfl rfl)
theorem dX8_bankWaves_26 : decode cX8_bankWaves 26 = .ok (.aload_n 0, 1) := dc_42 (sg_at zd_dX8_bankWaves_0 16 rfl rfl)
theorem dX8_bankWaves_27 : decode cX8_bankWaves 27 = .ok (.getfield 54, 3) := dc_180 (sg_at zd_dX8_bankWaves_0 17 rfl rfl) rfl
theorem dX8_bankWaves_30 : decode cX8_bankWaves 30 = .ok (.idiv, 1) := dc_108 (sg_at zd_dX8_bankWaves_0 18 rfl rfl)
theorem dX8_bankWaves_31 : decode cX8_bankWaves 31 = .ok (.iconst 1, 1) := dc_4 (sg_at zd_dX8_bankWaves_0 19 rfl rfl)
theorem zd_dX8_bankWaves_32 : sg (cX8_bankWaves.data.toList.drop 32) [[96], [172]] = true := by decide +kernel
theorem dX8_bankWaves_32 : decode cX8_bankWaves 32 = .ok (.iadd, 1) := dc_96 (sg_at zd_dX8_bankWaves_32 0 rfl rfl)
theorem dX8_bankWaves_33 : decode cX8_bankWaves 33 = .ok (.ireturn, 1) := dc_172 (sg_at zd_dX8_bankWaves_32 1 rfl rfl)
theorem zd_dX8_cells_0 : sg (cX8_cells.data.toList.drop 0) [[42], [180, 0, 32], [42], [180, 0, 36], [104], [172]] = true := by decide +kernel
theorem dX8_cells_0 : decode cX8_cells 0 = .ok (.aload_n 0, 1) := dc_42 (sg_at zd_dX8_cells_0 0 rfl rfl)
theorem dX8_cells_1 : decode cX8_cells 1 = .ok (.getfield 32, 3) := dc_180 (sg_at zd_dX8_cells_0 1 rfl rfl) rfl
theorem dX8_cells_4 : decode cX8_cells 4 = .ok (.aload_n 0, 1) := dc_42 (sg_at zd_dX8_cells_0 2 rfl rfl)
theorem dX8_cells_5 : decode cX8_cells 5 = .ok (.getfield 36, 3) := dc_180 (sg_at zd_dX8_cells_0 3 rfl rfl) rfl
theorem dX8_cells_8 : decode cX8_cells 8 = .ok (.imul, 1) := dc_104 (sg_at zd_dX8_cells_0 4 rfl rfl)
theorem dX8_cells_9 : decode cX8_cells 9 = .ok (.ireturn, 1) := dc_172 (sg_at zd_dX8_cells_0 5 rfl rfl)
theorem zd_dX9_add_0 : sg (cX9_add.data.toList.drop 0) [[42], [180, 0, 18], [16, 20], [161, 0, 39], [42], [180, 0, 9], [4], [42], [180, 0, 9], [3], [16, 19], [184, 0, 22], [42], [180, 0, 15], [4], [42], [180, 0, 15], [3], [16, 19], [184, 0, 22]] = true := by decide +kernel
theorem dX9_add_0 : decode cX9_add 0 = .ok (.aload_n 0, 1) := dc_42 (sg_at zd_dX9_add_0 0 rfl rfl)
theorem dX9_add_1 : decode cX9_add 1 = .ok (.getfield 18, 3) := dc_180 (sg_at zd_dX9_add_0 1 rfl rfl) rfl
theorem dX9_add_4 : decode cX9_add 4 = .ok (.bipush 20, 2) := dc_16 (sg_at zd_dX9_add_0 2 rfl rfl) rfl
theorem dX9_add_6 : decode cX9_add 6 = .ok (.if_icmp .lt 39, 3) := dc_161 (sg_at zd_dX9_add_0 3 rfl rfl) rfl
theorem dX9_add_9 : decode cX9_add 9 = .ok (.aload_n 0, 1) := dc_42 (sg_at zd_dX9_add_0 4 rfl rfl)
theorem dX9_add_10 : decode cX9_add 10 = .ok (.getfield 9, 3) := dc_180 (sg_at zd_dX9_add_0 5 rfl rfl) rfl
theorem dX9_add_13 : decode cX9_add 13 = .ok (.iconst 1, 1) := dc_4 (sg_at zd_dX9_add_0 6 rfl rfl)
theorem dX9_add_14 : decode cX9_add 14 = .ok (.aload_n 0, 1) := dc_42 (sg_at zd_dX9_add_0 7 rfl rfl)
theorem dX9_add_15 : decode cX9_add 15 = .ok (.getfield 9, 3) := dc_180 (sg_at zd_dX9_add_0 8 rfl rfl) rfl
theorem dX9_add_18 : decode cX9_add 18 = .ok (.iconst 0, 1) := dc_3 (sg_at zd_dX9_add_0 9 rfl rfl)
theorem dX9_add_19 : decode cX9_add 19 = .ok (.bipush 19, 2) := dc_16 (sg_at zd_dX9_add_0 10 rfl rfl) rfl
theorem dX9_add_21 : decode cX9_add 21 = .ok (.invokestatic 22, 3) := dc_184 (sg_at zd_dX9_add_0 11 rfl rfl) rfl
theorem dX9_add_24 : decode cX9_add 24 = .ok (.aload_n 0, 1) := dc_42 (sg_at zd_dX9_add_0 12 rfl rfl)
theorem dX9_add_25 : decode cX9_add 25 = .ok (.getfield 15, 3) := dc_180 (sg_at zd_dX9_add_0 13 rfl rfl) rfl
theorem dX9_add_28 : decode cX9_add 28 = .ok (.iconst 1, 1) := dc_4 (sg_at zd_dX9_add_0 14 rfl rfl)
theorem dX9_add_29 : decode cX9_add 29 = .ok (.aload_n 0, 1) := dc_42 (sg_at zd_dX9_add_0 15 rfl rfl)
theorem dX9_add_30 : decode cX9_add 30 = .ok (.getfield 15, 3) := dc_180 (sg_at zd_dX9_add_0 16 rfl rfl) rfl
theorem dX9_add_33 : decode cX9_add 33 = .ok (.iconst 0, 1) := dc_3 (sg_at zd_dX9_add_0 17 rfl rfl)
theorem dX9_add_34 : decode cX9_add 34 = .ok (.bipush 19, 2) := dc_16 (sg_at zd_dX9_add_0 18 rfl rfl) rfl
theorem dX9_add_36 : decode cX9_add 36 = .ok (.invokestatic 22, 3) := dc_184 (sg_at zd_dX9_add_0 19 rfl rfl) rfl
theorem zd_dX9_add_39 : sg (cX9_add.data.toList.drop 39) [[42], [16, 19], [181, 0, 18], [42], [180, 0, 9], [42], [180, 0, 18], [27], [79], [42], [180, 0, 15], [42], [180, 0, 18], [28], [79], [42], [89], [180, 0, 18], [4], [96]] = true := by decide +kernel
theorem dX9_add_39 : decode cX9_add 39 = .ok (.aload_n 0, 1) := dc_42 (sg_at zd_dX9_add_39 0 rfl rfl)
theorem dX9_add_40 : decode cX9_add 40 = .ok (.bipush 19, 2) := dc_16 (sg_at zd_dX9_add_39 1 rfl rfl) rfl
theorem dX9_add_42 : decode cX9_add 42 = .ok (.putfield 18, 3) := dc_181 (sg_at zd_dX9_add_39 2 rfl rfl) rfl
theorem dX9_add_45 : decode cX9_add 45 = .ok (.aload_n 0, 1) := dc_42 (sg_at zd_dX9_add_39 3 rfl rfl)
theorem dX9_add_46 : decode cX9_add 46 = .ok (.getfield 9, 3) := dc_180 (sg_at zd_dX9_add_39 4 rfl rfl) rfl
theorem dX9_add_49 : decode cX9_add 49 = .ok (.aload_n 0, 1) := dc_42 (sg_at zd_dX9_add_39 5 rfl rfl)
theorem dX9_add_50 : decode cX9_add 50 = .ok (.getfield 18, 3) := dc_180 (sg_at zd_dX9_add_39 6 rfl rfl) rfl
theorem dX9_add_53 : decode cX9_add 53 = .ok (.iload_n 1, 1) := dc_27 (sg_at zd_dX9_add_39 7 rfl rfl)
theorem dX9_add_54 : decode cX9_add 54 = .ok (.iastore, 1) := dc_79 (sg_at zd_dX9_add_39 8 rfl rfl)
theorem dX9_add_55 : decode cX9_add 55 = .ok (.aload_n 0, 1) := dc_42 (sg_at zd_dX9_add_39 9 rfl rfl)
theorem dX9_add_56 : decode cX9_add 56 = .ok (.getfield 15, 3) := dc_180 (sg_at zd_dX9_add_39 10 rfl rfl) rfl
theorem dX9_add_59 : decode cX9_add 59 = .ok (.aload_n 0, 1) := dc_42 (sg_at zd_dX9_add_39 11 rfl rfl)
theorem dX9_add_60 : decode cX9_add 60 = .ok (.getfield 18, 3) := dc_180 (sg_at zd_dX9_add_39 12 rfl rfl) rfl
theorem dX9_add_63 : decode cX9_add 63 = .ok (.iload_n 2, 1) := dc_28 (sg_at zd_dX9_add_39 13 rfl rfl)
theorem dX9_add_64 : decode cX9_add 64 = .ok (.iastore, 1) := dc_79 (sg_at zd_dX9_add_39 14 rfl rfl)
theorem dX9_add_65 : decode cX9_add 65 = .ok (.aload_n 0, 1) := dc_42 (sg_at zd_dX9_add_39 15 rfl rfl)
theorem dX9_add_66 : decode cX9_add 66 = .ok (.dup, 1) := dc_89 (sg_at zd_dX9_add_39 16 rfl rfl)
theorem dX9_add_67 : decode cX9_add 67 = .ok (.getfield 18, 3) := dc_180 (sg_at zd_dX9_add_39 17 rfl rfl) rfl
theorem dX9_add_70 : decode cX9_add 70 = .ok (.iconst 1, 1) := dc_4 (sg_at zd_dX9_add_39 18 rfl rfl)
theorem dX9_add_71 : decode cX9_add 71 = .ok (.iadd, 1) := dc_96 (sg_at zd_dX9_add_39 19 rfl rfl)
theorem zd_dX9_add_72 : sg (cX9_add.data.toList.drop 72) [[181, 0, 18], [177]] = true := by decide +kernel
theorem dX9_add_72 : decode cX9_add 72 = .ok (.putfield 18, 3) := dc_181 (sg_at zd_dX9_add_72 0 rfl rfl) rfl
theorem dX9_add_75 : decode cX9_add 75 = .ok (.return_, 1) := dc_177 (sg_at zd_dX9_add_72 1 rfl rfl)
theorem zd_dX10_isLargest_0 : sg (cX10_isLargest.data.toList.drop 0) [[42], [180, 0, 9], [27], [46], [28], [96], [4], [100], [62], [3], [54, 4], [21, 4], [42], [180, 0, 15], [27], [46], [162, 0, 34], [42], [180, 0, 21], [42]] = true := by decide +kernel
theorem dX10_isLargest_0 : decode cX10_isLargest 0 = .ok (.aload_n 0, 1) := dc_42 (sg_at zd_dX10_isLargest_0 0 rfl rfl)
theorem dX10_isLargest_1 : decode cX10_isLargest 1 = .ok (.getfield 9, 3) := dc_180 (sg_at zd_dX10_isLargest_0 1 rfl rfl) rfl
theorem dX10_isLargest_4 : decode cX10_isLargest 4 = .ok (.iload_n 1, 1) := dc_27 (sg_at zd_dX10_isLargest_0 2 rfl rfl)
theorem dX10_isLargest_5 : decode cX10_isLargest 5 = .ok (.iaload, 1) := dc_46 (sg_at zd_dX10_isLargest_0 3 rfl rfl)
theorem dX10_isLargest_6 : decode cX10_isLargest 6 = .ok (.iload_n 2, 1) := dc_28 (sg_at zd_dX10_isLargest_0 4 rfl rfl)
theorem dX10_isLargest_7 : decode cX10_isLargest 7 = .ok (.iadd, 1) := dc_96 (sg_at zd_dX10_isLargest_0 5 rfl rfl)
theorem dX10_isLargest_8 : decode cX10_isLargest 8 = .ok (.iconst 1, 1) := dc_4 (sg_at zd_dX10_isLargest_0 6 rfl rfl)
theorem dX10_isLargest_9 : decode cX10_isLargest 9 = .ok (.isub, 1) := dc_100 (sg_at zd_dX10_isLargest_0 7 rfl rfl)
theorem dX10_isLargest_10 : decode cX10_isLargest 10 = .ok (.istore_n 3, 1) := dc_62 (sg_at zd_dX10_isLargest_0 8 rfl rfl)
theorem dX10_isLargest_11 : decode cX10_isLargest 11 = .ok (.iconst 0, 1) := dc_3 (sg_at zd_dX10_isLargest_0 9 rfl rfl)
theorem dX10_isLargest_12 : decode cX10_isLargest 12 = .ok (.istore 4, 2) := dc_54 (sg_at zd_dX10_isLargest_0 10 rfl rfl)
theorem dX10_isLargest_14 : decode cX10_isLargest 14 = .ok (.iload 4, 2) := dc_21 (sg_at zd_dX10_isLargest_0 11 rfl rfl)
theorem dX10_isLargest_16 : decode cX10_isLargest 16 = .ok (.aload_n 0, 1) := dc_42 (sg_at zd_dX10_isLargest_0 12 rfl rfl)
theorem dX10_isLargest_17 : decode cX10_isLargest 17 = .ok (.getfield 15, 3) := dc_180 (sg_at zd_dX10_isLargest_0 13 rfl rfl) rfl
theorem dX10_isLargest_20 : decode cX10_isLargest 20 = .ok (.iload_n 1, 1) := dc_27 (sg_at zd_dX10_isLargest_0 14 rfl rfl)
theorem dX10_isLargest_21 : decode cX10_isLargest 21 = .ok (.iaload, 1) := dc_46 (sg_at zd_dX10_isLargest_0 15 rfl rfl)
theorem dX10_isLargest_22 : decode cX10_isLargest 22 = .ok (.if_icmp .ge 34, 3) := dc_162 (sg_at zd_dX10_isLargest_0 16 rfl rfl) rfl
theorem dX10_isLargest_25 : decode cX10_isLargest 25 = .ok (.aload_n 0, 1) := dc_42 (sg_at zd_dX10_isLargest_0 17 rfl rfl)
theorem dX10_isLargest_26 : decode cX10_isLargest 26 = .ok (.getfield 21, 3) := dc_180 (sg_at zd_dX10_isLargest_0 18 rfl rfl) rfl
theorem dX10_isLargest_29 : decode cX10_isLargest 29 = .ok (.aload_n 0, 1) := dc_42 (sg_at zd_dX10_isLargest_0 19 rfl rfl)
theorem zd_dX10_isLargest_30 : sg (cX10_isLargest.data.toList.drop 30) [[180, 0, 9], [27], [46], [21, 4], [96], [46], [42], [180, 0, 21], [29], [46], [164, 0, 5], [3], [172], [132, 4, 1], [167, 255, 217], [4], [172]] = true := by decide +kernel
theorem dX10_isLargest_30 : decode cX10_isLargest 30 = .ok (.getfield 9, 3) := dc_180 (sg_at zd_dX10_isLargest_30 0 rfl rfl) rfl
theorem dX10_isLargest_33 : decode cX10_isLargest 33 = .ok (.iload_n 1, 1) := dc_27 (sg_at zd_dX10_isLargest_30 1 rfl rfl)
theorem dX10_isLargest_34 : decode cX10_isLargest 34 = .ok (.iaload, 1) := dc_46 (sg_at zd_dX10_isLargest_30 2 rfl rfl)
theorem dX10_isLargest_35 : decode cX10_isLargest 35 = .ok (.iload 4, 2) := dc_21 (sg_at zd_dX10_isLargest_30 3 rfl rfl)
theorem dX10_isLargest_37 : decode cX10_isLargest 37 = .ok (.iadd, 1) := dc_96 (sg_at zd_dX10_isLargest_30 4 rfl rfl)
theorem dX10_isLargest_38 : decode cX10_isLargest 38 = .ok (.iaload, 1) := dc_46 (sg_at zd_dX10_isLargest_30 5 rfl rfl)
theorem dX10_isLargest_39 : decode cX10_isLargest 39 = .ok (.aload_n 0, 1) := dc_42 (sg_at zd_dX10_isLargest_30 6 rfl rfl)
theorem dX10_isLargest_40 : decode cX10_isLargest 40 = .ok (.getfield 21, 3) := dc_180 (sg_at zd_dX10_isLargest_30 7 rfl rfl) rfl
theorem dX10_isLargest_43 : decode cX10_isLargest 43 = .ok (.iload_n 3, 1) := dc_29 (sg_at zd_dX10_isLargest_30 8 rfl rfl)
theorem dX10_isLargest_44 : decode cX10_isLargest 44 = .ok (.iaload, 1) := dc_46 (sg_at zd_dX10_isLargest_30 9 rfl rfl)
theorem dX10_isLargest_45 : decode cX10_isLargest 45 = .ok (.if_icmp .le 5, 3) := dc_164 (sg_at zd_dX10_isLargest_30 10 rfl rfl) rfl
theorem dX10_isLargest_48 : decode cX10_isLargest 48 = .ok (.iconst 0, 1) := dc_3 (sg_at zd_dX10_isLargest_30 11 rfl rfl)
theorem dX10_isLargest_49 : decode cX10_isLargest 49 = .ok (.ireturn, 1) := dc_172 (sg_at zd_dX10_isLargest_30 12 rfl rfl)
theorem dX10_isLargest_50 : decode cX10_isLargest 50 = .ok (.iinc 4 1, 3) := dc_132 (sg_at zd_dX10_isLargest_30 13 rfl rfl) rfl
theorem dX10_isLargest_53 : decode cX10_isLargest 53 = .ok (.goto (-39), 3) := dc_167 (sg_at zd_dX10_isLargest_30 14 rfl rfl) rfl
theorem dX10_isLargest_56 : decode cX10_isLargest 56 = .ok (.iconst 1, 1) := dc_4 (sg_at zd_dX10_isLargest_30 15 rfl rfl)
theorem dX10_isLargest_57 : decode cX10_isLargest 57 = .ok (.ireturn, 1) := dc_172 (sg_at zd_dX10_isLargest_30 16 rfl rfl)
theorem zd_dX10_lengthOf_0 : sg (cX10_lengthOf.data.toList.drop 0) [[42], [180, 0, 15], [27], [46], [172]] = true := by decide +kernel
theorem dX10_lengthOf_0 : decode cX10_lengthOf 0 = .ok (.aload_n 0, 1) := dc_42 (sg_at zd_dX10_lengthOf_0 0 rfl rfl)
theorem dX10_lengthOf_1 : decode cX10_lengthOf 1 = .ok (.getfield 15, 3) := dc_180 (sg_at zd_dX10_lengthOf_0 1 rfl rfl) rfl
theorem dX10_lengthOf_4 : decode cX10_lengthOf 4 = .ok (.iload_n 1, 1) := dc_27 (sg_at zd_dX10_lengthOf_0 2 rfl rfl)
theorem dX10_lengthOf_5 : decode cX10_lengthOf 5 = .ok (.iaload, 1) := dc_46 (sg_at zd_dX10_lengthOf_0 3 rfl rfl)
theorem dX10_lengthOf_6 : decode cX10_lengthOf 6 = .ok (.ireturn, 1) := dc_172 (sg_at zd_dX10_lengthOf_0 4 rfl rfl)
theorem zd_dX10_setFrom_0 : sg (cX10_setFrom.data.toList.drop 0) [[3], [61], [28], [42], [180, 0, 30], [162, 0, 20], [42], [28], [182, 0, 37], [27], [161, 0, 5], [28], [172], [132, 2, 1], [167, 255, 234], [2], [172]] = true := by decide +kernel
theorem dX10_setFrom_0 : decode cX10_setFrom 0 = .ok (.iconst 0, 1) := dc_3 (sg_at zd_dX10_setFrom_0 0 rfl rfl)
theorem dX10_setFrom_1 : decode cX10_setFrom 1 = .ok (.istore_n 2, 1) := dc_61 (sg_at zd_dX10_setFrom_0 1 rfl rfl)
theorem dX10_setFrom_2 : decode cX10_setFrom 2 = .ok (.iload_n 2, 1) := dc_28 (sg_at zd_dX10_setFrom_0 2 rfl rfl)
theorem dX10_setFrom_3 : decode cX10_setFrom 3 = .ok (.aload_n 0, 1) := dc_42 (sg_at zd_dX10_setFrom_0 3 rfl rfl)
theorem dX10_setFrom_4 : decode cX10_setFrom 4 = .ok (.getfield 30, 3) := dc_180 (sg_at zd_dX10_setFrom_0 4 rfl rfl) rfl
theorem dX10_setFrom_7 : decode cX10_setFrom 7 = .ok (.if_icmp .ge 20, 3) := dc_162 (sg_at zd_dX10_setFrom_0 5 rfl rfl) rfl
theorem dX10_setFrom_10 : decode cX10_setFrom 10 = .ok (.aload_n 0, 1) := dc_42 (sg_at zd_dX10_setFrom_0 6 rfl rfl)
theorem dX10_setFrom_11 : decode cX10_setFrom 11 = .ok (.iload_n 2, 1) := dc_28 (sg_at zd_dX10_setFrom_0 7 rfl rfl)
theorem dX10_setFrom_12 : decode cX10_setFrom 12 = .ok (.invokevirtual 37, 3) := dc_182 (sg_at zd_dX10_setFrom_0 8 rfl rfl) rfl
theorem dX10_setFrom_15 : decode cX10_setFrom 15 = .ok (.iload_n 1, 1) := dc_27 (sg_at zd_dX10_setFrom_0 9 rfl rfl)
theorem dX10_setFrom_16 : decode cX10_setFrom 16 = .ok (.if_icmp .lt 5, 3) := dc_161 (sg_at zd_dX10_setFrom_0 10 rfl rfl) rfl
theorem dX10_setFrom_19 : decode cX10_setFrom 19 = .ok (.iload_n 2, 1) := dc_28 (sg_at zd_dX10_setFrom_0 11 rfl rfl)
theorem dX10_setFrom_20 : decode cX10_setFrom 20 = .ok (.ireturn, 1) := dc_172 (sg_at zd_dX10_setFrom_0 12 rfl rfl)
theorem dX10_setFrom_21 : decode cX10_setFrom 21 = .ok (.iinc 2 1, 3) := dc_132 (sg_at zd_dX10_setFrom_0 13 rfl rfl) rfl
theorem dX10_setFrom_24 : decode cX10_setFrom 24 = .ok (.goto (-22), 3) := dc_167 (sg_at zd_dX10_setFrom_0 14 rfl rfl) rfl
theorem dX10_setFrom_27 : decode cX10_setFrom 27 = .ok (.iconst (-1), 1) := dc_2 (sg_at zd_dX10_setFrom_0 15 rfl rfl)
theorem dX10_setFrom_28 : decode cX10_setFrom 28 = .ok (.ireturn, 1) := dc_172 (sg_at zd_dX10_setFrom_0 16 rfl rfl)
theorem zd_dX11_back_0 : sg (cX11_back.data.toList.drop 0) [[42], [180, 1, 121], [154, 0, 5], [2], [172], [42], [180, 0, 47], [42], [180, 0, 54], [182, 1, 117], [42], [180, 0, 67], [3], [181, 1, 112], [42], [180, 0, 47], [180, 0, 186], [172]] = true := by decide +kernel
theorem dX11_back_0 : decode cX11_back 0 = .ok (.aload_n 0, 1) := dc_42 (sg_at zd_dX11_back_0 0 rfl rfl)
theorem dX11_back_1 : decode cX11_back 1 = .ok (.getfield 377, 3) := dc_180 (sg_at zd_dX11_back_0 1 rfl rfl) rfl
theorem dX11_back_4 : decode cX11_back 4 = .ok (.ifCond .ne 5, 3) := dc_154 (sg_at zd_dX11_back_0 2 rfl rfl) rfl
theorem dX11_back_7 : decode cX11_back 7 = .ok (.iconst (-1), 1) := dc_2 (sg_at zd_dX11_back_0 3 rfl rfl)
theorem dX11_back_8 : decode cX11_back 8 = .ok (.ireturn, 1) := dc_172 (sg_at zd_dX11_back_0 4 rfl rfl)
theorem dX11_back_9 : decode cX11_back 9 = .ok (.aload_n 0, 1) := dc_42 (sg_at zd_dX11_back_0 5 rfl rfl)
theorem dX11_back_10 : decode cX11_back 10 = .ok (.getfield 47, 3) := dc_180 (sg_at zd_dX11_back_0 6 rfl rfl) rfl
theorem dX11_back_13 : decode cX11_back 13 = .ok (.aload_n 0, 1) := dc_42 (sg_at zd_dX11_back_0 7 rfl rfl)
theorem dX11_back_14 : decode cX11_back 14 = .ok (.getfield 54, 3) := dc_180 (sg_at zd_dX11_back_0 8 rfl rfl) rfl
theorem dX11_back_17 : decode cX11_back 17 = .ok (.invokevirtual 373, 3) := dc_182 (sg_at zd_dX11_back_0 9 rfl rfl) rfl
theorem dX11_back_20 : decode cX11_back 20 = .ok (.aload_n 0, 1) := dc_42 (sg_at zd_dX11_back_0 10 rfl rfl)
theorem dX11_back_21 : decode cX11_back 21 = .ok (.getfield 67, 3) := dc_180 (sg_at zd_dX11_back_0 11 rfl rfl) rfl
theorem dX11_back_24 : decode cX11_back 24 = .ok (.iconst 0, 1) := dc_3 (sg_at zd_dX11_back_0 12 rfl rfl)
theorem dX11_back_25 : decode cX11_back 25 = .ok (.putfield 368, 3) := dc_181 (sg_at zd_dX11_back_0 13 rfl rfl) rfl
theorem dX11_back_28 : decode cX11_back 28 = .ok (.aload_n 0, 1) := dc_42 (sg_at zd_dX11_back_0 14 rfl rfl)
theorem dX11_back_29 : decode cX11_back 29 = .ok (.getfield 47, 3) := dc_180 (sg_at zd_dX11_back_0 15 rfl rfl) rfl
theorem dX11_back_32 : decode cX11_back 32 = .ok (.getfield 186, 3) := dc_180 (sg_at zd_dX11_back_0 16 rfl rfl) rfl
theorem dX11_back_35 : decode cX11_back 35 = .ok (.ireturn, 1) := dc_172 (sg_at zd_dX11_back_0 17 rfl rfl)
theorem zd_dX11_beginAnew_0 : sg (cX11_beginAnew.data.toList.drop 0) [[42], [180, 0, 37], [42], [180, 0, 18], [182, 1, 137], [42], [180, 0, 47], [42], [180, 0, 18], [182, 1, 140], [42], [180, 0, 60], [3], [181, 1, 67], [42], [180, 0, 60], [2], [181, 1, 71], [42], [180, 0, 67]] = true := by decide +kernel
theorem dX11_beginAnew_0 : decode cX11_beginAnew 0 = .ok (.aload_n 0, 1) := dc_42 (sg_at zd_dX11_beginAnew_0 0 rfl rfl)
theorem dX11_beginAnew_1 : decode cX11_beginAnew 1 = .ok (.getfield 37, 3) := dc_180 (sg_at zd_dX11_beginAnew_0 1 rfl rfl) rfl
theorem dX11_beginAnew_4 : decode cX11_beginAnew 4 = .ok (.aload_n 0, 1) := dc_42 (sg_at zd_dX11_beginAnew_0 2 rfl rfl)
theorem dX11_beginAnew_5 : decode cX11_beginAnew 5 = .ok (.getfield 18, 3) := dc_180 (sg_at zd_dX11_beginAnew_0 3 rfl rfl) rfl
theorem dX11_beginAnew_8 : decode cX11_beginAnew 8 = .ok (.invokevirtual 393, 3) := dc_182 (sg_at zd_dX11_beginAnew_0 4 rfl rfl) rfl
theorem dX11_beginAnew_11 : decode cX11_beginAnew 11 = .ok (.aload_n 0, 1) := dc_42 (sg_at zd_dX11_beginAnew_0 5 rfl rfl)
theorem dX11_beginAnew_12 : decode cX11_beginAnew 12 = .ok (.getfield 47, 3) := dc_180 (sg_at zd_dX11_beginAnew_0 6 rfl rfl) rfl
theorem dX11_beginAnew_15 : decode cX11_beginAnew 15 = .ok (.aload_n 0, 1) := dc_42 (sg_at zd_dX11_beginAnew_0 7 rfl rfl)
theorem dX11_beginAnew_16 : decode cX11_beginAnew 16 = .ok (.getfield 18, 3) := dc_180 (sg_at zd_dX11_beginAnew_0 8 rfl rfl) rfl
theorem dX11_beginAnew_19 : decode cX11_beginAnew 19 = .ok (.invokevirtual 396, 3) := dc_182 (sg_at zd_dX11_beginAnew_0 9 rfl rfl) rfl
theorem dX11_beginAnew_22 : decode cX11_beginAnew 22 = .ok (.aload_n 0, 1) := dc_42 (sg_at zd_dX11_beginAnew_0 10 rfl rfl)
theorem dX11_beginAnew_23 : decode cX11_beginAnew 23 = .ok (.getfield 60, 3) := dc_180 (sg_at zd_dX11_beginAnew_0 11 rfl rfl) rfl
theorem dX11_beginAnew_26 : decode cX11_beginAnew 26 = .ok (.iconst 0, 1) := dc_3 (sg_at zd_dX11_beginAnew_0 12 rfl rfl)
theorem dX11_beginAnew_27 : decode cX11_beginAnew 27 = .ok (.putfield 323, 3) := dc_181 (sg_at zd_dX11_beginAnew_0 13 rfl rfl) rfl
theorem dX11_beginAnew_30 : decode cX11_beginAnew 30 = .ok (.aload_n 0, 1) := dc_42 (sg_at zd_dX11_beginAnew_0 14 rfl rfl)
theorem dX11_beginAnew_31 : decode cX11_beginAnew 31 = .ok (.getfield 60, 3) := dc_180 (sg_at zd_dX11_beginAnew_0 15 rfl rfl) rfl
theorem dX11_beginAnew_34 : decode cX11_beginAnew 34 = .ok (.iconst (-1), 1) := dc_2 (sg_at zd_dX11_beginAnew_0 16 rfl rfl)
theorem dX11_beginAnew_35 : decode cX11_beginAnew 35 = .ok (.putfield 327, 3) := dc_181 (sg_at zd_dX11_beginAnew_0 17 rfl rfl) rfl
theorem dX11_beginAnew_38 : decode cX11_beginAnew 38 = .ok (.aload_n 0, 1) := dc_42 (sg_at zd_dX11_beginAnew_0 18 rfl rfl)
theorem dX11_beginAnew_39 : decode cX11_beginAnew 39 = .ok (.getfield 67, 3) := dc_180 (sg_at zd_dX11_beginAnew_0 19 rfl rfl) rfl
theorem zd_dX11_beginAnew_42 : sg (cX11_beginAnew.data.toList.drop 42) [[3], [181, 1, 112], [42], [3], [181, 1, 121], [177]] = true := by decide +kernel
theorem dX11_beginAnew_42 : decode cX11_beginAnew 42 = .ok (.iconst 0, 1) := dc_3 (sg_at zd_dX11_beginAnew_42 0 rfl rfl)
theorem dX11_beginAnew_43 : decode cX11_beginAnew 43 = .ok (.putfield 368, 3) := dc_181 (sg_at zd_dX11_beginAnew_42 1 rfl rfl) rfl
theorem dX11_beginAnew_46 : decode cX11_beginAnew 46 = .ok (.aload_n 0, 1) := dc_42 (sg_at zd_dX11_beginAnew_42 2 rfl rfl)
theorem dX11_beginAnew_47 : decode cX11_beginAnew 47 = .ok (.iconst 0, 1) := dc_3 (sg_at zd_dX11_beginAnew_42 3 rfl rfl)
theorem dX11_beginAnew_48 : decode cX11_beginAnew 48 = .ok (.putfield 377, 3) := dc_181 (sg_at zd_dX11_beginAnew_42 4 rfl rfl) rfl
theorem dX11_beginAnew_51 : decode cX11_beginAnew 51 = .ok (.return_, 1) := dc_177 (sg_at zd_dX11_beginAnew_42 5 rfl rfl)
theorem zd_dX11_isSurfer_0 : sg (cX11_isSurfer.data.toList.drop 0) [[27], [155, 0, 21], [27], [42], [180, 0, 18], [180, 0, 102], [180, 0, 106], [162, 0, 7], [4], [167, 0, 4], [3], [172]] = true := by decide +kernel
theorem dX11_isSurfer_0 : decode cX11_isSurfer 0 = .ok (.iload_n 1, 1) := dc_27 (sg_at zd_dX11_isSurfer_0 0 rfl rfl)
theorem dX11_isSurfer_1 : decode cX11_isSurfer 1 = .ok (.ifCond .lt 21, 3) := dc_155 (sg_at zd_dX11_isSurfer_0 1 rfl rfl) rfl
theorem dX11_isSurfer_4 : decode cX11_isSurfer 4 = .ok (.iload_n 1, 1) := dc_27 (sg_at zd_dX11_isSurfer_0 2 rfl rfl)
theorem dX11_isSurfer_5 : decode cX11_isSurfer 5 = .ok (.aload_n 0, 1) := dc_42 (sg_at zd_dX11_isSurfer_0 3 rfl rfl)
theorem dX11_isSurfer_6 : decode cX11_isSurfer 6 = .ok (.getfield 18, 3) := dc_180 (sg_at zd_dX11_isSurfer_0 4 rfl rfl) rfl
theorem dX11_isSurfer_9 : decode cX11_isSurfer 9 = .ok (.getfield 102, 3) := dc_180 (sg_at zd_dX11_isSurfer_0 5 rfl rfl) rfl
theorem dX11_isSurfer_12 : decode cX11_isSurfer 12 = .ok (.getfield 106, 3) := dc_180 (sg_at zd_dX11_isSurfer_0 6 rfl rfl) rfl
theorem dX11_isSurfer_15 : decode cX11_isSurfer 15 = .ok (.if_icmp .ge 7, 3) := dc_162 (sg_at zd_dX11_isSurfer_0 7 rfl rfl) rfl
theorem dX11_isSurfer_18 : decode cX11_isSurfer 18 = .ok (.iconst 1, 1) := dc_4 (sg_at zd_dX11_isSurfer_0 8 rfl rfl)
theorem dX11_isSurfer_19 : decode cX11_isSurfer 19 = .ok (.goto 4, 3) := dc_167 (sg_at zd_dX11_isSurfer_0 9 rfl rfl) rfl
theorem dX11_isSurfer_22 : decode cX11_isSurfer 22 = .ok (.iconst 0, 1) := dc_3 (sg_at zd_dX11_isSurfer_0 10 rfl rfl)
theorem dX11_isSurfer_23 : decode cX11_isSurfer 23 = .ok (.ireturn, 1) := dc_172 (sg_at zd_dX11_isSurfer_0 11 rfl rfl)
theorem zd_dX11_firstToCome_0 : sg (cX11_firstToCome.data.toList.drop 0) [[42], [180, 0, 18], [180, 0, 150], [42], [180, 0, 47], [180, 0, 186], [182, 1, 131], [172]] = true := by decide +kernel
theorem dX11_firstToCome_0 : decode cX11_firstToCome 0 = .ok (.aload_n 0, 1) := dc_42 (sg_at zd_dX11_firstToCome_0 0 rfl rfl)
theorem dX11_firstToCome_1 : decode cX11_firstToCome 1 = .ok (.getfield 18, 3) := dc_180 (sg_at zd_dX11_firstToCome_0 1 rfl rfl) rfl
theorem dX11_firstToCome_4 : decode cX11_firstToCome 4 = .ok (.getfield 150, 3) := dc_180 (sg_at zd_dX11_firstToCome_0 2 rfl rfl) rfl
theorem dX11_firstToCome_7 : decode cX11_firstToCome 7 = .ok (.aload_n 0, 1) := dc_42 (sg_at zd_dX11_firstToCome_0 3 rfl rfl)
theorem dX11_firstToCome_8 : decode cX11_firstToCome 8 = .ok (.getfield 47, 3) := dc_180 (sg_at zd_dX11_firstToCome_0 4 rfl rfl) rfl
theorem dX11_firstToCome_11 : decode cX11_firstToCome 11 = .ok (.getfield 186, 3) := dc_180 (sg_at zd_dX11_firstToCome_0 5 rfl rfl) rfl
theorem dX11_firstToCome_14 : decode cX11_firstToCome 14 = .ok (.invokevirtual 387, 3) := dc_182 (sg_at zd_dX11_firstToCome_0 6 rfl rfl) rfl
theorem dX11_firstToCome_17 : decode cX11_firstToCome 17 = .ok (.ireturn, 1) := dc_172 (sg_at zd_dX11_firstToCome_0 7 rfl rfl)
theorem zd_dX11_best_0 : sg (cX11_best.data.toList.drop 0) [[42], [27], [182, 0, 115], [154, 0, 5], [2], [172], [3], [61], [2], [62], [3], [54, 4], [21, 4], [42], [180, 0, 18], [182, 0, 240], [162, 0, 37], [42], [180, 0, 37], [27]] = true := by decide +kernel
theorem dX11_best_0 : decode cX11_best 0 = .ok (.aload_n 0, 1) := dc_42 (sg_at zd_dX11_best_0 0 rfl rfl)
theorem dX11_best_1 : decode cX11_best 1 = .ok (.iload_n 1, 1) := dc_27 (sg_at zd_dX11_best_0 1 rfl rfl)
theorem dX11_best_2 : decode cX11_best 2 = .ok (.invokevirtual 115, 3) := dc_182 (sg_at zd_dX11_best_0 2 rfl rfl) rfl
theorem dX11_best_5 : decode cX11_best 5 = .ok (.ifCond .ne 5, 3) := dc_154 (sg_at zd_dX11_best_0 3 rfl rfl) rfl
theorem dX11_best_8 : decode cX11_best 8 = .ok (.iconst (-1), 1) := dc_2 (sg_at zd_dX11_best_0 4 rfl rfl)
theorem dX11_best_9 : decode cX11_best 9 = .ok (.ireturn, 1) := dc_172 (sg_at zd_dX11_best_0 5 rfl rfl)
theorem dX11_best_10 : decode cX11_best 10 = .ok (.iconst 0, 1) := dc_3 (sg_at zd_dX11_best_0 6 rfl rfl)
theorem dX11_best_11 : decode cX11_best 11 = .ok (.istore_n 2, 1) := dc_61 (sg_at zd_dX11_best_0 7 rfl rfl)
theorem dX11_best_12 : decode cX11_best 12 = .ok (.iconst (-1), 1) := dc_2 (sg_at zd_dX11_best_0 8 rfl rfl)
theorem dX11_best_13 : decode cX11_best 13 = .ok (.istore_n 3, 1) := dc_62 (sg_at zd_dX11_best_0 9 rfl rfl)
theorem dX11_best_14 : decode cX11_best 14 = .ok (.iconst 0, 1) := dc_3 (sg_at zd_dX11_best_0 10 rfl rfl)
theorem dX11_best_15 : decode cX11_best 15 = .ok (.istore 4, 2) := dc_54 (sg_at zd_dX11_best_0 11 rfl rfl)
theorem dX11_best_17 : decode cX11_best 17 = .ok (.iload 4, 2) := dc_21 (sg_at zd_dX11_best_0 12 rfl rfl)
theorem dX11_best_19 : decode cX11_best 19 = .ok (.aload_n 0, 1) := dc_42 (sg_at zd_dX11_best_0 13 rfl rfl)
theorem dX11_best_20 : decode cX11_best 20 = .ok (.getfield 18, 3) := dc_180 (sg_at zd_dX11_best_0 14 rfl rfl) rfl
theorem dX11_best_23 : decode cX11_best 23 = .ok (.invokevirtual 240, 3) := dc_182 (sg_at zd_dX11_best_0 15 rfl rfl) rfl
theorem dX11_best_26 : decode cX11_best 26 = .ok (.if_icmp .ge 37, 3) := dc_162 (sg_at zd_dX11_best_0 16 rfl rfl) rfl
theorem dX11_best_29 : decode cX11_best 29 = .ok (.aload_n 0, 1) := dc_42 (sg_at zd_dX11_best_0 17 rfl rfl)
theorem dX11_best_30 : decode cX11_best 30 = .ok (.getfield 37, 3) := dc_180 (sg_at zd_dX11_best_0 18 rfl rfl) rfl
theorem dX11_best_33 : decode cX11_best 33 = .ok (.iload_n 1, 1) := dc_27 (sg_at zd_dX11_best_0 19 rfl rfl)
theorem zd_dX11_best_34 : sg (cX11_best.data.toList.drop 34) [[21, 4], [42], [182, 0, 233], [182, 0, 237], [54, 5], [21, 5], [29], [164, 0, 9], [21, 5], [62], [21, 4], [61], [132, 4, 1], [167, 255, 213], [28], [172]] = true := by decide +kernel
theorem dX11_best_34 : decode cX11_best 34 = .ok (.iload 4, 2) := dc_21 (sg_at zd_dX11_best_34 0 rfl rfl)
theorem dX11_best_36 : decode cX11_best 36 = .ok (.aload_n 0, 1) := dc_42 (sg_at zd_dX11_best_34 1 rfl rfl)
theorem dX11_best_37 : decode cX11_best 37 = .ok (.invokevirtual 233, 3) := dc_182 (sg_at zd_dX11_best_34 2 rfl rfl) rfl
theorem dX11_best_40 : decode cX11_best 40 = .ok (.invokevirtual 237, 3) := dc_182 (sg_at zd_dX11_best_34 3 rfl rfl) rfl
theorem dX11_best_43 : decode cX11_best 43 = .ok (.istore 5, 2) := dc_54 (sg_at zd_dX11_best_34 4 rfl rfl)
theorem dX11_best_45 : decode cX11_best 45 = .ok (.iload 5, 2) := dc_21 (sg_at zd_dX11_best_34 5 rfl rfl)
theorem dX11_best_47 : decode cX11_best 47 = .ok (.iload_n 3, 1) := dc_29 (sg_at zd_dX11_best_34 6 rfl rfl)
theorem dX11_best_48 : decode cX11_best 48 = .ok (.if_icmp .le 9, 3) := dc_164 (sg_at zd_dX11_best_34 7 rfl rfl) rfl
theorem dX11_best_51 : decode cX11_best 51 = .ok (.iload 5, 2) := dc_21 (sg_at zd_dX11_best_34 8 rfl rfl)
theorem dX11_best_53 : decode cX11_best 53 = .ok (.istore_n 3, 1) := dc_62 (sg_at zd_dX11_best_34 9 rfl rfl)
theorem dX11_best_54 : decode cX11_best 54 = .ok (.iload 4, 2) := dc_21 (sg_at zd_dX11_best_34 10 rfl rfl)
theorem dX11_best_56 : decode cX11_best 56 = .ok (.istore_n 2, 1) := dc_61 (sg_at zd_dX11_best_34 11 rfl rfl)
theorem dX11_best_57 : decode cX11_best 57 = .ok (.iinc 4 1, 3) := dc_132 (sg_at zd_dX11_best_34 12 rfl rfl) rfl
theorem dX11_best_60 : decode cX11_best 60 = .ok (.goto (-43), 3) := dc_167 (sg_at zd_dX11_best_34 13 rfl rfl) rfl
theorem dX11_best_63 : decode cX11_best 63 = .ok (.iload_n 2, 1) := dc_28 (sg_at zd_dX11_best_34 14 rfl rfl)
theorem dX11_best_64 : decode cX11_best 64 = .ok (.ireturn, 1) := dc_172 (sg_at zd_dX11_best_34 15 rfl rfl)
theorem zd_dX11_runBy_0 : sg (cX11_runBy.data.toList.drop 0) [[42], [180, 0, 51], [42], [180, 0, 47], [27], [28], [182, 1, 97], [42], [182, 0, 233], [62], [29], [42], [180, 0, 18], [180, 0, 150], [180, 1, 43], [162, 0, 21], [42], [180, 0, 37], [42], [180, 0, 51]] = true := by decide +kernel
theorem dX11_runBy_0 : decode cX11_runBy 0 = .ok (.aload_n 0, 1) := dc_42 (sg_at zd_dX11_runBy_0 0 rfl rfl)
theorem dX11_runBy_1 : decode cX11_runBy 1 = .ok (.getfield 51, 3) := dc_180 (sg_at zd_dX11_runBy_0 1 rfl rfl) rfl
theorem dX11_runBy_4 : decode cX11_runBy 4 = .ok (.aload_n 0, 1) := dc_42 (sg_at zd_dX11_runBy_0 2 rfl rfl)
theorem dX11_runBy_5 : decode cX11_runBy 5 = .ok (.getfield 47, 3) := dc_180 (sg_at zd_dX11_runBy_0 3 rfl rfl) rfl
theorem dX11_runBy_8 : decode cX11_runBy 8 = .ok (.iload_n 1, 1) := dc_27 (sg_at zd_dX11_runBy_0 4 rfl rfl)
theorem dX11_runBy_9 : decode cX11_runBy 9 = .ok (.iload_n 2, 1) := dc_28 (sg_at zd_dX11_runBy_0 5 rfl rfl)
theorem dX11_runBy_10 : decode cX11_runBy 10 = .ok (.invokevirtual 353, 3) := dc_182 (sg_at zd_dX11_runBy_0 6 rfl rfl) rfl
theorem dX11_runBy_13 : decode cX11_runBy 13 = .ok (.aload_n 0, 1) := dc_42 (sg_at zd_dX11_runBy_0 7 rfl rfl)
theorem dX11_runBy_14 : decode cX11_runBy 14 = .ok (.invokevirtual 233, 3) := dc_182 (sg_at zd_dX11_runBy_0 8 rfl rfl) rfl
theorem dX11_runBy_17 : decode cX11_runBy 17 = .ok (.istore_n 3, 1) := dc_62 (sg_at zd_dX11_runBy_0 9 rfl rfl)
theorem dX11_runBy_18 : decode cX11_runBy 18 = .ok (.iload_n 3, 1) := dc_29 (sg_at zd_dX11_runBy_0 10 rfl rfl)
theorem dX11_runBy_19 : decode cX11_runBy 19 = .ok (.aload_n 0, 1) := dc_42 (sg_at zd_dX11_runBy_0 11 rfl rfl)
theorem dX11_runBy_20 : decode cX11_runBy 20 = .ok (.getfield 18, 3) := dc_180 (sg_at zd_dX11_runBy_0 12 rfl rfl) rfl
theorem dX11_runBy_23 : decode cX11_runBy 23 = .ok (.getfield 150, 3) := dc_180 (sg_at zd_dX11_runBy_0 13 rfl rfl) rfl
theorem dX11_runBy_26 : decode cX11_runBy 26 = .ok (.getfield 299, 3) := dc_180 (sg_at zd_dX11_runBy_0 14 rfl rfl) rfl
theorem dX11_runBy_29 : decode cX11_runBy 29 = .ok (.if_icmp .ge 21, 3) := dc_162 (sg_at zd_dX11_runBy_0 15 rfl rfl) rfl
theorem dX11_runBy_32 : decode cX11_runBy 32 = .ok (.aload_n 0, 1) := dc_42 (sg_at zd_dX11_runBy_0 16 rfl rfl)
theorem dX11_runBy_33 : decode cX11_runBy 33 = .ok (.getfield 37, 3) := dc_180 (sg_at zd_dX11_runBy_0 17 rfl rfl) rfl
theorem dX11_runBy_36 : decode cX11_runBy 36 = .ok (.aload_n 0, 1) := dc_42 (sg_at zd_dX11_runBy_0 18 rfl rfl)
theorem dX11_runBy_37 : decode cX11_runBy 37 = .ok (.getfield 51, 3) := dc_180 (sg_at zd_dX11_runBy_0 19 rfl rfl) rfl
theorem zd_dX11_runBy_40 : sg (cX11_runBy.data.toList.drop 40) [[29], [182, 1, 108], [132, 3, 1], [167, 255, 227], [177]] = true := by decide +kernel
theorem dX11_runBy_40 : decode cX11_runBy 40 = .ok (.iload_n 3, 1) := dc_29 (sg_at zd_dX11_runBy_40 0 rfl rfl)
theorem dX11_runBy_41 : decode cX11_runBy 41 = .ok (.invokevirtual 364, 3) := dc_182 (sg_at zd_dX11_runBy_40 1 rfl rfl) rfl
theorem dX11_runBy_44 : decode cX11_runBy 44 = .ok (.iinc 3 1, 3) := dc_132 (sg_at zd_dX11_runBy_40 2 rfl rfl) rfl
theorem dX11_runBy_47 : decode cX11_runBy 47 = .ok (.goto (-29), 3) := dc_167 (sg_at zd_dX11_runBy_40 3 rfl rfl) rfl
theorem dX11_runBy_50 : decode cX11_runBy 50 = .ok (.return_, 1) := dc_177 (sg_at zd_dX11_runBy_40 4 rfl rfl)
theorem zd_dX11_chance_0 : sg (cX11_chance.data.toList.drop 0) [[27], [155, 0, 21], [42], [28], [182, 0, 115], [153, 0, 13], [29], [155, 0, 9], [29], [16, 28], [164, 0, 5], [2], [172], [3], [54, 4], [27], [54, 5], [3], [54, 6], [21, 6]] = true := by decide +kernel
theorem dX11_chance_0 : decode cX11_chance 0 = .ok (.iload_n 1, 1) := dc_27 (sg_at zd_dX11_chance_0 0 rfl rfl)
theorem dX11_chance_1 : decode cX11_chance 1 = .ok (.ifCond .lt 21, 3) := dc_155 (sg_at zd_dX11_chance_0 1 rfl rfl) rfl
theorem dX11_chance_4 : decode cX11_chance 4 = .ok (.aload_n 0, 1) := dc_42 (sg_at zd_dX11_chance_0 2 rfl rfl)
theorem dX11_chance_5 : decode cX11_chance 5 = .ok (.iload_n 2, 1) := dc_28 (sg_at zd_dX11_chance_0 3 rfl rfl)
theorem dX11_chance_6 : decode cX11_chance 6 = .ok (.invokevirtual 115, 3) := dc_182 (sg_at zd_dX11_chance_0 4 rfl rfl) rfl
theorem dX11_chance_9 : decode cX11_chance 9 = .ok (.ifCond .eq 13, 3) := dc_153 (sg_at zd_dX11_chance_0 5 rfl rfl) rfl
theorem dX11_chance_12 : decode cX11_chance 12 = .ok (.iload_n 3, 1) := dc_29 (sg_at zd_dX11_chance_0 6 rfl rfl)
theorem dX11_chance_13 : decode cX11_chance 13 = .ok (.ifCond .lt 9, 3) := dc_155 (sg_at zd_dX11_chance_0 7 rfl rfl) rfl
theorem dX11_chance_16 : decode cX11_chance 16 = .ok (.iload_n 3, 1) := dc_29 (sg_at zd_dX11_chance_0 8 rfl rfl)
theorem dX11_chance_17 : decode cX11_chance 17 = .ok (.bipush 28, 2) := dc_16 (sg_at zd_dX11_chance_0 9 rfl rfl) rfl
theorem dX11_chance_19 : decode cX11_chance 19 = .ok (.if_icmp .le 5, 3) := dc_164 (sg_at zd_dX11_chance_0 10 rfl rfl) rfl
theorem dX11_chance_22 : decode cX11_chance 22 = .ok (.iconst (-1), 1) := dc_2 (sg_at zd_dX11_chance_0 11 rfl rfl)
theorem dX11_chance_23 : decode cX11_chance 23 = .ok (.ireturn, 1) := dc_172 (sg_at zd_dX11_chance_0 12 rfl rfl)
theorem dX11_chance_24 : decode cX11_chance 24 = .ok (.iconst 0, 1) := dc_3 (sg_at zd_dX11_chance_0 13 rfl rfl)
theorem dX11_chance_25 : decode cX11_chance 25 = .ok (.istore 4, 2) := dc_54 (sg_at zd_dX11_chance_0 14 rfl rfl)
theorem dX11_chance_27 : decode cX11_chance 27 = .ok (.iload_n 1, 1) := dc_27 (sg_at zd_dX11_chance_0 15 rfl rfl)
theorem dX11_chance_28 : decode cX11_chance 28 = .ok (.istore 5, 2) := dc_54 (sg_at zd_dX11_chance_0 16 rfl rfl)
theorem dX11_chance_30 : decode cX11_chance 30 = .ok (.iconst 0, 1) := dc_3 (sg_at zd_dX11_chance_0 17 rfl rfl)
theorem dX11_chance_31 : decode cX11_chance 31 = .ok (.istore 6, 2) := dc_54 (sg_at zd_dX11_chance_0 18 rfl rfl)
theorem dX11_chance_33 : decode cX11_chance 33 = .ok (.iload 6, 2) := dc_21 (sg_at zd_dX11_chance_0 19 rfl rfl)
theorem zd_dX11_chance_35 : sg (cX11_chance.data.toList.drop 35) [[16, 10], [162, 0, 47], [42], [42], [180, 0, 47], [180, 0, 217], [21, 5], [182, 1, 28], [42], [180, 0, 51], [180, 1, 94], [54, 5], [42], [180, 0, 51], [180, 0, 125], [28], [46], [29], [161, 0, 6], [132, 4, 1]] = true := by decide +kernel
theorem dX11_chance_35 : decode cX11_chance 35 = .ok (.bipush 10, 2) := dc_16 (sg_at zd_dX11_chance_35 0 rfl rfl) rfl
theorem dX11_chance_37 : decode cX11_chance 37 = .ok (.if_icmp .ge 47, 3) := dc_162 (sg_at zd_dX11_chance_35 1 rfl rfl) rfl
theorem dX11_chance_40 : decode cX11_chance 40 = .ok (.aload_n 0, 1) := dc_42 (sg_at zd_dX11_chance_35 2 rfl rfl)
theorem dX11_chance_41 : decode cX11_chance 41 = .ok (.aload_n 0, 1) := dc_42 (sg_at zd_dX11_chance_35 3 rfl rfl)
theorem dX11_chance_42 : decode cX11_chance 42 = .ok (.getfield 47, 3) := dc_180 (sg_at zd_dX11_chance_35 4 rfl rfl) rfl
theorem dX11_chance_45 : decode cX11_chance 45 = .ok (.getfield 217, 3) := dc_180 (sg_at zd_dX11_chance_35 5 rfl rfl) rfl
theorem dX11_chance_48 : decode cX11_chance 48 = .ok (.iload 5, 2) := dc_21 (sg_at zd_dX11_chance_35 6 rfl rfl)
theorem dX11_chance_50 : decode cX11_chance 50 = .ok (.invokevirtual 284, 3) := dc_182 (sg_at zd_dX11_chance_35 7 rfl rfl) rfl
theorem dX11_chance_53 : decode cX11_chance 53 = .ok (.aload_n 0, 1) := dc_42 (sg_at zd_dX11_chance_35 8 rfl rfl)
theorem dX11_chance_54 : decode cX11_chance 54 = .ok (.getfield 51, 3) := dc_180 (sg_at zd_dX11_chance_35 9 rfl rfl) rfl
theorem dX11_chance_57 : decode cX11_chance 57 = .ok (.getfield 350, 3) := dc_180 (sg_at zd_dX11_chance_35 10 rfl rfl) rfl
theorem dX11_chance_60 : decode cX11_chance 60 = .ok (.istore 5, 2) := dc_54 (sg_at zd_dX11_chance_35 11 rfl rfl)
theorem dX11_chance_62 : decode cX11_chance 62 = .ok (.aload_n 0, 1) := dc_42 (sg_at zd_dX11_chance_35 12 rfl rfl)
theorem dX11_chance_63 : decode cX11_chance 63 = .ok (.getfield 51, 3) := dc_180 (sg_at zd_dX11_chance_35 13 rfl rfl) rfl
theorem dX11_chance_66 : decode cX11_chance 66 = .ok (.getfield 125, 3) := dc_180 (sg_at zd_dX11_chance_35 14 rfl rfl) rfl
theorem dX11_chance_69 : decode cX11_chance 69 = .ok (.iload_n 2, 1) := dc_28 (sg_at zd_dX11_chance_35 15 rfl rfl)
theorem dX11_chance_70 : decode cX11_chance 70 = .ok (.iaload, 1) := dc_46 (sg_at zd_dX11_chance_35 16 rfl rfl)
theorem dX11_chance_71 : decode cX11_chance 71 = .ok (.iload_n 3, 1) := dc_29 (sg_at zd_dX11_chance_35 17 rfl rfl)
theorem dX11_chance_72 : decode cX11_chance 72 = .ok (.if_icmp .lt 6, 3) := dc_161 (sg_at zd_dX11_chance_35 18 rfl rfl) rfl
theorem dX11_chance_75 : decode cX11_chance 75 = .ok (.iinc 4 1, 3) := dc_132 (sg_at zd_dX11_chance_35 19 rfl rfl) rfl
theorem zd_dX11_chance_78 : sg (cX11_chance.data.toList.drop 78) [[132, 6, 1], [167, 255, 208], [21, 4], [172]] = true := by decide +kernel
theorem dX11_chance_78 : decode cX11_chance 78 = .ok (.iinc 6 1, 3) := dc_132 (sg_at zd_dX11_chance_78 0 rfl rfl) rfl
theorem dX11_chance_81 : decode cX11_chance 81 = .ok (.goto (-48), 3) := dc_167 (sg_at zd_dX11_chance_78 1 rfl rfl) rfl
theorem dX11_chance_84 : decode cX11_chance 84 = .ok (.iload 4, 2) := dc_21 (sg_at zd_dX11_chance_78 2 rfl rfl)
theorem dX11_chance_86 : decode cX11_chance 86 = .ok (.ireturn, 1) := dc_172 (sg_at zd_dX11_chance_78 3 rfl rfl)
theorem zd_dX11_changeTrial_0 : sg (cX11_changeTrial.data.toList.drop 0) [[27]] = true := by decide +kernel
theorem dX11_changeTrial_0 : decode cX11_changeTrial 0 = .ok (.iload_n 1, 1) := dc_27 (sg_at zd_dX11_changeTrial_0 0 rfl rfl)
theorem dX11_changeTrial_1 : decode cX11_changeTrial 1 = .ok (.tableswitch 74 0 3 #[31, 41, 52, 62], 31) := by decide +kernel
theorem zd_dX11_changeTrial_32 : sg (cX11_changeTrial.data.toList.drop 32) [[42], [180, 0, 41], [182, 1, 146], [167, 0, 52], [42], [180, 0, 51], [28], [182, 1, 149], [167, 0, 41], [42], [180, 0, 41], [182, 1, 152], [167, 0, 31], [42], [180, 0, 41], [16, 9], [182, 1, 155], [167, 0, 19], [42], [180, 0, 51]] = true := by decide +kernel
theorem dX11_changeTrial_32 : decode cX11_changeTrial 32 = .ok (.aload_n 0, 1) := dc_42 (sg_at zd_dX11_changeTrial_32 0 rfl rfl)
theorem dX11_changeTrial_33 : decode cX11_changeTrial 33 = .ok (.getfield 41, 3) := dc_180 (sg_at zd_dX11_changeTrial_32 1 rfl rfl) rfl
theorem dX11_changeTrial_36 : decode cX11_changeTrial 36 = .ok (.invokevirtual 402, 3) := dc_182 (sg_at zd_dX11_changeTrial_32 2 rfl rfl) rfl
theorem dX11_changeTrial_39 : decode cX11_changeTrial 39 = .ok (.goto 52, 3) := dc_167 (sg_at zd_dX11_changeTrial_32 3 rfl rfl) rfl
theorem dX11_changeTrial_42 : decode cX11_changeTrial 42 = .ok (.aload_n 0, 1) := dc_42 (sg_at zd_dX11_changeTrial_32 4 rfl rfl)
theorem dX11_changeTrial_43 : decode cX11_changeTrial 43 = .ok (.getfield 51, 3) := dc_180 (sg_at zd_dX11_changeTrial_32 5 rfl rfl) rfl
theorem dX11_changeTrial_46 : decode cX11_changeTrial 46 = .ok (.iload_n 2, 1) := dc_28 (sg_at zd_dX11_changeTrial_32 6 rfl rfl)
theorem dX11_changeTrial_47 : decode cX11_changeTrial 47 = .ok (.invokevirtual 405, 3) := dc_182 (sg_at zd_dX11_changeTrial_32 7 rfl rfl) rfl
theorem dX11_changeTrial_50 : decode cX11_changeTrial 50 = .ok (.goto 41, 3) := dc_167 (sg_at zd_dX11_changeTrial_32 8 rfl rfl) rfl
theorem dX11_changeTrial_53 : decode cX11_changeTrial 53 = .ok (.aload_n 0, 1) := dc_42 (sg_at zd_dX11_changeTrial_32 9 rfl rfl)
theorem dX11_changeTrial_54 : decode cX11_changeTrial 54 = .ok (.getfield 41, 3) := dc_180 (sg_at zd_dX11_changeTrial_32 10 rfl rfl) rfl
theorem dX11_changeTrial_57 : decode cX11_changeTrial 57 = .ok (.invokevirtual 408, 3) := dc_182 (sg_at zd_dX11_changeTrial_32 11 rfl rfl) rfl
theorem dX11_changeTrial_60 : decode cX11_changeTrial 60 = .ok (.goto 31, 3) := dc_167 (sg_at zd_dX11_changeTrial_32 12 rfl rfl) rfl
theorem dX11_changeTrial_63 : decode cX11_changeTrial 63 = .ok (.aload_n 0, 1) := dc_42 (sg_at zd_dX11_changeTrial_32 13 rfl rfl)
theorem dX11_changeTrial_64 : decode cX11_changeTrial 64 = .ok (.getfield 41, 3) := dc_180 (sg_at zd_dX11_changeTrial_32 14 rfl rfl) rfl
theorem dX11_changeTrial_67 : decode cX11_changeTrial 67 = .ok (.bipush 9, 2) := dc_16 (sg_at zd_dX11_changeTrial_32 15 rfl rfl) rfl
theorem dX11_changeTrial_69 : decode cX11_changeTrial 69 = .ok (.invokevirtual 411, 3) := dc_182 (sg_at zd_dX11_changeTrial_32 16 rfl rfl) rfl
theorem dX11_changeTrial_72 : decode cX11_changeTrial 72 = .ok (.goto 19, 3) := dc_167 (sg_at zd_dX11_changeTrial_32 17 rfl rfl) rfl
theorem dX11_changeTrial_75 : decode cX11_changeTrial 75 = .ok (.aload_n 0, 1) := dc_42 (sg_at zd_dX11_changeTrial_32 18 rfl rfl)
theorem dX11_changeTrial_76 : decode cX11_changeTrial 76 = .ok (.getfield 51, 3) := dc_180 (sg_at zd_dX11_changeTrial_32 19 rfl rfl) rfl
theorem zd_dX11_changeTrial_79 : sg (cX11_changeTrial.data.toList.drop 79) [[42], [180, 0, 51], [180, 0, 122], [28], [46], [182, 1, 158], [177]] = true := by decide +kernel
theorem dX11_changeTrial_79 : decode cX11_changeTrial 79 = .ok (.aload_n 0, 1) := dc_42 (sg_at zd_dX11_changeTrial_79 0 rfl rfl)
theorem dX11_changeTrial_80 : decode cX11_changeTrial 80 = .ok (.getfield 51, 3) := dc_180 (sg_at zd_dX11_changeTrial_79 1 rfl rfl) rfl
theorem dX11_changeTrial_83 : decode cX11_changeTrial 83 = .ok (.getfield 122, 3) := dc_180 (sg_at zd_dX11_changeTrial_79 2 rfl rfl) rfl
theorem dX11_changeTrial_86 : decode cX11_changeTrial 86 = .ok (.iload_n 2, 1) := dc_28 (sg_at zd_dX11_changeTrial_79 3 rfl rfl)
theorem dX11_changeTrial_87 : decode cX11_changeTrial 87 = .ok (.iaload, 1) := dc_46 (sg_at zd_dX11_changeTrial_79 4 rfl rfl)
theorem dX11_changeTrial_88 : decode cX11_changeTrial 88 = .ok (.invokevirtual 414, 3) := dc_182 (sg_at zd_dX11_changeTrial_79 5 rfl rfl) rfl
theorem dX11_changeTrial_91 : decode cX11_changeTrial 91 = .ok (.return_, 1) := dc_177 (sg_at zd_dX11_changeTrial_79 6 rfl rfl)
theorem zd_dX11_count_0 : sg (cX11_count.data.toList.drop 0) [[27]] = true := by decide +kernel
theorem dX11_count_0 : decode cX11_count 0 = .ok (.iload_n 1, 1) := dc_27 (sg_at zd_dX11_count_0 0 rfl rfl)
theorem dX11_count_1 : decode cX11_count 1 = .ok (.tableswitch 200 0 13 #[71, 79, 87, 98, 109, 120, 128, 136, 144, 152, 160, 176, 184, 192], 71) := by decide +kernel
theorem zd_dX11_count_72 : sg (cX11_count.data.toList.drop 72) [[42], [180, 0, 18], [180, 0, 173], [172], [42], [180, 0, 18], [180, 1, 125], [172], [42], [180, 0, 18], [180, 0, 102], [180, 0, 106], [172], [42], [180, 0, 18], [180, 0, 150], [180, 0, 253], [172], [42], [180, 0, 18]] = true := by decide +kernel
theorem dX11_count_72 : decode cX11_count 72 = .ok (.aload_n 0, 1) := dc_42 (sg_at zd_dX11_count_72 0 rfl rfl)
theorem dX11_count_73 : decode cX11_count 73 = .ok (.getfield 18, 3) := dc_180 (sg_at zd_dX11_count_72 1 rfl rfl) rfl
theorem dX11_count_76 : decode cX11_count 76 = .ok (.getfield 173, 3) := dc_180 (sg_at zd_dX11_count_72 2 rfl rfl) rfl
theorem dX11_count_79 : decode cX11_count 79 = .ok (.ireturn, 1) := dc_172 (sg_at zd_dX11_count_72 3 rfl rfl)
theorem dX11_count_80 : decode cX11_count 80 = .ok (.aload_n 0, 1) := dc_42 (sg_at zd_dX11_count_72 4 rfl rfl)
theorem dX11_count_81 : decode cX11_count 81 = .ok (.getfield 18, 3) := dc_180 (sg_at zd_dX11_count_72 5 rfl rfl) rfl
theorem dX11_count_84 : decode cX11_count 84 = .ok (.getfield 381, 3) := dc_180 (sg_at zd_dX11_count_72 6 rfl rfl) rfl
theorem dX11_count_87 : decode cX11_count 87 = .ok (.ireturn, 1) := dc_172 (sg_at zd_dX11_count_72 7 rfl rfl)
theorem dX11_count_88 : decode cX11_count 88 = .ok (.aload_n 0, 1) := dc_42 (sg_at zd_dX11_count_72 8 rfl rfl)
theorem dX11_count_89 : decode cX11_count 89 = .ok (.getfield 18, 3) := dc_180 (sg_at zd_dX11_count_72 9 rfl rfl) rfl
theorem dX11_count_92 : decode cX11_count 92 = .ok (.getfield 102, 3) := dc_180 (sg_at zd_dX11_count_72 10 rfl rfl) rfl
theorem dX11_count_95 : decode cX11_count 95 = .ok (.getfield 106, 3) := dc_180 (sg_at zd_dX11_count_72 11 rfl rfl) rfl
theorem dX11_count_98 : decode cX11_count 98 = .ok (.ireturn, 1) := dc_172 (sg_at zd_dX11_count_72 12 rfl rfl)
theorem dX11_count_99 : decode cX11_count 99 = .ok (.aload_n 0, 1) := dc_42 (sg_at zd_dX11_count_72 13 rfl rfl)
theorem dX11_count_100 : decode cX11_count 100 = .ok (.getfield 18, 3) := dc_180 (sg_at zd_dX11_count_72 14 rfl rfl) rfl
theorem dX11_count_103 : decode cX11_count 103 = .ok (.getfield 150, 3) := dc_180 (sg_at zd_dX11_count_72 15 rfl rfl) rfl
theorem dX11_count_106 : decode cX11_count 106 = .ok (.getfield 253, 3) := dc_180 (sg_at zd_dX11_count_72 16 rfl rfl) rfl
theorem dX11_count_109 : decode cX11_count 109 = .ok (.ireturn, 1) := dc_172 (sg_at zd_dX11_count_72 17 rfl rfl)
theorem dX11_count_110 : decode cX11_count 110 = .ok (.aload_n 0, 1) := dc_42 (sg_at zd_dX11_count_72 18 rfl rfl)
theorem dX11_count_111 : decode cX11_count 111 = .ok (.getfield 18, 3) := dc_180 (sg_at zd_dX11_count_72 19 rfl rfl) rfl
theorem zd_dX11_count_114 : sg (cX11_count.data.toList.drop 114) [[180, 0, 150], [180, 1, 43], [172], [42], [180, 0, 18], [180, 1, 128], [172], [42], [180, 0, 47], [180, 0, 186], [172], [42], [180, 0, 47], [180, 0, 217], [172], [42], [180, 0, 47], [180, 1, 31], [172], [42]] = true := by decide +kernel
theorem dX11_count_114 : decode cX11_count 114 = .ok (.getfield 150, 3) := dc_180 (sg_at zd_dX11_count_114 0 rfl rfl) rfl
theorem dX11_count_117 : decode cX11_count 117 = .ok (.getfield 299, 3) := dc_180 (sg_at zd_dX11_count_114 1 rfl rfl) rfl
theorem dX11_count_120 : decode cX11_count 120 = .ok (.ireturn, 1) := dc_172 (sg_at zd_dX11_count_114 2 rfl rfl)
theorem dX11_count_121 : decode cX11_count 121 = .ok (.aload_n 0, 1) := dc_42 (sg_at zd_dX11_count_114 3 rfl rfl)
theorem dX11_count_122 : decode cX11_count 122 = .ok (.getfield 18, 3) := dc_180 (sg_at zd_dX11_count_114 4 rfl rfl) rfl
theorem dX11_count_125 : decode cX11_count 125 = .ok (.getfield 384, 3) := dc_180 (sg_at zd_dX11_count_114 5 rfl rfl) rfl
theorem dX11_count_128 : decode cX11_count 128 = .ok (.ireturn, 1) := dc_172 (sg_at zd_dX11_count_114 6 rfl rfl)
theorem dX11_count_129 : decode cX11_count 129 = .ok (.aload_n 0, 1) := dc_42 (sg_at zd_dX11_count_114 7 rfl rfl)
theorem dX11_count_130 : decode cX11_count 130 = .ok (.getfield 47, 3) := dc_180 (sg_at zd_dX11_count_114 8 rfl rfl) rfl
theorem dX11_count_133 : decode cX11_count 133 = .ok (.getfield 186, 3) := dc_180 (sg_at zd_dX11_count_114 9 rfl rfl) rfl
theorem dX11_count_136 : decode cX11_count 136 = .ok (.ireturn, 1) := dc_172 (sg_at zd_dX11_count_114 10 rfl rfl)
theorem dX11_count_137 : decode cX11_count 137 = .ok (.aload_n 0, 1) := dc_42 (sg_at zd_dX11_count_114 11 rfl rfl)
theorem dX11_count_138 : decode cX11_count 138 = .ok (.getfield 47, 3) := dc_180 (sg_at zd_dX11_count_114 12 rfl rfl) rfl
theorem dX11_count_141 : decode cX11_count 141 = .ok (.getfield 217, 3) := dc_180 (sg_at zd_dX11_count_114 13 rfl rfl) rfl
theorem dX11_count_144 : decode cX11_count 144 = .ok (.ireturn, 1) := dc_172 (sg_at zd_dX11_count_114 14 rfl rfl)
theorem dX11_count_145 : decode cX11_count 145 = .ok (.aload_n 0, 1) := dc_42 (sg_at zd_dX11_count_114 15 rfl rfl)
theorem dX11_count_146 : decode cX11_count 146 = .ok (.getfield 47, 3) := dc_180 (sg_at zd_dX11_count_114 16 rfl rfl) rfl
theorem dX11_count_149 : decode cX11_count 149 = .ok (.getfield 287, 3) := dc_180 (sg_at zd_dX11_count_114 17 rfl rfl) rfl
theorem dX11_count_152 : decode cX11_count 152 = .ok (.ireturn, 1) := dc_172 (sg_at zd_dX11_count_114 18 rfl rfl)
theorem dX11_count_153 : decode cX11_count 153 = .ok (.aload_n 0, 1) := dc_42 (sg_at zd_dX11_count_114 19 rfl rfl)
theorem zd_dX11_count_154 : sg (cX11_count.data.toList.drop 154) [[180, 0, 47], [180, 1, 34], [172], [42], [180, 0, 18], [180, 0, 150], [180, 1, 43], [42], [182, 0, 233], [100], [172], [42], [180, 0, 60], [180, 1, 67], [172], [42], [180, 0, 60], [182, 1, 77], [172], [42]] = true := by decide +kernel
theorem dX11_count_154 : decode cX11_count 154 = .ok (.getfield 47, 3) := dc_180 (sg_at zd_dX11_count_154 0 rfl rfl) rfl
theorem dX11_count_157 : decode cX11_count 157 = .ok (.getfield 290, 3) := dc_180 (sg_at zd_dX11_count_154 1 rfl rfl) rfl
theorem dX11_count_160 : decode cX11_count 160 = .ok (.ireturn, 1) := dc_172 (sg_at zd_dX11_count_154 2 rfl rfl)
theorem dX11_count_161 : decode cX11_count 161 = .ok (.aload_n 0, 1) := dc_42 (sg_at zd_dX11_count_154 3 rfl rfl)
theorem dX11_count_162 : decode cX11_count 162 = .ok (.getfield 18, 3) := dc_180 (sg_at zd_dX11_count_154 4 rfl rfl) rfl
theorem dX11_count_165 : decode cX11_count 165 = .ok (.getfield 150, 3) := dc_180 (sg_at zd_dX11_count_154 5 rfl rfl) rfl
theorem dX11_count_168 : decode cX11_count 168 = .ok (.getfield 299, 3) := dc_180 (sg_at zd_dX11_count_154 6 rfl rfl) rfl
theorem dX11_count_171 : decode cX11_count 171 = .ok (.aload_n 0, 1) := dc_42 (sg_at zd_dX11_count_154 7 rfl rfl)
theorem dX11_count_172 : decode cX11_count 172 = .ok (.invokevirtual 233, 3) := dc_182 (sg_at zd_dX11_count_154 8 rfl rfl) rfl
theorem dX11_count_175 : decode cX11_count 175 = .ok (.isub, 1) := dc_100 (sg_at zd_dX11_count_154 9 rfl rfl)
theorem dX11_count_176 : decode cX11_count 176 = .ok (.ireturn, 1) := dc_172 (sg_at zd_dX11_count_154 10 rfl rfl)
theorem dX11_count_177 : decode cX11_count 177 = .ok (.aload_n 0, 1) := dc_42 (sg_at zd_dX11_count_154 11 rfl rfl)
theorem dX11_count_178 : decode cX11_count 178 = .ok (.getfield 60, 3) := dc_180 (sg_at zd_dX11_count_154 12 rfl rfl) rfl
theorem dX11_count_181 : decode cX11_count 181 = .ok (.getfield 323, 3) := dc_180 (sg_at zd_dX11_count_154 13 rfl rfl) rfl
theorem dX11_count_184 : decode cX11_count 184 = .ok (.ireturn, 1) := dc_172 (sg_at zd_dX11_count_154 14 rfl rfl)
theorem dX11_count_185 : decode cX11_count 185 = .ok (.aload_n 0, 1) := dc_42 (sg_at zd_dX11_count_154 15 rfl rfl)
theorem dX11_count_186 : decode cX11_count 186 = .ok (.getfield 60, 3) := dc_180 (sg_at zd_dX11_count_154 16 rfl rfl) rfl
theorem dX11_count_189 : decode cX11_count 189 = .ok (.invokevirtual 333, 3) := dc_182 (sg_at zd_dX11_count_154 17 rfl rfl) rfl
theorem dX11_count_192 : decode cX11_count 192 = .ok (.ireturn, 1) := dc_172 (sg_at zd_dX11_count_154 18 rfl rfl)
theorem dX11_count_193 : decode cX11_count 193 = .ok (.aload_n 0, 1) := dc_42 (sg_at zd_dX11_count_154 19 rfl rfl)
theorem zd_dX11_count_194 : sg (cX11_count.data.toList.drop 194) [[180, 0, 67], [180, 1, 112], [172], [2], [172]] = true := by decide +kernel
theorem dX11_count_194 : decode cX11_count 194 = .ok (.getfield 67, 3) := dc_180 (sg_at zd_dX11_count_194 0 rfl rfl) rfl
theorem dX11_count_197 : decode cX11_count 197 = .ok (.getfield 368, 3) := dc_180 (sg_at zd_dX11_count_194 1 rfl rfl) rfl
theorem dX11_count_200 : decode cX11_count 200 = .ok (.ireturn, 1) := dc_172 (sg_at zd_dX11_count_194 2 rfl rfl)
theorem dX11_count_201 : decode cX11_count 201 = .ok (.iconst (-1), 1) := dc_2 (sg_at zd_dX11_count_194 3 rfl rfl)
theorem dX11_count_202 : decode cX11_count 202 = .ok (.ireturn, 1) := dc_172 (sg_at zd_dX11_count_194 4 rfl rfl)
theorem zd_dX11_farNow_0 : sg (cX11_farNow.data.toList.drop 0) [[42], [180, 0, 18], [42], [180, 0, 47], [180, 0, 122], [27], [46], [42], [180, 0, 37], [42], [180, 0, 47], [180, 0, 186], [182, 0, 176], [182, 1, 134], [172]] = true := by decide +kernel
theorem dX11_farNow_0 : decode cX11_farNow 0 = .ok (.aload_n 0, 1) := dc_42 (sg_at zd_dX11_farNow_0 0 rfl rfl)
theorem dX11_farNow_1 : decode cX11_farNow 1 = .ok (.getfield 18, 3) := dc_180 (sg_at zd_dX11_farNow_0 1 rfl rfl) rfl
theorem dX11_farNow_4 : decode cX11_farNow 4 = .ok (.aload_n 0, 1) := dc_42 (sg_at zd_dX11_farNow_0 2 rfl rfl)
theorem dX11_farNow_5 : decode cX11_farNow 5 = .ok (.getfield 47, 3) := dc_180 (sg_at zd_dX11_farNow_0 3 rfl rfl) rfl
theorem dX11_farNow_8 : decode cX11_farNow 8 = .ok (.getfield 122, 3) := dc_180 (sg_at zd_dX11_farNow_0 4 rfl rfl) rfl
theorem dX11_farNow_11 : decode cX11_farNow 11 = .ok (.iload_n 1, 1) := dc_27 (sg_at zd_dX11_farNow_0 5 rfl rfl)
theorem dX11_farNow_12 : decode cX11_farNow 12 = .ok (.iaload, 1) := dc_46 (sg_at zd_dX11_farNow_0 6 rfl rfl)
theorem dX11_farNow_13 : decode cX11_farNow 13 = .ok (.aload_n 0, 1) := dc_42 (sg_at zd_dX11_farNow_0 7 rfl rfl)
theorem dX11_farNow_14 : decode cX11_farNow 14 = .ok (.getfield 37, 3) := dc_180 (sg_at zd_dX11_farNow_0 8 rfl rfl) rfl
theorem dX11_farNow_17 : decode cX11_farNow 17 = .ok (.aload_n 0, 1) := dc_42 (sg_at zd_dX11_farNow_0 9 rfl rfl)
theorem dX11_farNow_18 : decode cX11_farNow 18 = .ok (.getfield 47, 3) := dc_180 (sg_at zd_dX11_farNow_0 10 rfl rfl) rfl
theorem dX11_farNow_21 : decode cX11_farNow 21 = .ok (.getfield 186, 3) := dc_180 (sg_at zd_dX11_farNow_0 11 rfl rfl) rfl
theorem dX11_farNow_24 : decode cX11_farNow 24 = .ok (.invokevirtual 176, 3) := dc_182 (sg_at zd_dX11_farNow_0 12 rfl rfl) rfl
theorem dX11_farNow_27 : decode cX11_farNow 27 = .ok (.invokevirtual 390, 3) := dc_182 (sg_at zd_dX11_farNow_0 13 rfl rfl) rfl
theorem dX11_farNow_30 : decode cX11_farNow 30 = .ok (.ireturn, 1) := dc_172 (sg_at zd_dX11_farNow_0 14 rfl rfl)
theorem zd_dX11_deeper_0 : sg (cX11_deeper.data.toList.drop 0) [[42], [27], [182, 0, 115], [153, 0, 11], [42], [28], [182, 0, 115], [154, 0, 5], [2], [172], [42], [27], [182, 0, 140], [62], [42], [28], [182, 0, 140], [54, 4], [29], [21, 4]] = true := by decide +kernel
theorem dX11_deeper_0 : decode cX11_deeper 0 = .ok (.aload_n 0, 1) := dc_42 (sg_at zd_dX11_deeper_0 0 rfl rfl)
theorem dX11_deeper_1 : decode cX11_deeper 1 = .ok (.iload_n 1, 1) := dc_27 (sg_at zd_dX11_deeper_0 1 rfl rfl)
theorem dX11_deeper_2 : decode cX11_deeper 2 = .ok (.invokevirtual 115, 3) := dc_182 (sg_at zd_dX11_deeper_0 2 rfl rfl) rfl
theorem dX11_deeper_5 : decode cX11_deeper 5 = .ok (.ifCond .eq 11, 3) := dc_153 (sg_at zd_dX11_deeper_0 3 rfl rfl) rfl
theorem dX11_deeper_8 : decode cX11_deeper 8 = .ok (.aload_n 0, 1) := dc_42 (sg_at zd_dX11_deeper_0 4 rfl rfl)
theorem dX11_deeper_9 : decode cX11_deeper 9 = .ok (.iload_n 2, 1) := dc_28 (sg_at zd_dX11_deeper_0 5 rfl rfl)
theorem dX11_deeper_10 : decode cX11_deeper 10 = .ok (.invokevirtual 115, 3) := dc_182 (sg_at zd_dX11_deeper_0 6 rfl rfl) rfl
theorem dX11_deeper_13 : decode cX11_deeper 13 = .ok (.ifCond .ne 5, 3) := dc_154 (sg_at zd_dX11_deeper_0 7 rfl rfl) rfl
theorem dX11_deeper_16 : decode cX11_deeper 16 = .ok (.iconst (-1), 1) := dc_2 (sg_at zd_dX11_deeper_0 8 rfl rfl)
theorem dX11_deeper_17 : decode cX11_deeper 17 = .ok (.ireturn, 1) := dc_172 (sg_at zd_dX11_deeper_0 9 rfl rfl)
theorem dX11_deeper_18 : decode cX11_deeper 18 = .ok (.aload_n 0, 1) := dc_42 (sg_at zd_dX11_deeper_0 10 rfl rfl)
theorem dX11_deeper_19 : decode cX11_deeper 19 = .ok (.iload_n 1, 1) := dc_27 (sg_at zd_dX11_deeper_0 11 rfl rfl)
theorem dX11_deeper_20 : decode cX11_deeper 20 = .ok (.invokevirtual 140, 3) := dc_182 (sg_at zd_dX11_deeper_0 12 rfl rfl) rfl
theorem dX11_deeper_23 : decode cX11_deeper 23 = .ok (.istore_n 3, 1) := dc_62 (sg_at zd_dX11_deeper_0 13 rfl rfl)
theorem dX11_deeper_24 : decode cX11_deeper 24 = .ok (.aload_n 0, 1) := dc_42 (sg_at zd_dX11_deeper_0 14 rfl rfl)
theorem dX11_deeper_25 : decode cX11_deeper 25 = .ok (.iload_n 2, 1) := dc_28 (sg_at zd_dX11_deeper_0 15 rfl rfl)
theorem dX11_deeper_26 : decode cX11_deeper 26 = .ok (.invokevirtual 140, 3) := dc_182 (sg_at zd_dX11_deeper_0 16 rfl rfl) rfl
theorem dX11_deeper_29 : decode cX11_deeper 29 = .ok (.istore 4, 2) := dc_54 (sg_at zd_dX11_deeper_0 17 rfl rfl)
theorem dX11_deeper_31 : decode cX11_deeper 31 = .ok (.iload_n 3, 1) := dc_29 (sg_at zd_dX11_deeper_0 18 rfl rfl)
theorem dX11_deeper_32 : decode cX11_deeper 32 = .ok (.iload 4, 2) := dc_21 (sg_at zd_dX11_deeper_0 19 rfl rfl)
theorem zd_dX11_deeper_34 : sg (cX11_deeper.data.toList.drop 34) [[160, 0, 5], [3], [172], [29], [21, 4], [162, 0, 7], [4], [167, 0, 4], [5], [172]] = true := by decide +kernel
theorem dX11_deeper_34 : decode cX11_deeper 34 = .ok (.if_icmp .ne 5, 3) := dc_160 (sg_at zd_dX11_deeper_34 0 rfl rfl) rfl
theorem dX11_deeper_37 : decode cX11_deeper 37 = .ok (.iconst 0, 1) := dc_3 (sg_at zd_dX11_deeper_34 1 rfl rfl)
theorem dX11_deeper_38 : decode cX11_deeper 38 = .ok (.ireturn, 1) := dc_172 (sg_at zd_dX11_deeper_34 2 rfl rfl)
theorem dX11_deeper_39 : decode cX11_deeper 39 = .ok (.iload_n 3, 1) := dc_29 (sg_at zd_dX11_deeper_34 3 rfl rfl)
theorem dX11_deeper_40 : decode cX11_deeper 40 = .ok (.iload 4, 2) := dc_21 (sg_at zd_dX11_deeper_34 4 rfl rfl)
theorem dX11_deeper_42 : decode cX11_deeper 42 = .ok (.if_icmp .ge 7, 3) := dc_162 (sg_at zd_dX11_deeper_34 5 rfl rfl) rfl
theorem dX11_deeper_45 : decode cX11_deeper 45 = .ok (.iconst 1, 1) := dc_4 (sg_at zd_dX11_deeper_34 6 rfl rfl)
theorem dX11_deeper_46 : decode cX11_deeper 46 = .ok (.goto 4, 3) := dc_167 (sg_at zd_dX11_deeper_34 7 rfl rfl) rfl
theorem dX11_deeper_49 : decode cX11_deeper 49 = .ok (.iconst 2, 1) := dc_5 (sg_at zd_dX11_deeper_34 8 rfl rfl)
theorem dX11_deeper_50 : decode cX11_deeper 50 = .ok (.ireturn, 1) := dc_172 (sg_at zd_dX11_deeper_34 9 rfl rfl)
section
variable {p : Program} {l : Launch} {e : Env} {s : State} {m : MethodId} {args : Array Value} {below : List Frame} {meth : Method} {c : Code} {D : va_G} {cy : Nat → ClassId} {b : Nat} {A : Nat → Prop} {fl : Bool}
def vX6_giveBoards : List Cond := .code yX6_giveBoards cX6_giveBoards 3 none :: TB
theorem lf6_giveBoards_15 : Fl vX6_giveBoards RX6 15 6 1 := ⟨RX6, TX6, 9, rfl, by decide, (fun w h9 => List.mem_cons_of_mem _ (wC_wsX60 w h9)), (List.mem_cons_of_mem _ wT_7_16)⟩
theorem cd6_giveBoards : Cd yX6_giveBoards 1 := ⟨by decide, by decide, by decide +kernel⟩
set_option maxHeartbeats 4000000 in
set_option maxRecDepth 100000 in
theorem T6_giveBoards_2 (S : CallFix p m c cX6_giveBoards 3 s args vX6_giveBoards RX6) (hr : meth.sig.returnType = none) (hlo : meth.locks = false) {out : PH} : ∀ (n : Nat) {h : PH} {a0 : Nat} {x1 : Int32} {x2 : Int32} (f : F6_giveBoards_2  n h a0 x1 x2 = some out) {H : Heap} {locs : List Loc} (I : ph_I D cy b A fl h s H locs) {ls : Array Slot} (hl : lv_has ls 3 [(0, .ref (b + a0)), (1, .int x1), (2, .int x2)]), W p l e ({ frames := 0, cells := 0, slots := 0, locals := 0 } : Room) s m args below meth c H locs 0 0 (MQ below (va_Qv (fun (u : PH) => u = out) (ph_B D cy b A fl) A) args s 0 0 A) (F0 m 2 ls []) := by
  intro n
  induction n with
  | zero => intro h a0 x1 x2 f; rw [F6_giveBoards_2] at f; cases f
  | succ n ih =>
    intro h a0 x1 x2 f H locs I ls hl
    rw [F6_giveBoards_2] at f
    refine lv_iload_n S.1 S.2.1 dX6_giveBoards_2 rfl (lv_at hl 2 rfl) ?_
    refine lv_iconst (v := 5) S.1 S.2.1 dX6_giveBoards_3 (by decide) ?_
    refine lv_icmp_ge (tgt := 20) S.1 S.2.1 dX6_giveBoards_4 (by decide) (fun q1 => ?_) (fun q1 => ?_)
    · have f := (if_pos q1).symm.trans f
      exact o_vret S hr hlo I f dX6_giveBoards_20
    · have f := (if_neg q1).symm.trans f
      refine lv_aload_n S.1 S.2.1 dX6_giveBoards_7 rfl (lv_at hl 0 rfl) ?_
      obtain ⟨r2, e3, f⟩ := ob f
      refine o_gR S lf6_giveBoards_15 I e3 dX6_giveBoards_8 ?_
      refine lv_iload_n S.1 S.2.1 dX6_giveBoards_11 rfl (lv_at hl 2 rfl) ?_
      refine lv_iload_n S.1 S.2.1 dX6_giveBoards_12 rfl (lv_at hl 1 rfl) ?_
      obtain ⟨h5, e4, f⟩ := ob f
      refine o_iast S I e4 dX6_giveBoards_13 (fun H locs I => ?_)
      refine lv_iinc (v := (x2 + 1)) (lv' := [(2, .int (x2 + 1)), (0, .ref (b + a0)), (1, .int x1)]) S.1 S.2.1 dX6_giveBoards_14 hl (k := 2) rfl (congrArg (fun z => x2 + z) (by decide)) (by decide) rfl (fun ls hl => ?_)
      refine lv_goto (tgt := 2) S.1 S.2.1 dX6_giveBoards_17 (by decide) ?_
      exact ih f I (lv_sub hl [1, 2, 0] rfl)
set_option maxHeartbeats 4000000 in
set_option maxRecDepth 100000 in
theorem T6_giveBoards_0 (S : CallFix p m c cX6_giveBoards 3 s args vX6_giveBoards RX6) (hr : meth.sig.returnType = none) (hlo : meth.locks = false) {out : PH} {h : PH} {a0 : Nat} {x1 : Int32} (f : F6_giveBoards_0  h a0 x1 = some out) {H : Heap} {locs : List Loc} (I : ph_I D cy b A fl h s H locs) {ls : Array Slot} (hl : lv_has ls 3 [(0, .ref (b + a0)), (1, .int x1)]) : W p l e ({ frames := 0, cells := 0, slots := 0, locals := 0 } : Room) s m args below meth c H locs 0 0 (MQ below (va_Qv (fun (u : PH) => u = out) (ph_B D cy b A fl) A) args s 0 0 A) (F0 m 0 ls []) := by
  unfold F6_giveBoards_0 at f
  refine lv_iconst (v := 0) S.1 S.2.1 dX6_giveBoards_0 (by decide) ?_
  refine lv_istore_n (lv' := [(2, .int 0), (0, .ref (b + a0)), (1, .int x1)]) S.1 S.2.1 dX6_giveBoards_1 rfl hl (by decide) rfl (fun ls hl => ?_)
  exact T6_giveBoards_2 S hr hlo  1024 f I (lv_sub hl [1, 2, 0] rfl)
theorem M6_giveBoards (l : Launch) (D : va_G) (cy : Nat → ClassId) (b : Nat) (A : Nat → Prop) (fl : Bool) {h : PH} {a0 : Nat} {x1 : Int32} {out : PH} (f : F6_giveBoards h a0 x1 = some out) : Met l yX6_giveBoards vX6_giveBoards ({ frames := 0, cells := 0, slots := 0, locals := 0 } : Room) (va_Pc [.ref (b + a0), .int x1] (ph_B D cy b A fl h)) (va_Qv (fun (u : PH) => u = out) (ph_B D cy b A fl) A) 0 0 A :=
  o_met (by decide) rfl (Nat.le_of_ble_eq_true rfl) rfl (fun p e s m below meth c S hr hlo hnm ls hl I => T6_giveBoards_0 S hr hlo ((gd f).2) I (lv_sub hl [0, 1] rfl))
def vX6_holdPeak : List Cond := .code yX6_holdPeak cX6_holdPeak 2 none :: TB
theorem lf6_holdPeak_22 : Fl vX6_holdPeak RX6 22 6 3 := ⟨RX6, TX6, 9, rfl, by decide, (fun w h9 => List.mem_cons_of_mem _ (wC_wsX60 w h9)), (List.mem_cons_of_mem _ wT_7_18)⟩
theorem lf6_holdPeak_9 : Fl vX6_holdPeak RX6 9 6 0 := ⟨RX6, TX6, 9, rfl, by decide, (fun w h9 => List.mem_cons_of_mem _ (wC_wsX60 w h9)), (List.mem_cons_of_mem _ wT_7_15)⟩
theorem lf6_holdPeak_74 : Fl vX6_holdPeak RX6 74 8 2 := ⟨RX8, TX8, 14, rfl, by decide, (fun w h9 => List.mem_cons_of_mem _ (wC_wsX80 w h9)), (List.mem_cons_of_mem _ wT_24_16)⟩
theorem cd6_holdPeak : Cd yX6_holdPeak 0 := ⟨by decide, by decide, by decide +kernel⟩
set_option maxHeartbeats 4000000 in
set_option maxRecDepth 100000 in
theorem T6_holdPeak_2 (S : CallFix p m c cX6_holdPeak 2 s args vX6_holdPeak RX6) (hr : meth.sig.returnType = none) (hlo : meth.locks = false) {out : PH} : ∀ (n : Nat) {h : PH} {a0 : Nat} {x1 : Int32} (f : F6_holdPeak_2  n h a0 x1 = some out) {H : Heap} {locs : List Loc} (I : ph_I D cy b A fl h s H locs) {ls : Array Slot} (hl : lv_has ls 2 [(0, .ref (b + a0)), (1, .int x1)]), W p l e ({ frames := 0, cells := 0, slots := 0, locals := 0 } : Room) s m args below meth c H locs 0 0 (MQ below (va_Qv (fun (u : PH) => u = out) (ph_B D cy b A fl) A) args s 0 0 A) (F0 m 2 ls []) := by
  intro n
  induction n with
  | zero => intro h a0 x1 f; rw [F6_holdPeak_2] at f; cases f
  | succ n ih =>
    intro h a0 x1 f H locs I ls hl
    rw [F6_holdPeak_2] at f
    refine lv_iload_n S.1 S.2.1 dX6_holdPeak_2 rfl (lv_at hl 1 rfl) ?_
    refine lv_bipush (v := 28) S.1 S.2.1 dX6_holdPeak_3 (by decide) ?_
    refine lv_icmp_ge (tgt := 27) S.1 S.2.1 dX6_holdPeak_5 (by decide) (fun q1 => ?_) (fun q1 => ?_)
    · have f := (if_pos q1).symm.trans f
      exact o_vret S hr hlo I f dX6_holdPeak_27
    · have f := (if_neg q1).symm.trans f
      refine lv_aload_n S.1 S.2.1 dX6_holdPeak_8 rfl (lv_at hl 0 rfl) ?_
      obtain ⟨r2, e3, f⟩ := ob f
      refine o_gR S lf6_holdPeak_22 I e3 dX6_holdPeak_9 ?_
      refine lv_iload_n S.1 S.2.1 dX6_holdPeak_12 rfl (lv_at hl 1 rfl) ?_
      refine lv_aload_n S.1 S.2.1 dX6_holdPeak_13 rfl (lv_at hl 0 rfl) ?_
      obtain ⟨r4, e5, f⟩ := ob f
      refine o_gR S lf6_holdPeak_9 I e5 dX6_holdPeak_14 ?_
      obtain ⟨v6, e7, f⟩ := ob f
      refine o_gI S lf6_holdPeak_74 I e7 dX6_holdPeak_17 ?_
      obtain ⟨h9, e8, f⟩ := ob f
      refine o_iast S I e8 dX6_holdPeak_20 (fun H locs I => ?_)
      refine lv_iinc (v := (x1 + 1)) (lv' := [(1, .int (x1 + 1)), (0, .ref (b + a0))]) S.1 S.2.1 dX6_holdPeak_21 hl (k := 1) rfl (congrArg (fun z => x1 + z) (by decide)) (by decide) rfl (fun ls hl => ?_)
      refine lv_goto (tgt := 2) S.1 S.2.1 dX6_holdPeak_24 (by decide) ?_
      exact ih f I (lv_sub hl [1, 0] rfl)
set_option maxHeartbeats 4000000 in
set_option maxRecDepth 100000 in
theorem T6_holdPeak_0 (S : CallFix p m c cX6_holdPeak 2 s args vX6_holdPeak RX6) (hr : meth.sig.returnType = none) (hlo : meth.locks = false) {out : PH} {h : PH} {a0 : Nat} (f : F6_holdPeak_0  h a0 = some out) {H : Heap} {locs : List Loc} (I : ph_I D cy b A fl h s H locs) {ls : Array Slot} (hl : lv_has ls 2 [(0, .ref (b + a0))]) : W p l e ({ frames := 0, cells := 0, slots := 0, locals := 0 } : Room) s m args below meth c H locs 0 0 (MQ below (va_Qv (fun (u : PH) => u = out) (ph_B D cy b A fl) A) args s 0 0 A) (F0 m 0 ls []) := by
  unfold F6_holdPeak_0 at f
  refine lv_iconst (v := 0) S.1 S.2.1 dX6_holdPeak_0 (by decide) ?_
  refine lv_istore_n (lv' := [(1, .int 0), (0, .ref (b + a0))]) S.1 S.2.1 dX6_holdPeak_1 rfl hl (by decide) rfl (fun ls hl => ?_)
  exact T6_holdPeak_2 S hr hlo  1024 f I (lv_sub hl [1, 0] rfl)
theorem M6_holdPeak (l : Launch) (D : va_G) (cy : Nat → ClassId) (b : Nat) (A : Nat → Prop) (fl : Bool) {h : PH} {a0 : Nat} {out : PH} (f : F6_holdPeak h a0 = some out) : Met l yX6_holdPeak vX6_holdPeak ({ frames := 0, cells := 0, slots := 0, locals := 0 } : Room) (va_Pc [.ref (b + a0)] (ph_B D cy b A fl h)) (va_Qv (fun (u : PH) => u = out) (ph_B D cy b A fl) A) 0 0 A :=
  o_met (by decide) rfl (Nat.le_of_ble_eq_true rfl) rfl (fun p e s m below meth c S hr hlo hnm ls hl I => T6_holdPeak_0 S hr hlo ((gd f).2) I (lv_sub hl [0] rfl))
def vX6_makeNobodyBold : List Cond := .code yX6_makeNobodyBold cX6_makeNobodyBold 2 none :: TB
theorem lf6_makeNobodyBold_19 : Fl vX6_makeNobodyBold RX6 19 6 2 := ⟨RX6, TX6, 9, rfl, by decide, (fun w h9 => List.mem_cons_of_mem _ (wC_wsX60 w h9)), (List.mem_cons_of_mem _ wT_7_17)⟩
theorem cd6_makeNobodyBold : Cd yX6_makeNobodyBold 0 := ⟨by decide, by decide, by decide +kernel⟩
set_option maxHeartbeats 4000000 in
set_option maxRecDepth 100000 in
theorem T6_makeNobodyBold_2 (S : CallFix p m c cX6_makeNobodyBold 2 s args vX6_makeNobodyBold RX6) (hr : meth.sig.returnType = none) (hlo : meth.locks = false) {out : PH} : ∀ (n : Nat) {h : PH} {a0 : Nat} {x1 : Int32} (f : F6_makeNobodyBold_2  n h a0 x1 = some out) {H : Heap} {locs : List Loc} (I : ph_I D cy b A fl h s H locs) {ls : Array Slot} (hl : lv_has ls 2 [(0, .ref (b + a0)), (1, .int x1)]), W p l e ({ frames := 0, cells := 0, slots := 0, locals := 0 } : Room) s m args below meth c H locs 0 0 (MQ below (va_Qv (fun (u : PH) => u = out) (ph_B D cy b A fl) A) args s 0 0 A) (F0 m 2 ls []) := by
  intro n
  induction n with
  | zero => intro h a0 x1 f; rw [F6_makeNobodyBold_2] at f; cases f
  | succ n ih =>
    intro h a0 x1 f H locs I ls hl
    rw [F6_makeNobodyBold_2] at f
    refine lv_iload_n S.1 S.2.1 dX6_makeNobodyBold_2 rfl (lv_at hl 1 rfl) ?_
    refine lv_iconst (v := 5) S.1 S.2.1 dX6_makeNobodyBold_3 (by decide) ?_
    refine lv_icmp_ge (tgt := 20) S.1 S.2.1 dX6_makeNobodyBold_4 (by decide) (fun q1 => ?_) (fun q1 => ?_)
    · have f := (if_pos q1).symm.trans f
      exact o_vret S hr hlo I f dX6_makeNobodyBold_20
    · have f := (if_neg q1).symm.trans f
      refine lv_aload_n S.1 S.2.1 dX6_makeNobodyBold_7 rfl (lv_at hl 0 rfl) ?_
      obtain ⟨r2, e3, f⟩ := ob f
      refine o_gR S lf6_makeNobodyBold_19 I e3 dX6_makeNobodyBold_8 ?_
      refine lv_iload_n S.1 S.2.1 dX6_makeNobodyBold_11 rfl (lv_at hl 1 rfl) ?_
      refine lv_iconst (v := 0) S.1 S.2.1 dX6_makeNobodyBold_12 (by decide) ?_
      obtain ⟨h5, e4, f⟩ := ob f
      refine o_iast S I e4 dX6_makeNobodyBold_13 (fun H locs I => ?_)
      refine lv_iinc (v := (x1 + 1)) (lv' := [(1, .int (x1 + 1)), (0, .ref (b + a0))]) S.1 S.2.1 dX6_makeNobodyBold_14 hl (k := 1) rfl (congrArg (fun z => x1 + z) (by decide)) (by decide) rfl (fun ls hl => ?_)
      refine lv_goto (tgt := 2) S.1 S.2.1 dX6_makeNobodyBold_17 (by decide) ?_
      exact ih f I (lv_sub hl [1, 0] rfl)
set_option maxHeartbeats 4000000 in
set_option maxRecDepth 100000 in
theorem T6_makeNobodyBold_0 (S : CallFix p m c cX6_makeNobodyBold 2 s args vX6_makeNobodyBold RX6) (hr : meth.sig.returnType = none) (hlo : meth.locks = false) {out : PH} {h : PH} {a0 : Nat} (f : F6_makeNobodyBold_0  h a0 = some out) {H : Heap} {locs : List Loc} (I : ph_I D cy b A fl h s H locs) {ls : Array Slot} (hl : lv_has ls 2 [(0, .ref (b + a0))]) : W p l e ({ frames := 0, cells := 0, slots := 0, locals := 0 } : Room) s m args below meth c H locs 0 0 (MQ below (va_Qv (fun (u : PH) => u = out) (ph_B D cy b A fl) A) args s 0 0 A) (F0 m 0 ls []) := by
  unfold F6_makeNobodyBold_0 at f
  refine lv_iconst (v := 0) S.1 S.2.1 dX6_makeNobodyBold_0 (by decide) ?_
  refine lv_istore_n (lv' := [(1, .int 0), (0, .ref (b + a0))]) S.1 S.2.1 dX6_makeNobodyBold_1 rfl hl (by decide) rfl (fun ls hl => ?_)
  exact T6_makeNobodyBold_2 S hr hlo  1024 f I (lv_sub hl [1, 0] rfl)
theorem M6_makeNobodyBold (l : Launch) (D : va_G) (cy : Nat → ClassId) (b : Nat) (A : Nat → Prop) (fl : Bool) {h : PH} {a0 : Nat} {out : PH} (f : F6_makeNobodyBold h a0 = some out) : Met l yX6_makeNobodyBold vX6_makeNobodyBold ({ frames := 0, cells := 0, slots := 0, locals := 0 } : Room) (va_Pc [.ref (b + a0)] (ph_B D cy b A fl h)) (va_Qv (fun (u : PH) => u = out) (ph_B D cy b A fl) A) 0 0 A :=
  o_met (by decide) rfl (Nat.le_of_ble_eq_true rfl) rfl (fun p e s m below meth c S hr hlo hnm ls hl I => T6_makeNobodyBold_0 S hr hlo ((gd f).2) I (lv_sub hl [0] rfl))
def vX6_peakXAt : List Cond := .code yX6_peakXAt cX6_peakXAt 6 (some .int) :: TB
theorem lf6_peakXAt_9 : Fl vX6_peakXAt RX6 9 6 0 := ⟨RX6, TX6, 9, rfl, by decide, (fun w h9 => List.mem_cons_of_mem _ (wC_wsX60 w h9)), (List.mem_cons_of_mem _ wT_7_15)⟩
theorem lf6_peakXAt_105 : Fl vX6_peakXAt RX6 105 8 0 := ⟨RX8, TX8, 14, rfl, by decide, (fun w h9 => List.mem_cons_of_mem _ (wC_wsX80 w h9)), (List.mem_cons_of_mem _ wT_25_2)⟩
theorem gX6_peakXAt_X6_driftValue : GoodIn vX6_peakXAt (wsV RX6 86 RX6 yX6_driftValue vX6_driftValue) := gV_of wT_25_3 wT_25_4 wT_25_5 wT_2_2 wT_25_6
theorem lf6_peakXAt_74 : Fl vX6_peakXAt RX6 74 8 2 := ⟨RX8, TX8, 14, rfl, by decide, (fun w h9 => List.mem_cons_of_mem _ (wC_wsX80 w h9)), (List.mem_cons_of_mem _ wT_24_16)⟩
theorem cd6_peakXAt : Cd yX6_peakXAt 1 := ⟨by decide, by decide, by decide +kernel⟩
set_option maxHeartbeats 4000000 in
set_option maxRecDepth 100000 in
theorem T6_peakXAt_39 (S : CallFix p m c cX6_peakXAt 6 s args vX6_peakXAt RX6) (hr : meth.sig.returnType = (some .int)) (hlo : meth.locks = false) {out : Int32 × PH} {h : PH} {a0 : Nat} {t0 : Int64} {t1 : Int64} (f : F6_peakXAt_39  h a0 t0 t1 = some out) {H : Heap} {locs : List Loc} (I : ph_I D cy b A fl h s H locs) {ls : Array Slot} (hl : lv_has ls 6 [(0, .ref (b + a0))]) : W p l e ({ frames := 4, cells := 0, slots := 0, locals := 100 } : Room) s m args below meth c H locs 0 0 (MQ below (va_Qi (fun (r : Int32) (u : PH) => (r, u) = out) (ph_B D cy b A fl) A) args s 0 0 A) (F0 m 39 ls [.long t0, .long t1]) := by
  unfold F6_peakXAt_39 at f
  refine lv_ladd S.1 S.2.1 dX6_peakXAt_39 ?_
  refine lv_lstore (lv' := [(4, .long (t1 + t0)), (0, .ref (b + a0))]) S.1 S.2.1 dX6_peakXAt_40 hl (by decide) rfl (fun ls hl => ?_)
  refine lv_lconst (v := 0) S.1 S.2.1 dX6_peakXAt_42 (by decide) ?_
  refine lv_aload_n S.1 S.2.1 dX6_peakXAt_43 rfl (lv_at hl 1 rfl) ?_
  obtain ⟨r1, e2, f⟩ := ob f
  refine o_gR S lf6_peakXAt_9 I e2 dX6_peakXAt_44 ?_
  obtain ⟨v3, e4, f⟩ := ob f
  refine o_gI S lf6_peakXAt_105 I e4 dX6_peakXAt_47 ?_
  refine lv_iconst (v := 1) S.1 S.2.1 dX6_peakXAt_50 (by decide) ?_
  refine lv_isub S.1 S.2.1 dX6_peakXAt_51 ?_
  refine lv_i2l (v := Int32.toInt64 (v3 - 1)) S.1 S.2.1 dX6_peakXAt_52 rfl ?_
  refine lv_lload S.1 S.2.1 dX6_peakXAt_53 (lv_at hl 0 rfl) ?_
  refine va_mmin_long S.1 S.2.1 (by rw [S.2.2.1, hl.1]) S.2.2.2.1 (S.2.2.2.2 _ (List.mem_cons_of_mem _ wT_24_20)) (S.2.2.2.2 _ (List.mem_cons_of_mem _ wT_24_21)) (S.2.2.2.2 _ (List.mem_cons_of_mem _ wT_15_17)) (S.2.2.2.2 _ (List.mem_cons_of_mem _ wT_24_22)) (Nat.le_of_ble_eq_true rfl) (Nat.le_of_ble_eq_true rfl) (Nat.zero_le _) (Nat.zero_le _) dX6_peakXAt_55 ?_
  refine va_mmax_long S.1 S.2.1 (by rw [S.2.2.1, hl.1]) S.2.2.2.1 (S.2.2.2.2 _ (List.mem_cons_of_mem _ wT_24_23)) (S.2.2.2.2 _ (List.mem_cons_of_mem _ wT_25_0)) (S.2.2.2.2 _ (List.mem_cons_of_mem _ wT_15_17)) (S.2.2.2.2 _ (List.mem_cons_of_mem _ wT_25_1)) (Nat.le_of_ble_eq_true rfl) (Nat.le_of_ble_eq_true rfl) (Nat.zero_le _) (Nat.zero_le _) dX6_peakXAt_58 ?_
  refine lv_l2i (v := Int64.toInt32 (if (if (t1 + t0) < (Int32.toInt64 (v3 - 1)) then (t1 + t0) else (Int32.toInt64 (v3 - 1))) < (0 : Int64) then (0 : Int64) else (if (t1 + t0) < (Int32.toInt64 (v3 - 1)) then (t1 + t0) else (Int32.toInt64 (v3 - 1))))) S.1 S.2.1 dX6_peakXAt_61 rfl ?_
  exact o_iret S hr hlo I f dX6_peakXAt_62
set_option maxHeartbeats 4000000 in
set_option maxRecDepth 100000 in
theorem T6_peakXAt_0 (S : CallFix p m c cX6_peakXAt 6 s args vX6_peakXAt RX6) (hr : meth.sig.returnType = (some .int)) (hlo : meth.locks = false) {out : Int32 × PH} {h : PH} {a0 : Nat} {x1 : Int32} (f : F6_peakXAt_0  h a0 x1 = some out) {H : Heap} {locs : List Loc} (I : ph_I D cy b A fl h s H locs) {ls : Array Slot} (hl : lv_has ls 6 [(0, .ref (b + a0)), (1, .int x1)]) : W p l e ({ frames := 4, cells := 0, slots := 0, locals := 100 } : Room) s m args below meth c H locs 0 0 (MQ below (va_Qi (fun (r : Int32) (u : PH) => (r, u) = out) (ph_B D cy b A fl) A) args s 0 0 A) (F0 m 0 ls []) := by
  unfold F6_peakXAt_0 at f
  refine lv_aload_n S.1 S.2.1 dX6_peakXAt_0 rfl (lv_at hl 0 rfl) ?_
  refine lv_iload_n S.1 S.2.1 dX6_peakXAt_1 rfl (lv_at hl 1 rfl) ?_
  obtain ⟨o1, e2, f⟩ := ob f
  refine o_Vl S (As := [.int x1]) (rest := []) (ci := 6) (M6_driftValue l D cy b A fl e2) gX6_peakXAt_X6_driftValue rfl rfl rfl cd6_driftValue ⟨Nat.le_of_ble_eq_true rfl, Nat.le_of_ble_eq_true rfl⟩ I (gd e2).1 clX6 rfl rfl hl.1 rfl (Nat.le_of_ble_eq_true rfl) dX6_peakXAt_2 ⟨Nat.le_of_ble_eq_true rfl, Nat.le_of_ble_eq_true rfl⟩ (fun H locs I => ?_)
  refine lv_lstore_n (lv' := [(2, .long o1.1), (0, .ref (b + a0)), (1, .int x1)]) S.1 S.2.1 dX6_peakXAt_5 rfl hl (by decide) rfl (fun ls hl => ?_)
  refine lv_aload_n S.1 S.2.1 dX6_peakXAt_6 rfl (lv_at hl 1 rfl) ?_
  obtain ⟨r3, e4, f⟩ := ob f
  refine o_gR S lf6_peakXAt_9 I e4 dX6_peakXAt_7 ?_
  obtain ⟨v5, e6, f⟩ := ob f
  refine o_gI S lf6_peakXAt_74 I e6 dX6_peakXAt_10 ?_
  refine lv_i2l (v := Int32.toInt64 v5) S.1 S.2.1 dX6_peakXAt_13 rfl ?_
  refine lv_lload_n S.1 S.2.1 dX6_peakXAt_14 rfl (lv_at hl 0 rfl) ?_
  refine lv_ldc2 (v := (-9223372036854775808)) S.1 S.2.1 S.2.2.2.1 (S.2.2.2.2 _ (List.mem_cons_of_mem _ wT_24_17)) dX6_peakXAt_15 ?_
  refine W.lcmp S.1 S.2.1 dX6_peakXAt_18 ?_
  refine lv_if_ne (tgt := 26) S.1 S.2.1 dX6_peakXAt_19 (by decide) (fun q7 => ?_) (fun q7 => ?_)
  · have f := (if_neg q7).symm.trans f
    refine lv_ldc2 (v := (-8)) S.1 S.2.1 S.2.2.2.1 (S.2.2.2.2 _ (List.mem_cons_of_mem _ wT_24_18)) dX6_peakXAt_26 ?_
    refine lv_ldc2 (v := 8) S.1 S.2.1 S.2.2.2.1 (S.2.2.2.2 _ (List.mem_cons_of_mem _ wT_24_19)) dX6_peakXAt_29 ?_
    refine lv_lload_n S.1 S.2.1 dX6_peakXAt_32 rfl (lv_at hl 0 rfl) ?_
    refine va_mmin_long S.1 S.2.1 (by rw [S.2.2.1, hl.1]) S.2.2.2.1 (S.2.2.2.2 _ (List.mem_cons_of_mem _ wT_24_20)) (S.2.2.2.2 _ (List.mem_cons_of_mem _ wT_24_21)) (S.2.2.2.2 _ (List.mem_cons_of_mem _ wT_15_17)) (S.2.2.2.2 _ (List.mem_cons_of_mem _ wT_24_22)) (Nat.le_of_ble_eq_true rfl) (Nat.le_of_ble_eq_true rfl) (Nat.zero_le _) (Nat.zero_le _) dX6_peakXAt_33 ?_
    refine va_mmax_long S.1 S.2.1 (by rw [S.2.2.1, hl.1]) S.2.2.2.1 (S.2.2.2.2 _ (List.mem_cons_of_mem _ wT_24_23)) (S.2.2.2.2 _ (List.mem_cons_of_mem _ wT_25_0)) (S.2.2.2.2 _ (List.mem_cons_of_mem _ wT_15_17)) (S.2.2.2.2 _ (List.mem_cons_of_mem _ wT_25_1)) (Nat.le_of_ble_eq_true rfl) (Nat.le_of_ble_eq_true rfl) (Nat.zero_le _) (Nat.zero_le _) dX6_peakXAt_36 ?_
    exact T6_peakXAt_39 S hr hlo  f I (lv_sub hl [1] rfl)
  · have f := (if_pos q7).symm.trans f
    refine lv_lconst (v := 0) S.1 S.2.1 dX6_peakXAt_22 (by decide) ?_
    refine lv_goto (tgt := 39) S.1 S.2.1 dX6_peakXAt_23 (by decide) ?_
    exact T6_peakXAt_39 S hr hlo  f I (lv_sub hl [1] rfl)
theorem M6_peakXAt (l : Launch) (D : va_G) (cy : Nat → ClassId) (b : Nat) (A : Nat → Prop) (fl : Bool) {h : PH} {a0 : Nat} {x1 : Int32} {out : Int32 × PH} (f : F6_peakXAt h a0 x1 = some out) : Met l yX6_peakXAt vX6_peakXAt ({ frames := 4, cells := 0, slots := 0, locals := 100 } : Room) (va_Pc [.ref (b + a0), .int x1] (ph_B D cy b A fl h)) (va_Qi (fun (r : Int32) (u : PH) => (r, u) = out) (ph_B D cy b A fl) A) 0 0 A :=
  o_met (by decide) rfl (Nat.le_of_ble_eq_true rfl) rfl (fun p e s m below meth c S hr hlo hnm ls hl I => T6_peakXAt_0 S hr hlo ((gd f).2) I (lv_sub hl [0, 1] rfl))
def vX6_seatFrom : List Cond := .code yX6_seatFrom cX6_seatFrom 6 (some .int) :: TB
theorem lf6_seatFrom_9 : Fl vX6_seatFrom RX6 9 6 0 := ⟨RX6, TX6, 9, rfl, by decide, (fun w h9 => List.mem_cons_of_mem _ (wC_wsX60 w h9)), (List.mem_cons_of_mem _ wT_7_15)⟩
theorem lf6_seatFrom_57 : Fl vX6_seatFrom RX6 57 8 5 := ⟨RX8, TX8, 14, rfl, by decide, (fun w h9 => List.mem_cons_of_mem _ (wC_wsX80 w h9)), (List.mem_cons_of_mem _ wT_24_9)⟩
theorem lf6_seatFrom_61 : Fl vX6_seatFrom RX6 61 10 1 := ⟨RX10, TX10, 8, rfl, by decide, (fun w h9 => List.mem_cons_of_mem _ (wC_wsX100 w h9)), (List.mem_cons_of_mem _ wT_24_10)⟩
theorem gX6_seatFrom_X6_worthAt : GoodIn vX6_seatFrom (wsV RX6 145 RX6 yX6_worthAt vX6_worthAt) := gV_of wT_49_17 wT_49_18 wT_49_19 wT_2_2 wT_49_20
theorem cd6_seatFrom : Cd yX6_seatFrom 3 := ⟨by decide, by decide, by decide +kernel⟩
set_option maxHeartbeats 4000000 in
set_option maxRecDepth 100000 in
theorem T6_seatFrom_6 (S : CallFix p m c cX6_seatFrom 6 s args vX6_seatFrom RX6) (hr : meth.sig.returnType = (some .int)) (hlo : meth.locks = false) {out : Int32 × PH} : ∀ (n : Nat) {h : PH} {a0 : Nat} {x1 : Int32} {x2 : Int32} {x4 : Int32} {x5 : Int32} (f : F6_seatFrom_6  n h a0 x1 x2 x4 x5 = some out) {H : Heap} {locs : List Loc} (I : ph_I D cy b A fl h s H locs) {ls : Array Slot} (hl : lv_has ls 6 [(0, .ref (b + a0)), (1, .int x1), (2, .int x2), (4, .int x4), (5, .int x5)]), W p l e ({ frames := 5, cells := 0, slots := 0, locals := 126 } : Room) s m args below meth c H locs 0 0 (MQ below (va_Qi (fun (r : Int32) (u : PH) => (r, u) = out) (ph_B D cy b A fl) A) args s 0 0 A) (F0 m 6 ls []) := by
  intro n
  induction n with
  | zero => intro h a0 x1 x2 x4 x5 f; rw [F6_seatFrom_6] at f; cases f
  | succ n ih =>
    intro h a0 x1 x2 x4 x5 f H locs I ls hl
    rw [F6_seatFrom_6] at f
    refine lv_iload S.1 S.2.1 dX6_seatFrom_6 (lv_at hl 4 rfl) ?_
    refine lv_aload_n S.1 S.2.1 dX6_seatFrom_8 rfl (lv_at hl 0 rfl) ?_
    obtain ⟨r1, e2, f⟩ := ob f
    refine o_gR S lf6_seatFrom_9 I e2 dX6_seatFrom_9 ?_
    obtain ⟨r3, e4, f⟩ := ob f
    refine o_gR S lf6_seatFrom_57 I e4 dX6_seatFrom_12 ?_
    obtain ⟨v5, e6, f⟩ := ob f
    refine o_gI S lf6_seatFrom_61 I e6 dX6_seatFrom_15 ?_
    refine lv_icmp_ge (tgt := 40) S.1 S.2.1 dX6_seatFrom_18 (by decide) (fun q7 => ?_) (fun q7 => ?_)
    · have f := (if_pos q7).symm.trans f
      refine lv_iload S.1 S.2.1 dX6_seatFrom_40 (lv_at hl 3 rfl) ?_
      exact o_iret S hr hlo I f dX6_seatFrom_42
    · have f := (if_neg q7).symm.trans f
      refine lv_iload S.1 S.2.1 dX6_seatFrom_21 (lv_at hl 3 rfl) ?_
      refine lv_aload_n S.1 S.2.1 dX6_seatFrom_23 rfl (lv_at hl 0 rfl) ?_
      refine lv_iload_n S.1 S.2.1 dX6_seatFrom_24 rfl (lv_at hl 1 rfl) ?_
      refine lv_iload S.1 S.2.1 dX6_seatFrom_25 (lv_at hl 4 rfl) ?_
      refine lv_iload_n S.1 S.2.1 dX6_seatFrom_27 rfl (lv_at hl 2 rfl) ?_
      obtain ⟨o8, e9, f⟩ := ob f
      refine o_Vi S (As := [.int x1, .int x5, .int x2]) (rest := [.int x4]) (ci := 6) (M6_worthAt l D cy b A fl e9) gX6_seatFrom_X6_worthAt rfl rfl rfl cd6_worthAt ⟨Nat.le_of_ble_eq_true rfl, Nat.le_of_ble_eq_true rfl⟩ I (gd e9).1 clX6 rfl rfl hl.1 rfl (Nat.le_of_ble_eq_true rfl) dX6_seatFrom_28 ⟨Nat.le_of_ble_eq_true rfl, Nat.le_of_ble_eq_true rfl⟩ (fun H locs I => ?_)
      refine lv_iadd S.1 S.2.1 dX6_seatFrom_31 ?_
      refine lv_istore (lv' := [(4, .int (x4 + o8.1)), (0, .ref (b + a0)), (1, .int x1), (2, .int x2), (5, .int x5)]) S.1 S.2.1 dX6_seatFrom_32 hl (by decide) rfl (fun ls hl => ?_)
      refine lv_iinc (v := (x5 + 1)) (lv' := [(5, .int (x5 + 1)), (4, .int (x4 + o8.1)), (0, .ref (b + a0)), (1, .int x1), (2, .int x2)]) S.1 S.2.1 dX6_seatFrom_34 hl (k := 4) rfl (congrArg (fun z => x5 + z) (by decide)) (by decide) rfl (fun ls hl => ?_)
      refine lv_goto (tgt := 6) S.1 S.2.1 dX6_seatFrom_37 (by decide) ?_
      exact ih f I (lv_sub hl [2, 3, 4, 1, 0] rfl)
set_option maxHeartbeats 4000000 in
set_option maxRecDepth 100000 in
theorem T6_seatFrom_0 (S : CallFix p m c cX6_seatFrom 6 s args vX6_seatFrom RX6) (hr : meth.sig.returnType = (some .int)) (hlo : meth.locks = false) {out : Int32 × PH} {h : PH} {a0 : Nat} {x1 : Int32} {x2 : Int32} {x3 : Int32} (f : F6_seatFrom_0  h a0 x1 x2 x3 = some out) {H : Heap} {locs : List Loc} (I : ph_I D cy b A fl h s H locs) {ls : Array Slot} (hl : lv_has ls 6 [(0, .ref (b + a0)), (1, .int x1), (2, .int x2), (3, .int x3)]) : W p l e ({ frames := 5, cells := 0, slots := 0, locals := 126 } : Room) s m args below meth c H locs 0 0 (MQ below (va_Qi (fun (r : Int32) (u : PH) => (r, u) = out) (ph_B D cy b A fl) A) args s 0 0 A) (F0 m 0 ls []) := by
  unfold F6_seatFrom_0 at f
  refine lv_iconst (v := 0) S.1 S.2.1 dX6_seatFrom_0 (by decide) ?_
  refine lv_istore (lv' := [(4, .int 0), (0, .ref (b + a0)), (1, .int x1), (2, .int x2), (3, .int x3)]) S.1 S.2.1 dX6_seatFrom_1 hl (by decide) rfl (fun ls hl => ?_)
  refine lv_iload_n S.1 S.2.1 dX6_seatFrom_3 rfl (lv_at hl 4 rfl) ?_
  refine lv_istore (lv' := [(5, .int x3), (4, .int 0), (0, .ref (b + a0)), (1, .int x1), (2, .int x2), (3, .int x3)]) S.1 S.2.1 dX6_seatFrom_4 hl (by decide) rfl (fun ls hl => ?_)
  exact T6_seatFrom_6 S hr hlo  1024 f I (lv_sub hl [2, 3, 4, 1, 0] rfl)
theorem M6_seatFrom (l : Launch) (D : va_G) (cy : Nat → ClassId) (b : Nat) (A : Nat → Prop) (fl : Bool) {h : PH} {a0 : Nat} {x1 : Int32} {x2 : Int32} {x3 : Int32} {out : Int32 × PH} (f : F6_seatFrom h a0 x1 x2 x3 = some out) : Met l yX6_seatFrom vX6_seatFrom ({ frames := 5, cells := 0, slots := 0, locals := 126 } : Room) (va_Pc [.ref (b + a0), .int x1, .int x2, .int x3] (ph_B D cy b A fl h)) (va_Qi (fun (r : Int32) (u : PH) => (r, u) = out) (ph_B D cy b A fl) A) 0 0 A :=
  o_met (by decide) rfl (Nat.le_of_ble_eq_true rfl) rfl (fun p e s m below meth c S hr hlo hnm ls hl I => T6_seatFrom_0 S hr hlo ((gd f).2) I (lv_sub hl [0, 1, 2, 3] rfl))
def vX6_takeAsTold : List Cond := .code yX6_takeAsTold cX6_takeAsTold 3 none :: TB
theorem lf6_takeAsTold_9 : Fl vX6_takeAsTold RX6 9 6 0 := ⟨RX6, TX6, 9, rfl, by decide, (fun w h9 => List.mem_cons_of_mem _ (wC_wsX60 w h9)), (List.mem_cons_of_mem _ wT_7_15)⟩
theorem lf6_takeAsTold_57 : Fl vX6_takeAsTold RX6 57 8 5 := ⟨RX8, TX8, 14, rfl, by decide, (fun w h9 => List.mem_cons_of_mem _ (wC_wsX80 w h9)), (List.mem_cons_of_mem _ wT_24_9)⟩
theorem lf6_takeAsTold_61 : Fl vX6_takeAsTold RX6 61 10 1 := ⟨RX10, TX10, 8, rfl, by decide, (fun w h9 => List.mem_cons_of_mem _ (wC_wsX100 w h9)), (List.mem_cons_of_mem _ wT_24_10)⟩
theorem lf6_takeAsTold_22 : Fl vX6_takeAsTold RX6 22 6 3 := ⟨RX6, TX6, 9, rfl, by decide, (fun w h9 => List.mem_cons_of_mem _ (wC_wsX60 w h9)), (List.mem_cons_of_mem _ wT_7_18)⟩
theorem lf6_takeAsTold_67 : Fl vX6_takeAsTold RX6 67 10 4 := ⟨RX10, TX10, 8, rfl, by decide, (fun w h9 => List.mem_cons_of_mem _ (wC_wsX100 w h9)), (List.mem_cons_of_mem _ wT_24_11)⟩
theorem gX6_takeAsTold_X6_peakXAt : GoodIn vX6_takeAsTold (wsV RX6 70 RX6 yX6_peakXAt vX6_peakXAt) := gV_of wT_24_12 wT_24_13 wT_24_14 wT_2_2 wT_24_15
theorem lp6_takeAsTold_9 : Pl vX6_takeAsTold RX6 9 6 0 (.object "WhoseWave$Told") := ⟨RX6, TX6, 9, tyX6, rfl, by decide, (fun w h9 => List.mem_cons_of_mem _ (wC_wsX60 w h9)), (List.mem_cons_of_mem _ wT_7_15), tyX6_ok, nmX6, rfl, rfl⟩
theorem lf6_takeAsTold_41 : Fl vX6_takeAsTold RX6 41 8 4 := ⟨RX8, TX8, 14, rfl, by decide, (fun w h9 => List.mem_cons_of_mem _ (wC_wsX80 w h9)), (List.mem_cons_of_mem _ wT_24_2)⟩
theorem lf6_takeAsTold_47 : Fl vX6_takeAsTold RX6 47 1 3 := ⟨RX1, TX1, 7, rfl, by decide, (fun w h9 => List.mem_cons_of_mem _ (wC_wsX10 w h9)), (List.mem_cons_of_mem _ wT_24_3)⟩
theorem lf6_takeAsTold_15 : Fl vX6_takeAsTold RX6 15 6 1 := ⟨RX6, TX6, 9, rfl, by decide, (fun w h9 => List.mem_cons_of_mem _ (wC_wsX60 w h9)), (List.mem_cons_of_mem _ wT_7_16)⟩
theorem la6_takeAsTold_50 : Al vX6_takeAsTold RX6 50 := ⟨(List.mem_cons_of_mem _ wT_24_4), (List.mem_cons_of_mem _ wT_24_5), (List.mem_cons_of_mem _ wT_24_6), (List.mem_cons_of_mem _ wT_24_7)⟩
theorem lf6_takeAsTold_56 : Fl vX6_takeAsTold RX6 56 1 5 := ⟨RX1, TX1, 7, rfl, by decide, (fun w h9 => List.mem_cons_of_mem _ (wC_wsX10 w h9)), (List.mem_cons_of_mem _ wT_24_8)⟩
theorem lf6_takeAsTold_19 : Fl vX6_takeAsTold RX6 19 6 2 := ⟨RX6, TX6, 9, rfl, by decide, (fun w h9 => List.mem_cons_of_mem _ (wC_wsX60 w h9)), (List.mem_cons_of_mem _ wT_7_17)⟩
theorem cd6_takeAsTold : Cd yX6_takeAsTold 1 := ⟨by decide, by decide, by decide +kernel⟩
set_option maxHeartbeats 4000000 in
set_option maxRecDepth 100000 in
theorem T6_takeAsTold_47 (S : CallFix p m c cX6_takeAsTold 3 s args vX6_takeAsTold RX6) (hr : meth.sig.returnType = none) (hlo : meth.locks = false) {out : PH} : ∀ (n : Nat) {h : PH} {a0 : Nat} {x2 : Int32} (f : F6_takeAsTold_47  n h a0 x2 = some out) {H : Heap} {locs : List Loc} (I : ph_I D cy b A false h s H locs) {ls : Array Slot} (hl : lv_has ls 3 [(0, .ref (b + a0)), (2, .int x2)]), W p l e ({ frames := 5, cells := 0, slots := 0, locals := 125 } : Room) s m args below meth c H locs 0 0 (MQ below (va_Qv (fun (u : PH) => u = out) (ph_B D cy b A false) A) args s 0 0 A) (F0 m 47 ls []) := by
  intro n
  induction n with
  | zero => intro h a0 x2 f; rw [F6_takeAsTold_47] at f; cases f
  | succ n ih =>
    intro h a0 x2 f H locs I ls hl
    rw [F6_takeAsTold_47] at f
    refine lv_iload_n S.1 S.2.1 dX6_takeAsTold_47 rfl (lv_at hl 1 rfl) ?_
    refine lv_aload_n S.1 S.2.1 dX6_takeAsTold_48 rfl (lv_at hl 0 rfl) ?_
    obtain ⟨r1, e2, f⟩ := ob f
    refine o_gR S lf6_takeAsTold_9 I e2 dX6_takeAsTold_49 ?_
    obtain ⟨r3, e4, f⟩ := ob f
    refine o_gR S lf6_takeAsTold_57 I e4 dX6_takeAsTold_52 ?_
    obtain ⟨v5, e6, f⟩ := ob f
    refine o_gI S lf6_takeAsTold_61 I e6 dX6_takeAsTold_55 ?_
    refine lv_icmp_ge (tgt := 89) S.1 S.2.1 dX6_takeAsTold_58 (by decide) (fun q7 => ?_) (fun q7 => ?_)
    · have f := (if_pos q7).symm.trans f
      exact o_vret S hr hlo I f dX6_takeAsTold_89
    · have f := (if_neg q7).symm.trans f
      refine lv_aload_n S.1 S.2.1 dX6_takeAsTold_61 rfl (lv_at hl 0 rfl) ?_
      obtain ⟨r8, e9, f⟩ := ob f
      refine o_gR S lf6_takeAsTold_22 I e9 dX6_takeAsTold_62 ?_
      refine lv_iload_n S.1 S.2.1 dX6_takeAsTold_65 rfl (lv_at hl 1 rfl) ?_
      refine lv_aload_n S.1 S.2.1 dX6_takeAsTold_66 rfl (lv_at hl 0 rfl) ?_
      refine lv_aload_n S.1 S.2.1 dX6_takeAsTold_67 rfl (lv_at hl 0 rfl) ?_
      obtain ⟨r10, e11, f⟩ := ob f
      refine o_gR S lf6_takeAsTold_9 I e11 dX6_takeAsTold_68 ?_
      obtain ⟨r12, e13, f⟩ := ob f
      refine o_gR S lf6_takeAsTold_57 I e13 dX6_takeAsTold_71 ?_
      obtain ⟨r14, e15, f⟩ := ob f
      refine o_gR S lf6_takeAsTold_67 I e15 dX6_takeAsTold_74 ?_
      refine lv_iload_n S.1 S.2.1 dX6_takeAsTold_77 rfl (lv_at hl 1 rfl) ?_
      obtain ⟨v17, e16, f⟩ := ob f
      refine o_iald S I e16 dX6_takeAsTold_78 ?_
      obtain ⟨o18, e19, f⟩ := ob f
      refine o_Vi S (As := [.int v17]) (rest := [.int x2, .ref (b + r8)]) (ci := 6) (M6_peakXAt l D cy b A false e19) gX6_takeAsTold_X6_peakXAt rfl rfl rfl cd6_peakXAt ⟨Nat.le_of_ble_eq_true rfl, Nat.le_of_ble_eq_true rfl⟩ I (gd e19).1 clX6 rfl rfl hl.1 rfl (Nat.le_of_ble_eq_true rfl) dX6_takeAsTold_79 ⟨Nat.le_of_ble_eq_true rfl, Nat.le_of_ble_eq_true rfl⟩ (fun H locs I => ?_)
      obtain ⟨h21, e20, f⟩ := ob f
      refine o_iast S I e20 dX6_takeAsTold_82 (fun H locs I => ?_)
      refine lv_iinc (v := (x2 + 1)) (lv' := [(2, .int (x2 + 1)), (0, .ref (b + a0))]) S.1 S.2.1 dX6_takeAsTold_83 hl (k := 1) rfl (congrArg (fun z => x2 + z) (by decide)) (by decide) rfl (fun ls hl => ?_)
      refine lv_goto (tgt := 47) S.1 S.2.1 dX6_takeAsTold_86 (by decide) ?_
      exact ih f I (lv_sub hl [1, 0] rfl)
set_option maxHeartbeats 4000000 in
set_option maxRecDepth 100000 in
theorem T6_takeAsTold_0 (S : CallFix p m c cX6_takeAsTold 3 s args vX6_takeAsTold RX6) (hr : meth.sig.returnType = none) (hlo : meth.locks = false) {out : PH} {h : PH} {a0 : Nat} {a1 : Nat} (f : F6_takeAsTold_0  h a0 a1 = some out) {H : Heap} {locs : List Loc} (I : ph_I D cy b A false h s H locs) {ls : Array Slot} (hl : lv_has ls 3 [(0, .ref (b + a0)), (1, .ref (b + a1))]) : W p l e ({ frames := 5, cells := 0, slots := 0, locals := 125 } : Room) s m args below meth c H locs 0 0 (MQ below (va_Qv (fun (u : PH) => u = out) (ph_B D cy b A false) A) args s 0 0 A) (F0 m 0 ls []) := by
  unfold F6_takeAsTold_0 at f
  refine lv_aload_n S.1 S.2.1 dX6_takeAsTold_0 rfl (lv_at hl 0 rfl) ?_
  refine lv_aload_n S.1 S.2.1 dX6_takeAsTold_1 rfl (lv_at hl 1 rfl) ?_
  obtain ⟨h1, e2, f⟩ := ob f
  refine o_pR S lp6_takeAsTold_9 (Or.inl ⟨_, rfl⟩) I e2 dX6_takeAsTold_2 (fun H locs I => ?_)
  refine lv_aload_n S.1 S.2.1 dX6_takeAsTold_5 rfl (lv_at hl 0 rfl) ?_
  obtain ⟨r3, e4, f⟩ := ob f
  refine o_gR S lf6_takeAsTold_9 I e4 dX6_takeAsTold_6 ?_
  obtain ⟨r5, e6, f⟩ := ob f
  refine o_gR S lf6_takeAsTold_41 I e6 dX6_takeAsTold_9 ?_
  obtain ⟨r7, e8, f⟩ := ob f
  refine o_gR S lf6_takeAsTold_47 I e8 dX6_takeAsTold_12 ?_
  refine lv_iconst (v := 0) S.1 S.2.1 dX6_takeAsTold_15 (by decide) ?_
  refine lv_aload_n S.1 S.2.1 dX6_takeAsTold_16 rfl (lv_at hl 0 rfl) ?_
  obtain ⟨r9, e10, f⟩ := ob f
  refine o_gR S lf6_takeAsTold_15 I e10 dX6_takeAsTold_17 ?_
  refine lv_iconst (v := 0) S.1 S.2.1 dX6_takeAsTold_20 (by decide) ?_
  refine lv_iconst (v := 5) S.1 S.2.1 dX6_takeAsTold_21 (by decide) ?_
  obtain ⟨h11, e12, f⟩ := ob f
  refine o_copy S la6_takeAsTold_50 hl.1 I e12 (Nat.le_of_ble_eq_true rfl) (Nat.le_of_ble_eq_true rfl) dX6_takeAsTold_22 (fun H locs I => ?_)
  refine lv_aload_n S.1 S.2.1 dX6_takeAsTold_25 rfl (lv_at hl 0 rfl) ?_
  obtain ⟨r13, e14, f⟩ := ob f
  refine o_gR S lf6_takeAsTold_9 I e14 dX6_takeAsTold_26 ?_
  obtain ⟨r15, e16, f⟩ := ob f
  refine o_gR S lf6_takeAsTold_41 I e16 dX6_takeAsTold_29 ?_
  obtain ⟨r17, e18, f⟩ := ob f
  refine o_gR S lf6_takeAsTold_56 I e18 dX6_takeAsTold_32 ?_
  refine lv_iconst (v := 0) S.1 S.2.1 dX6_takeAsTold_35 (by decide) ?_
  refine lv_aload_n S.1 S.2.1 dX6_takeAsTold_36 rfl (lv_at hl 0 rfl) ?_
  obtain ⟨r19, e20, f⟩ := ob f
  refine o_gR S lf6_takeAsTold_19 I e20 dX6_takeAsTold_37 ?_
  refine lv_iconst (v := 0) S.1 S.2.1 dX6_takeAsTold_40 (by decide) ?_
  refine lv_iconst (v := 5) S.1 S.2.1 dX6_takeAsTold_41 (by decide) ?_
  obtain ⟨h21, e22, f⟩ := ob f
  refine o_copy S la6_takeAsTold_50 hl.1 I e22 (Nat.le_of_ble_eq_true rfl) (Nat.le_of_ble_eq_true rfl) dX6_takeAsTold_42 (fun H locs I => ?_)
  refine lv_iconst (v := 0) S.1 S.2.1 dX6_takeAsTold_45 (by decide) ?_
  refine lv_istore_n (lv' := [(2, .int 0), (0, .ref (b + a0)), (1, .ref (b + a1))]) S.1 S.2.1 dX6_takeAsTold_46 rfl hl (by decide) rfl (fun ls hl => ?_)
  exact T6_takeAsTold_47 S hr hlo  1024 f I (lv_sub hl [1, 0] rfl)
theorem M6_takeAsTold (l : Launch) (D : va_G) (cy : Nat → ClassId) (b : Nat) (A : Nat → Prop) {h : PH} {a0 : Nat} {a1 : Nat} {out : PH} (f : F6_takeAsTold h a0 a1 = some out) : Met l yX6_takeAsTold vX6_takeAsTold ({ frames := 5, cells := 0, slots := 0, locals := 125 } : Room) (va_Pc [.ref (b + a0), .ref (b + a1)] (ph_B D cy b A false h)) (va_Qv (fun (u : PH) => u = out) (ph_B D cy b A false) A) 0 0 A :=
  o_met (by decide) rfl (Nat.le_of_ble_eq_true rfl) rfl (fun p e s m below meth c S hr hlo hnm ls hl I => T6_takeAsTold_0 S hr hlo ((gd f).2) I (lv_sub hl [0, 1] rfl))
def vX6_takeOver : List Cond := .code yX6_takeOver cX6_takeOver 2 none :: TB
theorem lf6_takeOver_9 : Fl vX6_takeOver RX6 9 6 0 := ⟨RX6, TX6, 9, rfl, by decide, (fun w h9 => List.mem_cons_of_mem _ (wC_wsX60 w h9)), (List.mem_cons_of_mem _ wT_7_15)⟩
theorem lp6_takeOver_9 : Pl vX6_takeOver RX6 9 6 0 (.object "WhoseWave$Told") := ⟨RX6, TX6, 9, tyX6, rfl, by decide, (fun w h9 => List.mem_cons_of_mem _ (wC_wsX60 w h9)), (List.mem_cons_of_mem _ wT_7_15), tyX6_ok, nmX6, rfl, rfl⟩
theorem lf6_takeOver_15 : Fl vX6_takeOver RX6 15 6 1 := ⟨RX6, TX6, 9, rfl, by decide, (fun w h9 => List.mem_cons_of_mem _ (wC_wsX60 w h9)), (List.mem_cons_of_mem _ wT_7_16)⟩
theorem la6_takeOver_50 : Al vX6_takeOver RX6 50 := ⟨(List.mem_cons_of_mem _ wT_24_4), (List.mem_cons_of_mem _ wT_24_5), (List.mem_cons_of_mem _ wT_24_6), (List.mem_cons_of_mem _ wT_24_7)⟩
theorem lf6_takeOver_19 : Fl vX6_takeOver RX6 19 6 2 := ⟨RX6, TX6, 9, rfl, by decide, (fun w h9 => List.mem_cons_of_mem _ (wC_wsX60 w h9)), (List.mem_cons_of_mem _ wT_7_17)⟩
theorem lf6_takeOver_22 : Fl vX6_takeOver RX6 22 6 3 := ⟨RX6, TX6, 9, rfl, by decide, (fun w h9 => List.mem_cons_of_mem _ (wC_wsX60 w h9)), (List.mem_cons_of_mem _ wT_7_18)⟩
theorem cd6_takeOver : Cd yX6_takeOver 1 := ⟨by decide, by decide, by decide +kernel⟩
set_option maxHeartbeats 4000000 in
set_option maxRecDepth 100000 in
theorem T6_takeOver_0 (S : CallFix p m c cX6_takeOver 2 s args vX6_takeOver RX6) (hr : meth.sig.returnType = none) (hlo : meth.locks = false) {out : PH} {h : PH} {a0 : Nat} {a1 : Nat} (f : F6_takeOver_0  h a0 a1 = some out) {H : Heap} {locs : List Loc} (I : ph_I D cy b A false h s H locs) {ls : Array Slot} (hl : lv_has ls 2 [(0, .ref (b + a0)), (1, .ref (b + a1))]) : W p l e ({ frames := 1, cells := 0, slots := 0, locals := 40 } : Room) s m args below meth c H locs 0 0 (MQ below (va_Qv (fun (u : PH) => u = out) (ph_B D cy b A false) A) args s 0 0 A) (F0 m 0 ls []) := by
  unfold F6_takeOver_0 at f
  refine lv_aload_n S.1 S.2.1 dX6_takeOver_0 rfl (lv_at hl 0 rfl) ?_
  refine lv_aload_n S.1 S.2.1 dX6_takeOver_1 rfl (lv_at hl 1 rfl) ?_
  obtain ⟨r1, e2, f⟩ := ob f
  refine o_gR S lf6_takeOver_9 I e2 dX6_takeOver_2 ?_
  obtain ⟨h3, e4, f⟩ := ob f
  refine o_pR S lp6_takeOver_9 (Or.inl ⟨_, rfl⟩) I e4 dX6_takeOver_5 (fun H locs I => ?_)
  refine lv_aload_n S.1 S.2.1 dX6_takeOver_8 rfl (lv_at hl 1 rfl) ?_
  obtain ⟨r5, e6, f⟩ := ob f
  refine o_gR S lf6_takeOver_15 I e6 dX6_takeOver_9 ?_
  refine lv_iconst (v := 0) S.1 S.2.1 dX6_takeOver_12 (by decide) ?_
  refine lv_aload_n S.1 S.2.1 dX6_takeOver_13 rfl (lv_at hl 0 rfl) ?_
  obtain ⟨r7, e8, f⟩ := ob f
  refine o_gR S lf6_takeOver_15 I e8 dX6_takeOver_14 ?_
  refine lv_iconst (v := 0) S.1 S.2.1 dX6_takeOver_17 (by decide) ?_
  refine lv_iconst (v := 5) S.1 S.2.1 dX6_takeOver_18 (by decide) ?_
  obtain ⟨h9, e10, f⟩ := ob f
  refine o_copy S la6_takeOver_50 hl.1 I e10 (Nat.le_of_ble_eq_true rfl) (Nat.le_of_ble_eq_true rfl) dX6_takeOver_19 (fun H locs I => ?_)
  refine lv_aload_n S.1 S.2.1 dX6_takeOver_22 rfl (lv_at hl 1 rfl) ?_
  obtain ⟨r11, e12, f⟩ := ob f
  refine o_gR S lf6_takeOver_19 I e12 dX6_takeOver_23 ?_
  refine lv_iconst (v := 0) S.1 S.2.1 dX6_takeOver_26 (by decide) ?_
  refine lv_aload_n S.1 S.2.1 dX6_takeOver_27 rfl (lv_at hl 0 rfl) ?_
  obtain ⟨r13, e14, f⟩ := ob f
  refine o_gR S lf6_takeOver_19 I e14 dX6_takeOver_28 ?_
  refine lv_iconst (v := 0) S.1 S.2.1 dX6_takeOver_31 (by decide) ?_
  refine lv_iconst (v := 5) S.1 S.2.1 dX6_takeOver_32 (by decide) ?_
  obtain ⟨h15, e16, f⟩ := ob f
  refine o_copy S la6_takeOver_50 hl.1 I e16 (Nat.le_of_ble_eq_true rfl) (Nat.le_of_ble_eq_true rfl) dX6_takeOver_33 (fun H locs I => ?_)
  refine lv_aload_n S.1 S.2.1 dX6_takeOver_36 rfl (lv_at hl 1 rfl) ?_
  obtain ⟨r17, e18, f⟩ := ob f
  refine o_gR S lf6_takeOver_22 I e18 dX6_takeOver_37 ?_
  refine lv_iconst (v := 0) S.1 S.2.1 dX6_takeOver_40 (by decide) ?_
  refine lv_aload_n S.1 S.2.1 dX6_takeOver_41 rfl (lv_at hl 0 rfl) ?_
  obtain ⟨r19, e20, f⟩ := ob f
  refine o_gR S lf6_takeOver_22 I e20 dX6_takeOver_42 ?_
  refine lv_iconst (v := 0) S.1 S.2.1 dX6_takeOver_45 (by decide) ?_
  refine lv_bipush (v := 28) S.1 S.2.1 dX6_takeOver_46 (by decide) ?_
  obtain ⟨h21, e22, f⟩ := ob f
  refine o_copy S la6_takeOver_50 hl.1 I e22 (Nat.le_of_ble_eq_true rfl) (Nat.le_of_ble_eq_true rfl) dX6_takeOver_48 (fun H locs I => ?_)
  exact o_vret S hr hlo I f dX6_takeOver_51
theorem M6_takeOver (l : Launch) (D : va_G) (cy : Nat → ClassId) (b : Nat) (A : Nat → Prop) {h : PH} {a0 : Nat} {a1 : Nat} {out : PH} (f : F6_takeOver h a0 a1 = some out) : Met l yX6_takeOver vX6_takeOver ({ frames := 1, cells := 0, slots := 0, locals := 40 } : Room) (va_Pc [.ref (b + a0), .ref (b + a1)] (ph_B D cy b A false h)) (va_Qv (fun (u : PH) => u = out) (ph_B D cy b A false) A) 0 0 A :=
  o_met (by decide) rfl (Nat.le_of_ble_eq_true rfl) rfl (fun p e s m below meth c S hr hlo hnm ls hl I => T6_takeOver_0 S hr hlo ((gd f).2) I (lv_sub hl [0, 1] rfl))
def vX8_bankWaves : List Cond := .code yX8_bankWaves cX8_bankWaves 4 (some .int) :: TB
theorem lf8_bankWaves_51 : Fl vX8_bankWaves RX8 51 8 6 := ⟨RX8, TX8, 14, rfl, by decide, (fun w h9 => List.mem_cons_of_mem _ (wC_wsX80 w h9)), (List.mem_cons_of_mem _ wT_14_16)⟩
theorem lf8_bankWaves_54 : Fl vX8_bankWaves RX8 54 8 7 := ⟨RX8, TX8, 14, rfl, by decide, (fun w h9 => List.mem_cons_of_mem _ (wC_wsX80 w h9)), (List.mem_cons_of_mem _ wT_14_17)⟩
theorem cd8_bankWaves : Cd yX8_bankWaves 2 := ⟨by decide, by decide, by decide +kernel⟩
set_option maxHeartbeats 4000000 in
set_option maxRecDepth 100000 in
theorem T8_bankWaves_0 (S : CallFix p m c cX8_bankWaves 4 s args vX8_bankWaves RX8) (hr : meth.sig.returnType = (some .int)) (hlo : meth.locks = false) {out : Int32 × PH} {h : PH} {a0 : Nat} {x1 : Int32} {x2 : Int32} (f : F8_bankWaves_0  h a0 x1 x2 = some out) {H : Heap} {locs : List Loc} (I : ph_I D cy b A fl h s H locs) {ls : Array Slot} (hl : lv_has ls 4 [(0, .ref (b + a0)), (1, .int x1), (2, .int x2)]) : W p l e ({ frames := 0, cells := 0, slots := 0, locals := 0 } : Room) s m args below meth c H locs 0 0 (MQ below (va_Qi (fun (r : Int32) (u : PH) => (r, u) = out) (ph_B D cy b A fl) A) args s 0 0 A) (F0 m 0 ls []) := by
  unfold F8_bankWaves_0 at f
  refine lv_iload_n S.1 S.2.1 dX8_bankWaves_0 rfl (lv_at hl 2 rfl) ?_
  refine lv_iload_n S.1 S.2.1 dX8_bankWaves_1 rfl (lv_at hl 1 rfl) ?_
  refine lv_isub S.1 S.2.1 dX8_bankWaves_2 ?_
  refine lv_aload_n S.1 S.2.1 dX8_bankWaves_3 rfl (lv_at hl 0 rfl) ?_
  obtain ⟨v1, e2, f⟩ := ob f
  refine o_gI S lf8_bankWaves_51 I e2 dX8_bankWaves_4 ?_
  refine lv_isub S.1 S.2.1 dX8_bankWaves_7 ?_
  refine lv_istore_n (lv' := [(3, .int ((x2 - x1) - v1)), (0, .ref (b + a0)), (1, .int x1), (2, .int x2)]) S.1 S.2.1 dX8_bankWaves_8 rfl hl (by decide) rfl (fun ls hl => ?_)
  refine lv_iload_n S.1 S.2.1 dX8_bankWaves_9 rfl (lv_at hl 0 rfl) ?_
  refine lv_if_lt (tgt := 21) S.1 S.2.1 dX8_bankWaves_10 (by decide) (fun q3 => ?_) (fun q3 => ?_)
  · have f := (if_pos q3).symm.trans f
    refine lv_iconst (v := 0) S.1 S.2.1 dX8_bankWaves_21 (by decide) ?_
    refine lv_goto (tgt := 33) S.1 S.2.1 dX8_bankWaves_22 (by decide) ?_
    exact o_iret S hr hlo I f dX8_bankWaves_33
  · have f := (if_neg q3).symm.trans f
    refine lv_aload_n S.1 S.2.1 dX8_bankWaves_13 rfl (lv_at hl 1 rfl) ?_
    obtain ⟨v4, e5, f⟩ := ob f
    refine o_gI S lf8_bankWaves_54 I e5 dX8_bankWaves_14 ?_
    refine lv_iconst (v := 1) S.1 S.2.1 dX8_bankWaves_17 (by decide) ?_
    refine lv_icmp_ge (tgt := 25) S.1 S.2.1 dX8_bankWaves_18 (by decide) (fun q6 => ?_) (fun q6 => ?_)
    · have f := (if_pos q6).symm.trans f
      refine lv_iload_n S.1 S.2.1 dX8_bankWaves_25 rfl (lv_at hl 0 rfl) ?_
      refine lv_aload_n S.1 S.2.1 dX8_bankWaves_26 rfl (lv_at hl 1 rfl) ?_
      obtain ⟨v7, e8, f⟩ := ob f
      refine o_gI S lf8_bankWaves_54 I e8 dX8_bankWaves_27 ?_
      have q9 : ¬ v7 = 0 := fun q => by rw [if_pos q] at f; cases f
      have f := (if_neg q9).symm.trans f
      refine lv_idiv S.1 S.2.1 dX8_bankWaves_30 q9 ?_
      refine lv_iconst (v := 1) S.1 S.2.1 dX8_bankWaves_31 (by decide) ?_
      refine lv_iadd S.1 S.2.1 dX8_bankWaves_32 ?_
      exact o_iret S hr hlo I f dX8_bankWaves_33
    · have f := (if_neg q6).symm.trans f
      refine lv_iconst (v := 0) S.1 S.2.1 dX8_bankWaves_21 (by decide) ?_
      refine lv_goto (tgt := 33) S.1 S.2.1 dX8_bankWaves_22 (by decide) ?_
      exact o_iret S hr hlo I f dX8_bankWaves_33
theorem M8_bankWaves (l : Launch) (D : va_G) (cy : Nat → ClassId) (b : Nat) (A : Nat → Prop) (fl : Bool) {h : PH} {a0 : Nat} {x1 : Int32} {x2 : Int32} {out : Int32 × PH} (f : F8_bankWaves h a0 x1 x2 = some out) : Met l yX8_bankWaves vX8_bankWaves ({ frames := 0, cells := 0, slots := 0, locals := 0 } : Room) (va_Pc [.ref (b + a0), .int x1, .int x2] (ph_B D cy b A fl h)) (va_Qi (fun (r : Int32) (u : PH) => (r, u) = out) (ph_B D cy b A fl) A) 0 0 A :=
  o_met (by decide) rfl (Nat.le_of_ble_eq_true rfl) rfl (fun p e s m below meth c S hr hlo hnm ls hl I => T8_bankWaves_0 S hr hlo ((gd f).2) I (lv_sub hl [0, 1, 2] rfl))
def vX8_cells : List Cond := .code yX8_cells cX8_cells 1 (some .int) :: TB
theorem lf8_cells_32 : Fl vX8_cells RX8 32 8 0 := ⟨RX8, TX8, 14, rfl, by decide, (fun w h9 => List.mem_cons_of_mem _ (wC_wsX80 w h9)), (List.mem_cons_of_mem _ wT_3_15)⟩
theorem lf8_cells_36 : Fl vX8_cells RX8 36 8 1 := ⟨RX8, TX8, 14, rfl, by decide, (fun w h9 => List.mem_cons_of_mem _ (wC_wsX80 w h9)), (List.mem_cons_of_mem _ wT_3_16)⟩
theorem cd8_cells : Cd yX8_cells 0 := ⟨by decide, by decide, by decide +kernel⟩
set_option maxHeartbeats 4000000 in
set_option maxRecDepth 100000 in
theorem T8_cells_0 (S : CallFix p m c cX8_cells 1 s args vX8_cells RX8) (hr : meth.sig.returnType = (some .int)) (hlo : meth.locks = false) {out : Int32 × PH} {h : PH} {a0 : Nat} (f : F8_cells_0  h a0 = some out) {H : Heap} {locs : List Loc} (I : ph_I D cy b A fl h s H locs) {ls : Array Slot} (hl : lv_has ls 1 [(0, .ref (b + a0))]) : W p l e ({ frames := 0, cells := 0, slots := 0, locals := 0 } : Room) s m args below meth c H locs 0 0 (MQ below (va_Qi (fun (r : Int32) (u : PH) => (r, u) = out) (ph_B D cy b A fl) A) args s 0 0 A) (F0 m 0 ls []) := by
  unfold F8_cells_0 at f
  refine lv_aload_n S.1 S.2.1 dX8_cells_0 rfl (lv_at hl 0 rfl) ?_
  obtain ⟨v1, e2, f⟩ := ob f
  refine o_gI S lf8_cells_32 I e2 dX8_cells_1 ?_
  refine lv_aload_n S.1 S.2.1 dX8_cells_4 rfl (lv_at hl 0 rfl) ?_
  obtain ⟨v3, e4, f⟩ := ob f
  refine o_gI S lf8_cells_36 I e4 dX8_cells_5 ?_
  refine lv_imul S.1 S.2.1 dX8_cells_8 ?_
  exact o_iret S hr hlo I f dX8_cells_9
theorem M8_cells (l : Launch) (D : va_G) (cy : Nat → ClassId) (b : Nat) (A : Nat → Prop) (fl : Bool) {h : PH} {a0 : Nat} {out : Int32 × PH} (f : F8_cells h a0 = some out) : Met l yX8_cells vX8_cells ({ frames := 0, cells := 0, slots := 0, locals := 0 } : Room) (va_Pc [.ref (b + a0)] (ph_B D cy b A fl h)) (va_Qi (fun (r : Int32) (u : PH) => (r, u) = out) (ph_B D cy b A fl) A) 0 0 A :=
  o_met (by decide) rfl (Nat.le_of_ble_eq_true rfl) rfl (fun p e s m below meth c S hr hlo hnm ls hl I => T8_cells_0 S hr hlo ((gd f).2) I (lv_sub hl [0] rfl))
def vX9_add : List Cond := .code yX9_add cX9_add 3 none :: TB
theorem lf9_add_9 : Fl vX9_add RX9 9 9 1 := ⟨RX9, TX9, 3, rfl, by decide, (fun w h9 => List.mem_cons_of_mem _ (wC_wsX90 w h9)), (List.mem_cons_of_mem _ wT_9_1)⟩
theorem lf9_add_18 : Fl vX9_add RX9 18 9 0 := ⟨RX9, TX9, 3, rfl, by decide, (fun w h9 => List.mem_cons_of_mem _ (wC_wsX90 w h9)), (List.mem_cons_of_mem _ wT_42_5)⟩
theorem lf9_add_15 : Fl vX9_add RX9 15 9 2 := ⟨RX9, TX9, 3, rfl, by decide, (fun w h9 => List.mem_cons_of_mem _ (wC_wsX90 w h9)), (List.mem_cons_of_mem _ wT_9_2)⟩
theorem lp9_add_18 : Pl vX9_add RX9 18 9 0 .int := ⟨RX9, TX9, 3, tyX9, rfl, by decide, (fun w h9 => List.mem_cons_of_mem _ (wC_wsX90 w h9)), (List.mem_cons_of_mem _ wT_42_5), tyX9_ok, nmX9, rfl, rfl⟩
theorem la9_add_22 : Al vX9_add RX9 22 := ⟨(List.mem_cons_of_mem _ wT_42_6), (List.mem_cons_of_mem _ wT_24_5), (List.mem_cons_of_mem _ wT_24_6), (List.mem_cons_of_mem _ wT_24_7)⟩
theorem cd9_add : Cd yX9_add 2 := ⟨by decide, by decide, by decide +kernel⟩
set_option maxHeartbeats 4000000 in
set_option maxRecDepth 100000 in
theorem T9_add_45 (S : CallFix p m c cX9_add 3 s args vX9_add RX9) (hr : meth.sig.returnType = none) (hlo : meth.locks = false) {out : PH} {h : PH} {a0 : Nat} {x1 : Int32} {x2 : Int32} (f : F9_add_45  h a0 x1 x2 = some out) {H : Heap} {locs : List Loc} (I : ph_I D cy b A false h s H locs) {ls : Array Slot} (hl : lv_has ls 3 [(0, .ref (b + a0)), (1, .int x1), (2, .int x2)]) : W p l e ({ frames := 1, cells := 0, slots := 0, locals := 40 } : Room) s m args below meth c H locs 0 0 (MQ below (va_Qv (fun (u : PH) => u = out) (ph_B D cy b A false) A) args s 0 0 A) (F0 m 45 ls []) := by
  unfold F9_add_45 at f
  refine lv_aload_n S.1 S.2.1 dX9_add_45 rfl (lv_at hl 0 rfl) ?_
  obtain ⟨r1, e2, f⟩ := ob f
  refine o_gR S lf9_add_9 I e2 dX9_add_46 ?_
  refine lv_aload_n S.1 S.2.1 dX9_add_49 rfl (lv_at hl 0 rfl) ?_
  obtain ⟨v3, e4, f⟩ := ob f
  refine o_gI S lf9_add_18 I e4 dX9_add_50 ?_
  refine lv_iload_n S.1 S.2.1 dX9_add_53 rfl (lv_at hl 1 rfl) ?_
  obtain ⟨h6, e5, f⟩ := ob f
  refine o_iast S I e5 dX9_add_54 (fun H locs I => ?_)
  refine lv_aload_n S.1 S.2.1 dX9_add_55 rfl (lv_at hl 0 rfl) ?_
  obtain ⟨r7, e8, f⟩ := ob f
  refine o_gR S lf9_add_15 I e8 dX9_add_56 ?_
  refine lv_aload_n S.1 S.2.1 dX9_add_59 rfl (lv_at hl 0 rfl) ?_
  obtain ⟨v9, e10, f⟩ := ob f
  refine o_gI S lf9_add_18 I e10 dX9_add_60 ?_
  refine lv_iload_n S.1 S.2.1 dX9_add_63 rfl (lv_at hl 2 rfl) ?_
  obtain ⟨h12, e11, f⟩ := ob f
  refine o_iast S I e11 dX9_add_64 (fun H locs I => ?_)
  refine lv_aload_n S.1 S.2.1 dX9_add_65 rfl (lv_at hl 0 rfl) ?_
  refine lv_dup S.1 S.2.1 dX9_add_66 rfl ?_
  obtain ⟨v13, e14, f⟩ := ob f
  refine o_gI S lf9_add_18 I e14 dX9_add_67 ?_
  refine lv_iconst (v := 1) S.1 S.2.1 dX9_add_70 (by decide) ?_
  refine lv_iadd S.1 S.2.1 dX9_add_71 ?_
  obtain ⟨h15, e16, f⟩ := ob f
  refine o_pI S lp9_add_18 I e16 dX9_add_72 (fun H locs I => ?_)
  exact o_vret S hr hlo I f dX9_add_75
set_option maxHeartbeats 4000000 in
set_option maxRecDepth 100000 in
theorem T9_add_0 (S : CallFix p m c cX9_add 3 s args vX9_add RX9) (hr : meth.sig.returnType = none) (hlo : meth.locks = false) {out : PH} {h : PH} {a0 : Nat} {x1 : Int32} {x2 : Int32} (f : F9_add_0  h a0 x1 x2 = some out) {H : Heap} {locs : List Loc} (I : ph_I D cy b A false h s H locs) {ls : Array Slot} (hl : lv_has ls 3 [(0, .ref (b + a0)), (1, .int x1), (2, .int x2)]) : W p l e ({ frames := 1, cells := 0, slots := 0, locals := 40 } : Room) s m args below meth c H locs 0 0 (MQ below (va_Qv (fun (u : PH) => u = out) (ph_B D cy b A false) A) args s 0 0 A) (F0 m 0 ls []) := by
  unfold F9_add_0 at f
  refine lv_aload_n S.1 S.2.1 dX9_add_0 rfl (lv_at hl 0 rfl) ?_
  obtain ⟨v1, e2, f⟩ := ob f
  refine o_gI S lf9_add_18 I e2 dX9_add_1 ?_
  refine lv_bipush (v := 20) S.1 S.2.1 dX9_add_4 (by decide) ?_
  refine lv_icmp_lt (tgt := 45) S.1 S.2.1 dX9_add_6 (by decide) (fun q3 => ?_) (fun q3 => ?_)
  · have f := (if_pos q3).symm.trans f
    exact T9_add_45 S hr hlo  f I (lv_sub hl [0, 1, 2] rfl)
  · have f := (if_neg q3).symm.trans f
    refine lv_aload_n S.1 S.2.1 dX9_add_9 rfl (lv_at hl 0 rfl) ?_
    obtain ⟨r4, e5, f⟩ := ob f
    refine o_gR S lf9_add_9 I e5 dX9_add_10 ?_
    refine lv_iconst (v := 1) S.1 S.2.1 dX9_add_13 (by decide) ?_
    refine lv_aload_n S.1 S.2.1 dX9_add_14 rfl (lv_at hl 0 rfl) ?_
    obtain ⟨r6, e7, f⟩ := ob f
    refine o_gR S lf9_add_9 I e7 dX9_add_15 ?_
    refine lv_iconst (v := 0) S.1 S.2.1 dX9_add_18 (by decide) ?_
    refine lv_bipush (v := 19) S.1 S.2.1 dX9_add_19 (by decide) ?_
    obtain ⟨h8, e9, f⟩ := ob f
    refine o_copy S la9_add_22 hl.1 I e9 (Nat.le_of_ble_eq_true rfl) (Nat.le_of_ble_eq_true rfl) dX9_add_21 (fun H locs I => ?_)
    refine lv_aload_n S.1 S.2.1 dX9_add_24 rfl (lv_at hl 0 rfl) ?_
    obtain ⟨r10, e11, f⟩ := ob f
    refine o_gR S lf9_add_15 I e11 dX9_add_25 ?_
    refine lv_iconst (v := 1) S.1 S.2.1 dX9_add_28 (by decide) ?_
    refine lv_aload_n S.1 S.2.1 dX9_add_29 rfl (lv_at hl 0 rfl) ?_
    obtain ⟨r12, e13, f⟩ := ob f
    refine o_gR S lf9_add_15 I e13 dX9_add_30 ?_
    refine lv_iconst (v := 0) S.1 S.2.1 dX9_add_33 (by decide) ?_
    refine lv_bipush (v := 19) S.1 S.2.1 dX9_add_34 (by decide) ?_
    obtain ⟨h14, e15, f⟩ := ob f
    refine o_copy S la9_add_22 hl.1 I e15 (Nat.le_of_ble_eq_true rfl) (Nat.le_of_ble_eq_true rfl) dX9_add_36 (fun H locs I => ?_)
    refine lv_aload_n S.1 S.2.1 dX9_add_39 rfl (lv_at hl 0 rfl) ?_
    refine lv_bipush (v := 19) S.1 S.2.1 dX9_add_40 (by decide) ?_
    obtain ⟨h16, e17, f⟩ := ob f
    refine o_pI S lp9_add_18 I e17 dX9_add_42 (fun H locs I => ?_)
    exact T9_add_45 S hr hlo  f I (lv_sub hl [0, 1, 2] rfl)
theorem M9_add (l : Launch) (D : va_G) (cy : Nat → ClassId) (b : Nat) (A : Nat → Prop) {h : PH} {a0 : Nat} {x1 : Int32} {x2 : Int32} {out : PH} (f : F9_add h a0 x1 x2 = some out) : Met l yX9_add vX9_add ({ frames := 1, cells := 0, slots := 0, locals := 40 } : Room) (va_Pc [.ref (b + a0), .int x1, .int x2] (ph_B D cy b A false h)) (va_Qv (fun (u : PH) => u = out) (ph_B D cy b A false) A) 0 0 A :=
  o_met (by decide) rfl (Nat.le_of_ble_eq_true rfl) rfl (fun p e s m below meth c S hr hlo hnm ls hl I => T9_add_0 S hr hlo ((gd f).2) I (lv_sub hl [0, 1, 2] rfl))
def vX10_isLargest : List Cond := .code yX10_isLargest cX10_isLargest 5 (some .boolean) :: TB
theorem lf10_isLargest_15 : Fl vX10_isLargest RX10 15 10 3 := ⟨RX10, TX10, 8, rfl, by decide, (fun w h9 => List.mem_cons_of_mem _ (wC_wsX100 w h9)), (List.mem_cons_of_mem _ wT_4_9)⟩
theorem lf10_isLargest_21 : Fl vX10_isLargest RX10 21 10 5 := ⟨RX10, TX10, 8, rfl, by decide, (fun w h9 => List.mem_cons_of_mem _ (wC_wsX100 w h9)), (List.mem_cons_of_mem _ wT_4_11)⟩
theorem lf10_isLargest_9 : Fl vX10_isLargest RX10 9 10 2 := ⟨RX10, TX10, 8, rfl, by decide, (fun w h9 => List.mem_cons_of_mem _ (wC_wsX100 w h9)), (List.mem_cons_of_mem _ wT_4_8)⟩
theorem cd10_isLargest : Cd yX10_isLargest 2 := ⟨by decide, by decide, by decide +kernel⟩
set_option maxHeartbeats 4000000 in
set_option maxRecDepth 100000 in
theorem T10_isLargest_14 (S : CallFix p m c cX10_isLargest 5 s args vX10_isLargest RX10) (hr : meth.sig.returnType = (some .boolean)) (hlo : meth.locks = false) {out : Int32 × PH} : ∀ (n : Nat) {h : PH} {a0 : Nat} {x1 : Int32} {x3 : Int32} {x4 : Int32} (f : F10_isLargest_14  n h a0 x1 x3 x4 = some out) {H : Heap} {locs : List Loc} (I : ph_I D cy b A fl h s H locs) {ls : Array Slot} (hl : lv_has ls 5 [(0, .ref (b + a0)), (1, .int x1), (3, .int x3), (4, .int x4)]), W p l e ({ frames := 0, cells := 0, slots := 0, locals := 0 } : Room) s m args below meth c H locs 0 0 (MQ below (va_Qi (fun (r : Int32) (u : PH) => (r, u) = out) (ph_B D cy b A fl) A) args s 0 0 A) (F0 m 14 ls []) := by
  intro n
  induction n with
  | zero => intro h a0 x1 x3 x4 f; rw [F10_isLargest_14] at f; cases f
  | succ n ih =>
    intro h a0 x1 x3 x4 f H locs I ls hl
    rw [F10_isLargest_14] at f
    refine lv_iload S.1 S.2.1 dX10_isLargest_14 (lv_at hl 3 rfl) ?_
    refine lv_aload_n S.1 S.2.1 dX10_isLargest_16 rfl (lv_at hl 0 rfl) ?_
    obtain ⟨r1, e2, f⟩ := ob f
    refine o_gR S lf10_isLargest_15 I e2 dX10_isLargest_17 ?_
    refine lv_iload_n S.1 S.2.1 dX10_isLargest_20 rfl (lv_at hl 1 rfl) ?_
    obtain ⟨v4, e3, f⟩ := ob f
    refine o_iald S I e3 dX10_isLargest_21 ?_
    refine lv_icmp_ge (tgt := 56) S.1 S.2.1 dX10_isLargest_22 (by decide) (fun q5 => ?_) (fun q5 => ?_)
    · have f := (if_pos q5).symm.trans f
      refine lv_iconst (v := 1) S.1 S.2.1 dX10_isLargest_56 (by decide) ?_
      exact o_zret S hr hlo I f dX10_isLargest_57
    · have f := (if_neg q5).symm.trans f
      refine lv_aload_n S.1 S.2.1 dX10_isLargest_25 rfl (lv_at hl 0 rfl) ?_
      obtain ⟨r6, e7, f⟩ := ob f
      refine o_gR S lf10_isLargest_21 I e7 dX10_isLargest_26 ?_
      refine lv_aload_n S.1 S.2.1 dX10_isLargest_29 rfl (lv_at hl 0 rfl) ?_
      obtain ⟨r8, e9, f⟩ := ob f
      refine o_gR S lf10_isLargest_9 I e9 dX10_isLargest_30 ?_
      refine lv_iload_n S.1 S.2.1 dX10_isLargest_33 rfl (lv_at hl 1 rfl) ?_
      obtain ⟨v11, e10, f⟩ := ob f
      refine o_iald S I e10 dX10_isLargest_34 ?_
      refine lv_iload S.1 S.2.1 dX10_isLargest_35 (lv_at hl 3 rfl) ?_
      refine lv_iadd S.1 S.2.1 dX10_isLargest_37 ?_
      obtain ⟨v13, e12, f⟩ := ob f
      refine o_iald S I e12 dX10_isLargest_38 ?_
      refine lv_aload_n S.1 S.2.1 dX10_isLargest_39 rfl (lv_at hl 0 rfl) ?_
      obtain ⟨r14, e15, f⟩ := ob f
      refine o_gR S lf10_isLargest_21 I e15 dX10_isLargest_40 ?_
      refine lv_iload_n S.1 S.2.1 dX10_isLargest_43 rfl (lv_at hl 2 rfl) ?_
      obtain ⟨v17, e16, f⟩ := ob f
      refine o_iald S I e16 dX10_isLargest_44 ?_
      refine lv_icmp_le (tgt := 50) S.1 S.2.1 dX10_isLargest_45 (by decide) (fun q18 => ?_) (fun q18 => ?_)
      · have f := (if_pos q18).symm.trans f
        refine lv_iinc (v := (x4 + 1)) (lv' := [(4, .int (x4 + 1)), (0, .ref (b + a0)), (1, .int x1), (3, .int x3)]) S.1 S.2.1 dX10_isLargest_50 hl (k := 3) rfl (congrArg (fun z => x4 + z) (by decide)) (by decide) rfl (fun ls hl => ?_)
        refine lv_goto (tgt := 14) S.1 S.2.1 dX10_isLargest_53 (by decide) ?_
        exact ih f I (lv_sub hl [1, 2, 3, 0] rfl)
      · have f := (if_neg q18).symm.trans f
        refine lv_iconst (v := 0) S.1 S.2.1 dX10_isLargest_48 (by decide) ?_
        exact o_zret S hr hlo I f dX10_isLargest_49
set_option maxHeartbeats 4000000 in
set_option maxRecDepth 100000 in
theorem T10_isLargest_0 (S : CallFix p m c cX10_isLargest 5 s args vX10_isLargest RX10) (hr : meth.sig.returnType = (some .boolean)) (hlo : meth.locks = false) {out : Int32 × PH} {h : PH} {a0 : Nat} {x1 : Int32} {x2 : Int32} (f : F10_isLargest_0  h a0 x1 x2 = some out) {H : Heap} {locs : List Loc} (I : ph_I D cy b A fl h s H locs) {ls : Array Slot} (hl : lv_has ls 5 [(0, .ref (b + a0)), (1, .int x1), (2, .int x2)]) : W p l e ({ frames := 0, cells := 0, slots := 0, locals := 0 } : Room) s m args below meth c H locs 0 0 (MQ below (va_Qi (fun (r : Int32) (u : PH) => (r, u) = out) (ph_B D cy b A fl) A) args s 0 0 A) (F0 m 0 ls []) := by
  unfold F10_isLargest_0 at f
  refine lv_aload_n S.1 S.2.1 dX10_isLargest_0 rfl (lv_at hl 0 rfl) ?_
  obtain ⟨r1, e2, f⟩ := ob f
  refine o_gR S lf10_isLargest_9 I e2 dX10_isLargest_1 ?_
  refine lv_iload_n S.1 S.2.1 dX10_isLargest_4 rfl (lv_at hl 1 rfl) ?_
  obtain ⟨v4, e3, f⟩ := ob f
  refine o_iald S I e3 dX10_isLargest_5 ?_
  refine lv_iload_n S.1 S.2.1 dX10_isLargest_6 rfl (lv_at hl 2 rfl) ?_
  refine lv_iadd S.1 S.2.1 dX10_isLargest_7 ?_
  refine lv_iconst (v := 1) S.1 S.2.1 dX10_isLargest_8 (by decide) ?_
  refine lv_isub S.1 S.2.1 dX10_isLargest_9 ?_
  refine lv_istore_n (lv' := [(3, .int ((v4 + x2) - 1)), (0, .ref (b + a0)), (1, .int x1), (2, .int x2)]) S.1 S.2.1 dX10_isLargest_10 rfl hl (by decide) rfl (fun ls hl => ?_)
  refine lv_iconst (v := 0) S.1 S.2.1 dX10_isLargest_11 (by decide) ?_
  refine lv_istore (lv' := [(4, .int 0), (3, .int ((v4 + x2) - 1)), (0, .ref (b + a0)), (1, .int x1), (2, .int x2)]) S.1 S.2.1 dX10_isLargest_12 hl (by decide) rfl (fun ls hl => ?_)
  exact T10_isLargest_14 S hr hlo  1024 f I (lv_sub hl [2, 3, 1, 0] rfl)
theorem M10_isLargest (l : Launch) (D : va_G) (cy : Nat → ClassId) (b : Nat) (A : Nat → Prop) (fl : Bool) {h : PH} {a0 : Nat} {x1 : Int32} {x2 : Int32} {out : Int32 × PH} (f : F10_isLargest h a0 x1 x2 = some out) : Met l yX10_isLargest vX10_isLargest ({ frames := 0, cells := 0, slots := 0, locals := 0 } : Room) (va_Pc [.ref (b + a0), .int x1, .int x2] (ph_B D cy b A fl h)) (va_Qi (fun (r : Int32) (u : PH) => (r, u) = out) (ph_B D cy b A fl) A) 0 0 A :=
  o_met (by decide) rfl (Nat.le_of_ble_eq_true rfl) rfl (fun p e s m below meth c S hr hlo hnm ls hl I => T10_isLargest_0 S hr hlo ((gd f).2) I (lv_sub hl [0, 1, 2] rfl))
def vX10_lengthOf : List Cond := .code yX10_lengthOf cX10_lengthOf 2 (some .int) :: TB
theorem lf10_lengthOf_15 : Fl vX10_lengthOf RX10 15 10 3 := ⟨RX10, TX10, 8, rfl, by decide, (fun w h9 => List.mem_cons_of_mem _ (wC_wsX100 w h9)), (List.mem_cons_of_mem _ wT_4_9)⟩
theorem cd10_lengthOf : Cd yX10_lengthOf 1 := ⟨by decide, by decide, by decide +kernel⟩
set_option maxHeartbeats 4000000 in
set_option maxRecDepth 100000 in
theorem T10_lengthOf_0 (S : CallFix p m c cX10_lengthOf 2 s args vX10_lengthOf RX10) (hr : meth.sig.returnType = (some .int)) (hlo : meth.locks = false) {out : Int32 × PH} {h : PH} {a0 : Nat} {x1 : Int32} (f : F10_lengthOf_0  h a0 x1 = some out) {H : Heap} {locs : List Loc} (I : ph_I D cy b A fl h s H locs) {ls : Array Slot} (hl : lv_has ls 2 [(0, .ref (b + a0)), (1, .int x1)]) : W p l e ({ frames := 0, cells := 0, slots := 0, locals := 0 } : Room) s m args below meth c H locs 0 0 (MQ below (va_Qi (fun (r : Int32) (u : PH) => (r, u) = out) (ph_B D cy b A fl) A) args s 0 0 A) (F0 m 0 ls []) := by
  unfold F10_lengthOf_0 at f
  refine lv_aload_n S.1 S.2.1 dX10_lengthOf_0 rfl (lv_at hl 0 rfl) ?_
  obtain ⟨r1, e2, f⟩ := ob f
  refine o_gR S lf10_lengthOf_15 I e2 dX10_lengthOf_1 ?_
  refine lv_iload_n S.1 S.2.1 dX10_lengthOf_4 rfl (lv_at hl 1 rfl) ?_
  obtain ⟨v4, e3, f⟩ := ob f
  refine o_iald S I e3 dX10_lengthOf_5 ?_
  exact o_iret S hr hlo I f dX10_lengthOf_6
theorem M10_lengthOf (l : Launch) (D : va_G) (cy : Nat → ClassId) (b : Nat) (A : Nat → Prop) (fl : Bool) {h : PH} {a0 : Nat} {x1 : Int32} {out : Int32 × PH} (f : F10_lengthOf h a0 x1 = some out) : Met l yX10_lengthOf vX10_lengthOf ({ frames := 0, cells := 0, slots := 0, locals := 0 } : Room) (va_Pc [.ref (b + a0), .int x1] (ph_B D cy b A fl h)) (va_Qi (fun (r : Int32) (u : PH) => (r, u) = out) (ph_B D cy b A fl) A) 0 0 A :=
  o_met (by decide) rfl (Nat.le_of_ble_eq_true rfl) rfl (fun p e s m below meth c S hr hlo hnm ls hl I => T10_lengthOf_0 S hr hlo ((gd f).2) I (lv_sub hl [0, 1] rfl))
def vX10_setFrom : List Cond := .code yX10_setFrom cX10_setFrom 3 (some .int) :: TB
theorem lf10_setFrom_30 : Fl vX10_setFrom RX10 30 10 0 := ⟨RX10, TX10, 8, rfl, by decide, (fun w h9 => List.mem_cons_of_mem _ (wC_wsX100 w h9)), (List.mem_cons_of_mem _ wT_15_3)⟩
theorem gX10_setFrom_X10_firstMinute : GoodIn vX10_setFrom (wsV RX10 37 RX10 yX10_firstMinute vX10_firstMinute) := gV_of wT_20_2 wT_20_3 wT_20_4 wT_3_9 wT_20_5
theorem cd10_setFrom : Cd yX10_setFrom 1 := ⟨by decide, by decide, by decide +kernel⟩
set_option maxHeartbeats 4000000 in
set_option maxRecDepth 100000 in
theorem T10_setFrom_2 (S : CallFix p m c cX10_setFrom 3 s args vX10_setFrom RX10) (hr : meth.sig.returnType = (some .int)) (hlo : meth.locks = false) {out : Int32 × PH} : ∀ (n : Nat) {h : PH} {a0 : Nat} {x1 : Int32} {x2 : Int32} (f : F10_setFrom_2  n h a0 x1 x2 = some out) {H : Heap} {locs : List Loc} (I : ph_I D cy b A fl h s H locs) {ls : Array Slot} (hl : lv_has ls 3 [(0, .ref (b + a0)), (1, .int x1), (2, .int x2)]), W p l e ({ frames := 1, cells := 0, slots := 0, locals := 21 } : Room) s m args below meth c H locs 0 0 (MQ below (va_Qi (fun (r : Int32) (u : PH) => (r, u) = out) (ph_B D cy b A fl) A) args s 0 0 A) (F0 m 2 ls []) := by
  intro n
  induction n with
  | zero => intro h a0 x1 x2 f; rw [F10_setFrom_2] at f; cases f
  | succ n ih =>
    intro h a0 x1 x2 f H locs I ls hl
    rw [F10_setFrom_2] at f
    refine lv_iload_n S.1 S.2.1 dX10_setFrom_2 rfl (lv_at hl 2 rfl) ?_
    refine lv_aload_n S.1 S.2.1 dX10_setFrom_3 rfl (lv_at hl 0 rfl) ?_
    obtain ⟨v1, e2, f⟩ := ob f
    refine o_gI S lf10_setFrom_30 I e2 dX10_setFrom_4 ?_
    refine lv_icmp_ge (tgt := 27) S.1 S.2.1 dX10_setFrom_7 (by decide) (fun q3 => ?_) (fun q3 => ?_)
    · have f := (if_pos q3).symm.trans f
      refine lv_iconst (v := (-1)) S.1 S.2.1 dX10_setFrom_27 (by decide) ?_
      exact o_iret S hr hlo I f dX10_setFrom_28
    · have f := (if_neg q3).symm.trans f
      refine lv_aload_n S.1 S.2.1 dX10_setFrom_10 rfl (lv_at hl 0 rfl) ?_
      refine lv_iload_n S.1 S.2.1 dX10_setFrom_11 rfl (lv_at hl 2 rfl) ?_
      obtain ⟨o4, e5, f⟩ := ob f
      refine o_Vi S (As := [.int x2]) (rest := []) (ci := 10) (M10_firstMinute l D cy b A fl e5) gX10_setFrom_X10_firstMinute rfl rfl rfl cd10_firstMinute ⟨Nat.le_of_ble_eq_true rfl, Nat.le_of_ble_eq_true rfl⟩ I (gd e5).1 clX10 rfl rfl hl.1 rfl (Nat.le_of_ble_eq_true rfl) dX10_setFrom_12 ⟨Nat.le_of_ble_eq_true rfl, Nat.le_of_ble_eq_true rfl⟩ (fun H locs I => ?_)
      refine lv_iload_n S.1 S.2.1 dX10_setFrom_15 rfl (lv_at hl 1 rfl) ?_
      refine lv_icmp_lt (tgt := 21) S.1 S.2.1 dX10_setFrom_16 (by decide) (fun q6 => ?_) (fun q6 => ?_)
      · have f := (if_pos q6).symm.trans f
        refine lv_iinc (v := (x2 + 1)) (lv' := [(2, .int (x2 + 1)), (0, .ref (b + a0)), (1, .int x1)]) S.1 S.2.1 dX10_setFrom_21 hl (k := 2) rfl (congrArg (fun z => x2 + z) (by decide)) (by decide) rfl (fun ls hl => ?_)
        refine lv_goto (tgt := 2) S.1 S.2.1 dX10_setFrom_24 (by decide) ?_
        exact ih f I (lv_sub hl [1, 2, 0] rfl)
      · have f := (if_neg q6).symm.trans f
        refine lv_iload_n S.1 S.2.1 dX10_setFrom_19 rfl (lv_at hl 2 rfl) ?_
        exact o_iret S hr hlo I f dX10_setFrom_20
set_option maxHeartbeats 4000000 in
set_option maxRecDepth 100000 in
theorem T10_setFrom_0 (S : CallFix p m c cX10_setFrom 3 s args vX10_setFrom RX10) (hr : meth.sig.returnType = (some .int)) (hlo : meth.locks = false) {out : Int32 × PH} {h : PH} {a0 : Nat} {x1 : Int32} (f : F10_setFrom_0  h a0 x1 = some out) {H : Heap} {locs : List Loc} (I : ph_I D cy b A fl h s H locs) {ls : Array Slot} (hl : lv_has ls 3 [(0, .ref (b + a0)), (1, .int x1)]) : W p l e ({ frames := 1, cells := 0, slots := 0, locals := 21 } : Room) s m args below meth c H locs 0 0 (MQ below (va_Qi (fun (r : Int32) (u : PH) => (r, u) = out) (ph_B D cy b A fl) A) args s 0 0 A) (F0 m 0 ls []) := by
  unfold F10_setFrom_0 at f
  refine lv_iconst (v := 0) S.1 S.2.1 dX10_setFrom_0 (by decide) ?_
  refine lv_istore_n (lv' := [(2, .int 0), (0, .ref (b + a0)), (1, .int x1)]) S.1 S.2.1 dX10_setFrom_1 rfl hl (by decide) rfl (fun ls hl => ?_)
  exact T10_setFrom_2 S hr hlo  1024 f I (lv_sub hl [1, 2, 0] rfl)
theorem M10_setFrom (l : Launch) (D : va_G) (cy : Nat → ClassId) (b : Nat) (A : Nat → Prop) (fl : Bool) {h : PH} {a0 : Nat} {x1 : Int32} {out : Int32 × PH} (f : F10_setFrom h a0 x1 = some out) : Met l yX10_setFrom vX10_setFrom ({ frames := 1, cells := 0, slots := 0, locals := 21 } : Room) (va_Pc [.ref (b + a0), .int x1] (ph_B D cy b A fl h)) (va_Qi (fun (r : Int32) (u : PH) => (r, u) = out) (ph_B D cy b A fl) A) 0 0 A :=
  o_met (by decide) rfl (Nat.le_of_ble_eq_true rfl) rfl (fun p e s m below meth c S hr hlo hnm ls hl I => T10_setFrom_0 S hr hlo ((gd f).2) I (lv_sub hl [0, 1] rfl))
def vX11_back : List Cond := .code yX11_back cX11_back 1 (some .int) :: TB
theorem lf11_back_377 : Fl vX11_back RX11 377 11 10 := ⟨RX11, TX11, 14, rfl, by decide, (fun w h9 => List.mem_cons_of_mem _ (wC_wsX110 w h9)), (List.mem_cons_of_mem _ wT_23_21)⟩
theorem lf11_back_47 : Fl vX11_back RX11 47 11 7 := ⟨RX11, TX11, 14, rfl, by decide, (fun w h9 => List.mem_cons_of_mem _ (wC_wsX110 w h9)), (List.mem_cons_of_mem _ wT_2_8)⟩
theorem lf11_back_54 : Fl vX11_back RX11 54 11 9 := ⟨RX11, TX11, 14, rfl, by decide, (fun w h9 => List.mem_cons_of_mem _ (wC_wsX110 w h9)), (List.mem_cons_of_mem _ wT_2_10)⟩
theorem gX11_back_X4_takeAll : GoodIn vX11_back (wsV RX11 373 RX4 yX4_takeAll vX4_takeAll) := gV_of wT_66_20 wT_57_15 wT_57_16 wT_2_7 wT_57_17
theorem lf11_back_67 : Fl vX11_back RX11 67 11 12 := ⟨RX11, TX11, 14, rfl, by decide, (fun w h9 => List.mem_cons_of_mem _ (wC_wsX110 w h9)), (List.mem_cons_of_mem _ wT_2_18)⟩
theorem lp11_back_368 : Pl vX11_back RX11 368 9 0 .int := ⟨RX9, TX9, 3, tyX9, rfl, by decide, (fun w h9 => List.mem_cons_of_mem _ (wC_wsX90 w h9)), (List.mem_cons_of_mem _ wT_23_20), tyX9_ok, nmX9, rfl, rfl⟩
theorem lf11_back_186 : Fl vX11_back RX11 186 4 0 := ⟨RX4, TX4, 11, rfl, by decide, (fun w h9 => List.mem_cons_of_mem _ (wC_wsX40 w h9)), (List.mem_cons_of_mem _ wT_34_1)⟩
set_option maxHeartbeats 4000000 in
set_option maxRecDepth 100000 in
theorem T11_back_0 (S : CallFix p m c cX11_back 1 s args vX11_back RX11) (hr : meth.sig.returnType = (some .int)) (hlo : meth.locks = false) {out : Int32 × PH} {h : PH} {a0 : Nat} (f : F11_back_0  h a0 = some out) {H : Heap} {locs : List Loc} (I : ph_I D cy b A false h s H locs) {ls : Array Slot} (hl : lv_has ls 1 [(0, .ref (b + a0))]) : W p l e ({ frames := 2, cells := 0, slots := 0, locals := 61 } : Room) s m args below meth c H locs 0 0 (MQ below (va_Qi (fun (r : Int32) (u : PH) => (r, u) = out) (ph_B D cy b A false) A) args s 0 0 A) (F0 m 0 ls []) := by
  unfold F11_back_0 at f
  refine lv_aload_n S.1 S.2.1 dX11_back_0 rfl (lv_at hl 0 rfl) ?_
  obtain ⟨v1, e2, f⟩ := ob f
  refine o_gI S lf11_back_377 I e2 dX11_back_1 ?_
  refine lv_if_ne (tgt := 9) S.1 S.2.1 dX11_back_4 (by decide) (fun q3 => ?_) (fun q3 => ?_)
  · have f := (if_neg q3).symm.trans f
    refine lv_aload_n S.1 S.2.1 dX11_back_9 rfl (lv_at hl 0 rfl) ?_
    obtain ⟨r4, e5, f⟩ := ob f
    refine o_gR S lf11_back_47 I e5 dX11_back_10 ?_
    refine lv_aload_n S.1 S.2.1 dX11_back_13 rfl (lv_at hl 0 rfl) ?_
    obtain ⟨r6, e7, f⟩ := ob f
    refine o_gR S lf11_back_54 I e7 dX11_back_14 ?_
    obtain ⟨o8, e9, f⟩ := ob f
    refine o_Vv S (As := [.ref (b + r6)]) (rest := []) (ci := 4) (M4_takeAll l D cy b A e9) gX11_back_X4_takeAll rfl rfl rfl cd4_takeAll ⟨Nat.le_of_ble_eq_true rfl, Nat.le_of_ble_eq_true rfl⟩ I (gd e9).1 clX4 rfl rfl hl.1 rfl (Nat.le_of_ble_eq_true rfl) dX11_back_17 ⟨Nat.le_of_ble_eq_true rfl, Nat.le_of_ble_eq_true rfl⟩ (fun H locs I => ?_)
    refine lv_aload_n S.1 S.2.1 dX11_back_20 rfl (lv_at hl 0 rfl) ?_
    obtain ⟨r10, e11, f⟩ := ob f
    refine o_gR S lf11_back_67 I e11 dX11_back_21 ?_
    refine lv_iconst (v := 0) S.1 S.2.1 dX11_back_24 (by decide) ?_
    obtain ⟨h12, e13, f⟩ := ob f
    refine o_pI S lp11_back_368 I e13 dX11_back_25 (fun H locs I => ?_)
    refine lv_aload_n S.1 S.2.1 dX11_back_28 rfl (lv_at hl 0 rfl) ?_
    obtain ⟨r14, e15, f⟩ := ob f
    refine o_gR S lf11_back_47 I e15 dX11_back_29 ?_
    obtain ⟨v16, e17, f⟩ := ob f
    refine o_gI S lf11_back_186 I e17 dX11_back_32 ?_
    exact o_iret S hr hlo I f dX11_back_35
  · have f := (if_pos q3).symm.trans f
    refine lv_iconst (v := (-1)) S.1 S.2.1 dX11_back_7 (by decide) ?_
    exact o_iret S hr hlo I f dX11_back_8
theorem M11_back (l : Launch) (D : va_G) (cy : Nat → ClassId) (b : Nat) (A : Nat → Prop) {h : PH} {a0 : Nat} {out : Int32 × PH} (f : F11_back h a0 = some out) : Met l yX11_back vX11_back ({ frames := 2, cells := 0, slots := 0, locals := 61 } : Room) (va_Pc [.ref (b + a0)] (ph_B D cy b A false h)) (va_Qi (fun (r : Int32) (u : PH) => (r, u) = out) (ph_B D cy b A false) A) 0 0 A :=
  o_met (by decide) rfl (Nat.le_of_ble_eq_true rfl) rfl (fun p e s m below meth c S hr hlo hnm ls hl I => T11_back_0 S hr hlo ((gd f).2) I (lv_sub hl [0] rfl))
def vX11_beginAnew : List Cond := .code yX11_beginAnew cX11_beginAnew 1 none :: TB
theorem lf11_beginAnew_37 : Fl vX11_beginAnew RX11 37 11 5 := ⟨RX11, TX11, 14, rfl, by decide, (fun w h9 => List.mem_cons_of_mem _ (wC_wsX110 w h9)), (List.mem_cons_of_mem _ wT_2_3)⟩
theorem lf11_beginAnew_18 : Fl vX11_beginAnew RX11 18 11 3 := ⟨RX11, TX11, 14, rfl, by decide, (fun w h9 => List.mem_cons_of_mem _ (wC_wsX110 w h9)), (List.mem_cons_of_mem _ wT_1_18)⟩
theorem gX11_beginAnew_X6_takeAsTold : GoodIn vX11_beginAnew (wsV RX11 393 RX6 yX6_takeAsTold vX6_takeAsTold) := gV_of wT_23_22 wT_23_23 wT_24_0 wT_2_2 wT_24_1
theorem lf11_beginAnew_47 : Fl vX11_beginAnew RX11 47 11 7 := ⟨RX11, TX11, 14, rfl, by decide, (fun w h9 => List.mem_cons_of_mem _ (wC_wsX110 w h9)), (List.mem_cons_of_mem _ wT_2_8)⟩
theorem gX11_beginAnew_X4_begin : GoodIn vX11_beginAnew (wsV RX11 396 RX4 yX4_begin vX4_begin) := gV_of wT_26_0 wT_26_1 wT_26_2 wT_2_7 wT_26_3
theorem lf11_beginAnew_60 : Fl vX11_beginAnew RX11 60 11 11 := ⟨RX11, TX11, 14, rfl, by decide, (fun w h9 => List.mem_cons_of_mem _ (wC_wsX110 w h9)), (List.mem_cons_of_mem _ wT_2_14)⟩
theorem lp11_beginAnew_323 : Pl vX11_beginAnew RX11 323 3 0 .int := ⟨RX3, TX3, 7, tyX3, rfl, by decide, (fun w h9 => List.mem_cons_of_mem _ (wC_wsX30 w h9)), (List.mem_cons_of_mem _ wT_23_18), tyX3_ok, nmX3, rfl, rfl⟩
theorem lp11_beginAnew_327 : Pl vX11_beginAnew RX11 327 3 1 .int := ⟨RX3, TX3, 7, tyX3, rfl, by decide, (fun w h9 => List.mem_cons_of_mem _ (wC_wsX30 w h9)), (List.mem_cons_of_mem _ wT_23_19), tyX3_ok, nmX3, rfl, rfl⟩
theorem lf11_beginAnew_67 : Fl vX11_beginAnew RX11 67 11 12 := ⟨RX11, TX11, 14, rfl, by decide, (fun w h9 => List.mem_cons_of_mem _ (wC_wsX110 w h9)), (List.mem_cons_of_mem _ wT_2_18)⟩
theorem lp11_beginAnew_368 : Pl vX11_beginAnew RX11 368 9 0 .int := ⟨RX9, TX9, 3, tyX9, rfl, by decide, (fun w h9 => List.mem_cons_of_mem _ (wC_wsX90 w h9)), (List.mem_cons_of_mem _ wT_23_20), tyX9_ok, nmX9, rfl, rfl⟩
theorem lp11_beginAnew_377 : Pl vX11_beginAnew RX11 377 11 10 .boolean := ⟨RX11, TX11, 14, tyX11, rfl, by decide, (fun w h9 => List.mem_cons_of_mem _ (wC_wsX110 w h9)), (List.mem_cons_of_mem _ wT_23_21), tyX11_ok, nmX11, rfl, rfl⟩
theorem cd11_beginAnew : Cd yX11_beginAnew 0 := ⟨by decide, by decide, by decide +kernel⟩
set_option maxHeartbeats 4000000 in
set_option maxRecDepth 100000 in
theorem T11_beginAnew_0 (S : CallFix p m c cX11_beginAnew 1 s args vX11_beginAnew RX11) (hr : meth.sig.returnType = none) (hlo : meth.locks = false) {out : PH} {h : PH} {a0 : Nat} (f : F11_beginAnew_0  h a0 = some out) {H : Heap} {locs : List Loc} (I : ph_I D cy b A false h s H locs) {ls : Array Slot} (hl : lv_has ls 1 [(0, .ref (b + a0))]) : W p l e ({ frames := 6, cells := 0, slots := 0, locals := 147 } : Room) s m args below meth c H locs 0 0 (MQ below (va_Qv (fun (u : PH) => u = out) (ph_B D cy b A false) A) args s 0 0 A) (F0 m 0 ls []) := by
  unfold F11_beginAnew_0 at f
  refine lv_aload_n S.1 S.2.1 dX11_beginAnew_0 rfl (lv_at hl 0 rfl) ?_
  obtain ⟨r1, e2, f⟩ := ob f
  refine o_gR S lf11_beginAnew_37 I e2 dX11_beginAnew_1 ?_
  refine lv_aload_n S.1 S.2.1 dX11_beginAnew_4 rfl (lv_at hl 0 rfl) ?_
  obtain ⟨r3, e4, f⟩ := ob f
  refine o_gR S lf11_beginAnew_18 I e4 dX11_beginAnew_5 ?_
  obtain ⟨o5, e6, f⟩ := ob f
  refine o_Vv S (As := [.ref (b + r3)]) (rest := []) (ci := 6) (M6_takeAsTold l D cy b A e6) gX11_beginAnew_X6_takeAsTold rfl rfl rfl cd6_takeAsTold ⟨Nat.le_of_ble_eq_true rfl, Nat.le_of_ble_eq_true rfl⟩ I (gd e6).1 clX6 rfl rfl hl.1 rfl (Nat.le_of_ble_eq_true rfl) dX11_beginAnew_8 ⟨Nat.le_of_ble_eq_true rfl, Nat.le_of_ble_eq_true rfl⟩ (fun H locs I => ?_)
  refine lv_aload_n S.1 S.2.1 dX11_beginAnew_11 rfl (lv_at hl 0 rfl) ?_
  obtain ⟨r7, e8, f⟩ := ob f
  refine o_gR S lf11_beginAnew_47 I e8 dX11_beginAnew_12 ?_
  refine lv_aload_n S.1 S.2.1 dX11_beginAnew_15 rfl (lv_at hl 0 rfl) ?_
  obtain ⟨r9, e10, f⟩ := ob f
  refine o_gR S lf11_beginAnew_18 I e10 dX11_beginAnew_16 ?_
  obtain ⟨o11, e12, f⟩ := ob f
  refine o_Vv S (As := [.ref (b + r9)]) (rest := []) (ci := 4) (M4_begin l D cy b A false e12) gX11_beginAnew_X4_begin rfl rfl rfl cd4_begin ⟨Nat.le_of_ble_eq_true rfl, Nat.le_of_ble_eq_true rfl⟩ I (gd e12).1 clX4 rfl rfl hl.1 rfl (Nat.le_of_ble_eq_true rfl) dX11_beginAnew_19 ⟨Nat.le_of_ble_eq_true rfl, Nat.le_of_ble_eq_true rfl⟩ (fun H locs I => ?_)
  refine lv_aload_n S.1 S.2.1 dX11_beginAnew_22 rfl (lv_at hl 0 rfl) ?_
  obtain ⟨r13, e14, f⟩ := ob f
  refine o_gR S lf11_beginAnew_60 I e14 dX11_beginAnew_23 ?_
  refine lv_iconst (v := 0) S.1 S.2.1 dX11_beginAnew_26 (by decide) ?_
  obtain ⟨h15, e16, f⟩ := ob f
  refine o_pI S lp11_beginAnew_323 I e16 dX11_beginAnew_27 (fun H locs I => ?_)
  refine lv_aload_n S.1 S.2.1 dX11_beginAnew_30 rfl (lv_at hl 0 rfl) ?_
  obtain ⟨r17, e18, f⟩ := ob f
  refine o_gR S lf11_beginAnew_60 I e18 dX11_beginAnew_31 ?_
  refine lv_iconst (v := (-1)) S.1 S.2.1 dX11_beginAnew_34 (by decide) ?_
  obtain ⟨h19, e20, f⟩ := ob f
  refine o_pI S lp11_beginAnew_327 I e20 dX11_beginAnew_35 (fun H locs I => ?_)
  refine lv_aload_n S.1 S.2.1 dX11_beginAnew_38 rfl (lv_at hl 0 rfl) ?_
  obtain ⟨r21, e22, f⟩ := ob f
  refine o_gR S lf11_beginAnew_67 I e22 dX11_beginAnew_39 ?_
  refine lv_iconst (v := 0) S.1 S.2.1 dX11_beginAnew_42 (by decide) ?_
  obtain ⟨h23, e24, f⟩ := ob f
  refine o_pI S lp11_beginAnew_368 I e24 dX11_beginAnew_43 (fun H locs I => ?_)
  refine lv_aload_n S.1 S.2.1 dX11_beginAnew_46 rfl (lv_at hl 0 rfl) ?_
  refine lv_iconst (v := 0) S.1 S.2.1 dX11_beginAnew_47 (by decide) ?_
  obtain ⟨h25, e26, f⟩ := ob f
  refine o_pZ S lp11_beginAnew_377 I e26 dX11_beginAnew_48 (fun H locs I => ?_)
  exact o_vret S hr hlo I f dX11_beginAnew_51
theorem M11_beginAnew (l : Launch) (D : va_G) (cy : Nat → ClassId) (b : Nat) (A : Nat → Prop) {h : PH} {a0 : Nat} {out : PH} (f : F11_beginAnew h a0 = some out) : Met l yX11_beginAnew vX11_beginAnew ({ frames := 6, cells := 0, slots := 0, locals := 147 } : Room) (va_Pc [.ref (b + a0)] (ph_B D cy b A false h)) (va_Qv (fun (u : PH) => u = out) (ph_B D cy b A false) A) 0 0 A :=
  o_met (by decide) rfl (Nat.le_of_ble_eq_true rfl) rfl (fun p e s m below meth c S hr hlo hnm ls hl I => T11_beginAnew_0 S hr hlo ((gd f).2) I (lv_sub hl [0] rfl))
def vX11_isSurfer : List Cond := .code yX11_isSurfer cX11_isSurfer 2 (some .boolean) :: TB
theorem lf11_isSurfer_18 : Fl vX11_isSurfer RX11 18 11 3 := ⟨RX11, TX11, 14, rfl, by decide, (fun w h9 => List.mem_cons_of_mem _ (wC_wsX110 w h9)), (List.mem_cons_of_mem _ wT_1_18)⟩
theorem lf11_isSurfer_102 : Fl vX11_isSurfer RX11 102 8 4 := ⟨RX8, TX8, 14, rfl, by decide, (fun w h9 => List.mem_cons_of_mem _ (wC_wsX80 w h9)), (List.mem_cons_of_mem _ wT_32_14)⟩
theorem lf11_isSurfer_106 : Fl vX11_isSurfer RX11 106 1 0 := ⟨RX1, TX1, 7, rfl, by decide, (fun w h9 => List.mem_cons_of_mem _ (wC_wsX10 w h9)), (List.mem_cons_of_mem _ wT_32_15)⟩
theorem cd11_isSurfer : Cd yX11_isSurfer 1 := ⟨by decide, by decide, by decide +kernel⟩
set_option maxHeartbeats 4000000 in
set_option maxRecDepth 100000 in
theorem T11_isSurfer_0 (S : CallFix p m c cX11_isSurfer 2 s args vX11_isSurfer RX11) (hr : meth.sig.returnType = (some .boolean)) (hlo : meth.locks = false) {out : Int32 × PH} {h : PH} {a0 : Nat} {x1 : Int32} (f : F11_isSurfer_0  h a0 x1 = some out) {H : Heap} {locs : List Loc} (I : ph_I D cy b A fl h s H locs) {ls : Array Slot} (hl : lv_has ls 2 [(0, .ref (b + a0)), (1, .int x1)]) : W p l e ({ frames := 0, cells := 0, slots := 0, locals := 0 } : Room) s m args below meth c H locs 0 0 (MQ below (va_Qi (fun (r : Int32) (u : PH) => (r, u) = out) (ph_B D cy b A fl) A) args s 0 0 A) (F0 m 0 ls []) := by
  unfold F11_isSurfer_0 at f
  refine lv_iload_n S.1 S.2.1 dX11_isSurfer_0 rfl (lv_at hl 1 rfl) ?_
  refine lv_if_lt (tgt := 22) S.1 S.2.1 dX11_isSurfer_1 (by decide) (fun q1 => ?_) (fun q1 => ?_)
  · have f := (if_pos q1).symm.trans f
    refine lv_iconst (v := 0) S.1 S.2.1 dX11_isSurfer_22 (by decide) ?_
    exact o_zret S hr hlo I f dX11_isSurfer_23
  · have f := (if_neg q1).symm.trans f
    refine lv_iload_n S.1 S.2.1 dX11_isSurfer_4 rfl (lv_at hl 1 rfl) ?_
    refine lv_aload_n S.1 S.2.1 dX11_isSurfer_5 rfl (lv_at hl 0 rfl) ?_
    obtain ⟨r2, e3, f⟩ := ob f
    refine o_gR S lf11_isSurfer_18 I e3 dX11_isSurfer_6 ?_
    obtain ⟨r4, e5, f⟩ := ob f
    refine o_gR S lf11_isSurfer_102 I e5 dX11_isSurfer_9 ?_
    obtain ⟨v6, e7, f⟩ := ob f
    refine o_gI S lf11_isSurfer_106 I e7 dX11_isSurfer_12 ?_
    refine lv_icmp_ge (tgt := 22) S.1 S.2.1 dX11_isSurfer_15 (by decide) (fun q8 => ?_) (fun q8 => ?_)
    · have f := (if_pos q8).symm.trans f
      refine lv_iconst (v := 0) S.1 S.2.1 dX11_isSurfer_22 (by decide) ?_
      exact o_zret S hr hlo I f dX11_isSurfer_23
    · have f := (if_neg q8).symm.trans f
      refine lv_iconst (v := 1) S.1 S.2.1 dX11_isSurfer_18 (by decide) ?_
      refine lv_goto (tgt := 23) S.1 S.2.1 dX11_isSurfer_19 (by decide) ?_
      exact o_zret S hr hlo I f dX11_isSurfer_23
theorem M11_isSurfer (l : Launch) (D : va_G) (cy : Nat → ClassId) (b : Nat) (A : Nat → Prop) (fl : Bool) {h : PH} {a0 : Nat} {x1 : Int32} {out : Int32 × PH} (f : F11_isSurfer h a0 x1 = some out) : Met l yX11_isSurfer vX11_isSurfer ({ frames := 0, cells := 0, slots := 0, locals := 0 } : Room) (va_Pc [.ref (b + a0), .int x1] (ph_B D cy b A fl h)) (va_Qi (fun (r : Int32) (u : PH) => (r, u) = out) (ph_B D cy b A fl) A) 0 0 A :=
  o_met (by decide) rfl (Nat.le_of_ble_eq_true rfl) rfl (fun p e s m below meth c S hr hlo hnm ls hl I => T11_isSurfer_0 S hr hlo ((gd f).2) I (lv_sub hl [0, 1] rfl))
def vX11_firstToCome : List Cond := .code yX11_firstToCome cX11_firstToCome 1 (some .int) :: TB
theorem lf11_firstToCome_18 : Fl vX11_firstToCome RX11 18 11 3 := ⟨RX11, TX11, 14, rfl, by decide, (fun w h9 => List.mem_cons_of_mem _ (wC_wsX110 w h9)), (List.mem_cons_of_mem _ wT_1_18)⟩
theorem lf11_firstToCome_150 : Fl vX11_firstToCome RX11 150 8 5 := ⟨RX8, TX8, 14, rfl, by decide, (fun w h9 => List.mem_cons_of_mem _ (wC_wsX80 w h9)), (List.mem_cons_of_mem _ wT_36_16)⟩
theorem lf11_firstToCome_47 : Fl vX11_firstToCome RX11 47 11 7 := ⟨RX11, TX11, 14, rfl, by decide, (fun w h9 => List.mem_cons_of_mem _ (wC_wsX110 w h9)), (List.mem_cons_of_mem _ wT_2_8)⟩
theorem lf11_firstToCome_186 : Fl vX11_firstToCome RX11 186 4 0 := ⟨RX4, TX4, 11, rfl, by decide, (fun w h9 => List.mem_cons_of_mem _ (wC_wsX40 w h9)), (List.mem_cons_of_mem _ wT_34_1)⟩
theorem gX11_firstToCome_X10_firstFrom : GoodIn vX11_firstToCome (wsV RX11 387 RX10 yX10_firstFrom vX10_firstFrom) := gV_of wT_43_16 wT_43_17 wT_43_18 wT_3_9 wT_43_19
theorem cd11_firstToCome : Cd yX11_firstToCome 0 := ⟨by decide, by decide, by decide +kernel⟩
set_option maxHeartbeats 4000000 in
set_option maxRecDepth 100000 in
theorem T11_firstToCome_0 (S : CallFix p m c cX11_firstToCome 1 s args vX11_firstToCome RX11) (hr : meth.sig.returnType = (some .int)) (hlo : meth.locks = false) {out : Int32 × PH} {h : PH} {a0 : Nat} (f : F11_firstToCome_0  h a0 = some out) {H : Heap} {locs : List Loc} (I : ph_I D cy b A fl h s H locs) {ls : Array Slot} (hl : lv_has ls 1 [(0, .ref (b + a0))]) : W p l e ({ frames := 1, cells := 0, slots := 0, locals := 22 } : Room) s m args below meth c H locs 0 0 (MQ below (va_Qi (fun (r : Int32) (u : PH) => (r, u) = out) (ph_B D cy b A fl) A) args s 0 0 A) (F0 m 0 ls []) := by
  unfold F11_firstToCome_0 at f
  refine lv_aload_n S.1 S.2.1 dX11_firstToCome_0 rfl (lv_at hl 0 rfl) ?_
  obtain ⟨r1, e2, f⟩ := ob f
  refine o_gR S lf11_firstToCome_18 I e2 dX11_firstToCome_1 ?_
  obtain ⟨r3, e4, f⟩ := ob f
  refine o_gR S lf11_firstToCome_150 I e4 dX11_firstToCome_4 ?_
  refine lv_aload_n S.1 S.2.1 dX11_firstToCome_7 rfl (lv_at hl 0 rfl) ?_
  obtain ⟨r5, e6, f⟩ := ob f
  refine o_gR S lf11_firstToCome_47 I e6 dX11_firstToCome_8 ?_
  obtain ⟨v7, e8, f⟩ := ob f
  refine o_gI S lf11_firstToCome_186 I e8 dX11_firstToCome_11 ?_
  obtain ⟨o9, e10, f⟩ := ob f
  refine o_Vi S (As := [.int v7]) (rest := []) (ci := 10) (M10_firstFrom l D cy b A fl e10) gX11_firstToCome_X10_firstFrom rfl rfl rfl cd10_firstFrom ⟨Nat.le_of_ble_eq_true rfl, Nat.le_of_ble_eq_true rfl⟩ I (gd e10).1 clX10 rfl rfl hl.1 rfl (Nat.le_of_ble_eq_true rfl) dX11_firstToCome_14 ⟨Nat.le_of_ble_eq_true rfl, Nat.le_of_ble_eq_true rfl⟩ (fun H locs I => ?_)
  exact o_iret S hr hlo I f dX11_firstToCome_17
theorem M11_firstToCome (l : Launch) (D : va_G) (cy : Nat → ClassId) (b : Nat) (A : Nat → Prop) (fl : Bool) {h : PH} {a0 : Nat} {out : Int32 × PH} (f : F11_firstToCome h a0 = some out) : Met l yX11_firstToCome vX11_firstToCome ({ frames := 1, cells := 0, slots := 0, locals := 22 } : Room) (va_Pc [.ref (b + a0)] (ph_B D cy b A fl h)) (va_Qi (fun (r : Int32) (u : PH) => (r, u) = out) (ph_B D cy b A fl) A) 0 0 A :=
  o_met (by decide) rfl (Nat.le_of_ble_eq_true rfl) rfl (fun p e s m below meth c S hr hlo hnm ls hl I => T11_firstToCome_0 S hr hlo ((gd f).2) I (lv_sub hl [0] rfl))
def vX11_best : List Cond := .code yX11_best cX11_best 6 (some .int) :: TB
theorem lf11_best_18 : Fl vX11_best RX11 18 11 3 := ⟨RX11, TX11, 14, rfl, by decide, (fun w h9 => List.mem_cons_of_mem _ (wC_wsX110 w h9)), (List.mem_cons_of_mem _ wT_1_18)⟩
theorem gX11_best_X8_cells : GoodIn vX11_best (wsV RX11 240 RX8 yX8_cells vX8_cells) := gV_of wT_38_5 wT_38_6 wT_38_7 wT_1_17 wT_38_8
theorem lf11_best_37 : Fl vX11_best RX11 37 11 5 := ⟨RX11, TX11, 14, rfl, by decide, (fun w h9 => List.mem_cons_of_mem _ (wC_wsX110 w h9)), (List.mem_cons_of_mem _ wT_2_3)⟩
theorem gX11_best_X11_firstToCome : GoodIn vX11_best (wsV RX11 233 RX11 yX11_firstToCome vX11_firstToCome) := gV_of wT_49_9 wT_49_10 wT_49_11 wT_1_2 wT_49_12
theorem gX11_best_X6_seatFrom : GoodIn vX11_best (wsV RX11 237 RX6 yX6_seatFrom vX6_seatFrom) := gV_of wT_49_13 wT_49_14 wT_49_15 wT_2_2 wT_49_16
theorem gX11_best_X11_isSurfer : GoodIn vX11_best (wsV RX11 115 RX11 yX11_isSurfer vX11_isSurfer) := gV_of wT_33_17 wT_33_18 wT_33_19 wT_1_2 wT_33_20
set_option maxHeartbeats 4000000 in
set_option maxRecDepth 100000 in
theorem T11_best_17 (S : CallFix p m c cX11_best 6 s args vX11_best RX11) (hr : meth.sig.returnType = (some .int)) (hlo : meth.locks = false) {out : Int32 × PH} : ∀ (n : Nat) {h : PH} {a0 : Nat} {x1 : Int32} {x2 : Int32} {x3 : Int32} {x4 : Int32} (f : F11_best_17  n h a0 x1 x2 x3 x4 = some out) {H : Heap} {locs : List Loc} (I : ph_I D cy b A fl h s H locs) {ls : Array Slot} (hl : lv_has ls 6 [(0, .ref (b + a0)), (1, .int x1), (2, .int x2), (3, .int x3), (4, .int x4)]), W p l e ({ frames := 6, cells := 0, slots := 0, locals := 151 } : Room) s m args below meth c H locs 0 0 (MQ below (va_Qi (fun (r : Int32) (u : PH) => (r, u) = out) (ph_B D cy b A fl) A) args s 0 0 A) (F0 m 17 ls []) := by
  intro n
  induction n with
  | zero => intro h a0 x1 x2 x3 x4 f; rw [F11_best_17] at f; cases f
  | succ n ih =>
    intro h a0 x1 x2 x3 x4 f H locs I ls hl
    rw [F11_best_17] at f
    refine lv_iload S.1 S.2.1 dX11_best_17 (lv_at hl 4 rfl) ?_
    refine lv_aload_n S.1 S.2.1 dX11_best_19 rfl (lv_at hl 0 rfl) ?_
    obtain ⟨r1, e2, f⟩ := ob f
    refine o_gR S lf11_best_18 I e2 dX11_best_20 ?_
    obtain ⟨o3, e4, f⟩ := ob f
    refine o_Vi S (As := []) (rest := [.int x4]) (ci := 8) (M8_cells l D cy b A fl e4) gX11_best_X8_cells rfl rfl rfl cd8_cells ⟨Nat.le_of_ble_eq_true rfl, Nat.le_of_ble_eq_true rfl⟩ I (gd e4).1 clX8 rfl rfl hl.1 rfl (Nat.le_of_ble_eq_true rfl) dX11_best_23 ⟨Nat.le_of_ble_eq_true rfl, Nat.le_of_ble_eq_true rfl⟩ (fun H locs I => ?_)
    refine lv_icmp_ge (tgt := 63) S.1 S.2.1 dX11_best_26 (by decide) (fun q5 => ?_) (fun q5 => ?_)
    · have f := (if_pos q5).symm.trans f
      refine lv_iload_n S.1 S.2.1 dX11_best_63 rfl (lv_at hl 2 rfl) ?_
      exact o_iret S hr hlo I f dX11_best_64
    · have f := (if_neg q5).symm.trans f
      refine lv_aload_n S.1 S.2.1 dX11_best_29 rfl (lv_at hl 0 rfl) ?_
      obtain ⟨r6, e7, f⟩ := ob f
      refine o_gR S lf11_best_37 I e7 dX11_best_30 ?_
      refine lv_iload_n S.1 S.2.1 dX11_best_33 rfl (lv_at hl 1 rfl) ?_
      refine lv_iload S.1 S.2.1 dX11_best_34 (lv_at hl 4 rfl) ?_
      refine lv_aload_n S.1 S.2.1 dX11_best_36 rfl (lv_at hl 0 rfl) ?_
      obtain ⟨o8, e9, f⟩ := ob f
      refine o_Vi S (As := []) (rest := [.int x4, .int x1, .ref (b + r6)]) (ci := 11) (M11_firstToCome l D cy b A fl e9) gX11_best_X11_firstToCome rfl rfl rfl cd11_firstToCome ⟨Nat.le_of_ble_eq_true rfl, Nat.le_of_ble_eq_true rfl⟩ I (gd e9).1 clX11 rfl rfl hl.1 rfl (Nat.le_of_ble_eq_true rfl) dX11_best_37 ⟨Nat.le_of_ble_eq_true rfl, Nat.le_of_ble_eq_true rfl⟩ (fun H locs I => ?_)
      obtain ⟨o10, e11, f⟩ := ob f
      refine o_Vi S (As := [.int x1, .int x4, .int o8.1]) (rest := []) (ci := 6) (M6_seatFrom l D cy b A fl e11) gX11_best_X6_seatFrom rfl rfl rfl cd6_seatFrom ⟨Nat.le_of_ble_eq_true rfl, Nat.le_of_ble_eq_true rfl⟩ I (gd e11).1 clX6 rfl rfl hl.1 rfl (Nat.le_of_ble_eq_true rfl) dX11_best_40 ⟨Nat.le_of_ble_eq_true rfl, Nat.le_of_ble_eq_true rfl⟩ (fun H locs I => ?_)
      refine lv_istore (lv' := [(5, .int o10.1), (0, .ref (b + a0)), (1, .int x1), (2, .int x2), (3, .int x3), (4, .int x4)]) S.1 S.2.1 dX11_best_43 hl (by decide) rfl (fun ls hl => ?_)
      refine lv_iload S.1 S.2.1 dX11_best_45 (lv_at hl 0 rfl) ?_
      refine lv_iload_n S.1 S.2.1 dX11_best_47 rfl (lv_at hl 4 rfl) ?_
      refine lv_icmp_le (tgt := 57) S.1 S.2.1 dX11_best_48 (by decide) (fun q12 => ?_) (fun q12 => ?_)
      · have f := (if_pos q12).symm.trans f
        refine lv_iinc (v := (x4 + 1)) (lv' := [(4, .int (x4 + 1)), (5, .int o10.1), (0, .ref (b + a0)), (1, .int x1), (2, .int x2), (3, .int x3)]) S.1 S.2.1 dX11_best_57 hl (k := 5) rfl (congrArg (fun z => x4 + z) (by decide)) (by decide) rfl (fun ls hl => ?_)
        refine lv_goto (tgt := 17) S.1 S.2.1 dX11_best_60 (by decide) ?_
        exact ih f I (lv_sub hl [2, 3, 4, 5, 0] rfl)
      · have f := (if_neg q12).symm.trans f
        refine lv_iload S.1 S.2.1 dX11_best_51 (lv_at hl 0 rfl) ?_
        refine lv_istore_n (lv' := [(3, .int o10.1), (5, .int o10.1), (0, .ref (b + a0)), (1, .int x1), (2, .int x2), (4, .int x4)]) S.1 S.2.1 dX11_best_53 rfl hl (by decide) rfl (fun ls hl => ?_)
        refine lv_iload S.1 S.2.1 dX11_best_54 (lv_at hl 5 rfl) ?_
        refine lv_istore_n (lv' := [(2, .int x4), (3, .int o10.1), (5, .int o10.1), (0, .ref (b + a0)), (1, .int x1), (4, .int x4)]) S.1 S.2.1 dX11_best_56 rfl hl (by decide) rfl (fun ls hl => ?_)
        refine lv_iinc (v := (x4 + 1)) (lv' := [(4, .int (x4 + 1)), (2, .int x4), (3, .int o10.1), (5, .int o10.1), (0, .ref (b + a0)), (1, .int x1)]) S.1 S.2.1 dX11_best_57 hl (k := 5) rfl (congrArg (fun z => x4 + z) (by decide)) (by decide) rfl (fun ls hl => ?_)
        refine lv_goto (tgt := 17) S.1 S.2.1 dX11_best_60 (by decide) ?_
        exact ih f I (lv_sub hl [4, 5, 1, 2, 0] rfl)
set_option maxHeartbeats 4000000 in
set_option maxRecDepth 100000 in
theorem T11_best_0 (S : CallFix p m c cX11_best 6 s args vX11_best RX11) (hr : meth.sig.returnType = (some .int)) (hlo : meth.locks = false) {out : Int32 × PH} {h : PH} {a0 : Nat} {x1 : Int32} (f : F11_best_0  h a0 x1 = some out) {H : Heap} {locs : List Loc} (I : ph_I D cy b A fl h s H locs) {ls : Array Slot} (hl : lv_has ls 6 [(0, .ref (b + a0)), (1, .int x1)]) : W p l e ({ frames := 6, cells := 0, slots := 0, locals := 151 } : Room) s m args below meth c H locs 0 0 (MQ below (va_Qi (fun (r : Int32) (u : PH) => (r, u) = out) (ph_B D cy b A fl) A) args s 0 0 A) (F0 m 0 ls []) := by
  unfold F11_best_0 at f
  refine lv_aload_n S.1 S.2.1 dX11_best_0 rfl (lv_at hl 0 rfl) ?_
  refine lv_iload_n S.1 S.2.1 dX11_best_1 rfl (lv_at hl 1 rfl) ?_
  obtain ⟨o1, e2, f⟩ := ob f
  refine o_Vi S (As := [.int x1]) (rest := []) (ci := 11) (M11_isSurfer l D cy b A fl e2) gX11_best_X11_isSurfer rfl rfl rfl cd11_isSurfer ⟨Nat.le_of_ble_eq_true rfl, Nat.le_of_ble_eq_true rfl⟩ I (gd e2).1 clX11 rfl rfl hl.1 rfl (Nat.le_of_ble_eq_true rfl) dX11_best_2 ⟨Nat.le_of_ble_eq_true rfl, Nat.le_of_ble_eq_true rfl⟩ (fun H locs I => ?_)
  refine lv_if_ne (tgt := 10) S.1 S.2.1 dX11_best_5 (by decide) (fun q3 => ?_) (fun q3 => ?_)
  · have f := (if_neg q3).symm.trans f
    refine lv_iconst (v := 0) S.1 S.2.1 dX11_best_10 (by decide) ?_
    refine lv_istore_n (lv' := [(2, .int 0), (0, .ref (b + a0)), (1, .int x1)]) S.1 S.2.1 dX11_best_11 rfl hl (by decide) rfl (fun ls hl => ?_)
    refine lv_iconst (v := (-1)) S.1 S.2.1 dX11_best_12 (by decide) ?_
    refine lv_istore_n (lv' := [(3, .int (-1)), (2, .int 0), (0, .ref (b + a0)), (1, .int x1)]) S.1 S.2.1 dX11_best_13 rfl hl (by decide) rfl (fun ls hl => ?_)
    refine lv_iconst (v := 0) S.1 S.2.1 dX11_best_14 (by decide) ?_
    refine lv_istore (lv' := [(4, .int 0), (3, .int (-1)), (2, .int 0), (0, .ref (b + a0)), (1, .int x1)]) S.1 S.2.1 dX11_best_15 hl (by decide) rfl (fun ls hl => ?_)
    exact T11_best_17 S hr hlo  1024 f I (lv_sub hl [3, 4, 2, 1, 0] rfl)
  · have f := (if_pos q3).symm.trans f
    refine lv_iconst (v := (-1)) S.1 S.2.1 dX11_best_8 (by decide) ?_
    exact o_iret S hr hlo I f dX11_best_9
theorem M11_best (l : Launch) (D : va_G) (cy : Nat → ClassId) (b : Nat) (A : Nat → Prop) (fl : Bool) {h : PH} {a0 : Nat} {x1 : Int32} {out : Int32 × PH} (f : F11_best h a0 x1 = some out) : Met l yX11_best vX11_best ({ frames := 6, cells := 0, slots := 0, locals := 151 } : Room) (va_Pc [.ref (b + a0), .int x1] (ph_B D cy b A fl h)) (va_Qi (fun (r : Int32) (u : PH) => (r, u) = out) (ph_B D cy b A fl) A) 0 0 A :=
  o_met (by decide) rfl (Nat.le_of_ble_eq_true rfl) rfl (fun p e s m below meth c S hr hlo hnm ls hl I => T11_best_0 S hr hlo ((gd f).2) I (lv_sub hl [0, 1] rfl))
def vX11_runBy : List Cond := .code yX11_runBy cX11_runBy 4 none :: TB
theorem lf11_runBy_18 : Fl vX11_runBy RX11 18 11 3 := ⟨RX11, TX11, 14, rfl, by decide, (fun w h9 => List.mem_cons_of_mem _ (wC_wsX110 w h9)), (List.mem_cons_of_mem _ wT_1_18)⟩
theorem lf11_runBy_150 : Fl vX11_runBy RX11 150 8 5 := ⟨RX8, TX8, 14, rfl, by decide, (fun w h9 => List.mem_cons_of_mem _ (wC_wsX80 w h9)), (List.mem_cons_of_mem _ wT_36_16)⟩
theorem lf11_runBy_299 : Fl vX11_runBy RX11 299 10 1 := ⟨RX10, TX10, 8, rfl, by decide, (fun w h9 => List.mem_cons_of_mem _ (wC_wsX100 w h9)), (List.mem_cons_of_mem _ wT_37_2)⟩
theorem lf11_runBy_37 : Fl vX11_runBy RX11 37 11 5 := ⟨RX11, TX11, 14, rfl, by decide, (fun w h9 => List.mem_cons_of_mem _ (wC_wsX110 w h9)), (List.mem_cons_of_mem _ wT_2_3)⟩
theorem lf11_runBy_51 : Fl vX11_runBy RX11 51 11 8 := ⟨RX11, TX11, 14, rfl, by decide, (fun w h9 => List.mem_cons_of_mem _ (wC_wsX110 w h9)), (List.mem_cons_of_mem _ wT_2_9)⟩
theorem gX11_runBy_X6_bringWave : GoodIn vX11_runBy (wsV RX11 364 RX6 yX6_bringWave vX6_bringWave) := gV_of wT_43_20 wT_43_21 wT_43_22 wT_2_2 wT_43_23
theorem lf11_runBy_47 : Fl vX11_runBy RX11 47 11 7 := ⟨RX11, TX11, 14, rfl, by decide, (fun w h9 => List.mem_cons_of_mem _ (wC_wsX110 w h9)), (List.mem_cons_of_mem _ wT_2_8)⟩
theorem gX11_runBy_X4_takeForRun : GoodIn vX11_runBy (wsV RX11 353 RX4 yX4_takeForRun vX4_takeForRun) := gV_of wT_57_10 wT_57_11 wT_57_12 wT_2_7 wT_57_13
theorem gX11_runBy_X11_firstToCome : GoodIn vX11_runBy (wsV RX11 233 RX11 yX11_firstToCome vX11_firstToCome) := gV_of wT_49_9 wT_49_10 wT_49_11 wT_1_2 wT_49_12
theorem cd11_runBy : Cd yX11_runBy 2 := ⟨by decide, by decide, by decide +kernel⟩
set_option maxHeartbeats 4000000 in
set_option maxRecDepth 100000 in
theorem T11_runBy_18 (S : CallFix p m c cX11_runBy 4 s args vX11_runBy RX11) (hr : meth.sig.returnType = none) (hlo : meth.locks = false) {out : PH} : ∀ (n : Nat) {h : PH} {a0 : Nat} {x3 : Int32} (f : F11_runBy_18  n h a0 x3 = some out) {H : Heap} {locs : List Loc} (I : ph_I D cy b A false h s H locs) {ls : Array Slot} (hl : lv_has ls 4 [(0, .ref (b + a0)), (3, .int x3)]), W p l e ({ frames := 6, cells := 0, slots := 0, locals := 154 } : Room) s m args below meth c H locs 0 0 (MQ below (va_Qv (fun (u : PH) => u = out) (ph_B D cy b A false) A) args s 0 0 A) (F0 m 18 ls []) := by
  intro n
  induction n with
  | zero => intro h a0 x3 f; rw [F11_runBy_18] at f; cases f
  | succ n ih =>
    intro h a0 x3 f H locs I ls hl
    rw [F11_runBy_18] at f
    refine lv_iload_n S.1 S.2.1 dX11_runBy_18 rfl (lv_at hl 1 rfl) ?_
    refine lv_aload_n S.1 S.2.1 dX11_runBy_19 rfl (lv_at hl 0 rfl) ?_
    obtain ⟨r1, e2, f⟩ := ob f
    refine o_gR S lf11_runBy_18 I e2 dX11_runBy_20 ?_
    obtain ⟨r3, e4, f⟩ := ob f
    refine o_gR S lf11_runBy_150 I e4 dX11_runBy_23 ?_
    obtain ⟨v5, e6, f⟩ := ob f
    refine o_gI S lf11_runBy_299 I e6 dX11_runBy_26 ?_
    refine lv_icmp_ge (tgt := 50) S.1 S.2.1 dX11_runBy_29 (by decide) (fun q7 => ?_) (fun q7 => ?_)
    · have f := (if_pos q7).symm.trans f
      exact o_vret S hr hlo I f dX11_runBy_50
    · have f := (if_neg q7).symm.trans f
      refine lv_aload_n S.1 S.2.1 dX11_runBy_32 rfl (lv_at hl 0 rfl) ?_
      obtain ⟨r8, e9, f⟩ := ob f
      refine o_gR S lf11_runBy_37 I e9 dX11_runBy_33 ?_
      refine lv_aload_n S.1 S.2.1 dX11_runBy_36 rfl (lv_at hl 0 rfl) ?_
      obtain ⟨r10, e11, f⟩ := ob f
      refine o_gR S lf11_runBy_51 I e11 dX11_runBy_37 ?_
      refine lv_iload_n S.1 S.2.1 dX11_runBy_40 rfl (lv_at hl 1 rfl) ?_
      obtain ⟨o12, e13, f⟩ := ob f
      refine o_Vv S (As := [.ref (b + r10), .int x3]) (rest := []) (ci := 6) (M6_bringWave l D cy b A false e13) gX11_runBy_X6_bringWave rfl rfl rfl cd6_bringWave ⟨Nat.le_of_ble_eq_true rfl, Nat.le_of_ble_eq_true rfl⟩ I (gd e13).1 clX6 rfl rfl hl.1 rfl (Nat.le_of_ble_eq_true rfl) dX11_runBy_41 ⟨Nat.le_of_ble_eq_true rfl, Nat.le_of_ble_eq_true rfl⟩ (fun H locs I => ?_)
      refine lv_iinc (v := (x3 + 1)) (lv' := [(3, .int (x3 + 1)), (0, .ref (b + a0))]) S.1 S.2.1 dX11_runBy_44 hl (k := 1) rfl (congrArg (fun z => x3 + z) (by decide)) (by decide) rfl (fun ls hl => ?_)
      refine lv_goto (tgt := 18) S.1 S.2.1 dX11_runBy_47 (by decide) ?_
      exact ih f I (lv_sub hl [1, 0] rfl)
set_option maxHeartbeats 4000000 in
set_option maxRecDepth 100000 in
theorem T11_runBy_0 (S : CallFix p m c cX11_runBy 4 s args vX11_runBy RX11) (hr : meth.sig.returnType = none) (hlo : meth.locks = false) {out : PH} {h : PH} {a0 : Nat} {x1 : Int32} {x2 : Int32} (f : F11_runBy_0  h a0 x1 x2 = some out) {H : Heap} {locs : List Loc} (I : ph_I D cy b A false h s H locs) {ls : Array Slot} (hl : lv_has ls 4 [(0, .ref (b + a0)), (1, .int x1), (2, .int x2)]) : W p l e ({ frames := 6, cells := 0, slots := 0, locals := 154 } : Room) s m args below meth c H locs 0 0 (MQ below (va_Qv (fun (u : PH) => u = out) (ph_B D cy b A false) A) args s 0 0 A) (F0 m 0 ls []) := by
  unfold F11_runBy_0 at f
  refine lv_aload_n S.1 S.2.1 dX11_runBy_0 rfl (lv_at hl 0 rfl) ?_
  obtain ⟨r1, e2, f⟩ := ob f
  refine o_gR S lf11_runBy_51 I e2 dX11_runBy_1 ?_
  refine lv_aload_n S.1 S.2.1 dX11_runBy_4 rfl (lv_at hl 0 rfl) ?_
  obtain ⟨r3, e4, f⟩ := ob f
  refine o_gR S lf11_runBy_47 I e4 dX11_runBy_5 ?_
  refine lv_iload_n S.1 S.2.1 dX11_runBy_8 rfl (lv_at hl 1 rfl) ?_
  refine lv_iload_n S.1 S.2.1 dX11_runBy_9 rfl (lv_at hl 2 rfl) ?_
  obtain ⟨o5, e6, f⟩ := ob f
  refine o_Vv S (As := [.ref (b + r3), .int x1, .int x2]) (rest := []) (ci := 4) (M4_takeForRun l D cy b A e6) gX11_runBy_X4_takeForRun rfl rfl rfl cd4_takeForRun ⟨Nat.le_of_ble_eq_true rfl, Nat.le_of_ble_eq_true rfl⟩ I (gd e6).1 clX4 rfl rfl hl.1 rfl (Nat.le_of_ble_eq_true rfl) dX11_runBy_10 ⟨Nat.le_of_ble_eq_true rfl, Nat.le_of_ble_eq_true rfl⟩ (fun H locs I => ?_)
  refine lv_aload_n S.1 S.2.1 dX11_runBy_13 rfl (lv_at hl 0 rfl) ?_
  obtain ⟨o7, e8, f⟩ := ob f
  refine o_Vi S (As := []) (rest := []) (ci := 11) (M11_firstToCome l D cy b A false e8) gX11_runBy_X11_firstToCome rfl rfl rfl cd11_firstToCome ⟨Nat.le_of_ble_eq_true rfl, Nat.le_of_ble_eq_true rfl⟩ I (gd e8).1 clX11 rfl rfl hl.1 rfl (Nat.le_of_ble_eq_true rfl) dX11_runBy_14 ⟨Nat.le_of_ble_eq_true rfl, Nat.le_of_ble_eq_true rfl⟩ (fun H locs I => ?_)
  refine lv_istore_n (lv' := [(3, .int o7.1), (0, .ref (b + a0)), (1, .int x1), (2, .int x2)]) S.1 S.2.1 dX11_runBy_17 rfl hl (by decide) rfl (fun ls hl => ?_)
  exact T11_runBy_18 S hr hlo  1024 f I (lv_sub hl [1, 0] rfl)
theorem M11_runBy (l : Launch) (D : va_G) (cy : Nat → ClassId) (b : Nat) (A : Nat → Prop) {h : PH} {a0 : Nat} {x1 : Int32} {x2 : Int32} {out : PH} (f : F11_runBy h a0 x1 x2 = some out) : Met l yX11_runBy vX11_runBy ({ frames := 6, cells := 0, slots := 0, locals := 154 } : Room) (va_Pc [.ref (b + a0), .int x1, .int x2] (ph_B D cy b A false h)) (va_Qv (fun (u : PH) => u = out) (ph_B D cy b A false) A) 0 0 A :=
  o_met (by decide) rfl (Nat.le_of_ble_eq_true rfl) rfl (fun p e s m below meth c S hr hlo hnm ls hl I => T11_runBy_0 S hr hlo ((gd f).2) I (lv_sub hl [0, 1, 2] rfl))
def vX11_chance : List Cond := .code yX11_chance cX11_chance 7 (some .int) :: TB
theorem lf11_chance_47 : Fl vX11_chance RX11 47 11 7 := ⟨RX11, TX11, 14, rfl, by decide, (fun w h9 => List.mem_cons_of_mem _ (wC_wsX110 w h9)), (List.mem_cons_of_mem _ wT_2_8)⟩
theorem lf11_chance_217 : Fl vX11_chance RX11 217 4 1 := ⟨RX4, TX4, 11, rfl, by decide, (fun w h9 => List.mem_cons_of_mem _ (wC_wsX40 w h9)), (List.mem_cons_of_mem _ wT_42_23)⟩
theorem gX11_chance_X11_runBy : GoodIn vX11_chance (wsV RX11 284 RX11 yX11_runBy vX11_runBy) := gV_of wT_57_6 wT_57_7 wT_57_8 wT_1_2 wT_57_9
theorem lf11_chance_51 : Fl vX11_chance RX11 51 11 8 := ⟨RX11, TX11, 14, rfl, by decide, (fun w h9 => List.mem_cons_of_mem _ (wC_wsX110 w h9)), (List.mem_cons_of_mem _ wT_2_9)⟩
theorem lf11_chance_350 : Fl vX11_chance RX11 350 4 2 := ⟨RX4, TX4, 11, rfl, by decide, (fun w h9 => List.mem_cons_of_mem _ (wC_wsX40 w h9)), (List.mem_cons_of_mem _ wT_64_12)⟩
theorem lf11_chance_125 : Fl vX11_chance RX11 125 4 6 := ⟨RX4, TX4, 11, rfl, by decide, (fun w h9 => List.mem_cons_of_mem _ (wC_wsX40 w h9)), (List.mem_cons_of_mem _ wT_33_12)⟩
theorem gX11_chance_X11_isSurfer : GoodIn vX11_chance (wsV RX11 115 RX11 yX11_isSurfer vX11_isSurfer) := gV_of wT_33_17 wT_33_18 wT_33_19 wT_1_2 wT_33_20
set_option maxHeartbeats 4000000 in
set_option maxRecDepth 100000 in
theorem T11_chance_33 (S : CallFix p m c cX11_chance 7 s args vX11_chance RX11) (hr : meth.sig.returnType = (some .int)) (hlo : meth.locks = false) {out : Int32 × PH} : ∀ (n : Nat) {h : PH} {a0 : Nat} {x2 : Int32} {x3 : Int32} {x4 : Int32} {x5 : Int32} {x6 : Int32} (f : F11_chance_33  n h a0 x2 x3 x4 x5 x6 = some out) {H : Heap} {locs : List Loc} (I : ph_I D cy b A false h s H locs) {ls : Array Slot} (hl : lv_has ls 7 [(0, .ref (b + a0)), (2, .int x2), (3, .int x3), (4, .int x4), (5, .int x5), (6, .int x6)]), W p l e ({ frames := 7, cells := 0, slots := 0, locals := 177 } : Room) s m args below meth c H locs 0 0 (MQ below (va_Qi (fun (r : Int32) (u : PH) => (r, u) = out) (ph_B D cy b A false) A) args s 0 0 A) (F0 m 33 ls []) := by
  intro n
  induction n with
  | zero => intro h a0 x2 x3 x4 x5 x6 f; rw [F11_chance_33] at f; cases f
  | succ n ih =>
    intro h a0 x2 x3 x4 x5 x6 f H locs I ls hl
    rw [F11_chance_33] at f
    refine lv_iload S.1 S.2.1 dX11_chance_33 (lv_at hl 5 rfl) ?_
    refine lv_bipush (v := 10) S.1 S.2.1 dX11_chance_35 (by decide) ?_
    refine lv_icmp_ge (tgt := 84) S.1 S.2.1 dX11_chance_37 (by decide) (fun q1 => ?_) (fun q1 => ?_)
    · have f := (if_pos q1).symm.trans f
      refine lv_iload S.1 S.2.1 dX11_chance_84 (lv_at hl 3 rfl) ?_
      exact o_iret S hr hlo I f dX11_chance_86
    · have f := (if_neg q1).symm.trans f
      refine lv_aload_n S.1 S.2.1 dX11_chance_40 rfl (lv_at hl 0 rfl) ?_
      refine lv_aload_n S.1 S.2.1 dX11_chance_41 rfl (lv_at hl 0 rfl) ?_
      obtain ⟨r2, e3, f⟩ := ob f
      refine o_gR S lf11_chance_47 I e3 dX11_chance_42 ?_
      obtain ⟨v4, e5, f⟩ := ob f
      refine o_gI S lf11_chance_217 I e5 dX11_chance_45 ?_
      refine lv_iload S.1 S.2.1 dX11_chance_48 (lv_at hl 4 rfl) ?_
      obtain ⟨o6, e7, f⟩ := ob f
      refine o_Vv S (As := [.int v4, .int x5]) (rest := []) (ci := 11) (M11_runBy l D cy b A e7) gX11_chance_X11_runBy rfl rfl rfl cd11_runBy ⟨Nat.le_of_ble_eq_true rfl, Nat.le_of_ble_eq_true rfl⟩ I (gd e7).1 clX11 rfl rfl hl.1 rfl (Nat.le_of_ble_eq_true rfl) dX11_chance_50 ⟨Nat.le_of_ble_eq_true rfl, Nat.le_of_ble_eq_true rfl⟩ (fun H locs I => ?_)
      refine lv_aload_n S.1 S.2.1 dX11_chance_53 rfl (lv_at hl 0 rfl) ?_
      obtain ⟨r8, e9, f⟩ := ob f
      refine o_gR S lf11_chance_51 I e9 dX11_chance_54 ?_
      obtain ⟨v10, e11, f⟩ := ob f
      refine o_gI S lf11_chance_350 I e11 dX11_chance_57 ?_
      refine lv_istore (lv' := [(5, .int v10), (0, .ref (b + a0)), (2, .int x2), (3, .int x3), (4, .int x4), (6, .int x6)]) S.1 S.2.1 dX11_chance_60 hl (by decide) rfl (fun ls hl => ?_)
      refine lv_aload_n S.1 S.2.1 dX11_chance_62 rfl (lv_at hl 1 rfl) ?_
      obtain ⟨r12, e13, f⟩ := ob f
      refine o_gR S lf11_chance_51 I e13 dX11_chance_63 ?_
      obtain ⟨r14, e15, f⟩ := ob f
      refine o_gR S lf11_chance_125 I e15 dX11_chance_66 ?_
      refine lv_iload_n S.1 S.2.1 dX11_chance_69 rfl (lv_at hl 2 rfl) ?_
      obtain ⟨v17, e16, f⟩ := ob f
      refine o_iald S I e16 dX11_chance_70 ?_
      refine lv_iload_n S.1 S.2.1 dX11_chance_71 rfl (lv_at hl 3 rfl) ?_
      refine lv_icmp_lt (tgt := 78) S.1 S.2.1 dX11_chance_72 (by decide) (fun q18 => ?_) (fun q18 => ?_)
      · have f := (if_pos q18).symm.trans f
        refine lv_iinc (v := (x6 + 1)) (lv' := [(6, .int (x6 + 1)), (5, .int v10), (0, .ref (b + a0)), (2, .int x2), (3, .int x3), (4, .int x4)]) S.1 S.2.1 dX11_chance_78 hl (k := 5) rfl (congrArg (fun z => x6 + z) (by decide)) (by decide) rfl (fun ls hl => ?_)
        refine lv_goto (tgt := 33) S.1 S.2.1 dX11_chance_81 (by decide) ?_
        exact ih f I (lv_sub hl [2, 3, 4, 5, 1, 0] rfl)
      · have f := (if_neg q18).symm.trans f
        refine lv_iinc (v := (x4 + 1)) (lv' := [(4, .int (x4 + 1)), (5, .int v10), (0, .ref (b + a0)), (2, .int x2), (3, .int x3), (6, .int x6)]) S.1 S.2.1 dX11_chance_75 hl (k := 4) rfl (congrArg (fun z => x4 + z) (by decide)) (by decide) rfl (fun ls hl => ?_)
        refine lv_iinc (v := (x6 + 1)) (lv' := [(6, .int (x6 + 1)), (4, .int (x4 + 1)), (5, .int v10), (0, .ref (b + a0)), (2, .int x2), (3, .int x3)]) S.1 S.2.1 dX11_chance_78 hl (k := 5) rfl (congrArg (fun z => x6 + z) (by decide)) (by decide) rfl (fun ls hl => ?_)
        refine lv_goto (tgt := 33) S.1 S.2.1 dX11_chance_81 (by decide) ?_
        exact ih f I (lv_sub hl [3, 4, 5, 1, 2, 0] rfl)
set_option maxHeartbeats 4000000 in
set_option maxRecDepth 100000 in
theorem T11_chance_0 (S : CallFix p m c cX11_chance 7 s args vX11_chance RX11) (hr : meth.sig.returnType = (some .int)) (hlo : meth.locks = false) {out : Int32 × PH} {h : PH} {a0 : Nat} {x1 : Int32} {x2 : Int32} {x3 : Int32} (f : F11_chance_0  h a0 x1 x2 x3 = some out) {H : Heap} {locs : List Loc} (I : ph_I D cy b A false h s H locs) {ls : Array Slot} (hl : lv_has ls 7 [(0, .ref (b + a0)), (1, .int x1), (2, .int x2), (3, .int x3)]) : W p l e ({ frames := 7, cells := 0, slots := 0, locals := 177 } : Room) s m args below meth c H locs 0 0 (MQ below (va_Qi (fun (r : Int32) (u : PH) => (r, u) = out) (ph_B D cy b A false) A) args s 0 0 A) (F0 m 0 ls []) := by
  unfold F11_chance_0 at f
  refine lv_iload_n S.1 S.2.1 dX11_chance_0 rfl (lv_at hl 1 rfl) ?_
  refine lv_if_lt (tgt := 22) S.1 S.2.1 dX11_chance_1 (by decide) (fun q1 => ?_) (fun q1 => ?_)
  · have f := (if_pos q1).symm.trans f
    refine lv_iconst (v := (-1)) S.1 S.2.1 dX11_chance_22 (by decide) ?_
    exact o_iret S hr hlo I f dX11_chance_23
  · have f := (if_neg q1).symm.trans f
    refine lv_aload_n S.1 S.2.1 dX11_chance_4 rfl (lv_at hl 0 rfl) ?_
    refine lv_iload_n S.1 S.2.1 dX11_chance_5 rfl (lv_at hl 2 rfl) ?_
    obtain ⟨o2, e3, f⟩ := ob f
    refine o_Vi S (As := [.int x2]) (rest := []) (ci := 11) (M11_isSurfer l D cy b A false e3) gX11_chance_X11_isSurfer rfl rfl rfl cd11_isSurfer ⟨Nat.le_of_ble_eq_true rfl, Nat.le_of_ble_eq_true rfl⟩ I (gd e3).1 clX11 rfl rfl hl.1 rfl (Nat.le_of_ble_eq_true rfl) dX11_chance_6 ⟨Nat.le_of_ble_eq_true rfl, Nat.le_of_ble_eq_true rfl⟩ (fun H locs I => ?_)
    refine lv_if_eq (tgt := 22) S.1 S.2.1 dX11_chance_9 (by decide) (fun q4 => ?_) (fun q4 => ?_)
    · have f := (if_pos q4).symm.trans f
      refine lv_iconst (v := (-1)) S.1 S.2.1 dX11_chance_22 (by decide) ?_
      exact o_iret S hr hlo I f dX11_chance_23
    · have f := (if_neg q4).symm.trans f
      refine lv_iload_n S.1 S.2.1 dX11_chance_12 rfl (lv_at hl 3 rfl) ?_
      refine lv_if_lt (tgt := 22) S.1 S.2.1 dX11_chance_13 (by decide) (fun q5 => ?_) (fun q5 => ?_)
      · have f := (if_pos q5).symm.trans f
        refine lv_iconst (v := (-1)) S.1 S.2.1 dX11_chance_22 (by decide) ?_
        exact o_iret S hr hlo I f dX11_chance_23
      · have f := (if_neg q5).symm.trans f
        refine lv_iload_n S.1 S.2.1 dX11_chance_16 rfl (lv_at hl 3 rfl) ?_
        refine lv_bipush (v := 28) S.1 S.2.1 dX11_chance_17 (by decide) ?_
        refine lv_icmp_le (tgt := 24) S.1 S.2.1 dX11_chance_19 (by decide) (fun q6 => ?_) (fun q6 => ?_)
        · have f := (if_pos q6).symm.trans f
          refine lv_iconst (v := 0) S.1 S.2.1 dX11_chance_24 (by decide) ?_
          refine lv_istore (lv' := [(4, .int 0), (0, .ref (b + a0)), (1, .int x1), (2, .int x2), (3, .int x3)]) S.1 S.2.1 dX11_chance_25 hl (by decide) rfl (fun ls hl => ?_)
          refine lv_iload_n S.1 S.2.1 dX11_chance_27 rfl (lv_at hl 2 rfl) ?_
          refine lv_istore (lv' := [(5, .int x1), (4, .int 0), (0, .ref (b + a0)), (1, .int x1), (2, .int x2), (3, .int x3)]) S.1 S.2.1 dX11_chance_28 hl (by decide) rfl (fun ls hl => ?_)
          refine lv_iconst (v := 0) S.1 S.2.1 dX11_chance_30 (by decide) ?_
          refine lv_istore (lv' := [(6, .int 0), (5, .int x1), (4, .int 0), (0, .ref (b + a0)), (1, .int x1), (2, .int x2), (3, .int x3)]) S.1 S.2.1 dX11_chance_31 hl (by decide) rfl (fun ls hl => ?_)
          exact T11_chance_33 S hr hlo  1024 f I (lv_sub hl [3, 5, 6, 2, 1, 0] rfl)
        · have f := (if_neg q6).symm.trans f
          refine lv_iconst (v := (-1)) S.1 S.2.1 dX11_chance_22 (by decide) ?_
          exact o_iret S hr hlo I f dX11_chance_23
theorem M11_chance (l : Launch) (D : va_G) (cy : Nat → ClassId) (b : Nat) (A : Nat → Prop) {h : PH} {a0 : Nat} {x1 : Int32} {x2 : Int32} {x3 : Int32} {out : Int32 × PH} (f : F11_chance h a0 x1 x2 x3 = some out) : Met l yX11_chance vX11_chance ({ frames := 7, cells := 0, slots := 0, locals := 177 } : Room) (va_Pc [.ref (b + a0), .int x1, .int x2, .int x3] (ph_B D cy b A false h)) (va_Qi (fun (r : Int32) (u : PH) => (r, u) = out) (ph_B D cy b A false) A) 0 0 A :=
  o_met (by decide) rfl (Nat.le_of_ble_eq_true rfl) rfl (fun p e s m below meth c S hr hlo hnm ls hl I => T11_chance_0 S hr hlo ((gd f).2) I (lv_sub hl [0, 1, 2, 3] rfl))
def vX11_changeTrial : List Cond := .code yX11_changeTrial cX11_changeTrial 3 none :: TB
theorem lf11_changeTrial_41 : Fl vX11_changeTrial RX11 41 11 6 := ⟨RX11, TX11, 14, rfl, by decide, (fun w h9 => List.mem_cons_of_mem _ (wC_wsX110 w h9)), (List.mem_cons_of_mem _ wT_2_4)⟩
theorem gX11_changeTrial_X6_makeNobodyBold : GoodIn vX11_changeTrial (wsV RX11 402 RX6 yX6_makeNobodyBold vX6_makeNobodyBold) := gV_of wT_65_5 wT_65_6 wT_65_7 wT_2_2 wT_65_8
theorem lf11_changeTrial_51 : Fl vX11_changeTrial RX11 51 11 8 := ⟨RX11, TX11, 14, rfl, by decide, (fun w h9 => List.mem_cons_of_mem _ (wC_wsX110 w h9)), (List.mem_cons_of_mem _ wT_2_9)⟩
theorem gX11_changeTrial_X4_leaveOut : GoodIn vX11_changeTrial (wsV RX11 405 RX4 yX4_leaveOut vX4_leaveOut) := gV_of wT_65_9 wT_65_10 wT_65_11 wT_2_7 wT_65_12
theorem gX11_changeTrial_X6_holdPeak : GoodIn vX11_changeTrial (wsV RX11 408 RX6 yX6_holdPeak vX6_holdPeak) := gV_of wT_65_14 wT_65_15 wT_65_16 wT_2_2 wT_65_17
theorem gX11_changeTrial_X6_giveBoards : GoodIn vX11_changeTrial (wsV RX11 411 RX6 yX6_giveBoards vX6_giveBoards) := gV_of wT_65_18 wT_65_19 wT_65_20 wT_2_2 wT_65_21
theorem lf11_changeTrial_122 : Fl vX11_changeTrial RX11 122 4 5 := ⟨RX4, TX4, 11, rfl, by decide, (fun w h9 => List.mem_cons_of_mem _ (wC_wsX40 w h9)), (List.mem_cons_of_mem _ wT_33_11)⟩
theorem gX11_changeTrial_X4_seatAll : GoodIn vX11_changeTrial (wsV RX11 414 RX4 yX4_seatAll vX4_seatAll) := gV_of wT_65_22 wT_65_23 wT_66_0 wT_2_7 wT_66_1
theorem cd11_changeTrial : Cd yX11_changeTrial 2 := ⟨by decide, by decide, by decide +kernel⟩
set_option maxHeartbeats 4000000 in
set_option maxRecDepth 100000 in
theorem T11_changeTrial_0 (S : CallFix p m c cX11_changeTrial 3 s args vX11_changeTrial RX11) (hr : meth.sig.returnType = none) (hlo : meth.locks = false) {out : PH} {h : PH} {a0 : Nat} {x1 : Int32} {x2 : Int32} (f : F11_changeTrial_0  h a0 x1 x2 = some out) {H : Heap} {locs : List Loc} (I : ph_I D cy b A fl h s H locs) {ls : Array Slot} (hl : lv_has ls 3 [(0, .ref (b + a0)), (1, .int x1), (2, .int x2)]) : W p l e ({ frames := 1, cells := 0, slots := 0, locals := 22 } : Room) s m args below meth c H locs 0 0 (MQ below (va_Qv (fun (u : PH) => u = out) (ph_B D cy b A fl) A) args s 0 0 A) (F0 m 0 ls []) := by
  unfold F11_changeTrial_0 at f
  refine lv_iload_n S.1 S.2.1 dX11_changeTrial_0 rfl (lv_at hl 1 rfl) ?_
  rcases Decidable.em (x1 = 0) with q1 | q1
  · have f := (if_pos q1).symm.trans f
    refine lv_tableIn (off := 31) (tgt := 32) S.1 S.2.1 dX11_changeTrial_1 (by rw [q1]; decide) (by rw [q1]; decide) (by rw [q1]; rfl) (by decide) ?_
    refine lv_aload_n S.1 S.2.1 dX11_changeTrial_32 rfl (lv_at hl 0 rfl) ?_
    obtain ⟨r2, e3, f⟩ := ob f
    refine o_gR S lf11_changeTrial_41 I e3 dX11_changeTrial_33 ?_
    obtain ⟨o4, e5, f⟩ := ob f
    refine o_Vv S (As := []) (rest := []) (ci := 6) (M6_makeNobodyBold l D cy b A fl e5) gX11_changeTrial_X6_makeNobodyBold rfl rfl rfl cd6_makeNobodyBold ⟨Nat.le_of_ble_eq_true rfl, Nat.le_of_ble_eq_true rfl⟩ I (gd e5).1 clX6 rfl rfl hl.1 rfl (Nat.le_of_ble_eq_true rfl) dX11_changeTrial_36 ⟨Nat.le_of_ble_eq_true rfl, Nat.le_of_ble_eq_true rfl⟩ (fun H locs I => ?_)
    refine lv_goto (tgt := 91) S.1 S.2.1 dX11_changeTrial_39 (by decide) ?_
    exact o_vret S hr hlo I f dX11_changeTrial_91
  have f := (if_neg q1).symm.trans f
  rcases Decidable.em (x1 = 1) with q6 | q6
  · have f := (if_pos q6).symm.trans f
    refine lv_tableIn (off := 41) (tgt := 42) S.1 S.2.1 dX11_changeTrial_1 (by rw [q6]; decide) (by rw [q6]; decide) (by rw [q6]; rfl) (by decide) ?_
    refine lv_aload_n S.1 S.2.1 dX11_changeTrial_42 rfl (lv_at hl 0 rfl) ?_
    obtain ⟨r7, e8, f⟩ := ob f
    refine o_gR S lf11_changeTrial_51 I e8 dX11_changeTrial_43 ?_
    refine lv_iload_n S.1 S.2.1 dX11_changeTrial_46 rfl (lv_at hl 2 rfl) ?_
    obtain ⟨o9, e10, f⟩ := ob f
    refine o_Vv S (As := [.int x2]) (rest := []) (ci := 4) (M4_leaveOut l D cy b A fl e10) gX11_changeTrial_X4_leaveOut rfl rfl rfl cd4_leaveOut ⟨Nat.le_of_ble_eq_true rfl, Nat.le_of_ble_eq_true rfl⟩ I (gd e10).1 clX4 rfl rfl hl.1 rfl (Nat.le_of_ble_eq_true rfl) dX11_changeTrial_47 ⟨Nat.le_of_ble_eq_true rfl, Nat.le_of_ble_eq_true rfl⟩ (fun H locs I => ?_)
    refine lv_goto (tgt := 91) S.1 S.2.1 dX11_changeTrial_50 (by decide) ?_
    exact o_vret S hr hlo I f dX11_changeTrial_91
  have f := (if_neg q6).symm.trans f
  rcases Decidable.em (x1 = 2) with q11 | q11
  · have f := (if_pos q11).symm.trans f
    refine lv_tableIn (off := 52) (tgt := 53) S.1 S.2.1 dX11_changeTrial_1 (by rw [q11]; decide) (by rw [q11]; decide) (by rw [q11]; rfl) (by decide) ?_
    refine lv_aload_n S.1 S.2.1 dX11_changeTrial_53 rfl (lv_at hl 0 rfl) ?_
    obtain ⟨r12, e13, f⟩ := ob f
    refine o_gR S lf11_changeTrial_41 I e13 dX11_changeTrial_54 ?_
    obtain ⟨o14, e15, f⟩ := ob f
    refine o_Vv S (As := []) (rest := []) (ci := 6) (M6_holdPeak l D cy b A fl e15) gX11_changeTrial_X6_holdPeak rfl rfl rfl cd6_holdPeak ⟨Nat.le_of_ble_eq_true rfl, Nat.le_of_ble_eq_true rfl⟩ I (gd e15).1 clX6 rfl rfl hl.1 rfl (Nat.le_of_ble_eq_true rfl) dX11_changeTrial_57 ⟨Nat.le_of_ble_eq_true rfl, Nat.le_of_ble_eq_true rfl⟩ (fun H locs I => ?_)
    refine lv_goto (tgt := 91) S.1 S.2.1 dX11_changeTrial_60 (by decide) ?_
    exact o_vret S hr hlo I f dX11_changeTrial_91
  have f := (if_neg q11).symm.trans f
  rcases Decidable.em (x1 = 3) with q16 | q16
  · have f := (if_pos q16).symm.trans f
    refine lv_tableIn (off := 62) (tgt := 63) S.1 S.2.1 dX11_changeTrial_1 (by rw [q16]; decide) (by rw [q16]; decide) (by rw [q16]; rfl) (by decide) ?_
    refine lv_aload_n S.1 S.2.1 dX11_changeTrial_63 rfl (lv_at hl 0 rfl) ?_
    obtain ⟨r17, e18, f⟩ := ob f
    refine o_gR S lf11_changeTrial_41 I e18 dX11_changeTrial_64 ?_
    refine lv_bipush (v := 9) S.1 S.2.1 dX11_changeTrial_67 (by decide) ?_
    obtain ⟨o19, e20, f⟩ := ob f
    refine o_Vv S (As := [.int 9]) (rest := []) (ci := 6) (M6_giveBoards l D cy b A fl e20) gX11_changeTrial_X6_giveBoards rfl rfl rfl cd6_giveBoards ⟨Nat.le_of_ble_eq_true rfl, Nat.le_of_ble_eq_true rfl⟩ I (gd e20).1 clX6 rfl rfl hl.1 rfl (Nat.le_of_ble_eq_true rfl) dX11_changeTrial_69 ⟨Nat.le_of_ble_eq_true rfl, Nat.le_of_ble_eq_true rfl⟩ (fun H locs I => ?_)
    refine lv_goto (tgt := 91) S.1 S.2.1 dX11_changeTrial_72 (by decide) ?_
    exact o_vret S hr hlo I f dX11_changeTrial_91
  have f := (if_neg q16).symm.trans f
  refine lv_tableOut (tgt := 75) S.1 S.2.1 dX11_changeTrial_1 (by have := lv_neT q1 (a := 0) (by decide); have := lv_neT q6 (a := 1) (by decide); have := lv_neT q11 (a := 2) (by decide); have := lv_neT q16 (a := 3) (by decide); omega) (by decide) ?_
  refine lv_aload_n S.1 S.2.1 dX11_changeTrial_75 rfl (lv_at hl 0 rfl) ?_
  obtain ⟨r21, e22, f⟩ := ob f
  refine o_gR S lf11_changeTrial_51 I e22 dX11_changeTrial_76 ?_
  refine lv_aload_n S.1 S.2.1 dX11_changeTrial_79 rfl (lv_at hl 0 rfl) ?_
  obtain ⟨r23, e24, f⟩ := ob f
  refine o_gR S lf11_changeTrial_51 I e24 dX11_changeTrial_80 ?_
  obtain ⟨r25, e26, f⟩ := ob f
  refine o_gR S lf11_changeTrial_122 I e26 dX11_changeTrial_83 ?_
  refine lv_iload_n S.1 S.2.1 dX11_changeTrial_86 rfl (lv_at hl 2 rfl) ?_
  obtain ⟨v28, e27, f⟩ := ob f
  refine o_iald S I e27 dX11_changeTrial_87 ?_
  obtain ⟨o29, e30, f⟩ := ob f
  refine o_Vv S (As := [.int v28]) (rest := []) (ci := 4) (M4_seatAll l D cy b A fl e30) gX11_changeTrial_X4_seatAll rfl rfl rfl cd4_seatAll ⟨Nat.le_of_ble_eq_true rfl, Nat.le_of_ble_eq_true rfl⟩ I (gd e30).1 clX4 rfl rfl hl.1 rfl (Nat.le_of_ble_eq_true rfl) dX11_changeTrial_88 ⟨Nat.le_of_ble_eq_true rfl, Nat.le_of_ble_eq_true rfl⟩ (fun H locs I => ?_)
  exact o_vret S hr hlo I f dX11_changeTrial_91
theorem M11_changeTrial (l : Launch) (D : va_G) (cy : Nat → ClassId) (b : Nat) (A : Nat → Prop) (fl : Bool) {h : PH} {a0 : Nat} {x1 : Int32} {x2 : Int32} {out : PH} (f : F11_changeTrial h a0 x1 x2 = some out) : Met l yX11_changeTrial vX11_changeTrial ({ frames := 1, cells := 0, slots := 0, locals := 22 } : Room) (va_Pc [.ref (b + a0), .int x1, .int x2] (ph_B D cy b A fl h)) (va_Qv (fun (u : PH) => u = out) (ph_B D cy b A fl) A) 0 0 A :=
  o_met (by decide) rfl (Nat.le_of_ble_eq_true rfl) rfl (fun p e s m below meth c S hr hlo hnm ls hl I => T11_changeTrial_0 S hr hlo ((gd f).2) I (lv_sub hl [0, 1, 2] rfl))
def vX11_count : List Cond := .code yX11_count cX11_count 2 (some .int) :: TB
theorem lf11_count_18 : Fl vX11_count RX11 18 11 3 := ⟨RX11, TX11, 14, rfl, by decide, (fun w h9 => List.mem_cons_of_mem _ (wC_wsX110 w h9)), (List.mem_cons_of_mem _ wT_1_18)⟩
theorem lf11_count_173 : Fl vX11_count RX11 173 8 0 := ⟨RX8, TX8, 14, rfl, by decide, (fun w h9 => List.mem_cons_of_mem _ (wC_wsX80 w h9)), (List.mem_cons_of_mem _ wT_37_16)⟩
theorem lf11_count_381 : Fl vX11_count RX11 381 8 1 := ⟨RX8, TX8, 14, rfl, by decide, (fun w h9 => List.mem_cons_of_mem _ (wC_wsX80 w h9)), (List.mem_cons_of_mem _ wT_67_18)⟩
theorem lf11_count_102 : Fl vX11_count RX11 102 8 4 := ⟨RX8, TX8, 14, rfl, by decide, (fun w h9 => List.mem_cons_of_mem _ (wC_wsX80 w h9)), (List.mem_cons_of_mem _ wT_32_14)⟩
theorem lf11_count_106 : Fl vX11_count RX11 106 1 0 := ⟨RX1, TX1, 7, rfl, by decide, (fun w h9 => List.mem_cons_of_mem _ (wC_wsX10 w h9)), (List.mem_cons_of_mem _ wT_32_15)⟩
theorem lf11_count_150 : Fl vX11_count RX11 150 8 5 := ⟨RX8, TX8, 14, rfl, by decide, (fun w h9 => List.mem_cons_of_mem _ (wC_wsX80 w h9)), (List.mem_cons_of_mem _ wT_36_16)⟩
theorem lf11_count_253 : Fl vX11_count RX11 253 10 0 := ⟨RX10, TX10, 8, rfl, by decide, (fun w h9 => List.mem_cons_of_mem _ (wC_wsX100 w h9)), (List.mem_cons_of_mem _ wT_53_16)⟩
theorem lf11_count_299 : Fl vX11_count RX11 299 10 1 := ⟨RX10, TX10, 8, rfl, by decide, (fun w h9 => List.mem_cons_of_mem _ (wC_wsX100 w h9)), (List.mem_cons_of_mem _ wT_37_2)⟩
theorem lf11_count_384 : Fl vX11_count RX11 384 8 13 := ⟨RX8, TX8, 14, rfl, by decide, (fun w h9 => List.mem_cons_of_mem _ (wC_wsX80 w h9)), (List.mem_cons_of_mem _ wT_67_19)⟩
theorem lf11_count_47 : Fl vX11_count RX11 47 11 7 := ⟨RX11, TX11, 14, rfl, by decide, (fun w h9 => List.mem_cons_of_mem _ (wC_wsX110 w h9)), (List.mem_cons_of_mem _ wT_2_8)⟩
theorem lf11_count_186 : Fl vX11_count RX11 186 4 0 := ⟨RX4, TX4, 11, rfl, by decide, (fun w h9 => List.mem_cons_of_mem _ (wC_wsX40 w h9)), (List.mem_cons_of_mem _ wT_34_1)⟩
theorem lf11_count_217 : Fl vX11_count RX11 217 4 1 := ⟨RX4, TX4, 11, rfl, by decide, (fun w h9 => List.mem_cons_of_mem _ (wC_wsX40 w h9)), (List.mem_cons_of_mem _ wT_42_23)⟩
theorem lf11_count_287 : Fl vX11_count RX11 287 4 3 := ⟨RX4, TX4, 11, rfl, by decide, (fun w h9 => List.mem_cons_of_mem _ (wC_wsX40 w h9)), (List.mem_cons_of_mem _ wT_57_4)⟩
theorem lf11_count_290 : Fl vX11_count RX11 290 4 4 := ⟨RX4, TX4, 11, rfl, by decide, (fun w h9 => List.mem_cons_of_mem _ (wC_wsX40 w h9)), (List.mem_cons_of_mem _ wT_57_5)⟩
theorem gX11_count_X11_firstToCome : GoodIn vX11_count (wsV RX11 233 RX11 yX11_firstToCome vX11_firstToCome) := gV_of wT_49_9 wT_49_10 wT_49_11 wT_1_2 wT_49_12
theorem lf11_count_60 : Fl vX11_count RX11 60 11 11 := ⟨RX11, TX11, 14, rfl, by decide, (fun w h9 => List.mem_cons_of_mem _ (wC_wsX110 w h9)), (List.mem_cons_of_mem _ wT_2_14)⟩
theorem lf11_count_323 : Fl vX11_count RX11 323 3 0 := ⟨RX3, TX3, 7, rfl, by decide, (fun w h9 => List.mem_cons_of_mem _ (wC_wsX30 w h9)), (List.mem_cons_of_mem _ wT_23_18)⟩
theorem gX11_count_X3_howManyKnown : GoodIn vX11_count (wsV RX11 333 RX3 yX3_howManyKnown vX3_howManyKnown) := gV_of wT_63_14 wT_63_11 wT_63_12 wT_2_13 wT_63_13
theorem lf11_count_67 : Fl vX11_count RX11 67 11 12 := ⟨RX11, TX11, 14, rfl, by decide, (fun w h9 => List.mem_cons_of_mem _ (wC_wsX110 w h9)), (List.mem_cons_of_mem _ wT_2_18)⟩
theorem lf11_count_368 : Fl vX11_count RX11 368 9 0 := ⟨RX9, TX9, 3, rfl, by decide, (fun w h9 => List.mem_cons_of_mem _ (wC_wsX90 w h9)), (List.mem_cons_of_mem _ wT_23_20)⟩
set_option maxHeartbeats 4000000 in
set_option maxRecDepth 100000 in
theorem T11_count_0 (S : CallFix p m c cX11_count 2 s args vX11_count RX11) (hr : meth.sig.returnType = (some .int)) (hlo : meth.locks = false) {out : Int32 × PH} {h : PH} {a0 : Nat} {x1 : Int32} (f : F11_count_0  h a0 x1 = some out) {H : Heap} {locs : List Loc} (I : ph_I D cy b A fl h s H locs) {ls : Array Slot} (hl : lv_has ls 2 [(0, .ref (b + a0)), (1, .int x1)]) : W p l e ({ frames := 2, cells := 0, slots := 0, locals := 42 } : Room) s m args below meth c H locs 0 0 (MQ below (va_Qi (fun (r : Int32) (u : PH) => (r, u) = out) (ph_B D cy b A fl) A) args s 0 0 A) (F0 m 0 ls []) := by
  unfold F11_count_0 at f
  refine lv_iload_n S.1 S.2.1 dX11_count_0 rfl (lv_at hl 1 rfl) ?_
  rcases Decidable.em (x1 = 0) with q1 | q1
  · have f := (if_pos q1).symm.trans f
    refine lv_tableIn (off := 71) (tgt := 72) S.1 S.2.1 dX11_count_1 (by rw [q1]; decide) (by rw [q1]; decide) (by rw [q1]; rfl) (by decide) ?_
    refine lv_aload_n S.1 S.2.1 dX11_count_72 rfl (lv_at hl 0 rfl) ?_
    obtain ⟨r2, e3, f⟩ := ob f
    refine o_gR S lf11_count_18 I e3 dX11_count_73 ?_
    obtain ⟨v4, e5, f⟩ := ob f
    refine o_gI S lf11_count_173 I e5 dX11_count_76 ?_
    exact o_iret S hr hlo I f dX11_count_79
  have f := (if_neg q1).symm.trans f
  rcases Decidable.em (x1 = 1) with q6 | q6
  · have f := (if_pos q6).symm.trans f
    refine lv_tableIn (off := 79) (tgt := 80) S.1 S.2.1 dX11_count_1 (by rw [q6]; decide) (by rw [q6]; decide) (by rw [q6]; rfl) (by decide) ?_
    refine lv_aload_n S.1 S.2.1 dX11_count_80 rfl (lv_at hl 0 rfl) ?_
    obtain ⟨r7, e8, f⟩ := ob f
    refine o_gR S lf11_count_18 I e8 dX11_count_81 ?_
    obtain ⟨v9, e10, f⟩ := ob f
    refine o_gI S lf11_count_381 I e10 dX11_count_84 ?_
    exact o_iret S hr hlo I f dX11_count_87
  have f := (if_neg q6).symm.trans f
  rcases Decidable.em (x1 = 2) with q11 | q11
  · have f := (if_pos q11).symm.trans f
    refine lv_tableIn (off := 87) (tgt := 88) S.1 S.2.1 dX11_count_1 (by rw [q11]; decide) (by rw [q11]; decide) (by rw [q11]; rfl) (by decide) ?_
    refine lv_aload_n S.1 S.2.1 dX11_count_88 rfl (lv_at hl 0 rfl) ?_
    obtain ⟨r12, e13, f⟩ := ob f
    refine o_gR S lf11_count_18 I e13 dX11_count_89 ?_
    obtain ⟨r14, e15, f⟩ := ob f
    refine o_gR S lf11_count_102 I e15 dX11_count_92 ?_
    obtain ⟨v16, e17, f⟩ := ob f
    refine o_gI S lf11_count_106 I e17 dX11_count_95 ?_
    exact o_iret S hr hlo I f dX11_count_98
  have f := (if_neg q11).symm.trans f
  rcases Decidable.em (x1 = 3) with q18 | q18
  · have f := (if_pos q18).symm.trans f
    refine lv_tableIn (off := 98) (tgt := 99) S.1 S.2.1 dX11_count_1 (by rw [q18]; decide) (by rw [q18]; decide) (by rw [q18]; rfl) (by decide) ?_
    refine lv_aload_n S.1 S.2.1 dX11_count_99 rfl (lv_at hl 0 rfl) ?_
    obtain ⟨r19, e20, f⟩ := ob f
    refine o_gR S lf11_count_18 I e20 dX11_count_100 ?_
    obtain ⟨r21, e22, f⟩ := ob f
    refine o_gR S lf11_count_150 I e22 dX11_count_103 ?_
    obtain ⟨v23, e24, f⟩ := ob f
    refine o_gI S lf11_count_253 I e24 dX11_count_106 ?_
    exact o_iret S hr hlo I f dX11_count_109
  have f := (if_neg q18).symm.trans f
  rcases Decidable.em (x1 = 4) with q25 | q25
  · have f := (if_pos q25).symm.trans f
    refine lv_tableIn (off := 109) (tgt := 110) S.1 S.2.1 dX11_count_1 (by rw [q25]; decide) (by rw [q25]; decide) (by rw [q25]; rfl) (by decide) ?_
    refine lv_aload_n S.1 S.2.1 dX11_count_110 rfl (lv_at hl 0 rfl) ?_
    obtain ⟨r26, e27, f⟩ := ob f
    refine o_gR S lf11_count_18 I e27 dX11_count_111 ?_
    obtain ⟨r28, e29, f⟩ := ob f
    refine o_gR S lf11_count_150 I e29 dX11_count_114 ?_
    obtain ⟨v30, e31, f⟩ := ob f
    refine o_gI S lf11_count_299 I e31 dX11_count_117 ?_
    exact o_iret S hr hlo I f dX11_count_120
  have f := (if_neg q25).symm.trans f
  rcases Decidable.em (x1 = 5) with q32 | q32
  · have f := (if_pos q32).symm.trans f
    refine lv_tableIn (off := 120) (tgt := 121) S.1 S.2.1 dX11_count_1 (by rw [q32]; decide) (by rw [q32]; decide) (by rw [q32]; rfl) (by decide) ?_
    refine lv_aload_n S.1 S.2.1 dX11_count_121 rfl (lv_at hl 0 rfl) ?_
    obtain ⟨r33, e34, f⟩ := ob f
    refine o_gR S lf11_count_18 I e34 dX11_count_122 ?_
    obtain ⟨v35, e36, f⟩ := ob f
    refine o_gI S lf11_count_384 I e36 dX11_count_125 ?_
    exact o_iret S hr hlo I f dX11_count_128
  have f := (if_neg q32).symm.trans f
  rcases Decidable.em (x1 = 6) with q37 | q37
  · have f := (if_pos q37).symm.trans f
    refine lv_tableIn (off := 128) (tgt := 129) S.1 S.2.1 dX11_count_1 (by rw [q37]; decide) (by rw [q37]; decide) (by rw [q37]; rfl) (by decide) ?_
    refine lv_aload_n S.1 S.2.1 dX11_count_129 rfl (lv_at hl 0 rfl) ?_
    obtain ⟨r38, e39, f⟩ := ob f
    refine o_gR S lf11_count_47 I e39 dX11_count_130 ?_
    obtain ⟨v40, e41, f⟩ := ob f
    refine o_gI S lf11_count_186 I e41 dX11_count_133 ?_
    exact o_iret S hr hlo I f dX11_count_136
  have f := (if_neg q37).symm.trans f
  rcases Decidable.em (x1 = 7) with q42 | q42
  · have f := (if_pos q42).symm.trans f
    refine lv_tableIn (off := 136) (tgt := 137) S.1 S.2.1 dX11_count_1 (by rw [q42]; decide) (by rw [q42]; decide) (by rw [q42]; rfl) (by decide) ?_
    refine lv_aload_n S.1 S.2.1 dX11_count_137 rfl (lv_at hl 0 rfl) ?_
    obtain ⟨r43, e44, f⟩ := ob f
    refine o_gR S lf11_count_47 I e44 dX11_count_138 ?_
    obtain ⟨v45, e46, f⟩ := ob f
    refine o_gI S lf11_count_217 I e46 dX11_count_141 ?_
    exact o_iret S hr hlo I f dX11_count_144
  have f := (if_neg q42).symm.trans f
  rcases Decidable.em (x1 = 8) with q47 | q47
  · have f := (if_pos q47).symm.trans f
    refine lv_tableIn (off := 144) (tgt := 145) S.1 S.2.1 dX11_count_1 (by rw [q47]; decide) (by rw [q47]; decide) (by rw [q47]; rfl) (by decide) ?_
    refine lv_aload_n S.1 S.2.1 dX11_count_145 rfl (lv_at hl 0 rfl) ?_
    obtain ⟨r48, e49, f⟩ := ob f
    refine o_gR S lf11_count_47 I e49 dX11_count_146 ?_
    obtain ⟨v50, e51, f⟩ := ob f
    refine o_gI S lf11_count_287 I e51 dX11_count_149 ?_
    exact o_iret S hr hlo I f dX11_count_152
  have f := (if_neg q47).symm.trans f
  rcases Decidable.em (x1 = 9) with q52 | q52
  · have f := (if_pos q52).symm.trans f
    refine lv_tableIn (off := 152) (tgt := 153) S.1 S.2.1 dX11_count_1 (by rw [q52]; decide) (by rw [q52]; decide) (by rw [q52]; rfl) (by decide) ?_
    refine lv_aload_n S.1 S.2.1 dX11_count_153 rfl (lv_at hl 0 rfl) ?_
    obtain ⟨r53, e54, f⟩ := ob f
    refine o_gR S lf11_count_47 I e54 dX11_count_154 ?_
    obtain ⟨v55, e56, f⟩ := ob f
    refine o_gI S lf11_count_290 I e56 dX11_count_157 ?_
    exact o_iret S hr hlo I f dX11_count_160
  have f := (if_neg q52).symm.trans f
  rcases Decidable.em (x1 = 10) with q57 | q57
  · have f := (if_pos q57).symm.trans f
    refine lv_tableIn (off := 160) (tgt := 161) S.1 S.2.1 dX11_count_1 (by rw [q57]; decide) (by rw [q57]; decide) (by rw [q57]; rfl) (by decide) ?_
    refine lv_aload_n S.1 S.2.1 dX11_count_161 rfl (lv_at hl 0 rfl) ?_
    obtain ⟨r58, e59, f⟩ := ob f
    refine o_gR S lf11_count_18 I e59 dX11_count_162 ?_
    obtain ⟨r60, e61, f⟩ := ob f
    refine o_gR S lf11_count_150 I e61 dX11_count_165 ?_
    obtain ⟨v62, e63, f⟩ := ob f
    refine o_gI S lf11_count_299 I e63 dX11_count_168 ?_
    refine lv_aload_n S.1 S.2.1 dX11_count_171 rfl (lv_at hl 0 rfl) ?_
    obtain ⟨o64, e65, f⟩ := ob f
    refine o_Vi S (As := []) (rest := [.int v62]) (ci := 11) (M11_firstToCome l D cy b A fl e65) gX11_count_X11_firstToCome rfl rfl rfl cd11_firstToCome ⟨Nat.le_of_ble_eq_true rfl, Nat.le_of_ble_eq_true rfl⟩ I (gd e65).1 clX11 rfl rfl hl.1 rfl (Nat.le_of_ble_eq_true rfl) dX11_count_172 ⟨Nat.le_of_ble_eq_true rfl, Nat.le_of_ble_eq_true rfl⟩ (fun H locs I => ?_)
    refine lv_isub S.1 S.2.1 dX11_count_175 ?_
    exact o_iret S hr hlo I f dX11_count_176
  have f := (if_neg q57).symm.trans f
  rcases Decidable.em (x1 = 11) with q66 | q66
  · have f := (if_pos q66).symm.trans f
    refine lv_tableIn (off := 176) (tgt := 177) S.1 S.2.1 dX11_count_1 (by rw [q66]; decide) (by rw [q66]; decide) (by rw [q66]; rfl) (by decide) ?_
    refine lv_aload_n S.1 S.2.1 dX11_count_177 rfl (lv_at hl 0 rfl) ?_
    obtain ⟨r67, e68, f⟩ := ob f
    refine o_gR S lf11_count_60 I e68 dX11_count_178 ?_
    obtain ⟨v69, e70, f⟩ := ob f
    refine o_gI S lf11_count_323 I e70 dX11_count_181 ?_
    exact o_iret S hr hlo I f dX11_count_184
  have f := (if_neg q66).symm.trans f
  rcases Decidable.em (x1 = 12) with q71 | q71
  · have f := (if_pos q71).symm.trans f
    refine lv_tableIn (off := 184) (tgt := 185) S.1 S.2.1 dX11_count_1 (by rw [q71]; decide) (by rw [q71]; decide) (by rw [q71]; rfl) (by decide) ?_
    refine lv_aload_n S.1 S.2.1 dX11_count_185 rfl (lv_at hl 0 rfl) ?_
    obtain ⟨r72, e73, f⟩ := ob f
    refine o_gR S lf11_count_60 I e73 dX11_count_186 ?_
    obtain ⟨o74, e75, f⟩ := ob f
    refine o_Vi S (As := []) (rest := []) (ci := 3) (M3_howManyKnown l D cy b A fl e75) gX11_count_X3_howManyKnown rfl rfl rfl cd3_howManyKnown ⟨Nat.le_of_ble_eq_true rfl, Nat.le_of_ble_eq_true rfl⟩ I (gd e75).1 clX3 rfl rfl hl.1 rfl (Nat.le_of_ble_eq_true rfl) dX11_count_189 ⟨Nat.le_of_ble_eq_true rfl, Nat.le_of_ble_eq_true rfl⟩ (fun H locs I => ?_)
    exact o_iret S hr hlo I f dX11_count_192
  have f := (if_neg q71).symm.trans f
  rcases Decidable.em (x1 = 13) with q76 | q76
  · have f := (if_pos q76).symm.trans f
    refine lv_tableIn (off := 192) (tgt := 193) S.1 S.2.1 dX11_count_1 (by rw [q76]; decide) (by rw [q76]; decide) (by rw [q76]; rfl) (by decide) ?_
    refine lv_aload_n S.1 S.2.1 dX11_count_193 rfl (lv_at hl 0 rfl) ?_
    obtain ⟨r77, e78, f⟩ := ob f
    refine o_gR S lf11_count_67 I e78 dX11_count_194 ?_
    obtain ⟨v79, e80, f⟩ := ob f
    refine o_gI S lf11_count_368 I e80 dX11_count_197 ?_
    exact o_iret S hr hlo I f dX11_count_200
  have f := (if_neg q76).symm.trans f
  refine lv_tableOut (tgt := 201) S.1 S.2.1 dX11_count_1 (by have := lv_neT q1 (a := 0) (by decide); have := lv_neT q6 (a := 1) (by decide); have := lv_neT q11 (a := 2) (by decide); have := lv_neT q18 (a := 3) (by decide); have := lv_neT q25 (a := 4) (by decide); have := lv_neT q32 (a := 5) (by decide); have := lv_neT q37 (a := 6) (by decide); have := lv_neT q42 (a := 7) (by decide); have := lv_neT q47 (a := 8) (by decide); have := lv_neT q52 (a := 9) (by decide); have := lv_neT q57 (a := 10) (by decide); have := lv_neT q66 (a := 11) (by decide); have := lv_neT q71 (a := 12) (by decide); have := lv_neT q76 (a := 13) (by decide); omega) (by decide) ?_
  refine lv_iconst (v := (-1)) S.1 S.2.1 dX11_count_201 (by decide) ?_
  exact o_iret S hr hlo I f dX11_count_202
theorem M11_count (l : Launch) (D : va_G) (cy : Nat → ClassId) (b : Nat) (A : Nat → Prop) (fl : Bool) {h : PH} {a0 : Nat} {x1 : Int32} {out : Int32 × PH} (f : F11_count h a0 x1 = some out) : Met l yX11_count vX11_count ({ frames := 2, cells := 0, slots := 0, locals := 42 } : Room) (va_Pc [.ref (b + a0), .int x1] (ph_B D cy b A fl h)) (va_Qi (fun (r : Int32) (u : PH) => (r, u) = out) (ph_B D cy b A fl) A) 0 0 A :=
  o_met (by decide) rfl (Nat.le_of_ble_eq_true rfl) rfl (fun p e s m below meth c S hr hlo hnm ls hl I => T11_count_0 S hr hlo ((gd f).2) I (lv_sub hl [0, 1] rfl))
def vX11_farNow : List Cond := .code yX11_farNow cX11_farNow 2 (some .int) :: TB
theorem lf11_farNow_18 : Fl vX11_farNow RX11 18 11 3 := ⟨RX11, TX11, 14, rfl, by decide, (fun w h9 => List.mem_cons_of_mem _ (wC_wsX110 w h9)), (List.mem_cons_of_mem _ wT_1_18)⟩
theorem lf11_farNow_47 : Fl vX11_farNow RX11 47 11 7 := ⟨RX11, TX11, 14, rfl, by decide, (fun w h9 => List.mem_cons_of_mem _ (wC_wsX110 w h9)), (List.mem_cons_of_mem _ wT_2_8)⟩
theorem lf11_farNow_122 : Fl vX11_farNow RX11 122 4 5 := ⟨RX4, TX4, 11, rfl, by decide, (fun w h9 => List.mem_cons_of_mem _ (wC_wsX40 w h9)), (List.mem_cons_of_mem _ wT_33_11)⟩
theorem lf11_farNow_37 : Fl vX11_farNow RX11 37 11 5 := ⟨RX11, TX11, 14, rfl, by decide, (fun w h9 => List.mem_cons_of_mem _ (wC_wsX110 w h9)), (List.mem_cons_of_mem _ wT_2_3)⟩
theorem lf11_farNow_186 : Fl vX11_farNow RX11 186 4 0 := ⟨RX4, TX4, 11, rfl, by decide, (fun w h9 => List.mem_cons_of_mem _ (wC_wsX40 w h9)), (List.mem_cons_of_mem _ wT_34_1)⟩
theorem gX11_farNow_X6_peakXAt : GoodIn vX11_farNow (wsV RX11 176 RX6 yX6_peakXAt vX6_peakXAt) := gV_of wT_34_2 wT_24_13 wT_24_14 wT_2_2 wT_24_15
theorem gX11_farNow_X8_farFrom : GoodIn vX11_farNow (wsV RX11 390 RX8 yX8_farFrom vX8_farFrom) := gV_of wT_34_3 wT_34_4 wT_34_5 wT_1_17 wT_34_6
theorem cd11_farNow : Cd yX11_farNow 1 := ⟨by decide, by decide, by decide +kernel⟩
set_option maxHeartbeats 4000000 in
set_option maxRecDepth 100000 in
theorem T11_farNow_0 (S : CallFix p m c cX11_farNow 2 s args vX11_farNow RX11) (hr : meth.sig.returnType = (some .int)) (hlo : meth.locks = false) {out : Int32 × PH} {h : PH} {a0 : Nat} {x1 : Int32} (f : F11_farNow_0  h a0 x1 = some out) {H : Heap} {locs : List Loc} (I : ph_I D cy b A fl h s H locs) {ls : Array Slot} (hl : lv_has ls 2 [(0, .ref (b + a0)), (1, .int x1)]) : W p l e ({ frames := 5, cells := 0, slots := 0, locals := 125 } : Room) s m args below meth c H locs 0 0 (MQ below (va_Qi (fun (r : Int32) (u : PH) => (r, u) = out) (ph_B D cy b A fl) A) args s 0 0 A) (F0 m 0 ls []) := by
  unfold F11_farNow_0 at f
  refine lv_aload_n S.1 S.2.1 dX11_farNow_0 rfl (lv_at hl 0 rfl) ?_
  obtain ⟨r1, e2, f⟩ := ob f
  refine o_gR S lf11_farNow_18 I e2 dX11_farNow_1 ?_
  refine lv_aload_n S.1 S.2.1 dX11_farNow_4 rfl (lv_at hl 0 rfl) ?_
  obtain ⟨r3, e4, f⟩ := ob f
  refine o_gR S lf11_farNow_47 I e4 dX11_farNow_5 ?_
  obtain ⟨r5, e6, f⟩ := ob f
  refine o_gR S lf11_farNow_122 I e6 dX11_farNow_8 ?_
  refine lv_iload_n S.1 S.2.1 dX11_farNow_11 rfl (lv_at hl 1 rfl) ?_
  obtain ⟨v8, e7, f⟩ := ob f
  refine o_iald S I e7 dX11_farNow_12 ?_
  refine lv_aload_n S.1 S.2.1 dX11_farNow_13 rfl (lv_at hl 0 rfl) ?_
  obtain ⟨r9, e10, f⟩ := ob f
  refine o_gR S lf11_farNow_37 I e10 dX11_farNow_14 ?_
  refine lv_aload_n S.1 S.2.1 dX11_farNow_17 rfl (lv_at hl 0 rfl) ?_
  obtain ⟨r11, e12, f⟩ := ob f
  refine o_gR S lf11_farNow_47 I e12 dX11_farNow_18 ?_
  obtain ⟨v13, e14, f⟩ := ob f
  refine o_gI S lf11_farNow_186 I e14 dX11_farNow_21 ?_
  obtain ⟨o15, e16, f⟩ := ob f
  refine o_Vi S (As := [.int v13]) (rest := [.int v8, .ref (b + r1)]) (ci := 6) (M6_peakXAt l D cy b A fl e16) gX11_farNow_X6_peakXAt rfl rfl rfl cd6_peakXAt ⟨Nat.le_of_ble_eq_true rfl, Nat.le_of_ble_eq_true rfl⟩ I (gd e16).1 clX6 rfl rfl hl.1 rfl (Nat.le_of_ble_eq_true rfl) dX11_farNow_24 ⟨Nat.le_of_ble_eq_true rfl, Nat.le_of_ble_eq_true rfl⟩ (fun H locs I => ?_)
  obtain ⟨o17, e18, f⟩ := ob f
  refine o_Vi S (As := [.int v8, .int o15.1]) (rest := []) (ci := 8) (M8_farFrom l D cy b A fl e18) gX11_farNow_X8_farFrom rfl rfl rfl cd8_farFrom ⟨Nat.le_of_ble_eq_true rfl, Nat.le_of_ble_eq_true rfl⟩ I (gd e18).1 clX8 rfl rfl hl.1 rfl (Nat.le_of_ble_eq_true rfl) dX11_farNow_27 ⟨Nat.le_of_ble_eq_true rfl, Nat.le_of_ble_eq_true rfl⟩ (fun H locs I => ?_)
  exact o_iret S hr hlo I f dX11_farNow_30
theorem M11_farNow (l : Launch) (D : va_G) (cy : Nat → ClassId) (b : Nat) (A : Nat → Prop) (fl : Bool) {h : PH} {a0 : Nat} {x1 : Int32} {out : Int32 × PH} (f : F11_farNow h a0 x1 = some out) : Met l yX11_farNow vX11_farNow ({ frames := 5, cells := 0, slots := 0, locals := 125 } : Room) (va_Pc [.ref (b + a0), .int x1] (ph_B D cy b A fl h)) (va_Qi (fun (r : Int32) (u : PH) => (r, u) = out) (ph_B D cy b A fl) A) 0 0 A :=
  o_met (by decide) rfl (Nat.le_of_ble_eq_true rfl) rfl (fun p e s m below meth c S hr hlo hnm ls hl I => T11_farNow_0 S hr hlo ((gd f).2) I (lv_sub hl [0, 1] rfl))
def vX11_deeper : List Cond := .code yX11_deeper cX11_deeper 5 (some .int) :: TB
theorem gX11_deeper_X11_isSurfer : GoodIn vX11_deeper (wsV RX11 115 RX11 yX11_isSurfer vX11_isSurfer) := gV_of wT_33_17 wT_33_18 wT_33_19 wT_1_2 wT_33_20
theorem gX11_deeper_X11_farNow : GoodIn vX11_deeper (wsV RX11 140 RX11 yX11_farNow vX11_farNow) := gV_of wT_33_21 wT_33_22 wT_33_23 wT_1_2 wT_34_0
set_option maxHeartbeats 4000000 in
set_option maxRecDepth 100000 in
theorem T11_deeper_0 (S : CallFix p m c cX11_deeper 5 s args vX11_deeper RX11) (hr : meth.sig.returnType = (some .int)) (hlo : meth.locks = false) {out : Int32 × PH} {h : PH} {a0 : Nat} {x1 : Int32} {x2 : Int32} (f : F11_deeper_0  h a0 x1 x2 = some out) {H : Heap} {locs : List Loc} (I : ph_I D cy b A fl h s H locs) {ls : Array Slot} (hl : lv_has ls 5 [(0, .ref (b + a0)), (1, .int x1), (2, .int x2)]) : W p l e ({ frames := 6, cells := 0, slots := 0, locals := 146 } : Room) s m args below meth c H locs 0 0 (MQ below (va_Qi (fun (r : Int32) (u : PH) => (r, u) = out) (ph_B D cy b A fl) A) args s 0 0 A) (F0 m 0 ls []) := by
  unfold F11_deeper_0 at f
  refine lv_aload_n S.1 S.2.1 dX11_deeper_0 rfl (lv_at hl 0 rfl) ?_
  refine lv_iload_n S.1 S.2.1 dX11_deeper_1 rfl (lv_at hl 1 rfl) ?_
  obtain ⟨o1, e2, f⟩ := ob f
  refine o_Vi S (As := [.int x1]) (rest := []) (ci := 11) (M11_isSurfer l D cy b A fl e2) gX11_deeper_X11_isSurfer rfl rfl rfl cd11_isSurfer ⟨Nat.le_of_ble_eq_true rfl, Nat.le_of_ble_eq_true rfl⟩ I (gd e2).1 clX11 rfl rfl hl.1 rfl (Nat.le_of_ble_eq_true rfl) dX11_deeper_2 ⟨Nat.le_of_ble_eq_true rfl, Nat.le_of_ble_eq_true rfl⟩ (fun H locs I => ?_)
  refine lv_if_eq (tgt := 16) S.1 S.2.1 dX11_deeper_5 (by decide) (fun q3 => ?_) (fun q3 => ?_)
  · have f := (if_pos q3).symm.trans f
    refine lv_iconst (v := (-1)) S.1 S.2.1 dX11_deeper_16 (by decide) ?_
    exact o_iret S hr hlo I f dX11_deeper_17
  · have f := (if_neg q3).symm.trans f
    refine lv_aload_n S.1 S.2.1 dX11_deeper_8 rfl (lv_at hl 0 rfl) ?_
    refine lv_iload_n S.1 S.2.1 dX11_deeper_9 rfl (lv_at hl 2 rfl) ?_
    obtain ⟨o4, e5, f⟩ := ob f
    refine o_Vi S (As := [.int x2]) (rest := []) (ci := 11) (M11_isSurfer l D cy b A fl e5) gX11_deeper_X11_isSurfer rfl rfl rfl cd11_isSurfer ⟨Nat.le_of_ble_eq_true rfl, Nat.le_of_ble_eq_true rfl⟩ I (gd e5).1 clX11 rfl rfl hl.1 rfl (Nat.le_of_ble_eq_true rfl) dX11_deeper_10 ⟨Nat.le_of_ble_eq_true rfl, Nat.le_of_ble_eq_true rfl⟩ (fun H locs I => ?_)
    refine lv_if_ne (tgt := 18) S.1 S.2.1 dX11_deeper_13 (by decide) (fun q6 => ?_) (fun q6 => ?_)
    · have f := (if_neg q6).symm.trans f
      refine lv_aload_n S.1 S.2.1 dX11_deeper_18 rfl (lv_at hl 0 rfl) ?_
      refine lv_iload_n S.1 S.2.1 dX11_deeper_19 rfl (lv_at hl 1 rfl) ?_
      obtain ⟨o7, e8, f⟩ := ob f
      refine o_Vi S (As := [.int x1]) (rest := []) (ci := 11) (M11_farNow l D cy b A fl e8) gX11_deeper_X11_farNow rfl rfl rfl cd11_farNow ⟨Nat.le_of_ble_eq_true rfl, Nat.le_of_ble_eq_true rfl⟩ I (gd e8).1 clX11 rfl rfl hl.1 rfl (Nat.le_of_ble_eq_true rfl) dX11_deeper_20 ⟨Nat.le_of_ble_eq_true rfl, Nat.le_of_ble_eq_true rfl⟩ (fun H locs I => ?_)
      refine lv_istore_n (lv' := [(3, .int o7.1), (0, .ref (b + a0)), (1, .int x1), (2, .int x2)]) S.1 S.2.1 dX11_deeper_23 rfl hl (by decide) rfl (fun ls hl => ?_)
      refine lv_aload_n S.1 S.2.1 dX11_deeper_24 rfl (lv_at hl 1 rfl) ?_
      refine lv_iload_n S.1 S.2.1 dX11_deeper_25 rfl (lv_at hl 3 rfl) ?_
      obtain ⟨o9, e10, f⟩ := ob f
      refine o_Vi S (As := [.int x2]) (rest := []) (ci := 11) (M11_farNow l D cy b A fl e10) gX11_deeper_X11_farNow rfl rfl rfl cd11_farNow ⟨Nat.le_of_ble_eq_true rfl, Nat.le_of_ble_eq_true rfl⟩ I (gd e10).1 clX11 rfl rfl hl.1 rfl (Nat.le_of_ble_eq_true rfl) dX11_deeper_26 ⟨Nat.le_of_ble_eq_true rfl, Nat.le_of_ble_eq_true rfl⟩ (fun H locs I => ?_)
      refine lv_istore (lv' := [(4, .int o9.1), (3, .int o7.1), (0, .ref (b + a0)), (1, .int x1), (2, .int x2)]) S.1 S.2.1 dX11_deeper_29 hl (by decide) rfl (fun ls hl => ?_)
      refine lv_iload_n S.1 S.2.1 dX11_deeper_31 rfl (lv_at hl 1 rfl) ?_
      refine lv_iload S.1 S.2.1 dX11_deeper_32 (lv_at hl 0 rfl) ?_
      refine lv_icmp_ne (tgt := 39) S.1 S.2.1 dX11_deeper_34 (by decide) (fun q11 => ?_) (fun q11 => ?_)
      · have f := (if_neg q11).symm.trans f
        refine lv_iload_n S.1 S.2.1 dX11_deeper_39 rfl (lv_at hl 1 rfl) ?_
        refine lv_iload S.1 S.2.1 dX11_deeper_40 (lv_at hl 0 rfl) ?_
        refine lv_icmp_ge (tgt := 49) S.1 S.2.1 dX11_deeper_42 (by decide) (fun q12 => ?_) (fun q12 => ?_)
        · have f := (if_pos q12).symm.trans f
          refine lv_iconst (v := 2) S.1 S.2.1 dX11_deeper_49 (by decide) ?_
          exact o_iret S hr hlo I f dX11_deeper_50
        · have f := (if_neg q12).symm.trans f
          refine lv_iconst (v := 1) S.1 S.2.1 dX11_deeper_45 (by decide) ?_
          refine lv_goto (tgt := 50) S.1 S.2.1 dX11_deeper_46 (by decide) ?_
          exact o_iret S hr hlo I f dX11_deeper_50
      · have f := (if_pos q11).symm.trans f
        refine lv_iconst (v := 0) S.1 S.2.1 dX11_deeper_37 (by decide) ?_
        exact o_iret S hr hlo I f dX11_deeper_38
    · have f := (if_pos q6).symm.trans f
      refine lv_iconst (v := (-1)) S.1 S.2.1 dX11_deeper_16 (by decide) ?_
      exact o_iret S hr hlo I f dX11_deeper_17
theorem M11_deeper (l : Launch) (D : va_G) (cy : Nat → ClassId) (b : Nat) (A : Nat → Prop) (fl : Bool) {h : PH} {a0 : Nat} {x1 : Int32} {x2 : Int32} {out : Int32 × PH} (f : F11_deeper h a0 x1 x2 = some out) : Met l yX11_deeper vX11_deeper ({ frames := 6, cells := 0, slots := 0, locals := 146 } : Room) (va_Pc [.ref (b + a0), .int x1, .int x2] (ph_B D cy b A fl h)) (va_Qi (fun (r : Int32) (u : PH) => (r, u) = out) (ph_B D cy b A fl) A) 0 0 A :=
  o_met (by decide) rfl (Nat.le_of_ble_eq_true rfl) rfl (fun p e s m below meth c S hr hlo hnm ls hl I => T11_deeper_0 S hr hlo ((gd f).2) I (lv_sub hl [0, 1, 2] rfl))
end
theorem zd_dX11_fairest_0 : sg (cX11_fairest.data.toList.drop 0) [[27], [156, 0, 5], [2], [172], [2], [61], [3], [62], [3], [54, 4], [3], [54, 5], [21, 5], [7], [162, 0, 86], [42], [21, 5], [27], [182, 1, 28], [42]] = true := by decide +kernel
theorem dX11_fairest_0 : decode cX11_fairest 0 = .ok (.iload_n 1, 1) := dc_27 (sg_at zd_dX11_fairest_0 0 rfl rfl)
theorem dX11_fairest_1 : decode cX11_fairest 1 = .ok (.ifCond .ge 5, 3) := dc_156 (sg_at zd_dX11_fairest_0 1 rfl rfl) rfl
theorem dX11_fairest_4 : decode cX11_fairest 4 = .ok (.iconst (-1), 1) := dc_2 (sg_at zd_dX11_fairest_0 2 rfl rfl)
theorem dX11_fairest_5 : decode cX11_fairest 5 = .ok (.ireturn, 1) := dc_172 (sg_at zd_dX11_fairest_0 3 rfl rfl)
theorem dX11_fairest_6 : decode cX11_fairest 6 = .ok (.iconst (-1), 1) := dc_2 (sg_at zd_dX11_fairest_0 4 rfl rfl)
theorem dX11_fairest_7 : decode cX11_fairest 7 = .ok (.istore_n 2, 1) := dc_61 (sg_at zd_dX11_fairest_0 5 rfl rfl)
theorem dX11_fairest_8 : decode cX11_fairest 8 = .ok (.iconst 0, 1) := dc_3 (sg_at zd_dX11_fairest_0 6 rfl rfl)
theorem dX11_fairest_9 : decode cX11_fairest 9 = .ok (.istore_n 3, 1) := dc_62 (sg_at zd_dX11_fairest_0 7 rfl rfl)
theorem dX11_fairest_10 : decode cX11_fairest 10 = .ok (.iconst 0, 1) := dc_3 (sg_at zd_dX11_fairest_0 8 rfl rfl)
theorem dX11_fairest_11 : decode cX11_fairest 11 = .ok (.istore 4, 2) := dc_54 (sg_at zd_dX11_fairest_0 9 rfl rfl)
theorem dX11_fairest_13 : decode cX11_fairest 13 = .ok (.iconst 0, 1) := dc_3 (sg_at zd_dX11_fairest_0 10 rfl rfl)
theorem dX11_fairest_14 : decode cX11_fairest 14 = .ok (.istore 5, 2) := dc_54 (sg_at zd_dX11_fairest_0 11 rfl rfl)
theorem dX11_fairest_16 : decode cX11_fairest 16 = .ok (.iload 5, 2) := dc_21 (sg_at zd_dX11_fairest_0 12 rfl rfl)
theorem dX11_fairest_18 : decode cX11_fairest 18 = .ok (.iconst 4, 1) := dc_7 (sg_at zd_dX11_fairest_0 13 rfl rfl)
theorem dX11_fairest_19 : decode cX11_fairest 19 = .ok (.if_icmp .ge 86, 3) := dc_162 (sg_at zd_dX11_fairest_0 14 rfl rfl) rfl
theorem dX11_fairest_22 : decode cX11_fairest 22 = .ok (.aload_n 0, 1) := dc_42 (sg_at zd_dX11_fairest_0 15 rfl rfl)
theorem dX11_fairest_23 : decode cX11_fairest 23 = .ok (.iload 5, 2) := dc_21 (sg_at zd_dX11_fairest_0 16 rfl rfl)
theorem dX11_fairest_25 : decode cX11_fairest 25 = .ok (.iload_n 1, 1) := dc_27 (sg_at zd_dX11_fairest_0 17 rfl rfl)
theorem dX11_fairest_26 : decode cX11_fairest 26 = .ok (.invokevirtual 284, 3) := dc_182 (sg_at zd_dX11_fairest_0 18 rfl rfl) rfl
theorem dX11_fairest_29 : decode cX11_fairest 29 = .ok (.aload_n 0, 1) := dc_42 (sg_at zd_dX11_fairest_0 19 rfl rfl)
theorem zd_dX11_fairest_30 : sg (cX11_fairest.data.toList.drop 30) [[180, 0, 51], [42], [180, 0, 18], [180, 0, 102], [180, 0, 106], [182, 1, 37], [54, 6], [42], [180, 0, 51], [180, 1, 31], [42], [180, 0, 51], [180, 1, 34], [96], [54, 7], [28], [2], [159, 0, 22], [21, 6], [29]] = true := by decide +kernel
theorem dX11_fairest_30 : decode cX11_fairest 30 = .ok (.getfield 51, 3) := dc_180 (sg_at zd_dX11_fairest_30 0 rfl rfl) rfl
theorem dX11_fairest_33 : decode cX11_fairest 33 = .ok (.aload_n 0, 1) := dc_42 (sg_at zd_dX11_fairest_30 1 rfl rfl)
theorem dX11_fairest_34 : decode cX11_fairest 34 = .ok (.getfield 18, 3) := dc_180 (sg_at zd_dX11_fairest_30 2 rfl rfl) rfl
theorem dX11_fairest_37 : decode cX11_fairest 37 = .ok (.getfield 102, 3) := dc_180 (sg_at zd_dX11_fairest_30 3 rfl rfl) rfl
theorem dX11_fairest_40 : decode cX11_fairest 40 = .ok (.getfield 106, 3) := dc_180 (sg_at zd_dX11_fairest_30 4 rfl rfl) rfl
theorem dX11_fairest_43 : decode cX11_fairest 43 = .ok (.invokevirtual 293, 3) := dc_182 (sg_at zd_dX11_fairest_30 5 rfl rfl) rfl
theorem dX11_fairest_46 : decode cX11_fairest 46 = .ok (.istore 6, 2) := dc_54 (sg_at zd_dX11_fairest_30 6 rfl rfl)
theorem dX11_fairest_48 : decode cX11_fairest 48 = .ok (.aload_n 0, 1) := dc_42 (sg_at zd_dX11_fairest_30 7 rfl rfl)
theorem dX11_fairest_49 : decode cX11_fairest 49 = .ok (.getfield 51, 3) := dc_180 (sg_at zd_dX11_fairest_30 8 rfl rfl) rfl
theorem dX11_fairest_52 : decode cX11_fairest 52 = .ok (.getfield 287, 3) := dc_180 (sg_at zd_dX11_fairest_30 9 rfl rfl) rfl
theorem dX11_fairest_55 : decode cX11_fairest 55 = .ok (.aload_n 0, 1) := dc_42 (sg_at zd_dX11_fairest_30 10 rfl rfl)
theorem dX11_fairest_56 : decode cX11_fairest 56 = .ok (.getfield 51, 3) := dc_180 (sg_at zd_dX11_fairest_30 11 rfl rfl) rfl
theorem dX11_fairest_59 : decode cX11_fairest 59 = .ok (.getfield 290, 3) := dc_180 (sg_at zd_dX11_fairest_30 12 rfl rfl) rfl
theorem dX11_fairest_62 : decode cX11_fairest 62 = .ok (.iadd, 1) := dc_96 (sg_at zd_dX11_fairest_30 13 rfl rfl)
theorem dX11_fairest_63 : decode cX11_fairest 63 = .ok (.istore 7, 2) := dc_54 (sg_at zd_dX11_fairest_30 14 rfl rfl)
theorem dX11_fairest_65 : decode cX11_fairest 65 = .ok (.iload_n 2, 1) := dc_28 (sg_at zd_dX11_fairest_30 15 rfl rfl)
theorem dX11_fairest_66 : decode cX11_fairest 66 = .ok (.iconst (-1), 1) := dc_2 (sg_at zd_dX11_fairest_30 16 rfl rfl)
theorem dX11_fairest_67 : decode cX11_fairest 67 = .ok (.if_icmp .eq 22, 3) := dc_159 (sg_at zd_dX11_fairest_30 17 rfl rfl) rfl
theorem dX11_fairest_70 : decode cX11_fairest 70 = .ok (.iload 6, 2) := dc_21 (sg_at zd_dX11_fairest_30 18 rfl rfl)
theorem dX11_fairest_72 : decode cX11_fairest 72 = .ok (.iload_n 3, 1) := dc_29 (sg_at zd_dX11_fairest_30 19 rfl rfl)
theorem zd_dX11_fairest_73 : sg (cX11_fairest.data.toList.drop 73) [[161, 0, 16], [21, 6], [29], [160, 0, 20], [21, 7], [21, 4], [162, 0, 13], [21, 5], [61], [21, 6], [62], [21, 7], [54, 4], [132, 5, 1], [167, 255, 170], [28], [172]] = true := by decide +kernel
theorem dX11_fairest_73 : decode cX11_fairest 73 = .ok (.if_icmp .lt 16, 3) := dc_161 (sg_at zd_dX11_fairest_73 0 rfl rfl) rfl
theorem dX11_fairest_76 : decode cX11_fairest 76 = .ok (.iload 6, 2) := dc_21 (sg_at zd_dX11_fairest_73 1 rfl rfl)
theorem dX11_fairest_78 : decode cX11_fairest 78 = .ok (.iload_n 3, 1) := dc_29 (sg_at zd_dX11_fairest_73 2 rfl rfl)
theorem dX11_fairest_79 : decode cX11_fairest 79 = .ok (.if_icmp .ne 20, 3) := dc_160 (sg_at zd_dX11_fairest_73 3 rfl rfl) rfl
theorem dX11_fairest_82 : decode cX11_fairest 82 = .ok (.iload 7, 2) := dc_21 (sg_at zd_dX11_fairest_73 4 rfl rfl)
theorem dX11_fairest_84 : decode cX11_fairest 84 = .ok (.iload 4, 2) := dc_21 (sg_at zd_dX11_fairest_73 5 rfl rfl)
theorem dX11_fairest_86 : decode cX11_fairest 86 = .ok (.if_icmp .ge 13, 3) := dc_162 (sg_at zd_dX11_fairest_73 6 rfl rfl) rfl
theorem dX11_fairest_89 : decode cX11_fairest 89 = .ok (.iload 5, 2) := dc_21 (sg_at zd_dX11_fairest_73 7 rfl rfl)
theorem dX11_fairest_91 : decode cX11_fairest 91 = .ok (.istore_n 2, 1) := dc_61 (sg_at zd_dX11_fairest_73 8 rfl rfl)
theorem dX11_fairest_92 : decode cX11_fairest 92 = .ok (.iload 6, 2) := dc_21 (sg_at zd_dX11_fairest_73 9 rfl rfl)
theorem dX11_fairest_94 : decode cX11_fairest 94 = .ok (.istore_n 3, 1) := dc_62 (sg_at zd_dX11_fairest_73 10 rfl rfl)
theorem dX11_fairest_95 : decode cX11_fairest 95 = .ok (.iload 7, 2) := dc_21 (sg_at zd_dX11_fairest_73 11 rfl rfl)
theorem dX11_fairest_97 : decode cX11_fairest 97 = .ok (.istore 4, 2) := dc_54 (sg_at zd_dX11_fairest_73 12 rfl rfl)
theorem dX11_fairest_99 : decode cX11_fairest 99 = .ok (.iinc 5 1, 3) := dc_132 (sg_at zd_dX11_fairest_73 13 rfl rfl) rfl
theorem dX11_fairest_102 : decode cX11_fairest 102 = .ok (.goto (-86), 3) := dc_167 (sg_at zd_dX11_fairest_73 14 rfl rfl) rfl
theorem dX11_fairest_105 : decode cX11_fairest 105 = .ok (.iload_n 2, 1) := dc_28 (sg_at zd_dX11_fairest_73 15 rfl rfl)
theorem dX11_fairest_106 : decode cX11_fairest 106 = .ok (.ireturn, 1) := dc_172 (sg_at zd_dX11_fairest_73 16 rfl rfl)
theorem zd_dX11_fault_0 : sg (cX11_fault.data.toList.drop 0) [[27], [154, 0, 11], [42], [180, 0, 30], [180, 0, 96], [172], [27], [4], [160, 0, 13], [42], [180, 0, 30], [180, 0, 99], [167, 0, 4], [2], [172]] = true := by decide +kernel
theorem dX11_fault_0 : decode cX11_fault 0 = .ok (.iload_n 1, 1) := dc_27 (sg_at zd_dX11_fault_0 0 rfl rfl)
theorem dX11_fault_1 : decode cX11_fault 1 = .ok (.ifCond .ne 11, 3) := dc_154 (sg_at zd_dX11_fault_0 1 rfl rfl) rfl
theorem dX11_fault_4 : decode cX11_fault 4 = .ok (.aload_n 0, 1) := dc_42 (sg_at zd_dX11_fault_0 2 rfl rfl)
theorem dX11_fault_5 : decode cX11_fault 5 = .ok (.getfield 30, 3) := dc_180 (sg_at zd_dX11_fault_0 3 rfl rfl) rfl
theorem dX11_fault_8 : decode cX11_fault 8 = .ok (.getfield 96, 3) := dc_180 (sg_at zd_dX11_fault_0 4 rfl rfl) rfl
theorem dX11_fault_11 : decode cX11_fault 11 = .ok (.ireturn, 1) := dc_172 (sg_at zd_dX11_fault_0 5 rfl rfl)
theorem dX11_fault_12 : decode cX11_fault 12 = .ok (.iload_n 1, 1) := dc_27 (sg_at zd_dX11_fault_0 6 rfl rfl)
theorem dX11_fault_13 : decode cX11_fault 13 = .ok (.iconst 1, 1) := dc_4 (sg_at zd_dX11_fault_0 7 rfl rfl)
theorem dX11_fault_14 : decode cX11_fault 14 = .ok (.if_icmp .ne 13, 3) := dc_160 (sg_at zd_dX11_fault_0 8 rfl rfl) rfl
theorem dX11_fault_17 : decode cX11_fault 17 = .ok (.aload_n 0, 1) := dc_42 (sg_at zd_dX11_fault_0 9 rfl rfl)
theorem dX11_fault_18 : decode cX11_fault 18 = .ok (.getfield 30, 3) := dc_180 (sg_at zd_dX11_fault_0 10 rfl rfl) rfl
theorem dX11_fault_21 : decode cX11_fault 21 = .ok (.getfield 99, 3) := dc_180 (sg_at zd_dX11_fault_0 11 rfl rfl) rfl
theorem dX11_fault_24 : decode cX11_fault 24 = .ok (.goto 4, 3) := dc_167 (sg_at zd_dX11_fault_0 12 rfl rfl) rfl
theorem dX11_fault_27 : decode cX11_fault 27 = .ok (.iconst (-1), 1) := dc_2 (sg_at zd_dX11_fault_0 13 rfl rfl)
theorem dX11_fault_28 : decode cX11_fault 28 = .ok (.ireturn, 1) := dc_172 (sg_at zd_dX11_fault_0 14 rfl rfl)
theorem zd_dX11_putOnTape_0 : sg (cX11_putOnTape.data.toList.drop 0) [[16, 24], [61], [28], [155, 0, 42], [42], [180, 0, 78], [17, 2, 188], [162, 0, 32], [42], [180, 0, 11], [42], [180, 0, 78], [27], [28], [122], [145], [84], [42], [89], [180, 0, 78]] = true := by decide +kernel
theorem dX11_putOnTape_0 : decode cX11_putOnTape 0 = .ok (.bipush 24, 2) := dc_16 (sg_at zd_dX11_putOnTape_0 0 rfl rfl) rfl
theorem dX11_putOnTape_2 : decode cX11_putOnTape 2 = .ok (.istore_n 2, 1) := dc_61 (sg_at zd_dX11_putOnTape_0 1 rfl rfl)
theorem dX11_putOnTape_3 : decode cX11_putOnTape 3 = .ok (.iload_n 2, 1) := dc_28 (sg_at zd_dX11_putOnTape_0 2 rfl rfl)
theorem dX11_putOnTape_4 : decode cX11_putOnTape 4 = .ok (.ifCond .lt 42, 3) := dc_155 (sg_at zd_dX11_putOnTape_0 3 rfl rfl) rfl
theorem dX11_putOnTape_7 : decode cX11_putOnTape 7 = .ok (.aload_n 0, 1) := dc_42 (sg_at zd_dX11_putOnTape_0 4 rfl rfl)
theorem dX11_putOnTape_8 : decode cX11_putOnTape 8 = .ok (.getfield 78, 3) := dc_180 (sg_at zd_dX11_putOnTape_0 5 rfl rfl) rfl
theorem dX11_putOnTape_11 : decode cX11_putOnTape 11 = .ok (.sipush 700, 3) := dc_17 (sg_at zd_dX11_putOnTape_0 6 rfl rfl) rfl
theorem dX11_putOnTape_14 : decode cX11_putOnTape 14 = .ok (.if_icmp .ge 32, 3) := dc_162 (sg_at zd_dX11_putOnTape_0 7 rfl rfl) rfl
theorem dX11_putOnTape_17 : decode cX11_putOnTape 17 = .ok (.aload_n 0, 1) := dc_42 (sg_at zd_dX11_putOnTape_0 8 rfl rfl)
theorem dX11_putOnTape_18 : decode cX11_putOnTape 18 = .ok (.getfield 11, 3) := dc_180 (sg_at zd_dX11_putOnTape_0 9 rfl rfl) rfl
theorem dX11_putOnTape_21 : decode cX11_putOnTape 21 = .ok (.aload_n 0, 1) := dc_42 (sg_at zd_dX11_putOnTape_0 10 rfl rfl)
theorem dX11_putOnTape_22 : decode cX11_putOnTape 22 = .ok (.getfield 78, 3) := dc_180 (sg_at zd_dX11_putOnTape_0 11 rfl rfl) rfl
theorem dX11_putOnTape_25 : decode cX11_putOnTape 25 = .ok (.iload_n 1, 1) := dc_27 (sg_at zd_dX11_putOnTape_0 12 rfl rfl)
theorem dX11_putOnTape_26 : decode cX11_putOnTape 26 = .ok (.iload_n 2, 1) := dc_28 (sg_at zd_dX11_putOnTape_0 13 rfl rfl)
theorem dX11_putOnTape_27 : decode cX11_putOnTape 27 = .ok (.ishr, 1) := dc_122 (sg_at zd_dX11_putOnTape_0 14 rfl rfl)
theorem dX11_putOnTape_28 : decode cX11_putOnTape 28 = .ok (.i2b, 1) := dc_145 (sg_at zd_dX11_putOnTape_0 15 rfl rfl)
theorem dX11_putOnTape_29 : decode cX11_putOnTape 29 = .ok (.bastore, 1) := dc_84 (sg_at zd_dX11_putOnTape_0 16 rfl rfl)
theorem dX11_putOnTape_30 : decode cX11_putOnTape 30 = .ok (.aload_n 0, 1) := dc_42 (sg_at zd_dX11_putOnTape_0 17 rfl rfl)
theorem dX11_putOnTape_31 : decode cX11_putOnTape 31 = .ok (.dup, 1) := dc_89 (sg_at zd_dX11_putOnTape_0 18 rfl rfl)
theorem dX11_putOnTape_32 : decode cX11_putOnTape 32 = .ok (.getfield 78, 3) := dc_180 (sg_at zd_dX11_putOnTape_0 19 rfl rfl) rfl
theorem zd_dX11_putOnTape_35 : sg (cX11_putOnTape.data.toList.drop 35) [[4], [96], [181, 0, 78], [132, 2, 248], [167, 255, 216], [177]] = true := by decide +kernel
theorem dX11_putOnTape_35 : decode cX11_putOnTape 35 = .ok (.iconst 1, 1) := dc_4 (sg_at zd_dX11_putOnTape_35 0 rfl rfl)
theorem dX11_putOnTape_36 : decode cX11_putOnTape 36 = .ok (.iadd, 1) := dc_96 (sg_at zd_dX11_putOnTape_35 1 rfl rfl)
theorem dX11_putOnTape_37 : decode cX11_putOnTape 37 = .ok (.putfield 78, 3) := dc_181 (sg_at zd_dX11_putOnTape_35 2 rfl rfl) rfl
theorem dX11_putOnTape_40 : decode cX11_putOnTape 40 = .ok (.iinc 2 (-8), 3) := dc_132 (sg_at zd_dX11_putOnTape_35 3 rfl rfl) rfl
theorem dX11_putOnTape_43 : decode cX11_putOnTape 43 = .ok (.goto (-40), 3) := dc_167 (sg_at zd_dX11_putOnTape_35 4 rfl rfl) rfl
theorem dX11_putOnTape_46 : decode cX11_putOnTape 46 = .ok (.return_, 1) := dc_177 (sg_at zd_dX11_putOnTape_35 5 rfl rfl)
theorem zd_dX11_feed_0 : sg (cX11_feed.data.toList.drop 0) [[42], [180, 0, 78], [16, 20], [96], [17, 2, 188], [164, 0, 5], [2], [172], [42], [27], [182, 0, 82], [42], [28], [182, 0, 82], [42], [29], [182, 0, 82], [42], [21, 4], [182, 0, 82]] = true := by decide +kernel
theorem dX11_feed_0 : decode cX11_feed 0 = .ok (.aload_n 0, 1) := dc_42 (sg_at zd_dX11_feed_0 0 rfl rfl)
theorem dX11_feed_1 : decode cX11_feed 1 = .ok (.getfield 78, 3) := dc_180 (sg_at zd_dX11_feed_0 1 rfl rfl) rfl
theorem dX11_feed_4 : decode cX11_feed 4 = .ok (.bipush 20, 2) := dc_16 (sg_at zd_dX11_feed_0 2 rfl rfl) rfl
theorem dX11_feed_6 : decode cX11_feed 6 = .ok (.iadd, 1) := dc_96 (sg_at zd_dX11_feed_0 3 rfl rfl)
theorem dX11_feed_7 : decode cX11_feed 7 = .ok (.sipush 700, 3) := dc_17 (sg_at zd_dX11_feed_0 4 rfl rfl) rfl
theorem dX11_feed_10 : decode cX11_feed 10 = .ok (.if_icmp .le 5, 3) := dc_164 (sg_at zd_dX11_feed_0 5 rfl rfl) rfl
theorem dX11_feed_13 : decode cX11_feed 13 = .ok (.iconst (-1), 1) := dc_2 (sg_at zd_dX11_feed_0 6 rfl rfl)
theorem dX11_feed_14 : decode cX11_feed 14 = .ok (.ireturn, 1) := dc_172 (sg_at zd_dX11_feed_0 7 rfl rfl)
theorem dX11_feed_15 : decode cX11_feed 15 = .ok (.aload_n 0, 1) := dc_42 (sg_at zd_dX11_feed_0 8 rfl rfl)
theorem dX11_feed_16 : decode cX11_feed 16 = .ok (.iload_n 1, 1) := dc_27 (sg_at zd_dX11_feed_0 9 rfl rfl)
theorem dX11_feed_17 : decode cX11_feed 17 = .ok (.invokevirtual 82, 3) := dc_182 (sg_at zd_dX11_feed_0 10 rfl rfl) rfl
theorem dX11_feed_20 : decode cX11_feed 20 = .ok (.aload_n 0, 1) := dc_42 (sg_at zd_dX11_feed_0 11 rfl rfl)
theorem dX11_feed_21 : decode cX11_feed 21 = .ok (.iload_n 2, 1) := dc_28 (sg_at zd_dX11_feed_0 12 rfl rfl)
theorem dX11_feed_22 : decode cX11_feed 22 = .ok (.invokevirtual 82, 3) := dc_182 (sg_at zd_dX11_feed_0 13 rfl rfl) rfl
theorem dX11_feed_25 : decode cX11_feed 25 = .ok (.aload_n 0, 1) := dc_42 (sg_at zd_dX11_feed_0 14 rfl rfl)
theorem dX11_feed_26 : decode cX11_feed 26 = .ok (.iload_n 3, 1) := dc_29 (sg_at zd_dX11_feed_0 15 rfl rfl)
theorem dX11_feed_27 : decode cX11_feed 27 = .ok (.invokevirtual 82, 3) := dc_182 (sg_at zd_dX11_feed_0 16 rfl rfl) rfl
theorem dX11_feed_30 : decode cX11_feed 30 = .ok (.aload_n 0, 1) := dc_42 (sg_at zd_dX11_feed_0 17 rfl rfl)
theorem dX11_feed_31 : decode cX11_feed 31 = .ok (.iload 4, 2) := dc_21 (sg_at zd_dX11_feed_0 18 rfl rfl)
theorem dX11_feed_33 : decode cX11_feed 33 = .ok (.invokevirtual 82, 3) := dc_182 (sg_at zd_dX11_feed_0 19 rfl rfl) rfl
theorem zd_dX11_feed_36 : sg (cX11_feed.data.toList.drop 36) [[42], [21, 5], [182, 0, 82], [42], [180, 0, 78], [172]] = true := by decide +kernel
theorem dX11_feed_36 : decode cX11_feed 36 = .ok (.aload_n 0, 1) := dc_42 (sg_at zd_dX11_feed_36 0 rfl rfl)
theorem dX11_feed_37 : decode cX11_feed 37 = .ok (.iload 5, 2) := dc_21 (sg_at zd_dX11_feed_36 1 rfl rfl)
theorem dX11_feed_39 : decode cX11_feed 39 = .ok (.invokevirtual 82, 3) := dc_182 (sg_at zd_dX11_feed_36 2 rfl rfl) rfl
theorem dX11_feed_42 : decode cX11_feed 42 = .ok (.aload_n 0, 1) := dc_42 (sg_at zd_dX11_feed_36 3 rfl rfl)
theorem dX11_feed_43 : decode cX11_feed 43 = .ok (.getfield 78, 3) := dc_180 (sg_at zd_dX11_feed_36 4 rfl rfl) rfl
theorem dX11_feed_46 : decode cX11_feed 46 = .ok (.ireturn, 1) := dc_172 (sg_at zd_dX11_feed_36 5 rfl rfl)
theorem zd_dX11_gaps_0 : sg (cX11_gaps.data.toList.drop 0) [[27], [155, 0, 18], [27], [16, 99], [163, 0, 12], [28], [155, 0, 8], [28], [4], [164, 0, 5], [2], [172], [3], [62], [4], [54, 4], [21, 4], [42], [180, 0, 18], [180, 0, 150]] = true := by decide +kernel
theorem dX11_gaps_0 : decode cX11_gaps 0 = .ok (.iload_n 1, 1) := dc_27 (sg_at zd_dX11_gaps_0 0 rfl rfl)
theorem dX11_gaps_1 : decode cX11_gaps 1 = .ok (.ifCond .lt 18, 3) := dc_155 (sg_at zd_dX11_gaps_0 1 rfl rfl) rfl
theorem dX11_gaps_4 : decode cX11_gaps 4 = .ok (.iload_n 1, 1) := dc_27 (sg_at zd_dX11_gaps_0 2 rfl rfl)
theorem dX11_gaps_5 : decode cX11_gaps 5 = .ok (.bipush 99, 2) := dc_16 (sg_at zd_dX11_gaps_0 3 rfl rfl) rfl
theorem dX11_gaps_7 : decode cX11_gaps 7 = .ok (.if_icmp .gt 12, 3) := dc_163 (sg_at zd_dX11_gaps_0 4 rfl rfl) rfl
theorem dX11_gaps_10 : decode cX11_gaps 10 = .ok (.iload_n 2, 1) := dc_28 (sg_at zd_dX11_gaps_0 5 rfl rfl)
theorem dX11_gaps_11 : decode cX11_gaps 11 = .ok (.ifCond .lt 8, 3) := dc_155 (sg_at zd_dX11_gaps_0 6 rfl rfl) rfl
theorem dX11_gaps_14 : decode cX11_gaps 14 = .ok (.iload_n 2, 1) := dc_28 (sg_at zd_dX11_gaps_0 7 rfl rfl)
theorem dX11_gaps_15 : decode cX11_gaps 15 = .ok (.iconst 1, 1) := dc_4 (sg_at zd_dX11_gaps_0 8 rfl rfl)
theorem dX11_gaps_16 : decode cX11_gaps 16 = .ok (.if_icmp .le 5, 3) := dc_164 (sg_at zd_dX11_gaps_0 9 rfl rfl) rfl
theorem dX11_gaps_19 : decode cX11_gaps 19 = .ok (.iconst (-1), 1) := dc_2 (sg_at zd_dX11_gaps_0 10 rfl rfl)
theorem dX11_gaps_20 : decode cX11_gaps 20 = .ok (.ireturn, 1) := dc_172 (sg_at zd_dX11_gaps_0 11 rfl rfl)
theorem dX11_gaps_21 : decode cX11_gaps 21 = .ok (.iconst 0, 1) := dc_3 (sg_at zd_dX11_gaps_0 12 rfl rfl)
theorem dX11_gaps_22 : decode cX11_gaps 22 = .ok (.istore_n 3, 1) := dc_62 (sg_at zd_dX11_gaps_0 13 rfl rfl)
theorem dX11_gaps_23 : decode cX11_gaps 23 = .ok (.iconst 1, 1) := dc_4 (sg_at zd_dX11_gaps_0 14 rfl rfl)
theorem dX11_gaps_24 : decode cX11_gaps 24 = .ok (.istore 4, 2) := dc_54 (sg_at zd_dX11_gaps_0 15 rfl rfl)
theorem dX11_gaps_26 : decode cX11_gaps 26 = .ok (.iload 4, 2) := dc_21 (sg_at zd_dX11_gaps_0 16 rfl rfl)
theorem dX11_gaps_28 : decode cX11_gaps 28 = .ok (.aload_n 0, 1) := dc_42 (sg_at zd_dX11_gaps_0 17 rfl rfl)
theorem dX11_gaps_29 : decode cX11_gaps 29 = .ok (.getfield 18, 3) := dc_180 (sg_at zd_dX11_gaps_0 18 rfl rfl) rfl
theorem dX11_gaps_32 : decode cX11_gaps 32 = .ok (.getfield 150, 3) := dc_180 (sg_at zd_dX11_gaps_0 19 rfl rfl) rfl
theorem zd_dX11_gaps_35 : sg (cX11_gaps.data.toList.drop 35) [[180, 0, 253], [162, 0, 52], [42], [180, 0, 18], [180, 0, 150], [21, 4], [182, 1, 55], [42], [180, 0, 18], [180, 0, 150], [21, 4], [4], [100], [182, 1, 58], [100], [54, 5], [28], [4], [159, 0, 9], [21, 5]] = true := by decide +kernel
theorem dX11_gaps_35 : decode cX11_gaps 35 = .ok (.getfield 253, 3) := dc_180 (sg_at zd_dX11_gaps_35 0 rfl rfl) rfl
theorem dX11_gaps_38 : decode cX11_gaps 38 = .ok (.if_icmp .ge 52, 3) := dc_162 (sg_at zd_dX11_gaps_35 1 rfl rfl) rfl
theorem dX11_gaps_41 : decode cX11_gaps 41 = .ok (.aload_n 0, 1) := dc_42 (sg_at zd_dX11_gaps_35 2 rfl rfl)
theorem dX11_gaps_42 : decode cX11_gaps 42 = .ok (.getfield 18, 3) := dc_180 (sg_at zd_dX11_gaps_35 3 rfl rfl) rfl
theorem dX11_gaps_45 : decode cX11_gaps 45 = .ok (.getfield 150, 3) := dc_180 (sg_at zd_dX11_gaps_35 4 rfl rfl) rfl
theorem dX11_gaps_48 : decode cX11_gaps 48 = .ok (.iload 4, 2) := dc_21 (sg_at zd_dX11_gaps_35 5 rfl rfl)
theorem dX11_gaps_50 : decode cX11_gaps 50 = .ok (.invokevirtual 311, 3) := dc_182 (sg_at zd_dX11_gaps_35 6 rfl rfl) rfl
theorem dX11_gaps_53 : decode cX11_gaps 53 = .ok (.aload_n 0, 1) := dc_42 (sg_at zd_dX11_gaps_35 7 rfl rfl)
theorem dX11_gaps_54 : decode cX11_gaps 54 = .ok (.getfield 18, 3) := dc_180 (sg_at zd_dX11_gaps_35 8 rfl rfl) rfl
theorem dX11_gaps_57 : decode cX11_gaps 57 = .ok (.getfield 150, 3) := dc_180 (sg_at zd_dX11_gaps_35 9 rfl rfl) rfl
theorem dX11_gaps_60 : decode cX11_gaps 60 = .ok (.iload 4, 2) := dc_21 (sg_at zd_dX11_gaps_35 10 rfl rfl)
theorem dX11_gaps_62 : decode cX11_gaps 62 = .ok (.iconst 1, 1) := dc_4 (sg_at zd_dX11_gaps_35 11 rfl rfl)
theorem dX11_gaps_63 : decode cX11_gaps 63 = .ok (.isub, 1) := dc_100 (sg_at zd_dX11_gaps_35 12 rfl rfl)
theorem dX11_gaps_64 : decode cX11_gaps 64 = .ok (.invokevirtual 314, 3) := dc_182 (sg_at zd_dX11_gaps_35 13 rfl rfl) rfl
theorem dX11_gaps_67 : decode cX11_gaps 67 = .ok (.isub, 1) := dc_100 (sg_at zd_dX11_gaps_35 14 rfl rfl)
theorem dX11_gaps_68 : decode cX11_gaps 68 = .ok (.istore 5, 2) := dc_54 (sg_at zd_dX11_gaps_35 15 rfl rfl)
theorem dX11_gaps_70 : decode cX11_gaps 70 = .ok (.iload_n 2, 1) := dc_28 (sg_at zd_dX11_gaps_35 16 rfl rfl)
theorem dX11_gaps_71 : decode cX11_gaps 71 = .ok (.iconst 1, 1) := dc_4 (sg_at zd_dX11_gaps_35 17 rfl rfl)
theorem dX11_gaps_72 : decode cX11_gaps 72 = .ok (.if_icmp .eq 9, 3) := dc_159 (sg_at zd_dX11_gaps_35 18 rfl rfl) rfl
theorem dX11_gaps_75 : decode cX11_gaps 75 = .ok (.iload 5, 2) := dc_21 (sg_at zd_dX11_gaps_35 19 rfl rfl)
theorem zd_dX11_gaps_77 : sg (cX11_gaps.data.toList.drop 77) [[27], [163, 0, 6], [132, 3, 1], [132, 4, 1], [167, 255, 195], [29], [172]] = true := by decide +kernel
theorem dX11_gaps_77 : decode cX11_gaps 77 = .ok (.iload_n 1, 1) := dc_27 (sg_at zd_dX11_gaps_77 0 rfl rfl)
theorem dX11_gaps_78 : decode cX11_gaps 78 = .ok (.if_icmp .gt 6, 3) := dc_163 (sg_at zd_dX11_gaps_77 1 rfl rfl) rfl
theorem dX11_gaps_81 : decode cX11_gaps 81 = .ok (.iinc 3 1, 3) := dc_132 (sg_at zd_dX11_gaps_77 2 rfl rfl) rfl
theorem dX11_gaps_84 : decode cX11_gaps 84 = .ok (.iinc 4 1, 3) := dc_132 (sg_at zd_dX11_gaps_77 3 rfl rfl) rfl
theorem dX11_gaps_87 : decode cX11_gaps 87 = .ok (.goto (-61), 3) := dc_167 (sg_at zd_dX11_gaps_77 4 rfl rfl) rfl
theorem dX11_gaps_90 : decode cX11_gaps 90 = .ok (.iload_n 3, 1) := dc_29 (sg_at zd_dX11_gaps_77 5 rfl rfl)
theorem dX11_gaps_91 : decode cX11_gaps 91 = .ok (.ireturn, 1) := dc_172 (sg_at zd_dX11_gaps_77 6 rfl rfl)
theorem zd_dX11_give_0 : sg (cX11_give.data.toList.drop 0) [[42], [27], [182, 0, 115], [153, 0, 26], [42], [28], [182, 0, 115], [153, 0, 18], [27], [28], [159, 0, 13], [29], [155, 0, 9], [29], [16, 99], [164, 0, 5], [2], [172], [42], [180, 0, 18]] = true := by decide +kernel
theorem dX11_give_0 : decode cX11_give 0 = .ok (.aload_n 0, 1) := dc_42 (sg_at zd_dX11_give_0 0 rfl rfl)
theorem dX11_give_1 : decode cX11_give 1 = .ok (.iload_n 1, 1) := dc_27 (sg_at zd_dX11_give_0 1 rfl rfl)
theorem dX11_give_2 : decode cX11_give 2 = .ok (.invokevirtual 115, 3) := dc_182 (sg_at zd_dX11_give_0 2 rfl rfl) rfl
theorem dX11_give_5 : decode cX11_give 5 = .ok (.ifCond .eq 26, 3) := dc_153 (sg_at zd_dX11_give_0 3 rfl rfl) rfl
theorem dX11_give_8 : decode cX11_give 8 = .ok (.aload_n 0, 1) := dc_42 (sg_at zd_dX11_give_0 4 rfl rfl)
theorem dX11_give_9 : decode cX11_give 9 = .ok (.iload_n 2, 1) := dc_28 (sg_at zd_dX11_give_0 5 rfl rfl)
theorem dX11_give_10 : decode cX11_give 10 = .ok (.invokevirtual 115, 3) := dc_182 (sg_at zd_dX11_give_0 6 rfl rfl) rfl
theorem dX11_give_13 : decode cX11_give 13 = .ok (.ifCond .eq 18, 3) := dc_153 (sg_at zd_dX11_give_0 7 rfl rfl) rfl
theorem dX11_give_16 : decode cX11_give 16 = .ok (.iload_n 1, 1) := dc_27 (sg_at zd_dX11_give_0 8 rfl rfl)
theorem dX11_give_17 : decode cX11_give 17 = .ok (.iload_n 2, 1) := dc_28 (sg_at zd_dX11_give_0 9 rfl rfl)
theorem dX11_give_18 : decode cX11_give 18 = .ok (.if_icmp .eq 13, 3) := dc_159 (sg_at zd_dX11_give_0 10 rfl rfl) rfl
theorem dX11_give_21 : decode cX11_give 21 = .ok (.iload_n 3, 1) := dc_29 (sg_at zd_dX11_give_0 11 rfl rfl)
theorem dX11_give_22 : decode cX11_give 22 = .ok (.ifCond .lt 9, 3) := dc_155 (sg_at zd_dX11_give_0 12 rfl rfl) rfl
theorem dX11_give_25 : decode cX11_give 25 = .ok (.iload_n 3, 1) := dc_29 (sg_at zd_dX11_give_0 13 rfl rfl)
theorem dX11_give_26 : decode cX11_give 26 = .ok (.bipush 99, 2) := dc_16 (sg_at zd_dX11_give_0 14 rfl rfl) rfl
theorem dX11_give_28 : decode cX11_give 28 = .ok (.if_icmp .le 5, 3) := dc_164 (sg_at zd_dX11_give_0 15 rfl rfl) rfl
theorem dX11_give_31 : decode cX11_give 31 = .ok (.iconst (-1), 1) := dc_2 (sg_at zd_dX11_give_0 16 rfl rfl)
theorem dX11_give_32 : decode cX11_give 32 = .ok (.ireturn, 1) := dc_172 (sg_at zd_dX11_give_0 17 rfl rfl)
theorem dX11_give_33 : decode cX11_give 33 = .ok (.aload_n 0, 1) := dc_42 (sg_at zd_dX11_give_0 18 rfl rfl)
theorem dX11_give_34 : decode cX11_give 34 = .ok (.getfield 18, 3) := dc_180 (sg_at zd_dX11_give_0 19 rfl rfl) rfl
theorem zd_dX11_give_37 : sg (cX11_give.data.toList.drop 37) [[180, 0, 102], [180, 1, 25], [28], [46], [29], [104], [16, 100], [164, 0, 7], [4], [167, 0, 4], [3], [172]] = true := by decide +kernel
theorem dX11_give_37 : decode cX11_give 37 = .ok (.getfield 102, 3) := dc_180 (sg_at zd_dX11_give_37 0 rfl rfl) rfl
theorem dX11_give_40 : decode cX11_give 40 = .ok (.getfield 281, 3) := dc_180 (sg_at zd_dX11_give_37 1 rfl rfl) rfl
theorem dX11_give_43 : decode cX11_give 43 = .ok (.iload_n 2, 1) := dc_28 (sg_at zd_dX11_give_37 2 rfl rfl)
theorem dX11_give_44 : decode cX11_give 44 = .ok (.iaload, 1) := dc_46 (sg_at zd_dX11_give_37 3 rfl rfl)
theorem dX11_give_45 : decode cX11_give 45 = .ok (.iload_n 3, 1) := dc_29 (sg_at zd_dX11_give_37 4 rfl rfl)
theorem dX11_give_46 : decode cX11_give 46 = .ok (.imul, 1) := dc_104 (sg_at zd_dX11_give_37 5 rfl rfl)
theorem dX11_give_47 : decode cX11_give 47 = .ok (.bipush 100, 2) := dc_16 (sg_at zd_dX11_give_37 6 rfl rfl) rfl
theorem dX11_give_49 : decode cX11_give 49 = .ok (.if_icmp .le 7, 3) := dc_164 (sg_at zd_dX11_give_37 7 rfl rfl) rfl
theorem dX11_give_52 : decode cX11_give 52 = .ok (.iconst 1, 1) := dc_4 (sg_at zd_dX11_give_37 8 rfl rfl)
theorem dX11_give_53 : decode cX11_give 53 = .ok (.goto 4, 3) := dc_167 (sg_at zd_dX11_give_37 9 rfl rfl) rfl
theorem dX11_give_56 : decode cX11_give 56 = .ok (.iconst 0, 1) := dc_3 (sg_at zd_dX11_give_37 10 rfl rfl)
theorem dX11_give_57 : decode cX11_give 57 = .ok (.ireturn, 1) := dc_172 (sg_at zd_dX11_give_37 11 rfl rfl)
theorem zd_dX11_isWave_0 : sg (cX11_isWave.data.toList.drop 0) [[27], [155, 0, 21], [27], [42], [180, 0, 18], [180, 0, 150], [180, 1, 43], [162, 0, 7], [4], [167, 0, 4], [3], [172]] = true := by decide +kernel
theorem dX11_isWave_0 : decode cX11_isWave 0 = .ok (.iload_n 1, 1) := dc_27 (sg_at zd_dX11_isWave_0 0 rfl rfl)
theorem dX11_isWave_1 : decode cX11_isWave 1 = .ok (.ifCond .lt 21, 3) := dc_155 (sg_at zd_dX11_isWave_0 1 rfl rfl) rfl
theorem dX11_isWave_4 : decode cX11_isWave 4 = .ok (.iload_n 1, 1) := dc_27 (sg_at zd_dX11_isWave_0 2 rfl rfl)
theorem dX11_isWave_5 : decode cX11_isWave 5 = .ok (.aload_n 0, 1) := dc_42 (sg_at zd_dX11_isWave_0 3 rfl rfl)
theorem dX11_isWave_6 : decode cX11_isWave 6 = .ok (.getfield 18, 3) := dc_180 (sg_at zd_dX11_isWave_0 4 rfl rfl) rfl
theorem dX11_isWave_9 : decode cX11_isWave 9 = .ok (.getfield 150, 3) := dc_180 (sg_at zd_dX11_isWave_0 5 rfl rfl) rfl
theorem dX11_isWave_12 : decode cX11_isWave 12 = .ok (.getfield 299, 3) := dc_180 (sg_at zd_dX11_isWave_0 6 rfl rfl) rfl
theorem dX11_isWave_15 : decode cX11_isWave 15 = .ok (.if_icmp .ge 7, 3) := dc_162 (sg_at zd_dX11_isWave_0 7 rfl rfl) rfl
theorem dX11_isWave_18 : decode cX11_isWave 18 = .ok (.iconst 1, 1) := dc_4 (sg_at zd_dX11_isWave_0 8 rfl rfl)
theorem dX11_isWave_19 : decode cX11_isWave 19 = .ok (.goto 4, 3) := dc_167 (sg_at zd_dX11_isWave_0 9 rfl rfl) rfl
theorem dX11_isWave_22 : decode cX11_isWave 22 = .ok (.iconst 0, 1) := dc_3 (sg_at zd_dX11_isWave_0 10 rfl rfl)
theorem dX11_isWave_23 : decode cX11_isWave 23 = .ok (.ireturn, 1) := dc_172 (sg_at zd_dX11_isWave_0 11 rfl rfl)
theorem zd_dX11_isToCome_0 : sg (cX11_isToCome.data.toList.drop 0) [[42], [27], [182, 0, 147], [153, 0, 29], [42], [180, 0, 18], [180, 0, 150], [180, 0, 154], [27], [46], [42], [180, 0, 47], [180, 0, 186], [161, 0, 7], [4], [167, 0, 4], [3], [172]] = true := by decide +kernel
theorem dX11_isToCome_0 : decode cX11_isToCome 0 = .ok (.aload_n 0, 1) := dc_42 (sg_at zd_dX11_isToCome_0 0 rfl rfl)
theorem dX11_isToCome_1 : decode cX11_isToCome 1 = .ok (.iload_n 1, 1) := dc_27 (sg_at zd_dX11_isToCome_0 1 rfl rfl)
theorem dX11_isToCome_2 : decode cX11_isToCome 2 = .ok (.invokevirtual 147, 3) := dc_182 (sg_at zd_dX11_isToCome_0 2 rfl rfl) rfl
theorem dX11_isToCome_5 : decode cX11_isToCome 5 = .ok (.ifCond .eq 29, 3) := dc_153 (sg_at zd_dX11_isToCome_0 3 rfl rfl) rfl
theorem dX11_isToCome_8 : decode cX11_isToCome 8 = .ok (.aload_n 0, 1) := dc_42 (sg_at zd_dX11_isToCome_0 4 rfl rfl)
theorem dX11_isToCome_9 : decode cX11_isToCome 9 = .ok (.getfield 18, 3) := dc_180 (sg_at zd_dX11_isToCome_0 5 rfl rfl) rfl
theorem dX11_isToCome_12 : decode cX11_isToCome 12 = .ok (.getfield 150, 3) := dc_180 (sg_at zd_dX11_isToCome_0 6 rfl rfl) rfl
theorem dX11_isToCome_15 : decode cX11_isToCome 15 = .ok (.getfield 154, 3) := dc_180 (sg_at zd_dX11_isToCome_0 7 rfl rfl) rfl
theorem dX11_isToCome_18 : decode cX11_isToCome 18 = .ok (.iload_n 1, 1) := dc_27 (sg_at zd_dX11_isToCome_0 8 rfl rfl)
theorem dX11_isToCome_19 : decode cX11_isToCome 19 = .ok (.iaload, 1) := dc_46 (sg_at zd_dX11_isToCome_0 9 rfl rfl)
theorem dX11_isToCome_20 : decode cX11_isToCome 20 = .ok (.aload_n 0, 1) := dc_42 (sg_at zd_dX11_isToCome_0 10 rfl rfl)
theorem dX11_isToCome_21 : decode cX11_isToCome 21 = .ok (.getfield 47, 3) := dc_180 (sg_at zd_dX11_isToCome_0 11 rfl rfl) rfl
theorem dX11_isToCome_24 : decode cX11_isToCome 24 = .ok (.getfield 186, 3) := dc_180 (sg_at zd_dX11_isToCome_0 12 rfl rfl) rfl
theorem dX11_isToCome_27 : decode cX11_isToCome 27 = .ok (.if_icmp .lt 7, 3) := dc_161 (sg_at zd_dX11_isToCome_0 13 rfl rfl) rfl
theorem dX11_isToCome_30 : decode cX11_isToCome 30 = .ok (.iconst 1, 1) := dc_4 (sg_at zd_dX11_isToCome_0 14 rfl rfl)
theorem dX11_isToCome_31 : decode cX11_isToCome 31 = .ok (.goto 4, 3) := dc_167 (sg_at zd_dX11_isToCome_0 15 rfl rfl) rfl
theorem dX11_isToCome_34 : decode cX11_isToCome 34 = .ok (.iconst 0, 1) := dc_3 (sg_at zd_dX11_isToCome_0 16 rfl rfl)
theorem dX11_isToCome_35 : decode cX11_isToCome 35 = .ok (.ireturn, 1) := dc_172 (sg_at zd_dX11_isToCome_0 17 rfl rfl)
theorem zd_dX11_go_0 : sg (cX11_go.data.toList.drop 0) [[42], [27], [182, 0, 115], [153, 0, 22], [42], [28], [182, 0, 223], [153, 0, 14], [29], [155, 0, 10], [29], [17, 3, 231], [164, 0, 5], [2], [172], [42], [180, 0, 37], [27], [28], [42]] = true := by decide +kernel
theorem dX11_go_0 : decode cX11_go 0 = .ok (.aload_n 0, 1) := dc_42 (sg_at zd_dX11_go_0 0 rfl rfl)
theorem dX11_go_1 : decode cX11_go 1 = .ok (.iload_n 1, 1) := dc_27 (sg_at zd_dX11_go_0 1 rfl rfl)
theorem dX11_go_2 : decode cX11_go 2 = .ok (.invokevirtual 115, 3) := dc_182 (sg_at zd_dX11_go_0 2 rfl rfl) rfl
theorem dX11_go_5 : decode cX11_go 5 = .ok (.ifCond .eq 22, 3) := dc_153 (sg_at zd_dX11_go_0 3 rfl rfl) rfl
theorem dX11_go_8 : decode cX11_go 8 = .ok (.aload_n 0, 1) := dc_42 (sg_at zd_dX11_go_0 4 rfl rfl)
theorem dX11_go_9 : decode cX11_go 9 = .ok (.iload_n 2, 1) := dc_28 (sg_at zd_dX11_go_0 5 rfl rfl)
theorem dX11_go_10 : decode cX11_go 10 = .ok (.invokevirtual 223, 3) := dc_182 (sg_at zd_dX11_go_0 6 rfl rfl) rfl
theorem dX11_go_13 : decode cX11_go 13 = .ok (.ifCond .eq 14, 3) := dc_153 (sg_at zd_dX11_go_0 7 rfl rfl) rfl
theorem dX11_go_16 : decode cX11_go 16 = .ok (.iload_n 3, 1) := dc_29 (sg_at zd_dX11_go_0 8 rfl rfl)
theorem dX11_go_17 : decode cX11_go 17 = .ok (.ifCond .lt 10, 3) := dc_155 (sg_at zd_dX11_go_0 9 rfl rfl) rfl
theorem dX11_go_20 : decode cX11_go 20 = .ok (.iload_n 3, 1) := dc_29 (sg_at zd_dX11_go_0 10 rfl rfl)
theorem dX11_go_21 : decode cX11_go 21 = .ok (.sipush 999, 3) := dc_17 (sg_at zd_dX11_go_0 11 rfl rfl) rfl
theorem dX11_go_24 : decode cX11_go 24 = .ok (.if_icmp .le 5, 3) := dc_164 (sg_at zd_dX11_go_0 12 rfl rfl) rfl
theorem dX11_go_27 : decode cX11_go 27 = .ok (.iconst (-1), 1) := dc_2 (sg_at zd_dX11_go_0 13 rfl rfl)
theorem dX11_go_28 : decode cX11_go 28 = .ok (.ireturn, 1) := dc_172 (sg_at zd_dX11_go_0 14 rfl rfl)
theorem dX11_go_29 : decode cX11_go 29 = .ok (.aload_n 0, 1) := dc_42 (sg_at zd_dX11_go_0 15 rfl rfl)
theorem dX11_go_30 : decode cX11_go 30 = .ok (.getfield 37, 3) := dc_180 (sg_at zd_dX11_go_0 16 rfl rfl) rfl
theorem dX11_go_33 : decode cX11_go 33 = .ok (.iload_n 1, 1) := dc_27 (sg_at zd_dX11_go_0 17 rfl rfl)
theorem dX11_go_34 : decode cX11_go 34 = .ok (.iload_n 2, 1) := dc_28 (sg_at zd_dX11_go_0 18 rfl rfl)
theorem dX11_go_35 : decode cX11_go 35 = .ok (.aload_n 0, 1) := dc_42 (sg_at zd_dX11_go_0 19 rfl rfl)
theorem zd_dX11_go_36 : sg (cX11_go.data.toList.drop 36) [[180, 0, 47], [180, 0, 122], [27], [46], [182, 1, 19], [54, 4], [21, 4], [29], [42], [180, 0, 37], [42], [180, 0, 47], [27], [28], [182, 1, 22], [104], [164, 0, 7], [4], [167, 0, 4], [3]] = true := by decide +kernel
theorem dX11_go_36 : decode cX11_go 36 = .ok (.getfield 47, 3) := dc_180 (sg_at zd_dX11_go_36 0 rfl rfl) rfl
theorem dX11_go_39 : decode cX11_go 39 = .ok (.getfield 122, 3) := dc_180 (sg_at zd_dX11_go_36 1 rfl rfl) rfl
theorem dX11_go_42 : decode cX11_go 42 = .ok (.iload_n 1, 1) := dc_27 (sg_at zd_dX11_go_36 2 rfl rfl)
theorem dX11_go_43 : decode cX11_go 43 = .ok (.iaload, 1) := dc_46 (sg_at zd_dX11_go_36 3 rfl rfl)
theorem dX11_go_44 : decode cX11_go 44 = .ok (.invokevirtual 275, 3) := dc_182 (sg_at zd_dX11_go_36 4 rfl rfl) rfl
theorem dX11_go_47 : decode cX11_go 47 = .ok (.istore 4, 2) := dc_54 (sg_at zd_dX11_go_36 5 rfl rfl)
theorem dX11_go_49 : decode cX11_go 49 = .ok (.iload 4, 2) := dc_21 (sg_at zd_dX11_go_36 6 rfl rfl)
theorem dX11_go_51 : decode cX11_go 51 = .ok (.iload_n 3, 1) := dc_29 (sg_at zd_dX11_go_36 7 rfl rfl)
theorem dX11_go_52 : decode cX11_go 52 = .ok (.aload_n 0, 1) := dc_42 (sg_at zd_dX11_go_36 8 rfl rfl)
theorem dX11_go_53 : decode cX11_go 53 = .ok (.getfield 37, 3) := dc_180 (sg_at zd_dX11_go_36 9 rfl rfl) rfl
theorem dX11_go_56 : decode cX11_go 56 = .ok (.aload_n 0, 1) := dc_42 (sg_at zd_dX11_go_36 10 rfl rfl)
theorem dX11_go_57 : decode cX11_go 57 = .ok (.getfield 47, 3) := dc_180 (sg_at zd_dX11_go_36 11 rfl rfl) rfl
theorem dX11_go_60 : decode cX11_go 60 = .ok (.iload_n 1, 1) := dc_27 (sg_at zd_dX11_go_36 12 rfl rfl)
theorem dX11_go_61 : decode cX11_go 61 = .ok (.iload_n 2, 1) := dc_28 (sg_at zd_dX11_go_36 13 rfl rfl)
theorem dX11_go_62 : decode cX11_go 62 = .ok (.invokevirtual 278, 3) := dc_182 (sg_at zd_dX11_go_36 14 rfl rfl) rfl
theorem dX11_go_65 : decode cX11_go 65 = .ok (.imul, 1) := dc_104 (sg_at zd_dX11_go_36 15 rfl rfl)
theorem dX11_go_66 : decode cX11_go 66 = .ok (.if_icmp .le 7, 3) := dc_164 (sg_at zd_dX11_go_36 16 rfl rfl) rfl
theorem dX11_go_69 : decode cX11_go 69 = .ok (.iconst 1, 1) := dc_4 (sg_at zd_dX11_go_36 17 rfl rfl)
theorem dX11_go_70 : decode cX11_go 70 = .ok (.goto 4, 3) := dc_167 (sg_at zd_dX11_go_36 18 rfl rfl) rfl
theorem dX11_go_73 : decode cX11_go 73 = .ok (.iconst 0, 1) := dc_3 (sg_at zd_dX11_go_36 19 rfl rfl)
theorem zd_dX11_go_74 : sg (cX11_go.data.toList.drop 74) [[172]] = true := by decide +kernel
theorem dX11_go_74 : decode cX11_go 74 = .ok (.ireturn, 1) := dc_172 (sg_at zd_dX11_go_74 0 rfl rfl)
theorem zd_dX11_isCell_0 : sg (cX11_isCell.data.toList.drop 0) [[27], [155, 0, 18], [27], [42], [180, 0, 18], [182, 0, 240], [162, 0, 7], [4], [167, 0, 4], [3], [172]] = true := by decide +kernel
theorem dX11_isCell_0 : decode cX11_isCell 0 = .ok (.iload_n 1, 1) := dc_27 (sg_at zd_dX11_isCell_0 0 rfl rfl)
theorem dX11_isCell_1 : decode cX11_isCell 1 = .ok (.ifCond .lt 18, 3) := dc_155 (sg_at zd_dX11_isCell_0 1 rfl rfl) rfl
theorem dX11_isCell_4 : decode cX11_isCell 4 = .ok (.iload_n 1, 1) := dc_27 (sg_at zd_dX11_isCell_0 2 rfl rfl)
theorem dX11_isCell_5 : decode cX11_isCell 5 = .ok (.aload_n 0, 1) := dc_42 (sg_at zd_dX11_isCell_0 3 rfl rfl)
theorem dX11_isCell_6 : decode cX11_isCell 6 = .ok (.getfield 18, 3) := dc_180 (sg_at zd_dX11_isCell_0 4 rfl rfl) rfl
theorem dX11_isCell_9 : decode cX11_isCell 9 = .ok (.invokevirtual 240, 3) := dc_182 (sg_at zd_dX11_isCell_0 5 rfl rfl) rfl
theorem dX11_isCell_12 : decode cX11_isCell 12 = .ok (.if_icmp .ge 7, 3) := dc_162 (sg_at zd_dX11_isCell_0 6 rfl rfl) rfl
theorem dX11_isCell_15 : decode cX11_isCell 15 = .ok (.iconst 1, 1) := dc_4 (sg_at zd_dX11_isCell_0 7 rfl rfl)
theorem dX11_isCell_16 : decode cX11_isCell 16 = .ok (.goto 4, 3) := dc_167 (sg_at zd_dX11_isCell_0 8 rfl rfl) rfl
theorem dX11_isCell_19 : decode cX11_isCell 19 = .ok (.iconst 0, 1) := dc_3 (sg_at zd_dX11_isCell_0 9 rfl rfl)
theorem dX11_isCell_20 : decode cX11_isCell 20 = .ok (.ireturn, 1) := dc_172 (sg_at zd_dX11_isCell_0 10 rfl rfl)
theorem zd_dX11_isRule_0 : sg (cX11_isRule.data.toList.drop 0) [[27], [155, 0, 12], [27], [7], [162, 0, 7], [4], [167, 0, 4], [3], [172]] = true := by decide +kernel
theorem dX11_isRule_0 : decode cX11_isRule 0 = .ok (.iload_n 1, 1) := dc_27 (sg_at zd_dX11_isRule_0 0 rfl rfl)
theorem dX11_isRule_1 : decode cX11_isRule 1 = .ok (.ifCond .lt 12, 3) := dc_155 (sg_at zd_dX11_isRule_0 1 rfl rfl) rfl
theorem dX11_isRule_4 : decode cX11_isRule 4 = .ok (.iload_n 1, 1) := dc_27 (sg_at zd_dX11_isRule_0 2 rfl rfl)
theorem dX11_isRule_5 : decode cX11_isRule 5 = .ok (.iconst 4, 1) := dc_7 (sg_at zd_dX11_isRule_0 3 rfl rfl)
theorem dX11_isRule_6 : decode cX11_isRule 6 = .ok (.if_icmp .ge 7, 3) := dc_162 (sg_at zd_dX11_isRule_0 4 rfl rfl) rfl
theorem dX11_isRule_9 : decode cX11_isRule 9 = .ok (.iconst 1, 1) := dc_4 (sg_at zd_dX11_isRule_0 5 rfl rfl)
theorem dX11_isRule_10 : decode cX11_isRule 10 = .ok (.goto 4, 3) := dc_167 (sg_at zd_dX11_isRule_0 6 rfl rfl) rfl
theorem dX11_isRule_13 : decode cX11_isRule 13 = .ok (.iconst 0, 1) := dc_3 (sg_at zd_dX11_isRule_0 7 rfl rfl)
theorem dX11_isRule_14 : decode cX11_isRule 14 = .ok (.ireturn, 1) := dc_172 (sg_at zd_dX11_isRule_0 8 rfl rfl)
theorem zd_dX11_keep_0 : sg (cX11_keep.data.toList.drop 0) [[42], [180, 0, 54], [42], [180, 0, 47], [182, 1, 117], [42], [4], [181, 1, 121], [42], [180, 0, 47], [180, 0, 186], [172]] = true := by decide +kernel
theorem dX11_keep_0 : decode cX11_keep 0 = .ok (.aload_n 0, 1) := dc_42 (sg_at zd_dX11_keep_0 0 rfl rfl)
theorem dX11_keep_1 : decode cX11_keep 1 = .ok (.getfield 54, 3) := dc_180 (sg_at zd_dX11_keep_0 1 rfl rfl) rfl
theorem dX11_keep_4 : decode cX11_keep 4 = .ok (.aload_n 0, 1) := dc_42 (sg_at zd_dX11_keep_0 2 rfl rfl)
theorem dX11_keep_5 : decode cX11_keep 5 = .ok (.getfield 47, 3) := dc_180 (sg_at zd_dX11_keep_0 3 rfl rfl) rfl
theorem dX11_keep_8 : decode cX11_keep 8 = .ok (.invokevirtual 373, 3) := dc_182 (sg_at zd_dX11_keep_0 4 rfl rfl) rfl
theorem dX11_keep_11 : decode cX11_keep 11 = .ok (.aload_n 0, 1) := dc_42 (sg_at zd_dX11_keep_0 5 rfl rfl)
theorem dX11_keep_12 : decode cX11_keep 12 = .ok (.iconst 1, 1) := dc_4 (sg_at zd_dX11_keep_0 6 rfl rfl)
theorem dX11_keep_13 : decode cX11_keep 13 = .ok (.putfield 377, 3) := dc_181 (sg_at zd_dX11_keep_0 7 rfl rfl) rfl
theorem dX11_keep_16 : decode cX11_keep 16 = .ok (.aload_n 0, 1) := dc_42 (sg_at zd_dX11_keep_0 8 rfl rfl)
theorem dX11_keep_17 : decode cX11_keep 17 = .ok (.getfield 47, 3) := dc_180 (sg_at zd_dX11_keep_0 9 rfl rfl) rfl
theorem dX11_keep_20 : decode cX11_keep 20 = .ok (.getfield 186, 3) := dc_180 (sg_at zd_dX11_keep_0 10 rfl rfl) rfl
theorem dX11_keep_23 : decode cX11_keep 23 = .ok (.ireturn, 1) := dc_172 (sg_at zd_dX11_keep_0 11 rfl rfl)
theorem zd_dX11_known_0 : sg (cX11_known.data.toList.drop 0) [[27], [2], [161, 0, 14], [27], [42], [180, 0, 60], [180, 1, 67], [164, 0, 5], [3], [172], [42], [180, 0, 60], [27], [181, 1, 71], [4], [172]] = true := by decide +kernel
theorem dX11_known_0 : decode cX11_known 0 = .ok (.iload_n 1, 1) := dc_27 (sg_at zd_dX11_known_0 0 rfl rfl)
theorem dX11_known_1 : decode cX11_known 1 = .ok (.iconst (-1), 1) := dc_2 (sg_at zd_dX11_known_0 1 rfl rfl)
theorem dX11_known_2 : decode cX11_known 2 = .ok (.if_icmp .lt 14, 3) := dc_161 (sg_at zd_dX11_known_0 2 rfl rfl) rfl
theorem dX11_known_5 : decode cX11_known 5 = .ok (.iload_n 1, 1) := dc_27 (sg_at zd_dX11_known_0 3 rfl rfl)
theorem dX11_known_6 : decode cX11_known 6 = .ok (.aload_n 0, 1) := dc_42 (sg_at zd_dX11_known_0 4 rfl rfl)
theorem dX11_known_7 : decode cX11_known 7 = .ok (.getfield 60, 3) := dc_180 (sg_at zd_dX11_known_0 5 rfl rfl) rfl
theorem dX11_known_10 : decode cX11_known 10 = .ok (.getfield 323, 3) := dc_180 (sg_at zd_dX11_known_0 6 rfl rfl) rfl
theorem dX11_known_13 : decode cX11_known 13 = .ok (.if_icmp .le 5, 3) := dc_164 (sg_at zd_dX11_known_0 7 rfl rfl) rfl
theorem dX11_known_16 : decode cX11_known 16 = .ok (.iconst 0, 1) := dc_3 (sg_at zd_dX11_known_0 8 rfl rfl)
theorem dX11_known_17 : decode cX11_known 17 = .ok (.ireturn, 1) := dc_172 (sg_at zd_dX11_known_0 9 rfl rfl)
theorem dX11_known_18 : decode cX11_known 18 = .ok (.aload_n 0, 1) := dc_42 (sg_at zd_dX11_known_0 10 rfl rfl)
theorem dX11_known_19 : decode cX11_known 19 = .ok (.getfield 60, 3) := dc_180 (sg_at zd_dX11_known_0 11 rfl rfl) rfl
theorem dX11_known_22 : decode cX11_known 22 = .ok (.iload_n 1, 1) := dc_27 (sg_at zd_dX11_known_0 12 rfl rfl)
theorem dX11_known_23 : decode cX11_known 23 = .ok (.putfield 327, 3) := dc_181 (sg_at zd_dX11_known_0 13 rfl rfl) rfl
theorem dX11_known_26 : decode cX11_known 26 = .ok (.iconst 1, 1) := dc_4 (sg_at zd_dX11_known_0 14 rfl rfl)
theorem dX11_known_27 : decode cX11_known 27 = .ok (.ireturn, 1) := dc_172 (sg_at zd_dX11_known_0 15 rfl rfl)
theorem zd_dX11_law_0 : sg (cX11_law.data.toList.drop 0) [[27], [5], [160, 0, 18], [42], [180, 0, 37], [42], [180, 0, 47], [180, 0, 186], [182, 0, 188], [173], [42], [28], [182, 0, 115], [153, 0, 11], [42], [29], [182, 0, 147], [154, 0, 7], [20, 0, 192], [173]] = true := by decide +kernel
theorem dX11_law_0 : decode cX11_law 0 = .ok (.iload_n 1, 1) := dc_27 (sg_at zd_dX11_law_0 0 rfl rfl)
theorem dX11_law_1 : decode cX11_law 1 = .ok (.iconst 2, 1) := dc_5 (sg_at zd_dX11_law_0 1 rfl rfl)
theorem dX11_law_2 : decode cX11_law 2 = .ok (.if_icmp .ne 18, 3) := dc_160 (sg_at zd_dX11_law_0 2 rfl rfl) rfl
theorem dX11_law_5 : decode cX11_law 5 = .ok (.aload_n 0, 1) := dc_42 (sg_at zd_dX11_law_0 3 rfl rfl)
theorem dX11_law_6 : decode cX11_law 6 = .ok (.getfield 37, 3) := dc_180 (sg_at zd_dX11_law_0 4 rfl rfl) rfl
theorem dX11_law_9 : decode cX11_law 9 = .ok (.aload_n 0, 1) := dc_42 (sg_at zd_dX11_law_0 5 rfl rfl)
theorem dX11_law_10 : decode cX11_law 10 = .ok (.getfield 47, 3) := dc_180 (sg_at zd_dX11_law_0 6 rfl rfl) rfl
theorem dX11_law_13 : decode cX11_law 13 = .ok (.getfield 186, 3) := dc_180 (sg_at zd_dX11_law_0 7 rfl rfl) rfl
theorem dX11_law_16 : decode cX11_law 16 = .ok (.invokevirtual 188, 3) := dc_182 (sg_at zd_dX11_law_0 8 rfl rfl) rfl
theorem dX11_law_19 : decode cX11_law 19 = .ok (.lreturn, 1) := dc_173 (sg_at zd_dX11_law_0 9 rfl rfl)
theorem dX11_law_20 : decode cX11_law 20 = .ok (.aload_n 0, 1) := dc_42 (sg_at zd_dX11_law_0 10 rfl rfl)
theorem dX11_law_21 : decode cX11_law 21 = .ok (.iload_n 2, 1) := dc_28 (sg_at zd_dX11_law_0 11 rfl rfl)
theorem dX11_law_22 : decode cX11_law 22 = .ok (.invokevirtual 115, 3) := dc_182 (sg_at zd_dX11_law_0 12 rfl rfl) rfl
theorem dX11_law_25 : decode cX11_law 25 = .ok (.ifCond .eq 11, 3) := dc_153 (sg_at zd_dX11_law_0 13 rfl rfl) rfl
theorem dX11_law_28 : decode cX11_law 28 = .ok (.aload_n 0, 1) := dc_42 (sg_at zd_dX11_law_0 14 rfl rfl)
theorem dX11_law_29 : decode cX11_law 29 = .ok (.iload_n 3, 1) := dc_29 (sg_at zd_dX11_law_0 15 rfl rfl)
theorem dX11_law_30 : decode cX11_law 30 = .ok (.invokevirtual 147, 3) := dc_182 (sg_at zd_dX11_law_0 16 rfl rfl) rfl
theorem dX11_law_33 : decode cX11_law 33 = .ok (.ifCond .ne 7, 3) := dc_154 (sg_at zd_dX11_law_0 17 rfl rfl) rfl
theorem dX11_law_36 : decode cX11_law 36 = .ok (.ldc2_w 192, 3) := dc_20 (sg_at zd_dX11_law_0 18 rfl rfl) rfl
theorem dX11_law_39 : decode cX11_law 39 = .ok (.lreturn, 1) := dc_173 (sg_at zd_dX11_law_0 19 rfl rfl)
theorem zd_dX11_law_40 : sg (cX11_law.data.toList.drop 40) [[27], [154, 0, 22], [42], [180, 0, 37], [28], [29], [42], [180, 0, 47], [180, 0, 122], [28], [46], [182, 0, 194], [173], [27], [4], [160, 0, 15], [42], [180, 0, 37], [28], [29]] = true := by decide +kernel
theorem dX11_law_40 : decode cX11_law 40 = .ok (.iload_n 1, 1) := dc_27 (sg_at zd_dX11_law_40 0 rfl rfl)
theorem dX11_law_41 : decode cX11_law 41 = .ok (.ifCond .ne 22, 3) := dc_154 (sg_at zd_dX11_law_40 1 rfl rfl) rfl
theorem dX11_law_44 : decode cX11_law 44 = .ok (.aload_n 0, 1) := dc_42 (sg_at zd_dX11_law_40 2 rfl rfl)
theorem dX11_law_45 : decode cX11_law 45 = .ok (.getfield 37, 3) := dc_180 (sg_at zd_dX11_law_40 3 rfl rfl) rfl
theorem dX11_law_48 : decode cX11_law 48 = .ok (.iload_n 2, 1) := dc_28 (sg_at zd_dX11_law_40 4 rfl rfl)
theorem dX11_law_49 : decode cX11_law 49 = .ok (.iload_n 3, 1) := dc_29 (sg_at zd_dX11_law_40 5 rfl rfl)
theorem dX11_law_50 : decode cX11_law 50 = .ok (.aload_n 0, 1) := dc_42 (sg_at zd_dX11_law_40 6 rfl rfl)
theorem dX11_law_51 : decode cX11_law 51 = .ok (.getfield 47, 3) := dc_180 (sg_at zd_dX11_law_40 7 rfl rfl) rfl
theorem dX11_law_54 : decode cX11_law 54 = .ok (.getfield 122, 3) := dc_180 (sg_at zd_dX11_law_40 8 rfl rfl) rfl
theorem dX11_law_57 : decode cX11_law 57 = .ok (.iload_n 2, 1) := dc_28 (sg_at zd_dX11_law_40 9 rfl rfl)
theorem dX11_law_58 : decode cX11_law 58 = .ok (.iaload, 1) := dc_46 (sg_at zd_dX11_law_40 10 rfl rfl)
theorem dX11_law_59 : decode cX11_law 59 = .ok (.invokevirtual 194, 3) := dc_182 (sg_at zd_dX11_law_40 11 rfl rfl) rfl
theorem dX11_law_62 : decode cX11_law 62 = .ok (.lreturn, 1) := dc_173 (sg_at zd_dX11_law_40 12 rfl rfl)
theorem dX11_law_63 : decode cX11_law 63 = .ok (.iload_n 1, 1) := dc_27 (sg_at zd_dX11_law_40 13 rfl rfl)
theorem dX11_law_64 : decode cX11_law 64 = .ok (.iconst 1, 1) := dc_4 (sg_at zd_dX11_law_40 14 rfl rfl)
theorem dX11_law_65 : decode cX11_law 65 = .ok (.if_icmp .ne 15, 3) := dc_160 (sg_at zd_dX11_law_40 15 rfl rfl) rfl
theorem dX11_law_68 : decode cX11_law 68 = .ok (.aload_n 0, 1) := dc_42 (sg_at zd_dX11_law_40 16 rfl rfl)
theorem dX11_law_69 : decode cX11_law 69 = .ok (.getfield 37, 3) := dc_180 (sg_at zd_dX11_law_40 17 rfl rfl) rfl
theorem dX11_law_72 : decode cX11_law 72 = .ok (.iload_n 2, 1) := dc_28 (sg_at zd_dX11_law_40 18 rfl rfl)
theorem dX11_law_73 : decode cX11_law 73 = .ok (.iload_n 3, 1) := dc_29 (sg_at zd_dX11_law_40 19 rfl rfl)
theorem zd_dX11_law_74 : sg (cX11_law.data.toList.drop 74) [[182, 0, 198], [167, 0, 6], [20, 0, 192], [173]] = true := by decide +kernel
theorem dX11_law_74 : decode cX11_law 74 = .ok (.invokevirtual 198, 3) := dc_182 (sg_at zd_dX11_law_74 0 rfl rfl) rfl
theorem dX11_law_77 : decode cX11_law 77 = .ok (.goto 6, 3) := dc_167 (sg_at zd_dX11_law_74 1 rfl rfl) rfl
theorem dX11_law_80 : decode cX11_law 80 = .ok (.ldc2_w 192, 3) := dc_20 (sg_at zd_dX11_law_74 2 rfl rfl) rfl
theorem dX11_law_83 : decode cX11_law 83 = .ok (.lreturn, 1) := dc_173 (sg_at zd_dX11_law_74 3 rfl rfl)
theorem zd_dX11_locals_0 : sg (cX11_locals.data.toList.drop 0) [[27], [155, 0, 9], [27], [16, 12], [164, 0, 5], [2], [172], [42], [180, 0, 60], [182, 1, 74], [3], [61], [3], [62], [3], [54, 4], [21, 4], [42], [180, 0, 60], [182, 1, 77]] = true := by decide +kernel
theorem dX11_locals_0 : decode cX11_locals 0 = .ok (.iload_n 1, 1) := dc_27 (sg_at zd_dX11_locals_0 0 rfl rfl)
theorem dX11_locals_1 : decode cX11_locals 1 = .ok (.ifCond .lt 9, 3) := dc_155 (sg_at zd_dX11_locals_0 1 rfl rfl) rfl
theorem dX11_locals_4 : decode cX11_locals 4 = .ok (.iload_n 1, 1) := dc_27 (sg_at zd_dX11_locals_0 2 rfl rfl)
theorem dX11_locals_5 : decode cX11_locals 5 = .ok (.bipush 12, 2) := dc_16 (sg_at zd_dX11_locals_0 3 rfl rfl) rfl
theorem dX11_locals_7 : decode cX11_locals 7 = .ok (.if_icmp .le 5, 3) := dc_164 (sg_at zd_dX11_locals_0 4 rfl rfl) rfl
theorem dX11_locals_10 : decode cX11_locals 10 = .ok (.iconst (-1), 1) := dc_2 (sg_at zd_dX11_locals_0 5 rfl rfl)
theorem dX11_locals_11 : decode cX11_locals 11 = .ok (.ireturn, 1) := dc_172 (sg_at zd_dX11_locals_0 6 rfl rfl)
theorem dX11_locals_12 : decode cX11_locals 12 = .ok (.aload_n 0, 1) := dc_42 (sg_at zd_dX11_locals_0 7 rfl rfl)
theorem dX11_locals_13 : decode cX11_locals 13 = .ok (.getfield 60, 3) := dc_180 (sg_at zd_dX11_locals_0 8 rfl rfl) rfl
theorem dX11_locals_16 : decode cX11_locals 16 = .ok (.invokevirtual 330, 3) := dc_182 (sg_at zd_dX11_locals_0 9 rfl rfl) rfl
theorem dX11_locals_19 : decode cX11_locals 19 = .ok (.iconst 0, 1) := dc_3 (sg_at zd_dX11_locals_0 10 rfl rfl)
theorem dX11_locals_20 : decode cX11_locals 20 = .ok (.istore_n 2, 1) := dc_61 (sg_at zd_dX11_locals_0 11 rfl rfl)
theorem dX11_locals_21 : decode cX11_locals 21 = .ok (.iconst 0, 1) := dc_3 (sg_at zd_dX11_locals_0 12 rfl rfl)
theorem dX11_locals_22 : decode cX11_locals 22 = .ok (.istore_n 3, 1) := dc_62 (sg_at zd_dX11_locals_0 13 rfl rfl)
theorem dX11_locals_23 : decode cX11_locals 23 = .ok (.iconst 0, 1) := dc_3 (sg_at zd_dX11_locals_0 14 rfl rfl)
theorem dX11_locals_24 : decode cX11_locals 24 = .ok (.istore 4, 2) := dc_54 (sg_at zd_dX11_locals_0 15 rfl rfl)
theorem dX11_locals_26 : decode cX11_locals 26 = .ok (.iload 4, 2) := dc_21 (sg_at zd_dX11_locals_0 16 rfl rfl)
theorem dX11_locals_28 : decode cX11_locals 28 = .ok (.aload_n 0, 1) := dc_42 (sg_at zd_dX11_locals_0 17 rfl rfl)
theorem dX11_locals_29 : decode cX11_locals 29 = .ok (.getfield 60, 3) := dc_180 (sg_at zd_dX11_locals_0 18 rfl rfl) rfl
theorem dX11_locals_32 : decode cX11_locals 32 = .ok (.invokevirtual 333, 3) := dc_182 (sg_at zd_dX11_locals_0 19 rfl rfl) rfl
theorem zd_dX11_locals_35 : sg (cX11_locals.data.toList.drop 35) [[162, 0, 114], [42], [180, 0, 60], [21, 4], [182, 1, 80], [153, 0, 26], [42], [180, 0, 18], [180, 0, 150], [42], [180, 0, 60], [180, 1, 83], [21, 4], [46], [182, 1, 52], [167, 0, 4], [2], [54, 5], [21, 5], [2]] = true := by decide +kernel
theorem dX11_locals_35 : decode cX11_locals 35 = .ok (.if_icmp .ge 114, 3) := dc_162 (sg_at zd_dX11_locals_35 0 rfl rfl) rfl
theorem dX11_locals_38 : decode cX11_locals 38 = .ok (.aload_n 0, 1) := dc_42 (sg_at zd_dX11_locals_35 1 rfl rfl)
theorem dX11_locals_39 : decode cX11_locals 39 = .ok (.getfield 60, 3) := dc_180 (sg_at zd_dX11_locals_35 2 rfl rfl) rfl
theorem dX11_locals_42 : decode cX11_locals 42 = .ok (.iload 4, 2) := dc_21 (sg_at zd_dX11_locals_35 3 rfl rfl)
theorem dX11_locals_44 : decode cX11_locals 44 = .ok (.invokevirtual 336, 3) := dc_182 (sg_at zd_dX11_locals_35 4 rfl rfl) rfl
theorem dX11_locals_47 : decode cX11_locals 47 = .ok (.ifCond .eq 26, 3) := dc_153 (sg_at zd_dX11_locals_35 5 rfl rfl) rfl
theorem dX11_locals_50 : decode cX11_locals 50 = .ok (.aload_n 0, 1) := dc_42 (sg_at zd_dX11_locals_35 6 rfl rfl)
theorem dX11_locals_51 : decode cX11_locals 51 = .ok (.getfield 18, 3) := dc_180 (sg_at zd_dX11_locals_35 7 rfl rfl) rfl
theorem dX11_locals_54 : decode cX11_locals 54 = .ok (.getfield 150, 3) := dc_180 (sg_at zd_dX11_locals_35 8 rfl rfl) rfl
theorem dX11_locals_57 : decode cX11_locals 57 = .ok (.aload_n 0, 1) := dc_42 (sg_at zd_dX11_locals_35 9 rfl rfl)
theorem dX11_locals_58 : decode cX11_locals 58 = .ok (.getfield 60, 3) := dc_180 (sg_at zd_dX11_locals_35 10 rfl rfl) rfl
theorem dX11_locals_61 : decode cX11_locals 61 = .ok (.getfield 339, 3) := dc_180 (sg_at zd_dX11_locals_35 11 rfl rfl) rfl
theorem dX11_locals_64 : decode cX11_locals 64 = .ok (.iload 4, 2) := dc_21 (sg_at zd_dX11_locals_35 12 rfl rfl)
theorem dX11_locals_66 : decode cX11_locals 66 = .ok (.iaload, 1) := dc_46 (sg_at zd_dX11_locals_35 13 rfl rfl)
theorem dX11_locals_67 : decode cX11_locals 67 = .ok (.invokevirtual 308, 3) := dc_182 (sg_at zd_dX11_locals_35 14 rfl rfl) rfl
theorem dX11_locals_70 : decode cX11_locals 70 = .ok (.goto 4, 3) := dc_167 (sg_at zd_dX11_locals_35 15 rfl rfl) rfl
theorem dX11_locals_73 : decode cX11_locals 73 = .ok (.iconst (-1), 1) := dc_2 (sg_at zd_dX11_locals_35 16 rfl rfl)
theorem dX11_locals_74 : decode cX11_locals 74 = .ok (.istore 5, 2) := dc_54 (sg_at zd_dX11_locals_35 17 rfl rfl)
theorem dX11_locals_76 : decode cX11_locals 76 = .ok (.iload 5, 2) := dc_21 (sg_at zd_dX11_locals_35 18 rfl rfl)
theorem dX11_locals_78 : decode cX11_locals 78 = .ok (.iconst (-1), 1) := dc_2 (sg_at zd_dX11_locals_35 19 rfl rfl)
theorem zd_dX11_locals_79 : sg (cX11_locals.data.toList.drop 79) [[159, 0, 64], [4], [42], [180, 0, 60], [180, 1, 84], [21, 4], [46], [120], [54, 6], [42], [180, 0, 37], [42], [180, 0, 60], [180, 1, 87], [21, 4], [46], [42], [180, 0, 18], [180, 0, 150], [180, 1, 88]] = true := by decide +kernel
theorem dX11_locals_79 : decode cX11_locals 79 = .ok (.if_icmp .eq 64, 3) := dc_159 (sg_at zd_dX11_locals_79 0 rfl rfl) rfl
theorem dX11_locals_82 : decode cX11_locals 82 = .ok (.iconst 1, 1) := dc_4 (sg_at zd_dX11_locals_79 1 rfl rfl)
theorem dX11_locals_83 : decode cX11_locals 83 = .ok (.aload_n 0, 1) := dc_42 (sg_at zd_dX11_locals_79 2 rfl rfl)
theorem dX11_locals_84 : decode cX11_locals 84 = .ok (.getfield 60, 3) := dc_180 (sg_at zd_dX11_locals_79 3 rfl rfl) rfl
theorem dX11_locals_87 : decode cX11_locals 87 = .ok (.getfield 340, 3) := dc_180 (sg_at zd_dX11_locals_79 4 rfl rfl) rfl
theorem dX11_locals_90 : decode cX11_locals 90 = .ok (.iload 4, 2) := dc_21 (sg_at zd_dX11_locals_79 5 rfl rfl)
theorem dX11_locals_92 : decode cX11_locals 92 = .ok (.iaload, 1) := dc_46 (sg_at zd_dX11_locals_79 6 rfl rfl)
theorem dX11_locals_93 : decode cX11_locals 93 = .ok (.ishl, 1) := dc_120 (sg_at zd_dX11_locals_79 7 rfl rfl)
theorem dX11_locals_94 : decode cX11_locals 94 = .ok (.istore 6, 2) := dc_54 (sg_at zd_dX11_locals_79 8 rfl rfl)
theorem dX11_locals_96 : decode cX11_locals 96 = .ok (.aload_n 0, 1) := dc_42 (sg_at zd_dX11_locals_79 9 rfl rfl)
theorem dX11_locals_97 : decode cX11_locals 97 = .ok (.getfield 37, 3) := dc_180 (sg_at zd_dX11_locals_79 10 rfl rfl) rfl
theorem dX11_locals_100 : decode cX11_locals 100 = .ok (.aload_n 0, 1) := dc_42 (sg_at zd_dX11_locals_79 11 rfl rfl)
theorem dX11_locals_101 : decode cX11_locals 101 = .ok (.getfield 60, 3) := dc_180 (sg_at zd_dX11_locals_79 12 rfl rfl) rfl
theorem dX11_locals_104 : decode cX11_locals 104 = .ok (.getfield 343, 3) := dc_180 (sg_at zd_dX11_locals_79 13 rfl rfl) rfl
theorem dX11_locals_107 : decode cX11_locals 107 = .ok (.iload 4, 2) := dc_21 (sg_at zd_dX11_locals_79 14 rfl rfl)
theorem dX11_locals_109 : decode cX11_locals 109 = .ok (.iaload, 1) := dc_46 (sg_at zd_dX11_locals_79 15 rfl rfl)
theorem dX11_locals_110 : decode cX11_locals 110 = .ok (.aload_n 0, 1) := dc_42 (sg_at zd_dX11_locals_79 16 rfl rfl)
theorem dX11_locals_111 : decode cX11_locals 111 = .ok (.getfield 18, 3) := dc_180 (sg_at zd_dX11_locals_79 17 rfl rfl) rfl
theorem dX11_locals_114 : decode cX11_locals 114 = .ok (.getfield 150, 3) := dc_180 (sg_at zd_dX11_locals_79 18 rfl rfl) rfl
theorem dX11_locals_117 : decode cX11_locals 117 = .ok (.getfield 344, 3) := dc_180 (sg_at zd_dX11_locals_79 19 rfl rfl) rfl
theorem zd_dX11_locals_120 : sg (cX11_locals.data.toList.drop 120) [[21, 5], [46], [182, 1, 91], [27], [163, 0, 11], [28], [21, 6], [128], [61], [167, 0, 8], [29], [21, 6], [128], [62], [132, 4, 1], [167, 255, 136], [28], [29], [2], [130]] = true := by decide +kernel
theorem dX11_locals_120 : decode cX11_locals 120 = .ok (.iload 5, 2) := dc_21 (sg_at zd_dX11_locals_120 0 rfl rfl)
theorem dX11_locals_122 : decode cX11_locals 122 = .ok (.iaload, 1) := dc_46 (sg_at zd_dX11_locals_120 1 rfl rfl)
theorem dX11_locals_123 : decode cX11_locals 123 = .ok (.invokevirtual 347, 3) := dc_182 (sg_at zd_dX11_locals_120 2 rfl rfl) rfl
theorem dX11_locals_126 : decode cX11_locals 126 = .ok (.iload_n 1, 1) := dc_27 (sg_at zd_dX11_locals_120 3 rfl rfl)
theorem dX11_locals_127 : decode cX11_locals 127 = .ok (.if_icmp .gt 11, 3) := dc_163 (sg_at zd_dX11_locals_120 4 rfl rfl) rfl
theorem dX11_locals_130 : decode cX11_locals 130 = .ok (.iload_n 2, 1) := dc_28 (sg_at zd_dX11_locals_120 5 rfl rfl)
theorem dX11_locals_131 : decode cX11_locals 131 = .ok (.iload 6, 2) := dc_21 (sg_at zd_dX11_locals_120 6 rfl rfl)
theorem dX11_locals_133 : decode cX11_locals 133 = .ok (.ior, 1) := dc_128 (sg_at zd_dX11_locals_120 7 rfl rfl)
theorem dX11_locals_134 : decode cX11_locals 134 = .ok (.istore_n 2, 1) := dc_61 (sg_at zd_dX11_locals_120 8 rfl rfl)
theorem dX11_locals_135 : decode cX11_locals 135 = .ok (.goto 8, 3) := dc_167 (sg_at zd_dX11_locals_120 9 rfl rfl) rfl
theorem dX11_locals_138 : decode cX11_locals 138 = .ok (.iload_n 3, 1) := dc_29 (sg_at zd_dX11_locals_120 10 rfl rfl)
theorem dX11_locals_139 : decode cX11_locals 139 = .ok (.iload 6, 2) := dc_21 (sg_at zd_dX11_locals_120 11 rfl rfl)
theorem dX11_locals_141 : decode cX11_locals 141 = .ok (.ior, 1) := dc_128 (sg_at zd_dX11_locals_120 12 rfl rfl)
theorem dX11_locals_142 : decode cX11_locals 142 = .ok (.istore_n 3, 1) := dc_62 (sg_at zd_dX11_locals_120 13 rfl rfl)
theorem dX11_locals_143 : decode cX11_locals 143 = .ok (.iinc 4 1, 3) := dc_132 (sg_at zd_dX11_locals_120 14 rfl rfl) rfl
theorem dX11_locals_146 : decode cX11_locals 146 = .ok (.goto (-120), 3) := dc_167 (sg_at zd_dX11_locals_120 15 rfl rfl) rfl
theorem dX11_locals_149 : decode cX11_locals 149 = .ok (.iload_n 2, 1) := dc_28 (sg_at zd_dX11_locals_120 16 rfl rfl)
theorem dX11_locals_150 : decode cX11_locals 150 = .ok (.iload_n 3, 1) := dc_29 (sg_at zd_dX11_locals_120 17 rfl rfl)
theorem dX11_locals_151 : decode cX11_locals 151 = .ok (.iconst (-1), 1) := dc_2 (sg_at zd_dX11_locals_120 18 rfl rfl)
theorem dX11_locals_152 : decode cX11_locals 152 = .ok (.ixor, 1) := dc_130 (sg_at zd_dX11_locals_120 19 rfl rfl)
theorem zd_dX11_locals_153 : sg (cX11_locals.data.toList.drop 153) [[126], [172]] = true := by decide +kernel
theorem dX11_locals_153 : decode cX11_locals 153 = .ok (.iand, 1) := dc_126 (sg_at zd_dX11_locals_153 0 rfl rfl)
theorem dX11_locals_154 : decode cX11_locals 154 = .ok (.ireturn, 1) := dc_172 (sg_at zd_dX11_locals_153 1 rfl rfl)
theorem zd_dX11_passMinute_0 : sg (cX11_passMinute.data.toList.drop 0) [[42], [180, 0, 18], [180, 0, 150], [42], [180, 0, 47], [180, 0, 186], [182, 1, 131], [60], [27], [42], [180, 0, 18], [180, 0, 150], [180, 1, 43], [162, 0, 37], [42], [180, 0, 18], [180, 0, 150], [180, 0, 154], [27], [46]] = true := by decide +kernel
theorem dX11_passMinute_0 : decode cX11_passMinute 0 = .ok (.aload_n 0, 1) := dc_42 (sg_at zd_dX11_passMinute_0 0 rfl rfl)
theorem dX11_passMinute_1 : decode cX11_passMinute 1 = .ok (.getfield 18, 3) := dc_180 (sg_at zd_dX11_passMinute_0 1 rfl rfl) rfl
theorem dX11_passMinute_4 : decode cX11_passMinute 4 = .ok (.getfield 150, 3) := dc_180 (sg_at zd_dX11_passMinute_0 2 rfl rfl) rfl
theorem dX11_passMinute_7 : decode cX11_passMinute 7 = .ok (.aload_n 0, 1) := dc_42 (sg_at zd_dX11_passMinute_0 3 rfl rfl)
theorem dX11_passMinute_8 : decode cX11_passMinute 8 = .ok (.getfield 47, 3) := dc_180 (sg_at zd_dX11_passMinute_0 4 rfl rfl) rfl
theorem dX11_passMinute_11 : decode cX11_passMinute 11 = .ok (.getfield 186, 3) := dc_180 (sg_at zd_dX11_passMinute_0 5 rfl rfl) rfl
theorem dX11_passMinute_14 : decode cX11_passMinute 14 = .ok (.invokevirtual 387, 3) := dc_182 (sg_at zd_dX11_passMinute_0 6 rfl rfl) rfl
theorem dX11_passMinute_17 : decode cX11_passMinute 17 = .ok (.istore_n 1, 1) := dc_60 (sg_at zd_dX11_passMinute_0 7 rfl rfl)
theorem dX11_passMinute_18 : decode cX11_passMinute 18 = .ok (.iload_n 1, 1) := dc_27 (sg_at zd_dX11_passMinute_0 8 rfl rfl)
theorem dX11_passMinute_19 : decode cX11_passMinute 19 = .ok (.aload_n 0, 1) := dc_42 (sg_at zd_dX11_passMinute_0 9 rfl rfl)
theorem dX11_passMinute_20 : decode cX11_passMinute 20 = .ok (.getfield 18, 3) := dc_180 (sg_at zd_dX11_passMinute_0 10 rfl rfl) rfl
theorem dX11_passMinute_23 : decode cX11_passMinute 23 = .ok (.getfield 150, 3) := dc_180 (sg_at zd_dX11_passMinute_0 11 rfl rfl) rfl
theorem dX11_passMinute_26 : decode cX11_passMinute 26 = .ok (.getfield 299, 3) := dc_180 (sg_at zd_dX11_passMinute_0 12 rfl rfl) rfl
theorem dX11_passMinute_29 : decode cX11_passMinute 29 = .ok (.if_icmp .ge 37, 3) := dc_162 (sg_at zd_dX11_passMinute_0 13 rfl rfl) rfl
theorem dX11_passMinute_32 : decode cX11_passMinute 32 = .ok (.aload_n 0, 1) := dc_42 (sg_at zd_dX11_passMinute_0 14 rfl rfl)
theorem dX11_passMinute_33 : decode cX11_passMinute 33 = .ok (.getfield 18, 3) := dc_180 (sg_at zd_dX11_passMinute_0 15 rfl rfl) rfl
theorem dX11_passMinute_36 : decode cX11_passMinute 36 = .ok (.getfield 150, 3) := dc_180 (sg_at zd_dX11_passMinute_0 16 rfl rfl) rfl
theorem dX11_passMinute_39 : decode cX11_passMinute 39 = .ok (.getfield 154, 3) := dc_180 (sg_at zd_dX11_passMinute_0 17 rfl rfl) rfl
theorem dX11_passMinute_42 : decode cX11_passMinute 42 = .ok (.iload_n 1, 1) := dc_27 (sg_at zd_dX11_passMinute_0 18 rfl rfl)
theorem dX11_passMinute_43 : decode cX11_passMinute 43 = .ok (.iaload, 1) := dc_46 (sg_at zd_dX11_passMinute_0 19 rfl rfl)
theorem zd_dX11_passMinute_44 : sg (cX11_passMinute.data.toList.drop 44) [[42], [180, 0, 47], [180, 0, 186], [160, 0, 15], [42], [180, 0, 37], [42], [180, 0, 47], [27], [182, 1, 108], [42], [180, 0, 47], [42], [180, 0, 18], [180, 0, 102], [180, 0, 106], [182, 1, 143], [42], [180, 0, 67], [3]] = true := by decide +kernel
theorem dX11_passMinute_44 : decode cX11_passMinute 44 = .ok (.aload_n 0, 1) := dc_42 (sg_at zd_dX11_passMinute_44 0 rfl rfl)
theorem dX11_passMinute_45 : decode cX11_passMinute 45 = .ok (.getfield 47, 3) := dc_180 (sg_at zd_dX11_passMinute_44 1 rfl rfl) rfl
theorem dX11_passMinute_48 : decode cX11_passMinute 48 = .ok (.getfield 186, 3) := dc_180 (sg_at zd_dX11_passMinute_44 2 rfl rfl) rfl
theorem dX11_passMinute_51 : decode cX11_passMinute 51 = .ok (.if_icmp .ne 15, 3) := dc_160 (sg_at zd_dX11_passMinute_44 3 rfl rfl) rfl
theorem dX11_passMinute_54 : decode cX11_passMinute 54 = .ok (.aload_n 0, 1) := dc_42 (sg_at zd_dX11_passMinute_44 4 rfl rfl)
theorem dX11_passMinute_55 : decode cX11_passMinute 55 = .ok (.getfield 37, 3) := dc_180 (sg_at zd_dX11_passMinute_44 5 rfl rfl) rfl
theorem dX11_passMinute_58 : decode cX11_passMinute 58 = .ok (.aload_n 0, 1) := dc_42 (sg_at zd_dX11_passMinute_44 6 rfl rfl)
theorem dX11_passMinute_59 : decode cX11_passMinute 59 = .ok (.getfield 47, 3) := dc_180 (sg_at zd_dX11_passMinute_44 7 rfl rfl) rfl
theorem dX11_passMinute_62 : decode cX11_passMinute 62 = .ok (.iload_n 1, 1) := dc_27 (sg_at zd_dX11_passMinute_44 8 rfl rfl)
theorem dX11_passMinute_63 : decode cX11_passMinute 63 = .ok (.invokevirtual 364, 3) := dc_182 (sg_at zd_dX11_passMinute_44 9 rfl rfl) rfl
theorem dX11_passMinute_66 : decode cX11_passMinute 66 = .ok (.aload_n 0, 1) := dc_42 (sg_at zd_dX11_passMinute_44 10 rfl rfl)
theorem dX11_passMinute_67 : decode cX11_passMinute 67 = .ok (.getfield 47, 3) := dc_180 (sg_at zd_dX11_passMinute_44 11 rfl rfl) rfl
theorem dX11_passMinute_70 : decode cX11_passMinute 70 = .ok (.aload_n 0, 1) := dc_42 (sg_at zd_dX11_passMinute_44 12 rfl rfl)
theorem dX11_passMinute_71 : decode cX11_passMinute 71 = .ok (.getfield 18, 3) := dc_180 (sg_at zd_dX11_passMinute_44 13 rfl rfl) rfl
theorem dX11_passMinute_74 : decode cX11_passMinute 74 = .ok (.getfield 102, 3) := dc_180 (sg_at zd_dX11_passMinute_44 14 rfl rfl) rfl
theorem dX11_passMinute_77 : decode cX11_passMinute 77 = .ok (.getfield 106, 3) := dc_180 (sg_at zd_dX11_passMinute_44 15 rfl rfl) rfl
theorem dX11_passMinute_80 : decode cX11_passMinute 80 = .ok (.invokevirtual 399, 3) := dc_182 (sg_at zd_dX11_passMinute_44 16 rfl rfl) rfl
theorem dX11_passMinute_83 : decode cX11_passMinute 83 = .ok (.aload_n 0, 1) := dc_42 (sg_at zd_dX11_passMinute_44 17 rfl rfl)
theorem dX11_passMinute_84 : decode cX11_passMinute 84 = .ok (.getfield 67, 3) := dc_180 (sg_at zd_dX11_passMinute_44 18 rfl rfl) rfl
theorem dX11_passMinute_87 : decode cX11_passMinute 87 = .ok (.iconst 0, 1) := dc_3 (sg_at zd_dX11_passMinute_44 19 rfl rfl)
theorem zd_dX11_passMinute_88 : sg (cX11_passMinute.data.toList.drop 88) [[181, 1, 112], [177]] = true := by decide +kernel
theorem dX11_passMinute_88 : decode cX11_passMinute 88 = .ok (.putfield 368, 3) := dc_181 (sg_at zd_dX11_passMinute_88 0 rfl rfl) rfl
theorem dX11_passMinute_91 : decode cX11_passMinute 91 = .ok (.return_, 1) := dc_177 (sg_at zd_dX11_passMinute_88 1 rfl rfl)
theorem zd_dX11_minutes_0 : sg (cX11_minutes.data.toList.drop 0) [[27], [155, 0, 24], [27], [16, 99], [163, 0, 18], [42], [180, 0, 47], [180, 0, 186], [27], [96], [17, 0, 199], [164, 0, 5], [2], [172], [3], [61], [28], [27], [162, 0, 13], [42]] = true := by decide +kernel
theorem dX11_minutes_0 : decode cX11_minutes 0 = .ok (.iload_n 1, 1) := dc_27 (sg_at zd_dX11_minutes_0 0 rfl rfl)
theorem dX11_minutes_1 : decode cX11_minutes 1 = .ok (.ifCond .lt 24, 3) := dc_155 (sg_at zd_dX11_minutes_0 1 rfl rfl) rfl
theorem dX11_minutes_4 : decode cX11_minutes 4 = .ok (.iload_n 1, 1) := dc_27 (sg_at zd_dX11_minutes_0 2 rfl rfl)
theorem dX11_minutes_5 : decode cX11_minutes 5 = .ok (.bipush 99, 2) := dc_16 (sg_at zd_dX11_minutes_0 3 rfl rfl) rfl
theorem dX11_minutes_7 : decode cX11_minutes 7 = .ok (.if_icmp .gt 18, 3) := dc_163 (sg_at zd_dX11_minutes_0 4 rfl rfl) rfl
theorem dX11_minutes_10 : decode cX11_minutes 10 = .ok (.aload_n 0, 1) := dc_42 (sg_at zd_dX11_minutes_0 5 rfl rfl)
theorem dX11_minutes_11 : decode cX11_minutes 11 = .ok (.getfield 47, 3) := dc_180 (sg_at zd_dX11_minutes_0 6 rfl rfl) rfl
theorem dX11_minutes_14 : decode cX11_minutes 14 = .ok (.getfield 186, 3) := dc_180 (sg_at zd_dX11_minutes_0 7 rfl rfl) rfl
theorem dX11_minutes_17 : decode cX11_minutes 17 = .ok (.iload_n 1, 1) := dc_27 (sg_at zd_dX11_minutes_0 8 rfl rfl)
theorem dX11_minutes_18 : decode cX11_minutes 18 = .ok (.iadd, 1) := dc_96 (sg_at zd_dX11_minutes_0 9 rfl rfl)
theorem dX11_minutes_19 : decode cX11_minutes 19 = .ok (.sipush 199, 3) := dc_17 (sg_at zd_dX11_minutes_0 10 rfl rfl) rfl
theorem dX11_minutes_22 : decode cX11_minutes 22 = .ok (.if_icmp .le 5, 3) := dc_164 (sg_at zd_dX11_minutes_0 11 rfl rfl) rfl
theorem dX11_minutes_25 : decode cX11_minutes 25 = .ok (.iconst (-1), 1) := dc_2 (sg_at zd_dX11_minutes_0 12 rfl rfl)
theorem dX11_minutes_26 : decode cX11_minutes 26 = .ok (.ireturn, 1) := dc_172 (sg_at zd_dX11_minutes_0 13 rfl rfl)
theorem dX11_minutes_27 : decode cX11_minutes 27 = .ok (.iconst 0, 1) := dc_3 (sg_at zd_dX11_minutes_0 14 rfl rfl)
theorem dX11_minutes_28 : decode cX11_minutes 28 = .ok (.istore_n 2, 1) := dc_61 (sg_at zd_dX11_minutes_0 15 rfl rfl)
theorem dX11_minutes_29 : decode cX11_minutes 29 = .ok (.iload_n 2, 1) := dc_28 (sg_at zd_dX11_minutes_0 16 rfl rfl)
theorem dX11_minutes_30 : decode cX11_minutes 30 = .ok (.iload_n 1, 1) := dc_27 (sg_at zd_dX11_minutes_0 17 rfl rfl)
theorem dX11_minutes_31 : decode cX11_minutes 31 = .ok (.if_icmp .ge 13, 3) := dc_162 (sg_at zd_dX11_minutes_0 18 rfl rfl) rfl
theorem dX11_minutes_34 : decode cX11_minutes 34 = .ok (.aload_n 0, 1) := dc_42 (sg_at zd_dX11_minutes_0 19 rfl rfl)
theorem zd_dX11_minutes_35 : sg (cX11_minutes.data.toList.drop 35) [[182, 0, 220], [132, 2, 1], [167, 255, 244], [42], [180, 0, 47], [180, 0, 186], [172]] = true := by decide +kernel
theorem dX11_minutes_35 : decode cX11_minutes 35 = .ok (.invokevirtual 220, 3) := dc_182 (sg_at zd_dX11_minutes_35 0 rfl rfl) rfl
theorem dX11_minutes_38 : decode cX11_minutes 38 = .ok (.iinc 2 1, 3) := dc_132 (sg_at zd_dX11_minutes_35 1 rfl rfl) rfl
theorem dX11_minutes_41 : decode cX11_minutes 41 = .ok (.goto (-12), 3) := dc_167 (sg_at zd_dX11_minutes_35 2 rfl rfl) rfl
theorem dX11_minutes_44 : decode cX11_minutes 44 = .ok (.aload_n 0, 1) := dc_42 (sg_at zd_dX11_minutes_35 3 rfl rfl)
theorem dX11_minutes_45 : decode cX11_minutes 45 = .ok (.getfield 47, 3) := dc_180 (sg_at zd_dX11_minutes_35 4 rfl rfl) rfl
theorem dX11_minutes_48 : decode cX11_minutes 48 = .ok (.getfield 186, 3) := dc_180 (sg_at zd_dX11_minutes_35 5 rfl rfl) rfl
theorem dX11_minutes_51 : decode cX11_minutes 51 = .ok (.ireturn, 1) := dc_172 (sg_at zd_dX11_minutes_35 6 rfl rfl)
theorem zd_dX11_named_0 : sg (cX11_named.data.toList.drop 0) [[3], [61], [28], [42], [180, 0, 18], [180, 0, 102], [180, 0, 106], [162, 0, 27], [42], [180, 0, 18], [180, 0, 102], [180, 0, 111], [28], [46], [27], [160, 0, 5], [28], [172], [132, 2, 1], [167, 255, 221]] = true := by decide +kernel
theorem dX11_named_0 : decode cX11_named 0 = .ok (.iconst 0, 1) := dc_3 (sg_at zd_dX11_named_0 0 rfl rfl)
theorem dX11_named_1 : decode cX11_named 1 = .ok (.istore_n 2, 1) := dc_61 (sg_at zd_dX11_named_0 1 rfl rfl)
theorem dX11_named_2 : decode cX11_named 2 = .ok (.iload_n 2, 1) := dc_28 (sg_at zd_dX11_named_0 2 rfl rfl)
theorem dX11_named_3 : decode cX11_named 3 = .ok (.aload_n 0, 1) := dc_42 (sg_at zd_dX11_named_0 3 rfl rfl)
theorem dX11_named_4 : decode cX11_named 4 = .ok (.getfield 18, 3) := dc_180 (sg_at zd_dX11_named_0 4 rfl rfl) rfl
theorem dX11_named_7 : decode cX11_named 7 = .ok (.getfield 102, 3) := dc_180 (sg_at zd_dX11_named_0 5 rfl rfl) rfl
theorem dX11_named_10 : decode cX11_named 10 = .ok (.getfield 106, 3) := dc_180 (sg_at zd_dX11_named_0 6 rfl rfl) rfl
theorem dX11_named_13 : decode cX11_named 13 = .ok (.if_icmp .ge 27, 3) := dc_162 (sg_at zd_dX11_named_0 7 rfl rfl) rfl
theorem dX11_named_16 : decode cX11_named 16 = .ok (.aload_n 0, 1) := dc_42 (sg_at zd_dX11_named_0 8 rfl rfl)
theorem dX11_named_17 : decode cX11_named 17 = .ok (.getfield 18, 3) := dc_180 (sg_at zd_dX11_named_0 9 rfl rfl) rfl
theorem dX11_named_20 : decode cX11_named 20 = .ok (.getfield 102, 3) := dc_180 (sg_at zd_dX11_named_0 10 rfl rfl) rfl
theorem dX11_named_23 : decode cX11_named 23 = .ok (.getfield 111, 3) := dc_180 (sg_at zd_dX11_named_0 11 rfl rfl) rfl
theorem dX11_named_26 : decode cX11_named 26 = .ok (.iload_n 2, 1) := dc_28 (sg_at zd_dX11_named_0 12 rfl rfl)
theorem dX11_named_27 : decode cX11_named 27 = .ok (.iaload, 1) := dc_46 (sg_at zd_dX11_named_0 13 rfl rfl)
theorem dX11_named_28 : decode cX11_named 28 = .ok (.iload_n 1, 1) := dc_27 (sg_at zd_dX11_named_0 14 rfl rfl)
theorem dX11_named_29 : decode cX11_named 29 = .ok (.if_icmp .ne 5, 3) := dc_160 (sg_at zd_dX11_named_0 15 rfl rfl) rfl
theorem dX11_named_32 : decode cX11_named 32 = .ok (.iload_n 2, 1) := dc_28 (sg_at zd_dX11_named_0 16 rfl rfl)
theorem dX11_named_33 : decode cX11_named 33 = .ok (.ireturn, 1) := dc_172 (sg_at zd_dX11_named_0 17 rfl rfl)
theorem dX11_named_34 : decode cX11_named 34 = .ok (.iinc 2 1, 3) := dc_132 (sg_at zd_dX11_named_0 18 rfl rfl) rfl
theorem dX11_named_37 : decode cX11_named 37 = .ok (.goto (-35), 3) := dc_167 (sg_at zd_dX11_named_0 19 rfl rfl) rfl
theorem zd_dX11_named_40 : sg (cX11_named.data.toList.drop 40) [[2], [172]] = true := by decide +kernel
theorem dX11_named_40 : decode cX11_named 40 = .ok (.iconst (-1), 1) := dc_2 (sg_at zd_dX11_named_40 0 rfl rfl)
theorem dX11_named_41 : decode cX11_named 41 = .ok (.ireturn, 1) := dc_172 (sg_at zd_dX11_named_40 1 rfl rfl)
theorem zd_dX11_next_0 : sg (cX11_next.data.toList.drop 0) [[42], [180, 0, 18], [180, 0, 150], [42], [180, 0, 47], [180, 0, 186], [182, 1, 52], [60], [27], [2], [160, 0, 8], [16, 254], [167, 0, 22], [42], [180, 0, 18], [180, 0, 150], [27], [182, 1, 55], [42], [180, 0, 47]] = true := by decide +kernel
theorem dX11_next_0 : decode cX11_next 0 = .ok (.aload_n 0, 1) := dc_42 (sg_at zd_dX11_next_0 0 rfl rfl)
theorem dX11_next_1 : decode cX11_next 1 = .ok (.getfield 18, 3) := dc_180 (sg_at zd_dX11_next_0 1 rfl rfl) rfl
theorem dX11_next_4 : decode cX11_next 4 = .ok (.getfield 150, 3) := dc_180 (sg_at zd_dX11_next_0 2 rfl rfl) rfl
theorem dX11_next_7 : decode cX11_next 7 = .ok (.aload_n 0, 1) := dc_42 (sg_at zd_dX11_next_0 3 rfl rfl)
theorem dX11_next_8 : decode cX11_next 8 = .ok (.getfield 47, 3) := dc_180 (sg_at zd_dX11_next_0 4 rfl rfl) rfl
theorem dX11_next_11 : decode cX11_next 11 = .ok (.getfield 186, 3) := dc_180 (sg_at zd_dX11_next_0 5 rfl rfl) rfl
theorem dX11_next_14 : decode cX11_next 14 = .ok (.invokevirtual 308, 3) := dc_182 (sg_at zd_dX11_next_0 6 rfl rfl) rfl
theorem dX11_next_17 : decode cX11_next 17 = .ok (.istore_n 1, 1) := dc_60 (sg_at zd_dX11_next_0 7 rfl rfl)
theorem dX11_next_18 : decode cX11_next 18 = .ok (.iload_n 1, 1) := dc_27 (sg_at zd_dX11_next_0 8 rfl rfl)
theorem dX11_next_19 : decode cX11_next 19 = .ok (.iconst (-1), 1) := dc_2 (sg_at zd_dX11_next_0 9 rfl rfl)
theorem dX11_next_20 : decode cX11_next 20 = .ok (.if_icmp .ne 8, 3) := dc_160 (sg_at zd_dX11_next_0 10 rfl rfl) rfl
theorem dX11_next_23 : decode cX11_next 23 = .ok (.bipush (-2), 2) := dc_16 (sg_at zd_dX11_next_0 11 rfl rfl) rfl
theorem dX11_next_25 : decode cX11_next 25 = .ok (.goto 22, 3) := dc_167 (sg_at zd_dX11_next_0 12 rfl rfl) rfl
theorem dX11_next_28 : decode cX11_next 28 = .ok (.aload_n 0, 1) := dc_42 (sg_at zd_dX11_next_0 13 rfl rfl)
theorem dX11_next_29 : decode cX11_next 29 = .ok (.getfield 18, 3) := dc_180 (sg_at zd_dX11_next_0 14 rfl rfl) rfl
theorem dX11_next_32 : decode cX11_next 32 = .ok (.getfield 150, 3) := dc_180 (sg_at zd_dX11_next_0 15 rfl rfl) rfl
theorem dX11_next_35 : decode cX11_next 35 = .ok (.iload_n 1, 1) := dc_27 (sg_at zd_dX11_next_0 16 rfl rfl)
theorem dX11_next_36 : decode cX11_next 36 = .ok (.invokevirtual 311, 3) := dc_182 (sg_at zd_dX11_next_0 17 rfl rfl) rfl
theorem dX11_next_39 : decode cX11_next 39 = .ok (.aload_n 0, 1) := dc_42 (sg_at zd_dX11_next_0 18 rfl rfl)
theorem dX11_next_40 : decode cX11_next 40 = .ok (.getfield 47, 3) := dc_180 (sg_at zd_dX11_next_0 19 rfl rfl) rfl
theorem zd_dX11_next_43 : sg (cX11_next.data.toList.drop 43) [[180, 0, 186], [100], [172]] = true := by decide +kernel
theorem dX11_next_43 : decode cX11_next 43 = .ok (.getfield 186, 3) := dc_180 (sg_at zd_dX11_next_43 0 rfl rfl) rfl
theorem dX11_next_46 : decode cX11_next 46 = .ok (.isub, 1) := dc_100 (sg_at zd_dX11_next_43 1 rfl rfl)
theorem dX11_next_47 : decode cX11_next 47 = .ok (.ireturn, 1) := dc_172 (sg_at zd_dX11_next_43 2 rfl rfl)
theorem zd_dX11_note_0 : sg (cX11_note.data.toList.drop 0) [[27], [155, 0, 26], [27], [17, 0, 199], [163, 0, 19], [42], [28], [182, 0, 115], [153, 0, 11], [42], [29], [182, 0, 179], [154, 0, 5], [2], [172], [42], [180, 0, 60], [27], [28], [29]] = true := by decide +kernel
theorem dX11_note_0 : decode cX11_note 0 = .ok (.iload_n 1, 1) := dc_27 (sg_at zd_dX11_note_0 0 rfl rfl)
theorem dX11_note_1 : decode cX11_note 1 = .ok (.ifCond .lt 26, 3) := dc_155 (sg_at zd_dX11_note_0 1 rfl rfl) rfl
theorem dX11_note_4 : decode cX11_note 4 = .ok (.iload_n 1, 1) := dc_27 (sg_at zd_dX11_note_0 2 rfl rfl)
theorem dX11_note_5 : decode cX11_note 5 = .ok (.sipush 199, 3) := dc_17 (sg_at zd_dX11_note_0 3 rfl rfl) rfl
theorem dX11_note_8 : decode cX11_note 8 = .ok (.if_icmp .gt 19, 3) := dc_163 (sg_at zd_dX11_note_0 4 rfl rfl) rfl
theorem dX11_note_11 : decode cX11_note 11 = .ok (.aload_n 0, 1) := dc_42 (sg_at zd_dX11_note_0 5 rfl rfl)
theorem dX11_note_12 : decode cX11_note 12 = .ok (.iload_n 2, 1) := dc_28 (sg_at zd_dX11_note_0 6 rfl rfl)
theorem dX11_note_13 : decode cX11_note 13 = .ok (.invokevirtual 115, 3) := dc_182 (sg_at zd_dX11_note_0 7 rfl rfl) rfl
theorem dX11_note_16 : decode cX11_note 16 = .ok (.ifCond .eq 11, 3) := dc_153 (sg_at zd_dX11_note_0 8 rfl rfl) rfl
theorem dX11_note_19 : decode cX11_note 19 = .ok (.aload_n 0, 1) := dc_42 (sg_at zd_dX11_note_0 9 rfl rfl)
theorem dX11_note_20 : decode cX11_note 20 = .ok (.iload_n 3, 1) := dc_29 (sg_at zd_dX11_note_0 10 rfl rfl)
theorem dX11_note_21 : decode cX11_note 21 = .ok (.invokevirtual 179, 3) := dc_182 (sg_at zd_dX11_note_0 11 rfl rfl) rfl
theorem dX11_note_24 : decode cX11_note 24 = .ok (.ifCond .ne 5, 3) := dc_154 (sg_at zd_dX11_note_0 12 rfl rfl) rfl
theorem dX11_note_27 : decode cX11_note 27 = .ok (.iconst (-1), 1) := dc_2 (sg_at zd_dX11_note_0 13 rfl rfl)
theorem dX11_note_28 : decode cX11_note 28 = .ok (.ireturn, 1) := dc_172 (sg_at zd_dX11_note_0 14 rfl rfl)
theorem dX11_note_29 : decode cX11_note 29 = .ok (.aload_n 0, 1) := dc_42 (sg_at zd_dX11_note_0 15 rfl rfl)
theorem dX11_note_30 : decode cX11_note 30 = .ok (.getfield 60, 3) := dc_180 (sg_at zd_dX11_note_0 16 rfl rfl) rfl
theorem dX11_note_33 : decode cX11_note 33 = .ok (.iload_n 1, 1) := dc_27 (sg_at zd_dX11_note_0 17 rfl rfl)
theorem dX11_note_34 : decode cX11_note 34 = .ok (.iload_n 2, 1) := dc_28 (sg_at zd_dX11_note_0 18 rfl rfl)
theorem dX11_note_35 : decode cX11_note 35 = .ok (.iload_n 3, 1) := dc_29 (sg_at zd_dX11_note_0 19 rfl rfl)
theorem zd_dX11_note_36 : sg (cX11_note.data.toList.drop 36) [[182, 1, 64], [172]] = true := by decide +kernel
theorem dX11_note_36 : decode cX11_note 36 = .ok (.invokevirtual 320, 3) := dc_182 (sg_at zd_dX11_note_36 0 rfl rfl) rfl
theorem dX11_note_39 : decode cX11_note 39 = .ok (.ireturn, 1) := dc_172 (sg_at zd_dX11_note_36 1 rfl rfl)
theorem zd_dX11_odds_0 : sg (cX11_odds.data.toList.drop 0) [[42], [27], [182, 0, 115], [153, 0, 19], [42], [28], [182, 0, 147], [153, 0, 11], [42], [29], [182, 0, 179], [154, 0, 5], [2], [172], [42], [180, 0, 37], [27], [28], [29], [182, 0, 182]] = true := by decide +kernel
theorem dX11_odds_0 : decode cX11_odds 0 = .ok (.aload_n 0, 1) := dc_42 (sg_at zd_dX11_odds_0 0 rfl rfl)
theorem dX11_odds_1 : decode cX11_odds 1 = .ok (.iload_n 1, 1) := dc_27 (sg_at zd_dX11_odds_0 1 rfl rfl)
theorem dX11_odds_2 : decode cX11_odds 2 = .ok (.invokevirtual 115, 3) := dc_182 (sg_at zd_dX11_odds_0 2 rfl rfl) rfl
theorem dX11_odds_5 : decode cX11_odds 5 = .ok (.ifCond .eq 19, 3) := dc_153 (sg_at zd_dX11_odds_0 3 rfl rfl) rfl
theorem dX11_odds_8 : decode cX11_odds 8 = .ok (.aload_n 0, 1) := dc_42 (sg_at zd_dX11_odds_0 4 rfl rfl)
theorem dX11_odds_9 : decode cX11_odds 9 = .ok (.iload_n 2, 1) := dc_28 (sg_at zd_dX11_odds_0 5 rfl rfl)
theorem dX11_odds_10 : decode cX11_odds 10 = .ok (.invokevirtual 147, 3) := dc_182 (sg_at zd_dX11_odds_0 6 rfl rfl) rfl
theorem dX11_odds_13 : decode cX11_odds 13 = .ok (.ifCond .eq 11, 3) := dc_153 (sg_at zd_dX11_odds_0 7 rfl rfl) rfl
theorem dX11_odds_16 : decode cX11_odds 16 = .ok (.aload_n 0, 1) := dc_42 (sg_at zd_dX11_odds_0 8 rfl rfl)
theorem dX11_odds_17 : decode cX11_odds 17 = .ok (.iload_n 3, 1) := dc_29 (sg_at zd_dX11_odds_0 9 rfl rfl)
theorem dX11_odds_18 : decode cX11_odds 18 = .ok (.invokevirtual 179, 3) := dc_182 (sg_at zd_dX11_odds_0 10 rfl rfl) rfl
theorem dX11_odds_21 : decode cX11_odds 21 = .ok (.ifCond .ne 5, 3) := dc_154 (sg_at zd_dX11_odds_0 11 rfl rfl) rfl
theorem dX11_odds_24 : decode cX11_odds 24 = .ok (.iconst (-1), 1) := dc_2 (sg_at zd_dX11_odds_0 12 rfl rfl)
theorem dX11_odds_25 : decode cX11_odds 25 = .ok (.ireturn, 1) := dc_172 (sg_at zd_dX11_odds_0 13 rfl rfl)
theorem dX11_odds_26 : decode cX11_odds 26 = .ok (.aload_n 0, 1) := dc_42 (sg_at zd_dX11_odds_0 14 rfl rfl)
theorem dX11_odds_27 : decode cX11_odds 27 = .ok (.getfield 37, 3) := dc_180 (sg_at zd_dX11_odds_0 15 rfl rfl) rfl
theorem dX11_odds_30 : decode cX11_odds 30 = .ok (.iload_n 1, 1) := dc_27 (sg_at zd_dX11_odds_0 16 rfl rfl)
theorem dX11_odds_31 : decode cX11_odds 31 = .ok (.iload_n 2, 1) := dc_28 (sg_at zd_dX11_odds_0 17 rfl rfl)
theorem dX11_odds_32 : decode cX11_odds 32 = .ok (.iload_n 3, 1) := dc_29 (sg_at zd_dX11_odds_0 18 rfl rfl)
theorem dX11_odds_33 : decode cX11_odds 33 = .ok (.invokevirtual 182, 3) := dc_182 (sg_at zd_dX11_odds_0 19 rfl rfl) rfl
theorem zd_dX11_odds_36 : sg (cX11_odds.data.toList.drop 36) [[172]] = true := by decide +kernel
theorem dX11_odds_36 : decode cX11_odds 36 = .ok (.ireturn, 1) := dc_172 (sg_at zd_dX11_odds_36 0 rfl rfl)
theorem zd_dX11_order_0 : sg (cX11_order.data.toList.drop 0) [[42], [27], [182, 0, 223], [153, 0, 7], [28], [156, 0, 5], [2], [172], [42], [180, 0, 37], [42], [180, 0, 47], [27], [42], [180, 0, 47], [180, 0, 186], [182, 0, 226], [62], [28], [29]] = true := by decide +kernel
theorem dX11_order_0 : decode cX11_order 0 = .ok (.aload_n 0, 1) := dc_42 (sg_at zd_dX11_order_0 0 rfl rfl)
theorem dX11_order_1 : decode cX11_order 1 = .ok (.iload_n 1, 1) := dc_27 (sg_at zd_dX11_order_0 1 rfl rfl)
theorem dX11_order_2 : decode cX11_order 2 = .ok (.invokevirtual 223, 3) := dc_182 (sg_at zd_dX11_order_0 2 rfl rfl) rfl
theorem dX11_order_5 : decode cX11_order 5 = .ok (.ifCond .eq 7, 3) := dc_153 (sg_at zd_dX11_order_0 3 rfl rfl) rfl
theorem dX11_order_8 : decode cX11_order 8 = .ok (.iload_n 2, 1) := dc_28 (sg_at zd_dX11_order_0 4 rfl rfl)
theorem dX11_order_9 : decode cX11_order 9 = .ok (.ifCond .ge 5, 3) := dc_156 (sg_at zd_dX11_order_0 5 rfl rfl) rfl
theorem dX11_order_12 : decode cX11_order 12 = .ok (.iconst (-1), 1) := dc_2 (sg_at zd_dX11_order_0 6 rfl rfl)
theorem dX11_order_13 : decode cX11_order 13 = .ok (.ireturn, 1) := dc_172 (sg_at zd_dX11_order_0 7 rfl rfl)
theorem dX11_order_14 : decode cX11_order 14 = .ok (.aload_n 0, 1) := dc_42 (sg_at zd_dX11_order_0 8 rfl rfl)
theorem dX11_order_15 : decode cX11_order 15 = .ok (.getfield 37, 3) := dc_180 (sg_at zd_dX11_order_0 9 rfl rfl) rfl
theorem dX11_order_18 : decode cX11_order 18 = .ok (.aload_n 0, 1) := dc_42 (sg_at zd_dX11_order_0 10 rfl rfl)
theorem dX11_order_19 : decode cX11_order 19 = .ok (.getfield 47, 3) := dc_180 (sg_at zd_dX11_order_0 11 rfl rfl) rfl
theorem dX11_order_22 : decode cX11_order 22 = .ok (.iload_n 1, 1) := dc_27 (sg_at zd_dX11_order_0 12 rfl rfl)
theorem dX11_order_23 : decode cX11_order 23 = .ok (.aload_n 0, 1) := dc_42 (sg_at zd_dX11_order_0 13 rfl rfl)
theorem dX11_order_24 : decode cX11_order 24 = .ok (.getfield 47, 3) := dc_180 (sg_at zd_dX11_order_0 14 rfl rfl) rfl
theorem dX11_order_27 : decode cX11_order 27 = .ok (.getfield 186, 3) := dc_180 (sg_at zd_dX11_order_0 15 rfl rfl) rfl
theorem dX11_order_30 : decode cX11_order 30 = .ok (.invokevirtual 226, 3) := dc_182 (sg_at zd_dX11_order_0 16 rfl rfl) rfl
theorem dX11_order_33 : decode cX11_order 33 = .ok (.istore_n 3, 1) := dc_62 (sg_at zd_dX11_order_0 17 rfl rfl)
theorem dX11_order_34 : decode cX11_order 34 = .ok (.iload_n 2, 1) := dc_28 (sg_at zd_dX11_order_0 18 rfl rfl)
theorem dX11_order_35 : decode cX11_order 35 = .ok (.iload_n 3, 1) := dc_29 (sg_at zd_dX11_order_0 19 rfl rfl)
theorem zd_dX11_order_36 : sg (cX11_order.data.toList.drop 36) [[162, 0, 15], [42], [180, 0, 37], [180, 0, 230], [28], [46], [167, 0, 5], [16, 254], [172]] = true := by decide +kernel
theorem dX11_order_36 : decode cX11_order 36 = .ok (.if_icmp .ge 15, 3) := dc_162 (sg_at zd_dX11_order_36 0 rfl rfl) rfl
theorem dX11_order_39 : decode cX11_order 39 = .ok (.aload_n 0, 1) := dc_42 (sg_at zd_dX11_order_36 1 rfl rfl)
theorem dX11_order_40 : decode cX11_order 40 = .ok (.getfield 37, 3) := dc_180 (sg_at zd_dX11_order_36 2 rfl rfl) rfl
theorem dX11_order_43 : decode cX11_order 43 = .ok (.getfield 230, 3) := dc_180 (sg_at zd_dX11_order_36 3 rfl rfl) rfl
theorem dX11_order_46 : decode cX11_order 46 = .ok (.iload_n 2, 1) := dc_28 (sg_at zd_dX11_order_36 4 rfl rfl)
theorem dX11_order_47 : decode cX11_order 47 = .ok (.iaload, 1) := dc_46 (sg_at zd_dX11_order_36 5 rfl rfl)
theorem dX11_order_48 : decode cX11_order 48 = .ok (.goto 5, 3) := dc_167 (sg_at zd_dX11_order_36 6 rfl rfl) rfl
theorem dX11_order_51 : decode cX11_order 51 = .ok (.bipush (-2), 2) := dc_16 (sg_at zd_dX11_order_36 7 rfl rfl) rfl
theorem dX11_order_53 : decode cX11_order 53 = .ok (.ireturn, 1) := dc_172 (sg_at zd_dX11_order_36 8 rfl rfl)
theorem zd_dX11_over_0 : sg (cX11_over.data.toList.drop 0) [[42], [27], [182, 0, 115], [153, 0, 28], [42], [180, 0, 18], [180, 1, 40], [4], [161, 0, 17], [42], [180, 0, 18], [180, 0, 150], [180, 1, 43], [4], [162, 0, 5], [2], [172], [42], [180, 0, 18], [180, 0, 150]] = true := by decide +kernel
theorem dX11_over_0 : decode cX11_over 0 = .ok (.aload_n 0, 1) := dc_42 (sg_at zd_dX11_over_0 0 rfl rfl)
theorem dX11_over_1 : decode cX11_over 1 = .ok (.iload_n 1, 1) := dc_27 (sg_at zd_dX11_over_0 1 rfl rfl)
theorem dX11_over_2 : decode cX11_over 2 = .ok (.invokevirtual 115, 3) := dc_182 (sg_at zd_dX11_over_0 2 rfl rfl) rfl
theorem dX11_over_5 : decode cX11_over 5 = .ok (.ifCond .eq 28, 3) := dc_153 (sg_at zd_dX11_over_0 3 rfl rfl) rfl
theorem dX11_over_8 : decode cX11_over 8 = .ok (.aload_n 0, 1) := dc_42 (sg_at zd_dX11_over_0 4 rfl rfl)
theorem dX11_over_9 : decode cX11_over 9 = .ok (.getfield 18, 3) := dc_180 (sg_at zd_dX11_over_0 5 rfl rfl) rfl
theorem dX11_over_12 : decode cX11_over 12 = .ok (.getfield 296, 3) := dc_180 (sg_at zd_dX11_over_0 6 rfl rfl) rfl
theorem dX11_over_15 : decode cX11_over 15 = .ok (.iconst 1, 1) := dc_4 (sg_at zd_dX11_over_0 7 rfl rfl)
theorem dX11_over_16 : decode cX11_over 16 = .ok (.if_icmp .lt 17, 3) := dc_161 (sg_at zd_dX11_over_0 8 rfl rfl) rfl
theorem dX11_over_19 : decode cX11_over 19 = .ok (.aload_n 0, 1) := dc_42 (sg_at zd_dX11_over_0 9 rfl rfl)
theorem dX11_over_20 : decode cX11_over 20 = .ok (.getfield 18, 3) := dc_180 (sg_at zd_dX11_over_0 10 rfl rfl) rfl
theorem dX11_over_23 : decode cX11_over 23 = .ok (.getfield 150, 3) := dc_180 (sg_at zd_dX11_over_0 11 rfl rfl) rfl
theorem dX11_over_26 : decode cX11_over 26 = .ok (.getfield 299, 3) := dc_180 (sg_at zd_dX11_over_0 12 rfl rfl) rfl
theorem dX11_over_29 : decode cX11_over 29 = .ok (.iconst 1, 1) := dc_4 (sg_at zd_dX11_over_0 13 rfl rfl)
theorem dX11_over_30 : decode cX11_over 30 = .ok (.if_icmp .ge 5, 3) := dc_162 (sg_at zd_dX11_over_0 14 rfl rfl) rfl
theorem dX11_over_33 : decode cX11_over 33 = .ok (.iconst (-1), 1) := dc_2 (sg_at zd_dX11_over_0 15 rfl rfl)
theorem dX11_over_34 : decode cX11_over 34 = .ok (.ireturn, 1) := dc_172 (sg_at zd_dX11_over_0 16 rfl rfl)
theorem dX11_over_35 : decode cX11_over 35 = .ok (.aload_n 0, 1) := dc_42 (sg_at zd_dX11_over_0 17 rfl rfl)
theorem dX11_over_36 : decode cX11_over 36 = .ok (.getfield 18, 3) := dc_180 (sg_at zd_dX11_over_0 18 rfl rfl) rfl
theorem dX11_over_39 : decode cX11_over 39 = .ok (.getfield 150, 3) := dc_180 (sg_at zd_dX11_over_0 19 rfl rfl) rfl
theorem zd_dX11_over_42 : sg (cX11_over.data.toList.drop 42) [[180, 0, 154], [42], [180, 0, 18], [180, 0, 150], [180, 1, 43], [4], [100], [46], [61], [42], [182, 0, 233], [62], [42], [180, 0, 37], [27], [42], [180, 0, 47], [180, 0, 122], [27], [46]] = true := by decide +kernel
theorem dX11_over_42 : decode cX11_over 42 = .ok (.getfield 154, 3) := dc_180 (sg_at zd_dX11_over_42 0 rfl rfl) rfl
theorem dX11_over_45 : decode cX11_over 45 = .ok (.aload_n 0, 1) := dc_42 (sg_at zd_dX11_over_42 1 rfl rfl)
theorem dX11_over_46 : decode cX11_over 46 = .ok (.getfield 18, 3) := dc_180 (sg_at zd_dX11_over_42 2 rfl rfl) rfl
theorem dX11_over_49 : decode cX11_over 49 = .ok (.getfield 150, 3) := dc_180 (sg_at zd_dX11_over_42 3 rfl rfl) rfl
theorem dX11_over_52 : decode cX11_over 52 = .ok (.getfield 299, 3) := dc_180 (sg_at zd_dX11_over_42 4 rfl rfl) rfl
theorem dX11_over_55 : decode cX11_over 55 = .ok (.iconst 1, 1) := dc_4 (sg_at zd_dX11_over_42 5 rfl rfl)
theorem dX11_over_56 : decode cX11_over 56 = .ok (.isub, 1) := dc_100 (sg_at zd_dX11_over_42 6 rfl rfl)
theorem dX11_over_57 : decode cX11_over 57 = .ok (.iaload, 1) := dc_46 (sg_at zd_dX11_over_42 7 rfl rfl)
theorem dX11_over_58 : decode cX11_over 58 = .ok (.istore_n 2, 1) := dc_61 (sg_at zd_dX11_over_42 8 rfl rfl)
theorem dX11_over_59 : decode cX11_over 59 = .ok (.aload_n 0, 1) := dc_42 (sg_at zd_dX11_over_42 9 rfl rfl)
theorem dX11_over_60 : decode cX11_over 60 = .ok (.invokevirtual 233, 3) := dc_182 (sg_at zd_dX11_over_42 10 rfl rfl) rfl
theorem dX11_over_63 : decode cX11_over 63 = .ok (.istore_n 3, 1) := dc_62 (sg_at zd_dX11_over_42 11 rfl rfl)
theorem dX11_over_64 : decode cX11_over 64 = .ok (.aload_n 0, 1) := dc_42 (sg_at zd_dX11_over_42 12 rfl rfl)
theorem dX11_over_65 : decode cX11_over 65 = .ok (.getfield 37, 3) := dc_180 (sg_at zd_dX11_over_42 13 rfl rfl) rfl
theorem dX11_over_68 : decode cX11_over 68 = .ok (.iload_n 1, 1) := dc_27 (sg_at zd_dX11_over_42 14 rfl rfl)
theorem dX11_over_69 : decode cX11_over 69 = .ok (.aload_n 0, 1) := dc_42 (sg_at zd_dX11_over_42 15 rfl rfl)
theorem dX11_over_70 : decode cX11_over 70 = .ok (.getfield 47, 3) := dc_180 (sg_at zd_dX11_over_42 16 rfl rfl) rfl
theorem dX11_over_73 : decode cX11_over 73 = .ok (.getfield 122, 3) := dc_180 (sg_at zd_dX11_over_42 17 rfl rfl) rfl
theorem dX11_over_76 : decode cX11_over 76 = .ok (.iload_n 1, 1) := dc_27 (sg_at zd_dX11_over_42 18 rfl rfl)
theorem dX11_over_77 : decode cX11_over 77 = .ok (.iaload, 1) := dc_46 (sg_at zd_dX11_over_42 19 rfl rfl)
theorem zd_dX11_over_78 : sg (cX11_over.data.toList.drop 78) [[29], [182, 0, 237], [54, 4], [42], [180, 0, 47], [180, 0, 186], [54, 5], [21, 5], [28], [163, 0, 95], [16, 100], [42], [180, 0, 18], [180, 1, 46], [104], [42], [180, 0, 18], [21, 5], [28], [182, 1, 49]] = true := by decide +kernel
theorem dX11_over_78 : decode cX11_over 78 = .ok (.iload_n 3, 1) := dc_29 (sg_at zd_dX11_over_78 0 rfl rfl)
theorem dX11_over_79 : decode cX11_over 79 = .ok (.invokevirtual 237, 3) := dc_182 (sg_at zd_dX11_over_78 1 rfl rfl) rfl
theorem dX11_over_82 : decode cX11_over 82 = .ok (.istore 4, 2) := dc_54 (sg_at zd_dX11_over_78 2 rfl rfl)
theorem dX11_over_84 : decode cX11_over 84 = .ok (.aload_n 0, 1) := dc_42 (sg_at zd_dX11_over_78 3 rfl rfl)
theorem dX11_over_85 : decode cX11_over 85 = .ok (.getfield 47, 3) := dc_180 (sg_at zd_dX11_over_78 4 rfl rfl) rfl
theorem dX11_over_88 : decode cX11_over 88 = .ok (.getfield 186, 3) := dc_180 (sg_at zd_dX11_over_78 5 rfl rfl) rfl
theorem dX11_over_91 : decode cX11_over 91 = .ok (.istore 5, 2) := dc_54 (sg_at zd_dX11_over_78 6 rfl rfl)
theorem dX11_over_93 : decode cX11_over 93 = .ok (.iload 5, 2) := dc_21 (sg_at zd_dX11_over_78 7 rfl rfl)
theorem dX11_over_95 : decode cX11_over 95 = .ok (.iload_n 2, 1) := dc_28 (sg_at zd_dX11_over_78 8 rfl rfl)
theorem dX11_over_96 : decode cX11_over 96 = .ok (.if_icmp .gt 95, 3) := dc_163 (sg_at zd_dX11_over_78 9 rfl rfl) rfl
theorem dX11_over_99 : decode cX11_over 99 = .ok (.bipush 100, 2) := dc_16 (sg_at zd_dX11_over_78 10 rfl rfl) rfl
theorem dX11_over_101 : decode cX11_over 101 = .ok (.aload_n 0, 1) := dc_42 (sg_at zd_dX11_over_78 11 rfl rfl)
theorem dX11_over_102 : decode cX11_over 102 = .ok (.getfield 18, 3) := dc_180 (sg_at zd_dX11_over_78 12 rfl rfl) rfl
theorem dX11_over_105 : decode cX11_over 105 = .ok (.getfield 302, 3) := dc_180 (sg_at zd_dX11_over_78 13 rfl rfl) rfl
theorem dX11_over_108 : decode cX11_over 108 = .ok (.imul, 1) := dc_104 (sg_at zd_dX11_over_78 14 rfl rfl)
theorem dX11_over_109 : decode cX11_over 109 = .ok (.aload_n 0, 1) := dc_42 (sg_at zd_dX11_over_78 15 rfl rfl)
theorem dX11_over_110 : decode cX11_over 110 = .ok (.getfield 18, 3) := dc_180 (sg_at zd_dX11_over_78 16 rfl rfl) rfl
theorem dX11_over_113 : decode cX11_over 113 = .ok (.iload 5, 2) := dc_21 (sg_at zd_dX11_over_78 17 rfl rfl)
theorem dX11_over_115 : decode cX11_over 115 = .ok (.iload_n 2, 1) := dc_28 (sg_at zd_dX11_over_78 18 rfl rfl)
theorem dX11_over_116 : decode cX11_over 116 = .ok (.invokevirtual 305, 3) := dc_182 (sg_at zd_dX11_over_78 19 rfl rfl) rfl
theorem zd_dX11_over_119 : sg (cX11_over.data.toList.drop 119) [[104], [21, 4], [164, 0, 6], [21, 5], [172], [29], [42], [180, 0, 18], [180, 0, 150], [180, 1, 43], [162, 0, 46], [42], [180, 0, 18], [180, 0, 150], [180, 0, 154], [29], [46], [21, 5], [160, 0, 29], [21, 4]] = true := by decide +kernel
theorem dX11_over_119 : decode cX11_over 119 = .ok (.imul, 1) := dc_104 (sg_at zd_dX11_over_119 0 rfl rfl)
theorem dX11_over_120 : decode cX11_over 120 = .ok (.iload 4, 2) := dc_21 (sg_at zd_dX11_over_119 1 rfl rfl)
theorem dX11_over_122 : decode cX11_over 122 = .ok (.if_icmp .le 6, 3) := dc_164 (sg_at zd_dX11_over_119 2 rfl rfl) rfl
theorem dX11_over_125 : decode cX11_over 125 = .ok (.iload 5, 2) := dc_21 (sg_at zd_dX11_over_119 3 rfl rfl)
theorem dX11_over_127 : decode cX11_over 127 = .ok (.ireturn, 1) := dc_172 (sg_at zd_dX11_over_119 4 rfl rfl)
theorem dX11_over_128 : decode cX11_over 128 = .ok (.iload_n 3, 1) := dc_29 (sg_at zd_dX11_over_119 5 rfl rfl)
theorem dX11_over_129 : decode cX11_over 129 = .ok (.aload_n 0, 1) := dc_42 (sg_at zd_dX11_over_119 6 rfl rfl)
theorem dX11_over_130 : decode cX11_over 130 = .ok (.getfield 18, 3) := dc_180 (sg_at zd_dX11_over_119 7 rfl rfl) rfl
theorem dX11_over_133 : decode cX11_over 133 = .ok (.getfield 150, 3) := dc_180 (sg_at zd_dX11_over_119 8 rfl rfl) rfl
theorem dX11_over_136 : decode cX11_over 136 = .ok (.getfield 299, 3) := dc_180 (sg_at zd_dX11_over_119 9 rfl rfl) rfl
theorem dX11_over_139 : decode cX11_over 139 = .ok (.if_icmp .ge 46, 3) := dc_162 (sg_at zd_dX11_over_119 10 rfl rfl) rfl
theorem dX11_over_142 : decode cX11_over 142 = .ok (.aload_n 0, 1) := dc_42 (sg_at zd_dX11_over_119 11 rfl rfl)
theorem dX11_over_143 : decode cX11_over 143 = .ok (.getfield 18, 3) := dc_180 (sg_at zd_dX11_over_119 12 rfl rfl) rfl
theorem dX11_over_146 : decode cX11_over 146 = .ok (.getfield 150, 3) := dc_180 (sg_at zd_dX11_over_119 13 rfl rfl) rfl
theorem dX11_over_149 : decode cX11_over 149 = .ok (.getfield 154, 3) := dc_180 (sg_at zd_dX11_over_119 14 rfl rfl) rfl
theorem dX11_over_152 : decode cX11_over 152 = .ok (.iload_n 3, 1) := dc_29 (sg_at zd_dX11_over_119 15 rfl rfl)
theorem dX11_over_153 : decode cX11_over 153 = .ok (.iaload, 1) := dc_46 (sg_at zd_dX11_over_119 16 rfl rfl)
theorem dX11_over_154 : decode cX11_over 154 = .ok (.iload 5, 2) := dc_21 (sg_at zd_dX11_over_119 17 rfl rfl)
theorem dX11_over_156 : decode cX11_over 156 = .ok (.if_icmp .ne 29, 3) := dc_160 (sg_at zd_dX11_over_119 18 rfl rfl) rfl
theorem dX11_over_159 : decode cX11_over 159 = .ok (.iload 4, 2) := dc_21 (sg_at zd_dX11_over_119 19 rfl rfl)
theorem zd_dX11_over_161 : sg (cX11_over.data.toList.drop 161) [[42], [180, 0, 37], [27], [29], [42], [180, 0, 47], [180, 0, 122], [27], [46], [182, 1, 19], [100], [54, 4], [132, 3, 1], [132, 5, 1], [167, 255, 161], [16, 254], [172]] = true := by decide +kernel
theorem dX11_over_161 : decode cX11_over 161 = .ok (.aload_n 0, 1) := dc_42 (sg_at zd_dX11_over_161 0 rfl rfl)
theorem dX11_over_162 : decode cX11_over 162 = .ok (.getfield 37, 3) := dc_180 (sg_at zd_dX11_over_161 1 rfl rfl) rfl
theorem dX11_over_165 : decode cX11_over 165 = .ok (.iload_n 1, 1) := dc_27 (sg_at zd_dX11_over_161 2 rfl rfl)
theorem dX11_over_166 : decode cX11_over 166 = .ok (.iload_n 3, 1) := dc_29 (sg_at zd_dX11_over_161 3 rfl rfl)
theorem dX11_over_167 : decode cX11_over 167 = .ok (.aload_n 0, 1) := dc_42 (sg_at zd_dX11_over_161 4 rfl rfl)
theorem dX11_over_168 : decode cX11_over 168 = .ok (.getfield 47, 3) := dc_180 (sg_at zd_dX11_over_161 5 rfl rfl) rfl
theorem dX11_over_171 : decode cX11_over 171 = .ok (.getfield 122, 3) := dc_180 (sg_at zd_dX11_over_161 6 rfl rfl) rfl
theorem dX11_over_174 : decode cX11_over 174 = .ok (.iload_n 1, 1) := dc_27 (sg_at zd_dX11_over_161 7 rfl rfl)
theorem dX11_over_175 : decode cX11_over 175 = .ok (.iaload, 1) := dc_46 (sg_at zd_dX11_over_161 8 rfl rfl)
theorem dX11_over_176 : decode cX11_over 176 = .ok (.invokevirtual 275, 3) := dc_182 (sg_at zd_dX11_over_161 9 rfl rfl) rfl
theorem dX11_over_179 : decode cX11_over 179 = .ok (.isub, 1) := dc_100 (sg_at zd_dX11_over_161 10 rfl rfl)
theorem dX11_over_180 : decode cX11_over 180 = .ok (.istore 4, 2) := dc_54 (sg_at zd_dX11_over_161 11 rfl rfl)
theorem dX11_over_182 : decode cX11_over 182 = .ok (.iinc 3 1, 3) := dc_132 (sg_at zd_dX11_over_161 12 rfl rfl) rfl
theorem dX11_over_185 : decode cX11_over 185 = .ok (.iinc 5 1, 3) := dc_132 (sg_at zd_dX11_over_161 13 rfl rfl) rfl
theorem dX11_over_188 : decode cX11_over 188 = .ok (.goto (-95), 3) := dc_167 (sg_at zd_dX11_over_161 14 rfl rfl) rfl
theorem dX11_over_191 : decode cX11_over 191 = .ok (.bipush (-2), 2) := dc_16 (sg_at zd_dX11_over_161 15 rfl rfl) rfl
theorem dX11_over_193 : decode cX11_over 193 = .ok (.ireturn, 1) := dc_172 (sg_at zd_dX11_over_161 16 rfl rfl)
theorem zd_dX11_peak_0 : sg (cX11_peak.data.toList.drop 0) [[27], [155, 0, 10], [27], [17, 0, 199], [164, 0, 5], [2], [172], [42], [180, 0, 18], [180, 0, 170], [42], [180, 0, 18], [180, 0, 173], [104], [42], [180, 0, 37], [27], [182, 0, 176], [96], [172]] = true := by decide +kernel
theorem dX11_peak_0 : decode cX11_peak 0 = .ok (.iload_n 1, 1) := dc_27 (sg_at zd_dX11_peak_0 0 rfl rfl)
theorem dX11_peak_1 : decode cX11_peak 1 = .ok (.ifCond .lt 10, 3) := dc_155 (sg_at zd_dX11_peak_0 1 rfl rfl) rfl
theorem dX11_peak_4 : decode cX11_peak 4 = .ok (.iload_n 1, 1) := dc_27 (sg_at zd_dX11_peak_0 2 rfl rfl)
theorem dX11_peak_5 : decode cX11_peak 5 = .ok (.sipush 199, 3) := dc_17 (sg_at zd_dX11_peak_0 3 rfl rfl) rfl
theorem dX11_peak_8 : decode cX11_peak 8 = .ok (.if_icmp .le 5, 3) := dc_164 (sg_at zd_dX11_peak_0 4 rfl rfl) rfl
theorem dX11_peak_11 : decode cX11_peak 11 = .ok (.iconst (-1), 1) := dc_2 (sg_at zd_dX11_peak_0 5 rfl rfl)
theorem dX11_peak_12 : decode cX11_peak 12 = .ok (.ireturn, 1) := dc_172 (sg_at zd_dX11_peak_0 6 rfl rfl)
theorem dX11_peak_13 : decode cX11_peak 13 = .ok (.aload_n 0, 1) := dc_42 (sg_at zd_dX11_peak_0 7 rfl rfl)
theorem dX11_peak_14 : decode cX11_peak 14 = .ok (.getfield 18, 3) := dc_180 (sg_at zd_dX11_peak_0 8 rfl rfl) rfl
theorem dX11_peak_17 : decode cX11_peak 17 = .ok (.getfield 170, 3) := dc_180 (sg_at zd_dX11_peak_0 9 rfl rfl) rfl
theorem dX11_peak_20 : decode cX11_peak 20 = .ok (.aload_n 0, 1) := dc_42 (sg_at zd_dX11_peak_0 10 rfl rfl)
theorem dX11_peak_21 : decode cX11_peak 21 = .ok (.getfield 18, 3) := dc_180 (sg_at zd_dX11_peak_0 11 rfl rfl) rfl
theorem dX11_peak_24 : decode cX11_peak 24 = .ok (.getfield 173, 3) := dc_180 (sg_at zd_dX11_peak_0 12 rfl rfl) rfl
theorem dX11_peak_27 : decode cX11_peak 27 = .ok (.imul, 1) := dc_104 (sg_at zd_dX11_peak_0 13 rfl rfl)
theorem dX11_peak_28 : decode cX11_peak 28 = .ok (.aload_n 0, 1) := dc_42 (sg_at zd_dX11_peak_0 14 rfl rfl)
theorem dX11_peak_29 : decode cX11_peak 29 = .ok (.getfield 37, 3) := dc_180 (sg_at zd_dX11_peak_0 15 rfl rfl) rfl
theorem dX11_peak_32 : decode cX11_peak 32 = .ok (.iload_n 1, 1) := dc_27 (sg_at zd_dX11_peak_0 16 rfl rfl)
theorem dX11_peak_33 : decode cX11_peak 33 = .ok (.invokevirtual 176, 3) := dc_182 (sg_at zd_dX11_peak_0 17 rfl rfl) rfl
theorem dX11_peak_36 : decode cX11_peak 36 = .ok (.iadd, 1) := dc_96 (sg_at zd_dX11_peak_0 18 rfl rfl)
theorem dX11_peak_37 : decode cX11_peak 37 = .ok (.ireturn, 1) := dc_172 (sg_at zd_dX11_peak_0 19 rfl rfl)
section
variable {p : Program} {l : Launch} {e : Env} {s : State} {m : MethodId} {args : Array Value} {below : List Frame} {meth : Method} {c : Code} {D : va_G} {cy : Nat → ClassId} {b : Nat} {A : Nat → Prop} {fl : Bool}
def vX11_fairest : List Cond := .code yX11_fairest cX11_fairest 8 (some .int) :: TB
theorem gX11_fairest_X11_runBy : GoodIn vX11_fairest (wsV RX11 284 RX11 yX11_runBy vX11_runBy) := gV_of wT_57_6 wT_57_7 wT_57_8 wT_1_2 wT_57_9
theorem lf11_fairest_51 : Fl vX11_fairest RX11 51 11 8 := ⟨RX11, TX11, 14, rfl, by decide, (fun w h9 => List.mem_cons_of_mem _ (wC_wsX110 w h9)), (List.mem_cons_of_mem _ wT_2_9)⟩
theorem lf11_fairest_18 : Fl vX11_fairest RX11 18 11 3 := ⟨RX11, TX11, 14, rfl, by decide, (fun w h9 => List.mem_cons_of_mem _ (wC_wsX110 w h9)), (List.mem_cons_of_mem _ wT_1_18)⟩
theorem lf11_fairest_102 : Fl vX11_fairest RX11 102 8 4 := ⟨RX8, TX8, 14, rfl, by decide, (fun w h9 => List.mem_cons_of_mem _ (wC_wsX80 w h9)), (List.mem_cons_of_mem _ wT_32_14)⟩
theorem lf11_fairest_106 : Fl vX11_fairest RX11 106 1 0 := ⟨RX1, TX1, 7, rfl, by decide, (fun w h9 => List.mem_cons_of_mem _ (wC_wsX10 w h9)), (List.mem_cons_of_mem _ wT_32_15)⟩
theorem gX11_fairest_X4_unlike : GoodIn vX11_fairest (wsV RX11 293 RX4 yX4_unlike vX4_unlike) := gV_of wT_57_19 wT_57_20 wT_57_21 wT_2_7 wT_57_22
theorem lf11_fairest_287 : Fl vX11_fairest RX11 287 4 3 := ⟨RX4, TX4, 11, rfl, by decide, (fun w h9 => List.mem_cons_of_mem _ (wC_wsX40 w h9)), (List.mem_cons_of_mem _ wT_57_4)⟩
theorem lf11_fairest_290 : Fl vX11_fairest RX11 290 4 4 := ⟨RX4, TX4, 11, rfl, by decide, (fun w h9 => List.mem_cons_of_mem _ (wC_wsX40 w h9)), (List.mem_cons_of_mem _ wT_57_5)⟩
set_option maxHeartbeats 4000000 in
set_option maxRecDepth 100000 in
theorem T11_fairest_89 (S : CallFix p m c cX11_fairest 8 s args vX11_fairest RX11) (hr : meth.sig.returnType = (some .int)) (hlo : meth.locks = false) {out : Int32 × PH} {k16 : PH → Nat → Int32 → Int32 → Int32 → Int32 → Int32 → Option (Int32 × PH)} (hk16 : ∀ {h : PH} {a0 : Nat} {x1 : Int32} {x2 : Int32} {x3 : Int32} {x4 : Int32} {x5 : Int32}, k16 h a0 x1 x2 x3 x4 x5 = some out → ∀ (H : Heap) (locs : List Loc), ph_I D cy b A false h s H locs → ∀ (ls : Array Slot), lv_has ls 8 [(0, .ref (b + a0)), (1, .int x1), (2, .int x2), (3, .int x3), (4, .int x4), (5, .int x5)] → W p l e ({ frames := 7, cells := 0, slots := 0, locals := 177 } : Room) s m args below meth c H locs 0 0 (MQ below (va_Qi (fun (r : Int32) (u : PH) => (r, u) = out) (ph_B D cy b A false) A) args s 0 0 A) (F0 m 16 ls [])) {h : PH} {a0 : Nat} {x1 : Int32} {x5 : Int32} {x6 : Int32} {x7 : Int32} (f : F11_fairest_89 k16 h a0 x1 x5 x6 x7 = some out) {H : Heap} {locs : List Loc} (I : ph_I D cy b A false h s H locs) {ls : Array Slot} (hl : lv_has ls 8 [(0, .ref (b + a0)), (1, .int x1), (5, .int x5), (6, .int x6), (7, .int x7)]) : W p l e ({ frames := 7, cells := 0, slots := 0, locals := 177 } : Room) s m args below meth c H locs 0 0 (MQ below (va_Qi (fun (r : Int32) (u : PH) => (r, u) = out) (ph_B D cy b A false) A) args s 0 0 A) (F0 m 89 ls []) := by
  unfold F11_fairest_89 at f
  refine lv_iload S.1 S.2.1 dX11_fairest_89 (lv_at hl 2 rfl) ?_
  refine lv_istore_n (lv' := [(2, .int x5), (0, .ref (b + a0)), (1, .int x1), (5, .int x5), (6, .int x6), (7, .int x7)]) S.1 S.2.1 dX11_fairest_91 rfl hl (by decide) rfl (fun ls hl => ?_)
  refine lv_iload S.1 S.2.1 dX11_fairest_92 (lv_at hl 4 rfl) ?_
  refine lv_istore_n (lv' := [(3, .int x6), (2, .int x5), (0, .ref (b + a0)), (1, .int x1), (5, .int x5), (6, .int x6), (7, .int x7)]) S.1 S.2.1 dX11_fairest_94 rfl hl (by decide) rfl (fun ls hl => ?_)
  refine lv_iload S.1 S.2.1 dX11_fairest_95 (lv_at hl 6 rfl) ?_
  refine lv_istore (lv' := [(4, .int x7), (3, .int x6), (2, .int x5), (0, .ref (b + a0)), (1, .int x1), (5, .int x5), (6, .int x6), (7, .int x7)]) S.1 S.2.1 dX11_fairest_97 hl (by decide) rfl (fun ls hl => ?_)
  refine lv_iinc (v := (x5 + 1)) (lv' := [(5, .int (x5 + 1)), (4, .int x7), (3, .int x6), (2, .int x5), (0, .ref (b + a0)), (1, .int x1), (6, .int x6), (7, .int x7)]) S.1 S.2.1 dX11_fairest_99 hl (k := 5) rfl (congrArg (fun z => x5 + z) (by decide)) (by decide) rfl (fun ls hl => ?_)
  refine lv_goto (tgt := 16) S.1 S.2.1 dX11_fairest_102 (by decide) ?_
  exact hk16 f _ _ I _ (lv_sub hl [4, 5, 3, 2, 1, 0] rfl)
set_option maxHeartbeats 4000000 in
set_option maxRecDepth 100000 in
theorem T11_fairest_16 (S : CallFix p m c cX11_fairest 8 s args vX11_fairest RX11) (hr : meth.sig.returnType = (some .int)) (hlo : meth.locks = false) {out : Int32 × PH} : ∀ (n : Nat) {h : PH} {a0 : Nat} {x1 : Int32} {x2 : Int32} {x3 : Int32} {x4 : Int32} {x5 : Int32} (f : F11_fairest_16  n h a0 x1 x2 x3 x4 x5 = some out) {H : Heap} {locs : List Loc} (I : ph_I D cy b A false h s H locs) {ls : Array Slot} (hl : lv_has ls 8 [(0, .ref (b + a0)), (1, .int x1), (2, .int x2), (3, .int x3), (4, .int x4), (5, .int x5)]), W p l e ({ frames := 7, cells := 0, slots := 0, locals := 177 } : Room) s m args below meth c H locs 0 0 (MQ below (va_Qi (fun (r : Int32) (u : PH) => (r, u) = out) (ph_B D cy b A false) A) args s 0 0 A) (F0 m 16 ls []) := by
  intro n
  induction n with
  | zero => intro h a0 x1 x2 x3 x4 x5 f; rw [F11_fairest_16] at f; cases f
  | succ n ih =>
    intro h a0 x1 x2 x3 x4 x5 f H locs I ls hl
    rw [F11_fairest_16] at f
    refine lv_iload S.1 S.2.1 dX11_fairest_16 (lv_at hl 5 rfl) ?_
    refine lv_iconst (v := 4) S.1 S.2.1 dX11_fairest_18 (by decide) ?_
    refine lv_icmp_ge (tgt := 105) S.1 S.2.1 dX11_fairest_19 (by decide) (fun q1 => ?_) (fun q1 => ?_)
    · have f := (if_pos q1).symm.trans f
      refine lv_iload_n S.1 S.2.1 dX11_fairest_105 rfl (lv_at hl 2 rfl) ?_
      exact o_iret S hr hlo I f dX11_fairest_106
    · have f := (if_neg q1).symm.trans f
      refine lv_aload_n S.1 S.2.1 dX11_fairest_22 rfl (lv_at hl 0 rfl) ?_
      refine lv_iload S.1 S.2.1 dX11_fairest_23 (lv_at hl 5 rfl) ?_
      refine lv_iload_n S.1 S.2.1 dX11_fairest_25 rfl (lv_at hl 1 rfl) ?_
      obtain ⟨o2, e3, f⟩ := ob f
      refine o_Vv S (As := [.int x5, .int x1]) (rest := []) (ci := 11) (M11_runBy l D cy b A e3) gX11_fairest_X11_runBy rfl rfl rfl cd11_runBy ⟨Nat.le_of_ble_eq_true rfl, Nat.le_of_ble_eq_true rfl⟩ I (gd e3).1 clX11 rfl rfl hl.1 rfl (Nat.le_of_ble_eq_true rfl) dX11_fairest_26 ⟨Nat.le_of_ble_eq_true rfl, Nat.le_of_ble_eq_true rfl⟩ (fun H locs I => ?_)
      refine lv_aload_n S.1 S.2.1 dX11_fairest_29 rfl (lv_at hl 0 rfl) ?_
      obtain ⟨r4, e5, f⟩ := ob f
      refine o_gR S lf11_fairest_51 I e5 dX11_fairest_30 ?_
      refine lv_aload_n S.1 S.2.1 dX11_fairest_33 rfl (lv_at hl 0 rfl) ?_
      obtain ⟨r6, e7, f⟩ := ob f
      refine o_gR S lf11_fairest_18 I e7 dX11_fairest_34 ?_
      obtain ⟨r8, e9, f⟩ := ob f
      refine o_gR S lf11_fairest_102 I e9 dX11_fairest_37 ?_
      obtain ⟨v10, e11, f⟩ := ob f
      refine o_gI S lf11_fairest_106 I e11 dX11_fairest_40 ?_
      obtain ⟨o12, e13, f⟩ := ob f
      refine o_Vi S (As := [.int v10]) (rest := []) (ci := 4) (M4_unlike l D cy b A false e13) gX11_fairest_X4_unlike rfl rfl rfl cd4_unlike ⟨Nat.le_of_ble_eq_true rfl, Nat.le_of_ble_eq_true rfl⟩ I (gd e13).1 clX4 rfl rfl hl.1 rfl (Nat.le_of_ble_eq_true rfl) dX11_fairest_43 ⟨Nat.le_of_ble_eq_true rfl, Nat.le_of_ble_eq_true rfl⟩ (fun H locs I => ?_)
      refine lv_istore (lv' := [(6, .int o12.1), (0, .ref (b + a0)), (1, .int x1), (2, .int x2), (3, .int x3), (4, .int x4), (5, .int x5)]) S.1 S.2.1 dX11_fairest_46 hl (by decide) rfl (fun ls hl => ?_)
      refine lv_aload_n S.1 S.2.1 dX11_fairest_48 rfl (lv_at hl 1 rfl) ?_
      obtain ⟨r14, e15, f⟩ := ob f
      refine o_gR S lf11_fairest_51 I e15 dX11_fairest_49 ?_
      obtain ⟨v16, e17, f⟩ := ob f
      refine o_gI S lf11_fairest_287 I e17 dX11_fairest_52 ?_
      refine lv_aload_n S.1 S.2.1 dX11_fairest_55 rfl (lv_at hl 1 rfl) ?_
      obtain ⟨r18, e19, f⟩ := ob f
      refine o_gR S lf11_fairest_51 I e19 dX11_fairest_56 ?_
      obtain ⟨v20, e21, f⟩ := ob f
      refine o_gI S lf11_fairest_290 I e21 dX11_fairest_59 ?_
      refine lv_iadd S.1 S.2.1 dX11_fairest_62 ?_
      refine lv_istore (lv' := [(7, .int (v16 + v20)), (6, .int o12.1), (0, .ref (b + a0)), (1, .int x1), (2, .int x2), (3, .int x3), (4, .int x4), (5, .int x5)]) S.1 S.2.1 dX11_fairest_63 hl (by decide) rfl (fun ls hl => ?_)
      refine lv_iload_n S.1 S.2.1 dX11_fairest_65 rfl (lv_at hl 4 rfl) ?_
      refine lv_iconst (v := (-1)) S.1 S.2.1 dX11_fairest_66 (by decide) ?_
      refine lv_icmp_eq (tgt := 89) S.1 S.2.1 dX11_fairest_67 (by decide) (fun q22 => ?_) (fun q22 => ?_)
      · have f := (if_pos q22).symm.trans f
        exact T11_fairest_89 S hr hlo (fun f _ _ I _ hl => ih f I hl) f I (lv_sub hl [2, 3, 7, 1, 0] rfl)
      · have f := (if_neg q22).symm.trans f
        refine lv_iload S.1 S.2.1 dX11_fairest_70 (lv_at hl 1 rfl) ?_
        refine lv_iload_n S.1 S.2.1 dX11_fairest_72 rfl (lv_at hl 5 rfl) ?_
        refine lv_icmp_lt (tgt := 89) S.1 S.2.1 dX11_fairest_73 (by decide) (fun q23 => ?_) (fun q23 => ?_)
        · have f := (if_pos q23).symm.trans f
          exact T11_fairest_89 S hr hlo (fun f _ _ I _ hl => ih f I hl) f I (lv_sub hl [2, 3, 7, 1, 0] rfl)
        · have f := (if_neg q23).symm.trans f
          refine lv_iload S.1 S.2.1 dX11_fairest_76 (lv_at hl 1 rfl) ?_
          refine lv_iload_n S.1 S.2.1 dX11_fairest_78 rfl (lv_at hl 5 rfl) ?_
          refine lv_icmp_ne (tgt := 99) S.1 S.2.1 dX11_fairest_79 (by decide) (fun q24 => ?_) (fun q24 => ?_)
          · have f := (if_neg q24).symm.trans f
            refine lv_iinc (v := (x5 + 1)) (lv' := [(5, .int (x5 + 1)), (7, .int (v16 + v20)), (6, .int o12.1), (0, .ref (b + a0)), (1, .int x1), (2, .int x2), (3, .int x3), (4, .int x4)]) S.1 S.2.1 dX11_fairest_99 hl (k := 7) rfl (congrArg (fun z => x5 + z) (by decide)) (by decide) rfl (fun ls hl => ?_)
            refine lv_goto (tgt := 16) S.1 S.2.1 dX11_fairest_102 (by decide) ?_
            exact ih f I (lv_sub hl [3, 4, 5, 6, 7, 0] rfl)
          · have f := (if_pos q24).symm.trans f
            refine lv_iload S.1 S.2.1 dX11_fairest_82 (lv_at hl 0 rfl) ?_
            refine lv_iload S.1 S.2.1 dX11_fairest_84 (lv_at hl 6 rfl) ?_
            refine lv_icmp_ge (tgt := 99) S.1 S.2.1 dX11_fairest_86 (by decide) (fun q25 => ?_) (fun q25 => ?_)
            · have f := (if_pos q25).symm.trans f
              refine lv_iinc (v := (x5 + 1)) (lv' := [(5, .int (x5 + 1)), (7, .int (v16 + v20)), (6, .int o12.1), (0, .ref (b + a0)), (1, .int x1), (2, .int x2), (3, .int x3), (4, .int x4)]) S.1 S.2.1 dX11_fairest_99 hl (k := 7) rfl (congrArg (fun z => x5 + z) (by decide)) (by decide) rfl (fun ls hl => ?_)
              refine lv_goto (tgt := 16) S.1 S.2.1 dX11_fairest_102 (by decide) ?_
              exact ih f I (lv_sub hl [3, 4, 5, 6, 7, 0] rfl)
            · have f := (if_neg q25).symm.trans f
              exact T11_fairest_89 S hr hlo (fun f _ _ I _ hl => ih f I hl) f I (lv_sub hl [2, 3, 7, 1, 0] rfl)
set_option maxHeartbeats 4000000 in
set_option maxRecDepth 100000 in
theorem T11_fairest_0 (S : CallFix p m c cX11_fairest 8 s args vX11_fairest RX11) (hr : meth.sig.returnType = (some .int)) (hlo : meth.locks = false) {out : Int32 × PH} {h : PH} {a0 : Nat} {x1 : Int32} (f : F11_fairest_0  h a0 x1 = some out) {H : Heap} {locs : List Loc} (I : ph_I D cy b A false h s H locs) {ls : Array Slot} (hl : lv_has ls 8 [(0, .ref (b + a0)), (1, .int x1)]) : W p l e ({ frames := 7, cells := 0, slots := 0, locals := 177 } : Room) s m args below meth c H locs 0 0 (MQ below (va_Qi (fun (r : Int32) (u : PH) => (r, u) = out) (ph_B D cy b A false) A) args s 0 0 A) (F0 m 0 ls []) := by
  unfold F11_fairest_0 at f
  refine lv_iload_n S.1 S.2.1 dX11_fairest_0 rfl (lv_at hl 1 rfl) ?_
  refine lv_if_ge (tgt := 6) S.1 S.2.1 dX11_fairest_1 (by decide) (fun q1 => ?_) (fun q1 => ?_)
  · have f := (if_pos q1).symm.trans f
    refine lv_iconst (v := (-1)) S.1 S.2.1 dX11_fairest_6 (by decide) ?_
    refine lv_istore_n (lv' := [(2, .int (-1)), (0, .ref (b + a0)), (1, .int x1)]) S.1 S.2.1 dX11_fairest_7 rfl hl (by decide) rfl (fun ls hl => ?_)
    refine lv_iconst (v := 0) S.1 S.2.1 dX11_fairest_8 (by decide) ?_
    refine lv_istore_n (lv' := [(3, .int 0), (2, .int (-1)), (0, .ref (b + a0)), (1, .int x1)]) S.1 S.2.1 dX11_fairest_9 rfl hl (by decide) rfl (fun ls hl => ?_)
    refine lv_iconst (v := 0) S.1 S.2.1 dX11_fairest_10 (by decide) ?_
    refine lv_istore (lv' := [(4, .int 0), (3, .int 0), (2, .int (-1)), (0, .ref (b + a0)), (1, .int x1)]) S.1 S.2.1 dX11_fairest_11 hl (by decide) rfl (fun ls hl => ?_)
    refine lv_iconst (v := 0) S.1 S.2.1 dX11_fairest_13 (by decide) ?_
    refine lv_istore (lv' := [(5, .int 0), (4, .int 0), (3, .int 0), (2, .int (-1)), (0, .ref (b + a0)), (1, .int x1)]) S.1 S.2.1 dX11_fairest_14 hl (by decide) rfl (fun ls hl => ?_)
    exact T11_fairest_16 S hr hlo  1024 f I (lv_sub hl [4, 5, 3, 2, 1, 0] rfl)
  · have f := (if_neg q1).symm.trans f
    refine lv_iconst (v := (-1)) S.1 S.2.1 dX11_fairest_4 (by decide) ?_
    exact o_iret S hr hlo I f dX11_fairest_5
theorem M11_fairest (l : Launch) (D : va_G) (cy : Nat → ClassId) (b : Nat) (A : Nat → Prop) {h : PH} {a0 : Nat} {x1 : Int32} {out : Int32 × PH} (f : F11_fairest h a0 x1 = some out) : Met l yX11_fairest vX11_fairest ({ frames := 7, cells := 0, slots := 0, locals := 177 } : Room) (va_Pc [.ref (b + a0), .int x1] (ph_B D cy b A false h)) (va_Qi (fun (r : Int32) (u : PH) => (r, u) = out) (ph_B D cy b A false) A) 0 0 A :=
  o_met (by decide) rfl (Nat.le_of_ble_eq_true rfl) rfl (fun p e s m below meth c S hr hlo hnm ls hl I => T11_fairest_0 S hr hlo ((gd f).2) I (lv_sub hl [0, 1] rfl))
def vX11_fault : List Cond := .code yX11_fault cX11_fault 2 (some .int) :: TB
theorem lf11_fault_30 : Fl vX11_fault RX11 30 11 2 := ⟨RX11, TX11, 14, rfl, by decide, (fun w h9 => List.mem_cons_of_mem _ (wC_wsX110 w h9)), (List.mem_cons_of_mem _ wT_1_23)⟩
theorem lf11_fault_99 : Fl vX11_fault RX11 99 5 9 := ⟨RX5, TX5, 11, rfl, by decide, (fun w h9 => List.mem_cons_of_mem _ (wC_wsX50 w h9)), (List.mem_cons_of_mem _ wT_32_5)⟩
theorem lf11_fault_96 : Fl vX11_fault RX11 96 5 8 := ⟨RX5, TX5, 11, rfl, by decide, (fun w h9 => List.mem_cons_of_mem _ (wC_wsX50 w h9)), (List.mem_cons_of_mem _ wT_32_4)⟩
set_option maxHeartbeats 4000000 in
set_option maxRecDepth 100000 in
theorem T11_fault_0 (S : CallFix p m c cX11_fault 2 s args vX11_fault RX11) (hr : meth.sig.returnType = (some .int)) (hlo : meth.locks = false) {out : Int32 × PH} {h : PH} {a0 : Nat} {x1 : Int32} (f : F11_fault_0  h a0 x1 = some out) {H : Heap} {locs : List Loc} (I : ph_I D cy b A fl h s H locs) {ls : Array Slot} (hl : lv_has ls 2 [(0, .ref (b + a0)), (1, .int x1)]) : W p l e ({ frames := 0, cells := 0, slots := 0, locals := 0 } : Room) s m args below meth c H locs 0 0 (MQ below (va_Qi (fun (r : Int32) (u : PH) => (r, u) = out) (ph_B D cy b A fl) A) args s 0 0 A) (F0 m 0 ls []) := by
  unfold F11_fault_0 at f
  refine lv_iload_n S.1 S.2.1 dX11_fault_0 rfl (lv_at hl 1 rfl) ?_
  refine lv_if_ne (tgt := 12) S.1 S.2.1 dX11_fault_1 (by decide) (fun q1 => ?_) (fun q1 => ?_)
  · have f := (if_neg q1).symm.trans f
    refine lv_iload_n S.1 S.2.1 dX11_fault_12 rfl (lv_at hl 1 rfl) ?_
    refine lv_iconst (v := 1) S.1 S.2.1 dX11_fault_13 (by decide) ?_
    refine lv_icmp_ne (tgt := 27) S.1 S.2.1 dX11_fault_14 (by decide) (fun q2 => ?_) (fun q2 => ?_)
    · have f := (if_neg q2).symm.trans f
      refine lv_iconst (v := (-1)) S.1 S.2.1 dX11_fault_27 (by decide) ?_
      exact o_iret S hr hlo I f dX11_fault_28
    · have f := (if_pos q2).symm.trans f
      refine lv_aload_n S.1 S.2.1 dX11_fault_17 rfl (lv_at hl 0 rfl) ?_
      obtain ⟨r3, e4, f⟩ := ob f
      refine o_gR S lf11_fault_30 I e4 dX11_fault_18 ?_
      obtain ⟨v5, e6, f⟩ := ob f
      refine o_gI S lf11_fault_99 I e6 dX11_fault_21 ?_
      refine lv_goto (tgt := 28) S.1 S.2.1 dX11_fault_24 (by decide) ?_
      exact o_iret S hr hlo I f dX11_fault_28
  · have f := (if_pos q1).symm.trans f
    refine lv_aload_n S.1 S.2.1 dX11_fault_4 rfl (lv_at hl 0 rfl) ?_
    obtain ⟨r7, e8, f⟩ := ob f
    refine o_gR S lf11_fault_30 I e8 dX11_fault_5 ?_
    obtain ⟨v9, e10, f⟩ := ob f
    refine o_gI S lf11_fault_96 I e10 dX11_fault_8 ?_
    exact o_iret S hr hlo I f dX11_fault_11
theorem M11_fault (l : Launch) (D : va_G) (cy : Nat → ClassId) (b : Nat) (A : Nat → Prop) (fl : Bool) {h : PH} {a0 : Nat} {x1 : Int32} {out : Int32 × PH} (f : F11_fault h a0 x1 = some out) : Met l yX11_fault vX11_fault ({ frames := 0, cells := 0, slots := 0, locals := 0 } : Room) (va_Pc [.ref (b + a0), .int x1] (ph_B D cy b A fl h)) (va_Qi (fun (r : Int32) (u : PH) => (r, u) = out) (ph_B D cy b A fl) A) 0 0 A :=
  o_met (by decide) rfl (Nat.le_of_ble_eq_true rfl) rfl (fun p e s m below meth c S hr hlo hnm ls hl I => T11_fault_0 S hr hlo ((gd f).2) I (lv_sub hl [0, 1] rfl))
def vX11_putOnTape : List Cond := .code yX11_putOnTape cX11_putOnTape 3 none :: TB
theorem lf11_putOnTape_78 : Fl vX11_putOnTape RX11 78 11 1 := ⟨RX11, TX11, 14, rfl, by decide, (fun w h9 => List.mem_cons_of_mem _ (wC_wsX110 w h9)), (List.mem_cons_of_mem _ wT_13_8)⟩
theorem lf11_putOnTape_11 : Fl vX11_putOnTape RX11 11 11 0 := ⟨RX11, TX11, 14, rfl, by decide, (fun w h9 => List.mem_cons_of_mem _ (wC_wsX110 w h9)), (List.mem_cons_of_mem _ wT_1_14)⟩
theorem lp11_putOnTape_78 : Pl vX11_putOnTape RX11 78 11 1 .int := ⟨RX11, TX11, 14, tyX11, rfl, by decide, (fun w h9 => List.mem_cons_of_mem _ (wC_wsX110 w h9)), (List.mem_cons_of_mem _ wT_13_8), tyX11_ok, nmX11, rfl, rfl⟩
theorem cd11_putOnTape : Cd yX11_putOnTape 1 := ⟨by decide, by decide, by decide +kernel⟩
set_option maxHeartbeats 4000000 in
set_option maxRecDepth 100000 in
theorem T11_putOnTape_3 (S : CallFix p m c cX11_putOnTape 3 s args vX11_putOnTape RX11) (hr : meth.sig.returnType = none) (hlo : meth.locks = false) {out : PH} : ∀ (n : Nat) {h : PH} {a0 : Nat} {x1 : Int32} {x2 : Int32} (f : F11_putOnTape_3  n h a0 x1 x2 = some out) {H : Heap} {locs : List Loc} (I : ph_I D cy b A fl h s H locs) {ls : Array Slot} (hl : lv_has ls 3 [(0, .ref (b + a0)), (1, .int x1), (2, .int x2)]), W p l e ({ frames := 0, cells := 0, slots := 0, locals := 0 } : Room) s m args below meth c H locs 0 0 (MQ below (va_Qv (fun (u : PH) => u = out) (ph_B D cy b A fl) A) args s 0 0 A) (F0 m 3 ls []) := by
  intro n
  induction n with
  | zero => intro h a0 x1 x2 f; rw [F11_putOnTape_3] at f; cases f
  | succ n ih =>
    intro h a0 x1 x2 f H locs I ls hl
    rw [F11_putOnTape_3] at f
    refine lv_iload_n S.1 S.2.1 dX11_putOnTape_3 rfl (lv_at hl 2 rfl) ?_
    refine lv_if_lt (tgt := 46) S.1 S.2.1 dX11_putOnTape_4 (by decide) (fun q1 => ?_) (fun q1 => ?_)
    · have f := (if_pos q1).symm.trans f
      exact o_vret S hr hlo I f dX11_putOnTape_46
    · have f := (if_neg q1).symm.trans f
      refine lv_aload_n S.1 S.2.1 dX11_putOnTape_7 rfl (lv_at hl 0 rfl) ?_
      obtain ⟨v2, e3, f⟩ := ob f
      refine o_gI S lf11_putOnTape_78 I e3 dX11_putOnTape_8 ?_
      refine lv_sipush (v := 700) S.1 S.2.1 dX11_putOnTape_11 (by decide) ?_
      refine lv_icmp_ge (tgt := 46) S.1 S.2.1 dX11_putOnTape_14 (by decide) (fun q4 => ?_) (fun q4 => ?_)
      · have f := (if_pos q4).symm.trans f
        exact o_vret S hr hlo I f dX11_putOnTape_46
      · have f := (if_neg q4).symm.trans f
        refine lv_aload_n S.1 S.2.1 dX11_putOnTape_17 rfl (lv_at hl 0 rfl) ?_
        obtain ⟨r5, e6, f⟩ := ob f
        refine o_gR S lf11_putOnTape_11 I e6 dX11_putOnTape_18 ?_
        refine lv_aload_n S.1 S.2.1 dX11_putOnTape_21 rfl (lv_at hl 0 rfl) ?_
        obtain ⟨v7, e8, f⟩ := ob f
        refine o_gI S lf11_putOnTape_78 I e8 dX11_putOnTape_22 ?_
        refine lv_iload_n S.1 S.2.1 dX11_putOnTape_25 rfl (lv_at hl 1 rfl) ?_
        refine lv_iload_n S.1 S.2.1 dX11_putOnTape_26 rfl (lv_at hl 2 rfl) ?_
        refine lv_ishr S.1 S.2.1 dX11_putOnTape_27 ?_
        refine lv_i2b (v := (Int32.toInt8 (x1 >>> (x2 &&& 31))).toInt32) S.1 S.2.1 dX11_putOnTape_28 rfl ?_
        obtain ⟨h10, e9, f⟩ := ob f
        refine o_bast S I e9 dX11_putOnTape_29 (fun H locs I => ?_)
        refine lv_aload_n S.1 S.2.1 dX11_putOnTape_30 rfl (lv_at hl 0 rfl) ?_
        refine lv_dup S.1 S.2.1 dX11_putOnTape_31 rfl ?_
        obtain ⟨v11, e12, f⟩ := ob f
        refine o_gI S lf11_putOnTape_78 I e12 dX11_putOnTape_32 ?_
        refine lv_iconst (v := 1) S.1 S.2.1 dX11_putOnTape_35 (by decide) ?_
        refine lv_iadd S.1 S.2.1 dX11_putOnTape_36 ?_
        obtain ⟨h13, e14, f⟩ := ob f
        refine o_pI S lp11_putOnTape_78 I e14 dX11_putOnTape_37 (fun H locs I => ?_)
        refine lv_iinc (v := (x2 + (-8))) (lv' := [(2, .int (x2 + (-8))), (0, .ref (b + a0)), (1, .int x1)]) S.1 S.2.1 dX11_putOnTape_40 hl (k := 2) rfl (congrArg (fun z => x2 + z) (by decide)) (by decide) rfl (fun ls hl => ?_)
        refine lv_goto (tgt := 3) S.1 S.2.1 dX11_putOnTape_43 (by decide) ?_
        exact ih f I (lv_sub hl [1, 2, 0] rfl)
set_option maxHeartbeats 4000000 in
set_option maxRecDepth 100000 in
theorem T11_putOnTape_0 (S : CallFix p m c cX11_putOnTape 3 s args vX11_putOnTape RX11) (hr : meth.sig.returnType = none) (hlo : meth.locks = false) {out : PH} {h : PH} {a0 : Nat} {x1 : Int32} (f : F11_putOnTape_0  h a0 x1 = some out) {H : Heap} {locs : List Loc} (I : ph_I D cy b A fl h s H locs) {ls : Array Slot} (hl : lv_has ls 3 [(0, .ref (b + a0)), (1, .int x1)]) : W p l e ({ frames := 0, cells := 0, slots := 0, locals := 0 } : Room) s m args below meth c H locs 0 0 (MQ below (va_Qv (fun (u : PH) => u = out) (ph_B D cy b A fl) A) args s 0 0 A) (F0 m 0 ls []) := by
  unfold F11_putOnTape_0 at f
  refine lv_bipush (v := 24) S.1 S.2.1 dX11_putOnTape_0 (by decide) ?_
  refine lv_istore_n (lv' := [(2, .int 24), (0, .ref (b + a0)), (1, .int x1)]) S.1 S.2.1 dX11_putOnTape_2 rfl hl (by decide) rfl (fun ls hl => ?_)
  exact T11_putOnTape_3 S hr hlo  1024 f I (lv_sub hl [1, 2, 0] rfl)
theorem M11_putOnTape (l : Launch) (D : va_G) (cy : Nat → ClassId) (b : Nat) (A : Nat → Prop) (fl : Bool) {h : PH} {a0 : Nat} {x1 : Int32} {out : PH} (f : F11_putOnTape h a0 x1 = some out) : Met l yX11_putOnTape vX11_putOnTape ({ frames := 0, cells := 0, slots := 0, locals := 0 } : Room) (va_Pc [.ref (b + a0), .int x1] (ph_B D cy b A fl h)) (va_Qv (fun (u : PH) => u = out) (ph_B D cy b A fl) A) 0 0 A :=
  o_met (by decide) rfl (Nat.le_of_ble_eq_true rfl) rfl (fun p e s m below meth c S hr hlo hnm ls hl I => T11_putOnTape_0 S hr hlo ((gd f).2) I (lv_sub hl [0, 1] rfl))
def vX11_feed : List Cond := .code yX11_feed cX11_feed 6 (some .int) :: TB
theorem lf11_feed_78 : Fl vX11_feed RX11 78 11 1 := ⟨RX11, TX11, 14, rfl, by decide, (fun w h9 => List.mem_cons_of_mem _ (wC_wsX110 w h9)), (List.mem_cons_of_mem _ wT_13_8)⟩
theorem gX11_feed_X11_putOnTape : GoodIn vX11_feed (wsV RX11 82 RX11 yX11_putOnTape vX11_putOnTape) := gV_of wT_13_9 wT_13_10 wT_13_11 wT_1_2 wT_13_12
set_option maxHeartbeats 4000000 in
set_option maxRecDepth 100000 in
theorem T11_feed_0 (S : CallFix p m c cX11_feed 6 s args vX11_feed RX11) (hr : meth.sig.returnType = (some .int)) (hlo : meth.locks = false) {out : Int32 × PH} {h : PH} {a0 : Nat} {x1 : Int32} {x2 : Int32} {x3 : Int32} {x4 : Int32} {x5 : Int32} (f : F11_feed_0  h a0 x1 x2 x3 x4 x5 = some out) {H : Heap} {locs : List Loc} (I : ph_I D cy b A fl h s H locs) {ls : Array Slot} (hl : lv_has ls 6 [(0, .ref (b + a0)), (1, .int x1), (2, .int x2), (3, .int x3), (4, .int x4), (5, .int x5)]) : W p l e ({ frames := 1, cells := 0, slots := 0, locals := 22 } : Room) s m args below meth c H locs 0 0 (MQ below (va_Qi (fun (r : Int32) (u : PH) => (r, u) = out) (ph_B D cy b A fl) A) args s 0 0 A) (F0 m 0 ls []) := by
  unfold F11_feed_0 at f
  refine lv_aload_n S.1 S.2.1 dX11_feed_0 rfl (lv_at hl 0 rfl) ?_
  obtain ⟨v1, e2, f⟩ := ob f
  refine o_gI S lf11_feed_78 I e2 dX11_feed_1 ?_
  refine lv_bipush (v := 20) S.1 S.2.1 dX11_feed_4 (by decide) ?_
  refine lv_iadd S.1 S.2.1 dX11_feed_6 ?_
  refine lv_sipush (v := 700) S.1 S.2.1 dX11_feed_7 (by decide) ?_
  refine lv_icmp_le (tgt := 15) S.1 S.2.1 dX11_feed_10 (by decide) (fun q3 => ?_) (fun q3 => ?_)
  · have f := (if_pos q3).symm.trans f
    refine lv_aload_n S.1 S.2.1 dX11_feed_15 rfl (lv_at hl 0 rfl) ?_
    refine lv_iload_n S.1 S.2.1 dX11_feed_16 rfl (lv_at hl 1 rfl) ?_
    obtain ⟨o4, e5, f⟩ := ob f
    refine o_Vv S (As := [.int x1]) (rest := []) (ci := 11) (M11_putOnTape l D cy b A fl e5) gX11_feed_X11_putOnTape rfl rfl rfl cd11_putOnTape ⟨Nat.le_of_ble_eq_true rfl, Nat.le_of_ble_eq_true rfl⟩ I (gd e5).1 clX11 rfl rfl hl.1 rfl (Nat.le_of_ble_eq_true rfl) dX11_feed_17 ⟨Nat.le_of_ble_eq_true rfl, Nat.le_of_ble_eq_true rfl⟩ (fun H locs I => ?_)
    refine lv_aload_n S.1 S.2.1 dX11_feed_20 rfl (lv_at hl 0 rfl) ?_
    refine lv_iload_n S.1 S.2.1 dX11_feed_21 rfl (lv_at hl 2 rfl) ?_
    obtain ⟨o6, e7, f⟩ := ob f
    refine o_Vv S (As := [.int x2]) (rest := []) (ci := 11) (M11_putOnTape l D cy b A fl e7) gX11_feed_X11_putOnTape rfl rfl rfl cd11_putOnTape ⟨Nat.le_of_ble_eq_true rfl, Nat.le_of_ble_eq_true rfl⟩ I (gd e7).1 clX11 rfl rfl hl.1 rfl (Nat.le_of_ble_eq_true rfl) dX11_feed_22 ⟨Nat.le_of_ble_eq_true rfl, Nat.le_of_ble_eq_true rfl⟩ (fun H locs I => ?_)
    refine lv_aload_n S.1 S.2.1 dX11_feed_25 rfl (lv_at hl 0 rfl) ?_
    refine lv_iload_n S.1 S.2.1 dX11_feed_26 rfl (lv_at hl 3 rfl) ?_
    obtain ⟨o8, e9, f⟩ := ob f
    refine o_Vv S (As := [.int x3]) (rest := []) (ci := 11) (M11_putOnTape l D cy b A fl e9) gX11_feed_X11_putOnTape rfl rfl rfl cd11_putOnTape ⟨Nat.le_of_ble_eq_true rfl, Nat.le_of_ble_eq_true rfl⟩ I (gd e9).1 clX11 rfl rfl hl.1 rfl (Nat.le_of_ble_eq_true rfl) dX11_feed_27 ⟨Nat.le_of_ble_eq_true rfl, Nat.le_of_ble_eq_true rfl⟩ (fun H locs I => ?_)
    refine lv_aload_n S.1 S.2.1 dX11_feed_30 rfl (lv_at hl 0 rfl) ?_
    refine lv_iload S.1 S.2.1 dX11_feed_31 (lv_at hl 4 rfl) ?_
    obtain ⟨o10, e11, f⟩ := ob f
    refine o_Vv S (As := [.int x4]) (rest := []) (ci := 11) (M11_putOnTape l D cy b A fl e11) gX11_feed_X11_putOnTape rfl rfl rfl cd11_putOnTape ⟨Nat.le_of_ble_eq_true rfl, Nat.le_of_ble_eq_true rfl⟩ I (gd e11).1 clX11 rfl rfl hl.1 rfl (Nat.le_of_ble_eq_true rfl) dX11_feed_33 ⟨Nat.le_of_ble_eq_true rfl, Nat.le_of_ble_eq_true rfl⟩ (fun H locs I => ?_)
    refine lv_aload_n S.1 S.2.1 dX11_feed_36 rfl (lv_at hl 0 rfl) ?_
    refine lv_iload S.1 S.2.1 dX11_feed_37 (lv_at hl 5 rfl) ?_
    obtain ⟨o12, e13, f⟩ := ob f
    refine o_Vv S (As := [.int x5]) (rest := []) (ci := 11) (M11_putOnTape l D cy b A fl e13) gX11_feed_X11_putOnTape rfl rfl rfl cd11_putOnTape ⟨Nat.le_of_ble_eq_true rfl, Nat.le_of_ble_eq_true rfl⟩ I (gd e13).1 clX11 rfl rfl hl.1 rfl (Nat.le_of_ble_eq_true rfl) dX11_feed_39 ⟨Nat.le_of_ble_eq_true rfl, Nat.le_of_ble_eq_true rfl⟩ (fun H locs I => ?_)
    refine lv_aload_n S.1 S.2.1 dX11_feed_42 rfl (lv_at hl 0 rfl) ?_
    obtain ⟨v14, e15, f⟩ := ob f
    refine o_gI S lf11_feed_78 I e15 dX11_feed_43 ?_
    exact o_iret S hr hlo I f dX11_feed_46
  · have f := (if_neg q3).symm.trans f
    refine lv_iconst (v := (-1)) S.1 S.2.1 dX11_feed_13 (by decide) ?_
    exact o_iret S hr hlo I f dX11_feed_14
theorem M11_feed (l : Launch) (D : va_G) (cy : Nat → ClassId) (b : Nat) (A : Nat → Prop) (fl : Bool) {h : PH} {a0 : Nat} {x1 : Int32} {x2 : Int32} {x3 : Int32} {x4 : Int32} {x5 : Int32} {out : Int32 × PH} (f : F11_feed h a0 x1 x2 x3 x4 x5 = some out) : Met l yX11_feed vX11_feed ({ frames := 1, cells := 0, slots := 0, locals := 22 } : Room) (va_Pc [.ref (b + a0), .int x1, .int x2, .int x3, .int x4, .int x5] (ph_B D cy b A fl h)) (va_Qi (fun (r : Int32) (u : PH) => (r, u) = out) (ph_B D cy b A fl) A) 0 0 A :=
  o_met (by decide) rfl (Nat.le_of_ble_eq_true rfl) rfl (fun p e s m below meth c S hr hlo hnm ls hl I => T11_feed_0 S hr hlo ((gd f).2) I (lv_sub hl [0, 1, 2, 3, 4, 5] rfl))
def vX11_gaps : List Cond := .code yX11_gaps cX11_gaps 6 (some .int) :: TB
theorem lf11_gaps_18 : Fl vX11_gaps RX11 18 11 3 := ⟨RX11, TX11, 14, rfl, by decide, (fun w h9 => List.mem_cons_of_mem _ (wC_wsX110 w h9)), (List.mem_cons_of_mem _ wT_1_18)⟩
theorem lf11_gaps_150 : Fl vX11_gaps RX11 150 8 5 := ⟨RX8, TX8, 14, rfl, by decide, (fun w h9 => List.mem_cons_of_mem _ (wC_wsX80 w h9)), (List.mem_cons_of_mem _ wT_36_16)⟩
theorem lf11_gaps_253 : Fl vX11_gaps RX11 253 10 0 := ⟨RX10, TX10, 8, rfl, by decide, (fun w h9 => List.mem_cons_of_mem _ (wC_wsX100 w h9)), (List.mem_cons_of_mem _ wT_53_16)⟩
theorem gX11_gaps_X10_firstMinute : GoodIn vX11_gaps (wsV RX11 311 RX10 yX10_firstMinute vX10_firstMinute) := gV_of wT_60_3 wT_20_3 wT_20_4 wT_3_9 wT_20_5
theorem gX11_gaps_X10_lastMinute : GoodIn vX11_gaps (wsV RX11 314 RX10 yX10_lastMinute vX10_lastMinute) := gV_of wT_60_12 wT_19_23 wT_20_0 wT_3_9 wT_20_1
set_option maxHeartbeats 4000000 in
set_option maxRecDepth 100000 in
theorem T11_gaps_26 (S : CallFix p m c cX11_gaps 6 s args vX11_gaps RX11) (hr : meth.sig.returnType = (some .int)) (hlo : meth.locks = false) {out : Int32 × PH} : ∀ (n : Nat) {h : PH} {a0 : Nat} {x1 : Int32} {x2 : Int32} {x3 : Int32} {x4 : Int32} (f : F11_gaps_26  n h a0 x1 x2 x3 x4 = some out) {H : Heap} {locs : List Loc} (I : ph_I D cy b A fl h s H locs) {ls : Array Slot} (hl : lv_has ls 6 [(0, .ref (b + a0)), (1, .int x1), (2, .int x2), (3, .int x3), (4, .int x4)]), W p l e ({ frames := 2, cells := 0, slots := 0, locals := 42 } : Room) s m args below meth c H locs 0 0 (MQ below (va_Qi (fun (r : Int32) (u : PH) => (r, u) = out) (ph_B D cy b A fl) A) args s 0 0 A) (F0 m 26 ls []) := by
  intro n
  induction n with
  | zero => intro h a0 x1 x2 x3 x4 f; rw [F11_gaps_26] at f; cases f
  | succ n ih =>
    intro h a0 x1 x2 x3 x4 f H locs I ls hl
    rw [F11_gaps_26] at f
    refine lv_iload S.1 S.2.1 dX11_gaps_26 (lv_at hl 4 rfl) ?_
    refine lv_aload_n S.1 S.2.1 dX11_gaps_28 rfl (lv_at hl 0 rfl) ?_
    obtain ⟨r1, e2, f⟩ := ob f
    refine o_gR S lf11_gaps_18 I e2 dX11_gaps_29 ?_
    obtain ⟨r3, e4, f⟩ := ob f
    refine o_gR S lf11_gaps_150 I e4 dX11_gaps_32 ?_
    obtain ⟨v5, e6, f⟩ := ob f
    refine o_gI S lf11_gaps_253 I e6 dX11_gaps_35 ?_
    refine lv_icmp_ge (tgt := 90) S.1 S.2.1 dX11_gaps_38 (by decide) (fun q7 => ?_) (fun q7 => ?_)
    · have f := (if_pos q7).symm.trans f
      refine lv_iload_n S.1 S.2.1 dX11_gaps_90 rfl (lv_at hl 3 rfl) ?_
      exact o_iret S hr hlo I f dX11_gaps_91
    · have f := (if_neg q7).symm.trans f
      refine lv_aload_n S.1 S.2.1 dX11_gaps_41 rfl (lv_at hl 0 rfl) ?_
      obtain ⟨r8, e9, f⟩ := ob f
      refine o_gR S lf11_gaps_18 I e9 dX11_gaps_42 ?_
      obtain ⟨r10, e11, f⟩ := ob f
      refine o_gR S lf11_gaps_150 I e11 dX11_gaps_45 ?_
      refine lv_iload S.1 S.2.1 dX11_gaps_48 (lv_at hl 4 rfl) ?_
      obtain ⟨o12, e13, f⟩ := ob f
      refine o_Vi S (As := [.int x4]) (rest := []) (ci := 10) (M10_firstMinute l D cy b A fl e13) gX11_gaps_X10_firstMinute rfl rfl rfl cd10_firstMinute ⟨Nat.le_of_ble_eq_true rfl, Nat.le_of_ble_eq_true rfl⟩ I (gd e13).1 clX10 rfl rfl hl.1 rfl (Nat.le_of_ble_eq_true rfl) dX11_gaps_50 ⟨Nat.le_of_ble_eq_true rfl, Nat.le_of_ble_eq_true rfl⟩ (fun H locs I => ?_)
      refine lv_aload_n S.1 S.2.1 dX11_gaps_53 rfl (lv_at hl 0 rfl) ?_
      obtain ⟨r14, e15, f⟩ := ob f
      refine o_gR S lf11_gaps_18 I e15 dX11_gaps_54 ?_
      obtain ⟨r16, e17, f⟩ := ob f
      refine o_gR S lf11_gaps_150 I e17 dX11_gaps_57 ?_
      refine lv_iload S.1 S.2.1 dX11_gaps_60 (lv_at hl 4 rfl) ?_
      refine lv_iconst (v := 1) S.1 S.2.1 dX11_gaps_62 (by decide) ?_
      refine lv_isub S.1 S.2.1 dX11_gaps_63 ?_
      obtain ⟨o18, e19, f⟩ := ob f
      refine o_Vi S (As := [.int (x4 - 1)]) (rest := [.int o12.1]) (ci := 10) (M10_lastMinute l D cy b A fl e19) gX11_gaps_X10_lastMinute rfl rfl rfl cd10_lastMinute ⟨Nat.le_of_ble_eq_true rfl, Nat.le_of_ble_eq_true rfl⟩ I (gd e19).1 clX10 rfl rfl hl.1 rfl (Nat.le_of_ble_eq_true rfl) dX11_gaps_64 ⟨Nat.le_of_ble_eq_true rfl, Nat.le_of_ble_eq_true rfl⟩ (fun H locs I => ?_)
      refine lv_isub S.1 S.2.1 dX11_gaps_67 ?_
      refine lv_istore (lv' := [(5, .int (o12.1 - o18.1)), (0, .ref (b + a0)), (1, .int x1), (2, .int x2), (3, .int x3), (4, .int x4)]) S.1 S.2.1 dX11_gaps_68 hl (by decide) rfl (fun ls hl => ?_)
      refine lv_iload_n S.1 S.2.1 dX11_gaps_70 rfl (lv_at hl 3 rfl) ?_
      refine lv_iconst (v := 1) S.1 S.2.1 dX11_gaps_71 (by decide) ?_
      refine lv_icmp_eq (tgt := 81) S.1 S.2.1 dX11_gaps_72 (by decide) (fun q20 => ?_) (fun q20 => ?_)
      · have f := (if_pos q20).symm.trans f
        refine lv_iinc (v := (x3 + 1)) (lv' := [(3, .int (x3 + 1)), (5, .int (o12.1 - o18.1)), (0, .ref (b + a0)), (1, .int x1), (2, .int x2), (4, .int x4)]) S.1 S.2.1 dX11_gaps_81 hl (k := 4) rfl (congrArg (fun z => x3 + z) (by decide)) (by decide) rfl (fun ls hl => ?_)
        refine lv_iinc (v := (x4 + 1)) (lv' := [(4, .int (x4 + 1)), (3, .int (x3 + 1)), (5, .int (o12.1 - o18.1)), (0, .ref (b + a0)), (1, .int x1), (2, .int x2)]) S.1 S.2.1 dX11_gaps_84 hl (k := 5) rfl (congrArg (fun z => x4 + z) (by decide)) (by decide) rfl (fun ls hl => ?_)
        refine lv_goto (tgt := 26) S.1 S.2.1 dX11_gaps_87 (by decide) ?_
        exact ih f I (lv_sub hl [3, 4, 5, 1, 0] rfl)
      · have f := (if_neg q20).symm.trans f
        refine lv_iload S.1 S.2.1 dX11_gaps_75 (lv_at hl 0 rfl) ?_
        refine lv_iload_n S.1 S.2.1 dX11_gaps_77 rfl (lv_at hl 2 rfl) ?_
        refine lv_icmp_gt (tgt := 84) S.1 S.2.1 dX11_gaps_78 (by decide) (fun q21 => ?_) (fun q21 => ?_)
        · have f := (if_pos q21).symm.trans f
          refine lv_iinc (v := (x4 + 1)) (lv' := [(4, .int (x4 + 1)), (5, .int (o12.1 - o18.1)), (0, .ref (b + a0)), (1, .int x1), (2, .int x2), (3, .int x3)]) S.1 S.2.1 dX11_gaps_84 hl (k := 5) rfl (congrArg (fun z => x4 + z) (by decide)) (by decide) rfl (fun ls hl => ?_)
          refine lv_goto (tgt := 26) S.1 S.2.1 dX11_gaps_87 (by decide) ?_
          exact ih f I (lv_sub hl [2, 3, 4, 5, 0] rfl)
        · have f := (if_neg q21).symm.trans f
          refine lv_iinc (v := (x3 + 1)) (lv' := [(3, .int (x3 + 1)), (5, .int (o12.1 - o18.1)), (0, .ref (b + a0)), (1, .int x1), (2, .int x2), (4, .int x4)]) S.1 S.2.1 dX11_gaps_81 hl (k := 4) rfl (congrArg (fun z => x3 + z) (by decide)) (by decide) rfl (fun ls hl => ?_)
          refine lv_iinc (v := (x4 + 1)) (lv' := [(4, .int (x4 + 1)), (3, .int (x3 + 1)), (5, .int (o12.1 - o18.1)), (0, .ref (b + a0)), (1, .int x1), (2, .int x2)]) S.1 S.2.1 dX11_gaps_84 hl (k := 5) rfl (congrArg (fun z => x4 + z) (by decide)) (by decide) rfl (fun ls hl => ?_)
          refine lv_goto (tgt := 26) S.1 S.2.1 dX11_gaps_87 (by decide) ?_
          exact ih f I (lv_sub hl [3, 4, 5, 1, 0] rfl)
set_option maxHeartbeats 4000000 in
set_option maxRecDepth 100000 in
theorem T11_gaps_0 (S : CallFix p m c cX11_gaps 6 s args vX11_gaps RX11) (hr : meth.sig.returnType = (some .int)) (hlo : meth.locks = false) {out : Int32 × PH} {h : PH} {a0 : Nat} {x1 : Int32} {x2 : Int32} (f : F11_gaps_0  h a0 x1 x2 = some out) {H : Heap} {locs : List Loc} (I : ph_I D cy b A fl h s H locs) {ls : Array Slot} (hl : lv_has ls 6 [(0, .ref (b + a0)), (1, .int x1), (2, .int x2)]) : W p l e ({ frames := 2, cells := 0, slots := 0, locals := 42 } : Room) s m args below meth c H locs 0 0 (MQ below (va_Qi (fun (r : Int32) (u : PH) => (r, u) = out) (ph_B D cy b A fl) A) args s 0 0 A) (F0 m 0 ls []) := by
  unfold F11_gaps_0 at f
  refine lv_iload_n S.1 S.2.1 dX11_gaps_0 rfl (lv_at hl 1 rfl) ?_
  refine lv_if_lt (tgt := 19) S.1 S.2.1 dX11_gaps_1 (by decide) (fun q1 => ?_) (fun q1 => ?_)
  · have f := (if_pos q1).symm.trans f
    refine lv_iconst (v := (-1)) S.1 S.2.1 dX11_gaps_19 (by decide) ?_
    exact o_iret S hr hlo I f dX11_gaps_20
  · have f := (if_neg q1).symm.trans f
    refine lv_iload_n S.1 S.2.1 dX11_gaps_4 rfl (lv_at hl 1 rfl) ?_
    refine lv_bipush (v := 99) S.1 S.2.1 dX11_gaps_5 (by decide) ?_
    refine lv_icmp_gt (tgt := 19) S.1 S.2.1 dX11_gaps_7 (by decide) (fun q2 => ?_) (fun q2 => ?_)
    · have f := (if_pos q2).symm.trans f
      refine lv_iconst (v := (-1)) S.1 S.2.1 dX11_gaps_19 (by decide) ?_
      exact o_iret S hr hlo I f dX11_gaps_20
    · have f := (if_neg q2).symm.trans f
      refine lv_iload_n S.1 S.2.1 dX11_gaps_10 rfl (lv_at hl 2 rfl) ?_
      refine lv_if_lt (tgt := 19) S.1 S.2.1 dX11_gaps_11 (by decide) (fun q3 => ?_) (fun q3 => ?_)
      · have f := (if_pos q3).symm.trans f
        refine lv_iconst (v := (-1)) S.1 S.2.1 dX11_gaps_19 (by decide) ?_
        exact o_iret S hr hlo I f dX11_gaps_20
      · have f := (if_neg q3).symm.trans f
        refine lv_iload_n S.1 S.2.1 dX11_gaps_14 rfl (lv_at hl 2 rfl) ?_
        refine lv_iconst (v := 1) S.1 S.2.1 dX11_gaps_15 (by decide) ?_
        refine lv_icmp_le (tgt := 21) S.1 S.2.1 dX11_gaps_16 (by decide) (fun q4 => ?_) (fun q4 => ?_)
        · have f := (if_pos q4).symm.trans f
          refine lv_iconst (v := 0) S.1 S.2.1 dX11_gaps_21 (by decide) ?_
          refine lv_istore_n (lv' := [(3, .int 0), (0, .ref (b + a0)), (1, .int x1), (2, .int x2)]) S.1 S.2.1 dX11_gaps_22 rfl hl (by decide) rfl (fun ls hl => ?_)
          refine lv_iconst (v := 1) S.1 S.2.1 dX11_gaps_23 (by decide) ?_
          refine lv_istore (lv' := [(4, .int 1), (3, .int 0), (0, .ref (b + a0)), (1, .int x1), (2, .int x2)]) S.1 S.2.1 dX11_gaps_24 hl (by decide) rfl (fun ls hl => ?_)
          exact T11_gaps_26 S hr hlo  1024 f I (lv_sub hl [2, 3, 4, 1, 0] rfl)
        · have f := (if_neg q4).symm.trans f
          refine lv_iconst (v := (-1)) S.1 S.2.1 dX11_gaps_19 (by decide) ?_
          exact o_iret S hr hlo I f dX11_gaps_20
theorem M11_gaps (l : Launch) (D : va_G) (cy : Nat → ClassId) (b : Nat) (A : Nat → Prop) (fl : Bool) {h : PH} {a0 : Nat} {x1 : Int32} {x2 : Int32} {out : Int32 × PH} (f : F11_gaps h a0 x1 x2 = some out) : Met l yX11_gaps vX11_gaps ({ frames := 2, cells := 0, slots := 0, locals := 42 } : Room) (va_Pc [.ref (b + a0), .int x1, .int x2] (ph_B D cy b A fl h)) (va_Qi (fun (r : Int32) (u : PH) => (r, u) = out) (ph_B D cy b A fl) A) 0 0 A :=
  o_met (by decide) rfl (Nat.le_of_ble_eq_true rfl) rfl (fun p e s m below meth c S hr hlo hnm ls hl I => T11_gaps_0 S hr hlo ((gd f).2) I (lv_sub hl [0, 1, 2] rfl))
def vX11_give : List Cond := .code yX11_give cX11_give 4 (some .int) :: TB
theorem gX11_give_X11_isSurfer : GoodIn vX11_give (wsV RX11 115 RX11 yX11_isSurfer vX11_isSurfer) := gV_of wT_33_17 wT_33_18 wT_33_19 wT_1_2 wT_33_20
theorem lf11_give_18 : Fl vX11_give RX11 18 11 3 := ⟨RX11, TX11, 14, rfl, by decide, (fun w h9 => List.mem_cons_of_mem _ (wC_wsX110 w h9)), (List.mem_cons_of_mem _ wT_1_18)⟩
theorem lf11_give_102 : Fl vX11_give RX11 102 8 4 := ⟨RX8, TX8, 14, rfl, by decide, (fun w h9 => List.mem_cons_of_mem _ (wC_wsX80 w h9)), (List.mem_cons_of_mem _ wT_32_14)⟩
theorem lf11_give_281 : Fl vX11_give RX11 281 1 6 := ⟨RX1, TX1, 7, rfl, by decide, (fun w h9 => List.mem_cons_of_mem _ (wC_wsX10 w h9)), (List.mem_cons_of_mem _ wT_56_19)⟩
set_option maxHeartbeats 4000000 in
set_option maxRecDepth 100000 in
theorem T11_give_0 (S : CallFix p m c cX11_give 4 s args vX11_give RX11) (hr : meth.sig.returnType = (some .int)) (hlo : meth.locks = false) {out : Int32 × PH} {h : PH} {a0 : Nat} {x1 : Int32} {x2 : Int32} {x3 : Int32} (f : F11_give_0  h a0 x1 x2 x3 = some out) {H : Heap} {locs : List Loc} (I : ph_I D cy b A fl h s H locs) {ls : Array Slot} (hl : lv_has ls 4 [(0, .ref (b + a0)), (1, .int x1), (2, .int x2), (3, .int x3)]) : W p l e ({ frames := 1, cells := 0, slots := 0, locals := 21 } : Room) s m args below meth c H locs 0 0 (MQ below (va_Qi (fun (r : Int32) (u : PH) => (r, u) = out) (ph_B D cy b A fl) A) args s 0 0 A) (F0 m 0 ls []) := by
  unfold F11_give_0 at f
  refine lv_aload_n S.1 S.2.1 dX11_give_0 rfl (lv_at hl 0 rfl) ?_
  refine lv_iload_n S.1 S.2.1 dX11_give_1 rfl (lv_at hl 1 rfl) ?_
  obtain ⟨o1, e2, f⟩ := ob f
  refine o_Vi S (As := [.int x1]) (rest := []) (ci := 11) (M11_isSurfer l D cy b A fl e2) gX11_give_X11_isSurfer rfl rfl rfl cd11_isSurfer ⟨Nat.le_of_ble_eq_true rfl, Nat.le_of_ble_eq_true rfl⟩ I (gd e2).1 clX11 rfl rfl hl.1 rfl (Nat.le_of_ble_eq_true rfl) dX11_give_2 ⟨Nat.le_of_ble_eq_true rfl, Nat.le_of_ble_eq_true rfl⟩ (fun H locs I => ?_)
  refine lv_if_eq (tgt := 31) S.1 S.2.1 dX11_give_5 (by decide) (fun q3 => ?_) (fun q3 => ?_)
  · have f := (if_pos q3).symm.trans f
    refine lv_iconst (v := (-1)) S.1 S.2.1 dX11_give_31 (by decide) ?_
    exact o_iret S hr hlo I f dX11_give_32
  · have f := (if_neg q3).symm.trans f
    refine lv_aload_n S.1 S.2.1 dX11_give_8 rfl (lv_at hl 0 rfl) ?_
    refine lv_iload_n S.1 S.2.1 dX11_give_9 rfl (lv_at hl 2 rfl) ?_
    obtain ⟨o4, e5, f⟩ := ob f
    refine o_Vi S (As := [.int x2]) (rest := []) (ci := 11) (M11_isSurfer l D cy b A fl e5) gX11_give_X11_isSurfer rfl rfl rfl cd11_isSurfer ⟨Nat.le_of_ble_eq_true rfl, Nat.le_of_ble_eq_true rfl⟩ I (gd e5).1 clX11 rfl rfl hl.1 rfl (Nat.le_of_ble_eq_true rfl) dX11_give_10 ⟨Nat.le_of_ble_eq_true rfl, Nat.le_of_ble_eq_true rfl⟩ (fun H locs I => ?_)
    refine lv_if_eq (tgt := 31) S.1 S.2.1 dX11_give_13 (by decide) (fun q6 => ?_) (fun q6 => ?_)
    · have f := (if_pos q6).symm.trans f
      refine lv_iconst (v := (-1)) S.1 S.2.1 dX11_give_31 (by decide) ?_
      exact o_iret S hr hlo I f dX11_give_32
    · have f := (if_neg q6).symm.trans f
      refine lv_iload_n S.1 S.2.1 dX11_give_16 rfl (lv_at hl 1 rfl) ?_
      refine lv_iload_n S.1 S.2.1 dX11_give_17 rfl (lv_at hl 2 rfl) ?_
      refine lv_icmp_eq (tgt := 31) S.1 S.2.1 dX11_give_18 (by decide) (fun q7 => ?_) (fun q7 => ?_)
      · have f := (if_pos q7).symm.trans f
        refine lv_iconst (v := (-1)) S.1 S.2.1 dX11_give_31 (by decide) ?_
        exact o_iret S hr hlo I f dX11_give_32
      · have f := (if_neg q7).symm.trans f
        refine lv_iload_n S.1 S.2.1 dX11_give_21 rfl (lv_at hl 3 rfl) ?_
        refine lv_if_lt (tgt := 31) S.1 S.2.1 dX11_give_22 (by decide) (fun q8 => ?_) (fun q8 => ?_)
        · have f := (if_pos q8).symm.trans f
          refine lv_iconst (v := (-1)) S.1 S.2.1 dX11_give_31 (by decide) ?_
          exact o_iret S hr hlo I f dX11_give_32
        · have f := (if_neg q8).symm.trans f
          refine lv_iload_n S.1 S.2.1 dX11_give_25 rfl (lv_at hl 3 rfl) ?_
          refine lv_bipush (v := 99) S.1 S.2.1 dX11_give_26 (by decide) ?_
          refine lv_icmp_le (tgt := 33) S.1 S.2.1 dX11_give_28 (by decide) (fun q9 => ?_) (fun q9 => ?_)
          · have f := (if_pos q9).symm.trans f
            refine lv_aload_n S.1 S.2.1 dX11_give_33 rfl (lv_at hl 0 rfl) ?_
            obtain ⟨r10, e11, f⟩ := ob f
            refine o_gR S lf11_give_18 I e11 dX11_give_34 ?_
            obtain ⟨r12, e13, f⟩ := ob f
            refine o_gR S lf11_give_102 I e13 dX11_give_37 ?_
            obtain ⟨r14, e15, f⟩ := ob f
            refine o_gR S lf11_give_281 I e15 dX11_give_40 ?_
            refine lv_iload_n S.1 S.2.1 dX11_give_43 rfl (lv_at hl 2 rfl) ?_
            obtain ⟨v17, e16, f⟩ := ob f
            refine o_iald S I e16 dX11_give_44 ?_
            refine lv_iload_n S.1 S.2.1 dX11_give_45 rfl (lv_at hl 3 rfl) ?_
            refine lv_imul S.1 S.2.1 dX11_give_46 ?_
            refine lv_bipush (v := 100) S.1 S.2.1 dX11_give_47 (by decide) ?_
            refine lv_icmp_le (tgt := 56) S.1 S.2.1 dX11_give_49 (by decide) (fun q18 => ?_) (fun q18 => ?_)
            · have f := (if_pos q18).symm.trans f
              refine lv_iconst (v := 0) S.1 S.2.1 dX11_give_56 (by decide) ?_
              exact o_iret S hr hlo I f dX11_give_57
            · have f := (if_neg q18).symm.trans f
              refine lv_iconst (v := 1) S.1 S.2.1 dX11_give_52 (by decide) ?_
              refine lv_goto (tgt := 57) S.1 S.2.1 dX11_give_53 (by decide) ?_
              exact o_iret S hr hlo I f dX11_give_57
          · have f := (if_neg q9).symm.trans f
            refine lv_iconst (v := (-1)) S.1 S.2.1 dX11_give_31 (by decide) ?_
            exact o_iret S hr hlo I f dX11_give_32
theorem M11_give (l : Launch) (D : va_G) (cy : Nat → ClassId) (b : Nat) (A : Nat → Prop) (fl : Bool) {h : PH} {a0 : Nat} {x1 : Int32} {x2 : Int32} {x3 : Int32} {out : Int32 × PH} (f : F11_give h a0 x1 x2 x3 = some out) : Met l yX11_give vX11_give ({ frames := 1, cells := 0, slots := 0, locals := 21 } : Room) (va_Pc [.ref (b + a0), .int x1, .int x2, .int x3] (ph_B D cy b A fl h)) (va_Qi (fun (r : Int32) (u : PH) => (r, u) = out) (ph_B D cy b A fl) A) 0 0 A :=
  o_met (by decide) rfl (Nat.le_of_ble_eq_true rfl) rfl (fun p e s m below meth c S hr hlo hnm ls hl I => T11_give_0 S hr hlo ((gd f).2) I (lv_sub hl [0, 1, 2, 3] rfl))
def vX11_isWave : List Cond := .code yX11_isWave cX11_isWave 2 (some .boolean) :: TB
theorem lf11_isWave_18 : Fl vX11_isWave RX11 18 11 3 := ⟨RX11, TX11, 14, rfl, by decide, (fun w h9 => List.mem_cons_of_mem _ (wC_wsX110 w h9)), (List.mem_cons_of_mem _ wT_1_18)⟩
theorem lf11_isWave_150 : Fl vX11_isWave RX11 150 8 5 := ⟨RX8, TX8, 14, rfl, by decide, (fun w h9 => List.mem_cons_of_mem _ (wC_wsX80 w h9)), (List.mem_cons_of_mem _ wT_36_16)⟩
theorem lf11_isWave_299 : Fl vX11_isWave RX11 299 10 1 := ⟨RX10, TX10, 8, rfl, by decide, (fun w h9 => List.mem_cons_of_mem _ (wC_wsX100 w h9)), (List.mem_cons_of_mem _ wT_37_2)⟩
theorem cd11_isWave : Cd yX11_isWave 1 := ⟨by decide, by decide, by decide +kernel⟩
set_option maxHeartbeats 4000000 in
set_option maxRecDepth 100000 in
theorem T11_isWave_0 (S : CallFix p m c cX11_isWave 2 s args vX11_isWave RX11) (hr : meth.sig.returnType = (some .boolean)) (hlo : meth.locks = false) {out : Int32 × PH} {h : PH} {a0 : Nat} {x1 : Int32} (f : F11_isWave_0  h a0 x1 = some out) {H : Heap} {locs : List Loc} (I : ph_I D cy b A fl h s H locs) {ls : Array Slot} (hl : lv_has ls 2 [(0, .ref (b + a0)), (1, .int x1)]) : W p l e ({ frames := 0, cells := 0, slots := 0, locals := 0 } : Room) s m args below meth c H locs 0 0 (MQ below (va_Qi (fun (r : Int32) (u : PH) => (r, u) = out) (ph_B D cy b A fl) A) args s 0 0 A) (F0 m 0 ls []) := by
  unfold F11_isWave_0 at f
  refine lv_iload_n S.1 S.2.1 dX11_isWave_0 rfl (lv_at hl 1 rfl) ?_
  refine lv_if_lt (tgt := 22) S.1 S.2.1 dX11_isWave_1 (by decide) (fun q1 => ?_) (fun q1 => ?_)
  · have f := (if_pos q1).symm.trans f
    refine lv_iconst (v := 0) S.1 S.2.1 dX11_isWave_22 (by decide) ?_
    exact o_zret S hr hlo I f dX11_isWave_23
  · have f := (if_neg q1).symm.trans f
    refine lv_iload_n S.1 S.2.1 dX11_isWave_4 rfl (lv_at hl 1 rfl) ?_
    refine lv_aload_n S.1 S.2.1 dX11_isWave_5 rfl (lv_at hl 0 rfl) ?_
    obtain ⟨r2, e3, f⟩ := ob f
    refine o_gR S lf11_isWave_18 I e3 dX11_isWave_6 ?_
    obtain ⟨r4, e5, f⟩ := ob f
    refine o_gR S lf11_isWave_150 I e5 dX11_isWave_9 ?_
    obtain ⟨v6, e7, f⟩ := ob f
    refine o_gI S lf11_isWave_299 I e7 dX11_isWave_12 ?_
    refine lv_icmp_ge (tgt := 22) S.1 S.2.1 dX11_isWave_15 (by decide) (fun q8 => ?_) (fun q8 => ?_)
    · have f := (if_pos q8).symm.trans f
      refine lv_iconst (v := 0) S.1 S.2.1 dX11_isWave_22 (by decide) ?_
      exact o_zret S hr hlo I f dX11_isWave_23
    · have f := (if_neg q8).symm.trans f
      refine lv_iconst (v := 1) S.1 S.2.1 dX11_isWave_18 (by decide) ?_
      refine lv_goto (tgt := 23) S.1 S.2.1 dX11_isWave_19 (by decide) ?_
      exact o_zret S hr hlo I f dX11_isWave_23
theorem M11_isWave (l : Launch) (D : va_G) (cy : Nat → ClassId) (b : Nat) (A : Nat → Prop) (fl : Bool) {h : PH} {a0 : Nat} {x1 : Int32} {out : Int32 × PH} (f : F11_isWave h a0 x1 = some out) : Met l yX11_isWave vX11_isWave ({ frames := 0, cells := 0, slots := 0, locals := 0 } : Room) (va_Pc [.ref (b + a0), .int x1] (ph_B D cy b A fl h)) (va_Qi (fun (r : Int32) (u : PH) => (r, u) = out) (ph_B D cy b A fl) A) 0 0 A :=
  o_met (by decide) rfl (Nat.le_of_ble_eq_true rfl) rfl (fun p e s m below meth c S hr hlo hnm ls hl I => T11_isWave_0 S hr hlo ((gd f).2) I (lv_sub hl [0, 1] rfl))
def vX11_isToCome : List Cond := .code yX11_isToCome cX11_isToCome 2 (some .boolean) :: TB
theorem gX11_isToCome_X11_isWave : GoodIn vX11_isToCome (wsV RX11 147 RX11 yX11_isWave vX11_isWave) := gV_of wT_36_22 wT_36_23 wT_37_0 wT_1_2 wT_37_1
theorem lf11_isToCome_18 : Fl vX11_isToCome RX11 18 11 3 := ⟨RX11, TX11, 14, rfl, by decide, (fun w h9 => List.mem_cons_of_mem _ (wC_wsX110 w h9)), (List.mem_cons_of_mem _ wT_1_18)⟩
theorem lf11_isToCome_150 : Fl vX11_isToCome RX11 150 8 5 := ⟨RX8, TX8, 14, rfl, by decide, (fun w h9 => List.mem_cons_of_mem _ (wC_wsX80 w h9)), (List.mem_cons_of_mem _ wT_36_16)⟩
theorem lf11_isToCome_154 : Fl vX11_isToCome RX11 154 10 4 := ⟨RX10, TX10, 8, rfl, by decide, (fun w h9 => List.mem_cons_of_mem _ (wC_wsX100 w h9)), (List.mem_cons_of_mem _ wT_36_17)⟩
theorem lf11_isToCome_47 : Fl vX11_isToCome RX11 47 11 7 := ⟨RX11, TX11, 14, rfl, by decide, (fun w h9 => List.mem_cons_of_mem _ (wC_wsX110 w h9)), (List.mem_cons_of_mem _ wT_2_8)⟩
theorem lf11_isToCome_186 : Fl vX11_isToCome RX11 186 4 0 := ⟨RX4, TX4, 11, rfl, by decide, (fun w h9 => List.mem_cons_of_mem _ (wC_wsX40 w h9)), (List.mem_cons_of_mem _ wT_34_1)⟩
theorem cd11_isToCome : Cd yX11_isToCome 1 := ⟨by decide, by decide, by decide +kernel⟩
set_option maxHeartbeats 4000000 in
set_option maxRecDepth 100000 in
theorem T11_isToCome_0 (S : CallFix p m c cX11_isToCome 2 s args vX11_isToCome RX11) (hr : meth.sig.returnType = (some .boolean)) (hlo : meth.locks = false) {out : Int32 × PH} {h : PH} {a0 : Nat} {x1 : Int32} (f : F11_isToCome_0  h a0 x1 = some out) {H : Heap} {locs : List Loc} (I : ph_I D cy b A fl h s H locs) {ls : Array Slot} (hl : lv_has ls 2 [(0, .ref (b + a0)), (1, .int x1)]) : W p l e ({ frames := 1, cells := 0, slots := 0, locals := 21 } : Room) s m args below meth c H locs 0 0 (MQ below (va_Qi (fun (r : Int32) (u : PH) => (r, u) = out) (ph_B D cy b A fl) A) args s 0 0 A) (F0 m 0 ls []) := by
  unfold F11_isToCome_0 at f
  refine lv_aload_n S.1 S.2.1 dX11_isToCome_0 rfl (lv_at hl 0 rfl) ?_
  refine lv_iload_n S.1 S.2.1 dX11_isToCome_1 rfl (lv_at hl 1 rfl) ?_
  obtain ⟨o1, e2, f⟩ := ob f
  refine o_Vi S (As := [.int x1]) (rest := []) (ci := 11) (M11_isWave l D cy b A fl e2) gX11_isToCome_X11_isWave rfl rfl rfl cd11_isWave ⟨Nat.le_of_ble_eq_true rfl, Nat.le_of_ble_eq_true rfl⟩ I (gd e2).1 clX11 rfl rfl hl.1 rfl (Nat.le_of_ble_eq_true rfl) dX11_isToCome_2 ⟨Nat.le_of_ble_eq_true rfl, Nat.le_of_ble_eq_true rfl⟩ (fun H locs I => ?_)
  refine lv_if_eq (tgt := 34) S.1 S.2.1 dX11_isToCome_5 (by decide) (fun q3 => ?_) (fun q3 => ?_)
  · have f := (if_pos q3).symm.trans f
    refine lv_iconst (v := 0) S.1 S.2.1 dX11_isToCome_34 (by decide) ?_
    exact o_zret S hr hlo I f dX11_isToCome_35
  · have f := (if_neg q3).symm.trans f
    refine lv_aload_n S.1 S.2.1 dX11_isToCome_8 rfl (lv_at hl 0 rfl) ?_
    obtain ⟨r4, e5, f⟩ := ob f
    refine o_gR S lf11_isToCome_18 I e5 dX11_isToCome_9 ?_
    obtain ⟨r6, e7, f⟩ := ob f
    refine o_gR S lf11_isToCome_150 I e7 dX11_isToCome_12 ?_
    obtain ⟨r8, e9, f⟩ := ob f
    refine o_gR S lf11_isToCome_154 I e9 dX11_isToCome_15 ?_
    refine lv_iload_n S.1 S.2.1 dX11_isToCome_18 rfl (lv_at hl 1 rfl) ?_
    obtain ⟨v11, e10, f⟩ := ob f
    refine o_iald S I e10 dX11_isToCome_19 ?_
    refine lv_aload_n S.1 S.2.1 dX11_isToCome_20 rfl (lv_at hl 0 rfl) ?_
    obtain ⟨r12, e13, f⟩ := ob f
    refine o_gR S lf11_isToCome_47 I e13 dX11_isToCome_21 ?_
    obtain ⟨v14, e15, f⟩ := ob f
    refine o_gI S lf11_isToCome_186 I e15 dX11_isToCome_24 ?_
    refine lv_icmp_lt (tgt := 34) S.1 S.2.1 dX11_isToCome_27 (by decide) (fun q16 => ?_) (fun q16 => ?_)
    · have f := (if_pos q16).symm.trans f
      refine lv_iconst (v := 0) S.1 S.2.1 dX11_isToCome_34 (by decide) ?_
      exact o_zret S hr hlo I f dX11_isToCome_35
    · have f := (if_neg q16).symm.trans f
      refine lv_iconst (v := 1) S.1 S.2.1 dX11_isToCome_30 (by decide) ?_
      refine lv_goto (tgt := 35) S.1 S.2.1 dX11_isToCome_31 (by decide) ?_
      exact o_zret S hr hlo I f dX11_isToCome_35
theorem M11_isToCome (l : Launch) (D : va_G) (cy : Nat → ClassId) (b : Nat) (A : Nat → Prop) (fl : Bool) {h : PH} {a0 : Nat} {x1 : Int32} {out : Int32 × PH} (f : F11_isToCome h a0 x1 = some out) : Met l yX11_isToCome vX11_isToCome ({ frames := 1, cells := 0, slots := 0, locals := 21 } : Room) (va_Pc [.ref (b + a0), .int x1] (ph_B D cy b A fl h)) (va_Qi (fun (r : Int32) (u : PH) => (r, u) = out) (ph_B D cy b A fl) A) 0 0 A :=
  o_met (by decide) rfl (Nat.le_of_ble_eq_true rfl) rfl (fun p e s m below meth c S hr hlo hnm ls hl I => T11_isToCome_0 S hr hlo ((gd f).2) I (lv_sub hl [0, 1] rfl))
def vX11_go : List Cond := .code yX11_go cX11_go 5 (some .int) :: TB
theorem gX11_go_X11_isSurfer : GoodIn vX11_go (wsV RX11 115 RX11 yX11_isSurfer vX11_isSurfer) := gV_of wT_33_17 wT_33_18 wT_33_19 wT_1_2 wT_33_20
theorem gX11_go_X11_isToCome : GoodIn vX11_go (wsV RX11 223 RX11 yX11_isToCome vX11_isToCome) := gV_of wT_48_8 wT_48_9 wT_48_10 wT_1_2 wT_48_11
theorem lf11_go_37 : Fl vX11_go RX11 37 11 5 := ⟨RX11, TX11, 14, rfl, by decide, (fun w h9 => List.mem_cons_of_mem _ (wC_wsX110 w h9)), (List.mem_cons_of_mem _ wT_2_3)⟩
theorem lf11_go_47 : Fl vX11_go RX11 47 11 7 := ⟨RX11, TX11, 14, rfl, by decide, (fun w h9 => List.mem_cons_of_mem _ (wC_wsX110 w h9)), (List.mem_cons_of_mem _ wT_2_8)⟩
theorem lf11_go_122 : Fl vX11_go RX11 122 4 5 := ⟨RX4, TX4, 11, rfl, by decide, (fun w h9 => List.mem_cons_of_mem _ (wC_wsX40 w h9)), (List.mem_cons_of_mem _ wT_33_11)⟩
theorem gX11_go_X6_worthAt : GoodIn vX11_go (wsV RX11 275 RX6 yX6_worthAt vX6_worthAt) := gV_of wT_56_5 wT_49_18 wT_49_19 wT_2_2 wT_49_20
theorem gX11_go_X6_crossingOdds : GoodIn vX11_go (wsV RX11 278 RX6 yX6_crossingOdds vX6_crossingOdds) := gV_of wT_56_6 wT_56_7 wT_56_8 wT_2_2 wT_56_9
set_option maxHeartbeats 4000000 in
set_option maxRecDepth 100000 in
theorem T11_go_0 (S : CallFix p m c cX11_go 5 s args vX11_go RX11) (hr : meth.sig.returnType = (some .int)) (hlo : meth.locks = false) {out : Int32 × PH} {h : PH} {a0 : Nat} {x1 : Int32} {x2 : Int32} {x3 : Int32} (f : F11_go_0  h a0 x1 x2 x3 = some out) {H : Heap} {locs : List Loc} (I : ph_I D cy b A fl h s H locs) {ls : Array Slot} (hl : lv_has ls 5 [(0, .ref (b + a0)), (1, .int x1), (2, .int x2), (3, .int x3)]) : W p l e ({ frames := 6, cells := 0, slots := 0, locals := 156 } : Room) s m args below meth c H locs 0 0 (MQ below (va_Qi (fun (r : Int32) (u : PH) => (r, u) = out) (ph_B D cy b A fl) A) args s 0 0 A) (F0 m 0 ls []) := by
  unfold F11_go_0 at f
  refine lv_aload_n S.1 S.2.1 dX11_go_0 rfl (lv_at hl 0 rfl) ?_
  refine lv_iload_n S.1 S.2.1 dX11_go_1 rfl (lv_at hl 1 rfl) ?_
  obtain ⟨o1, e2, f⟩ := ob f
  refine o_Vi S (As := [.int x1]) (rest := []) (ci := 11) (M11_isSurfer l D cy b A fl e2) gX11_go_X11_isSurfer rfl rfl rfl cd11_isSurfer ⟨Nat.le_of_ble_eq_true rfl, Nat.le_of_ble_eq_true rfl⟩ I (gd e2).1 clX11 rfl rfl hl.1 rfl (Nat.le_of_ble_eq_true rfl) dX11_go_2 ⟨Nat.le_of_ble_eq_true rfl, Nat.le_of_ble_eq_true rfl⟩ (fun H locs I => ?_)
  refine lv_if_eq (tgt := 27) S.1 S.2.1 dX11_go_5 (by decide) (fun q3 => ?_) (fun q3 => ?_)
  · have f := (if_pos q3).symm.trans f
    refine lv_iconst (v := (-1)) S.1 S.2.1 dX11_go_27 (by decide) ?_
    exact o_iret S hr hlo I f dX11_go_28
  · have f := (if_neg q3).symm.trans f
    refine lv_aload_n S.1 S.2.1 dX11_go_8 rfl (lv_at hl 0 rfl) ?_
    refine lv_iload_n S.1 S.2.1 dX11_go_9 rfl (lv_at hl 2 rfl) ?_
    obtain ⟨o4, e5, f⟩ := ob f
    refine o_Vi S (As := [.int x2]) (rest := []) (ci := 11) (M11_isToCome l D cy b A fl e5) gX11_go_X11_isToCome rfl rfl rfl cd11_isToCome ⟨Nat.le_of_ble_eq_true rfl, Nat.le_of_ble_eq_true rfl⟩ I (gd e5).1 clX11 rfl rfl hl.1 rfl (Nat.le_of_ble_eq_true rfl) dX11_go_10 ⟨Nat.le_of_ble_eq_true rfl, Nat.le_of_ble_eq_true rfl⟩ (fun H locs I => ?_)
    refine lv_if_eq (tgt := 27) S.1 S.2.1 dX11_go_13 (by decide) (fun q6 => ?_) (fun q6 => ?_)
    · have f := (if_pos q6).symm.trans f
      refine lv_iconst (v := (-1)) S.1 S.2.1 dX11_go_27 (by decide) ?_
      exact o_iret S hr hlo I f dX11_go_28
    · have f := (if_neg q6).symm.trans f
      refine lv_iload_n S.1 S.2.1 dX11_go_16 rfl (lv_at hl 3 rfl) ?_
      refine lv_if_lt (tgt := 27) S.1 S.2.1 dX11_go_17 (by decide) (fun q7 => ?_) (fun q7 => ?_)
      · have f := (if_pos q7).symm.trans f
        refine lv_iconst (v := (-1)) S.1 S.2.1 dX11_go_27 (by decide) ?_
        exact o_iret S hr hlo I f dX11_go_28
      · have f := (if_neg q7).symm.trans f
        refine lv_iload_n S.1 S.2.1 dX11_go_20 rfl (lv_at hl 3 rfl) ?_
        refine lv_sipush (v := 999) S.1 S.2.1 dX11_go_21 (by decide) ?_
        refine lv_icmp_le (tgt := 29) S.1 S.2.1 dX11_go_24 (by decide) (fun q8 => ?_) (fun q8 => ?_)
        · have f := (if_pos q8).symm.trans f
          refine lv_aload_n S.1 S.2.1 dX11_go_29 rfl (lv_at hl 0 rfl) ?_
          obtain ⟨r9, e10, f⟩ := ob f
          refine o_gR S lf11_go_37 I e10 dX11_go_30 ?_
          refine lv_iload_n S.1 S.2.1 dX11_go_33 rfl (lv_at hl 1 rfl) ?_
          refine lv_iload_n S.1 S.2.1 dX11_go_34 rfl (lv_at hl 2 rfl) ?_
          refine lv_aload_n S.1 S.2.1 dX11_go_35 rfl (lv_at hl 0 rfl) ?_
          obtain ⟨r11, e12, f⟩ := ob f
          refine o_gR S lf11_go_47 I e12 dX11_go_36 ?_
          obtain ⟨r13, e14, f⟩ := ob f
          refine o_gR S lf11_go_122 I e14 dX11_go_39 ?_
          refine lv_iload_n S.1 S.2.1 dX11_go_42 rfl (lv_at hl 1 rfl) ?_
          obtain ⟨v16, e15, f⟩ := ob f
          refine o_iald S I e15 dX11_go_43 ?_
          obtain ⟨o17, e18, f⟩ := ob f
          refine o_Vi S (As := [.int x1, .int x2, .int v16]) (rest := []) (ci := 6) (M6_worthAt l D cy b A fl e18) gX11_go_X6_worthAt rfl rfl rfl cd6_worthAt ⟨Nat.le_of_ble_eq_true rfl, Nat.le_of_ble_eq_true rfl⟩ I (gd e18).1 clX6 rfl rfl hl.1 rfl (Nat.le_of_ble_eq_true rfl) dX11_go_44 ⟨Nat.le_of_ble_eq_true rfl, Nat.le_of_ble_eq_true rfl⟩ (fun H locs I => ?_)
          refine lv_istore (lv' := [(4, .int o17.1), (0, .ref (b + a0)), (1, .int x1), (2, .int x2), (3, .int x3)]) S.1 S.2.1 dX11_go_47 hl (by decide) rfl (fun ls hl => ?_)
          refine lv_iload S.1 S.2.1 dX11_go_49 (lv_at hl 0 rfl) ?_
          refine lv_iload_n S.1 S.2.1 dX11_go_51 rfl (lv_at hl 4 rfl) ?_
          refine lv_aload_n S.1 S.2.1 dX11_go_52 rfl (lv_at hl 1 rfl) ?_
          obtain ⟨r19, e20, f⟩ := ob f
          refine o_gR S lf11_go_37 I e20 dX11_go_53 ?_
          refine lv_aload_n S.1 S.2.1 dX11_go_56 rfl (lv_at hl 1 rfl) ?_
          obtain ⟨r21, e22, f⟩ := ob f
          refine o_gR S lf11_go_47 I e22 dX11_go_57 ?_
          refine lv_iload_n S.1 S.2.1 dX11_go_60 rfl (lv_at hl 2 rfl) ?_
          refine lv_iload_n S.1 S.2.1 dX11_go_61 rfl (lv_at hl 3 rfl) ?_
          obtain ⟨o23, e24, f⟩ := ob f
          refine o_Vi S (As := [.ref (b + r21), .int x1, .int x2]) (rest := [.int x3, .int o17.1]) (ci := 6) (M6_crossingOdds l D cy b A fl e24) gX11_go_X6_crossingOdds rfl rfl rfl cd6_crossingOdds ⟨Nat.le_of_ble_eq_true rfl, Nat.le_of_ble_eq_true rfl⟩ I (gd e24).1 clX6 rfl rfl hl.1 rfl (Nat.le_of_ble_eq_true rfl) dX11_go_62 ⟨Nat.le_of_ble_eq_true rfl, Nat.le_of_ble_eq_true rfl⟩ (fun H locs I => ?_)
          refine lv_imul S.1 S.2.1 dX11_go_65 ?_
          refine lv_icmp_le (tgt := 73) S.1 S.2.1 dX11_go_66 (by decide) (fun q25 => ?_) (fun q25 => ?_)
          · have f := (if_pos q25).symm.trans f
            refine lv_iconst (v := 0) S.1 S.2.1 dX11_go_73 (by decide) ?_
            exact o_iret S hr hlo I f dX11_go_74
          · have f := (if_neg q25).symm.trans f
            refine lv_iconst (v := 1) S.1 S.2.1 dX11_go_69 (by decide) ?_
            refine lv_goto (tgt := 74) S.1 S.2.1 dX11_go_70 (by decide) ?_
            exact o_iret S hr hlo I f dX11_go_74
        · have f := (if_neg q8).symm.trans f
          refine lv_iconst (v := (-1)) S.1 S.2.1 dX11_go_27 (by decide) ?_
          exact o_iret S hr hlo I f dX11_go_28
theorem M11_go (l : Launch) (D : va_G) (cy : Nat → ClassId) (b : Nat) (A : Nat → Prop) (fl : Bool) {h : PH} {a0 : Nat} {x1 : Int32} {x2 : Int32} {x3 : Int32} {out : Int32 × PH} (f : F11_go h a0 x1 x2 x3 = some out) : Met l yX11_go vX11_go ({ frames := 6, cells := 0, slots := 0, locals := 156 } : Room) (va_Pc [.ref (b + a0), .int x1, .int x2, .int x3] (ph_B D cy b A fl h)) (va_Qi (fun (r : Int32) (u : PH) => (r, u) = out) (ph_B D cy b A fl) A) 0 0 A :=
  o_met (by decide) rfl (Nat.le_of_ble_eq_true rfl) rfl (fun p e s m below meth c S hr hlo hnm ls hl I => T11_go_0 S hr hlo ((gd f).2) I (lv_sub hl [0, 1, 2, 3] rfl))
def vX11_isCell : List Cond := .code yX11_isCell cX11_isCell 2 (some .boolean) :: TB
theorem lf11_isCell_18 : Fl vX11_isCell RX11 18 11 3 := ⟨RX11, TX11, 14, rfl, by decide, (fun w h9 => List.mem_cons_of_mem _ (wC_wsX110 w h9)), (List.mem_cons_of_mem _ wT_1_18)⟩
theorem gX11_isCell_X8_cells : GoodIn vX11_isCell (wsV RX11 240 RX8 yX8_cells vX8_cells) := gV_of wT_38_5 wT_38_6 wT_38_7 wT_1_17 wT_38_8
theorem cd11_isCell : Cd yX11_isCell 1 := ⟨by decide, by decide, by decide +kernel⟩
set_option maxHeartbeats 4000000 in
set_option maxRecDepth 100000 in
theorem T11_isCell_0 (S : CallFix p m c cX11_isCell 2 s args vX11_isCell RX11) (hr : meth.sig.returnType = (some .boolean)) (hlo : meth.locks = false) {out : Int32 × PH} {h : PH} {a0 : Nat} {x1 : Int32} (f : F11_isCell_0  h a0 x1 = some out) {H : Heap} {locs : List Loc} (I : ph_I D cy b A fl h s H locs) {ls : Array Slot} (hl : lv_has ls 2 [(0, .ref (b + a0)), (1, .int x1)]) : W p l e ({ frames := 1, cells := 0, slots := 0, locals := 20 } : Room) s m args below meth c H locs 0 0 (MQ below (va_Qi (fun (r : Int32) (u : PH) => (r, u) = out) (ph_B D cy b A fl) A) args s 0 0 A) (F0 m 0 ls []) := by
  unfold F11_isCell_0 at f
  refine lv_iload_n S.1 S.2.1 dX11_isCell_0 rfl (lv_at hl 1 rfl) ?_
  refine lv_if_lt (tgt := 19) S.1 S.2.1 dX11_isCell_1 (by decide) (fun q1 => ?_) (fun q1 => ?_)
  · have f := (if_pos q1).symm.trans f
    refine lv_iconst (v := 0) S.1 S.2.1 dX11_isCell_19 (by decide) ?_
    exact o_zret S hr hlo I f dX11_isCell_20
  · have f := (if_neg q1).symm.trans f
    refine lv_iload_n S.1 S.2.1 dX11_isCell_4 rfl (lv_at hl 1 rfl) ?_
    refine lv_aload_n S.1 S.2.1 dX11_isCell_5 rfl (lv_at hl 0 rfl) ?_
    obtain ⟨r2, e3, f⟩ := ob f
    refine o_gR S lf11_isCell_18 I e3 dX11_isCell_6 ?_
    obtain ⟨o4, e5, f⟩ := ob f
    refine o_Vi S (As := []) (rest := [.int x1]) (ci := 8) (M8_cells l D cy b A fl e5) gX11_isCell_X8_cells rfl rfl rfl cd8_cells ⟨Nat.le_of_ble_eq_true rfl, Nat.le_of_ble_eq_true rfl⟩ I (gd e5).1 clX8 rfl rfl hl.1 rfl (Nat.le_of_ble_eq_true rfl) dX11_isCell_9 ⟨Nat.le_of_ble_eq_true rfl, Nat.le_of_ble_eq_true rfl⟩ (fun H locs I => ?_)
    refine lv_icmp_ge (tgt := 19) S.1 S.2.1 dX11_isCell_12 (by decide) (fun q6 => ?_) (fun q6 => ?_)
    · have f := (if_pos q6).symm.trans f
      refine lv_iconst (v := 0) S.1 S.2.1 dX11_isCell_19 (by decide) ?_
      exact o_zret S hr hlo I f dX11_isCell_20
    · have f := (if_neg q6).symm.trans f
      refine lv_iconst (v := 1) S.1 S.2.1 dX11_isCell_15 (by decide) ?_
      refine lv_goto (tgt := 20) S.1 S.2.1 dX11_isCell_16 (by decide) ?_
      exact o_zret S hr hlo I f dX11_isCell_20
theorem M11_isCell (l : Launch) (D : va_G) (cy : Nat → ClassId) (b : Nat) (A : Nat → Prop) (fl : Bool) {h : PH} {a0 : Nat} {x1 : Int32} {out : Int32 × PH} (f : F11_isCell h a0 x1 = some out) : Met l yX11_isCell vX11_isCell ({ frames := 1, cells := 0, slots := 0, locals := 20 } : Room) (va_Pc [.ref (b + a0), .int x1] (ph_B D cy b A fl h)) (va_Qi (fun (r : Int32) (u : PH) => (r, u) = out) (ph_B D cy b A fl) A) 0 0 A :=
  o_met (by decide) rfl (Nat.le_of_ble_eq_true rfl) rfl (fun p e s m below meth c S hr hlo hnm ls hl I => T11_isCell_0 S hr hlo ((gd f).2) I (lv_sub hl [0, 1] rfl))
def vX11_isRule : List Cond := .code yX11_isRule cX11_isRule 2 (some .boolean) :: TB
theorem cd11_isRule : Cd yX11_isRule 1 := ⟨by decide, by decide, by decide +kernel⟩
set_option maxHeartbeats 4000000 in
set_option maxRecDepth 100000 in
theorem T11_isRule_0 (S : CallFix p m c cX11_isRule 2 s args vX11_isRule RX11) (hr : meth.sig.returnType = (some .boolean)) (hlo : meth.locks = false) {out : Int32 × PH} {h : PH} {x1 : Int32} (f : F11_isRule_0  h x1 = some out) {H : Heap} {locs : List Loc} (I : ph_I D cy b A fl h s H locs) {ls : Array Slot} (hl : lv_has ls 2 [(1, .int x1)]) : W p l e ({ frames := 0, cells := 0, slots := 0, locals := 0 } : Room) s m args below meth c H locs 0 0 (MQ below (va_Qi (fun (r : Int32) (u : PH) => (r, u) = out) (ph_B D cy b A fl) A) args s 0 0 A) (F0 m 0 ls []) := by
  unfold F11_isRule_0 at f
  refine lv_iload_n S.1 S.2.1 dX11_isRule_0 rfl (lv_at hl 0 rfl) ?_
  refine lv_if_lt (tgt := 13) S.1 S.2.1 dX11_isRule_1 (by decide) (fun q1 => ?_) (fun q1 => ?_)
  · have f := (if_pos q1).symm.trans f
    refine lv_iconst (v := 0) S.1 S.2.1 dX11_isRule_13 (by decide) ?_
    exact o_zret S hr hlo I f dX11_isRule_14
  · have f := (if_neg q1).symm.trans f
    refine lv_iload_n S.1 S.2.1 dX11_isRule_4 rfl (lv_at hl 0 rfl) ?_
    refine lv_iconst (v := 4) S.1 S.2.1 dX11_isRule_5 (by decide) ?_
    refine lv_icmp_ge (tgt := 13) S.1 S.2.1 dX11_isRule_6 (by decide) (fun q2 => ?_) (fun q2 => ?_)
    · have f := (if_pos q2).symm.trans f
      refine lv_iconst (v := 0) S.1 S.2.1 dX11_isRule_13 (by decide) ?_
      exact o_zret S hr hlo I f dX11_isRule_14
    · have f := (if_neg q2).symm.trans f
      refine lv_iconst (v := 1) S.1 S.2.1 dX11_isRule_9 (by decide) ?_
      refine lv_goto (tgt := 14) S.1 S.2.1 dX11_isRule_10 (by decide) ?_
      exact o_zret S hr hlo I f dX11_isRule_14
theorem M11_isRule (l : Launch) (D : va_G) (cy : Nat → ClassId) (b : Nat) (A : Nat → Prop) (fl : Bool) {h : PH} {a0 : Nat} {x1 : Int32} {out : Int32 × PH} (f : F11_isRule h a0 x1 = some out) : Met l yX11_isRule vX11_isRule ({ frames := 0, cells := 0, slots := 0, locals := 0 } : Room) (va_Pc [.ref (b + a0), .int x1] (ph_B D cy b A fl h)) (va_Qi (fun (r : Int32) (u : PH) => (r, u) = out) (ph_B D cy b A fl) A) 0 0 A :=
  o_met (by decide) rfl (Nat.le_of_ble_eq_true rfl) rfl (fun p e s m below meth c S hr hlo hnm ls hl I => T11_isRule_0 S hr hlo ((gd f).2) I (lv_sub hl [1] rfl))
def vX11_keep : List Cond := .code yX11_keep cX11_keep 1 (some .int) :: TB
theorem lf11_keep_54 : Fl vX11_keep RX11 54 11 9 := ⟨RX11, TX11, 14, rfl, by decide, (fun w h9 => List.mem_cons_of_mem _ (wC_wsX110 w h9)), (List.mem_cons_of_mem _ wT_2_10)⟩
theorem lf11_keep_47 : Fl vX11_keep RX11 47 11 7 := ⟨RX11, TX11, 14, rfl, by decide, (fun w h9 => List.mem_cons_of_mem _ (wC_wsX110 w h9)), (List.mem_cons_of_mem _ wT_2_8)⟩
theorem gX11_keep_X4_takeAll : GoodIn vX11_keep (wsV RX11 373 RX4 yX4_takeAll vX4_takeAll) := gV_of wT_66_20 wT_57_15 wT_57_16 wT_2_7 wT_57_17
theorem lp11_keep_377 : Pl vX11_keep RX11 377 11 10 .boolean := ⟨RX11, TX11, 14, tyX11, rfl, by decide, (fun w h9 => List.mem_cons_of_mem _ (wC_wsX110 w h9)), (List.mem_cons_of_mem _ wT_23_21), tyX11_ok, nmX11, rfl, rfl⟩
theorem lf11_keep_186 : Fl vX11_keep RX11 186 4 0 := ⟨RX4, TX4, 11, rfl, by decide, (fun w h9 => List.mem_cons_of_mem _ (wC_wsX40 w h9)), (List.mem_cons_of_mem _ wT_34_1)⟩
set_option maxHeartbeats 4000000 in
set_option maxRecDepth 100000 in
theorem T11_keep_0 (S : CallFix p m c cX11_keep 1 s args vX11_keep RX11) (hr : meth.sig.returnType = (some .int)) (hlo : meth.locks = false) {out : Int32 × PH} {h : PH} {a0 : Nat} (f : F11_keep_0  h a0 = some out) {H : Heap} {locs : List Loc} (I : ph_I D cy b A false h s H locs) {ls : Array Slot} (hl : lv_has ls 1 [(0, .ref (b + a0))]) : W p l e ({ frames := 2, cells := 0, slots := 0, locals := 61 } : Room) s m args below meth c H locs 0 0 (MQ below (va_Qi (fun (r : Int32) (u : PH) => (r, u) = out) (ph_B D cy b A false) A) args s 0 0 A) (F0 m 0 ls []) := by
  unfold F11_keep_0 at f
  refine lv_aload_n S.1 S.2.1 dX11_keep_0 rfl (lv_at hl 0 rfl) ?_
  obtain ⟨r1, e2, f⟩ := ob f
  refine o_gR S lf11_keep_54 I e2 dX11_keep_1 ?_
  refine lv_aload_n S.1 S.2.1 dX11_keep_4 rfl (lv_at hl 0 rfl) ?_
  obtain ⟨r3, e4, f⟩ := ob f
  refine o_gR S lf11_keep_47 I e4 dX11_keep_5 ?_
  obtain ⟨o5, e6, f⟩ := ob f
  refine o_Vv S (As := [.ref (b + r3)]) (rest := []) (ci := 4) (M4_takeAll l D cy b A e6) gX11_keep_X4_takeAll rfl rfl rfl cd4_takeAll ⟨Nat.le_of_ble_eq_true rfl, Nat.le_of_ble_eq_true rfl⟩ I (gd e6).1 clX4 rfl rfl hl.1 rfl (Nat.le_of_ble_eq_true rfl) dX11_keep_8 ⟨Nat.le_of_ble_eq_true rfl, Nat.le_of_ble_eq_true rfl⟩ (fun H locs I => ?_)
  refine lv_aload_n S.1 S.2.1 dX11_keep_11 rfl (lv_at hl 0 rfl) ?_
  refine lv_iconst (v := 1) S.1 S.2.1 dX11_keep_12 (by decide) ?_
  obtain ⟨h7, e8, f⟩ := ob f
  refine o_pZ S lp11_keep_377 I e8 dX11_keep_13 (fun H locs I => ?_)
  refine lv_aload_n S.1 S.2.1 dX11_keep_16 rfl (lv_at hl 0 rfl) ?_
  obtain ⟨r9, e10, f⟩ := ob f
  refine o_gR S lf11_keep_47 I e10 dX11_keep_17 ?_
  obtain ⟨v11, e12, f⟩ := ob f
  refine o_gI S lf11_keep_186 I e12 dX11_keep_20 ?_
  exact o_iret S hr hlo I f dX11_keep_23
theorem M11_keep (l : Launch) (D : va_G) (cy : Nat → ClassId) (b : Nat) (A : Nat → Prop) {h : PH} {a0 : Nat} {out : Int32 × PH} (f : F11_keep h a0 = some out) : Met l yX11_keep vX11_keep ({ frames := 2, cells := 0, slots := 0, locals := 61 } : Room) (va_Pc [.ref (b + a0)] (ph_B D cy b A false h)) (va_Qi (fun (r : Int32) (u : PH) => (r, u) = out) (ph_B D cy b A false) A) 0 0 A :=
  o_met (by decide) rfl (Nat.le_of_ble_eq_true rfl) rfl (fun p e s m below meth c S hr hlo hnm ls hl I => T11_keep_0 S hr hlo ((gd f).2) I (lv_sub hl [0] rfl))
def vX11_known : List Cond := .code yX11_known cX11_known 2 (some .boolean) :: TB
theorem lf11_known_60 : Fl vX11_known RX11 60 11 11 := ⟨RX11, TX11, 14, rfl, by decide, (fun w h9 => List.mem_cons_of_mem _ (wC_wsX110 w h9)), (List.mem_cons_of_mem _ wT_2_14)⟩
theorem lf11_known_323 : Fl vX11_known RX11 323 3 0 := ⟨RX3, TX3, 7, rfl, by decide, (fun w h9 => List.mem_cons_of_mem _ (wC_wsX30 w h9)), (List.mem_cons_of_mem _ wT_23_18)⟩
theorem lp11_known_327 : Pl vX11_known RX11 327 3 1 .int := ⟨RX3, TX3, 7, tyX3, rfl, by decide, (fun w h9 => List.mem_cons_of_mem _ (wC_wsX30 w h9)), (List.mem_cons_of_mem _ wT_23_19), tyX3_ok, nmX3, rfl, rfl⟩
set_option maxHeartbeats 4000000 in
set_option maxRecDepth 100000 in
theorem T11_known_0 (S : CallFix p m c cX11_known 2 s args vX11_known RX11) (hr : meth.sig.returnType = (some .boolean)) (hlo : meth.locks = false) {out : Int32 × PH} {h : PH} {a0 : Nat} {x1 : Int32} (f : F11_known_0  h a0 x1 = some out) {H : Heap} {locs : List Loc} (I : ph_I D cy b A fl h s H locs) {ls : Array Slot} (hl : lv_has ls 2 [(0, .ref (b + a0)), (1, .int x1)]) : W p l e ({ frames := 0, cells := 0, slots := 0, locals := 0 } : Room) s m args below meth c H locs 0 0 (MQ below (va_Qi (fun (r : Int32) (u : PH) => (r, u) = out) (ph_B D cy b A fl) A) args s 0 0 A) (F0 m 0 ls []) := by
  unfold F11_known_0 at f
  refine lv_iload_n S.1 S.2.1 dX11_known_0 rfl (lv_at hl 1 rfl) ?_
  refine lv_iconst (v := (-1)) S.1 S.2.1 dX11_known_1 (by decide) ?_
  refine lv_icmp_lt (tgt := 16) S.1 S.2.1 dX11_known_2 (by decide) (fun q1 => ?_) (fun q1 => ?_)
  · have f := (if_pos q1).symm.trans f
    refine lv_iconst (v := 0) S.1 S.2.1 dX11_known_16 (by decide) ?_
    exact o_zret S hr hlo I f dX11_known_17
  · have f := (if_neg q1).symm.trans f
    refine lv_iload_n S.1 S.2.1 dX11_known_5 rfl (lv_at hl 1 rfl) ?_
    refine lv_aload_n S.1 S.2.1 dX11_known_6 rfl (lv_at hl 0 rfl) ?_
    obtain ⟨r2, e3, f⟩ := ob f
    refine o_gR S lf11_known_60 I e3 dX11_known_7 ?_
    obtain ⟨v4, e5, f⟩ := ob f
    refine o_gI S lf11_known_323 I e5 dX11_known_10 ?_
    refine lv_icmp_le (tgt := 18) S.1 S.2.1 dX11_known_13 (by decide) (fun q6 => ?_) (fun q6 => ?_)
    · have f := (if_pos q6).symm.trans f
      refine lv_aload_n S.1 S.2.1 dX11_known_18 rfl (lv_at hl 0 rfl) ?_
      obtain ⟨r7, e8, f⟩ := ob f
      refine o_gR S lf11_known_60 I e8 dX11_known_19 ?_
      refine lv_iload_n S.1 S.2.1 dX11_known_22 rfl (lv_at hl 1 rfl) ?_
      obtain ⟨h9, e10, f⟩ := ob f
      refine o_pI S lp11_known_327 I e10 dX11_known_23 (fun H locs I => ?_)
      refine lv_iconst (v := 1) S.1 S.2.1 dX11_known_26 (by decide) ?_
      exact o_zret S hr hlo I f dX11_known_27
    · have f := (if_neg q6).symm.trans f
      refine lv_iconst (v := 0) S.1 S.2.1 dX11_known_16 (by decide) ?_
      exact o_zret S hr hlo I f dX11_known_17
theorem M11_known (l : Launch) (D : va_G) (cy : Nat → ClassId) (b : Nat) (A : Nat → Prop) (fl : Bool) {h : PH} {a0 : Nat} {x1 : Int32} {out : Int32 × PH} (f : F11_known h a0 x1 = some out) : Met l yX11_known vX11_known ({ frames := 0, cells := 0, slots := 0, locals := 0 } : Room) (va_Pc [.ref (b + a0), .int x1] (ph_B D cy b A fl h)) (va_Qi (fun (r : Int32) (u : PH) => (r, u) = out) (ph_B D cy b A fl) A) 0 0 A :=
  o_met (by decide) rfl (Nat.le_of_ble_eq_true rfl) rfl (fun p e s m below meth c S hr hlo hnm ls hl I => T11_known_0 S hr hlo ((gd f).2) I (lv_sub hl [0, 1] rfl))
def vX11_law : List Cond := .code yX11_law cX11_law 4 (some .long) :: TB
theorem gX11_law_X11_isSurfer : GoodIn vX11_law (wsV RX11 115 RX11 yX11_isSurfer vX11_isSurfer) := gV_of wT_33_17 wT_33_18 wT_33_19 wT_1_2 wT_33_20
theorem gX11_law_X11_isWave : GoodIn vX11_law (wsV RX11 147 RX11 yX11_isWave vX11_isWave) := gV_of wT_36_22 wT_36_23 wT_37_0 wT_1_2 wT_37_1
theorem lf11_law_37 : Fl vX11_law RX11 37 11 5 := ⟨RX11, TX11, 14, rfl, by decide, (fun w h9 => List.mem_cons_of_mem _ (wC_wsX110 w h9)), (List.mem_cons_of_mem _ wT_2_3)⟩
theorem gX11_law_X6_awayValue : GoodIn vX11_law (wsV RX11 198 RX6 yX6_awayValue vX6_awayValue) := gV_of wT_40_23 wT_41_0 wT_41_1 wT_2_2 wT_41_2
theorem lf11_law_47 : Fl vX11_law RX11 47 11 7 := ⟨RX11, TX11, 14, rfl, by decide, (fun w h9 => List.mem_cons_of_mem _ (wC_wsX110 w h9)), (List.mem_cons_of_mem _ wT_2_8)⟩
theorem lf11_law_122 : Fl vX11_law RX11 122 4 5 := ⟨RX4, TX4, 11, rfl, by decide, (fun w h9 => List.mem_cons_of_mem _ (wC_wsX40 w h9)), (List.mem_cons_of_mem _ wT_33_11)⟩
theorem gX11_law_X6_catchValue : GoodIn vX11_law (wsV RX11 194 RX6 yX6_catchValue vX6_catchValue) := gV_of wT_40_19 wT_40_20 wT_40_21 wT_2_2 wT_40_22
theorem lf11_law_186 : Fl vX11_law RX11 186 4 0 := ⟨RX4, TX4, 11, rfl, by decide, (fun w h9 => List.mem_cons_of_mem _ (wC_wsX40 w h9)), (List.mem_cons_of_mem _ wT_34_1)⟩
theorem gX11_law_X6_driftValue : GoodIn vX11_law (wsV RX11 188 RX6 yX6_driftValue vX6_driftValue) := gV_of wT_40_18 wT_25_4 wT_25_5 wT_2_2 wT_25_6
set_option maxHeartbeats 4000000 in
set_option maxRecDepth 100000 in
theorem T11_law_0 (S : CallFix p m c cX11_law 4 s args vX11_law RX11) (hr : meth.sig.returnType = (some .long)) (hlo : meth.locks = false) {out : Int64 × PH} {h : PH} {a0 : Nat} {x1 : Int32} {x2 : Int32} {x3 : Int32} (f : F11_law_0  h a0 x1 x2 x3 = some out) {H : Heap} {locs : List Loc} (I : ph_I D cy b A fl h s H locs) {ls : Array Slot} (hl : lv_has ls 4 [(0, .ref (b + a0)), (1, .int x1), (2, .int x2), (3, .int x3)]) : W p l e ({ frames := 4, cells := 0, slots := 0, locals := 101 } : Room) s m args below meth c H locs 0 0 (MQ below (va_Ql (fun (r : Int64) (u : PH) => (r, u) = out) (ph_B D cy b A fl) A) args s 0 0 A) (F0 m 0 ls []) := by
  unfold F11_law_0 at f
  refine lv_iload_n S.1 S.2.1 dX11_law_0 rfl (lv_at hl 1 rfl) ?_
  refine lv_iconst (v := 2) S.1 S.2.1 dX11_law_1 (by decide) ?_
  refine lv_icmp_ne (tgt := 20) S.1 S.2.1 dX11_law_2 (by decide) (fun q1 => ?_) (fun q1 => ?_)
  · have f := (if_neg q1).symm.trans f
    refine lv_aload_n S.1 S.2.1 dX11_law_20 rfl (lv_at hl 0 rfl) ?_
    refine lv_iload_n S.1 S.2.1 dX11_law_21 rfl (lv_at hl 2 rfl) ?_
    obtain ⟨o2, e3, f⟩ := ob f
    refine o_Vi S (As := [.int x2]) (rest := []) (ci := 11) (M11_isSurfer l D cy b A fl e3) gX11_law_X11_isSurfer rfl rfl rfl cd11_isSurfer ⟨Nat.le_of_ble_eq_true rfl, Nat.le_of_ble_eq_true rfl⟩ I (gd e3).1 clX11 rfl rfl hl.1 rfl (Nat.le_of_ble_eq_true rfl) dX11_law_22 ⟨Nat.le_of_ble_eq_true rfl, Nat.le_of_ble_eq_true rfl⟩ (fun H locs I => ?_)
    refine lv_if_eq (tgt := 36) S.1 S.2.1 dX11_law_25 (by decide) (fun q4 => ?_) (fun q4 => ?_)
    · have f := (if_pos q4).symm.trans f
      refine lv_ldc2 (v := (-9223372036854775808)) S.1 S.2.1 S.2.2.2.1 (S.2.2.2.2 _ (List.mem_cons_of_mem _ wT_40_17)) dX11_law_36 ?_
      exact o_lret S hr hlo I f dX11_law_39
    · have f := (if_neg q4).symm.trans f
      refine lv_aload_n S.1 S.2.1 dX11_law_28 rfl (lv_at hl 0 rfl) ?_
      refine lv_iload_n S.1 S.2.1 dX11_law_29 rfl (lv_at hl 3 rfl) ?_
      obtain ⟨o5, e6, f⟩ := ob f
      refine o_Vi S (As := [.int x3]) (rest := []) (ci := 11) (M11_isWave l D cy b A fl e6) gX11_law_X11_isWave rfl rfl rfl cd11_isWave ⟨Nat.le_of_ble_eq_true rfl, Nat.le_of_ble_eq_true rfl⟩ I (gd e6).1 clX11 rfl rfl hl.1 rfl (Nat.le_of_ble_eq_true rfl) dX11_law_30 ⟨Nat.le_of_ble_eq_true rfl, Nat.le_of_ble_eq_true rfl⟩ (fun H locs I => ?_)
      refine lv_if_ne (tgt := 40) S.1 S.2.1 dX11_law_33 (by decide) (fun q7 => ?_) (fun q7 => ?_)
      · have f := (if_neg q7).symm.trans f
        refine lv_iload_n S.1 S.2.1 dX11_law_40 rfl (lv_at hl 1 rfl) ?_
        refine lv_if_ne (tgt := 63) S.1 S.2.1 dX11_law_41 (by decide) (fun q8 => ?_) (fun q8 => ?_)
        · have f := (if_neg q8).symm.trans f
          refine lv_iload_n S.1 S.2.1 dX11_law_63 rfl (lv_at hl 1 rfl) ?_
          refine lv_iconst (v := 1) S.1 S.2.1 dX11_law_64 (by decide) ?_
          refine lv_icmp_ne (tgt := 80) S.1 S.2.1 dX11_law_65 (by decide) (fun q9 => ?_) (fun q9 => ?_)
          · have f := (if_neg q9).symm.trans f
            refine lv_ldc2 (v := (-9223372036854775808)) S.1 S.2.1 S.2.2.2.1 (S.2.2.2.2 _ (List.mem_cons_of_mem _ wT_40_17)) dX11_law_80 ?_
            exact o_lret S hr hlo I f dX11_law_83
          · have f := (if_pos q9).symm.trans f
            refine lv_aload_n S.1 S.2.1 dX11_law_68 rfl (lv_at hl 0 rfl) ?_
            obtain ⟨r10, e11, f⟩ := ob f
            refine o_gR S lf11_law_37 I e11 dX11_law_69 ?_
            refine lv_iload_n S.1 S.2.1 dX11_law_72 rfl (lv_at hl 2 rfl) ?_
            refine lv_iload_n S.1 S.2.1 dX11_law_73 rfl (lv_at hl 3 rfl) ?_
            obtain ⟨o12, e13, f⟩ := ob f
            refine o_Vl S (As := [.int x2, .int x3]) (rest := []) (ci := 6) (M6_awayValue l D cy b A fl e13) gX11_law_X6_awayValue rfl rfl rfl cd6_awayValue ⟨Nat.le_of_ble_eq_true rfl, Nat.le_of_ble_eq_true rfl⟩ I (gd e13).1 clX6 rfl rfl hl.1 rfl (Nat.le_of_ble_eq_true rfl) dX11_law_74 ⟨Nat.le_of_ble_eq_true rfl, Nat.le_of_ble_eq_true rfl⟩ (fun H locs I => ?_)
            refine lv_goto (tgt := 83) S.1 S.2.1 dX11_law_77 (by decide) ?_
            exact o_lret S hr hlo I f dX11_law_83
        · have f := (if_pos q8).symm.trans f
          refine lv_aload_n S.1 S.2.1 dX11_law_44 rfl (lv_at hl 0 rfl) ?_
          obtain ⟨r14, e15, f⟩ := ob f
          refine o_gR S lf11_law_37 I e15 dX11_law_45 ?_
          refine lv_iload_n S.1 S.2.1 dX11_law_48 rfl (lv_at hl 2 rfl) ?_
          refine lv_iload_n S.1 S.2.1 dX11_law_49 rfl (lv_at hl 3 rfl) ?_
          refine lv_aload_n S.1 S.2.1 dX11_law_50 rfl (lv_at hl 0 rfl) ?_
          obtain ⟨r16, e17, f⟩ := ob f
          refine o_gR S lf11_law_47 I e17 dX11_law_51 ?_
          obtain ⟨r18, e19, f⟩ := ob f
          refine o_gR S lf11_law_122 I e19 dX11_law_54 ?_
          refine lv_iload_n S.1 S.2.1 dX11_law_57 rfl (lv_at hl 2 rfl) ?_
          obtain ⟨v21, e20, f⟩ := ob f
          refine o_iald S I e20 dX11_law_58 ?_
          obtain ⟨o22, e23, f⟩ := ob f
          refine o_Vl S (As := [.int x2, .int x3, .int v21]) (rest := []) (ci := 6) (M6_catchValue l D cy b A fl e23) gX11_law_X6_catchValue rfl rfl rfl cd6_catchValue ⟨Nat.le_of_ble_eq_true rfl, Nat.le_of_ble_eq_true rfl⟩ I (gd e23).1 clX6 rfl rfl hl.1 rfl (Nat.le_of_ble_eq_true rfl) dX11_law_59 ⟨Nat.le_of_ble_eq_true rfl, Nat.le_of_ble_eq_true rfl⟩ (fun H locs I => ?_)
          exact o_lret S hr hlo I f dX11_law_62
      · have f := (if_pos q7).symm.trans f
        refine lv_ldc2 (v := (-9223372036854775808)) S.1 S.2.1 S.2.2.2.1 (S.2.2.2.2 _ (List.mem_cons_of_mem _ wT_40_17)) dX11_law_36 ?_
        exact o_lret S hr hlo I f dX11_law_39
  · have f := (if_pos q1).symm.trans f
    refine lv_aload_n S.1 S.2.1 dX11_law_5 rfl (lv_at hl 0 rfl) ?_
    obtain ⟨r24, e25, f⟩ := ob f
    refine o_gR S lf11_law_37 I e25 dX11_law_6 ?_
    refine lv_aload_n S.1 S.2.1 dX11_law_9 rfl (lv_at hl 0 rfl) ?_
    obtain ⟨r26, e27, f⟩ := ob f
    refine o_gR S lf11_law_47 I e27 dX11_law_10 ?_
    obtain ⟨v28, e29, f⟩ := ob f
    refine o_gI S lf11_law_186 I e29 dX11_law_13 ?_
    obtain ⟨o30, e31, f⟩ := ob f
    refine o_Vl S (As := [.int v28]) (rest := []) (ci := 6) (M6_driftValue l D cy b A fl e31) gX11_law_X6_driftValue rfl rfl rfl cd6_driftValue ⟨Nat.le_of_ble_eq_true rfl, Nat.le_of_ble_eq_true rfl⟩ I (gd e31).1 clX6 rfl rfl hl.1 rfl (Nat.le_of_ble_eq_true rfl) dX11_law_16 ⟨Nat.le_of_ble_eq_true rfl, Nat.le_of_ble_eq_true rfl⟩ (fun H locs I => ?_)
    exact o_lret S hr hlo I f dX11_law_19
theorem M11_law (l : Launch) (D : va_G) (cy : Nat → ClassId) (b : Nat) (A : Nat → Prop) (fl : Bool) {h : PH} {a0 : Nat} {x1 : Int32} {x2 : Int32} {x3 : Int32} {out : Int64 × PH} (f : F11_law h a0 x1 x2 x3 = some out) : Met l yX11_law vX11_law ({ frames := 4, cells := 0, slots := 0, locals := 101 } : Room) (va_Pc [.ref (b + a0), .int x1, .int x2, .int x3] (ph_B D cy b A fl h)) (va_Ql (fun (r : Int64) (u : PH) => (r, u) = out) (ph_B D cy b A fl) A) 0 0 A :=
  o_met (by decide) rfl (Nat.le_of_ble_eq_true rfl) rfl (fun p e s m below meth c S hr hlo hnm ls hl I => T11_law_0 S hr hlo ((gd f).2) I (lv_sub hl [0, 1, 2, 3] rfl))
def vX11_locals : List Cond := .code yX11_locals cX11_locals 7 (some .int) :: TB
theorem lf11_locals_60 : Fl vX11_locals RX11 60 11 11 := ⟨RX11, TX11, 14, rfl, by decide, (fun w h9 => List.mem_cons_of_mem _ (wC_wsX110 w h9)), (List.mem_cons_of_mem _ wT_2_14)⟩
theorem lf11_locals_340 : Fl vX11_locals RX11 340 3 3 := ⟨RX3, TX3, 7, rfl, by decide, (fun w h9 => List.mem_cons_of_mem _ (wC_wsX30 w h9)), (List.mem_cons_of_mem _ wT_63_3)⟩
theorem lf11_locals_37 : Fl vX11_locals RX11 37 11 5 := ⟨RX11, TX11, 14, rfl, by decide, (fun w h9 => List.mem_cons_of_mem _ (wC_wsX110 w h9)), (List.mem_cons_of_mem _ wT_2_3)⟩
theorem lf11_locals_343 : Fl vX11_locals RX11 343 3 4 := ⟨RX3, TX3, 7, rfl, by decide, (fun w h9 => List.mem_cons_of_mem _ (wC_wsX30 w h9)), (List.mem_cons_of_mem _ wT_63_4)⟩
theorem lf11_locals_18 : Fl vX11_locals RX11 18 11 3 := ⟨RX11, TX11, 14, rfl, by decide, (fun w h9 => List.mem_cons_of_mem _ (wC_wsX110 w h9)), (List.mem_cons_of_mem _ wT_1_18)⟩
theorem lf11_locals_150 : Fl vX11_locals RX11 150 8 5 := ⟨RX8, TX8, 14, rfl, by decide, (fun w h9 => List.mem_cons_of_mem _ (wC_wsX80 w h9)), (List.mem_cons_of_mem _ wT_36_16)⟩
theorem lf11_locals_344 : Fl vX11_locals RX11 344 10 2 := ⟨RX10, TX10, 8, rfl, by decide, (fun w h9 => List.mem_cons_of_mem _ (wC_wsX100 w h9)), (List.mem_cons_of_mem _ wT_63_5)⟩
theorem gX11_locals_X6_farOf : GoodIn vX11_locals (wsV RX11 347 RX6 yX6_farOf vX6_farOf) := gV_of wT_63_19 wT_39_10 wT_39_11 wT_2_2 wT_39_12
theorem gX11_locals_X3_howManyKnown : GoodIn vX11_locals (wsV RX11 333 RX3 yX3_howManyKnown vX3_howManyKnown) := gV_of wT_63_14 wT_63_11 wT_63_12 wT_2_13 wT_63_13
theorem gX11_locals_X3_isKnownSeat : GoodIn vX11_locals (wsV RX11 336 RX3 yX3_isKnownSeat vX3_isKnownSeat) := gV_of wT_63_15 wT_63_16 wT_63_17 wT_2_13 wT_63_18
theorem lf11_locals_339 : Fl vX11_locals RX11 339 3 2 := ⟨RX3, TX3, 7, rfl, by decide, (fun w h9 => List.mem_cons_of_mem _ (wC_wsX30 w h9)), (List.mem_cons_of_mem _ wT_63_2)⟩
theorem gX11_locals_X10_setFrom : GoodIn vX11_locals (wsV RX11 308 RX10 yX10_setFrom vX10_setFrom) := gV_of wT_59_23 wT_60_0 wT_60_1 wT_3_9 wT_60_2
theorem gX11_locals_X3_findStruck : GoodIn vX11_locals (wsV RX11 330 RX3 yX3_findStruck vX3_findStruck) := gV_of wT_63_6 wT_63_7 wT_63_8 wT_2_13 wT_63_9
set_option maxHeartbeats 4000000 in
set_option maxRecDepth 100000 in
theorem T11_locals_74 (S : CallFix p m c cX11_locals 7 s args vX11_locals RX11) (hr : meth.sig.returnType = (some .int)) (hlo : meth.locks = false) {out : Int32 × PH} {k26 : PH → Nat → Int32 → Int32 → Int32 → Int32 → Option (Int32 × PH)} (hk26 : ∀ {h : PH} {a0 : Nat} {x1 : Int32} {x2 : Int32} {x3 : Int32} {x4 : Int32}, k26 h a0 x1 x2 x3 x4 = some out → ∀ (H : Heap) (locs : List Loc), ph_I D cy b A fl h s H locs → ∀ (ls : Array Slot), lv_has ls 7 [(0, .ref (b + a0)), (1, .int x1), (2, .int x2), (3, .int x3), (4, .int x4)] → W p l e ({ frames := 3, cells := 0, slots := 0, locals := 68 } : Room) s m args below meth c H locs 0 0 (MQ below (va_Qi (fun (r : Int32) (u : PH) => (r, u) = out) (ph_B D cy b A fl) A) args s 0 0 A) (F0 m 26 ls [])) {h : PH} {a0 : Nat} {x1 : Int32} {x2 : Int32} {x3 : Int32} {x4 : Int32} {s0 : Int32} (f : F11_locals_74 k26 h a0 x1 x2 x3 x4 s0 = some out) {H : Heap} {locs : List Loc} (I : ph_I D cy b A fl h s H locs) {ls : Array Slot} (hl : lv_has ls 7 [(0, .ref (b + a0)), (1, .int x1), (2, .int x2), (3, .int x3), (4, .int x4)]) : W p l e ({ frames := 3, cells := 0, slots := 0, locals := 68 } : Room) s m args below meth c H locs 0 0 (MQ below (va_Qi (fun (r : Int32) (u : PH) => (r, u) = out) (ph_B D cy b A fl) A) args s 0 0 A) (F0 m 74 ls [.int s0]) := by
  unfold F11_locals_74 at f
  refine lv_istore (lv' := [(5, .int s0), (0, .ref (b + a0)), (1, .int x1), (2, .int x2), (3, .int x3), (4, .int x4)]) S.1 S.2.1 dX11_locals_74 hl (by decide) rfl (fun ls hl => ?_)
  refine lv_iload S.1 S.2.1 dX11_locals_76 (lv_at hl 0 rfl) ?_
  refine lv_iconst (v := (-1)) S.1 S.2.1 dX11_locals_78 (by decide) ?_
  refine lv_icmp_eq (tgt := 143) S.1 S.2.1 dX11_locals_79 (by decide) (fun q1 => ?_) (fun q1 => ?_)
  · have f := (if_pos q1).symm.trans f
    refine lv_iinc (v := (x4 + 1)) (lv' := [(4, .int (x4 + 1)), (5, .int s0), (0, .ref (b + a0)), (1, .int x1), (2, .int x2), (3, .int x3)]) S.1 S.2.1 dX11_locals_143 hl (k := 5) rfl (congrArg (fun z => x4 + z) (by decide)) (by decide) rfl (fun ls hl => ?_)
    refine lv_goto (tgt := 26) S.1 S.2.1 dX11_locals_146 (by decide) ?_
    exact hk26 f _ _ I _ (lv_sub hl [2, 3, 4, 5, 0] rfl)
  · have f := (if_neg q1).symm.trans f
    refine lv_iconst (v := 1) S.1 S.2.1 dX11_locals_82 (by decide) ?_
    refine lv_aload_n S.1 S.2.1 dX11_locals_83 rfl (lv_at hl 1 rfl) ?_
    obtain ⟨r2, e3, f⟩ := ob f
    refine o_gR S lf11_locals_60 I e3 dX11_locals_84 ?_
    obtain ⟨r4, e5, f⟩ := ob f
    refine o_gR S lf11_locals_340 I e5 dX11_locals_87 ?_
    refine lv_iload S.1 S.2.1 dX11_locals_90 (lv_at hl 5 rfl) ?_
    obtain ⟨v7, e6, f⟩ := ob f
    refine o_iald S I e6 dX11_locals_92 ?_
    refine lv_ishl S.1 S.2.1 dX11_locals_93 ?_
    refine lv_istore (lv' := [(6, .int (1 <<< (v7 &&& 31))), (5, .int s0), (0, .ref (b + a0)), (1, .int x1), (2, .int x2), (3, .int x3), (4, .int x4)]) S.1 S.2.1 dX11_locals_94 hl (by decide) rfl (fun ls hl => ?_)
    refine lv_aload_n S.1 S.2.1 dX11_locals_96 rfl (lv_at hl 2 rfl) ?_
    obtain ⟨r8, e9, f⟩ := ob f
    refine o_gR S lf11_locals_37 I e9 dX11_locals_97 ?_
    refine lv_aload_n S.1 S.2.1 dX11_locals_100 rfl (lv_at hl 2 rfl) ?_
    obtain ⟨r10, e11, f⟩ := ob f
    refine o_gR S lf11_locals_60 I e11 dX11_locals_101 ?_
    obtain ⟨r12, e13, f⟩ := ob f
    refine o_gR S lf11_locals_343 I e13 dX11_locals_104 ?_
    refine lv_iload S.1 S.2.1 dX11_locals_107 (lv_at hl 6 rfl) ?_
    obtain ⟨v15, e14, f⟩ := ob f
    refine o_iald S I e14 dX11_locals_109 ?_
    refine lv_aload_n S.1 S.2.1 dX11_locals_110 rfl (lv_at hl 2 rfl) ?_
    obtain ⟨r16, e17, f⟩ := ob f
    refine o_gR S lf11_locals_18 I e17 dX11_locals_111 ?_
    obtain ⟨r18, e19, f⟩ := ob f
    refine o_gR S lf11_locals_150 I e19 dX11_locals_114 ?_
    obtain ⟨r20, e21, f⟩ := ob f
    refine o_gR S lf11_locals_344 I e21 dX11_locals_117 ?_
    refine lv_iload S.1 S.2.1 dX11_locals_120 (lv_at hl 1 rfl) ?_
    obtain ⟨v23, e22, f⟩ := ob f
    refine o_iald S I e22 dX11_locals_122 ?_
    obtain ⟨o24, e25, f⟩ := ob f
    refine o_Vi S (As := [.int v15, .int v23]) (rest := []) (ci := 6) (M6_farOf l D cy b A fl e25) gX11_locals_X6_farOf rfl rfl rfl cd6_farOf ⟨Nat.le_of_ble_eq_true rfl, Nat.le_of_ble_eq_true rfl⟩ I (gd e25).1 clX6 rfl rfl hl.1 rfl (Nat.le_of_ble_eq_true rfl) dX11_locals_123 ⟨Nat.le_of_ble_eq_true rfl, Nat.le_of_ble_eq_true rfl⟩ (fun H locs I => ?_)
    refine lv_iload_n S.1 S.2.1 dX11_locals_126 rfl (lv_at hl 3 rfl) ?_
    refine lv_icmp_gt (tgt := 138) S.1 S.2.1 dX11_locals_127 (by decide) (fun q26 => ?_) (fun q26 => ?_)
    · have f := (if_pos q26).symm.trans f
      refine lv_iload_n S.1 S.2.1 dX11_locals_138 rfl (lv_at hl 5 rfl) ?_
      refine lv_iload S.1 S.2.1 dX11_locals_139 (lv_at hl 0 rfl) ?_
      refine lv_ior S.1 S.2.1 dX11_locals_141 ?_
      refine lv_istore_n (lv' := [(3, .int (x3 ||| (1 <<< (v7 &&& 31)))), (6, .int (1 <<< (v7 &&& 31))), (5, .int s0), (0, .ref (b + a0)), (1, .int x1), (2, .int x2), (4, .int x4)]) S.1 S.2.1 dX11_locals_142 rfl hl (by decide) rfl (fun ls hl => ?_)
      refine lv_iinc (v := (x4 + 1)) (lv' := [(4, .int (x4 + 1)), (3, .int (x3 ||| (1 <<< (v7 &&& 31)))), (6, .int (1 <<< (v7 &&& 31))), (5, .int s0), (0, .ref (b + a0)), (1, .int x1), (2, .int x2)]) S.1 S.2.1 dX11_locals_143 hl (k := 6) rfl (congrArg (fun z => x4 + z) (by decide)) (by decide) rfl (fun ls hl => ?_)
      refine lv_goto (tgt := 26) S.1 S.2.1 dX11_locals_146 (by decide) ?_
      exact hk26 f _ _ I _ (lv_sub hl [4, 5, 6, 1, 0] rfl)
    · have f := (if_neg q26).symm.trans f
      refine lv_iload_n S.1 S.2.1 dX11_locals_130 rfl (lv_at hl 4 rfl) ?_
      refine lv_iload S.1 S.2.1 dX11_locals_131 (lv_at hl 0 rfl) ?_
      refine lv_ior S.1 S.2.1 dX11_locals_133 ?_
      refine lv_istore_n (lv' := [(2, .int (x2 ||| (1 <<< (v7 &&& 31)))), (6, .int (1 <<< (v7 &&& 31))), (5, .int s0), (0, .ref (b + a0)), (1, .int x1), (3, .int x3), (4, .int x4)]) S.1 S.2.1 dX11_locals_134 rfl hl (by decide) rfl (fun ls hl => ?_)
      refine lv_goto (tgt := 143) S.1 S.2.1 dX11_locals_135 (by decide) ?_
      refine lv_iinc (v := (x4 + 1)) (lv' := [(4, .int (x4 + 1)), (2, .int (x2 ||| (1 <<< (v7 &&& 31)))), (6, .int (1 <<< (v7 &&& 31))), (5, .int s0), (0, .ref (b + a0)), (1, .int x1), (3, .int x3)]) S.1 S.2.1 dX11_locals_143 hl (k := 6) rfl (congrArg (fun z => x4 + z) (by decide)) (by decide) rfl (fun ls hl => ?_)
      refine lv_goto (tgt := 26) S.1 S.2.1 dX11_locals_146 (by decide) ?_
      exact hk26 f _ _ I _ (lv_sub hl [4, 5, 1, 6, 0] rfl)
set_option maxHeartbeats 4000000 in
set_option maxRecDepth 100000 in
theorem T11_locals_26 (S : CallFix p m c cX11_locals 7 s args vX11_locals RX11) (hr : meth.sig.returnType = (some .int)) (hlo : meth.locks = false) {out : Int32 × PH} : ∀ (n : Nat) {h : PH} {a0 : Nat} {x1 : Int32} {x2 : Int32} {x3 : Int32} {x4 : Int32} (f : F11_locals_26  n h a0 x1 x2 x3 x4 = some out) {H : Heap} {locs : List Loc} (I : ph_I D cy b A fl h s H locs) {ls : Array Slot} (hl : lv_has ls 7 [(0, .ref (b + a0)), (1, .int x1), (2, .int x2), (3, .int x3), (4, .int x4)]), W p l e ({ frames := 3, cells := 0, slots := 0, locals := 68 } : Room) s m args below meth c H locs 0 0 (MQ below (va_Qi (fun (r : Int32) (u : PH) => (r, u) = out) (ph_B D cy b A fl) A) args s 0 0 A) (F0 m 26 ls []) := by
  intro n
  induction n with
  | zero => intro h a0 x1 x2 x3 x4 f; rw [F11_locals_26] at f; cases f
  | succ n ih =>
    intro h a0 x1 x2 x3 x4 f H locs I ls hl
    rw [F11_locals_26] at f
    refine lv_iload S.1 S.2.1 dX11_locals_26 (lv_at hl 4 rfl) ?_
    refine lv_aload_n S.1 S.2.1 dX11_locals_28 rfl (lv_at hl 0 rfl) ?_
    obtain ⟨r1, e2, f⟩ := ob f
    refine o_gR S lf11_locals_60 I e2 dX11_locals_29 ?_
    obtain ⟨o3, e4, f⟩ := ob f
    refine o_Vi S (As := []) (rest := [.int x4]) (ci := 3) (M3_howManyKnown l D cy b A fl e4) gX11_locals_X3_howManyKnown rfl rfl rfl cd3_howManyKnown ⟨Nat.le_of_ble_eq_true rfl, Nat.le_of_ble_eq_true rfl⟩ I (gd e4).1 clX3 rfl rfl hl.1 rfl (Nat.le_of_ble_eq_true rfl) dX11_locals_32 ⟨Nat.le_of_ble_eq_true rfl, Nat.le_of_ble_eq_true rfl⟩ (fun H locs I => ?_)
    refine lv_icmp_ge (tgt := 149) S.1 S.2.1 dX11_locals_35 (by decide) (fun q5 => ?_) (fun q5 => ?_)
    · have f := (if_pos q5).symm.trans f
      refine lv_iload_n S.1 S.2.1 dX11_locals_149 rfl (lv_at hl 2 rfl) ?_
      refine lv_iload_n S.1 S.2.1 dX11_locals_150 rfl (lv_at hl 3 rfl) ?_
      refine lv_iconst (v := (-1)) S.1 S.2.1 dX11_locals_151 (by decide) ?_
      refine lv_ixor S.1 S.2.1 dX11_locals_152 ?_
      refine lv_iand S.1 S.2.1 dX11_locals_153 ?_
      exact o_iret S hr hlo I f dX11_locals_154
    · have f := (if_neg q5).symm.trans f
      refine lv_aload_n S.1 S.2.1 dX11_locals_38 rfl (lv_at hl 0 rfl) ?_
      obtain ⟨r6, e7, f⟩ := ob f
      refine o_gR S lf11_locals_60 I e7 dX11_locals_39 ?_
      refine lv_iload S.1 S.2.1 dX11_locals_42 (lv_at hl 4 rfl) ?_
      obtain ⟨o8, e9, f⟩ := ob f
      refine o_Vi S (As := [.int x4]) (rest := []) (ci := 3) (M3_isKnownSeat l D cy b A fl e9) gX11_locals_X3_isKnownSeat rfl rfl rfl cd3_isKnownSeat ⟨Nat.le_of_ble_eq_true rfl, Nat.le_of_ble_eq_true rfl⟩ I (gd e9).1 clX3 rfl rfl hl.1 rfl (Nat.le_of_ble_eq_true rfl) dX11_locals_44 ⟨Nat.le_of_ble_eq_true rfl, Nat.le_of_ble_eq_true rfl⟩ (fun H locs I => ?_)
      refine lv_if_eq (tgt := 73) S.1 S.2.1 dX11_locals_47 (by decide) (fun q10 => ?_) (fun q10 => ?_)
      · have f := (if_pos q10).symm.trans f
        refine lv_iconst (v := (-1)) S.1 S.2.1 dX11_locals_73 (by decide) ?_
        exact T11_locals_74 S hr hlo (fun f _ _ I _ hl => ih f I hl) f I (lv_sub hl [0, 1, 2, 3, 4] rfl)
      · have f := (if_neg q10).symm.trans f
        refine lv_aload_n S.1 S.2.1 dX11_locals_50 rfl (lv_at hl 0 rfl) ?_
        obtain ⟨r11, e12, f⟩ := ob f
        refine o_gR S lf11_locals_18 I e12 dX11_locals_51 ?_
        obtain ⟨r13, e14, f⟩ := ob f
        refine o_gR S lf11_locals_150 I e14 dX11_locals_54 ?_
        refine lv_aload_n S.1 S.2.1 dX11_locals_57 rfl (lv_at hl 0 rfl) ?_
        obtain ⟨r15, e16, f⟩ := ob f
        refine o_gR S lf11_locals_60 I e16 dX11_locals_58 ?_
        obtain ⟨r17, e18, f⟩ := ob f
        refine o_gR S lf11_locals_339 I e18 dX11_locals_61 ?_
        refine lv_iload S.1 S.2.1 dX11_locals_64 (lv_at hl 4 rfl) ?_
        obtain ⟨v20, e19, f⟩ := ob f
        refine o_iald S I e19 dX11_locals_66 ?_
        obtain ⟨o21, e22, f⟩ := ob f
        refine o_Vi S (As := [.int v20]) (rest := []) (ci := 10) (M10_setFrom l D cy b A fl e22) gX11_locals_X10_setFrom rfl rfl rfl cd10_setFrom ⟨Nat.le_of_ble_eq_true rfl, Nat.le_of_ble_eq_true rfl⟩ I (gd e22).1 clX10 rfl rfl hl.1 rfl (Nat.le_of_ble_eq_true rfl) dX11_locals_67 ⟨Nat.le_of_ble_eq_true rfl, Nat.le_of_ble_eq_true rfl⟩ (fun H locs I => ?_)
        refine lv_goto (tgt := 74) S.1 S.2.1 dX11_locals_70 (by decide) ?_
        exact T11_locals_74 S hr hlo (fun f _ _ I _ hl => ih f I hl) f I (lv_sub hl [0, 1, 2, 3, 4] rfl)
set_option maxHeartbeats 4000000 in
set_option maxRecDepth 100000 in
theorem T11_locals_0 (S : CallFix p m c cX11_locals 7 s args vX11_locals RX11) (hr : meth.sig.returnType = (some .int)) (hlo : meth.locks = false) {out : Int32 × PH} {h : PH} {a0 : Nat} {x1 : Int32} (f : F11_locals_0  h a0 x1 = some out) {H : Heap} {locs : List Loc} (I : ph_I D cy b A fl h s H locs) {ls : Array Slot} (hl : lv_has ls 7 [(0, .ref (b + a0)), (1, .int x1)]) : W p l e ({ frames := 3, cells := 0, slots := 0, locals := 68 } : Room) s m args below meth c H locs 0 0 (MQ below (va_Qi (fun (r : Int32) (u : PH) => (r, u) = out) (ph_B D cy b A fl) A) args s 0 0 A) (F0 m 0 ls []) := by
  unfold F11_locals_0 at f
  refine lv_iload_n S.1 S.2.1 dX11_locals_0 rfl (lv_at hl 1 rfl) ?_
  refine lv_if_lt (tgt := 10) S.1 S.2.1 dX11_locals_1 (by decide) (fun q1 => ?_) (fun q1 => ?_)
  · have f := (if_pos q1).symm.trans f
    refine lv_iconst (v := (-1)) S.1 S.2.1 dX11_locals_10 (by decide) ?_
    exact o_iret S hr hlo I f dX11_locals_11
  · have f := (if_neg q1).symm.trans f
    refine lv_iload_n S.1 S.2.1 dX11_locals_4 rfl (lv_at hl 1 rfl) ?_
    refine lv_bipush (v := 12) S.1 S.2.1 dX11_locals_5 (by decide) ?_
    refine lv_icmp_le (tgt := 12) S.1 S.2.1 dX11_locals_7 (by decide) (fun q2 => ?_) (fun q2 => ?_)
    · have f := (if_pos q2).symm.trans f
      refine lv_aload_n S.1 S.2.1 dX11_locals_12 rfl (lv_at hl 0 rfl) ?_
      obtain ⟨r3, e4, f⟩ := ob f
      refine o_gR S lf11_locals_60 I e4 dX11_locals_13 ?_
      obtain ⟨o5, e6, f⟩ := ob f
      refine o_Vv S (As := []) (rest := []) (ci := 3) (M3_findStruck l D cy b A fl e6) gX11_locals_X3_findStruck rfl rfl rfl cd3_findStruck ⟨Nat.le_of_ble_eq_true rfl, Nat.le_of_ble_eq_true rfl⟩ I (gd e6).1 clX3 rfl rfl hl.1 rfl (Nat.le_of_ble_eq_true rfl) dX11_locals_16 ⟨Nat.le_of_ble_eq_true rfl, Nat.le_of_ble_eq_true rfl⟩ (fun H locs I => ?_)
      refine lv_iconst (v := 0) S.1 S.2.1 dX11_locals_19 (by decide) ?_
      refine lv_istore_n (lv' := [(2, .int 0), (0, .ref (b + a0)), (1, .int x1)]) S.1 S.2.1 dX11_locals_20 rfl hl (by decide) rfl (fun ls hl => ?_)
      refine lv_iconst (v := 0) S.1 S.2.1 dX11_locals_21 (by decide) ?_
      refine lv_istore_n (lv' := [(3, .int 0), (2, .int 0), (0, .ref (b + a0)), (1, .int x1)]) S.1 S.2.1 dX11_locals_22 rfl hl (by decide) rfl (fun ls hl => ?_)
      refine lv_iconst (v := 0) S.1 S.2.1 dX11_locals_23 (by decide) ?_
      refine lv_istore (lv' := [(4, .int 0), (3, .int 0), (2, .int 0), (0, .ref (b + a0)), (1, .int x1)]) S.1 S.2.1 dX11_locals_24 hl (by decide) rfl (fun ls hl => ?_)
      exact T11_locals_26 S hr hlo  1024 f I (lv_sub hl [3, 4, 2, 1, 0] rfl)
    · have f := (if_neg q2).symm.trans f
      refine lv_iconst (v := (-1)) S.1 S.2.1 dX11_locals_10 (by decide) ?_
      exact o_iret S hr hlo I f dX11_locals_11
theorem M11_locals (l : Launch) (D : va_G) (cy : Nat → ClassId) (b : Nat) (A : Nat → Prop) (fl : Bool) {h : PH} {a0 : Nat} {x1 : Int32} {out : Int32 × PH} (f : F11_locals h a0 x1 = some out) : Met l yX11_locals vX11_locals ({ frames := 3, cells := 0, slots := 0, locals := 68 } : Room) (va_Pc [.ref (b + a0), .int x1] (ph_B D cy b A fl h)) (va_Qi (fun (r : Int32) (u : PH) => (r, u) = out) (ph_B D cy b A fl) A) 0 0 A :=
  o_met (by decide) rfl (Nat.le_of_ble_eq_true rfl) rfl (fun p e s m below meth c S hr hlo hnm ls hl I => T11_locals_0 S hr hlo ((gd f).2) I (lv_sub hl [0, 1] rfl))
def vX11_passMinute : List Cond := .code yX11_passMinute cX11_passMinute 2 none :: TB
theorem lf11_passMinute_47 : Fl vX11_passMinute RX11 47 11 7 := ⟨RX11, TX11, 14, rfl, by decide, (fun w h9 => List.mem_cons_of_mem _ (wC_wsX110 w h9)), (List.mem_cons_of_mem _ wT_2_8)⟩
theorem lf11_passMinute_18 : Fl vX11_passMinute RX11 18 11 3 := ⟨RX11, TX11, 14, rfl, by decide, (fun w h9 => List.mem_cons_of_mem _ (wC_wsX110 w h9)), (List.mem_cons_of_mem _ wT_1_18)⟩
theorem lf11_passMinute_102 : Fl vX11_passMinute RX11 102 8 4 := ⟨RX8, TX8, 14, rfl, by decide, (fun w h9 => List.mem_cons_of_mem _ (wC_wsX80 w h9)), (List.mem_cons_of_mem _ wT_32_14)⟩
theorem lf11_passMinute_106 : Fl vX11_passMinute RX11 106 1 0 := ⟨RX1, TX1, 7, rfl, by decide, (fun w h9 => List.mem_cons_of_mem _ (wC_wsX10 w h9)), (List.mem_cons_of_mem _ wT_32_15)⟩
theorem gX11_passMinute_X4_beginMinute : GoodIn vX11_passMinute (wsV RX11 399 RX4 yX4_beginMinute vX4_beginMinute) := gV_of wT_46_4 wT_46_5 wT_46_6 wT_2_7 wT_46_7
theorem lf11_passMinute_67 : Fl vX11_passMinute RX11 67 11 12 := ⟨RX11, TX11, 14, rfl, by decide, (fun w h9 => List.mem_cons_of_mem _ (wC_wsX110 w h9)), (List.mem_cons_of_mem _ wT_2_18)⟩
theorem lp11_passMinute_368 : Pl vX11_passMinute RX11 368 9 0 .int := ⟨RX9, TX9, 3, tyX9, rfl, by decide, (fun w h9 => List.mem_cons_of_mem _ (wC_wsX90 w h9)), (List.mem_cons_of_mem _ wT_23_20), tyX9_ok, nmX9, rfl, rfl⟩
theorem lf11_passMinute_150 : Fl vX11_passMinute RX11 150 8 5 := ⟨RX8, TX8, 14, rfl, by decide, (fun w h9 => List.mem_cons_of_mem _ (wC_wsX80 w h9)), (List.mem_cons_of_mem _ wT_36_16)⟩
theorem lf11_passMinute_186 : Fl vX11_passMinute RX11 186 4 0 := ⟨RX4, TX4, 11, rfl, by decide, (fun w h9 => List.mem_cons_of_mem _ (wC_wsX40 w h9)), (List.mem_cons_of_mem _ wT_34_1)⟩
theorem gX11_passMinute_X10_firstFrom : GoodIn vX11_passMinute (wsV RX11 387 RX10 yX10_firstFrom vX10_firstFrom) := gV_of wT_43_16 wT_43_17 wT_43_18 wT_3_9 wT_43_19
theorem lf11_passMinute_299 : Fl vX11_passMinute RX11 299 10 1 := ⟨RX10, TX10, 8, rfl, by decide, (fun w h9 => List.mem_cons_of_mem _ (wC_wsX100 w h9)), (List.mem_cons_of_mem _ wT_37_2)⟩
theorem lf11_passMinute_154 : Fl vX11_passMinute RX11 154 10 4 := ⟨RX10, TX10, 8, rfl, by decide, (fun w h9 => List.mem_cons_of_mem _ (wC_wsX100 w h9)), (List.mem_cons_of_mem _ wT_36_17)⟩
theorem lf11_passMinute_37 : Fl vX11_passMinute RX11 37 11 5 := ⟨RX11, TX11, 14, rfl, by decide, (fun w h9 => List.mem_cons_of_mem _ (wC_wsX110 w h9)), (List.mem_cons_of_mem _ wT_2_3)⟩
theorem gX11_passMinute_X6_bringWave : GoodIn vX11_passMinute (wsV RX11 364 RX6 yX6_bringWave vX6_bringWave) := gV_of wT_43_20 wT_43_21 wT_43_22 wT_2_2 wT_43_23
theorem cd11_passMinute : Cd yX11_passMinute 0 := ⟨by decide, by decide, by decide +kernel⟩
set_option maxHeartbeats 4000000 in
set_option maxRecDepth 100000 in
theorem T11_passMinute_66 (S : CallFix p m c cX11_passMinute 2 s args vX11_passMinute RX11) (hr : meth.sig.returnType = none) (hlo : meth.locks = false) {out : PH} {h : PH} {a0 : Nat} (f : F11_passMinute_66  h a0 = some out) {H : Heap} {locs : List Loc} (I : ph_I D cy b A fl h s H locs) {ls : Array Slot} (hl : lv_has ls 2 [(0, .ref (b + a0))]) : W p l e ({ frames := 6, cells := 0, slots := 0, locals := 154 } : Room) s m args below meth c H locs 0 0 (MQ below (va_Qv (fun (u : PH) => u = out) (ph_B D cy b A fl) A) args s 0 0 A) (F0 m 66 ls []) := by
  unfold F11_passMinute_66 at f
  refine lv_aload_n S.1 S.2.1 dX11_passMinute_66 rfl (lv_at hl 0 rfl) ?_
  obtain ⟨r1, e2, f⟩ := ob f
  refine o_gR S lf11_passMinute_47 I e2 dX11_passMinute_67 ?_
  refine lv_aload_n S.1 S.2.1 dX11_passMinute_70 rfl (lv_at hl 0 rfl) ?_
  obtain ⟨r3, e4, f⟩ := ob f
  refine o_gR S lf11_passMinute_18 I e4 dX11_passMinute_71 ?_
  obtain ⟨r5, e6, f⟩ := ob f
  refine o_gR S lf11_passMinute_102 I e6 dX11_passMinute_74 ?_
  obtain ⟨v7, e8, f⟩ := ob f
  refine o_gI S lf11_passMinute_106 I e8 dX11_passMinute_77 ?_
  obtain ⟨o9, e10, f⟩ := ob f
  refine o_Vv S (As := [.int v7]) (rest := []) (ci := 4) (M4_beginMinute l D cy b A fl e10) gX11_passMinute_X4_beginMinute rfl rfl rfl cd4_beginMinute ⟨Nat.le_of_ble_eq_true rfl, Nat.le_of_ble_eq_true rfl⟩ I (gd e10).1 clX4 rfl rfl hl.1 rfl (Nat.le_of_ble_eq_true rfl) dX11_passMinute_80 ⟨Nat.le_of_ble_eq_true rfl, Nat.le_of_ble_eq_true rfl⟩ (fun H locs I => ?_)
  refine lv_aload_n S.1 S.2.1 dX11_passMinute_83 rfl (lv_at hl 0 rfl) ?_
  obtain ⟨r11, e12, f⟩ := ob f
  refine o_gR S lf11_passMinute_67 I e12 dX11_passMinute_84 ?_
  refine lv_iconst (v := 0) S.1 S.2.1 dX11_passMinute_87 (by decide) ?_
  obtain ⟨h13, e14, f⟩ := ob f
  refine o_pI S lp11_passMinute_368 I e14 dX11_passMinute_88 (fun H locs I => ?_)
  exact o_vret S hr hlo I f dX11_passMinute_91
set_option maxHeartbeats 4000000 in
set_option maxRecDepth 100000 in
theorem T11_passMinute_0 (S : CallFix p m c cX11_passMinute 2 s args vX11_passMinute RX11) (hr : meth.sig.returnType = none) (hlo : meth.locks = false) {out : PH} {h : PH} {a0 : Nat} (f : F11_passMinute_0  h a0 = some out) {H : Heap} {locs : List Loc} (I : ph_I D cy b A fl h s H locs) {ls : Array Slot} (hl : lv_has ls 2 [(0, .ref (b + a0))]) : W p l e ({ frames := 6, cells := 0, slots := 0, locals := 154 } : Room) s m args below meth c H locs 0 0 (MQ below (va_Qv (fun (u : PH) => u = out) (ph_B D cy b A fl) A) args s 0 0 A) (F0 m 0 ls []) := by
  unfold F11_passMinute_0 at f
  refine lv_aload_n S.1 S.2.1 dX11_passMinute_0 rfl (lv_at hl 0 rfl) ?_
  obtain ⟨r1, e2, f⟩ := ob f
  refine o_gR S lf11_passMinute_18 I e2 dX11_passMinute_1 ?_
  obtain ⟨r3, e4, f⟩ := ob f
  refine o_gR S lf11_passMinute_150 I e4 dX11_passMinute_4 ?_
  refine lv_aload_n S.1 S.2.1 dX11_passMinute_7 rfl (lv_at hl 0 rfl) ?_
  obtain ⟨r5, e6, f⟩ := ob f
  refine o_gR S lf11_passMinute_47 I e6 dX11_passMinute_8 ?_
  obtain ⟨v7, e8, f⟩ := ob f
  refine o_gI S lf11_passMinute_186 I e8 dX11_passMinute_11 ?_
  obtain ⟨o9, e10, f⟩ := ob f
  refine o_Vi S (As := [.int v7]) (rest := []) (ci := 10) (M10_firstFrom l D cy b A fl e10) gX11_passMinute_X10_firstFrom rfl rfl rfl cd10_firstFrom ⟨Nat.le_of_ble_eq_true rfl, Nat.le_of_ble_eq_true rfl⟩ I (gd e10).1 clX10 rfl rfl hl.1 rfl (Nat.le_of_ble_eq_true rfl) dX11_passMinute_14 ⟨Nat.le_of_ble_eq_true rfl, Nat.le_of_ble_eq_true rfl⟩ (fun H locs I => ?_)
  refine lv_istore_n (lv' := [(1, .int o9.1), (0, .ref (b + a0))]) S.1 S.2.1 dX11_passMinute_17 rfl hl (by decide) rfl (fun ls hl => ?_)
  refine lv_iload_n S.1 S.2.1 dX11_passMinute_18 rfl (lv_at hl 0 rfl) ?_
  refine lv_aload_n S.1 S.2.1 dX11_passMinute_19 rfl (lv_at hl 1 rfl) ?_
  obtain ⟨r11, e12, f⟩ := ob f
  refine o_gR S lf11_passMinute_18 I e12 dX11_passMinute_20 ?_
  obtain ⟨r13, e14, f⟩ := ob f
  refine o_gR S lf11_passMinute_150 I e14 dX11_passMinute_23 ?_
  obtain ⟨v15, e16, f⟩ := ob f
  refine o_gI S lf11_passMinute_299 I e16 dX11_passMinute_26 ?_
  refine lv_icmp_ge (tgt := 66) S.1 S.2.1 dX11_passMinute_29 (by decide) (fun q17 => ?_) (fun q17 => ?_)
  · have f := (if_pos q17).symm.trans f
    exact T11_passMinute_66 S hr hlo  f I (lv_sub hl [1] rfl)
  · have f := (if_neg q17).symm.trans f
    refine lv_aload_n S.1 S.2.1 dX11_passMinute_32 rfl (lv_at hl 1 rfl) ?_
    obtain ⟨r18, e19, f⟩ := ob f
    refine o_gR S lf11_passMinute_18 I e19 dX11_passMinute_33 ?_
    obtain ⟨r20, e21, f⟩ := ob f
    refine o_gR S lf11_passMinute_150 I e21 dX11_passMinute_36 ?_
    obtain ⟨r22, e23, f⟩ := ob f
    refine o_gR S lf11_passMinute_154 I e23 dX11_passMinute_39 ?_
    refine lv_iload_n S.1 S.2.1 dX11_passMinute_42 rfl (lv_at hl 0 rfl) ?_
    obtain ⟨v25, e24, f⟩ := ob f
    refine o_iald S I e24 dX11_passMinute_43 ?_
    refine lv_aload_n S.1 S.2.1 dX11_passMinute_44 rfl (lv_at hl 1 rfl) ?_
    obtain ⟨r26, e27, f⟩ := ob f
    refine o_gR S lf11_passMinute_47 I e27 dX11_passMinute_45 ?_
    obtain ⟨v28, e29, f⟩ := ob f
    refine o_gI S lf11_passMinute_186 I e29 dX11_passMinute_48 ?_
    refine lv_icmp_ne (tgt := 66) S.1 S.2.1 dX11_passMinute_51 (by decide) (fun q30 => ?_) (fun q30 => ?_)
    · have f := (if_neg q30).symm.trans f
      exact T11_passMinute_66 S hr hlo  f I (lv_sub hl [1] rfl)
    · have f := (if_pos q30).symm.trans f
      refine lv_aload_n S.1 S.2.1 dX11_passMinute_54 rfl (lv_at hl 1 rfl) ?_
      obtain ⟨r31, e32, f⟩ := ob f
      refine o_gR S lf11_passMinute_37 I e32 dX11_passMinute_55 ?_
      refine lv_aload_n S.1 S.2.1 dX11_passMinute_58 rfl (lv_at hl 1 rfl) ?_
      obtain ⟨r33, e34, f⟩ := ob f
      refine o_gR S lf11_passMinute_47 I e34 dX11_passMinute_59 ?_
      refine lv_iload_n S.1 S.2.1 dX11_passMinute_62 rfl (lv_at hl 0 rfl) ?_
      obtain ⟨o35, e36, f⟩ := ob f
      refine o_Vv S (As := [.ref (b + r33), .int o9.1]) (rest := []) (ci := 6) (M6_bringWave l D cy b A fl e36) gX11_passMinute_X6_bringWave rfl rfl rfl cd6_bringWave ⟨Nat.le_of_ble_eq_true rfl, Nat.le_of_ble_eq_true rfl⟩ I (gd e36).1 clX6 rfl rfl hl.1 rfl (Nat.le_of_ble_eq_true rfl) dX11_passMinute_63 ⟨Nat.le_of_ble_eq_true rfl, Nat.le_of_ble_eq_true rfl⟩ (fun H locs I => ?_)
      exact T11_passMinute_66 S hr hlo  f I (lv_sub hl [1] rfl)
theorem M11_passMinute (l : Launch) (D : va_G) (cy : Nat → ClassId) (b : Nat) (A : Nat → Prop) (fl : Bool) {h : PH} {a0 : Nat} {out : PH} (f : F11_passMinute h a0 = some out) : Met l yX11_passMinute vX11_passMinute ({ frames := 6, cells := 0, slots := 0, locals := 154 } : Room) (va_Pc [.ref (b + a0)] (ph_B D cy b A fl h)) (va_Qv (fun (u : PH) => u = out) (ph_B D cy b A fl) A) 0 0 A :=
  o_met (by decide) rfl (Nat.le_of_ble_eq_true rfl) rfl (fun p e s m below meth c S hr hlo hnm ls hl I => T11_passMinute_0 S hr hlo ((gd f).2) I (lv_sub hl [0] rfl))
def vX11_minutes : List Cond := .code yX11_minutes cX11_minutes 3 (some .int) :: TB
theorem lf11_minutes_47 : Fl vX11_minutes RX11 47 11 7 := ⟨RX11, TX11, 14, rfl, by decide, (fun w h9 => List.mem_cons_of_mem _ (wC_wsX110 w h9)), (List.mem_cons_of_mem _ wT_2_8)⟩
theorem lf11_minutes_186 : Fl vX11_minutes RX11 186 4 0 := ⟨RX4, TX4, 11, rfl, by decide, (fun w h9 => List.mem_cons_of_mem _ (wC_wsX40 w h9)), (List.mem_cons_of_mem _ wT_34_1)⟩
theorem gX11_minutes_X11_passMinute : GoodIn vX11_minutes (wsV RX11 220 RX11 yX11_passMinute vX11_passMinute) := gV_of wT_43_12 wT_43_13 wT_43_14 wT_1_2 wT_43_15
set_option maxHeartbeats 4000000 in
set_option maxRecDepth 100000 in
theorem T11_minutes_29 (S : CallFix p m c cX11_minutes 3 s args vX11_minutes RX11) (hr : meth.sig.returnType = (some .int)) (hlo : meth.locks = false) {out : Int32 × PH} : ∀ (n : Nat) {h : PH} {a0 : Nat} {x1 : Int32} {x2 : Int32} (f : F11_minutes_29  n h a0 x1 x2 = some out) {H : Heap} {locs : List Loc} (I : ph_I D cy b A fl h s H locs) {ls : Array Slot} (hl : lv_has ls 3 [(0, .ref (b + a0)), (1, .int x1), (2, .int x2)]), W p l e ({ frames := 7, cells := 0, slots := 0, locals := 175 } : Room) s m args below meth c H locs 0 0 (MQ below (va_Qi (fun (r : Int32) (u : PH) => (r, u) = out) (ph_B D cy b A fl) A) args s 0 0 A) (F0 m 29 ls []) := by
  intro n
  induction n with
  | zero => intro h a0 x1 x2 f; rw [F11_minutes_29] at f; cases f
  | succ n ih =>
    intro h a0 x1 x2 f H locs I ls hl
    rw [F11_minutes_29] at f
    refine lv_iload_n S.1 S.2.1 dX11_minutes_29 rfl (lv_at hl 2 rfl) ?_
    refine lv_iload_n S.1 S.2.1 dX11_minutes_30 rfl (lv_at hl 1 rfl) ?_
    refine lv_icmp_ge (tgt := 44) S.1 S.2.1 dX11_minutes_31 (by decide) (fun q1 => ?_) (fun q1 => ?_)
    · have f := (if_pos q1).symm.trans f
      refine lv_aload_n S.1 S.2.1 dX11_minutes_44 rfl (lv_at hl 0 rfl) ?_
      obtain ⟨r2, e3, f⟩ := ob f
      refine o_gR S lf11_minutes_47 I e3 dX11_minutes_45 ?_
      obtain ⟨v4, e5, f⟩ := ob f
      refine o_gI S lf11_minutes_186 I e5 dX11_minutes_48 ?_
      exact o_iret S hr hlo I f dX11_minutes_51
    · have f := (if_neg q1).symm.trans f
      refine lv_aload_n S.1 S.2.1 dX11_minutes_34 rfl (lv_at hl 0 rfl) ?_
      obtain ⟨o6, e7, f⟩ := ob f
      refine o_Vv S (As := []) (rest := []) (ci := 11) (M11_passMinute l D cy b A fl e7) gX11_minutes_X11_passMinute rfl rfl rfl cd11_passMinute ⟨Nat.le_of_ble_eq_true rfl, Nat.le_of_ble_eq_true rfl⟩ I (gd e7).1 clX11 rfl rfl hl.1 rfl (Nat.le_of_ble_eq_true rfl) dX11_minutes_35 ⟨Nat.le_of_ble_eq_true rfl, Nat.le_of_ble_eq_true rfl⟩ (fun H locs I => ?_)
      refine lv_iinc (v := (x2 + 1)) (lv' := [(2, .int (x2 + 1)), (0, .ref (b + a0)), (1, .int x1)]) S.1 S.2.1 dX11_minutes_38 hl (k := 2) rfl (congrArg (fun z => x2 + z) (by decide)) (by decide) rfl (fun ls hl => ?_)
      refine lv_goto (tgt := 29) S.1 S.2.1 dX11_minutes_41 (by decide) ?_
      exact ih f I (lv_sub hl [1, 2, 0] rfl)
set_option maxHeartbeats 4000000 in
set_option maxRecDepth 100000 in
theorem T11_minutes_0 (S : CallFix p m c cX11_minutes 3 s args vX11_minutes RX11) (hr : meth.sig.returnType = (some .int)) (hlo : meth.locks = false) {out : Int32 × PH} {h : PH} {a0 : Nat} {x1 : Int32} (f : F11_minutes_0  h a0 x1 = some out) {H : Heap} {locs : List Loc} (I : ph_I D cy b A fl h s H locs) {ls : Array Slot} (hl : lv_has ls 3 [(0, .ref (b + a0)), (1, .int x1)]) : W p l e ({ frames := 7, cells := 0, slots := 0, locals := 175 } : Room) s m args below meth c H locs 0 0 (MQ below (va_Qi (fun (r : Int32) (u : PH) => (r, u) = out) (ph_B D cy b A fl) A) args s 0 0 A) (F0 m 0 ls []) := by
  unfold F11_minutes_0 at f
  refine lv_iload_n S.1 S.2.1 dX11_minutes_0 rfl (lv_at hl 1 rfl) ?_
  refine lv_if_lt (tgt := 25) S.1 S.2.1 dX11_minutes_1 (by decide) (fun q1 => ?_) (fun q1 => ?_)
  · have f := (if_pos q1).symm.trans f
    refine lv_iconst (v := (-1)) S.1 S.2.1 dX11_minutes_25 (by decide) ?_
    exact o_iret S hr hlo I f dX11_minutes_26
  · have f := (if_neg q1).symm.trans f
    refine lv_iload_n S.1 S.2.1 dX11_minutes_4 rfl (lv_at hl 1 rfl) ?_
    refine lv_bipush (v := 99) S.1 S.2.1 dX11_minutes_5 (by decide) ?_
    refine lv_icmp_gt (tgt := 25) S.1 S.2.1 dX11_minutes_7 (by decide) (fun q2 => ?_) (fun q2 => ?_)
    · have f := (if_pos q2).symm.trans f
      refine lv_iconst (v := (-1)) S.1 S.2.1 dX11_minutes_25 (by decide) ?_
      exact o_iret S hr hlo I f dX11_minutes_26
    · have f := (if_neg q2).symm.trans f
      refine lv_aload_n S.1 S.2.1 dX11_minutes_10 rfl (lv_at hl 0 rfl) ?_
      obtain ⟨r3, e4, f⟩ := ob f
      refine o_gR S lf11_minutes_47 I e4 dX11_minutes_11 ?_
      obtain ⟨v5, e6, f⟩ := ob f
      refine o_gI S lf11_minutes_186 I e6 dX11_minutes_14 ?_
      refine lv_iload_n S.1 S.2.1 dX11_minutes_17 rfl (lv_at hl 1 rfl) ?_
      refine lv_iadd S.1 S.2.1 dX11_minutes_18 ?_
      refine lv_sipush (v := 199) S.1 S.2.1 dX11_minutes_19 (by decide) ?_
      refine lv_icmp_le (tgt := 27) S.1 S.2.1 dX11_minutes_22 (by decide) (fun q7 => ?_) (fun q7 => ?_)
      · have f := (if_pos q7).symm.trans f
        refine lv_iconst (v := 0) S.1 S.2.1 dX11_minutes_27 (by decide) ?_
        refine lv_istore_n (lv' := [(2, .int 0), (0, .ref (b + a0)), (1, .int x1)]) S.1 S.2.1 dX11_minutes_28 rfl hl (by decide) rfl (fun ls hl => ?_)
        exact T11_minutes_29 S hr hlo  1024 f I (lv_sub hl [1, 2, 0] rfl)
      · have f := (if_neg q7).symm.trans f
        refine lv_iconst (v := (-1)) S.1 S.2.1 dX11_minutes_25 (by decide) ?_
        exact o_iret S hr hlo I f dX11_minutes_26
theorem M11_minutes (l : Launch) (D : va_G) (cy : Nat → ClassId) (b : Nat) (A : Nat → Prop) (fl : Bool) {h : PH} {a0 : Nat} {x1 : Int32} {out : Int32 × PH} (f : F11_minutes h a0 x1 = some out) : Met l yX11_minutes vX11_minutes ({ frames := 7, cells := 0, slots := 0, locals := 175 } : Room) (va_Pc [.ref (b + a0), .int x1] (ph_B D cy b A fl h)) (va_Qi (fun (r : Int32) (u : PH) => (r, u) = out) (ph_B D cy b A fl) A) 0 0 A :=
  o_met (by decide) rfl (Nat.le_of_ble_eq_true rfl) rfl (fun p e s m below meth c S hr hlo hnm ls hl I => T11_minutes_0 S hr hlo ((gd f).2) I (lv_sub hl [0, 1] rfl))
def vX11_named : List Cond := .code yX11_named cX11_named 3 (some .int) :: TB
theorem lf11_named_18 : Fl vX11_named RX11 18 11 3 := ⟨RX11, TX11, 14, rfl, by decide, (fun w h9 => List.mem_cons_of_mem _ (wC_wsX110 w h9)), (List.mem_cons_of_mem _ wT_1_18)⟩
theorem lf11_named_102 : Fl vX11_named RX11 102 8 4 := ⟨RX8, TX8, 14, rfl, by decide, (fun w h9 => List.mem_cons_of_mem _ (wC_wsX80 w h9)), (List.mem_cons_of_mem _ wT_32_14)⟩
theorem lf11_named_106 : Fl vX11_named RX11 106 1 0 := ⟨RX1, TX1, 7, rfl, by decide, (fun w h9 => List.mem_cons_of_mem _ (wC_wsX10 w h9)), (List.mem_cons_of_mem _ wT_32_15)⟩
theorem lf11_named_111 : Fl vX11_named RX11 111 1 1 := ⟨RX1, TX1, 7, rfl, by decide, (fun w h9 => List.mem_cons_of_mem _ (wC_wsX10 w h9)), (List.mem_cons_of_mem _ wT_32_16)⟩
set_option maxHeartbeats 4000000 in
set_option maxRecDepth 100000 in
theorem T11_named_2 (S : CallFix p m c cX11_named 3 s args vX11_named RX11) (hr : meth.sig.returnType = (some .int)) (hlo : meth.locks = false) {out : Int32 × PH} : ∀ (n : Nat) {h : PH} {a0 : Nat} {x1 : Int32} {x2 : Int32} (f : F11_named_2  n h a0 x1 x2 = some out) {H : Heap} {locs : List Loc} (I : ph_I D cy b A fl h s H locs) {ls : Array Slot} (hl : lv_has ls 3 [(0, .ref (b + a0)), (1, .int x1), (2, .int x2)]), W p l e ({ frames := 0, cells := 0, slots := 0, locals := 0 } : Room) s m args below meth c H locs 0 0 (MQ below (va_Qi (fun (r : Int32) (u : PH) => (r, u) = out) (ph_B D cy b A fl) A) args s 0 0 A) (F0 m 2 ls []) := by
  intro n
  induction n with
  | zero => intro h a0 x1 x2 f; rw [F11_named_2] at f; cases f
  | succ n ih =>
    intro h a0 x1 x2 f H locs I ls hl
    rw [F11_named_2] at f
    refine lv_iload_n S.1 S.2.1 dX11_named_2 rfl (lv_at hl 2 rfl) ?_
    refine lv_aload_n S.1 S.2.1 dX11_named_3 rfl (lv_at hl 0 rfl) ?_
    obtain ⟨r1, e2, f⟩ := ob f
    refine o_gR S lf11_named_18 I e2 dX11_named_4 ?_
    obtain ⟨r3, e4, f⟩ := ob f
    refine o_gR S lf11_named_102 I e4 dX11_named_7 ?_
    obtain ⟨v5, e6, f⟩ := ob f
    refine o_gI S lf11_named_106 I e6 dX11_named_10 ?_
    refine lv_icmp_ge (tgt := 40) S.1 S.2.1 dX11_named_13 (by decide) (fun q7 => ?_) (fun q7 => ?_)
    · have f := (if_pos q7).symm.trans f
      refine lv_iconst (v := (-1)) S.1 S.2.1 dX11_named_40 (by decide) ?_
      exact o_iret S hr hlo I f dX11_named_41
    · have f := (if_neg q7).symm.trans f
      refine lv_aload_n S.1 S.2.1 dX11_named_16 rfl (lv_at hl 0 rfl) ?_
      obtain ⟨r8, e9, f⟩ := ob f
      refine o_gR S lf11_named_18 I e9 dX11_named_17 ?_
      obtain ⟨r10, e11, f⟩ := ob f
      refine o_gR S lf11_named_102 I e11 dX11_named_20 ?_
      obtain ⟨r12, e13, f⟩ := ob f
      refine o_gR S lf11_named_111 I e13 dX11_named_23 ?_
      refine lv_iload_n S.1 S.2.1 dX11_named_26 rfl (lv_at hl 2 rfl) ?_
      obtain ⟨v15, e14, f⟩ := ob f
      refine o_iald S I e14 dX11_named_27 ?_
      refine lv_iload_n S.1 S.2.1 dX11_named_28 rfl (lv_at hl 1 rfl) ?_
      refine lv_icmp_ne (tgt := 34) S.1 S.2.1 dX11_named_29 (by decide) (fun q16 => ?_) (fun q16 => ?_)
      · have f := (if_neg q16).symm.trans f
        refine lv_iinc (v := (x2 + 1)) (lv' := [(2, .int (x2 + 1)), (0, .ref (b + a0)), (1, .int x1)]) S.1 S.2.1 dX11_named_34 hl (k := 2) rfl (congrArg (fun z => x2 + z) (by decide)) (by decide) rfl (fun ls hl => ?_)
        refine lv_goto (tgt := 2) S.1 S.2.1 dX11_named_37 (by decide) ?_
        exact ih f I (lv_sub hl [1, 2, 0] rfl)
      · have f := (if_pos q16).symm.trans f
        refine lv_iload_n S.1 S.2.1 dX11_named_32 rfl (lv_at hl 2 rfl) ?_
        exact o_iret S hr hlo I f dX11_named_33
set_option maxHeartbeats 4000000 in
set_option maxRecDepth 100000 in
theorem T11_named_0 (S : CallFix p m c cX11_named 3 s args vX11_named RX11) (hr : meth.sig.returnType = (some .int)) (hlo : meth.locks = false) {out : Int32 × PH} {h : PH} {a0 : Nat} {x1 : Int32} (f : F11_named_0  h a0 x1 = some out) {H : Heap} {locs : List Loc} (I : ph_I D cy b A fl h s H locs) {ls : Array Slot} (hl : lv_has ls 3 [(0, .ref (b + a0)), (1, .int x1)]) : W p l e ({ frames := 0, cells := 0, slots := 0, locals := 0 } : Room) s m args below meth c H locs 0 0 (MQ below (va_Qi (fun (r : Int32) (u : PH) => (r, u) = out) (ph_B D cy b A fl) A) args s 0 0 A) (F0 m 0 ls []) := by
  unfold F11_named_0 at f
  refine lv_iconst (v := 0) S.1 S.2.1 dX11_named_0 (by decide) ?_
  refine lv_istore_n (lv' := [(2, .int 0), (0, .ref (b + a0)), (1, .int x1)]) S.1 S.2.1 dX11_named_1 rfl hl (by decide) rfl (fun ls hl => ?_)
  exact T11_named_2 S hr hlo  1024 f I (lv_sub hl [1, 2, 0] rfl)
theorem M11_named (l : Launch) (D : va_G) (cy : Nat → ClassId) (b : Nat) (A : Nat → Prop) (fl : Bool) {h : PH} {a0 : Nat} {x1 : Int32} {out : Int32 × PH} (f : F11_named h a0 x1 = some out) : Met l yX11_named vX11_named ({ frames := 0, cells := 0, slots := 0, locals := 0 } : Room) (va_Pc [.ref (b + a0), .int x1] (ph_B D cy b A fl h)) (va_Qi (fun (r : Int32) (u : PH) => (r, u) = out) (ph_B D cy b A fl) A) 0 0 A :=
  o_met (by decide) rfl (Nat.le_of_ble_eq_true rfl) rfl (fun p e s m below meth c S hr hlo hnm ls hl I => T11_named_0 S hr hlo ((gd f).2) I (lv_sub hl [0, 1] rfl))
def vX11_next : List Cond := .code yX11_next cX11_next 2 (some .int) :: TB
theorem lf11_next_18 : Fl vX11_next RX11 18 11 3 := ⟨RX11, TX11, 14, rfl, by decide, (fun w h9 => List.mem_cons_of_mem _ (wC_wsX110 w h9)), (List.mem_cons_of_mem _ wT_1_18)⟩
theorem lf11_next_150 : Fl vX11_next RX11 150 8 5 := ⟨RX8, TX8, 14, rfl, by decide, (fun w h9 => List.mem_cons_of_mem _ (wC_wsX80 w h9)), (List.mem_cons_of_mem _ wT_36_16)⟩
theorem lf11_next_47 : Fl vX11_next RX11 47 11 7 := ⟨RX11, TX11, 14, rfl, by decide, (fun w h9 => List.mem_cons_of_mem _ (wC_wsX110 w h9)), (List.mem_cons_of_mem _ wT_2_8)⟩
theorem lf11_next_186 : Fl vX11_next RX11 186 4 0 := ⟨RX4, TX4, 11, rfl, by decide, (fun w h9 => List.mem_cons_of_mem _ (wC_wsX40 w h9)), (List.mem_cons_of_mem _ wT_34_1)⟩
theorem gX11_next_X10_setFrom : GoodIn vX11_next (wsV RX11 308 RX10 yX10_setFrom vX10_setFrom) := gV_of wT_59_23 wT_60_0 wT_60_1 wT_3_9 wT_60_2
theorem gX11_next_X10_firstMinute : GoodIn vX11_next (wsV RX11 311 RX10 yX10_firstMinute vX10_firstMinute) := gV_of wT_60_3 wT_20_3 wT_20_4 wT_3_9 wT_20_5
set_option maxHeartbeats 4000000 in
set_option maxRecDepth 100000 in
theorem T11_next_0 (S : CallFix p m c cX11_next 2 s args vX11_next RX11) (hr : meth.sig.returnType = (some .int)) (hlo : meth.locks = false) {out : Int32 × PH} {h : PH} {a0 : Nat} (f : F11_next_0  h a0 = some out) {H : Heap} {locs : List Loc} (I : ph_I D cy b A fl h s H locs) {ls : Array Slot} (hl : lv_has ls 2 [(0, .ref (b + a0))]) : W p l e ({ frames := 2, cells := 0, slots := 0, locals := 43 } : Room) s m args below meth c H locs 0 0 (MQ below (va_Qi (fun (r : Int32) (u : PH) => (r, u) = out) (ph_B D cy b A fl) A) args s 0 0 A) (F0 m 0 ls []) := by
  unfold F11_next_0 at f
  refine lv_aload_n S.1 S.2.1 dX11_next_0 rfl (lv_at hl 0 rfl) ?_
  obtain ⟨r1, e2, f⟩ := ob f
  refine o_gR S lf11_next_18 I e2 dX11_next_1 ?_
  obtain ⟨r3, e4, f⟩ := ob f
  refine o_gR S lf11_next_150 I e4 dX11_next_4 ?_
  refine lv_aload_n S.1 S.2.1 dX11_next_7 rfl (lv_at hl 0 rfl) ?_
  obtain ⟨r5, e6, f⟩ := ob f
  refine o_gR S lf11_next_47 I e6 dX11_next_8 ?_
  obtain ⟨v7, e8, f⟩ := ob f
  refine o_gI S lf11_next_186 I e8 dX11_next_11 ?_
  obtain ⟨o9, e10, f⟩ := ob f
  refine o_Vi S (As := [.int v7]) (rest := []) (ci := 10) (M10_setFrom l D cy b A fl e10) gX11_next_X10_setFrom rfl rfl rfl cd10_setFrom ⟨Nat.le_of_ble_eq_true rfl, Nat.le_of_ble_eq_true rfl⟩ I (gd e10).1 clX10 rfl rfl hl.1 rfl (Nat.le_of_ble_eq_true rfl) dX11_next_14 ⟨Nat.le_of_ble_eq_true rfl, Nat.le_of_ble_eq_true rfl⟩ (fun H locs I => ?_)
  refine lv_istore_n (lv' := [(1, .int o9.1), (0, .ref (b + a0))]) S.1 S.2.1 dX11_next_17 rfl hl (by decide) rfl (fun ls hl => ?_)
  refine lv_iload_n S.1 S.2.1 dX11_next_18 rfl (lv_at hl 0 rfl) ?_
  refine lv_iconst (v := (-1)) S.1 S.2.1 dX11_next_19 (by decide) ?_
  refine lv_icmp_ne (tgt := 28) S.1 S.2.1 dX11_next_20 (by decide) (fun q11 => ?_) (fun q11 => ?_)
  · have f := (if_neg q11).symm.trans f
    refine lv_aload_n S.1 S.2.1 dX11_next_28 rfl (lv_at hl 1 rfl) ?_
    obtain ⟨r12, e13, f⟩ := ob f
    refine o_gR S lf11_next_18 I e13 dX11_next_29 ?_
    obtain ⟨r14, e15, f⟩ := ob f
    refine o_gR S lf11_next_150 I e15 dX11_next_32 ?_
    refine lv_iload_n S.1 S.2.1 dX11_next_35 rfl (lv_at hl 0 rfl) ?_
    obtain ⟨o16, e17, f⟩ := ob f
    refine o_Vi S (As := [.int o9.1]) (rest := []) (ci := 10) (M10_firstMinute l D cy b A fl e17) gX11_next_X10_firstMinute rfl rfl rfl cd10_firstMinute ⟨Nat.le_of_ble_eq_true rfl, Nat.le_of_ble_eq_true rfl⟩ I (gd e17).1 clX10 rfl rfl hl.1 rfl (Nat.le_of_ble_eq_true rfl) dX11_next_36 ⟨Nat.le_of_ble_eq_true rfl, Nat.le_of_ble_eq_true rfl⟩ (fun H locs I => ?_)
    refine lv_aload_n S.1 S.2.1 dX11_next_39 rfl (lv_at hl 1 rfl) ?_
    obtain ⟨r18, e19, f⟩ := ob f
    refine o_gR S lf11_next_47 I e19 dX11_next_40 ?_
    obtain ⟨v20, e21, f⟩ := ob f
    refine o_gI S lf11_next_186 I e21 dX11_next_43 ?_
    refine lv_isub S.1 S.2.1 dX11_next_46 ?_
    exact o_iret S hr hlo I f dX11_next_47
  · have f := (if_pos q11).symm.trans f
    refine lv_bipush (v := (-2)) S.1 S.2.1 dX11_next_23 (by decide) ?_
    refine lv_goto (tgt := 47) S.1 S.2.1 dX11_next_25 (by decide) ?_
    exact o_iret S hr hlo I f dX11_next_47
theorem M11_next (l : Launch) (D : va_G) (cy : Nat → ClassId) (b : Nat) (A : Nat → Prop) (fl : Bool) {h : PH} {a0 : Nat} {out : Int32 × PH} (f : F11_next h a0 = some out) : Met l yX11_next vX11_next ({ frames := 2, cells := 0, slots := 0, locals := 43 } : Room) (va_Pc [.ref (b + a0)] (ph_B D cy b A fl h)) (va_Qi (fun (r : Int32) (u : PH) => (r, u) = out) (ph_B D cy b A fl) A) 0 0 A :=
  o_met (by decide) rfl (Nat.le_of_ble_eq_true rfl) rfl (fun p e s m below meth c S hr hlo hnm ls hl I => T11_next_0 S hr hlo ((gd f).2) I (lv_sub hl [0] rfl))
def vX11_note : List Cond := .code yX11_note cX11_note 4 (some .int) :: TB
theorem gX11_note_X11_isSurfer : GoodIn vX11_note (wsV RX11 115 RX11 yX11_isSurfer vX11_isSurfer) := gV_of wT_33_17 wT_33_18 wT_33_19 wT_1_2 wT_33_20
theorem gX11_note_X11_isCell : GoodIn vX11_note (wsV RX11 179 RX11 yX11_isCell vX11_isCell) := gV_of wT_38_1 wT_38_2 wT_38_3 wT_1_2 wT_38_4
theorem lf11_note_60 : Fl vX11_note RX11 60 11 11 := ⟨RX11, TX11, 14, rfl, by decide, (fun w h9 => List.mem_cons_of_mem _ (wC_wsX110 w h9)), (List.mem_cons_of_mem _ wT_2_14)⟩
theorem gX11_note_X3_addSeat : GoodIn vX11_note (wsV RX11 320 RX3 yX3_addSeat vX3_addSeat) := gV_of wT_61_13 wT_61_14 wT_61_15 wT_2_13 wT_61_16
set_option maxHeartbeats 4000000 in
set_option maxRecDepth 100000 in
theorem T11_note_0 (S : CallFix p m c cX11_note 4 s args vX11_note RX11) (hr : meth.sig.returnType = (some .int)) (hlo : meth.locks = false) {out : Int32 × PH} {h : PH} {a0 : Nat} {x1 : Int32} {x2 : Int32} {x3 : Int32} (f : F11_note_0  h a0 x1 x2 x3 = some out) {H : Heap} {locs : List Loc} (I : ph_I D cy b A fl h s H locs) {ls : Array Slot} (hl : lv_has ls 4 [(0, .ref (b + a0)), (1, .int x1), (2, .int x2), (3, .int x3)]) : W p l e ({ frames := 2, cells := 0, slots := 0, locals := 41 } : Room) s m args below meth c H locs 0 0 (MQ below (va_Qi (fun (r : Int32) (u : PH) => (r, u) = out) (ph_B D cy b A fl) A) args s 0 0 A) (F0 m 0 ls []) := by
  unfold F11_note_0 at f
  refine lv_iload_n S.1 S.2.1 dX11_note_0 rfl (lv_at hl 1 rfl) ?_
  refine lv_if_lt (tgt := 27) S.1 S.2.1 dX11_note_1 (by decide) (fun q1 => ?_) (fun q1 => ?_)
  · have f := (if_pos q1).symm.trans f
    refine lv_iconst (v := (-1)) S.1 S.2.1 dX11_note_27 (by decide) ?_
    exact o_iret S hr hlo I f dX11_note_28
  · have f := (if_neg q1).symm.trans f
    refine lv_iload_n S.1 S.2.1 dX11_note_4 rfl (lv_at hl 1 rfl) ?_
    refine lv_sipush (v := 199) S.1 S.2.1 dX11_note_5 (by decide) ?_
    refine lv_icmp_gt (tgt := 27) S.1 S.2.1 dX11_note_8 (by decide) (fun q2 => ?_) (fun q2 => ?_)
    · have f := (if_pos q2).symm.trans f
      refine lv_iconst (v := (-1)) S.1 S.2.1 dX11_note_27 (by decide) ?_
      exact o_iret S hr hlo I f dX11_note_28
    · have f := (if_neg q2).symm.trans f
      refine lv_aload_n S.1 S.2.1 dX11_note_11 rfl (lv_at hl 0 rfl) ?_
      refine lv_iload_n S.1 S.2.1 dX11_note_12 rfl (lv_at hl 2 rfl) ?_
      obtain ⟨o3, e4, f⟩ := ob f
      refine o_Vi S (As := [.int x2]) (rest := []) (ci := 11) (M11_isSurfer l D cy b A fl e4) gX11_note_X11_isSurfer rfl rfl rfl cd11_isSurfer ⟨Nat.le_of_ble_eq_true rfl, Nat.le_of_ble_eq_true rfl⟩ I (gd e4).1 clX11 rfl rfl hl.1 rfl (Nat.le_of_ble_eq_true rfl) dX11_note_13 ⟨Nat.le_of_ble_eq_true rfl, Nat.le_of_ble_eq_true rfl⟩ (fun H locs I => ?_)
      refine lv_if_eq (tgt := 27) S.1 S.2.1 dX11_note_16 (by decide) (fun q5 => ?_) (fun q5 => ?_)
      · have f := (if_pos q5).symm.trans f
        refine lv_iconst (v := (-1)) S.1 S.2.1 dX11_note_27 (by decide) ?_
        exact o_iret S hr hlo I f dX11_note_28
      · have f := (if_neg q5).symm.trans f
        refine lv_aload_n S.1 S.2.1 dX11_note_19 rfl (lv_at hl 0 rfl) ?_
        refine lv_iload_n S.1 S.2.1 dX11_note_20 rfl (lv_at hl 3 rfl) ?_
        obtain ⟨o6, e7, f⟩ := ob f
        refine o_Vi S (As := [.int x3]) (rest := []) (ci := 11) (M11_isCell l D cy b A fl e7) gX11_note_X11_isCell rfl rfl rfl cd11_isCell ⟨Nat.le_of_ble_eq_true rfl, Nat.le_of_ble_eq_true rfl⟩ I (gd e7).1 clX11 rfl rfl hl.1 rfl (Nat.le_of_ble_eq_true rfl) dX11_note_21 ⟨Nat.le_of_ble_eq_true rfl, Nat.le_of_ble_eq_true rfl⟩ (fun H locs I => ?_)
        refine lv_if_ne (tgt := 29) S.1 S.2.1 dX11_note_24 (by decide) (fun q8 => ?_) (fun q8 => ?_)
        · have f := (if_neg q8).symm.trans f
          refine lv_aload_n S.1 S.2.1 dX11_note_29 rfl (lv_at hl 0 rfl) ?_
          obtain ⟨r9, e10, f⟩ := ob f
          refine o_gR S lf11_note_60 I e10 dX11_note_30 ?_
          refine lv_iload_n S.1 S.2.1 dX11_note_33 rfl (lv_at hl 1 rfl) ?_
          refine lv_iload_n S.1 S.2.1 dX11_note_34 rfl (lv_at hl 2 rfl) ?_
          refine lv_iload_n S.1 S.2.1 dX11_note_35 rfl (lv_at hl 3 rfl) ?_
          obtain ⟨o11, e12, f⟩ := ob f
          refine o_Vi S (As := [.int x1, .int x2, .int x3]) (rest := []) (ci := 3) (M3_addSeat l D cy b A fl e12) gX11_note_X3_addSeat rfl rfl rfl cd3_addSeat ⟨Nat.le_of_ble_eq_true rfl, Nat.le_of_ble_eq_true rfl⟩ I (gd e12).1 clX3 rfl rfl hl.1 rfl (Nat.le_of_ble_eq_true rfl) dX11_note_36 ⟨Nat.le_of_ble_eq_true rfl, Nat.le_of_ble_eq_true rfl⟩ (fun H locs I => ?_)
          exact o_iret S hr hlo I f dX11_note_39
        · have f := (if_pos q8).symm.trans f
          refine lv_iconst (v := (-1)) S.1 S.2.1 dX11_note_27 (by decide) ?_
          exact o_iret S hr hlo I f dX11_note_28
theorem M11_note (l : Launch) (D : va_G) (cy : Nat → ClassId) (b : Nat) (A : Nat → Prop) (fl : Bool) {h : PH} {a0 : Nat} {x1 : Int32} {x2 : Int32} {x3 : Int32} {out : Int32 × PH} (f : F11_note h a0 x1 x2 x3 = some out) : Met l yX11_note vX11_note ({ frames := 2, cells := 0, slots := 0, locals := 41 } : Room) (va_Pc [.ref (b + a0), .int x1, .int x2, .int x3] (ph_B D cy b A fl h)) (va_Qi (fun (r : Int32) (u : PH) => (r, u) = out) (ph_B D cy b A fl) A) 0 0 A :=
  o_met (by decide) rfl (Nat.le_of_ble_eq_true rfl) rfl (fun p e s m below meth c S hr hlo hnm ls hl I => T11_note_0 S hr hlo ((gd f).2) I (lv_sub hl [0, 1, 2, 3] rfl))
def vX11_odds : List Cond := .code yX11_odds cX11_odds 4 (some .int) :: TB
theorem gX11_odds_X11_isSurfer : GoodIn vX11_odds (wsV RX11 115 RX11 yX11_isSurfer vX11_isSurfer) := gV_of wT_33_17 wT_33_18 wT_33_19 wT_1_2 wT_33_20
theorem gX11_odds_X11_isWave : GoodIn vX11_odds (wsV RX11 147 RX11 yX11_isWave vX11_isWave) := gV_of wT_36_22 wT_36_23 wT_37_0 wT_1_2 wT_37_1
theorem gX11_odds_X11_isCell : GoodIn vX11_odds (wsV RX11 179 RX11 yX11_isCell vX11_isCell) := gV_of wT_38_1 wT_38_2 wT_38_3 wT_1_2 wT_38_4
theorem lf11_odds_37 : Fl vX11_odds RX11 37 11 5 := ⟨RX11, TX11, 14, rfl, by decide, (fun w h9 => List.mem_cons_of_mem _ (wC_wsX110 w h9)), (List.mem_cons_of_mem _ wT_2_3)⟩
theorem gX11_odds_X6_oddsAt : GoodIn vX11_odds (wsV RX11 182 RX6 yX6_oddsAt vX6_oddsAt) := gV_of wT_38_9 wT_38_10 wT_38_11 wT_2_2 wT_38_12
set_option maxHeartbeats 4000000 in
set_option maxRecDepth 100000 in
theorem T11_odds_0 (S : CallFix p m c cX11_odds 4 s args vX11_odds RX11) (hr : meth.sig.returnType = (some .int)) (hlo : meth.locks = false) {out : Int32 × PH} {h : PH} {a0 : Nat} {x1 : Int32} {x2 : Int32} {x3 : Int32} (f : F11_odds_0  h a0 x1 x2 x3 = some out) {H : Heap} {locs : List Loc} (I : ph_I D cy b A fl h s H locs) {ls : Array Slot} (hl : lv_has ls 4 [(0, .ref (b + a0)), (1, .int x1), (2, .int x2), (3, .int x3)]) : W p l e ({ frames := 4, cells := 0, slots := 0, locals := 103 } : Room) s m args below meth c H locs 0 0 (MQ below (va_Qi (fun (r : Int32) (u : PH) => (r, u) = out) (ph_B D cy b A fl) A) args s 0 0 A) (F0 m 0 ls []) := by
  unfold F11_odds_0 at f
  refine lv_aload_n S.1 S.2.1 dX11_odds_0 rfl (lv_at hl 0 rfl) ?_
  refine lv_iload_n S.1 S.2.1 dX11_odds_1 rfl (lv_at hl 1 rfl) ?_
  obtain ⟨o1, e2, f⟩ := ob f
  refine o_Vi S (As := [.int x1]) (rest := []) (ci := 11) (M11_isSurfer l D cy b A fl e2) gX11_odds_X11_isSurfer rfl rfl rfl cd11_isSurfer ⟨Nat.le_of_ble_eq_true rfl, Nat.le_of_ble_eq_true rfl⟩ I (gd e2).1 clX11 rfl rfl hl.1 rfl (Nat.le_of_ble_eq_true rfl) dX11_odds_2 ⟨Nat.le_of_ble_eq_true rfl, Nat.le_of_ble_eq_true rfl⟩ (fun H locs I => ?_)
  refine lv_if_eq (tgt := 24) S.1 S.2.1 dX11_odds_5 (by decide) (fun q3 => ?_) (fun q3 => ?_)
  · have f := (if_pos q3).symm.trans f
    refine lv_iconst (v := (-1)) S.1 S.2.1 dX11_odds_24 (by decide) ?_
    exact o_iret S hr hlo I f dX11_odds_25
  · have f := (if_neg q3).symm.trans f
    refine lv_aload_n S.1 S.2.1 dX11_odds_8 rfl (lv_at hl 0 rfl) ?_
    refine lv_iload_n S.1 S.2.1 dX11_odds_9 rfl (lv_at hl 2 rfl) ?_
    obtain ⟨o4, e5, f⟩ := ob f
    refine o_Vi S (As := [.int x2]) (rest := []) (ci := 11) (M11_isWave l D cy b A fl e5) gX11_odds_X11_isWave rfl rfl rfl cd11_isWave ⟨Nat.le_of_ble_eq_true rfl, Nat.le_of_ble_eq_true rfl⟩ I (gd e5).1 clX11 rfl rfl hl.1 rfl (Nat.le_of_ble_eq_true rfl) dX11_odds_10 ⟨Nat.le_of_ble_eq_true rfl, Nat.le_of_ble_eq_true rfl⟩ (fun H locs I => ?_)
    refine lv_if_eq (tgt := 24) S.1 S.2.1 dX11_odds_13 (by decide) (fun q6 => ?_) (fun q6 => ?_)
    · have f := (if_pos q6).symm.trans f
      refine lv_iconst (v := (-1)) S.1 S.2.1 dX11_odds_24 (by decide) ?_
      exact o_iret S hr hlo I f dX11_odds_25
    · have f := (if_neg q6).symm.trans f
      refine lv_aload_n S.1 S.2.1 dX11_odds_16 rfl (lv_at hl 0 rfl) ?_
      refine lv_iload_n S.1 S.2.1 dX11_odds_17 rfl (lv_at hl 3 rfl) ?_
      obtain ⟨o7, e8, f⟩ := ob f
      refine o_Vi S (As := [.int x3]) (rest := []) (ci := 11) (M11_isCell l D cy b A fl e8) gX11_odds_X11_isCell rfl rfl rfl cd11_isCell ⟨Nat.le_of_ble_eq_true rfl, Nat.le_of_ble_eq_true rfl⟩ I (gd e8).1 clX11 rfl rfl hl.1 rfl (Nat.le_of_ble_eq_true rfl) dX11_odds_18 ⟨Nat.le_of_ble_eq_true rfl, Nat.le_of_ble_eq_true rfl⟩ (fun H locs I => ?_)
      refine lv_if_ne (tgt := 26) S.1 S.2.1 dX11_odds_21 (by decide) (fun q9 => ?_) (fun q9 => ?_)
      · have f := (if_neg q9).symm.trans f
        refine lv_aload_n S.1 S.2.1 dX11_odds_26 rfl (lv_at hl 0 rfl) ?_
        obtain ⟨r10, e11, f⟩ := ob f
        refine o_gR S lf11_odds_37 I e11 dX11_odds_27 ?_
        refine lv_iload_n S.1 S.2.1 dX11_odds_30 rfl (lv_at hl 1 rfl) ?_
        refine lv_iload_n S.1 S.2.1 dX11_odds_31 rfl (lv_at hl 2 rfl) ?_
        refine lv_iload_n S.1 S.2.1 dX11_odds_32 rfl (lv_at hl 3 rfl) ?_
        obtain ⟨o12, e13, f⟩ := ob f
        refine o_Vi S (As := [.int x1, .int x2, .int x3]) (rest := []) (ci := 6) (M6_oddsAt l D cy b A fl e13) gX11_odds_X6_oddsAt rfl rfl rfl cd6_oddsAt ⟨Nat.le_of_ble_eq_true rfl, Nat.le_of_ble_eq_true rfl⟩ I (gd e13).1 clX6 rfl rfl hl.1 rfl (Nat.le_of_ble_eq_true rfl) dX11_odds_33 ⟨Nat.le_of_ble_eq_true rfl, Nat.le_of_ble_eq_true rfl⟩ (fun H locs I => ?_)
        exact o_iret S hr hlo I f dX11_odds_36
      · have f := (if_pos q9).symm.trans f
        refine lv_iconst (v := (-1)) S.1 S.2.1 dX11_odds_24 (by decide) ?_
        exact o_iret S hr hlo I f dX11_odds_25
theorem M11_odds (l : Launch) (D : va_G) (cy : Nat → ClassId) (b : Nat) (A : Nat → Prop) (fl : Bool) {h : PH} {a0 : Nat} {x1 : Int32} {x2 : Int32} {x3 : Int32} {out : Int32 × PH} (f : F11_odds h a0 x1 x2 x3 = some out) : Met l yX11_odds vX11_odds ({ frames := 4, cells := 0, slots := 0, locals := 103 } : Room) (va_Pc [.ref (b + a0), .int x1, .int x2, .int x3] (ph_B D cy b A fl h)) (va_Qi (fun (r : Int32) (u : PH) => (r, u) = out) (ph_B D cy b A fl) A) 0 0 A :=
  o_met (by decide) rfl (Nat.le_of_ble_eq_true rfl) rfl (fun p e s m below meth c S hr hlo hnm ls hl I => T11_odds_0 S hr hlo ((gd f).2) I (lv_sub hl [0, 1, 2, 3] rfl))
def vX11_order : List Cond := .code yX11_order cX11_order 4 (some .int) :: TB
theorem gX11_order_X11_isToCome : GoodIn vX11_order (wsV RX11 223 RX11 yX11_isToCome vX11_isToCome) := gV_of wT_48_8 wT_48_9 wT_48_10 wT_1_2 wT_48_11
theorem lf11_order_37 : Fl vX11_order RX11 37 11 5 := ⟨RX11, TX11, 14, rfl, by decide, (fun w h9 => List.mem_cons_of_mem _ (wC_wsX110 w h9)), (List.mem_cons_of_mem _ wT_2_3)⟩
theorem lf11_order_47 : Fl vX11_order RX11 47 11 7 := ⟨RX11, TX11, 14, rfl, by decide, (fun w h9 => List.mem_cons_of_mem _ (wC_wsX110 w h9)), (List.mem_cons_of_mem _ wT_2_8)⟩
theorem lf11_order_186 : Fl vX11_order RX11 186 4 0 := ⟨RX4, TX4, 11, rfl, by decide, (fun w h9 => List.mem_cons_of_mem _ (wC_wsX40 w h9)), (List.mem_cons_of_mem _ wT_34_1)⟩
theorem gX11_order_X6_lineUp : GoodIn vX11_order (wsV RX11 226 RX6 yX6_lineUp vX6_lineUp) := gV_of wT_48_12 wT_44_6 wT_44_7 wT_2_2 wT_44_8
theorem lf11_order_230 : Fl vX11_order RX11 230 6 6 := ⟨RX6, TX6, 9, rfl, by decide, (fun w h9 => List.mem_cons_of_mem _ (wC_wsX60 w h9)), (List.mem_cons_of_mem _ wT_48_7)⟩
set_option maxHeartbeats 4000000 in
set_option maxRecDepth 100000 in
theorem T11_order_0 (S : CallFix p m c cX11_order 4 s args vX11_order RX11) (hr : meth.sig.returnType = (some .int)) (hlo : meth.locks = false) {out : Int32 × PH} {h : PH} {a0 : Nat} {x1 : Int32} {x2 : Int32} (f : F11_order_0  h a0 x1 x2 = some out) {H : Heap} {locs : List Loc} (I : ph_I D cy b A fl h s H locs) {ls : Array Slot} (hl : lv_has ls 4 [(0, .ref (b + a0)), (1, .int x1), (2, .int x2)]) : W p l e ({ frames := 5, cells := 0, slots := 0, locals := 128 } : Room) s m args below meth c H locs 0 0 (MQ below (va_Qi (fun (r : Int32) (u : PH) => (r, u) = out) (ph_B D cy b A fl) A) args s 0 0 A) (F0 m 0 ls []) := by
  unfold F11_order_0 at f
  refine lv_aload_n S.1 S.2.1 dX11_order_0 rfl (lv_at hl 0 rfl) ?_
  refine lv_iload_n S.1 S.2.1 dX11_order_1 rfl (lv_at hl 1 rfl) ?_
  obtain ⟨o1, e2, f⟩ := ob f
  refine o_Vi S (As := [.int x1]) (rest := []) (ci := 11) (M11_isToCome l D cy b A fl e2) gX11_order_X11_isToCome rfl rfl rfl cd11_isToCome ⟨Nat.le_of_ble_eq_true rfl, Nat.le_of_ble_eq_true rfl⟩ I (gd e2).1 clX11 rfl rfl hl.1 rfl (Nat.le_of_ble_eq_true rfl) dX11_order_2 ⟨Nat.le_of_ble_eq_true rfl, Nat.le_of_ble_eq_true rfl⟩ (fun H locs I => ?_)
  refine lv_if_eq (tgt := 12) S.1 S.2.1 dX11_order_5 (by decide) (fun q3 => ?_) (fun q3 => ?_)
  · have f := (if_pos q3).symm.trans f
    refine lv_iconst (v := (-1)) S.1 S.2.1 dX11_order_12 (by decide) ?_
    exact o_iret S hr hlo I f dX11_order_13
  · have f := (if_neg q3).symm.trans f
    refine lv_iload_n S.1 S.2.1 dX11_order_8 rfl (lv_at hl 2 rfl) ?_
    refine lv_if_ge (tgt := 14) S.1 S.2.1 dX11_order_9 (by decide) (fun q4 => ?_) (fun q4 => ?_)
    · have f := (if_pos q4).symm.trans f
      refine lv_aload_n S.1 S.2.1 dX11_order_14 rfl (lv_at hl 0 rfl) ?_
      obtain ⟨r5, e6, f⟩ := ob f
      refine o_gR S lf11_order_37 I e6 dX11_order_15 ?_
      refine lv_aload_n S.1 S.2.1 dX11_order_18 rfl (lv_at hl 0 rfl) ?_
      obtain ⟨r7, e8, f⟩ := ob f
      refine o_gR S lf11_order_47 I e8 dX11_order_19 ?_
      refine lv_iload_n S.1 S.2.1 dX11_order_22 rfl (lv_at hl 1 rfl) ?_
      refine lv_aload_n S.1 S.2.1 dX11_order_23 rfl (lv_at hl 0 rfl) ?_
      obtain ⟨r9, e10, f⟩ := ob f
      refine o_gR S lf11_order_47 I e10 dX11_order_24 ?_
      obtain ⟨v11, e12, f⟩ := ob f
      refine o_gI S lf11_order_186 I e12 dX11_order_27 ?_
      obtain ⟨o13, e14, f⟩ := ob f
      refine o_Vi S (As := [.ref (b + r7), .int x1, .int v11]) (rest := []) (ci := 6) (M6_lineUp l D cy b A fl e14) gX11_order_X6_lineUp rfl rfl rfl cd6_lineUp ⟨Nat.le_of_ble_eq_true rfl, Nat.le_of_ble_eq_true rfl⟩ I (gd e14).1 clX6 rfl rfl hl.1 rfl (Nat.le_of_ble_eq_true rfl) dX11_order_30 ⟨Nat.le_of_ble_eq_true rfl, Nat.le_of_ble_eq_true rfl⟩ (fun H locs I => ?_)
      refine lv_istore_n (lv' := [(3, .int o13.1), (0, .ref (b + a0)), (1, .int x1), (2, .int x2)]) S.1 S.2.1 dX11_order_33 rfl hl (by decide) rfl (fun ls hl => ?_)
      refine lv_iload_n S.1 S.2.1 dX11_order_34 rfl (lv_at hl 3 rfl) ?_
      refine lv_iload_n S.1 S.2.1 dX11_order_35 rfl (lv_at hl 0 rfl) ?_
      refine lv_icmp_ge (tgt := 51) S.1 S.2.1 dX11_order_36 (by decide) (fun q15 => ?_) (fun q15 => ?_)
      · have f := (if_pos q15).symm.trans f
        refine lv_bipush (v := (-2)) S.1 S.2.1 dX11_order_51 (by decide) ?_
        exact o_iret S hr hlo I f dX11_order_53
      · have f := (if_neg q15).symm.trans f
        refine lv_aload_n S.1 S.2.1 dX11_order_39 rfl (lv_at hl 1 rfl) ?_
        obtain ⟨r16, e17, f⟩ := ob f
        refine o_gR S lf11_order_37 I e17 dX11_order_40 ?_
        obtain ⟨r18, e19, f⟩ := ob f
        refine o_gR S lf11_order_230 I e19 dX11_order_43 ?_
        refine lv_iload_n S.1 S.2.1 dX11_order_46 rfl (lv_at hl 3 rfl) ?_
        obtain ⟨v21, e20, f⟩ := ob f
        refine o_iald S I e20 dX11_order_47 ?_
        refine lv_goto (tgt := 53) S.1 S.2.1 dX11_order_48 (by decide) ?_
        exact o_iret S hr hlo I f dX11_order_53
    · have f := (if_neg q4).symm.trans f
      refine lv_iconst (v := (-1)) S.1 S.2.1 dX11_order_12 (by decide) ?_
      exact o_iret S hr hlo I f dX11_order_13
theorem M11_order (l : Launch) (D : va_G) (cy : Nat → ClassId) (b : Nat) (A : Nat → Prop) (fl : Bool) {h : PH} {a0 : Nat} {x1 : Int32} {x2 : Int32} {out : Int32 × PH} (f : F11_order h a0 x1 x2 = some out) : Met l yX11_order vX11_order ({ frames := 5, cells := 0, slots := 0, locals := 128 } : Room) (va_Pc [.ref (b + a0), .int x1, .int x2] (ph_B D cy b A fl h)) (va_Qi (fun (r : Int32) (u : PH) => (r, u) = out) (ph_B D cy b A fl) A) 0 0 A :=
  o_met (by decide) rfl (Nat.le_of_ble_eq_true rfl) rfl (fun p e s m below meth c S hr hlo hnm ls hl I => T11_order_0 S hr hlo ((gd f).2) I (lv_sub hl [0, 1, 2] rfl))
def vX11_over : List Cond := .code yX11_over cX11_over 6 (some .int) :: TB
theorem lf11_over_18 : Fl vX11_over RX11 18 11 3 := ⟨RX11, TX11, 14, rfl, by decide, (fun w h9 => List.mem_cons_of_mem _ (wC_wsX110 w h9)), (List.mem_cons_of_mem _ wT_1_18)⟩
theorem lf11_over_302 : Fl vX11_over RX11 302 8 8 := ⟨RX8, TX8, 14, rfl, by decide, (fun w h9 => List.mem_cons_of_mem _ (wC_wsX80 w h9)), (List.mem_cons_of_mem _ wT_59_10)⟩
theorem gX11_over_X8_bankWaves : GoodIn vX11_over (wsV RX11 305 RX8 yX8_bankWaves vX8_bankWaves) := gV_of wT_59_11 wT_59_12 wT_59_13 wT_1_17 wT_59_14
theorem lf11_over_150 : Fl vX11_over RX11 150 8 5 := ⟨RX8, TX8, 14, rfl, by decide, (fun w h9 => List.mem_cons_of_mem _ (wC_wsX80 w h9)), (List.mem_cons_of_mem _ wT_36_16)⟩
theorem lf11_over_299 : Fl vX11_over RX11 299 10 1 := ⟨RX10, TX10, 8, rfl, by decide, (fun w h9 => List.mem_cons_of_mem _ (wC_wsX100 w h9)), (List.mem_cons_of_mem _ wT_37_2)⟩
theorem lf11_over_154 : Fl vX11_over RX11 154 10 4 := ⟨RX10, TX10, 8, rfl, by decide, (fun w h9 => List.mem_cons_of_mem _ (wC_wsX100 w h9)), (List.mem_cons_of_mem _ wT_36_17)⟩
theorem lf11_over_37 : Fl vX11_over RX11 37 11 5 := ⟨RX11, TX11, 14, rfl, by decide, (fun w h9 => List.mem_cons_of_mem _ (wC_wsX110 w h9)), (List.mem_cons_of_mem _ wT_2_3)⟩
theorem lf11_over_47 : Fl vX11_over RX11 47 11 7 := ⟨RX11, TX11, 14, rfl, by decide, (fun w h9 => List.mem_cons_of_mem _ (wC_wsX110 w h9)), (List.mem_cons_of_mem _ wT_2_8)⟩
theorem lf11_over_122 : Fl vX11_over RX11 122 4 5 := ⟨RX4, TX4, 11, rfl, by decide, (fun w h9 => List.mem_cons_of_mem _ (wC_wsX40 w h9)), (List.mem_cons_of_mem _ wT_33_11)⟩
theorem gX11_over_X6_worthAt : GoodIn vX11_over (wsV RX11 275 RX6 yX6_worthAt vX6_worthAt) := gV_of wT_56_5 wT_49_18 wT_49_19 wT_2_2 wT_49_20
theorem gX11_over_X11_isSurfer : GoodIn vX11_over (wsV RX11 115 RX11 yX11_isSurfer vX11_isSurfer) := gV_of wT_33_17 wT_33_18 wT_33_19 wT_1_2 wT_33_20
theorem lf11_over_296 : Fl vX11_over RX11 296 8 7 := ⟨RX8, TX8, 14, rfl, by decide, (fun w h9 => List.mem_cons_of_mem _ (wC_wsX80 w h9)), (List.mem_cons_of_mem _ wT_59_9)⟩
theorem gX11_over_X11_firstToCome : GoodIn vX11_over (wsV RX11 233 RX11 yX11_firstToCome vX11_firstToCome) := gV_of wT_49_9 wT_49_10 wT_49_11 wT_1_2 wT_49_12
theorem gX11_over_X6_seatFrom : GoodIn vX11_over (wsV RX11 237 RX6 yX6_seatFrom vX6_seatFrom) := gV_of wT_49_13 wT_49_14 wT_49_15 wT_2_2 wT_49_16
theorem lf11_over_186 : Fl vX11_over RX11 186 4 0 := ⟨RX4, TX4, 11, rfl, by decide, (fun w h9 => List.mem_cons_of_mem _ (wC_wsX40 w h9)), (List.mem_cons_of_mem _ wT_34_1)⟩
set_option maxHeartbeats 4000000 in
set_option maxRecDepth 100000 in
theorem T11_over_93 (S : CallFix p m c cX11_over 6 s args vX11_over RX11) (hr : meth.sig.returnType = (some .int)) (hlo : meth.locks = false) {out : Int32 × PH} : ∀ (n : Nat) {h : PH} {a0 : Nat} {x1 : Int32} {x2 : Int32} {x3 : Int32} {x4 : Int32} {x5 : Int32} (f : F11_over_93  n h a0 x1 x2 x3 x4 x5 = some out) {H : Heap} {locs : List Loc} (I : ph_I D cy b A fl h s H locs) {ls : Array Slot} (hl : lv_has ls 6 [(0, .ref (b + a0)), (1, .int x1), (2, .int x2), (3, .int x3), (4, .int x4), (5, .int x5)]), W p l e ({ frames := 6, cells := 0, slots := 0, locals := 151 } : Room) s m args below meth c H locs 0 0 (MQ below (va_Qi (fun (r : Int32) (u : PH) => (r, u) = out) (ph_B D cy b A fl) A) args s 0 0 A) (F0 m 93 ls []) := by
  intro n
  induction n with
  | zero => intro h a0 x1 x2 x3 x4 x5 f; rw [F11_over_93] at f; cases f
  | succ n ih =>
    intro h a0 x1 x2 x3 x4 x5 f H locs I ls hl
    rw [F11_over_93] at f
    refine lv_iload S.1 S.2.1 dX11_over_93 (lv_at hl 5 rfl) ?_
    refine lv_iload_n S.1 S.2.1 dX11_over_95 rfl (lv_at hl 2 rfl) ?_
    refine lv_icmp_gt (tgt := 191) S.1 S.2.1 dX11_over_96 (by decide) (fun q1 => ?_) (fun q1 => ?_)
    · have f := (if_pos q1).symm.trans f
      refine lv_bipush (v := (-2)) S.1 S.2.1 dX11_over_191 (by decide) ?_
      exact o_iret S hr hlo I f dX11_over_193
    · have f := (if_neg q1).symm.trans f
      refine lv_bipush (v := 100) S.1 S.2.1 dX11_over_99 (by decide) ?_
      refine lv_aload_n S.1 S.2.1 dX11_over_101 rfl (lv_at hl 0 rfl) ?_
      obtain ⟨r2, e3, f⟩ := ob f
      refine o_gR S lf11_over_18 I e3 dX11_over_102 ?_
      obtain ⟨v4, e5, f⟩ := ob f
      refine o_gI S lf11_over_302 I e5 dX11_over_105 ?_
      refine lv_imul S.1 S.2.1 dX11_over_108 ?_
      refine lv_aload_n S.1 S.2.1 dX11_over_109 rfl (lv_at hl 0 rfl) ?_
      obtain ⟨r6, e7, f⟩ := ob f
      refine o_gR S lf11_over_18 I e7 dX11_over_110 ?_
      refine lv_iload S.1 S.2.1 dX11_over_113 (lv_at hl 5 rfl) ?_
      refine lv_iload_n S.1 S.2.1 dX11_over_115 rfl (lv_at hl 2 rfl) ?_
      obtain ⟨o8, e9, f⟩ := ob f
      refine o_Vi S (As := [.int x5, .int x2]) (rest := [.int (100 * v4)]) (ci := 8) (M8_bankWaves l D cy b A fl e9) gX11_over_X8_bankWaves rfl rfl rfl cd8_bankWaves ⟨Nat.le_of_ble_eq_true rfl, Nat.le_of_ble_eq_true rfl⟩ I (gd e9).1 clX8 rfl rfl hl.1 rfl (Nat.le_of_ble_eq_true rfl) dX11_over_116 ⟨Nat.le_of_ble_eq_true rfl, Nat.le_of_ble_eq_true rfl⟩ (fun H locs I => ?_)
      refine lv_imul S.1 S.2.1 dX11_over_119 ?_
      refine lv_iload S.1 S.2.1 dX11_over_120 (lv_at hl 4 rfl) ?_
      refine lv_icmp_le (tgt := 128) S.1 S.2.1 dX11_over_122 (by decide) (fun q10 => ?_) (fun q10 => ?_)
      · have f := (if_pos q10).symm.trans f
        refine lv_iload_n S.1 S.2.1 dX11_over_128 rfl (lv_at hl 3 rfl) ?_
        refine lv_aload_n S.1 S.2.1 dX11_over_129 rfl (lv_at hl 0 rfl) ?_
        obtain ⟨r11, e12, f⟩ := ob f
        refine o_gR S lf11_over_18 I e12 dX11_over_130 ?_
        obtain ⟨r13, e14, f⟩ := ob f
        refine o_gR S lf11_over_150 I e14 dX11_over_133 ?_
        obtain ⟨v15, e16, f⟩ := ob f
        refine o_gI S lf11_over_299 I e16 dX11_over_136 ?_
        refine lv_icmp_ge (tgt := 185) S.1 S.2.1 dX11_over_139 (by decide) (fun q17 => ?_) (fun q17 => ?_)
        · have f := (if_pos q17).symm.trans f
          refine lv_iinc (v := (x5 + 1)) (lv' := [(5, .int (x5 + 1)), (0, .ref (b + a0)), (1, .int x1), (2, .int x2), (3, .int x3), (4, .int x4)]) S.1 S.2.1 dX11_over_185 hl (k := 5) rfl (congrArg (fun z => x5 + z) (by decide)) (by decide) rfl (fun ls hl => ?_)
          refine lv_goto (tgt := 93) S.1 S.2.1 dX11_over_188 (by decide) ?_
          exact ih f I (lv_sub hl [1, 2, 3, 4, 5, 0] rfl)
        · have f := (if_neg q17).symm.trans f
          refine lv_aload_n S.1 S.2.1 dX11_over_142 rfl (lv_at hl 0 rfl) ?_
          obtain ⟨r18, e19, f⟩ := ob f
          refine o_gR S lf11_over_18 I e19 dX11_over_143 ?_
          obtain ⟨r20, e21, f⟩ := ob f
          refine o_gR S lf11_over_150 I e21 dX11_over_146 ?_
          obtain ⟨r22, e23, f⟩ := ob f
          refine o_gR S lf11_over_154 I e23 dX11_over_149 ?_
          refine lv_iload_n S.1 S.2.1 dX11_over_152 rfl (lv_at hl 3 rfl) ?_
          obtain ⟨v25, e24, f⟩ := ob f
          refine o_iald S I e24 dX11_over_153 ?_
          refine lv_iload S.1 S.2.1 dX11_over_154 (lv_at hl 5 rfl) ?_
          refine lv_icmp_ne (tgt := 185) S.1 S.2.1 dX11_over_156 (by decide) (fun q26 => ?_) (fun q26 => ?_)
          · have f := (if_neg q26).symm.trans f
            refine lv_iinc (v := (x5 + 1)) (lv' := [(5, .int (x5 + 1)), (0, .ref (b + a0)), (1, .int x1), (2, .int x2), (3, .int x3), (4, .int x4)]) S.1 S.2.1 dX11_over_185 hl (k := 5) rfl (congrArg (fun z => x5 + z) (by decide)) (by decide) rfl (fun ls hl => ?_)
            refine lv_goto (tgt := 93) S.1 S.2.1 dX11_over_188 (by decide) ?_
            exact ih f I (lv_sub hl [1, 2, 3, 4, 5, 0] rfl)
          · have f := (if_pos q26).symm.trans f
            refine lv_iload S.1 S.2.1 dX11_over_159 (lv_at hl 4 rfl) ?_
            refine lv_aload_n S.1 S.2.1 dX11_over_161 rfl (lv_at hl 0 rfl) ?_
            obtain ⟨r27, e28, f⟩ := ob f
            refine o_gR S lf11_over_37 I e28 dX11_over_162 ?_
            refine lv_iload_n S.1 S.2.1 dX11_over_165 rfl (lv_at hl 1 rfl) ?_
            refine lv_iload_n S.1 S.2.1 dX11_over_166 rfl (lv_at hl 3 rfl) ?_
            refine lv_aload_n S.1 S.2.1 dX11_over_167 rfl (lv_at hl 0 rfl) ?_
            obtain ⟨r29, e30, f⟩ := ob f
            refine o_gR S lf11_over_47 I e30 dX11_over_168 ?_
            obtain ⟨r31, e32, f⟩ := ob f
            refine o_gR S lf11_over_122 I e32 dX11_over_171 ?_
            refine lv_iload_n S.1 S.2.1 dX11_over_174 rfl (lv_at hl 1 rfl) ?_
            obtain ⟨v34, e33, f⟩ := ob f
            refine o_iald S I e33 dX11_over_175 ?_
            obtain ⟨o35, e36, f⟩ := ob f
            refine o_Vi S (As := [.int x1, .int x3, .int v34]) (rest := [.int x4]) (ci := 6) (M6_worthAt l D cy b A fl e36) gX11_over_X6_worthAt rfl rfl rfl cd6_worthAt ⟨Nat.le_of_ble_eq_true rfl, Nat.le_of_ble_eq_true rfl⟩ I (gd e36).1 clX6 rfl rfl hl.1 rfl (Nat.le_of_ble_eq_true rfl) dX11_over_176 ⟨Nat.le_of_ble_eq_true rfl, Nat.le_of_ble_eq_true rfl⟩ (fun H locs I => ?_)
            refine lv_isub S.1 S.2.1 dX11_over_179 ?_
            refine lv_istore (lv' := [(4, .int (x4 - o35.1)), (0, .ref (b + a0)), (1, .int x1), (2, .int x2), (3, .int x3), (5, .int x5)]) S.1 S.2.1 dX11_over_180 hl (by decide) rfl (fun ls hl => ?_)
            refine lv_iinc (v := (x3 + 1)) (lv' := [(3, .int (x3 + 1)), (4, .int (x4 - o35.1)), (0, .ref (b + a0)), (1, .int x1), (2, .int x2), (5, .int x5)]) S.1 S.2.1 dX11_over_182 hl (k := 4) rfl (congrArg (fun z => x3 + z) (by decide)) (by decide) rfl (fun ls hl => ?_)
            refine lv_iinc (v := (x5 + 1)) (lv' := [(5, .int (x5 + 1)), (3, .int (x3 + 1)), (4, .int (x4 - o35.1)), (0, .ref (b + a0)), (1, .int x1), (2, .int x2)]) S.1 S.2.1 dX11_over_185 hl (k := 5) rfl (congrArg (fun z => x5 + z) (by decide)) (by decide) rfl (fun ls hl => ?_)
            refine lv_goto (tgt := 93) S.1 S.2.1 dX11_over_188 (by decide) ?_
            exact ih f I (lv_sub hl [3, 4, 5, 1, 2, 0] rfl)
      · have f := (if_neg q10).symm.trans f
        refine lv_iload S.1 S.2.1 dX11_over_125 (lv_at hl 5 rfl) ?_
        exact o_iret S hr hlo I f dX11_over_127
set_option maxHeartbeats 4000000 in
set_option maxRecDepth 100000 in
theorem T11_over_0 (S : CallFix p m c cX11_over 6 s args vX11_over RX11) (hr : meth.sig.returnType = (some .int)) (hlo : meth.locks = false) {out : Int32 × PH} {h : PH} {a0 : Nat} {x1 : Int32} (f : F11_over_0  h a0 x1 = some out) {H : Heap} {locs : List Loc} (I : ph_I D cy b A fl h s H locs) {ls : Array Slot} (hl : lv_has ls 6 [(0, .ref (b + a0)), (1, .int x1)]) : W p l e ({ frames := 6, cells := 0, slots := 0, locals := 151 } : Room) s m args below meth c H locs 0 0 (MQ below (va_Qi (fun (r : Int32) (u : PH) => (r, u) = out) (ph_B D cy b A fl) A) args s 0 0 A) (F0 m 0 ls []) := by
  unfold F11_over_0 at f
  refine lv_aload_n S.1 S.2.1 dX11_over_0 rfl (lv_at hl 0 rfl) ?_
  refine lv_iload_n S.1 S.2.1 dX11_over_1 rfl (lv_at hl 1 rfl) ?_
  obtain ⟨o1, e2, f⟩ := ob f
  refine o_Vi S (As := [.int x1]) (rest := []) (ci := 11) (M11_isSurfer l D cy b A fl e2) gX11_over_X11_isSurfer rfl rfl rfl cd11_isSurfer ⟨Nat.le_of_ble_eq_true rfl, Nat.le_of_ble_eq_true rfl⟩ I (gd e2).1 clX11 rfl rfl hl.1 rfl (Nat.le_of_ble_eq_true rfl) dX11_over_2 ⟨Nat.le_of_ble_eq_true rfl, Nat.le_of_ble_eq_true rfl⟩ (fun H locs I => ?_)
  refine lv_if_eq (tgt := 33) S.1 S.2.1 dX11_over_5 (by decide) (fun q3 => ?_) (fun q3 => ?_)
  · have f := (if_pos q3).symm.trans f
    refine lv_iconst (v := (-1)) S.1 S.2.1 dX11_over_33 (by decide) ?_
    exact o_iret S hr hlo I f dX11_over_34
  · have f := (if_neg q3).symm.trans f
    refine lv_aload_n S.1 S.2.1 dX11_over_8 rfl (lv_at hl 0 rfl) ?_
    obtain ⟨r4, e5, f⟩ := ob f
    refine o_gR S lf11_over_18 I e5 dX11_over_9 ?_
    obtain ⟨v6, e7, f⟩ := ob f
    refine o_gI S lf11_over_296 I e7 dX11_over_12 ?_
    refine lv_iconst (v := 1) S.1 S.2.1 dX11_over_15 (by decide) ?_
    refine lv_icmp_lt (tgt := 33) S.1 S.2.1 dX11_over_16 (by decide) (fun q8 => ?_) (fun q8 => ?_)
    · have f := (if_pos q8).symm.trans f
      refine lv_iconst (v := (-1)) S.1 S.2.1 dX11_over_33 (by decide) ?_
      exact o_iret S hr hlo I f dX11_over_34
    · have f := (if_neg q8).symm.trans f
      refine lv_aload_n S.1 S.2.1 dX11_over_19 rfl (lv_at hl 0 rfl) ?_
      obtain ⟨r9, e10, f⟩ := ob f
      refine o_gR S lf11_over_18 I e10 dX11_over_20 ?_
      obtain ⟨r11, e12, f⟩ := ob f
      refine o_gR S lf11_over_150 I e12 dX11_over_23 ?_
      obtain ⟨v13, e14, f⟩ := ob f
      refine o_gI S lf11_over_299 I e14 dX11_over_26 ?_
      refine lv_iconst (v := 1) S.1 S.2.1 dX11_over_29 (by decide) ?_
      refine lv_icmp_ge (tgt := 35) S.1 S.2.1 dX11_over_30 (by decide) (fun q15 => ?_) (fun q15 => ?_)
      · have f := (if_pos q15).symm.trans f
        refine lv_aload_n S.1 S.2.1 dX11_over_35 rfl (lv_at hl 0 rfl) ?_
        obtain ⟨r16, e17, f⟩ := ob f
        refine o_gR S lf11_over_18 I e17 dX11_over_36 ?_
        obtain ⟨r18, e19, f⟩ := ob f
        refine o_gR S lf11_over_150 I e19 dX11_over_39 ?_
        obtain ⟨r20, e21, f⟩ := ob f
        refine o_gR S lf11_over_154 I e21 dX11_over_42 ?_
        refine lv_aload_n S.1 S.2.1 dX11_over_45 rfl (lv_at hl 0 rfl) ?_
        obtain ⟨r22, e23, f⟩ := ob f
        refine o_gR S lf11_over_18 I e23 dX11_over_46 ?_
        obtain ⟨r24, e25, f⟩ := ob f
        refine o_gR S lf11_over_150 I e25 dX11_over_49 ?_
        obtain ⟨v26, e27, f⟩ := ob f
        refine o_gI S lf11_over_299 I e27 dX11_over_52 ?_
        refine lv_iconst (v := 1) S.1 S.2.1 dX11_over_55 (by decide) ?_
        refine lv_isub S.1 S.2.1 dX11_over_56 ?_
        obtain ⟨v29, e28, f⟩ := ob f
        refine o_iald S I e28 dX11_over_57 ?_
        refine lv_istore_n (lv' := [(2, .int v29), (0, .ref (b + a0)), (1, .int x1)]) S.1 S.2.1 dX11_over_58 rfl hl (by decide) rfl (fun ls hl => ?_)
        refine lv_aload_n S.1 S.2.1 dX11_over_59 rfl (lv_at hl 1 rfl) ?_
        obtain ⟨o30, e31, f⟩ := ob f
        refine o_Vi S (As := []) (rest := []) (ci := 11) (M11_firstToCome l D cy b A fl e31) gX11_over_X11_firstToCome rfl rfl rfl cd11_firstToCome ⟨Nat.le_of_ble_eq_true rfl, Nat.le_of_ble_eq_true rfl⟩ I (gd e31).1 clX11 rfl rfl hl.1 rfl (Nat.le_of_ble_eq_true rfl) dX11_over_60 ⟨Nat.le_of_ble_eq_true rfl, Nat.le_of_ble_eq_true rfl⟩ (fun H locs I => ?_)
        refine lv_istore_n (lv' := [(3, .int o30.1), (2, .int v29), (0, .ref (b + a0)), (1, .int x1)]) S.1 S.2.1 dX11_over_63 rfl hl (by decide) rfl (fun ls hl => ?_)
        refine lv_aload_n S.1 S.2.1 dX11_over_64 rfl (lv_at hl 2 rfl) ?_
        obtain ⟨r32, e33, f⟩ := ob f
        refine o_gR S lf11_over_37 I e33 dX11_over_65 ?_
        refine lv_iload_n S.1 S.2.1 dX11_over_68 rfl (lv_at hl 3 rfl) ?_
        refine lv_aload_n S.1 S.2.1 dX11_over_69 rfl (lv_at hl 2 rfl) ?_
        obtain ⟨r34, e35, f⟩ := ob f
        refine o_gR S lf11_over_47 I e35 dX11_over_70 ?_
        obtain ⟨r36, e37, f⟩ := ob f
        refine o_gR S lf11_over_122 I e37 dX11_over_73 ?_
        refine lv_iload_n S.1 S.2.1 dX11_over_76 rfl (lv_at hl 3 rfl) ?_
        obtain ⟨v39, e38, f⟩ := ob f
        refine o_iald S I e38 dX11_over_77 ?_
        refine lv_iload_n S.1 S.2.1 dX11_over_78 rfl (lv_at hl 0 rfl) ?_
        obtain ⟨o40, e41, f⟩ := ob f
        refine o_Vi S (As := [.int x1, .int v39, .int o30.1]) (rest := []) (ci := 6) (M6_seatFrom l D cy b A fl e41) gX11_over_X6_seatFrom rfl rfl rfl cd6_seatFrom ⟨Nat.le_of_ble_eq_true rfl, Nat.le_of_ble_eq_true rfl⟩ I (gd e41).1 clX6 rfl rfl hl.1 rfl (Nat.le_of_ble_eq_true rfl) dX11_over_79 ⟨Nat.le_of_ble_eq_true rfl, Nat.le_of_ble_eq_true rfl⟩ (fun H locs I => ?_)
        refine lv_istore (lv' := [(4, .int o40.1), (3, .int o30.1), (2, .int v29), (0, .ref (b + a0)), (1, .int x1)]) S.1 S.2.1 dX11_over_82 hl (by decide) rfl (fun ls hl => ?_)
        refine lv_aload_n S.1 S.2.1 dX11_over_84 rfl (lv_at hl 3 rfl) ?_
        obtain ⟨r42, e43, f⟩ := ob f
        refine o_gR S lf11_over_47 I e43 dX11_over_85 ?_
        obtain ⟨v44, e45, f⟩ := ob f
        refine o_gI S lf11_over_186 I e45 dX11_over_88 ?_
        refine lv_istore (lv' := [(5, .int v44), (4, .int o40.1), (3, .int o30.1), (2, .int v29), (0, .ref (b + a0)), (1, .int x1)]) S.1 S.2.1 dX11_over_91 hl (by decide) rfl (fun ls hl => ?_)
        exact T11_over_93 S hr hlo  1024 f I (lv_sub hl [4, 5, 3, 2, 1, 0] rfl)
      · have f := (if_neg q15).symm.trans f
        refine lv_iconst (v := (-1)) S.1 S.2.1 dX11_over_33 (by decide) ?_
        exact o_iret S hr hlo I f dX11_over_34
theorem M11_over (l : Launch) (D : va_G) (cy : Nat → ClassId) (b : Nat) (A : Nat → Prop) (fl : Bool) {h : PH} {a0 : Nat} {x1 : Int32} {out : Int32 × PH} (f : F11_over h a0 x1 = some out) : Met l yX11_over vX11_over ({ frames := 6, cells := 0, slots := 0, locals := 151 } : Room) (va_Pc [.ref (b + a0), .int x1] (ph_B D cy b A fl h)) (va_Qi (fun (r : Int32) (u : PH) => (r, u) = out) (ph_B D cy b A fl) A) 0 0 A :=
  o_met (by decide) rfl (Nat.le_of_ble_eq_true rfl) rfl (fun p e s m below meth c S hr hlo hnm ls hl I => T11_over_0 S hr hlo ((gd f).2) I (lv_sub hl [0, 1] rfl))
def vX11_peak : List Cond := .code yX11_peak cX11_peak 2 (some .int) :: TB
theorem lf11_peak_18 : Fl vX11_peak RX11 18 11 3 := ⟨RX11, TX11, 14, rfl, by decide, (fun w h9 => List.mem_cons_of_mem _ (wC_wsX110 w h9)), (List.mem_cons_of_mem _ wT_1_18)⟩
theorem lf11_peak_170 : Fl vX11_peak RX11 170 8 3 := ⟨RX8, TX8, 14, rfl, by decide, (fun w h9 => List.mem_cons_of_mem _ (wC_wsX80 w h9)), (List.mem_cons_of_mem _ wT_37_15)⟩
theorem lf11_peak_173 : Fl vX11_peak RX11 173 8 0 := ⟨RX8, TX8, 14, rfl, by decide, (fun w h9 => List.mem_cons_of_mem _ (wC_wsX80 w h9)), (List.mem_cons_of_mem _ wT_37_16)⟩
theorem lf11_peak_37 : Fl vX11_peak RX11 37 11 5 := ⟨RX11, TX11, 14, rfl, by decide, (fun w h9 => List.mem_cons_of_mem _ (wC_wsX110 w h9)), (List.mem_cons_of_mem _ wT_2_3)⟩
theorem gX11_peak_X6_peakXAt : GoodIn vX11_peak (wsV RX11 176 RX6 yX6_peakXAt vX6_peakXAt) := gV_of wT_34_2 wT_24_13 wT_24_14 wT_2_2 wT_24_15
set_option maxHeartbeats 4000000 in
set_option maxRecDepth 100000 in
theorem T11_peak_0 (S : CallFix p m c cX11_peak 2 s args vX11_peak RX11) (hr : meth.sig.returnType = (some .int)) (hlo : meth.locks = false) {out : Int32 × PH} {h : PH} {a0 : Nat} {x1 : Int32} (f : F11_peak_0  h a0 x1 = some out) {H : Heap} {locs : List Loc} (I : ph_I D cy b A fl h s H locs) {ls : Array Slot} (hl : lv_has ls 2 [(0, .ref (b + a0)), (1, .int x1)]) : W p l e ({ frames := 5, cells := 0, slots := 0, locals := 125 } : Room) s m args below meth c H locs 0 0 (MQ below (va_Qi (fun (r : Int32) (u : PH) => (r, u) = out) (ph_B D cy b A fl) A) args s 0 0 A) (F0 m 0 ls []) := by
  unfold F11_peak_0 at f
  refine lv_iload_n S.1 S.2.1 dX11_peak_0 rfl (lv_at hl 1 rfl) ?_
  refine lv_if_lt (tgt := 11) S.1 S.2.1 dX11_peak_1 (by decide) (fun q1 => ?_) (fun q1 => ?_)
  · have f := (if_pos q1).symm.trans f
    refine lv_iconst (v := (-1)) S.1 S.2.1 dX11_peak_11 (by decide) ?_
    exact o_iret S hr hlo I f dX11_peak_12
  · have f := (if_neg q1).symm.trans f
    refine lv_iload_n S.1 S.2.1 dX11_peak_4 rfl (lv_at hl 1 rfl) ?_
    refine lv_sipush (v := 199) S.1 S.2.1 dX11_peak_5 (by decide) ?_
    refine lv_icmp_le (tgt := 13) S.1 S.2.1 dX11_peak_8 (by decide) (fun q2 => ?_) (fun q2 => ?_)
    · have f := (if_pos q2).symm.trans f
      refine lv_aload_n S.1 S.2.1 dX11_peak_13 rfl (lv_at hl 0 rfl) ?_
      obtain ⟨r3, e4, f⟩ := ob f
      refine o_gR S lf11_peak_18 I e4 dX11_peak_14 ?_
      obtain ⟨v5, e6, f⟩ := ob f
      refine o_gI S lf11_peak_170 I e6 dX11_peak_17 ?_
      refine lv_aload_n S.1 S.2.1 dX11_peak_20 rfl (lv_at hl 0 rfl) ?_
      obtain ⟨r7, e8, f⟩ := ob f
      refine o_gR S lf11_peak_18 I e8 dX11_peak_21 ?_
      obtain ⟨v9, e10, f⟩ := ob f
      refine o_gI S lf11_peak_173 I e10 dX11_peak_24 ?_
      refine lv_imul S.1 S.2.1 dX11_peak_27 ?_
      refine lv_aload_n S.1 S.2.1 dX11_peak_28 rfl (lv_at hl 0 rfl) ?_
      obtain ⟨r11, e12, f⟩ := ob f
      refine o_gR S lf11_peak_37 I e12 dX11_peak_29 ?_
      refine lv_iload_n S.1 S.2.1 dX11_peak_32 rfl (lv_at hl 1 rfl) ?_
      obtain ⟨o13, e14, f⟩ := ob f
      refine o_Vi S (As := [.int x1]) (rest := [.int (v5 * v9)]) (ci := 6) (M6_peakXAt l D cy b A fl e14) gX11_peak_X6_peakXAt rfl rfl rfl cd6_peakXAt ⟨Nat.le_of_ble_eq_true rfl, Nat.le_of_ble_eq_true rfl⟩ I (gd e14).1 clX6 rfl rfl hl.1 rfl (Nat.le_of_ble_eq_true rfl) dX11_peak_33 ⟨Nat.le_of_ble_eq_true rfl, Nat.le_of_ble_eq_true rfl⟩ (fun H locs I => ?_)
      refine lv_iadd S.1 S.2.1 dX11_peak_36 ?_
      exact o_iret S hr hlo I f dX11_peak_37
    · have f := (if_neg q2).symm.trans f
      refine lv_iconst (v := (-1)) S.1 S.2.1 dX11_peak_11 (by decide) ?_
      exact o_iret S hr hlo I f dX11_peak_12
theorem M11_peak (l : Launch) (D : va_G) (cy : Nat → ClassId) (b : Nat) (A : Nat → Prop) (fl : Bool) {h : PH} {a0 : Nat} {x1 : Int32} {out : Int32 × PH} (f : F11_peak h a0 x1 = some out) : Met l yX11_peak vX11_peak ({ frames := 5, cells := 0, slots := 0, locals := 125 } : Room) (va_Pc [.ref (b + a0), .int x1] (ph_B D cy b A fl h)) (va_Qi (fun (r : Int32) (u : PH) => (r, u) = out) (ph_B D cy b A fl) A) 0 0 A :=
  o_met (by decide) rfl (Nat.le_of_ble_eq_true rfl) rfl (fun p e s m below meth c S hr hlo hnm ls hl I => T11_peak_0 S hr hlo ((gd f).2) I (lv_sub hl [0, 1] rfl))
end
