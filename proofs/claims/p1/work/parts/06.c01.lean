theorem dX6_takeAsTold_6 : decode cX6_takeAsTold 6 = .ok (.getfield 9, 3) := by decide +kernel
theorem dX6_takeAsTold_9 : decode cX6_takeAsTold 9 = .ok (.getfield 41, 3) := by decide +kernel
theorem dX6_takeAsTold_12 : decode cX6_takeAsTold 12 = .ok (.getfield 47, 3) := by decide +kernel
theorem dX6_takeAsTold_15 : decode cX6_takeAsTold 15 = .ok (.iconst 0, 1) := by decide +kernel
theorem dX6_takeAsTold_16 : decode cX6_takeAsTold 16 = .ok (.aload_n 0, 1) := by decide +kernel
theorem dX6_takeAsTold_17 : decode cX6_takeAsTold 17 = .ok (.getfield 15, 3) := by decide +kernel
theorem dX6_takeAsTold_20 : decode cX6_takeAsTold 20 = .ok (.iconst 0, 1) := by decide +kernel
theorem dX6_takeAsTold_21 : decode cX6_takeAsTold 21 = .ok (.iconst 5, 1) := by decide +kernel
theorem dX6_takeAsTold_22 : decode cX6_takeAsTold 22 = .ok (.invokestatic 50, 3) := by decide +kernel
theorem dX6_takeAsTold_25 : decode cX6_takeAsTold 25 = .ok (.aload_n 0, 1) := by decide +kernel
theorem dX6_takeAsTold_26 : decode cX6_takeAsTold 26 = .ok (.getfield 9, 3) := by decide +kernel
theorem dX6_takeAsTold_29 : decode cX6_takeAsTold 29 = .ok (.getfield 41, 3) := by decide +kernel
theorem dX6_takeAsTold_32 : decode cX6_takeAsTold 32 = .ok (.getfield 56, 3) := by decide +kernel
theorem dX6_takeAsTold_35 : decode cX6_takeAsTold 35 = .ok (.iconst 0, 1) := by decide +kernel
theorem dX6_takeAsTold_36 : decode cX6_takeAsTold 36 = .ok (.aload_n 0, 1) := by decide +kernel
theorem dX6_takeAsTold_37 : decode cX6_takeAsTold 37 = .ok (.getfield 19, 3) := by decide +kernel
theorem dX6_takeAsTold_40 : decode cX6_takeAsTold 40 = .ok (.iconst 0, 1) := by decide +kernel
theorem dX6_takeAsTold_41 : decode cX6_takeAsTold 41 = .ok (.iconst 5, 1) := by decide +kernel
theorem dX6_takeAsTold_42 : decode cX6_takeAsTold 42 = .ok (.invokestatic 50, 3) := by decide +kernel
theorem dX6_takeAsTold_45 : decode cX6_takeAsTold 45 = .ok (.iconst 0, 1) := by decide +kernel
theorem dX6_takeAsTold_46 : decode cX6_takeAsTold 46 = .ok (.istore_n 2, 1) := by decide +kernel
theorem dX6_takeAsTold_47 : decode cX6_takeAsTold 47 = .ok (.iload_n 2, 1) := by decide +kernel
theorem dX6_takeAsTold_48 : decode cX6_takeAsTold 48 = .ok (.aload_n 0, 1) := by decide +kernel
theorem dX6_takeAsTold_49 : decode cX6_takeAsTold 49 = .ok (.getfield 9, 3) := by decide +kernel
theorem dX6_takeAsTold_52 : decode cX6_takeAsTold 52 = .ok (.getfield 57, 3) := by decide +kernel
theorem dX6_takeAsTold_55 : decode cX6_takeAsTold 55 = .ok (.getfield 61, 3) := by decide +kernel
theorem dX6_takeAsTold_58 : decode cX6_takeAsTold 58 = .ok (.if_icmp .ge 31, 3) := by decide +kernel
theorem dX6_takeAsTold_61 : decode cX6_takeAsTold 61 = .ok (.aload_n 0, 1) := by decide +kernel
theorem dX6_takeAsTold_62 : decode cX6_takeAsTold 62 = .ok (.getfield 22, 3) := by decide +kernel
theorem dX6_takeAsTold_65 : decode cX6_takeAsTold 65 = .ok (.iload_n 2, 1) := by decide +kernel
theorem dX6_takeAsTold_66 : decode cX6_takeAsTold 66 = .ok (.aload_n 0, 1) := by decide +kernel
theorem dX6_takeAsTold_67 : decode cX6_takeAsTold 67 = .ok (.aload_n 0, 1) := by decide +kernel
theorem dX6_takeAsTold_68 : decode cX6_takeAsTold 68 = .ok (.getfield 9, 3) := by decide +kernel
theorem dX6_takeAsTold_71 : decode cX6_takeAsTold 71 = .ok (.getfield 57, 3) := by decide +kernel
theorem dX6_takeAsTold_74 : decode cX6_takeAsTold 74 = .ok (.getfield 67, 3) := by decide +kernel
theorem dX6_takeAsTold_77 : decode cX6_takeAsTold 77 = .ok (.iload_n 2, 1) := by decide +kernel
theorem dX6_takeAsTold_78 : decode cX6_takeAsTold 78 = .ok (.iaload, 1) := by decide +kernel
theorem dX6_takeAsTold_79 : decode cX6_takeAsTold 79 = .ok (.invokevirtual 70, 3) := by decide +kernel
theorem dX6_takeAsTold_82 : decode cX6_takeAsTold 82 = .ok (.iastore, 1) := by decide +kernel
theorem dX6_takeAsTold_83 : decode cX6_takeAsTold 83 = .ok (.iinc 2 1, 3) := by decide +kernel
theorem dX6_takeAsTold_86 : decode cX6_takeAsTold 86 = .ok (.goto (-39), 3) := by decide +kernel
theorem dX6_takeAsTold_89 : decode cX6_takeAsTold 89 = .ok (.return_, 1) := by decide +kernel
theorem dX6_takeOver_0 : decode cX6_takeOver 0 = .ok (.aload_n 0, 1) := by decide +kernel
theorem dX6_takeOver_1 : decode cX6_takeOver 1 = .ok (.aload_n 1, 1) := by decide +kernel
theorem dX6_takeOver_2 : decode cX6_takeOver 2 = .ok (.getfield 9, 3) := by decide +kernel
theorem dX6_takeOver_5 : decode cX6_takeOver 5 = .ok (.putfield 9, 3) := by decide +kernel
theorem dX6_takeOver_8 : decode cX6_takeOver 8 = .ok (.aload_n 1, 1) := by decide +kernel
theorem dX6_takeOver_9 : decode cX6_takeOver 9 = .ok (.getfield 15, 3) := by decide +kernel
theorem dX6_takeOver_12 : decode cX6_takeOver 12 = .ok (.iconst 0, 1) := by decide +kernel
theorem dX6_takeOver_13 : decode cX6_takeOver 13 = .ok (.aload_n 0, 1) := by decide +kernel
theorem dX6_takeOver_14 : decode cX6_takeOver 14 = .ok (.getfield 15, 3) := by decide +kernel
theorem dX6_takeOver_17 : decode cX6_takeOver 17 = .ok (.iconst 0, 1) := by decide +kernel
theorem dX6_takeOver_18 : decode cX6_takeOver 18 = .ok (.iconst 5, 1) := by decide +kernel
theorem dX6_takeOver_19 : decode cX6_takeOver 19 = .ok (.invokestatic 50, 3) := by decide +kernel
theorem dX6_takeOver_22 : decode cX6_takeOver 22 = .ok (.aload_n 1, 1) := by decide +kernel
theorem dX6_takeOver_23 : decode cX6_takeOver 23 = .ok (.getfield 19, 3) := by decide +kernel
theorem dX6_takeOver_26 : decode cX6_takeOver 26 = .ok (.iconst 0, 1) := by decide +kernel
theorem dX6_takeOver_27 : decode cX6_takeOver 27 = .ok (.aload_n 0, 1) := by decide +kernel
theorem dX6_takeOver_28 : decode cX6_takeOver 28 = .ok (.getfield 19, 3) := by decide +kernel
theorem dX6_takeOver_31 : decode cX6_takeOver 31 = .ok (.iconst 0, 1) := by decide +kernel
theorem dX6_takeOver_32 : decode cX6_takeOver 32 = .ok (.iconst 5, 1) := by decide +kernel
theorem dX6_takeOver_33 : decode cX6_takeOver 33 = .ok (.invokestatic 50, 3) := by decide +kernel
theorem dX6_takeOver_36 : decode cX6_takeOver 36 = .ok (.aload_n 1, 1) := by decide +kernel
theorem dX6_takeOver_37 : decode cX6_takeOver 37 = .ok (.getfield 22, 3) := by decide +kernel
theorem dX6_takeOver_40 : decode cX6_takeOver 40 = .ok (.iconst 0, 1) := by decide +kernel
theorem dX6_takeOver_41 : decode cX6_takeOver 41 = .ok (.aload_n 0, 1) := by decide +kernel
theorem dX6_takeOver_42 : decode cX6_takeOver 42 = .ok (.getfield 22, 3) := by decide +kernel
theorem dX6_takeOver_45 : decode cX6_takeOver 45 = .ok (.iconst 0, 1) := by decide +kernel
theorem dX6_takeOver_46 : decode cX6_takeOver 46 = .ok (.bipush 28, 2) := by decide +kernel
theorem dX6_takeOver_48 : decode cX6_takeOver 48 = .ok (.invokestatic 50, 3) := by decide +kernel
theorem dX6_takeOver_51 : decode cX6_takeOver 51 = .ok (.return_, 1) := by decide +kernel
theorem dX6_makeNobodyBold_0 : decode cX6_makeNobodyBold 0 = .ok (.iconst 0, 1) := by decide +kernel
theorem dX6_makeNobodyBold_1 : decode cX6_makeNobodyBold 1 = .ok (.istore_n 1, 1) := by decide +kernel
theorem dX6_makeNobodyBold_2 : decode cX6_makeNobodyBold 2 = .ok (.iload_n 1, 1) := by decide +kernel
theorem dX6_makeNobodyBold_3 : decode cX6_makeNobodyBold 3 = .ok (.iconst 5, 1) := by decide +kernel
theorem dX6_makeNobodyBold_4 : decode cX6_makeNobodyBold 4 = .ok (.if_icmp .ge 16, 3) := by decide +kernel
theorem dX6_makeNobodyBold_7 : decode cX6_makeNobodyBold 7 = .ok (.aload_n 0, 1) := by decide +kernel
theorem dX6_makeNobodyBold_8 : decode cX6_makeNobodyBold 8 = .ok (.getfield 19, 3) := by decide +kernel
theorem dX6_makeNobodyBold_11 : decode cX6_makeNobodyBold 11 = .ok (.iload_n 1, 1) := by decide +kernel
theorem dX6_makeNobodyBold_12 : decode cX6_makeNobodyBold 12 = .ok (.iconst 0, 1) := by decide +kernel
theorem dX6_makeNobodyBold_13 : decode cX6_makeNobodyBold 13 = .ok (.iastore, 1) := by decide +kernel
theorem dX6_makeNobodyBold_14 : decode cX6_makeNobodyBold 14 = .ok (.iinc 1 1, 3) := by decide +kernel
theorem dX6_makeNobodyBold_17 : decode cX6_makeNobodyBold 17 = .ok (.goto (-15), 3) := by decide +kernel
theorem dX6_makeNobodyBold_20 : decode cX6_makeNobodyBold 20 = .ok (.return_, 1) := by decide +kernel
theorem dX6_holdPeak_0 : decode cX6_holdPeak 0 = .ok (.iconst 0, 1) := by decide +kernel
theorem dX6_holdPeak_1 : decode cX6_holdPeak 1 = .ok (.istore_n 1, 1) := by decide +kernel
theorem dX6_holdPeak_2 : decode cX6_holdPeak 2 = .ok (.iload_n 1, 1) := by decide +kernel
theorem dX6_holdPeak_3 : decode cX6_holdPeak 3 = .ok (.bipush 28, 2) := by decide +kernel
theorem dX6_holdPeak_5 : decode cX6_holdPeak 5 = .ok (.if_icmp .ge 22, 3) := by decide +kernel
theorem dX6_holdPeak_8 : decode cX6_holdPeak 8 = .ok (.aload_n 0, 1) := by decide +kernel
theorem dX6_holdPeak_9 : decode cX6_holdPeak 9 = .ok (.getfield 22, 3) := by decide +kernel
theorem dX6_holdPeak_12 : decode cX6_holdPeak 12 = .ok (.iload_n 1, 1) := by decide +kernel
theorem dX6_holdPeak_13 : decode cX6_holdPeak 13 = .ok (.aload_n 0, 1) := by decide +kernel
theorem dX6_holdPeak_14 : decode cX6_holdPeak 14 = .ok (.getfield 9, 3) := by decide +kernel
theorem dX6_holdPeak_17 : decode cX6_holdPeak 17 = .ok (.getfield 74, 3) := by decide +kernel
theorem dX6_holdPeak_20 : decode cX6_holdPeak 20 = .ok (.iastore, 1) := by decide +kernel
theorem dX6_holdPeak_21 : decode cX6_holdPeak 21 = .ok (.iinc 1 1, 3) := by decide +kernel
theorem dX6_holdPeak_24 : decode cX6_holdPeak 24 = .ok (.goto (-22), 3) := by decide +kernel
theorem dX6_holdPeak_27 : decode cX6_holdPeak 27 = .ok (.return_, 1) := by decide +kernel
theorem dX6_giveBoards_0 : decode cX6_giveBoards 0 = .ok (.iconst 0, 1) := by decide +kernel
theorem dX6_giveBoards_1 : decode cX6_giveBoards 1 = .ok (.istore_n 2, 1) := by decide +kernel
theorem dX6_giveBoards_2 : decode cX6_giveBoards 2 = .ok (.iload_n 2, 1) := by decide +kernel
theorem dX6_giveBoards_3 : decode cX6_giveBoards 3 = .ok (.iconst 5, 1) := by decide +kernel
theorem dX6_giveBoards_4 : decode cX6_giveBoards 4 = .ok (.if_icmp .ge 16, 3) := by decide +kernel
theorem dX6_giveBoards_7 : decode cX6_giveBoards 7 = .ok (.aload_n 0, 1) := by decide +kernel
theorem dX6_giveBoards_8 : decode cX6_giveBoards 8 = .ok (.getfield 15, 3) := by decide +kernel
theorem dX6_giveBoards_11 : decode cX6_giveBoards 11 = .ok (.iload_n 2, 1) := by decide +kernel
theorem dX6_giveBoards_12 : decode cX6_giveBoards 12 = .ok (.iload_n 1, 1) := by decide +kernel
theorem dX6_giveBoards_13 : decode cX6_giveBoards 13 = .ok (.iastore, 1) := by decide +kernel
theorem dX6_giveBoards_14 : decode cX6_giveBoards 14 = .ok (.iinc 2 1, 3) := by decide +kernel
theorem dX6_giveBoards_17 : decode cX6_giveBoards 17 = .ok (.goto (-15), 3) := by decide +kernel
theorem dX6_giveBoards_20 : decode cX6_giveBoards 20 = .ok (.return_, 1) := by decide +kernel
set_option maxRecDepth 20000 in
theorem ggX6_driftValue_X2_valueFor : GoodIn wsX6_driftValue wsX2_valueFor := goodIn_r _ [9, 10, 11, 12, 13, 14, 15, 16, 8, 17, 18, 19, 20, 21, 22, 23, 47, 48, 49] (by decide +kernel) (by decide +kernel)
set_option maxRecDepth 20000 in
theorem gX6_driftValue_X2_valueFor : GoodIn wsX6_driftValue (wsV RX6 80 RX2 yX2_valueFor wsX2_valueFor) := goodIn_app (goodIn_of _ (by decide +kernel)) ggX6_driftValue_X2_valueFor
theorem dX6_driftValue_0 : decode cX6_driftValue 0 = .ok (.iconst 0, 1) := by decide +kernel
theorem dX6_driftValue_1 : decode cX6_driftValue 1 = .ok (.istore_n 2, 1) := by decide +kernel
theorem dX6_driftValue_2 : decode cX6_driftValue 2 = .ok (.iload_n 2, 1) := by decide +kernel
theorem dX6_driftValue_3 : decode cX6_driftValue 3 = .ok (.bipush 6, 2) := by decide +kernel
theorem dX6_driftValue_5 : decode cX6_driftValue 5 = .ok (.if_icmp .ge 16, 3) := by decide +kernel
theorem dX6_driftValue_8 : decode cX6_driftValue 8 = .ok (.aload_n 0, 1) := by decide +kernel
theorem dX6_driftValue_9 : decode cX6_driftValue 9 = .ok (.getfield 25, 3) := by decide +kernel
theorem dX6_driftValue_12 : decode cX6_driftValue 12 = .ok (.iload_n 2, 1) := by decide +kernel
theorem dX6_driftValue_13 : decode cX6_driftValue 13 = .ok (.lconst 0, 1) := by decide +kernel
theorem dX6_driftValue_14 : decode cX6_driftValue 14 = .ok (.lastore, 1) := by decide +kernel
theorem dX6_driftValue_15 : decode cX6_driftValue 15 = .ok (.iinc 2 1, 3) := by decide +kernel
theorem dX6_driftValue_18 : decode cX6_driftValue 18 = .ok (.goto (-16), 3) := by decide +kernel
theorem dX6_driftValue_21 : decode cX6_driftValue 21 = .ok (.aload_n 0, 1) := by decide +kernel
theorem dX6_driftValue_22 : decode cX6_driftValue 22 = .ok (.getfield 25, 3) := by decide +kernel
theorem dX6_driftValue_25 : decode cX6_driftValue 25 = .ok (.iconst 4, 1) := by decide +kernel
theorem dX6_driftValue_26 : decode cX6_driftValue 26 = .ok (.iload_n 1, 1) := by decide +kernel
theorem dX6_driftValue_27 : decode cX6_driftValue 27 = .ok (.i2l, 1) := by decide +kernel
theorem dX6_driftValue_28 : decode cX6_driftValue 28 = .ok (.lastore, 1) := by decide +kernel
theorem dX6_driftValue_29 : decode cX6_driftValue 29 = .ok (.aload_n 0, 1) := by decide +kernel
theorem dX6_driftValue_30 : decode cX6_driftValue 30 = .ok (.getfield 9, 3) := by decide +kernel
theorem dX6_driftValue_33 : decode cX6_driftValue 33 = .ok (.getfield 76, 3) := by decide +kernel
theorem dX6_driftValue_36 : decode cX6_driftValue 36 = .ok (.iconst 1, 1) := by decide +kernel
theorem dX6_driftValue_37 : decode cX6_driftValue 37 = .ok (.aaload, 1) := by decide +kernel
theorem dX6_driftValue_38 : decode cX6_driftValue 38 = .ok (.aload_n 0, 1) := by decide +kernel
theorem dX6_driftValue_39 : decode cX6_driftValue 39 = .ok (.getfield 25, 3) := by decide +kernel
theorem dX6_driftValue_42 : decode cX6_driftValue 42 = .ok (.aload_n 0, 1) := by decide +kernel
theorem dX6_driftValue_43 : decode cX6_driftValue 43 = .ok (.getfield 29, 3) := by decide +kernel
theorem dX6_driftValue_46 : decode cX6_driftValue 46 = .ok (.invokevirtual 80, 3) := by decide +kernel
theorem dX6_driftValue_49 : decode cX6_driftValue 49 = .ok (.lreturn, 1) := by decide +kernel
set_option maxRecDepth 20000 in
theorem ggX6_peakXAt_X6_driftValue : GoodIn wsX6_peakXAt wsX6_driftValue := goodIn_r _ [18, 19, 1, 20, 21, 22, 23, 24, 25, 26, 27, 28, 29, 30, 31, 32, 33, 34, 35, 36, 37, 38, 39, 40, 41, 42, 43, 44, 45, 46, 47, 48, 49, 50, 51, 52, 53, 54, 55, 56, 57, 58, 59, 60, 61, 62, 63, 64, 65, 66] (by decide +kernel) (by decide +kernel)
set_option maxRecDepth 20000 in
theorem gX6_peakXAt_X6_driftValue : GoodIn wsX6_peakXAt (wsV RX6 86 RX6 yX6_driftValue wsX6_driftValue) := goodIn_app (goodIn_of _ (by decide +kernel)) ggX6_peakXAt_X6_driftValue
theorem dX6_peakXAt_0 : decode cX6_peakXAt 0 = .ok (.aload_n 0, 1) := by decide +kernel
theorem dX6_peakXAt_1 : decode cX6_peakXAt 1 = .ok (.iload_n 1, 1) := by decide +kernel
theorem dX6_peakXAt_2 : decode cX6_peakXAt 2 = .ok (.invokevirtual 86, 3) := by decide +kernel
theorem dX6_peakXAt_5 : decode cX6_peakXAt 5 = .ok (.lstore_n 2, 1) := by decide +kernel
theorem dX6_peakXAt_6 : decode cX6_peakXAt 6 = .ok (.aload_n 0, 1) := by decide +kernel
theorem dX6_peakXAt_7 : decode cX6_peakXAt 7 = .ok (.getfield 9, 3) := by decide +kernel
theorem dX6_peakXAt_10 : decode cX6_peakXAt 10 = .ok (.getfield 74, 3) := by decide +kernel
theorem dX6_peakXAt_13 : decode cX6_peakXAt 13 = .ok (.i2l, 1) := by decide +kernel
theorem dX6_peakXAt_14 : decode cX6_peakXAt 14 = .ok (.lload_n 2, 1) := by decide +kernel
theorem dX6_peakXAt_15 : decode cX6_peakXAt 15 = .ok (.ldc2_w 90, 3) := by decide +kernel
theorem dX6_peakXAt_18 : decode cX6_peakXAt 18 = .ok (.lcmp, 1) := by decide +kernel
theorem dX6_peakXAt_19 : decode cX6_peakXAt 19 = .ok (.ifCond .ne 7, 3) := by decide +kernel
theorem dX6_peakXAt_22 : decode cX6_peakXAt 22 = .ok (.lconst 0, 1) := by decide +kernel
theorem dX6_peakXAt_23 : decode cX6_peakXAt 23 = .ok (.goto 16, 3) := by decide +kernel
theorem dX6_peakXAt_26 : decode cX6_peakXAt 26 = .ok (.ldc2_w 92, 3) := by decide +kernel
theorem dX6_peakXAt_29 : decode cX6_peakXAt 29 = .ok (.ldc2_w 94, 3) := by decide +kernel
theorem dX6_peakXAt_32 : decode cX6_peakXAt 32 = .ok (.lload_n 2, 1) := by decide +kernel
theorem dX6_peakXAt_33 : decode cX6_peakXAt 33 = .ok (.invokestatic 96, 3) := by decide +kernel
theorem dX6_peakXAt_36 : decode cX6_peakXAt 36 = .ok (.invokestatic 102, 3) := by decide +kernel
theorem dX6_peakXAt_39 : decode cX6_peakXAt 39 = .ok (.ladd, 1) := by decide +kernel
theorem dX6_peakXAt_40 : decode cX6_peakXAt 40 = .ok (.lstore 4, 2) := by decide +kernel
theorem dX6_peakXAt_42 : decode cX6_peakXAt 42 = .ok (.lconst 0, 1) := by decide +kernel
theorem dX6_peakXAt_43 : decode cX6_peakXAt 43 = .ok (.aload_n 0, 1) := by decide +kernel
theorem dX6_peakXAt_44 : decode cX6_peakXAt 44 = .ok (.getfield 9, 3) := by decide +kernel
theorem dX6_peakXAt_47 : decode cX6_peakXAt 47 = .ok (.getfield 105, 3) := by decide +kernel
theorem dX6_peakXAt_50 : decode cX6_peakXAt 50 = .ok (.iconst 1, 1) := by decide +kernel
theorem dX6_peakXAt_51 : decode cX6_peakXAt 51 = .ok (.isub, 1) := by decide +kernel
theorem dX6_peakXAt_52 : decode cX6_peakXAt 52 = .ok (.i2l, 1) := by decide +kernel
theorem dX6_peakXAt_53 : decode cX6_peakXAt 53 = .ok (.lload 4, 2) := by decide +kernel
theorem dX6_peakXAt_55 : decode cX6_peakXAt 55 = .ok (.invokestatic 96, 3) := by decide +kernel
theorem dX6_peakXAt_58 : decode cX6_peakXAt 58 = .ok (.invokestatic 102, 3) := by decide +kernel
theorem dX6_peakXAt_61 : decode cX6_peakXAt 61 = .ok (.l2i, 1) := by decide +kernel
theorem dX6_peakXAt_62 : decode cX6_peakXAt 62 = .ok (.ireturn, 1) := by decide +kernel
set_option maxRecDepth 20000 in
theorem ggX6_farOf_X8_farFrom : GoodIn wsX6_farOf wsX8_farFrom := goodIn_r _ [7, 8, 9, 10, 11, 12, 13, 23, 24, 25, 26, 27, 28, 29, 30, 31, 32, 33, 34, 35, 36] (by decide +kernel) (by decide +kernel)
set_option maxRecDepth 20000 in
theorem gX6_farOf_X8_farFrom : GoodIn wsX6_farOf (wsV RX6 108 RX8 yX8_farFrom wsX8_farFrom) := goodIn_app (goodIn_of _ (by decide +kernel)) ggX6_farOf_X8_farFrom
theorem dX6_farOf_0 : decode cX6_farOf 0 = .ok (.aload_n 0, 1) := by decide +kernel
theorem dX6_farOf_1 : decode cX6_farOf 1 = .ok (.getfield 9, 3) := by decide +kernel
theorem dX6_farOf_4 : decode cX6_farOf 4 = .ok (.iload_n 1, 1) := by decide +kernel
theorem dX6_farOf_5 : decode cX6_farOf 5 = .ok (.aload_n 0, 1) := by decide +kernel
theorem dX6_farOf_6 : decode cX6_farOf 6 = .ok (.getfield 22, 3) := by decide +kernel
theorem dX6_farOf_9 : decode cX6_farOf 9 = .ok (.iload_n 2, 1) := by decide +kernel
theorem dX6_farOf_10 : decode cX6_farOf 10 = .ok (.iaload, 1) := by decide +kernel
theorem dX6_farOf_11 : decode cX6_farOf 11 = .ok (.invokevirtual 108, 3) := by decide +kernel
theorem dX6_farOf_14 : decode cX6_farOf 14 = .ok (.ireturn, 1) := by decide +kernel
theorem dX6_nameAway_0 : decode cX6_nameAway 0 = .ok (.aload_n 0, 1) := by decide +kernel
theorem dX6_nameAway_1 : decode cX6_nameAway 1 = .ok (.getfield 25, 3) := by decide +kernel
theorem dX6_nameAway_4 : decode cX6_nameAway 4 = .ok (.iconst 0, 1) := by decide +kernel
theorem dX6_nameAway_5 : decode cX6_nameAway 5 = .ok (.lconst 0, 1) := by decide +kernel
theorem dX6_nameAway_6 : decode cX6_nameAway 6 = .ok (.lastore, 1) := by decide +kernel
theorem dX6_nameAway_7 : decode cX6_nameAway 7 = .ok (.aload_n 0, 1) := by decide +kernel
theorem dX6_nameAway_8 : decode cX6_nameAway 8 = .ok (.getfield 25, 3) := by decide +kernel
theorem dX6_nameAway_11 : decode cX6_nameAway 11 = .ok (.iconst 1, 1) := by decide +kernel
theorem dX6_nameAway_12 : decode cX6_nameAway 12 = .ok (.lconst 0, 1) := by decide +kernel
theorem dX6_nameAway_13 : decode cX6_nameAway 13 = .ok (.lastore, 1) := by decide +kernel
theorem dX6_nameAway_14 : decode cX6_nameAway 14 = .ok (.aload_n 0, 1) := by decide +kernel
theorem dX6_nameAway_15 : decode cX6_nameAway 15 = .ok (.getfield 25, 3) := by decide +kernel
theorem dX6_nameAway_18 : decode cX6_nameAway 18 = .ok (.iconst 2, 1) := by decide +kernel
theorem dX6_nameAway_19 : decode cX6_nameAway 19 = .ok (.aload_n 0, 1) := by decide +kernel
theorem dX6_nameAway_20 : decode cX6_nameAway 20 = .ok (.getfield 15, 3) := by decide +kernel
theorem dX6_nameAway_23 : decode cX6_nameAway 23 = .ok (.iload_n 1, 1) := by decide +kernel
theorem dX6_nameAway_24 : decode cX6_nameAway 24 = .ok (.iaload, 1) := by decide +kernel
theorem dX6_nameAway_25 : decode cX6_nameAway 25 = .ok (.i2l, 1) := by decide +kernel
theorem dX6_nameAway_26 : decode cX6_nameAway 26 = .ok (.lastore, 1) := by decide +kernel
theorem dX6_nameAway_27 : decode cX6_nameAway 27 = .ok (.aload_n 0, 1) := by decide +kernel
theorem dX6_nameAway_28 : decode cX6_nameAway 28 = .ok (.getfield 25, 3) := by decide +kernel
theorem dX6_nameAway_31 : decode cX6_nameAway 31 = .ok (.iconst 3, 1) := by decide +kernel
theorem dX6_nameAway_32 : decode cX6_nameAway 32 = .ok (.aload_n 0, 1) := by decide +kernel
theorem dX6_nameAway_33 : decode cX6_nameAway 33 = .ok (.getfield 9, 3) := by decide +kernel
theorem dX6_nameAway_36 : decode cX6_nameAway 36 = .ok (.getfield 57, 3) := by decide +kernel
theorem dX6_nameAway_39 : decode cX6_nameAway 39 = .ok (.getfield 112, 3) := by decide +kernel
theorem dX6_nameAway_42 : decode cX6_nameAway 42 = .ok (.iload_n 2, 1) := by decide +kernel
theorem dX6_nameAway_43 : decode cX6_nameAway 43 = .ok (.iaload, 1) := by decide +kernel
theorem dX6_nameAway_44 : decode cX6_nameAway 44 = .ok (.i2l, 1) := by decide +kernel
theorem dX6_nameAway_45 : decode cX6_nameAway 45 = .ok (.lastore, 1) := by decide +kernel
theorem dX6_nameAway_46 : decode cX6_nameAway 46 = .ok (.aload_n 0, 1) := by decide +kernel
theorem dX6_nameAway_47 : decode cX6_nameAway 47 = .ok (.getfield 25, 3) := by decide +kernel
theorem dX6_nameAway_50 : decode cX6_nameAway 50 = .ok (.iconst 4, 1) := by decide +kernel
theorem dX6_nameAway_51 : decode cX6_nameAway 51 = .ok (.aload_n 0, 1) := by decide +kernel
theorem dX6_nameAway_52 : decode cX6_nameAway 52 = .ok (.getfield 9, 3) := by decide +kernel
theorem dX6_nameAway_55 : decode cX6_nameAway 55 = .ok (.getfield 57, 3) := by decide +kernel
theorem dX6_nameAway_58 : decode cX6_nameAway 58 = .ok (.getfield 67, 3) := by decide +kernel
theorem dX6_nameAway_61 : decode cX6_nameAway 61 = .ok (.iload_n 2, 1) := by decide +kernel
theorem dX6_nameAway_62 : decode cX6_nameAway 62 = .ok (.iaload, 1) := by decide +kernel
theorem dX6_nameAway_63 : decode cX6_nameAway 63 = .ok (.i2l, 1) := by decide +kernel
theorem dX6_nameAway_64 : decode cX6_nameAway 64 = .ok (.lastore, 1) := by decide +kernel
theorem dX6_nameAway_65 : decode cX6_nameAway 65 = .ok (.aload_n 0, 1) := by decide +kernel
theorem dX6_nameAway_66 : decode cX6_nameAway 66 = .ok (.getfield 25, 3) := by decide +kernel
theorem dX6_nameAway_69 : decode cX6_nameAway 69 = .ok (.iconst 5, 1) := by decide +kernel
theorem dX6_nameAway_70 : decode cX6_nameAway 70 = .ok (.aload_n 0, 1) := by decide +kernel
theorem dX6_nameAway_71 : decode cX6_nameAway 71 = .ok (.getfield 9, 3) := by decide +kernel
theorem dX6_nameAway_74 : decode cX6_nameAway 74 = .ok (.getfield 57, 3) := by decide +kernel
theorem dX6_nameAway_77 : decode cX6_nameAway 77 = .ok (.getfield 115, 3) := by decide +kernel
theorem dX6_nameAway_80 : decode cX6_nameAway 80 = .ok (.iload_n 2, 1) := by decide +kernel
theorem dX6_nameAway_81 : decode cX6_nameAway 81 = .ok (.iaload, 1) := by decide +kernel
theorem dX6_nameAway_82 : decode cX6_nameAway 82 = .ok (.i2l, 1) := by decide +kernel
theorem dX6_nameAway_83 : decode cX6_nameAway 83 = .ok (.lastore, 1) := by decide +kernel
theorem dX6_nameAway_84 : decode cX6_nameAway 84 = .ok (.return_, 1) := by decide +kernel
set_option maxRecDepth 20000 in
theorem ggX6_nameCatch_X6_nameAway : GoodIn wsX6_nameCatch wsX6_nameAway := goodIn_r _ [9, 1, 10, 2, 11, 12, 13, 14, 30, 31, 32, 33, 34, 35, 36, 37, 38, 39, 40, 41, 42, 43, 44, 45, 46, 47, 48, 49, 50, 51, 52, 53, 54, 55, 56, 57, 58, 59, 60] (by decide +kernel) (by decide +kernel)
set_option maxRecDepth 20000 in
theorem gX6_nameCatch_X6_nameAway : GoodIn wsX6_nameCatch (wsV RX6 118 RX6 yX6_nameAway wsX6_nameAway) := goodIn_app (goodIn_of _ (by decide +kernel)) ggX6_nameCatch_X6_nameAway
set_option maxRecDepth 20000 in
theorem ggX6_nameCatch_X8_farFrom : GoodIn wsX6_nameCatch wsX8_farFrom := goodIn_r _ [19, 20, 21, 22, 23, 24, 25, 39, 40, 41, 42, 43, 44, 45, 46, 47, 48, 49, 50, 51, 52] (by decide +kernel) (by decide +kernel)
set_option maxRecDepth 20000 in
theorem gX6_nameCatch_X8_farFrom : GoodIn wsX6_nameCatch (wsV RX6 108 RX8 yX8_farFrom wsX8_farFrom) := goodIn_app (goodIn_of _ (by decide +kernel)) ggX6_nameCatch_X8_farFrom
set_option maxRecDepth 20000 in
theorem ggX6_nameCatch_X8_rowOf : GoodIn wsX6_nameCatch wsX8_rowOf := goodIn_r _ [29, 20, 39, 40, 41, 42, 43, 44, 45, 46, 47, 48, 49, 50, 51, 52] (by decide +kernel) (by decide +kernel)
set_option maxRecDepth 20000 in
theorem gX6_nameCatch_X8_rowOf : GoodIn wsX6_nameCatch (wsV RX6 122 RX8 yX8_rowOf wsX8_rowOf) := goodIn_app (goodIn_of _ (by decide +kernel)) ggX6_nameCatch_X8_rowOf
theorem dX6_nameCatch_0 : decode cX6_nameCatch 0 = .ok (.aload_n 0, 1) := by decide +kernel
theorem dX6_nameCatch_1 : decode cX6_nameCatch 1 = .ok (.iload_n 1, 1) := by decide +kernel
theorem dX6_nameCatch_2 : decode cX6_nameCatch 2 = .ok (.iload_n 2, 1) := by decide +kernel
theorem dX6_nameCatch_3 : decode cX6_nameCatch 3 = .ok (.invokevirtual 118, 3) := by decide +kernel
theorem dX6_nameCatch_6 : decode cX6_nameCatch 6 = .ok (.aload_n 0, 1) := by decide +kernel
theorem dX6_nameCatch_7 : decode cX6_nameCatch 7 = .ok (.getfield 25, 3) := by decide +kernel
theorem dX6_nameCatch_10 : decode cX6_nameCatch 10 = .ok (.iconst 0, 1) := by decide +kernel
theorem dX6_nameCatch_11 : decode cX6_nameCatch 11 = .ok (.aload_n 0, 1) := by decide +kernel
theorem dX6_nameCatch_12 : decode cX6_nameCatch 12 = .ok (.getfield 9, 3) := by decide +kernel
theorem dX6_nameCatch_15 : decode cX6_nameCatch 15 = .ok (.iload_n 3, 1) := by decide +kernel
theorem dX6_nameCatch_16 : decode cX6_nameCatch 16 = .ok (.aload_n 0, 1) := by decide +kernel
theorem dX6_nameCatch_17 : decode cX6_nameCatch 17 = .ok (.getfield 22, 3) := by decide +kernel
theorem dX6_nameCatch_20 : decode cX6_nameCatch 20 = .ok (.iload_n 2, 1) := by decide +kernel
theorem dX6_nameCatch_21 : decode cX6_nameCatch 21 = .ok (.iaload, 1) := by decide +kernel
theorem dX6_nameCatch_22 : decode cX6_nameCatch 22 = .ok (.invokevirtual 108, 3) := by decide +kernel
theorem dX6_nameCatch_25 : decode cX6_nameCatch 25 = .ok (.i2l, 1) := by decide +kernel
theorem dX6_nameCatch_26 : decode cX6_nameCatch 26 = .ok (.lastore, 1) := by decide +kernel
theorem dX6_nameCatch_27 : decode cX6_nameCatch 27 = .ok (.aload_n 0, 1) := by decide +kernel
theorem dX6_nameCatch_28 : decode cX6_nameCatch 28 = .ok (.getfield 25, 3) := by decide +kernel
theorem dX6_nameCatch_31 : decode cX6_nameCatch 31 = .ok (.iconst 1, 1) := by decide +kernel
theorem dX6_nameCatch_32 : decode cX6_nameCatch 32 = .ok (.aload_n 0, 1) := by decide +kernel
theorem dX6_nameCatch_33 : decode cX6_nameCatch 33 = .ok (.getfield 9, 3) := by decide +kernel
theorem dX6_nameCatch_36 : decode cX6_nameCatch 36 = .ok (.iload_n 3, 1) := by decide +kernel
theorem dX6_nameCatch_37 : decode cX6_nameCatch 37 = .ok (.invokevirtual 122, 3) := by decide +kernel
theorem dX6_nameCatch_40 : decode cX6_nameCatch 40 = .ok (.aload_n 0, 1) := by decide +kernel
theorem dX6_nameCatch_41 : decode cX6_nameCatch 41 = .ok (.getfield 9, 3) := by decide +kernel
theorem dX6_nameCatch_44 : decode cX6_nameCatch 44 = .ok (.getfield 125, 3) := by decide +kernel
theorem dX6_nameCatch_47 : decode cX6_nameCatch 47 = .ok (.isub, 1) := by decide +kernel
theorem dX6_nameCatch_48 : decode cX6_nameCatch 48 = .ok (.i2l, 1) := by decide +kernel
theorem dX6_nameCatch_49 : decode cX6_nameCatch 49 = .ok (.lastore, 1) := by decide +kernel
theorem dX6_nameCatch_50 : decode cX6_nameCatch 50 = .ok (.return_, 1) := by decide +kernel
set_option maxRecDepth 20000 in
theorem ggX6_catchValue_X6_nameCatch : GoodIn wsX6_catchValue wsX6_nameCatch := goodIn_r _ [9, 3, 1, 10, 11, 12, 13, 14, 8, 15, 16, 17, 18, 19, 20, 21, 22, 23, 24, 25, 26, 27, 28, 29, 30, 31, 32, 33, 34, 35, 55, 56, 57, 58, 59, 60, 61, 62, 63, 64, 65, 66, 67, 68, 69, 70, 71, 72, 73, 74, 75, 76, 77, 78, 79, 80, 81, 82, 83, 84, 85] (by decide +kernel) (by decide +kernel)
set_option maxRecDepth 20000 in
theorem gX6_catchValue_X6_nameCatch : GoodIn wsX6_catchValue (wsV RX6 128 RX6 yX6_nameCatch wsX6_nameCatch) := goodIn_app (goodIn_of _ (by decide +kernel)) ggX6_catchValue_X6_nameCatch
set_option maxRecDepth 20000 in
theorem ggX6_catchValue_X2_valueFor : GoodIn wsX6_catchValue wsX2_valueFor := goodIn_r _ [40, 41, 42, 43, 44, 45, 46, 47, 39, 48, 49, 50, 51, 52, 53, 54, 86, 87, 88] (by decide +kernel) (by decide +kernel)
set_option maxRecDepth 20000 in
theorem gX6_catchValue_X2_valueFor : GoodIn wsX6_catchValue (wsV RX6 80 RX2 yX2_valueFor wsX2_valueFor) := goodIn_app (goodIn_of _ (by decide +kernel)) ggX6_catchValue_X2_valueFor
theorem dX6_catchValue_0 : decode cX6_catchValue 0 = .ok (.aload_n 0, 1) := by decide +kernel
theorem dX6_catchValue_1 : decode cX6_catchValue 1 = .ok (.iload_n 1, 1) := by decide +kernel
theorem dX6_catchValue_2 : decode cX6_catchValue 2 = .ok (.iload_n 2, 1) := by decide +kernel
theorem dX6_catchValue_3 : decode cX6_catchValue 3 = .ok (.iload_n 3, 1) := by decide +kernel
theorem dX6_catchValue_4 : decode cX6_catchValue 4 = .ok (.invokevirtual 128, 3) := by decide +kernel
theorem dX6_catchValue_7 : decode cX6_catchValue 7 = .ok (.aload_n 0, 1) := by decide +kernel
theorem dX6_catchValue_8 : decode cX6_catchValue 8 = .ok (.getfield 9, 3) := by decide +kernel
theorem dX6_catchValue_11 : decode cX6_catchValue 11 = .ok (.getfield 76, 3) := by decide +kernel
theorem dX6_catchValue_14 : decode cX6_catchValue 14 = .ok (.iconst 0, 1) := by decide +kernel
theorem dX6_catchValue_15 : decode cX6_catchValue 15 = .ok (.aaload, 1) := by decide +kernel
theorem dX6_catchValue_16 : decode cX6_catchValue 16 = .ok (.aload_n 0, 1) := by decide +kernel
theorem dX6_catchValue_17 : decode cX6_catchValue 17 = .ok (.getfield 25, 3) := by decide +kernel
theorem dX6_catchValue_20 : decode cX6_catchValue 20 = .ok (.aload_n 0, 1) := by decide +kernel
theorem dX6_catchValue_21 : decode cX6_catchValue 21 = .ok (.getfield 29, 3) := by decide +kernel
theorem dX6_catchValue_24 : decode cX6_catchValue 24 = .ok (.invokevirtual 80, 3) := by decide +kernel
theorem dX6_catchValue_27 : decode cX6_catchValue 27 = .ok (.lreturn, 1) := by decide +kernel
set_option maxRecDepth 20000 in
theorem ggX6_awayValue_X6_nameAway : GoodIn wsX6_awayValue wsX6_nameAway := goodIn_r _ [9, 3, 10, 1, 11, 12, 13, 14, 34, 35, 36, 37, 38, 39, 40, 41, 42, 43, 44, 45, 46, 47, 48, 49, 50, 51, 52, 53, 54, 55, 56, 57, 58, 59, 60, 61, 62, 63, 64] (by decide +kernel) (by decide +kernel)
set_option maxRecDepth 20000 in
theorem gX6_awayValue_X6_nameAway : GoodIn wsX6_awayValue (wsV RX6 118 RX6 yX6_nameAway wsX6_nameAway) := goodIn_app (goodIn_of _ (by decide +kernel)) ggX6_awayValue_X6_nameAway
set_option maxRecDepth 20000 in
theorem ggX6_awayValue_X2_valueFor : GoodIn wsX6_awayValue wsX2_valueFor := goodIn_r _ [19, 20, 21, 22, 23, 24, 25, 26, 18, 27, 28, 29, 30, 31, 32, 33, 65, 66, 67] (by decide +kernel) (by decide +kernel)
set_option maxRecDepth 20000 in
theorem gX6_awayValue_X2_valueFor : GoodIn wsX6_awayValue (wsV RX6 80 RX2 yX2_valueFor wsX2_valueFor) := goodIn_app (goodIn_of _ (by decide +kernel)) ggX6_awayValue_X2_valueFor
theorem dX6_awayValue_0 : decode cX6_awayValue 0 = .ok (.aload_n 0, 1) := by decide +kernel
theorem dX6_awayValue_1 : decode cX6_awayValue 1 = .ok (.iload_n 1, 1) := by decide +kernel
theorem dX6_awayValue_2 : decode cX6_awayValue 2 = .ok (.iload_n 2, 1) := by decide +kernel
theorem dX6_awayValue_3 : decode cX6_awayValue 3 = .ok (.invokevirtual 118, 3) := by decide +kernel
theorem dX6_awayValue_6 : decode cX6_awayValue 6 = .ok (.aload_n 0, 1) := by decide +kernel
theorem dX6_awayValue_7 : decode cX6_awayValue 7 = .ok (.getfield 9, 3) := by decide +kernel
theorem dX6_awayValue_10 : decode cX6_awayValue 10 = .ok (.getfield 76, 3) := by decide +kernel
theorem dX6_awayValue_13 : decode cX6_awayValue 13 = .ok (.iconst 2, 1) := by decide +kernel
theorem dX6_awayValue_14 : decode cX6_awayValue 14 = .ok (.aaload, 1) := by decide +kernel
theorem dX6_awayValue_15 : decode cX6_awayValue 15 = .ok (.aload_n 0, 1) := by decide +kernel
theorem dX6_awayValue_16 : decode cX6_awayValue 16 = .ok (.getfield 25, 3) := by decide +kernel
theorem dX6_awayValue_19 : decode cX6_awayValue 19 = .ok (.aload_n 0, 1) := by decide +kernel
theorem dX6_awayValue_20 : decode cX6_awayValue 20 = .ok (.getfield 29, 3) := by decide +kernel
theorem dX6_awayValue_23 : decode cX6_awayValue 23 = .ok (.invokevirtual 80, 3) := by decide +kernel
theorem dX6_awayValue_26 : decode cX6_awayValue 26 = .ok (.lreturn, 1) := by decide +kernel
set_option maxRecDepth 20000 in
theorem ggX6_oddsAt_X6_nameCatch : GoodIn wsX6_oddsAt wsX6_nameCatch := goodIn_r _ [21, 3, 1, 22, 23, 24, 25, 26, 20, 27, 28, 29, 30, 31, 32, 33, 34, 35, 36, 37, 38, 39, 40, 8, 41, 42, 43, 44, 45, 46, 70, 71, 72, 73, 74, 75, 76, 77, 78, 79, 80, 81, 82, 83, 84, 85, 86, 87, 88, 89, 90, 91, 92, 93, 94, 95, 96, 97, 98, 99, 100] (by decide +kernel) (by decide +kernel)
set_option maxRecDepth 20000 in
theorem gX6_oddsAt_X6_nameCatch : GoodIn wsX6_oddsAt (wsV RX6 128 RX6 yX6_nameCatch wsX6_nameCatch) := goodIn_app (goodIn_of _ (by decide +kernel)) ggX6_oddsAt_X6_nameCatch
set_option maxRecDepth 20000 in
theorem ggX6_oddsAt_X2_valueFor : GoodIn wsX6_oddsAt wsX2_valueFor := goodIn_r _ [51, 52, 53, 54, 55, 56, 57, 58, 50, 59, 60, 61, 62, 63, 64, 65, 101, 102, 103] (by decide +kernel) (by decide +kernel)
set_option maxRecDepth 20000 in
theorem gX6_oddsAt_X2_valueFor : GoodIn wsX6_oddsAt (wsV RX6 80 RX2 yX2_valueFor wsX2_valueFor) := goodIn_app (goodIn_of _ (by decide +kernel)) ggX6_oddsAt_X2_valueFor
set_option maxRecDepth 20000 in
theorem ggX6_oddsAt_X6_farOf : GoodIn wsX6_oddsAt wsX6_farOf := goodIn_r _ [69, 1, 22, 33, 34, 35, 36, 37, 38, 39, 40, 8, 41, 42, 70, 71, 72, 73, 74, 75, 76, 77, 78, 79, 80, 81, 82, 83, 84, 85, 86, 87, 88, 89, 90, 91, 92] (by decide +kernel) (by decide +kernel)
set_option maxRecDepth 20000 in
theorem gX6_oddsAt_X6_farOf : GoodIn wsX6_oddsAt (wsV RX6 132 RX6 yX6_farOf wsX6_farOf) := goodIn_app (goodIn_of _ (by decide +kernel)) ggX6_oddsAt_X6_farOf
theorem dX6_oddsAt_0 : decode cX6_oddsAt 0 = .ok (.aload_n 0, 1) := by decide +kernel
theorem dX6_oddsAt_1 : decode cX6_oddsAt 1 = .ok (.iload_n 1, 1) := by decide +kernel
theorem dX6_oddsAt_2 : decode cX6_oddsAt 2 = .ok (.iload_n 2, 1) := by decide +kernel
theorem dX6_oddsAt_3 : decode cX6_oddsAt 3 = .ok (.iload_n 3, 1) := by decide +kernel
theorem dX6_oddsAt_4 : decode cX6_oddsAt 4 = .ok (.invokevirtual 128, 3) := by decide +kernel
theorem dX6_oddsAt_7 : decode cX6_oddsAt 7 = .ok (.aload_n 0, 1) := by decide +kernel
theorem dX6_oddsAt_8 : decode cX6_oddsAt 8 = .ok (.getfield 9, 3) := by decide +kernel
theorem dX6_oddsAt_11 : decode cX6_oddsAt 11 = .ok (.getfield 76, 3) := by decide +kernel
theorem dX6_oddsAt_14 : decode cX6_oddsAt 14 = .ok (.iconst 0, 1) := by decide +kernel
theorem dX6_oddsAt_15 : decode cX6_oddsAt 15 = .ok (.aaload, 1) := by decide +kernel
theorem dX6_oddsAt_16 : decode cX6_oddsAt 16 = .ok (.aload_n 0, 1) := by decide +kernel
theorem dX6_oddsAt_17 : decode cX6_oddsAt 17 = .ok (.getfield 25, 3) := by decide +kernel
theorem dX6_oddsAt_20 : decode cX6_oddsAt 20 = .ok (.aload_n 0, 1) := by decide +kernel
theorem dX6_oddsAt_21 : decode cX6_oddsAt 21 = .ok (.getfield 29, 3) := by decide +kernel
theorem dX6_oddsAt_24 : decode cX6_oddsAt 24 = .ok (.invokevirtual 80, 3) := by decide +kernel
theorem dX6_oddsAt_27 : decode cX6_oddsAt 27 = .ok (.lstore 4, 2) := by decide +kernel
theorem dX6_oddsAt_29 : decode cX6_oddsAt 29 = .ok (.lload 4, 2) := by decide +kernel
theorem dX6_oddsAt_31 : decode cX6_oddsAt 31 = .ok (.ldc2_w 90, 3) := by decide +kernel
theorem dX6_oddsAt_34 : decode cX6_oddsAt 34 = .ok (.lcmp, 1) := by decide +kernel
theorem dX6_oddsAt_35 : decode cX6_oddsAt 35 = .ok (.ifCond .ne 20, 3) := by decide +kernel
theorem dX6_oddsAt_38 : decode cX6_oddsAt 38 = .ok (.iconst 0, 1) := by decide +kernel
theorem dX6_oddsAt_39 : decode cX6_oddsAt 39 = .ok (.bipush 100, 2) := by decide +kernel
theorem dX6_oddsAt_41 : decode cX6_oddsAt 41 = .ok (.bipush 20, 2) := by decide +kernel
theorem dX6_oddsAt_43 : decode cX6_oddsAt 43 = .ok (.aload_n 0, 1) := by decide +kernel
theorem dX6_oddsAt_44 : decode cX6_oddsAt 44 = .ok (.iload_n 3, 1) := by decide +kernel
theorem dX6_oddsAt_45 : decode cX6_oddsAt 45 = .ok (.iload_n 2, 1) := by decide +kernel
theorem dX6_oddsAt_46 : decode cX6_oddsAt 46 = .ok (.invokevirtual 132, 3) := by decide +kernel
theorem dX6_oddsAt_49 : decode cX6_oddsAt 49 = .ok (.imul, 1) := by decide +kernel
theorem dX6_oddsAt_50 : decode cX6_oddsAt 50 = .ok (.isub, 1) := by decide +kernel
theorem dX6_oddsAt_51 : decode cX6_oddsAt 51 = .ok (.invokestatic 135, 3) := by decide +kernel
theorem dX6_oddsAt_54 : decode cX6_oddsAt 54 = .ok (.ireturn, 1) := by decide +kernel
theorem dX6_oddsAt_55 : decode cX6_oddsAt 55 = .ok (.lconst 0, 1) := by decide +kernel
theorem dX6_oddsAt_56 : decode cX6_oddsAt 56 = .ok (.ldc2_w 137, 3) := by decide +kernel
theorem dX6_oddsAt_59 : decode cX6_oddsAt 59 = .ok (.lload 4, 2) := by decide +kernel
theorem dX6_oddsAt_61 : decode cX6_oddsAt 61 = .ok (.invokestatic 96, 3) := by decide +kernel
theorem dX6_oddsAt_64 : decode cX6_oddsAt 64 = .ok (.invokestatic 102, 3) := by decide +kernel
theorem dX6_oddsAt_67 : decode cX6_oddsAt 67 = .ok (.l2i, 1) := by decide +kernel
theorem dX6_oddsAt_68 : decode cX6_oddsAt 68 = .ok (.ireturn, 1) := by decide +kernel
set_option maxRecDepth 20000 in
theorem ggX6_awayFor_X6_nameAway : GoodIn wsX6_awayFor wsX6_nameAway := goodIn_r _ [18, 3, 19, 1, 20, 21, 22, 23, 43, 44, 45, 46, 47, 48, 49, 50, 51, 52, 53, 54, 55, 56, 57, 58, 59, 60, 61, 62, 63, 64, 65, 66, 67, 68, 69, 70, 71, 72, 73] (by decide +kernel) (by decide +kernel)
set_option maxRecDepth 20000 in
theorem gX6_awayFor_X6_nameAway : GoodIn wsX6_awayFor (wsV RX6 118 RX6 yX6_nameAway wsX6_nameAway) := goodIn_app (goodIn_of _ (by decide +kernel)) ggX6_awayFor_X6_nameAway
set_option maxRecDepth 20000 in
theorem ggX6_awayFor_X2_valueFor : GoodIn wsX6_awayFor wsX2_valueFor := goodIn_r _ [28, 29, 30, 31, 32, 33, 34, 35, 27, 36, 37, 38, 39, 40, 41, 42, 74, 75, 76] (by decide +kernel) (by decide +kernel)
set_option maxRecDepth 20000 in
theorem gX6_awayFor_X2_valueFor : GoodIn wsX6_awayFor (wsV RX6 80 RX2 yX2_valueFor wsX2_valueFor) := goodIn_app (goodIn_of _ (by decide +kernel)) ggX6_awayFor_X2_valueFor
theorem dX6_awayFor_0 : decode cX6_awayFor 0 = .ok (.aload_n 0, 1) := by decide +kernel
theorem dX6_awayFor_1 : decode cX6_awayFor 1 = .ok (.iload_n 1, 1) := by decide +kernel
theorem dX6_awayFor_2 : decode cX6_awayFor 2 = .ok (.iload_n 2, 1) := by decide +kernel
theorem dX6_awayFor_3 : decode cX6_awayFor 3 = .ok (.invokevirtual 118, 3) := by decide +kernel
theorem dX6_awayFor_6 : decode cX6_awayFor 6 = .ok (.aload_n 0, 1) := by decide +kernel
theorem dX6_awayFor_7 : decode cX6_awayFor 7 = .ok (.getfield 9, 3) := by decide +kernel
theorem dX6_awayFor_10 : decode cX6_awayFor 10 = .ok (.getfield 76, 3) := by decide +kernel
theorem dX6_awayFor_13 : decode cX6_awayFor 13 = .ok (.iconst 2, 1) := by decide +kernel
theorem dX6_awayFor_14 : decode cX6_awayFor 14 = .ok (.aaload, 1) := by decide +kernel
theorem dX6_awayFor_15 : decode cX6_awayFor 15 = .ok (.aload_n 0, 1) := by decide +kernel
theorem dX6_awayFor_16 : decode cX6_awayFor 16 = .ok (.getfield 25, 3) := by decide +kernel
theorem dX6_awayFor_19 : decode cX6_awayFor 19 = .ok (.aload_n 0, 1) := by decide +kernel
theorem dX6_awayFor_20 : decode cX6_awayFor 20 = .ok (.getfield 29, 3) := by decide +kernel
theorem dX6_awayFor_23 : decode cX6_awayFor 23 = .ok (.invokevirtual 80, 3) := by decide +kernel
theorem dX6_awayFor_26 : decode cX6_awayFor 26 = .ok (.lstore_n 3, 1) := by decide +kernel
theorem dX6_awayFor_27 : decode cX6_awayFor 27 = .ok (.lload_n 3, 1) := by decide +kernel
theorem dX6_awayFor_28 : decode cX6_awayFor 28 = .ok (.ldc2_w 90, 3) := by decide +kernel
theorem dX6_awayFor_31 : decode cX6_awayFor 31 = .ok (.lcmp, 1) := by decide +kernel
theorem dX6_awayFor_32 : decode cX6_awayFor 32 = .ok (.ifCond .ne 7, 3) := by decide +kernel
theorem dX6_awayFor_35 : decode cX6_awayFor 35 = .ok (.iconst 5, 1) := by decide +kernel
theorem dX6_awayFor_36 : decode cX6_awayFor 36 = .ok (.goto 15, 3) := by decide +kernel
theorem dX6_awayFor_39 : decode cX6_awayFor 39 = .ok (.lconst 1, 1) := by decide +kernel
theorem dX6_awayFor_40 : decode cX6_awayFor 40 = .ok (.ldc2_w 139, 3) := by decide +kernel
theorem dX6_awayFor_43 : decode cX6_awayFor 43 = .ok (.lload_n 3, 1) := by decide +kernel
theorem dX6_awayFor_44 : decode cX6_awayFor 44 = .ok (.invokestatic 96, 3) := by decide +kernel
theorem dX6_awayFor_47 : decode cX6_awayFor 47 = .ok (.invokestatic 102, 3) := by decide +kernel
theorem dX6_awayFor_50 : decode cX6_awayFor 50 = .ok (.l2i, 1) := by decide +kernel
theorem dX6_awayFor_51 : decode cX6_awayFor 51 = .ok (.ireturn, 1) := by decide +kernel
set_option maxRecDepth 20000 in
theorem ggX6_worthAt_X6_oddsAt : GoodIn wsX6_worthAt wsX6_oddsAt := goodIn_r _ [8, 1, 9, 10, 11, 12, 13, 14, 15, 16, 17, 18, 19, 20, 21, 22, 23, 24, 25, 26, 7, 27, 28, 29, 30, 31, 32, 33, 34, 2, 3, 35, 36, 37, 38, 39, 40, 41, 42, 43, 44, 45, 46, 47, 48, 49, 50, 51, 52, 53, 54, 55, 56, 57, 58, 59, 60, 61, 62, 63, 64, 65, 66, 67, 68, 69, 70, 71, 72, 73, 74, 75, 76, 77, 78, 79, 80, 81, 82, 83, 84, 85, 86, 87, 88, 89, 90, 91, 92, 93, 94, 95, 96, 97, 98, 99, 100, 101, 102, 103, 104, 105, 106, 107] (by decide +kernel) (by decide +kernel)
set_option maxRecDepth 20000 in
theorem gX6_worthAt_X6_oddsAt : GoodIn wsX6_worthAt (wsV RX6 141 RX6 yX6_oddsAt wsX6_oddsAt) := goodIn_app (goodIn_of _ (by decide +kernel)) ggX6_worthAt_X6_oddsAt
theorem dX6_worthAt_0 : decode cX6_worthAt 0 = .ok (.aload_n 0, 1) := by decide +kernel
theorem dX6_worthAt_1 : decode cX6_worthAt 1 = .ok (.iload_n 1, 1) := by decide +kernel
theorem dX6_worthAt_2 : decode cX6_worthAt 2 = .ok (.iload_n 2, 1) := by decide +kernel
theorem dX6_worthAt_3 : decode cX6_worthAt 3 = .ok (.iload_n 3, 1) := by decide +kernel
theorem dX6_worthAt_4 : decode cX6_worthAt 4 = .ok (.invokevirtual 141, 3) := by decide +kernel
theorem dX6_worthAt_7 : decode cX6_worthAt 7 = .ok (.aload_n 0, 1) := by decide +kernel
theorem dX6_worthAt_8 : decode cX6_worthAt 8 = .ok (.getfield 9, 3) := by decide +kernel
theorem dX6_worthAt_11 : decode cX6_worthAt 11 = .ok (.getfield 57, 3) := by decide +kernel
theorem dX6_worthAt_14 : decode cX6_worthAt 14 = .ok (.getfield 112, 3) := by decide +kernel
theorem dX6_worthAt_17 : decode cX6_worthAt 17 = .ok (.iload_n 2, 1) := by decide +kernel
theorem dX6_worthAt_18 : decode cX6_worthAt 18 = .ok (.iaload, 1) := by decide +kernel
theorem dX6_worthAt_19 : decode cX6_worthAt 19 = .ok (.imul, 1) := by decide +kernel
theorem dX6_worthAt_20 : decode cX6_worthAt 20 = .ok (.ireturn, 1) := by decide +kernel
set_option maxRecDepth 20000 in
theorem ggX6_seatFrom_X6_worthAt : GoodIn wsX6_seatFrom wsX6_worthAt := goodIn_r _ [8, 1, 2, 9, 10, 11, 12, 7, 13, 14, 15, 16, 17, 18, 19, 20, 21, 22, 23, 24, 25, 26, 27, 28, 29, 30, 31, 32, 33, 34, 35, 36, 37, 38, 39, 40, 41, 42, 43, 44, 45, 46, 47, 48, 49, 50, 51, 52, 53, 54, 55, 56, 57, 58, 59, 60, 61, 62, 63, 64, 65, 66, 67, 68, 69, 70, 71, 72, 73, 74, 75, 76, 77, 78, 79, 80, 81, 82, 83, 84, 85, 86, 87, 88, 89, 90, 91, 92, 93, 94, 95, 96, 97, 98, 99, 100, 101, 102, 103, 104, 105, 106, 107, 108, 109, 110, 111, 112] (by decide +kernel) (by decide +kernel)
set_option maxRecDepth 20000 in
theorem gX6_seatFrom_X6_worthAt : GoodIn wsX6_seatFrom (wsV RX6 145 RX6 yX6_worthAt wsX6_worthAt) := goodIn_app (goodIn_of _ (by decide +kernel)) ggX6_seatFrom_X6_worthAt
theorem dX6_seatFrom_0 : decode cX6_seatFrom 0 = .ok (.iconst 0, 1) := by decide +kernel
theorem dX6_seatFrom_1 : decode cX6_seatFrom 1 = .ok (.istore 4, 2) := by decide +kernel
theorem dX6_seatFrom_3 : decode cX6_seatFrom 3 = .ok (.iload_n 3, 1) := by decide +kernel
theorem dX6_seatFrom_4 : decode cX6_seatFrom 4 = .ok (.istore 5, 2) := by decide +kernel
theorem dX6_seatFrom_6 : decode cX6_seatFrom 6 = .ok (.iload 5, 2) := by decide +kernel
theorem dX6_seatFrom_8 : decode cX6_seatFrom 8 = .ok (.aload_n 0, 1) := by decide +kernel
theorem dX6_seatFrom_9 : decode cX6_seatFrom 9 = .ok (.getfield 9, 3) := by decide +kernel
theorem dX6_seatFrom_12 : decode cX6_seatFrom 12 = .ok (.getfield 57, 3) := by decide +kernel
theorem dX6_seatFrom_15 : decode cX6_seatFrom 15 = .ok (.getfield 61, 3) := by decide +kernel
theorem dX6_seatFrom_18 : decode cX6_seatFrom 18 = .ok (.if_icmp .ge 22, 3) := by decide +kernel
theorem dX6_seatFrom_21 : decode cX6_seatFrom 21 = .ok (.iload 4, 2) := by decide +kernel
theorem dX6_seatFrom_23 : decode cX6_seatFrom 23 = .ok (.aload_n 0, 1) := by decide +kernel
theorem dX6_seatFrom_24 : decode cX6_seatFrom 24 = .ok (.iload_n 1, 1) := by decide +kernel
theorem dX6_seatFrom_25 : decode cX6_seatFrom 25 = .ok (.iload 5, 2) := by decide +kernel
theorem dX6_seatFrom_27 : decode cX6_seatFrom 27 = .ok (.iload_n 2, 1) := by decide +kernel
theorem dX6_seatFrom_28 : decode cX6_seatFrom 28 = .ok (.invokevirtual 145, 3) := by decide +kernel
theorem dX6_seatFrom_31 : decode cX6_seatFrom 31 = .ok (.iadd, 1) := by decide +kernel
theorem dX6_seatFrom_32 : decode cX6_seatFrom 32 = .ok (.istore 4, 2) := by decide +kernel
theorem dX6_seatFrom_34 : decode cX6_seatFrom 34 = .ok (.iinc 5 1, 3) := by decide +kernel
theorem dX6_seatFrom_37 : decode cX6_seatFrom 37 = .ok (.goto (-31), 3) := by decide +kernel
theorem dX6_seatFrom_40 : decode cX6_seatFrom 40 = .ok (.iload 4, 2) := by decide +kernel
theorem dX6_seatFrom_42 : decode cX6_seatFrom 42 = .ok (.ireturn, 1) := by decide +kernel
set_option maxRecDepth 20000 in
theorem ggX6_keyFor_X6_farOf : GoodIn wsX6_keyFor wsX6_farOf := goodIn_r _ [11, 4, 12, 13, 14, 15, 16, 17, 18, 19, 20, 21, 22, 23, 45, 46, 47, 48, 49, 50, 51, 52, 53, 54, 55, 56, 57, 58, 59, 60, 61, 62, 63, 64, 65, 66, 67] (by decide +kernel) (by decide +kernel)
set_option maxRecDepth 20000 in
theorem gX6_keyFor_X6_farOf : GoodIn wsX6_keyFor (wsV RX6 132 RX6 yX6_farOf wsX6_farOf) := goodIn_app (goodIn_of _ (by decide +kernel)) ggX6_keyFor_X6_farOf
set_option maxRecDepth 20000 in
theorem ggX6_keyFor_X6_hadOfSet : GoodIn wsX6_keyFor wsX6_hadOfSet := goodIn_r _ [27, 4, 5, 28, 6, 29, 45, 46, 47, 48, 49, 50, 51, 52, 53, 54, 55, 56, 57, 58, 59, 60, 61, 62, 63, 64, 65, 66, 67, 68, 69, 70, 71, 72, 73, 74, 75, 34, 35, 36, 37, 38, 39, 40, 41, 42, 43, 44] (by decide +kernel) (by decide +kernel)
set_option maxRecDepth 20000 in
theorem gX6_keyFor_X6_hadOfSet : GoodIn wsX6_keyFor (wsV RX6 162 RX6 yX6_hadOfSet wsX6_hadOfSet) := goodIn_app (goodIn_of _ (by decide +kernel)) ggX6_keyFor_X6_hadOfSet
set_option maxRecDepth 20000 in
theorem ggX6_keyFor_X8_rowOf : GoodIn wsX6_keyFor wsX8_rowOf := goodIn_r _ [33, 18, 54, 55, 56, 57, 58, 59, 60, 61, 62, 63, 64, 65, 66, 67] (by decide +kernel) (by decide +kernel)
set_option maxRecDepth 20000 in
theorem gX6_keyFor_X8_rowOf : GoodIn wsX6_keyFor (wsV RX6 122 RX8 yX8_rowOf wsX8_rowOf) := goodIn_app (goodIn_of _ (by decide +kernel)) ggX6_keyFor_X8_rowOf
theorem dX6_keyFor_0 : decode cX6_keyFor 0 = .ok (.aload_n 0, 1) := by decide +kernel
theorem dX6_keyFor_1 : decode cX6_keyFor 1 = .ok (.aload_n 1, 1) := by decide +kernel
theorem dX6_keyFor_2 : decode cX6_keyFor 2 = .ok (.getfield 148, 3) := by decide +kernel
theorem dX6_keyFor_5 : decode cX6_keyFor 5 = .ok (.iload_n 2, 1) := by decide +kernel
theorem dX6_keyFor_6 : decode cX6_keyFor 6 = .ok (.iaload, 1) := by decide +kernel
theorem dX6_keyFor_7 : decode cX6_keyFor 7 = .ok (.iload_n 3, 1) := by decide +kernel
theorem dX6_keyFor_8 : decode cX6_keyFor 8 = .ok (.invokevirtual 132, 3) := by decide +kernel
theorem dX6_keyFor_11 : decode cX6_keyFor 11 = .ok (.istore 4, 2) := by decide +kernel
theorem dX6_keyFor_13 : decode cX6_keyFor 13 = .ok (.aload_n 1, 1) := by decide +kernel
theorem dX6_keyFor_14 : decode cX6_keyFor 14 = .ok (.getfield 153, 3) := by decide +kernel
theorem dX6_keyFor_17 : decode cX6_keyFor 17 = .ok (.tableswitch 81 1 3 #[27, 34, 66], 27) := by decide +kernel
theorem dX6_keyFor_44 : decode cX6_keyFor 44 = .ok (.aload_n 1, 1) := by decide +kernel
theorem dX6_keyFor_45 : decode cX6_keyFor 45 = .ok (.getfield 156, 3) := by decide +kernel
theorem dX6_keyFor_48 : decode cX6_keyFor 48 = .ok (.iload_n 2, 1) := by decide +kernel
theorem dX6_keyFor_49 : decode cX6_keyFor 49 = .ok (.iaload, 1) := by decide +kernel
theorem dX6_keyFor_50 : decode cX6_keyFor 50 = .ok (.ireturn, 1) := by decide +kernel
theorem dX6_keyFor_51 : decode cX6_keyFor 51 = .ok (.aload_n 0, 1) := by decide +kernel
theorem dX6_keyFor_52 : decode cX6_keyFor 52 = .ok (.aload_n 1, 1) := by decide +kernel
theorem dX6_keyFor_53 : decode cX6_keyFor 53 = .ok (.iload_n 2, 1) := by decide +kernel
theorem dX6_keyFor_54 : decode cX6_keyFor 54 = .ok (.aload_n 0, 1) := by decide +kernel
theorem dX6_keyFor_55 : decode cX6_keyFor 55 = .ok (.getfield 9, 3) := by decide +kernel
theorem dX6_keyFor_58 : decode cX6_keyFor 58 = .ok (.getfield 57, 3) := by decide +kernel
theorem dX6_keyFor_61 : decode cX6_keyFor 61 = .ok (.getfield 159, 3) := by decide +kernel
theorem dX6_keyFor_64 : decode cX6_keyFor 64 = .ok (.iload_n 3, 1) := by decide +kernel
theorem dX6_keyFor_65 : decode cX6_keyFor 65 = .ok (.iaload, 1) := by decide +kernel
theorem dX6_keyFor_66 : decode cX6_keyFor 66 = .ok (.invokevirtual 162, 3) := by decide +kernel
theorem dX6_keyFor_69 : decode cX6_keyFor 69 = .ok (.ifCond .eq 11, 3) := by decide +kernel
theorem dX6_keyFor_72 : decode cX6_keyFor 72 = .ok (.bipush 100, 2) := by decide +kernel
theorem dX6_keyFor_74 : decode cX6_keyFor 74 = .ok (.iload 4, 2) := by decide +kernel
theorem dX6_keyFor_76 : decode cX6_keyFor 76 = .ok (.iadd, 1) := by decide +kernel
theorem dX6_keyFor_77 : decode cX6_keyFor 77 = .ok (.goto 5, 3) := by decide +kernel
theorem dX6_keyFor_80 : decode cX6_keyFor 80 = .ok (.iload 4, 2) := by decide +kernel
theorem dX6_keyFor_82 : decode cX6_keyFor 82 = .ok (.ireturn, 1) := by decide +kernel
theorem dX6_keyFor_83 : decode cX6_keyFor 83 = .ok (.aload_n 0, 1) := by decide +kernel
theorem dX6_keyFor_84 : decode cX6_keyFor 84 = .ok (.getfield 9, 3) := by decide +kernel
theorem dX6_keyFor_87 : decode cX6_keyFor 87 = .ok (.aload_n 1, 1) := by decide +kernel
theorem dX6_keyFor_88 : decode cX6_keyFor 88 = .ok (.getfield 148, 3) := by decide +kernel
theorem dX6_keyFor_91 : decode cX6_keyFor 91 = .ok (.iload_n 2, 1) := by decide +kernel
theorem dX6_keyFor_92 : decode cX6_keyFor 92 = .ok (.iaload, 1) := by decide +kernel
theorem dX6_keyFor_93 : decode cX6_keyFor 93 = .ok (.invokevirtual 122, 3) := by decide +kernel
theorem dX6_keyFor_96 : decode cX6_keyFor 96 = .ok (.ineg, 1) := by decide +kernel
theorem dX6_keyFor_97 : decode cX6_keyFor 97 = .ok (.ireturn, 1) := by decide +kernel
theorem dX6_keyFor_98 : decode cX6_keyFor 98 = .ok (.iload 4, 2) := by decide +kernel
theorem dX6_keyFor_100 : decode cX6_keyFor 100 = .ok (.ireturn, 1) := by decide +kernel
theorem dX6_hadOfSet_0 : decode cX6_hadOfSet 0 = .ok (.iconst 0, 1) := by decide +kernel
theorem dX6_hadOfSet_1 : decode cX6_hadOfSet 1 = .ok (.istore 4, 2) := by decide +kernel
theorem dX6_hadOfSet_3 : decode cX6_hadOfSet 3 = .ok (.iload 4, 2) := by decide +kernel
theorem dX6_hadOfSet_5 : decode cX6_hadOfSet 5 = .ok (.aload_n 0, 1) := by decide +kernel
theorem dX6_hadOfSet_6 : decode cX6_hadOfSet 6 = .ok (.getfield 9, 3) := by decide +kernel
theorem dX6_hadOfSet_9 : decode cX6_hadOfSet 9 = .ok (.getfield 57, 3) := by decide +kernel
theorem dX6_hadOfSet_12 : decode cX6_hadOfSet 12 = .ok (.getfield 61, 3) := by decide +kernel
theorem dX6_hadOfSet_15 : decode cX6_hadOfSet 15 = .ok (.if_icmp .ge 39, 3) := by decide +kernel
theorem dX6_hadOfSet_18 : decode cX6_hadOfSet 18 = .ok (.aload_n 0, 1) := by decide +kernel
theorem dX6_hadOfSet_19 : decode cX6_hadOfSet 19 = .ok (.getfield 9, 3) := by decide +kernel
theorem dX6_hadOfSet_22 : decode cX6_hadOfSet 22 = .ok (.getfield 57, 3) := by decide +kernel
theorem dX6_hadOfSet_25 : decode cX6_hadOfSet 25 = .ok (.getfield 159, 3) := by decide +kernel
theorem dX6_hadOfSet_28 : decode cX6_hadOfSet 28 = .ok (.iload 4, 2) := by decide +kernel
theorem dX6_hadOfSet_30 : decode cX6_hadOfSet 30 = .ok (.iaload, 1) := by decide +kernel
theorem dX6_hadOfSet_31 : decode cX6_hadOfSet 31 = .ok (.iload_n 3, 1) := by decide +kernel
theorem dX6_hadOfSet_32 : decode cX6_hadOfSet 32 = .ok (.if_icmp .ne 16, 3) := by decide +kernel
theorem dX6_hadOfSet_35 : decode cX6_hadOfSet 35 = .ok (.aload_n 1, 1) := by decide +kernel
theorem dX6_hadOfSet_36 : decode cX6_hadOfSet 36 = .ok (.getfield 166, 3) := by decide +kernel
theorem dX6_hadOfSet_39 : decode cX6_hadOfSet 39 = .ok (.iload 4, 2) := by decide +kernel
theorem dX6_hadOfSet_41 : decode cX6_hadOfSet 41 = .ok (.iaload, 1) := by decide +kernel
theorem dX6_hadOfSet_42 : decode cX6_hadOfSet 42 = .ok (.iload_n 2, 1) := by decide +kernel
theorem dX6_hadOfSet_43 : decode cX6_hadOfSet 43 = .ok (.if_icmp .ne 5, 3) := by decide +kernel
theorem dX6_hadOfSet_46 : decode cX6_hadOfSet 46 = .ok (.iconst 1, 1) := by decide +kernel
theorem dX6_hadOfSet_47 : decode cX6_hadOfSet 47 = .ok (.ireturn, 1) := by decide +kernel
theorem dX6_hadOfSet_48 : decode cX6_hadOfSet 48 = .ok (.iinc 4 1, 3) := by decide +kernel
theorem dX6_hadOfSet_51 : decode cX6_hadOfSet 51 = .ok (.goto (-48), 3) := by decide +kernel
theorem dX6_hadOfSet_54 : decode cX6_hadOfSet 54 = .ok (.iconst 0, 1) := by decide +kernel
theorem dX6_hadOfSet_55 : decode cX6_hadOfSet 55 = .ok (.ireturn, 1) := by decide +kernel
set_option maxRecDepth 20000 in
theorem ggX6_lineUp_X4_isIn : GoodIn wsX6_lineUp wsX4_isIn := goodIn_r _ [11, 12, 133, 134, 135, 136, 137, 138, 139, 140, 141, 142, 143] (by decide +kernel) (by decide +kernel)
set_option maxRecDepth 20000 in
theorem gX6_lineUp_X4_isIn : GoodIn wsX6_lineUp (wsV RX6 171 RX4 yX4_isIn wsX4_isIn) := goodIn_app (goodIn_of _ (by decide +kernel)) ggX6_lineUp_X4_isIn
set_option maxRecDepth 20000 in
theorem ggX6_lineUp_X6_oddsAt : GoodIn wsX6_lineUp wsX6_oddsAt := goodIn_r _ [17, 1, 18, 19, 20, 21, 22, 23, 24, 25, 26, 27, 28, 29, 30, 31, 32, 33, 34, 35, 16, 36, 37, 38, 39, 40, 41, 42, 43, 44, 45, 46, 47, 48, 49, 50, 51, 52, 53, 54, 55, 56, 57, 58, 59, 60, 61, 62, 63, 64, 65, 66, 67, 68, 69, 70, 71, 72, 73, 74, 75, 76, 77, 78, 79, 80, 81, 82, 83, 84, 103, 104, 105, 106, 107, 108, 109, 110, 111, 112, 113, 114, 115, 116, 117, 118, 119, 120, 121, 122, 123, 124, 125, 144, 145, 146, 147, 148, 149, 150, 151, 152, 153, 154] (by decide +kernel) (by decide +kernel)
set_option maxRecDepth 20000 in
theorem gX6_lineUp_X6_oddsAt : GoodIn wsX6_lineUp (wsV RX6 141 RX6 yX6_oddsAt wsX6_oddsAt) := goodIn_app (goodIn_of _ (by decide +kernel)) ggX6_lineUp_X6_oddsAt
set_option maxRecDepth 20000 in
theorem ggX6_lineUp_X6_keyFor : GoodIn wsX6_lineUp wsX6_keyFor := goodIn_r _ [88, 5, 89, 90, 1, 44, 91, 81, 82, 83, 16, 84, 37, 48, 49, 50, 51, 52, 53, 54, 55, 24, 56, 57, 92, 93, 94, 95, 96, 97, 58, 59, 60, 61, 133, 134, 135, 136, 137, 138, 139, 140, 141, 142, 143, 103, 104, 105, 106, 107, 108, 109, 110, 111, 112, 113, 114, 115, 116, 117, 118, 119, 120, 121, 122, 123, 124, 125, 144, 145, 146, 147, 148, 149, 150, 151] (by decide +kernel) (by decide +kernel)
set_option maxRecDepth 20000 in
theorem gX6_lineUp_X6_keyFor : GoodIn wsX6_lineUp (wsV RX6 175 RX6 yX6_keyFor wsX6_keyFor) := goodIn_app (goodIn_of _ (by decide +kernel)) ggX6_lineUp_X6_keyFor
set_option maxRecDepth 20000 in
theorem ggX6_lineUp_X6_putInLine : GoodIn wsX6_lineUp wsX6_putInLine := goodIn_r _ [101, 6, 102, 103, 104, 105, 106, 107, 108, 109, 110, 111] (by decide +kernel) (by decide +kernel)
set_option maxRecDepth 20000 in
theorem gX6_lineUp_X6_putInLine : GoodIn wsX6_lineUp (wsV RX6 179 RX6 yX6_putInLine wsX6_putInLine) := goodIn_app (goodIn_of _ (by decide +kernel)) ggX6_lineUp_X6_putInLine
theorem dX6_lineUp_0 : decode cX6_lineUp 0 = .ok (.iconst 0, 1) := by decide +kernel
theorem dX6_lineUp_1 : decode cX6_lineUp 1 = .ok (.istore 4, 2) := by decide +kernel
theorem dX6_lineUp_3 : decode cX6_lineUp 3 = .ok (.iconst 0, 1) := by decide +kernel
theorem dX6_lineUp_4 : decode cX6_lineUp 4 = .ok (.istore 5, 2) := by decide +kernel
theorem dX6_lineUp_6 : decode cX6_lineUp 6 = .ok (.iload 5, 2) := by decide +kernel
theorem dX6_lineUp_8 : decode cX6_lineUp 8 = .ok (.aload_n 0, 1) := by decide +kernel
theorem dX6_lineUp_9 : decode cX6_lineUp 9 = .ok (.getfield 9, 3) := by decide +kernel
theorem dX6_lineUp_12 : decode cX6_lineUp 12 = .ok (.getfield 41, 3) := by decide +kernel
theorem dX6_lineUp_15 : decode cX6_lineUp 15 = .ok (.getfield 169, 3) := by decide +kernel
theorem dX6_lineUp_18 : decode cX6_lineUp 18 = .ok (.if_icmp .ge 76, 3) := by decide +kernel
theorem dX6_lineUp_21 : decode cX6_lineUp 21 = .ok (.aload_n 1, 1) := by decide +kernel
theorem dX6_lineUp_22 : decode cX6_lineUp 22 = .ok (.iload 5, 2) := by decide +kernel
theorem dX6_lineUp_24 : decode cX6_lineUp 24 = .ok (.iload_n 3, 1) := by decide +kernel
theorem dX6_lineUp_25 : decode cX6_lineUp 25 = .ok (.invokevirtual 171, 3) := by decide +kernel
theorem dX6_lineUp_28 : decode cX6_lineUp 28 = .ok (.ifCond .eq 60, 3) := by decide +kernel
theorem dX6_lineUp_31 : decode cX6_lineUp 31 = .ok (.aload_n 0, 1) := by decide +kernel
theorem dX6_lineUp_32 : decode cX6_lineUp 32 = .ok (.getfield 35, 3) := by decide +kernel
theorem dX6_lineUp_35 : decode cX6_lineUp 35 = .ok (.iload 5, 2) := by decide +kernel
theorem dX6_lineUp_37 : decode cX6_lineUp 37 = .ok (.aload_n 0, 1) := by decide +kernel
theorem dX6_lineUp_38 : decode cX6_lineUp 38 = .ok (.iload 5, 2) := by decide +kernel
theorem dX6_lineUp_40 : decode cX6_lineUp 40 = .ok (.iload_n 2, 1) := by decide +kernel
theorem dX6_lineUp_41 : decode cX6_lineUp 41 = .ok (.aload_n 1, 1) := by decide +kernel
theorem dX6_lineUp_42 : decode cX6_lineUp 42 = .ok (.getfield 148, 3) := by decide +kernel
theorem dX6_lineUp_45 : decode cX6_lineUp 45 = .ok (.iload 5, 2) := by decide +kernel
theorem dX6_lineUp_47 : decode cX6_lineUp 47 = .ok (.iaload, 1) := by decide +kernel
theorem dX6_lineUp_48 : decode cX6_lineUp 48 = .ok (.invokevirtual 141, 3) := by decide +kernel
theorem dX6_lineUp_51 : decode cX6_lineUp 51 = .ok (.iastore, 1) := by decide +kernel
theorem dX6_lineUp_52 : decode cX6_lineUp 52 = .ok (.aload_n 0, 1) := by decide +kernel
theorem dX6_lineUp_53 : decode cX6_lineUp 53 = .ok (.getfield 35, 3) := by decide +kernel
theorem dX6_lineUp_56 : decode cX6_lineUp 56 = .ok (.iload 5, 2) := by decide +kernel
theorem dX6_lineUp_58 : decode cX6_lineUp 58 = .ok (.iaload, 1) := by decide +kernel
theorem dX6_lineUp_59 : decode cX6_lineUp 59 = .ok (.ifCond .le 29, 3) := by decide +kernel
theorem dX6_lineUp_62 : decode cX6_lineUp 62 = .ok (.aload_n 0, 1) := by decide +kernel
theorem dX6_lineUp_63 : decode cX6_lineUp 63 = .ok (.getfield 38, 3) := by decide +kernel
theorem dX6_lineUp_66 : decode cX6_lineUp 66 = .ok (.iload 5, 2) := by decide +kernel
theorem dX6_lineUp_68 : decode cX6_lineUp 68 = .ok (.aload_n 0, 1) := by decide +kernel
theorem dX6_lineUp_69 : decode cX6_lineUp 69 = .ok (.aload_n 1, 1) := by decide +kernel
theorem dX6_lineUp_70 : decode cX6_lineUp 70 = .ok (.iload 5, 2) := by decide +kernel
theorem dX6_lineUp_72 : decode cX6_lineUp 72 = .ok (.iload_n 2, 1) := by decide +kernel
theorem dX6_lineUp_73 : decode cX6_lineUp 73 = .ok (.invokevirtual 175, 3) := by decide +kernel
theorem dX6_lineUp_76 : decode cX6_lineUp 76 = .ok (.iastore, 1) := by decide +kernel
theorem dX6_lineUp_77 : decode cX6_lineUp 77 = .ok (.aload_n 0, 1) := by decide +kernel
theorem dX6_lineUp_78 : decode cX6_lineUp 78 = .ok (.iload 5, 2) := by decide +kernel
theorem dX6_lineUp_80 : decode cX6_lineUp 80 = .ok (.iload 4, 2) := by decide +kernel
theorem dX6_lineUp_82 : decode cX6_lineUp 82 = .ok (.invokevirtual 179, 3) := by decide +kernel
theorem dX6_lineUp_85 : decode cX6_lineUp 85 = .ok (.iinc 4 1, 3) := by decide +kernel
theorem dX6_lineUp_88 : decode cX6_lineUp 88 = .ok (.iinc 5 1, 3) := by decide +kernel
theorem dX6_lineUp_91 : decode cX6_lineUp 91 = .ok (.goto (-85), 3) := by decide +kernel
theorem dX6_lineUp_94 : decode cX6_lineUp 94 = .ok (.iload 4, 2) := by decide +kernel
theorem dX6_lineUp_96 : decode cX6_lineUp 96 = .ok (.ireturn, 1) := by decide +kernel
theorem dX6_putInLine_0 : decode cX6_putInLine 0 = .ok (.iload_n 2, 1) := by decide +kernel
theorem dX6_putInLine_1 : decode cX6_putInLine 1 = .ok (.istore_n 3, 1) := by decide +kernel
theorem dX6_putInLine_2 : decode cX6_putInLine 2 = .ok (.iload_n 3, 1) := by decide +kernel
theorem dX6_putInLine_3 : decode cX6_putInLine 3 = .ok (.ifCond .le 45, 3) := by decide +kernel
theorem dX6_putInLine_6 : decode cX6_putInLine 6 = .ok (.aload_n 0, 1) := by decide +kernel
theorem dX6_putInLine_7 : decode cX6_putInLine 7 = .ok (.getfield 38, 3) := by decide +kernel
theorem dX6_putInLine_10 : decode cX6_putInLine 10 = .ok (.aload_n 0, 1) := by decide +kernel
theorem dX6_putInLine_11 : decode cX6_putInLine 11 = .ok (.getfield 32, 3) := by decide +kernel
theorem dX6_putInLine_14 : decode cX6_putInLine 14 = .ok (.iload_n 3, 1) := by decide +kernel
theorem dX6_putInLine_15 : decode cX6_putInLine 15 = .ok (.iconst 1, 1) := by decide +kernel
theorem dX6_putInLine_16 : decode cX6_putInLine 16 = .ok (.isub, 1) := by decide +kernel
theorem dX6_putInLine_17 : decode cX6_putInLine 17 = .ok (.iaload, 1) := by decide +kernel
theorem dX6_putInLine_18 : decode cX6_putInLine 18 = .ok (.iaload, 1) := by decide +kernel
theorem dX6_putInLine_19 : decode cX6_putInLine 19 = .ok (.aload_n 0, 1) := by decide +kernel
theorem dX6_putInLine_20 : decode cX6_putInLine 20 = .ok (.getfield 38, 3) := by decide +kernel
theorem dX6_putInLine_23 : decode cX6_putInLine 23 = .ok (.iload_n 1, 1) := by decide +kernel
theorem dX6_putInLine_24 : decode cX6_putInLine 24 = .ok (.iaload, 1) := by decide +kernel
theorem dX6_putInLine_25 : decode cX6_putInLine 25 = .ok (.if_icmp .le 23, 3) := by decide +kernel
theorem dX6_putInLine_28 : decode cX6_putInLine 28 = .ok (.aload_n 0, 1) := by decide +kernel
theorem dX6_putInLine_29 : decode cX6_putInLine 29 = .ok (.getfield 32, 3) := by decide +kernel
theorem dX6_putInLine_32 : decode cX6_putInLine 32 = .ok (.iload_n 3, 1) := by decide +kernel
theorem dX6_putInLine_33 : decode cX6_putInLine 33 = .ok (.aload_n 0, 1) := by decide +kernel
theorem dX6_putInLine_34 : decode cX6_putInLine 34 = .ok (.getfield 32, 3) := by decide +kernel
theorem dX6_putInLine_37 : decode cX6_putInLine 37 = .ok (.iload_n 3, 1) := by decide +kernel
theorem dX6_putInLine_38 : decode cX6_putInLine 38 = .ok (.iconst 1, 1) := by decide +kernel
theorem dX6_putInLine_39 : decode cX6_putInLine 39 = .ok (.isub, 1) := by decide +kernel
theorem dX6_putInLine_40 : decode cX6_putInLine 40 = .ok (.iaload, 1) := by decide +kernel
theorem dX6_putInLine_41 : decode cX6_putInLine 41 = .ok (.iastore, 1) := by decide +kernel
theorem dX6_putInLine_42 : decode cX6_putInLine 42 = .ok (.iinc 3 (-1), 3) := by decide +kernel
theorem dX6_putInLine_45 : decode cX6_putInLine 45 = .ok (.goto (-43), 3) := by decide +kernel
theorem dX6_putInLine_48 : decode cX6_putInLine 48 = .ok (.aload_n 0, 1) := by decide +kernel
theorem dX6_putInLine_49 : decode cX6_putInLine 49 = .ok (.getfield 32, 3) := by decide +kernel
theorem dX6_putInLine_52 : decode cX6_putInLine 52 = .ok (.iload_n 3, 1) := by decide +kernel
theorem dX6_putInLine_53 : decode cX6_putInLine 53 = .ok (.iload_n 1, 1) := by decide +kernel
theorem dX6_putInLine_54 : decode cX6_putInLine 54 = .ok (.iastore, 1) := by decide +kernel
theorem dX6_putInLine_55 : decode cX6_putInLine 55 = .ok (.return_, 1) := by decide +kernel
set_option maxRecDepth 20000 in
theorem ggX6_bringWave_X6_lineUp : GoodIn wsX6_bringWave wsX6_lineUp := goodIn_r _ [14, 1, 15, 16, 17, 18, 19, 20, 21, 22, 23, 24, 25, 26, 27, 28, 13, 29, 30, 31, 32, 33, 34, 35, 36, 37, 38, 39, 40, 41, 42, 43, 44, 45, 46, 47, 48, 49, 50, 51, 52, 53, 54, 55, 2, 56, 3, 57, 58, 59, 60, 61, 62, 63, 64, 65, 66, 67, 68, 69, 70, 71, 72, 73, 74, 75, 76, 77, 78, 79, 80, 81, 82, 83, 84, 85, 86, 87, 88, 89, 90, 91, 92, 93, 94, 95, 96, 97, 98, 99, 7, 100, 101, 102, 103, 104, 105, 4, 106, 107, 108, 109, 6, 137, 138, 139, 140, 141, 142, 143, 144, 145, 146, 147, 148, 149, 150, 151, 152, 153, 154, 155, 156, 157, 158, 159, 179, 180, 181, 182, 183, 184, 185, 168, 169, 170, 171, 172, 173, 174, 175, 176, 177, 178, 160, 161, 162, 163, 164, 165, 166, 167, 186, 187, 188] (by decide +kernel) (by decide +kernel)
set_option maxRecDepth 20000 in
theorem gX6_bringWave_X6_lineUp : GoodIn wsX6_bringWave (wsV RX6 182 RX6 yX6_lineUp wsX6_lineUp) := goodIn_app (goodIn_of _ (by decide +kernel)) ggX6_bringWave_X6_lineUp
set_option maxRecDepth 20000 in
theorem ggX6_bringWave_X6_placeOfRider : GoodIn wsX6_bringWave wsX6_placeOfRider := goodIn_r _ [113, 17, 6, 114, 115, 116, 23, 117, 118, 119, 120, 121, 137, 138, 139, 140, 141, 142, 143, 144, 145, 168, 169, 170, 171, 172, 173, 174, 175, 176, 177, 178] (by decide +kernel) (by decide +kernel)
set_option maxRecDepth 20000 in
theorem gX6_bringWave_X6_placeOfRider : GoodIn wsX6_bringWave (wsV RX6 185 RX6 yX6_placeOfRider wsX6_placeOfRider) := goodIn_app (goodIn_of _ (by decide +kernel)) ggX6_bringWave_X6_placeOfRider
set_option maxRecDepth 20000 in
theorem ggX6_bringWave_X6_crosserBehind : GoodIn wsX6_bringWave wsX6_crosserBehind := goodIn_r _ [125, 126, 6, 114, 115, 116, 23, 117, 118, 119, 120, 121, 137, 138, 139, 140, 141, 142, 143, 144, 145, 168, 169, 170, 171, 172, 173, 174, 175, 176, 177, 178] (by decide +kernel) (by decide +kernel)
set_option maxRecDepth 20000 in
theorem gX6_bringWave_X6_crosserBehind : GoodIn wsX6_bringWave (wsV RX6 192 RX6 yX6_crosserBehind wsX6_crosserBehind) := goodIn_app (goodIn_of _ (by decide +kernel)) ggX6_bringWave_X6_crosserBehind
set_option maxRecDepth 20000 in
theorem ggX6_bringWave_X6_sendAway : GoodIn wsX6_bringWave wsX6_sendAway := goodIn_r _ [130, 131, 1, 2, 3, 132, 133, 134, 13, 135, 30, 31, 32, 33, 136, 39, 40, 36, 41, 42, 43, 44, 51, 52, 53, 54, 55, 56, 57, 72, 73, 74, 75, 76, 77, 78, 79, 80, 81, 82, 83, 84, 85, 86, 87, 88, 89, 90, 168, 169, 170, 171, 172, 173, 174, 175, 176, 177, 178, 137, 138, 139, 140, 141, 142, 143, 144, 145, 146, 147, 148, 149, 150, 151, 152, 153, 154, 155, 156, 157, 158, 159, 160, 161, 162, 163, 164, 165, 166, 167, 186, 187, 188] (by decide +kernel) (by decide +kernel)
set_option maxRecDepth 20000 in
theorem gX6_bringWave_X6_sendAway : GoodIn wsX6_bringWave (wsV RX6 195 RX6 yX6_sendAway wsX6_sendAway) := goodIn_app (goodIn_of _ (by decide +kernel)) ggX6_bringWave_X6_sendAway
theorem dX6_bringWave_0 : decode cX6_bringWave 0 = .ok (.aload_n 0, 1) := by decide +kernel
theorem dX6_bringWave_1 : decode cX6_bringWave 1 = .ok (.aload_n 1, 1) := by decide +kernel
theorem dX6_bringWave_2 : decode cX6_bringWave 2 = .ok (.iload_n 2, 1) := by decide +kernel
theorem dX6_bringWave_3 : decode cX6_bringWave 3 = .ok (.aload_n 0, 1) := by decide +kernel
theorem dX6_bringWave_4 : decode cX6_bringWave 4 = .ok (.getfield 9, 3) := by decide +kernel
theorem dX6_bringWave_7 : decode cX6_bringWave 7 = .ok (.getfield 57, 3) := by decide +kernel
theorem dX6_bringWave_10 : decode cX6_bringWave 10 = .ok (.getfield 67, 3) := by decide +kernel
theorem dX6_bringWave_13 : decode cX6_bringWave 13 = .ok (.iload_n 2, 1) := by decide +kernel
theorem dX6_bringWave_14 : decode cX6_bringWave 14 = .ok (.iaload, 1) := by decide +kernel
theorem dX6_bringWave_15 : decode cX6_bringWave 15 = .ok (.invokevirtual 182, 3) := by decide +kernel
theorem dX6_bringWave_18 : decode cX6_bringWave 18 = .ok (.istore_n 3, 1) := by decide +kernel
theorem dX6_bringWave_19 : decode cX6_bringWave 19 = .ok (.aload_n 0, 1) := by decide +kernel
theorem dX6_bringWave_20 : decode cX6_bringWave 20 = .ok (.aload_n 1, 1) := by decide +kernel
theorem dX6_bringWave_21 : decode cX6_bringWave 21 = .ok (.iload_n 3, 1) := by decide +kernel
theorem dX6_bringWave_22 : decode cX6_bringWave 22 = .ok (.invokevirtual 185, 3) := by decide +kernel
theorem dX6_bringWave_25 : decode cX6_bringWave 25 = .ok (.istore 4, 2) := by decide +kernel
theorem dX6_bringWave_27 : decode cX6_bringWave 27 = .ok (.iload 4, 2) := by decide +kernel
theorem dX6_bringWave_29 : decode cX6_bringWave 29 = .ok (.iconst (-1), 1) := by decide +kernel
theorem dX6_bringWave_30 : decode cX6_bringWave 30 = .ok (.if_icmp .ne 21, 3) := by decide +kernel
theorem dX6_bringWave_33 : decode cX6_bringWave 33 = .ok (.aload_n 1, 1) := by decide +kernel
theorem dX6_bringWave_34 : decode cX6_bringWave 34 = .ok (.getfield 166, 3) := by decide +kernel
theorem dX6_bringWave_37 : decode cX6_bringWave 37 = .ok (.iload_n 2, 1) := by decide +kernel
theorem dX6_bringWave_38 : decode cX6_bringWave 38 = .ok (.iconst (-1), 1) := by decide +kernel
theorem dX6_bringWave_39 : decode cX6_bringWave 39 = .ok (.iastore, 1) := by decide +kernel
theorem dX6_bringWave_40 : decode cX6_bringWave 40 = .ok (.aload_n 1, 1) := by decide +kernel
theorem dX6_bringWave_41 : decode cX6_bringWave 41 = .ok (.dup, 1) := by decide +kernel
theorem dX6_bringWave_42 : decode cX6_bringWave 42 = .ok (.getfield 189, 3) := by decide +kernel
theorem dX6_bringWave_45 : decode cX6_bringWave 45 = .ok (.iconst 1, 1) := by decide +kernel
theorem dX6_bringWave_46 : decode cX6_bringWave 46 = .ok (.iadd, 1) := by decide +kernel
theorem dX6_bringWave_47 : decode cX6_bringWave 47 = .ok (.putfield 189, 3) := by decide +kernel
theorem dX6_bringWave_50 : decode cX6_bringWave 50 = .ok (.return_, 1) := by decide +kernel
theorem dX6_bringWave_51 : decode cX6_bringWave 51 = .ok (.aload_n 0, 1) := by decide +kernel
theorem dX6_bringWave_52 : decode cX6_bringWave 52 = .ok (.getfield 32, 3) := by decide +kernel
theorem dX6_bringWave_55 : decode cX6_bringWave 55 = .ok (.iload 4, 2) := by decide +kernel
theorem dX6_bringWave_57 : decode cX6_bringWave 57 = .ok (.iaload, 1) := by decide +kernel
theorem dX6_bringWave_58 : decode cX6_bringWave 58 = .ok (.istore 5, 2) := by decide +kernel
theorem dX6_bringWave_60 : decode cX6_bringWave 60 = .ok (.aload_n 0, 1) := by decide +kernel
theorem dX6_bringWave_61 : decode cX6_bringWave 61 = .ok (.aload_n 1, 1) := by decide +kernel
theorem dX6_bringWave_62 : decode cX6_bringWave 62 = .ok (.iload 4, 2) := by decide +kernel
theorem dX6_bringWave_64 : decode cX6_bringWave 64 = .ok (.iload_n 3, 1) := by decide +kernel
theorem dX6_bringWave_65 : decode cX6_bringWave 65 = .ok (.invokevirtual 192, 3) := by decide +kernel
theorem dX6_bringWave_68 : decode cX6_bringWave 68 = .ok (.istore 6, 2) := by decide +kernel
theorem dX6_bringWave_70 : decode cX6_bringWave 70 = .ok (.iload 6, 2) := by decide +kernel
theorem dX6_bringWave_72 : decode cX6_bringWave 72 = .ok (.iconst (-1), 1) := by decide +kernel
theorem dX6_bringWave_73 : decode cX6_bringWave 73 = .ok (.if_icmp .ne 32, 3) := by decide +kernel
theorem dX6_bringWave_76 : decode cX6_bringWave 76 = .ok (.aload_n 1, 1) := by decide +kernel
theorem dX6_bringWave_77 : decode cX6_bringWave 77 = .ok (.getfield 166, 3) := by decide +kernel
theorem dX6_bringWave_80 : decode cX6_bringWave 80 = .ok (.iload_n 2, 1) := by decide +kernel
theorem dX6_bringWave_81 : decode cX6_bringWave 81 = .ok (.iload 5, 2) := by decide +kernel
theorem dX6_bringWave_83 : decode cX6_bringWave 83 = .ok (.iastore, 1) := by decide +kernel
theorem dX6_bringWave_84 : decode cX6_bringWave 84 = .ok (.aload_n 1, 1) := by decide +kernel
theorem dX6_bringWave_85 : decode cX6_bringWave 85 = .ok (.getfield 156, 3) := by decide +kernel
theorem dX6_bringWave_88 : decode cX6_bringWave 88 = .ok (.iload 5, 2) := by decide +kernel
theorem dX6_bringWave_90 : decode cX6_bringWave 90 = .ok (.dup2, 1) := by decide +kernel
theorem dX6_bringWave_91 : decode cX6_bringWave 91 = .ok (.iaload, 1) := by decide +kernel
theorem dX6_bringWave_92 : decode cX6_bringWave 92 = .ok (.iconst 1, 1) := by decide +kernel
theorem dX6_bringWave_93 : decode cX6_bringWave 93 = .ok (.iadd, 1) := by decide +kernel
theorem dX6_bringWave_94 : decode cX6_bringWave 94 = .ok (.iastore, 1) := by decide +kernel
theorem dX6_bringWave_95 : decode cX6_bringWave 95 = .ok (.aload_n 0, 1) := by decide +kernel
theorem dX6_bringWave_96 : decode cX6_bringWave 96 = .ok (.aload_n 1, 1) := by decide +kernel
theorem dX6_bringWave_97 : decode cX6_bringWave 97 = .ok (.iload 5, 2) := by decide +kernel
theorem dX6_bringWave_99 : decode cX6_bringWave 99 = .ok (.iload_n 2, 1) := by decide +kernel
theorem dX6_bringWave_100 : decode cX6_bringWave 100 = .ok (.iconst 1, 1) := by decide +kernel
theorem dX6_bringWave_101 : decode cX6_bringWave 101 = .ok (.invokevirtual 195, 3) := by decide +kernel
theorem dX6_bringWave_104 : decode cX6_bringWave 104 = .ok (.return_, 1) := by decide +kernel
theorem dX6_bringWave_105 : decode cX6_bringWave 105 = .ok (.aload_n 1, 1) := by decide +kernel
theorem dX6_bringWave_106 : decode cX6_bringWave 106 = .ok (.getfield 166, 3) := by decide +kernel
theorem dX6_bringWave_109 : decode cX6_bringWave 109 = .ok (.iload_n 2, 1) := by decide +kernel
theorem dX6_bringWave_110 : decode cX6_bringWave 110 = .ok (.bipush (-3), 2) := by decide +kernel
theorem dX6_bringWave_112 : decode cX6_bringWave 112 = .ok (.iastore, 1) := by decide +kernel
theorem dX6_bringWave_113 : decode cX6_bringWave 113 = .ok (.aload_n 1, 1) := by decide +kernel
theorem dX6_bringWave_114 : decode cX6_bringWave 114 = .ok (.dup, 1) := by decide +kernel
theorem dX6_bringWave_115 : decode cX6_bringWave 115 = .ok (.getfield 199, 3) := by decide +kernel
theorem dX6_bringWave_118 : decode cX6_bringWave 118 = .ok (.iconst 1, 1) := by decide +kernel
theorem dX6_bringWave_119 : decode cX6_bringWave 119 = .ok (.iadd, 1) := by decide +kernel
theorem dX6_bringWave_120 : decode cX6_bringWave 120 = .ok (.putfield 199, 3) := by decide +kernel
theorem dX6_bringWave_123 : decode cX6_bringWave 123 = .ok (.aload_n 1, 1) := by decide +kernel
theorem dX6_bringWave_124 : decode cX6_bringWave 124 = .ok (.getfield 202, 3) := by decide +kernel
theorem dX6_bringWave_127 : decode cX6_bringWave 127 = .ok (.iload 5, 2) := by decide +kernel
theorem dX6_bringWave_129 : decode cX6_bringWave 129 = .ok (.dup2, 1) := by decide +kernel
theorem dX6_bringWave_130 : decode cX6_bringWave 130 = .ok (.iaload, 1) := by decide +kernel
theorem dX6_bringWave_131 : decode cX6_bringWave 131 = .ok (.iconst 1, 1) := by decide +kernel
theorem dX6_bringWave_132 : decode cX6_bringWave 132 = .ok (.iadd, 1) := by decide +kernel
theorem dX6_bringWave_133 : decode cX6_bringWave 133 = .ok (.iastore, 1) := by decide +kernel
theorem dX6_bringWave_134 : decode cX6_bringWave 134 = .ok (.aload_n 1, 1) := by decide +kernel
theorem dX6_bringWave_135 : decode cX6_bringWave 135 = .ok (.getfield 202, 3) := by decide +kernel
theorem dX6_bringWave_138 : decode cX6_bringWave 138 = .ok (.iload 6, 2) := by decide +kernel
theorem dX6_bringWave_140 : decode cX6_bringWave 140 = .ok (.dup2, 1) := by decide +kernel
theorem dX6_bringWave_141 : decode cX6_bringWave 141 = .ok (.iaload, 1) := by decide +kernel
theorem dX6_bringWave_142 : decode cX6_bringWave 142 = .ok (.iconst 1, 1) := by decide +kernel
theorem dX6_bringWave_143 : decode cX6_bringWave 143 = .ok (.iadd, 1) := by decide +kernel
theorem dX6_bringWave_144 : decode cX6_bringWave 144 = .ok (.iastore, 1) := by decide +kernel
theorem dX6_bringWave_145 : decode cX6_bringWave 145 = .ok (.aload_n 0, 1) := by decide +kernel
theorem dX6_bringWave_146 : decode cX6_bringWave 146 = .ok (.aload_n 1, 1) := by decide +kernel
theorem dX6_bringWave_147 : decode cX6_bringWave 147 = .ok (.iload 5, 2) := by decide +kernel
theorem dX6_bringWave_149 : decode cX6_bringWave 149 = .ok (.iload_n 2, 1) := by decide +kernel
theorem dX6_bringWave_150 : decode cX6_bringWave 150 = .ok (.iconst 2, 1) := by decide +kernel
theorem dX6_bringWave_151 : decode cX6_bringWave 151 = .ok (.invokevirtual 195, 3) := by decide +kernel
theorem dX6_bringWave_154 : decode cX6_bringWave 154 = .ok (.aload_n 0, 1) := by decide +kernel
theorem dX6_bringWave_155 : decode cX6_bringWave 155 = .ok (.aload_n 1, 1) := by decide +kernel
theorem dX6_bringWave_156 : decode cX6_bringWave 156 = .ok (.iload 6, 2) := by decide +kernel
theorem dX6_bringWave_158 : decode cX6_bringWave 158 = .ok (.iload_n 2, 1) := by decide +kernel
theorem dX6_bringWave_159 : decode cX6_bringWave 159 = .ok (.iconst 2, 1) := by decide +kernel
theorem dX6_bringWave_160 : decode cX6_bringWave 160 = .ok (.invokevirtual 195, 3) := by decide +kernel
theorem dX6_bringWave_163 : decode cX6_bringWave 163 = .ok (.return_, 1) := by decide +kernel
set_option maxRecDepth 20000 in
theorem ggX6_placeOfRider_X4_drawHundredth : GoodIn wsX6_placeOfRider wsX4_drawHundredth := goodIn_r _ [7, 8, 9, 10, 11, 21, 22, 23, 24, 25, 26, 27, 28, 29, 30, 31] (by decide +kernel) (by decide +kernel)
set_option maxRecDepth 20000 in
theorem gX6_placeOfRider_X4_drawHundredth : GoodIn wsX6_placeOfRider (wsV RX6 205 RX4 yX4_drawHundredth wsX4_drawHundredth) := goodIn_app (goodIn_of _ (by decide +kernel)) ggX6_placeOfRider_X4_drawHundredth
theorem dX6_placeOfRider_0 : decode cX6_placeOfRider 0 = .ok (.iconst 0, 1) := by decide +kernel
theorem dX6_placeOfRider_1 : decode cX6_placeOfRider 1 = .ok (.istore_n 3, 1) := by decide +kernel
theorem dX6_placeOfRider_2 : decode cX6_placeOfRider 2 = .ok (.iload_n 3, 1) := by decide +kernel
theorem dX6_placeOfRider_3 : decode cX6_placeOfRider 3 = .ok (.iload_n 2, 1) := by decide +kernel
theorem dX6_placeOfRider_4 : decode cX6_placeOfRider 4 = .ok (.if_icmp .ge 29, 3) := by decide +kernel
theorem dX6_placeOfRider_7 : decode cX6_placeOfRider 7 = .ok (.aload_n 1, 1) := by decide +kernel
theorem dX6_placeOfRider_8 : decode cX6_placeOfRider 8 = .ok (.invokevirtual 205, 3) := by decide +kernel
theorem dX6_placeOfRider_11 : decode cX6_placeOfRider 11 = .ok (.aload_n 0, 1) := by decide +kernel
theorem dX6_placeOfRider_12 : decode cX6_placeOfRider 12 = .ok (.getfield 35, 3) := by decide +kernel
theorem dX6_placeOfRider_15 : decode cX6_placeOfRider 15 = .ok (.aload_n 0, 1) := by decide +kernel
theorem dX6_placeOfRider_16 : decode cX6_placeOfRider 16 = .ok (.getfield 32, 3) := by decide +kernel
theorem dX6_placeOfRider_19 : decode cX6_placeOfRider 19 = .ok (.iload_n 3, 1) := by decide +kernel
theorem dX6_placeOfRider_20 : decode cX6_placeOfRider 20 = .ok (.iaload, 1) := by decide +kernel
theorem dX6_placeOfRider_21 : decode cX6_placeOfRider 21 = .ok (.iaload, 1) := by decide +kernel
theorem dX6_placeOfRider_22 : decode cX6_placeOfRider 22 = .ok (.if_icmp .ge 5, 3) := by decide +kernel
theorem dX6_placeOfRider_25 : decode cX6_placeOfRider 25 = .ok (.iload_n 3, 1) := by decide +kernel
theorem dX6_placeOfRider_26 : decode cX6_placeOfRider 26 = .ok (.ireturn, 1) := by decide +kernel
theorem dX6_placeOfRider_27 : decode cX6_placeOfRider 27 = .ok (.iinc 3 1, 3) := by decide +kernel
theorem dX6_placeOfRider_30 : decode cX6_placeOfRider 30 = .ok (.goto (-28), 3) := by decide +kernel
theorem dX6_placeOfRider_33 : decode cX6_placeOfRider 33 = .ok (.iconst (-1), 1) := by decide +kernel
theorem dX6_placeOfRider_34 : decode cX6_placeOfRider 34 = .ok (.ireturn, 1) := by decide +kernel
set_option maxRecDepth 20000 in
theorem ggX6_crosserBehind_X4_drawHundredth : GoodIn wsX6_crosserBehind wsX4_drawHundredth := goodIn_r _ [7, 8, 9, 10, 11, 21, 22, 23, 24, 25, 26, 27, 28, 29, 30, 31] (by decide +kernel) (by decide +kernel)
set_option maxRecDepth 20000 in
theorem gX6_crosserBehind_X4_drawHundredth : GoodIn wsX6_crosserBehind (wsV RX6 205 RX4 yX4_drawHundredth wsX4_drawHundredth) := goodIn_app (goodIn_of _ (by decide +kernel)) ggX6_crosserBehind_X4_drawHundredth
theorem dX6_crosserBehind_0 : decode cX6_crosserBehind 0 = .ok (.iload_n 2, 1) := by decide +kernel
theorem dX6_crosserBehind_1 : decode cX6_crosserBehind 1 = .ok (.iconst 1, 1) := by decide +kernel
theorem dX6_crosserBehind_2 : decode cX6_crosserBehind 2 = .ok (.iadd, 1) := by decide +kernel
theorem dX6_crosserBehind_3 : decode cX6_crosserBehind 3 = .ok (.istore 4, 2) := by decide +kernel
theorem dX6_crosserBehind_5 : decode cX6_crosserBehind 5 = .ok (.iload 4, 2) := by decide +kernel
theorem dX6_crosserBehind_7 : decode cX6_crosserBehind 7 = .ok (.iload_n 3, 1) := by decide +kernel
theorem dX6_crosserBehind_8 : decode cX6_crosserBehind 8 = .ok (.if_icmp .ge 45, 3) := by decide +kernel
theorem dX6_crosserBehind_11 : decode cX6_crosserBehind 11 = .ok (.aload_n 0, 1) := by decide +kernel
theorem dX6_crosserBehind_12 : decode cX6_crosserBehind 12 = .ok (.getfield 19, 3) := by decide +kernel
theorem dX6_crosserBehind_15 : decode cX6_crosserBehind 15 = .ok (.aload_n 0, 1) := by decide +kernel
theorem dX6_crosserBehind_16 : decode cX6_crosserBehind 16 = .ok (.getfield 32, 3) := by decide +kernel
theorem dX6_crosserBehind_19 : decode cX6_crosserBehind 19 = .ok (.iload 4, 2) := by decide +kernel
theorem dX6_crosserBehind_21 : decode cX6_crosserBehind 21 = .ok (.iaload, 1) := by decide +kernel
theorem dX6_crosserBehind_22 : decode cX6_crosserBehind 22 = .ok (.iaload, 1) := by decide +kernel
theorem dX6_crosserBehind_23 : decode cX6_crosserBehind 23 = .ok (.istore 5, 2) := by decide +kernel
theorem dX6_crosserBehind_25 : decode cX6_crosserBehind 25 = .ok (.iload 5, 2) := by decide +kernel
theorem dX6_crosserBehind_27 : decode cX6_crosserBehind 27 = .ok (.ifCond .le 20, 3) := by decide +kernel
theorem dX6_crosserBehind_30 : decode cX6_crosserBehind 30 = .ok (.aload_n 1, 1) := by decide +kernel
theorem dX6_crosserBehind_31 : decode cX6_crosserBehind 31 = .ok (.invokevirtual 205, 3) := by decide +kernel
theorem dX6_crosserBehind_34 : decode cX6_crosserBehind 34 = .ok (.iload 5, 2) := by decide +kernel
theorem dX6_crosserBehind_36 : decode cX6_crosserBehind 36 = .ok (.if_icmp .ge 11, 3) := by decide +kernel
theorem dX6_crosserBehind_39 : decode cX6_crosserBehind 39 = .ok (.aload_n 0, 1) := by decide +kernel
theorem dX6_crosserBehind_40 : decode cX6_crosserBehind 40 = .ok (.getfield 32, 3) := by decide +kernel
theorem dX6_crosserBehind_43 : decode cX6_crosserBehind 43 = .ok (.iload 4, 2) := by decide +kernel
theorem dX6_crosserBehind_45 : decode cX6_crosserBehind 45 = .ok (.iaload, 1) := by decide +kernel
theorem dX6_crosserBehind_46 : decode cX6_crosserBehind 46 = .ok (.ireturn, 1) := by decide +kernel
theorem dX6_crosserBehind_47 : decode cX6_crosserBehind 47 = .ok (.iinc 4 1, 3) := by decide +kernel
theorem dX6_crosserBehind_50 : decode cX6_crosserBehind 50 = .ok (.goto (-45), 3) := by decide +kernel
theorem dX6_crosserBehind_53 : decode cX6_crosserBehind 53 = .ok (.iconst (-1), 1) := by decide +kernel
theorem dX6_crosserBehind_54 : decode cX6_crosserBehind 54 = .ok (.ireturn, 1) := by decide +kernel
set_option maxRecDepth 20000 in
theorem ggX6_sendAway_X6_awayFor : GoodIn wsX6_sendAway wsX6_awayFor := goodIn_r _ [9, 2, 10, 11, 12, 13, 14, 15, 16, 17, 18, 19, 20, 21, 22, 23, 24, 8, 25, 26, 3, 27, 4, 28, 29, 30, 31, 32, 33, 34, 35, 36, 37, 38, 39, 40, 41, 42, 43, 44, 45, 46, 47, 59, 60, 61, 62, 63, 64, 65, 66, 67, 68, 69, 70, 71, 72, 73, 74, 75, 76, 77, 78, 79, 80, 81, 82, 83, 84, 85, 86, 87, 88, 89, 90, 91, 92] (by decide +kernel) (by decide +kernel)
set_option maxRecDepth 20000 in
theorem gX6_sendAway_X6_awayFor : GoodIn wsX6_sendAway (wsV RX6 212 RX6 yX6_awayFor wsX6_awayFor) := goodIn_app (goodIn_of _ (by decide +kernel)) ggX6_sendAway_X6_awayFor
theorem dX6_sendAway_0 : decode cX6_sendAway 0 = .ok (.aload_n 1, 1) := by decide +kernel
theorem dX6_sendAway_1 : decode cX6_sendAway 1 = .ok (.getfield 209, 3) := by decide +kernel
theorem dX6_sendAway_4 : decode cX6_sendAway 4 = .ok (.iload_n 2, 1) := by decide +kernel
theorem dX6_sendAway_5 : decode cX6_sendAway 5 = .ok (.aload_n 0, 1) := by decide +kernel
theorem dX6_sendAway_6 : decode cX6_sendAway 6 = .ok (.getfield 9, 3) := by decide +kernel
theorem dX6_sendAway_9 : decode cX6_sendAway 9 = .ok (.getfield 57, 3) := by decide +kernel
theorem dX6_sendAway_12 : decode cX6_sendAway 12 = .ok (.getfield 67, 3) := by decide +kernel
theorem dX6_sendAway_15 : decode cX6_sendAway 15 = .ok (.iload_n 3, 1) := by decide +kernel
theorem dX6_sendAway_16 : decode cX6_sendAway 16 = .ok (.iaload, 1) := by decide +kernel
theorem dX6_sendAway_17 : decode cX6_sendAway 17 = .ok (.iload 4, 2) := by decide +kernel
theorem dX6_sendAway_19 : decode cX6_sendAway 19 = .ok (.aload_n 0, 1) := by decide +kernel
theorem dX6_sendAway_20 : decode cX6_sendAway 20 = .ok (.iload_n 2, 1) := by decide +kernel
theorem dX6_sendAway_21 : decode cX6_sendAway 21 = .ok (.iload_n 3, 1) := by decide +kernel
theorem dX6_sendAway_22 : decode cX6_sendAway 22 = .ok (.invokevirtual 212, 3) := by decide +kernel
theorem dX6_sendAway_25 : decode cX6_sendAway 25 = .ok (.imul, 1) := by decide +kernel
theorem dX6_sendAway_26 : decode cX6_sendAway 26 = .ok (.iadd, 1) := by decide +kernel
theorem dX6_sendAway_27 : decode cX6_sendAway 27 = .ok (.iastore, 1) := by decide +kernel
theorem dX6_sendAway_28 : decode cX6_sendAway 28 = .ok (.return_, 1) := by decide +kernel
set_option maxRecDepth 20000 in
theorem ggX6_crossingOdds_X6_lineUp : GoodIn wsX6_crossingOdds wsX6_lineUp := goodIn_r _ [9, 10, 11, 12, 13, 14, 3, 15, 16, 17, 18, 19, 20, 21, 22, 23, 8, 24, 25, 26, 27, 28, 29, 30, 31, 32, 33, 34, 35, 36, 37, 38, 39, 40, 41, 42, 43, 44, 45, 46, 47, 48, 49, 50, 51, 52, 53, 54, 55, 56, 57, 58, 59, 60, 61, 62, 63, 64, 65, 66, 67, 68, 69, 70, 71, 72, 73, 74, 75, 76, 77, 78, 79, 80, 81, 82, 83, 84, 85, 86, 87, 88, 89, 90, 91, 92, 93, 94, 95, 96, 97, 98, 99, 100, 101, 102, 103, 104, 105, 106, 107, 108, 2, 120, 121, 122, 123, 124, 125, 126, 127, 128, 129, 130, 131, 132, 133, 134, 135, 136, 137, 138, 139, 140, 141, 142, 143, 144, 145, 146, 147, 148, 149, 109, 110, 111, 112, 113, 114, 115, 116, 117, 118, 119, 150, 151, 152, 153, 154, 155, 156, 157, 158, 159, 160] (by decide +kernel) (by decide +kernel)
set_option maxRecDepth 20000 in
theorem gX6_crossingOdds_X6_lineUp : GoodIn wsX6_crossingOdds (wsV RX6 182 RX6 yX6_lineUp wsX6_lineUp) := goodIn_app (goodIn_of _ (by decide +kernel)) ggX6_crossingOdds_X6_lineUp
set_option maxRecDepth 20000 in
theorem ggX6_crossingOdds_X6_keyFor : GoodIn wsX6_crossingOdds wsX6_keyFor := goodIn_r _ [95, 14, 96, 97, 10, 51, 98, 88, 89, 90, 8, 91, 44, 55, 56, 57, 58, 59, 60, 61, 62, 31, 63, 64, 99, 100, 101, 102, 103, 104, 65, 66, 67, 68, 109, 110, 111, 112, 113, 114, 115, 116, 117, 118, 119, 120, 121, 122, 123, 124, 125, 126, 127, 128, 129, 130, 131, 132, 133, 134, 135, 136, 137, 138, 139, 140, 141, 142, 150, 151, 152, 153, 154, 155, 156, 157] (by decide +kernel) (by decide +kernel)
set_option maxRecDepth 20000 in
theorem gX6_crossingOdds_X6_keyFor : GoodIn wsX6_crossingOdds (wsV RX6 175 RX6 yX6_keyFor wsX6_keyFor) := goodIn_app (goodIn_of _ (by decide +kernel)) ggX6_crossingOdds_X6_keyFor
theorem dX6_crossingOdds_0 : decode cX6_crossingOdds 0 = .ok (.aload_n 0, 1) := by decide +kernel
theorem dX6_crossingOdds_1 : decode cX6_crossingOdds 1 = .ok (.aload_n 1, 1) := by decide +kernel
theorem dX6_crossingOdds_2 : decode cX6_crossingOdds 2 = .ok (.iload_n 3, 1) := by decide +kernel
theorem dX6_crossingOdds_3 : decode cX6_crossingOdds 3 = .ok (.aload_n 1, 1) := by decide +kernel
theorem dX6_crossingOdds_4 : decode cX6_crossingOdds 4 = .ok (.getfield 215, 3) := by decide +kernel
theorem dX6_crossingOdds_7 : decode cX6_crossingOdds 7 = .ok (.invokevirtual 182, 3) := by decide +kernel
theorem dX6_crossingOdds_10 : decode cX6_crossingOdds 10 = .ok (.istore 4, 2) := by decide +kernel
theorem dX6_crossingOdds_12 : decode cX6_crossingOdds 12 = .ok (.aload_n 0, 1) := by decide +kernel
theorem dX6_crossingOdds_13 : decode cX6_crossingOdds 13 = .ok (.aload_n 1, 1) := by decide +kernel
theorem dX6_crossingOdds_14 : decode cX6_crossingOdds 14 = .ok (.iload_n 2, 1) := by decide +kernel
theorem dX6_crossingOdds_15 : decode cX6_crossingOdds 15 = .ok (.iload_n 3, 1) := by decide +kernel
theorem dX6_crossingOdds_16 : decode cX6_crossingOdds 16 = .ok (.invokevirtual 175, 3) := by decide +kernel
theorem dX6_crossingOdds_19 : decode cX6_crossingOdds 19 = .ok (.istore 5, 2) := by decide +kernel
theorem dX6_crossingOdds_21 : decode cX6_crossingOdds 21 = .ok (.bipush 100, 2) := by decide +kernel
theorem dX6_crossingOdds_23 : decode cX6_crossingOdds 23 = .ok (.istore 6, 2) := by decide +kernel
theorem dX6_crossingOdds_25 : decode cX6_crossingOdds 25 = .ok (.iconst 0, 1) := by decide +kernel
theorem dX6_crossingOdds_26 : decode cX6_crossingOdds 26 = .ok (.istore 7, 2) := by decide +kernel
theorem dX6_crossingOdds_28 : decode cX6_crossingOdds 28 = .ok (.iload 7, 2) := by decide +kernel
theorem dX6_crossingOdds_30 : decode cX6_crossingOdds 30 = .ok (.iload 4, 2) := by decide +kernel
theorem dX6_crossingOdds_32 : decode cX6_crossingOdds 32 = .ok (.if_icmp .ge 66, 3) := by decide +kernel
theorem dX6_crossingOdds_35 : decode cX6_crossingOdds 35 = .ok (.aload_n 0, 1) := by decide +kernel
theorem dX6_crossingOdds_36 : decode cX6_crossingOdds 36 = .ok (.getfield 32, 3) := by decide +kernel
theorem dX6_crossingOdds_39 : decode cX6_crossingOdds 39 = .ok (.iload 7, 2) := by decide +kernel
theorem dX6_crossingOdds_41 : decode cX6_crossingOdds 41 = .ok (.iaload, 1) := by decide +kernel
theorem dX6_crossingOdds_42 : decode cX6_crossingOdds 42 = .ok (.istore 8, 2) := by decide +kernel
theorem dX6_crossingOdds_44 : decode cX6_crossingOdds 44 = .ok (.aload_n 0, 1) := by decide +kernel
theorem dX6_crossingOdds_45 : decode cX6_crossingOdds 45 = .ok (.getfield 38, 3) := by decide +kernel
theorem dX6_crossingOdds_48 : decode cX6_crossingOdds 48 = .ok (.iload 8, 2) := by decide +kernel
theorem dX6_crossingOdds_50 : decode cX6_crossingOdds 50 = .ok (.iaload, 1) := by decide +kernel
theorem dX6_crossingOdds_51 : decode cX6_crossingOdds 51 = .ok (.iload 5, 2) := by decide +kernel
theorem dX6_crossingOdds_53 : decode cX6_crossingOdds 53 = .ok (.if_icmp .gt 21, 3) := by decide +kernel
theorem dX6_crossingOdds_56 : decode cX6_crossingOdds 56 = .ok (.aload_n 0, 1) := by decide +kernel
theorem dX6_crossingOdds_57 : decode cX6_crossingOdds 57 = .ok (.getfield 38, 3) := by decide +kernel
theorem dX6_crossingOdds_60 : decode cX6_crossingOdds 60 = .ok (.iload 8, 2) := by decide +kernel
theorem dX6_crossingOdds_62 : decode cX6_crossingOdds 62 = .ok (.iaload, 1) := by decide +kernel
theorem dX6_crossingOdds_63 : decode cX6_crossingOdds 63 = .ok (.iload 5, 2) := by decide +kernel
theorem dX6_crossingOdds_65 : decode cX6_crossingOdds 65 = .ok (.if_icmp .ne 27, 3) := by decide +kernel
theorem dX6_crossingOdds_68 : decode cX6_crossingOdds 68 = .ok (.iload 8, 2) := by decide +kernel
theorem dX6_crossingOdds_70 : decode cX6_crossingOdds 70 = .ok (.iload_n 2, 1) := by decide +kernel
theorem dX6_crossingOdds_71 : decode cX6_crossingOdds 71 = .ok (.if_icmp .le 21, 3) := by decide +kernel
theorem dX6_crossingOdds_74 : decode cX6_crossingOdds 74 = .ok (.iload 6, 2) := by decide +kernel
theorem dX6_crossingOdds_76 : decode cX6_crossingOdds 76 = .ok (.bipush 100, 2) := by decide +kernel
theorem dX6_crossingOdds_78 : decode cX6_crossingOdds 78 = .ok (.aload_n 0, 1) := by decide +kernel
theorem dX6_crossingOdds_79 : decode cX6_crossingOdds 79 = .ok (.getfield 19, 3) := by decide +kernel
theorem dX6_crossingOdds_82 : decode cX6_crossingOdds 82 = .ok (.iload 8, 2) := by decide +kernel
theorem dX6_crossingOdds_84 : decode cX6_crossingOdds 84 = .ok (.iaload, 1) := by decide +kernel
theorem dX6_crossingOdds_85 : decode cX6_crossingOdds 85 = .ok (.isub, 1) := by decide +kernel
theorem dX6_crossingOdds_86 : decode cX6_crossingOdds 86 = .ok (.imul, 1) := by decide +kernel
theorem dX6_crossingOdds_87 : decode cX6_crossingOdds 87 = .ok (.bipush 100, 2) := by decide +kernel
theorem dX6_crossingOdds_89 : decode cX6_crossingOdds 89 = .ok (.idiv, 1) := by decide +kernel
theorem dX6_crossingOdds_90 : decode cX6_crossingOdds 90 = .ok (.istore 6, 2) := by decide +kernel
theorem dX6_crossingOdds_92 : decode cX6_crossingOdds 92 = .ok (.iinc 7 1, 3) := by decide +kernel
theorem dX6_crossingOdds_95 : decode cX6_crossingOdds 95 = .ok (.goto (-67), 3) := by decide +kernel
theorem dX6_crossingOdds_98 : decode cX6_crossingOdds 98 = .ok (.bipush 100, 2) := by decide +kernel
theorem dX6_crossingOdds_100 : decode cX6_crossingOdds 100 = .ok (.iload 6, 2) := by decide +kernel
theorem dX6_crossingOdds_102 : decode cX6_crossingOdds 102 = .ok (.isub, 1) := by decide +kernel
theorem dX6_crossingOdds_103 : decode cX6_crossingOdds 103 = .ok (.ireturn, 1) := by decide +kernel
set_option maxRecDepth 20000 in
theorem ggX7_init_J0_charAt_5068e : GoodIn wsX7_init wsJ0_charAt_5068e := goodIn_r _ [12, 13, 14, 15, 16, 11, 17, 18, 19, 20, 21, 22, 23, 24, 25, 26, 27, 28, 29, 30, 31, 32, 33, 34, 35, 36, 37, 38, 39, 40, 41, 42, 43, 44, 45, 46, 47, 48] (by decide +kernel) (by decide +kernel)
set_option maxRecDepth 20000 in
theorem gX7_init_J0_charAt_5068e : GoodIn wsX7_init (wsV RX7 21 RJ0 yJ0_charAt_5068e wsJ0_charAt_5068e) := goodIn_app (goodIn_of _ (by decide +kernel)) ggX7_init_J0_charAt_5068e
set_option maxRecDepth 20000 in
theorem ggX7_init_X7_isLetter : GoodIn wsX7_init wsX7_isLetter := goodIn_r _ [52] (by decide +kernel) (by decide +kernel)
set_option maxRecDepth 20000 in
theorem gX7_init_X7_isLetter : GoodIn wsX7_init (va_wsS RX7 27 yX7_isLetter wsX7_isLetter) := goodIn_app (goodIn_of _ (by decide +kernel)) ggX7_init_X7_isLetter
set_option maxRecDepth 20000 in
theorem ggX7_init_X7_letterBits : GoodIn wsX7_init wsX7_letterBits := goodIn_r _ [55] (by decide +kernel) (by decide +kernel)
set_option maxRecDepth 20000 in
theorem gX7_init_X7_letterBits : GoodIn wsX7_init (va_wsS RX7 31 yX7_letterBits wsX7_letterBits) := goodIn_app (goodIn_of _ (by decide +kernel)) ggX7_init_X7_letterBits
theorem dX7_init_0 : decode cX7_init 0 = .ok (.aload_n 0, 1) := by decide +kernel
theorem dX7_init_1 : decode cX7_init 1 = .ok (.invokespecial 3, 3) := by decide +kernel
theorem dX7_init_4 : decode cX7_init 4 = .ok (.aload_n 0, 1) := by decide +kernel
theorem dX7_init_5 : decode cX7_init 5 = .ok (.bipush 24, 2) := by decide +kernel
theorem dX7_init_7 : decode cX7_init 7 = .ok (.newarray .int, 2) := by decide +kernel
theorem dX7_init_9 : decode cX7_init 9 = .ok (.putfield 9, 3) := by decide +kernel
theorem dX7_init_12 : decode cX7_init 12 = .ok (.aload_n 0, 1) := by decide +kernel
theorem dX7_init_13 : decode cX7_init 13 = .ok (.iconst 0, 1) := by decide +kernel
theorem dX7_init_14 : decode cX7_init 14 = .ok (.newarray .byte, 2) := by decide +kernel
theorem dX7_init_16 : decode cX7_init 16 = .ok (.putfield 15, 3) := by decide +kernel
theorem dX7_init_19 : decode cX7_init 19 = .ok (.iconst 0, 1) := by decide +kernel
theorem dX7_init_20 : decode cX7_init 20 = .ok (.istore_n 1, 1) := by decide +kernel
theorem dX7_init_21 : decode cX7_init 21 = .ok (.iload_n 1, 1) := by decide +kernel
theorem dX7_init_22 : decode cX7_init 22 = .ok (.bipush 24, 2) := by decide +kernel
theorem dX7_init_24 : decode cX7_init 24 = .ok (.if_icmp .ge 60, 3) := by decide +kernel
theorem dX7_init_27 : decode cX7_init 27 = .ok (.iconst 0, 1) := by decide +kernel
theorem dX7_init_28 : decode cX7_init 28 = .ok (.istore_n 2, 1) := by decide +kernel
theorem dX7_init_29 : decode cX7_init 29 = .ok (.iload_n 2, 1) := by decide +kernel
theorem dX7_init_30 : decode cX7_init 30 = .ok (.bipush 6, 2) := by decide +kernel
theorem dX7_init_32 : decode cX7_init 32 = .ok (.if_icmp .ge 46, 3) := by decide +kernel
theorem dX7_init_35 : decode cX7_init 35 = .ok (.ldc 19, 2) := by decide +kernel
theorem dX7_init_37 : decode cX7_init 37 = .ok (.iload_n 1, 1) := by decide +kernel
theorem dX7_init_38 : decode cX7_init 38 = .ok (.bipush 6, 2) := by decide +kernel
theorem dX7_init_40 : decode cX7_init 40 = .ok (.imul, 1) := by decide +kernel
theorem dX7_init_41 : decode cX7_init 41 = .ok (.iload_n 2, 1) := by decide +kernel
theorem dX7_init_42 : decode cX7_init 42 = .ok (.iadd, 1) := by decide +kernel
theorem dX7_init_43 : decode cX7_init 43 = .ok (.invokevirtual 21, 3) := by decide +kernel
theorem dX7_init_46 : decode cX7_init 46 = .ok (.istore_n 3, 1) := by decide +kernel
theorem dX7_init_47 : decode cX7_init 47 = .ok (.aload_n 0, 1) := by decide +kernel
theorem dX7_init_48 : decode cX7_init 48 = .ok (.getfield 9, 3) := by decide +kernel
theorem dX7_init_51 : decode cX7_init 51 = .ok (.iload_n 1, 1) := by decide +kernel
theorem dX7_init_52 : decode cX7_init 52 = .ok (.dup2, 1) := by decide +kernel
theorem dX7_init_53 : decode cX7_init 53 = .ok (.iaload, 1) := by decide +kernel
theorem dX7_init_54 : decode cX7_init 54 = .ok (.iload_n 3, 1) := by decide +kernel
theorem dX7_init_55 : decode cX7_init 55 = .ok (.invokestatic 27, 3) := by decide +kernel
theorem dX7_init_58 : decode cX7_init 58 = .ok (.ifCond .eq 11, 3) := by decide +kernel
theorem dX7_init_61 : decode cX7_init 61 = .ok (.iload_n 3, 1) := by decide +kernel
theorem dX7_init_62 : decode cX7_init 62 = .ok (.iload_n 2, 1) := by decide +kernel
theorem dX7_init_63 : decode cX7_init 63 = .ok (.invokestatic 31, 3) := by decide +kernel
theorem dX7_init_66 : decode cX7_init 66 = .ok (.goto 4, 3) := by decide +kernel
theorem dX7_init_69 : decode cX7_init 69 = .ok (.iconst 0, 1) := by decide +kernel
theorem dX7_init_70 : decode cX7_init 70 = .ok (.ior, 1) := by decide +kernel
theorem dX7_init_71 : decode cX7_init 71 = .ok (.iastore, 1) := by decide +kernel
theorem dX7_init_72 : decode cX7_init 72 = .ok (.iinc 2 1, 3) := by decide +kernel
theorem dX7_init_75 : decode cX7_init 75 = .ok (.goto (-46), 3) := by decide +kernel
theorem dX7_init_78 : decode cX7_init 78 = .ok (.iinc 1 1, 3) := by decide +kernel
theorem dX7_init_81 : decode cX7_init 81 = .ok (.goto (-60), 3) := by decide +kernel
theorem dX7_init_84 : decode cX7_init 84 = .ok (.return_, 1) := by decide +kernel
theorem dX7_begin_0 : decode cX7_begin 0 = .ok (.aload_n 0, 1) := by decide +kernel
theorem dX7_begin_1 : decode cX7_begin 1 = .ok (.aload_n 1, 1) := by decide +kernel
theorem dX7_begin_2 : decode cX7_begin 2 = .ok (.putfield 15, 3) := by decide +kernel
theorem dX7_begin_5 : decode cX7_begin 5 = .ok (.aload_n 0, 1) := by decide +kernel
theorem dX7_begin_6 : decode cX7_begin 6 = .ok (.iload_n 2, 1) := by decide +kernel
theorem dX7_begin_7 : decode cX7_begin 7 = .ok (.aload_n 1, 1) := by decide +kernel
theorem dX7_begin_8 : decode cX7_begin 8 = .ok (.arraylength, 1) := by decide +kernel
theorem dX7_begin_9 : decode cX7_begin 9 = .ok (.invokestatic 35, 3) := by decide +kernel
theorem dX7_begin_12 : decode cX7_begin 12 = .ok (.putfield 40, 3) := by decide +kernel
theorem dX7_begin_15 : decode cX7_begin 15 = .ok (.aload_n 0, 1) := by decide +kernel
theorem dX7_begin_16 : decode cX7_begin 16 = .ok (.iconst 0, 1) := by decide +kernel
theorem dX7_begin_17 : decode cX7_begin 17 = .ok (.putfield 44, 3) := by decide +kernel
theorem dX7_begin_20 : decode cX7_begin 20 = .ok (.return_, 1) := by decide +kernel
set_option maxRecDepth 20000 in
theorem ggX7_advance_X7_skipBlanks : GoodIn wsX7_advance wsX7_skipBlanks := goodIn_r _ [11, 1, 4, 6, 50, 51, 52, 53, 54, 55, 56] (by decide +kernel) (by decide +kernel)
set_option maxRecDepth 20000 in
theorem gX7_advance_X7_skipBlanks : GoodIn wsX7_advance (wsV RX7 47 RX7 yX7_skipBlanks wsX7_skipBlanks) := goodIn_app (goodIn_of _ (by decide +kernel)) ggX7_advance_X7_skipBlanks
set_option maxRecDepth 20000 in
theorem ggX7_advance_X7_isLetter : GoodIn wsX7_advance wsX7_isLetter := goodIn_r _ [14] (by decide +kernel) (by decide +kernel)
set_option maxRecDepth 20000 in
theorem gX7_advance_X7_isLetter : GoodIn wsX7_advance (va_wsS RX7 27 yX7_isLetter wsX7_isLetter) := goodIn_app (goodIn_of _ (by decide +kernel)) ggX7_advance_X7_isLetter
set_option maxRecDepth 20000 in
theorem ggX7_advance_X7_takeWord : GoodIn wsX7_advance wsX7_takeWord := goodIn_r _ [18, 1, 4, 6, 3, 5, 12, 13, 10, 14, 19, 20, 21, 22, 23, 24, 25, 26, 50, 51, 52, 53, 54, 55, 56] (by decide +kernel) (by decide +kernel)
set_option maxRecDepth 20000 in
theorem gX7_advance_X7_takeWord : GoodIn wsX7_advance (wsV RX7 59 RX7 yX7_takeWord wsX7_takeWord) := goodIn_app (goodIn_of _ (by decide +kernel)) ggX7_advance_X7_takeWord
set_option maxRecDepth 20000 in
theorem ggX7_advance_X7_isDigit : GoodIn wsX7_advance wsX7_isDigit := goodIn_r _ [29] (by decide +kernel) (by decide +kernel)
set_option maxRecDepth 20000 in
theorem gX7_advance_X7_isDigit : GoodIn wsX7_advance (va_wsS RX7 62 yX7_isDigit wsX7_isDigit) := goodIn_app (goodIn_of _ (by decide +kernel)) ggX7_advance_X7_isDigit
set_option maxRecDepth 20000 in
theorem ggX7_advance_X7_takeNumber : GoodIn wsX7_advance wsX7_takeNumber := goodIn_r _ [33, 1, 4, 6, 3, 34, 35, 36, 37, 38, 5, 27, 28, 10, 29, 50, 51, 52, 53, 54, 55, 56] (by decide +kernel) (by decide +kernel)
set_option maxRecDepth 20000 in
theorem gX7_advance_X7_takeNumber : GoodIn wsX7_advance (wsV RX7 65 RX7 yX7_takeNumber wsX7_takeNumber) := goodIn_app (goodIn_of _ (by decide +kernel)) ggX7_advance_X7_takeNumber
set_option maxRecDepth 20000 in
theorem ggX7_advance_X7_takeSign : GoodIn wsX7_advance wsX7_takeSign := goodIn_r _ [42, 6, 1, 5, 43, 44, 10, 45, 46, 47, 48, 49, 4, 50, 51, 52, 53, 54, 55, 56] (by decide +kernel) (by decide +kernel)
set_option maxRecDepth 20000 in
theorem gX7_advance_X7_takeSign : GoodIn wsX7_advance (wsV RX7 68 RX7 yX7_takeSign wsX7_takeSign) := goodIn_app (goodIn_of _ (by decide +kernel)) ggX7_advance_X7_takeSign
theorem dX7_advance_0 : decode cX7_advance 0 = .ok (.aload_n 0, 1) := by decide +kernel
theorem dX7_advance_1 : decode cX7_advance 1 = .ok (.invokevirtual 47, 3) := by decide +kernel
theorem dX7_advance_4 : decode cX7_advance 4 = .ok (.aload_n 0, 1) := by decide +kernel
theorem dX7_advance_5 : decode cX7_advance 5 = .ok (.aload_n 0, 1) := by decide +kernel
theorem dX7_advance_6 : decode cX7_advance 6 = .ok (.getfield 44, 3) := by decide +kernel
theorem dX7_advance_9 : decode cX7_advance 9 = .ok (.putfield 50, 3) := by decide +kernel
theorem dX7_advance_12 : decode cX7_advance 12 = .ok (.aload_n 0, 1) := by decide +kernel
theorem dX7_advance_13 : decode cX7_advance 13 = .ok (.iconst 0, 1) := by decide +kernel
theorem dX7_advance_14 : decode cX7_advance 14 = .ok (.putfield 53, 3) := by decide +kernel
theorem dX7_advance_17 : decode cX7_advance 17 = .ok (.aload_n 0, 1) := by decide +kernel
theorem dX7_advance_18 : decode cX7_advance 18 = .ok (.getfield 44, 3) := by decide +kernel
theorem dX7_advance_21 : decode cX7_advance 21 = .ok (.aload_n 0, 1) := by decide +kernel
theorem dX7_advance_22 : decode cX7_advance 22 = .ok (.getfield 40, 3) := by decide +kernel
theorem dX7_advance_25 : decode cX7_advance 25 = .ok (.if_icmp .lt 12, 3) := by decide +kernel
theorem dX7_advance_28 : decode cX7_advance 28 = .ok (.aload_n 0, 1) := by decide +kernel
theorem dX7_advance_29 : decode cX7_advance 29 = .ok (.bipush 39, 2) := by decide +kernel
theorem dX7_advance_31 : decode cX7_advance 31 = .ok (.putfield 56, 3) := by decide +kernel
theorem dX7_advance_34 : decode cX7_advance 34 = .ok (.goto 51, 3) := by decide +kernel
theorem dX7_advance_37 : decode cX7_advance 37 = .ok (.aload_n 0, 1) := by decide +kernel
theorem dX7_advance_38 : decode cX7_advance 38 = .ok (.getfield 15, 3) := by decide +kernel
theorem dX7_advance_41 : decode cX7_advance 41 = .ok (.aload_n 0, 1) := by decide +kernel
theorem dX7_advance_42 : decode cX7_advance 42 = .ok (.getfield 44, 3) := by decide +kernel
theorem dX7_advance_45 : decode cX7_advance 45 = .ok (.baload, 1) := by decide +kernel
theorem dX7_advance_46 : decode cX7_advance 46 = .ok (.invokestatic 27, 3) := by decide +kernel
theorem dX7_advance_49 : decode cX7_advance 49 = .ok (.ifCond .eq 10, 3) := by decide +kernel
theorem dX7_advance_52 : decode cX7_advance 52 = .ok (.aload_n 0, 1) := by decide +kernel
theorem dX7_advance_53 : decode cX7_advance 53 = .ok (.invokevirtual 59, 3) := by decide +kernel
theorem dX7_advance_56 : decode cX7_advance 56 = .ok (.goto 29, 3) := by decide +kernel
theorem dX7_advance_59 : decode cX7_advance 59 = .ok (.aload_n 0, 1) := by decide +kernel
theorem dX7_advance_60 : decode cX7_advance 60 = .ok (.getfield 15, 3) := by decide +kernel
theorem dX7_advance_63 : decode cX7_advance 63 = .ok (.aload_n 0, 1) := by decide +kernel
theorem dX7_advance_64 : decode cX7_advance 64 = .ok (.getfield 44, 3) := by decide +kernel
theorem dX7_advance_67 : decode cX7_advance 67 = .ok (.baload, 1) := by decide +kernel
theorem dX7_advance_68 : decode cX7_advance 68 = .ok (.invokestatic 62, 3) := by decide +kernel
theorem dX7_advance_71 : decode cX7_advance 71 = .ok (.ifCond .eq 10, 3) := by decide +kernel
theorem dX7_advance_74 : decode cX7_advance 74 = .ok (.aload_n 0, 1) := by decide +kernel
theorem dX7_advance_75 : decode cX7_advance 75 = .ok (.invokevirtual 65, 3) := by decide +kernel
theorem dX7_advance_78 : decode cX7_advance 78 = .ok (.goto 7, 3) := by decide +kernel
theorem dX7_advance_81 : decode cX7_advance 81 = .ok (.aload_n 0, 1) := by decide +kernel
theorem dX7_advance_82 : decode cX7_advance 82 = .ok (.invokevirtual 68, 3) := by decide +kernel
theorem dX7_advance_85 : decode cX7_advance 85 = .ok (.return_, 1) := by decide +kernel
theorem dX7_skipBlanks_0 : decode cX7_skipBlanks 0 = .ok (.aload_n 0, 1) := by decide +kernel
theorem dX7_skipBlanks_1 : decode cX7_skipBlanks 1 = .ok (.getfield 44, 3) := by decide +kernel
theorem dX7_skipBlanks_4 : decode cX7_skipBlanks 4 = .ok (.aload_n 0, 1) := by decide +kernel
theorem dX7_skipBlanks_5 : decode cX7_skipBlanks 5 = .ok (.getfield 40, 3) := by decide +kernel
theorem dX7_skipBlanks_8 : decode cX7_skipBlanks 8 = .ok (.if_icmp .ge 45, 3) := by decide +kernel
theorem dX7_skipBlanks_11 : decode cX7_skipBlanks 11 = .ok (.aload_n 0, 1) := by decide +kernel
theorem dX7_skipBlanks_12 : decode cX7_skipBlanks 12 = .ok (.getfield 15, 3) := by decide +kernel
theorem dX7_skipBlanks_15 : decode cX7_skipBlanks 15 = .ok (.aload_n 0, 1) := by decide +kernel
theorem dX7_skipBlanks_16 : decode cX7_skipBlanks 16 = .ok (.getfield 44, 3) := by decide +kernel
theorem dX7_skipBlanks_19 : decode cX7_skipBlanks 19 = .ok (.baload, 1) := by decide +kernel
theorem dX7_skipBlanks_20 : decode cX7_skipBlanks 20 = .ok (.bipush 10, 2) := by decide +kernel
theorem dX7_skipBlanks_22 : decode cX7_skipBlanks 22 = .ok (.if_icmp .eq 18, 3) := by decide +kernel
theorem dX7_skipBlanks_25 : decode cX7_skipBlanks 25 = .ok (.aload_n 0, 1) := by decide +kernel
theorem dX7_skipBlanks_26 : decode cX7_skipBlanks 26 = .ok (.getfield 15, 3) := by decide +kernel
theorem dX7_skipBlanks_29 : decode cX7_skipBlanks 29 = .ok (.aload_n 0, 1) := by decide +kernel
theorem dX7_skipBlanks_30 : decode cX7_skipBlanks 30 = .ok (.getfield 44, 3) := by decide +kernel
theorem dX7_skipBlanks_33 : decode cX7_skipBlanks 33 = .ok (.baload, 1) := by decide +kernel
theorem dX7_skipBlanks_34 : decode cX7_skipBlanks 34 = .ok (.bipush 32, 2) := by decide +kernel
theorem dX7_skipBlanks_36 : decode cX7_skipBlanks 36 = .ok (.if_icmp .eq 4, 3) := by decide +kernel
theorem dX7_skipBlanks_39 : decode cX7_skipBlanks 39 = .ok (.return_, 1) := by decide +kernel
theorem dX7_skipBlanks_40 : decode cX7_skipBlanks 40 = .ok (.aload_n 0, 1) := by decide +kernel
theorem dX7_skipBlanks_41 : decode cX7_skipBlanks 41 = .ok (.dup, 1) := by decide +kernel
theorem dX7_skipBlanks_42 : decode cX7_skipBlanks 42 = .ok (.getfield 44, 3) := by decide +kernel
theorem dX7_skipBlanks_45 : decode cX7_skipBlanks 45 = .ok (.iconst 1, 1) := by decide +kernel
theorem dX7_skipBlanks_46 : decode cX7_skipBlanks 46 = .ok (.iadd, 1) := by decide +kernel
theorem dX7_skipBlanks_47 : decode cX7_skipBlanks 47 = .ok (.putfield 44, 3) := by decide +kernel
theorem dX7_skipBlanks_50 : decode cX7_skipBlanks 50 = .ok (.goto (-50), 3) := by decide +kernel
theorem dX7_skipBlanks_53 : decode cX7_skipBlanks 53 = .ok (.return_, 1) := by decide +kernel
set_option maxRecDepth 20000 in
theorem ggX7_takeWord_X7_isLetter : GoodIn wsX7_takeWord wsX7_isLetter := goodIn_r _ [9] (by decide +kernel) (by decide +kernel)
set_option maxRecDepth 20000 in
theorem gX7_takeWord_X7_isLetter : GoodIn wsX7_takeWord (va_wsS RX7 27 yX7_isLetter wsX7_isLetter) := goodIn_app (goodIn_of _ (by decide +kernel)) ggX7_takeWord_X7_isLetter
set_option maxRecDepth 20000 in
theorem ggX7_takeWord_X7_letterBits : GoodIn wsX7_takeWord wsX7_letterBits := goodIn_r _ [12] (by decide +kernel) (by decide +kernel)
set_option maxRecDepth 20000 in
theorem gX7_takeWord_X7_letterBits : GoodIn wsX7_takeWord (va_wsS RX7 31 yX7_letterBits wsX7_letterBits) := goodIn_app (goodIn_of _ (by decide +kernel)) ggX7_takeWord_X7_letterBits
set_option maxRecDepth 20000 in
theorem ggX7_takeWord_X7_wordOf : GoodIn wsX7_takeWord wsX7_wordOf := goodIn_r _ [16, 17, 18, 19, 20, 21, 22, 23, 24] (by decide +kernel) (by decide +kernel)
set_option maxRecDepth 20000 in
theorem gX7_takeWord_X7_wordOf : GoodIn wsX7_takeWord (wsV RX7 71 RX7 yX7_wordOf wsX7_wordOf) := goodIn_app (goodIn_of _ (by decide +kernel)) ggX7_takeWord_X7_wordOf
theorem dX7_takeWord_0 : decode cX7_takeWord 0 = .ok (.iconst 0, 1) := by decide +kernel
theorem dX7_takeWord_1 : decode cX7_takeWord 1 = .ok (.istore_n 1, 1) := by decide +kernel
theorem dX7_takeWord_2 : decode cX7_takeWord 2 = .ok (.aload_n 0, 1) := by decide +kernel
theorem dX7_takeWord_3 : decode cX7_takeWord 3 = .ok (.getfield 44, 3) := by decide +kernel
theorem dX7_takeWord_6 : decode cX7_takeWord 6 = .ok (.aload_n 0, 1) := by decide +kernel
theorem dX7_takeWord_7 : decode cX7_takeWord 7 = .ok (.getfield 40, 3) := by decide +kernel
theorem dX7_takeWord_10 : decode cX7_takeWord 10 = .ok (.if_icmp .ge 62, 3) := by decide +kernel
theorem dX7_takeWord_13 : decode cX7_takeWord 13 = .ok (.aload_n 0, 1) := by decide +kernel
theorem dX7_takeWord_14 : decode cX7_takeWord 14 = .ok (.getfield 15, 3) := by decide +kernel
theorem dX7_takeWord_17 : decode cX7_takeWord 17 = .ok (.aload_n 0, 1) := by decide +kernel
theorem dX7_takeWord_18 : decode cX7_takeWord 18 = .ok (.getfield 44, 3) := by decide +kernel
theorem dX7_takeWord_21 : decode cX7_takeWord 21 = .ok (.baload, 1) := by decide +kernel
theorem dX7_takeWord_22 : decode cX7_takeWord 22 = .ok (.invokestatic 27, 3) := by decide +kernel
theorem dX7_takeWord_25 : decode cX7_takeWord 25 = .ok (.ifCond .eq 47, 3) := by decide +kernel
theorem dX7_takeWord_28 : decode cX7_takeWord 28 = .ok (.iload_n 1, 1) := by decide +kernel
theorem dX7_takeWord_29 : decode cX7_takeWord 29 = .ok (.bipush 6, 2) := by decide +kernel
theorem dX7_takeWord_31 : decode cX7_takeWord 31 = .ok (.if_icmp .ge 25, 3) := by decide +kernel
theorem dX7_takeWord_34 : decode cX7_takeWord 34 = .ok (.aload_n 0, 1) := by decide +kernel
theorem dX7_takeWord_35 : decode cX7_takeWord 35 = .ok (.dup, 1) := by decide +kernel
theorem dX7_takeWord_36 : decode cX7_takeWord 36 = .ok (.getfield 53, 3) := by decide +kernel
theorem dX7_takeWord_39 : decode cX7_takeWord 39 = .ok (.aload_n 0, 1) := by decide +kernel
theorem dX7_takeWord_40 : decode cX7_takeWord 40 = .ok (.getfield 15, 3) := by decide +kernel
theorem dX7_takeWord_43 : decode cX7_takeWord 43 = .ok (.aload_n 0, 1) := by decide +kernel
theorem dX7_takeWord_44 : decode cX7_takeWord 44 = .ok (.getfield 44, 3) := by decide +kernel
theorem dX7_takeWord_47 : decode cX7_takeWord 47 = .ok (.baload, 1) := by decide +kernel
theorem dX7_takeWord_48 : decode cX7_takeWord 48 = .ok (.iload_n 1, 1) := by decide +kernel
theorem dX7_takeWord_49 : decode cX7_takeWord 49 = .ok (.invokestatic 31, 3) := by decide +kernel
theorem dX7_takeWord_52 : decode cX7_takeWord 52 = .ok (.ior, 1) := by decide +kernel
theorem dX7_takeWord_53 : decode cX7_takeWord 53 = .ok (.putfield 53, 3) := by decide +kernel
theorem dX7_takeWord_56 : decode cX7_takeWord 56 = .ok (.iinc 1 1, 3) := by decide +kernel
theorem dX7_takeWord_59 : decode cX7_takeWord 59 = .ok (.aload_n 0, 1) := by decide +kernel
theorem dX7_takeWord_60 : decode cX7_takeWord 60 = .ok (.dup, 1) := by decide +kernel
theorem dX7_takeWord_61 : decode cX7_takeWord 61 = .ok (.getfield 44, 3) := by decide +kernel
theorem dX7_takeWord_64 : decode cX7_takeWord 64 = .ok (.iconst 1, 1) := by decide +kernel
theorem dX7_takeWord_65 : decode cX7_takeWord 65 = .ok (.iadd, 1) := by decide +kernel
theorem dX7_takeWord_66 : decode cX7_takeWord 66 = .ok (.putfield 44, 3) := by decide +kernel
theorem dX7_takeWord_69 : decode cX7_takeWord 69 = .ok (.goto (-67), 3) := by decide +kernel
theorem dX7_takeWord_72 : decode cX7_takeWord 72 = .ok (.aload_n 0, 1) := by decide +kernel
theorem dX7_takeWord_73 : decode cX7_takeWord 73 = .ok (.iload_n 1, 1) := by decide +kernel
theorem dX7_takeWord_74 : decode cX7_takeWord 74 = .ok (.bipush 6, 2) := by decide +kernel
theorem dX7_takeWord_76 : decode cX7_takeWord 76 = .ok (.if_icmp .le 8, 3) := by decide +kernel
theorem dX7_takeWord_79 : decode cX7_takeWord 79 = .ok (.bipush 40, 2) := by decide +kernel
theorem dX7_takeWord_81 : decode cX7_takeWord 81 = .ok (.goto 11, 3) := by decide +kernel
theorem dX7_takeWord_84 : decode cX7_takeWord 84 = .ok (.aload_n 0, 1) := by decide +kernel
theorem dX7_takeWord_85 : decode cX7_takeWord 85 = .ok (.aload_n 0, 1) := by decide +kernel
theorem dX7_takeWord_86 : decode cX7_takeWord 86 = .ok (.getfield 53, 3) := by decide +kernel
theorem dX7_takeWord_89 : decode cX7_takeWord 89 = .ok (.invokevirtual 71, 3) := by decide +kernel
theorem dX7_takeWord_92 : decode cX7_takeWord 92 = .ok (.putfield 56, 3) := by decide +kernel
theorem dX7_takeWord_95 : decode cX7_takeWord 95 = .ok (.return_, 1) := by decide +kernel
theorem dX7_wordOf_0 : decode cX7_wordOf 0 = .ok (.iconst 0, 1) := by decide +kernel
theorem dX7_wordOf_1 : decode cX7_wordOf 1 = .ok (.istore_n 2, 1) := by decide +kernel
theorem dX7_wordOf_2 : decode cX7_wordOf 2 = .ok (.iload_n 2, 1) := by decide +kernel
theorem dX7_wordOf_3 : decode cX7_wordOf 3 = .ok (.bipush 24, 2) := by decide +kernel
theorem dX7_wordOf_5 : decode cX7_wordOf 5 = .ok (.if_icmp .ge 21, 3) := by decide +kernel
theorem dX7_wordOf_8 : decode cX7_wordOf 8 = .ok (.aload_n 0, 1) := by decide +kernel
theorem dX7_wordOf_9 : decode cX7_wordOf 9 = .ok (.getfield 9, 3) := by decide +kernel
theorem dX7_wordOf_12 : decode cX7_wordOf 12 = .ok (.iload_n 2, 1) := by decide +kernel
theorem dX7_wordOf_13 : decode cX7_wordOf 13 = .ok (.iaload, 1) := by decide +kernel
theorem dX7_wordOf_14 : decode cX7_wordOf 14 = .ok (.iload_n 1, 1) := by decide +kernel
theorem dX7_wordOf_15 : decode cX7_wordOf 15 = .ok (.if_icmp .ne 5, 3) := by decide +kernel
theorem dX7_wordOf_18 : decode cX7_wordOf 18 = .ok (.iload_n 2, 1) := by decide +kernel
theorem dX7_wordOf_19 : decode cX7_wordOf 19 = .ok (.ireturn, 1) := by decide +kernel
theorem dX7_wordOf_20 : decode cX7_wordOf 20 = .ok (.iinc 2 1, 3) := by decide +kernel
theorem dX7_wordOf_23 : decode cX7_wordOf 23 = .ok (.goto (-21), 3) := by decide +kernel
theorem dX7_wordOf_26 : decode cX7_wordOf 26 = .ok (.bipush 24, 2) := by decide +kernel
theorem dX7_wordOf_28 : decode cX7_wordOf 28 = .ok (.ireturn, 1) := by decide +kernel
set_option maxRecDepth 20000 in
theorem ggX7_takeNumber_X7_isDigit : GoodIn wsX7_takeNumber wsX7_isDigit := goodIn_r _ [14] (by decide +kernel) (by decide +kernel)
set_option maxRecDepth 20000 in
theorem gX7_takeNumber_X7_isDigit : GoodIn wsX7_takeNumber (va_wsS RX7 62 yX7_isDigit wsX7_isDigit) := goodIn_app (goodIn_of _ (by decide +kernel)) ggX7_takeNumber_X7_isDigit
theorem dX7_takeNumber_0 : decode cX7_takeNumber 0 = .ok (.aload_n 0, 1) := by decide +kernel
theorem dX7_takeNumber_1 : decode cX7_takeNumber 1 = .ok (.getfield 44, 3) := by decide +kernel
theorem dX7_takeNumber_4 : decode cX7_takeNumber 4 = .ok (.aload_n 0, 1) := by decide +kernel
theorem dX7_takeNumber_5 : decode cX7_takeNumber 5 = .ok (.getfield 40, 3) := by decide +kernel
theorem dX7_takeNumber_8 : decode cX7_takeNumber 8 = .ok (.if_icmp .ge 60, 3) := by decide +kernel
theorem dX7_takeNumber_11 : decode cX7_takeNumber 11 = .ok (.aload_n 0, 1) := by decide +kernel
theorem dX7_takeNumber_12 : decode cX7_takeNumber 12 = .ok (.getfield 15, 3) := by decide +kernel
theorem dX7_takeNumber_15 : decode cX7_takeNumber 15 = .ok (.aload_n 0, 1) := by decide +kernel
theorem dX7_takeNumber_16 : decode cX7_takeNumber 16 = .ok (.getfield 44, 3) := by decide +kernel
theorem dX7_takeNumber_19 : decode cX7_takeNumber 19 = .ok (.baload, 1) := by decide +kernel
theorem dX7_takeNumber_20 : decode cX7_takeNumber 20 = .ok (.invokestatic 62, 3) := by decide +kernel
theorem dX7_takeNumber_23 : decode cX7_takeNumber 23 = .ok (.ifCond .eq 45, 3) := by decide +kernel
theorem dX7_takeNumber_26 : decode cX7_takeNumber 26 = .ok (.aload_n 0, 1) := by decide +kernel
theorem dX7_takeNumber_27 : decode cX7_takeNumber 27 = .ok (.aload_n 0, 1) := by decide +kernel
theorem dX7_takeNumber_28 : decode cX7_takeNumber 28 = .ok (.getfield 53, 3) := by decide +kernel
theorem dX7_takeNumber_31 : decode cX7_takeNumber 31 = .ok (.bipush 10, 2) := by decide +kernel
theorem dX7_takeNumber_33 : decode cX7_takeNumber 33 = .ok (.imul, 1) := by decide +kernel
theorem dX7_takeNumber_34 : decode cX7_takeNumber 34 = .ok (.aload_n 0, 1) := by decide +kernel
theorem dX7_takeNumber_35 : decode cX7_takeNumber 35 = .ok (.getfield 15, 3) := by decide +kernel
theorem dX7_takeNumber_38 : decode cX7_takeNumber 38 = .ok (.aload_n 0, 1) := by decide +kernel
theorem dX7_takeNumber_39 : decode cX7_takeNumber 39 = .ok (.getfield 44, 3) := by decide +kernel
theorem dX7_takeNumber_42 : decode cX7_takeNumber 42 = .ok (.baload, 1) := by decide +kernel
theorem dX7_takeNumber_43 : decode cX7_takeNumber 43 = .ok (.iadd, 1) := by decide +kernel
theorem dX7_takeNumber_44 : decode cX7_takeNumber 44 = .ok (.bipush 48, 2) := by decide +kernel
theorem dX7_takeNumber_46 : decode cX7_takeNumber 46 = .ok (.isub, 1) := by decide +kernel
theorem dX7_takeNumber_47 : decode cX7_takeNumber 47 = .ok (.ldc 75, 2) := by decide +kernel
theorem dX7_takeNumber_49 : decode cX7_takeNumber 49 = .ok (.invokestatic 35, 3) := by decide +kernel
theorem dX7_takeNumber_52 : decode cX7_takeNumber 52 = .ok (.putfield 53, 3) := by decide +kernel
theorem dX7_takeNumber_55 : decode cX7_takeNumber 55 = .ok (.aload_n 0, 1) := by decide +kernel
theorem dX7_takeNumber_56 : decode cX7_takeNumber 56 = .ok (.dup, 1) := by decide +kernel
theorem dX7_takeNumber_57 : decode cX7_takeNumber 57 = .ok (.getfield 44, 3) := by decide +kernel
theorem dX7_takeNumber_60 : decode cX7_takeNumber 60 = .ok (.iconst 1, 1) := by decide +kernel
theorem dX7_takeNumber_61 : decode cX7_takeNumber 61 = .ok (.iadd, 1) := by decide +kernel
theorem dX7_takeNumber_62 : decode cX7_takeNumber 62 = .ok (.putfield 44, 3) := by decide +kernel
theorem dX7_takeNumber_65 : decode cX7_takeNumber 65 = .ok (.goto (-65), 3) := by decide +kernel
theorem dX7_takeNumber_68 : decode cX7_takeNumber 68 = .ok (.aload_n 0, 1) := by decide +kernel
theorem dX7_takeNumber_69 : decode cX7_takeNumber 69 = .ok (.bipush 25, 2) := by decide +kernel
theorem dX7_takeNumber_71 : decode cX7_takeNumber 71 = .ok (.putfield 56, 3) := by decide +kernel
theorem dX7_takeNumber_74 : decode cX7_takeNumber 74 = .ok (.return_, 1) := by decide +kernel
set_option maxRecDepth 20000 in
theorem ggX7_takeSign_X7_signOf : GoodIn wsX7_takeSign wsX7_signOf := goodIn_r _ [7] (by decide +kernel) (by decide +kernel)
set_option maxRecDepth 20000 in
theorem gX7_takeSign_X7_signOf : GoodIn wsX7_takeSign (va_wsS RX7 76 yX7_signOf wsX7_signOf) := goodIn_app (goodIn_of _ (by decide +kernel)) ggX7_takeSign_X7_signOf
set_option maxRecDepth 20000 in
theorem ggX7_takeSign_X7_isNext : GoodIn wsX7_takeSign wsX7_isNext := goodIn_r _ [11, 2, 12, 1, 13, 14, 15, 16, 17, 18, 19] (by decide +kernel) (by decide +kernel)
set_option maxRecDepth 20000 in
theorem gX7_takeSign_X7_isNext : GoodIn wsX7_takeSign (wsV RX7 79 RX7 yX7_isNext wsX7_isNext) := goodIn_app (goodIn_of _ (by decide +kernel)) ggX7_takeSign_X7_isNext
theorem dX7_takeSign_0 : decode cX7_takeSign 0 = .ok (.aload_n 0, 1) := by decide +kernel
theorem dX7_takeSign_1 : decode cX7_takeSign 1 = .ok (.getfield 15, 3) := by decide +kernel
theorem dX7_takeSign_4 : decode cX7_takeSign 4 = .ok (.aload_n 0, 1) := by decide +kernel
theorem dX7_takeSign_5 : decode cX7_takeSign 5 = .ok (.getfield 44, 3) := by decide +kernel
theorem dX7_takeSign_8 : decode cX7_takeSign 8 = .ok (.baload, 1) := by decide +kernel
theorem dX7_takeSign_9 : decode cX7_takeSign 9 = .ok (.istore_n 1, 1) := by decide +kernel
theorem dX7_takeSign_10 : decode cX7_takeSign 10 = .ok (.aload_n 0, 1) := by decide +kernel
theorem dX7_takeSign_11 : decode cX7_takeSign 11 = .ok (.dup, 1) := by decide +kernel
theorem dX7_takeSign_12 : decode cX7_takeSign 12 = .ok (.getfield 44, 3) := by decide +kernel
theorem dX7_takeSign_15 : decode cX7_takeSign 15 = .ok (.iconst 1, 1) := by decide +kernel
theorem dX7_takeSign_16 : decode cX7_takeSign 16 = .ok (.iadd, 1) := by decide +kernel
theorem dX7_takeSign_17 : decode cX7_takeSign 17 = .ok (.putfield 44, 3) := by decide +kernel
theorem dX7_takeSign_20 : decode cX7_takeSign 20 = .ok (.aload_n 0, 1) := by decide +kernel
theorem dX7_takeSign_21 : decode cX7_takeSign 21 = .ok (.iload_n 1, 1) := by decide +kernel
theorem dX7_takeSign_22 : decode cX7_takeSign 22 = .ok (.invokestatic 76, 3) := by decide +kernel
theorem dX7_takeSign_25 : decode cX7_takeSign 25 = .ok (.putfield 56, 3) := by decide +kernel
theorem dX7_takeSign_28 : decode cX7_takeSign 28 = .ok (.aload_n 0, 1) := by decide +kernel
theorem dX7_takeSign_29 : decode cX7_takeSign 29 = .ok (.getfield 56, 3) := by decide +kernel
theorem dX7_takeSign_32 : decode cX7_takeSign 32 = .ok (.bipush 26, 2) := by decide +kernel
theorem dX7_takeSign_34 : decode cX7_takeSign 34 = .ok (.if_icmp .ne 31, 3) := by decide +kernel
theorem dX7_takeSign_37 : decode cX7_takeSign 37 = .ok (.aload_n 0, 1) := by decide +kernel
theorem dX7_takeSign_38 : decode cX7_takeSign 38 = .ok (.bipush 61, 2) := by decide +kernel
theorem dX7_takeSign_40 : decode cX7_takeSign 40 = .ok (.invokevirtual 79, 3) := by decide +kernel
theorem dX7_takeSign_43 : decode cX7_takeSign 43 = .ok (.ifCond .eq 22, 3) := by decide +kernel
theorem dX7_takeSign_46 : decode cX7_takeSign 46 = .ok (.aload_n 0, 1) := by decide +kernel
theorem dX7_takeSign_47 : decode cX7_takeSign 47 = .ok (.bipush 27, 2) := by decide +kernel
theorem dX7_takeSign_49 : decode cX7_takeSign 49 = .ok (.putfield 56, 3) := by decide +kernel
theorem dX7_takeSign_52 : decode cX7_takeSign 52 = .ok (.aload_n 0, 1) := by decide +kernel
theorem dX7_takeSign_53 : decode cX7_takeSign 53 = .ok (.dup, 1) := by decide +kernel
theorem dX7_takeSign_54 : decode cX7_takeSign 54 = .ok (.getfield 44, 3) := by decide +kernel
theorem dX7_takeSign_57 : decode cX7_takeSign 57 = .ok (.iconst 1, 1) := by decide +kernel
theorem dX7_takeSign_58 : decode cX7_takeSign 58 = .ok (.iadd, 1) := by decide +kernel
theorem dX7_takeSign_59 : decode cX7_takeSign 59 = .ok (.putfield 44, 3) := by decide +kernel
theorem dX7_takeSign_62 : decode cX7_takeSign 62 = .ok (.goto 74, 3) := by decide +kernel
theorem dX7_takeSign_65 : decode cX7_takeSign 65 = .ok (.aload_n 0, 1) := by decide +kernel
theorem dX7_takeSign_66 : decode cX7_takeSign 66 = .ok (.getfield 56, 3) := by decide +kernel
theorem dX7_takeSign_69 : decode cX7_takeSign 69 = .ok (.bipush 26, 2) := by decide +kernel
theorem dX7_takeSign_71 : decode cX7_takeSign 71 = .ok (.if_icmp .ne 31, 3) := by decide +kernel
theorem dX7_takeSign_74 : decode cX7_takeSign 74 = .ok (.aload_n 0, 1) := by decide +kernel
theorem dX7_takeSign_75 : decode cX7_takeSign 75 = .ok (.bipush 62, 2) := by decide +kernel
theorem dX7_takeSign_77 : decode cX7_takeSign 77 = .ok (.invokevirtual 79, 3) := by decide +kernel
theorem dX7_takeSign_80 : decode cX7_takeSign 80 = .ok (.ifCond .eq 22, 3) := by decide +kernel
theorem dX7_takeSign_83 : decode cX7_takeSign 83 = .ok (.aload_n 0, 1) := by decide +kernel
theorem dX7_takeSign_84 : decode cX7_takeSign 84 = .ok (.bipush 29, 2) := by decide +kernel
theorem dX7_takeSign_86 : decode cX7_takeSign 86 = .ok (.putfield 56, 3) := by decide +kernel
theorem dX7_takeSign_89 : decode cX7_takeSign 89 = .ok (.aload_n 0, 1) := by decide +kernel
theorem dX7_takeSign_90 : decode cX7_takeSign 90 = .ok (.dup, 1) := by decide +kernel
theorem dX7_takeSign_91 : decode cX7_takeSign 91 = .ok (.getfield 44, 3) := by decide +kernel
theorem dX7_takeSign_94 : decode cX7_takeSign 94 = .ok (.iconst 1, 1) := by decide +kernel
theorem dX7_takeSign_95 : decode cX7_takeSign 95 = .ok (.iadd, 1) := by decide +kernel
theorem dX7_takeSign_96 : decode cX7_takeSign 96 = .ok (.putfield 44, 3) := by decide +kernel
theorem dX7_takeSign_99 : decode cX7_takeSign 99 = .ok (.goto 37, 3) := by decide +kernel
theorem dX7_takeSign_102 : decode cX7_takeSign 102 = .ok (.aload_n 0, 1) := by decide +kernel
theorem dX7_takeSign_103 : decode cX7_takeSign 103 = .ok (.getfield 56, 3) := by decide +kernel
theorem dX7_takeSign_106 : decode cX7_takeSign 106 = .ok (.bipush 31, 2) := by decide +kernel
theorem dX7_takeSign_108 : decode cX7_takeSign 108 = .ok (.if_icmp .ne 28, 3) := by decide +kernel
theorem dX7_takeSign_111 : decode cX7_takeSign 111 = .ok (.aload_n 0, 1) := by decide +kernel
theorem dX7_takeSign_112 : decode cX7_takeSign 112 = .ok (.bipush 61, 2) := by decide +kernel
theorem dX7_takeSign_114 : decode cX7_takeSign 114 = .ok (.invokevirtual 79, 3) := by decide +kernel
theorem dX7_takeSign_117 : decode cX7_takeSign 117 = .ok (.ifCond .eq 19, 3) := by decide +kernel
theorem dX7_takeSign_120 : decode cX7_takeSign 120 = .ok (.aload_n 0, 1) := by decide +kernel
theorem dX7_takeSign_121 : decode cX7_takeSign 121 = .ok (.bipush 30, 2) := by decide +kernel
theorem dX7_takeSign_123 : decode cX7_takeSign 123 = .ok (.putfield 56, 3) := by decide +kernel
theorem dX7_takeSign_126 : decode cX7_takeSign 126 = .ok (.aload_n 0, 1) := by decide +kernel
theorem dX7_takeSign_127 : decode cX7_takeSign 127 = .ok (.dup, 1) := by decide +kernel
theorem dX7_takeSign_128 : decode cX7_takeSign 128 = .ok (.getfield 44, 3) := by decide +kernel
theorem dX7_takeSign_131 : decode cX7_takeSign 131 = .ok (.iconst 1, 1) := by decide +kernel
theorem dX7_takeSign_132 : decode cX7_takeSign 132 = .ok (.iadd, 1) := by decide +kernel
theorem dX7_takeSign_133 : decode cX7_takeSign 133 = .ok (.putfield 44, 3) := by decide +kernel
theorem dX7_takeSign_136 : decode cX7_takeSign 136 = .ok (.return_, 1) := by decide +kernel
theorem dX7_isNext_0 : decode cX7_isNext 0 = .ok (.aload_n 0, 1) := by decide +kernel
theorem dX7_isNext_1 : decode cX7_isNext 1 = .ok (.getfield 44, 3) := by decide +kernel
theorem dX7_isNext_4 : decode cX7_isNext 4 = .ok (.aload_n 0, 1) := by decide +kernel
theorem dX7_isNext_5 : decode cX7_isNext 5 = .ok (.getfield 40, 3) := by decide +kernel
theorem dX7_isNext_8 : decode cX7_isNext 8 = .ok (.if_icmp .ge 20, 3) := by decide +kernel
theorem dX7_isNext_11 : decode cX7_isNext 11 = .ok (.aload_n 0, 1) := by decide +kernel
theorem dX7_isNext_12 : decode cX7_isNext 12 = .ok (.getfield 15, 3) := by decide +kernel
theorem dX7_isNext_15 : decode cX7_isNext 15 = .ok (.aload_n 0, 1) := by decide +kernel
theorem dX7_isNext_16 : decode cX7_isNext 16 = .ok (.getfield 44, 3) := by decide +kernel
theorem dX7_isNext_19 : decode cX7_isNext 19 = .ok (.baload, 1) := by decide +kernel
theorem dX7_isNext_20 : decode cX7_isNext 20 = .ok (.iload_n 1, 1) := by decide +kernel
theorem dX7_isNext_21 : decode cX7_isNext 21 = .ok (.if_icmp .ne 7, 3) := by decide +kernel
theorem dX7_isNext_24 : decode cX7_isNext 24 = .ok (.iconst 1, 1) := by decide +kernel
theorem dX7_isNext_25 : decode cX7_isNext 25 = .ok (.goto 4, 3) := by decide +kernel
theorem dX7_isNext_28 : decode cX7_isNext 28 = .ok (.iconst 0, 1) := by decide +kernel
theorem dX7_isNext_29 : decode cX7_isNext 29 = .ok (.ireturn, 1) := by decide +kernel
theorem dX7_signOf_0 : decode cX7_signOf 0 = .ok (.iload_n 0, 1) := by decide +kernel
theorem dX7_signOf_1 : decode cX7_signOf 1 = .ok (.tableswitch 137 40 62 #[110, 113, 131, 125, 137, 128, 137, 134, 137, 137, 137, 137, 137, 137, 137, 137, 137, 137, 137, 107, 116, 119, 122], 107) := by decide +kernel
theorem dX7_signOf_108 : decode cX7_signOf 108 = .ok (.bipush 38, 2) := by decide +kernel
theorem dX7_signOf_110 : decode cX7_signOf 110 = .ok (.ireturn, 1) := by decide +kernel
theorem dX7_signOf_111 : decode cX7_signOf 111 = .ok (.bipush 36, 2) := by decide +kernel
theorem dX7_signOf_113 : decode cX7_signOf 113 = .ok (.ireturn, 1) := by decide +kernel
theorem dX7_signOf_114 : decode cX7_signOf 114 = .ok (.bipush 37, 2) := by decide +kernel
theorem dX7_signOf_116 : decode cX7_signOf 116 = .ok (.ireturn, 1) := by decide +kernel
theorem dX7_signOf_117 : decode cX7_signOf 117 = .ok (.bipush 26, 2) := by decide +kernel
theorem dX7_signOf_119 : decode cX7_signOf 119 = .ok (.ireturn, 1) := by decide +kernel
theorem dX7_signOf_120 : decode cX7_signOf 120 = .ok (.bipush 28, 2) := by decide +kernel
theorem dX7_signOf_122 : decode cX7_signOf 122 = .ok (.ireturn, 1) := by decide +kernel
theorem dX7_signOf_123 : decode cX7_signOf 123 = .ok (.bipush 31, 2) := by decide +kernel
theorem dX7_signOf_125 : decode cX7_signOf 125 = .ok (.ireturn, 1) := by decide +kernel
theorem dX7_signOf_126 : decode cX7_signOf 126 = .ok (.bipush 32, 2) := by decide +kernel
theorem dX7_signOf_128 : decode cX7_signOf 128 = .ok (.ireturn, 1) := by decide +kernel
theorem dX7_signOf_129 : decode cX7_signOf 129 = .ok (.bipush 33, 2) := by decide +kernel
theorem dX7_signOf_131 : decode cX7_signOf 131 = .ok (.ireturn, 1) := by decide +kernel
theorem dX7_signOf_132 : decode cX7_signOf 132 = .ok (.bipush 34, 2) := by decide +kernel
theorem dX7_signOf_134 : decode cX7_signOf 134 = .ok (.ireturn, 1) := by decide +kernel
theorem dX7_signOf_135 : decode cX7_signOf 135 = .ok (.bipush 35, 2) := by decide +kernel
theorem dX7_signOf_137 : decode cX7_signOf 137 = .ok (.ireturn, 1) := by decide +kernel
theorem dX7_signOf_138 : decode cX7_signOf 138 = .ok (.bipush 40, 2) := by decide +kernel
theorem dX7_signOf_140 : decode cX7_signOf 140 = .ok (.ireturn, 1) := by decide +kernel
theorem dX7_isLetter_0 : decode cX7_isLetter 0 = .ok (.iload_n 0, 1) := by decide +kernel
theorem dX7_isLetter_1 : decode cX7_isLetter 1 = .ok (.bipush 97, 2) := by decide +kernel
theorem dX7_isLetter_3 : decode cX7_isLetter 3 = .ok (.if_icmp .lt 13, 3) := by decide +kernel
theorem dX7_isLetter_6 : decode cX7_isLetter 6 = .ok (.iload_n 0, 1) := by decide +kernel
theorem dX7_isLetter_7 : decode cX7_isLetter 7 = .ok (.bipush 122, 2) := by decide +kernel
theorem dX7_isLetter_9 : decode cX7_isLetter 9 = .ok (.if_icmp .gt 7, 3) := by decide +kernel
theorem dX7_isLetter_12 : decode cX7_isLetter 12 = .ok (.iconst 1, 1) := by decide +kernel
theorem dX7_isLetter_13 : decode cX7_isLetter 13 = .ok (.goto 4, 3) := by decide +kernel
theorem dX7_isLetter_16 : decode cX7_isLetter 16 = .ok (.iconst 0, 1) := by decide +kernel
theorem dX7_isLetter_17 : decode cX7_isLetter 17 = .ok (.ireturn, 1) := by decide +kernel
theorem dX7_isDigit_0 : decode cX7_isDigit 0 = .ok (.iload_n 0, 1) := by decide +kernel
theorem dX7_isDigit_1 : decode cX7_isDigit 1 = .ok (.bipush 48, 2) := by decide +kernel
theorem dX7_isDigit_3 : decode cX7_isDigit 3 = .ok (.if_icmp .lt 13, 3) := by decide +kernel
theorem dX7_isDigit_6 : decode cX7_isDigit 6 = .ok (.iload_n 0, 1) := by decide +kernel
theorem dX7_isDigit_7 : decode cX7_isDigit 7 = .ok (.bipush 57, 2) := by decide +kernel
theorem dX7_isDigit_9 : decode cX7_isDigit 9 = .ok (.if_icmp .gt 7, 3) := by decide +kernel
theorem dX7_isDigit_12 : decode cX7_isDigit 12 = .ok (.iconst 1, 1) := by decide +kernel
theorem dX7_isDigit_13 : decode cX7_isDigit 13 = .ok (.goto 4, 3) := by decide +kernel
theorem dX7_isDigit_16 : decode cX7_isDigit 16 = .ok (.iconst 0, 1) := by decide +kernel
theorem dX7_isDigit_17 : decode cX7_isDigit 17 = .ok (.ireturn, 1) := by decide +kernel
theorem dX7_letterBits_0 : decode cX7_letterBits 0 = .ok (.iload_n 0, 1) := by decide +kernel
theorem dX7_letterBits_1 : decode cX7_letterBits 1 = .ok (.bipush 97, 2) := by decide +kernel
theorem dX7_letterBits_3 : decode cX7_letterBits 3 = .ok (.isub, 1) := by decide +kernel
theorem dX7_letterBits_4 : decode cX7_letterBits 4 = .ok (.iconst 1, 1) := by decide +kernel
theorem dX7_letterBits_5 : decode cX7_letterBits 5 = .ok (.iadd, 1) := by decide +kernel
theorem dX7_letterBits_6 : decode cX7_letterBits 6 = .ok (.bipush 25, 2) := by decide +kernel
theorem dX7_letterBits_8 : decode cX7_letterBits 8 = .ok (.iconst 5, 1) := by decide +kernel
theorem dX7_letterBits_9 : decode cX7_letterBits 9 = .ok (.iload_n 1, 1) := by decide +kernel
theorem dX7_letterBits_10 : decode cX7_letterBits 10 = .ok (.imul, 1) := by decide +kernel
theorem dX7_letterBits_11 : decode cX7_letterBits 11 = .ok (.isub, 1) := by decide +kernel
theorem dX7_letterBits_12 : decode cX7_letterBits 12 = .ok (.ishl, 1) := by decide +kernel
theorem dX7_letterBits_13 : decode cX7_letterBits 13 = .ok (.ireturn, 1) := by decide +kernel
set_option maxRecDepth 20000 in
theorem ggX8_init_X1_init : GoodIn wsX8_init wsX1_init := goodIn_r _ [20, 21, 2, 3, 22, 23, 24, 25, 26, 27, 28, 44, 45, 46, 47, 48, 49, 50] (by decide +kernel) (by decide +kernel)
set_option maxRecDepth 20000 in
theorem gX8_init_X1_init : GoodIn wsX8_init (wsX1_init) := ggX8_init_X1_init
set_option maxRecDepth 20000 in
theorem ggX8_init_X10_init : GoodIn wsX8_init wsX10_init := goodIn_r _ [31, 32, 2, 3, 22, 33, 34, 35, 36, 37, 38, 65, 66, 67, 68, 69, 70, 71, 72] (by decide +kernel) (by decide +kernel)
set_option maxRecDepth 20000 in
theorem gX8_init_X10_init : GoodIn wsX8_init (wsX10_init) := ggX8_init_X10_init
set_option maxRecDepth 20000 in
theorem ggX8_init_X2_init : GoodIn wsX8_init wsX2_init := goodIn_r _ [41, 42, 2, 3, 22, 43, 73, 74, 75] (by decide +kernel) (by decide +kernel)
set_option maxRecDepth 20000 in
theorem gX8_init_X2_init : GoodIn wsX8_init (wsX2_init) := ggX8_init_X2_init
theorem dX8_init_0 : decode cX8_init 0 = .ok (.aload_n 0, 1) := by decide +kernel
theorem dX8_init_1 : decode cX8_init 1 = .ok (.invokespecial 3, 3) := by decide +kernel
theorem dX8_init_4 : decode cX8_init 4 = .ok (.aload_n 0, 1) := by decide +kernel
theorem dX8_init_5 : decode cX8_init 5 = .ok (.new 9, 3) := by decide +kernel
theorem dX8_init_8 : decode cX8_init 8 = .ok (.dup, 1) := by decide +kernel
theorem dX8_init_9 : decode cX8_init 9 = .ok (.invokespecial 11, 3) := by decide +kernel
theorem dX8_init_12 : decode cX8_init 12 = .ok (.putfield 12, 3) := by decide +kernel
theorem dX8_init_15 : decode cX8_init 15 = .ok (.aload_n 0, 1) := by decide +kernel
theorem dX8_init_16 : decode cX8_init 16 = .ok (.new 18, 3) := by decide +kernel
theorem dX8_init_19 : decode cX8_init 19 = .ok (.dup, 1) := by decide +kernel
theorem dX8_init_20 : decode cX8_init 20 = .ok (.invokespecial 20, 3) := by decide +kernel
theorem dX8_init_23 : decode cX8_init 23 = .ok (.putfield 21, 3) := by decide +kernel
theorem dX8_init_26 : decode cX8_init 26 = .ok (.aload_n 0, 1) := by decide +kernel
theorem dX8_init_27 : decode cX8_init 27 = .ok (.iconst 3, 1) := by decide +kernel
theorem dX8_init_28 : decode cX8_init 28 = .ok (.anewarray 25, 3) := by decide +kernel
theorem dX8_init_31 : decode cX8_init 31 = .ok (.putfield 27, 3) := by decide +kernel
theorem dX8_init_34 : decode cX8_init 34 = .ok (.iconst 0, 1) := by decide +kernel
theorem dX8_init_35 : decode cX8_init 35 = .ok (.istore_n 1, 1) := by decide +kernel
theorem dX8_init_36 : decode cX8_init 36 = .ok (.iload_n 1, 1) := by decide +kernel
theorem dX8_init_37 : decode cX8_init 37 = .ok (.iconst 3, 1) := by decide +kernel
theorem dX8_init_38 : decode cX8_init 38 = .ok (.if_icmp .ge 22, 3) := by decide +kernel
theorem dX8_init_41 : decode cX8_init 41 = .ok (.aload_n 0, 1) := by decide +kernel
theorem dX8_init_42 : decode cX8_init 42 = .ok (.getfield 27, 3) := by decide +kernel
theorem dX8_init_45 : decode cX8_init 45 = .ok (.iload_n 1, 1) := by decide +kernel
theorem dX8_init_46 : decode cX8_init 46 = .ok (.new 25, 3) := by decide +kernel
theorem dX8_init_49 : decode cX8_init 49 = .ok (.dup, 1) := by decide +kernel
theorem dX8_init_50 : decode cX8_init 50 = .ok (.invokespecial 31, 3) := by decide +kernel
theorem dX8_init_53 : decode cX8_init 53 = .ok (.aastore, 1) := by decide +kernel
theorem dX8_init_54 : decode cX8_init 54 = .ok (.iinc 1 1, 3) := by decide +kernel
theorem dX8_init_57 : decode cX8_init 57 = .ok (.goto (-21), 3) := by decide +kernel
theorem dX8_init_60 : decode cX8_init 60 = .ok (.aload_n 0, 1) := by decide +kernel
theorem dX8_init_61 : decode cX8_init 61 = .ok (.bipush 6, 2) := by decide +kernel
theorem dX8_init_63 : decode cX8_init 63 = .ok (.putfield 32, 3) := by decide +kernel
theorem dX8_init_66 : decode cX8_init 66 = .ok (.aload_n 0, 1) := by decide +kernel
theorem dX8_init_67 : decode cX8_init 67 = .ok (.iconst 4, 1) := by decide +kernel
theorem dX8_init_68 : decode cX8_init 68 = .ok (.putfield 36, 3) := by decide +kernel
theorem dX8_init_71 : decode cX8_init 71 = .ok (.return_, 1) := by decide +kernel
set_option maxRecDepth 20000 in
theorem ggX8_forget_X10_forget : GoodIn wsX8_forget wsX10_forget := goodIn_r _ [20, 21, 22, 51, 52, 53, 54, 55, 56, 57, 58] (by decide +kernel) (by decide +kernel)
set_option maxRecDepth 20000 in
theorem gX8_forget_X10_forget : GoodIn wsX8_forget (wsV RX8 48 RX10 yX10_forget wsX10_forget) := goodIn_app (goodIn_of _ (by decide +kernel)) ggX8_forget_X10_forget
set_option maxRecDepth 20000 in
theorem ggX8_forget_X2_forget : GoodIn wsX8_forget wsX2_forget := goodIn_r _ [27, 28, 29, 59, 60, 61] (by decide +kernel) (by decide +kernel)
set_option maxRecDepth 20000 in
theorem gX8_forget_X2_forget : GoodIn wsX8_forget (wsV RX8 66 RX2 yX2_forget wsX2_forget) := goodIn_app (goodIn_of _ (by decide +kernel)) ggX8_forget_X2_forget
theorem dX8_forget_0 : decode cX8_forget 0 = .ok (.aload_n 0, 1) := by decide +kernel
theorem dX8_forget_1 : decode cX8_forget 1 = .ok (.bipush 6, 2) := by decide +kernel
theorem dX8_forget_3 : decode cX8_forget 3 = .ok (.putfield 32, 3) := by decide +kernel
theorem dX8_forget_6 : decode cX8_forget 6 = .ok (.aload_n 0, 1) := by decide +kernel
theorem dX8_forget_7 : decode cX8_forget 7 = .ok (.iconst 4, 1) := by decide +kernel
theorem dX8_forget_8 : decode cX8_forget 8 = .ok (.putfield 36, 3) := by decide +kernel
theorem dX8_forget_11 : decode cX8_forget 11 = .ok (.aload_n 0, 1) := by decide +kernel
theorem dX8_forget_12 : decode cX8_forget 12 = .ok (.iconst 0, 1) := by decide +kernel
theorem dX8_forget_13 : decode cX8_forget 13 = .ok (.putfield 39, 3) := by decide +kernel
theorem dX8_forget_16 : decode cX8_forget 16 = .ok (.aload_n 0, 1) := by decide +kernel
theorem dX8_forget_17 : decode cX8_forget 17 = .ok (.iconst 0, 1) := by decide +kernel
theorem dX8_forget_18 : decode cX8_forget 18 = .ok (.putfield 42, 3) := by decide +kernel
theorem dX8_forget_21 : decode cX8_forget 21 = .ok (.aload_n 0, 1) := by decide +kernel
theorem dX8_forget_22 : decode cX8_forget 22 = .ok (.getfield 12, 3) := by decide +kernel
theorem dX8_forget_25 : decode cX8_forget 25 = .ok (.iconst 0, 1) := by decide +kernel
theorem dX8_forget_26 : decode cX8_forget 26 = .ok (.putfield 45, 3) := by decide +kernel
theorem dX8_forget_29 : decode cX8_forget 29 = .ok (.aload_n 0, 1) := by decide +kernel
theorem dX8_forget_30 : decode cX8_forget 30 = .ok (.getfield 21, 3) := by decide +kernel
theorem dX8_forget_33 : decode cX8_forget 33 = .ok (.invokevirtual 48, 3) := by decide +kernel
theorem dX8_forget_36 : decode cX8_forget 36 = .ok (.aload_n 0, 1) := by decide +kernel
theorem dX8_forget_37 : decode cX8_forget 37 = .ok (.iconst 0, 1) := by decide +kernel
theorem dX8_forget_38 : decode cX8_forget 38 = .ok (.putfield 51, 3) := by decide +kernel
theorem dX8_forget_41 : decode cX8_forget 41 = .ok (.aload_n 0, 1) := by decide +kernel
theorem dX8_forget_42 : decode cX8_forget 42 = .ok (.iconst 0, 1) := by decide +kernel
theorem dX8_forget_43 : decode cX8_forget 43 = .ok (.putfield 54, 3) := by decide +kernel
theorem dX8_forget_46 : decode cX8_forget 46 = .ok (.aload_n 0, 1) := by decide +kernel
theorem dX8_forget_47 : decode cX8_forget 47 = .ok (.iconst 0, 1) := by decide +kernel
theorem dX8_forget_48 : decode cX8_forget 48 = .ok (.putfield 57, 3) := by decide +kernel
theorem dX8_forget_51 : decode cX8_forget 51 = .ok (.aload_n 0, 1) := by decide +kernel
theorem dX8_forget_52 : decode cX8_forget 52 = .ok (.iconst 0, 1) := by decide +kernel
theorem dX8_forget_53 : decode cX8_forget 53 = .ok (.putfield 60, 3) := by decide +kernel
theorem dX8_forget_56 : decode cX8_forget 56 = .ok (.aload_n 0, 1) := by decide +kernel
theorem dX8_forget_57 : decode cX8_forget 57 = .ok (.iconst 0, 1) := by decide +kernel
theorem dX8_forget_58 : decode cX8_forget 58 = .ok (.putfield 63, 3) := by decide +kernel
theorem dX8_forget_61 : decode cX8_forget 61 = .ok (.iconst 0, 1) := by decide +kernel
theorem dX8_forget_62 : decode cX8_forget 62 = .ok (.istore_n 1, 1) := by decide +kernel
theorem dX8_forget_63 : decode cX8_forget 63 = .ok (.iload_n 1, 1) := by decide +kernel
theorem dX8_forget_64 : decode cX8_forget 64 = .ok (.iconst 3, 1) := by decide +kernel
theorem dX8_forget_65 : decode cX8_forget 65 = .ok (.if_icmp .ge 18, 3) := by decide +kernel
theorem dX8_forget_68 : decode cX8_forget 68 = .ok (.aload_n 0, 1) := by decide +kernel
theorem dX8_forget_69 : decode cX8_forget 69 = .ok (.getfield 27, 3) := by decide +kernel
theorem dX8_forget_72 : decode cX8_forget 72 = .ok (.iload_n 1, 1) := by decide +kernel
theorem dX8_forget_73 : decode cX8_forget 73 = .ok (.aaload, 1) := by decide +kernel
theorem dX8_forget_74 : decode cX8_forget 74 = .ok (.invokevirtual 66, 3) := by decide +kernel
theorem dX8_forget_77 : decode cX8_forget 77 = .ok (.iinc 1 1, 3) := by decide +kernel
theorem dX8_forget_80 : decode cX8_forget 80 = .ok (.goto (-17), 3) := by decide +kernel
theorem dX8_forget_83 : decode cX8_forget 83 = .ok (.aload_n 0, 1) := by decide +kernel
theorem dX8_forget_84 : decode cX8_forget 84 = .ok (.iconst 0, 1) := by decide +kernel
theorem dX8_forget_85 : decode cX8_forget 85 = .ok (.putfield 67, 3) := by decide +kernel
theorem dX8_forget_88 : decode cX8_forget 88 = .ok (.aload_n 0, 1) := by decide +kernel
theorem dX8_forget_89 : decode cX8_forget 89 = .ok (.iconst 0, 1) := by decide +kernel
theorem dX8_forget_90 : decode cX8_forget 90 = .ok (.putfield 70, 3) := by decide +kernel
theorem dX8_forget_93 : decode cX8_forget 93 = .ok (.return_, 1) := by decide +kernel
theorem dX8_cells_0 : decode cX8_cells 0 = .ok (.aload_n 0, 1) := by decide +kernel
theorem dX8_cells_1 : decode cX8_cells 1 = .ok (.getfield 32, 3) := by decide +kernel
theorem dX8_cells_4 : decode cX8_cells 4 = .ok (.aload_n 0, 1) := by decide +kernel
theorem dX8_cells_5 : decode cX8_cells 5 = .ok (.getfield 36, 3) := by decide +kernel
theorem dX8_cells_8 : decode cX8_cells 8 = .ok (.imul, 1) := by decide +kernel
theorem dX8_cells_9 : decode cX8_cells 9 = .ok (.ireturn, 1) := by decide +kernel
theorem dX8_columnOf_0 : decode cX8_columnOf 0 = .ok (.aload_n 0, 1) := by decide +kernel
theorem dX8_columnOf_1 : decode cX8_columnOf 1 = .ok (.getfield 32, 3) := by decide +kernel
theorem dX8_columnOf_4 : decode cX8_columnOf 4 = .ok (.ifCond .le 12, 3) := by decide +kernel
theorem dX8_columnOf_7 : decode cX8_columnOf 7 = .ok (.iload_n 1, 1) := by decide +kernel
theorem dX8_columnOf_8 : decode cX8_columnOf 8 = .ok (.aload_n 0, 1) := by decide +kernel
theorem dX8_columnOf_9 : decode cX8_columnOf 9 = .ok (.getfield 32, 3) := by decide +kernel
theorem dX8_columnOf_12 : decode cX8_columnOf 12 = .ok (.irem, 1) := by decide +kernel
theorem dX8_columnOf_13 : decode cX8_columnOf 13 = .ok (.goto 4, 3) := by decide +kernel
theorem dX8_columnOf_16 : decode cX8_columnOf 16 = .ok (.iconst 0, 1) := by decide +kernel
theorem dX8_columnOf_17 : decode cX8_columnOf 17 = .ok (.ireturn, 1) := by decide +kernel
theorem dX8_rowOf_0 : decode cX8_rowOf 0 = .ok (.aload_n 0, 1) := by decide +kernel
theorem dX8_rowOf_1 : decode cX8_rowOf 1 = .ok (.getfield 32, 3) := by decide +kernel
theorem dX8_rowOf_4 : decode cX8_rowOf 4 = .ok (.ifCond .le 12, 3) := by decide +kernel
theorem dX8_rowOf_7 : decode cX8_rowOf 7 = .ok (.iload_n 1, 1) := by decide +kernel
theorem dX8_rowOf_8 : decode cX8_rowOf 8 = .ok (.aload_n 0, 1) := by decide +kernel
theorem dX8_rowOf_9 : decode cX8_rowOf 9 = .ok (.getfield 32, 3) := by decide +kernel
theorem dX8_rowOf_12 : decode cX8_rowOf 12 = .ok (.idiv, 1) := by decide +kernel
theorem dX8_rowOf_13 : decode cX8_rowOf 13 = .ok (.goto 4, 3) := by decide +kernel
theorem dX8_rowOf_16 : decode cX8_rowOf 16 = .ok (.iconst 0, 1) := by decide +kernel
theorem dX8_rowOf_17 : decode cX8_rowOf 17 = .ok (.ireturn, 1) := by decide +kernel
theorem dX8_farFrom_0 : decode cX8_farFrom 0 = .ok (.aload_n 0, 1) := by decide +kernel
theorem dX8_farFrom_1 : decode cX8_farFrom 1 = .ok (.getfield 32, 3) := by decide +kernel
theorem dX8_farFrom_4 : decode cX8_farFrom 4 = .ok (.iconst 1, 1) := by decide +kernel
theorem dX8_farFrom_5 : decode cX8_farFrom 5 = .ok (.if_icmp .ge 5, 3) := by decide +kernel
theorem dX8_farFrom_8 : decode cX8_farFrom 8 = .ok (.iconst 0, 1) := by decide +kernel
theorem dX8_farFrom_9 : decode cX8_farFrom 9 = .ok (.ireturn, 1) := by decide +kernel
theorem dX8_farFrom_10 : decode cX8_farFrom 10 = .ok (.iload_n 1, 1) := by decide +kernel
theorem dX8_farFrom_11 : decode cX8_farFrom 11 = .ok (.aload_n 0, 1) := by decide +kernel
theorem dX8_farFrom_12 : decode cX8_farFrom 12 = .ok (.getfield 32, 3) := by decide +kernel
theorem dX8_farFrom_15 : decode cX8_farFrom 15 = .ok (.irem, 1) := by decide +kernel
theorem dX8_farFrom_16 : decode cX8_farFrom 16 = .ok (.iload_n 2, 1) := by decide +kernel
theorem dX8_farFrom_17 : decode cX8_farFrom 17 = .ok (.isub, 1) := by decide +kernel
theorem dX8_farFrom_18 : decode cX8_farFrom 18 = .ok (.invokestatic 73, 3) := by decide +kernel
theorem dX8_farFrom_21 : decode cX8_farFrom 21 = .ok (.iload_n 1, 1) := by decide +kernel
theorem dX8_farFrom_22 : decode cX8_farFrom 22 = .ok (.aload_n 0, 1) := by decide +kernel
theorem dX8_farFrom_23 : decode cX8_farFrom 23 = .ok (.getfield 32, 3) := by decide +kernel
theorem dX8_farFrom_26 : decode cX8_farFrom 26 = .ok (.idiv, 1) := by decide +kernel
theorem dX8_farFrom_27 : decode cX8_farFrom 27 = .ok (.aload_n 0, 1) := by decide +kernel
theorem dX8_farFrom_28 : decode cX8_farFrom 28 = .ok (.getfield 42, 3) := by decide +kernel
theorem dX8_farFrom_31 : decode cX8_farFrom 31 = .ok (.isub, 1) := by decide +kernel
theorem dX8_farFrom_32 : decode cX8_farFrom 32 = .ok (.invokestatic 73, 3) := by decide +kernel
theorem dX8_farFrom_35 : decode cX8_farFrom 35 = .ok (.iadd, 1) := by decide +kernel
theorem dX8_farFrom_36 : decode cX8_farFrom 36 = .ok (.ireturn, 1) := by decide +kernel
set_option maxRecDepth 20000 in
theorem ggX8_cellBeside_X8_columnOf : GoodIn wsX8_cellBeside wsX8_columnOf := goodIn_r _ [7, 1, 12, 13, 14, 15, 16, 17, 18, 19, 20, 21, 22, 23, 24, 25] (by decide +kernel) (by decide +kernel)
set_option maxRecDepth 20000 in
theorem gX8_cellBeside_X8_columnOf : GoodIn wsX8_cellBeside (wsV RX8 79 RX8 yX8_columnOf wsX8_columnOf) := goodIn_app (goodIn_of _ (by decide +kernel)) ggX8_cellBeside_X8_columnOf
set_option maxRecDepth 20000 in
theorem ggX8_cellBeside_X8_rowOf : GoodIn wsX8_cellBeside wsX8_rowOf := goodIn_r _ [11, 1, 12, 13, 14, 15, 16, 17, 18, 19, 20, 21, 22, 23, 24, 25] (by decide +kernel) (by decide +kernel)
set_option maxRecDepth 20000 in
theorem gX8_cellBeside_X8_rowOf : GoodIn wsX8_cellBeside (wsV RX8 82 RX8 yX8_rowOf wsX8_rowOf) := goodIn_app (goodIn_of _ (by decide +kernel)) ggX8_cellBeside_X8_rowOf
theorem dX8_cellBeside_0 : decode cX8_cellBeside 0 = .ok (.aload_n 0, 1) := by decide +kernel
theorem dX8_cellBeside_1 : decode cX8_cellBeside 1 = .ok (.iload_n 1, 1) := by decide +kernel
theorem dX8_cellBeside_2 : decode cX8_cellBeside 2 = .ok (.invokevirtual 79, 3) := by decide +kernel
theorem dX8_cellBeside_5 : decode cX8_cellBeside 5 = .ok (.istore_n 3, 1) := by decide +kernel
theorem dX8_cellBeside_6 : decode cX8_cellBeside 6 = .ok (.aload_n 0, 1) := by decide +kernel
theorem dX8_cellBeside_7 : decode cX8_cellBeside 7 = .ok (.iload_n 1, 1) := by decide +kernel
theorem dX8_cellBeside_8 : decode cX8_cellBeside 8 = .ok (.invokevirtual 82, 3) := by decide +kernel
theorem dX8_cellBeside_11 : decode cX8_cellBeside 11 = .ok (.istore 4, 2) := by decide +kernel
theorem dX8_cellBeside_13 : decode cX8_cellBeside 13 = .ok (.iload_n 2, 1) := by decide +kernel
theorem dX8_cellBeside_14 : decode cX8_cellBeside 14 = .ok (.tableswitch 98 0 3 #[30, 46, 64, 86], 30) := by decide +kernel
theorem dX8_cellBeside_44 : decode cX8_cellBeside 44 = .ok (.iload 4, 2) := by decide +kernel
theorem dX8_cellBeside_46 : decode cX8_cellBeside 46 = .ok (.ifCond .le 12, 3) := by decide +kernel
theorem dX8_cellBeside_49 : decode cX8_cellBeside 49 = .ok (.iload_n 1, 1) := by decide +kernel
theorem dX8_cellBeside_50 : decode cX8_cellBeside 50 = .ok (.aload_n 0, 1) := by decide +kernel
theorem dX8_cellBeside_51 : decode cX8_cellBeside 51 = .ok (.getfield 32, 3) := by decide +kernel
theorem dX8_cellBeside_54 : decode cX8_cellBeside 54 = .ok (.isub, 1) := by decide +kernel
theorem dX8_cellBeside_55 : decode cX8_cellBeside 55 = .ok (.goto 4, 3) := by decide +kernel
theorem dX8_cellBeside_58 : decode cX8_cellBeside 58 = .ok (.iconst (-1), 1) := by decide +kernel
theorem dX8_cellBeside_59 : decode cX8_cellBeside 59 = .ok (.ireturn, 1) := by decide +kernel
theorem dX8_cellBeside_60 : decode cX8_cellBeside 60 = .ok (.iload_n 3, 1) := by decide +kernel
theorem dX8_cellBeside_61 : decode cX8_cellBeside 61 = .ok (.aload_n 0, 1) := by decide +kernel
theorem dX8_cellBeside_62 : decode cX8_cellBeside 62 = .ok (.getfield 32, 3) := by decide +kernel
theorem dX8_cellBeside_65 : decode cX8_cellBeside 65 = .ok (.iconst 1, 1) := by decide +kernel
theorem dX8_cellBeside_66 : decode cX8_cellBeside 66 = .ok (.isub, 1) := by decide +kernel
theorem dX8_cellBeside_67 : decode cX8_cellBeside 67 = .ok (.if_icmp .ge 9, 3) := by decide +kernel
theorem dX8_cellBeside_70 : decode cX8_cellBeside 70 = .ok (.iload_n 1, 1) := by decide +kernel
theorem dX8_cellBeside_71 : decode cX8_cellBeside 71 = .ok (.iconst 1, 1) := by decide +kernel
theorem dX8_cellBeside_72 : decode cX8_cellBeside 72 = .ok (.iadd, 1) := by decide +kernel
theorem dX8_cellBeside_73 : decode cX8_cellBeside 73 = .ok (.goto 4, 3) := by decide +kernel
theorem dX8_cellBeside_76 : decode cX8_cellBeside 76 = .ok (.iconst (-1), 1) := by decide +kernel
theorem dX8_cellBeside_77 : decode cX8_cellBeside 77 = .ok (.ireturn, 1) := by decide +kernel
theorem dX8_cellBeside_78 : decode cX8_cellBeside 78 = .ok (.iload 4, 2) := by decide +kernel
theorem dX8_cellBeside_80 : decode cX8_cellBeside 80 = .ok (.aload_n 0, 1) := by decide +kernel
theorem dX8_cellBeside_81 : decode cX8_cellBeside 81 = .ok (.getfield 36, 3) := by decide +kernel
theorem dX8_cellBeside_84 : decode cX8_cellBeside 84 = .ok (.iconst 1, 1) := by decide +kernel
theorem dX8_cellBeside_85 : decode cX8_cellBeside 85 = .ok (.isub, 1) := by decide +kernel
theorem dX8_cellBeside_86 : decode cX8_cellBeside 86 = .ok (.if_icmp .ge 12, 3) := by decide +kernel
theorem dX8_cellBeside_89 : decode cX8_cellBeside 89 = .ok (.iload_n 1, 1) := by decide +kernel
theorem dX8_cellBeside_90 : decode cX8_cellBeside 90 = .ok (.aload_n 0, 1) := by decide +kernel
theorem dX8_cellBeside_91 : decode cX8_cellBeside 91 = .ok (.getfield 32, 3) := by decide +kernel
theorem dX8_cellBeside_94 : decode cX8_cellBeside 94 = .ok (.iadd, 1) := by decide +kernel
theorem dX8_cellBeside_95 : decode cX8_cellBeside 95 = .ok (.goto 4, 3) := by decide +kernel
theorem dX8_cellBeside_98 : decode cX8_cellBeside 98 = .ok (.iconst (-1), 1) := by decide +kernel
theorem dX8_cellBeside_99 : decode cX8_cellBeside 99 = .ok (.ireturn, 1) := by decide +kernel
theorem dX8_cellBeside_100 : decode cX8_cellBeside 100 = .ok (.iload_n 3, 1) := by decide +kernel
theorem dX8_cellBeside_101 : decode cX8_cellBeside 101 = .ok (.ifCond .le 9, 3) := by decide +kernel
theorem dX8_cellBeside_104 : decode cX8_cellBeside 104 = .ok (.iload_n 1, 1) := by decide +kernel
theorem dX8_cellBeside_105 : decode cX8_cellBeside 105 = .ok (.iconst 1, 1) := by decide +kernel
theorem dX8_cellBeside_106 : decode cX8_cellBeside 106 = .ok (.isub, 1) := by decide +kernel
theorem dX8_cellBeside_107 : decode cX8_cellBeside 107 = .ok (.goto 4, 3) := by decide +kernel
theorem dX8_cellBeside_110 : decode cX8_cellBeside 110 = .ok (.iconst (-1), 1) := by decide +kernel
theorem dX8_cellBeside_111 : decode cX8_cellBeside 111 = .ok (.ireturn, 1) := by decide +kernel
theorem dX8_cellBeside_112 : decode cX8_cellBeside 112 = .ok (.iload_n 1, 1) := by decide +kernel
theorem dX8_cellBeside_113 : decode cX8_cellBeside 113 = .ok (.ireturn, 1) := by decide +kernel
theorem dX8_bankWaves_0 : decode cX8_bankWaves 0 = .ok (.iload_n 2, 1) := by decide +kernel
theorem dX8_bankWaves_1 : decode cX8_bankWaves 1 = .ok (.iload_n 1, 1) := by decide +kernel
theorem dX8_bankWaves_2 : decode cX8_bankWaves 2 = .ok (.isub, 1) := by decide +kernel
theorem dX8_bankWaves_3 : decode cX8_bankWaves 3 = .ok (.aload_n 0, 1) := by decide +kernel
theorem dX8_bankWaves_4 : decode cX8_bankWaves 4 = .ok (.getfield 51, 3) := by decide +kernel
theorem dX8_bankWaves_7 : decode cX8_bankWaves 7 = .ok (.isub, 1) := by decide +kernel
theorem dX8_bankWaves_8 : decode cX8_bankWaves 8 = .ok (.istore_n 3, 1) := by decide +kernel
theorem dX8_bankWaves_9 : decode cX8_bankWaves 9 = .ok (.iload_n 3, 1) := by decide +kernel
theorem dX8_bankWaves_10 : decode cX8_bankWaves 10 = .ok (.ifCond .lt 11, 3) := by decide +kernel
theorem dX8_bankWaves_13 : decode cX8_bankWaves 13 = .ok (.aload_n 0, 1) := by decide +kernel
theorem dX8_bankWaves_14 : decode cX8_bankWaves 14 = .ok (.getfield 54, 3) := by decide +kernel
theorem dX8_bankWaves_17 : decode cX8_bankWaves 17 = .ok (.iconst 1, 1) := by decide +kernel
theorem dX8_bankWaves_18 : decode cX8_bankWaves 18 = .ok (.if_icmp .ge 7, 3) := by decide +kernel
theorem dX8_bankWaves_21 : decode cX8_bankWaves 21 = .ok (.iconst 0, 1) := by decide +kernel
theorem dX8_bankWaves_22 : decode cX8_bankWaves 22 = .ok (.goto 11, 3) := by decide +kernel
theorem dX8_bankWaves_25 : decode cX8_bankWaves 25 = .ok (.iload_n 3, 1) := by decide +kernel
theorem dX8_bankWaves_26 : decode cX8_bankWaves 26 = .ok (.aload_n 0, 1) := by decide +kernel
theorem dX8_bankWaves_27 : decode cX8_bankWaves 27 = .ok (.getfield 54, 3) := by decide +kernel
theorem dX8_bankWaves_30 : decode cX8_bankWaves 30 = .ok (.idiv, 1) := by decide +kernel
theorem dX8_bankWaves_31 : decode cX8_bankWaves 31 = .ok (.iconst 1, 1) := by decide +kernel
theorem dX8_bankWaves_32 : decode cX8_bankWaves 32 = .ok (.iadd, 1) := by decide +kernel
theorem dX8_bankWaves_33 : decode cX8_bankWaves 33 = .ok (.ireturn, 1) := by decide +kernel
theorem dX9_init_0 : decode cX9_init 0 = .ok (.aload_n 0, 1) := by decide +kernel
theorem dX9_init_1 : decode cX9_init 1 = .ok (.invokespecial 3, 3) := by decide +kernel
theorem dX9_init_4 : decode cX9_init 4 = .ok (.aload_n 0, 1) := by decide +kernel
theorem dX9_init_5 : decode cX9_init 5 = .ok (.bipush 20, 2) := by decide +kernel
theorem dX9_init_7 : decode cX9_init 7 = .ok (.newarray .int, 2) := by decide +kernel
theorem dX9_init_9 : decode cX9_init 9 = .ok (.putfield 9, 3) := by decide +kernel
theorem dX9_init_12 : decode cX9_init 12 = .ok (.aload_n 0, 1) := by decide +kernel
theorem dX9_init_13 : decode cX9_init 13 = .ok (.bipush 20, 2) := by decide +kernel
theorem dX9_init_15 : decode cX9_init 15 = .ok (.newarray .int, 2) := by decide +kernel
theorem dX9_init_17 : decode cX9_init 17 = .ok (.putfield 15, 3) := by decide +kernel
theorem dX9_init_20 : decode cX9_init 20 = .ok (.return_, 1) := by decide +kernel
theorem dX9_add_0 : decode cX9_add 0 = .ok (.aload_n 0, 1) := by decide +kernel
theorem dX9_add_1 : decode cX9_add 1 = .ok (.getfield 18, 3) := by decide +kernel
theorem dX9_add_4 : decode cX9_add 4 = .ok (.bipush 20, 2) := by decide +kernel
theorem dX9_add_6 : decode cX9_add 6 = .ok (.if_icmp .lt 39, 3) := by decide +kernel
theorem dX9_add_9 : decode cX9_add 9 = .ok (.aload_n 0, 1) := by decide +kernel
theorem dX9_add_10 : decode cX9_add 10 = .ok (.getfield 9, 3) := by decide +kernel
theorem dX9_add_13 : decode cX9_add 13 = .ok (.iconst 1, 1) := by decide +kernel
theorem dX9_add_14 : decode cX9_add 14 = .ok (.aload_n 0, 1) := by decide +kernel
theorem dX9_add_15 : decode cX9_add 15 = .ok (.getfield 9, 3) := by decide +kernel
theorem dX9_add_18 : decode cX9_add 18 = .ok (.iconst 0, 1) := by decide +kernel
theorem dX9_add_19 : decode cX9_add 19 = .ok (.bipush 19, 2) := by decide +kernel
theorem dX9_add_21 : decode cX9_add 21 = .ok (.invokestatic 22, 3) := by decide +kernel
theorem dX9_add_24 : decode cX9_add 24 = .ok (.aload_n 0, 1) := by decide +kernel
theorem dX9_add_25 : decode cX9_add 25 = .ok (.getfield 15, 3) := by decide +kernel
theorem dX9_add_28 : decode cX9_add 28 = .ok (.iconst 1, 1) := by decide +kernel
theorem dX9_add_29 : decode cX9_add 29 = .ok (.aload_n 0, 1) := by decide +kernel
theorem dX9_add_30 : decode cX9_add 30 = .ok (.getfield 15, 3) := by decide +kernel
theorem dX9_add_33 : decode cX9_add 33 = .ok (.iconst 0, 1) := by decide +kernel
theorem dX9_add_34 : decode cX9_add 34 = .ok (.bipush 19, 2) := by decide +kernel
theorem dX9_add_36 : decode cX9_add 36 = .ok (.invokestatic 22, 3) := by decide +kernel
theorem dX9_add_39 : decode cX9_add 39 = .ok (.aload_n 0, 1) := by decide +kernel
theorem dX9_add_40 : decode cX9_add 40 = .ok (.bipush 19, 2) := by decide +kernel
theorem dX9_add_42 : decode cX9_add 42 = .ok (.putfield 18, 3) := by decide +kernel
theorem dX9_add_45 : decode cX9_add 45 = .ok (.aload_n 0, 1) := by decide +kernel
theorem dX9_add_46 : decode cX9_add 46 = .ok (.getfield 9, 3) := by decide +kernel
theorem dX9_add_49 : decode cX9_add 49 = .ok (.aload_n 0, 1) := by decide +kernel
theorem dX9_add_50 : decode cX9_add 50 = .ok (.getfield 18, 3) := by decide +kernel
theorem dX9_add_53 : decode cX9_add 53 = .ok (.iload_n 1, 1) := by decide +kernel
theorem dX9_add_54 : decode cX9_add 54 = .ok (.iastore, 1) := by decide +kernel
theorem dX9_add_55 : decode cX9_add 55 = .ok (.aload_n 0, 1) := by decide +kernel
theorem dX9_add_56 : decode cX9_add 56 = .ok (.getfield 15, 3) := by decide +kernel
theorem dX9_add_59 : decode cX9_add 59 = .ok (.aload_n 0, 1) := by decide +kernel
theorem dX9_add_60 : decode cX9_add 60 = .ok (.getfield 18, 3) := by decide +kernel
theorem dX9_add_63 : decode cX9_add 63 = .ok (.iload_n 2, 1) := by decide +kernel
theorem dX9_add_64 : decode cX9_add 64 = .ok (.iastore, 1) := by decide +kernel
theorem dX9_add_65 : decode cX9_add 65 = .ok (.aload_n 0, 1) := by decide +kernel
theorem dX9_add_66 : decode cX9_add 66 = .ok (.dup, 1) := by decide +kernel
theorem dX9_add_67 : decode cX9_add 67 = .ok (.getfield 18, 3) := by decide +kernel
theorem dX9_add_70 : decode cX9_add 70 = .ok (.iconst 1, 1) := by decide +kernel
theorem dX9_add_71 : decode cX9_add 71 = .ok (.iadd, 1) := by decide +kernel
theorem dX9_add_72 : decode cX9_add 72 = .ok (.putfield 18, 3) := by decide +kernel
theorem dX9_add_75 : decode cX9_add 75 = .ok (.return_, 1) := by decide +kernel
theorem dX10_init_0 : decode cX10_init 0 = .ok (.aload_n 0, 1) := by decide +kernel
theorem dX10_init_1 : decode cX10_init 1 = .ok (.invokespecial 3, 3) := by decide +kernel
theorem dX10_init_4 : decode cX10_init 4 = .ok (.aload_n 0, 1) := by decide +kernel
theorem dX10_init_5 : decode cX10_init 5 = .ok (.iconst 4, 1) := by decide +kernel
theorem dX10_init_6 : decode cX10_init 6 = .ok (.newarray .int, 2) := by decide +kernel
theorem dX10_init_8 : decode cX10_init 8 = .ok (.putfield 9, 3) := by decide +kernel
theorem dX10_init_11 : decode cX10_init 11 = .ok (.aload_n 0, 1) := by decide +kernel
theorem dX10_init_12 : decode cX10_init 12 = .ok (.iconst 4, 1) := by decide +kernel
theorem dX10_init_13 : decode cX10_init 13 = .ok (.newarray .int, 2) := by decide +kernel
theorem dX10_init_15 : decode cX10_init 15 = .ok (.putfield 15, 3) := by decide +kernel
theorem dX10_init_18 : decode cX10_init 18 = .ok (.aload_n 0, 1) := by decide +kernel
theorem dX10_init_19 : decode cX10_init 19 = .ok (.bipush 28, 2) := by decide +kernel
theorem dX10_init_21 : decode cX10_init 21 = .ok (.newarray .int, 2) := by decide +kernel
theorem dX10_init_23 : decode cX10_init 23 = .ok (.putfield 18, 3) := by decide +kernel
theorem dX10_init_26 : decode cX10_init 26 = .ok (.aload_n 0, 1) := by decide +kernel
theorem dX10_init_27 : decode cX10_init 27 = .ok (.bipush 28, 2) := by decide +kernel
theorem dX10_init_29 : decode cX10_init 29 = .ok (.newarray .int, 2) := by decide +kernel
theorem dX10_init_31 : decode cX10_init 31 = .ok (.putfield 21, 3) := by decide +kernel
theorem dX10_init_34 : decode cX10_init 34 = .ok (.aload_n 0, 1) := by decide +kernel
theorem dX10_init_35 : decode cX10_init 35 = .ok (.bipush 28, 2) := by decide +kernel
theorem dX10_init_37 : decode cX10_init 37 = .ok (.newarray .int, 2) := by decide +kernel
theorem dX10_init_39 : decode cX10_init 39 = .ok (.putfield 24, 3) := by decide +kernel
theorem dX10_init_42 : decode cX10_init 42 = .ok (.aload_n 0, 1) := by decide +kernel
theorem dX10_init_43 : decode cX10_init 43 = .ok (.bipush 28, 2) := by decide +kernel
theorem dX10_init_45 : decode cX10_init 45 = .ok (.newarray .int, 2) := by decide +kernel
theorem dX10_init_47 : decode cX10_init 47 = .ok (.putfield 27, 3) := by decide +kernel
theorem dX10_init_50 : decode cX10_init 50 = .ok (.return_, 1) := by decide +kernel
theorem dX10_forget_0 : decode cX10_forget 0 = .ok (.aload_n 0, 1) := by decide +kernel
theorem dX10_forget_1 : decode cX10_forget 1 = .ok (.iconst 0, 1) := by decide +kernel
theorem dX10_forget_2 : decode cX10_forget 2 = .ok (.putfield 30, 3) := by decide +kernel
theorem dX10_forget_5 : decode cX10_forget 5 = .ok (.aload_n 0, 1) := by decide +kernel
theorem dX10_forget_6 : decode cX10_forget 6 = .ok (.iconst 0, 1) := by decide +kernel
theorem dX10_forget_7 : decode cX10_forget 7 = .ok (.putfield 34, 3) := by decide +kernel
theorem dX10_forget_10 : decode cX10_forget 10 = .ok (.return_, 1) := by decide +kernel
theorem dX10_beginSet_0 : decode cX10_beginSet 0 = .ok (.aload_n 0, 1) := by decide +kernel
theorem dX10_beginSet_1 : decode cX10_beginSet 1 = .ok (.getfield 30, 3) := by decide +kernel
theorem dX10_beginSet_4 : decode cX10_beginSet 4 = .ok (.iconst 4, 1) := by decide +kernel
theorem dX10_beginSet_5 : decode cX10_beginSet 5 = .ok (.if_icmp .ge 36, 3) := by decide +kernel
theorem dX10_beginSet_8 : decode cX10_beginSet 8 = .ok (.aload_n 0, 1) := by decide +kernel
theorem dX10_beginSet_9 : decode cX10_beginSet 9 = .ok (.getfield 9, 3) := by decide +kernel
theorem dX10_beginSet_12 : decode cX10_beginSet 12 = .ok (.aload_n 0, 1) := by decide +kernel
theorem dX10_beginSet_13 : decode cX10_beginSet 13 = .ok (.getfield 30, 3) := by decide +kernel
theorem dX10_beginSet_16 : decode cX10_beginSet 16 = .ok (.aload_n 0, 1) := by decide +kernel
theorem dX10_beginSet_17 : decode cX10_beginSet 17 = .ok (.getfield 34, 3) := by decide +kernel
theorem dX10_beginSet_20 : decode cX10_beginSet 20 = .ok (.iastore, 1) := by decide +kernel
theorem dX10_beginSet_21 : decode cX10_beginSet 21 = .ok (.aload_n 0, 1) := by decide +kernel
theorem dX10_beginSet_22 : decode cX10_beginSet 22 = .ok (.getfield 15, 3) := by decide +kernel
theorem dX10_beginSet_25 : decode cX10_beginSet 25 = .ok (.aload_n 0, 1) := by decide +kernel
theorem dX10_beginSet_26 : decode cX10_beginSet 26 = .ok (.getfield 30, 3) := by decide +kernel
theorem dX10_beginSet_29 : decode cX10_beginSet 29 = .ok (.iconst 0, 1) := by decide +kernel
theorem dX10_beginSet_30 : decode cX10_beginSet 30 = .ok (.iastore, 1) := by decide +kernel
theorem dX10_beginSet_31 : decode cX10_beginSet 31 = .ok (.aload_n 0, 1) := by decide +kernel
theorem dX10_beginSet_32 : decode cX10_beginSet 32 = .ok (.dup, 1) := by decide +kernel
theorem dX10_beginSet_33 : decode cX10_beginSet 33 = .ok (.getfield 30, 3) := by decide +kernel
theorem dX10_beginSet_36 : decode cX10_beginSet 36 = .ok (.iconst 1, 1) := by decide +kernel
theorem dX10_beginSet_37 : decode cX10_beginSet 37 = .ok (.iadd, 1) := by decide +kernel
theorem dX10_beginSet_38 : decode cX10_beginSet 38 = .ok (.putfield 30, 3) := by decide +kernel
theorem dX10_beginSet_41 : decode cX10_beginSet 41 = .ok (.return_, 1) := by decide +kernel
theorem dX10_add_0 : decode cX10_add 0 = .ok (.aload_n 0, 1) := by decide +kernel
theorem dX10_add_1 : decode cX10_add 1 = .ok (.getfield 34, 3) := by decide +kernel
theorem dX10_add_4 : decode cX10_add 4 = .ok (.bipush 28, 2) := by decide +kernel
theorem dX10_add_6 : decode cX10_add 6 = .ok (.if_icmp .ge 11, 3) := by decide +kernel
theorem dX10_add_9 : decode cX10_add 9 = .ok (.aload_n 0, 1) := by decide +kernel
theorem dX10_add_10 : decode cX10_add 10 = .ok (.getfield 30, 3) := by decide +kernel
theorem dX10_add_13 : decode cX10_add 13 = .ok (.iconst 1, 1) := by decide +kernel
theorem dX10_add_14 : decode cX10_add 14 = .ok (.if_icmp .ge 4, 3) := by decide +kernel
theorem dX10_add_17 : decode cX10_add 17 = .ok (.return_, 1) := by decide +kernel
theorem dX10_add_18 : decode cX10_add 18 = .ok (.aload_n 0, 1) := by decide +kernel
theorem dX10_add_19 : decode cX10_add 19 = .ok (.getfield 15, 3) := by decide +kernel
theorem dX10_add_22 : decode cX10_add 22 = .ok (.aload_n 0, 1) := by decide +kernel
theorem dX10_add_23 : decode cX10_add 23 = .ok (.getfield 30, 3) := by decide +kernel
theorem dX10_add_26 : decode cX10_add 26 = .ok (.iconst 1, 1) := by decide +kernel
theorem dX10_add_27 : decode cX10_add 27 = .ok (.isub, 1) := by decide +kernel
theorem dX10_add_28 : decode cX10_add 28 = .ok (.dup2, 1) := by decide +kernel
theorem dX10_add_29 : decode cX10_add 29 = .ok (.iaload, 1) := by decide +kernel
theorem dX10_add_30 : decode cX10_add 30 = .ok (.iconst 1, 1) := by decide +kernel
theorem dX10_add_31 : decode cX10_add 31 = .ok (.iadd, 1) := by decide +kernel
theorem dX10_add_32 : decode cX10_add 32 = .ok (.iastore, 1) := by decide +kernel
theorem dX10_add_33 : decode cX10_add 33 = .ok (.aload_n 0, 1) := by decide +kernel
theorem dX10_add_34 : decode cX10_add 34 = .ok (.getfield 18, 3) := by decide +kernel
theorem dX10_add_37 : decode cX10_add 37 = .ok (.aload_n 0, 1) := by decide +kernel
theorem dX10_add_38 : decode cX10_add 38 = .ok (.getfield 34, 3) := by decide +kernel
theorem dX10_add_41 : decode cX10_add 41 = .ok (.iload_n 1, 1) := by decide +kernel
theorem dX10_add_42 : decode cX10_add 42 = .ok (.iastore, 1) := by decide +kernel
theorem dX10_add_43 : decode cX10_add 43 = .ok (.aload_n 0, 1) := by decide +kernel
theorem dX10_add_44 : decode cX10_add 44 = .ok (.getfield 21, 3) := by decide +kernel
theorem dX10_add_47 : decode cX10_add 47 = .ok (.aload_n 0, 1) := by decide +kernel
theorem dX10_add_48 : decode cX10_add 48 = .ok (.getfield 34, 3) := by decide +kernel
theorem dX10_add_51 : decode cX10_add 51 = .ok (.iload_n 2, 1) := by decide +kernel
theorem dX10_add_52 : decode cX10_add 52 = .ok (.iastore, 1) := by decide +kernel
theorem dX10_add_53 : decode cX10_add 53 = .ok (.aload_n 0, 1) := by decide +kernel
theorem dX10_add_54 : decode cX10_add 54 = .ok (.getfield 24, 3) := by decide +kernel
theorem dX10_add_57 : decode cX10_add 57 = .ok (.aload_n 0, 1) := by decide +kernel
theorem dX10_add_58 : decode cX10_add 58 = .ok (.getfield 34, 3) := by decide +kernel
theorem dX10_add_61 : decode cX10_add 61 = .ok (.aload_n 0, 1) := by decide +kernel
theorem dX10_add_62 : decode cX10_add 62 = .ok (.getfield 30, 3) := by decide +kernel
theorem dX10_add_65 : decode cX10_add 65 = .ok (.iconst 1, 1) := by decide +kernel
theorem dX10_add_66 : decode cX10_add 66 = .ok (.isub, 1) := by decide +kernel
theorem dX10_add_67 : decode cX10_add 67 = .ok (.iastore, 1) := by decide +kernel
theorem dX10_add_68 : decode cX10_add 68 = .ok (.aload_n 0, 1) := by decide +kernel
theorem dX10_add_69 : decode cX10_add 69 = .ok (.getfield 27, 3) := by decide +kernel
theorem dX10_add_72 : decode cX10_add 72 = .ok (.aload_n 0, 1) := by decide +kernel
theorem dX10_add_73 : decode cX10_add 73 = .ok (.getfield 34, 3) := by decide +kernel
theorem dX10_add_76 : decode cX10_add 76 = .ok (.aload_n 0, 1) := by decide +kernel
theorem dX10_add_77 : decode cX10_add 77 = .ok (.getfield 15, 3) := by decide +kernel
theorem dX10_add_80 : decode cX10_add 80 = .ok (.aload_n 0, 1) := by decide +kernel
theorem dX10_add_81 : decode cX10_add 81 = .ok (.getfield 30, 3) := by decide +kernel
theorem dX10_add_84 : decode cX10_add 84 = .ok (.iconst 1, 1) := by decide +kernel
theorem dX10_add_85 : decode cX10_add 85 = .ok (.isub, 1) := by decide +kernel
theorem dX10_add_86 : decode cX10_add 86 = .ok (.iaload, 1) := by decide +kernel
theorem dX10_add_87 : decode cX10_add 87 = .ok (.iastore, 1) := by decide +kernel
theorem dX10_add_88 : decode cX10_add 88 = .ok (.aload_n 0, 1) := by decide +kernel
theorem dX10_add_89 : decode cX10_add 89 = .ok (.dup, 1) := by decide +kernel
theorem dX10_add_90 : decode cX10_add 90 = .ok (.getfield 34, 3) := by decide +kernel
theorem dX10_add_93 : decode cX10_add 93 = .ok (.iconst 1, 1) := by decide +kernel
theorem dX10_add_94 : decode cX10_add 94 = .ok (.iadd, 1) := by decide +kernel
theorem dX10_add_95 : decode cX10_add 95 = .ok (.putfield 34, 3) := by decide +kernel
theorem dX10_add_98 : decode cX10_add 98 = .ok (.return_, 1) := by decide +kernel
theorem dX10_lengthOf_0 : decode cX10_lengthOf 0 = .ok (.aload_n 0, 1) := by decide +kernel
theorem dX10_lengthOf_1 : decode cX10_lengthOf 1 = .ok (.getfield 15, 3) := by decide +kernel
theorem dX10_lengthOf_4 : decode cX10_lengthOf 4 = .ok (.iload_n 1, 1) := by decide +kernel
theorem dX10_lengthOf_5 : decode cX10_lengthOf 5 = .ok (.iaload, 1) := by decide +kernel
theorem dX10_lengthOf_6 : decode cX10_lengthOf 6 = .ok (.ireturn, 1) := by decide +kernel
theorem dX10_firstMinute_0 : decode cX10_firstMinute 0 = .ok (.aload_n 0, 1) := by decide +kernel
theorem dX10_firstMinute_1 : decode cX10_firstMinute 1 = .ok (.getfield 18, 3) := by decide +kernel
theorem dX10_firstMinute_4 : decode cX10_firstMinute 4 = .ok (.aload_n 0, 1) := by decide +kernel
theorem dX10_firstMinute_5 : decode cX10_firstMinute 5 = .ok (.getfield 9, 3) := by decide +kernel
theorem dX10_firstMinute_8 : decode cX10_firstMinute 8 = .ok (.iload_n 1, 1) := by decide +kernel
theorem dX10_firstMinute_9 : decode cX10_firstMinute 9 = .ok (.iaload, 1) := by decide +kernel
theorem dX10_firstMinute_10 : decode cX10_firstMinute 10 = .ok (.iaload, 1) := by decide +kernel
theorem dX10_firstMinute_11 : decode cX10_firstMinute 11 = .ok (.ireturn, 1) := by decide +kernel
set_option maxRecDepth 20000 in
theorem ggX10_lastMinute_X10_firstMinute : GoodIn wsX10_lastMinute wsX10_firstMinute := goodIn_r _ [6, 7, 8, 9, 10, 11, 12, 13, 14, 15, 16] (by decide +kernel) (by decide +kernel)
set_option maxRecDepth 20000 in
theorem gX10_lastMinute_X10_firstMinute : GoodIn wsX10_lastMinute (wsV RX10 37 RX10 yX10_firstMinute wsX10_firstMinute) := goodIn_app (goodIn_of _ (by decide +kernel)) ggX10_lastMinute_X10_firstMinute
theorem dX10_lastMinute_0 : decode cX10_lastMinute 0 = .ok (.aload_n 0, 1) := by decide +kernel
theorem dX10_lastMinute_1 : decode cX10_lastMinute 1 = .ok (.iload_n 1, 1) := by decide +kernel
theorem dX10_lastMinute_2 : decode cX10_lastMinute 2 = .ok (.invokevirtual 37, 3) := by decide +kernel
theorem dX10_lastMinute_5 : decode cX10_lastMinute 5 = .ok (.aload_n 0, 1) := by decide +kernel
theorem dX10_lastMinute_6 : decode cX10_lastMinute 6 = .ok (.getfield 15, 3) := by decide +kernel
theorem dX10_lastMinute_9 : decode cX10_lastMinute 9 = .ok (.iload_n 1, 1) := by decide +kernel
theorem dX10_lastMinute_10 : decode cX10_lastMinute 10 = .ok (.iaload, 1) := by decide +kernel
theorem dX10_lastMinute_11 : decode cX10_lastMinute 11 = .ok (.iadd, 1) := by decide +kernel
theorem dX10_lastMinute_12 : decode cX10_lastMinute 12 = .ok (.iconst 1, 1) := by decide +kernel
theorem dX10_lastMinute_13 : decode cX10_lastMinute 13 = .ok (.isub, 1) := by decide +kernel
theorem dX10_lastMinute_14 : decode cX10_lastMinute 14 = .ok (.ireturn, 1) := by decide +kernel
theorem dX10_firstFrom_0 : decode cX10_firstFrom 0 = .ok (.iconst 0, 1) := by decide +kernel
theorem dX10_firstFrom_1 : decode cX10_firstFrom 1 = .ok (.istore_n 2, 1) := by decide +kernel
theorem dX10_firstFrom_2 : decode cX10_firstFrom 2 = .ok (.iload_n 2, 1) := by decide +kernel
theorem dX10_firstFrom_3 : decode cX10_firstFrom 3 = .ok (.aload_n 0, 1) := by decide +kernel
theorem dX10_firstFrom_4 : decode cX10_firstFrom 4 = .ok (.getfield 34, 3) := by decide +kernel
theorem dX10_firstFrom_7 : decode cX10_firstFrom 7 = .ok (.if_icmp .ge 21, 3) := by decide +kernel
theorem dX10_firstFrom_10 : decode cX10_firstFrom 10 = .ok (.aload_n 0, 1) := by decide +kernel
theorem dX10_firstFrom_11 : decode cX10_firstFrom 11 = .ok (.getfield 18, 3) := by decide +kernel
theorem dX10_firstFrom_14 : decode cX10_firstFrom 14 = .ok (.iload_n 2, 1) := by decide +kernel
theorem dX10_firstFrom_15 : decode cX10_firstFrom 15 = .ok (.iaload, 1) := by decide +kernel
theorem dX10_firstFrom_16 : decode cX10_firstFrom 16 = .ok (.iload_n 1, 1) := by decide +kernel
theorem dX10_firstFrom_17 : decode cX10_firstFrom 17 = .ok (.if_icmp .lt 5, 3) := by decide +kernel
theorem dX10_firstFrom_20 : decode cX10_firstFrom 20 = .ok (.iload_n 2, 1) := by decide +kernel
theorem dX10_firstFrom_21 : decode cX10_firstFrom 21 = .ok (.ireturn, 1) := by decide +kernel
theorem dX10_firstFrom_22 : decode cX10_firstFrom 22 = .ok (.iinc 2 1, 3) := by decide +kernel
theorem dX10_firstFrom_25 : decode cX10_firstFrom 25 = .ok (.goto (-23), 3) := by decide +kernel
theorem dX10_firstFrom_28 : decode cX10_firstFrom 28 = .ok (.aload_n 0, 1) := by decide +kernel
theorem dX10_firstFrom_29 : decode cX10_firstFrom 29 = .ok (.getfield 34, 3) := by decide +kernel
theorem dX10_firstFrom_32 : decode cX10_firstFrom 32 = .ok (.ireturn, 1) := by decide +kernel
set_option maxRecDepth 20000 in
theorem ggX10_setFrom_X10_firstMinute : GoodIn wsX10_setFrom wsX10_firstMinute := goodIn_r _ [6, 7, 8, 9, 10, 11, 12, 13, 14, 15, 16] (by decide +kernel) (by decide +kernel)
set_option maxRecDepth 20000 in
theorem gX10_setFrom_X10_firstMinute : GoodIn wsX10_setFrom (wsV RX10 37 RX10 yX10_firstMinute wsX10_firstMinute) := goodIn_app (goodIn_of _ (by decide +kernel)) ggX10_setFrom_X10_firstMinute
theorem dX10_setFrom_0 : decode cX10_setFrom 0 = .ok (.iconst 0, 1) := by decide +kernel
theorem dX10_setFrom_1 : decode cX10_setFrom 1 = .ok (.istore_n 2, 1) := by decide +kernel
theorem dX10_setFrom_2 : decode cX10_setFrom 2 = .ok (.iload_n 2, 1) := by decide +kernel
theorem dX10_setFrom_3 : decode cX10_setFrom 3 = .ok (.aload_n 0, 1) := by decide +kernel
theorem dX10_setFrom_4 : decode cX10_setFrom 4 = .ok (.getfield 30, 3) := by decide +kernel
theorem dX10_setFrom_7 : decode cX10_setFrom 7 = .ok (.if_icmp .ge 20, 3) := by decide +kernel
theorem dX10_setFrom_10 : decode cX10_setFrom 10 = .ok (.aload_n 0, 1) := by decide +kernel
theorem dX10_setFrom_11 : decode cX10_setFrom 11 = .ok (.iload_n 2, 1) := by decide +kernel
theorem dX10_setFrom_12 : decode cX10_setFrom 12 = .ok (.invokevirtual 37, 3) := by decide +kernel
theorem dX10_setFrom_15 : decode cX10_setFrom 15 = .ok (.iload_n 1, 1) := by decide +kernel
theorem dX10_setFrom_16 : decode cX10_setFrom 16 = .ok (.if_icmp .lt 5, 3) := by decide +kernel
theorem dX10_setFrom_19 : decode cX10_setFrom 19 = .ok (.iload_n 2, 1) := by decide +kernel
theorem dX10_setFrom_20 : decode cX10_setFrom 20 = .ok (.ireturn, 1) := by decide +kernel
theorem dX10_setFrom_21 : decode cX10_setFrom 21 = .ok (.iinc 2 1, 3) := by decide +kernel
theorem dX10_setFrom_24 : decode cX10_setFrom 24 = .ok (.goto (-22), 3) := by decide +kernel
theorem dX10_setFrom_27 : decode cX10_setFrom 27 = .ok (.iconst (-1), 1) := by decide +kernel
theorem dX10_setFrom_28 : decode cX10_setFrom 28 = .ok (.ireturn, 1) := by decide +kernel
theorem dX10_isLargest_0 : decode cX10_isLargest 0 = .ok (.aload_n 0, 1) := by decide +kernel
theorem dX10_isLargest_1 : decode cX10_isLargest 1 = .ok (.getfield 9, 3) := by decide +kernel
theorem dX10_isLargest_4 : decode cX10_isLargest 4 = .ok (.iload_n 1, 1) := by decide +kernel
theorem dX10_isLargest_5 : decode cX10_isLargest 5 = .ok (.iaload, 1) := by decide +kernel
theorem dX10_isLargest_6 : decode cX10_isLargest 6 = .ok (.iload_n 2, 1) := by decide +kernel
theorem dX10_isLargest_7 : decode cX10_isLargest 7 = .ok (.iadd, 1) := by decide +kernel
theorem dX10_isLargest_8 : decode cX10_isLargest 8 = .ok (.iconst 1, 1) := by decide +kernel
theorem dX10_isLargest_9 : decode cX10_isLargest 9 = .ok (.isub, 1) := by decide +kernel
theorem dX10_isLargest_10 : decode cX10_isLargest 10 = .ok (.istore_n 3, 1) := by decide +kernel
theorem dX10_isLargest_11 : decode cX10_isLargest 11 = .ok (.iconst 0, 1) := by decide +kernel
theorem dX10_isLargest_12 : decode cX10_isLargest 12 = .ok (.istore 4, 2) := by decide +kernel
theorem dX10_isLargest_14 : decode cX10_isLargest 14 = .ok (.iload 4, 2) := by decide +kernel
theorem dX10_isLargest_16 : decode cX10_isLargest 16 = .ok (.aload_n 0, 1) := by decide +kernel
theorem dX10_isLargest_17 : decode cX10_isLargest 17 = .ok (.getfield 15, 3) := by decide +kernel
theorem dX10_isLargest_20 : decode cX10_isLargest 20 = .ok (.iload_n 1, 1) := by decide +kernel
theorem dX10_isLargest_21 : decode cX10_isLargest 21 = .ok (.iaload, 1) := by decide +kernel
theorem dX10_isLargest_22 : decode cX10_isLargest 22 = .ok (.if_icmp .ge 34, 3) := by decide +kernel
theorem dX10_isLargest_25 : decode cX10_isLargest 25 = .ok (.aload_n 0, 1) := by decide +kernel
theorem dX10_isLargest_26 : decode cX10_isLargest 26 = .ok (.getfield 21, 3) := by decide +kernel
theorem dX10_isLargest_29 : decode cX10_isLargest 29 = .ok (.aload_n 0, 1) := by decide +kernel
theorem dX10_isLargest_30 : decode cX10_isLargest 30 = .ok (.getfield 9, 3) := by decide +kernel
theorem dX10_isLargest_33 : decode cX10_isLargest 33 = .ok (.iload_n 1, 1) := by decide +kernel
theorem dX10_isLargest_34 : decode cX10_isLargest 34 = .ok (.iaload, 1) := by decide +kernel
theorem dX10_isLargest_35 : decode cX10_isLargest 35 = .ok (.iload 4, 2) := by decide +kernel
theorem dX10_isLargest_37 : decode cX10_isLargest 37 = .ok (.iadd, 1) := by decide +kernel
theorem dX10_isLargest_38 : decode cX10_isLargest 38 = .ok (.iaload, 1) := by decide +kernel
theorem dX10_isLargest_39 : decode cX10_isLargest 39 = .ok (.aload_n 0, 1) := by decide +kernel
theorem dX10_isLargest_40 : decode cX10_isLargest 40 = .ok (.getfield 21, 3) := by decide +kernel
theorem dX10_isLargest_43 : decode cX10_isLargest 43 = .ok (.iload_n 3, 1) := by decide +kernel
theorem dX10_isLargest_44 : decode cX10_isLargest 44 = .ok (.iaload, 1) := by decide +kernel
theorem dX10_isLargest_45 : decode cX10_isLargest 45 = .ok (.if_icmp .le 5, 3) := by decide +kernel
theorem dX10_isLargest_48 : decode cX10_isLargest 48 = .ok (.iconst 0, 1) := by decide +kernel
theorem dX10_isLargest_49 : decode cX10_isLargest 49 = .ok (.ireturn, 1) := by decide +kernel
theorem dX10_isLargest_50 : decode cX10_isLargest 50 = .ok (.iinc 4 1, 3) := by decide +kernel
theorem dX10_isLargest_53 : decode cX10_isLargest 53 = .ok (.goto (-39), 3) := by decide +kernel
theorem dX10_isLargest_56 : decode cX10_isLargest 56 = .ok (.iconst 1, 1) := by decide +kernel
theorem dX10_isLargest_57 : decode cX10_isLargest 57 = .ok (.ireturn, 1) := by decide +kernel
set_option maxRecDepth 20000 in
theorem ggX11_init_X8_init : GoodIn wsX11_init wsX8_init := goodIn_r _ [40, 41, 2, 3, 42, 43, 44, 45, 46, 47, 48, 49, 50, 51, 52, 53, 54, 55, 56, 57, 58, 59, 60, 61, 62, 63, 64, 65, 66, 67, 68, 69, 70, 71, 72, 73, 74, 75, 76, 77, 78, 79, 80, 81, 283, 284, 285, 286, 287, 288, 289, 215, 216, 217, 218, 219, 220, 221, 222, 223, 224, 225, 226, 227, 228, 290, 291, 292, 293, 294, 295, 296, 297, 298, 299, 300] (by decide +kernel) (by decide +kernel)
set_option maxRecDepth 20000 in
theorem gX11_init_X8_init : GoodIn wsX11_init (wsX8_init) := ggX11_init_X8_init
set_option maxRecDepth 20000 in
theorem ggX11_init_X5_init : GoodIn wsX11_init wsX5_init := goodIn_r _ [84, 85, 2, 3, 86, 87, 88, 89, 90, 60, 91, 92, 93, 94, 95, 96, 97, 4, 98, 99, 100, 101, 102, 103, 104, 105, 106, 107, 108, 109, 110, 111, 112, 113, 114, 115, 116, 117, 118, 119, 120, 121, 122, 123, 124, 125, 126, 127, 128, 129, 130, 131, 132, 133, 134, 135, 136, 137, 138, 139, 140, 141, 142, 143, 144, 145, 229, 230, 231, 232, 233, 234, 235, 236, 237, 238, 239, 301, 302, 303, 304, 305, 306, 307] (by decide +kernel) (by decide +kernel)
set_option maxRecDepth 20000 in
theorem gX11_init_X5_init : GoodIn wsX11_init (wsX5_init) := ggX11_init_X5_init
set_option maxRecDepth 20000 in
theorem ggX11_init_X6_init : GoodIn wsX11_init wsX6_init := goodIn_r _ [148, 149, 2, 3, 150, 60, 151, 152, 153, 154, 155, 156, 157, 158, 159, 240, 241, 242, 243, 244, 245, 246, 247, 248] (by decide +kernel) (by decide +kernel)
set_option maxRecDepth 20000 in
theorem gX11_init_X6_init : GoodIn wsX11_init (wsX6_init) := ggX11_init_X6_init
set_option maxRecDepth 20000 in
theorem ggX11_init_X4_init : GoodIn wsX11_init wsX4_init := goodIn_r _ [162, 163, 2, 3, 60, 164, 165, 166, 167, 168, 169, 249, 250, 251, 252, 253, 254, 255, 256, 257, 258, 259] (by decide +kernel) (by decide +kernel)
set_option maxRecDepth 20000 in
theorem gX11_init_X4_init : GoodIn wsX11_init (wsX4_init) := ggX11_init_X4_init
set_option maxRecDepth 20000 in
theorem ggX11_init_X3_init : GoodIn wsX11_init wsX3_init := goodIn_r _ [172, 173, 2, 3, 174, 60, 175, 176, 177, 178, 179, 180, 260, 261, 262, 263, 264, 265, 266] (by decide +kernel) (by decide +kernel)
set_option maxRecDepth 20000 in
theorem gX11_init_X3_init : GoodIn wsX11_init (wsX3_init) := ggX11_init_X3_init
set_option maxRecDepth 20000 in
theorem ggX11_init_X9_init : GoodIn wsX11_init wsX9_init := goodIn_r _ [183, 184, 2, 3, 60, 185, 186, 267, 268, 269] (by decide +kernel) (by decide +kernel)
set_option maxRecDepth 20000 in
theorem gX11_init_X9_init : GoodIn wsX11_init (wsX9_init) := ggX11_init_X9_init
set_option maxRecDepth 20000 in
theorem ggX11_init_X0_init : GoodIn wsX11_init wsX0_init := goodIn_r _ [189, 190, 2, 3, 60, 191, 192, 193, 194, 195, 196, 197, 198, 179, 199, 200, 270, 271, 272, 273, 274, 275, 276, 277, 278, 279, 280, 281, 282] (by decide +kernel) (by decide +kernel)
set_option maxRecDepth 20000 in
theorem gX11_init_X0_init : GoodIn wsX11_init (wsX0_init) := ggX11_init_X0_init
theorem dX11_init_0 : decode cX11_init 0 = .ok (.aload_n 0, 1) := by decide +kernel
theorem dX11_init_1 : decode cX11_init 1 = .ok (.invokespecial 3, 3) := by decide +kernel
theorem dX11_init_4 : decode cX11_init 4 = .ok (.aload_n 0, 1) := by decide +kernel
theorem dX11_init_5 : decode cX11_init 5 = .ok (.sipush 700, 3) := by decide +kernel
theorem dX11_init_8 : decode cX11_init 8 = .ok (.newarray .byte, 2) := by decide +kernel
theorem dX11_init_10 : decode cX11_init 10 = .ok (.putfield 11, 3) := by decide +kernel
theorem dX11_init_13 : decode cX11_init 13 = .ok (.aload_n 0, 1) := by decide +kernel
theorem dX11_init_14 : decode cX11_init 14 = .ok (.new 15, 3) := by decide +kernel
theorem dX11_init_17 : decode cX11_init 17 = .ok (.dup, 1) := by decide +kernel
theorem dX11_init_18 : decode cX11_init 18 = .ok (.invokespecial 17, 3) := by decide +kernel
theorem dX11_init_21 : decode cX11_init 21 = .ok (.putfield 18, 3) := by decide +kernel
theorem dX11_init_24 : decode cX11_init 24 = .ok (.aload_n 0, 1) := by decide +kernel
theorem dX11_init_25 : decode cX11_init 25 = .ok (.new 15, 3) := by decide +kernel
theorem dX11_init_28 : decode cX11_init 28 = .ok (.dup, 1) := by decide +kernel
theorem dX11_init_29 : decode cX11_init 29 = .ok (.invokespecial 17, 3) := by decide +kernel
theorem dX11_init_32 : decode cX11_init 32 = .ok (.putfield 22, 3) := by decide +kernel
theorem dX11_init_35 : decode cX11_init 35 = .ok (.aload_n 0, 1) := by decide +kernel
theorem dX11_init_36 : decode cX11_init 36 = .ok (.new 25, 3) := by decide +kernel
theorem dX11_init_39 : decode cX11_init 39 = .ok (.dup, 1) := by decide +kernel
theorem dX11_init_40 : decode cX11_init 40 = .ok (.aload_n 0, 1) := by decide +kernel
theorem dX11_init_41 : decode cX11_init 41 = .ok (.getfield 22, 3) := by decide +kernel
theorem dX11_init_44 : decode cX11_init 44 = .ok (.invokespecial 27, 3) := by decide +kernel
theorem dX11_init_47 : decode cX11_init 47 = .ok (.putfield 30, 3) := by decide +kernel
theorem dX11_init_50 : decode cX11_init 50 = .ok (.aload_n 0, 1) := by decide +kernel
theorem dX11_init_51 : decode cX11_init 51 = .ok (.new 34, 3) := by decide +kernel
theorem dX11_init_54 : decode cX11_init 54 = .ok (.dup, 1) := by decide +kernel
theorem dX11_init_55 : decode cX11_init 55 = .ok (.aload_n 0, 1) := by decide +kernel
theorem dX11_init_56 : decode cX11_init 56 = .ok (.getfield 18, 3) := by decide +kernel
theorem dX11_init_59 : decode cX11_init 59 = .ok (.invokespecial 36, 3) := by decide +kernel
theorem dX11_init_62 : decode cX11_init 62 = .ok (.putfield 37, 3) := by decide +kernel
theorem dX11_init_65 : decode cX11_init 65 = .ok (.aload_n 0, 1) := by decide +kernel
theorem dX11_init_66 : decode cX11_init 66 = .ok (.new 34, 3) := by decide +kernel
theorem dX11_init_69 : decode cX11_init 69 = .ok (.dup, 1) := by decide +kernel
theorem dX11_init_70 : decode cX11_init 70 = .ok (.aload_n 0, 1) := by decide +kernel
theorem dX11_init_71 : decode cX11_init 71 = .ok (.getfield 18, 3) := by decide +kernel
theorem dX11_init_74 : decode cX11_init 74 = .ok (.invokespecial 36, 3) := by decide +kernel
theorem dX11_init_77 : decode cX11_init 77 = .ok (.putfield 41, 3) := by decide +kernel
theorem dX11_init_80 : decode cX11_init 80 = .ok (.aload_n 0, 1) := by decide +kernel
theorem dX11_init_81 : decode cX11_init 81 = .ok (.new 44, 3) := by decide +kernel
theorem dX11_init_84 : decode cX11_init 84 = .ok (.dup, 1) := by decide +kernel
theorem dX11_init_85 : decode cX11_init 85 = .ok (.invokespecial 46, 3) := by decide +kernel
theorem dX11_init_88 : decode cX11_init 88 = .ok (.putfield 47, 3) := by decide +kernel
theorem dX11_init_91 : decode cX11_init 91 = .ok (.aload_n 0, 1) := by decide +kernel
theorem dX11_init_92 : decode cX11_init 92 = .ok (.new 44, 3) := by decide +kernel
theorem dX11_init_95 : decode cX11_init 95 = .ok (.dup, 1) := by decide +kernel
theorem dX11_init_96 : decode cX11_init 96 = .ok (.invokespecial 46, 3) := by decide +kernel
theorem dX11_init_99 : decode cX11_init 99 = .ok (.putfield 51, 3) := by decide +kernel
theorem dX11_init_102 : decode cX11_init 102 = .ok (.aload_n 0, 1) := by decide +kernel
theorem dX11_init_103 : decode cX11_init 103 = .ok (.new 44, 3) := by decide +kernel
theorem dX11_init_106 : decode cX11_init 106 = .ok (.dup, 1) := by decide +kernel
theorem dX11_init_107 : decode cX11_init 107 = .ok (.invokespecial 46, 3) := by decide +kernel
theorem dX11_init_110 : decode cX11_init 110 = .ok (.putfield 54, 3) := by decide +kernel
theorem dX11_init_113 : decode cX11_init 113 = .ok (.aload_n 0, 1) := by decide +kernel
theorem dX11_init_114 : decode cX11_init 114 = .ok (.new 57, 3) := by decide +kernel
theorem dX11_init_117 : decode cX11_init 117 = .ok (.dup, 1) := by decide +kernel
theorem dX11_init_118 : decode cX11_init 118 = .ok (.invokespecial 59, 3) := by decide +kernel
theorem dX11_init_121 : decode cX11_init 121 = .ok (.putfield 60, 3) := by decide +kernel
theorem dX11_init_124 : decode cX11_init 124 = .ok (.aload_n 0, 1) := by decide +kernel
theorem dX11_init_125 : decode cX11_init 125 = .ok (.new 64, 3) := by decide +kernel
theorem dX11_init_128 : decode cX11_init 128 = .ok (.dup, 1) := by decide +kernel
theorem dX11_init_129 : decode cX11_init 129 = .ok (.invokespecial 66, 3) := by decide +kernel
theorem dX11_init_132 : decode cX11_init 132 = .ok (.putfield 67, 3) := by decide +kernel
theorem dX11_init_135 : decode cX11_init 135 = .ok (.aload_n 0, 1) := by decide +kernel
theorem dX11_init_136 : decode cX11_init 136 = .ok (.new 71, 3) := by decide +kernel
theorem dX11_init_139 : decode cX11_init 139 = .ok (.dup, 1) := by decide +kernel
theorem dX11_init_140 : decode cX11_init 140 = .ok (.invokespecial 73, 3) := by decide +kernel
theorem dX11_init_143 : decode cX11_init 143 = .ok (.putfield 74, 3) := by decide +kernel
theorem dX11_init_146 : decode cX11_init 146 = .ok (.return_, 1) := by decide +kernel
set_option maxRecDepth 20000 in
theorem ggX11_feed_X11_putOnTape : GoodIn wsX11_feed wsX11_putOnTape := goodIn_r _ [6, 1, 7, 8, 9, 10, 11, 12, 13, 14, 15, 16, 17, 18, 19, 20, 21] (by decide +kernel) (by decide +kernel)
set_option maxRecDepth 20000 in
theorem gX11_feed_X11_putOnTape : GoodIn wsX11_feed (wsV RX11 82 RX11 yX11_putOnTape wsX11_putOnTape) := goodIn_app (goodIn_of _ (by decide +kernel)) ggX11_feed_X11_putOnTape
theorem dX11_feed_0 : decode cX11_feed 0 = .ok (.aload_n 0, 1) := by decide +kernel
theorem dX11_feed_1 : decode cX11_feed 1 = .ok (.getfield 78, 3) := by decide +kernel
theorem dX11_feed_4 : decode cX11_feed 4 = .ok (.bipush 20, 2) := by decide +kernel
theorem dX11_feed_6 : decode cX11_feed 6 = .ok (.iadd, 1) := by decide +kernel
theorem dX11_feed_7 : decode cX11_feed 7 = .ok (.sipush 700, 3) := by decide +kernel
theorem dX11_feed_10 : decode cX11_feed 10 = .ok (.if_icmp .le 5, 3) := by decide +kernel
theorem dX11_feed_13 : decode cX11_feed 13 = .ok (.iconst (-1), 1) := by decide +kernel
theorem dX11_feed_14 : decode cX11_feed 14 = .ok (.ireturn, 1) := by decide +kernel
theorem dX11_feed_15 : decode cX11_feed 15 = .ok (.aload_n 0, 1) := by decide +kernel
theorem dX11_feed_16 : decode cX11_feed 16 = .ok (.iload_n 1, 1) := by decide +kernel
theorem dX11_feed_17 : decode cX11_feed 17 = .ok (.invokevirtual 82, 3) := by decide +kernel
theorem dX11_feed_20 : decode cX11_feed 20 = .ok (.aload_n 0, 1) := by decide +kernel
theorem dX11_feed_21 : decode cX11_feed 21 = .ok (.iload_n 2, 1) := by decide +kernel
theorem dX11_feed_22 : decode cX11_feed 22 = .ok (.invokevirtual 82, 3) := by decide +kernel
theorem dX11_feed_25 : decode cX11_feed 25 = .ok (.aload_n 0, 1) := by decide +kernel
theorem dX11_feed_26 : decode cX11_feed 26 = .ok (.iload_n 3, 1) := by decide +kernel
theorem dX11_feed_27 : decode cX11_feed 27 = .ok (.invokevirtual 82, 3) := by decide +kernel
theorem dX11_feed_30 : decode cX11_feed 30 = .ok (.aload_n 0, 1) := by decide +kernel
theorem dX11_feed_31 : decode cX11_feed 31 = .ok (.iload 4, 2) := by decide +kernel
theorem dX11_feed_33 : decode cX11_feed 33 = .ok (.invokevirtual 82, 3) := by decide +kernel
theorem dX11_feed_36 : decode cX11_feed 36 = .ok (.aload_n 0, 1) := by decide +kernel
theorem dX11_feed_37 : decode cX11_feed 37 = .ok (.iload 5, 2) := by decide +kernel
theorem dX11_feed_39 : decode cX11_feed 39 = .ok (.invokevirtual 82, 3) := by decide +kernel
theorem dX11_feed_42 : decode cX11_feed 42 = .ok (.aload_n 0, 1) := by decide +kernel
theorem dX11_feed_43 : decode cX11_feed 43 = .ok (.getfield 78, 3) := by decide +kernel
theorem dX11_feed_46 : decode cX11_feed 46 = .ok (.ireturn, 1) := by decide +kernel
set_option maxRecDepth 20000 in
theorem ggX11_text_X5_readAll : GoodIn wsX11_text wsX5_readAll := goodIn_r _ [11, 12, 13, 14, 15, 16, 17, 18, 19, 20, 21, 22, 23, 24, 25, 26, 27, 28, 29, 30, 31, 32, 33, 34, 35, 36, 37, 38, 39, 40, 41, 42, 43, 44, 45, 46, 47, 48, 49, 50, 51, 52, 53, 54, 55, 56, 57, 58, 59, 60, 61, 62, 63, 64, 65, 66, 67, 68, 69, 70, 71, 72, 73, 74, 75, 76, 77, 78, 79, 80, 81, 82, 83, 84, 85, 86, 87, 88, 89, 90, 91, 92, 93, 94, 95, 96, 97, 98, 99, 100, 101, 102, 103, 104, 105, 106, 107, 108, 109, 110, 111, 112, 113, 10, 114, 115, 116, 117, 118, 119, 120, 121, 122, 123, 124, 125, 126, 127, 128, 129, 130, 131, 132, 133, 134, 135, 136, 137, 138, 139, 140, 141, 142, 143, 144, 145, 146, 147, 148, 149, 150, 151, 152, 153, 154, 155, 156, 157, 158, 159, 160, 161, 162, 163, 164, 165, 166, 167, 168, 169, 170, 171, 172, 173, 174, 175, 176, 177, 178, 179, 180, 181, 182, 183, 184, 185, 186, 187, 188, 189, 190, 191, 192, 193, 194, 195, 196, 197, 198, 199, 200, 201, 202, 203, 204, 205, 206, 207, 208, 209, 210, 211, 212, 213, 214, 215, 216, 217, 218, 219, 220, 221, 222, 223, 224, 225, 226, 227, 228, 229, 230, 231, 232, 233, 234, 235, 236, 237, 238, 239, 240, 241, 242, 243, 244, 245, 246, 247, 248, 249, 250, 251, 252, 253, 254, 255, 256, 257, 258, 259, 260, 261, 262, 263, 264, 265, 266, 267, 268, 269, 270, 271, 272, 391, 392, 393, 394, 395, 396, 397, 398, 399, 400, 401, 402, 403, 404, 405, 406, 407, 408, 377, 378, 379, 380, 381, 382, 383, 384, 385, 386, 387, 388, 389, 390, 409, 410, 411, 412, 413, 414, 415, 416, 417, 418, 419, 420, 421, 422, 423, 424, 425, 426] (by decide +kernel) (by decide +kernel)
set_option maxRecDepth 20000 in
theorem gX11_text_X5_readAll : GoodIn wsX11_text (wsV RX11 86 RX5 yX5_readAll wsX5_readAll) := goodIn_app (goodIn_of _ (by decide +kernel)) ggX11_text_X5_readAll
set_option maxRecDepth 20000 in
theorem ggX11_text_X11_beginAnew : GoodIn wsX11_text wsX11_beginAnew := goodIn_r _ [277, 278, 5, 279, 280, 281, 282, 283, 284, 285, 286, 287, 288, 289, 290, 291, 292, 293, 294, 295, 296, 297, 298, 299, 300, 301, 302, 303, 304, 305, 306, 307, 308, 309, 310, 311, 312, 313, 314, 62, 315, 316, 317, 318, 319, 320, 321, 322, 323, 324, 325, 326, 327, 328, 329, 50, 330, 52, 243, 331, 332, 333, 334, 335, 336, 337, 338, 339, 340, 341, 342, 343, 344, 345, 346, 347, 348, 349, 350, 351, 352, 353, 354, 355, 356, 357, 358, 359, 360, 361, 362, 363, 364, 365, 366, 367, 368, 369, 370, 371, 372, 373, 374, 375, 376, 427, 428, 429, 430, 431, 432, 433, 434, 435, 436, 437, 438, 439, 440, 441, 442, 443, 444, 445, 377, 378, 379, 380, 381, 382, 383, 384, 385, 386, 387, 388, 389, 390, 409, 410, 411, 412, 413, 414, 415, 416, 417, 418, 419, 420, 421, 422, 423, 424, 425, 426, 446, 447, 448, 449, 450, 451, 452, 453, 454, 455, 456] (by decide +kernel) (by decide +kernel)
set_option maxRecDepth 20000 in
theorem gX11_text_X11_beginAnew : GoodIn wsX11_text (wsV RX11 90 RX11 yX11_beginAnew wsX11_beginAnew) := goodIn_app (goodIn_of _ (by decide +kernel)) ggX11_text_X11_beginAnew
theorem dX11_text_0 : decode cX11_text 0 = .ok (.iload_n 1, 1) := by decide +kernel
theorem dX11_text_1 : decode cX11_text 1 = .ok (.ifCond .lt 11, 3) := by decide +kernel
theorem dX11_text_4 : decode cX11_text 4 = .ok (.iload_n 1, 1) := by decide +kernel
theorem dX11_text_5 : decode cX11_text 5 = .ok (.aload_n 0, 1) := by decide +kernel
theorem dX11_text_6 : decode cX11_text 6 = .ok (.getfield 78, 3) := by decide +kernel
theorem dX11_text_9 : decode cX11_text 9 = .ok (.if_icmp .le 6, 3) := by decide +kernel
theorem dX11_text_12 : decode cX11_text 12 = .ok (.bipush (-2), 2) := by decide +kernel
theorem dX11_text_14 : decode cX11_text 14 = .ok (.ireturn, 1) := by decide +kernel
theorem dX11_text_15 : decode cX11_text 15 = .ok (.aload_n 0, 1) := by decide +kernel
theorem dX11_text_16 : decode cX11_text 16 = .ok (.iconst 0, 1) := by decide +kernel
theorem dX11_text_17 : decode cX11_text 17 = .ok (.putfield 78, 3) := by decide +kernel
theorem dX11_text_20 : decode cX11_text 20 = .ok (.aload_n 0, 1) := by decide +kernel
theorem dX11_text_21 : decode cX11_text 21 = .ok (.getfield 30, 3) := by decide +kernel
theorem dX11_text_24 : decode cX11_text 24 = .ok (.aload_n 0, 1) := by decide +kernel
theorem dX11_text_25 : decode cX11_text 25 = .ok (.getfield 11, 3) := by decide +kernel
theorem dX11_text_28 : decode cX11_text 28 = .ok (.iload_n 1, 1) := by decide +kernel
theorem dX11_text_29 : decode cX11_text 29 = .ok (.aload_n 0, 1) := by decide +kernel
theorem dX11_text_30 : decode cX11_text 30 = .ok (.getfield 22, 3) := by decide +kernel
theorem dX11_text_33 : decode cX11_text 33 = .ok (.invokevirtual 86, 3) := by decide +kernel
theorem dX11_text_36 : decode cX11_text 36 = .ok (.ifCond .ne 5, 3) := by decide +kernel
theorem dX11_text_39 : decode cX11_text 39 = .ok (.iconst (-1), 1) := by decide +kernel
theorem dX11_text_40 : decode cX11_text 40 = .ok (.ireturn, 1) := by decide +kernel
theorem dX11_text_41 : decode cX11_text 41 = .ok (.aload_n 0, 1) := by decide +kernel
theorem dX11_text_42 : decode cX11_text 42 = .ok (.getfield 18, 3) := by decide +kernel
theorem dX11_text_45 : decode cX11_text 45 = .ok (.astore_n 2, 1) := by decide +kernel
theorem dX11_text_46 : decode cX11_text 46 = .ok (.aload_n 0, 1) := by decide +kernel
theorem dX11_text_47 : decode cX11_text 47 = .ok (.aload_n 0, 1) := by decide +kernel
theorem dX11_text_48 : decode cX11_text 48 = .ok (.getfield 22, 3) := by decide +kernel
theorem dX11_text_51 : decode cX11_text 51 = .ok (.putfield 18, 3) := by decide +kernel
theorem dX11_text_54 : decode cX11_text 54 = .ok (.aload_n 0, 1) := by decide +kernel
theorem dX11_text_55 : decode cX11_text 55 = .ok (.aload_n 2, 1) := by decide +kernel
theorem dX11_text_56 : decode cX11_text 56 = .ok (.putfield 22, 3) := by decide +kernel
theorem dX11_text_59 : decode cX11_text 59 = .ok (.aload_n 0, 1) := by decide +kernel
theorem dX11_text_60 : decode cX11_text 60 = .ok (.invokevirtual 90, 3) := by decide +kernel
theorem dX11_text_63 : decode cX11_text 63 = .ok (.aload_n 0, 1) := by decide +kernel
theorem dX11_text_64 : decode cX11_text 64 = .ok (.getfield 18, 3) := by decide +kernel
theorem dX11_text_67 : decode cX11_text 67 = .ok (.getfield 93, 3) := by decide +kernel
theorem dX11_text_70 : decode cX11_text 70 = .ok (.ireturn, 1) := by decide +kernel
theorem dX11_fault_0 : decode cX11_fault 0 = .ok (.iload_n 1, 1) := by decide +kernel
theorem dX11_fault_1 : decode cX11_fault 1 = .ok (.ifCond .ne 11, 3) := by decide +kernel
theorem dX11_fault_4 : decode cX11_fault 4 = .ok (.aload_n 0, 1) := by decide +kernel
theorem dX11_fault_5 : decode cX11_fault 5 = .ok (.getfield 30, 3) := by decide +kernel
theorem dX11_fault_8 : decode cX11_fault 8 = .ok (.getfield 96, 3) := by decide +kernel
theorem dX11_fault_11 : decode cX11_fault 11 = .ok (.ireturn, 1) := by decide +kernel
theorem dX11_fault_12 : decode cX11_fault 12 = .ok (.iload_n 1, 1) := by decide +kernel
theorem dX11_fault_13 : decode cX11_fault 13 = .ok (.iconst 1, 1) := by decide +kernel
theorem dX11_fault_14 : decode cX11_fault 14 = .ok (.if_icmp .ne 13, 3) := by decide +kernel
theorem dX11_fault_17 : decode cX11_fault 17 = .ok (.aload_n 0, 1) := by decide +kernel
theorem dX11_fault_18 : decode cX11_fault 18 = .ok (.getfield 30, 3) := by decide +kernel
theorem dX11_fault_21 : decode cX11_fault 21 = .ok (.getfield 99, 3) := by decide +kernel
theorem dX11_fault_24 : decode cX11_fault 24 = .ok (.goto 4, 3) := by decide +kernel
theorem dX11_fault_27 : decode cX11_fault 27 = .ok (.iconst (-1), 1) := by decide +kernel
theorem dX11_fault_28 : decode cX11_fault 28 = .ok (.ireturn, 1) := by decide +kernel
theorem dX11_named_0 : decode cX11_named 0 = .ok (.iconst 0, 1) := by decide +kernel
theorem dX11_named_1 : decode cX11_named 1 = .ok (.istore_n 2, 1) := by decide +kernel
theorem dX11_named_2 : decode cX11_named 2 = .ok (.iload_n 2, 1) := by decide +kernel
theorem dX11_named_3 : decode cX11_named 3 = .ok (.aload_n 0, 1) := by decide +kernel
theorem dX11_named_4 : decode cX11_named 4 = .ok (.getfield 18, 3) := by decide +kernel
theorem dX11_named_7 : decode cX11_named 7 = .ok (.getfield 102, 3) := by decide +kernel
theorem dX11_named_10 : decode cX11_named 10 = .ok (.getfield 106, 3) := by decide +kernel
theorem dX11_named_13 : decode cX11_named 13 = .ok (.if_icmp .ge 27, 3) := by decide +kernel
theorem dX11_named_16 : decode cX11_named 16 = .ok (.aload_n 0, 1) := by decide +kernel
theorem dX11_named_17 : decode cX11_named 17 = .ok (.getfield 18, 3) := by decide +kernel
theorem dX11_named_20 : decode cX11_named 20 = .ok (.getfield 102, 3) := by decide +kernel
theorem dX11_named_23 : decode cX11_named 23 = .ok (.getfield 111, 3) := by decide +kernel
theorem dX11_named_26 : decode cX11_named 26 = .ok (.iload_n 2, 1) := by decide +kernel
theorem dX11_named_27 : decode cX11_named 27 = .ok (.iaload, 1) := by decide +kernel
theorem dX11_named_28 : decode cX11_named 28 = .ok (.iload_n 1, 1) := by decide +kernel
theorem dX11_named_29 : decode cX11_named 29 = .ok (.if_icmp .ne 5, 3) := by decide +kernel
theorem dX11_named_32 : decode cX11_named 32 = .ok (.iload_n 2, 1) := by decide +kernel
theorem dX11_named_33 : decode cX11_named 33 = .ok (.ireturn, 1) := by decide +kernel
theorem dX11_named_34 : decode cX11_named 34 = .ok (.iinc 2 1, 3) := by decide +kernel
theorem dX11_named_37 : decode cX11_named 37 = .ok (.goto (-35), 3) := by decide +kernel
theorem dX11_named_40 : decode cX11_named 40 = .ok (.iconst (-1), 1) := by decide +kernel
theorem dX11_named_41 : decode cX11_named 41 = .ok (.ireturn, 1) := by decide +kernel
set_option maxRecDepth 20000 in
theorem ggX11_look_X11_isSurfer : GoodIn wsX11_look wsX11_isSurfer := goodIn_r _ [18, 10, 11, 19, 80, 81, 82, 83, 84, 85, 86, 87, 88, 89, 90, 91, 92, 93, 105, 106, 107, 108, 109, 110, 111, 112, 113, 114, 115, 116, 117, 118, 119, 120, 121, 122, 123, 124, 125] (by decide +kernel) (by decide +kernel)
set_option maxRecDepth 20000 in
theorem gX11_look_X11_isSurfer : GoodIn wsX11_look (wsV RX11 115 RX11 yX11_isSurfer wsX11_isSurfer) := goodIn_app (goodIn_of _ (by decide +kernel)) ggX11_look_X11_isSurfer
set_option maxRecDepth 20000 in
theorem ggX11_look_X11_farNow : GoodIn wsX11_look wsX11_farNow := goodIn_r _ [23, 10, 5, 6, 24, 25, 26, 27, 28, 29, 30, 31, 32, 33, 34, 35, 36, 37, 38, 39, 40, 41, 42, 43, 44, 45, 46, 47, 48, 49, 50, 51, 52, 53, 54, 55, 56, 57, 58, 59, 60, 61, 62, 63, 64, 65, 66, 67, 68, 69, 70, 71, 72, 73, 74, 75, 76, 77, 78, 79, 80, 81, 82, 83, 84, 85, 86, 87, 88, 89, 90, 91, 92, 93, 94, 95, 96, 97, 98, 99, 100, 101, 102, 103, 104, 126, 127, 128, 129, 130, 131, 132, 133, 134, 105, 106, 107, 108, 109, 110, 111, 112, 113, 114, 115, 116, 117, 118, 135, 136, 137] (by decide +kernel) (by decide +kernel)
set_option maxRecDepth 20000 in
theorem gX11_look_X11_farNow : GoodIn wsX11_look (wsV RX11 140 RX11 yX11_farNow wsX11_farNow) := goodIn_app (goodIn_of _ (by decide +kernel)) ggX11_look_X11_farNow
theorem dX11_look_0 : decode cX11_look 0 = .ok (.aload_n 0, 1) := by decide +kernel
theorem dX11_look_1 : decode cX11_look 1 = .ok (.iload_n 1, 1) := by decide +kernel
theorem dX11_look_2 : decode cX11_look 2 = .ok (.invokevirtual 115, 3) := by decide +kernel
theorem dX11_look_5 : decode cX11_look 5 = .ok (.ifCond .ne 11, 3) := by decide +kernel
theorem dX11_look_8 : decode cX11_look 8 = .ok (.new 119, 3) := by decide +kernel
theorem dX11_look_11 : decode cX11_look 11 = .ok (.dup, 1) := by decide +kernel
theorem dX11_look_12 : decode cX11_look 12 = .ok (.invokespecial 121, 3) := by decide +kernel
theorem dX11_look_15 : decode cX11_look 15 = .ok (.athrow, 1) := by decide +kernel
theorem dX11_look_16 : decode cX11_look 16 = .ok (.iload_n 2, 1) := by decide +kernel
theorem dX11_look_17 : decode cX11_look 17 = .ok (.tableswitch 108 0 5 #[39, 49, 59, 69, 79, 102], 39) := by decide +kernel
theorem dX11_look_56 : decode cX11_look 56 = .ok (.aload_n 0, 1) := by decide +kernel
theorem dX11_look_57 : decode cX11_look 57 = .ok (.getfield 47, 3) := by decide +kernel
theorem dX11_look_60 : decode cX11_look 60 = .ok (.getfield 122, 3) := by decide +kernel
theorem dX11_look_63 : decode cX11_look 63 = .ok (.iload_n 1, 1) := by decide +kernel
theorem dX11_look_64 : decode cX11_look 64 = .ok (.iaload, 1) := by decide +kernel
theorem dX11_look_65 : decode cX11_look 65 = .ok (.ireturn, 1) := by decide +kernel
theorem dX11_look_66 : decode cX11_look 66 = .ok (.aload_n 0, 1) := by decide +kernel
theorem dX11_look_67 : decode cX11_look 67 = .ok (.getfield 47, 3) := by decide +kernel
theorem dX11_look_70 : decode cX11_look 70 = .ok (.getfield 125, 3) := by decide +kernel
theorem dX11_look_73 : decode cX11_look 73 = .ok (.iload_n 1, 1) := by decide +kernel
theorem dX11_look_74 : decode cX11_look 74 = .ok (.iaload, 1) := by decide +kernel
theorem dX11_look_75 : decode cX11_look 75 = .ok (.ireturn, 1) := by decide +kernel
theorem dX11_look_76 : decode cX11_look 76 = .ok (.aload_n 0, 1) := by decide +kernel
theorem dX11_look_77 : decode cX11_look 77 = .ok (.getfield 47, 3) := by decide +kernel
theorem dX11_look_80 : decode cX11_look 80 = .ok (.getfield 128, 3) := by decide +kernel
theorem dX11_look_83 : decode cX11_look 83 = .ok (.iload_n 1, 1) := by decide +kernel
theorem dX11_look_84 : decode cX11_look 84 = .ok (.iaload, 1) := by decide +kernel
theorem dX11_look_85 : decode cX11_look 85 = .ok (.ireturn, 1) := by decide +kernel
theorem dX11_look_86 : decode cX11_look 86 = .ok (.aload_n 0, 1) := by decide +kernel
theorem dX11_look_87 : decode cX11_look 87 = .ok (.getfield 47, 3) := by decide +kernel
theorem dX11_look_90 : decode cX11_look 90 = .ok (.getfield 131, 3) := by decide +kernel
theorem dX11_look_93 : decode cX11_look 93 = .ok (.iload_n 1, 1) := by decide +kernel
theorem dX11_look_94 : decode cX11_look 94 = .ok (.iaload, 1) := by decide +kernel
theorem dX11_look_95 : decode cX11_look 95 = .ok (.ireturn, 1) := by decide +kernel
theorem dX11_look_96 : decode cX11_look 96 = .ok (.aload_n 0, 1) := by decide +kernel
theorem dX11_look_97 : decode cX11_look 97 = .ok (.getfield 18, 3) := by decide +kernel
theorem dX11_look_100 : decode cX11_look 100 = .ok (.getfield 102, 3) := by decide +kernel
theorem dX11_look_103 : decode cX11_look 103 = .ok (.getfield 134, 3) := by decide +kernel
theorem dX11_look_106 : decode cX11_look 106 = .ok (.iload_n 1, 1) := by decide +kernel
theorem dX11_look_107 : decode cX11_look 107 = .ok (.iaload, 1) := by decide +kernel
theorem dX11_look_108 : decode cX11_look 108 = .ok (.aload_n 0, 1) := by decide +kernel
theorem dX11_look_109 : decode cX11_look 109 = .ok (.getfield 47, 3) := by decide +kernel
theorem dX11_look_112 : decode cX11_look 112 = .ok (.getfield 137, 3) := by decide +kernel
theorem dX11_look_115 : decode cX11_look 115 = .ok (.iload_n 1, 1) := by decide +kernel
theorem dX11_look_116 : decode cX11_look 116 = .ok (.iaload, 1) := by decide +kernel
theorem dX11_look_117 : decode cX11_look 117 = .ok (.isub, 1) := by decide +kernel
theorem dX11_look_118 : decode cX11_look 118 = .ok (.ireturn, 1) := by decide +kernel
theorem dX11_look_119 : decode cX11_look 119 = .ok (.aload_n 0, 1) := by decide +kernel
theorem dX11_look_120 : decode cX11_look 120 = .ok (.iload_n 1, 1) := by decide +kernel
theorem dX11_look_121 : decode cX11_look 121 = .ok (.invokevirtual 140, 3) := by decide +kernel
theorem dX11_look_124 : decode cX11_look 124 = .ok (.ireturn, 1) := by decide +kernel
theorem dX11_look_125 : decode cX11_look 125 = .ok (.new 144, 3) := by decide +kernel
theorem dX11_look_128 : decode cX11_look 128 = .ok (.dup, 1) := by decide +kernel
theorem dX11_look_129 : decode cX11_look 129 = .ok (.invokespecial 146, 3) := by decide +kernel
theorem dX11_look_132 : decode cX11_look 132 = .ok (.athrow, 1) := by decide +kernel
set_option maxRecDepth 20000 in
theorem ggX11_wave_X11_isWave : GoodIn wsX11_wave wsX11_isWave := goodIn_r _ [13, 1, 2, 14, 15, 16, 17, 18, 19, 20, 21, 22, 23, 24, 25, 26, 27, 28, 29, 30, 31, 32, 33, 34, 35, 36, 37, 38, 39, 40, 41, 42, 43, 44, 45, 46, 47, 48, 49, 50] (by decide +kernel) (by decide +kernel)
set_option maxRecDepth 20000 in
theorem gX11_wave_X11_isWave : GoodIn wsX11_wave (wsV RX11 147 RX11 yX11_isWave wsX11_isWave) := goodIn_app (goodIn_of _ (by decide +kernel)) ggX11_wave_X11_isWave
theorem dX11_wave_0 : decode cX11_wave 0 = .ok (.aload_n 0, 1) := by decide +kernel
theorem dX11_wave_1 : decode cX11_wave 1 = .ok (.iload_n 1, 1) := by decide +kernel
theorem dX11_wave_2 : decode cX11_wave 2 = .ok (.invokevirtual 147, 3) := by decide +kernel
theorem dX11_wave_5 : decode cX11_wave 5 = .ok (.ifCond .ne 6, 3) := by decide +kernel
theorem dX11_wave_8 : decode cX11_wave 8 = .ok (.bipush (-4), 2) := by decide +kernel
theorem dX11_wave_10 : decode cX11_wave 10 = .ok (.ireturn, 1) := by decide +kernel
theorem dX11_wave_11 : decode cX11_wave 11 = .ok (.iload_n 2, 1) := by decide +kernel
theorem dX11_wave_12 : decode cX11_wave 12 = .ok (.tableswitch 98 0 4 #[36, 49, 62, 75, 88], 36) := by decide +kernel
theorem dX11_wave_48 : decode cX11_wave 48 = .ok (.aload_n 0, 1) := by decide +kernel
theorem dX11_wave_49 : decode cX11_wave 49 = .ok (.getfield 18, 3) := by decide +kernel
theorem dX11_wave_52 : decode cX11_wave 52 = .ok (.getfield 150, 3) := by decide +kernel
theorem dX11_wave_55 : decode cX11_wave 55 = .ok (.getfield 154, 3) := by decide +kernel
theorem dX11_wave_58 : decode cX11_wave 58 = .ok (.iload_n 1, 1) := by decide +kernel
theorem dX11_wave_59 : decode cX11_wave 59 = .ok (.iaload, 1) := by decide +kernel
theorem dX11_wave_60 : decode cX11_wave 60 = .ok (.ireturn, 1) := by decide +kernel
theorem dX11_wave_61 : decode cX11_wave 61 = .ok (.aload_n 0, 1) := by decide +kernel
theorem dX11_wave_62 : decode cX11_wave 62 = .ok (.getfield 18, 3) := by decide +kernel
theorem dX11_wave_65 : decode cX11_wave 65 = .ok (.getfield 150, 3) := by decide +kernel
theorem dX11_wave_68 : decode cX11_wave 68 = .ok (.getfield 159, 3) := by decide +kernel
theorem dX11_wave_71 : decode cX11_wave 71 = .ok (.iload_n 1, 1) := by decide +kernel
theorem dX11_wave_72 : decode cX11_wave 72 = .ok (.iaload, 1) := by decide +kernel
theorem dX11_wave_73 : decode cX11_wave 73 = .ok (.ireturn, 1) := by decide +kernel
theorem dX11_wave_74 : decode cX11_wave 74 = .ok (.aload_n 0, 1) := by decide +kernel
theorem dX11_wave_75 : decode cX11_wave 75 = .ok (.getfield 18, 3) := by decide +kernel
theorem dX11_wave_78 : decode cX11_wave 78 = .ok (.getfield 150, 3) := by decide +kernel
theorem dX11_wave_81 : decode cX11_wave 81 = .ok (.getfield 161, 3) := by decide +kernel
theorem dX11_wave_84 : decode cX11_wave 84 = .ok (.iload_n 1, 1) := by decide +kernel
theorem dX11_wave_85 : decode cX11_wave 85 = .ok (.iaload, 1) := by decide +kernel
theorem dX11_wave_86 : decode cX11_wave 86 = .ok (.ireturn, 1) := by decide +kernel
theorem dX11_wave_87 : decode cX11_wave 87 = .ok (.aload_n 0, 1) := by decide +kernel
theorem dX11_wave_88 : decode cX11_wave 88 = .ok (.getfield 18, 3) := by decide +kernel
theorem dX11_wave_91 : decode cX11_wave 91 = .ok (.getfield 150, 3) := by decide +kernel
theorem dX11_wave_94 : decode cX11_wave 94 = .ok (.getfield 164, 3) := by decide +kernel
theorem dX11_wave_97 : decode cX11_wave 97 = .ok (.iload_n 1, 1) := by decide +kernel
theorem dX11_wave_98 : decode cX11_wave 98 = .ok (.iaload, 1) := by decide +kernel
theorem dX11_wave_99 : decode cX11_wave 99 = .ok (.ireturn, 1) := by decide +kernel
theorem dX11_wave_100 : decode cX11_wave 100 = .ok (.aload_n 0, 1) := by decide +kernel
theorem dX11_wave_101 : decode cX11_wave 101 = .ok (.getfield 47, 3) := by decide +kernel
theorem dX11_wave_104 : decode cX11_wave 104 = .ok (.getfield 167, 3) := by decide +kernel
theorem dX11_wave_107 : decode cX11_wave 107 = .ok (.iload_n 1, 1) := by decide +kernel
theorem dX11_wave_108 : decode cX11_wave 108 = .ok (.iaload, 1) := by decide +kernel
theorem dX11_wave_109 : decode cX11_wave 109 = .ok (.ireturn, 1) := by decide +kernel
theorem dX11_wave_110 : decode cX11_wave 110 = .ok (.bipush (-4), 2) := by decide +kernel
theorem dX11_wave_112 : decode cX11_wave 112 = .ok (.ireturn, 1) := by decide +kernel
set_option maxRecDepth 20000 in
theorem ggX11_peak_X6_peakXAt : GoodIn wsX11_peak wsX6_peakXAt := goodIn_r _ [9, 10, 11, 12, 13, 14, 15, 16, 17, 18, 19, 20, 21, 22, 23, 24, 25, 8, 26, 27, 28, 29, 30, 31, 32, 33, 34, 35, 36, 37, 38, 39, 40, 41, 42, 43, 44, 45, 46, 47, 48, 77, 78, 79, 80, 81, 82, 83, 84, 85, 63, 64, 65, 66, 67, 68, 69, 70, 71, 72, 73, 74, 75, 76, 86, 87, 88] (by decide +kernel) (by decide +kernel)
set_option maxRecDepth 20000 in
theorem gX11_peak_X6_peakXAt : GoodIn wsX11_peak (wsV RX11 176 RX6 yX6_peakXAt wsX6_peakXAt) := goodIn_app (goodIn_of _ (by decide +kernel)) ggX11_peak_X6_peakXAt
theorem dX11_peak_0 : decode cX11_peak 0 = .ok (.iload_n 1, 1) := by decide +kernel
theorem dX11_peak_1 : decode cX11_peak 1 = .ok (.ifCond .lt 10, 3) := by decide +kernel
theorem dX11_peak_4 : decode cX11_peak 4 = .ok (.iload_n 1, 1) := by decide +kernel
theorem dX11_peak_5 : decode cX11_peak 5 = .ok (.sipush 199, 3) := by decide +kernel
theorem dX11_peak_8 : decode cX11_peak 8 = .ok (.if_icmp .le 5, 3) := by decide +kernel
theorem dX11_peak_11 : decode cX11_peak 11 = .ok (.iconst (-1), 1) := by decide +kernel
theorem dX11_peak_12 : decode cX11_peak 12 = .ok (.ireturn, 1) := by decide +kernel
theorem dX11_peak_13 : decode cX11_peak 13 = .ok (.aload_n 0, 1) := by decide +kernel
theorem dX11_peak_14 : decode cX11_peak 14 = .ok (.getfield 18, 3) := by decide +kernel
theorem dX11_peak_17 : decode cX11_peak 17 = .ok (.getfield 170, 3) := by decide +kernel
theorem dX11_peak_20 : decode cX11_peak 20 = .ok (.aload_n 0, 1) := by decide +kernel
theorem dX11_peak_21 : decode cX11_peak 21 = .ok (.getfield 18, 3) := by decide +kernel
theorem dX11_peak_24 : decode cX11_peak 24 = .ok (.getfield 173, 3) := by decide +kernel
theorem dX11_peak_27 : decode cX11_peak 27 = .ok (.imul, 1) := by decide +kernel
theorem dX11_peak_28 : decode cX11_peak 28 = .ok (.aload_n 0, 1) := by decide +kernel
theorem dX11_peak_29 : decode cX11_peak 29 = .ok (.getfield 37, 3) := by decide +kernel
theorem dX11_peak_32 : decode cX11_peak 32 = .ok (.iload_n 1, 1) := by decide +kernel
theorem dX11_peak_33 : decode cX11_peak 33 = .ok (.invokevirtual 176, 3) := by decide +kernel
theorem dX11_peak_36 : decode cX11_peak 36 = .ok (.iadd, 1) := by decide +kernel
theorem dX11_peak_37 : decode cX11_peak 37 = .ok (.ireturn, 1) := by decide +kernel
set_option maxRecDepth 20000 in
theorem ggX11_odds_X11_isSurfer : GoodIn wsX11_odds wsX11_isSurfer := goodIn_r _ [6, 7, 8, 9, 98, 99, 100, 101, 102, 103, 104, 105, 106, 107, 108, 109, 110, 111, 112, 113, 114, 115, 116, 117, 118, 119, 120, 121, 122, 123, 124, 125, 126, 127, 128, 129, 130, 131, 132] (by decide +kernel) (by decide +kernel)
set_option maxRecDepth 20000 in
theorem gX11_odds_X11_isSurfer : GoodIn wsX11_odds (wsV RX11 115 RX11 yX11_isSurfer wsX11_isSurfer) := goodIn_app (goodIn_of _ (by decide +kernel)) ggX11_odds_X11_isSurfer
set_option maxRecDepth 20000 in
theorem ggX11_odds_X11_isWave : GoodIn wsX11_odds wsX11_isWave := goodIn_r _ [13, 7, 14, 15, 98, 99, 100, 101, 102, 103, 104, 105, 106, 107, 108, 109, 110, 111, 112, 113, 114, 115, 116, 117, 118, 119, 120, 121, 122, 123, 124, 125, 133, 134, 135, 136, 137, 138, 139, 140] (by decide +kernel) (by decide +kernel)
set_option maxRecDepth 20000 in
theorem gX11_odds_X11_isWave : GoodIn wsX11_odds (wsV RX11 147 RX11 yX11_isWave wsX11_isWave) := goodIn_app (goodIn_of _ (by decide +kernel)) ggX11_odds_X11_isWave
set_option maxRecDepth 20000 in
theorem ggX11_odds_X11_isCell : GoodIn wsX11_odds wsX11_isCell := goodIn_r _ [19, 7, 20, 21, 22, 23, 24, 25, 26, 98, 99, 100, 101, 102, 103, 104, 105, 106, 107, 108, 109, 110, 111, 112, 113, 114, 115, 116, 117, 118, 119, 120, 121, 122, 123, 124, 125] (by decide +kernel) (by decide +kernel)
set_option maxRecDepth 20000 in
theorem gX11_odds_X11_isCell : GoodIn wsX11_odds (wsV RX11 179 RX11 yX11_isCell wsX11_isCell) := goodIn_app (goodIn_of _ (by decide +kernel)) ggX11_odds_X11_isCell
set_option maxRecDepth 20000 in
theorem ggX11_odds_X6_oddsAt : GoodIn wsX11_odds wsX6_oddsAt := goodIn_r _ [31, 32, 33, 34, 35, 36, 37, 38, 39, 40, 41, 42, 43, 44, 45, 46, 47, 48, 49, 50, 30, 51, 52, 53, 54, 55, 56, 57, 58, 59, 60, 61, 62, 63, 64, 65, 23, 66, 25, 67, 68, 69, 70, 71, 72, 73, 74, 75, 76, 77, 78, 79, 80, 81, 82, 83, 84, 85, 86, 87, 88, 89, 90, 91, 92, 93, 94, 95, 96, 97, 141, 142, 143, 144, 145, 146, 147, 148, 149, 112, 113, 114, 115, 116, 117, 118, 119, 120, 121, 122, 123, 124, 125, 133, 134, 135, 136, 137, 138, 139, 140, 150, 151, 152] (by decide +kernel) (by decide +kernel)
set_option maxRecDepth 20000 in
theorem gX11_odds_X6_oddsAt : GoodIn wsX11_odds (wsV RX11 182 RX6 yX6_oddsAt wsX6_oddsAt) := goodIn_app (goodIn_of _ (by decide +kernel)) ggX11_odds_X6_oddsAt
theorem dX11_odds_0 : decode cX11_odds 0 = .ok (.aload_n 0, 1) := by decide +kernel
theorem dX11_odds_1 : decode cX11_odds 1 = .ok (.iload_n 1, 1) := by decide +kernel
theorem dX11_odds_2 : decode cX11_odds 2 = .ok (.invokevirtual 115, 3) := by decide +kernel
theorem dX11_odds_5 : decode cX11_odds 5 = .ok (.ifCond .eq 19, 3) := by decide +kernel
theorem dX11_odds_8 : decode cX11_odds 8 = .ok (.aload_n 0, 1) := by decide +kernel
theorem dX11_odds_9 : decode cX11_odds 9 = .ok (.iload_n 2, 1) := by decide +kernel
theorem dX11_odds_10 : decode cX11_odds 10 = .ok (.invokevirtual 147, 3) := by decide +kernel
theorem dX11_odds_13 : decode cX11_odds 13 = .ok (.ifCond .eq 11, 3) := by decide +kernel
theorem dX11_odds_16 : decode cX11_odds 16 = .ok (.aload_n 0, 1) := by decide +kernel
theorem dX11_odds_17 : decode cX11_odds 17 = .ok (.iload_n 3, 1) := by decide +kernel
theorem dX11_odds_18 : decode cX11_odds 18 = .ok (.invokevirtual 179, 3) := by decide +kernel
theorem dX11_odds_21 : decode cX11_odds 21 = .ok (.ifCond .ne 5, 3) := by decide +kernel
theorem dX11_odds_24 : decode cX11_odds 24 = .ok (.iconst (-1), 1) := by decide +kernel
theorem dX11_odds_25 : decode cX11_odds 25 = .ok (.ireturn, 1) := by decide +kernel
theorem dX11_odds_26 : decode cX11_odds 26 = .ok (.aload_n 0, 1) := by decide +kernel
theorem dX11_odds_27 : decode cX11_odds 27 = .ok (.getfield 37, 3) := by decide +kernel
theorem dX11_odds_30 : decode cX11_odds 30 = .ok (.iload_n 1, 1) := by decide +kernel
theorem dX11_odds_31 : decode cX11_odds 31 = .ok (.iload_n 2, 1) := by decide +kernel
theorem dX11_odds_32 : decode cX11_odds 32 = .ok (.iload_n 3, 1) := by decide +kernel
theorem dX11_odds_33 : decode cX11_odds 33 = .ok (.invokevirtual 182, 3) := by decide +kernel
theorem dX11_odds_36 : decode cX11_odds 36 = .ok (.ireturn, 1) := by decide +kernel
set_option maxRecDepth 20000 in
theorem ggX11_law_X6_driftValue : GoodIn wsX11_law wsX6_driftValue := goodIn_r _ [10, 11, 12, 13, 14, 15, 16, 17, 18, 19, 20, 21, 22, 23, 24, 25, 26, 27, 28, 29, 30, 31, 32, 33, 111, 112, 113, 114, 115, 116, 117, 118, 119, 120, 121, 122, 123, 124, 125, 126, 127, 128, 129, 130, 131, 132, 133, 134, 135, 136] (by decide +kernel) (by decide +kernel)
set_option maxRecDepth 20000 in
theorem gX11_law_X6_driftValue : GoodIn wsX11_law (wsV RX11 188 RX6 yX6_driftValue wsX6_driftValue) := goodIn_app (goodIn_of _ (by decide +kernel)) ggX11_law_X6_driftValue
set_option maxRecDepth 20000 in
theorem ggX11_law_X11_isSurfer : GoodIn wsX11_law wsX11_isSurfer := goodIn_r _ [38, 39, 40, 41, 86, 87, 88, 89, 90, 91, 92, 93, 94, 95, 96, 97, 98, 99, 120, 121, 122, 123, 124, 125, 126, 127, 128, 129, 130, 131, 132, 133, 137, 138, 139, 140, 141, 142, 143] (by decide +kernel) (by decide +kernel)
set_option maxRecDepth 20000 in
theorem gX11_law_X11_isSurfer : GoodIn wsX11_law (wsV RX11 115 RX11 yX11_isSurfer wsX11_isSurfer) := goodIn_app (goodIn_of _ (by decide +kernel)) ggX11_law_X11_isSurfer
set_option maxRecDepth 20000 in
theorem ggX11_law_X11_isWave : GoodIn wsX11_law wsX11_isWave := goodIn_r _ [45, 39, 46, 47, 86, 87, 88, 89, 90, 91, 92, 93, 94, 95, 96, 97, 98, 99, 120, 121, 122, 123, 124, 125, 126, 127, 128, 129, 130, 131, 132, 133, 144, 145, 146, 147, 148, 149, 150, 151] (by decide +kernel) (by decide +kernel)
set_option maxRecDepth 20000 in
theorem gX11_law_X11_isWave : GoodIn wsX11_law (wsV RX11 147 RX11 yX11_isWave wsX11_isWave) := goodIn_app (goodIn_of _ (by decide +kernel)) ggX11_law_X11_isWave
set_option maxRecDepth 20000 in
theorem ggX11_law_X6_catchValue : GoodIn wsX11_law wsX6_catchValue := goodIn_r _ [51, 12, 13, 11, 14, 52, 53, 54, 9, 55, 56, 57, 58, 59, 60, 61, 62, 63, 64, 65, 66, 67, 68, 69, 70, 71, 72, 73, 74, 75, 76, 77, 78, 79, 80, 81, 15, 16, 17, 18, 19, 20, 21, 22, 23, 24, 25, 26, 27, 28, 29, 30, 31, 32, 33, 111, 112, 113, 114, 115, 116, 117, 118, 119, 120, 121, 122, 123, 124, 125, 126, 127, 128, 129, 130, 131, 132, 133, 144, 145, 146, 147, 148, 149, 150, 151, 134, 135, 136] (by decide +kernel) (by decide +kernel)
set_option maxRecDepth 20000 in
theorem gX11_law_X6_catchValue : GoodIn wsX11_law (wsV RX11 194 RX6 yX6_catchValue wsX6_catchValue) := goodIn_app (goodIn_of _ (by decide +kernel)) ggX11_law_X6_catchValue
set_option maxRecDepth 20000 in
theorem ggX11_law_X6_awayValue : GoodIn wsX11_law wsX6_awayValue := goodIn_r _ [85, 12, 13, 11, 14, 58, 59, 60, 9, 61, 62, 63, 64, 65, 66, 15, 16, 17, 18, 19, 20, 21, 22, 23, 24, 25, 26, 27, 28, 29, 30, 31, 32, 33, 111, 112, 113, 114, 115, 116, 117, 118, 119, 120, 121, 122, 123, 124, 125, 126, 127, 128, 129, 130, 131, 132, 133, 144, 145, 146, 147, 148, 149, 150, 151, 134, 135, 136] (by decide +kernel) (by decide +kernel)
set_option maxRecDepth 20000 in
theorem gX11_law_X6_awayValue : GoodIn wsX11_law (wsV RX11 198 RX6 yX6_awayValue wsX6_awayValue) := goodIn_app (goodIn_of _ (by decide +kernel)) ggX11_law_X6_awayValue
theorem dX11_law_0 : decode cX11_law 0 = .ok (.iload_n 1, 1) := by decide +kernel
theorem dX11_law_1 : decode cX11_law 1 = .ok (.iconst 2, 1) := by decide +kernel
theorem dX11_law_2 : decode cX11_law 2 = .ok (.if_icmp .ne 18, 3) := by decide +kernel
theorem dX11_law_5 : decode cX11_law 5 = .ok (.aload_n 0, 1) := by decide +kernel
theorem dX11_law_6 : decode cX11_law 6 = .ok (.getfield 37, 3) := by decide +kernel
theorem dX11_law_9 : decode cX11_law 9 = .ok (.aload_n 0, 1) := by decide +kernel
theorem dX11_law_10 : decode cX11_law 10 = .ok (.getfield 47, 3) := by decide +kernel
theorem dX11_law_13 : decode cX11_law 13 = .ok (.getfield 186, 3) := by decide +kernel
theorem dX11_law_16 : decode cX11_law 16 = .ok (.invokevirtual 188, 3) := by decide +kernel
theorem dX11_law_19 : decode cX11_law 19 = .ok (.lreturn, 1) := by decide +kernel
theorem dX11_law_20 : decode cX11_law 20 = .ok (.aload_n 0, 1) := by decide +kernel
theorem dX11_law_21 : decode cX11_law 21 = .ok (.iload_n 2, 1) := by decide +kernel
theorem dX11_law_22 : decode cX11_law 22 = .ok (.invokevirtual 115, 3) := by decide +kernel
theorem dX11_law_25 : decode cX11_law 25 = .ok (.ifCond .eq 11, 3) := by decide +kernel
theorem dX11_law_28 : decode cX11_law 28 = .ok (.aload_n 0, 1) := by decide +kernel
theorem dX11_law_29 : decode cX11_law 29 = .ok (.iload_n 3, 1) := by decide +kernel
theorem dX11_law_30 : decode cX11_law 30 = .ok (.invokevirtual 147, 3) := by decide +kernel
theorem dX11_law_33 : decode cX11_law 33 = .ok (.ifCond .ne 7, 3) := by decide +kernel
theorem dX11_law_36 : decode cX11_law 36 = .ok (.ldc2_w 192, 3) := by decide +kernel
theorem dX11_law_39 : decode cX11_law 39 = .ok (.lreturn, 1) := by decide +kernel
theorem dX11_law_40 : decode cX11_law 40 = .ok (.iload_n 1, 1) := by decide +kernel
theorem dX11_law_41 : decode cX11_law 41 = .ok (.ifCond .ne 22, 3) := by decide +kernel
theorem dX11_law_44 : decode cX11_law 44 = .ok (.aload_n 0, 1) := by decide +kernel
theorem dX11_law_45 : decode cX11_law 45 = .ok (.getfield 37, 3) := by decide +kernel
theorem dX11_law_48 : decode cX11_law 48 = .ok (.iload_n 2, 1) := by decide +kernel
theorem dX11_law_49 : decode cX11_law 49 = .ok (.iload_n 3, 1) := by decide +kernel
theorem dX11_law_50 : decode cX11_law 50 = .ok (.aload_n 0, 1) := by decide +kernel
theorem dX11_law_51 : decode cX11_law 51 = .ok (.getfield 47, 3) := by decide +kernel
theorem dX11_law_54 : decode cX11_law 54 = .ok (.getfield 122, 3) := by decide +kernel
theorem dX11_law_57 : decode cX11_law 57 = .ok (.iload_n 2, 1) := by decide +kernel
theorem dX11_law_58 : decode cX11_law 58 = .ok (.iaload, 1) := by decide +kernel
theorem dX11_law_59 : decode cX11_law 59 = .ok (.invokevirtual 194, 3) := by decide +kernel
theorem dX11_law_62 : decode cX11_law 62 = .ok (.lreturn, 1) := by decide +kernel
theorem dX11_law_63 : decode cX11_law 63 = .ok (.iload_n 1, 1) := by decide +kernel
theorem dX11_law_64 : decode cX11_law 64 = .ok (.iconst 1, 1) := by decide +kernel
theorem dX11_law_65 : decode cX11_law 65 = .ok (.if_icmp .ne 15, 3) := by decide +kernel
theorem dX11_law_68 : decode cX11_law 68 = .ok (.aload_n 0, 1) := by decide +kernel
theorem dX11_law_69 : decode cX11_law 69 = .ok (.getfield 37, 3) := by decide +kernel
theorem dX11_law_72 : decode cX11_law 72 = .ok (.iload_n 2, 1) := by decide +kernel
theorem dX11_law_73 : decode cX11_law 73 = .ok (.iload_n 3, 1) := by decide +kernel
theorem dX11_law_74 : decode cX11_law 74 = .ok (.invokevirtual 198, 3) := by decide +kernel
theorem dX11_law_77 : decode cX11_law 77 = .ok (.goto 6, 3) := by decide +kernel
theorem dX11_law_80 : decode cX11_law 80 = .ok (.ldc2_w 192, 3) := by decide +kernel
theorem dX11_law_83 : decode cX11_law 83 = .ok (.lreturn, 1) := by decide +kernel
set_option maxRecDepth 20000 in
theorem ggX11_stroke_X11_isSurfer : GoodIn wsX11_stroke wsX11_isSurfer := goodIn_r _ [13, 3, 6, 14, 48, 49, 50, 51, 52, 53, 54, 55, 56, 57, 58, 59, 60, 61, 73, 74, 75, 76, 77, 78, 79, 80, 81, 82, 83, 84, 85, 86, 87, 88, 89, 90, 91, 92, 93] (by decide +kernel) (by decide +kernel)
set_option maxRecDepth 20000 in
theorem gX11_stroke_X11_isSurfer : GoodIn wsX11_stroke (wsV RX11 115 RX11 yX11_isSurfer wsX11_isSurfer) := goodIn_app (goodIn_of _ (by decide +kernel)) ggX11_stroke_X11_isSurfer
set_option maxRecDepth 20000 in
theorem ggX11_stroke_X8_cellBeside : GoodIn wsX11_stroke wsX8_cellBeside := goodIn_r _ [19, 20, 21, 22, 23, 24, 18, 25, 26, 27, 28, 29, 73, 74, 75, 76, 77, 78, 79, 80, 81, 82, 83, 84, 85, 86] (by decide +kernel) (by decide +kernel)
set_option maxRecDepth 20000 in
theorem gX11_stroke_X8_cellBeside : GoodIn wsX11_stroke (wsV RX11 202 RX8 yX8_cellBeside wsX8_cellBeside) := goodIn_app (goodIn_of _ (by decide +kernel)) ggX11_stroke_X8_cellBeside
set_option maxRecDepth 20000 in
theorem ggX11_stroke_X4_isIn : GoodIn wsX11_stroke wsX4_isIn := goodIn_r _ [34, 35, 62, 63, 64, 65, 66, 67, 68, 69, 70, 71, 72] (by decide +kernel) (by decide +kernel)
set_option maxRecDepth 20000 in
theorem gX11_stroke_X4_isIn : GoodIn wsX11_stroke (wsV RX11 206 RX4 yX4_isIn wsX4_isIn) := goodIn_app (goodIn_of _ (by decide +kernel)) ggX11_stroke_X4_isIn
set_option maxRecDepth 20000 in
theorem ggX11_stroke_X9_add : GoodIn wsX11_stroke wsX9_add := goodIn_r _ [40, 41, 42, 43, 44, 45, 46, 47, 94, 95, 96] (by decide +kernel) (by decide +kernel)
set_option maxRecDepth 20000 in
theorem gX11_stroke_X9_add : GoodIn wsX11_stroke (wsV RX11 210 RX9 yX9_add wsX9_add) := goodIn_app (goodIn_of _ (by decide +kernel)) ggX11_stroke_X9_add
theorem dX11_stroke_0 : decode cX11_stroke 0 = .ok (.aload_n 0, 1) := by decide +kernel
theorem dX11_stroke_1 : decode cX11_stroke 1 = .ok (.iload_n 1, 1) := by decide +kernel
theorem dX11_stroke_2 : decode cX11_stroke 2 = .ok (.invokevirtual 115, 3) := by decide +kernel
theorem dX11_stroke_5 : decode cX11_stroke 5 = .ok (.ifCond .eq 12, 3) := by decide +kernel
theorem dX11_stroke_8 : decode cX11_stroke 8 = .ok (.iload_n 2, 1) := by decide +kernel
theorem dX11_stroke_9 : decode cX11_stroke 9 = .ok (.ifCond .lt 8, 3) := by decide +kernel
theorem dX11_stroke_12 : decode cX11_stroke 12 = .ok (.iload_n 2, 1) := by decide +kernel
theorem dX11_stroke_13 : decode cX11_stroke 13 = .ok (.iconst 4, 1) := by decide +kernel
theorem dX11_stroke_14 : decode cX11_stroke 14 = .ok (.if_icmp .lt 5, 3) := by decide +kernel
theorem dX11_stroke_17 : decode cX11_stroke 17 = .ok (.iconst (-1), 1) := by decide +kernel
theorem dX11_stroke_18 : decode cX11_stroke 18 = .ok (.ireturn, 1) := by decide +kernel
theorem dX11_stroke_19 : decode cX11_stroke 19 = .ok (.aload_n 0, 1) := by decide +kernel
theorem dX11_stroke_20 : decode cX11_stroke 20 = .ok (.getfield 47, 3) := by decide +kernel
theorem dX11_stroke_23 : decode cX11_stroke 23 = .ok (.getfield 122, 3) := by decide +kernel
theorem dX11_stroke_26 : decode cX11_stroke 26 = .ok (.iload_n 1, 1) := by decide +kernel
theorem dX11_stroke_27 : decode cX11_stroke 27 = .ok (.iaload, 1) := by decide +kernel
theorem dX11_stroke_28 : decode cX11_stroke 28 = .ok (.istore_n 3, 1) := by decide +kernel
theorem dX11_stroke_29 : decode cX11_stroke 29 = .ok (.aload_n 0, 1) := by decide +kernel
theorem dX11_stroke_30 : decode cX11_stroke 30 = .ok (.getfield 18, 3) := by decide +kernel
theorem dX11_stroke_33 : decode cX11_stroke 33 = .ok (.iload_n 3, 1) := by decide +kernel
theorem dX11_stroke_34 : decode cX11_stroke 34 = .ok (.iload_n 2, 1) := by decide +kernel
theorem dX11_stroke_35 : decode cX11_stroke 35 = .ok (.invokevirtual 202, 3) := by decide +kernel
theorem dX11_stroke_38 : decode cX11_stroke 38 = .ok (.istore 4, 2) := by decide +kernel
theorem dX11_stroke_40 : decode cX11_stroke 40 = .ok (.iload 4, 2) := by decide +kernel
theorem dX11_stroke_42 : decode cX11_stroke 42 = .ok (.iconst (-1), 1) := by decide +kernel
theorem dX11_stroke_43 : decode cX11_stroke 43 = .ok (.if_icmp .eq 45, 3) := by decide +kernel
theorem dX11_stroke_46 : decode cX11_stroke 46 = .ok (.aload_n 0, 1) := by decide +kernel
theorem dX11_stroke_47 : decode cX11_stroke 47 = .ok (.getfield 47, 3) := by decide +kernel
theorem dX11_stroke_50 : decode cX11_stroke 50 = .ok (.iload_n 1, 1) := by decide +kernel
theorem dX11_stroke_51 : decode cX11_stroke 51 = .ok (.aload_n 0, 1) := by decide +kernel
theorem dX11_stroke_52 : decode cX11_stroke 52 = .ok (.getfield 47, 3) := by decide +kernel
theorem dX11_stroke_55 : decode cX11_stroke 55 = .ok (.getfield 186, 3) := by decide +kernel
theorem dX11_stroke_58 : decode cX11_stroke 58 = .ok (.invokevirtual 206, 3) := by decide +kernel
theorem dX11_stroke_61 : decode cX11_stroke 61 = .ok (.ifCond .eq 27, 3) := by decide +kernel
theorem dX11_stroke_64 : decode cX11_stroke 64 = .ok (.aload_n 0, 1) := by decide +kernel
theorem dX11_stroke_65 : decode cX11_stroke 65 = .ok (.getfield 47, 3) := by decide +kernel
theorem dX11_stroke_68 : decode cX11_stroke 68 = .ok (.getfield 137, 3) := by decide +kernel
theorem dX11_stroke_71 : decode cX11_stroke 71 = .ok (.iload_n 1, 1) := by decide +kernel
theorem dX11_stroke_72 : decode cX11_stroke 72 = .ok (.iaload, 1) := by decide +kernel
theorem dX11_stroke_73 : decode cX11_stroke 73 = .ok (.aload_n 0, 1) := by decide +kernel
theorem dX11_stroke_74 : decode cX11_stroke 74 = .ok (.getfield 18, 3) := by decide +kernel
theorem dX11_stroke_77 : decode cX11_stroke 77 = .ok (.getfield 102, 3) := by decide +kernel
theorem dX11_stroke_80 : decode cX11_stroke 80 = .ok (.getfield 134, 3) := by decide +kernel
theorem dX11_stroke_83 : decode cX11_stroke 83 = .ok (.iload_n 1, 1) := by decide +kernel
theorem dX11_stroke_84 : decode cX11_stroke 84 = .ok (.iaload, 1) := by decide +kernel
theorem dX11_stroke_85 : decode cX11_stroke 85 = .ok (.if_icmp .lt 6, 3) := by decide +kernel
theorem dX11_stroke_88 : decode cX11_stroke 88 = .ok (.bipush (-2), 2) := by decide +kernel
theorem dX11_stroke_90 : decode cX11_stroke 90 = .ok (.ireturn, 1) := by decide +kernel
theorem dX11_stroke_91 : decode cX11_stroke 91 = .ok (.aload_n 0, 1) := by decide +kernel
theorem dX11_stroke_92 : decode cX11_stroke 92 = .ok (.getfield 47, 3) := by decide +kernel
theorem dX11_stroke_95 : decode cX11_stroke 95 = .ok (.getfield 122, 3) := by decide +kernel
theorem dX11_stroke_98 : decode cX11_stroke 98 = .ok (.iload_n 1, 1) := by decide +kernel
theorem dX11_stroke_99 : decode cX11_stroke 99 = .ok (.iload 4, 2) := by decide +kernel
theorem dX11_stroke_101 : decode cX11_stroke 101 = .ok (.iastore, 1) := by decide +kernel
theorem dX11_stroke_102 : decode cX11_stroke 102 = .ok (.aload_n 0, 1) := by decide +kernel
theorem dX11_stroke_103 : decode cX11_stroke 103 = .ok (.getfield 47, 3) := by decide +kernel
theorem dX11_stroke_106 : decode cX11_stroke 106 = .ok (.getfield 137, 3) := by decide +kernel
theorem dX11_stroke_109 : decode cX11_stroke 109 = .ok (.iload_n 1, 1) := by decide +kernel
theorem dX11_stroke_110 : decode cX11_stroke 110 = .ok (.dup2, 1) := by decide +kernel
theorem dX11_stroke_111 : decode cX11_stroke 111 = .ok (.iaload, 1) := by decide +kernel
theorem dX11_stroke_112 : decode cX11_stroke 112 = .ok (.iconst 1, 1) := by decide +kernel
theorem dX11_stroke_113 : decode cX11_stroke 113 = .ok (.iadd, 1) := by decide +kernel
theorem dX11_stroke_114 : decode cX11_stroke 114 = .ok (.iastore, 1) := by decide +kernel
theorem dX11_stroke_115 : decode cX11_stroke 115 = .ok (.aload_n 0, 1) := by decide +kernel
theorem dX11_stroke_116 : decode cX11_stroke 116 = .ok (.getfield 67, 3) := by decide +kernel
theorem dX11_stroke_119 : decode cX11_stroke 119 = .ok (.iload_n 1, 1) := by decide +kernel
theorem dX11_stroke_120 : decode cX11_stroke 120 = .ok (.iload_n 3, 1) := by decide +kernel
theorem dX11_stroke_121 : decode cX11_stroke 121 = .ok (.invokevirtual 210, 3) := by decide +kernel
theorem dX11_stroke_124 : decode cX11_stroke 124 = .ok (.iload 4, 2) := by decide +kernel
theorem dX11_stroke_126 : decode cX11_stroke 126 = .ok (.ireturn, 1) := by decide +kernel
set_option maxRecDepth 20000 in
theorem ggX11_rule_X11_isRule : GoodIn wsX11_rule wsX11_isRule := goodIn_r _ [8] (by decide +kernel) (by decide +kernel)
set_option maxRecDepth 20000 in
theorem gX11_rule_X11_isRule : GoodIn wsX11_rule (wsV RX11 214 RX11 yX11_isRule wsX11_isRule) := goodIn_app (goodIn_of _ (by decide +kernel)) ggX11_rule_X11_isRule
set_option maxRecDepth 20000 in
theorem ggX11_rule_X9_add : GoodIn wsX11_rule wsX9_add := goodIn_r _ [13, 14, 15, 16, 17, 18, 19, 20, 46, 47, 48] (by decide +kernel) (by decide +kernel)
set_option maxRecDepth 20000 in
theorem gX11_rule_X9_add : GoodIn wsX11_rule (wsV RX11 210 RX9 yX9_add wsX9_add) := goodIn_app (goodIn_of _ (by decide +kernel)) ggX11_rule_X9_add
theorem dX11_rule_0 : decode cX11_rule 0 = .ok (.aload_n 0, 1) := by decide +kernel
theorem dX11_rule_1 : decode cX11_rule 1 = .ok (.iload_n 1, 1) := by decide +kernel
theorem dX11_rule_2 : decode cX11_rule 2 = .ok (.invokevirtual 214, 3) := by decide +kernel
theorem dX11_rule_5 : decode cX11_rule 5 = .ok (.ifCond .eq 14, 3) := by decide +kernel
theorem dX11_rule_8 : decode cX11_rule 8 = .ok (.iload_n 1, 1) := by decide +kernel
theorem dX11_rule_9 : decode cX11_rule 9 = .ok (.aload_n 0, 1) := by decide +kernel
theorem dX11_rule_10 : decode cX11_rule 10 = .ok (.getfield 47, 3) := by decide +kernel
theorem dX11_rule_13 : decode cX11_rule 13 = .ok (.getfield 217, 3) := by decide +kernel
theorem dX11_rule_16 : decode cX11_rule 16 = .ok (.if_icmp .ne 5, 3) := by decide +kernel
theorem dX11_rule_19 : decode cX11_rule 19 = .ok (.iconst 0, 1) := by decide +kernel
theorem dX11_rule_20 : decode cX11_rule 20 = .ok (.ireturn, 1) := by decide +kernel
theorem dX11_rule_21 : decode cX11_rule 21 = .ok (.aload_n 0, 1) := by decide +kernel
theorem dX11_rule_22 : decode cX11_rule 22 = .ok (.getfield 67, 3) := by decide +kernel
theorem dX11_rule_25 : decode cX11_rule 25 = .ok (.iconst (-1), 1) := by decide +kernel
theorem dX11_rule_26 : decode cX11_rule 26 = .ok (.aload_n 0, 1) := by decide +kernel
theorem dX11_rule_27 : decode cX11_rule 27 = .ok (.getfield 47, 3) := by decide +kernel
theorem dX11_rule_30 : decode cX11_rule 30 = .ok (.getfield 217, 3) := by decide +kernel
theorem dX11_rule_33 : decode cX11_rule 33 = .ok (.invokevirtual 210, 3) := by decide +kernel
theorem dX11_rule_36 : decode cX11_rule 36 = .ok (.aload_n 0, 1) := by decide +kernel
theorem dX11_rule_37 : decode cX11_rule 37 = .ok (.getfield 47, 3) := by decide +kernel
theorem dX11_rule_40 : decode cX11_rule 40 = .ok (.iload_n 1, 1) := by decide +kernel
theorem dX11_rule_41 : decode cX11_rule 41 = .ok (.putfield 217, 3) := by decide +kernel
theorem dX11_rule_44 : decode cX11_rule 44 = .ok (.iconst 1, 1) := by decide +kernel
theorem dX11_rule_45 : decode cX11_rule 45 = .ok (.ireturn, 1) := by decide +kernel
set_option maxRecDepth 20000 in
theorem ggX11_minutes_X11_passMinute : GoodIn wsX11_minutes wsX11_passMinute := goodIn_r _ [7, 8, 9, 1, 2, 10, 11, 12, 13, 14, 15, 16, 17, 18, 19, 20, 21, 22, 23, 24, 25, 26, 27, 28, 29, 30, 31, 32, 33, 34, 35, 36, 37, 38, 39, 40, 41, 42, 43, 44, 45, 46, 47, 48, 49, 50, 51, 52, 53, 54, 55, 56, 57, 58, 59, 60, 61, 62, 63, 64, 65, 66, 67, 68, 69, 70, 71, 72, 73, 74, 75, 76, 77, 78, 79, 80, 81, 82, 83, 84, 85, 86, 87, 88, 89, 90, 91, 92, 93, 94, 95, 96, 97, 98, 99, 100, 101, 102, 103, 104, 105, 106, 107, 108, 109, 110, 111, 112, 113, 114, 115, 116, 117, 118, 119, 120, 121, 122, 123, 124, 125, 126, 127, 128, 129, 130, 131, 132, 133, 134, 135, 136, 137, 138, 139, 140, 141, 142, 143, 144, 145, 146, 147, 148, 149, 150, 151, 152, 153, 154, 155, 156, 157, 158, 159, 160, 161, 162, 163, 164, 165, 166, 167, 168, 169, 170, 171, 172, 173, 174, 175, 176, 177, 178, 179, 180, 181, 182, 183, 184, 196, 197, 198, 199, 200, 201, 202, 203, 204, 205, 206, 207, 208, 209, 185, 186, 187, 188, 189, 190, 191, 192, 193, 194, 195, 210, 211, 212, 213, 214, 215, 216, 217, 218, 219, 220, 221, 222, 223, 224, 225, 226, 227, 228, 229, 230, 231, 232, 233, 234, 235, 236, 237, 238, 239] (by decide +kernel) (by decide +kernel)
set_option maxRecDepth 20000 in
theorem gX11_minutes_X11_passMinute : GoodIn wsX11_minutes (wsV RX11 220 RX11 yX11_passMinute wsX11_passMinute) := goodIn_app (goodIn_of _ (by decide +kernel)) ggX11_minutes_X11_passMinute
theorem dX11_minutes_0 : decode cX11_minutes 0 = .ok (.iload_n 1, 1) := by decide +kernel
theorem dX11_minutes_1 : decode cX11_minutes 1 = .ok (.ifCond .lt 24, 3) := by decide +kernel
theorem dX11_minutes_4 : decode cX11_minutes 4 = .ok (.iload_n 1, 1) := by decide +kernel
theorem dX11_minutes_5 : decode cX11_minutes 5 = .ok (.bipush 99, 2) := by decide +kernel
theorem dX11_minutes_7 : decode cX11_minutes 7 = .ok (.if_icmp .gt 18, 3) := by decide +kernel
theorem dX11_minutes_10 : decode cX11_minutes 10 = .ok (.aload_n 0, 1) := by decide +kernel
theorem dX11_minutes_11 : decode cX11_minutes 11 = .ok (.getfield 47, 3) := by decide +kernel
theorem dX11_minutes_14 : decode cX11_minutes 14 = .ok (.getfield 186, 3) := by decide +kernel
theorem dX11_minutes_17 : decode cX11_minutes 17 = .ok (.iload_n 1, 1) := by decide +kernel
theorem dX11_minutes_18 : decode cX11_minutes 18 = .ok (.iadd, 1) := by decide +kernel
theorem dX11_minutes_19 : decode cX11_minutes 19 = .ok (.sipush 199, 3) := by decide +kernel
theorem dX11_minutes_22 : decode cX11_minutes 22 = .ok (.if_icmp .le 5, 3) := by decide +kernel
theorem dX11_minutes_25 : decode cX11_minutes 25 = .ok (.iconst (-1), 1) := by decide +kernel
theorem dX11_minutes_26 : decode cX11_minutes 26 = .ok (.ireturn, 1) := by decide +kernel
theorem dX11_minutes_27 : decode cX11_minutes 27 = .ok (.iconst 0, 1) := by decide +kernel
theorem dX11_minutes_28 : decode cX11_minutes 28 = .ok (.istore_n 2, 1) := by decide +kernel
theorem dX11_minutes_29 : decode cX11_minutes 29 = .ok (.iload_n 2, 1) := by decide +kernel
theorem dX11_minutes_30 : decode cX11_minutes 30 = .ok (.iload_n 1, 1) := by decide +kernel
theorem dX11_minutes_31 : decode cX11_minutes 31 = .ok (.if_icmp .ge 13, 3) := by decide +kernel
theorem dX11_minutes_34 : decode cX11_minutes 34 = .ok (.aload_n 0, 1) := by decide +kernel
theorem dX11_minutes_35 : decode cX11_minutes 35 = .ok (.invokevirtual 220, 3) := by decide +kernel
theorem dX11_minutes_38 : decode cX11_minutes 38 = .ok (.iinc 2 1, 3) := by decide +kernel
theorem dX11_minutes_41 : decode cX11_minutes 41 = .ok (.goto (-12), 3) := by decide +kernel
theorem dX11_minutes_44 : decode cX11_minutes 44 = .ok (.aload_n 0, 1) := by decide +kernel
theorem dX11_minutes_45 : decode cX11_minutes 45 = .ok (.getfield 47, 3) := by decide +kernel
theorem dX11_minutes_48 : decode cX11_minutes 48 = .ok (.getfield 186, 3) := by decide +kernel
theorem dX11_minutes_51 : decode cX11_minutes 51 = .ok (.ireturn, 1) := by decide +kernel
set_option maxRecDepth 20000 in
theorem ggX11_order_X11_isToCome : GoodIn wsX11_order wsX11_isToCome := goodIn_r _ [9, 10, 11, 12, 2, 3, 13, 14, 15, 8, 16, 17, 124, 125, 126, 127, 128, 129, 130, 131, 132, 133, 134, 135, 136, 137, 158, 159, 160, 161, 162, 163, 164, 165, 166, 167, 168, 169, 170, 171, 172, 173, 174, 175, 176, 177, 178, 179, 138, 139, 140, 141, 142, 143, 144, 145, 146, 147, 148] (by decide +kernel) (by decide +kernel)
set_option maxRecDepth 20000 in
theorem gX11_order_X11_isToCome : GoodIn wsX11_order (wsV RX11 223 RX11 yX11_isToCome wsX11_isToCome) := goodIn_app (goodIn_of _ (by decide +kernel)) ggX11_order_X11_isToCome
set_option maxRecDepth 20000 in
theorem ggX11_order_X6_lineUp : GoodIn wsX11_order wsX6_lineUp := goodIn_r _ [22, 23, 24, 25, 26, 27, 28, 29, 30, 31, 32, 33, 34, 35, 36, 37, 21, 38, 39, 40, 41, 42, 43, 44, 45, 46, 47, 48, 49, 50, 51, 52, 53, 54, 55, 56, 57, 58, 59, 60, 61, 62, 63, 64, 65, 66, 67, 68, 69, 70, 71, 72, 73, 74, 75, 76, 77, 78, 79, 80, 81, 82, 83, 84, 85, 86, 87, 88, 89, 90, 91, 92, 93, 94, 95, 96, 97, 98, 99, 100, 101, 102, 103, 104, 105, 106, 107, 108, 109, 110, 111, 112, 113, 114, 115, 116, 117, 118, 119, 120, 121, 122, 123, 149, 150, 151, 152, 153, 154, 155, 156, 157, 158, 159, 160, 161, 162, 163, 164, 165, 166, 167, 168, 169, 170, 171, 180, 181, 182, 183, 184, 185, 186, 138, 139, 140, 141, 142, 143, 144, 145, 146, 147, 148, 172, 173, 174, 175, 176, 177, 178, 179, 187, 188, 189] (by decide +kernel) (by decide +kernel)
set_option maxRecDepth 20000 in
theorem gX11_order_X6_lineUp : GoodIn wsX11_order (wsV RX11 226 RX6 yX6_lineUp wsX6_lineUp) := goodIn_app (goodIn_of _ (by decide +kernel)) ggX11_order_X6_lineUp
theorem dX11_order_0 : decode cX11_order 0 = .ok (.aload_n 0, 1) := by decide +kernel
theorem dX11_order_1 : decode cX11_order 1 = .ok (.iload_n 1, 1) := by decide +kernel
theorem dX11_order_2 : decode cX11_order 2 = .ok (.invokevirtual 223, 3) := by decide +kernel
theorem dX11_order_5 : decode cX11_order 5 = .ok (.ifCond .eq 7, 3) := by decide +kernel
theorem dX11_order_8 : decode cX11_order 8 = .ok (.iload_n 2, 1) := by decide +kernel
theorem dX11_order_9 : decode cX11_order 9 = .ok (.ifCond .ge 5, 3) := by decide +kernel
theorem dX11_order_12 : decode cX11_order 12 = .ok (.iconst (-1), 1) := by decide +kernel
theorem dX11_order_13 : decode cX11_order 13 = .ok (.ireturn, 1) := by decide +kernel
theorem dX11_order_14 : decode cX11_order 14 = .ok (.aload_n 0, 1) := by decide +kernel
theorem dX11_order_15 : decode cX11_order 15 = .ok (.getfield 37, 3) := by decide +kernel
theorem dX11_order_18 : decode cX11_order 18 = .ok (.aload_n 0, 1) := by decide +kernel
theorem dX11_order_19 : decode cX11_order 19 = .ok (.getfield 47, 3) := by decide +kernel
theorem dX11_order_22 : decode cX11_order 22 = .ok (.iload_n 1, 1) := by decide +kernel
theorem dX11_order_23 : decode cX11_order 23 = .ok (.aload_n 0, 1) := by decide +kernel
theorem dX11_order_24 : decode cX11_order 24 = .ok (.getfield 47, 3) := by decide +kernel
theorem dX11_order_27 : decode cX11_order 27 = .ok (.getfield 186, 3) := by decide +kernel
theorem dX11_order_30 : decode cX11_order 30 = .ok (.invokevirtual 226, 3) := by decide +kernel
theorem dX11_order_33 : decode cX11_order 33 = .ok (.istore_n 3, 1) := by decide +kernel
theorem dX11_order_34 : decode cX11_order 34 = .ok (.iload_n 2, 1) := by decide +kernel
theorem dX11_order_35 : decode cX11_order 35 = .ok (.iload_n 3, 1) := by decide +kernel
theorem dX11_order_36 : decode cX11_order 36 = .ok (.if_icmp .ge 15, 3) := by decide +kernel
theorem dX11_order_39 : decode cX11_order 39 = .ok (.aload_n 0, 1) := by decide +kernel
theorem dX11_order_40 : decode cX11_order 40 = .ok (.getfield 37, 3) := by decide +kernel
theorem dX11_order_43 : decode cX11_order 43 = .ok (.getfield 230, 3) := by decide +kernel
theorem dX11_order_46 : decode cX11_order 46 = .ok (.iload_n 2, 1) := by decide +kernel
theorem dX11_order_47 : decode cX11_order 47 = .ok (.iaload, 1) := by decide +kernel
theorem dX11_order_48 : decode cX11_order 48 = .ok (.goto 5, 3) := by decide +kernel
theorem dX11_order_51 : decode cX11_order 51 = .ok (.bipush (-2), 2) := by decide +kernel
theorem dX11_order_53 : decode cX11_order 53 = .ok (.ireturn, 1) := by decide +kernel
set_option maxRecDepth 20000 in
theorem ggX11_deeper_X11_isSurfer : GoodIn wsX11_deeper wsX11_isSurfer := goodIn_r _ [5, 6, 7, 8, 71, 72, 73, 74, 75, 76, 77, 78, 79, 80, 81, 82, 83, 84, 85, 86, 87, 88, 89, 90, 91, 92, 93, 94, 95, 96, 97, 98, 99, 100, 101, 102, 103, 104, 105] (by decide +kernel) (by decide +kernel)
set_option maxRecDepth 20000 in
theorem gX11_deeper_X11_isSurfer : GoodIn wsX11_deeper (wsV RX11 115 RX11 yX11_isSurfer wsX11_isSurfer) := goodIn_app (goodIn_of _ (by decide +kernel)) ggX11_deeper_X11_isSurfer
set_option maxRecDepth 20000 in
theorem ggX11_deeper_X11_farNow : GoodIn wsX11_deeper wsX11_farNow := goodIn_r _ [12, 6, 13, 14, 15, 16, 17, 18, 19, 20, 21, 22, 23, 24, 25, 26, 27, 28, 29, 30, 31, 32, 33, 34, 35, 36, 37, 38, 39, 40, 41, 42, 43, 44, 45, 46, 47, 48, 49, 50, 51, 52, 53, 54, 55, 56, 57, 58, 59, 60, 61, 62, 63, 64, 65, 66, 67, 68, 69, 70, 71, 72, 73, 74, 75, 76, 77, 78, 79, 80, 81, 82, 83, 84, 106, 107, 108, 109, 110, 111, 112, 113, 114, 115, 116, 117, 118, 119, 120, 121, 122, 123, 124, 125, 85, 86, 87, 88, 89, 90, 91, 92, 93, 94, 95, 96, 97, 98, 126, 127, 128] (by decide +kernel) (by decide +kernel)
set_option maxRecDepth 20000 in
theorem gX11_deeper_X11_farNow : GoodIn wsX11_deeper (wsV RX11 140 RX11 yX11_farNow wsX11_farNow) := goodIn_app (goodIn_of _ (by decide +kernel)) ggX11_deeper_X11_farNow
theorem dX11_deeper_0 : decode cX11_deeper 0 = .ok (.aload_n 0, 1) := by decide +kernel
theorem dX11_deeper_1 : decode cX11_deeper 1 = .ok (.iload_n 1, 1) := by decide +kernel
theorem dX11_deeper_2 : decode cX11_deeper 2 = .ok (.invokevirtual 115, 3) := by decide +kernel
theorem dX11_deeper_5 : decode cX11_deeper 5 = .ok (.ifCond .eq 11, 3) := by decide +kernel
theorem dX11_deeper_8 : decode cX11_deeper 8 = .ok (.aload_n 0, 1) := by decide +kernel
theorem dX11_deeper_9 : decode cX11_deeper 9 = .ok (.iload_n 2, 1) := by decide +kernel
theorem dX11_deeper_10 : decode cX11_deeper 10 = .ok (.invokevirtual 115, 3) := by decide +kernel
theorem dX11_deeper_13 : decode cX11_deeper 13 = .ok (.ifCond .ne 5, 3) := by decide +kernel
theorem dX11_deeper_16 : decode cX11_deeper 16 = .ok (.iconst (-1), 1) := by decide +kernel
theorem dX11_deeper_17 : decode cX11_deeper 17 = .ok (.ireturn, 1) := by decide +kernel
theorem dX11_deeper_18 : decode cX11_deeper 18 = .ok (.aload_n 0, 1) := by decide +kernel
theorem dX11_deeper_19 : decode cX11_deeper 19 = .ok (.iload_n 1, 1) := by decide +kernel
theorem dX11_deeper_20 : decode cX11_deeper 20 = .ok (.invokevirtual 140, 3) := by decide +kernel
theorem dX11_deeper_23 : decode cX11_deeper 23 = .ok (.istore_n 3, 1) := by decide +kernel
theorem dX11_deeper_24 : decode cX11_deeper 24 = .ok (.aload_n 0, 1) := by decide +kernel
theorem dX11_deeper_25 : decode cX11_deeper 25 = .ok (.iload_n 2, 1) := by decide +kernel
theorem dX11_deeper_26 : decode cX11_deeper 26 = .ok (.invokevirtual 140, 3) := by decide +kernel
theorem dX11_deeper_29 : decode cX11_deeper 29 = .ok (.istore 4, 2) := by decide +kernel
theorem dX11_deeper_31 : decode cX11_deeper 31 = .ok (.iload_n 3, 1) := by decide +kernel
theorem dX11_deeper_32 : decode cX11_deeper 32 = .ok (.iload 4, 2) := by decide +kernel
theorem dX11_deeper_34 : decode cX11_deeper 34 = .ok (.if_icmp .ne 5, 3) := by decide +kernel
theorem dX11_deeper_37 : decode cX11_deeper 37 = .ok (.iconst 0, 1) := by decide +kernel
theorem dX11_deeper_38 : decode cX11_deeper 38 = .ok (.ireturn, 1) := by decide +kernel
theorem dX11_deeper_39 : decode cX11_deeper 39 = .ok (.iload_n 3, 1) := by decide +kernel
theorem dX11_deeper_40 : decode cX11_deeper 40 = .ok (.iload 4, 2) := by decide +kernel
theorem dX11_deeper_42 : decode cX11_deeper 42 = .ok (.if_icmp .ge 7, 3) := by decide +kernel
theorem dX11_deeper_45 : decode cX11_deeper 45 = .ok (.iconst 1, 1) := by decide +kernel
theorem dX11_deeper_46 : decode cX11_deeper 46 = .ok (.goto 4, 3) := by decide +kernel
theorem dX11_deeper_49 : decode cX11_deeper 49 = .ok (.iconst 2, 1) := by decide +kernel
theorem dX11_deeper_50 : decode cX11_deeper 50 = .ok (.ireturn, 1) := by decide +kernel
set_option maxRecDepth 20000 in
theorem ggX11_seat_X11_isSurfer : GoodIn wsX11_seat wsX11_isSurfer := goodIn_r _ [6, 7, 8, 9, 115, 116, 117, 118, 119, 120, 121, 122, 123, 124, 125, 126, 127, 128, 129, 130, 131, 132, 133, 134, 135, 136, 137, 138, 139, 140, 141, 142, 143, 144, 145, 146, 147, 148, 149] (by decide +kernel) (by decide +kernel)
set_option maxRecDepth 20000 in
theorem gX11_seat_X11_isSurfer : GoodIn wsX11_seat (wsV RX11 115 RX11 yX11_isSurfer wsX11_isSurfer) := goodIn_app (goodIn_of _ (by decide +kernel)) ggX11_seat_X11_isSurfer
set_option maxRecDepth 20000 in
theorem ggX11_seat_X11_isCell : GoodIn wsX11_seat wsX11_isCell := goodIn_r _ [13, 7, 14, 15, 16, 17, 18, 19, 20, 115, 116, 117, 118, 119, 120, 121, 122, 123, 124, 125, 126, 127, 128, 129, 130, 131, 132, 133, 134, 135, 136, 137, 138, 139, 140, 141, 142] (by decide +kernel) (by decide +kernel)
set_option maxRecDepth 20000 in
theorem gX11_seat_X11_isCell : GoodIn wsX11_seat (wsV RX11 179 RX11 yX11_isCell wsX11_isCell) := goodIn_app (goodIn_of _ (by decide +kernel)) ggX11_seat_X11_isCell
set_option maxRecDepth 20000 in
theorem ggX11_seat_X11_firstToCome : GoodIn wsX11_seat wsX11_firstToCome := goodIn_r _ [24, 7, 25, 26, 27, 28, 29, 30, 31, 32, 33, 34, 115, 116, 117, 118, 119, 120, 121, 122, 123, 124, 125, 126, 127, 128, 129, 130, 131, 132, 133, 134, 135, 136, 137, 138, 139, 140, 141, 142, 150, 151, 152, 153, 154, 155, 156, 157, 158, 159, 160, 161, 162, 163, 164, 165, 166, 167, 168] (by decide +kernel) (by decide +kernel)
set_option maxRecDepth 20000 in
theorem gX11_seat_X11_firstToCome : GoodIn wsX11_seat (wsV RX11 233 RX11 yX11_firstToCome wsX11_firstToCome) := goodIn_app (goodIn_of _ (by decide +kernel)) ggX11_seat_X11_firstToCome
set_option maxRecDepth 20000 in
theorem ggX11_seat_X6_seatFrom : GoodIn wsX11_seat wsX6_seatFrom := goodIn_r _ [39, 40, 41, 42, 43, 44, 45, 38, 46, 47, 48, 49, 50, 51, 52, 53, 54, 55, 56, 57, 58, 59, 60, 61, 62, 63, 64, 65, 66, 67, 68, 69, 70, 71, 72, 73, 74, 75, 76, 77, 78, 79, 80, 81, 82, 17, 83, 19, 84, 85, 86, 87, 88, 89, 90, 91, 92, 93, 94, 95, 96, 97, 98, 99, 100, 101, 102, 103, 104, 105, 106, 107, 108, 109, 110, 111, 112, 113, 114, 169, 170, 171, 172, 173, 174, 175, 176, 177, 129, 130, 131, 132, 133, 134, 135, 136, 137, 138, 139, 140, 141, 142, 161, 162, 163, 164, 165, 166, 167, 168, 178, 179, 180] (by decide +kernel) (by decide +kernel)
set_option maxRecDepth 20000 in
theorem gX11_seat_X6_seatFrom : GoodIn wsX11_seat (wsV RX11 237 RX6 yX6_seatFrom wsX6_seatFrom) := goodIn_app (goodIn_of _ (by decide +kernel)) ggX11_seat_X6_seatFrom
theorem dX11_seat_0 : decode cX11_seat 0 = .ok (.aload_n 0, 1) := by decide +kernel
theorem dX11_seat_1 : decode cX11_seat 1 = .ok (.iload_n 1, 1) := by decide +kernel
theorem dX11_seat_2 : decode cX11_seat 2 = .ok (.invokevirtual 115, 3) := by decide +kernel
theorem dX11_seat_5 : decode cX11_seat 5 = .ok (.ifCond .eq 11, 3) := by decide +kernel
theorem dX11_seat_8 : decode cX11_seat 8 = .ok (.aload_n 0, 1) := by decide +kernel
theorem dX11_seat_9 : decode cX11_seat 9 = .ok (.iload_n 2, 1) := by decide +kernel
theorem dX11_seat_10 : decode cX11_seat 10 = .ok (.invokevirtual 179, 3) := by decide +kernel
theorem dX11_seat_13 : decode cX11_seat 13 = .ok (.ifCond .ne 5, 3) := by decide +kernel
theorem dX11_seat_16 : decode cX11_seat 16 = .ok (.iconst (-1), 1) := by decide +kernel
theorem dX11_seat_17 : decode cX11_seat 17 = .ok (.ireturn, 1) := by decide +kernel
theorem dX11_seat_18 : decode cX11_seat 18 = .ok (.aload_n 0, 1) := by decide +kernel
theorem dX11_seat_19 : decode cX11_seat 19 = .ok (.getfield 37, 3) := by decide +kernel
theorem dX11_seat_22 : decode cX11_seat 22 = .ok (.iload_n 1, 1) := by decide +kernel
theorem dX11_seat_23 : decode cX11_seat 23 = .ok (.iload_n 2, 1) := by decide +kernel
theorem dX11_seat_24 : decode cX11_seat 24 = .ok (.aload_n 0, 1) := by decide +kernel
theorem dX11_seat_25 : decode cX11_seat 25 = .ok (.invokevirtual 233, 3) := by decide +kernel
theorem dX11_seat_28 : decode cX11_seat 28 = .ok (.invokevirtual 237, 3) := by decide +kernel
theorem dX11_seat_31 : decode cX11_seat 31 = .ok (.ireturn, 1) := by decide +kernel
set_option maxRecDepth 20000 in
theorem ggX11_best_X11_isSurfer : GoodIn wsX11_best wsX11_isSurfer := goodIn_r _ [7, 1, 8, 9, 111, 112, 113, 114, 115, 116, 117, 118, 119, 120, 121, 122, 123, 124, 125, 126, 127, 128, 129, 130, 131, 132, 133, 134, 135, 136, 137, 138, 139, 140, 141, 142, 143, 144, 145] (by decide +kernel) (by decide +kernel)
set_option maxRecDepth 20000 in
theorem gX11_best_X11_isSurfer : GoodIn wsX11_best (wsV RX11 115 RX11 yX11_isSurfer wsX11_isSurfer) := goodIn_app (goodIn_of _ (by decide +kernel)) ggX11_best_X11_isSurfer
set_option maxRecDepth 20000 in
theorem ggX11_best_X8_cells : GoodIn wsX11_best wsX8_cells := goodIn_r _ [14, 15, 16, 125, 126, 127, 128, 129, 130, 131, 132, 133, 134, 135, 136, 137, 138] (by decide +kernel) (by decide +kernel)
set_option maxRecDepth 20000 in
theorem gX11_best_X8_cells : GoodIn wsX11_best (wsV RX11 240 RX8 yX8_cells wsX8_cells) := goodIn_app (goodIn_of _ (by decide +kernel)) ggX11_best_X8_cells
set_option maxRecDepth 20000 in
theorem ggX11_best_X11_firstToCome : GoodIn wsX11_best wsX11_firstToCome := goodIn_r _ [20, 1, 21, 22, 23, 24, 25, 26, 27, 28, 29, 30, 111, 112, 113, 114, 115, 116, 117, 118, 119, 120, 121, 122, 123, 124, 125, 126, 127, 128, 129, 130, 131, 132, 133, 134, 135, 136, 137, 138, 146, 147, 148, 149, 150, 151, 152, 153, 154, 155, 156, 157, 158, 159, 160, 161, 162, 163, 164] (by decide +kernel) (by decide +kernel)
set_option maxRecDepth 20000 in
theorem gX11_best_X11_firstToCome : GoodIn wsX11_best (wsV RX11 233 RX11 yX11_firstToCome wsX11_firstToCome) := goodIn_app (goodIn_of _ (by decide +kernel)) ggX11_best_X11_firstToCome
set_option maxRecDepth 20000 in
theorem ggX11_best_X6_seatFrom : GoodIn wsX11_best wsX6_seatFrom := goodIn_r _ [35, 36, 37, 38, 39, 40, 41, 34, 42, 43, 44, 45, 46, 47, 48, 49, 50, 51, 52, 53, 54, 55, 56, 57, 58, 59, 60, 61, 62, 63, 64, 65, 66, 67, 68, 69, 70, 71, 72, 73, 74, 75, 76, 77, 78, 13, 79, 15, 80, 81, 82, 83, 84, 85, 86, 87, 88, 89, 90, 91, 92, 93, 94, 95, 96, 97, 98, 99, 100, 101, 102, 103, 104, 105, 106, 107, 108, 109, 110, 165, 166, 167, 168, 169, 170, 171, 172, 173, 125, 126, 127, 128, 129, 130, 131, 132, 133, 134, 135, 136, 137, 138, 157, 158, 159, 160, 161, 162, 163, 164, 174, 175, 176] (by decide +kernel) (by decide +kernel)
set_option maxRecDepth 20000 in
theorem gX11_best_X6_seatFrom : GoodIn wsX11_best (wsV RX11 237 RX6 yX6_seatFrom wsX6_seatFrom) := goodIn_app (goodIn_of _ (by decide +kernel)) ggX11_best_X6_seatFrom
theorem dX11_best_0 : decode cX11_best 0 = .ok (.aload_n 0, 1) := by decide +kernel
theorem dX11_best_1 : decode cX11_best 1 = .ok (.iload_n 1, 1) := by decide +kernel
theorem dX11_best_2 : decode cX11_best 2 = .ok (.invokevirtual 115, 3) := by decide +kernel
theorem dX11_best_5 : decode cX11_best 5 = .ok (.ifCond .ne 5, 3) := by decide +kernel
theorem dX11_best_8 : decode cX11_best 8 = .ok (.iconst (-1), 1) := by decide +kernel
theorem dX11_best_9 : decode cX11_best 9 = .ok (.ireturn, 1) := by decide +kernel
theorem dX11_best_10 : decode cX11_best 10 = .ok (.iconst 0, 1) := by decide +kernel
theorem dX11_best_11 : decode cX11_best 11 = .ok (.istore_n 2, 1) := by decide +kernel
theorem dX11_best_12 : decode cX11_best 12 = .ok (.iconst (-1), 1) := by decide +kernel
theorem dX11_best_13 : decode cX11_best 13 = .ok (.istore_n 3, 1) := by decide +kernel
theorem dX11_best_14 : decode cX11_best 14 = .ok (.iconst 0, 1) := by decide +kernel
theorem dX11_best_15 : decode cX11_best 15 = .ok (.istore 4, 2) := by decide +kernel
theorem dX11_best_17 : decode cX11_best 17 = .ok (.iload 4, 2) := by decide +kernel
theorem dX11_best_19 : decode cX11_best 19 = .ok (.aload_n 0, 1) := by decide +kernel
theorem dX11_best_20 : decode cX11_best 20 = .ok (.getfield 18, 3) := by decide +kernel
theorem dX11_best_23 : decode cX11_best 23 = .ok (.invokevirtual 240, 3) := by decide +kernel
theorem dX11_best_26 : decode cX11_best 26 = .ok (.if_icmp .ge 37, 3) := by decide +kernel
theorem dX11_best_29 : decode cX11_best 29 = .ok (.aload_n 0, 1) := by decide +kernel
theorem dX11_best_30 : decode cX11_best 30 = .ok (.getfield 37, 3) := by decide +kernel
theorem dX11_best_33 : decode cX11_best 33 = .ok (.iload_n 1, 1) := by decide +kernel
theorem dX11_best_34 : decode cX11_best 34 = .ok (.iload 4, 2) := by decide +kernel
theorem dX11_best_36 : decode cX11_best 36 = .ok (.aload_n 0, 1) := by decide +kernel
theorem dX11_best_37 : decode cX11_best 37 = .ok (.invokevirtual 233, 3) := by decide +kernel
theorem dX11_best_40 : decode cX11_best 40 = .ok (.invokevirtual 237, 3) := by decide +kernel
theorem dX11_best_43 : decode cX11_best 43 = .ok (.istore 5, 2) := by decide +kernel
theorem dX11_best_45 : decode cX11_best 45 = .ok (.iload 5, 2) := by decide +kernel
theorem dX11_best_47 : decode cX11_best 47 = .ok (.iload_n 3, 1) := by decide +kernel
theorem dX11_best_48 : decode cX11_best 48 = .ok (.if_icmp .le 9, 3) := by decide +kernel
theorem dX11_best_51 : decode cX11_best 51 = .ok (.iload 5, 2) := by decide +kernel
theorem dX11_best_53 : decode cX11_best 53 = .ok (.istore_n 3, 1) := by decide +kernel
theorem dX11_best_54 : decode cX11_best 54 = .ok (.iload 4, 2) := by decide +kernel
theorem dX11_best_56 : decode cX11_best 56 = .ok (.istore_n 2, 1) := by decide +kernel
theorem dX11_best_57 : decode cX11_best 57 = .ok (.iinc 4 1, 3) := by decide +kernel
theorem dX11_best_60 : decode cX11_best 60 = .ok (.goto (-43), 3) := by decide +kernel
theorem dX11_best_63 : decode cX11_best 63 = .ok (.iload_n 2, 1) := by decide +kernel
theorem dX11_best_64 : decode cX11_best 64 = .ok (.ireturn, 1) := by decide +kernel
set_option maxRecDepth 20000 in
theorem ggX11_rests_X11_isSurfer : GoodIn wsX11_rests wsX11_isSurfer := goodIn_r _ [9, 10, 11, 12, 141, 142, 143, 144, 145, 146, 147, 148, 149, 150, 151, 152, 153, 154, 168, 169, 170, 171, 172, 173, 174, 175, 176, 177, 178, 179, 180, 181, 182, 183, 184, 185, 186, 187, 188] (by decide +kernel) (by decide +kernel)
set_option maxRecDepth 20000 in
theorem gX11_rests_X11_isSurfer : GoodIn wsX11_rests (wsV RX11 115 RX11 yX11_isSurfer wsX11_isSurfer) := goodIn_app (goodIn_of _ (by decide +kernel)) ggX11_rests_X11_isSurfer
set_option maxRecDepth 20000 in
theorem ggX11_rests_X0_playGame : GoodIn wsX11_rests wsX0_playGame := goodIn_r _ [17, 18, 19, 20, 21, 22, 23, 24, 25, 26, 27, 28, 29, 30, 31, 16, 32, 33, 34, 35, 36, 37, 38, 39, 40, 41, 42, 43, 44, 45, 46, 47, 48, 49, 50, 51, 52, 53, 54, 55, 56, 57, 58, 59, 60, 61, 62, 63, 64, 65, 66, 67, 68, 69, 70, 71, 72, 73, 74, 75, 76, 77, 78, 79, 80, 81, 82, 83, 84, 85, 86, 87, 88, 89, 90, 91, 92, 93, 94, 95, 96, 97, 98, 99, 100, 101, 102, 103, 104, 105, 106, 107, 108, 109, 110, 111, 112, 113, 114, 115, 116, 117, 118, 119, 120, 121, 122, 123, 124, 125, 126, 127, 128, 129, 130, 131, 132, 133, 134, 135, 136, 137, 138, 139, 140, 189, 190, 191, 192, 193, 194, 195, 196, 197, 168, 169, 170, 171, 172, 173, 174, 175, 176, 177, 178, 179, 180, 181, 198, 199, 200, 201, 202, 203, 204, 205, 206, 207, 208, 209, 210, 211, 212, 213, 214, 215, 216, 155, 156, 157, 158, 159, 160, 161, 162, 163, 164, 165, 166, 167, 217, 218, 219] (by decide +kernel) (by decide +kernel)
set_option maxRecDepth 20000 in
theorem gX11_rests_X0_playGame : GoodIn wsX11_rests (wsV RX11 243 RX0 yX0_playGame wsX0_playGame) := goodIn_app (goodIn_of _ (by decide +kernel)) ggX11_rests_X0_playGame
theorem dX11_rests_0 : decode cX11_rests 0 = .ok (.aload_n 0, 1) := by decide +kernel
theorem dX11_rests_1 : decode cX11_rests 1 = .ok (.iload_n 1, 1) := by decide +kernel
theorem dX11_rests_2 : decode cX11_rests 2 = .ok (.invokevirtual 115, 3) := by decide +kernel
theorem dX11_rests_5 : decode cX11_rests 5 = .ok (.ifCond .eq 16, 3) := by decide +kernel
theorem dX11_rests_8 : decode cX11_rests 8 = .ok (.aload_n 0, 1) := by decide +kernel
theorem dX11_rests_9 : decode cX11_rests 9 = .ok (.iload_n 2, 1) := by decide +kernel
theorem dX11_rests_10 : decode cX11_rests 10 = .ok (.invokevirtual 115, 3) := by decide +kernel
theorem dX11_rests_13 : decode cX11_rests 13 = .ok (.ifCond .eq 8, 3) := by decide +kernel
theorem dX11_rests_16 : decode cX11_rests 16 = .ok (.iload_n 1, 1) := by decide +kernel
theorem dX11_rests_17 : decode cX11_rests 17 = .ok (.iload_n 2, 1) := by decide +kernel
theorem dX11_rests_18 : decode cX11_rests 18 = .ok (.if_icmp .ne 5, 3) := by decide +kernel
theorem dX11_rests_21 : decode cX11_rests 21 = .ok (.iconst (-1), 1) := by decide +kernel
theorem dX11_rests_22 : decode cX11_rests 22 = .ok (.ireturn, 1) := by decide +kernel
theorem dX11_rests_23 : decode cX11_rests 23 = .ok (.aload_n 0, 1) := by decide +kernel
theorem dX11_rests_24 : decode cX11_rests 24 = .ok (.getfield 74, 3) := by decide +kernel
theorem dX11_rests_27 : decode cX11_rests 27 = .ok (.aload_n 0, 1) := by decide +kernel
theorem dX11_rests_28 : decode cX11_rests 28 = .ok (.getfield 37, 3) := by decide +kernel
theorem dX11_rests_31 : decode cX11_rests 31 = .ok (.aload_n 0, 1) := by decide +kernel
theorem dX11_rests_32 : decode cX11_rests 32 = .ok (.getfield 47, 3) := by decide +kernel
theorem dX11_rests_35 : decode cX11_rests 35 = .ok (.iload_n 1, 1) := by decide +kernel
theorem dX11_rests_36 : decode cX11_rests 36 = .ok (.iload_n 2, 1) := by decide +kernel
theorem dX11_rests_37 : decode cX11_rests 37 = .ok (.invokevirtual 243, 3) := by decide +kernel
theorem dX11_rests_40 : decode cX11_rests 40 = .ok (.aload_n 0, 1) := by decide +kernel
theorem dX11_rests_41 : decode cX11_rests 41 = .ok (.getfield 74, 3) := by decide +kernel
theorem dX11_rests_44 : decode cX11_rests 44 = .ok (.getfield 247, 3) := by decide +kernel
theorem dX11_rests_47 : decode cX11_rests 47 = .ok (.ireturn, 1) := by decide +kernel
set_option maxRecDepth 20000 in
theorem ggX11_rest_X11_isSurfer : GoodIn wsX11_rest wsX11_isSurfer := goodIn_r _ [10, 11, 12, 13, 142, 143, 144, 145, 146, 147, 148, 149, 150, 151, 152, 153, 154, 155, 169, 170, 171, 172, 173, 174, 175, 176, 177, 178, 179, 180, 181, 182, 183, 184, 185, 186, 187, 188, 189] (by decide +kernel) (by decide +kernel)
set_option maxRecDepth 20000 in
theorem gX11_rest_X11_isSurfer : GoodIn wsX11_rest (wsV RX11 115 RX11 yX11_isSurfer wsX11_isSurfer) := goodIn_app (goodIn_of _ (by decide +kernel)) ggX11_rest_X11_isSurfer
set_option maxRecDepth 20000 in
theorem ggX11_rest_X0_playGame : GoodIn wsX11_rest wsX0_playGame := goodIn_r _ [18, 19, 20, 21, 22, 23, 24, 25, 26, 27, 28, 29, 30, 31, 32, 17, 33, 34, 35, 36, 37, 38, 39, 40, 41, 42, 43, 44, 45, 46, 47, 48, 49, 50, 51, 52, 53, 54, 55, 56, 57, 58, 59, 60, 61, 62, 63, 64, 65, 66, 67, 68, 69, 70, 71, 72, 73, 74, 75, 76, 77, 78, 79, 80, 81, 82, 83, 84, 85, 86, 87, 88, 89, 90, 91, 92, 93, 94, 95, 96, 97, 98, 99, 100, 101, 102, 103, 104, 105, 106, 107, 108, 109, 110, 111, 112, 113, 114, 115, 116, 117, 118, 119, 120, 121, 122, 123, 124, 125, 126, 127, 128, 129, 130, 131, 132, 133, 134, 135, 136, 137, 138, 139, 140, 141, 190, 191, 192, 193, 194, 195, 196, 197, 198, 169, 170, 171, 172, 173, 174, 175, 176, 177, 178, 179, 180, 181, 182, 199, 200, 201, 202, 203, 204, 205, 206, 207, 208, 209, 210, 211, 212, 213, 214, 215, 216, 217, 156, 157, 158, 159, 160, 161, 162, 163, 164, 165, 166, 167, 168, 218, 219, 220] (by decide +kernel) (by decide +kernel)
set_option maxRecDepth 20000 in
theorem gX11_rest_X0_playGame : GoodIn wsX11_rest (wsV RX11 243 RX0 yX0_playGame wsX0_playGame) := goodIn_app (goodIn_of _ (by decide +kernel)) ggX11_rest_X0_playGame
theorem dX11_rest_0 : decode cX11_rest 0 = .ok (.aload_n 0, 1) := by decide +kernel
theorem dX11_rest_1 : decode cX11_rest 1 = .ok (.iload_n 1, 1) := by decide +kernel
theorem dX11_rest_2 : decode cX11_rest 2 = .ok (.invokevirtual 115, 3) := by decide +kernel
theorem dX11_rest_5 : decode cX11_rest 5 = .ok (.ifCond .eq 20, 3) := by decide +kernel
theorem dX11_rest_8 : decode cX11_rest 8 = .ok (.aload_n 0, 1) := by decide +kernel
theorem dX11_rest_9 : decode cX11_rest 9 = .ok (.iload_n 2, 1) := by decide +kernel
theorem dX11_rest_10 : decode cX11_rest 10 = .ok (.invokevirtual 115, 3) := by decide +kernel
theorem dX11_rest_13 : decode cX11_rest 13 = .ok (.ifCond .eq 12, 3) := by decide +kernel
theorem dX11_rest_16 : decode cX11_rest 16 = .ok (.iload_n 1, 1) := by decide +kernel
theorem dX11_rest_17 : decode cX11_rest 17 = .ok (.iload_n 2, 1) := by decide +kernel
theorem dX11_rest_18 : decode cX11_rest 18 = .ok (.if_icmp .eq 7, 3) := by decide +kernel
theorem dX11_rest_21 : decode cX11_rest 21 = .ok (.iload_n 3, 1) := by decide +kernel
theorem dX11_rest_22 : decode cX11_rest 22 = .ok (.ifCond .ge 5, 3) := by decide +kernel
theorem dX11_rest_25 : decode cX11_rest 25 = .ok (.iconst (-1), 1) := by decide +kernel
theorem dX11_rest_26 : decode cX11_rest 26 = .ok (.ireturn, 1) := by decide +kernel
theorem dX11_rest_27 : decode cX11_rest 27 = .ok (.aload_n 0, 1) := by decide +kernel
theorem dX11_rest_28 : decode cX11_rest 28 = .ok (.getfield 74, 3) := by decide +kernel
theorem dX11_rest_31 : decode cX11_rest 31 = .ok (.aload_n 0, 1) := by decide +kernel
theorem dX11_rest_32 : decode cX11_rest 32 = .ok (.getfield 37, 3) := by decide +kernel
theorem dX11_rest_35 : decode cX11_rest 35 = .ok (.aload_n 0, 1) := by decide +kernel
theorem dX11_rest_36 : decode cX11_rest 36 = .ok (.getfield 47, 3) := by decide +kernel
theorem dX11_rest_39 : decode cX11_rest 39 = .ok (.iload_n 1, 1) := by decide +kernel
theorem dX11_rest_40 : decode cX11_rest 40 = .ok (.iload_n 2, 1) := by decide +kernel
theorem dX11_rest_41 : decode cX11_rest 41 = .ok (.invokevirtual 243, 3) := by decide +kernel
theorem dX11_rest_44 : decode cX11_rest 44 = .ok (.iload_n 3, 1) := by decide +kernel
theorem dX11_rest_45 : decode cX11_rest 45 = .ok (.aload_n 0, 1) := by decide +kernel
theorem dX11_rest_46 : decode cX11_rest 46 = .ok (.getfield 74, 3) := by decide +kernel
theorem dX11_rest_49 : decode cX11_rest 49 = .ok (.getfield 247, 3) := by decide +kernel
theorem dX11_rest_52 : decode cX11_rest 52 = .ok (.if_icmp .ge 15, 3) := by decide +kernel
theorem dX11_rest_55 : decode cX11_rest 55 = .ok (.aload_n 0, 1) := by decide +kernel
theorem dX11_rest_56 : decode cX11_rest 56 = .ok (.getfield 74, 3) := by decide +kernel
theorem dX11_rest_59 : decode cX11_rest 59 = .ok (.getfield 250, 3) := by decide +kernel
theorem dX11_rest_62 : decode cX11_rest 62 = .ok (.iload_n 3, 1) := by decide +kernel
theorem dX11_rest_63 : decode cX11_rest 63 = .ok (.iaload, 1) := by decide +kernel
theorem dX11_rest_64 : decode cX11_rest 64 = .ok (.goto 5, 3) := by decide +kernel
theorem dX11_rest_67 : decode cX11_rest 67 = .ok (.bipush (-2), 2) := by decide +kernel
theorem dX11_rest_69 : decode cX11_rest 69 = .ok (.ireturn, 1) := by decide +kernel
set_option maxRecDepth 20000 in
theorem ggX11_rank_X10_lengthOf : GoodIn wsX11_rank wsX10_lengthOf := goodIn_r _ [8, 9, 44, 45, 46, 47, 48, 49, 50, 51] (by decide +kernel) (by decide +kernel)
set_option maxRecDepth 20000 in
theorem gX11_rank_X10_lengthOf : GoodIn wsX11_rank (wsV RX11 256 RX10 yX10_lengthOf wsX10_lengthOf) := goodIn_app (goodIn_of _ (by decide +kernel)) ggX11_rank_X10_lengthOf
set_option maxRecDepth 20000 in
theorem ggX11_rank_X10_isLargest : GoodIn wsX11_rank wsX10_isLargest := goodIn_r _ [13, 14, 9, 15, 44, 45, 46, 47, 48, 49, 50, 51] (by decide +kernel) (by decide +kernel)
set_option maxRecDepth 20000 in
theorem gX11_rank_X10_isLargest : GoodIn wsX11_rank (wsV RX11 259 RX10 yX10_isLargest wsX10_isLargest) := goodIn_app (goodIn_of _ (by decide +kernel)) ggX11_rank_X10_isLargest
theorem dX11_rank_0 : decode cX11_rank 0 = .ok (.iload_n 1, 1) := by decide +kernel
theorem dX11_rank_1 : decode cX11_rank 1 = .ok (.iconst 1, 1) := by decide +kernel
theorem dX11_rank_2 : decode cX11_rank 2 = .ok (.if_icmp .lt 18, 3) := by decide +kernel
theorem dX11_rank_5 : decode cX11_rank 5 = .ok (.iload_n 1, 1) := by decide +kernel
theorem dX11_rank_6 : decode cX11_rank 6 = .ok (.bipush 7, 2) := by decide +kernel
theorem dX11_rank_8 : decode cX11_rank 8 = .ok (.if_icmp .gt 12, 3) := by decide +kernel
theorem dX11_rank_11 : decode cX11_rank 11 = .ok (.iload_n 2, 1) := by decide +kernel
theorem dX11_rank_12 : decode cX11_rank 12 = .ok (.ifCond .lt 8, 3) := by decide +kernel
theorem dX11_rank_15 : decode cX11_rank 15 = .ok (.iload_n 2, 1) := by decide +kernel
theorem dX11_rank_16 : decode cX11_rank 16 = .ok (.iconst 1, 1) := by decide +kernel
theorem dX11_rank_17 : decode cX11_rank 17 = .ok (.if_icmp .le 5, 3) := by decide +kernel
theorem dX11_rank_20 : decode cX11_rank 20 = .ok (.iconst (-1), 1) := by decide +kernel
theorem dX11_rank_21 : decode cX11_rank 21 = .ok (.ireturn, 1) := by decide +kernel
theorem dX11_rank_22 : decode cX11_rank 22 = .ok (.iconst 0, 1) := by decide +kernel
theorem dX11_rank_23 : decode cX11_rank 23 = .ok (.istore_n 3, 1) := by decide +kernel
theorem dX11_rank_24 : decode cX11_rank 24 = .ok (.iconst 0, 1) := by decide +kernel
theorem dX11_rank_25 : decode cX11_rank 25 = .ok (.istore 4, 2) := by decide +kernel
theorem dX11_rank_27 : decode cX11_rank 27 = .ok (.iload 4, 2) := by decide +kernel
theorem dX11_rank_29 : decode cX11_rank 29 = .ok (.aload_n 0, 1) := by decide +kernel
theorem dX11_rank_30 : decode cX11_rank 30 = .ok (.getfield 18, 3) := by decide +kernel
theorem dX11_rank_33 : decode cX11_rank 33 = .ok (.getfield 150, 3) := by decide +kernel
theorem dX11_rank_36 : decode cX11_rank 36 = .ok (.getfield 253, 3) := by decide +kernel
theorem dX11_rank_39 : decode cX11_rank 39 = .ok (.if_icmp .ge 49, 3) := by decide +kernel
theorem dX11_rank_42 : decode cX11_rank 42 = .ok (.aload_n 0, 1) := by decide +kernel
theorem dX11_rank_43 : decode cX11_rank 43 = .ok (.getfield 18, 3) := by decide +kernel
theorem dX11_rank_46 : decode cX11_rank 46 = .ok (.getfield 150, 3) := by decide +kernel
theorem dX11_rank_49 : decode cX11_rank 49 = .ok (.iload 4, 2) := by decide +kernel
theorem dX11_rank_51 : decode cX11_rank 51 = .ok (.invokevirtual 256, 3) := by decide +kernel
theorem dX11_rank_54 : decode cX11_rank 54 = .ok (.iload_n 1, 1) := by decide +kernel
theorem dX11_rank_55 : decode cX11_rank 55 = .ok (.if_icmp .lt 27, 3) := by decide +kernel
theorem dX11_rank_58 : decode cX11_rank 58 = .ok (.iload_n 2, 1) := by decide +kernel
theorem dX11_rank_59 : decode cX11_rank 59 = .ok (.iconst 1, 1) := by decide +kernel
theorem dX11_rank_60 : decode cX11_rank 60 = .ok (.if_icmp .eq 19, 3) := by decide +kernel
theorem dX11_rank_63 : decode cX11_rank 63 = .ok (.aload_n 0, 1) := by decide +kernel
theorem dX11_rank_64 : decode cX11_rank 64 = .ok (.getfield 18, 3) := by decide +kernel
theorem dX11_rank_67 : decode cX11_rank 67 = .ok (.getfield 150, 3) := by decide +kernel
theorem dX11_rank_70 : decode cX11_rank 70 = .ok (.iload 4, 2) := by decide +kernel
theorem dX11_rank_72 : decode cX11_rank 72 = .ok (.iload_n 1, 1) := by decide +kernel
theorem dX11_rank_73 : decode cX11_rank 73 = .ok (.invokevirtual 259, 3) := by decide +kernel
theorem dX11_rank_76 : decode cX11_rank 76 = .ok (.ifCond .eq 6, 3) := by decide +kernel
theorem dX11_rank_79 : decode cX11_rank 79 = .ok (.iinc 3 1, 3) := by decide +kernel
theorem dX11_rank_82 : decode cX11_rank 82 = .ok (.iinc 4 1, 3) := by decide +kernel
theorem dX11_rank_85 : decode cX11_rank 85 = .ok (.goto (-58), 3) := by decide +kernel
theorem dX11_rank_88 : decode cX11_rank 88 = .ok (.iload_n 3, 1) := by decide +kernel
theorem dX11_rank_89 : decode cX11_rank 89 = .ok (.ireturn, 1) := by decide +kernel
set_option maxRecDepth 20000 in
theorem ggX11_plan_X11_isSurfer : GoodIn wsX11_plan wsX11_isSurfer := goodIn_r _ [9, 10, 11, 12, 124, 125, 126, 127, 128, 129, 130, 131, 132, 133, 134, 135, 136, 137, 151, 152, 153, 154, 155, 156, 157, 158, 159, 160, 161, 162, 163, 164, 165, 166, 167, 168, 169, 170, 171] (by decide +kernel) (by decide +kernel)
set_option maxRecDepth 20000 in
theorem gX11_plan_X11_isSurfer : GoodIn wsX11_plan (wsV RX11 115 RX11 yX11_isSurfer wsX11_isSurfer) := goodIn_app (goodIn_of _ (by decide +kernel)) ggX11_plan_X11_isSurfer
set_option maxRecDepth 20000 in
theorem ggX11_plan_X0_makePlan : GoodIn wsX11_plan wsX0_makePlan := goodIn_r _ [17, 18, 19, 20, 21, 22, 23, 24, 25, 26, 27, 28, 29, 30, 31, 32, 33, 34, 35, 36, 37, 38, 39, 40, 41, 42, 43, 44, 45, 46, 47, 48, 49, 50, 51, 52, 53, 54, 55, 56, 57, 58, 59, 60, 61, 62, 63, 64, 65, 66, 67, 68, 69, 70, 71, 72, 73, 74, 75, 76, 77, 78, 79, 80, 81, 82, 83, 84, 85, 86, 87, 88, 89, 90, 91, 92, 93, 94, 95, 96, 97, 98, 99, 100, 101, 102, 103, 104, 105, 106, 107, 108, 109, 110, 111, 112, 113, 114, 115, 116, 117, 118, 119, 120, 16, 121, 122, 123, 172, 173, 174, 175, 176, 177, 178, 179, 180, 151, 152, 153, 154, 155, 156, 157, 158, 159, 160, 161, 162, 163, 164, 181, 182, 183, 184, 185, 186, 187, 188, 189, 190, 191, 138, 139, 140, 141, 142, 143, 144, 145, 146, 147, 148, 149, 150, 192, 193, 194, 195, 196, 197, 198, 199, 200, 201, 202] (by decide +kernel) (by decide +kernel)
set_option maxRecDepth 20000 in
theorem gX11_plan_X0_makePlan : GoodIn wsX11_plan (wsV RX11 262 RX0 yX0_makePlan wsX0_makePlan) := goodIn_app (goodIn_of _ (by decide +kernel)) ggX11_plan_X0_makePlan
theorem dX11_plan_0 : decode cX11_plan 0 = .ok (.aload_n 0, 1) := by decide +kernel
theorem dX11_plan_1 : decode cX11_plan 1 = .ok (.iload_n 1, 1) := by decide +kernel
theorem dX11_plan_2 : decode cX11_plan 2 = .ok (.invokevirtual 115, 3) := by decide +kernel
theorem dX11_plan_5 : decode cX11_plan 5 = .ok (.ifCond .ne 5, 3) := by decide +kernel
theorem dX11_plan_8 : decode cX11_plan 8 = .ok (.iconst (-1), 1) := by decide +kernel
theorem dX11_plan_9 : decode cX11_plan 9 = .ok (.ireturn, 1) := by decide +kernel
theorem dX11_plan_10 : decode cX11_plan 10 = .ok (.aload_n 0, 1) := by decide +kernel
theorem dX11_plan_11 : decode cX11_plan 11 = .ok (.getfield 74, 3) := by decide +kernel
theorem dX11_plan_14 : decode cX11_plan 14 = .ok (.aload_n 0, 1) := by decide +kernel
theorem dX11_plan_15 : decode cX11_plan 15 = .ok (.getfield 37, 3) := by decide +kernel
theorem dX11_plan_18 : decode cX11_plan 18 = .ok (.aload_n 0, 1) := by decide +kernel
theorem dX11_plan_19 : decode cX11_plan 19 = .ok (.getfield 47, 3) := by decide +kernel
theorem dX11_plan_22 : decode cX11_plan 22 = .ok (.iload_n 1, 1) := by decide +kernel
theorem dX11_plan_23 : decode cX11_plan 23 = .ok (.invokevirtual 262, 3) := by decide +kernel
theorem dX11_plan_26 : decode cX11_plan 26 = .ok (.aload_n 0, 1) := by decide +kernel
theorem dX11_plan_27 : decode cX11_plan 27 = .ok (.getfield 74, 3) := by decide +kernel
theorem dX11_plan_30 : decode cX11_plan 30 = .ok (.getfield 266, 3) := by decide +kernel
theorem dX11_plan_33 : decode cX11_plan 33 = .ok (.ireturn, 1) := by decide +kernel
set_option maxRecDepth 20000 in
theorem ggX11_planned_X11_isSurfer : GoodIn wsX11_planned wsX11_isSurfer := goodIn_r _ [10, 11, 12, 13, 125, 126, 127, 128, 129, 130, 131, 132, 133, 134, 135, 136, 137, 138, 152, 153, 154, 155, 156, 157, 158, 159, 160, 161, 162, 163, 164, 165, 166, 167, 168, 169, 170, 171, 172] (by decide +kernel) (by decide +kernel)
set_option maxRecDepth 20000 in
theorem gX11_planned_X11_isSurfer : GoodIn wsX11_planned (wsV RX11 115 RX11 yX11_isSurfer wsX11_isSurfer) := goodIn_app (goodIn_of _ (by decide +kernel)) ggX11_planned_X11_isSurfer
set_option maxRecDepth 20000 in
theorem ggX11_planned_X0_makePlan : GoodIn wsX11_planned wsX0_makePlan := goodIn_r _ [18, 19, 20, 21, 22, 23, 24, 25, 26, 27, 28, 29, 30, 31, 32, 33, 34, 35, 36, 37, 38, 39, 40, 41, 42, 43, 44, 45, 46, 47, 48, 49, 50, 51, 52, 53, 54, 55, 56, 57, 58, 59, 60, 61, 62, 63, 64, 65, 66, 67, 68, 69, 70, 71, 72, 73, 74, 75, 76, 77, 78, 79, 80, 81, 82, 83, 84, 85, 86, 87, 88, 89, 90, 91, 92, 93, 94, 95, 96, 97, 98, 99, 100, 101, 102, 103, 104, 105, 106, 107, 108, 109, 110, 111, 112, 113, 114, 115, 116, 117, 118, 119, 120, 121, 17, 122, 123, 124, 173, 174, 175, 176, 177, 178, 179, 180, 181, 152, 153, 154, 155, 156, 157, 158, 159, 160, 161, 162, 163, 164, 165, 182, 183, 184, 185, 186, 187, 188, 189, 190, 191, 192, 139, 140, 141, 142, 143, 144, 145, 146, 147, 148, 149, 150, 151, 193, 194, 195, 196, 197, 198, 199, 200, 201, 202, 203] (by decide +kernel) (by decide +kernel)
set_option maxRecDepth 20000 in
theorem gX11_planned_X0_makePlan : GoodIn wsX11_planned (wsV RX11 262 RX0 yX0_makePlan wsX0_makePlan) := goodIn_app (goodIn_of _ (by decide +kernel)) ggX11_planned_X0_makePlan
theorem dX11_planned_0 : decode cX11_planned 0 = .ok (.aload_n 0, 1) := by decide +kernel
theorem dX11_planned_1 : decode cX11_planned 1 = .ok (.iload_n 1, 1) := by decide +kernel
theorem dX11_planned_2 : decode cX11_planned 2 = .ok (.invokevirtual 115, 3) := by decide +kernel
theorem dX11_planned_5 : decode cX11_planned 5 = .ok (.ifCond .eq 7, 3) := by decide +kernel
theorem dX11_planned_8 : decode cX11_planned 8 = .ok (.iload_n 2, 1) := by decide +kernel
theorem dX11_planned_9 : decode cX11_planned 9 = .ok (.ifCond .ge 5, 3) := by decide +kernel
theorem dX11_planned_12 : decode cX11_planned 12 = .ok (.iconst (-1), 1) := by decide +kernel
theorem dX11_planned_13 : decode cX11_planned 13 = .ok (.ireturn, 1) := by decide +kernel
theorem dX11_planned_14 : decode cX11_planned 14 = .ok (.aload_n 0, 1) := by decide +kernel
theorem dX11_planned_15 : decode cX11_planned 15 = .ok (.getfield 74, 3) := by decide +kernel
theorem dX11_planned_18 : decode cX11_planned 18 = .ok (.aload_n 0, 1) := by decide +kernel
theorem dX11_planned_19 : decode cX11_planned 19 = .ok (.getfield 37, 3) := by decide +kernel
theorem dX11_planned_22 : decode cX11_planned 22 = .ok (.aload_n 0, 1) := by decide +kernel
theorem dX11_planned_23 : decode cX11_planned 23 = .ok (.getfield 47, 3) := by decide +kernel
theorem dX11_planned_26 : decode cX11_planned 26 = .ok (.iload_n 1, 1) := by decide +kernel
theorem dX11_planned_27 : decode cX11_planned 27 = .ok (.invokevirtual 262, 3) := by decide +kernel
theorem dX11_planned_30 : decode cX11_planned 30 = .ok (.iload_n 2, 1) := by decide +kernel
theorem dX11_planned_31 : decode cX11_planned 31 = .ok (.aload_n 0, 1) := by decide +kernel
theorem dX11_planned_32 : decode cX11_planned 32 = .ok (.getfield 74, 3) := by decide +kernel
theorem dX11_planned_35 : decode cX11_planned 35 = .ok (.getfield 269, 3) := by decide +kernel
theorem dX11_planned_38 : decode cX11_planned 38 = .ok (.if_icmp .ge 15, 3) := by decide +kernel
theorem dX11_planned_41 : decode cX11_planned 41 = .ok (.aload_n 0, 1) := by decide +kernel
theorem dX11_planned_42 : decode cX11_planned 42 = .ok (.getfield 74, 3) := by decide +kernel
theorem dX11_planned_45 : decode cX11_planned 45 = .ok (.getfield 272, 3) := by decide +kernel
theorem dX11_planned_48 : decode cX11_planned 48 = .ok (.iload_n 2, 1) := by decide +kernel
theorem dX11_planned_49 : decode cX11_planned 49 = .ok (.iaload, 1) := by decide +kernel
theorem dX11_planned_50 : decode cX11_planned 50 = .ok (.goto 5, 3) := by decide +kernel
theorem dX11_planned_53 : decode cX11_planned 53 = .ok (.bipush (-2), 2) := by decide +kernel
theorem dX11_planned_55 : decode cX11_planned 55 = .ok (.ireturn, 1) := by decide +kernel
set_option maxRecDepth 20000 in
theorem ggX11_go_X11_isSurfer : GoodIn wsX11_go wsX11_isSurfer := goodIn_r _ [8, 9, 10, 11, 140, 141, 142, 143, 144, 145, 146, 147, 148, 149, 150, 151, 152, 153, 165, 166, 167, 168, 169, 170, 171, 172, 173, 174, 175, 176, 177, 178, 179, 180, 181, 182, 183, 184, 185] (by decide +kernel) (by decide +kernel)
set_option maxRecDepth 20000 in
theorem gX11_go_X11_isSurfer : GoodIn wsX11_go (wsV RX11 115 RX11 yX11_isSurfer wsX11_isSurfer) := goodIn_app (goodIn_of _ (by decide +kernel)) ggX11_go_X11_isSurfer
set_option maxRecDepth 20000 in
theorem ggX11_go_X11_isToCome : GoodIn wsX11_go wsX11_isToCome := goodIn_r _ [15, 9, 16, 17, 2, 18, 19, 20, 21, 7, 22, 23, 140, 141, 142, 143, 144, 145, 146, 147, 148, 149, 150, 151, 152, 153, 165, 166, 167, 168, 169, 170, 171, 172, 173, 174, 175, 176, 177, 178, 186, 187, 188, 189, 190, 191, 192, 193, 154, 155, 156, 157, 158, 159, 160, 161, 162, 163, 164] (by decide +kernel) (by decide +kernel)
set_option maxRecDepth 20000 in
theorem gX11_go_X11_isToCome : GoodIn wsX11_go (wsV RX11 223 RX11 yX11_isToCome wsX11_isToCome) := goodIn_app (goodIn_of _ (by decide +kernel)) ggX11_go_X11_isToCome
set_option maxRecDepth 20000 in
theorem ggX11_go_X6_worthAt : GoodIn wsX11_go wsX6_worthAt := goodIn_r _ [28, 29, 30, 31, 32, 33, 34, 27, 35, 36, 37, 38, 39, 40, 41, 42, 43, 44, 45, 46, 47, 48, 49, 50, 51, 52, 53, 54, 55, 56, 57, 58, 59, 60, 61, 62, 63, 64, 65, 66, 67, 68, 69, 70, 71, 72, 73, 74, 75, 76, 77, 78, 79, 80, 81, 82, 83, 84, 85, 86, 87, 88, 89, 90, 91, 92, 93, 94, 95, 96, 97, 98, 99, 100, 194, 195, 196, 197, 198, 199, 200, 201, 202, 165, 166, 167, 168, 169, 170, 171, 172, 173, 174, 175, 176, 177, 178, 186, 187, 188, 189, 190, 191, 192, 193, 203, 204, 205] (by decide +kernel) (by decide +kernel)
set_option maxRecDepth 20000 in
theorem gX11_go_X6_worthAt : GoodIn wsX11_go (wsV RX11 275 RX6 yX6_worthAt wsX6_worthAt) := goodIn_app (goodIn_of _ (by decide +kernel)) ggX11_go_X6_worthAt
set_option maxRecDepth 20000 in
theorem ggX11_go_X6_crossingOdds : GoodIn wsX11_go wsX6_crossingOdds := goodIn_r _ [104, 105, 106, 107, 108, 109, 110, 111, 27, 112, 29, 113, 114, 115, 116, 117, 118, 119, 120, 121, 122, 32, 33, 34, 35, 36, 37, 38, 39, 40, 41, 42, 43, 44, 45, 46, 47, 48, 49, 50, 51, 52, 53, 54, 55, 56, 57, 58, 59, 60, 61, 30, 31, 62, 63, 64, 65, 66, 67, 68, 69, 70, 71, 72, 73, 74, 75, 76, 77, 78, 79, 80, 81, 82, 83, 84, 85, 86, 87, 88, 89, 90, 91, 92, 93, 94, 95, 96, 97, 98, 99, 100, 123, 124, 125, 126, 127, 128, 129, 130, 131, 132, 133, 134, 135, 136, 137, 138, 139, 154, 155, 156, 157, 158, 159, 160, 161, 162, 163, 164, 194, 195, 196, 197, 198, 199, 200, 201, 202, 165, 166, 167, 168, 169, 170, 171, 172, 173, 174, 175, 176, 177, 178, 179, 180, 181, 182, 183, 184, 185, 186, 187, 188, 189, 190, 191, 192, 193, 203, 204, 205] (by decide +kernel) (by decide +kernel)
set_option maxRecDepth 20000 in
theorem gX11_go_X6_crossingOdds : GoodIn wsX11_go (wsV RX11 278 RX6 yX6_crossingOdds wsX6_crossingOdds) := goodIn_app (goodIn_of _ (by decide +kernel)) ggX11_go_X6_crossingOdds
theorem dX11_go_0 : decode cX11_go 0 = .ok (.aload_n 0, 1) := by decide +kernel
theorem dX11_go_1 : decode cX11_go 1 = .ok (.iload_n 1, 1) := by decide +kernel
theorem dX11_go_2 : decode cX11_go 2 = .ok (.invokevirtual 115, 3) := by decide +kernel
theorem dX11_go_5 : decode cX11_go 5 = .ok (.ifCond .eq 22, 3) := by decide +kernel
theorem dX11_go_8 : decode cX11_go 8 = .ok (.aload_n 0, 1) := by decide +kernel
theorem dX11_go_9 : decode cX11_go 9 = .ok (.iload_n 2, 1) := by decide +kernel
theorem dX11_go_10 : decode cX11_go 10 = .ok (.invokevirtual 223, 3) := by decide +kernel
theorem dX11_go_13 : decode cX11_go 13 = .ok (.ifCond .eq 14, 3) := by decide +kernel
theorem dX11_go_16 : decode cX11_go 16 = .ok (.iload_n 3, 1) := by decide +kernel
theorem dX11_go_17 : decode cX11_go 17 = .ok (.ifCond .lt 10, 3) := by decide +kernel
theorem dX11_go_20 : decode cX11_go 20 = .ok (.iload_n 3, 1) := by decide +kernel
theorem dX11_go_21 : decode cX11_go 21 = .ok (.sipush 999, 3) := by decide +kernel
theorem dX11_go_24 : decode cX11_go 24 = .ok (.if_icmp .le 5, 3) := by decide +kernel
theorem dX11_go_27 : decode cX11_go 27 = .ok (.iconst (-1), 1) := by decide +kernel
theorem dX11_go_28 : decode cX11_go 28 = .ok (.ireturn, 1) := by decide +kernel
theorem dX11_go_29 : decode cX11_go 29 = .ok (.aload_n 0, 1) := by decide +kernel
theorem dX11_go_30 : decode cX11_go 30 = .ok (.getfield 37, 3) := by decide +kernel
theorem dX11_go_33 : decode cX11_go 33 = .ok (.iload_n 1, 1) := by decide +kernel
theorem dX11_go_34 : decode cX11_go 34 = .ok (.iload_n 2, 1) := by decide +kernel
theorem dX11_go_35 : decode cX11_go 35 = .ok (.aload_n 0, 1) := by decide +kernel
theorem dX11_go_36 : decode cX11_go 36 = .ok (.getfield 47, 3) := by decide +kernel
theorem dX11_go_39 : decode cX11_go 39 = .ok (.getfield 122, 3) := by decide +kernel
theorem dX11_go_42 : decode cX11_go 42 = .ok (.iload_n 1, 1) := by decide +kernel
theorem dX11_go_43 : decode cX11_go 43 = .ok (.iaload, 1) := by decide +kernel
theorem dX11_go_44 : decode cX11_go 44 = .ok (.invokevirtual 275, 3) := by decide +kernel
theorem dX11_go_47 : decode cX11_go 47 = .ok (.istore 4, 2) := by decide +kernel
theorem dX11_go_49 : decode cX11_go 49 = .ok (.iload 4, 2) := by decide +kernel
theorem dX11_go_51 : decode cX11_go 51 = .ok (.iload_n 3, 1) := by decide +kernel
theorem dX11_go_52 : decode cX11_go 52 = .ok (.aload_n 0, 1) := by decide +kernel
theorem dX11_go_53 : decode cX11_go 53 = .ok (.getfield 37, 3) := by decide +kernel
theorem dX11_go_56 : decode cX11_go 56 = .ok (.aload_n 0, 1) := by decide +kernel
theorem dX11_go_57 : decode cX11_go 57 = .ok (.getfield 47, 3) := by decide +kernel
theorem dX11_go_60 : decode cX11_go 60 = .ok (.iload_n 1, 1) := by decide +kernel
theorem dX11_go_61 : decode cX11_go 61 = .ok (.iload_n 2, 1) := by decide +kernel
theorem dX11_go_62 : decode cX11_go 62 = .ok (.invokevirtual 278, 3) := by decide +kernel
theorem dX11_go_65 : decode cX11_go 65 = .ok (.imul, 1) := by decide +kernel
theorem dX11_go_66 : decode cX11_go 66 = .ok (.if_icmp .le 7, 3) := by decide +kernel
theorem dX11_go_69 : decode cX11_go 69 = .ok (.iconst 1, 1) := by decide +kernel
theorem dX11_go_70 : decode cX11_go 70 = .ok (.goto 4, 3) := by decide +kernel
theorem dX11_go_73 : decode cX11_go 73 = .ok (.iconst 0, 1) := by decide +kernel
theorem dX11_go_74 : decode cX11_go 74 = .ok (.ireturn, 1) := by decide +kernel
set_option maxRecDepth 20000 in
theorem ggX11_give_X11_isSurfer : GoodIn wsX11_give wsX11_isSurfer := goodIn_r _ [8, 1, 2, 9, 10, 11, 12, 13, 14, 15, 16, 17, 18, 19, 20, 21, 22, 23, 24, 25, 26, 27, 28, 29, 30, 31, 32, 33, 34, 35, 36, 37, 38, 39, 40, 41, 42, 43, 44] (by decide +kernel) (by decide +kernel)
set_option maxRecDepth 20000 in
theorem gX11_give_X11_isSurfer : GoodIn wsX11_give (wsV RX11 115 RX11 yX11_isSurfer wsX11_isSurfer) := goodIn_app (goodIn_of _ (by decide +kernel)) ggX11_give_X11_isSurfer
theorem dX11_give_0 : decode cX11_give 0 = .ok (.aload_n 0, 1) := by decide +kernel
theorem dX11_give_1 : decode cX11_give 1 = .ok (.iload_n 1, 1) := by decide +kernel
theorem dX11_give_2 : decode cX11_give 2 = .ok (.invokevirtual 115, 3) := by decide +kernel
theorem dX11_give_5 : decode cX11_give 5 = .ok (.ifCond .eq 26, 3) := by decide +kernel
theorem dX11_give_8 : decode cX11_give 8 = .ok (.aload_n 0, 1) := by decide +kernel
theorem dX11_give_9 : decode cX11_give 9 = .ok (.iload_n 2, 1) := by decide +kernel
theorem dX11_give_10 : decode cX11_give 10 = .ok (.invokevirtual 115, 3) := by decide +kernel
theorem dX11_give_13 : decode cX11_give 13 = .ok (.ifCond .eq 18, 3) := by decide +kernel
theorem dX11_give_16 : decode cX11_give 16 = .ok (.iload_n 1, 1) := by decide +kernel
theorem dX11_give_17 : decode cX11_give 17 = .ok (.iload_n 2, 1) := by decide +kernel
theorem dX11_give_18 : decode cX11_give 18 = .ok (.if_icmp .eq 13, 3) := by decide +kernel
theorem dX11_give_21 : decode cX11_give 21 = .ok (.iload_n 3, 1) := by decide +kernel
theorem dX11_give_22 : decode cX11_give 22 = .ok (.ifCond .lt 9, 3) := by decide +kernel
theorem dX11_give_25 : decode cX11_give 25 = .ok (.iload_n 3, 1) := by decide +kernel
theorem dX11_give_26 : decode cX11_give 26 = .ok (.bipush 99, 2) := by decide +kernel
theorem dX11_give_28 : decode cX11_give 28 = .ok (.if_icmp .le 5, 3) := by decide +kernel
theorem dX11_give_31 : decode cX11_give 31 = .ok (.iconst (-1), 1) := by decide +kernel
theorem dX11_give_32 : decode cX11_give 32 = .ok (.ireturn, 1) := by decide +kernel
theorem dX11_give_33 : decode cX11_give 33 = .ok (.aload_n 0, 1) := by decide +kernel
theorem dX11_give_34 : decode cX11_give 34 = .ok (.getfield 18, 3) := by decide +kernel
theorem dX11_give_37 : decode cX11_give 37 = .ok (.getfield 102, 3) := by decide +kernel
theorem dX11_give_40 : decode cX11_give 40 = .ok (.getfield 281, 3) := by decide +kernel
theorem dX11_give_43 : decode cX11_give 43 = .ok (.iload_n 2, 1) := by decide +kernel
theorem dX11_give_44 : decode cX11_give 44 = .ok (.iaload, 1) := by decide +kernel
theorem dX11_give_45 : decode cX11_give 45 = .ok (.iload_n 3, 1) := by decide +kernel
theorem dX11_give_46 : decode cX11_give 46 = .ok (.imul, 1) := by decide +kernel
theorem dX11_give_47 : decode cX11_give 47 = .ok (.bipush 100, 2) := by decide +kernel
theorem dX11_give_49 : decode cX11_give 49 = .ok (.if_icmp .le 7, 3) := by decide +kernel
theorem dX11_give_52 : decode cX11_give 52 = .ok (.iconst 1, 1) := by decide +kernel
theorem dX11_give_53 : decode cX11_give 53 = .ok (.goto 4, 3) := by decide +kernel
theorem dX11_give_56 : decode cX11_give 56 = .ok (.iconst 0, 1) := by decide +kernel
theorem dX11_give_57 : decode cX11_give 57 = .ok (.ireturn, 1) := by decide +kernel
set_option maxRecDepth 20000 in
theorem ggX11_table_X11_isRule : GoodIn wsX11_table wsX11_isRule := goodIn_r _ [12] (by decide +kernel) (by decide +kernel)
set_option maxRecDepth 20000 in
theorem gX11_table_X11_isRule : GoodIn wsX11_table (wsV RX11 214 RX11 yX11_isRule wsX11_isRule) := goodIn_app (goodIn_of _ (by decide +kernel)) ggX11_table_X11_isRule
set_option maxRecDepth 20000 in
theorem ggX11_table_X11_isSurfer : GoodIn wsX11_table wsX11_isSurfer := goodIn_r _ [16, 4, 5, 6, 206, 207, 208, 209, 210, 211, 212, 213, 214, 215, 216, 217, 218, 219, 231, 232, 233, 234, 235, 236, 237, 238, 239, 240, 241, 242, 243, 244, 245, 246, 247, 248, 249, 250, 251] (by decide +kernel) (by decide +kernel)
set_option maxRecDepth 20000 in
theorem gX11_table_X11_isSurfer : GoodIn wsX11_table (wsV RX11 115 RX11 yX11_isSurfer wsX11_isSurfer) := goodIn_app (goodIn_of _ (by decide +kernel)) ggX11_table_X11_isSurfer
set_option maxRecDepth 20000 in
theorem ggX11_table_X11_runBy : GoodIn wsX11_table wsX11_runBy := goodIn_r _ [20, 1, 21, 4, 22, 23, 24, 25, 26, 27, 28, 29, 30, 31, 32, 33, 34, 35, 36, 37, 38, 39, 40, 41, 42, 43, 44, 45, 46, 47, 48, 49, 50, 51, 11, 52, 53, 54, 55, 56, 57, 58, 59, 60, 61, 62, 63, 64, 65, 66, 67, 68, 69, 70, 71, 72, 73, 74, 75, 76, 77, 78, 79, 80, 81, 82, 83, 84, 85, 86, 87, 88, 89, 90, 91, 92, 93, 94, 95, 96, 97, 98, 99, 100, 101, 102, 103, 104, 105, 106, 107, 108, 109, 110, 111, 112, 113, 114, 115, 116, 117, 118, 119, 120, 121, 122, 123, 124, 125, 126, 127, 128, 129, 130, 131, 132, 133, 134, 135, 136, 137, 138, 139, 140, 141, 142, 143, 144, 145, 146, 147, 148, 149, 150, 151, 152, 153, 154, 155, 156, 157, 158, 159, 160, 161, 162, 163, 164, 165, 166, 167, 168, 169, 170, 171, 172, 173, 174, 175, 176, 177, 178, 179, 180, 181, 182, 183, 184, 185, 186, 187, 188, 189, 190, 191, 192, 193, 194, 195, 196, 197, 206, 207, 208, 209, 210, 211, 212, 213, 214, 215, 216, 217, 218, 219, 231, 232, 233, 234, 235, 236, 237, 238, 239, 240, 241, 242, 243, 244, 252, 253, 254, 255, 256, 257, 258, 259, 220, 221, 222, 223, 224, 225, 226, 227, 228, 229, 230, 260, 261, 262, 263, 264, 265, 266, 267, 268, 245, 246, 247, 248, 249, 250, 251, 269, 270, 271] (by decide +kernel) (by decide +kernel)
set_option maxRecDepth 20000 in
theorem gX11_table_X11_runBy : GoodIn wsX11_table (wsV RX11 284 RX11 yX11_runBy wsX11_runBy) := goodIn_app (goodIn_of _ (by decide +kernel)) ggX11_table_X11_runBy
set_option maxRecDepth 20000 in
theorem ggX11_table_X4_unlike : GoodIn wsX11_table wsX4_unlike := goodIn_r _ [201, 44, 202, 97, 98, 99, 203, 204, 205, 220, 221, 222, 223, 224, 225, 226, 227, 228, 229, 230] (by decide +kernel) (by decide +kernel)
set_option maxRecDepth 20000 in
theorem gX11_table_X4_unlike : GoodIn wsX11_table (wsV RX11 293 RX4 yX4_unlike wsX4_unlike) := goodIn_app (goodIn_of _ (by decide +kernel)) ggX11_table_X4_unlike
theorem dX11_table_0 : decode cX11_table 0 = .ok (.aload_n 0, 1) := by decide +kernel
theorem dX11_table_1 : decode cX11_table 1 = .ok (.iload_n 1, 1) := by decide +kernel
theorem dX11_table_2 : decode cX11_table 2 = .ok (.invokevirtual 214, 3) := by decide +kernel
theorem dX11_table_5 : decode cX11_table 5 = .ok (.ifCond .eq 17, 3) := by decide +kernel
theorem dX11_table_8 : decode cX11_table 8 = .ok (.iload_n 2, 1) := by decide +kernel
theorem dX11_table_9 : decode cX11_table 9 = .ok (.ifCond .lt 13, 3) := by decide +kernel
theorem dX11_table_12 : decode cX11_table 12 = .ok (.iload_n 3, 1) := by decide +kernel
theorem dX11_table_13 : decode cX11_table 13 = .ok (.ifCond .lt 9, 3) := by decide +kernel
theorem dX11_table_16 : decode cX11_table 16 = .ok (.iload_n 3, 1) := by decide +kernel
theorem dX11_table_17 : decode cX11_table 17 = .ok (.bipush 7, 2) := by decide +kernel
theorem dX11_table_19 : decode cX11_table 19 = .ok (.if_icmp .le 5, 3) := by decide +kernel
theorem dX11_table_22 : decode cX11_table 22 = .ok (.iconst (-1), 1) := by decide +kernel
theorem dX11_table_23 : decode cX11_table 23 = .ok (.ireturn, 1) := by decide +kernel
theorem dX11_table_24 : decode cX11_table 24 = .ok (.iload_n 3, 1) := by decide +kernel
theorem dX11_table_25 : decode cX11_table 25 = .ok (.iconst 5, 1) := by decide +kernel
theorem dX11_table_26 : decode cX11_table 26 = .ok (.if_icmp .ge 13, 3) := by decide +kernel
theorem dX11_table_29 : decode cX11_table 29 = .ok (.aload_n 0, 1) := by decide +kernel
theorem dX11_table_30 : decode cX11_table 30 = .ok (.iload_n 3, 1) := by decide +kernel
theorem dX11_table_31 : decode cX11_table 31 = .ok (.invokevirtual 115, 3) := by decide +kernel
theorem dX11_table_34 : decode cX11_table 34 = .ok (.ifCond .ne 5, 3) := by decide +kernel
theorem dX11_table_37 : decode cX11_table 37 = .ok (.iconst (-1), 1) := by decide +kernel
theorem dX11_table_38 : decode cX11_table 38 = .ok (.ireturn, 1) := by decide +kernel
theorem dX11_table_39 : decode cX11_table 39 = .ok (.aload_n 0, 1) := by decide +kernel
theorem dX11_table_40 : decode cX11_table 40 = .ok (.iload_n 1, 1) := by decide +kernel
theorem dX11_table_41 : decode cX11_table 41 = .ok (.iload_n 2, 1) := by decide +kernel
theorem dX11_table_42 : decode cX11_table 42 = .ok (.invokevirtual 284, 3) := by decide +kernel
theorem dX11_table_45 : decode cX11_table 45 = .ok (.iload_n 3, 1) := by decide +kernel
theorem dX11_table_46 : decode cX11_table 46 = .ok (.tableswitch 60 5 7 #[26, 34, 42], 26) := by decide +kernel
theorem dX11_table_72 : decode cX11_table 72 = .ok (.aload_n 0, 1) := by decide +kernel
theorem dX11_table_73 : decode cX11_table 73 = .ok (.getfield 51, 3) := by decide +kernel
theorem dX11_table_76 : decode cX11_table 76 = .ok (.getfield 287, 3) := by decide +kernel
theorem dX11_table_79 : decode cX11_table 79 = .ok (.ireturn, 1) := by decide +kernel
theorem dX11_table_80 : decode cX11_table 80 = .ok (.aload_n 0, 1) := by decide +kernel
theorem dX11_table_81 : decode cX11_table 81 = .ok (.getfield 51, 3) := by decide +kernel
theorem dX11_table_84 : decode cX11_table 84 = .ok (.getfield 290, 3) := by decide +kernel
theorem dX11_table_87 : decode cX11_table 87 = .ok (.ireturn, 1) := by decide +kernel
theorem dX11_table_88 : decode cX11_table 88 = .ok (.aload_n 0, 1) := by decide +kernel
theorem dX11_table_89 : decode cX11_table 89 = .ok (.getfield 51, 3) := by decide +kernel
theorem dX11_table_92 : decode cX11_table 92 = .ok (.aload_n 0, 1) := by decide +kernel
theorem dX11_table_93 : decode cX11_table 93 = .ok (.getfield 18, 3) := by decide +kernel
theorem dX11_table_96 : decode cX11_table 96 = .ok (.getfield 102, 3) := by decide +kernel
theorem dX11_table_99 : decode cX11_table 99 = .ok (.getfield 106, 3) := by decide +kernel
theorem dX11_table_102 : decode cX11_table 102 = .ok (.invokevirtual 293, 3) := by decide +kernel
theorem dX11_table_105 : decode cX11_table 105 = .ok (.ireturn, 1) := by decide +kernel
theorem dX11_table_106 : decode cX11_table 106 = .ok (.aload_n 0, 1) := by decide +kernel
theorem dX11_table_107 : decode cX11_table 107 = .ok (.getfield 51, 3) := by decide +kernel
theorem dX11_table_110 : decode cX11_table 110 = .ok (.getfield 125, 3) := by decide +kernel
theorem dX11_table_113 : decode cX11_table 113 = .ok (.iload_n 3, 1) := by decide +kernel
theorem dX11_table_114 : decode cX11_table 114 = .ok (.iaload, 1) := by decide +kernel
theorem dX11_table_115 : decode cX11_table 115 = .ok (.ireturn, 1) := by decide +kernel
set_option maxRecDepth 20000 in
theorem ggX11_fairest_X11_runBy : GoodIn wsX11_fairest wsX11_runBy := goodIn_r _ [11, 1, 12, 2, 13, 14, 15, 16, 17, 18, 19, 20, 21, 22, 23, 24, 25, 26, 27, 28, 29, 30, 31, 32, 33, 34, 35, 36, 37, 38, 39, 40, 41, 42, 10, 43, 44, 45, 46, 47, 48, 49, 50, 51, 52, 53, 54, 55, 56, 57, 58, 59, 60, 61, 62, 63, 64, 65, 66, 67, 68, 69, 70, 71, 72, 73, 74, 75, 76, 77, 78, 79, 80, 81, 82, 83, 84, 85, 86, 87, 88, 89, 90, 91, 92, 93, 94, 95, 96, 97, 98, 99, 100, 101, 102, 103, 104, 105, 106, 107, 108, 109, 110, 111, 112, 113, 114, 115, 116, 117, 118, 119, 120, 121, 122, 123, 124, 125, 126, 127, 128, 129, 130, 131, 132, 133, 134, 135, 136, 137, 138, 139, 140, 141, 142, 143, 144, 145, 146, 147, 148, 149, 150, 151, 152, 153, 154, 155, 156, 157, 158, 159, 160, 161, 162, 163, 164, 165, 166, 167, 168, 169, 170, 171, 172, 173, 174, 175, 176, 177, 178, 179, 180, 181, 182, 183, 184, 185, 186, 187, 188, 197, 198, 199, 200, 201, 202, 203, 204, 205, 206, 207, 208, 209, 210, 211, 212, 213, 214, 215, 216, 217, 218, 219, 220, 221, 222, 223, 224, 243, 244, 245, 246, 247, 248, 249, 250, 232, 233, 234, 235, 236, 237, 238, 239, 240, 241, 242, 251, 252, 253, 254, 255, 256, 257, 258, 259, 225, 226, 227, 228, 229, 230, 231, 260, 261, 262] (by decide +kernel) (by decide +kernel)
set_option maxRecDepth 20000 in
theorem gX11_fairest_X11_runBy : GoodIn wsX11_fairest (wsV RX11 284 RX11 yX11_runBy wsX11_runBy) := goodIn_app (goodIn_of _ (by decide +kernel)) ggX11_fairest_X11_runBy
set_option maxRecDepth 20000 in
theorem ggX11_fairest_X4_unlike : GoodIn wsX11_fairest wsX4_unlike := goodIn_r _ [192, 35, 193, 88, 89, 90, 194, 195, 196, 232, 233, 234, 235, 236, 237, 238, 239, 240, 241, 242] (by decide +kernel) (by decide +kernel)
set_option maxRecDepth 20000 in
theorem gX11_fairest_X4_unlike : GoodIn wsX11_fairest (wsV RX11 293 RX4 yX4_unlike wsX4_unlike) := goodIn_app (goodIn_of _ (by decide +kernel)) ggX11_fairest_X4_unlike
theorem dX11_fairest_0 : decode cX11_fairest 0 = .ok (.iload_n 1, 1) := by decide +kernel
theorem dX11_fairest_1 : decode cX11_fairest 1 = .ok (.ifCond .ge 5, 3) := by decide +kernel
theorem dX11_fairest_4 : decode cX11_fairest 4 = .ok (.iconst (-1), 1) := by decide +kernel
theorem dX11_fairest_5 : decode cX11_fairest 5 = .ok (.ireturn, 1) := by decide +kernel
theorem dX11_fairest_6 : decode cX11_fairest 6 = .ok (.iconst (-1), 1) := by decide +kernel
theorem dX11_fairest_7 : decode cX11_fairest 7 = .ok (.istore_n 2, 1) := by decide +kernel
theorem dX11_fairest_8 : decode cX11_fairest 8 = .ok (.iconst 0, 1) := by decide +kernel
