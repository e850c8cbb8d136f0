theorem dX6_giveBoards_0 : decode cX6_giveBoards 0 = .ok (.iconst 0, 1) := by decide +kernel
theorem dX6_giveBoards_1 : decode cX6_giveBoards 1 = .ok (.istore_n 2, 1) := by decide +kernel
theorem dX6_giveBoards_2 : decode cX6_giveBoards 2 = .ok (.iload_n 2, 1) := by decide +kernel
theorem dX6_giveBoards_3 : decode cX6_giveBoards 3 = .ok (.iconst 5, 1) := by decide +kernel
theorem dX6_giveBoards_4 : decode cX6_giveBoards 4 = .ok (.if_icmp .ge 16, 3) := by decide +kernel
theorem dX6_giveBoards_7 : decode cX6_giveBoards 7 = .ok (.aload_n 0, 1) := by decide +kernel
theorem dX6_giveBoards_8 : decode cX6_giveBoards 8 = .ok (.getfield 15, 3) := by decide +kernel
theorem dX6_giveBoards_11 : decode cX6_giveBoards 11 = .ok (.iload_n 2, 1) := by decide +kernel
theorem dX6_giveBoards_12 : decode cX6_giveBoards 12 = .ok (.iload_n 1, 1) := by decide +kernel
theorem dX6_giveBoards_13 : decode cX6_giveBoards 13 = .ok (.iastore, 1) := by decide +kernel
theorem dX6_giveBoards_14 : decode cX6_giveBoards 14 = .ok (.iinc 2 1, 3) := by decide +kernel
theorem dX6_giveBoards_17 : decode cX6_giveBoards 17 = .ok (.goto (-15), 3) := by decide +kernel
theorem dX6_giveBoards_20 : decode cX6_giveBoards 20 = .ok (.return_, 1) := by decide +kernel
theorem dX6_holdPeak_0 : decode cX6_holdPeak 0 = .ok (.iconst 0, 1) := by decide +kernel
theorem dX6_holdPeak_1 : decode cX6_holdPeak 1 = .ok (.istore_n 1, 1) := by decide +kernel
theorem dX6_holdPeak_2 : decode cX6_holdPeak 2 = .ok (.iload_n 1, 1) := by decide +kernel
theorem dX6_holdPeak_3 : decode cX6_holdPeak 3 = .ok (.bipush 28, 2) := by decide +kernel
theorem dX6_holdPeak_5 : decode cX6_holdPeak 5 = .ok (.if_icmp .ge 22, 3) := by decide +kernel
theorem dX6_holdPeak_8 : decode cX6_holdPeak 8 = .ok (.aload_n 0, 1) := by decide +kernel
theorem dX6_holdPeak_9 : decode cX6_holdPeak 9 = .ok (.getfield 22, 3) := by decide +kernel
theorem dX6_holdPeak_12 : decode cX6_holdPeak 12 = .ok (.iload_n 1, 1) := by decide +kernel
theorem dX6_holdPeak_13 : decode cX6_holdPeak 13 = .ok (.aload_n 0, 1) := by decide +kernel
theorem dX6_holdPeak_14 : decode cX6_holdPeak 14 = .ok (.getfield 9, 3) := by decide +kernel
theorem dX6_holdPeak_17 : decode cX6_holdPeak 17 = .ok (.getfield 74, 3) := by decide +kernel
theorem dX6_holdPeak_20 : decode cX6_holdPeak 20 = .ok (.iastore, 1) := by decide +kernel
theorem dX6_holdPeak_21 : decode cX6_holdPeak 21 = .ok (.iinc 1 1, 3) := by decide +kernel
theorem dX6_holdPeak_24 : decode cX6_holdPeak 24 = .ok (.goto (-22), 3) := by decide +kernel
theorem dX6_holdPeak_27 : decode cX6_holdPeak 27 = .ok (.return_, 1) := by decide +kernel
theorem dX6_makeNobodyBold_0 : decode cX6_makeNobodyBold 0 = .ok (.iconst 0, 1) := by decide +kernel
theorem dX6_makeNobodyBold_1 : decode cX6_makeNobodyBold 1 = .ok (.istore_n 1, 1) := by decide +kernel
theorem dX6_makeNobodyBold_2 : decode cX6_makeNobodyBold 2 = .ok (.iload_n 1, 1) := by decide +kernel
theorem dX6_makeNobodyBold_3 : decode cX6_makeNobodyBold 3 = .ok (.iconst 5, 1) := by decide +kernel
theorem dX6_makeNobodyBold_4 : decode cX6_makeNobodyBold 4 = .ok (.if_icmp .ge 16, 3) := by decide +kernel
theorem dX6_makeNobodyBold_7 : decode cX6_makeNobodyBold 7 = .ok (.aload_n 0, 1) := by decide +kernel
theorem dX6_makeNobodyBold_8 : decode cX6_makeNobodyBold 8 = .ok (.getfield 19, 3) := by decide +kernel
theorem dX6_makeNobodyBold_11 : decode cX6_makeNobodyBold 11 = .ok (.iload_n 1, 1) := by decide +kernel
theorem dX6_makeNobodyBold_12 : decode cX6_makeNobodyBold 12 = .ok (.iconst 0, 1) := by decide +kernel
theorem dX6_makeNobodyBold_13 : decode cX6_makeNobodyBold 13 = .ok (.iastore, 1) := by decide +kernel
theorem dX6_makeNobodyBold_14 : decode cX6_makeNobodyBold 14 = .ok (.iinc 1 1, 3) := by decide +kernel
theorem dX6_makeNobodyBold_17 : decode cX6_makeNobodyBold 17 = .ok (.goto (-15), 3) := by decide +kernel
theorem dX6_makeNobodyBold_20 : decode cX6_makeNobodyBold 20 = .ok (.return_, 1) := by decide +kernel
theorem dX6_peakXAt_0 : decode cX6_peakXAt 0 = .ok (.aload_n 0, 1) := by decide +kernel
theorem dX6_peakXAt_1 : decode cX6_peakXAt 1 = .ok (.iload_n 1, 1) := by decide +kernel
theorem dX6_peakXAt_2 : decode cX6_peakXAt 2 = .ok (.invokevirtual 86, 3) := by decide +kernel
theorem dX6_peakXAt_5 : decode cX6_peakXAt 5 = .ok (.lstore_n 2, 1) := by decide +kernel
theorem dX6_peakXAt_6 : decode cX6_peakXAt 6 = .ok (.aload_n 0, 1) := by decide +kernel
theorem dX6_peakXAt_7 : decode cX6_peakXAt 7 = .ok (.getfield 9, 3) := by decide +kernel
theorem dX6_peakXAt_10 : decode cX6_peakXAt 10 = .ok (.getfield 74, 3) := by decide +kernel
theorem dX6_peakXAt_13 : decode cX6_peakXAt 13 = .ok (.i2l, 1) := by decide +kernel
theorem dX6_peakXAt_14 : decode cX6_peakXAt 14 = .ok (.lload_n 2, 1) := by decide +kernel
theorem dX6_peakXAt_15 : decode cX6_peakXAt 15 = .ok (.ldc2_w 90, 3) := by decide +kernel
theorem dX6_peakXAt_18 : decode cX6_peakXAt 18 = .ok (.lcmp, 1) := by decide +kernel
theorem dX6_peakXAt_19 : decode cX6_peakXAt 19 = .ok (.ifCond .ne 7, 3) := by decide +kernel
theorem dX6_peakXAt_22 : decode cX6_peakXAt 22 = .ok (.lconst 0, 1) := by decide +kernel
theorem dX6_peakXAt_23 : decode cX6_peakXAt 23 = .ok (.goto 16, 3) := by decide +kernel
theorem dX6_peakXAt_26 : decode cX6_peakXAt 26 = .ok (.ldc2_w 92, 3) := by decide +kernel
theorem dX6_peakXAt_29 : decode cX6_peakXAt 29 = .ok (.ldc2_w 94, 3) := by decide +kernel
theorem dX6_peakXAt_32 : decode cX6_peakXAt 32 = .ok (.lload_n 2, 1) := by decide +kernel
theorem dX6_peakXAt_33 : decode cX6_peakXAt 33 = .ok (.invokestatic 96, 3) := by decide +kernel
theorem dX6_peakXAt_36 : decode cX6_peakXAt 36 = .ok (.invokestatic 102, 3) := by decide +kernel
theorem dX6_peakXAt_39 : decode cX6_peakXAt 39 = .ok (.ladd, 1) := by decide +kernel
theorem dX6_peakXAt_40 : decode cX6_peakXAt 40 = .ok (.lstore 4, 2) := by decide +kernel
theorem dX6_peakXAt_42 : decode cX6_peakXAt 42 = .ok (.lconst 0, 1) := by decide +kernel
theorem dX6_peakXAt_43 : decode cX6_peakXAt 43 = .ok (.aload_n 0, 1) := by decide +kernel
theorem dX6_peakXAt_44 : decode cX6_peakXAt 44 = .ok (.getfield 9, 3) := by decide +kernel
theorem dX6_peakXAt_47 : decode cX6_peakXAt 47 = .ok (.getfield 105, 3) := by decide +kernel
theorem dX6_peakXAt_50 : decode cX6_peakXAt 50 = .ok (.iconst 1, 1) := by decide +kernel
theorem dX6_peakXAt_51 : decode cX6_peakXAt 51 = .ok (.isub, 1) := by decide +kernel
theorem dX6_peakXAt_52 : decode cX6_peakXAt 52 = .ok (.i2l, 1) := by decide +kernel
theorem dX6_peakXAt_53 : decode cX6_peakXAt 53 = .ok (.lload 4, 2) := by decide +kernel
theorem dX6_peakXAt_55 : decode cX6_peakXAt 55 = .ok (.invokestatic 96, 3) := by decide +kernel
theorem dX6_peakXAt_58 : decode cX6_peakXAt 58 = .ok (.invokestatic 102, 3) := by decide +kernel
theorem dX6_peakXAt_61 : decode cX6_peakXAt 61 = .ok (.l2i, 1) := by decide +kernel
theorem dX6_peakXAt_62 : decode cX6_peakXAt 62 = .ok (.ireturn, 1) := by decide +kernel
theorem dX6_seatFrom_0 : decode cX6_seatFrom 0 = .ok (.iconst 0, 1) := by decide +kernel
theorem dX6_seatFrom_1 : decode cX6_seatFrom 1 = .ok (.istore 4, 2) := by decide +kernel
theorem dX6_seatFrom_3 : decode cX6_seatFrom 3 = .ok (.iload_n 3, 1) := by decide +kernel
theorem dX6_seatFrom_4 : decode cX6_seatFrom 4 = .ok (.istore 5, 2) := by decide +kernel
theorem dX6_seatFrom_6 : decode cX6_seatFrom 6 = .ok (.iload 5, 2) := by decide +kernel
theorem dX6_seatFrom_8 : decode cX6_seatFrom 8 = .ok (.aload_n 0, 1) := by decide +kernel
theorem dX6_seatFrom_9 : decode cX6_seatFrom 9 = .ok (.getfield 9, 3) := by decide +kernel
theorem dX6_seatFrom_12 : decode cX6_seatFrom 12 = .ok (.getfield 57, 3) := by decide +kernel
theorem dX6_seatFrom_15 : decode cX6_seatFrom 15 = .ok (.getfield 61, 3) := by decide +kernel
theorem dX6_seatFrom_18 : decode cX6_seatFrom 18 = .ok (.if_icmp .ge 22, 3) := by decide +kernel
theorem dX6_seatFrom_21 : decode cX6_seatFrom 21 = .ok (.iload 4, 2) := by decide +kernel
theorem dX6_seatFrom_23 : decode cX6_seatFrom 23 = .ok (.aload_n 0, 1) := by decide +kernel
theorem dX6_seatFrom_24 : decode cX6_seatFrom 24 = .ok (.iload_n 1, 1) := by decide +kernel
theorem dX6_seatFrom_25 : decode cX6_seatFrom 25 = .ok (.iload 5, 2) := by decide +kernel
theorem dX6_seatFrom_27 : decode cX6_seatFrom 27 = .ok (.iload_n 2, 1) := by decide +kernel
theorem dX6_seatFrom_28 : decode cX6_seatFrom 28 = .ok (.invokevirtual 145, 3) := by decide +kernel
theorem dX6_seatFrom_31 : decode cX6_seatFrom 31 = .ok (.iadd, 1) := by decide +kernel
theorem dX6_seatFrom_32 : decode cX6_seatFrom 32 = .ok (.istore 4, 2) := by decide +kernel
theorem dX6_seatFrom_34 : decode cX6_seatFrom 34 = .ok (.iinc 5 1, 3) := by decide +kernel
theorem dX6_seatFrom_37 : decode cX6_seatFrom 37 = .ok (.goto (-31), 3) := by decide +kernel
theorem dX6_seatFrom_40 : decode cX6_seatFrom 40 = .ok (.iload 4, 2) := by decide +kernel
theorem dX6_seatFrom_42 : decode cX6_seatFrom 42 = .ok (.ireturn, 1) := by decide +kernel
theorem dX6_takeAsTold_0 : decode cX6_takeAsTold 0 = .ok (.aload_n 0, 1) := by decide +kernel
theorem dX6_takeAsTold_1 : decode cX6_takeAsTold 1 = .ok (.aload_n 1, 1) := by decide +kernel
theorem dX6_takeAsTold_2 : decode cX6_takeAsTold 2 = .ok (.putfield 9, 3) := by decide +kernel
theorem dX6_takeAsTold_5 : decode cX6_takeAsTold 5 = .ok (.aload_n 0, 1) := by decide +kernel
theorem dX6_takeAsTold_6 : decode cX6_takeAsTold 6 = .ok (.getfield 9, 3) := by decide +kernel
theorem dX6_takeAsTold_9 : decode cX6_takeAsTold 9 = .ok (.getfield 41, 3) := by decide +kernel
theorem dX6_takeAsTold_12 : decode cX6_takeAsTold 12 = .ok (.getfield 47, 3) := by decide +kernel
theorem dX6_takeAsTold_15 : decode cX6_takeAsTold 15 = .ok (.iconst 0, 1) := by decide +kernel
theorem dX6_takeAsTold_16 : decode cX6_takeAsTold 16 = .ok (.aload_n 0, 1) := by decide +kernel
theorem dX6_takeAsTold_17 : decode cX6_takeAsTold 17 = .ok (.getfield 15, 3) := by decide +kernel
theorem dX6_takeAsTold_20 : decode cX6_takeAsTold 20 = .ok (.iconst 0, 1) := by decide +kernel
theorem dX6_takeAsTold_21 : decode cX6_takeAsTold 21 = .ok (.iconst 5, 1) := by decide +kernel
theorem dX6_takeAsTold_22 : decode cX6_takeAsTold 22 = .ok (.invokestatic 50, 3) := by decide +kernel
theorem dX6_takeAsTold_25 : decode cX6_takeAsTold 25 = .ok (.aload_n 0, 1) := by decide +kernel
theorem dX6_takeAsTold_26 : decode cX6_takeAsTold 26 = .ok (.getfield 9, 3) := by decide +kernel
theorem dX6_takeAsTold_29 : decode cX6_takeAsTold 29 = .ok (.getfield 41, 3) := by decide +kernel
theorem dX6_takeAsTold_32 : decode cX6_takeAsTold 32 = .ok (.getfield 56, 3) := by decide +kernel
theorem dX6_takeAsTold_35 : decode cX6_takeAsTold 35 = .ok (.iconst 0, 1) := by decide +kernel
theorem dX6_takeAsTold_36 : decode cX6_takeAsTold 36 = .ok (.aload_n 0, 1) := by decide +kernel
theorem dX6_takeAsTold_37 : decode cX6_takeAsTold 37 = .ok (.getfield 19, 3) := by decide +kernel
theorem dX6_takeAsTold_40 : decode cX6_takeAsTold 40 = .ok (.iconst 0, 1) := by decide +kernel
theorem dX6_takeAsTold_41 : decode cX6_takeAsTold 41 = .ok (.iconst 5, 1) := by decide +kernel
theorem dX6_takeAsTold_42 : decode cX6_takeAsTold 42 = .ok (.invokestatic 50, 3) := by decide +kernel
theorem dX6_takeAsTold_45 : decode cX6_takeAsTold 45 = .ok (.iconst 0, 1) := by decide +kernel
theorem dX6_takeAsTold_46 : decode cX6_takeAsTold 46 = .ok (.istore_n 2, 1) := by decide +kernel
theorem dX6_takeAsTold_47 : decode cX6_takeAsTold 47 = .ok (.iload_n 2, 1) := by decide +kernel
theorem dX6_takeAsTold_48 : decode cX6_takeAsTold 48 = .ok (.aload_n 0, 1) := by decide +kernel
theorem dX6_takeAsTold_49 : decode cX6_takeAsTold 49 = .ok (.getfield 9, 3) := by decide +kernel
theorem dX6_takeAsTold_52 : decode cX6_takeAsTold 52 = .ok (.getfield 57, 3) := by decide +kernel
theorem dX6_takeAsTold_55 : decode cX6_takeAsTold 55 = .ok (.getfield 61, 3) := by decide +kernel
theorem dX6_takeAsTold_58 : decode cX6_takeAsTold 58 = .ok (.if_icmp .ge 31, 3) := by decide +kernel
theorem dX6_takeAsTold_61 : decode cX6_takeAsTold 61 = .ok (.aload_n 0, 1) := by decide +kernel
theorem dX6_takeAsTold_62 : decode cX6_takeAsTold 62 = .ok (.getfield 22, 3) := by decide +kernel
theorem dX6_takeAsTold_65 : decode cX6_takeAsTold 65 = .ok (.iload_n 2, 1) := by decide +kernel
theorem dX6_takeAsTold_66 : decode cX6_takeAsTold 66 = .ok (.aload_n 0, 1) := by decide +kernel
theorem dX6_takeAsTold_67 : decode cX6_takeAsTold 67 = .ok (.aload_n 0, 1) := by decide +kernel
theorem dX6_takeAsTold_68 : decode cX6_takeAsTold 68 = .ok (.getfield 9, 3) := by decide +kernel
theorem dX6_takeAsTold_71 : decode cX6_takeAsTold 71 = .ok (.getfield 57, 3) := by decide +kernel
theorem dX6_takeAsTold_74 : decode cX6_takeAsTold 74 = .ok (.getfield 67, 3) := by decide +kernel
theorem dX6_takeAsTold_77 : decode cX6_takeAsTold 77 = .ok (.iload_n 2, 1) := by decide +kernel
theorem dX6_takeAsTold_78 : decode cX6_takeAsTold 78 = .ok (.iaload, 1) := by decide +kernel
theorem dX6_takeAsTold_79 : decode cX6_takeAsTold 79 = .ok (.invokevirtual 70, 3) := by decide +kernel
theorem dX6_takeAsTold_82 : decode cX6_takeAsTold 82 = .ok (.iastore, 1) := by decide +kernel
theorem dX6_takeAsTold_83 : decode cX6_takeAsTold 83 = .ok (.iinc 2 1, 3) := by decide +kernel
theorem dX6_takeAsTold_86 : decode cX6_takeAsTold 86 = .ok (.goto (-39), 3) := by decide +kernel
theorem dX6_takeAsTold_89 : decode cX6_takeAsTold 89 = .ok (.return_, 1) := by decide +kernel
theorem dX6_takeOver_0 : decode cX6_takeOver 0 = .ok (.aload_n 0, 1) := by decide +kernel
theorem dX6_takeOver_1 : decode cX6_takeOver 1 = .ok (.aload_n 1, 1) := by decide +kernel
theorem dX6_takeOver_2 : decode cX6_takeOver 2 = .ok (.getfield 9, 3) := by decide +kernel
theorem dX6_takeOver_5 : decode cX6_takeOver 5 = .ok (.putfield 9, 3) := by decide +kernel
theorem dX6_takeOver_8 : decode cX6_takeOver 8 = .ok (.aload_n 1, 1) := by decide +kernel
theorem dX6_takeOver_9 : decode cX6_takeOver 9 = .ok (.getfield 15, 3) := by decide +kernel
theorem dX6_takeOver_12 : decode cX6_takeOver 12 = .ok (.iconst 0, 1) := by decide +kernel
theorem dX6_takeOver_13 : decode cX6_takeOver 13 = .ok (.aload_n 0, 1) := by decide +kernel
theorem dX6_takeOver_14 : decode cX6_takeOver 14 = .ok (.getfield 15, 3) := by decide +kernel
theorem dX6_takeOver_17 : decode cX6_takeOver 17 = .ok (.iconst 0, 1) := by decide +kernel
theorem dX6_takeOver_18 : decode cX6_takeOver 18 = .ok (.iconst 5, 1) := by decide +kernel
theorem dX6_takeOver_19 : decode cX6_takeOver 19 = .ok (.invokestatic 50, 3) := by decide +kernel
theorem dX6_takeOver_22 : decode cX6_takeOver 22 = .ok (.aload_n 1, 1) := by decide +kernel
theorem dX6_takeOver_23 : decode cX6_takeOver 23 = .ok (.getfield 19, 3) := by decide +kernel
theorem dX6_takeOver_26 : decode cX6_takeOver 26 = .ok (.iconst 0, 1) := by decide +kernel
theorem dX6_takeOver_27 : decode cX6_takeOver 27 = .ok (.aload_n 0, 1) := by decide +kernel
theorem dX6_takeOver_28 : decode cX6_takeOver 28 = .ok (.getfield 19, 3) := by decide +kernel
theorem dX6_takeOver_31 : decode cX6_takeOver 31 = .ok (.iconst 0, 1) := by decide +kernel
theorem dX6_takeOver_32 : decode cX6_takeOver 32 = .ok (.iconst 5, 1) := by decide +kernel
theorem dX6_takeOver_33 : decode cX6_takeOver 33 = .ok (.invokestatic 50, 3) := by decide +kernel
theorem dX6_takeOver_36 : decode cX6_takeOver 36 = .ok (.aload_n 1, 1) := by decide +kernel
theorem dX6_takeOver_37 : decode cX6_takeOver 37 = .ok (.getfield 22, 3) := by decide +kernel
theorem dX6_takeOver_40 : decode cX6_takeOver 40 = .ok (.iconst 0, 1) := by decide +kernel
theorem dX6_takeOver_41 : decode cX6_takeOver 41 = .ok (.aload_n 0, 1) := by decide +kernel
theorem dX6_takeOver_42 : decode cX6_takeOver 42 = .ok (.getfield 22, 3) := by decide +kernel
theorem dX6_takeOver_45 : decode cX6_takeOver 45 = .ok (.iconst 0, 1) := by decide +kernel
theorem dX6_takeOver_46 : decode cX6_takeOver 46 = .ok (.bipush 28, 2) := by decide +kernel
theorem dX6_takeOver_48 : decode cX6_takeOver 48 = .ok (.invokestatic 50, 3) := by decide +kernel
theorem dX6_takeOver_51 : decode cX6_takeOver 51 = .ok (.return_, 1) := by decide +kernel
theorem dX8_bankWaves_0 : decode cX8_bankWaves 0 = .ok (.iload_n 2, 1) := by decide +kernel
theorem dX8_bankWaves_1 : decode cX8_bankWaves 1 = .ok (.iload_n 1, 1) := by decide +kernel
theorem dX8_bankWaves_2 : decode cX8_bankWaves 2 = .ok (.isub, 1) := by decide +kernel
theorem dX8_bankWaves_3 : decode cX8_bankWaves 3 = .ok (.aload_n 0, 1) := by decide +kernel
theorem dX8_bankWaves_4 : decode cX8_bankWaves 4 = .ok (.getfield 51, 3) := by decide +kernel
theorem dX8_bankWaves_7 : decode cX8_bankWaves 7 = .ok (.isub, 1) := by decide +kernel
theorem dX8_bankWaves_8 : decode cX8_bankWaves 8 = .ok (.istore_n 3, 1) := by decide +kernel
theorem dX8_bankWaves_9 : decode cX8_bankWaves 9 = .ok (.iload_n 3, 1) := by decide +kernel
theorem dX8_bankWaves_10 : decode cX8_bankWaves 10 = .ok (.ifCond .lt 11, 3) := by decide +kernel
theorem dX8_bankWaves_13 : decode cX8_bankWaves 13 = .ok (.aload_n 0, 1) := by decide +kernel
theorem dX8_bankWaves_14 : decode cX8_bankWaves 14 = .ok (.getfield 54, 3) := by decide +kernel
theorem dX8_bankWaves_17 : decode cX8_bankWaves 17 = .ok (.iconst 1, 1) := by decide +kernel
theorem dX8_bankWaves_18 : decode cX8_bankWaves 18 = .ok (.if_icmp .ge 7, 3) := by decide +kernel
theorem dX8_bankWaves_21 : decode cX8_bankWaves 21 = .ok (.iconst 0, 1) := by decide +kernel
theorem dX8_bankWaves_22 : decode cX8_bankWaves 22 = .ok (.goto 11, 3) := by decide +kernel
theorem dX8_bankWaves_25 : decode cX8_bankWaves 25 = .ok (.iload_n 3, 1) := by decide +kernel
theorem dX8_bankWaves_26 : decode cX8_bankWaves 26 = .ok (.aload_n 0, 1) := by decide +kernel
theorem dX8_bankWaves_27 : decode cX8_bankWaves 27 = .ok (.getfield 54, 3) := by decide +kernel
theorem dX8_bankWaves_30 : decode cX8_bankWaves 30 = .ok (.idiv, 1) := by decide +kernel
theorem dX8_bankWaves_31 : decode cX8_bankWaves 31 = .ok (.iconst 1, 1) := by decide +kernel
theorem dX8_bankWaves_32 : decode cX8_bankWaves 32 = .ok (.iadd, 1) := by decide +kernel
theorem dX8_bankWaves_33 : decode cX8_bankWaves 33 = .ok (.ireturn, 1) := by decide +kernel
theorem dX8_cells_0 : decode cX8_cells 0 = .ok (.aload_n 0, 1) := by decide +kernel
theorem dX8_cells_1 : decode cX8_cells 1 = .ok (.getfield 32, 3) := by decide +kernel
theorem dX8_cells_4 : decode cX8_cells 4 = .ok (.aload_n 0, 1) := by decide +kernel
theorem dX8_cells_5 : decode cX8_cells 5 = .ok (.getfield 36, 3) := by decide +kernel
theorem dX8_cells_8 : decode cX8_cells 8 = .ok (.imul, 1) := by decide +kernel
theorem dX8_cells_9 : decode cX8_cells 9 = .ok (.ireturn, 1) := by decide +kernel
theorem dX9_add_0 : decode cX9_add 0 = .ok (.aload_n 0, 1) := by decide +kernel
theorem dX9_add_1 : decode cX9_add 1 = .ok (.getfield 18, 3) := by decide +kernel
theorem dX9_add_4 : decode cX9_add 4 = .ok (.bipush 20, 2) := by decide +kernel
theorem dX9_add_6 : decode cX9_add 6 = .ok (.if_icmp .lt 39, 3) := by decide +kernel
theorem dX9_add_9 : decode cX9_add 9 = .ok (.aload_n 0, 1) := by decide +kernel
theorem dX9_add_10 : decode cX9_add 10 = .ok (.getfield 9, 3) := by decide +kernel
theorem dX9_add_13 : decode cX9_add 13 = .ok (.iconst 1, 1) := by decide +kernel
theorem dX9_add_14 : decode cX9_add 14 = .ok (.aload_n 0, 1) := by decide +kernel
theorem dX9_add_15 : decode cX9_add 15 = .ok (.getfield 9, 3) := by decide +kernel
theorem dX9_add_18 : decode cX9_add 18 = .ok (.iconst 0, 1) := by decide +kernel
theorem dX9_add_19 : decode cX9_add 19 = .ok (.bipush 19, 2) := by decide +kernel
theorem dX9_add_21 : decode cX9_add 21 = .ok (.invokestatic 22, 3) := by decide +kernel
theorem dX9_add_24 : decode cX9_add 24 = .ok (.aload_n 0, 1) := by decide +kernel
theorem dX9_add_25 : decode cX9_add 25 = .ok (.getfield 15, 3) := by decide +kernel
theorem dX9_add_28 : decode cX9_add 28 = .ok (.iconst 1, 1) := by decide +kernel
theorem dX9_add_29 : decode cX9_add 29 = .ok (.aload_n 0, 1) := by decide +kernel
theorem dX9_add_30 : decode cX9_add 30 = .ok (.getfield 15, 3) := by decide +kernel
theorem dX9_add_33 : decode cX9_add 33 = .ok (.iconst 0, 1) := by decide +kernel
theorem dX9_add_34 : decode cX9_add 34 = .ok (.bipush 19, 2) := by decide +kernel
theorem dX9_add_36 : decode cX9_add 36 = .ok (.invokestatic 22, 3) := by decide +kernel
theorem dX9_add_39 : decode cX9_add 39 = .ok (.aload_n 0, 1) := by decide +kernel
theorem dX9_add_40 : decode cX9_add 40 = .ok (.bipush 19, 2) := by decide +kernel
theorem dX9_add_42 : decode cX9_add 42 = .ok (.putfield 18, 3) := by decide +kernel
theorem dX9_add_45 : decode cX9_add 45 = .ok (.aload_n 0, 1) := by decide +kernel
theorem dX9_add_46 : decode cX9_add 46 = .ok (.getfield 9, 3) := by decide +kernel
theorem dX9_add_49 : decode cX9_add 49 = .ok (.aload_n 0, 1) := by decide +kernel
theorem dX9_add_50 : decode cX9_add 50 = .ok (.getfield 18, 3) := by decide +kernel
theorem dX9_add_53 : decode cX9_add 53 = .ok (.iload_n 1, 1) := by decide +kernel
theorem dX9_add_54 : decode cX9_add 54 = .ok (.iastore, 1) := by decide +kernel
theorem dX9_add_55 : decode cX9_add 55 = .ok (.aload_n 0, 1) := by decide +kernel
theorem dX9_add_56 : decode cX9_add 56 = .ok (.getfield 15, 3) := by decide +kernel
theorem dX9_add_59 : decode cX9_add 59 = .ok (.aload_n 0, 1) := by decide +kernel
theorem dX9_add_60 : decode cX9_add 60 = .ok (.getfield 18, 3) := by decide +kernel
theorem dX9_add_63 : decode cX9_add 63 = .ok (.iload_n 2, 1) := by decide +kernel
theorem dX9_add_64 : decode cX9_add 64 = .ok (.iastore, 1) := by decide +kernel
theorem dX9_add_65 : decode cX9_add 65 = .ok (.aload_n 0, 1) := by decide +kernel
theorem dX9_add_66 : decode cX9_add 66 = .ok (.dup, 1) := by decide +kernel
theorem dX9_add_67 : decode cX9_add 67 = .ok (.getfield 18, 3) := by decide +kernel
theorem dX9_add_70 : decode cX9_add 70 = .ok (.iconst 1, 1) := by decide +kernel
theorem dX9_add_71 : decode cX9_add 71 = .ok (.iadd, 1) := by decide +kernel
theorem dX9_add_72 : decode cX9_add 72 = .ok (.putfield 18, 3) := by decide +kernel
theorem dX9_add_75 : decode cX9_add 75 = .ok (.return_, 1) := by decide +kernel
theorem dX10_isLargest_0 : decode cX10_isLargest 0 = .ok (.aload_n 0, 1) := by decide +kernel
theorem dX10_isLargest_1 : decode cX10_isLargest 1 = .ok (.getfield 9, 3) := by decide +kernel
theorem dX10_isLargest_4 : decode cX10_isLargest 4 = .ok (.iload_n 1, 1) := by decide +kernel
theorem dX10_isLargest_5 : decode cX10_isLargest 5 = .ok (.iaload, 1) := by decide +kernel
theorem dX10_isLargest_6 : decode cX10_isLargest 6 = .ok (.iload_n 2, 1) := by decide +kernel
theorem dX10_isLargest_7 : decode cX10_isLargest 7 = .ok (.iadd, 1) := by decide +kernel
theorem dX10_isLargest_8 : decode cX10_isLargest 8 = .ok (.iconst 1, 1) := by decide +kernel
theorem dX10_isLargest_9 : decode cX10_isLargest 9 = .ok (.isub, 1) := by decide +kernel
theorem dX10_isLargest_10 : decode cX10_isLargest 10 = .ok (.istore_n 3, 1) := by decide +kernel
theorem dX10_isLargest_11 : decode cX10_isLargest 11 = .ok (.iconst 0, 1) := by decide +kernel
theorem dX10_isLargest_12 : decode cX10_isLargest 12 = .ok (.istore 4, 2) := by decide +kernel
theorem dX10_isLargest_14 : decode cX10_isLargest 14 = .ok (.iload 4, 2) := by decide +kernel
theorem dX10_isLargest_16 : decode cX10_isLargest 16 = .ok (.aload_n 0, 1) := by decide +kernel
theorem dX10_isLargest_17 : decode cX10_isLargest 17 = .ok (.getfield 15, 3) := by decide +kernel
theorem dX10_isLargest_20 : decode cX10_isLargest 20 = .ok (.iload_n 1, 1) := by decide +kernel
theorem dX10_isLargest_21 : decode cX10_isLargest 21 = .ok (.iaload, 1) := by decide +kernel
theorem dX10_isLargest_22 : decode cX10_isLargest 22 = .ok (.if_icmp .ge 34, 3) := by decide +kernel
theorem dX10_isLargest_25 : decode cX10_isLargest 25 = .ok (.aload_n 0, 1) := by decide +kernel
theorem dX10_isLargest_26 : decode cX10_isLargest 26 = .ok (.getfield 21, 3) := by decide +kernel
theorem dX10_isLargest_29 : decode cX10_isLargest 29 = .ok (.aload_n 0, 1) := by decide +kernel
theorem dX10_isLargest_30 : decode cX10_isLargest 30 = .ok (.getfield 9, 3) := by decide +kernel
theorem dX10_isLargest_33 : decode cX10_isLargest 33 = .ok (.iload_n 1, 1) := by decide +kernel
theorem dX10_isLargest_34 : decode cX10_isLargest 34 = .ok (.iaload, 1) := by decide +kernel
theorem dX10_isLargest_35 : decode cX10_isLargest 35 = .ok (.iload 4, 2) := by decide +kernel
theorem dX10_isLargest_37 : decode cX10_isLargest 37 = .ok (.iadd, 1) := by decide +kernel
theorem dX10_isLargest_38 : decode cX10_isLargest 38 = .ok (.iaload, 1) := by decide +kernel
theorem dX10_isLargest_39 : decode cX10_isLargest 39 = .ok (.aload_n 0, 1) := by decide +kernel
theorem dX10_isLargest_40 : decode cX10_isLargest 40 = .ok (.getfield 21, 3) := by decide +kernel
theorem dX10_isLargest_43 : decode cX10_isLargest 43 = .ok (.iload_n 3, 1) := by decide +kernel
theorem dX10_isLargest_44 : decode cX10_isLargest 44 = .ok (.iaload, 1) := by decide +kernel
theorem dX10_isLargest_45 : decode cX10_isLargest 45 = .ok (.if_icmp .le 5, 3) := by decide +kernel
theorem dX10_isLargest_48 : decode cX10_isLargest 48 = .ok (.iconst 0, 1) := by decide +kernel
theorem dX10_isLargest_49 : decode cX10_isLargest 49 = .ok (.ireturn, 1) := by decide +kernel
theorem dX10_isLargest_50 : decode cX10_isLargest 50 = .ok (.iinc 4 1, 3) := by decide +kernel
theorem dX10_isLargest_53 : decode cX10_isLargest 53 = .ok (.goto (-39), 3) := by decide +kernel
theorem dX10_isLargest_56 : decode cX10_isLargest 56 = .ok (.iconst 1, 1) := by decide +kernel
theorem dX10_isLargest_57 : decode cX10_isLargest 57 = .ok (.ireturn, 1) := by decide +kernel
theorem dX10_lengthOf_0 : decode cX10_lengthOf 0 = .ok (.aload_n 0, 1) := by decide +kernel
theorem dX10_lengthOf_1 : decode cX10_lengthOf 1 = .ok (.getfield 15, 3) := by decide +kernel
theorem dX10_lengthOf_4 : decode cX10_lengthOf 4 = .ok (.iload_n 1, 1) := by decide +kernel
theorem dX10_lengthOf_5 : decode cX10_lengthOf 5 = .ok (.iaload, 1) := by decide +kernel
theorem dX10_lengthOf_6 : decode cX10_lengthOf 6 = .ok (.ireturn, 1) := by decide +kernel
theorem dX10_setFrom_0 : decode cX10_setFrom 0 = .ok (.iconst 0, 1) := by decide +kernel
theorem dX10_setFrom_1 : decode cX10_setFrom 1 = .ok (.istore_n 2, 1) := by decide +kernel
theorem dX10_setFrom_2 : decode cX10_setFrom 2 = .ok (.iload_n 2, 1) := by decide +kernel
theorem dX10_setFrom_3 : decode cX10_setFrom 3 = .ok (.aload_n 0, 1) := by decide +kernel
theorem dX10_setFrom_4 : decode cX10_setFrom 4 = .ok (.getfield 30, 3) := by decide +kernel
theorem dX10_setFrom_7 : decode cX10_setFrom 7 = .ok (.if_icmp .ge 20, 3) := by decide +kernel
theorem dX10_setFrom_10 : decode cX10_setFrom 10 = .ok (.aload_n 0, 1) := by decide +kernel
theorem dX10_setFrom_11 : decode cX10_setFrom 11 = .ok (.iload_n 2, 1) := by decide +kernel
theorem dX10_setFrom_12 : decode cX10_setFrom 12 = .ok (.invokevirtual 37, 3) := by decide +kernel
theorem dX10_setFrom_15 : decode cX10_setFrom 15 = .ok (.iload_n 1, 1) := by decide +kernel
theorem dX10_setFrom_16 : decode cX10_setFrom 16 = .ok (.if_icmp .lt 5, 3) := by decide +kernel
theorem dX10_setFrom_19 : decode cX10_setFrom 19 = .ok (.iload_n 2, 1) := by decide +kernel
theorem dX10_setFrom_20 : decode cX10_setFrom 20 = .ok (.ireturn, 1) := by decide +kernel
theorem dX10_setFrom_21 : decode cX10_setFrom 21 = .ok (.iinc 2 1, 3) := by decide +kernel
theorem dX10_setFrom_24 : decode cX10_setFrom 24 = .ok (.goto (-22), 3) := by decide +kernel
theorem dX10_setFrom_27 : decode cX10_setFrom 27 = .ok (.iconst (-1), 1) := by decide +kernel
theorem dX10_setFrom_28 : decode cX10_setFrom 28 = .ok (.ireturn, 1) := by decide +kernel
theorem dX11_back_0 : decode cX11_back 0 = .ok (.aload_n 0, 1) := by decide +kernel
theorem dX11_back_1 : decode cX11_back 1 = .ok (.getfield 377, 3) := by decide +kernel
theorem dX11_back_4 : decode cX11_back 4 = .ok (.ifCond .ne 5, 3) := by decide +kernel
theorem dX11_back_7 : decode cX11_back 7 = .ok (.iconst (-1), 1) := by decide +kernel
theorem dX11_back_8 : decode cX11_back 8 = .ok (.ireturn, 1) := by decide +kernel
theorem dX11_back_9 : decode cX11_back 9 = .ok (.aload_n 0, 1) := by decide +kernel
theorem dX11_back_10 : decode cX11_back 10 = .ok (.getfield 47, 3) := by decide +kernel
theorem dX11_back_13 : decode cX11_back 13 = .ok (.aload_n 0, 1) := by decide +kernel
theorem dX11_back_14 : decode cX11_back 14 = .ok (.getfield 54, 3) := by decide +kernel
theorem dX11_back_17 : decode cX11_back 17 = .ok (.invokevirtual 373, 3) := by decide +kernel
theorem dX11_back_20 : decode cX11_back 20 = .ok (.aload_n 0, 1) := by decide +kernel
theorem dX11_back_21 : decode cX11_back 21 = .ok (.getfield 67, 3) := by decide +kernel
theorem dX11_back_24 : decode cX11_back 24 = .ok (.iconst 0, 1) := by decide +kernel
theorem dX11_back_25 : decode cX11_back 25 = .ok (.putfield 368, 3) := by decide +kernel
theorem dX11_back_28 : decode cX11_back 28 = .ok (.aload_n 0, 1) := by decide +kernel
theorem dX11_back_29 : decode cX11_back 29 = .ok (.getfield 47, 3) := by decide +kernel
theorem dX11_back_32 : decode cX11_back 32 = .ok (.getfield 186, 3) := by decide +kernel
theorem dX11_back_35 : decode cX11_back 35 = .ok (.ireturn, 1) := by decide +kernel
theorem dX11_beginAnew_0 : decode cX11_beginAnew 0 = .ok (.aload_n 0, 1) := by decide +kernel
theorem dX11_beginAnew_1 : decode cX11_beginAnew 1 = .ok (.getfield 37, 3) := by decide +kernel
theorem dX11_beginAnew_4 : decode cX11_beginAnew 4 = .ok (.aload_n 0, 1) := by decide +kernel
theorem dX11_beginAnew_5 : decode cX11_beginAnew 5 = .ok (.getfield 18, 3) := by decide +kernel
theorem dX11_beginAnew_8 : decode cX11_beginAnew 8 = .ok (.invokevirtual 393, 3) := by decide +kernel
theorem dX11_beginAnew_11 : decode cX11_beginAnew 11 = .ok (.aload_n 0, 1) := by decide +kernel
theorem dX11_beginAnew_12 : decode cX11_beginAnew 12 = .ok (.getfield 47, 3) := by decide +kernel
theorem dX11_beginAnew_15 : decode cX11_beginAnew 15 = .ok (.aload_n 0, 1) := by decide +kernel
theorem dX11_beginAnew_16 : decode cX11_beginAnew 16 = .ok (.getfield 18, 3) := by decide +kernel
theorem dX11_beginAnew_19 : decode cX11_beginAnew 19 = .ok (.invokevirtual 396, 3) := by decide +kernel
theorem dX11_beginAnew_22 : decode cX11_beginAnew 22 = .ok (.aload_n 0, 1) := by decide +kernel
theorem dX11_beginAnew_23 : decode cX11_beginAnew 23 = .ok (.getfield 60, 3) := by decide +kernel
theorem dX11_beginAnew_26 : decode cX11_beginAnew 26 = .ok (.iconst 0, 1) := by decide +kernel
theorem dX11_beginAnew_27 : decode cX11_beginAnew 27 = .ok (.putfield 323, 3) := by decide +kernel
theorem dX11_beginAnew_30 : decode cX11_beginAnew 30 = .ok (.aload_n 0, 1) := by decide +kernel
theorem dX11_beginAnew_31 : decode cX11_beginAnew 31 = .ok (.getfield 60, 3) := by decide +kernel
theorem dX11_beginAnew_34 : decode cX11_beginAnew 34 = .ok (.iconst (-1), 1) := by decide +kernel
theorem dX11_beginAnew_35 : decode cX11_beginAnew 35 = .ok (.putfield 327, 3) := by decide +kernel
theorem dX11_beginAnew_38 : decode cX11_beginAnew 38 = .ok (.aload_n 0, 1) := by decide +kernel
theorem dX11_beginAnew_39 : decode cX11_beginAnew 39 = .ok (.getfield 67, 3) := by decide +kernel
theorem dX11_beginAnew_42 : decode cX11_beginAnew 42 = .ok (.iconst 0, 1) := by decide +kernel
theorem dX11_beginAnew_43 : decode cX11_beginAnew 43 = .ok (.putfield 368, 3) := by decide +kernel
theorem dX11_beginAnew_46 : decode cX11_beginAnew 46 = .ok (.aload_n 0, 1) := by decide +kernel
theorem dX11_beginAnew_47 : decode cX11_beginAnew 47 = .ok (.iconst 0, 1) := by decide +kernel
theorem dX11_beginAnew_48 : decode cX11_beginAnew 48 = .ok (.putfield 377, 3) := by decide +kernel
theorem dX11_beginAnew_51 : decode cX11_beginAnew 51 = .ok (.return_, 1) := by decide +kernel
theorem dX11_isSurfer_0 : decode cX11_isSurfer 0 = .ok (.iload_n 1, 1) := by decide +kernel
theorem dX11_isSurfer_1 : decode cX11_isSurfer 1 = .ok (.ifCond .lt 21, 3) := by decide +kernel
theorem dX11_isSurfer_4 : decode cX11_isSurfer 4 = .ok (.iload_n 1, 1) := by decide +kernel
theorem dX11_isSurfer_5 : decode cX11_isSurfer 5 = .ok (.aload_n 0, 1) := by decide +kernel
theorem dX11_isSurfer_6 : decode cX11_isSurfer 6 = .ok (.getfield 18, 3) := by decide +kernel
theorem dX11_isSurfer_9 : decode cX11_isSurfer 9 = .ok (.getfield 102, 3) := by decide +kernel
theorem dX11_isSurfer_12 : decode cX11_isSurfer 12 = .ok (.getfield 106, 3) := by decide +kernel
theorem dX11_isSurfer_15 : decode cX11_isSurfer 15 = .ok (.if_icmp .ge 7, 3) := by decide +kernel
theorem dX11_isSurfer_18 : decode cX11_isSurfer 18 = .ok (.iconst 1, 1) := by decide +kernel
theorem dX11_isSurfer_19 : decode cX11_isSurfer 19 = .ok (.goto 4, 3) := by decide +kernel
theorem dX11_isSurfer_22 : decode cX11_isSurfer 22 = .ok (.iconst 0, 1) := by decide +kernel
theorem dX11_isSurfer_23 : decode cX11_isSurfer 23 = .ok (.ireturn, 1) := by decide +kernel
theorem dX11_firstToCome_0 : decode cX11_firstToCome 0 = .ok (.aload_n 0, 1) := by decide +kernel
theorem dX11_firstToCome_1 : decode cX11_firstToCome 1 = .ok (.getfield 18, 3) := by decide +kernel
theorem dX11_firstToCome_4 : decode cX11_firstToCome 4 = .ok (.getfield 150, 3) := by decide +kernel
theorem dX11_firstToCome_7 : decode cX11_firstToCome 7 = .ok (.aload_n 0, 1) := by decide +kernel
theorem dX11_firstToCome_8 : decode cX11_firstToCome 8 = .ok (.getfield 47, 3) := by decide +kernel
theorem dX11_firstToCome_11 : decode cX11_firstToCome 11 = .ok (.getfield 186, 3) := by decide +kernel
theorem dX11_firstToCome_14 : decode cX11_firstToCome 14 = .ok (.invokevirtual 387, 3) := by decide +kernel
theorem dX11_firstToCome_17 : decode cX11_firstToCome 17 = .ok (.ireturn, 1) := by decide +kernel
theorem dX11_best_0 : decode cX11_best 0 = .ok (.aload_n 0, 1) := by decide +kernel
theorem dX11_best_1 : decode cX11_best 1 = .ok (.iload_n 1, 1) := by decide +kernel
theorem dX11_best_2 : decode cX11_best 2 = .ok (.invokevirtual 115, 3) := by decide +kernel
theorem dX11_best_5 : decode cX11_best 5 = .ok (.ifCond .ne 5, 3) := by decide +kernel
theorem dX11_best_8 : decode cX11_best 8 = .ok (.iconst (-1), 1) := by decide +kernel
theorem dX11_best_9 : decode cX11_best 9 = .ok (.ireturn, 1) := by decide +kernel
theorem dX11_best_10 : decode cX11_best 10 = .ok (.iconst 0, 1) := by decide +kernel
theorem dX11_best_11 : decode cX11_best 11 = .ok (.istore_n 2, 1) := by decide +kernel
theorem dX11_best_12 : decode cX11_best 12 = .ok (.iconst (-1), 1) := by decide +kernel
theorem dX11_best_13 : decode cX11_best 13 = .ok (.istore_n 3, 1) := by decide +kernel
theorem dX11_best_14 : decode cX11_best 14 = .ok (.iconst 0, 1) := by decide +kernel
theorem dX11_best_15 : decode cX11_best 15 = .ok (.istore 4, 2) := by decide +kernel
theorem dX11_best_17 : decode cX11_best 17 = .ok (.iload 4, 2) := by decide +kernel
theorem dX11_best_19 : decode cX11_best 19 = .ok (.aload_n 0, 1) := by decide +kernel
theorem dX11_best_20 : decode cX11_best 20 = .ok (.getfield 18, 3) := by decide +kernel
theorem dX11_best_23 : decode cX11_best 23 = .ok (.invokevirtual 240, 3) := by decide +kernel
theorem dX11_best_26 : decode cX11_best 26 = .ok (.if_icmp .ge 37, 3) := by decide +kernel
theorem dX11_best_29 : decode cX11_best 29 = .ok (.aload_n 0, 1) := by decide +kernel
theorem dX11_best_30 : decode cX11_best 30 = .ok (.getfield 37, 3) := by decide +kernel
theorem dX11_best_33 : decode cX11_best 33 = .ok (.iload_n 1, 1) := by decide +kernel
theorem dX11_best_34 : decode cX11_best 34 = .ok (.iload 4, 2) := by decide +kernel
theorem dX11_best_36 : decode cX11_best 36 = .ok (.aload_n 0, 1) := by decide +kernel
theorem dX11_best_37 : decode cX11_best 37 = .ok (.invokevirtual 233, 3) := by decide +kernel
theorem dX11_best_40 : decode cX11_best 40 = .ok (.invokevirtual 237, 3) := by decide +kernel
theorem dX11_best_43 : decode cX11_best 43 = .ok (.istore 5, 2) := by decide +kernel
theorem dX11_best_45 : decode cX11_best 45 = .ok (.iload 5, 2) := by decide +kernel
theorem dX11_best_47 : decode cX11_best 47 = .ok (.iload_n 3, 1) := by decide +kernel
theorem dX11_best_48 : decode cX11_best 48 = .ok (.if_icmp .le 9, 3) := by decide +kernel
theorem dX11_best_51 : decode cX11_best 51 = .ok (.iload 5, 2) := by decide +kernel
theorem dX11_best_53 : decode cX11_best 53 = .ok (.istore_n 3, 1) := by decide +kernel
theorem dX11_best_54 : decode cX11_best 54 = .ok (.iload 4, 2) := by decide +kernel
theorem dX11_best_56 : decode cX11_best 56 = .ok (.istore_n 2, 1) := by decide +kernel
theorem dX11_best_57 : decode cX11_best 57 = .ok (.iinc 4 1, 3) := by decide +kernel
theorem dX11_best_60 : decode cX11_best 60 = .ok (.goto (-43), 3) := by decide +kernel
theorem dX11_best_63 : decode cX11_best 63 = .ok (.iload_n 2, 1) := by decide +kernel
theorem dX11_best_64 : decode cX11_best 64 = .ok (.ireturn, 1) := by decide +kernel
theorem dX11_runBy_0 : decode cX11_runBy 0 = .ok (.aload_n 0, 1) := by decide +kernel
theorem dX11_runBy_1 : decode cX11_runBy 1 = .ok (.getfield 51, 3) := by decide +kernel
theorem dX11_runBy_4 : decode cX11_runBy 4 = .ok (.aload_n 0, 1) := by decide +kernel
theorem dX11_runBy_5 : decode cX11_runBy 5 = .ok (.getfield 47, 3) := by decide +kernel
theorem dX11_runBy_8 : decode cX11_runBy 8 = .ok (.iload_n 1, 1) := by decide +kernel
theorem dX11_runBy_9 : decode cX11_runBy 9 = .ok (.iload_n 2, 1) := by decide +kernel
theorem dX11_runBy_10 : decode cX11_runBy 10 = .ok (.invokevirtual 353, 3) := by decide +kernel
theorem dX11_runBy_13 : decode cX11_runBy 13 = .ok (.aload_n 0, 1) := by decide +kernel
theorem dX11_runBy_14 : decode cX11_runBy 14 = .ok (.invokevirtual 233, 3) := by decide +kernel
theorem dX11_runBy_17 : decode cX11_runBy 17 = .ok (.istore_n 3, 1) := by decide +kernel
theorem dX11_runBy_18 : decode cX11_runBy 18 = .ok (.iload_n 3, 1) := by decide +kernel
theorem dX11_runBy_19 : decode cX11_runBy 19 = .ok (.aload_n 0, 1) := by decide +kernel
theorem dX11_runBy_20 : decode cX11_runBy 20 = .ok (.getfield 18, 3) := by decide +kernel
theorem dX11_runBy_23 : decode cX11_runBy 23 = .ok (.getfield 150, 3) := by decide +kernel
theorem dX11_runBy_26 : decode cX11_runBy 26 = .ok (.getfield 299, 3) := by decide +kernel
theorem dX11_runBy_29 : decode cX11_runBy 29 = .ok (.if_icmp .ge 21, 3) := by decide +kernel
theorem dX11_runBy_32 : decode cX11_runBy 32 = .ok (.aload_n 0, 1) := by decide +kernel
theorem dX11_runBy_33 : decode cX11_runBy 33 = .ok (.getfield 37, 3) := by decide +kernel
theorem dX11_runBy_36 : decode cX11_runBy 36 = .ok (.aload_n 0, 1) := by decide +kernel
theorem dX11_runBy_37 : decode cX11_runBy 37 = .ok (.getfield 51, 3) := by decide +kernel
theorem dX11_runBy_40 : decode cX11_runBy 40 = .ok (.iload_n 3, 1) := by decide +kernel
theorem dX11_runBy_41 : decode cX11_runBy 41 = .ok (.invokevirtual 364, 3) := by decide +kernel
theorem dX11_runBy_44 : decode cX11_runBy 44 = .ok (.iinc 3 1, 3) := by decide +kernel
theorem dX11_runBy_47 : decode cX11_runBy 47 = .ok (.goto (-29), 3) := by decide +kernel
theorem dX11_runBy_50 : decode cX11_runBy 50 = .ok (.return_, 1) := by decide +kernel
theorem dX11_chance_0 : decode cX11_chance 0 = .ok (.iload_n 1, 1) := by decide +kernel
theorem dX11_chance_1 : decode cX11_chance 1 = .ok (.ifCond .lt 21, 3) := by decide +kernel
theorem dX11_chance_4 : decode cX11_chance 4 = .ok (.aload_n 0, 1) := by decide +kernel
theorem dX11_chance_5 : decode cX11_chance 5 = .ok (.iload_n 2, 1) := by decide +kernel
theorem dX11_chance_6 : decode cX11_chance 6 = .ok (.invokevirtual 115, 3) := by decide +kernel
theorem dX11_chance_9 : decode cX11_chance 9 = .ok (.ifCond .eq 13, 3) := by decide +kernel
theorem dX11_chance_12 : decode cX11_chance 12 = .ok (.iload_n 3, 1) := by decide +kernel
theorem dX11_chance_13 : decode cX11_chance 13 = .ok (.ifCond .lt 9, 3) := by decide +kernel
theorem dX11_chance_16 : decode cX11_chance 16 = .ok (.iload_n 3, 1) := by decide +kernel
theorem dX11_chance_17 : decode cX11_chance 17 = .ok (.bipush 28, 2) := by decide +kernel
theorem dX11_chance_19 : decode cX11_chance 19 = .ok (.if_icmp .le 5, 3) := by decide +kernel
theorem dX11_chance_22 : decode cX11_chance 22 = .ok (.iconst (-1), 1) := by decide +kernel
theorem dX11_chance_23 : decode cX11_chance 23 = .ok (.ireturn, 1) := by decide +kernel
theorem dX11_chance_24 : decode cX11_chance 24 = .ok (.iconst 0, 1) := by decide +kernel
theorem dX11_chance_25 : decode cX11_chance 25 = .ok (.istore 4, 2) := by decide +kernel
theorem dX11_chance_27 : decode cX11_chance 27 = .ok (.iload_n 1, 1) := by decide +kernel
theorem dX11_chance_28 : decode cX11_chance 28 = .ok (.istore 5, 2) := by decide +kernel
theorem dX11_chance_30 : decode cX11_chance 30 = .ok (.iconst 0, 1) := by decide +kernel
theorem dX11_chance_31 : decode cX11_chance 31 = .ok (.istore 6, 2) := by decide +kernel
theorem dX11_chance_33 : decode cX11_chance 33 = .ok (.iload 6, 2) := by decide +kernel
theorem dX11_chance_35 : decode cX11_chance 35 = .ok (.bipush 10, 2) := by decide +kernel
theorem dX11_chance_37 : decode cX11_chance 37 = .ok (.if_icmp .ge 47, 3) := by decide +kernel
theorem dX11_chance_40 : decode cX11_chance 40 = .ok (.aload_n 0, 1) := by decide +kernel
theorem dX11_chance_41 : decode cX11_chance 41 = .ok (.aload_n 0, 1) := by decide +kernel
theorem dX11_chance_42 : decode cX11_chance 42 = .ok (.getfield 47, 3) := by decide +kernel
theorem dX11_chance_45 : decode cX11_chance 45 = .ok (.getfield 217, 3) := by decide +kernel
theorem dX11_chance_48 : decode cX11_chance 48 = .ok (.iload 5, 2) := by decide +kernel
theorem dX11_chance_50 : decode cX11_chance 50 = .ok (.invokevirtual 284, 3) := by decide +kernel
theorem dX11_chance_53 : decode cX11_chance 53 = .ok (.aload_n 0, 1) := by decide +kernel
theorem dX11_chance_54 : decode cX11_chance 54 = .ok (.getfield 51, 3) := by decide +kernel
theorem dX11_chance_57 : decode cX11_chance 57 = .ok (.getfield 350, 3) := by decide +kernel
theorem dX11_chance_60 : decode cX11_chance 60 = .ok (.istore 5, 2) := by decide +kernel
theorem dX11_chance_62 : decode cX11_chance 62 = .ok (.aload_n 0, 1) := by decide +kernel
theorem dX11_chance_63 : decode cX11_chance 63 = .ok (.getfield 51, 3) := by decide +kernel
theorem dX11_chance_66 : decode cX11_chance 66 = .ok (.getfield 125, 3) := by decide +kernel
theorem dX11_chance_69 : decode cX11_chance 69 = .ok (.iload_n 2, 1) := by decide +kernel
theorem dX11_chance_70 : decode cX11_chance 70 = .ok (.iaload, 1) := by decide +kernel
theorem dX11_chance_71 : decode cX11_chance 71 = .ok (.iload_n 3, 1) := by decide +kernel
theorem dX11_chance_72 : decode cX11_chance 72 = .ok (.if_icmp .lt 6, 3) := by decide +kernel
theorem dX11_chance_75 : decode cX11_chance 75 = .ok (.iinc 4 1, 3) := by decide +kernel
theorem dX11_chance_78 : decode cX11_chance 78 = .ok (.iinc 6 1, 3) := by decide +kernel
theorem dX11_chance_81 : decode cX11_chance 81 = .ok (.goto (-48), 3) := by decide +kernel
theorem dX11_chance_84 : decode cX11_chance 84 = .ok (.iload 4, 2) := by decide +kernel
theorem dX11_chance_86 : decode cX11_chance 86 = .ok (.ireturn, 1) := by decide +kernel
theorem dX11_changeTrial_0 : decode cX11_changeTrial 0 = .ok (.iload_n 1, 1) := by decide +kernel
theorem dX11_changeTrial_1 : decode cX11_changeTrial 1 = .ok (.tableswitch 74 0 3 #[31, 41, 52, 62], 31) := by decide +kernel
theorem dX11_changeTrial_32 : decode cX11_changeTrial 32 = .ok (.aload_n 0, 1) := by decide +kernel
theorem dX11_changeTrial_33 : decode cX11_changeTrial 33 = .ok (.getfield 41, 3) := by decide +kernel
theorem dX11_changeTrial_36 : decode cX11_changeTrial 36 = .ok (.invokevirtual 402, 3) := by decide +kernel
theorem dX11_changeTrial_39 : decode cX11_changeTrial 39 = .ok (.goto 52, 3) := by decide +kernel
theorem dX11_changeTrial_42 : decode cX11_changeTrial 42 = .ok (.aload_n 0, 1) := by decide +kernel
theorem dX11_changeTrial_43 : decode cX11_changeTrial 43 = .ok (.getfield 51, 3) := by decide +kernel
theorem dX11_changeTrial_46 : decode cX11_changeTrial 46 = .ok (.iload_n 2, 1) := by decide +kernel
theorem dX11_changeTrial_47 : decode cX11_changeTrial 47 = .ok (.invokevirtual 405, 3) := by decide +kernel
theorem dX11_changeTrial_50 : decode cX11_changeTrial 50 = .ok (.goto 41, 3) := by decide +kernel
theorem dX11_changeTrial_53 : decode cX11_changeTrial 53 = .ok (.aload_n 0, 1) := by decide +kernel
theorem dX11_changeTrial_54 : decode cX11_changeTrial 54 = .ok (.getfield 41, 3) := by decide +kernel
theorem dX11_changeTrial_57 : decode cX11_changeTrial 57 = .ok (.invokevirtual 408, 3) := by decide +kernel
theorem dX11_changeTrial_60 : decode cX11_changeTrial 60 = .ok (.goto 31, 3) := by decide +kernel
theorem dX11_changeTrial_63 : decode cX11_changeTrial 63 = .ok (.aload_n 0, 1) := by decide +kernel
theorem dX11_changeTrial_64 : decode cX11_changeTrial 64 = .ok (.getfield 41, 3) := by decide +kernel
theorem dX11_changeTrial_67 : decode cX11_changeTrial 67 = .ok (.bipush 9, 2) := by decide +kernel
theorem dX11_changeTrial_69 : decode cX11_changeTrial 69 = .ok (.invokevirtual 411, 3) := by decide +kernel
theorem dX11_changeTrial_72 : decode cX11_changeTrial 72 = .ok (.goto 19, 3) := by decide +kernel
theorem dX11_changeTrial_75 : decode cX11_changeTrial 75 = .ok (.aload_n 0, 1) := by decide +kernel
theorem dX11_changeTrial_76 : decode cX11_changeTrial 76 = .ok (.getfield 51, 3) := by decide +kernel
theorem dX11_changeTrial_79 : decode cX11_changeTrial 79 = .ok (.aload_n 0, 1) := by decide +kernel
theorem dX11_changeTrial_80 : decode cX11_changeTrial 80 = .ok (.getfield 51, 3) := by decide +kernel
theorem dX11_changeTrial_83 : decode cX11_changeTrial 83 = .ok (.getfield 122, 3) := by decide +kernel
theorem dX11_changeTrial_86 : decode cX11_changeTrial 86 = .ok (.iload_n 2, 1) := by decide +kernel
theorem dX11_changeTrial_87 : decode cX11_changeTrial 87 = .ok (.iaload, 1) := by decide +kernel
theorem dX11_changeTrial_88 : decode cX11_changeTrial 88 = .ok (.invokevirtual 414, 3) := by decide +kernel
theorem dX11_changeTrial_91 : decode cX11_changeTrial 91 = .ok (.return_, 1) := by decide +kernel
theorem dX11_count_0 : decode cX11_count 0 = .ok (.iload_n 1, 1) := by decide +kernel
theorem dX11_count_1 : decode cX11_count 1 = .ok (.tableswitch 200 0 13 #[71, 79, 87, 98, 109, 120, 128, 136, 144, 152, 160, 176, 184, 192], 71) := by decide +kernel
theorem dX11_count_72 : decode cX11_count 72 = .ok (.aload_n 0, 1) := by decide +kernel
theorem dX11_count_73 : decode cX11_count 73 = .ok (.getfield 18, 3) := by decide +kernel
theorem dX11_count_76 : decode cX11_count 76 = .ok (.getfield 173, 3) := by decide +kernel
theorem dX11_count_79 : decode cX11_count 79 = .ok (.ireturn, 1) := by decide +kernel
theorem dX11_count_80 : decode cX11_count 80 = .ok (.aload_n 0, 1) := by decide +kernel
theorem dX11_count_81 : decode cX11_count 81 = .ok (.getfield 18, 3) := by decide +kernel
theorem dX11_count_84 : decode cX11_count 84 = .ok (.getfield 381, 3) := by decide +kernel
theorem dX11_count_87 : decode cX11_count 87 = .ok (.ireturn, 1) := by decide +kernel
theorem dX11_count_88 : decode cX11_count 88 = .ok (.aload_n 0, 1) := by decide +kernel
theorem dX11_count_89 : decode cX11_count 89 = .ok (.getfield 18, 3) := by decide +kernel
theorem dX11_count_92 : decode cX11_count 92 = .ok (.getfield 102, 3) := by decide +kernel
theorem dX11_count_95 : decode cX11_count 95 = .ok (.getfield 106, 3) := by decide +kernel
theorem dX11_count_98 : decode cX11_count 98 = .ok (.ireturn, 1) := by decide +kernel
theorem dX11_count_99 : decode cX11_count 99 = .ok (.aload_n 0, 1) := by decide +kernel
theorem dX11_count_100 : decode cX11_count 100 = .ok (.getfield 18, 3) := by decide +kernel
theorem dX11_count_103 : decode cX11_count 103 = .ok (.getfield 150, 3) := by decide +kernel
theorem dX11_count_106 : decode cX11_count 106 = .ok (.getfield 253, 3) := by decide +kernel
theorem dX11_count_109 : decode cX11_count 109 = .ok (.ireturn, 1) := by decide +kernel
theorem dX11_count_110 : decode cX11_count 110 = .ok (.aload_n 0, 1) := by decide +kernel
theorem dX11_count_111 : decode cX11_count 111 = .ok (.getfield 18, 3) := by decide +kernel
theorem dX11_count_114 : decode cX11_count 114 = .ok (.getfield 150, 3) := by decide +kernel
theorem dX11_count_117 : decode cX11_count 117 = .ok (.getfield 299, 3) := by decide +kernel
theorem dX11_count_120 : decode cX11_count 120 = .ok (.ireturn, 1) := by decide +kernel
theorem dX11_count_121 : decode cX11_count 121 = .ok (.aload_n 0, 1) := by decide +kernel
theorem dX11_count_122 : decode cX11_count 122 = .ok (.getfield 18, 3) := by decide +kernel
theorem dX11_count_125 : decode cX11_count 125 = .ok (.getfield 384, 3) := by decide +kernel
theorem dX11_count_128 : decode cX11_count 128 = .ok (.ireturn, 1) := by decide +kernel
theorem dX11_count_129 : decode cX11_count 129 = .ok (.aload_n 0, 1) := by decide +kernel
theorem dX11_count_130 : decode cX11_count 130 = .ok (.getfield 47, 3) := by decide +kernel
theorem dX11_count_133 : decode cX11_count 133 = .ok (.getfield 186, 3) := by decide +kernel
theorem dX11_count_136 : decode cX11_count 136 = .ok (.ireturn, 1) := by decide +kernel
theorem dX11_count_137 : decode cX11_count 137 = .ok (.aload_n 0, 1) := by decide +kernel
theorem dX11_count_138 : decode cX11_count 138 = .ok (.getfield 47, 3) := by decide +kernel
theorem dX11_count_141 : decode cX11_count 141 = .ok (.getfield 217, 3) := by decide +kernel
theorem dX11_count_144 : decode cX11_count 144 = .ok (.ireturn, 1) := by decide +kernel
theorem dX11_count_145 : decode cX11_count 145 = .ok (.aload_n 0, 1) := by decide +kernel
theorem dX11_count_146 : decode cX11_count 146 = .ok (.getfield 47, 3) := by decide +kernel
theorem dX11_count_149 : decode cX11_count 149 = .ok (.getfield 287, 3) := by decide +kernel
theorem dX11_count_152 : decode cX11_count 152 = .ok (.ireturn, 1) := by decide +kernel
theorem dX11_count_153 : decode cX11_count 153 = .ok (.aload_n 0, 1) := by decide +kernel
theorem dX11_count_154 : decode cX11_count 154 = .ok (.getfield 47, 3) := by decide +kernel
theorem dX11_count_157 : decode cX11_count 157 = .ok (.getfield 290, 3) := by decide +kernel
theorem dX11_count_160 : decode cX11_count 160 = .ok (.ireturn, 1) := by decide +kernel
theorem dX11_count_161 : decode cX11_count 161 = .ok (.aload_n 0, 1) := by decide +kernel
theorem dX11_count_162 : decode cX11_count 162 = .ok (.getfield 18, 3) := by decide +kernel
theorem dX11_count_165 : decode cX11_count 165 = .ok (.getfield 150, 3) := by decide +kernel
theorem dX11_count_168 : decode cX11_count 168 = .ok (.getfield 299, 3) := by decide +kernel
theorem dX11_count_171 : decode cX11_count 171 = .ok (.aload_n 0, 1) := by decide +kernel
theorem dX11_count_172 : decode cX11_count 172 = .ok (.invokevirtual 233, 3) := by decide +kernel
theorem dX11_count_175 : decode cX11_count 175 = .ok (.isub, 1) := by decide +kernel
theorem dX11_count_176 : decode cX11_count 176 = .ok (.ireturn, 1) := by decide +kernel
theorem dX11_count_177 : decode cX11_count 177 = .ok (.aload_n 0, 1) := by decide +kernel
theorem dX11_count_178 : decode cX11_count 178 = .ok (.getfield 60, 3) := by decide +kernel
theorem dX11_count_181 : decode cX11_count 181 = .ok (.getfield 323, 3) := by decide +kernel
theorem dX11_count_184 : decode cX11_count 184 = .ok (.ireturn, 1) := by decide +kernel
theorem dX11_count_185 : decode cX11_count 185 = .ok (.aload_n 0, 1) := by decide +kernel
theorem dX11_count_186 : decode cX11_count 186 = .ok (.getfield 60, 3) := by decide +kernel
theorem dX11_count_189 : decode cX11_count 189 = .ok (.invokevirtual 333, 3) := by decide +kernel
theorem dX11_count_192 : decode cX11_count 192 = .ok (.ireturn, 1) := by decide +kernel
theorem dX11_count_193 : decode cX11_count 193 = .ok (.aload_n 0, 1) := by decide +kernel
theorem dX11_count_194 : decode cX11_count 194 = .ok (.getfield 67, 3) := by decide +kernel
theorem dX11_count_197 : decode cX11_count 197 = .ok (.getfield 368, 3) := by decide +kernel
theorem dX11_count_200 : decode cX11_count 200 = .ok (.ireturn, 1) := by decide +kernel
theorem dX11_count_201 : decode cX11_count 201 = .ok (.iconst (-1), 1) := by decide +kernel
theorem dX11_count_202 : decode cX11_count 202 = .ok (.ireturn, 1) := by decide +kernel
theorem dX11_farNow_0 : decode cX11_farNow 0 = .ok (.aload_n 0, 1) := by decide +kernel
theorem dX11_farNow_1 : decode cX11_farNow 1 = .ok (.getfield 18, 3) := by decide +kernel
theorem dX11_farNow_4 : decode cX11_farNow 4 = .ok (.aload_n 0, 1) := by decide +kernel
theorem dX11_farNow_5 : decode cX11_farNow 5 = .ok (.getfield 47, 3) := by decide +kernel
theorem dX11_farNow_8 : decode cX11_farNow 8 = .ok (.getfield 122, 3) := by decide +kernel
theorem dX11_farNow_11 : decode cX11_farNow 11 = .ok (.iload_n 1, 1) := by decide +kernel
theorem dX11_farNow_12 : decode cX11_farNow 12 = .ok (.iaload, 1) := by decide +kernel
theorem dX11_farNow_13 : decode cX11_farNow 13 = .ok (.aload_n 0, 1) := by decide +kernel
theorem dX11_farNow_14 : decode cX11_farNow 14 = .ok (.getfield 37, 3) := by decide +kernel
theorem dX11_farNow_17 : decode cX11_farNow 17 = .ok (.aload_n 0, 1) := by decide +kernel
theorem dX11_farNow_18 : decode cX11_farNow 18 = .ok (.getfield 47, 3) := by decide +kernel
theorem dX11_farNow_21 : decode cX11_farNow 21 = .ok (.getfield 186, 3) := by decide +kernel
theorem dX11_farNow_24 : decode cX11_farNow 24 = .ok (.invokevirtual 176, 3) := by decide +kernel
theorem dX11_farNow_27 : decode cX11_farNow 27 = .ok (.invokevirtual 390, 3) := by decide +kernel
theorem dX11_farNow_30 : decode cX11_farNow 30 = .ok (.ireturn, 1) := by decide +kernel
theorem dX11_deeper_0 : decode cX11_deeper 0 = .ok (.aload_n 0, 1) := by decide +kernel
theorem dX11_deeper_1 : decode cX11_deeper 1 = .ok (.iload_n 1, 1) := by decide +kernel
theorem dX11_deeper_2 : decode cX11_deeper 2 = .ok (.invokevirtual 115, 3) := by decide +kernel
theorem dX11_deeper_5 : decode cX11_deeper 5 = .ok (.ifCond .eq 11, 3) := by decide +kernel
theorem dX11_deeper_8 : decode cX11_deeper 8 = .ok (.aload_n 0, 1) := by decide +kernel
theorem dX11_deeper_9 : decode cX11_deeper 9 = .ok (.iload_n 2, 1) := by decide +kernel
theorem dX11_deeper_10 : decode cX11_deeper 10 = .ok (.invokevirtual 115, 3) := by decide +kernel
theorem dX11_deeper_13 : decode cX11_deeper 13 = .ok (.ifCond .ne 5, 3) := by decide +kernel
theorem dX11_deeper_16 : decode cX11_deeper 16 = .ok (.iconst (-1), 1) := by decide +kernel
theorem dX11_deeper_17 : decode cX11_deeper 17 = .ok (.ireturn, 1) := by decide +kernel
theorem dX11_deeper_18 : decode cX11_deeper 18 = .ok (.aload_n 0, 1) := by decide +kernel
theorem dX11_deeper_19 : decode cX11_deeper 19 = .ok (.iload_n 1, 1) := by decide +kernel
theorem dX11_deeper_20 : decode cX11_deeper 20 = .ok (.invokevirtual 140, 3) := by decide +kernel
theorem dX11_deeper_23 : decode cX11_deeper 23 = .ok (.istore_n 3, 1) := by decide +kernel
theorem dX11_deeper_24 : decode cX11_deeper 24 = .ok (.aload_n 0, 1) := by decide +kernel
theorem dX11_deeper_25 : decode cX11_deeper 25 = .ok (.iload_n 2, 1) := by decide +kernel
theorem dX11_deeper_26 : decode cX11_deeper 26 = .ok (.invokevirtual 140, 3) := by decide +kernel
theorem dX11_deeper_29 : decode cX11_deeper 29 = .ok (.istore 4, 2) := by decide +kernel
theorem dX11_deeper_31 : decode cX11_deeper 31 = .ok (.iload_n 3, 1) := by decide +kernel
theorem dX11_deeper_32 : decode cX11_deeper 32 = .ok (.iload 4, 2) := by decide +kernel
theorem dX11_deeper_34 : decode cX11_deeper 34 = .ok (.if_icmp .ne 5, 3) := by decide +kernel
theorem dX11_deeper_37 : decode cX11_deeper 37 = .ok (.iconst 0, 1) := by decide +kernel
theorem dX11_deeper_38 : decode cX11_deeper 38 = .ok (.ireturn, 1) := by decide +kernel
theorem dX11_deeper_39 : decode cX11_deeper 39 = .ok (.iload_n 3, 1) := by decide +kernel
theorem dX11_deeper_40 : decode cX11_deeper 40 = .ok (.iload 4, 2) := by decide +kernel
theorem dX11_deeper_42 : decode cX11_deeper 42 = .ok (.if_icmp .ge 7, 3) := by decide +kernel
theorem dX11_deeper_45 : decode cX11_deeper 45 = .ok (.iconst 1, 1) := by decide +kernel
theorem dX11_deeper_46 : decode cX11_deeper 46 = .ok (.goto 4, 3) := by decide +kernel
theorem dX11_deeper_49 : decode cX11_deeper 49 = .ok (.iconst 2, 1) := by decide +kernel
theorem dX11_deeper_50 : decode cX11_deeper 50 = .ok (.ireturn, 1) := by decide +kernel
