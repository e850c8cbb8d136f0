theorem dX8_cellBeside_89 : decode cX8_cellBeside 89 = .ok (.iload_n 1, 1) := by decide +kernel
theorem dX8_cellBeside_90 : decode cX8_cellBeside 90 = .ok (.aload_n 0, 1) := by decide +kernel
theorem dX8_cellBeside_91 : decode cX8_cellBeside 91 = .ok (.getfield 32, 3) := by decide +kernel
theorem dX8_cellBeside_94 : decode cX8_cellBeside 94 = .ok (.iadd, 1) := by decide +kernel
theorem dX8_cellBeside_95 : decode cX8_cellBeside 95 = .ok (.goto 4, 3) := by decide +kernel
theorem dX8_cellBeside_98 : decode cX8_cellBeside 98 = .ok (.iconst (-1), 1) := by decide +kernel
theorem dX8_cellBeside_99 : decode cX8_cellBeside 99 = .ok (.ireturn, 1) := by decide +kernel
theorem dX8_cellBeside_100 : decode cX8_cellBeside 100 = .ok (.iload_n 3, 1) := by decide +kernel
theorem dX8_cellBeside_101 : decode cX8_cellBeside 101 = .ok (.ifCond .le 9, 3) := by decide +kernel
theorem dX8_cellBeside_104 : decode cX8_cellBeside 104 = .ok (.iload_n 1, 1) := by decide +kernel
theorem dX8_cellBeside_105 : decode cX8_cellBeside 105 = .ok (.iconst 1, 1) := by decide +kernel
theorem dX8_cellBeside_106 : decode cX8_cellBeside 106 = .ok (.isub, 1) := by decide +kernel
theorem dX8_cellBeside_107 : decode cX8_cellBeside 107 = .ok (.goto 4, 3) := by decide +kernel
theorem dX8_cellBeside_110 : decode cX8_cellBeside 110 = .ok (.iconst (-1), 1) := by decide +kernel
theorem dX8_cellBeside_111 : decode cX8_cellBeside 111 = .ok (.ireturn, 1) := by decide +kernel
theorem dX8_cellBeside_112 : decode cX8_cellBeside 112 = .ok (.iload_n 1, 1) := by decide +kernel
theorem dX8_cellBeside_113 : decode cX8_cellBeside 113 = .ok (.ireturn, 1) := by decide +kernel
theorem dX0_weighWays_0 : decode cX0_weighWays 0 = .ok (.iconst 0, 1) := by decide +kernel
theorem dX0_weighWays_1 : decode cX0_weighWays 1 = .ok (.istore 6, 2) := by decide +kernel
theorem dX0_weighWays_3 : decode cX0_weighWays 3 = .ok (.iload 6, 2) := by decide +kernel
theorem dX0_weighWays_5 : decode cX0_weighWays 5 = .ok (.iconst 5, 1) := by decide +kernel
theorem dX0_weighWays_6 : decode cX0_weighWays 6 = .ok (.if_icmp .ge 117, 3) := by decide +kernel
theorem dX0_weighWays_9 : decode cX0_weighWays 9 = .ok (.aload_n 1, 1) := by decide +kernel
theorem dX0_weighWays_10 : decode cX0_weighWays 10 = .ok (.getfield 43, 3) := by decide +kernel
theorem dX0_weighWays_13 : decode cX0_weighWays 13 = .ok (.aload_n 2, 1) := by decide +kernel
theorem dX0_weighWays_14 : decode cX0_weighWays 14 = .ok (.getfield 81, 3) := by decide +kernel
theorem dX0_weighWays_17 : decode cX0_weighWays 17 = .ok (.iload_n 3, 1) := by decide +kernel
theorem dX0_weighWays_18 : decode cX0_weighWays 18 = .ok (.iaload, 1) := by decide +kernel
theorem dX0_weighWays_19 : decode cX0_weighWays 19 = .ok (.getstatic 84, 3) := by decide +kernel
theorem dX0_weighWays_22 : decode cX0_weighWays 22 = .ok (.iload 6, 2) := by decide +kernel
theorem dX0_weighWays_24 : decode cX0_weighWays 24 = .ok (.iaload, 1) := by decide +kernel
theorem dX0_weighWays_25 : decode cX0_weighWays 25 = .ok (.invokevirtual 87, 3) := by decide +kernel
theorem dX0_weighWays_28 : decode cX0_weighWays 28 = .ok (.istore 7, 2) := by decide +kernel
theorem dX0_weighWays_30 : decode cX0_weighWays 30 = .ok (.aload_n 0, 1) := by decide +kernel
theorem dX0_weighWays_31 : decode cX0_weighWays 31 = .ok (.getfield 9, 3) := by decide +kernel
theorem dX0_weighWays_34 : decode cX0_weighWays 34 = .ok (.iload 4, 2) := by decide +kernel
theorem dX0_weighWays_36 : decode cX0_weighWays 36 = .ok (.iload 6, 2) := by decide +kernel
theorem dX0_weighWays_38 : decode cX0_weighWays 38 = .ok (.iadd, 1) := by decide +kernel
theorem dX0_weighWays_39 : decode cX0_weighWays 39 = .ok (.iload 7, 2) := by decide +kernel
theorem dX0_weighWays_41 : decode cX0_weighWays 41 = .ok (.iastore, 1) := by decide +kernel
theorem dX0_weighWays_42 : decode cX0_weighWays 42 = .ok (.iload 5, 2) := by decide +kernel
theorem dX0_weighWays_44 : decode cX0_weighWays 44 = .ok (.istore 8, 2) := by decide +kernel
theorem dX0_weighWays_46 : decode cX0_weighWays 46 = .ok (.iload 7, 2) := by decide +kernel
theorem dX0_weighWays_48 : decode cX0_weighWays 48 = .ok (.iconst (-1), 1) := by decide +kernel
theorem dX0_weighWays_49 : decode cX0_weighWays 49 = .ok (.if_icmp .eq 68, 3) := by decide +kernel
theorem dX0_weighWays_52 : decode cX0_weighWays 52 = .ok (.iload 8, 2) := by decide +kernel
theorem dX0_weighWays_54 : decode cX0_weighWays 54 = .ok (.aload_n 1, 1) := by decide +kernel
theorem dX0_weighWays_55 : decode cX0_weighWays 55 = .ok (.getfield 43, 3) := by decide +kernel
theorem dX0_weighWays_58 : decode cX0_weighWays 58 = .ok (.getfield 49, 3) := by decide +kernel
theorem dX0_weighWays_61 : decode cX0_weighWays 61 = .ok (.getfield 71, 3) := by decide +kernel
theorem dX0_weighWays_64 : decode cX0_weighWays 64 = .ok (.if_icmp .ge 53, 3) := by decide +kernel
theorem dX0_weighWays_67 : decode cX0_weighWays 67 = .ok (.iload 4, 2) := by decide +kernel
theorem dX0_weighWays_69 : decode cX0_weighWays 69 = .ok (.iload 6, 2) := by decide +kernel
theorem dX0_weighWays_71 : decode cX0_weighWays 71 = .ok (.iadd, 1) := by decide +kernel
theorem dX0_weighWays_72 : decode cX0_weighWays 72 = .ok (.bipush 28, 2) := by decide +kernel
theorem dX0_weighWays_74 : decode cX0_weighWays 74 = .ok (.imul, 1) := by decide +kernel
theorem dX0_weighWays_75 : decode cX0_weighWays 75 = .ok (.iload 8, 2) := by decide +kernel
theorem dX0_weighWays_77 : decode cX0_weighWays 77 = .ok (.iadd, 1) := by decide +kernel
theorem dX0_weighWays_78 : decode cX0_weighWays 78 = .ok (.istore 9, 2) := by decide +kernel
theorem dX0_weighWays_80 : decode cX0_weighWays 80 = .ok (.aload_n 0, 1) := by decide +kernel
theorem dX0_weighWays_81 : decode cX0_weighWays 81 = .ok (.getfield 15, 3) := by decide +kernel
theorem dX0_weighWays_84 : decode cX0_weighWays 84 = .ok (.iload 9, 2) := by decide +kernel
theorem dX0_weighWays_86 : decode cX0_weighWays 86 = .ok (.aload_n 1, 1) := by decide +kernel
theorem dX0_weighWays_87 : decode cX0_weighWays 87 = .ok (.iload 7, 2) := by decide +kernel
theorem dX0_weighWays_89 : decode cX0_weighWays 89 = .ok (.iload 8, 2) := by decide +kernel
theorem dX0_weighWays_91 : decode cX0_weighWays 91 = .ok (.invokevirtual 91, 3) := by decide +kernel
theorem dX0_weighWays_94 : decode cX0_weighWays 94 = .ok (.iastore, 1) := by decide +kernel
theorem dX0_weighWays_95 : decode cX0_weighWays 95 = .ok (.aload_n 0, 1) := by decide +kernel
theorem dX0_weighWays_96 : decode cX0_weighWays 96 = .ok (.getfield 18, 3) := by decide +kernel
theorem dX0_weighWays_99 : decode cX0_weighWays 99 = .ok (.iload 9, 2) := by decide +kernel
theorem dX0_weighWays_101 : decode cX0_weighWays 101 = .ok (.aload_n 1, 1) := by decide +kernel
theorem dX0_weighWays_102 : decode cX0_weighWays 102 = .ok (.iload_n 3, 1) := by decide +kernel
theorem dX0_weighWays_103 : decode cX0_weighWays 103 = .ok (.iload 8, 2) := by decide +kernel
theorem dX0_weighWays_105 : decode cX0_weighWays 105 = .ok (.iload 7, 2) := by decide +kernel
theorem dX0_weighWays_107 : decode cX0_weighWays 107 = .ok (.invokevirtual 94, 3) := by decide +kernel
theorem dX0_weighWays_110 : decode cX0_weighWays 110 = .ok (.iastore, 1) := by decide +kernel
theorem dX0_weighWays_111 : decode cX0_weighWays 111 = .ok (.iinc 8 1, 3) := by decide +kernel
theorem dX0_weighWays_114 : decode cX0_weighWays 114 = .ok (.goto (-68), 3) := by decide +kernel
theorem dX0_weighWays_117 : decode cX0_weighWays 117 = .ok (.iinc 6 1, 3) := by decide +kernel
theorem dX0_weighWays_120 : decode cX0_weighWays 120 = .ok (.goto (-117), 3) := by decide +kernel
theorem dX0_weighWays_123 : decode cX0_weighWays 123 = .ok (.return_, 1) := by decide +kernel
theorem dX0_sharePair_0 : decode cX0_sharePair 0 = .ok (.iconst 0, 1) := by decide +kernel
theorem dX0_sharePair_1 : decode cX0_sharePair 1 = .ok (.istore 6, 2) := by decide +kernel
theorem dX0_sharePair_3 : decode cX0_sharePair 3 = .ok (.iconst 0, 1) := by decide +kernel
theorem dX0_sharePair_4 : decode cX0_sharePair 4 = .ok (.istore 7, 2) := by decide +kernel
theorem dX0_sharePair_6 : decode cX0_sharePair 6 = .ok (.iload_n 3, 1) := by decide +kernel
theorem dX0_sharePair_7 : decode cX0_sharePair 7 = .ok (.istore 8, 2) := by decide +kernel
theorem dX0_sharePair_9 : decode cX0_sharePair 9 = .ok (.iload 8, 2) := by decide +kernel
theorem dX0_sharePair_11 : decode cX0_sharePair 11 = .ok (.iload 4, 2) := by decide +kernel
theorem dX0_sharePair_13 : decode cX0_sharePair 13 = .ok (.if_icmp .ge 95, 3) := by decide +kernel
theorem dX0_sharePair_16 : decode cX0_sharePair 16 = .ok (.iload_n 1, 1) := by decide +kernel
theorem dX0_sharePair_17 : decode cX0_sharePair 17 = .ok (.bipush 28, 2) := by decide +kernel
theorem dX0_sharePair_19 : decode cX0_sharePair 19 = .ok (.imul, 1) := by decide +kernel
theorem dX0_sharePair_20 : decode cX0_sharePair 20 = .ok (.iload 8, 2) := by decide +kernel
theorem dX0_sharePair_22 : decode cX0_sharePair 22 = .ok (.iadd, 1) := by decide +kernel
theorem dX0_sharePair_23 : decode cX0_sharePair 23 = .ok (.istore 9, 2) := by decide +kernel
theorem dX0_sharePair_25 : decode cX0_sharePair 25 = .ok (.iconst 5, 1) := by decide +kernel
theorem dX0_sharePair_26 : decode cX0_sharePair 26 = .ok (.iload_n 2, 1) := by decide +kernel
theorem dX0_sharePair_27 : decode cX0_sharePair 27 = .ok (.iadd, 1) := by decide +kernel
theorem dX0_sharePair_28 : decode cX0_sharePair 28 = .ok (.bipush 28, 2) := by decide +kernel
theorem dX0_sharePair_30 : decode cX0_sharePair 30 = .ok (.imul, 1) := by decide +kernel
theorem dX0_sharePair_31 : decode cX0_sharePair 31 = .ok (.iload 8, 2) := by decide +kernel
theorem dX0_sharePair_33 : decode cX0_sharePair 33 = .ok (.iadd, 1) := by decide +kernel
theorem dX0_sharePair_34 : decode cX0_sharePair 34 = .ok (.istore 10, 2) := by decide +kernel
theorem dX0_sharePair_36 : decode cX0_sharePair 36 = .ok (.aload_n 0, 1) := by decide +kernel
theorem dX0_sharePair_37 : decode cX0_sharePair 37 = .ok (.getfield 15, 3) := by decide +kernel
theorem dX0_sharePair_40 : decode cX0_sharePair 40 = .ok (.iload 9, 2) := by decide +kernel
theorem dX0_sharePair_42 : decode cX0_sharePair 42 = .ok (.iaload, 1) := by decide +kernel
theorem dX0_sharePair_43 : decode cX0_sharePair 43 = .ok (.aload_n 0, 1) := by decide +kernel
theorem dX0_sharePair_44 : decode cX0_sharePair 44 = .ok (.getfield 15, 3) := by decide +kernel
theorem dX0_sharePair_47 : decode cX0_sharePair 47 = .ok (.iload 10, 2) := by decide +kernel
theorem dX0_sharePair_49 : decode cX0_sharePair 49 = .ok (.iaload, 1) := by decide +kernel
theorem dX0_sharePair_50 : decode cX0_sharePair 50 = .ok (.if_icmp .lt 25, 3) := by decide +kernel
theorem dX0_sharePair_53 : decode cX0_sharePair 53 = .ok (.aload_n 0, 1) := by decide +kernel
theorem dX0_sharePair_54 : decode cX0_sharePair 54 = .ok (.getfield 15, 3) := by decide +kernel
theorem dX0_sharePair_57 : decode cX0_sharePair 57 = .ok (.iload 9, 2) := by decide +kernel
theorem dX0_sharePair_59 : decode cX0_sharePair 59 = .ok (.iaload, 1) := by decide +kernel
theorem dX0_sharePair_60 : decode cX0_sharePair 60 = .ok (.aload_n 0, 1) := by decide +kernel
theorem dX0_sharePair_61 : decode cX0_sharePair 61 = .ok (.getfield 15, 3) := by decide +kernel
theorem dX0_sharePair_64 : decode cX0_sharePair 64 = .ok (.iload 10, 2) := by decide +kernel
theorem dX0_sharePair_66 : decode cX0_sharePair 66 = .ok (.iaload, 1) := by decide +kernel
theorem dX0_sharePair_67 : decode cX0_sharePair 67 = .ok (.if_icmp .ne 23, 3) := by decide +kernel
theorem dX0_sharePair_70 : decode cX0_sharePair 70 = .ok (.iload 5, 2) := by decide +kernel
theorem dX0_sharePair_72 : decode cX0_sharePair 72 = .ok (.ifCond .eq 18, 3) := by decide +kernel
theorem dX0_sharePair_75 : decode cX0_sharePair 75 = .ok (.iload 6, 2) := by decide +kernel
theorem dX0_sharePair_77 : decode cX0_sharePair 77 = .ok (.aload_n 0, 1) := by decide +kernel
theorem dX0_sharePair_78 : decode cX0_sharePair 78 = .ok (.getfield 18, 3) := by decide +kernel
theorem dX0_sharePair_81 : decode cX0_sharePair 81 = .ok (.iload 9, 2) := by decide +kernel
theorem dX0_sharePair_83 : decode cX0_sharePair 83 = .ok (.iaload, 1) := by decide +kernel
theorem dX0_sharePair_84 : decode cX0_sharePair 84 = .ok (.iadd, 1) := by decide +kernel
theorem dX0_sharePair_85 : decode cX0_sharePair 85 = .ok (.istore 6, 2) := by decide +kernel
theorem dX0_sharePair_87 : decode cX0_sharePair 87 = .ok (.goto 15, 3) := by decide +kernel
theorem dX0_sharePair_90 : decode cX0_sharePair 90 = .ok (.iload 7, 2) := by decide +kernel
theorem dX0_sharePair_92 : decode cX0_sharePair 92 = .ok (.aload_n 0, 1) := by decide +kernel
theorem dX0_sharePair_93 : decode cX0_sharePair 93 = .ok (.getfield 18, 3) := by decide +kernel
theorem dX0_sharePair_96 : decode cX0_sharePair 96 = .ok (.iload 10, 2) := by decide +kernel
theorem dX0_sharePair_98 : decode cX0_sharePair 98 = .ok (.iaload, 1) := by decide +kernel
theorem dX0_sharePair_99 : decode cX0_sharePair 99 = .ok (.iadd, 1) := by decide +kernel
theorem dX0_sharePair_100 : decode cX0_sharePair 100 = .ok (.istore 7, 2) := by decide +kernel
theorem dX0_sharePair_102 : decode cX0_sharePair 102 = .ok (.iinc 8 1, 3) := by decide +kernel
theorem dX0_sharePair_105 : decode cX0_sharePair 105 = .ok (.goto (-96), 3) := by decide +kernel
theorem dX0_sharePair_108 : decode cX0_sharePair 108 = .ok (.aload_n 0, 1) := by decide +kernel
theorem dX0_sharePair_109 : decode cX0_sharePair 109 = .ok (.getfield 21, 3) := by decide +kernel
theorem dX0_sharePair_112 : decode cX0_sharePair 112 = .ok (.iload_n 1, 1) := by decide +kernel
theorem dX0_sharePair_113 : decode cX0_sharePair 113 = .ok (.iconst 5, 1) := by decide +kernel
theorem dX0_sharePair_114 : decode cX0_sharePair 114 = .ok (.imul, 1) := by decide +kernel
theorem dX0_sharePair_115 : decode cX0_sharePair 115 = .ok (.iload_n 2, 1) := by decide +kernel
theorem dX0_sharePair_116 : decode cX0_sharePair 116 = .ok (.iadd, 1) := by decide +kernel
theorem dX0_sharePair_117 : decode cX0_sharePair 117 = .ok (.iload 6, 2) := by decide +kernel
theorem dX0_sharePair_119 : decode cX0_sharePair 119 = .ok (.iastore, 1) := by decide +kernel
theorem dX0_sharePair_120 : decode cX0_sharePair 120 = .ok (.aload_n 0, 1) := by decide +kernel
theorem dX0_sharePair_121 : decode cX0_sharePair 121 = .ok (.getfield 24, 3) := by decide +kernel
theorem dX0_sharePair_124 : decode cX0_sharePair 124 = .ok (.iload_n 1, 1) := by decide +kernel
theorem dX0_sharePair_125 : decode cX0_sharePair 125 = .ok (.iconst 5, 1) := by decide +kernel
theorem dX0_sharePair_126 : decode cX0_sharePair 126 = .ok (.imul, 1) := by decide +kernel
theorem dX0_sharePair_127 : decode cX0_sharePair 127 = .ok (.iload_n 2, 1) := by decide +kernel
theorem dX0_sharePair_128 : decode cX0_sharePair 128 = .ok (.iadd, 1) := by decide +kernel
theorem dX0_sharePair_129 : decode cX0_sharePair 129 = .ok (.iload 7, 2) := by decide +kernel
theorem dX0_sharePair_131 : decode cX0_sharePair 131 = .ok (.iastore, 1) := by decide +kernel
theorem dX0_sharePair_132 : decode cX0_sharePair 132 = .ok (.return_, 1) := by decide +kernel
theorem dX0_playGame_0 : decode cX0_playGame 0 = .ok (.aload_n 1, 1) := by decide +kernel
theorem dX0_playGame_1 : decode cX0_playGame 1 = .ok (.getfield 43, 3) := by decide +kernel
theorem dX0_playGame_4 : decode cX0_playGame 4 = .ok (.getfield 49, 3) := by decide +kernel
theorem dX0_playGame_7 : decode cX0_playGame 7 = .ok (.aload_n 2, 1) := by decide +kernel
theorem dX0_playGame_8 : decode cX0_playGame 8 = .ok (.getfield 55, 3) := by decide +kernel
theorem dX0_playGame_11 : decode cX0_playGame 11 = .ok (.invokevirtual 61, 3) := by decide +kernel
theorem dX0_playGame_14 : decode cX0_playGame 14 = .ok (.istore 5, 2) := by decide +kernel
theorem dX0_playGame_16 : decode cX0_playGame 16 = .ok (.aload_n 0, 1) := by decide +kernel
theorem dX0_playGame_17 : decode cX0_playGame 17 = .ok (.aload_n 1, 1) := by decide +kernel
theorem dX0_playGame_18 : decode cX0_playGame 18 = .ok (.aload_n 2, 1) := by decide +kernel
theorem dX0_playGame_19 : decode cX0_playGame 19 = .ok (.iload_n 3, 1) := by decide +kernel
theorem dX0_playGame_20 : decode cX0_playGame 20 = .ok (.iconst 0, 1) := by decide +kernel
theorem dX0_playGame_21 : decode cX0_playGame 21 = .ok (.iload 5, 2) := by decide +kernel
theorem dX0_playGame_23 : decode cX0_playGame 23 = .ok (.invokevirtual 67, 3) := by decide +kernel
theorem dX0_playGame_26 : decode cX0_playGame 26 = .ok (.aload_n 0, 1) := by decide +kernel
theorem dX0_playGame_27 : decode cX0_playGame 27 = .ok (.aload_n 1, 1) := by decide +kernel
theorem dX0_playGame_28 : decode cX0_playGame 28 = .ok (.aload_n 2, 1) := by decide +kernel
theorem dX0_playGame_29 : decode cX0_playGame 29 = .ok (.iload 4, 2) := by decide +kernel
theorem dX0_playGame_31 : decode cX0_playGame 31 = .ok (.iconst 5, 1) := by decide +kernel
theorem dX0_playGame_32 : decode cX0_playGame 32 = .ok (.iload 5, 2) := by decide +kernel
theorem dX0_playGame_34 : decode cX0_playGame 34 = .ok (.invokevirtual 67, 3) := by decide +kernel
theorem dX0_playGame_37 : decode cX0_playGame 37 = .ok (.iconst 0, 1) := by decide +kernel
theorem dX0_playGame_38 : decode cX0_playGame 38 = .ok (.istore 6, 2) := by decide +kernel
theorem dX0_playGame_40 : decode cX0_playGame 40 = .ok (.iload 6, 2) := by decide +kernel
theorem dX0_playGame_42 : decode cX0_playGame 42 = .ok (.iconst 5, 1) := by decide +kernel
theorem dX0_playGame_43 : decode cX0_playGame 43 = .ok (.if_icmp .ge 55, 3) := by decide +kernel
theorem dX0_playGame_46 : decode cX0_playGame 46 = .ok (.iconst 0, 1) := by decide +kernel
theorem dX0_playGame_47 : decode cX0_playGame 47 = .ok (.istore 7, 2) := by decide +kernel
theorem dX0_playGame_49 : decode cX0_playGame 49 = .ok (.iload 7, 2) := by decide +kernel
theorem dX0_playGame_51 : decode cX0_playGame 51 = .ok (.iconst 5, 1) := by decide +kernel
theorem dX0_playGame_52 : decode cX0_playGame 52 = .ok (.if_icmp .ge 40, 3) := by decide +kernel
theorem dX0_playGame_55 : decode cX0_playGame 55 = .ok (.aload_n 0, 1) := by decide +kernel
theorem dX0_playGame_56 : decode cX0_playGame 56 = .ok (.iload 6, 2) := by decide +kernel
theorem dX0_playGame_58 : decode cX0_playGame 58 = .ok (.iload 7, 2) := by decide +kernel
theorem dX0_playGame_60 : decode cX0_playGame 60 = .ok (.iload 5, 2) := by decide +kernel
theorem dX0_playGame_62 : decode cX0_playGame 62 = .ok (.aload_n 1, 1) := by decide +kernel
theorem dX0_playGame_63 : decode cX0_playGame 63 = .ok (.getfield 43, 3) := by decide +kernel
theorem dX0_playGame_66 : decode cX0_playGame 66 = .ok (.getfield 49, 3) := by decide +kernel
theorem dX0_playGame_69 : decode cX0_playGame 69 = .ok (.getfield 71, 3) := by decide +kernel
theorem dX0_playGame_72 : decode cX0_playGame 72 = .ok (.iload_n 3, 1) := by decide +kernel
theorem dX0_playGame_73 : decode cX0_playGame 73 = .ok (.iload 4, 2) := by decide +kernel
theorem dX0_playGame_75 : decode cX0_playGame 75 = .ok (.if_icmp .ge 7, 3) := by decide +kernel
theorem dX0_playGame_78 : decode cX0_playGame 78 = .ok (.iconst 1, 1) := by decide +kernel
theorem dX0_playGame_79 : decode cX0_playGame 79 = .ok (.goto 4, 3) := by decide +kernel
theorem dX0_playGame_82 : decode cX0_playGame 82 = .ok (.iconst 0, 1) := by decide +kernel
theorem dX0_playGame_83 : decode cX0_playGame 83 = .ok (.invokevirtual 74, 3) := by decide +kernel
theorem dX0_playGame_86 : decode cX0_playGame 86 = .ok (.iinc 7 1, 3) := by decide +kernel
theorem dX0_playGame_89 : decode cX0_playGame 89 = .ok (.goto (-40), 3) := by decide +kernel
theorem dX0_playGame_92 : decode cX0_playGame 92 = .ok (.iinc 6 1, 3) := by decide +kernel
theorem dX0_playGame_95 : decode cX0_playGame 95 = .ok (.goto (-55), 3) := by decide +kernel
theorem dX0_playGame_98 : decode cX0_playGame 98 = .ok (.aload_n 0, 1) := by decide +kernel
theorem dX0_playGame_99 : decode cX0_playGame 99 = .ok (.invokevirtual 78, 3) := by decide +kernel
theorem dX0_playGame_102 : decode cX0_playGame 102 = .ok (.return_, 1) := by decide +kernel
theorem dX1_add_0 : decode cX1_add 0 = .ok (.aload_n 0, 1) := by decide +kernel
theorem dX1_add_1 : decode cX1_add 1 = .ok (.getfield 30, 3) := by decide +kernel
theorem dX1_add_4 : decode cX1_add 4 = .ok (.iconst 5, 1) := by decide +kernel
theorem dX1_add_5 : decode cX1_add 5 = .ok (.if_icmp .lt 4, 3) := by decide +kernel
theorem dX1_add_8 : decode cX1_add 8 = .ok (.return_, 1) := by decide +kernel
theorem dX1_add_9 : decode cX1_add 9 = .ok (.aload_n 0, 1) := by decide +kernel
theorem dX1_add_10 : decode cX1_add 10 = .ok (.getfield 9, 3) := by decide +kernel
theorem dX1_add_13 : decode cX1_add 13 = .ok (.aload_n 0, 1) := by decide +kernel
theorem dX1_add_14 : decode cX1_add 14 = .ok (.getfield 30, 3) := by decide +kernel
theorem dX1_add_17 : decode cX1_add 17 = .ok (.iload_n 1, 1) := by decide +kernel
theorem dX1_add_18 : decode cX1_add 18 = .ok (.iastore, 1) := by decide +kernel
theorem dX1_add_19 : decode cX1_add 19 = .ok (.aload_n 0, 1) := by decide +kernel
theorem dX1_add_20 : decode cX1_add 20 = .ok (.getfield 15, 3) := by decide +kernel
theorem dX1_add_23 : decode cX1_add 23 = .ok (.aload_n 0, 1) := by decide +kernel
theorem dX1_add_24 : decode cX1_add 24 = .ok (.getfield 30, 3) := by decide +kernel
theorem dX1_add_27 : decode cX1_add 27 = .ok (.iload_n 2, 1) := by decide +kernel
theorem dX1_add_28 : decode cX1_add 28 = .ok (.iastore, 1) := by decide +kernel
theorem dX1_add_29 : decode cX1_add 29 = .ok (.aload_n 0, 1) := by decide +kernel
theorem dX1_add_30 : decode cX1_add 30 = .ok (.getfield 18, 3) := by decide +kernel
theorem dX1_add_33 : decode cX1_add 33 = .ok (.aload_n 0, 1) := by decide +kernel
theorem dX1_add_34 : decode cX1_add 34 = .ok (.getfield 30, 3) := by decide +kernel
theorem dX1_add_37 : decode cX1_add 37 = .ok (.iload_n 3, 1) := by decide +kernel
theorem dX1_add_38 : decode cX1_add 38 = .ok (.iastore, 1) := by decide +kernel
theorem dX1_add_39 : decode cX1_add 39 = .ok (.aload_n 0, 1) := by decide +kernel
theorem dX1_add_40 : decode cX1_add 40 = .ok (.getfield 21, 3) := by decide +kernel
theorem dX1_add_43 : decode cX1_add 43 = .ok (.aload_n 0, 1) := by decide +kernel
theorem dX1_add_44 : decode cX1_add 44 = .ok (.getfield 30, 3) := by decide +kernel
theorem dX1_add_47 : decode cX1_add 47 = .ok (.iload 4, 2) := by decide +kernel
theorem dX1_add_49 : decode cX1_add 49 = .ok (.iastore, 1) := by decide +kernel
theorem dX1_add_50 : decode cX1_add 50 = .ok (.aload_n 0, 1) := by decide +kernel
theorem dX1_add_51 : decode cX1_add 51 = .ok (.getfield 24, 3) := by decide +kernel
theorem dX1_add_54 : decode cX1_add 54 = .ok (.aload_n 0, 1) := by decide +kernel
theorem dX1_add_55 : decode cX1_add 55 = .ok (.getfield 30, 3) := by decide +kernel
theorem dX1_add_58 : decode cX1_add 58 = .ok (.iload 5, 2) := by decide +kernel
theorem dX1_add_60 : decode cX1_add 60 = .ok (.iastore, 1) := by decide +kernel
theorem dX1_add_61 : decode cX1_add 61 = .ok (.aload_n 0, 1) := by decide +kernel
theorem dX1_add_62 : decode cX1_add 62 = .ok (.getfield 27, 3) := by decide +kernel
theorem dX1_add_65 : decode cX1_add 65 = .ok (.aload_n 0, 1) := by decide +kernel
theorem dX1_add_66 : decode cX1_add 66 = .ok (.getfield 30, 3) := by decide +kernel
theorem dX1_add_69 : decode cX1_add 69 = .ok (.iload 6, 2) := by decide +kernel
theorem dX1_add_71 : decode cX1_add 71 = .ok (.iastore, 1) := by decide +kernel
theorem dX1_add_72 : decode cX1_add 72 = .ok (.aload_n 0, 1) := by decide +kernel
theorem dX1_add_73 : decode cX1_add 73 = .ok (.dup, 1) := by decide +kernel
theorem dX1_add_74 : decode cX1_add 74 = .ok (.getfield 30, 3) := by decide +kernel
theorem dX1_add_77 : decode cX1_add 77 = .ok (.iconst 1, 1) := by decide +kernel
theorem dX1_add_78 : decode cX1_add 78 = .ok (.iadd, 1) := by decide +kernel
theorem dX1_add_79 : decode cX1_add 79 = .ok (.putfield 30, 3) := by decide +kernel
theorem dX1_add_82 : decode cX1_add 82 = .ok (.return_, 1) := by decide +kernel
theorem dX1_hasName_0 : decode cX1_hasName 0 = .ok (.iconst 0, 1) := by decide +kernel
theorem dX1_hasName_1 : decode cX1_hasName 1 = .ok (.istore_n 2, 1) := by decide +kernel
theorem dX1_hasName_2 : decode cX1_hasName 2 = .ok (.iload_n 2, 1) := by decide +kernel
theorem dX1_hasName_3 : decode cX1_hasName 3 = .ok (.aload_n 0, 1) := by decide +kernel
theorem dX1_hasName_4 : decode cX1_hasName 4 = .ok (.getfield 30, 3) := by decide +kernel
theorem dX1_hasName_7 : decode cX1_hasName 7 = .ok (.if_icmp .ge 21, 3) := by decide +kernel
theorem dX1_hasName_10 : decode cX1_hasName 10 = .ok (.aload_n 0, 1) := by decide +kernel
theorem dX1_hasName_11 : decode cX1_hasName 11 = .ok (.getfield 9, 3) := by decide +kernel
theorem dX1_hasName_14 : decode cX1_hasName 14 = .ok (.iload_n 2, 1) := by decide +kernel
theorem dX1_hasName_15 : decode cX1_hasName 15 = .ok (.iaload, 1) := by decide +kernel
theorem dX1_hasName_16 : decode cX1_hasName 16 = .ok (.iload_n 1, 1) := by decide +kernel
theorem dX1_hasName_17 : decode cX1_hasName 17 = .ok (.if_icmp .ne 5, 3) := by decide +kernel
theorem dX1_hasName_20 : decode cX1_hasName 20 = .ok (.iconst 1, 1) := by decide +kernel
theorem dX1_hasName_21 : decode cX1_hasName 21 = .ok (.ireturn, 1) := by decide +kernel
theorem dX1_hasName_22 : decode cX1_hasName 22 = .ok (.iinc 2 1, 3) := by decide +kernel
theorem dX1_hasName_25 : decode cX1_hasName 25 = .ok (.goto (-23), 3) := by decide +kernel
theorem dX1_hasName_28 : decode cX1_hasName 28 = .ok (.iconst 0, 1) := by decide +kernel
theorem dX1_hasName_29 : decode cX1_hasName 29 = .ok (.ireturn, 1) := by decide +kernel
section
variable {p : Program} {l : Launch} {e : Env} {s : State} {m : MethodId} {args : Array Value} {below : List Frame} {meth : Method} {c : Code} {D : va_G} {cy : Nat → ClassId} {b : Nat} {A : Nat → Prop} {fl : Bool}
def vX0_isRest : List Cond := .code yX0_isRest cX0_isRest 4 (some .boolean) :: TB
theorem lf0_isRest_9 : Fl vX0_isRest RX0 9 0 0 := ⟨RX0, TX0, 13, rfl, by decide, (fun w h9 => List.mem_cons_of_mem _ (wC_wsX00 w h9)), (List.mem_cons_of_mem _ wT_9_7)⟩
theorem lf0_isRest_24 : Fl vX0_isRest RX0 24 0 4 := ⟨RX0, TX0, 13, rfl, by decide, (fun w h9 => List.mem_cons_of_mem _ (wC_wsX00 w h9)), (List.mem_cons_of_mem _ wT_9_11)⟩
theorem lf0_isRest_21 : Fl vX0_isRest RX0 21 0 3 := ⟨RX0, TX0, 13, rfl, by decide, (fun w h9 => List.mem_cons_of_mem _ (wC_wsX00 w h9)), (List.mem_cons_of_mem _ wT_9_10)⟩
theorem cd0_isRest : Cd yX0_isRest 2 := ⟨by decide, by decide, by decide +kernel⟩
set_option maxHeartbeats 4000000 in
set_option maxRecDepth 100000 in
theorem T0_isRest_66 (S : CallFix p m c cX0_isRest 4 s args vX0_isRest RX0) (hr : meth.sig.returnType = (some .boolean)) (hlo : meth.locks = false) {out : Int32 × PH} {k26 : PH → Nat → Int32 → Int32 → Int32 → Option (Int32 × PH)} (hk26 : ∀ {h : PH} {a0 : Nat} {x1 : Int32} {x2 : Int32} {x3 : Int32}, k26 h a0 x1 x2 x3 = some out → ∀ (H : Heap) (locs : List Loc), ph_I D cy b A fl h s H locs → ∀ (ls : Array Slot), lv_has ls 4 [(0, .ref (b + a0)), (1, .int x1), (2, .int x2), (3, .int x3)] → W p l e ({ frames := 0, cells := 0, slots := 0, locals := 0 } : Room) s m args below meth c H locs 0 0 (MQ below (va_Qi (fun (r : Int32) (u : PH) => (r, u) = out) (ph_B D cy b A fl) A) args s 0 0 A) (F0 m 26 ls [])) {h : PH} {a0 : Nat} {x1 : Int32} {x2 : Int32} {x3 : Int32} (f : F0_isRest_66 k26 h a0 x1 x2 x3 = some out) {H : Heap} {locs : List Loc} (I : ph_I D cy b A fl h s H locs) {ls : Array Slot} (hl : lv_has ls 4 [(0, .ref (b + a0)), (1, .int x1), (2, .int x2), (3, .int x3)]) : W p l e ({ frames := 0, cells := 0, slots := 0, locals := 0 } : Room) s m args below meth c H locs 0 0 (MQ below (va_Qi (fun (r : Int32) (u : PH) => (r, u) = out) (ph_B D cy b A fl) A) args s 0 0 A) (F0 m 66 ls []) := by
  unfold F0_isRest_66 at f
  refine lv_aload_n S.1 S.2.1 dX0_isRest_66 rfl (lv_at hl 0 rfl) ?_
  obtain ⟨r1, e2, f⟩ := ob f
  refine o_gR S lf0_isRest_9 I e2 dX0_isRest_67 ?_
  refine lv_iconst (v := 5) S.1 S.2.1 dX0_isRest_70 (by decide) ?_
  refine lv_iload_n S.1 S.2.1 dX0_isRest_71 rfl (lv_at hl 3 rfl) ?_
  refine lv_iadd S.1 S.2.1 dX0_isRest_72 ?_
  obtain ⟨v4, e3, f⟩ := ob f
  refine o_iald S I e3 dX0_isRest_73 ?_
  refine lv_iconst (v := (-1)) S.1 S.2.1 dX0_isRest_74 (by decide) ?_
  refine lv_icmp_eq (tgt := 103) S.1 S.2.1 dX0_isRest_75 (by decide) (fun q5 => ?_) (fun q5 => ?_)
  · have f := (if_pos q5).symm.trans f
    refine lv_iinc (v := (x3 + 1)) (lv' := [(3, .int (x3 + 1)), (0, .ref (b + a0)), (1, .int x1), (2, .int x2)]) S.1 S.2.1 dX0_isRest_103 hl (k := 3) rfl (congrArg (fun z => x3 + z) (by decide)) (by decide) rfl (fun ls hl => ?_)
    refine lv_goto (tgt := 26) S.1 S.2.1 dX0_isRest_106 (by decide) ?_
    exact hk26 f _ _ I _ (lv_sub hl [1, 2, 3, 0] rfl)
  · have f := (if_neg q5).symm.trans f
    refine lv_aload_n S.1 S.2.1 dX0_isRest_78 rfl (lv_at hl 0 rfl) ?_
    obtain ⟨r6, e7, f⟩ := ob f
    refine o_gR S lf0_isRest_24 I e7 dX0_isRest_79 ?_
    refine lv_iload_n S.1 S.2.1 dX0_isRest_82 rfl (lv_at hl 1 rfl) ?_
    refine lv_iconst (v := 5) S.1 S.2.1 dX0_isRest_83 (by decide) ?_
    refine lv_imul S.1 S.2.1 dX0_isRest_84 ?_
    refine lv_iload_n S.1 S.2.1 dX0_isRest_85 rfl (lv_at hl 3 rfl) ?_
    refine lv_iadd S.1 S.2.1 dX0_isRest_86 ?_
    obtain ⟨v9, e8, f⟩ := ob f
    refine o_iald S I e8 dX0_isRest_87 ?_
    refine lv_aload_n S.1 S.2.1 dX0_isRest_88 rfl (lv_at hl 0 rfl) ?_
    obtain ⟨r10, e11, f⟩ := ob f
    refine o_gR S lf0_isRest_24 I e11 dX0_isRest_89 ?_
    refine lv_iload_n S.1 S.2.1 dX0_isRest_92 rfl (lv_at hl 1 rfl) ?_
    refine lv_iconst (v := 5) S.1 S.2.1 dX0_isRest_93 (by decide) ?_
    refine lv_imul S.1 S.2.1 dX0_isRest_94 ?_
    refine lv_iload_n S.1 S.2.1 dX0_isRest_95 rfl (lv_at hl 2 rfl) ?_
    refine lv_iadd S.1 S.2.1 dX0_isRest_96 ?_
    obtain ⟨v13, e12, f⟩ := ob f
    refine o_iald S I e12 dX0_isRest_97 ?_
    refine lv_icmp_le (tgt := 103) S.1 S.2.1 dX0_isRest_98 (by decide) (fun q14 => ?_) (fun q14 => ?_)
    · have f := (if_pos q14).symm.trans f
      refine lv_iinc (v := (x3 + 1)) (lv' := [(3, .int (x3 + 1)), (0, .ref (b + a0)), (1, .int x1), (2, .int x2)]) S.1 S.2.1 dX0_isRest_103 hl (k := 3) rfl (congrArg (fun z => x3 + z) (by decide)) (by decide) rfl (fun ls hl => ?_)
      refine lv_goto (tgt := 26) S.1 S.2.1 dX0_isRest_106 (by decide) ?_
      exact hk26 f _ _ I _ (lv_sub hl [1, 2, 3, 0] rfl)
    · have f := (if_neg q14).symm.trans f
      refine lv_iconst (v := 0) S.1 S.2.1 dX0_isRest_101 (by decide) ?_
      exact o_zret S hr hlo I f dX0_isRest_102
set_option maxHeartbeats 4000000 in
set_option maxRecDepth 100000 in
theorem T0_isRest_26 (S : CallFix p m c cX0_isRest 4 s args vX0_isRest RX0) (hr : meth.sig.returnType = (some .boolean)) (hlo : meth.locks = false) {out : Int32 × PH} : ∀ (n : Nat) {h : PH} {a0 : Nat} {x1 : Int32} {x2 : Int32} {x3 : Int32} (f : F0_isRest_26  n h a0 x1 x2 x3 = some out) {H : Heap} {locs : List Loc} (I : ph_I D cy b A fl h s H locs) {ls : Array Slot} (hl : lv_has ls 4 [(0, .ref (b + a0)), (1, .int x1), (2, .int x2), (3, .int x3)]), W p l e ({ frames := 0, cells := 0, slots := 0, locals := 0 } : Room) s m args below meth c H locs 0 0 (MQ below (va_Qi (fun (r : Int32) (u : PH) => (r, u) = out) (ph_B D cy b A fl) A) args s 0 0 A) (F0 m 26 ls []) := by
  intro n
  induction n with
  | zero => intro h a0 x1 x2 x3 f; rw [F0_isRest_26] at f; cases f
  | succ n ih =>
    intro h a0 x1 x2 x3 f H locs I ls hl
    rw [F0_isRest_26] at f
    refine lv_iload_n S.1 S.2.1 dX0_isRest_26 rfl (lv_at hl 3 rfl) ?_
    refine lv_iconst (v := 5) S.1 S.2.1 dX0_isRest_27 (by decide) ?_
    refine lv_icmp_ge (tgt := 109) S.1 S.2.1 dX0_isRest_28 (by decide) (fun q1 => ?_) (fun q1 => ?_)
    · have f := (if_pos q1).symm.trans f
      refine lv_iconst (v := 1) S.1 S.2.1 dX0_isRest_109 (by decide) ?_
      exact o_zret S hr hlo I f dX0_isRest_110
    · have f := (if_neg q1).symm.trans f
      refine lv_aload_n S.1 S.2.1 dX0_isRest_31 rfl (lv_at hl 0 rfl) ?_
      obtain ⟨r2, e3, f⟩ := ob f
      refine o_gR S lf0_isRest_9 I e3 dX0_isRest_32 ?_
      refine lv_iload_n S.1 S.2.1 dX0_isRest_35 rfl (lv_at hl 3 rfl) ?_
      obtain ⟨v5, e4, f⟩ := ob f
      refine o_iald S I e4 dX0_isRest_36 ?_
      refine lv_iconst (v := (-1)) S.1 S.2.1 dX0_isRest_37 (by decide) ?_
      refine lv_icmp_eq (tgt := 66) S.1 S.2.1 dX0_isRest_38 (by decide) (fun q6 => ?_) (fun q6 => ?_)
      · have f := (if_pos q6).symm.trans f
        exact T0_isRest_66 S hr hlo (fun f _ _ I _ hl => ih f I hl) f I (lv_sub hl [0, 1, 2, 3] rfl)
      · have f := (if_neg q6).symm.trans f
        refine lv_aload_n S.1 S.2.1 dX0_isRest_41 rfl (lv_at hl 0 rfl) ?_
        obtain ⟨r7, e8, f⟩ := ob f
        refine o_gR S lf0_isRest_21 I e8 dX0_isRest_42 ?_
        refine lv_iload_n S.1 S.2.1 dX0_isRest_45 rfl (lv_at hl 3 rfl) ?_
        refine lv_iconst (v := 5) S.1 S.2.1 dX0_isRest_46 (by decide) ?_
        refine lv_imul S.1 S.2.1 dX0_isRest_47 ?_
        refine lv_iload_n S.1 S.2.1 dX0_isRest_48 rfl (lv_at hl 2 rfl) ?_
        refine lv_iadd S.1 S.2.1 dX0_isRest_49 ?_
        obtain ⟨v10, e9, f⟩ := ob f
        refine o_iald S I e9 dX0_isRest_50 ?_
        refine lv_aload_n S.1 S.2.1 dX0_isRest_51 rfl (lv_at hl 0 rfl) ?_
        obtain ⟨r11, e12, f⟩ := ob f
        refine o_gR S lf0_isRest_21 I e12 dX0_isRest_52 ?_
        refine lv_iload_n S.1 S.2.1 dX0_isRest_55 rfl (lv_at hl 1 rfl) ?_
        refine lv_iconst (v := 5) S.1 S.2.1 dX0_isRest_56 (by decide) ?_
        refine lv_imul S.1 S.2.1 dX0_isRest_57 ?_
        refine lv_iload_n S.1 S.2.1 dX0_isRest_58 rfl (lv_at hl 2 rfl) ?_
        refine lv_iadd S.1 S.2.1 dX0_isRest_59 ?_
        obtain ⟨v14, e13, f⟩ := ob f
        refine o_iald S I e13 dX0_isRest_60 ?_
        refine lv_icmp_le (tgt := 66) S.1 S.2.1 dX0_isRest_61 (by decide) (fun q15 => ?_) (fun q15 => ?_)
        · have f := (if_pos q15).symm.trans f
          exact T0_isRest_66 S hr hlo (fun f _ _ I _ hl => ih f I hl) f I (lv_sub hl [0, 1, 2, 3] rfl)
        · have f := (if_neg q15).symm.trans f
          refine lv_iconst (v := 0) S.1 S.2.1 dX0_isRest_64 (by decide) ?_
          exact o_zret S hr hlo I f dX0_isRest_65
set_option maxHeartbeats 4000000 in
set_option maxRecDepth 100000 in
theorem T0_isRest_0 (S : CallFix p m c cX0_isRest 4 s args vX0_isRest RX0) (hr : meth.sig.returnType = (some .boolean)) (hlo : meth.locks = false) {out : Int32 × PH} {h : PH} {a0 : Nat} {x1 : Int32} {x2 : Int32} (f : F0_isRest_0  h a0 x1 x2 = some out) {H : Heap} {locs : List Loc} (I : ph_I D cy b A fl h s H locs) {ls : Array Slot} (hl : lv_has ls 4 [(0, .ref (b + a0)), (1, .int x1), (2, .int x2)]) : W p l e ({ frames := 0, cells := 0, slots := 0, locals := 0 } : Room) s m args below meth c H locs 0 0 (MQ below (va_Qi (fun (r : Int32) (u : PH) => (r, u) = out) (ph_B D cy b A fl) A) args s 0 0 A) (F0 m 0 ls []) := by
  unfold F0_isRest_0 at f
  refine lv_aload_n S.1 S.2.1 dX0_isRest_0 rfl (lv_at hl 0 rfl) ?_
  obtain ⟨r1, e2, f⟩ := ob f
  refine o_gR S lf0_isRest_9 I e2 dX0_isRest_1 ?_
  refine lv_iload_n S.1 S.2.1 dX0_isRest_4 rfl (lv_at hl 1 rfl) ?_
  obtain ⟨v4, e3, f⟩ := ob f
  refine o_iald S I e3 dX0_isRest_5 ?_
  refine lv_iconst (v := (-1)) S.1 S.2.1 dX0_isRest_6 (by decide) ?_
  refine lv_icmp_eq (tgt := 22) S.1 S.2.1 dX0_isRest_7 (by decide) (fun q5 => ?_) (fun q5 => ?_)
  · have f := (if_pos q5).symm.trans f
    refine lv_iconst (v := 0) S.1 S.2.1 dX0_isRest_22 (by decide) ?_
    exact o_zret S hr hlo I f dX0_isRest_23
  · have f := (if_neg q5).symm.trans f
    refine lv_aload_n S.1 S.2.1 dX0_isRest_10 rfl (lv_at hl 0 rfl) ?_
    obtain ⟨r6, e7, f⟩ := ob f
    refine o_gR S lf0_isRest_9 I e7 dX0_isRest_11 ?_
    refine lv_iconst (v := 5) S.1 S.2.1 dX0_isRest_14 (by decide) ?_
    refine lv_iload_n S.1 S.2.1 dX0_isRest_15 rfl (lv_at hl 2 rfl) ?_
    refine lv_iadd S.1 S.2.1 dX0_isRest_16 ?_
    obtain ⟨v9, e8, f⟩ := ob f
    refine o_iald S I e8 dX0_isRest_17 ?_
    refine lv_iconst (v := (-1)) S.1 S.2.1 dX0_isRest_18 (by decide) ?_
    refine lv_icmp_ne (tgt := 24) S.1 S.2.1 dX0_isRest_19 (by decide) (fun q10 => ?_) (fun q10 => ?_)
    · have f := (if_neg q10).symm.trans f
      refine lv_iconst (v := 0) S.1 S.2.1 dX0_isRest_24 (by decide) ?_
      refine lv_istore_n (lv' := [(3, .int 0), (0, .ref (b + a0)), (1, .int x1), (2, .int x2)]) S.1 S.2.1 dX0_isRest_25 rfl hl (by decide) rfl (fun ls hl => ?_)
      exact T0_isRest_26 S hr hlo  1024 f I (lv_sub hl [1, 2, 3, 0] rfl)
    · have f := (if_pos q10).symm.trans f
      refine lv_iconst (v := 0) S.1 S.2.1 dX0_isRest_22 (by decide) ?_
      exact o_zret S hr hlo I f dX0_isRest_23
theorem M0_isRest (l : Launch) (D : va_G) (cy : Nat → ClassId) (b : Nat) (A : Nat → Prop) (fl : Bool) {h : PH} {a0 : Nat} {x1 : Int32} {x2 : Int32} {out : Int32 × PH} (f : F0_isRest h a0 x1 x2 = some out) : Met l yX0_isRest vX0_isRest ({ frames := 0, cells := 0, slots := 0, locals := 0 } : Room) (va_Pc [.ref (b + a0), .int x1, .int x2] (ph_B D cy b A fl h)) (va_Qi (fun (r : Int32) (u : PH) => (r, u) = out) (ph_B D cy b A fl) A) 0 0 A :=
  o_met (by decide) rfl (Nat.le_of_ble_eq_true rfl) rfl (fun p e s m below meth c S hr hlo hnm ls hl I => T0_isRest_0 S hr hlo ((gd f).2) I (lv_sub hl [0, 1, 2] rfl))
def vX0_findRests : List Cond := .code yX0_findRests cX0_findRests 3 none :: TB
theorem gX0_findRests_X0_isRest : GoodIn vX0_findRests (wsV RX0 101 RX0 yX0_isRest vX0_isRest) := gV_of wT_52_0 wT_52_1 wT_52_2 wT_2_21 wT_52_3
theorem lf0_findRests_27 : Fl vX0_findRests RX0 27 0 5 := ⟨RX0, TX0, 13, rfl, by decide, (fun w h9 => List.mem_cons_of_mem _ (wC_wsX00 w h9)), (List.mem_cons_of_mem _ wT_9_12)⟩
theorem lf0_findRests_98 : Fl vX0_findRests RX0 98 0 6 := ⟨RX0, TX0, 13, rfl, by decide, (fun w h9 => List.mem_cons_of_mem _ (wC_wsX00 w h9)), (List.mem_cons_of_mem _ wT_51_23)⟩
theorem lp0_findRests_98 : Pl vX0_findRests RX0 98 0 6 .int := ⟨RX0, TX0, 13, tyX0, rfl, by decide, (fun w h9 => List.mem_cons_of_mem _ (wC_wsX00 w h9)), (List.mem_cons_of_mem _ wT_51_23), tyX0_ok, nmX0, rfl, rfl⟩
theorem cd0_findRests : Cd yX0_findRests 0 := ⟨by decide, by decide, by decide +kernel⟩
set_option maxHeartbeats 4000000 in
set_option maxRecDepth 100000 in
theorem T0_findRests_14 (S : CallFix p m c cX0_findRests 3 s args vX0_findRests RX0) (hr : meth.sig.returnType = none) (hlo : meth.locks = false) {out : PH} {k7 : PH → Nat → Int32 → Option (PH)} (hk7 : ∀ {h : PH} {a0 : Nat} {x1 : Int32}, k7 h a0 x1 = some out → ∀ (H : Heap) (locs : List Loc), ph_I D cy b A fl h s H locs → ∀ (ls : Array Slot), lv_has ls 3 [(0, .ref (b + a0)), (1, .int x1)] → W p l e ({ frames := 1, cells := 0, slots := 0, locals := 23 } : Room) s m args below meth c H locs 0 0 (MQ below (va_Qv (fun (u : PH) => u = out) (ph_B D cy b A fl) A) args s 0 0 A) (F0 m 7 ls [])) : ∀ (n : Nat) {h : PH} {a0 : Nat} {x1 : Int32} {x2 : Int32} (f : F0_findRests_14 k7 n h a0 x1 x2 = some out) {H : Heap} {locs : List Loc} (I : ph_I D cy b A fl h s H locs) {ls : Array Slot} (hl : lv_has ls 3 [(0, .ref (b + a0)), (1, .int x1), (2, .int x2)]), W p l e ({ frames := 1, cells := 0, slots := 0, locals := 23 } : Room) s m args below meth c H locs 0 0 (MQ below (va_Qv (fun (u : PH) => u = out) (ph_B D cy b A fl) A) args s 0 0 A) (F0 m 14 ls []) := by
  intro n
  induction n with
  | zero => intro h a0 x1 x2 f; rw [F0_findRests_14] at f; cases f
  | succ n ih =>
    intro h a0 x1 x2 f H locs I ls hl
    rw [F0_findRests_14] at f
    refine lv_iload_n S.1 S.2.1 dX0_findRests_14 rfl (lv_at hl 2 rfl) ?_
    refine lv_iconst (v := 5) S.1 S.2.1 dX0_findRests_15 (by decide) ?_
    refine lv_icmp_ge (tgt := 67) S.1 S.2.1 dX0_findRests_16 (by decide) (fun q1 => ?_) (fun q1 => ?_)
    · have f := (if_pos q1).symm.trans f
      refine lv_iinc (v := (x1 + 1)) (lv' := [(1, .int (x1 + 1)), (0, .ref (b + a0)), (2, .int x2)]) S.1 S.2.1 dX0_findRests_67 hl (k := 1) rfl (congrArg (fun z => x1 + z) (by decide)) (by decide) rfl (fun ls hl => ?_)
      refine lv_goto (tgt := 7) S.1 S.2.1 dX0_findRests_70 (by decide) ?_
      exact hk7 f _ _ I _ (lv_sub hl [1, 0] rfl)
    · have f := (if_neg q1).symm.trans f
      refine lv_aload_n S.1 S.2.1 dX0_findRests_19 rfl (lv_at hl 0 rfl) ?_
      refine lv_iload_n S.1 S.2.1 dX0_findRests_20 rfl (lv_at hl 1 rfl) ?_
      refine lv_iload_n S.1 S.2.1 dX0_findRests_21 rfl (lv_at hl 2 rfl) ?_
      obtain ⟨o2, e3, f⟩ := ob f
      refine o_Vi S (As := [.int x1, .int x2]) (rest := []) (ci := 0) (M0_isRest l D cy b A fl e3) gX0_findRests_X0_isRest rfl rfl rfl cd0_isRest ⟨Nat.le_of_ble_eq_true rfl, Nat.le_of_ble_eq_true rfl⟩ I (gd e3).1 clX0 rfl rfl hl.1 rfl (Nat.le_of_ble_eq_true rfl) dX0_findRests_22 ⟨Nat.le_of_ble_eq_true rfl, Nat.le_of_ble_eq_true rfl⟩ (fun H locs I => ?_)
      refine lv_if_eq (tgt := 61) S.1 S.2.1 dX0_findRests_25 (by decide) (fun q4 => ?_) (fun q4 => ?_)
      · have f := (if_pos q4).symm.trans f
        refine lv_iinc (v := (x2 + 1)) (lv' := [(2, .int (x2 + 1)), (0, .ref (b + a0)), (1, .int x1)]) S.1 S.2.1 dX0_findRests_61 hl (k := 2) rfl (congrArg (fun z => x2 + z) (by decide)) (by decide) rfl (fun ls hl => ?_)
        refine lv_goto (tgt := 14) S.1 S.2.1 dX0_findRests_64 (by decide) ?_
        exact ih f I (lv_sub hl [1, 2, 0] rfl)
      · have f := (if_neg q4).symm.trans f
        refine lv_aload_n S.1 S.2.1 dX0_findRests_28 rfl (lv_at hl 0 rfl) ?_
        obtain ⟨r5, e6, f⟩ := ob f
        refine o_gR S lf0_findRests_27 I e6 dX0_findRests_29 ?_
        refine lv_aload_n S.1 S.2.1 dX0_findRests_32 rfl (lv_at hl 0 rfl) ?_
        obtain ⟨v7, e8, f⟩ := ob f
        refine o_gI S lf0_findRests_98 I e8 dX0_findRests_33 ?_
        refine lv_bipush (v := 10) S.1 S.2.1 dX0_findRests_36 (by decide) ?_
        refine o_gws S I dX0_findRests_38 (fun g9 z10 => ?_)
        refine lv_iload_n S.1 S.2.1 dX0_findRests_41 rfl (lv_at hl 1 rfl) ?_
        obtain ⟨v12, e11, f⟩ := ob f
        refine o_gwald S I z10 e11 dX0_findRests_42 ?_
        refine lv_imul S.1 S.2.1 dX0_findRests_43 ?_
        refine o_gws S I dX0_findRests_44 (fun g13 z14 => ?_)
        refine lv_iload_n S.1 S.2.1 dX0_findRests_47 rfl (lv_at hl 2 rfl) ?_
        obtain ⟨v16, e15, f⟩ := ob f
        refine o_gwald S I z14 e15 dX0_findRests_48 ?_
        refine lv_iadd S.1 S.2.1 dX0_findRests_49 ?_
        obtain ⟨h18, e17, f⟩ := ob f
        refine o_iast S I e17 dX0_findRests_50 (fun H locs I => ?_)
        refine lv_aload_n S.1 S.2.1 dX0_findRests_51 rfl (lv_at hl 0 rfl) ?_
        refine lv_dup S.1 S.2.1 dX0_findRests_52 rfl ?_
        obtain ⟨v19, e20, f⟩ := ob f
        refine o_gI S lf0_findRests_98 I e20 dX0_findRests_53 ?_
        refine lv_iconst (v := 1) S.1 S.2.1 dX0_findRests_56 (by decide) ?_
        refine lv_iadd S.1 S.2.1 dX0_findRests_57 ?_
        obtain ⟨h21, e22, f⟩ := ob f
        refine o_pI S lp0_findRests_98 I e22 dX0_findRests_58 (fun H locs I => ?_)
        refine lv_iinc (v := (x2 + 1)) (lv' := [(2, .int (x2 + 1)), (0, .ref (b + a0)), (1, .int x1)]) S.1 S.2.1 dX0_findRests_61 hl (k := 2) rfl (congrArg (fun z => x2 + z) (by decide)) (by decide) rfl (fun ls hl => ?_)
        refine lv_goto (tgt := 14) S.1 S.2.1 dX0_findRests_64 (by decide) ?_
        exact ih f I (lv_sub hl [1, 2, 0] rfl)
set_option maxHeartbeats 4000000 in
set_option maxRecDepth 100000 in
theorem T0_findRests_7 (S : CallFix p m c cX0_findRests 3 s args vX0_findRests RX0) (hr : meth.sig.returnType = none) (hlo : meth.locks = false) {out : PH} : ∀ (n : Nat) {h : PH} {a0 : Nat} {x1 : Int32} (f : F0_findRests_7  n h a0 x1 = some out) {H : Heap} {locs : List Loc} (I : ph_I D cy b A fl h s H locs) {ls : Array Slot} (hl : lv_has ls 3 [(0, .ref (b + a0)), (1, .int x1)]), W p l e ({ frames := 1, cells := 0, slots := 0, locals := 23 } : Room) s m args below meth c H locs 0 0 (MQ below (va_Qv (fun (u : PH) => u = out) (ph_B D cy b A fl) A) args s 0 0 A) (F0 m 7 ls []) := by
  intro n
  induction n with
  | zero => intro h a0 x1 f; rw [F0_findRests_7] at f; cases f
  | succ n ih =>
    intro h a0 x1 f H locs I ls hl
    rw [F0_findRests_7] at f
    refine lv_iload_n S.1 S.2.1 dX0_findRests_7 rfl (lv_at hl 1 rfl) ?_
    refine lv_iconst (v := 5) S.1 S.2.1 dX0_findRests_8 (by decide) ?_
    refine lv_icmp_ge (tgt := 73) S.1 S.2.1 dX0_findRests_9 (by decide) (fun q1 => ?_) (fun q1 => ?_)
    · have f := (if_pos q1).symm.trans f
      exact o_vret S hr hlo I f dX0_findRests_73
    · have f := (if_neg q1).symm.trans f
      refine lv_iconst (v := 0) S.1 S.2.1 dX0_findRests_12 (by decide) ?_
      refine lv_istore_n (lv' := [(2, .int 0), (0, .ref (b + a0)), (1, .int x1)]) S.1 S.2.1 dX0_findRests_13 rfl hl (by decide) rfl (fun ls hl => ?_)
      exact T0_findRests_14 S hr hlo (fun f _ _ I _ hl => ih f I hl) 1024 f I (lv_sub hl [1, 2, 0] rfl)
set_option maxHeartbeats 4000000 in
set_option maxRecDepth 100000 in
theorem T0_findRests_0 (S : CallFix p m c cX0_findRests 3 s args vX0_findRests RX0) (hr : meth.sig.returnType = none) (hlo : meth.locks = false) {out : PH} {h : PH} {a0 : Nat} (f : F0_findRests_0  h a0 = some out) {H : Heap} {locs : List Loc} (I : ph_I D cy b A fl h s H locs) {ls : Array Slot} (hl : lv_has ls 3 [(0, .ref (b + a0))]) : W p l e ({ frames := 1, cells := 0, slots := 0, locals := 23 } : Room) s m args below meth c H locs 0 0 (MQ below (va_Qv (fun (u : PH) => u = out) (ph_B D cy b A fl) A) args s 0 0 A) (F0 m 0 ls []) := by
  unfold F0_findRests_0 at f
  refine lv_aload_n S.1 S.2.1 dX0_findRests_0 rfl (lv_at hl 0 rfl) ?_
  refine lv_iconst (v := 0) S.1 S.2.1 dX0_findRests_1 (by decide) ?_
  obtain ⟨h1, e2, f⟩ := ob f
  refine o_pI S lp0_findRests_98 I e2 dX0_findRests_2 (fun H locs I => ?_)
  refine lv_iconst (v := 0) S.1 S.2.1 dX0_findRests_5 (by decide) ?_
  refine lv_istore_n (lv' := [(1, .int 0), (0, .ref (b + a0))]) S.1 S.2.1 dX0_findRests_6 rfl hl (by decide) rfl (fun ls hl => ?_)
  exact T0_findRests_7 S hr hlo  1024 f I (lv_sub hl [1, 0] rfl)
theorem M0_findRests (l : Launch) (D : va_G) (cy : Nat → ClassId) (b : Nat) (A : Nat → Prop) (fl : Bool) {h : PH} {a0 : Nat} {out : PH} (f : F0_findRests h a0 = some out) : Met l yX0_findRests vX0_findRests ({ frames := 1, cells := 0, slots := 0, locals := 23 } : Room) (va_Pc [.ref (b + a0)] (ph_B D cy b A fl h)) (va_Qv (fun (u : PH) => u = out) (ph_B D cy b A fl) A) 0 0 A :=
  o_met (by decide) rfl (Nat.le_of_ble_eq_true rfl) rfl (fun p e s m below meth c S hr hlo hnm ls hl I => T0_findRests_0 S hr hlo ((gd f).2) I (lv_sub hl [0] rfl))
def vX0_listPlan : List Cond := .code yX0_listPlan cX0_listPlan 5 none :: TB
theorem lf0_listPlan_36 : Fl vX0_listPlan RX0 36 0 9 := ⟨RX0, TX0, 13, rfl, by decide, (fun w h9 => List.mem_cons_of_mem _ (wC_wsX00 w h9)), (List.mem_cons_of_mem _ wT_9_15)⟩
theorem lf0_listPlan_40 : Fl vX0_listPlan RX0 40 0 10 := ⟨RX0, TX0, 13, rfl, by decide, (fun w h9 => List.mem_cons_of_mem _ (wC_wsX00 w h9)), (List.mem_cons_of_mem _ wT_9_16)⟩
theorem lf0_listPlan_122 : Fl vX0_listPlan RX0 122 0 11 := ⟨RX0, TX0, 13, rfl, by decide, (fun w h9 => List.mem_cons_of_mem _ (wC_wsX00 w h9)), (List.mem_cons_of_mem _ wT_55_2)⟩
theorem lp0_listPlan_122 : Pl vX0_listPlan RX0 122 0 11 .int := ⟨RX0, TX0, 13, tyX0, rfl, by decide, (fun w h9 => List.mem_cons_of_mem _ (wC_wsX00 w h9)), (List.mem_cons_of_mem _ wT_55_2), tyX0_ok, nmX0, rfl, rfl⟩
theorem lf0_listPlan_33 : Fl vX0_listPlan RX0 33 0 8 := ⟨RX0, TX0, 13, rfl, by decide, (fun w h9 => List.mem_cons_of_mem _ (wC_wsX00 w h9)), (List.mem_cons_of_mem _ wT_9_14)⟩
theorem cd0_listPlan : Cd yX0_listPlan 2 := ⟨by decide, by decide, by decide +kernel⟩
set_option maxHeartbeats 4000000 in
set_option maxRecDepth 100000 in
theorem T0_listPlan_10 (S : CallFix p m c cX0_listPlan 5 s args vX0_listPlan RX0) (hr : meth.sig.returnType = none) (hlo : meth.locks = false) {out : PH} : ∀ (n : Nat) {h : PH} {a0 : Nat} {x2 : Int32} {x3 : Int32} {x4 : Int32} (f : F0_listPlan_10  n h a0 x2 x3 x4 = some out) {H : Heap} {locs : List Loc} (I : ph_I D cy b A fl h s H locs) {ls : Array Slot} (hl : lv_has ls 5 [(0, .ref (b + a0)), (2, .int x2), (3, .int x3), (4, .int x4)]), W p l e ({ frames := 0, cells := 0, slots := 0, locals := 0 } : Room) s m args below meth c H locs 0 0 (MQ below (va_Qv (fun (u : PH) => u = out) (ph_B D cy b A fl) A) args s 0 0 A) (F0 m 10 ls []) := by
  intro n
  induction n with
  | zero => intro h a0 x2 x3 x4 f; rw [F0_listPlan_10] at f; cases f
  | succ n ih =>
    intro h a0 x2 x3 x4 f H locs I ls hl
    rw [F0_listPlan_10] at f
    refine lv_iload S.1 S.2.1 dX0_listPlan_10 (lv_at hl 3 rfl) ?_
    refine lv_iload_n S.1 S.2.1 dX0_listPlan_12 rfl (lv_at hl 1 rfl) ?_
    refine lv_icmp_ge (tgt := 67) S.1 S.2.1 dX0_listPlan_13 (by decide) (fun q1 => ?_) (fun q1 => ?_)
    · have f := (if_pos q1).symm.trans f
      exact o_vret S hr hlo I f dX0_listPlan_67
    · have f := (if_neg q1).symm.trans f
      refine lv_iload S.1 S.2.1 dX0_listPlan_16 (lv_at hl 3 rfl) ?_
      refine lv_iload_n S.1 S.2.1 dX0_listPlan_18 rfl (lv_at hl 2 rfl) ?_
      refine lv_icmp_lt (tgt := 61) S.1 S.2.1 dX0_listPlan_19 (by decide) (fun q2 => ?_) (fun q2 => ?_)
      · have f := (if_pos q2).symm.trans f
        refine lv_iinc (v := (x4 + 1)) (lv' := [(4, .int (x4 + 1)), (0, .ref (b + a0)), (2, .int x2), (3, .int x3)]) S.1 S.2.1 dX0_listPlan_61 hl (k := 3) rfl (congrArg (fun z => x4 + z) (by decide)) (by decide) rfl (fun ls hl => ?_)
        refine lv_goto (tgt := 10) S.1 S.2.1 dX0_listPlan_64 (by decide) ?_
        exact ih f I (lv_sub hl [1, 2, 3, 0] rfl)
      · have f := (if_neg q2).symm.trans f
        refine lv_aload_n S.1 S.2.1 dX0_listPlan_22 rfl (lv_at hl 0 rfl) ?_
        obtain ⟨r3, e4, f⟩ := ob f
        refine o_gR S lf0_listPlan_36 I e4 dX0_listPlan_23 ?_
        refine lv_iload S.1 S.2.1 dX0_listPlan_26 (lv_at hl 3 rfl) ?_
        obtain ⟨v6, e5, f⟩ := ob f
        refine o_zald S I e5 dX0_listPlan_28 ?_
        refine lv_if_eq (tgt := 61) S.1 S.2.1 dX0_listPlan_29 (by decide) (fun q7 => ?_) (fun q7 => ?_)
        · have f := (if_pos q7).symm.trans f
          refine lv_iinc (v := (x4 + 1)) (lv' := [(4, .int (x4 + 1)), (0, .ref (b + a0)), (2, .int x2), (3, .int x3)]) S.1 S.2.1 dX0_listPlan_61 hl (k := 3) rfl (congrArg (fun z => x4 + z) (by decide)) (by decide) rfl (fun ls hl => ?_)
          refine lv_goto (tgt := 10) S.1 S.2.1 dX0_listPlan_64 (by decide) ?_
          exact ih f I (lv_sub hl [1, 2, 3, 0] rfl)
        · have f := (if_neg q7).symm.trans f
          refine lv_aload_n S.1 S.2.1 dX0_listPlan_32 rfl (lv_at hl 0 rfl) ?_
          obtain ⟨r8, e9, f⟩ := ob f
          refine o_gR S lf0_listPlan_40 I e9 dX0_listPlan_33 ?_
          refine lv_aload_n S.1 S.2.1 dX0_listPlan_36 rfl (lv_at hl 0 rfl) ?_
          obtain ⟨v10, e11, f⟩ := ob f
          refine o_gI S lf0_listPlan_122 I e11 dX0_listPlan_37 ?_
          refine lv_iload S.1 S.2.1 dX0_listPlan_40 (lv_at hl 3 rfl) ?_
          obtain ⟨h13, e12, f⟩ := ob f
          refine o_iast S I e12 dX0_listPlan_42 (fun H locs I => ?_)
          refine lv_aload_n S.1 S.2.1 dX0_listPlan_43 rfl (lv_at hl 0 rfl) ?_
          refine lv_dup S.1 S.2.1 dX0_listPlan_44 rfl ?_
          obtain ⟨v14, e15, f⟩ := ob f
          refine o_gI S lf0_listPlan_122 I e15 dX0_listPlan_45 ?_
          refine lv_iconst (v := 1) S.1 S.2.1 dX0_listPlan_48 (by decide) ?_
          refine lv_iadd S.1 S.2.1 dX0_listPlan_49 ?_
          obtain ⟨h16, e17, f⟩ := ob f
          refine o_pI S lp0_listPlan_122 I e17 dX0_listPlan_50 (fun H locs I => ?_)
          refine lv_aload_n S.1 S.2.1 dX0_listPlan_53 rfl (lv_at hl 0 rfl) ?_
          obtain ⟨r18, e19, f⟩ := ob f
          refine o_gR S lf0_listPlan_33 I e19 dX0_listPlan_54 ?_
          refine lv_iload S.1 S.2.1 dX0_listPlan_57 (lv_at hl 3 rfl) ?_
          obtain ⟨v21, e20, f⟩ := ob f
          refine o_iald S I e20 dX0_listPlan_59 ?_
          refine lv_istore_n (lv' := [(3, .int v21), (0, .ref (b + a0)), (2, .int x2), (4, .int x4)]) S.1 S.2.1 dX0_listPlan_60 rfl hl (by decide) rfl (fun ls hl => ?_)
          refine lv_iinc (v := (x4 + 1)) (lv' := [(4, .int (x4 + 1)), (3, .int v21), (0, .ref (b + a0)), (2, .int x2)]) S.1 S.2.1 dX0_listPlan_61 hl (k := 3) rfl (congrArg (fun z => x4 + z) (by decide)) (by decide) rfl (fun ls hl => ?_)
          refine lv_goto (tgt := 10) S.1 S.2.1 dX0_listPlan_64 (by decide) ?_
          exact ih f I (lv_sub hl [2, 3, 1, 0] rfl)
set_option maxHeartbeats 4000000 in
set_option maxRecDepth 100000 in
theorem T0_listPlan_0 (S : CallFix p m c cX0_listPlan 5 s args vX0_listPlan RX0) (hr : meth.sig.returnType = none) (hlo : meth.locks = false) {out : PH} {h : PH} {a0 : Nat} {x1 : Int32} {x2 : Int32} (f : F0_listPlan_0  h a0 x1 x2 = some out) {H : Heap} {locs : List Loc} (I : ph_I D cy b A fl h s H locs) {ls : Array Slot} (hl : lv_has ls 5 [(0, .ref (b + a0)), (1, .int x1), (2, .int x2)]) : W p l e ({ frames := 0, cells := 0, slots := 0, locals := 0 } : Room) s m args below meth c H locs 0 0 (MQ below (va_Qv (fun (u : PH) => u = out) (ph_B D cy b A fl) A) args s 0 0 A) (F0 m 0 ls []) := by
  unfold F0_listPlan_0 at f
  refine lv_aload_n S.1 S.2.1 dX0_listPlan_0 rfl (lv_at hl 0 rfl) ?_
  refine lv_iconst (v := 0) S.1 S.2.1 dX0_listPlan_1 (by decide) ?_
  obtain ⟨h1, e2, f⟩ := ob f
  refine o_pI S lp0_listPlan_122 I e2 dX0_listPlan_2 (fun H locs I => ?_)
  refine lv_iload_n S.1 S.2.1 dX0_listPlan_5 rfl (lv_at hl 1 rfl) ?_
  refine lv_istore_n (lv' := [(3, .int x1), (0, .ref (b + a0)), (1, .int x1), (2, .int x2)]) S.1 S.2.1 dX0_listPlan_6 rfl hl (by decide) rfl (fun ls hl => ?_)
  refine lv_iload_n S.1 S.2.1 dX0_listPlan_7 rfl (lv_at hl 2 rfl) ?_
  refine lv_istore (lv' := [(4, .int x1), (3, .int x1), (0, .ref (b + a0)), (1, .int x1), (2, .int x2)]) S.1 S.2.1 dX0_listPlan_8 hl (by decide) rfl (fun ls hl => ?_)
  exact T0_listPlan_10 S hr hlo  1024 f I (lv_sub hl [2, 4, 1, 0] rfl)
theorem M0_listPlan (l : Launch) (D : va_G) (cy : Nat → ClassId) (b : Nat) (A : Nat → Prop) (fl : Bool) {h : PH} {a0 : Nat} {x1 : Int32} {x2 : Int32} {out : PH} (f : F0_listPlan h a0 x1 x2 = some out) : Met l yX0_listPlan vX0_listPlan ({ frames := 0, cells := 0, slots := 0, locals := 0 } : Room) (va_Pc [.ref (b + a0), .int x1, .int x2] (ph_B D cy b A fl h)) (va_Qv (fun (u : PH) => u = out) (ph_B D cy b A fl) A) 0 0 A :=
  o_met (by decide) rfl (Nat.le_of_ble_eq_true rfl) rfl (fun p e s m below meth c S hr hlo hnm ls hl I => T0_listPlan_0 S hr hlo ((gd f).2) I (lv_sub hl [0, 1, 2] rfl))
def vX10_firstFrom : List Cond := .code yX10_firstFrom cX10_firstFrom 3 (some .int) :: TB
theorem lf10_firstFrom_34 : Fl vX10_firstFrom RX10 34 10 1 := ⟨RX10, TX10, 8, rfl, by decide, (fun w h9 => List.mem_cons_of_mem _ (wC_wsX100 w h9)), (List.mem_cons_of_mem _ wT_15_4)⟩
theorem lf10_firstFrom_18 : Fl vX10_firstFrom RX10 18 10 4 := ⟨RX10, TX10, 8, rfl, by decide, (fun w h9 => List.mem_cons_of_mem _ (wC_wsX100 w h9)), (List.mem_cons_of_mem _ wT_4_10)⟩
theorem cd10_firstFrom : Cd yX10_firstFrom 1 := ⟨by decide, by decide, by decide +kernel⟩
set_option maxHeartbeats 4000000 in
set_option maxRecDepth 100000 in
theorem T10_firstFrom_2 (S : CallFix p m c cX10_firstFrom 3 s args vX10_firstFrom RX10) (hr : meth.sig.returnType = (some .int)) (hlo : meth.locks = false) {out : Int32 × PH} : ∀ (n : Nat) {h : PH} {a0 : Nat} {x1 : Int32} {x2 : Int32} (f : F10_firstFrom_2  n h a0 x1 x2 = some out) {H : Heap} {locs : List Loc} (I : ph_I D cy b A fl h s H locs) {ls : Array Slot} (hl : lv_has ls 3 [(0, .ref (b + a0)), (1, .int x1), (2, .int x2)]), W p l e ({ frames := 0, cells := 0, slots := 0, locals := 0 } : Room) s m args below meth c H locs 0 0 (MQ below (va_Qi (fun (r : Int32) (u : PH) => (r, u) = out) (ph_B D cy b A fl) A) args s 0 0 A) (F0 m 2 ls []) := by
  intro n
  induction n with
  | zero => intro h a0 x1 x2 f; rw [F10_firstFrom_2] at f; cases f
  | succ n ih =>
    intro h a0 x1 x2 f H locs I ls hl
    rw [F10_firstFrom_2] at f
    refine lv_iload_n S.1 S.2.1 dX10_firstFrom_2 rfl (lv_at hl 2 rfl) ?_
    refine lv_aload_n S.1 S.2.1 dX10_firstFrom_3 rfl (lv_at hl 0 rfl) ?_
    obtain ⟨v1, e2, f⟩ := ob f
    refine o_gI S lf10_firstFrom_34 I e2 dX10_firstFrom_4 ?_
    refine lv_icmp_ge (tgt := 28) S.1 S.2.1 dX10_firstFrom_7 (by decide) (fun q3 => ?_) (fun q3 => ?_)
    · have f := (if_pos q3).symm.trans f
      refine lv_aload_n S.1 S.2.1 dX10_firstFrom_28 rfl (lv_at hl 0 rfl) ?_
      obtain ⟨v4, e5, f⟩ := ob f
      refine o_gI S lf10_firstFrom_34 I e5 dX10_firstFrom_29 ?_
      exact o_iret S hr hlo I f dX10_firstFrom_32
    · have f := (if_neg q3).symm.trans f
      refine lv_aload_n S.1 S.2.1 dX10_firstFrom_10 rfl (lv_at hl 0 rfl) ?_
      obtain ⟨r6, e7, f⟩ := ob f
      refine o_gR S lf10_firstFrom_18 I e7 dX10_firstFrom_11 ?_
      refine lv_iload_n S.1 S.2.1 dX10_firstFrom_14 rfl (lv_at hl 2 rfl) ?_
      obtain ⟨v9, e8, f⟩ := ob f
      refine o_iald S I e8 dX10_firstFrom_15 ?_
      refine lv_iload_n S.1 S.2.1 dX10_firstFrom_16 rfl (lv_at hl 1 rfl) ?_
      refine lv_icmp_lt (tgt := 22) S.1 S.2.1 dX10_firstFrom_17 (by decide) (fun q10 => ?_) (fun q10 => ?_)
      · have f := (if_pos q10).symm.trans f
        refine lv_iinc (v := (x2 + 1)) (lv' := [(2, .int (x2 + 1)), (0, .ref (b + a0)), (1, .int x1)]) S.1 S.2.1 dX10_firstFrom_22 hl (k := 2) rfl (congrArg (fun z => x2 + z) (by decide)) (by decide) rfl (fun ls hl => ?_)
        refine lv_goto (tgt := 2) S.1 S.2.1 dX10_firstFrom_25 (by decide) ?_
        exact ih f I (lv_sub hl [1, 2, 0] rfl)
      · have f := (if_neg q10).symm.trans f
        refine lv_iload_n S.1 S.2.1 dX10_firstFrom_20 rfl (lv_at hl 2 rfl) ?_
        exact o_iret S hr hlo I f dX10_firstFrom_21
set_option maxHeartbeats 4000000 in
set_option maxRecDepth 100000 in
theorem T10_firstFrom_0 (S : CallFix p m c cX10_firstFrom 3 s args vX10_firstFrom RX10) (hr : meth.sig.returnType = (some .int)) (hlo : meth.locks = false) {out : Int32 × PH} {h : PH} {a0 : Nat} {x1 : Int32} (f : F10_firstFrom_0  h a0 x1 = some out) {H : Heap} {locs : List Loc} (I : ph_I D cy b A fl h s H locs) {ls : Array Slot} (hl : lv_has ls 3 [(0, .ref (b + a0)), (1, .int x1)]) : W p l e ({ frames := 0, cells := 0, slots := 0, locals := 0 } : Room) s m args below meth c H locs 0 0 (MQ below (va_Qi (fun (r : Int32) (u : PH) => (r, u) = out) (ph_B D cy b A fl) A) args s 0 0 A) (F0 m 0 ls []) := by
  unfold F10_firstFrom_0 at f
  refine lv_iconst (v := 0) S.1 S.2.1 dX10_firstFrom_0 (by decide) ?_
  refine lv_istore_n (lv' := [(2, .int 0), (0, .ref (b + a0)), (1, .int x1)]) S.1 S.2.1 dX10_firstFrom_1 rfl hl (by decide) rfl (fun ls hl => ?_)
  exact T10_firstFrom_2 S hr hlo  1024 f I (lv_sub hl [1, 2, 0] rfl)
theorem M10_firstFrom (l : Launch) (D : va_G) (cy : Nat → ClassId) (b : Nat) (A : Nat → Prop) (fl : Bool) {h : PH} {a0 : Nat} {x1 : Int32} {out : Int32 × PH} (f : F10_firstFrom h a0 x1 = some out) : Met l yX10_firstFrom vX10_firstFrom ({ frames := 0, cells := 0, slots := 0, locals := 0 } : Room) (va_Pc [.ref (b + a0), .int x1] (ph_B D cy b A fl h)) (va_Qi (fun (r : Int32) (u : PH) => (r, u) = out) (ph_B D cy b A fl) A) 0 0 A :=
  o_met (by decide) rfl (Nat.le_of_ble_eq_true rfl) rfl (fun p e s m below meth c S hr hlo hnm ls hl I => T10_firstFrom_0 S hr hlo ((gd f).2) I (lv_sub hl [0, 1] rfl))
def vX6_nameAway : List Cond := .code yX6_nameAway cX6_nameAway 3 none :: TB
theorem lf6_nameAway_25 : Fl vX6_nameAway RX6 25 6 4 := ⟨RX6, TX6, 9, rfl, by decide, (fun w h9 => List.mem_cons_of_mem _ (wC_wsX60 w h9)), (List.mem_cons_of_mem _ wT_7_19)⟩
theorem lf6_nameAway_15 : Fl vX6_nameAway RX6 15 6 1 := ⟨RX6, TX6, 9, rfl, by decide, (fun w h9 => List.mem_cons_of_mem _ (wC_wsX60 w h9)), (List.mem_cons_of_mem _ wT_7_16)⟩
theorem lf6_nameAway_9 : Fl vX6_nameAway RX6 9 6 0 := ⟨RX6, TX6, 9, rfl, by decide, (fun w h9 => List.mem_cons_of_mem _ (wC_wsX60 w h9)), (List.mem_cons_of_mem _ wT_7_15)⟩
theorem lf6_nameAway_57 : Fl vX6_nameAway RX6 57 8 5 := ⟨RX8, TX8, 14, rfl, by decide, (fun w h9 => List.mem_cons_of_mem _ (wC_wsX80 w h9)), (List.mem_cons_of_mem _ wT_24_9)⟩
theorem lf6_nameAway_112 : Fl vX6_nameAway RX6 112 10 5 := ⟨RX10, TX10, 8, rfl, by decide, (fun w h9 => List.mem_cons_of_mem _ (wC_wsX100 w h9)), (List.mem_cons_of_mem _ wT_39_2)⟩
theorem lf6_nameAway_67 : Fl vX6_nameAway RX6 67 10 4 := ⟨RX10, TX10, 8, rfl, by decide, (fun w h9 => List.mem_cons_of_mem _ (wC_wsX100 w h9)), (List.mem_cons_of_mem _ wT_24_11)⟩
theorem lf6_nameAway_115 : Fl vX6_nameAway RX6 115 10 7 := ⟨RX10, TX10, 8, rfl, by decide, (fun w h9 => List.mem_cons_of_mem _ (wC_wsX100 w h9)), (List.mem_cons_of_mem _ wT_39_3)⟩
theorem cd6_nameAway : Cd yX6_nameAway 2 := ⟨by decide, by decide, by decide +kernel⟩
set_option maxHeartbeats 4000000 in
set_option maxRecDepth 100000 in
theorem T6_nameAway_0 (S : CallFix p m c cX6_nameAway 3 s args vX6_nameAway RX6) (hr : meth.sig.returnType = none) (hlo : meth.locks = false) {out : PH} {h : PH} {a0 : Nat} {x1 : Int32} {x2 : Int32} (f : F6_nameAway_0  h a0 x1 x2 = some out) {H : Heap} {locs : List Loc} (I : ph_I D cy b A fl h s H locs) {ls : Array Slot} (hl : lv_has ls 3 [(0, .ref (b + a0)), (1, .int x1), (2, .int x2)]) : W p l e ({ frames := 0, cells := 0, slots := 0, locals := 0 } : Room) s m args below meth c H locs 0 0 (MQ below (va_Qv (fun (u : PH) => u = out) (ph_B D cy b A fl) A) args s 0 0 A) (F0 m 0 ls []) := by
  unfold F6_nameAway_0 at f
  refine lv_aload_n S.1 S.2.1 dX6_nameAway_0 rfl (lv_at hl 0 rfl) ?_
  obtain ⟨r1, e2, f⟩ := ob f
  refine o_gR S lf6_nameAway_25 I e2 dX6_nameAway_1 ?_
  refine lv_iconst (v := 0) S.1 S.2.1 dX6_nameAway_4 (by decide) ?_
  refine lv_lconst (v := 0) S.1 S.2.1 dX6_nameAway_5 (by decide) ?_
  obtain ⟨h4, e3, f⟩ := ob f
  refine o_last S I e3 dX6_nameAway_6 (fun H locs I => ?_)
  refine lv_aload_n S.1 S.2.1 dX6_nameAway_7 rfl (lv_at hl 0 rfl) ?_
  obtain ⟨r5, e6, f⟩ := ob f
  refine o_gR S lf6_nameAway_25 I e6 dX6_nameAway_8 ?_
  refine lv_iconst (v := 1) S.1 S.2.1 dX6_nameAway_11 (by decide) ?_
  refine lv_lconst (v := 0) S.1 S.2.1 dX6_nameAway_12 (by decide) ?_
  obtain ⟨h8, e7, f⟩ := ob f
  refine o_last S I e7 dX6_nameAway_13 (fun H locs I => ?_)
  refine lv_aload_n S.1 S.2.1 dX6_nameAway_14 rfl (lv_at hl 0 rfl) ?_
  obtain ⟨r9, e10, f⟩ := ob f
  refine o_gR S lf6_nameAway_25 I e10 dX6_nameAway_15 ?_
  refine lv_iconst (v := 2) S.1 S.2.1 dX6_nameAway_18 (by decide) ?_
  refine lv_aload_n S.1 S.2.1 dX6_nameAway_19 rfl (lv_at hl 0 rfl) ?_
  obtain ⟨r11, e12, f⟩ := ob f
  refine o_gR S lf6_nameAway_15 I e12 dX6_nameAway_20 ?_
  refine lv_iload_n S.1 S.2.1 dX6_nameAway_23 rfl (lv_at hl 1 rfl) ?_
  obtain ⟨v14, e13, f⟩ := ob f
  refine o_iald S I e13 dX6_nameAway_24 ?_
  refine lv_i2l (v := Int32.toInt64 v14) S.1 S.2.1 dX6_nameAway_25 rfl ?_
  obtain ⟨h16, e15, f⟩ := ob f
  refine o_last S I e15 dX6_nameAway_26 (fun H locs I => ?_)
  refine lv_aload_n S.1 S.2.1 dX6_nameAway_27 rfl (lv_at hl 0 rfl) ?_
  obtain ⟨r17, e18, f⟩ := ob f
  refine o_gR S lf6_nameAway_25 I e18 dX6_nameAway_28 ?_
  refine lv_iconst (v := 3) S.1 S.2.1 dX6_nameAway_31 (by decide) ?_
  refine lv_aload_n S.1 S.2.1 dX6_nameAway_32 rfl (lv_at hl 0 rfl) ?_
  obtain ⟨r19, e20, f⟩ := ob f
  refine o_gR S lf6_nameAway_9 I e20 dX6_nameAway_33 ?_
  obtain ⟨r21, e22, f⟩ := ob f
  refine o_gR S lf6_nameAway_57 I e22 dX6_nameAway_36 ?_
  obtain ⟨r23, e24, f⟩ := ob f
  refine o_gR S lf6_nameAway_112 I e24 dX6_nameAway_39 ?_
  refine lv_iload_n S.1 S.2.1 dX6_nameAway_42 rfl (lv_at hl 2 rfl) ?_
  obtain ⟨v26, e25, f⟩ := ob f
  refine o_iald S I e25 dX6_nameAway_43 ?_
  refine lv_i2l (v := Int32.toInt64 v26) S.1 S.2.1 dX6_nameAway_44 rfl ?_
  obtain ⟨h28, e27, f⟩ := ob f
  refine o_last S I e27 dX6_nameAway_45 (fun H locs I => ?_)
  refine lv_aload_n S.1 S.2.1 dX6_nameAway_46 rfl (lv_at hl 0 rfl) ?_
  obtain ⟨r29, e30, f⟩ := ob f
  refine o_gR S lf6_nameAway_25 I e30 dX6_nameAway_47 ?_
  refine lv_iconst (v := 4) S.1 S.2.1 dX6_nameAway_50 (by decide) ?_
  refine lv_aload_n S.1 S.2.1 dX6_nameAway_51 rfl (lv_at hl 0 rfl) ?_
  obtain ⟨r31, e32, f⟩ := ob f
  refine o_gR S lf6_nameAway_9 I e32 dX6_nameAway_52 ?_
  obtain ⟨r33, e34, f⟩ := ob f
  refine o_gR S lf6_nameAway_57 I e34 dX6_nameAway_55 ?_
  obtain ⟨r35, e36, f⟩ := ob f
  refine o_gR S lf6_nameAway_67 I e36 dX6_nameAway_58 ?_
  refine lv_iload_n S.1 S.2.1 dX6_nameAway_61 rfl (lv_at hl 2 rfl) ?_
  obtain ⟨v38, e37, f⟩ := ob f
  refine o_iald S I e37 dX6_nameAway_62 ?_
  refine lv_i2l (v := Int32.toInt64 v38) S.1 S.2.1 dX6_nameAway_63 rfl ?_
  obtain ⟨h40, e39, f⟩ := ob f
  refine o_last S I e39 dX6_nameAway_64 (fun H locs I => ?_)
  refine lv_aload_n S.1 S.2.1 dX6_nameAway_65 rfl (lv_at hl 0 rfl) ?_
  obtain ⟨r41, e42, f⟩ := ob f
  refine o_gR S lf6_nameAway_25 I e42 dX6_nameAway_66 ?_
  refine lv_iconst (v := 5) S.1 S.2.1 dX6_nameAway_69 (by decide) ?_
  refine lv_aload_n S.1 S.2.1 dX6_nameAway_70 rfl (lv_at hl 0 rfl) ?_
  obtain ⟨r43, e44, f⟩ := ob f
  refine o_gR S lf6_nameAway_9 I e44 dX6_nameAway_71 ?_
  obtain ⟨r45, e46, f⟩ := ob f
  refine o_gR S lf6_nameAway_57 I e46 dX6_nameAway_74 ?_
  obtain ⟨r47, e48, f⟩ := ob f
  refine o_gR S lf6_nameAway_115 I e48 dX6_nameAway_77 ?_
  refine lv_iload_n S.1 S.2.1 dX6_nameAway_80 rfl (lv_at hl 2 rfl) ?_
  obtain ⟨v50, e49, f⟩ := ob f
  refine o_iald S I e49 dX6_nameAway_81 ?_
  refine lv_i2l (v := Int32.toInt64 v50) S.1 S.2.1 dX6_nameAway_82 rfl ?_
  obtain ⟨h52, e51, f⟩ := ob f
  refine o_last S I e51 dX6_nameAway_83 (fun H locs I => ?_)
  exact o_vret S hr hlo I f dX6_nameAway_84
theorem M6_nameAway (l : Launch) (D : va_G) (cy : Nat → ClassId) (b : Nat) (A : Nat → Prop) (fl : Bool) {h : PH} {a0 : Nat} {x1 : Int32} {x2 : Int32} {out : PH} (f : F6_nameAway h a0 x1 x2 = some out) : Met l yX6_nameAway vX6_nameAway ({ frames := 0, cells := 0, slots := 0, locals := 0 } : Room) (va_Pc [.ref (b + a0), .int x1, .int x2] (ph_B D cy b A fl h)) (va_Qv (fun (u : PH) => u = out) (ph_B D cy b A fl) A) 0 0 A :=
  o_met (by decide) rfl (Nat.le_of_ble_eq_true rfl) rfl (fun p e s m below meth c S hr hlo hnm ls hl I => T6_nameAway_0 S hr hlo ((gd f).2) I (lv_sub hl [0, 1, 2] rfl))
def vX2_oneIf : List Cond := .code yX2_oneIf cX2_oneIf 1 (some .long) :: TB
theorem cd2_oneIf : Cd yX2_oneIf 1 := ⟨by decide, by decide, by decide +kernel⟩
set_option maxHeartbeats 4000000 in
set_option maxRecDepth 100000 in
theorem T2_oneIf_0 (S : CallFix p m c cX2_oneIf 1 s args vX2_oneIf RX2) (hr : meth.sig.returnType = (some .long)) (hlo : meth.locks = false) {out : Int64 × PH} {h : PH} {x0 : Int32} (f : F2_oneIf_0  h x0 = some out) {H : Heap} {locs : List Loc} (I : ph_I D cy b A fl h s H locs) {ls : Array Slot} (hl : lv_has ls 1 [(0, .int x0)]) : W p l e ({ frames := 0, cells := 0, slots := 0, locals := 0 } : Room) s m args below meth c H locs 0 0 (MQ below (va_Ql (fun (r : Int64) (u : PH) => (r, u) = out) (ph_B D cy b A fl) A) args s 0 0 A) (F0 m 0 ls []) := by
  unfold F2_oneIf_0 at f
  refine lv_iload_n S.1 S.2.1 dX2_oneIf_0 rfl (lv_at hl 0 rfl) ?_
  refine lv_if_eq (tgt := 8) S.1 S.2.1 dX2_oneIf_1 (by decide) (fun q1 => ?_) (fun q1 => ?_)
  · have f := (if_pos q1).symm.trans f
    refine lv_lconst (v := 0) S.1 S.2.1 dX2_oneIf_8 (by decide) ?_
    exact o_lret S hr hlo I f dX2_oneIf_9
  · have f := (if_neg q1).symm.trans f
    refine lv_lconst (v := 1) S.1 S.2.1 dX2_oneIf_4 (by decide) ?_
    refine lv_goto (tgt := 9) S.1 S.2.1 dX2_oneIf_5 (by decide) ?_
    exact o_lret S hr hlo I f dX2_oneIf_9
theorem M2_oneIf (l : Launch) (D : va_G) (cy : Nat → ClassId) (b : Nat) (A : Nat → Prop) (fl : Bool) {h : PH} {x0 : Int32} {out : Int64 × PH} (f : F2_oneIf h x0 = some out) : Met l yX2_oneIf vX2_oneIf ({ frames := 0, cells := 0, slots := 0, locals := 0 } : Room) (va_Pc [.int x0] (ph_B D cy b A fl h)) (va_Ql (fun (r : Int64) (u : PH) => (r, u) = out) (ph_B D cy b A fl) A) 0 0 A :=
  o_met (by decide) rfl (Nat.le_of_ble_eq_true rfl) rfl (fun p e s m below meth c S hr hlo hnm ls hl I => T2_oneIf_0 S hr hlo (f) I (lv_sub hl [0] rfl))
def vX2_product : List Cond := .code yX2_product cX2_product 8 (some .long) :: TB
theorem cd2_product : Cd yX2_product 2 := ⟨by decide, by decide, by decide +kernel⟩
set_option maxHeartbeats 4000000 in
set_option maxRecDepth 100000 in
theorem T2_product_26 (S : CallFix p m c cX2_product 8 s args vX2_product RX2) (hr : meth.sig.returnType = (some .long)) (hlo : meth.locks = false) {out : Int64 × PH} {h : PH} {j0 : Int64} {j2 : Int64} {j4 : Int64} {t0 : Int64} (f : F2_product_26  h j0 j2 j4 t0 = some out) {H : Heap} {locs : List Loc} (I : ph_I D cy b A fl h s H locs) {ls : Array Slot} (hl : lv_has ls 8 [(0, .long j0), (2, .long j2), (4, .long j4)]) : W p l e ({ frames := 0, cells := 0, slots := 0, locals := 0 } : Room) s m args below meth c H locs 0 0 (MQ below (va_Ql (fun (r : Int64) (u : PH) => (r, u) = out) (ph_B D cy b A fl) A) args s 0 0 A) (F0 m 26 ls [.long t0]) := by
  unfold F2_product_26 at f
  refine lv_lstore (lv' := [(6, .long t0), (0, .long j0), (2, .long j2), (4, .long j4)]) S.1 S.2.1 dX2_product_26 hl (by decide) rfl (fun ls hl => ?_)
  refine lv_lload S.1 S.2.1 dX2_product_28 (lv_at hl 0 rfl) ?_
  refine lv_lconst (v := 0) S.1 S.2.1 dX2_product_30 (by decide) ?_
  refine W.lcmp S.1 S.2.1 dX2_product_31 ?_
  refine lv_if_le (tgt := 51) S.1 S.2.1 dX2_product_32 (by decide) (fun q1 => ?_) (fun q1 => ?_)
  · have f := (if_pos q1).symm.trans f
    refine lv_lload_n S.1 S.2.1 dX2_product_51 rfl (lv_at hl 1 rfl) ?_
    refine lv_lload_n S.1 S.2.1 dX2_product_52 rfl (lv_at hl 2 rfl) ?_
    refine lv_lmul S.1 S.2.1 dX2_product_53 ?_
    exact o_lret S hr hlo I f dX2_product_54
  · have f := (if_neg q1).symm.trans f
    refine lv_lload S.1 S.2.1 dX2_product_35 (lv_at hl 3 rfl) ?_
    refine lv_ldc2 (v := 1000000000000) S.1 S.2.1 S.2.2.2.1 (S.2.2.2.2 _ (List.mem_cons_of_mem _ wT_25_12)) dX2_product_37 ?_
    refine lv_lload S.1 S.2.1 dX2_product_40 (lv_at hl 0 rfl) ?_
    have q2 : ¬ t0 = 0 := fun q => by rw [if_pos q] at f; cases f
    have f := (if_neg q2).symm.trans f
    refine lv_ldiv S.1 S.2.1 dX2_product_42 q2 ?_
    refine W.lcmp S.1 S.2.1 dX2_product_43 ?_
    refine lv_if_le (tgt := 51) S.1 S.2.1 dX2_product_44 (by decide) (fun q3 => ?_) (fun q3 => ?_)
    · have f := (if_pos q3).symm.trans f
      refine lv_lload_n S.1 S.2.1 dX2_product_51 rfl (lv_at hl 1 rfl) ?_
      refine lv_lload_n S.1 S.2.1 dX2_product_52 rfl (lv_at hl 2 rfl) ?_
      refine lv_lmul S.1 S.2.1 dX2_product_53 ?_
      exact o_lret S hr hlo I f dX2_product_54
    · have f := (if_neg q3).symm.trans f
      refine lv_ldc2 (v := (-9223372036854775808)) S.1 S.2.1 S.2.2.2.1 (S.2.2.2.2 _ (List.mem_cons_of_mem _ wT_25_14)) dX2_product_47 ?_
      exact o_lret S hr hlo I f dX2_product_50
end
