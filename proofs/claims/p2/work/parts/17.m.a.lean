theorem dX12_boardOf_0 : decode cX12_boardOf 0 = .ok (.aload_n 0, 1) := by decide +kernel
theorem dX12_boardOf_1 : decode cX12_boardOf 1 = .ok (.getfield 115, 3) := by decide +kernel
theorem dX12_boardOf_4 : decode cX12_boardOf 4 = .ok (.iconst 3, 1) := by decide +kernel
theorem dX12_boardOf_5 : decode cX12_boardOf 5 = .ok (.if_icmp .ne 8, 3) := by decide +kernel
theorem dX12_boardOf_8 : decode cX12_boardOf 8 = .ok (.bipush 9, 2) := by decide +kernel
theorem dX12_boardOf_10 : decode cX12_boardOf 10 = .ok (.goto 9, 3) := by decide +kernel
theorem dX12_boardOf_13 : decode cX12_boardOf 13 = .ok (.aload_n 0, 1) := by decide +kernel
theorem dX12_boardOf_14 : decode cX12_boardOf 14 = .ok (.getfield 33, 3) := by decide +kernel
theorem dX12_boardOf_17 : decode cX12_boardOf 17 = .ok (.iload_n 1, 1) := by decide +kernel
theorem dX12_boardOf_18 : decode cX12_boardOf 18 = .ok (.iaload, 1) := by decide +kernel
theorem dX12_boardOf_19 : decode cX12_boardOf 19 = .ok (.ireturn, 1) := by decide +kernel
theorem dX12_layCatch_0 : decode cX12_layCatch 0 = .ok (.aload_n 0, 1) := by decide +kernel
theorem dX12_layCatch_1 : decode cX12_layCatch 1 = .ok (.aload_n 0, 1) := by decide +kernel
theorem dX12_layCatch_2 : decode cX12_layCatch 2 = .ok (.getfield 48, 3) := by decide +kernel
theorem dX12_layCatch_5 : decode cX12_layCatch 5 = .ok (.iload_n 2, 1) := by decide +kernel
theorem dX12_layCatch_6 : decode cX12_layCatch 6 = .ok (.iaload, 1) := by decide +kernel
theorem dX12_layCatch_7 : decode cX12_layCatch 7 = .ok (.invokevirtual 400, 3) := by decide +kernel
theorem dX12_layCatch_10 : decode cX12_layCatch 10 = .ok (.istore 4, 2) := by decide +kernel
theorem dX12_layCatch_12 : decode cX12_layCatch 12 = .ok (.aload_n 0, 1) := by decide +kernel
theorem dX12_layCatch_13 : decode cX12_layCatch 13 = .ok (.iload_n 3, 1) := by decide +kernel
theorem dX12_layCatch_14 : decode cX12_layCatch 14 = .ok (.iload 4, 2) := by decide +kernel
theorem dX12_layCatch_16 : decode cX12_layCatch 16 = .ok (.invokevirtual 403, 3) := by decide +kernel
theorem dX12_layCatch_19 : decode cX12_layCatch 19 = .ok (.istore 5, 2) := by decide +kernel
theorem dX12_layCatch_21 : decode cX12_layCatch 21 = .ok (.aload_n 0, 1) := by decide +kernel
theorem dX12_layCatch_22 : decode cX12_layCatch 22 = .ok (.iload 5, 2) := by decide +kernel
theorem dX12_layCatch_24 : decode cX12_layCatch 24 = .ok (.iload_n 3, 1) := by decide +kernel
theorem dX12_layCatch_25 : decode cX12_layCatch 25 = .ok (.aload_n 0, 1) := by decide +kernel
theorem dX12_layCatch_26 : decode cX12_layCatch 26 = .ok (.getfield 241, 3) := by decide +kernel
theorem dX12_layCatch_29 : decode cX12_layCatch 29 = .ok (.idiv, 1) := by decide +kernel
theorem dX12_layCatch_30 : decode cX12_layCatch 30 = .ok (.iload 4, 2) := by decide +kernel
theorem dX12_layCatch_32 : decode cX12_layCatch 32 = .ok (.aload_n 0, 1) := by decide +kernel
theorem dX12_layCatch_33 : decode cX12_layCatch 33 = .ok (.getfield 241, 3) := by decide +kernel
theorem dX12_layCatch_36 : decode cX12_layCatch 36 = .ok (.idiv, 1) := by decide +kernel
theorem dX12_layCatch_37 : decode cX12_layCatch 37 = .ok (.isub, 1) := by decide +kernel
theorem dX12_layCatch_38 : decode cX12_layCatch 38 = .ok (.aload_n 0, 1) := by decide +kernel
theorem dX12_layCatch_39 : decode cX12_layCatch 39 = .ok (.iload_n 1, 1) := by decide +kernel
theorem dX12_layCatch_40 : decode cX12_layCatch 40 = .ok (.invokevirtual 406, 3) := by decide +kernel
theorem dX12_layCatch_43 : decode cX12_layCatch 43 = .ok (.iload_n 2, 1) := by decide +kernel
theorem dX12_layCatch_44 : decode cX12_layCatch 44 = .ok (.aload_n 0, 1) := by decide +kernel
theorem dX12_layCatch_45 : decode cX12_layCatch 45 = .ok (.getfield 48, 3) := by decide +kernel
theorem dX12_layCatch_48 : decode cX12_layCatch 48 = .ok (.iload_n 2, 1) := by decide +kernel
theorem dX12_layCatch_49 : decode cX12_layCatch 49 = .ok (.iaload, 1) := by decide +kernel
theorem dX12_layCatch_50 : decode cX12_layCatch 50 = .ok (.invokevirtual 392, 3) := by decide +kernel
theorem dX12_layCatch_53 : decode cX12_layCatch 53 = .ok (.iload 5, 2) := by decide +kernel
theorem dX12_layCatch_55 : decode cX12_layCatch 55 = .ok (.ireturn, 1) := by decide +kernel
theorem dX12_oddsOf_0 : decode cX12_oddsOf 0 = .ok (.aload_n 0, 1) := by decide +kernel
theorem dX12_oddsOf_1 : decode cX12_oddsOf 1 = .ok (.iload_n 1, 1) := by decide +kernel
theorem dX12_oddsOf_2 : decode cX12_oddsOf 2 = .ok (.iload_n 2, 1) := by decide +kernel
theorem dX12_oddsOf_3 : decode cX12_oddsOf 3 = .ok (.iload_n 3, 1) := by decide +kernel
theorem dX12_oddsOf_4 : decode cX12_oddsOf 4 = .ok (.invokevirtual 409, 3) := by decide +kernel
theorem dX12_oddsOf_7 : decode cX12_oddsOf 7 = .ok (.istore 4, 2) := by decide +kernel
theorem dX12_oddsOf_9 : decode cX12_oddsOf 9 = .ok (.aload_n 0, 1) := by decide +kernel
theorem dX12_oddsOf_10 : decode cX12_oddsOf 10 = .ok (.iconst 0, 1) := by decide +kernel
theorem dX12_oddsOf_11 : decode cX12_oddsOf 11 = .ok (.iload 4, 2) := by decide +kernel
theorem dX12_oddsOf_13 : decode cX12_oddsOf 13 = .ok (.iconst 5, 1) := by decide +kernel
theorem dX12_oddsOf_14 : decode cX12_oddsOf 14 = .ok (.if_icmp .ge 14, 3) := by decide +kernel
theorem dX12_oddsOf_17 : decode cX12_oddsOf 17 = .ok (.bipush 100, 2) := by decide +kernel
theorem dX12_oddsOf_19 : decode cX12_oddsOf 19 = .ok (.bipush 20, 2) := by decide +kernel
theorem dX12_oddsOf_21 : decode cX12_oddsOf 21 = .ok (.iload 4, 2) := by decide +kernel
theorem dX12_oddsOf_23 : decode cX12_oddsOf 23 = .ok (.imul, 1) := by decide +kernel
theorem dX12_oddsOf_24 : decode cX12_oddsOf 24 = .ok (.isub, 1) := by decide +kernel
theorem dX12_oddsOf_25 : decode cX12_oddsOf 25 = .ok (.goto 4, 3) := by decide +kernel
theorem dX12_oddsOf_28 : decode cX12_oddsOf 28 = .ok (.iconst 0, 1) := by decide +kernel
theorem dX12_oddsOf_29 : decode cX12_oddsOf 29 = .ok (.iconst 0, 1) := by decide +kernel
theorem dX12_oddsOf_30 : decode cX12_oddsOf 30 = .ok (.bipush 100, 2) := by decide +kernel
theorem dX12_oddsOf_32 : decode cX12_oddsOf 32 = .ok (.invokevirtual 396, 3) := by decide +kernel
theorem dX12_oddsOf_35 : decode cX12_oddsOf 35 = .ok (.ireturn, 1) := by decide +kernel
theorem dX12_isGoing_0 : decode cX12_isGoing 0 = .ok (.aload_n 0, 1) := by decide +kernel
theorem dX12_isGoing_1 : decode cX12_isGoing 1 = .ok (.getfield 97, 3) := by decide +kernel
theorem dX12_isGoing_4 : decode cX12_isGoing 4 = .ok (.iconst 5, 1) := by decide +kernel
theorem dX12_isGoing_5 : decode cX12_isGoing 5 = .ok (.iload_n 1, 1) := by decide +kernel
theorem dX12_isGoing_6 : decode cX12_isGoing 6 = .ok (.imul, 1) := by decide +kernel
theorem dX12_isGoing_7 : decode cX12_isGoing 7 = .ok (.iload_n 2, 1) := by decide +kernel
theorem dX12_isGoing_8 : decode cX12_isGoing 8 = .ok (.iadd, 1) := by decide +kernel
theorem dX12_isGoing_9 : decode cX12_isGoing 9 = .ok (.iaload, 1) := by decide +kernel
theorem dX12_isGoing_10 : decode cX12_isGoing 10 = .ok (.ifCond .ne 42, 3) := by decide +kernel
theorem dX12_isGoing_13 : decode cX12_isGoing 13 = .ok (.aload_n 0, 1) := by decide +kernel
theorem dX12_isGoing_14 : decode cX12_isGoing 14 = .ok (.getfield 115, 3) := by decide +kernel
theorem dX12_isGoing_17 : decode cX12_isGoing 17 = .ok (.iconst 1, 1) := by decide +kernel
theorem dX12_isGoing_18 : decode cX12_isGoing 18 = .ok (.if_icmp .ne 11, 3) := by decide +kernel
theorem dX12_isGoing_21 : decode cX12_isGoing 21 = .ok (.aload_n 0, 1) := by decide +kernel
theorem dX12_isGoing_22 : decode cX12_isGoing 22 = .ok (.getfield 430, 3) := by decide +kernel
theorem dX12_isGoing_25 : decode cX12_isGoing 25 = .ok (.iload_n 2, 1) := by decide +kernel
theorem dX12_isGoing_26 : decode cX12_isGoing 26 = .ok (.if_icmp .eq 26, 3) := by decide +kernel
theorem dX12_isGoing_29 : decode cX12_isGoing 29 = .ok (.aload_n 0, 1) := by decide +kernel
theorem dX12_isGoing_30 : decode cX12_isGoing 30 = .ok (.iload_n 2, 1) := by decide +kernel
theorem dX12_isGoing_31 : decode cX12_isGoing 31 = .ok (.iload_n 3, 1) := by decide +kernel
theorem dX12_isGoing_32 : decode cX12_isGoing 32 = .ok (.aload_n 0, 1) := by decide +kernel
theorem dX12_isGoing_33 : decode cX12_isGoing 33 = .ok (.getfield 88, 3) := by decide +kernel
theorem dX12_isGoing_36 : decode cX12_isGoing 36 = .ok (.iconst 5, 1) := by decide +kernel
theorem dX12_isGoing_37 : decode cX12_isGoing 37 = .ok (.iload_n 1, 1) := by decide +kernel
theorem dX12_isGoing_38 : decode cX12_isGoing 38 = .ok (.imul, 1) := by decide +kernel
theorem dX12_isGoing_39 : decode cX12_isGoing 39 = .ok (.iload_n 2, 1) := by decide +kernel
theorem dX12_isGoing_40 : decode cX12_isGoing 40 = .ok (.iadd, 1) := by decide +kernel
theorem dX12_isGoing_41 : decode cX12_isGoing 41 = .ok (.iaload, 1) := by decide +kernel
theorem dX12_isGoing_42 : decode cX12_isGoing 42 = .ok (.invokevirtual 425, 3) := by decide +kernel
theorem dX12_isGoing_45 : decode cX12_isGoing 45 = .ok (.ifCond .le 7, 3) := by decide +kernel
theorem dX12_isGoing_48 : decode cX12_isGoing 48 = .ok (.iconst 1, 1) := by decide +kernel
theorem dX12_isGoing_49 : decode cX12_isGoing 49 = .ok (.goto 4, 3) := by decide +kernel
theorem dX12_isGoing_52 : decode cX12_isGoing 52 = .ok (.iconst 0, 1) := by decide +kernel
theorem dX12_isGoing_53 : decode cX12_isGoing 53 = .ok (.ireturn, 1) := by decide +kernel
theorem dX12_keyOf_0 : decode cX12_keyOf 0 = .ok (.aload_n 0, 1) := by decide +kernel
theorem dX12_keyOf_1 : decode cX12_keyOf 1 = .ok (.getfield 88, 3) := by decide +kernel
theorem dX12_keyOf_4 : decode cX12_keyOf 4 = .ok (.iconst 5, 1) := by decide +kernel
theorem dX12_keyOf_5 : decode cX12_keyOf 5 = .ok (.iload_n 1, 1) := by decide +kernel
theorem dX12_keyOf_6 : decode cX12_keyOf 6 = .ok (.imul, 1) := by decide +kernel
theorem dX12_keyOf_7 : decode cX12_keyOf 7 = .ok (.iload_n 2, 1) := by decide +kernel
theorem dX12_keyOf_8 : decode cX12_keyOf 8 = .ok (.iadd, 1) := by decide +kernel
theorem dX12_keyOf_9 : decode cX12_keyOf 9 = .ok (.iaload, 1) := by decide +kernel
theorem dX12_keyOf_10 : decode cX12_keyOf 10 = .ok (.istore 5, 2) := by decide +kernel
theorem dX12_keyOf_12 : decode cX12_keyOf 12 = .ok (.aload_n 0, 1) := by decide +kernel
theorem dX12_keyOf_13 : decode cX12_keyOf 13 = .ok (.iload 5, 2) := by decide +kernel
theorem dX12_keyOf_15 : decode cX12_keyOf 15 = .ok (.aload_n 0, 1) := by decide +kernel
theorem dX12_keyOf_16 : decode cX12_keyOf 16 = .ok (.aload_n 0, 1) := by decide +kernel
theorem dX12_keyOf_17 : decode cX12_keyOf 17 = .ok (.getfield 48, 3) := by decide +kernel
theorem dX12_keyOf_20 : decode cX12_keyOf 20 = .ok (.iload_n 3, 1) := by decide +kernel
theorem dX12_keyOf_21 : decode cX12_keyOf 21 = .ok (.iaload, 1) := by decide +kernel
theorem dX12_keyOf_22 : decode cX12_keyOf 22 = .ok (.invokevirtual 400, 3) := by decide +kernel
theorem dX12_keyOf_25 : decode cX12_keyOf 25 = .ok (.invokevirtual 403, 3) := by decide +kernel
theorem dX12_keyOf_28 : decode cX12_keyOf 28 = .ok (.istore 6, 2) := by decide +kernel
theorem dX12_keyOf_30 : decode cX12_keyOf 30 = .ok (.iload 4, 2) := by decide +kernel
theorem dX12_keyOf_32 : decode cX12_keyOf 32 = .ok (.ifCond .ne 6, 3) := by decide +kernel
theorem dX12_keyOf_35 : decode cX12_keyOf 35 = .ok (.iload 6, 2) := by decide +kernel
theorem dX12_keyOf_37 : decode cX12_keyOf 37 = .ok (.ireturn, 1) := by decide +kernel
theorem dX12_keyOf_38 : decode cX12_keyOf 38 = .ok (.iload 4, 2) := by decide +kernel
theorem dX12_keyOf_40 : decode cX12_keyOf 40 = .ok (.iconst 1, 1) := by decide +kernel
theorem dX12_keyOf_41 : decode cX12_keyOf 41 = .ok (.if_icmp .ne 14, 3) := by decide +kernel
theorem dX12_keyOf_44 : decode cX12_keyOf 44 = .ok (.aload_n 0, 1) := by decide +kernel
theorem dX12_keyOf_45 : decode cX12_keyOf 45 = .ok (.getfield 91, 3) := by decide +kernel
theorem dX12_keyOf_48 : decode cX12_keyOf 48 = .ok (.iconst 5, 1) := by decide +kernel
theorem dX12_keyOf_49 : decode cX12_keyOf 49 = .ok (.iload_n 1, 1) := by decide +kernel
theorem dX12_keyOf_50 : decode cX12_keyOf 50 = .ok (.imul, 1) := by decide +kernel
theorem dX12_keyOf_51 : decode cX12_keyOf 51 = .ok (.iload_n 2, 1) := by decide +kernel
theorem dX12_keyOf_52 : decode cX12_keyOf 52 = .ok (.iadd, 1) := by decide +kernel
theorem dX12_keyOf_53 : decode cX12_keyOf 53 = .ok (.iaload, 1) := by decide +kernel
theorem dX12_keyOf_54 : decode cX12_keyOf 54 = .ok (.ireturn, 1) := by decide +kernel
theorem dX12_keyOf_55 : decode cX12_keyOf 55 = .ok (.iload 4, 2) := by decide +kernel
theorem dX12_keyOf_57 : decode cX12_keyOf 57 = .ok (.iconst 3, 1) := by decide +kernel
theorem dX12_keyOf_58 : decode cX12_keyOf 58 = .ok (.if_icmp .ne 12, 3) := by decide +kernel
theorem dX12_keyOf_61 : decode cX12_keyOf 61 = .ok (.iload 5, 2) := by decide +kernel
theorem dX12_keyOf_63 : decode cX12_keyOf 63 = .ok (.aload_n 0, 1) := by decide +kernel
theorem dX12_keyOf_64 : decode cX12_keyOf 64 = .ok (.getfield 241, 3) := by decide +kernel
theorem dX12_keyOf_67 : decode cX12_keyOf 67 = .ok (.idiv, 1) := by decide +kernel
theorem dX12_keyOf_68 : decode cX12_keyOf 68 = .ok (.ineg, 1) := by decide +kernel
theorem dX12_keyOf_69 : decode cX12_keyOf 69 = .ok (.ireturn, 1) := by decide +kernel
theorem dX12_keyOf_70 : decode cX12_keyOf 70 = .ok (.iconst 0, 1) := by decide +kernel
theorem dX12_keyOf_71 : decode cX12_keyOf 71 = .ok (.istore 7, 2) := by decide +kernel
theorem dX12_keyOf_73 : decode cX12_keyOf 73 = .ok (.iconst 0, 1) := by decide +kernel
theorem dX12_keyOf_74 : decode cX12_keyOf 74 = .ok (.istore 8, 2) := by decide +kernel
theorem dX12_keyOf_76 : decode cX12_keyOf 76 = .ok (.iload 8, 2) := by decide +kernel
theorem dX12_keyOf_78 : decode cX12_keyOf 78 = .ok (.aload_n 0, 1) := by decide +kernel
theorem dX12_keyOf_79 : decode cX12_keyOf 79 = .ok (.getfield 253, 3) := by decide +kernel
theorem dX12_keyOf_82 : decode cX12_keyOf 82 = .ok (.if_icmp .ge 53, 3) := by decide +kernel
theorem dX12_keyOf_85 : decode cX12_keyOf 85 = .ok (.iload 7, 2) := by decide +kernel
theorem dX12_keyOf_87 : decode cX12_keyOf 87 = .ok (.ifCond .ne 35, 3) := by decide +kernel
theorem dX12_keyOf_90 : decode cX12_keyOf 90 = .ok (.aload_n 0, 1) := by decide +kernel
theorem dX12_keyOf_91 : decode cX12_keyOf 91 = .ok (.getfield 54, 3) := by decide +kernel
theorem dX12_keyOf_94 : decode cX12_keyOf 94 = .ok (.iload 8, 2) := by decide +kernel
theorem dX12_keyOf_96 : decode cX12_keyOf 96 = .ok (.iaload, 1) := by decide +kernel
theorem dX12_keyOf_97 : decode cX12_keyOf 97 = .ok (.aload_n 0, 1) := by decide +kernel
theorem dX12_keyOf_98 : decode cX12_keyOf 98 = .ok (.getfield 54, 3) := by decide +kernel
theorem dX12_keyOf_101 : decode cX12_keyOf 101 = .ok (.iload_n 3, 1) := by decide +kernel
theorem dX12_keyOf_102 : decode cX12_keyOf 102 = .ok (.iaload, 1) := by decide +kernel
theorem dX12_keyOf_103 : decode cX12_keyOf 103 = .ok (.if_icmp .ne 23, 3) := by decide +kernel
theorem dX12_keyOf_106 : decode cX12_keyOf 106 = .ok (.aload_n 0, 1) := by decide +kernel
theorem dX12_keyOf_107 : decode cX12_keyOf 107 = .ok (.getfield 103, 3) := by decide +kernel
theorem dX12_keyOf_110 : decode cX12_keyOf 110 = .ok (.bipush 28, 2) := by decide +kernel
theorem dX12_keyOf_112 : decode cX12_keyOf 112 = .ok (.iload_n 1, 1) := by decide +kernel
theorem dX12_keyOf_113 : decode cX12_keyOf 113 = .ok (.imul, 1) := by decide +kernel
theorem dX12_keyOf_114 : decode cX12_keyOf 114 = .ok (.iload 8, 2) := by decide +kernel
theorem dX12_keyOf_116 : decode cX12_keyOf 116 = .ok (.iadd, 1) := by decide +kernel
theorem dX12_keyOf_117 : decode cX12_keyOf 117 = .ok (.iaload, 1) := by decide +kernel
theorem dX12_keyOf_118 : decode cX12_keyOf 118 = .ok (.iload_n 2, 1) := by decide +kernel
theorem dX12_keyOf_119 : decode cX12_keyOf 119 = .ok (.if_icmp .ne 7, 3) := by decide +kernel
theorem dX12_keyOf_122 : decode cX12_keyOf 122 = .ok (.iconst 1, 1) := by decide +kernel
theorem dX12_keyOf_123 : decode cX12_keyOf 123 = .ok (.goto 4, 3) := by decide +kernel
theorem dX12_keyOf_126 : decode cX12_keyOf 126 = .ok (.iconst 0, 1) := by decide +kernel
theorem dX12_keyOf_127 : decode cX12_keyOf 127 = .ok (.istore 7, 2) := by decide +kernel
theorem dX12_keyOf_129 : decode cX12_keyOf 129 = .ok (.iinc 8 1, 3) := by decide +kernel
theorem dX12_keyOf_132 : decode cX12_keyOf 132 = .ok (.goto (-56), 3) := by decide +kernel
theorem dX12_keyOf_135 : decode cX12_keyOf 135 = .ok (.iload 7, 2) := by decide +kernel
theorem dX12_keyOf_137 : decode cX12_keyOf 137 = .ok (.ifCond .eq 9, 3) := by decide +kernel
theorem dX12_keyOf_140 : decode cX12_keyOf 140 = .ok (.sipush 1000, 3) := by decide +kernel
theorem dX12_keyOf_143 : decode cX12_keyOf 143 = .ok (.goto 4, 3) := by decide +kernel
theorem dX12_keyOf_146 : decode cX12_keyOf 146 = .ok (.iconst 0, 1) := by decide +kernel
theorem dX12_keyOf_147 : decode cX12_keyOf 147 = .ok (.iload 6, 2) := by decide +kernel
theorem dX12_keyOf_149 : decode cX12_keyOf 149 = .ok (.iadd, 1) := by decide +kernel
theorem dX12_keyOf_150 : decode cX12_keyOf 150 = .ok (.ireturn, 1) := by decide +kernel
theorem dX12_layOrder_0 : decode cX12_layOrder 0 = .ok (.aload_n 0, 1) := by decide +kernel
theorem dX12_layOrder_1 : decode cX12_layOrder 1 = .ok (.iconst 0, 1) := by decide +kernel
theorem dX12_layOrder_2 : decode cX12_layOrder 2 = .ok (.putfield 433, 3) := by decide +kernel
theorem dX12_layOrder_5 : decode cX12_layOrder 5 = .ok (.iconst 0, 1) := by decide +kernel
theorem dX12_layOrder_6 : decode cX12_layOrder 6 = .ok (.istore 4, 2) := by decide +kernel
theorem dX12_layOrder_8 : decode cX12_layOrder 8 = .ok (.iload 4, 2) := by decide +kernel
theorem dX12_layOrder_10 : decode cX12_layOrder 10 = .ok (.aload_n 0, 1) := by decide +kernel
theorem dX12_layOrder_11 : decode cX12_layOrder 11 = .ok (.getfield 247, 3) := by decide +kernel
theorem dX12_layOrder_14 : decode cX12_layOrder 14 = .ok (.if_icmp .ge 107, 3) := by decide +kernel
theorem dX12_layOrder_17 : decode cX12_layOrder 17 = .ok (.aload_n 0, 1) := by decide +kernel
theorem dX12_layOrder_18 : decode cX12_layOrder 18 = .ok (.iload_n 1, 1) := by decide +kernel
theorem dX12_layOrder_19 : decode cX12_layOrder 19 = .ok (.iload 4, 2) := by decide +kernel
theorem dX12_layOrder_21 : decode cX12_layOrder 21 = .ok (.iload_n 2, 1) := by decide +kernel
theorem dX12_layOrder_22 : decode cX12_layOrder 22 = .ok (.invokevirtual 436, 3) := by decide +kernel
theorem dX12_layOrder_25 : decode cX12_layOrder 25 = .ok (.ifCond .ne 6, 3) := by decide +kernel
theorem dX12_layOrder_28 : decode cX12_layOrder 28 = .ok (.goto 87, 3) := by decide +kernel
theorem dX12_layOrder_31 : decode cX12_layOrder 31 = .ok (.aload_n 0, 1) := by decide +kernel
theorem dX12_layOrder_32 : decode cX12_layOrder 32 = .ok (.iload_n 1, 1) := by decide +kernel
theorem dX12_layOrder_33 : decode cX12_layOrder 33 = .ok (.iload 4, 2) := by decide +kernel
theorem dX12_layOrder_35 : decode cX12_layOrder 35 = .ok (.iload_n 2, 1) := by decide +kernel
theorem dX12_layOrder_36 : decode cX12_layOrder 36 = .ok (.iload_n 3, 1) := by decide +kernel
theorem dX12_layOrder_37 : decode cX12_layOrder 37 = .ok (.invokevirtual 439, 3) := by decide +kernel
theorem dX12_layOrder_40 : decode cX12_layOrder 40 = .ok (.istore 5, 2) := by decide +kernel
theorem dX12_layOrder_42 : decode cX12_layOrder 42 = .ok (.aload_n 0, 1) := by decide +kernel
theorem dX12_layOrder_43 : decode cX12_layOrder 43 = .ok (.getfield 433, 3) := by decide +kernel
theorem dX12_layOrder_46 : decode cX12_layOrder 46 = .ok (.istore 6, 2) := by decide +kernel
theorem dX12_layOrder_48 : decode cX12_layOrder 48 = .ok (.iload 6, 2) := by decide +kernel
theorem dX12_layOrder_50 : decode cX12_layOrder 50 = .ok (.ifCond .le 46, 3) := by decide +kernel
theorem dX12_layOrder_53 : decode cX12_layOrder 53 = .ok (.aload_n 0, 1) := by decide +kernel
theorem dX12_layOrder_54 : decode cX12_layOrder 54 = .ok (.iload_n 1, 1) := by decide +kernel
theorem dX12_layOrder_55 : decode cX12_layOrder 55 = .ok (.aload_n 0, 1) := by decide +kernel
theorem dX12_layOrder_56 : decode cX12_layOrder 56 = .ok (.getfield 118, 3) := by decide +kernel
theorem dX12_layOrder_59 : decode cX12_layOrder 59 = .ok (.iload 6, 2) := by decide +kernel
theorem dX12_layOrder_61 : decode cX12_layOrder 61 = .ok (.iconst 1, 1) := by decide +kernel
theorem dX12_layOrder_62 : decode cX12_layOrder 62 = .ok (.isub, 1) := by decide +kernel
theorem dX12_layOrder_63 : decode cX12_layOrder 63 = .ok (.iaload, 1) := by decide +kernel
theorem dX12_layOrder_64 : decode cX12_layOrder 64 = .ok (.iload_n 2, 1) := by decide +kernel
theorem dX12_layOrder_65 : decode cX12_layOrder 65 = .ok (.iload_n 3, 1) := by decide +kernel
theorem dX12_layOrder_66 : decode cX12_layOrder 66 = .ok (.invokevirtual 439, 3) := by decide +kernel
theorem dX12_layOrder_69 : decode cX12_layOrder 69 = .ok (.iload 5, 2) := by decide +kernel
theorem dX12_layOrder_71 : decode cX12_layOrder 71 = .ok (.if_icmp .le 25, 3) := by decide +kernel
theorem dX12_layOrder_74 : decode cX12_layOrder 74 = .ok (.aload_n 0, 1) := by decide +kernel
theorem dX12_layOrder_75 : decode cX12_layOrder 75 = .ok (.getfield 118, 3) := by decide +kernel
theorem dX12_layOrder_78 : decode cX12_layOrder 78 = .ok (.iload 6, 2) := by decide +kernel
theorem dX12_layOrder_80 : decode cX12_layOrder 80 = .ok (.aload_n 0, 1) := by decide +kernel
theorem dX12_layOrder_81 : decode cX12_layOrder 81 = .ok (.getfield 118, 3) := by decide +kernel
theorem dX12_layOrder_84 : decode cX12_layOrder 84 = .ok (.iload 6, 2) := by decide +kernel
theorem dX12_layOrder_86 : decode cX12_layOrder 86 = .ok (.iconst 1, 1) := by decide +kernel
theorem dX12_layOrder_87 : decode cX12_layOrder 87 = .ok (.isub, 1) := by decide +kernel
theorem dX12_layOrder_88 : decode cX12_layOrder 88 = .ok (.iaload, 1) := by decide +kernel
theorem dX12_layOrder_89 : decode cX12_layOrder 89 = .ok (.iastore, 1) := by decide +kernel
theorem dX12_layOrder_90 : decode cX12_layOrder 90 = .ok (.iinc 6 (-1), 3) := by decide +kernel
theorem dX12_layOrder_93 : decode cX12_layOrder 93 = .ok (.goto (-45), 3) := by decide +kernel
theorem dX12_layOrder_96 : decode cX12_layOrder 96 = .ok (.aload_n 0, 1) := by decide +kernel
theorem dX12_layOrder_97 : decode cX12_layOrder 97 = .ok (.getfield 118, 3) := by decide +kernel
theorem dX12_layOrder_100 : decode cX12_layOrder 100 = .ok (.iload 6, 2) := by decide +kernel
theorem dX12_layOrder_102 : decode cX12_layOrder 102 = .ok (.iload 4, 2) := by decide +kernel
theorem dX12_layOrder_104 : decode cX12_layOrder 104 = .ok (.iastore, 1) := by decide +kernel
theorem dX12_layOrder_105 : decode cX12_layOrder 105 = .ok (.aload_n 0, 1) := by decide +kernel
theorem dX12_layOrder_106 : decode cX12_layOrder 106 = .ok (.dup, 1) := by decide +kernel
theorem dX12_layOrder_107 : decode cX12_layOrder 107 = .ok (.getfield 433, 3) := by decide +kernel
theorem dX12_layOrder_110 : decode cX12_layOrder 110 = .ok (.iconst 1, 1) := by decide +kernel
theorem dX12_layOrder_111 : decode cX12_layOrder 111 = .ok (.iadd, 1) := by decide +kernel
theorem dX12_layOrder_112 : decode cX12_layOrder 112 = .ok (.putfield 433, 3) := by decide +kernel
theorem dX12_layOrder_115 : decode cX12_layOrder 115 = .ok (.iinc 4 1, 3) := by decide +kernel
theorem dX12_layOrder_118 : decode cX12_layOrder 118 = .ok (.goto (-110), 3) := by decide +kernel
theorem dX12_layOrder_121 : decode cX12_layOrder 121 = .ok (.return_, 1) := by decide +kernel
theorem dX12_number1_0 : decode cX12_number1 0 = .ok (.aload_n 0, 1) := by decide +kernel
theorem dX12_number1_1 : decode cX12_number1 1 = .ok (.aload_n 0, 1) := by decide +kernel
theorem dX12_number1_2 : decode cX12_number1 2 = .ok (.getfield 372, 3) := by decide +kernel
theorem dX12_number1_5 : decode cX12_number1 5 = .ok (.ldc2_w 442, 3) := by decide +kernel
theorem dX12_number1_8 : decode cX12_number1 8 = .ok (.lmul, 1) := by decide +kernel
theorem dX12_number1_9 : decode cX12_number1 9 = .ok (.ldc2_w 444, 3) := by decide +kernel
theorem dX12_number1_12 : decode cX12_number1 12 = .ok (.ladd, 1) := by decide +kernel
theorem dX12_number1_13 : decode cX12_number1 13 = .ok (.ldc2_w 446, 3) := by decide +kernel
theorem dX12_number1_16 : decode cX12_number1 16 = .ok (.land, 1) := by decide +kernel
theorem dX12_number1_17 : decode cX12_number1 17 = .ok (.putfield 372, 3) := by decide +kernel
theorem dX12_number1_20 : decode cX12_number1 20 = .ok (.aload_n 0, 1) := by decide +kernel
theorem dX12_number1_21 : decode cX12_number1 21 = .ok (.getfield 372, 3) := by decide +kernel
theorem dX12_number1_24 : decode cX12_number1 24 = .ok (.ldc2_w 448, 3) := by decide +kernel
theorem dX12_number1_27 : decode cX12_number1 27 = .ok (.ldiv, 1) := by decide +kernel
theorem dX12_number1_28 : decode cX12_number1 28 = .ok (.iload_n 1, 1) := by decide +kernel
theorem dX12_number1_29 : decode cX12_number1 29 = .ok (.i2l, 1) := by decide +kernel
theorem dX12_number1_30 : decode cX12_number1 30 = .ok (.lrem, 1) := by decide +kernel
theorem dX12_number1_31 : decode cX12_number1 31 = .ok (.l2i, 1) := by decide +kernel
theorem dX12_number1_32 : decode cX12_number1 32 = .ok (.ireturn, 1) := by decide +kernel
theorem dX12_awayOf_0 : decode cX12_awayOf 0 = .ok (.aload_n 0, 1) := by decide +kernel
theorem dX12_awayOf_1 : decode cX12_awayOf 1 = .ok (.iconst 0, 1) := by decide +kernel
theorem dX12_awayOf_2 : decode cX12_awayOf 2 = .ok (.iconst 0, 1) := by decide +kernel
theorem dX12_awayOf_3 : decode cX12_awayOf 3 = .ok (.aload_n 0, 1) := by decide +kernel
theorem dX12_awayOf_4 : decode cX12_awayOf 4 = .ok (.iload_n 1, 1) := by decide +kernel
theorem dX12_awayOf_5 : decode cX12_awayOf 5 = .ok (.invokevirtual 406, 3) := by decide +kernel
theorem dX12_awayOf_8 : decode cX12_awayOf 8 = .ok (.iload_n 2, 1) := by decide +kernel
theorem dX12_awayOf_9 : decode cX12_awayOf 9 = .ok (.aload_n 0, 1) := by decide +kernel
theorem dX12_awayOf_10 : decode cX12_awayOf 10 = .ok (.getfield 48, 3) := by decide +kernel
theorem dX12_awayOf_13 : decode cX12_awayOf 13 = .ok (.iload_n 2, 1) := by decide +kernel
theorem dX12_awayOf_14 : decode cX12_awayOf 14 = .ok (.iaload, 1) := by decide +kernel
theorem dX12_awayOf_15 : decode cX12_awayOf 15 = .ok (.invokevirtual 392, 3) := by decide +kernel
theorem dX12_awayOf_18 : decode cX12_awayOf 18 = .ok (.aload_n 0, 1) := by decide +kernel
theorem dX12_awayOf_19 : decode cX12_awayOf 19 = .ok (.iconst 2, 1) := by decide +kernel
theorem dX12_awayOf_20 : decode cX12_awayOf 20 = .ok (.iconst 5, 1) := by decide +kernel
theorem dX12_awayOf_21 : decode cX12_awayOf 21 = .ok (.iconst 1, 1) := by decide +kernel
theorem dX12_awayOf_22 : decode cX12_awayOf 22 = .ok (.bipush 30, 2) := by decide +kernel
theorem dX12_awayOf_24 : decode cX12_awayOf 24 = .ok (.invokevirtual 396, 3) := by decide +kernel
theorem dX12_awayOf_27 : decode cX12_awayOf 27 = .ok (.ireturn, 1) := by decide +kernel
theorem dX12_goesAway_0 : decode cX12_goesAway 0 = .ok (.aload_n 0, 1) := by decide +kernel
theorem dX12_goesAway_1 : decode cX12_goesAway 1 = .ok (.getfield 97, 3) := by decide +kernel
theorem dX12_goesAway_4 : decode cX12_goesAway 4 = .ok (.iconst 5, 1) := by decide +kernel
theorem dX12_goesAway_5 : decode cX12_goesAway 5 = .ok (.iload_n 1, 1) := by decide +kernel
theorem dX12_goesAway_6 : decode cX12_goesAway 6 = .ok (.imul, 1) := by decide +kernel
theorem dX12_goesAway_7 : decode cX12_goesAway 7 = .ok (.iload_n 2, 1) := by decide +kernel
theorem dX12_goesAway_8 : decode cX12_goesAway 8 = .ok (.iadd, 1) := by decide +kernel
theorem dX12_goesAway_9 : decode cX12_goesAway 9 = .ok (.aload_n 0, 1) := by decide +kernel
theorem dX12_goesAway_10 : decode cX12_goesAway 10 = .ok (.getfield 106, 3) := by decide +kernel
theorem dX12_goesAway_13 : decode cX12_goesAway 13 = .ok (.iload_n 1, 1) := by decide +kernel
theorem dX12_goesAway_14 : decode cX12_goesAway 14 = .ok (.iaload, 1) := by decide +kernel
theorem dX12_goesAway_15 : decode cX12_goesAway 15 = .ok (.iload 4, 2) := by decide +kernel
theorem dX12_goesAway_17 : decode cX12_goesAway 17 = .ok (.aload_n 0, 1) := by decide +kernel
theorem dX12_goesAway_18 : decode cX12_goesAway 18 = .ok (.iload_n 2, 1) := by decide +kernel
theorem dX12_goesAway_19 : decode cX12_goesAway 19 = .ok (.iload_n 3, 1) := by decide +kernel
theorem dX12_goesAway_20 : decode cX12_goesAway 20 = .ok (.invokevirtual 450, 3) := by decide +kernel
theorem dX12_goesAway_23 : decode cX12_goesAway 23 = .ok (.imul, 1) := by decide +kernel
theorem dX12_goesAway_24 : decode cX12_goesAway 24 = .ok (.iadd, 1) := by decide +kernel
theorem dX12_goesAway_25 : decode cX12_goesAway 25 = .ok (.iastore, 1) := by decide +kernel
theorem dX12_goesAway_26 : decode cX12_goesAway 26 = .ok (.return_, 1) := by decide +kernel
theorem dX12_comes_0 : decode cX12_comes 0 = .ok (.aload_n 0, 1) := by decide +kernel
theorem dX12_comes_1 : decode cX12_comes 1 = .ok (.iload_n 1, 1) := by decide +kernel
theorem dX12_comes_2 : decode cX12_comes 2 = .ok (.iload_n 2, 1) := by decide +kernel
theorem dX12_comes_3 : decode cX12_comes 3 = .ok (.iload_n 3, 1) := by decide +kernel
theorem dX12_comes_4 : decode cX12_comes 4 = .ok (.invokevirtual 453, 3) := by decide +kernel
theorem dX12_comes_7 : decode cX12_comes 7 = .ok (.iconst 0, 1) := by decide +kernel
theorem dX12_comes_8 : decode cX12_comes 8 = .ok (.istore 4, 2) := by decide +kernel
theorem dX12_comes_10 : decode cX12_comes 10 = .ok (.iload 4, 2) := by decide +kernel
theorem dX12_comes_12 : decode cX12_comes 12 = .ok (.aload_n 0, 1) := by decide +kernel
theorem dX12_comes_13 : decode cX12_comes 13 = .ok (.getfield 433, 3) := by decide +kernel
theorem dX12_comes_16 : decode cX12_comes 16 = .ok (.if_icmp .ge 46, 3) := by decide +kernel
theorem dX12_comes_19 : decode cX12_comes 19 = .ok (.aload_n 0, 1) := by decide +kernel
theorem dX12_comes_20 : decode cX12_comes 20 = .ok (.bipush 100, 2) := by decide +kernel
theorem dX12_comes_22 : decode cX12_comes 22 = .ok (.invokevirtual 456, 3) := by decide +kernel
theorem dX12_comes_25 : decode cX12_comes 25 = .ok (.aload_n 0, 1) := by decide +kernel
theorem dX12_comes_26 : decode cX12_comes 26 = .ok (.aload_n 0, 1) := by decide +kernel
theorem dX12_comes_27 : decode cX12_comes 27 = .ok (.getfield 118, 3) := by decide +kernel
theorem dX12_comes_30 : decode cX12_comes 30 = .ok (.iload 4, 2) := by decide +kernel
theorem dX12_comes_32 : decode cX12_comes 32 = .ok (.iaload, 1) := by decide +kernel
theorem dX12_comes_33 : decode cX12_comes 33 = .ok (.iload_n 2, 1) := by decide +kernel
theorem dX12_comes_34 : decode cX12_comes 34 = .ok (.aload_n 0, 1) := by decide +kernel
theorem dX12_comes_35 : decode cX12_comes 35 = .ok (.getfield 88, 3) := by decide +kernel
theorem dX12_comes_38 : decode cX12_comes 38 = .ok (.iconst 5, 1) := by decide +kernel
theorem dX12_comes_39 : decode cX12_comes 39 = .ok (.iload_n 1, 1) := by decide +kernel
theorem dX12_comes_40 : decode cX12_comes 40 = .ok (.imul, 1) := by decide +kernel
theorem dX12_comes_41 : decode cX12_comes 41 = .ok (.aload_n 0, 1) := by decide +kernel
theorem dX12_comes_42 : decode cX12_comes 42 = .ok (.getfield 118, 3) := by decide +kernel
theorem dX12_comes_45 : decode cX12_comes 45 = .ok (.iload 4, 2) := by decide +kernel
theorem dX12_comes_47 : decode cX12_comes 47 = .ok (.iaload, 1) := by decide +kernel
theorem dX12_comes_48 : decode cX12_comes 48 = .ok (.iadd, 1) := by decide +kernel
theorem dX12_comes_49 : decode cX12_comes 49 = .ok (.iaload, 1) := by decide +kernel
theorem dX12_comes_50 : decode cX12_comes 50 = .ok (.invokevirtual 425, 3) := by decide +kernel
theorem dX12_comes_53 : decode cX12_comes 53 = .ok (.if_icmp .lt 9, 3) := by decide +kernel
theorem dX12_comes_56 : decode cX12_comes 56 = .ok (.iinc 4 1, 3) := by decide +kernel
theorem dX12_comes_59 : decode cX12_comes 59 = .ok (.goto (-49), 3) := by decide +kernel
theorem dX12_comes_62 : decode cX12_comes 62 = .ok (.iload 4, 2) := by decide +kernel
theorem dX12_comes_64 : decode cX12_comes 64 = .ok (.aload_n 0, 1) := by decide +kernel
theorem dX12_comes_65 : decode cX12_comes 65 = .ok (.getfield 433, 3) := by decide +kernel
theorem dX12_comes_68 : decode cX12_comes 68 = .ok (.if_icmp .ne 26, 3) := by decide +kernel
theorem dX12_comes_71 : decode cX12_comes 71 = .ok (.aload_n 0, 1) := by decide +kernel
theorem dX12_comes_72 : decode cX12_comes 72 = .ok (.getfield 103, 3) := by decide +kernel
theorem dX12_comes_75 : decode cX12_comes 75 = .ok (.bipush 28, 2) := by decide +kernel
theorem dX12_comes_77 : decode cX12_comes 77 = .ok (.iload_n 1, 1) := by decide +kernel
theorem dX12_comes_78 : decode cX12_comes 78 = .ok (.imul, 1) := by decide +kernel
theorem dX12_comes_79 : decode cX12_comes 79 = .ok (.iload_n 2, 1) := by decide +kernel
theorem dX12_comes_80 : decode cX12_comes 80 = .ok (.iadd, 1) := by decide +kernel
theorem dX12_comes_81 : decode cX12_comes 81 = .ok (.iconst (-1), 1) := by decide +kernel
theorem dX12_comes_82 : decode cX12_comes 82 = .ok (.iastore, 1) := by decide +kernel
theorem dX12_comes_83 : decode cX12_comes 83 = .ok (.aload_n 0, 1) := by decide +kernel
theorem dX12_comes_84 : decode cX12_comes 84 = .ok (.getfield 112, 3) := by decide +kernel
theorem dX12_comes_87 : decode cX12_comes 87 = .ok (.iload_n 1, 1) := by decide +kernel
theorem dX12_comes_88 : decode cX12_comes 88 = .ok (.dup2, 1) := by decide +kernel
theorem dX12_comes_89 : decode cX12_comes 89 = .ok (.iaload, 1) := by decide +kernel
theorem dX12_comes_90 : decode cX12_comes 90 = .ok (.iconst 1, 1) := by decide +kernel
theorem dX12_comes_91 : decode cX12_comes 91 = .ok (.iadd, 1) := by decide +kernel
theorem dX12_comes_92 : decode cX12_comes 92 = .ok (.iastore, 1) := by decide +kernel
theorem dX12_comes_93 : decode cX12_comes 93 = .ok (.return_, 1) := by decide +kernel
theorem dX12_comes_94 : decode cX12_comes 94 = .ok (.aload_n 0, 1) := by decide +kernel
theorem dX12_comes_95 : decode cX12_comes 95 = .ok (.getfield 118, 3) := by decide +kernel
theorem dX12_comes_98 : decode cX12_comes 98 = .ok (.iload 4, 2) := by decide +kernel
theorem dX12_comes_100 : decode cX12_comes 100 = .ok (.iaload, 1) := by decide +kernel
theorem dX12_comes_101 : decode cX12_comes 101 = .ok (.istore 5, 2) := by decide +kernel
theorem dX12_comes_103 : decode cX12_comes 103 = .ok (.iload 4, 2) := by decide +kernel
theorem dX12_comes_105 : decode cX12_comes 105 = .ok (.iconst 1, 1) := by decide +kernel
theorem dX12_comes_106 : decode cX12_comes 106 = .ok (.iadd, 1) := by decide +kernel
theorem dX12_comes_107 : decode cX12_comes 107 = .ok (.istore 6, 2) := by decide +kernel
theorem dX12_comes_109 : decode cX12_comes 109 = .ok (.iload 6, 2) := by decide +kernel
theorem dX12_comes_111 : decode cX12_comes 111 = .ok (.aload_n 0, 1) := by decide +kernel
theorem dX12_comes_112 : decode cX12_comes 112 = .ok (.getfield 433, 3) := by decide +kernel
theorem dX12_comes_115 : decode cX12_comes 115 = .ok (.if_icmp .ge 135, 3) := by decide +kernel
theorem dX12_comes_118 : decode cX12_comes 118 = .ok (.aload_n 0, 1) := by decide +kernel
theorem dX12_comes_119 : decode cX12_comes 119 = .ok (.getfield 115, 3) := by decide +kernel
theorem dX12_comes_122 : decode cX12_comes 122 = .ok (.ifCond .ne 7, 3) := by decide +kernel
theorem dX12_comes_125 : decode cX12_comes 125 = .ok (.iconst 0, 1) := by decide +kernel
theorem dX12_comes_126 : decode cX12_comes 126 = .ok (.goto 15, 3) := by decide +kernel
theorem dX12_comes_129 : decode cX12_comes 129 = .ok (.aload_n 0, 1) := by decide +kernel
theorem dX12_comes_130 : decode cX12_comes 130 = .ok (.getfield 39, 3) := by decide +kernel
theorem dX12_comes_133 : decode cX12_comes 133 = .ok (.aload_n 0, 1) := by decide +kernel
theorem dX12_comes_134 : decode cX12_comes 134 = .ok (.getfield 118, 3) := by decide +kernel
theorem dX12_comes_137 : decode cX12_comes 137 = .ok (.iload 6, 2) := by decide +kernel
theorem dX12_comes_139 : decode cX12_comes 139 = .ok (.iaload, 1) := by decide +kernel
theorem dX12_comes_140 : decode cX12_comes 140 = .ok (.iaload, 1) := by decide +kernel
theorem dX12_comes_141 : decode cX12_comes 141 = .ok (.istore 7, 2) := by decide +kernel
theorem dX12_comes_143 : decode cX12_comes 143 = .ok (.iload 7, 2) := by decide +kernel
theorem dX12_comes_145 : decode cX12_comes 145 = .ok (.ifCond .eq 99, 3) := by decide +kernel
theorem dX12_comes_148 : decode cX12_comes 148 = .ok (.aload_n 0, 1) := by decide +kernel
theorem dX12_comes_149 : decode cX12_comes 149 = .ok (.bipush 100, 2) := by decide +kernel
theorem dX12_comes_151 : decode cX12_comes 151 = .ok (.invokevirtual 456, 3) := by decide +kernel
theorem dX12_comes_154 : decode cX12_comes 154 = .ok (.iload 7, 2) := by decide +kernel
theorem dX12_comes_156 : decode cX12_comes 156 = .ok (.if_icmp .lt 6, 3) := by decide +kernel
theorem dX12_comes_159 : decode cX12_comes 159 = .ok (.goto 85, 3) := by decide +kernel
theorem dX12_comes_162 : decode cX12_comes 162 = .ok (.aload_n 0, 1) := by decide +kernel
theorem dX12_comes_163 : decode cX12_comes 163 = .ok (.getfield 103, 3) := by decide +kernel
theorem dX12_comes_166 : decode cX12_comes 166 = .ok (.bipush 28, 2) := by decide +kernel
theorem dX12_comes_168 : decode cX12_comes 168 = .ok (.iload_n 1, 1) := by decide +kernel
theorem dX12_comes_169 : decode cX12_comes 169 = .ok (.imul, 1) := by decide +kernel
theorem dX12_comes_170 : decode cX12_comes 170 = .ok (.iload_n 2, 1) := by decide +kernel
theorem dX12_comes_171 : decode cX12_comes 171 = .ok (.iadd, 1) := by decide +kernel
theorem dX12_comes_172 : decode cX12_comes 172 = .ok (.bipush (-3), 2) := by decide +kernel
theorem dX12_comes_174 : decode cX12_comes 174 = .ok (.iastore, 1) := by decide +kernel
theorem dX12_comes_175 : decode cX12_comes 175 = .ok (.aload_n 0, 1) := by decide +kernel
theorem dX12_comes_176 : decode cX12_comes 176 = .ok (.getfield 109, 3) := by decide +kernel
theorem dX12_comes_179 : decode cX12_comes 179 = .ok (.iload_n 1, 1) := by decide +kernel
theorem dX12_comes_180 : decode cX12_comes 180 = .ok (.dup2, 1) := by decide +kernel
theorem dX12_comes_181 : decode cX12_comes 181 = .ok (.iaload, 1) := by decide +kernel
theorem dX12_comes_182 : decode cX12_comes 182 = .ok (.iconst 1, 1) := by decide +kernel
theorem dX12_comes_183 : decode cX12_comes 183 = .ok (.iadd, 1) := by decide +kernel
theorem dX12_comes_184 : decode cX12_comes 184 = .ok (.iastore, 1) := by decide +kernel
theorem dX12_comes_185 : decode cX12_comes 185 = .ok (.aload_n 0, 1) := by decide +kernel
theorem dX12_comes_186 : decode cX12_comes 186 = .ok (.getfield 94, 3) := by decide +kernel
theorem dX12_comes_189 : decode cX12_comes 189 = .ok (.iconst 5, 1) := by decide +kernel
theorem dX12_comes_190 : decode cX12_comes 190 = .ok (.iload_n 1, 1) := by decide +kernel
theorem dX12_comes_191 : decode cX12_comes 191 = .ok (.imul, 1) := by decide +kernel
theorem dX12_comes_192 : decode cX12_comes 192 = .ok (.iload 5, 2) := by decide +kernel
theorem dX12_comes_194 : decode cX12_comes 194 = .ok (.iadd, 1) := by decide +kernel
theorem dX12_comes_195 : decode cX12_comes 195 = .ok (.dup2, 1) := by decide +kernel
theorem dX12_comes_196 : decode cX12_comes 196 = .ok (.iaload, 1) := by decide +kernel
theorem dX12_comes_197 : decode cX12_comes 197 = .ok (.iconst 1, 1) := by decide +kernel
theorem dX12_comes_198 : decode cX12_comes 198 = .ok (.iadd, 1) := by decide +kernel
theorem dX12_comes_199 : decode cX12_comes 199 = .ok (.iastore, 1) := by decide +kernel
theorem dX12_comes_200 : decode cX12_comes 200 = .ok (.aload_n 0, 1) := by decide +kernel
theorem dX12_comes_201 : decode cX12_comes 201 = .ok (.getfield 94, 3) := by decide +kernel
theorem dX12_comes_204 : decode cX12_comes 204 = .ok (.iconst 5, 1) := by decide +kernel
theorem dX12_comes_205 : decode cX12_comes 205 = .ok (.iload_n 1, 1) := by decide +kernel
theorem dX12_comes_206 : decode cX12_comes 206 = .ok (.imul, 1) := by decide +kernel
theorem dX12_comes_207 : decode cX12_comes 207 = .ok (.aload_n 0, 1) := by decide +kernel
theorem dX12_comes_208 : decode cX12_comes 208 = .ok (.getfield 118, 3) := by decide +kernel
theorem dX12_comes_211 : decode cX12_comes 211 = .ok (.iload 6, 2) := by decide +kernel
theorem dX12_comes_213 : decode cX12_comes 213 = .ok (.iaload, 1) := by decide +kernel
theorem dX12_comes_214 : decode cX12_comes 214 = .ok (.iadd, 1) := by decide +kernel
theorem dX12_comes_215 : decode cX12_comes 215 = .ok (.dup2, 1) := by decide +kernel
theorem dX12_comes_216 : decode cX12_comes 216 = .ok (.iaload, 1) := by decide +kernel
theorem dX12_comes_217 : decode cX12_comes 217 = .ok (.iconst 1, 1) := by decide +kernel
theorem dX12_comes_218 : decode cX12_comes 218 = .ok (.iadd, 1) := by decide +kernel
theorem dX12_comes_219 : decode cX12_comes 219 = .ok (.iastore, 1) := by decide +kernel
theorem dX12_comes_220 : decode cX12_comes 220 = .ok (.aload_n 0, 1) := by decide +kernel
theorem dX12_comes_221 : decode cX12_comes 221 = .ok (.iload_n 1, 1) := by decide +kernel
theorem dX12_comes_222 : decode cX12_comes 222 = .ok (.iload 5, 2) := by decide +kernel
theorem dX12_comes_224 : decode cX12_comes 224 = .ok (.iload_n 2, 1) := by decide +kernel
theorem dX12_comes_225 : decode cX12_comes 225 = .ok (.iconst 2, 1) := by decide +kernel
theorem dX12_comes_226 : decode cX12_comes 226 = .ok (.invokevirtual 459, 3) := by decide +kernel
theorem dX12_comes_229 : decode cX12_comes 229 = .ok (.aload_n 0, 1) := by decide +kernel
theorem dX12_comes_230 : decode cX12_comes 230 = .ok (.iload_n 1, 1) := by decide +kernel
theorem dX12_comes_231 : decode cX12_comes 231 = .ok (.aload_n 0, 1) := by decide +kernel
theorem dX12_comes_232 : decode cX12_comes 232 = .ok (.getfield 118, 3) := by decide +kernel
theorem dX12_comes_235 : decode cX12_comes 235 = .ok (.iload 6, 2) := by decide +kernel
theorem dX12_comes_237 : decode cX12_comes 237 = .ok (.iaload, 1) := by decide +kernel
theorem dX12_comes_238 : decode cX12_comes 238 = .ok (.iload_n 2, 1) := by decide +kernel
theorem dX12_comes_239 : decode cX12_comes 239 = .ok (.iconst 2, 1) := by decide +kernel
theorem dX12_comes_240 : decode cX12_comes 240 = .ok (.invokevirtual 459, 3) := by decide +kernel
theorem dX12_comes_243 : decode cX12_comes 243 = .ok (.return_, 1) := by decide +kernel
theorem dX12_comes_244 : decode cX12_comes 244 = .ok (.iinc 6 1, 3) := by decide +kernel
theorem dX12_comes_247 : decode cX12_comes 247 = .ok (.goto (-138), 3) := by decide +kernel
theorem dX12_comes_250 : decode cX12_comes 250 = .ok (.aload_n 0, 1) := by decide +kernel
theorem dX12_comes_251 : decode cX12_comes 251 = .ok (.getfield 103, 3) := by decide +kernel
theorem dX12_comes_254 : decode cX12_comes 254 = .ok (.bipush 28, 2) := by decide +kernel
theorem dX12_comes_256 : decode cX12_comes 256 = .ok (.iload_n 1, 1) := by decide +kernel
theorem dX12_comes_257 : decode cX12_comes 257 = .ok (.imul, 1) := by decide +kernel
theorem dX12_comes_258 : decode cX12_comes 258 = .ok (.iload_n 2, 1) := by decide +kernel
theorem dX12_comes_259 : decode cX12_comes 259 = .ok (.iadd, 1) := by decide +kernel
theorem dX12_comes_260 : decode cX12_comes 260 = .ok (.iload 5, 2) := by decide +kernel
theorem dX12_comes_262 : decode cX12_comes 262 = .ok (.iastore, 1) := by decide +kernel
theorem dX12_comes_263 : decode cX12_comes 263 = .ok (.aload_n 0, 1) := by decide +kernel
theorem dX12_comes_264 : decode cX12_comes 264 = .ok (.getfield 91, 3) := by decide +kernel
theorem dX12_comes_267 : decode cX12_comes 267 = .ok (.iconst 5, 1) := by decide +kernel
theorem dX12_comes_268 : decode cX12_comes 268 = .ok (.iload_n 1, 1) := by decide +kernel
theorem dX12_comes_269 : decode cX12_comes 269 = .ok (.imul, 1) := by decide +kernel
theorem dX12_comes_270 : decode cX12_comes 270 = .ok (.iload 5, 2) := by decide +kernel
theorem dX12_comes_272 : decode cX12_comes 272 = .ok (.iadd, 1) := by decide +kernel
theorem dX12_comes_273 : decode cX12_comes 273 = .ok (.dup2, 1) := by decide +kernel
theorem dX12_comes_274 : decode cX12_comes 274 = .ok (.iaload, 1) := by decide +kernel
theorem dX12_comes_275 : decode cX12_comes 275 = .ok (.iconst 1, 1) := by decide +kernel
theorem dX12_comes_276 : decode cX12_comes 276 = .ok (.iadd, 1) := by decide +kernel
theorem dX12_comes_277 : decode cX12_comes 277 = .ok (.iastore, 1) := by decide +kernel
theorem dX12_comes_278 : decode cX12_comes 278 = .ok (.aload_n 0, 1) := by decide +kernel
theorem dX12_comes_279 : decode cX12_comes 279 = .ok (.iload_n 1, 1) := by decide +kernel
theorem dX12_comes_280 : decode cX12_comes 280 = .ok (.iload 5, 2) := by decide +kernel
theorem dX12_comes_282 : decode cX12_comes 282 = .ok (.iload_n 2, 1) := by decide +kernel
theorem dX12_comes_283 : decode cX12_comes 283 = .ok (.iconst 1, 1) := by decide +kernel
theorem dX12_comes_284 : decode cX12_comes 284 = .ok (.invokevirtual 459, 3) := by decide +kernel
theorem dX12_comes_287 : decode cX12_comes 287 = .ok (.return_, 1) := by decide +kernel
theorem dX12_aMinute_0 : decode cX12_aMinute 0 = .ok (.iconst 0, 1) := by decide +kernel
theorem dX12_aMinute_1 : decode cX12_aMinute 1 = .ok (.istore_n 3, 1) := by decide +kernel
theorem dX12_aMinute_2 : decode cX12_aMinute 2 = .ok (.iload_n 3, 1) := by decide +kernel
theorem dX12_aMinute_3 : decode cX12_aMinute 3 = .ok (.aload_n 0, 1) := by decide +kernel
theorem dX12_aMinute_4 : decode cX12_aMinute 4 = .ok (.getfield 253, 3) := by decide +kernel
theorem dX12_aMinute_7 : decode cX12_aMinute 7 = .ok (.if_icmp .ge 31, 3) := by decide +kernel
theorem dX12_aMinute_10 : decode cX12_aMinute 10 = .ok (.aload_n 0, 1) := by decide +kernel
theorem dX12_aMinute_11 : decode cX12_aMinute 11 = .ok (.getfield 48, 3) := by decide +kernel
theorem dX12_aMinute_14 : decode cX12_aMinute 14 = .ok (.iload_n 3, 1) := by decide +kernel
theorem dX12_aMinute_15 : decode cX12_aMinute 15 = .ok (.iaload, 1) := by decide +kernel
theorem dX12_aMinute_16 : decode cX12_aMinute 16 = .ok (.aload_n 0, 1) := by decide +kernel
theorem dX12_aMinute_17 : decode cX12_aMinute 17 = .ok (.getfield 106, 3) := by decide +kernel
theorem dX12_aMinute_20 : decode cX12_aMinute 20 = .ok (.iload_n 1, 1) := by decide +kernel
theorem dX12_aMinute_21 : decode cX12_aMinute 21 = .ok (.iaload, 1) := by decide +kernel
theorem dX12_aMinute_22 : decode cX12_aMinute 22 = .ok (.if_icmp .ne 10, 3) := by decide +kernel
theorem dX12_aMinute_25 : decode cX12_aMinute 25 = .ok (.aload_n 0, 1) := by decide +kernel
theorem dX12_aMinute_26 : decode cX12_aMinute 26 = .ok (.iload_n 1, 1) := by decide +kernel
theorem dX12_aMinute_27 : decode cX12_aMinute 27 = .ok (.iload_n 3, 1) := by decide +kernel
theorem dX12_aMinute_28 : decode cX12_aMinute 28 = .ok (.iload_n 2, 1) := by decide +kernel
theorem dX12_aMinute_29 : decode cX12_aMinute 29 = .ok (.invokevirtual 463, 3) := by decide +kernel
theorem dX12_aMinute_32 : decode cX12_aMinute 32 = .ok (.iinc 3 1, 3) := by decide +kernel
theorem dX12_aMinute_35 : decode cX12_aMinute 35 = .ok (.goto (-33), 3) := by decide +kernel
theorem dX12_aMinute_38 : decode cX12_aMinute 38 = .ok (.aload_n 0, 1) := by decide +kernel
theorem dX12_aMinute_39 : decode cX12_aMinute 39 = .ok (.getfield 106, 3) := by decide +kernel
theorem dX12_aMinute_42 : decode cX12_aMinute 42 = .ok (.iload_n 1, 1) := by decide +kernel
theorem dX12_aMinute_43 : decode cX12_aMinute 43 = .ok (.dup2, 1) := by decide +kernel
theorem dX12_aMinute_44 : decode cX12_aMinute 44 = .ok (.iaload, 1) := by decide +kernel
theorem dX12_aMinute_45 : decode cX12_aMinute 45 = .ok (.iconst 1, 1) := by decide +kernel
theorem dX12_aMinute_46 : decode cX12_aMinute 46 = .ok (.iadd, 1) := by decide +kernel
theorem dX12_aMinute_47 : decode cX12_aMinute 47 = .ok (.iastore, 1) := by decide +kernel
theorem dX12_aMinute_48 : decode cX12_aMinute 48 = .ok (.iconst 0, 1) := by decide +kernel
theorem dX12_aMinute_49 : decode cX12_aMinute 49 = .ok (.istore_n 3, 1) := by decide +kernel
theorem dX12_aMinute_50 : decode cX12_aMinute 50 = .ok (.iload_n 3, 1) := by decide +kernel
theorem dX12_aMinute_51 : decode cX12_aMinute 51 = .ok (.aload_n 0, 1) := by decide +kernel
theorem dX12_aMinute_52 : decode cX12_aMinute 52 = .ok (.getfield 247, 3) := by decide +kernel
theorem dX12_aMinute_55 : decode cX12_aMinute 55 = .ok (.if_icmp .ge 39, 3) := by decide +kernel
theorem dX12_aMinute_58 : decode cX12_aMinute 58 = .ok (.aload_n 0, 1) := by decide +kernel
theorem dX12_aMinute_59 : decode cX12_aMinute 59 = .ok (.getfield 97, 3) := by decide +kernel
theorem dX12_aMinute_62 : decode cX12_aMinute 62 = .ok (.iconst 5, 1) := by decide +kernel
theorem dX12_aMinute_63 : decode cX12_aMinute 63 = .ok (.iload_n 1, 1) := by decide +kernel
theorem dX12_aMinute_64 : decode cX12_aMinute 64 = .ok (.imul, 1) := by decide +kernel
theorem dX12_aMinute_65 : decode cX12_aMinute 65 = .ok (.iload_n 3, 1) := by decide +kernel
theorem dX12_aMinute_66 : decode cX12_aMinute 66 = .ok (.iadd, 1) := by decide +kernel
theorem dX12_aMinute_67 : decode cX12_aMinute 67 = .ok (.iaload, 1) := by decide +kernel
theorem dX12_aMinute_68 : decode cX12_aMinute 68 = .ok (.aload_n 0, 1) := by decide +kernel
theorem dX12_aMinute_69 : decode cX12_aMinute 69 = .ok (.getfield 106, 3) := by decide +kernel
theorem dX12_aMinute_72 : decode cX12_aMinute 72 = .ok (.iload_n 1, 1) := by decide +kernel
theorem dX12_aMinute_73 : decode cX12_aMinute 73 = .ok (.iaload, 1) := by decide +kernel
theorem dX12_aMinute_74 : decode cX12_aMinute 74 = .ok (.if_icmp .ne 14, 3) := by decide +kernel
theorem dX12_aMinute_77 : decode cX12_aMinute 77 = .ok (.aload_n 0, 1) := by decide +kernel
theorem dX12_aMinute_78 : decode cX12_aMinute 78 = .ok (.getfield 97, 3) := by decide +kernel
theorem dX12_aMinute_81 : decode cX12_aMinute 81 = .ok (.iconst 5, 1) := by decide +kernel
theorem dX12_aMinute_82 : decode cX12_aMinute 82 = .ok (.iload_n 1, 1) := by decide +kernel
theorem dX12_aMinute_83 : decode cX12_aMinute 83 = .ok (.imul, 1) := by decide +kernel
theorem dX12_aMinute_84 : decode cX12_aMinute 84 = .ok (.iload_n 3, 1) := by decide +kernel
theorem dX12_aMinute_85 : decode cX12_aMinute 85 = .ok (.iadd, 1) := by decide +kernel
theorem dX12_aMinute_86 : decode cX12_aMinute 86 = .ok (.iconst 0, 1) := by decide +kernel
theorem dX12_aMinute_87 : decode cX12_aMinute 87 = .ok (.iastore, 1) := by decide +kernel
theorem dX12_aMinute_88 : decode cX12_aMinute 88 = .ok (.iinc 3 1, 3) := by decide +kernel
theorem dX12_aMinute_91 : decode cX12_aMinute 91 = .ok (.goto (-41), 3) := by decide +kernel
theorem dX12_aMinute_94 : decode cX12_aMinute 94 = .ok (.return_, 1) := by decide +kernel
theorem dX12_allHad_0 : decode cX12_allHad 0 = .ok (.iconst 0, 1) := by decide +kernel
theorem dX12_allHad_1 : decode cX12_allHad 1 = .ok (.istore_n 2, 1) := by decide +kernel
theorem dX12_allHad_2 : decode cX12_allHad 2 = .ok (.iconst 0, 1) := by decide +kernel
theorem dX12_allHad_3 : decode cX12_allHad 3 = .ok (.istore_n 3, 1) := by decide +kernel
theorem dX12_allHad_4 : decode cX12_allHad 4 = .ok (.iload_n 3, 1) := by decide +kernel
theorem dX12_allHad_5 : decode cX12_allHad 5 = .ok (.aload_n 0, 1) := by decide +kernel
theorem dX12_allHad_6 : decode cX12_allHad 6 = .ok (.getfield 247, 3) := by decide +kernel
theorem dX12_allHad_9 : decode cX12_allHad 9 = .ok (.if_icmp .ge 22, 3) := by decide +kernel
theorem dX12_allHad_12 : decode cX12_allHad 12 = .ok (.iload_n 2, 1) := by decide +kernel
theorem dX12_allHad_13 : decode cX12_allHad 13 = .ok (.aload_n 0, 1) := by decide +kernel
theorem dX12_allHad_14 : decode cX12_allHad 14 = .ok (.getfield 91, 3) := by decide +kernel
theorem dX12_allHad_17 : decode cX12_allHad 17 = .ok (.iconst 5, 1) := by decide +kernel
theorem dX12_allHad_18 : decode cX12_allHad 18 = .ok (.iload_n 1, 1) := by decide +kernel
theorem dX12_allHad_19 : decode cX12_allHad 19 = .ok (.imul, 1) := by decide +kernel
theorem dX12_allHad_20 : decode cX12_allHad 20 = .ok (.iload_n 3, 1) := by decide +kernel
theorem dX12_allHad_21 : decode cX12_allHad 21 = .ok (.iadd, 1) := by decide +kernel
theorem dX12_allHad_22 : decode cX12_allHad 22 = .ok (.iaload, 1) := by decide +kernel
theorem dX12_allHad_23 : decode cX12_allHad 23 = .ok (.iadd, 1) := by decide +kernel
theorem dX12_allHad_24 : decode cX12_allHad 24 = .ok (.istore_n 2, 1) := by decide +kernel
theorem dX12_allHad_25 : decode cX12_allHad 25 = .ok (.iinc 3 1, 3) := by decide +kernel
theorem dX12_allHad_28 : decode cX12_allHad 28 = .ok (.goto (-24), 3) := by decide +kernel
theorem dX12_allHad_31 : decode cX12_allHad 31 = .ok (.iload_n 2, 1) := by decide +kernel
theorem dX12_allHad_32 : decode cX12_allHad 32 = .ok (.ireturn, 1) := by decide +kernel
theorem dX12_back_0 : decode cX12_back 0 = .ok (.aload_n 0, 1) := by decide +kernel
theorem dX12_back_1 : decode cX12_back 1 = .ok (.iconst 0, 1) := by decide +kernel
theorem dX12_back_2 : decode cX12_back 2 = .ok (.putfield 154, 3) := by decide +kernel
theorem dX12_back_5 : decode cX12_back 5 = .ok (.aload_n 0, 1) := by decide +kernel
theorem dX12_back_6 : decode cX12_back 6 = .ok (.getfield 382, 3) := by decide +kernel
theorem dX12_back_9 : decode cX12_back 9 = .ok (.ifCond .ne 5, 3) := by decide +kernel
theorem dX12_back_12 : decode cX12_back 12 = .ok (.iconst (-1), 1) := by decide +kernel
theorem dX12_back_13 : decode cX12_back 13 = .ok (.ireturn, 1) := by decide +kernel
theorem dX12_back_14 : decode cX12_back 14 = .ok (.iconst 0, 1) := by decide +kernel
theorem dX12_back_15 : decode cX12_back 15 = .ok (.istore_n 1, 1) := by decide +kernel
theorem dX12_back_16 : decode cX12_back 16 = .ok (.iload_n 1, 1) := by decide +kernel
theorem dX12_back_17 : decode cX12_back 17 = .ok (.iconst 5, 1) := by decide +kernel
theorem dX12_back_18 : decode cX12_back 18 = .ok (.if_icmp .ge 80, 3) := by decide +kernel
theorem dX12_back_21 : decode cX12_back 21 = .ok (.aload_n 0, 1) := by decide +kernel
theorem dX12_back_22 : decode cX12_back 22 = .ok (.getfield 88, 3) := by decide +kernel
theorem dX12_back_25 : decode cX12_back 25 = .ok (.iload_n 1, 1) := by decide +kernel
theorem dX12_back_26 : decode cX12_back 26 = .ok (.aload_n 0, 1) := by decide +kernel
theorem dX12_back_27 : decode cX12_back 27 = .ok (.getfield 145, 3) := by decide +kernel
theorem dX12_back_30 : decode cX12_back 30 = .ok (.iload_n 1, 1) := by decide +kernel
theorem dX12_back_31 : decode cX12_back 31 = .ok (.iaload, 1) := by decide +kernel
theorem dX12_back_32 : decode cX12_back 32 = .ok (.iastore, 1) := by decide +kernel
theorem dX12_back_33 : decode cX12_back 33 = .ok (.aload_n 0, 1) := by decide +kernel
theorem dX12_back_34 : decode cX12_back 34 = .ok (.getfield 91, 3) := by decide +kernel
theorem dX12_back_37 : decode cX12_back 37 = .ok (.iload_n 1, 1) := by decide +kernel
theorem dX12_back_38 : decode cX12_back 38 = .ok (.aload_n 0, 1) := by decide +kernel
theorem dX12_back_39 : decode cX12_back 39 = .ok (.getfield 145, 3) := by decide +kernel
theorem dX12_back_42 : decode cX12_back 42 = .ok (.iconst 5, 1) := by decide +kernel
theorem dX12_back_43 : decode cX12_back 43 = .ok (.iload_n 1, 1) := by decide +kernel
theorem dX12_back_44 : decode cX12_back 44 = .ok (.iadd, 1) := by decide +kernel
theorem dX12_back_45 : decode cX12_back 45 = .ok (.iaload, 1) := by decide +kernel
theorem dX12_back_46 : decode cX12_back 46 = .ok (.iastore, 1) := by decide +kernel
theorem dX12_back_47 : decode cX12_back 47 = .ok (.aload_n 0, 1) := by decide +kernel
theorem dX12_back_48 : decode cX12_back 48 = .ok (.getfield 94, 3) := by decide +kernel
theorem dX12_back_51 : decode cX12_back 51 = .ok (.iload_n 1, 1) := by decide +kernel
theorem dX12_back_52 : decode cX12_back 52 = .ok (.aload_n 0, 1) := by decide +kernel
theorem dX12_back_53 : decode cX12_back 53 = .ok (.getfield 145, 3) := by decide +kernel
theorem dX12_back_56 : decode cX12_back 56 = .ok (.bipush 10, 2) := by decide +kernel
theorem dX12_back_58 : decode cX12_back 58 = .ok (.iload_n 1, 1) := by decide +kernel
theorem dX12_back_59 : decode cX12_back 59 = .ok (.iadd, 1) := by decide +kernel
theorem dX12_back_60 : decode cX12_back 60 = .ok (.iaload, 1) := by decide +kernel
theorem dX12_back_61 : decode cX12_back 61 = .ok (.iastore, 1) := by decide +kernel
theorem dX12_back_62 : decode cX12_back 62 = .ok (.aload_n 0, 1) := by decide +kernel
theorem dX12_back_63 : decode cX12_back 63 = .ok (.getfield 97, 3) := by decide +kernel
theorem dX12_back_66 : decode cX12_back 66 = .ok (.iload_n 1, 1) := by decide +kernel
theorem dX12_back_67 : decode cX12_back 67 = .ok (.aload_n 0, 1) := by decide +kernel
theorem dX12_back_68 : decode cX12_back 68 = .ok (.getfield 145, 3) := by decide +kernel
theorem dX12_back_71 : decode cX12_back 71 = .ok (.bipush 15, 2) := by decide +kernel
theorem dX12_back_73 : decode cX12_back 73 = .ok (.iload_n 1, 1) := by decide +kernel
theorem dX12_back_74 : decode cX12_back 74 = .ok (.iadd, 1) := by decide +kernel
theorem dX12_back_75 : decode cX12_back 75 = .ok (.iaload, 1) := by decide +kernel
theorem dX12_back_76 : decode cX12_back 76 = .ok (.iastore, 1) := by decide +kernel
theorem dX12_back_77 : decode cX12_back 77 = .ok (.aload_n 0, 1) := by decide +kernel
theorem dX12_back_78 : decode cX12_back 78 = .ok (.getfield 100, 3) := by decide +kernel
theorem dX12_back_81 : decode cX12_back 81 = .ok (.iload_n 1, 1) := by decide +kernel
theorem dX12_back_82 : decode cX12_back 82 = .ok (.aload_n 0, 1) := by decide +kernel
theorem dX12_back_83 : decode cX12_back 83 = .ok (.getfield 145, 3) := by decide +kernel
theorem dX12_back_86 : decode cX12_back 86 = .ok (.bipush 20, 2) := by decide +kernel
theorem dX12_back_88 : decode cX12_back 88 = .ok (.iload_n 1, 1) := by decide +kernel
theorem dX12_back_89 : decode cX12_back 89 = .ok (.iadd, 1) := by decide +kernel
theorem dX12_back_90 : decode cX12_back 90 = .ok (.iaload, 1) := by decide +kernel
theorem dX12_back_91 : decode cX12_back 91 = .ok (.iastore, 1) := by decide +kernel
theorem dX12_back_92 : decode cX12_back 92 = .ok (.iinc 1 1, 3) := by decide +kernel
theorem dX12_back_95 : decode cX12_back 95 = .ok (.goto (-79), 3) := by decide +kernel
theorem dX12_back_98 : decode cX12_back 98 = .ok (.iconst 0, 1) := by decide +kernel
theorem dX12_back_99 : decode cX12_back 99 = .ok (.istore_n 1, 1) := by decide +kernel
theorem dX12_back_100 : decode cX12_back 100 = .ok (.iload_n 1, 1) := by decide +kernel
theorem dX12_back_101 : decode cX12_back 101 = .ok (.bipush 28, 2) := by decide +kernel
theorem dX12_back_103 : decode cX12_back 103 = .ok (.if_icmp .ge 24, 3) := by decide +kernel
theorem dX12_back_106 : decode cX12_back 106 = .ok (.aload_n 0, 1) := by decide +kernel
theorem dX12_back_107 : decode cX12_back 107 = .ok (.getfield 103, 3) := by decide +kernel
theorem dX12_back_110 : decode cX12_back 110 = .ok (.iload_n 1, 1) := by decide +kernel
theorem dX12_back_111 : decode cX12_back 111 = .ok (.aload_n 0, 1) := by decide +kernel
theorem dX12_back_112 : decode cX12_back 112 = .ok (.getfield 145, 3) := by decide +kernel
theorem dX12_back_115 : decode cX12_back 115 = .ok (.bipush 25, 2) := by decide +kernel
theorem dX12_back_117 : decode cX12_back 117 = .ok (.iload_n 1, 1) := by decide +kernel
theorem dX12_back_118 : decode cX12_back 118 = .ok (.iadd, 1) := by decide +kernel
theorem dX12_back_119 : decode cX12_back 119 = .ok (.iaload, 1) := by decide +kernel
theorem dX12_back_120 : decode cX12_back 120 = .ok (.iastore, 1) := by decide +kernel
theorem dX12_back_121 : decode cX12_back 121 = .ok (.iinc 1 1, 3) := by decide +kernel
theorem dX12_back_124 : decode cX12_back 124 = .ok (.goto (-24), 3) := by decide +kernel
theorem dX12_back_127 : decode cX12_back 127 = .ok (.aload_n 0, 1) := by decide +kernel
theorem dX12_back_128 : decode cX12_back 128 = .ok (.getfield 106, 3) := by decide +kernel
theorem dX12_back_131 : decode cX12_back 131 = .ok (.iconst 0, 1) := by decide +kernel
theorem dX12_back_132 : decode cX12_back 132 = .ok (.aload_n 0, 1) := by decide +kernel
theorem dX12_back_133 : decode cX12_back 133 = .ok (.getfield 533, 3) := by decide +kernel
theorem dX12_back_136 : decode cX12_back 136 = .ok (.iastore, 1) := by decide +kernel
theorem dX12_back_137 : decode cX12_back 137 = .ok (.aload_n 0, 1) := by decide +kernel
theorem dX12_back_138 : decode cX12_back 138 = .ok (.aload_n 0, 1) := by decide +kernel
theorem dX12_back_139 : decode cX12_back 139 = .ok (.getfield 536, 3) := by decide +kernel
theorem dX12_back_142 : decode cX12_back 142 = .ok (.putfield 369, 3) := by decide +kernel
theorem dX12_back_145 : decode cX12_back 145 = .ok (.aload_n 0, 1) := by decide +kernel
theorem dX12_back_146 : decode cX12_back 146 = .ok (.getfield 109, 3) := by decide +kernel
theorem dX12_back_149 : decode cX12_back 149 = .ok (.iconst 0, 1) := by decide +kernel
theorem dX12_back_150 : decode cX12_back 150 = .ok (.aload_n 0, 1) := by decide +kernel
theorem dX12_back_151 : decode cX12_back 151 = .ok (.getfield 539, 3) := by decide +kernel
theorem dX12_back_154 : decode cX12_back 154 = .ok (.iastore, 1) := by decide +kernel
theorem dX12_back_155 : decode cX12_back 155 = .ok (.aload_n 0, 1) := by decide +kernel
theorem dX12_back_156 : decode cX12_back 156 = .ok (.getfield 112, 3) := by decide +kernel
theorem dX12_back_159 : decode cX12_back 159 = .ok (.iconst 0, 1) := by decide +kernel
theorem dX12_back_160 : decode cX12_back 160 = .ok (.aload_n 0, 1) := by decide +kernel
theorem dX12_back_161 : decode cX12_back 161 = .ok (.getfield 542, 3) := by decide +kernel
theorem dX12_back_164 : decode cX12_back 164 = .ok (.iastore, 1) := by decide +kernel
theorem dX12_back_165 : decode cX12_back 165 = .ok (.aload_n 0, 1) := by decide +kernel
theorem dX12_back_166 : decode cX12_back 166 = .ok (.aload_n 0, 1) := by decide +kernel
theorem dX12_back_167 : decode cX12_back 167 = .ok (.getfield 545, 3) := by decide +kernel
theorem dX12_back_170 : decode cX12_back 170 = .ok (.putfield 372, 3) := by decide +kernel
theorem dX12_back_173 : decode cX12_back 173 = .ok (.aload_n 0, 1) := by decide +kernel
theorem dX12_back_174 : decode cX12_back 174 = .ok (.iconst 0, 1) := by decide +kernel
theorem dX12_back_175 : decode cX12_back 175 = .ok (.putfield 379, 3) := by decide +kernel
theorem dX12_back_178 : decode cX12_back 178 = .ok (.aload_n 0, 1) := by decide +kernel
theorem dX12_back_179 : decode cX12_back 179 = .ok (.getfield 106, 3) := by decide +kernel
theorem dX12_back_182 : decode cX12_back 182 = .ok (.iconst 0, 1) := by decide +kernel
theorem dX12_back_183 : decode cX12_back 183 = .ok (.iaload, 1) := by decide +kernel
theorem dX12_back_184 : decode cX12_back 184 = .ok (.ireturn, 1) := by decide +kernel
theorem dX12_isSmall_0 : decode cX12_isSmall 0 = .ok (.iload_n 1, 1) := by decide +kernel
theorem dX12_isSmall_1 : decode cX12_isSmall 1 = .ok (.aload_n 0, 1) := by decide +kernel
theorem dX12_isSmall_2 : decode cX12_isSmall 2 = .ok (.getfield 166, 3) := by decide +kernel
theorem dX12_isSmall_5 : decode cX12_isSmall 5 = .ok (.if_icmp .ge 29, 3) := by decide +kernel
theorem dX12_isSmall_8 : decode cX12_isSmall 8 = .ok (.aload_n 0, 1) := by decide +kernel
theorem dX12_isSmall_9 : decode cX12_isSmall 9 = .ok (.getfield 7, 3) := by decide +kernel
theorem dX12_isSmall_12 : decode cX12_isSmall 12 = .ok (.iload_n 1, 1) := by decide +kernel
theorem dX12_isSmall_13 : decode cX12_isSmall 13 = .ok (.iaload, 1) := by decide +kernel
theorem dX12_isSmall_14 : decode cX12_isSmall 14 = .ok (.bipush 97, 2) := by decide +kernel
theorem dX12_isSmall_16 : decode cX12_isSmall 16 = .ok (.if_icmp .lt 18, 3) := by decide +kernel
theorem dX12_isSmall_19 : decode cX12_isSmall 19 = .ok (.aload_n 0, 1) := by decide +kernel
theorem dX12_isSmall_20 : decode cX12_isSmall 20 = .ok (.getfield 7, 3) := by decide +kernel
theorem dX12_isSmall_23 : decode cX12_isSmall 23 = .ok (.iload_n 1, 1) := by decide +kernel
theorem dX12_isSmall_24 : decode cX12_isSmall 24 = .ok (.iaload, 1) := by decide +kernel
theorem dX12_isSmall_25 : decode cX12_isSmall 25 = .ok (.bipush 122, 2) := by decide +kernel
theorem dX12_isSmall_27 : decode cX12_isSmall 27 = .ok (.if_icmp .gt 7, 3) := by decide +kernel
theorem dX12_isSmall_30 : decode cX12_isSmall 30 = .ok (.iconst 1, 1) := by decide +kernel
theorem dX12_isSmall_31 : decode cX12_isSmall 31 = .ok (.goto 4, 3) := by decide +kernel
theorem dX12_isSmall_34 : decode cX12_isSmall 34 = .ok (.iconst 0, 1) := by decide +kernel
theorem dX12_isSmall_35 : decode cX12_isSmall 35 = .ok (.ireturn, 1) := by decide +kernel
theorem dX12_wordAt_0 : decode cX12_wordAt 0 = .ok (.iconst 0, 1) := by decide +kernel
theorem dX12_wordAt_1 : decode cX12_wordAt 1 = .ok (.istore_n 3, 1) := by decide +kernel
theorem dX12_wordAt_2 : decode cX12_wordAt 2 = .ok (.iconst 0, 1) := by decide +kernel
theorem dX12_wordAt_3 : decode cX12_wordAt 3 = .ok (.istore 4, 2) := by decide +kernel
theorem dX12_wordAt_5 : decode cX12_wordAt 5 = .ok (.iload 4, 2) := by decide +kernel
theorem dX12_wordAt_7 : decode cX12_wordAt 7 = .ok (.aload_n 0, 1) := by decide +kernel
theorem dX12_wordAt_8 : decode cX12_wordAt 8 = .ok (.getfield 13, 3) := by decide +kernel
theorem dX12_wordAt_11 : decode cX12_wordAt 11 = .ok (.arraylength, 1) := by decide +kernel
theorem dX12_wordAt_12 : decode cX12_wordAt 12 = .ok (.if_icmp .ge 114, 3) := by decide +kernel
theorem dX12_wordAt_15 : decode cX12_wordAt 15 = .ok (.iconst 0, 1) := by decide +kernel
theorem dX12_wordAt_16 : decode cX12_wordAt 16 = .ok (.istore 5, 2) := by decide +kernel
theorem dX12_wordAt_18 : decode cX12_wordAt 18 = .ok (.aload_n 0, 1) := by decide +kernel
theorem dX12_wordAt_19 : decode cX12_wordAt 19 = .ok (.getfield 13, 3) := by decide +kernel
theorem dX12_wordAt_22 : decode cX12_wordAt 22 = .ok (.iload 4, 2) := by decide +kernel
theorem dX12_wordAt_24 : decode cX12_wordAt 24 = .ok (.iload 5, 2) := by decide +kernel
theorem dX12_wordAt_26 : decode cX12_wordAt 26 = .ok (.iadd, 1) := by decide +kernel
theorem dX12_wordAt_27 : decode cX12_wordAt 27 = .ok (.iaload, 1) := by decide +kernel
theorem dX12_wordAt_28 : decode cX12_wordAt 28 = .ok (.bipush 32, 2) := by decide +kernel
theorem dX12_wordAt_30 : decode cX12_wordAt 30 = .ok (.if_icmp .eq 9, 3) := by decide +kernel
theorem dX12_wordAt_33 : decode cX12_wordAt 33 = .ok (.iinc 5 1, 3) := by decide +kernel
theorem dX12_wordAt_36 : decode cX12_wordAt 36 = .ok (.goto (-18), 3) := by decide +kernel
theorem dX12_wordAt_39 : decode cX12_wordAt 39 = .ok (.iload 5, 2) := by decide +kernel
theorem dX12_wordAt_41 : decode cX12_wordAt 41 = .ok (.iload_n 2, 1) := by decide +kernel
theorem dX12_wordAt_42 : decode cX12_wordAt 42 = .ok (.iload_n 1, 1) := by decide +kernel
theorem dX12_wordAt_43 : decode cX12_wordAt 43 = .ok (.isub, 1) := by decide +kernel
theorem dX12_wordAt_44 : decode cX12_wordAt 44 = .ok (.if_icmp .ne 7, 3) := by decide +kernel
theorem dX12_wordAt_47 : decode cX12_wordAt 47 = .ok (.iconst 1, 1) := by decide +kernel
theorem dX12_wordAt_48 : decode cX12_wordAt 48 = .ok (.goto 4, 3) := by decide +kernel
theorem dX12_wordAt_51 : decode cX12_wordAt 51 = .ok (.iconst 0, 1) := by decide +kernel
theorem dX12_wordAt_52 : decode cX12_wordAt 52 = .ok (.istore 6, 2) := by decide +kernel
theorem dX12_wordAt_54 : decode cX12_wordAt 54 = .ok (.iconst 0, 1) := by decide +kernel
theorem dX12_wordAt_55 : decode cX12_wordAt 55 = .ok (.istore 7, 2) := by decide +kernel
theorem dX12_wordAt_57 : decode cX12_wordAt 57 = .ok (.iload 7, 2) := by decide +kernel
theorem dX12_wordAt_59 : decode cX12_wordAt 59 = .ok (.iload 5, 2) := by decide +kernel
theorem dX12_wordAt_61 : decode cX12_wordAt 61 = .ok (.if_icmp .ge 43, 3) := by decide +kernel
theorem dX12_wordAt_64 : decode cX12_wordAt 64 = .ok (.iload 6, 2) := by decide +kernel
theorem dX12_wordAt_66 : decode cX12_wordAt 66 = .ok (.ifCond .eq 38, 3) := by decide +kernel
theorem dX12_wordAt_69 : decode cX12_wordAt 69 = .ok (.aload_n 0, 1) := by decide +kernel
theorem dX12_wordAt_70 : decode cX12_wordAt 70 = .ok (.getfield 13, 3) := by decide +kernel
theorem dX12_wordAt_73 : decode cX12_wordAt 73 = .ok (.iload 4, 2) := by decide +kernel
theorem dX12_wordAt_75 : decode cX12_wordAt 75 = .ok (.iload 7, 2) := by decide +kernel
theorem dX12_wordAt_77 : decode cX12_wordAt 77 = .ok (.iadd, 1) := by decide +kernel
theorem dX12_wordAt_78 : decode cX12_wordAt 78 = .ok (.iaload, 1) := by decide +kernel
theorem dX12_wordAt_79 : decode cX12_wordAt 79 = .ok (.aload_n 0, 1) := by decide +kernel
theorem dX12_wordAt_80 : decode cX12_wordAt 80 = .ok (.getfield 7, 3) := by decide +kernel
theorem dX12_wordAt_83 : decode cX12_wordAt 83 = .ok (.iload_n 1, 1) := by decide +kernel
theorem dX12_wordAt_84 : decode cX12_wordAt 84 = .ok (.iload 7, 2) := by decide +kernel
theorem dX12_wordAt_86 : decode cX12_wordAt 86 = .ok (.iadd, 1) := by decide +kernel
theorem dX12_wordAt_87 : decode cX12_wordAt 87 = .ok (.iaload, 1) := by decide +kernel
theorem dX12_wordAt_88 : decode cX12_wordAt 88 = .ok (.if_icmp .ne 7, 3) := by decide +kernel
theorem dX12_wordAt_91 : decode cX12_wordAt 91 = .ok (.iconst 1, 1) := by decide +kernel
theorem dX12_wordAt_92 : decode cX12_wordAt 92 = .ok (.goto 4, 3) := by decide +kernel
theorem dX12_wordAt_95 : decode cX12_wordAt 95 = .ok (.iconst 0, 1) := by decide +kernel
theorem dX12_wordAt_96 : decode cX12_wordAt 96 = .ok (.istore 6, 2) := by decide +kernel
theorem dX12_wordAt_98 : decode cX12_wordAt 98 = .ok (.iinc 7 1, 3) := by decide +kernel
theorem dX12_wordAt_101 : decode cX12_wordAt 101 = .ok (.goto (-44), 3) := by decide +kernel
theorem dX12_wordAt_104 : decode cX12_wordAt 104 = .ok (.iload 6, 2) := by decide +kernel
theorem dX12_wordAt_106 : decode cX12_wordAt 106 = .ok (.ifCond .eq 5, 3) := by decide +kernel
theorem dX12_wordAt_109 : decode cX12_wordAt 109 = .ok (.iload_n 3, 1) := by decide +kernel
theorem dX12_wordAt_110 : decode cX12_wordAt 110 = .ok (.ireturn, 1) := by decide +kernel
theorem dX12_wordAt_111 : decode cX12_wordAt 111 = .ok (.iload 4, 2) := by decide +kernel
theorem dX12_wordAt_113 : decode cX12_wordAt 113 = .ok (.iload 5, 2) := by decide +kernel
theorem dX12_wordAt_115 : decode cX12_wordAt 115 = .ok (.iconst 1, 1) := by decide +kernel
theorem dX12_wordAt_116 : decode cX12_wordAt 116 = .ok (.iadd, 1) := by decide +kernel
theorem dX12_wordAt_117 : decode cX12_wordAt 117 = .ok (.iadd, 1) := by decide +kernel
theorem dX12_wordAt_118 : decode cX12_wordAt 118 = .ok (.istore 4, 2) := by decide +kernel
theorem dX12_wordAt_120 : decode cX12_wordAt 120 = .ok (.iinc 3 1, 3) := by decide +kernel
theorem dX12_wordAt_123 : decode cX12_wordAt 123 = .ok (.goto (-118), 3) := by decide +kernel
theorem dX12_wordAt_126 : decode cX12_wordAt 126 = .ok (.iconst (-1), 1) := by decide +kernel
theorem dX12_wordAt_127 : decode cX12_wordAt 127 = .ok (.ireturn, 1) := by decide +kernel
theorem dX12_packed_0 : decode cX12_packed 0 = .ok (.iconst 0, 1) := by decide +kernel
theorem dX12_packed_1 : decode cX12_packed 1 = .ok (.istore_n 3, 1) := by decide +kernel
theorem dX12_packed_2 : decode cX12_packed 2 = .ok (.iload_n 1, 1) := by decide +kernel
theorem dX12_packed_3 : decode cX12_packed 3 = .ok (.istore 4, 2) := by decide +kernel
theorem dX12_packed_5 : decode cX12_packed 5 = .ok (.iload 4, 2) := by decide +kernel
theorem dX12_packed_7 : decode cX12_packed 7 = .ok (.iload_n 1, 1) := by decide +kernel
theorem dX12_packed_8 : decode cX12_packed 8 = .ok (.bipush 6, 2) := by decide +kernel
theorem dX12_packed_10 : decode cX12_packed 10 = .ok (.iadd, 1) := by decide +kernel
theorem dX12_packed_11 : decode cX12_packed 11 = .ok (.if_icmp .ge 34, 3) := by decide +kernel
theorem dX12_packed_14 : decode cX12_packed 14 = .ok (.iload_n 3, 1) := by decide +kernel
theorem dX12_packed_15 : decode cX12_packed 15 = .ok (.iconst 5, 1) := by decide +kernel
theorem dX12_packed_16 : decode cX12_packed 16 = .ok (.ishl, 1) := by decide +kernel
theorem dX12_packed_17 : decode cX12_packed 17 = .ok (.iload 4, 2) := by decide +kernel
theorem dX12_packed_19 : decode cX12_packed 19 = .ok (.iload_n 2, 1) := by decide +kernel
theorem dX12_packed_20 : decode cX12_packed 20 = .ok (.if_icmp .ge 16, 3) := by decide +kernel
theorem dX12_packed_23 : decode cX12_packed 23 = .ok (.aload_n 0, 1) := by decide +kernel
theorem dX12_packed_24 : decode cX12_packed 24 = .ok (.getfield 7, 3) := by decide +kernel
theorem dX12_packed_27 : decode cX12_packed 27 = .ok (.iload 4, 2) := by decide +kernel
theorem dX12_packed_29 : decode cX12_packed 29 = .ok (.iaload, 1) := by decide +kernel
theorem dX12_packed_30 : decode cX12_packed 30 = .ok (.bipush 96, 2) := by decide +kernel
theorem dX12_packed_32 : decode cX12_packed 32 = .ok (.isub, 1) := by decide +kernel
theorem dX12_packed_33 : decode cX12_packed 33 = .ok (.goto 4, 3) := by decide +kernel
theorem dX12_packed_36 : decode cX12_packed 36 = .ok (.iconst 0, 1) := by decide +kernel
theorem dX12_packed_37 : decode cX12_packed 37 = .ok (.ior, 1) := by decide +kernel
theorem dX12_packed_38 : decode cX12_packed 38 = .ok (.istore_n 3, 1) := by decide +kernel
theorem dX12_packed_39 : decode cX12_packed 39 = .ok (.iinc 4 1, 3) := by decide +kernel
theorem dX12_packed_42 : decode cX12_packed 42 = .ok (.goto (-37), 3) := by decide +kernel
theorem dX12_packed_45 : decode cX12_packed 45 = .ok (.iload_n 3, 1) := by decide +kernel
theorem dX12_packed_46 : decode cX12_packed 46 = .ok (.ireturn, 1) := by decide +kernel
theorem dX12_isDigit_0 : decode cX12_isDigit 0 = .ok (.iload_n 1, 1) := by decide +kernel
theorem dX12_isDigit_1 : decode cX12_isDigit 1 = .ok (.aload_n 0, 1) := by decide +kernel
theorem dX12_isDigit_2 : decode cX12_isDigit 2 = .ok (.getfield 166, 3) := by decide +kernel
theorem dX12_isDigit_5 : decode cX12_isDigit 5 = .ok (.if_icmp .ge 29, 3) := by decide +kernel
theorem dX12_isDigit_8 : decode cX12_isDigit 8 = .ok (.aload_n 0, 1) := by decide +kernel
theorem dX12_isDigit_9 : decode cX12_isDigit 9 = .ok (.getfield 7, 3) := by decide +kernel
theorem dX12_isDigit_12 : decode cX12_isDigit 12 = .ok (.iload_n 1, 1) := by decide +kernel
theorem dX12_isDigit_13 : decode cX12_isDigit 13 = .ok (.iaload, 1) := by decide +kernel
theorem dX12_isDigit_14 : decode cX12_isDigit 14 = .ok (.bipush 48, 2) := by decide +kernel
theorem dX12_isDigit_16 : decode cX12_isDigit 16 = .ok (.if_icmp .lt 18, 3) := by decide +kernel
theorem dX12_isDigit_19 : decode cX12_isDigit 19 = .ok (.aload_n 0, 1) := by decide +kernel
theorem dX12_isDigit_20 : decode cX12_isDigit 20 = .ok (.getfield 7, 3) := by decide +kernel
theorem dX12_isDigit_23 : decode cX12_isDigit 23 = .ok (.iload_n 1, 1) := by decide +kernel
theorem dX12_isDigit_24 : decode cX12_isDigit 24 = .ok (.iaload, 1) := by decide +kernel
theorem dX12_isDigit_25 : decode cX12_isDigit 25 = .ok (.bipush 57, 2) := by decide +kernel
theorem dX12_isDigit_27 : decode cX12_isDigit 27 = .ok (.if_icmp .gt 7, 3) := by decide +kernel
theorem dX12_isDigit_30 : decode cX12_isDigit 30 = .ok (.iconst 1, 1) := by decide +kernel
theorem dX12_isDigit_31 : decode cX12_isDigit 31 = .ok (.goto 4, 3) := by decide +kernel
theorem dX12_isDigit_34 : decode cX12_isDigit 34 = .ok (.iconst 0, 1) := by decide +kernel
theorem dX12_isDigit_35 : decode cX12_isDigit 35 = .ok (.ireturn, 1) := by decide +kernel
theorem dX12_signToken_0 : decode cX12_signToken 0 = .ok (.aload_n 0, 1) := by decide +kernel
theorem dX12_signToken_1 : decode cX12_signToken 1 = .ok (.aload_n 0, 1) := by decide +kernel
theorem dX12_signToken_2 : decode cX12_signToken 2 = .ok (.getfield 7, 3) := by decide +kernel
theorem dX12_signToken_5 : decode cX12_signToken 5 = .ok (.aload_n 0, 1) := by decide +kernel
theorem dX12_signToken_6 : decode cX12_signToken 6 = .ok (.getfield 169, 3) := by decide +kernel
theorem dX12_signToken_9 : decode cX12_signToken 9 = .ok (.iaload, 1) := by decide +kernel
theorem dX12_signToken_10 : decode cX12_signToken 10 = .ok (.putfield 183, 3) := by decide +kernel
theorem dX12_signToken_13 : decode cX12_signToken 13 = .ok (.aload_n 0, 1) := by decide +kernel
theorem dX12_signToken_14 : decode cX12_signToken 14 = .ok (.dup, 1) := by decide +kernel
theorem dX12_signToken_15 : decode cX12_signToken 15 = .ok (.getfield 169, 3) := by decide +kernel
theorem dX12_signToken_18 : decode cX12_signToken 18 = .ok (.iconst 1, 1) := by decide +kernel
theorem dX12_signToken_19 : decode cX12_signToken 19 = .ok (.iadd, 1) := by decide +kernel
theorem dX12_signToken_20 : decode cX12_signToken 20 = .ok (.putfield 169, 3) := by decide +kernel
theorem dX12_signToken_23 : decode cX12_signToken 23 = .ok (.aload_n 0, 1) := by decide +kernel
theorem dX12_signToken_24 : decode cX12_signToken 24 = .ok (.getfield 183, 3) := by decide +kernel
theorem dX12_signToken_27 : decode cX12_signToken 27 = .ok (.bipush 60, 2) := by decide +kernel
theorem dX12_signToken_29 : decode cX12_signToken 29 = .ok (.if_icmp .eq 21, 3) := by decide +kernel
theorem dX12_signToken_32 : decode cX12_signToken 32 = .ok (.aload_n 0, 1) := by decide +kernel
theorem dX12_signToken_33 : decode cX12_signToken 33 = .ok (.getfield 183, 3) := by decide +kernel
theorem dX12_signToken_36 : decode cX12_signToken 36 = .ok (.bipush 62, 2) := by decide +kernel
theorem dX12_signToken_38 : decode cX12_signToken 38 = .ok (.if_icmp .eq 12, 3) := by decide +kernel
theorem dX12_signToken_41 : decode cX12_signToken 41 = .ok (.aload_n 0, 1) := by decide +kernel
theorem dX12_signToken_42 : decode cX12_signToken 42 = .ok (.getfield 183, 3) := by decide +kernel
theorem dX12_signToken_45 : decode cX12_signToken 45 = .ok (.bipush 61, 2) := by decide +kernel
theorem dX12_signToken_47 : decode cX12_signToken 47 = .ok (.if_icmp .ne 151, 3) := by decide +kernel
theorem dX12_signToken_50 : decode cX12_signToken 50 = .ok (.aload_n 0, 1) := by decide +kernel
theorem dX12_signToken_51 : decode cX12_signToken 51 = .ok (.getfield 169, 3) := by decide +kernel
theorem dX12_signToken_54 : decode cX12_signToken 54 = .ok (.aload_n 0, 1) := by decide +kernel
theorem dX12_signToken_55 : decode cX12_signToken 55 = .ok (.getfield 166, 3) := by decide +kernel
theorem dX12_signToken_58 : decode cX12_signToken 58 = .ok (.if_icmp .ge 15, 3) := by decide +kernel
theorem dX12_signToken_61 : decode cX12_signToken 61 = .ok (.aload_n 0, 1) := by decide +kernel
theorem dX12_signToken_62 : decode cX12_signToken 62 = .ok (.getfield 7, 3) := by decide +kernel
theorem dX12_signToken_65 : decode cX12_signToken 65 = .ok (.aload_n 0, 1) := by decide +kernel
theorem dX12_signToken_66 : decode cX12_signToken 66 = .ok (.getfield 169, 3) := by decide +kernel
theorem dX12_signToken_69 : decode cX12_signToken 69 = .ok (.iaload, 1) := by decide +kernel
theorem dX12_signToken_70 : decode cX12_signToken 70 = .ok (.goto 4, 3) := by decide +kernel
theorem dX12_signToken_73 : decode cX12_signToken 73 = .ok (.iconst 0, 1) := by decide +kernel
theorem dX12_signToken_74 : decode cX12_signToken 74 = .ok (.istore_n 1, 1) := by decide +kernel
theorem dX12_signToken_75 : decode cX12_signToken 75 = .ok (.aload_n 0, 1) := by decide +kernel
theorem dX12_signToken_76 : decode cX12_signToken 76 = .ok (.getfield 183, 3) := by decide +kernel
theorem dX12_signToken_79 : decode cX12_signToken 79 = .ok (.bipush 61, 2) := by decide +kernel
theorem dX12_signToken_81 : decode cX12_signToken 81 = .ok (.if_icmp .eq 13, 3) := by decide +kernel
theorem dX12_signToken_84 : decode cX12_signToken 84 = .ok (.iload_n 1, 1) := by decide +kernel
theorem dX12_signToken_85 : decode cX12_signToken 85 = .ok (.bipush 61, 2) := by decide +kernel
theorem dX12_signToken_87 : decode cX12_signToken 87 = .ok (.if_icmp .ne 7, 3) := by decide +kernel
theorem dX12_signToken_90 : decode cX12_signToken 90 = .ok (.iconst 1, 1) := by decide +kernel
theorem dX12_signToken_91 : decode cX12_signToken 91 = .ok (.goto 4, 3) := by decide +kernel
theorem dX12_signToken_94 : decode cX12_signToken 94 = .ok (.iconst 0, 1) := by decide +kernel
theorem dX12_signToken_95 : decode cX12_signToken 95 = .ok (.istore_n 2, 1) := by decide +kernel
theorem dX12_signToken_96 : decode cX12_signToken 96 = .ok (.aload_n 0, 1) := by decide +kernel
theorem dX12_signToken_97 : decode cX12_signToken 97 = .ok (.getfield 183, 3) := by decide +kernel
theorem dX12_signToken_100 : decode cX12_signToken 100 = .ok (.bipush 60, 2) := by decide +kernel
theorem dX12_signToken_102 : decode cX12_signToken 102 = .ok (.if_icmp .ne 13, 3) := by decide +kernel
theorem dX12_signToken_105 : decode cX12_signToken 105 = .ok (.iload_n 1, 1) := by decide +kernel
theorem dX12_signToken_106 : decode cX12_signToken 106 = .ok (.bipush 62, 2) := by decide +kernel
theorem dX12_signToken_108 : decode cX12_signToken 108 = .ok (.if_icmp .ne 7, 3) := by decide +kernel
theorem dX12_signToken_111 : decode cX12_signToken 111 = .ok (.iconst 1, 1) := by decide +kernel
theorem dX12_signToken_112 : decode cX12_signToken 112 = .ok (.goto 4, 3) := by decide +kernel
theorem dX12_signToken_115 : decode cX12_signToken 115 = .ok (.iconst 0, 1) := by decide +kernel
theorem dX12_signToken_116 : decode cX12_signToken 116 = .ok (.istore_n 3, 1) := by decide +kernel
theorem dX12_signToken_117 : decode cX12_signToken 117 = .ok (.iload_n 2, 1) := by decide +kernel
theorem dX12_signToken_118 : decode cX12_signToken 118 = .ok (.ifCond .ne 7, 3) := by decide +kernel
theorem dX12_signToken_121 : decode cX12_signToken 121 = .ok (.iload_n 3, 1) := by decide +kernel
theorem dX12_signToken_122 : decode cX12_signToken 122 = .ok (.ifCond .eq 13, 3) := by decide +kernel
theorem dX12_signToken_125 : decode cX12_signToken 125 = .ok (.aload_n 0, 1) := by decide +kernel
theorem dX12_signToken_126 : decode cX12_signToken 126 = .ok (.dup, 1) := by decide +kernel
theorem dX12_signToken_127 : decode cX12_signToken 127 = .ok (.getfield 169, 3) := by decide +kernel
theorem dX12_signToken_130 : decode cX12_signToken 130 = .ok (.iconst 1, 1) := by decide +kernel
theorem dX12_signToken_131 : decode cX12_signToken 131 = .ok (.iadd, 1) := by decide +kernel
theorem dX12_signToken_132 : decode cX12_signToken 132 = .ok (.putfield 169, 3) := by decide +kernel
theorem dX12_signToken_135 : decode cX12_signToken 135 = .ok (.aload_n 0, 1) := by decide +kernel
theorem dX12_signToken_136 : decode cX12_signToken 136 = .ok (.iconst 5, 1) := by decide +kernel
theorem dX12_signToken_137 : decode cX12_signToken 137 = .ok (.putfield 172, 3) := by decide +kernel
theorem dX12_signToken_140 : decode cX12_signToken 140 = .ok (.aload_n 0, 1) := by decide +kernel
theorem dX12_signToken_141 : decode cX12_signToken 141 = .ok (.aload_n 0, 1) := by decide +kernel
theorem dX12_signToken_142 : decode cX12_signToken 142 = .ok (.getfield 183, 3) := by decide +kernel
theorem dX12_signToken_145 : decode cX12_signToken 145 = .ok (.bipush 61, 2) := by decide +kernel
theorem dX12_signToken_147 : decode cX12_signToken 147 = .ok (.if_icmp .ne 7, 3) := by decide +kernel
theorem dX12_signToken_150 : decode cX12_signToken 150 = .ok (.iconst 2, 1) := by decide +kernel
theorem dX12_signToken_151 : decode cX12_signToken 151 = .ok (.goto 41, 3) := by decide +kernel
theorem dX12_signToken_154 : decode cX12_signToken 154 = .ok (.aload_n 0, 1) := by decide +kernel
theorem dX12_signToken_155 : decode cX12_signToken 155 = .ok (.getfield 183, 3) := by decide +kernel
theorem dX12_signToken_158 : decode cX12_signToken 158 = .ok (.bipush 60, 2) := by decide +kernel
theorem dX12_signToken_160 : decode cX12_signToken 160 = .ok (.if_icmp .ne 23, 3) := by decide +kernel
theorem dX12_signToken_163 : decode cX12_signToken 163 = .ok (.iload_n 2, 1) := by decide +kernel
theorem dX12_signToken_164 : decode cX12_signToken 164 = .ok (.ifCond .eq 7, 3) := by decide +kernel
theorem dX12_signToken_167 : decode cX12_signToken 167 = .ok (.iconst 1, 1) := by decide +kernel
theorem dX12_signToken_168 : decode cX12_signToken 168 = .ok (.goto 24, 3) := by decide +kernel
theorem dX12_signToken_171 : decode cX12_signToken 171 = .ok (.iload_n 3, 1) := by decide +kernel
theorem dX12_signToken_172 : decode cX12_signToken 172 = .ok (.ifCond .eq 7, 3) := by decide +kernel
theorem dX12_signToken_175 : decode cX12_signToken 175 = .ok (.iconst 3, 1) := by decide +kernel
theorem dX12_signToken_176 : decode cX12_signToken 176 = .ok (.goto 16, 3) := by decide +kernel
theorem dX12_signToken_179 : decode cX12_signToken 179 = .ok (.iconst 0, 1) := by decide +kernel
theorem dX12_signToken_180 : decode cX12_signToken 180 = .ok (.goto 12, 3) := by decide +kernel
theorem dX12_signToken_183 : decode cX12_signToken 183 = .ok (.iload_n 2, 1) := by decide +kernel
theorem dX12_signToken_184 : decode cX12_signToken 184 = .ok (.ifCond .eq 7, 3) := by decide +kernel
theorem dX12_signToken_187 : decode cX12_signToken 187 = .ok (.iconst 4, 1) := by decide +kernel
theorem dX12_signToken_188 : decode cX12_signToken 188 = .ok (.goto 4, 3) := by decide +kernel
theorem dX12_signToken_191 : decode cX12_signToken 191 = .ok (.iconst 5, 1) := by decide +kernel
theorem dX12_signToken_192 : decode cX12_signToken 192 = .ok (.putfield 183, 3) := by decide +kernel
theorem dX12_signToken_195 : decode cX12_signToken 195 = .ok (.goto 95, 3) := by decide +kernel
theorem dX12_signToken_198 : decode cX12_signToken 198 = .ok (.aload_n 0, 1) := by decide +kernel
theorem dX12_signToken_199 : decode cX12_signToken 199 = .ok (.getfield 183, 3) := by decide +kernel
theorem dX12_signToken_202 : decode cX12_signToken 202 = .ok (.bipush 59, 2) := by decide +kernel
theorem dX12_signToken_204 : decode cX12_signToken 204 = .ok (.if_icmp .eq 66, 3) := by decide +kernel
theorem dX12_signToken_207 : decode cX12_signToken 207 = .ok (.aload_n 0, 1) := by decide +kernel
theorem dX12_signToken_208 : decode cX12_signToken 208 = .ok (.getfield 183, 3) := by decide +kernel
theorem dX12_signToken_211 : decode cX12_signToken 211 = .ok (.bipush 40, 2) := by decide +kernel
theorem dX12_signToken_213 : decode cX12_signToken 213 = .ok (.if_icmp .eq 57, 3) := by decide +kernel
theorem dX12_signToken_216 : decode cX12_signToken 216 = .ok (.aload_n 0, 1) := by decide +kernel
theorem dX12_signToken_217 : decode cX12_signToken 217 = .ok (.getfield 183, 3) := by decide +kernel
theorem dX12_signToken_220 : decode cX12_signToken 220 = .ok (.bipush 41, 2) := by decide +kernel
theorem dX12_signToken_222 : decode cX12_signToken 222 = .ok (.if_icmp .eq 48, 3) := by decide +kernel
theorem dX12_signToken_225 : decode cX12_signToken 225 = .ok (.aload_n 0, 1) := by decide +kernel
theorem dX12_signToken_226 : decode cX12_signToken 226 = .ok (.getfield 183, 3) := by decide +kernel
theorem dX12_signToken_229 : decode cX12_signToken 229 = .ok (.bipush 43, 2) := by decide +kernel
theorem dX12_signToken_231 : decode cX12_signToken 231 = .ok (.if_icmp .eq 39, 3) := by decide +kernel
theorem dX12_signToken_234 : decode cX12_signToken 234 = .ok (.aload_n 0, 1) := by decide +kernel
theorem dX12_signToken_235 : decode cX12_signToken 235 = .ok (.getfield 183, 3) := by decide +kernel
theorem dX12_signToken_238 : decode cX12_signToken 238 = .ok (.bipush 45, 2) := by decide +kernel
theorem dX12_signToken_240 : decode cX12_signToken 240 = .ok (.if_icmp .eq 30, 3) := by decide +kernel
theorem dX12_signToken_243 : decode cX12_signToken 243 = .ok (.aload_n 0, 1) := by decide +kernel
theorem dX12_signToken_244 : decode cX12_signToken 244 = .ok (.getfield 183, 3) := by decide +kernel
theorem dX12_signToken_247 : decode cX12_signToken 247 = .ok (.bipush 42, 2) := by decide +kernel
theorem dX12_signToken_249 : decode cX12_signToken 249 = .ok (.if_icmp .eq 21, 3) := by decide +kernel
theorem dX12_signToken_252 : decode cX12_signToken 252 = .ok (.aload_n 0, 1) := by decide +kernel
theorem dX12_signToken_253 : decode cX12_signToken 253 = .ok (.getfield 183, 3) := by decide +kernel
theorem dX12_signToken_256 : decode cX12_signToken 256 = .ok (.bipush 47, 2) := by decide +kernel
theorem dX12_signToken_258 : decode cX12_signToken 258 = .ok (.if_icmp .eq 12, 3) := by decide +kernel
theorem dX12_signToken_261 : decode cX12_signToken 261 = .ok (.aload_n 0, 1) := by decide +kernel
theorem dX12_signToken_262 : decode cX12_signToken 262 = .ok (.getfield 183, 3) := by decide +kernel
theorem dX12_signToken_265 : decode cX12_signToken 265 = .ok (.bipush 37, 2) := by decide +kernel
theorem dX12_signToken_267 : decode cX12_signToken 267 = .ok (.if_icmp .ne 7, 3) := by decide +kernel
theorem dX12_signToken_270 : decode cX12_signToken 270 = .ok (.iconst 1, 1) := by decide +kernel
theorem dX12_signToken_271 : decode cX12_signToken 271 = .ok (.goto 4, 3) := by decide +kernel
theorem dX12_signToken_274 : decode cX12_signToken 274 = .ok (.iconst 0, 1) := by decide +kernel
theorem dX12_signToken_275 : decode cX12_signToken 275 = .ok (.istore_n 1, 1) := by decide +kernel
theorem dX12_signToken_276 : decode cX12_signToken 276 = .ok (.aload_n 0, 1) := by decide +kernel
theorem dX12_signToken_277 : decode cX12_signToken 277 = .ok (.iload_n 1, 1) := by decide +kernel
theorem dX12_signToken_278 : decode cX12_signToken 278 = .ok (.ifCond .eq 7, 3) := by decide +kernel
theorem dX12_signToken_281 : decode cX12_signToken 281 = .ok (.iconst 4, 1) := by decide +kernel
theorem dX12_signToken_282 : decode cX12_signToken 282 = .ok (.goto 5, 3) := by decide +kernel
theorem dX12_signToken_285 : decode cX12_signToken 285 = .ok (.bipush 6, 2) := by decide +kernel
theorem dX12_signToken_287 : decode cX12_signToken 287 = .ok (.putfield 172, 3) := by decide +kernel
theorem dX12_signToken_290 : decode cX12_signToken 290 = .ok (.return_, 1) := by decide +kernel
theorem dX12_token_0 : decode cX12_token 0 = .ok (.aload_n 0, 1) := by decide +kernel
theorem dX12_token_1 : decode cX12_token 1 = .ok (.getfield 169, 3) := by decide +kernel
theorem dX12_token_4 : decode cX12_token 4 = .ok (.aload_n 0, 1) := by decide +kernel
theorem dX12_token_5 : decode cX12_token 5 = .ok (.getfield 166, 3) := by decide +kernel
theorem dX12_token_8 : decode cX12_token 8 = .ok (.if_icmp .ge 44, 3) := by decide +kernel
theorem dX12_token_11 : decode cX12_token 11 = .ok (.aload_n 0, 1) := by decide +kernel
theorem dX12_token_12 : decode cX12_token 12 = .ok (.getfield 7, 3) := by decide +kernel
theorem dX12_token_15 : decode cX12_token 15 = .ok (.aload_n 0, 1) := by decide +kernel
theorem dX12_token_16 : decode cX12_token 16 = .ok (.getfield 169, 3) := by decide +kernel
theorem dX12_token_19 : decode cX12_token 19 = .ok (.iaload, 1) := by decide +kernel
theorem dX12_token_20 : decode cX12_token 20 = .ok (.bipush 10, 2) := by decide +kernel
theorem dX12_token_22 : decode cX12_token 22 = .ok (.if_icmp .eq 17, 3) := by decide +kernel
theorem dX12_token_25 : decode cX12_token 25 = .ok (.aload_n 0, 1) := by decide +kernel
theorem dX12_token_26 : decode cX12_token 26 = .ok (.getfield 7, 3) := by decide +kernel
theorem dX12_token_29 : decode cX12_token 29 = .ok (.aload_n 0, 1) := by decide +kernel
theorem dX12_token_30 : decode cX12_token 30 = .ok (.getfield 169, 3) := by decide +kernel
theorem dX12_token_33 : decode cX12_token 33 = .ok (.iaload, 1) := by decide +kernel
theorem dX12_token_34 : decode cX12_token 34 = .ok (.bipush 32, 2) := by decide +kernel
theorem dX12_token_36 : decode cX12_token 36 = .ok (.if_icmp .ne 16, 3) := by decide +kernel
theorem dX12_token_39 : decode cX12_token 39 = .ok (.aload_n 0, 1) := by decide +kernel
theorem dX12_token_40 : decode cX12_token 40 = .ok (.dup, 1) := by decide +kernel
theorem dX12_token_41 : decode cX12_token 41 = .ok (.getfield 169, 3) := by decide +kernel
theorem dX12_token_44 : decode cX12_token 44 = .ok (.iconst 1, 1) := by decide +kernel
theorem dX12_token_45 : decode cX12_token 45 = .ok (.iadd, 1) := by decide +kernel
theorem dX12_token_46 : decode cX12_token 46 = .ok (.putfield 169, 3) := by decide +kernel
theorem dX12_token_49 : decode cX12_token 49 = .ok (.goto (-49), 3) := by decide +kernel
theorem dX12_token_52 : decode cX12_token 52 = .ok (.aload_n 0, 1) := by decide +kernel
theorem dX12_token_53 : decode cX12_token 53 = .ok (.aload_n 0, 1) := by decide +kernel
theorem dX12_token_54 : decode cX12_token 54 = .ok (.getfield 169, 3) := by decide +kernel
theorem dX12_token_57 : decode cX12_token 57 = .ok (.putfield 163, 3) := by decide +kernel
theorem dX12_token_60 : decode cX12_token 60 = .ok (.aload_n 0, 1) := by decide +kernel
theorem dX12_token_61 : decode cX12_token 61 = .ok (.getfield 169, 3) := by decide +kernel
theorem dX12_token_64 : decode cX12_token 64 = .ok (.aload_n 0, 1) := by decide +kernel
theorem dX12_token_65 : decode cX12_token 65 = .ok (.getfield 166, 3) := by decide +kernel
theorem dX12_token_68 : decode cX12_token 68 = .ok (.if_icmp .ne 11, 3) := by decide +kernel
theorem dX12_token_71 : decode cX12_token 71 = .ok (.aload_n 0, 1) := by decide +kernel
theorem dX12_token_72 : decode cX12_token 72 = .ok (.iconst 0, 1) := by decide +kernel
theorem dX12_token_73 : decode cX12_token 73 = .ok (.putfield 172, 3) := by decide +kernel
theorem dX12_token_76 : decode cX12_token 76 = .ok (.goto 205, 3) := by decide +kernel
theorem dX12_token_79 : decode cX12_token 79 = .ok (.aload_n 0, 1) := by decide +kernel
theorem dX12_token_80 : decode cX12_token 80 = .ok (.aload_n 0, 1) := by decide +kernel
theorem dX12_token_81 : decode cX12_token 81 = .ok (.getfield 169, 3) := by decide +kernel
theorem dX12_token_84 : decode cX12_token 84 = .ok (.invokevirtual 175, 3) := by decide +kernel
theorem dX12_token_87 : decode cX12_token 87 = .ok (.ifCond .eq 105, 3) := by decide +kernel
theorem dX12_token_90 : decode cX12_token 90 = .ok (.aload_n 0, 1) := by decide +kernel
theorem dX12_token_91 : decode cX12_token 91 = .ok (.aload_n 0, 1) := by decide +kernel
theorem dX12_token_92 : decode cX12_token 92 = .ok (.getfield 169, 3) := by decide +kernel
theorem dX12_token_95 : decode cX12_token 95 = .ok (.invokevirtual 175, 3) := by decide +kernel
theorem dX12_token_98 : decode cX12_token 98 = .ok (.ifCond .eq 16, 3) := by decide +kernel
theorem dX12_token_101 : decode cX12_token 101 = .ok (.aload_n 0, 1) := by decide +kernel
theorem dX12_token_102 : decode cX12_token 102 = .ok (.dup, 1) := by decide +kernel
theorem dX12_token_103 : decode cX12_token 103 = .ok (.getfield 169, 3) := by decide +kernel
theorem dX12_token_106 : decode cX12_token 106 = .ok (.iconst 1, 1) := by decide +kernel
theorem dX12_token_107 : decode cX12_token 107 = .ok (.iadd, 1) := by decide +kernel
theorem dX12_token_108 : decode cX12_token 108 = .ok (.putfield 169, 3) := by decide +kernel
theorem dX12_token_111 : decode cX12_token 111 = .ok (.goto (-21), 3) := by decide +kernel
theorem dX12_token_114 : decode cX12_token 114 = .ok (.aload_n 0, 1) := by decide +kernel
theorem dX12_token_115 : decode cX12_token 115 = .ok (.aload_n 0, 1) := by decide +kernel
theorem dX12_token_116 : decode cX12_token 116 = .ok (.aload_n 0, 1) := by decide +kernel
theorem dX12_token_117 : decode cX12_token 117 = .ok (.getfield 163, 3) := by decide +kernel
theorem dX12_token_120 : decode cX12_token 120 = .ok (.aload_n 0, 1) := by decide +kernel
theorem dX12_token_121 : decode cX12_token 121 = .ok (.getfield 169, 3) := by decide +kernel
theorem dX12_token_124 : decode cX12_token 124 = .ok (.invokevirtual 179, 3) := by decide +kernel
theorem dX12_token_127 : decode cX12_token 127 = .ok (.putfield 183, 3) := by decide +kernel
theorem dX12_token_130 : decode cX12_token 130 = .ok (.aload_n 0, 1) := by decide +kernel
theorem dX12_token_131 : decode cX12_token 131 = .ok (.aload_n 0, 1) := by decide +kernel
theorem dX12_token_132 : decode cX12_token 132 = .ok (.getfield 183, 3) := by decide +kernel
theorem dX12_token_135 : decode cX12_token 135 = .ok (.ifCond .lt 7, 3) := by decide +kernel
theorem dX12_token_138 : decode cX12_token 138 = .ok (.iconst 1, 1) := by decide +kernel
theorem dX12_token_139 : decode cX12_token 139 = .ok (.goto 23, 3) := by decide +kernel
theorem dX12_token_142 : decode cX12_token 142 = .ok (.aload_n 0, 1) := by decide +kernel
theorem dX12_token_143 : decode cX12_token 143 = .ok (.getfield 169, 3) := by decide +kernel
theorem dX12_token_146 : decode cX12_token 146 = .ok (.aload_n 0, 1) := by decide +kernel
theorem dX12_token_147 : decode cX12_token 147 = .ok (.getfield 163, 3) := by decide +kernel
theorem dX12_token_150 : decode cX12_token 150 = .ok (.isub, 1) := by decide +kernel
theorem dX12_token_151 : decode cX12_token 151 = .ok (.bipush 6, 2) := by decide +kernel
theorem dX12_token_153 : decode cX12_token 153 = .ok (.if_icmp .le 8, 3) := by decide +kernel
theorem dX12_token_156 : decode cX12_token 156 = .ok (.bipush 6, 2) := by decide +kernel
theorem dX12_token_158 : decode cX12_token 158 = .ok (.goto 4, 3) := by decide +kernel
theorem dX12_token_161 : decode cX12_token 161 = .ok (.iconst 2, 1) := by decide +kernel
theorem dX12_token_162 : decode cX12_token 162 = .ok (.putfield 172, 3) := by decide +kernel
theorem dX12_token_165 : decode cX12_token 165 = .ok (.aload_n 0, 1) := by decide +kernel
theorem dX12_token_166 : decode cX12_token 166 = .ok (.getfield 172, 3) := by decide +kernel
theorem dX12_token_169 : decode cX12_token 169 = .ok (.iconst 2, 1) := by decide +kernel
theorem dX12_token_170 : decode cX12_token 170 = .ok (.if_icmp .ne 111, 3) := by decide +kernel
theorem dX12_token_173 : decode cX12_token 173 = .ok (.aload_n 0, 1) := by decide +kernel
theorem dX12_token_174 : decode cX12_token 174 = .ok (.aload_n 0, 1) := by decide +kernel
theorem dX12_token_175 : decode cX12_token 175 = .ok (.aload_n 0, 1) := by decide +kernel
theorem dX12_token_176 : decode cX12_token 176 = .ok (.getfield 163, 3) := by decide +kernel
theorem dX12_token_179 : decode cX12_token 179 = .ok (.aload_n 0, 1) := by decide +kernel
theorem dX12_token_180 : decode cX12_token 180 = .ok (.getfield 169, 3) := by decide +kernel
theorem dX12_token_183 : decode cX12_token 183 = .ok (.invokevirtual 186, 3) := by decide +kernel
theorem dX12_token_186 : decode cX12_token 186 = .ok (.putfield 183, 3) := by decide +kernel
theorem dX12_token_189 : decode cX12_token 189 = .ok (.goto 92, 3) := by decide +kernel
theorem dX12_token_192 : decode cX12_token 192 = .ok (.aload_n 0, 1) := by decide +kernel
theorem dX12_token_193 : decode cX12_token 193 = .ok (.aload_n 0, 1) := by decide +kernel
theorem dX12_token_194 : decode cX12_token 194 = .ok (.getfield 169, 3) := by decide +kernel
theorem dX12_token_197 : decode cX12_token 197 = .ok (.invokevirtual 189, 3) := by decide +kernel
theorem dX12_token_200 : decode cX12_token 200 = .ok (.ifCond .eq 77, 3) := by decide +kernel
theorem dX12_token_203 : decode cX12_token 203 = .ok (.aload_n 0, 1) := by decide +kernel
theorem dX12_token_204 : decode cX12_token 204 = .ok (.iconst 3, 1) := by decide +kernel
theorem dX12_token_205 : decode cX12_token 205 = .ok (.putfield 172, 3) := by decide +kernel
theorem dX12_token_208 : decode cX12_token 208 = .ok (.aload_n 0, 1) := by decide +kernel
theorem dX12_token_209 : decode cX12_token 209 = .ok (.iconst 0, 1) := by decide +kernel
theorem dX12_token_210 : decode cX12_token 210 = .ok (.putfield 183, 3) := by decide +kernel
theorem dX12_token_213 : decode cX12_token 213 = .ok (.aload_n 0, 1) := by decide +kernel
theorem dX12_token_214 : decode cX12_token 214 = .ok (.aload_n 0, 1) := by decide +kernel
theorem dX12_token_215 : decode cX12_token 215 = .ok (.getfield 169, 3) := by decide +kernel
theorem dX12_token_218 : decode cX12_token 218 = .ok (.invokevirtual 189, 3) := by decide +kernel
theorem dX12_token_221 : decode cX12_token 221 = .ok (.ifCond .eq 60, 3) := by decide +kernel
theorem dX12_token_224 : decode cX12_token 224 = .ok (.aload_n 0, 1) := by decide +kernel
theorem dX12_token_225 : decode cX12_token 225 = .ok (.aload_n 0, 1) := by decide +kernel
theorem dX12_token_226 : decode cX12_token 226 = .ok (.getfield 183, 3) := by decide +kernel
theorem dX12_token_229 : decode cX12_token 229 = .ok (.ldc 192, 2) := by decide +kernel
theorem dX12_token_231 : decode cX12_token 231 = .ok (.if_icmp .le 10, 3) := by decide +kernel
theorem dX12_token_234 : decode cX12_token 234 = .ok (.aload_n 0, 1) := by decide +kernel
theorem dX12_token_235 : decode cX12_token 235 = .ok (.getfield 183, 3) := by decide +kernel
theorem dX12_token_238 : decode cX12_token 238 = .ok (.goto 23, 3) := by decide +kernel
theorem dX12_token_241 : decode cX12_token 241 = .ok (.bipush 10, 2) := by decide +kernel
theorem dX12_token_243 : decode cX12_token 243 = .ok (.aload_n 0, 1) := by decide +kernel
theorem dX12_token_244 : decode cX12_token 244 = .ok (.getfield 183, 3) := by decide +kernel
theorem dX12_token_247 : decode cX12_token 247 = .ok (.imul, 1) := by decide +kernel
theorem dX12_token_248 : decode cX12_token 248 = .ok (.aload_n 0, 1) := by decide +kernel
theorem dX12_token_249 : decode cX12_token 249 = .ok (.getfield 7, 3) := by decide +kernel
theorem dX12_token_252 : decode cX12_token 252 = .ok (.aload_n 0, 1) := by decide +kernel
theorem dX12_token_253 : decode cX12_token 253 = .ok (.getfield 169, 3) := by decide +kernel
theorem dX12_token_256 : decode cX12_token 256 = .ok (.iaload, 1) := by decide +kernel
theorem dX12_token_257 : decode cX12_token 257 = .ok (.iadd, 1) := by decide +kernel
theorem dX12_token_258 : decode cX12_token 258 = .ok (.bipush 48, 2) := by decide +kernel
theorem dX12_token_260 : decode cX12_token 260 = .ok (.isub, 1) := by decide +kernel
theorem dX12_token_261 : decode cX12_token 261 = .ok (.putfield 183, 3) := by decide +kernel
theorem dX12_token_264 : decode cX12_token 264 = .ok (.aload_n 0, 1) := by decide +kernel
theorem dX12_token_265 : decode cX12_token 265 = .ok (.dup, 1) := by decide +kernel
theorem dX12_token_266 : decode cX12_token 266 = .ok (.getfield 169, 3) := by decide +kernel
theorem dX12_token_269 : decode cX12_token 269 = .ok (.iconst 1, 1) := by decide +kernel
theorem dX12_token_270 : decode cX12_token 270 = .ok (.iadd, 1) := by decide +kernel
theorem dX12_token_271 : decode cX12_token 271 = .ok (.putfield 169, 3) := by decide +kernel
theorem dX12_token_274 : decode cX12_token 274 = .ok (.goto (-61), 3) := by decide +kernel
theorem dX12_token_277 : decode cX12_token 277 = .ok (.aload_n 0, 1) := by decide +kernel
theorem dX12_token_278 : decode cX12_token 278 = .ok (.invokevirtual 193, 3) := by decide +kernel
theorem dX12_token_281 : decode cX12_token 281 = .ok (.return_, 1) := by decide +kernel
theorem dX12_wrong_0 : decode cX12_wrong 0 = .ok (.aload_n 0, 1) := by decide +kernel
theorem dX12_wrong_1 : decode cX12_wrong 1 = .ok (.iload_n 1, 1) := by decide +kernel
theorem dX12_wrong_2 : decode cX12_wrong 2 = .ok (.putfield 160, 3) := by decide +kernel
theorem dX12_wrong_5 : decode cX12_wrong 5 = .ok (.aload_n 0, 1) := by decide +kernel
theorem dX12_wrong_6 : decode cX12_wrong 6 = .ok (.aload_n 0, 1) := by decide +kernel
theorem dX12_wrong_7 : decode cX12_wrong 7 = .ok (.getfield 163, 3) := by decide +kernel
theorem dX12_wrong_10 : decode cX12_wrong 10 = .ok (.putfield 16, 3) := by decide +kernel
theorem dX12_wrong_13 : decode cX12_wrong 13 = .ok (.iconst 0, 1) := by decide +kernel
theorem dX12_wrong_14 : decode cX12_wrong 14 = .ok (.ireturn, 1) := by decide +kernel
theorem dX12_isIn_0 : decode cX12_isIn 0 = .ok (.iload_n 0, 1) := by decide +kernel
theorem dX12_isIn_1 : decode cX12_isIn 1 = .ok (.iload_n 1, 1) := by decide +kernel
theorem dX12_isIn_2 : decode cX12_isIn 2 = .ok (.if_icmp .lt 12, 3) := by decide +kernel
theorem dX12_isIn_5 : decode cX12_isIn 5 = .ok (.iload_n 0, 1) := by decide +kernel
theorem dX12_isIn_6 : decode cX12_isIn 6 = .ok (.iload_n 2, 1) := by decide +kernel
theorem dX12_isIn_7 : decode cX12_isIn 7 = .ok (.if_icmp .gt 7, 3) := by decide +kernel
theorem dX12_isIn_10 : decode cX12_isIn 10 = .ok (.iconst 1, 1) := by decide +kernel
theorem dX12_isIn_11 : decode cX12_isIn 11 = .ok (.goto 4, 3) := by decide +kernel
theorem dX12_isIn_14 : decode cX12_isIn 14 = .ok (.iconst 0, 1) := by decide +kernel
theorem dX12_isIn_15 : decode cX12_isIn 15 = .ok (.ireturn, 1) := by decide +kernel
theorem dX12_number_0 : decode cX12_number 0 = .ok (.aload_n 0, 1) := by decide +kernel
theorem dX12_number_1 : decode cX12_number 1 = .ok (.getfield 172, 3) := by decide +kernel
theorem dX12_number_4 : decode cX12_number 4 = .ok (.iconst 3, 1) := by decide +kernel
theorem dX12_number_5 : decode cX12_number 5 = .ok (.if_icmp .eq 9, 3) := by decide +kernel
theorem dX12_number_8 : decode cX12_number 8 = .ok (.aload_n 0, 1) := by decide +kernel
theorem dX12_number_9 : decode cX12_number 9 = .ok (.iconst 1, 1) := by decide +kernel
theorem dX12_number_10 : decode cX12_number 10 = .ok (.invokevirtual 196, 3) := by decide +kernel
theorem dX12_number_13 : decode cX12_number 13 = .ok (.ireturn, 1) := by decide +kernel
theorem dX12_number_14 : decode cX12_number 14 = .ok (.aload_n 0, 1) := by decide +kernel
theorem dX12_number_15 : decode cX12_number 15 = .ok (.getfield 183, 3) := by decide +kernel
theorem dX12_number_18 : decode cX12_number 18 = .ok (.iload_n 1, 1) := by decide +kernel
theorem dX12_number_19 : decode cX12_number 19 = .ok (.iload_n 2, 1) := by decide +kernel
theorem dX12_number_20 : decode cX12_number 20 = .ok (.invokestatic 199, 3) := by decide +kernel
theorem dX12_number_23 : decode cX12_number 23 = .ok (.ifCond .ne 9, 3) := by decide +kernel
theorem dX12_number_26 : decode cX12_number 26 = .ok (.aload_n 0, 1) := by decide +kernel
theorem dX12_number_27 : decode cX12_number 27 = .ok (.iconst 2, 1) := by decide +kernel
theorem dX12_number_28 : decode cX12_number 28 = .ok (.invokevirtual 196, 3) := by decide +kernel
theorem dX12_number_31 : decode cX12_number 31 = .ok (.ireturn, 1) := by decide +kernel
theorem dX12_number_32 : decode cX12_number 32 = .ok (.aload_n 0, 1) := by decide +kernel
theorem dX12_number_33 : decode cX12_number 33 = .ok (.aload_n 0, 1) := by decide +kernel
theorem dX12_number_34 : decode cX12_number 34 = .ok (.getfield 183, 3) := by decide +kernel
theorem dX12_number_37 : decode cX12_number 37 = .ok (.putfield 203, 3) := by decide +kernel
theorem dX12_number_40 : decode cX12_number 40 = .ok (.aload_n 0, 1) := by decide +kernel
theorem dX12_number_41 : decode cX12_number 41 = .ok (.invokevirtual 206, 3) := by decide +kernel
theorem dX12_number_44 : decode cX12_number 44 = .ok (.iconst 1, 1) := by decide +kernel
theorem dX12_number_45 : decode cX12_number 45 = .ok (.ireturn, 1) := by decide +kernel
theorem dX12_bankLine_0 : decode cX12_bankLine 0 = .ok (.aload_n 0, 1) := by decide +kernel
theorem dX12_bankLine_1 : decode cX12_bankLine 1 = .ok (.invokevirtual 206, 3) := by decide +kernel
theorem dX12_bankLine_4 : decode cX12_bankLine 4 = .ok (.aload_n 0, 1) := by decide +kernel
theorem dX12_bankLine_5 : decode cX12_bankLine 5 = .ok (.iconst 1, 1) := by decide +kernel
theorem dX12_bankLine_6 : decode cX12_bankLine 6 = .ok (.bipush 20, 2) := by decide +kernel
theorem dX12_bankLine_8 : decode cX12_bankLine 8 = .ok (.invokevirtual 212, 3) := by decide +kernel
theorem dX12_bankLine_11 : decode cX12_bankLine 11 = .ok (.ifCond .ne 5, 3) := by decide +kernel
theorem dX12_bankLine_14 : decode cX12_bankLine 14 = .ok (.iconst 0, 1) := by decide +kernel
theorem dX12_bankLine_15 : decode cX12_bankLine 15 = .ok (.ireturn, 1) := by decide +kernel
theorem dX12_bankLine_16 : decode cX12_bankLine 16 = .ok (.aload_n 0, 1) := by decide +kernel
theorem dX12_bankLine_17 : decode cX12_bankLine 17 = .ok (.getfield 24, 3) := by decide +kernel
theorem dX12_bankLine_20 : decode cX12_bankLine 20 = .ok (.bipush 9, 2) := by decide +kernel
theorem dX12_bankLine_22 : decode cX12_bankLine 22 = .ok (.aload_n 0, 1) := by decide +kernel
theorem dX12_bankLine_23 : decode cX12_bankLine 23 = .ok (.getfield 203, 3) := by decide +kernel
theorem dX12_bankLine_26 : decode cX12_bankLine 26 = .ok (.iastore, 1) := by decide +kernel
theorem dX12_bankLine_27 : decode cX12_bankLine 27 = .ok (.aload_n 0, 1) := by decide +kernel
theorem dX12_bankLine_28 : decode cX12_bankLine 28 = .ok (.iconst 1, 1) := by decide +kernel
theorem dX12_bankLine_29 : decode cX12_bankLine 29 = .ok (.bipush 20, 2) := by decide +kernel
theorem dX12_bankLine_31 : decode cX12_bankLine 31 = .ok (.invokevirtual 212, 3) := by decide +kernel
theorem dX12_bankLine_34 : decode cX12_bankLine 34 = .ok (.ifCond .ne 5, 3) := by decide +kernel
theorem dX12_bankLine_37 : decode cX12_bankLine 37 = .ok (.iconst 0, 1) := by decide +kernel
theorem dX12_bankLine_38 : decode cX12_bankLine 38 = .ok (.ireturn, 1) := by decide +kernel
theorem dX12_bankLine_39 : decode cX12_bankLine 39 = .ok (.aload_n 0, 1) := by decide +kernel
theorem dX12_bankLine_40 : decode cX12_bankLine 40 = .ok (.getfield 24, 3) := by decide +kernel
theorem dX12_bankLine_43 : decode cX12_bankLine 43 = .ok (.bipush 10, 2) := by decide +kernel
theorem dX12_bankLine_45 : decode cX12_bankLine 45 = .ok (.aload_n 0, 1) := by decide +kernel
theorem dX12_bankLine_46 : decode cX12_bankLine 46 = .ok (.getfield 203, 3) := by decide +kernel
theorem dX12_bankLine_49 : decode cX12_bankLine 49 = .ok (.iastore, 1) := by decide +kernel
theorem dX12_bankLine_50 : decode cX12_bankLine 50 = .ok (.aload_n 0, 1) := by decide +kernel
theorem dX12_bankLine_51 : decode cX12_bankLine 51 = .ok (.iconst 1, 1) := by decide +kernel
theorem dX12_bankLine_52 : decode cX12_bankLine 52 = .ok (.bipush 9, 2) := by decide +kernel
theorem dX12_bankLine_54 : decode cX12_bankLine 54 = .ok (.invokevirtual 212, 3) := by decide +kernel
theorem dX12_bankLine_57 : decode cX12_bankLine 57 = .ok (.ifCond .ne 5, 3) := by decide +kernel
theorem dX12_bankLine_60 : decode cX12_bankLine 60 = .ok (.iconst 0, 1) := by decide +kernel
theorem dX12_bankLine_61 : decode cX12_bankLine 61 = .ok (.ireturn, 1) := by decide +kernel
theorem dX12_bankLine_62 : decode cX12_bankLine 62 = .ok (.aload_n 0, 1) := by decide +kernel
theorem dX12_bankLine_63 : decode cX12_bankLine 63 = .ok (.getfield 24, 3) := by decide +kernel
theorem dX12_bankLine_66 : decode cX12_bankLine 66 = .ok (.bipush 11, 2) := by decide +kernel
theorem dX12_bankLine_68 : decode cX12_bankLine 68 = .ok (.aload_n 0, 1) := by decide +kernel
theorem dX12_bankLine_69 : decode cX12_bankLine 69 = .ok (.getfield 203, 3) := by decide +kernel
theorem dX12_bankLine_72 : decode cX12_bankLine 72 = .ok (.iastore, 1) := by decide +kernel
theorem dX12_bankLine_73 : decode cX12_bankLine 73 = .ok (.iconst 1, 1) := by decide +kernel
theorem dX12_bankLine_74 : decode cX12_bankLine 74 = .ok (.ireturn, 1) := by decide +kernel
theorem dX12_begin_0 : decode cX12_begin 0 = .ok (.iconst 0, 1) := by decide +kernel
theorem dX12_begin_1 : decode cX12_begin 1 = .ok (.istore_n 1, 1) := by decide +kernel
theorem dX12_begin_2 : decode cX12_begin 2 = .ok (.iload_n 1, 1) := by decide +kernel
theorem dX12_begin_3 : decode cX12_begin 3 = .ok (.iconst 5, 1) := by decide +kernel
theorem dX12_begin_4 : decode cX12_begin 4 = .ok (.if_icmp .ge 54, 3) := by decide +kernel
theorem dX12_begin_7 : decode cX12_begin 7 = .ok (.aload_n 0, 1) := by decide +kernel
theorem dX12_begin_8 : decode cX12_begin 8 = .ok (.getfield 88, 3) := by decide +kernel
theorem dX12_begin_11 : decode cX12_begin 11 = .ok (.iload_n 1, 1) := by decide +kernel
theorem dX12_begin_12 : decode cX12_begin 12 = .ok (.aload_n 0, 1) := by decide +kernel
theorem dX12_begin_13 : decode cX12_begin 13 = .ok (.getfield 30, 3) := by decide +kernel
theorem dX12_begin_16 : decode cX12_begin 16 = .ok (.iload_n 1, 1) := by decide +kernel
theorem dX12_begin_17 : decode cX12_begin 17 = .ok (.iaload, 1) := by decide +kernel
theorem dX12_begin_18 : decode cX12_begin 18 = .ok (.iastore, 1) := by decide +kernel
theorem dX12_begin_19 : decode cX12_begin 19 = .ok (.aload_n 0, 1) := by decide +kernel
theorem dX12_begin_20 : decode cX12_begin 20 = .ok (.getfield 91, 3) := by decide +kernel
theorem dX12_begin_23 : decode cX12_begin 23 = .ok (.iload_n 1, 1) := by decide +kernel
theorem dX12_begin_24 : decode cX12_begin 24 = .ok (.iconst 0, 1) := by decide +kernel
theorem dX12_begin_25 : decode cX12_begin 25 = .ok (.iastore, 1) := by decide +kernel
theorem dX12_begin_26 : decode cX12_begin 26 = .ok (.aload_n 0, 1) := by decide +kernel
theorem dX12_begin_27 : decode cX12_begin 27 = .ok (.getfield 94, 3) := by decide +kernel
theorem dX12_begin_30 : decode cX12_begin 30 = .ok (.iload_n 1, 1) := by decide +kernel
theorem dX12_begin_31 : decode cX12_begin 31 = .ok (.iconst 0, 1) := by decide +kernel
theorem dX12_begin_32 : decode cX12_begin 32 = .ok (.iastore, 1) := by decide +kernel
theorem dX12_begin_33 : decode cX12_begin 33 = .ok (.aload_n 0, 1) := by decide +kernel
theorem dX12_begin_34 : decode cX12_begin 34 = .ok (.getfield 97, 3) := by decide +kernel
theorem dX12_begin_37 : decode cX12_begin 37 = .ok (.iload_n 1, 1) := by decide +kernel
theorem dX12_begin_38 : decode cX12_begin 38 = .ok (.iconst 0, 1) := by decide +kernel
theorem dX12_begin_39 : decode cX12_begin 39 = .ok (.iastore, 1) := by decide +kernel
theorem dX12_begin_40 : decode cX12_begin 40 = .ok (.aload_n 0, 1) := by decide +kernel
theorem dX12_begin_41 : decode cX12_begin 41 = .ok (.getfield 100, 3) := by decide +kernel
theorem dX12_begin_44 : decode cX12_begin 44 = .ok (.iload_n 1, 1) := by decide +kernel
theorem dX12_begin_45 : decode cX12_begin 45 = .ok (.aload_n 0, 1) := by decide +kernel
theorem dX12_begin_46 : decode cX12_begin 46 = .ok (.getfield 36, 3) := by decide +kernel
theorem dX12_begin_49 : decode cX12_begin 49 = .ok (.iload_n 1, 1) := by decide +kernel
theorem dX12_begin_50 : decode cX12_begin 50 = .ok (.iaload, 1) := by decide +kernel
theorem dX12_begin_51 : decode cX12_begin 51 = .ok (.iastore, 1) := by decide +kernel
theorem dX12_begin_52 : decode cX12_begin 52 = .ok (.iinc 1 1, 3) := by decide +kernel
theorem dX12_begin_55 : decode cX12_begin 55 = .ok (.goto (-53), 3) := by decide +kernel
theorem dX12_begin_58 : decode cX12_begin 58 = .ok (.iconst 0, 1) := by decide +kernel
theorem dX12_begin_59 : decode cX12_begin 59 = .ok (.istore_n 1, 1) := by decide +kernel
theorem dX12_begin_60 : decode cX12_begin 60 = .ok (.iload_n 1, 1) := by decide +kernel
theorem dX12_begin_61 : decode cX12_begin 61 = .ok (.bipush 28, 2) := by decide +kernel
theorem dX12_begin_63 : decode cX12_begin 63 = .ok (.if_icmp .ge 17, 3) := by decide +kernel
theorem dX12_begin_66 : decode cX12_begin 66 = .ok (.aload_n 0, 1) := by decide +kernel
theorem dX12_begin_67 : decode cX12_begin 67 = .ok (.getfield 103, 3) := by decide +kernel
theorem dX12_begin_70 : decode cX12_begin 70 = .ok (.iload_n 1, 1) := by decide +kernel
theorem dX12_begin_71 : decode cX12_begin 71 = .ok (.bipush (-2), 2) := by decide +kernel
theorem dX12_begin_73 : decode cX12_begin 73 = .ok (.iastore, 1) := by decide +kernel
theorem dX12_begin_74 : decode cX12_begin 74 = .ok (.iinc 1 1, 3) := by decide +kernel
theorem dX12_begin_77 : decode cX12_begin 77 = .ok (.goto (-17), 3) := by decide +kernel
theorem dX12_begin_80 : decode cX12_begin 80 = .ok (.aload_n 0, 1) := by decide +kernel
theorem dX12_begin_81 : decode cX12_begin 81 = .ok (.getfield 106, 3) := by decide +kernel
theorem dX12_begin_84 : decode cX12_begin 84 = .ok (.iconst 0, 1) := by decide +kernel
theorem dX12_begin_85 : decode cX12_begin 85 = .ok (.iconst 0, 1) := by decide +kernel
theorem dX12_begin_86 : decode cX12_begin 86 = .ok (.iastore, 1) := by decide +kernel
theorem dX12_begin_87 : decode cX12_begin 87 = .ok (.aload_n 0, 1) := by decide +kernel
theorem dX12_begin_88 : decode cX12_begin 88 = .ok (.getfield 109, 3) := by decide +kernel
theorem dX12_begin_91 : decode cX12_begin 91 = .ok (.iconst 0, 1) := by decide +kernel
theorem dX12_begin_92 : decode cX12_begin 92 = .ok (.iconst 0, 1) := by decide +kernel
theorem dX12_begin_93 : decode cX12_begin 93 = .ok (.iastore, 1) := by decide +kernel
theorem dX12_begin_94 : decode cX12_begin 94 = .ok (.aload_n 0, 1) := by decide +kernel
theorem dX12_begin_95 : decode cX12_begin 95 = .ok (.getfield 112, 3) := by decide +kernel
theorem dX12_begin_98 : decode cX12_begin 98 = .ok (.iconst 0, 1) := by decide +kernel
theorem dX12_begin_99 : decode cX12_begin 99 = .ok (.iconst 0, 1) := by decide +kernel
theorem dX12_begin_100 : decode cX12_begin 100 = .ok (.iastore, 1) := by decide +kernel
theorem dX12_begin_101 : decode cX12_begin 101 = .ok (.aload_n 0, 1) := by decide +kernel
theorem dX12_begin_102 : decode cX12_begin 102 = .ok (.aload_n 0, 1) := by decide +kernel
theorem dX12_begin_103 : decode cX12_begin 103 = .ok (.getfield 24, 3) := by decide +kernel
theorem dX12_begin_106 : decode cX12_begin 106 = .ok (.iconst 5, 1) := by decide +kernel
theorem dX12_begin_107 : decode cX12_begin 107 = .ok (.iaload, 1) := by decide +kernel
theorem dX12_begin_108 : decode cX12_begin 108 = .ok (.putfield 369, 3) := by decide +kernel
theorem dX12_begin_111 : decode cX12_begin 111 = .ok (.aload_n 0, 1) := by decide +kernel
theorem dX12_begin_112 : decode cX12_begin 112 = .ok (.aload_n 0, 1) := by decide +kernel
theorem dX12_begin_113 : decode cX12_begin 113 = .ok (.getfield 24, 3) := by decide +kernel
theorem dX12_begin_116 : decode cX12_begin 116 = .ok (.bipush 6, 2) := by decide +kernel
theorem dX12_begin_118 : decode cX12_begin 118 = .ok (.iaload, 1) := by decide +kernel
theorem dX12_begin_119 : decode cX12_begin 119 = .ok (.i2l, 1) := by decide +kernel
theorem dX12_begin_120 : decode cX12_begin 120 = .ok (.putfield 372, 3) := by decide +kernel
theorem dX12_begin_123 : decode cX12_begin 123 = .ok (.aload_n 0, 1) := by decide +kernel
theorem dX12_begin_124 : decode cX12_begin 124 = .ok (.iconst (-1), 1) := by decide +kernel
theorem dX12_begin_125 : decode cX12_begin 125 = .ok (.putfield 115, 3) := by decide +kernel
theorem dX12_begin_128 : decode cX12_begin 128 = .ok (.aload_n 0, 1) := by decide +kernel
theorem dX12_begin_129 : decode cX12_begin 129 = .ok (.iconst 0, 1) := by decide +kernel
theorem dX12_begin_130 : decode cX12_begin 130 = .ok (.putfield 376, 3) := by decide +kernel
theorem dX12_begin_133 : decode cX12_begin 133 = .ok (.aload_n 0, 1) := by decide +kernel
theorem dX12_begin_134 : decode cX12_begin 134 = .ok (.iconst (-1), 1) := by decide +kernel
theorem dX12_begin_135 : decode cX12_begin 135 = .ok (.putfield 133, 3) := by decide +kernel
theorem dX12_begin_138 : decode cX12_begin 138 = .ok (.aload_n 0, 1) := by decide +kernel
theorem dX12_begin_139 : decode cX12_begin 139 = .ok (.iconst 0, 1) := by decide +kernel
theorem dX12_begin_140 : decode cX12_begin 140 = .ok (.putfield 379, 3) := by decide +kernel
theorem dX12_begin_143 : decode cX12_begin 143 = .ok (.aload_n 0, 1) := by decide +kernel
theorem dX12_begin_144 : decode cX12_begin 144 = .ok (.iconst 0, 1) := by decide +kernel
theorem dX12_begin_145 : decode cX12_begin 145 = .ok (.putfield 382, 3) := by decide +kernel
theorem dX12_begin_148 : decode cX12_begin 148 = .ok (.return_, 1) := by decide +kernel
