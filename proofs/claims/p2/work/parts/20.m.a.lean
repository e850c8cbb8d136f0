theorem dX12_leafRead_0 : decode cX12_leafRead 0 = .ok (.aload_n 0, 1) := by decide +kernel
theorem dX12_leafRead_1 : decode cX12_leafRead 1 = .ok (.bipush 40, 2) := by decide +kernel
theorem dX12_leafRead_3 : decode cX12_leafRead 3 = .ok (.invokevirtual 209, 3) := by decide +kernel
theorem dX12_leafRead_6 : decode cX12_leafRead 6 = .ok (.ifCond .eq 44, 3) := by decide +kernel
theorem dX12_leafRead_9 : decode cX12_leafRead 9 = .ok (.aload_n 0, 1) := by decide +kernel
theorem dX12_leafRead_10 : decode cX12_leafRead 10 = .ok (.getfield 316, 3) := by decide +kernel
theorem dX12_leafRead_13 : decode cX12_leafRead 13 = .ok (.bipush 8, 2) := by decide +kernel
theorem dX12_leafRead_15 : decode cX12_leafRead 15 = .ok (.if_icmp .ne 9, 3) := by decide +kernel
theorem dX12_leafRead_18 : decode cX12_leafRead 18 = .ok (.aload_n 0, 1) := by decide +kernel
theorem dX12_leafRead_19 : decode cX12_leafRead 19 = .ok (.iconst 2, 1) := by decide +kernel
theorem dX12_leafRead_20 : decode cX12_leafRead 20 = .ok (.invokevirtual 196, 3) := by decide +kernel
theorem dX12_leafRead_23 : decode cX12_leafRead 23 = .ok (.ireturn, 1) := by decide +kernel
theorem dX12_leafRead_24 : decode cX12_leafRead 24 = .ok (.aload_n 0, 1) := by decide +kernel
theorem dX12_leafRead_25 : decode cX12_leafRead 25 = .ok (.dup, 1) := by decide +kernel
theorem dX12_leafRead_26 : decode cX12_leafRead 26 = .ok (.getfield 316, 3) := by decide +kernel
theorem dX12_leafRead_29 : decode cX12_leafRead 29 = .ok (.iconst 1, 1) := by decide +kernel
theorem dX12_leafRead_30 : decode cX12_leafRead 30 = .ok (.iadd, 1) := by decide +kernel
theorem dX12_leafRead_31 : decode cX12_leafRead 31 = .ok (.putfield 316, 3) := by decide +kernel
theorem dX12_leafRead_34 : decode cX12_leafRead 34 = .ok (.aload_n 0, 1) := by decide +kernel
theorem dX12_leafRead_35 : decode cX12_leafRead 35 = .ok (.iconst 0, 1) := by decide +kernel
theorem dX12_leafRead_36 : decode cX12_leafRead 36 = .ok (.invokevirtual 319, 3) := by decide +kernel
theorem dX12_leafRead_39 : decode cX12_leafRead 39 = .ok (.aload_n 0, 1) := by decide +kernel
theorem dX12_leafRead_40 : decode cX12_leafRead 40 = .ok (.iconst 1, 1) := by decide +kernel
theorem dX12_leafRead_41 : decode cX12_leafRead 41 = .ok (.putfield 323, 3) := by decide +kernel
theorem dX12_leafRead_44 : decode cX12_leafRead 44 = .ok (.aload_n 0, 1) := by decide +kernel
theorem dX12_leafRead_45 : decode cX12_leafRead 45 = .ok (.invokevirtual 206, 3) := by decide +kernel
theorem dX12_leafRead_48 : decode cX12_leafRead 48 = .ok (.iconst 1, 1) := by decide +kernel
theorem dX12_leafRead_49 : decode cX12_leafRead 49 = .ok (.ireturn, 1) := by decide +kernel
theorem dX12_leafRead_50 : decode cX12_leafRead 50 = .ok (.aload_n 0, 1) := by decide +kernel
theorem dX12_leafRead_51 : decode cX12_leafRead 51 = .ok (.bipush 17, 2) := by decide +kernel
theorem dX12_leafRead_53 : decode cX12_leafRead 53 = .ok (.invokevirtual 326, 3) := by decide +kernel
theorem dX12_leafRead_56 : decode cX12_leafRead 56 = .ok (.ifCond .eq 30, 3) := by decide +kernel
theorem dX12_leafRead_59 : decode cX12_leafRead 59 = .ok (.aload_n 0, 1) := by decide +kernel
theorem dX12_leafRead_60 : decode cX12_leafRead 60 = .ok (.getfield 323, 3) := by decide +kernel
theorem dX12_leafRead_63 : decode cX12_leafRead 63 = .ok (.ifCond .eq 23, 3) := by decide +kernel
theorem dX12_leafRead_66 : decode cX12_leafRead 66 = .ok (.aload_n 0, 1) := by decide +kernel
theorem dX12_leafRead_67 : decode cX12_leafRead 67 = .ok (.invokevirtual 329, 3) := by decide +kernel
theorem dX12_leafRead_70 : decode cX12_leafRead 70 = .ok (.ifCond .ne 5, 3) := by decide +kernel
theorem dX12_leafRead_73 : decode cX12_leafRead 73 = .ok (.iconst 0, 1) := by decide +kernel
theorem dX12_leafRead_74 : decode cX12_leafRead 74 = .ok (.ireturn, 1) := by decide +kernel
theorem dX12_leafRead_75 : decode cX12_leafRead 75 = .ok (.aload_n 0, 1) := by decide +kernel
theorem dX12_leafRead_76 : decode cX12_leafRead 76 = .ok (.iconst 2, 1) := by decide +kernel
theorem dX12_leafRead_77 : decode cX12_leafRead 77 = .ok (.invokevirtual 319, 3) := by decide +kernel
theorem dX12_leafRead_80 : decode cX12_leafRead 80 = .ok (.aload_n 0, 1) := by decide +kernel
theorem dX12_leafRead_81 : decode cX12_leafRead 81 = .ok (.invokevirtual 206, 3) := by decide +kernel
theorem dX12_leafRead_84 : decode cX12_leafRead 84 = .ok (.iconst 1, 1) := by decide +kernel
theorem dX12_leafRead_85 : decode cX12_leafRead 85 = .ok (.ireturn, 1) := by decide +kernel
theorem dX12_leafRead_86 : decode cX12_leafRead 86 = .ok (.aload_n 0, 1) := by decide +kernel
theorem dX12_leafRead_87 : decode cX12_leafRead 87 = .ok (.invokevirtual 332, 3) := by decide +kernel
theorem dX12_leafRead_90 : decode cX12_leafRead 90 = .ok (.istore_n 1, 1) := by decide +kernel
theorem dX12_leafRead_91 : decode cX12_leafRead 91 = .ok (.iload_n 1, 1) := by decide +kernel
theorem dX12_leafRead_92 : decode cX12_leafRead 92 = .ok (.ifCond .ge 17, 3) := by decide +kernel
theorem dX12_leafRead_95 : decode cX12_leafRead 95 = .ok (.aload_n 0, 1) := by decide +kernel
theorem dX12_leafRead_96 : decode cX12_leafRead 96 = .ok (.getfield 172, 3) := by decide +kernel
theorem dX12_leafRead_99 : decode cX12_leafRead 99 = .ok (.iconst 3, 1) := by decide +kernel
theorem dX12_leafRead_100 : decode cX12_leafRead 100 = .ok (.if_icmp .eq 9, 3) := by decide +kernel
theorem dX12_leafRead_103 : decode cX12_leafRead 103 = .ok (.aload_n 0, 1) := by decide +kernel
theorem dX12_leafRead_104 : decode cX12_leafRead 104 = .ok (.iconst 1, 1) := by decide +kernel
theorem dX12_leafRead_105 : decode cX12_leafRead 105 = .ok (.invokevirtual 196, 3) := by decide +kernel
theorem dX12_leafRead_108 : decode cX12_leafRead 108 = .ok (.ireturn, 1) := by decide +kernel
theorem dX12_leafRead_109 : decode cX12_leafRead 109 = .ok (.iload_n 1, 1) := by decide +kernel
theorem dX12_leafRead_110 : decode cX12_leafRead 110 = .ok (.ifCond .ge 19, 3) := by decide +kernel
theorem dX12_leafRead_113 : decode cX12_leafRead 113 = .ok (.aload_n 0, 1) := by decide +kernel
theorem dX12_leafRead_114 : decode cX12_leafRead 114 = .ok (.getfield 183, 3) := by decide +kernel
theorem dX12_leafRead_117 : decode cX12_leafRead 117 = .ok (.sipush 9999, 3) := by decide +kernel
theorem dX12_leafRead_120 : decode cX12_leafRead 120 = .ok (.if_icmp .le 9, 3) := by decide +kernel
theorem dX12_leafRead_123 : decode cX12_leafRead 123 = .ok (.aload_n 0, 1) := by decide +kernel
theorem dX12_leafRead_124 : decode cX12_leafRead 124 = .ok (.iconst 2, 1) := by decide +kernel
theorem dX12_leafRead_125 : decode cX12_leafRead 125 = .ok (.invokevirtual 196, 3) := by decide +kernel
theorem dX12_leafRead_128 : decode cX12_leafRead 128 = .ok (.ireturn, 1) := by decide +kernel
theorem dX12_leafRead_129 : decode cX12_leafRead 129 = .ok (.aload_n 0, 1) := by decide +kernel
theorem dX12_leafRead_130 : decode cX12_leafRead 130 = .ok (.invokevirtual 329, 3) := by decide +kernel
theorem dX12_leafRead_133 : decode cX12_leafRead 133 = .ok (.ifCond .ne 5, 3) := by decide +kernel
theorem dX12_leafRead_136 : decode cX12_leafRead 136 = .ok (.iconst 0, 1) := by decide +kernel
theorem dX12_leafRead_137 : decode cX12_leafRead 137 = .ok (.ireturn, 1) := by decide +kernel
theorem dX12_leafRead_138 : decode cX12_leafRead 138 = .ok (.aload_n 0, 1) := by decide +kernel
theorem dX12_leafRead_139 : decode cX12_leafRead 139 = .ok (.iload_n 1, 1) := by decide +kernel
theorem dX12_leafRead_140 : decode cX12_leafRead 140 = .ok (.ifCond .lt 7, 3) := by decide +kernel
theorem dX12_leafRead_143 : decode cX12_leafRead 143 = .ok (.iconst 1, 1) := by decide +kernel
theorem dX12_leafRead_144 : decode cX12_leafRead 144 = .ok (.goto 4, 3) := by decide +kernel
theorem dX12_leafRead_147 : decode cX12_leafRead 147 = .ok (.iconst 0, 1) := by decide +kernel
theorem dX12_leafRead_148 : decode cX12_leafRead 148 = .ok (.iload_n 1, 1) := by decide +kernel
theorem dX12_leafRead_149 : decode cX12_leafRead 149 = .ok (.ifCond .lt 7, 3) := by decide +kernel
theorem dX12_leafRead_152 : decode cX12_leafRead 152 = .ok (.iload_n 1, 1) := by decide +kernel
theorem dX12_leafRead_153 : decode cX12_leafRead 153 = .ok (.goto 7, 3) := by decide +kernel
theorem dX12_leafRead_156 : decode cX12_leafRead 156 = .ok (.aload_n 0, 1) := by decide +kernel
theorem dX12_leafRead_157 : decode cX12_leafRead 157 = .ok (.getfield 183, 3) := by decide +kernel
theorem dX12_leafRead_160 : decode cX12_leafRead 160 = .ok (.iconst 0, 1) := by decide +kernel
theorem dX12_leafRead_161 : decode cX12_leafRead 161 = .ok (.invokevirtual 312, 3) := by decide +kernel
theorem dX12_leafRead_164 : decode cX12_leafRead 164 = .ok (.aload_n 0, 1) := by decide +kernel
theorem dX12_leafRead_165 : decode cX12_leafRead 165 = .ok (.iconst 0, 1) := by decide +kernel
theorem dX12_leafRead_166 : decode cX12_leafRead 166 = .ok (.putfield 335, 3) := by decide +kernel
theorem dX12_leafRead_169 : decode cX12_leafRead 169 = .ok (.aload_n 0, 1) := by decide +kernel
theorem dX12_leafRead_170 : decode cX12_leafRead 170 = .ok (.invokevirtual 206, 3) := by decide +kernel
theorem dX12_leafRead_173 : decode cX12_leafRead 173 = .ok (.iconst 1, 1) := by decide +kernel
theorem dX12_leafRead_174 : decode cX12_leafRead 174 = .ok (.ireturn, 1) := by decide +kernel
theorem dX12_seaLine_0 : decode cX12_seaLine 0 = .ok (.aload_n 0, 1) := by decide +kernel
theorem dX12_seaLine_1 : decode cX12_seaLine 1 = .ok (.getfield 20, 3) := by decide +kernel
theorem dX12_seaLine_4 : decode cX12_seaLine 4 = .ok (.iconst 0, 1) := by decide +kernel
theorem dX12_seaLine_5 : decode cX12_seaLine 5 = .ok (.baload, 1) := by decide +kernel
theorem dX12_seaLine_6 : decode cX12_seaLine 6 = .ok (.ifCond .eq 9, 3) := by decide +kernel
theorem dX12_seaLine_9 : decode cX12_seaLine 9 = .ok (.aload_n 0, 1) := by decide +kernel
theorem dX12_seaLine_10 : decode cX12_seaLine 10 = .ok (.iconst 3, 1) := by decide +kernel
theorem dX12_seaLine_11 : decode cX12_seaLine 11 = .ok (.invokevirtual 196, 3) := by decide +kernel
theorem dX12_seaLine_14 : decode cX12_seaLine 14 = .ok (.ireturn, 1) := by decide +kernel
theorem dX12_seaLine_15 : decode cX12_seaLine 15 = .ok (.aload_n 0, 1) := by decide +kernel
theorem dX12_seaLine_16 : decode cX12_seaLine 16 = .ok (.getfield 237, 3) := by decide +kernel
theorem dX12_seaLine_19 : decode cX12_seaLine 19 = .ok (.ifCond .eq 9, 3) := by decide +kernel
theorem dX12_seaLine_22 : decode cX12_seaLine 22 = .ok (.aload_n 0, 1) := by decide +kernel
theorem dX12_seaLine_23 : decode cX12_seaLine 23 = .ok (.iconst 4, 1) := by decide +kernel
theorem dX12_seaLine_24 : decode cX12_seaLine 24 = .ok (.invokevirtual 196, 3) := by decide +kernel
theorem dX12_seaLine_27 : decode cX12_seaLine 27 = .ok (.ireturn, 1) := by decide +kernel
theorem dX12_seaLine_28 : decode cX12_seaLine 28 = .ok (.aload_n 0, 1) := by decide +kernel
theorem dX12_seaLine_29 : decode cX12_seaLine 29 = .ok (.getfield 20, 3) := by decide +kernel
theorem dX12_seaLine_32 : decode cX12_seaLine 32 = .ok (.iconst 0, 1) := by decide +kernel
theorem dX12_seaLine_33 : decode cX12_seaLine 33 = .ok (.iconst 1, 1) := by decide +kernel
theorem dX12_seaLine_34 : decode cX12_seaLine 34 = .ok (.bastore, 1) := by decide +kernel
theorem dX12_seaLine_35 : decode cX12_seaLine 35 = .ok (.aload_n 0, 1) := by decide +kernel
theorem dX12_seaLine_36 : decode cX12_seaLine 36 = .ok (.invokevirtual 206, 3) := by decide +kernel
theorem dX12_seaLine_39 : decode cX12_seaLine 39 = .ok (.aload_n 0, 1) := by decide +kernel
theorem dX12_seaLine_40 : decode cX12_seaLine 40 = .ok (.iconst 1, 1) := by decide +kernel
theorem dX12_seaLine_41 : decode cX12_seaLine 41 = .ok (.bipush 8, 2) := by decide +kernel
theorem dX12_seaLine_43 : decode cX12_seaLine 43 = .ok (.invokevirtual 212, 3) := by decide +kernel
theorem dX12_seaLine_46 : decode cX12_seaLine 46 = .ok (.ifCond .ne 5, 3) := by decide +kernel
theorem dX12_seaLine_49 : decode cX12_seaLine 49 = .ok (.iconst 0, 1) := by decide +kernel
theorem dX12_seaLine_50 : decode cX12_seaLine 50 = .ok (.ireturn, 1) := by decide +kernel
theorem dX12_seaLine_51 : decode cX12_seaLine 51 = .ok (.aload_n 0, 1) := by decide +kernel
theorem dX12_seaLine_52 : decode cX12_seaLine 52 = .ok (.aload_n 0, 1) := by decide +kernel
theorem dX12_seaLine_53 : decode cX12_seaLine 53 = .ok (.getfield 203, 3) := by decide +kernel
theorem dX12_seaLine_56 : decode cX12_seaLine 56 = .ok (.putfield 216, 3) := by decide +kernel
theorem dX12_seaLine_59 : decode cX12_seaLine 59 = .ok (.aload_n 0, 1) := by decide +kernel
theorem dX12_seaLine_60 : decode cX12_seaLine 60 = .ok (.iconst 1, 1) := by decide +kernel
theorem dX12_seaLine_61 : decode cX12_seaLine 61 = .ok (.bipush 6, 2) := by decide +kernel
theorem dX12_seaLine_63 : decode cX12_seaLine 63 = .ok (.invokevirtual 212, 3) := by decide +kernel
theorem dX12_seaLine_66 : decode cX12_seaLine 66 = .ok (.ifCond .ne 5, 3) := by decide +kernel
theorem dX12_seaLine_69 : decode cX12_seaLine 69 = .ok (.iconst 0, 1) := by decide +kernel
theorem dX12_seaLine_70 : decode cX12_seaLine 70 = .ok (.ireturn, 1) := by decide +kernel
theorem dX12_seaLine_71 : decode cX12_seaLine 71 = .ok (.aload_n 0, 1) := by decide +kernel
theorem dX12_seaLine_72 : decode cX12_seaLine 72 = .ok (.aload_n 0, 1) := by decide +kernel
theorem dX12_seaLine_73 : decode cX12_seaLine 73 = .ok (.getfield 203, 3) := by decide +kernel
theorem dX12_seaLine_76 : decode cX12_seaLine 76 = .ok (.putfield 219, 3) := by decide +kernel
theorem dX12_seaLine_79 : decode cX12_seaLine 79 = .ok (.iconst 1, 1) := by decide +kernel
theorem dX12_seaLine_80 : decode cX12_seaLine 80 = .ok (.ireturn, 1) := by decide +kernel
theorem dX12_surferLine_0 : decode cX12_surferLine 0 = .ok (.aload_n 0, 1) := by decide +kernel
theorem dX12_surferLine_1 : decode cX12_surferLine 1 = .ok (.getfield 222, 3) := by decide +kernel
theorem dX12_surferLine_4 : decode cX12_surferLine 4 = .ok (.iconst 5, 1) := by decide +kernel
theorem dX12_surferLine_5 : decode cX12_surferLine 5 = .ok (.if_icmp .ne 9, 3) := by decide +kernel
theorem dX12_surferLine_8 : decode cX12_surferLine 8 = .ok (.aload_n 0, 1) := by decide +kernel
theorem dX12_surferLine_9 : decode cX12_surferLine 9 = .ok (.iconst 2, 1) := by decide +kernel
theorem dX12_surferLine_10 : decode cX12_surferLine 10 = .ok (.invokevirtual 196, 3) := by decide +kernel
theorem dX12_surferLine_13 : decode cX12_surferLine 13 = .ok (.ireturn, 1) := by decide +kernel
theorem dX12_surferLine_14 : decode cX12_surferLine 14 = .ok (.aload_n 0, 1) := by decide +kernel
theorem dX12_surferLine_15 : decode cX12_surferLine 15 = .ok (.invokevirtual 206, 3) := by decide +kernel
theorem dX12_surferLine_18 : decode cX12_surferLine 18 = .ok (.aload_n 0, 1) := by decide +kernel
theorem dX12_surferLine_19 : decode cX12_surferLine 19 = .ok (.getfield 172, 3) := by decide +kernel
theorem dX12_surferLine_22 : decode cX12_surferLine 22 = .ok (.iconst 2, 1) := by decide +kernel
theorem dX12_surferLine_23 : decode cX12_surferLine 23 = .ok (.if_icmp .eq 9, 3) := by decide +kernel
theorem dX12_surferLine_26 : decode cX12_surferLine 26 = .ok (.aload_n 0, 1) := by decide +kernel
theorem dX12_surferLine_27 : decode cX12_surferLine 27 = .ok (.iconst 1, 1) := by decide +kernel
theorem dX12_surferLine_28 : decode cX12_surferLine 28 = .ok (.invokevirtual 196, 3) := by decide +kernel
theorem dX12_surferLine_31 : decode cX12_surferLine 31 = .ok (.ireturn, 1) := by decide +kernel
theorem dX12_surferLine_32 : decode cX12_surferLine 32 = .ok (.aload_n 0, 1) := by decide +kernel
theorem dX12_surferLine_33 : decode cX12_surferLine 33 = .ok (.getfield 27, 3) := by decide +kernel
theorem dX12_surferLine_36 : decode cX12_surferLine 36 = .ok (.iconst 5, 1) := by decide +kernel
theorem dX12_surferLine_37 : decode cX12_surferLine 37 = .ok (.aload_n 0, 1) := by decide +kernel
theorem dX12_surferLine_38 : decode cX12_surferLine 38 = .ok (.getfield 222, 3) := by decide +kernel
theorem dX12_surferLine_41 : decode cX12_surferLine 41 = .ok (.aload_n 0, 1) := by decide +kernel
theorem dX12_surferLine_42 : decode cX12_surferLine 42 = .ok (.getfield 183, 3) := by decide +kernel
theorem dX12_surferLine_45 : decode cX12_surferLine 45 = .ok (.invokestatic 269, 3) := by decide +kernel
theorem dX12_surferLine_48 : decode cX12_surferLine 48 = .ok (.ifCond .lt 9, 3) := by decide +kernel
theorem dX12_surferLine_51 : decode cX12_surferLine 51 = .ok (.aload_n 0, 1) := by decide +kernel
theorem dX12_surferLine_52 : decode cX12_surferLine 52 = .ok (.iconst 3, 1) := by decide +kernel
theorem dX12_surferLine_53 : decode cX12_surferLine 53 = .ok (.invokevirtual 196, 3) := by decide +kernel
theorem dX12_surferLine_56 : decode cX12_surferLine 56 = .ok (.ireturn, 1) := by decide +kernel
theorem dX12_surferLine_57 : decode cX12_surferLine 57 = .ok (.iconst 5, 1) := by decide +kernel
theorem dX12_surferLine_58 : decode cX12_surferLine 58 = .ok (.aload_n 0, 1) := by decide +kernel
theorem dX12_surferLine_59 : decode cX12_surferLine 59 = .ok (.getfield 222, 3) := by decide +kernel
theorem dX12_surferLine_62 : decode cX12_surferLine 62 = .ok (.iadd, 1) := by decide +kernel
theorem dX12_surferLine_63 : decode cX12_surferLine 63 = .ok (.istore_n 1, 1) := by decide +kernel
theorem dX12_surferLine_64 : decode cX12_surferLine 64 = .ok (.aload_n 0, 1) := by decide +kernel
theorem dX12_surferLine_65 : decode cX12_surferLine 65 = .ok (.getfield 27, 3) := by decide +kernel
theorem dX12_surferLine_68 : decode cX12_surferLine 68 = .ok (.iload_n 1, 1) := by decide +kernel
theorem dX12_surferLine_69 : decode cX12_surferLine 69 = .ok (.aload_n 0, 1) := by decide +kernel
theorem dX12_surferLine_70 : decode cX12_surferLine 70 = .ok (.getfield 183, 3) := by decide +kernel
theorem dX12_surferLine_73 : decode cX12_surferLine 73 = .ok (.iastore, 1) := by decide +kernel
theorem dX12_surferLine_74 : decode cX12_surferLine 74 = .ok (.aload_n 0, 1) := by decide +kernel
theorem dX12_surferLine_75 : decode cX12_surferLine 75 = .ok (.invokevirtual 206, 3) := by decide +kernel
theorem dX12_surferLine_78 : decode cX12_surferLine 78 = .ok (.aload_n 0, 1) := by decide +kernel
theorem dX12_surferLine_79 : decode cX12_surferLine 79 = .ok (.invokevirtual 273, 3) := by decide +kernel
theorem dX12_surferLine_82 : decode cX12_surferLine 82 = .ok (.ifCond .ne 5, 3) := by decide +kernel
theorem dX12_surferLine_85 : decode cX12_surferLine 85 = .ok (.iconst 0, 1) := by decide +kernel
theorem dX12_surferLine_86 : decode cX12_surferLine 86 = .ok (.ireturn, 1) := by decide +kernel
theorem dX12_surferLine_87 : decode cX12_surferLine 87 = .ok (.aload_n 0, 1) := by decide +kernel
theorem dX12_surferLine_88 : decode cX12_surferLine 88 = .ok (.getfield 30, 3) := by decide +kernel
theorem dX12_surferLine_91 : decode cX12_surferLine 91 = .ok (.iload_n 1, 1) := by decide +kernel
theorem dX12_surferLine_92 : decode cX12_surferLine 92 = .ok (.aload_n 0, 1) := by decide +kernel
theorem dX12_surferLine_93 : decode cX12_surferLine 93 = .ok (.getfield 216, 3) := by decide +kernel
theorem dX12_surferLine_96 : decode cX12_surferLine 96 = .ok (.aload_n 0, 1) := by decide +kernel
theorem dX12_surferLine_97 : decode cX12_surferLine 97 = .ok (.getfield 203, 3) := by decide +kernel
theorem dX12_surferLine_100 : decode cX12_surferLine 100 = .ok (.imul, 1) := by decide +kernel
theorem dX12_surferLine_101 : decode cX12_surferLine 101 = .ok (.aload_n 0, 1) := by decide +kernel
theorem dX12_surferLine_102 : decode cX12_surferLine 102 = .ok (.getfield 266, 3) := by decide +kernel
theorem dX12_surferLine_105 : decode cX12_surferLine 105 = .ok (.iadd, 1) := by decide +kernel
theorem dX12_surferLine_106 : decode cX12_surferLine 106 = .ok (.iastore, 1) := by decide +kernel
theorem dX12_surferLine_107 : decode cX12_surferLine 107 = .ok (.aload_n 0, 1) := by decide +kernel
theorem dX12_surferLine_108 : decode cX12_surferLine 108 = .ok (.iconst 1, 1) := by decide +kernel
theorem dX12_surferLine_109 : decode cX12_surferLine 109 = .ok (.bipush 9, 2) := by decide +kernel
theorem dX12_surferLine_111 : decode cX12_surferLine 111 = .ok (.invokevirtual 212, 3) := by decide +kernel
theorem dX12_surferLine_114 : decode cX12_surferLine 114 = .ok (.ifCond .ne 5, 3) := by decide +kernel
theorem dX12_surferLine_117 : decode cX12_surferLine 117 = .ok (.iconst 0, 1) := by decide +kernel
theorem dX12_surferLine_118 : decode cX12_surferLine 118 = .ok (.ireturn, 1) := by decide +kernel
theorem dX12_surferLine_119 : decode cX12_surferLine 119 = .ok (.aload_n 0, 1) := by decide +kernel
theorem dX12_surferLine_120 : decode cX12_surferLine 120 = .ok (.getfield 33, 3) := by decide +kernel
theorem dX12_surferLine_123 : decode cX12_surferLine 123 = .ok (.iload_n 1, 1) := by decide +kernel
theorem dX12_surferLine_124 : decode cX12_surferLine 124 = .ok (.aload_n 0, 1) := by decide +kernel
theorem dX12_surferLine_125 : decode cX12_surferLine 125 = .ok (.getfield 203, 3) := by decide +kernel
theorem dX12_surferLine_128 : decode cX12_surferLine 128 = .ok (.iastore, 1) := by decide +kernel
theorem dX12_surferLine_129 : decode cX12_surferLine 129 = .ok (.aload_n 0, 1) := by decide +kernel
theorem dX12_surferLine_130 : decode cX12_surferLine 130 = .ok (.iconst 1, 1) := by decide +kernel
theorem dX12_surferLine_131 : decode cX12_surferLine 131 = .ok (.iconst 3, 1) := by decide +kernel
theorem dX12_surferLine_132 : decode cX12_surferLine 132 = .ok (.invokevirtual 212, 3) := by decide +kernel
theorem dX12_surferLine_135 : decode cX12_surferLine 135 = .ok (.ifCond .ne 5, 3) := by decide +kernel
theorem dX12_surferLine_138 : decode cX12_surferLine 138 = .ok (.iconst 0, 1) := by decide +kernel
theorem dX12_surferLine_139 : decode cX12_surferLine 139 = .ok (.ireturn, 1) := by decide +kernel
theorem dX12_surferLine_140 : decode cX12_surferLine 140 = .ok (.aload_n 0, 1) := by decide +kernel
theorem dX12_surferLine_141 : decode cX12_surferLine 141 = .ok (.getfield 36, 3) := by decide +kernel
theorem dX12_surferLine_144 : decode cX12_surferLine 144 = .ok (.iload_n 1, 1) := by decide +kernel
theorem dX12_surferLine_145 : decode cX12_surferLine 145 = .ok (.aload_n 0, 1) := by decide +kernel
theorem dX12_surferLine_146 : decode cX12_surferLine 146 = .ok (.getfield 203, 3) := by decide +kernel
theorem dX12_surferLine_149 : decode cX12_surferLine 149 = .ok (.iastore, 1) := by decide +kernel
theorem dX12_surferLine_150 : decode cX12_surferLine 150 = .ok (.aload_n 0, 1) := by decide +kernel
theorem dX12_surferLine_151 : decode cX12_surferLine 151 = .ok (.iconst 0, 1) := by decide +kernel
theorem dX12_surferLine_152 : decode cX12_surferLine 152 = .ok (.bipush 100, 2) := by decide +kernel
theorem dX12_surferLine_154 : decode cX12_surferLine 154 = .ok (.invokevirtual 212, 3) := by decide +kernel
theorem dX12_surferLine_157 : decode cX12_surferLine 157 = .ok (.ifCond .ne 5, 3) := by decide +kernel
theorem dX12_surferLine_160 : decode cX12_surferLine 160 = .ok (.iconst 0, 1) := by decide +kernel
theorem dX12_surferLine_161 : decode cX12_surferLine 161 = .ok (.ireturn, 1) := by decide +kernel
theorem dX12_surferLine_162 : decode cX12_surferLine 162 = .ok (.aload_n 0, 1) := by decide +kernel
theorem dX12_surferLine_163 : decode cX12_surferLine 163 = .ok (.getfield 39, 3) := by decide +kernel
theorem dX12_surferLine_166 : decode cX12_surferLine 166 = .ok (.iload_n 1, 1) := by decide +kernel
theorem dX12_surferLine_167 : decode cX12_surferLine 167 = .ok (.aload_n 0, 1) := by decide +kernel
theorem dX12_surferLine_168 : decode cX12_surferLine 168 = .ok (.getfield 203, 3) := by decide +kernel
theorem dX12_surferLine_171 : decode cX12_surferLine 171 = .ok (.iastore, 1) := by decide +kernel
theorem dX12_surferLine_172 : decode cX12_surferLine 172 = .ok (.aload_n 0, 1) := by decide +kernel
theorem dX12_surferLine_173 : decode cX12_surferLine 173 = .ok (.iconst 0, 1) := by decide +kernel
theorem dX12_surferLine_174 : decode cX12_surferLine 174 = .ok (.bipush 100, 2) := by decide +kernel
theorem dX12_surferLine_176 : decode cX12_surferLine 176 = .ok (.invokevirtual 212, 3) := by decide +kernel
theorem dX12_surferLine_179 : decode cX12_surferLine 179 = .ok (.ifCond .ne 5, 3) := by decide +kernel
theorem dX12_surferLine_182 : decode cX12_surferLine 182 = .ok (.iconst 0, 1) := by decide +kernel
theorem dX12_surferLine_183 : decode cX12_surferLine 183 = .ok (.ireturn, 1) := by decide +kernel
theorem dX12_surferLine_184 : decode cX12_surferLine 184 = .ok (.aload_n 0, 1) := by decide +kernel
theorem dX12_surferLine_185 : decode cX12_surferLine 185 = .ok (.getfield 42, 3) := by decide +kernel
theorem dX12_surferLine_188 : decode cX12_surferLine 188 = .ok (.iload_n 1, 1) := by decide +kernel
theorem dX12_surferLine_189 : decode cX12_surferLine 189 = .ok (.aload_n 0, 1) := by decide +kernel
theorem dX12_surferLine_190 : decode cX12_surferLine 190 = .ok (.getfield 203, 3) := by decide +kernel
theorem dX12_surferLine_193 : decode cX12_surferLine 193 = .ok (.iastore, 1) := by decide +kernel
theorem dX12_surferLine_194 : decode cX12_surferLine 194 = .ok (.aload_n 0, 1) := by decide +kernel
theorem dX12_surferLine_195 : decode cX12_surferLine 195 = .ok (.dup, 1) := by decide +kernel
theorem dX12_surferLine_196 : decode cX12_surferLine 196 = .ok (.getfield 222, 3) := by decide +kernel
theorem dX12_surferLine_199 : decode cX12_surferLine 199 = .ok (.iconst 1, 1) := by decide +kernel
theorem dX12_surferLine_200 : decode cX12_surferLine 200 = .ok (.iadd, 1) := by decide +kernel
theorem dX12_surferLine_201 : decode cX12_surferLine 201 = .ok (.putfield 222, 3) := by decide +kernel
theorem dX12_surferLine_204 : decode cX12_surferLine 204 = .ok (.iconst 1, 1) := by decide +kernel
theorem dX12_surferLine_205 : decode cX12_surferLine 205 = .ok (.ireturn, 1) := by decide +kernel
theorem dX12_setLine_0 : decode cX12_setLine 0 = .ok (.aload_n 0, 1) := by decide +kernel
theorem dX12_setLine_1 : decode cX12_setLine 1 = .ok (.getfield 225, 3) := by decide +kernel
theorem dX12_setLine_4 : decode cX12_setLine 4 = .ok (.iconst 4, 1) := by decide +kernel
theorem dX12_setLine_5 : decode cX12_setLine 5 = .ok (.if_icmp .ne 9, 3) := by decide +kernel
theorem dX12_setLine_8 : decode cX12_setLine 8 = .ok (.aload_n 0, 1) := by decide +kernel
theorem dX12_setLine_9 : decode cX12_setLine 9 = .ok (.iconst 2, 1) := by decide +kernel
theorem dX12_setLine_10 : decode cX12_setLine 10 = .ok (.invokevirtual 196, 3) := by decide +kernel
theorem dX12_setLine_13 : decode cX12_setLine 13 = .ok (.ireturn, 1) := by decide +kernel
theorem dX12_setLine_14 : decode cX12_setLine 14 = .ok (.aload_n 0, 1) := by decide +kernel
theorem dX12_setLine_15 : decode cX12_setLine 15 = .ok (.invokevirtual 206, 3) := by decide +kernel
theorem dX12_setLine_18 : decode cX12_setLine 18 = .ok (.aload_n 0, 1) := by decide +kernel
theorem dX12_setLine_19 : decode cX12_setLine 19 = .ok (.getfield 163, 3) := by decide +kernel
theorem dX12_setLine_22 : decode cX12_setLine 22 = .ok (.istore_n 1, 1) := by decide +kernel
theorem dX12_setLine_23 : decode cX12_setLine 23 = .ok (.aload_n 0, 1) := by decide +kernel
theorem dX12_setLine_24 : decode cX12_setLine 24 = .ok (.iconst 0, 1) := by decide +kernel
theorem dX12_setLine_25 : decode cX12_setLine 25 = .ok (.bipush 99, 2) := by decide +kernel
theorem dX12_setLine_27 : decode cX12_setLine 27 = .ok (.invokevirtual 212, 3) := by decide +kernel
theorem dX12_setLine_30 : decode cX12_setLine 30 = .ok (.ifCond .ne 5, 3) := by decide +kernel
theorem dX12_setLine_33 : decode cX12_setLine 33 = .ok (.iconst 0, 1) := by decide +kernel
theorem dX12_setLine_34 : decode cX12_setLine 34 = .ok (.ireturn, 1) := by decide +kernel
theorem dX12_setLine_35 : decode cX12_setLine 35 = .ok (.aload_n 0, 1) := by decide +kernel
theorem dX12_setLine_36 : decode cX12_setLine 36 = .ok (.getfield 228, 3) := by decide +kernel
theorem dX12_setLine_39 : decode cX12_setLine 39 = .ok (.ifCond .le 35, 3) := by decide +kernel
theorem dX12_setLine_42 : decode cX12_setLine 42 = .ok (.aload_n 0, 1) := by decide +kernel
theorem dX12_setLine_43 : decode cX12_setLine 43 = .ok (.getfield 203, 3) := by decide +kernel
theorem dX12_setLine_46 : decode cX12_setLine 46 = .ok (.aload_n 0, 1) := by decide +kernel
theorem dX12_setLine_47 : decode cX12_setLine 47 = .ok (.getfield 48, 3) := by decide +kernel
theorem dX12_setLine_50 : decode cX12_setLine 50 = .ok (.bipush 28, 2) := by decide +kernel
theorem dX12_setLine_52 : decode cX12_setLine 52 = .ok (.aload_n 0, 1) := by decide +kernel
theorem dX12_setLine_53 : decode cX12_setLine 53 = .ok (.getfield 228, 3) := by decide +kernel
theorem dX12_setLine_56 : decode cX12_setLine 56 = .ok (.iadd, 1) := by decide +kernel
theorem dX12_setLine_57 : decode cX12_setLine 57 = .ok (.iconst 1, 1) := by decide +kernel
theorem dX12_setLine_58 : decode cX12_setLine 58 = .ok (.isub, 1) := by decide +kernel
theorem dX12_setLine_59 : decode cX12_setLine 59 = .ok (.iaload, 1) := by decide +kernel
theorem dX12_setLine_60 : decode cX12_setLine 60 = .ok (.if_icmp .gt 14, 3) := by decide +kernel
theorem dX12_setLine_63 : decode cX12_setLine 63 = .ok (.aload_n 0, 1) := by decide +kernel
theorem dX12_setLine_64 : decode cX12_setLine 64 = .ok (.iload_n 1, 1) := by decide +kernel
theorem dX12_setLine_65 : decode cX12_setLine 65 = .ok (.putfield 163, 3) := by decide +kernel
theorem dX12_setLine_68 : decode cX12_setLine 68 = .ok (.aload_n 0, 1) := by decide +kernel
theorem dX12_setLine_69 : decode cX12_setLine 69 = .ok (.iconst 5, 1) := by decide +kernel
theorem dX12_setLine_70 : decode cX12_setLine 70 = .ok (.invokevirtual 196, 3) := by decide +kernel
theorem dX12_setLine_73 : decode cX12_setLine 73 = .ok (.ireturn, 1) := by decide +kernel
theorem dX12_setLine_74 : decode cX12_setLine 74 = .ok (.aload_n 0, 1) := by decide +kernel
theorem dX12_setLine_75 : decode cX12_setLine 75 = .ok (.getfield 203, 3) := by decide +kernel
theorem dX12_setLine_78 : decode cX12_setLine 78 = .ok (.istore_n 2, 1) := by decide +kernel
theorem dX12_setLine_79 : decode cX12_setLine 79 = .ok (.aload_n 0, 1) := by decide +kernel
theorem dX12_setLine_80 : decode cX12_setLine 80 = .ok (.getfield 172, 3) := by decide +kernel
theorem dX12_setLine_83 : decode cX12_setLine 83 = .ok (.iconst 3, 1) := by decide +kernel
theorem dX12_setLine_84 : decode cX12_setLine 84 = .ok (.if_icmp .eq 9, 3) := by decide +kernel
theorem dX12_setLine_87 : decode cX12_setLine 87 = .ok (.aload_n 0, 1) := by decide +kernel
theorem dX12_setLine_88 : decode cX12_setLine 88 = .ok (.iconst 1, 1) := by decide +kernel
theorem dX12_setLine_89 : decode cX12_setLine 89 = .ok (.invokevirtual 196, 3) := by decide +kernel
theorem dX12_setLine_92 : decode cX12_setLine 92 = .ok (.ireturn, 1) := by decide +kernel
theorem dX12_setLine_93 : decode cX12_setLine 93 = .ok (.aload_n 0, 1) := by decide +kernel
theorem dX12_setLine_94 : decode cX12_setLine 94 = .ok (.getfield 45, 3) := by decide +kernel
theorem dX12_setLine_97 : decode cX12_setLine 97 = .ok (.iconst 4, 1) := by decide +kernel
theorem dX12_setLine_98 : decode cX12_setLine 98 = .ok (.aload_n 0, 1) := by decide +kernel
theorem dX12_setLine_99 : decode cX12_setLine 99 = .ok (.getfield 225, 3) := by decide +kernel
theorem dX12_setLine_102 : decode cX12_setLine 102 = .ok (.iadd, 1) := by decide +kernel
theorem dX12_setLine_103 : decode cX12_setLine 103 = .ok (.aload_n 0, 1) := by decide +kernel
theorem dX12_setLine_104 : decode cX12_setLine 104 = .ok (.getfield 228, 3) := by decide +kernel
theorem dX12_setLine_107 : decode cX12_setLine 107 = .ok (.iastore, 1) := by decide +kernel
theorem dX12_setLine_108 : decode cX12_setLine 108 = .ok (.iconst 0, 1) := by decide +kernel
theorem dX12_setLine_109 : decode cX12_setLine 109 = .ok (.istore_n 3, 1) := by decide +kernel
theorem dX12_setLine_110 : decode cX12_setLine 110 = .ok (.aload_n 0, 1) := by decide +kernel
theorem dX12_setLine_111 : decode cX12_setLine 111 = .ok (.getfield 172, 3) := by decide +kernel
theorem dX12_setLine_114 : decode cX12_setLine 114 = .ok (.iconst 3, 1) := by decide +kernel
theorem dX12_setLine_115 : decode cX12_setLine 115 = .ok (.if_icmp .ne 90, 3) := by decide +kernel
theorem dX12_setLine_118 : decode cX12_setLine 118 = .ok (.iload_n 3, 1) := by decide +kernel
theorem dX12_setLine_119 : decode cX12_setLine 119 = .ok (.bipush 7, 2) := by decide +kernel
theorem dX12_setLine_121 : decode cX12_setLine 121 = .ok (.if_icmp .ne 9, 3) := by decide +kernel
theorem dX12_setLine_124 : decode cX12_setLine 124 = .ok (.aload_n 0, 1) := by decide +kernel
theorem dX12_setLine_125 : decode cX12_setLine 125 = .ok (.iconst 2, 1) := by decide +kernel
theorem dX12_setLine_126 : decode cX12_setLine 126 = .ok (.invokevirtual 196, 3) := by decide +kernel
theorem dX12_setLine_129 : decode cX12_setLine 129 = .ok (.ireturn, 1) := by decide +kernel
theorem dX12_setLine_130 : decode cX12_setLine 130 = .ok (.aload_n 0, 1) := by decide +kernel
theorem dX12_setLine_131 : decode cX12_setLine 131 = .ok (.iconst 1, 1) := by decide +kernel
theorem dX12_setLine_132 : decode cX12_setLine 132 = .ok (.bipush 9, 2) := by decide +kernel
theorem dX12_setLine_134 : decode cX12_setLine 134 = .ok (.invokevirtual 212, 3) := by decide +kernel
theorem dX12_setLine_137 : decode cX12_setLine 137 = .ok (.ifCond .ne 5, 3) := by decide +kernel
theorem dX12_setLine_140 : decode cX12_setLine 140 = .ok (.iconst 0, 1) := by decide +kernel
theorem dX12_setLine_141 : decode cX12_setLine 141 = .ok (.ireturn, 1) := by decide +kernel
theorem dX12_setLine_142 : decode cX12_setLine 142 = .ok (.aload_n 0, 1) := by decide +kernel
theorem dX12_setLine_143 : decode cX12_setLine 143 = .ok (.getfield 48, 3) := by decide +kernel
theorem dX12_setLine_146 : decode cX12_setLine 146 = .ok (.bipush 28, 2) := by decide +kernel
theorem dX12_setLine_148 : decode cX12_setLine 148 = .ok (.aload_n 0, 1) := by decide +kernel
theorem dX12_setLine_149 : decode cX12_setLine 149 = .ok (.getfield 228, 3) := by decide +kernel
theorem dX12_setLine_152 : decode cX12_setLine 152 = .ok (.iadd, 1) := by decide +kernel
theorem dX12_setLine_153 : decode cX12_setLine 153 = .ok (.iload_n 2, 1) := by decide +kernel
theorem dX12_setLine_154 : decode cX12_setLine 154 = .ok (.iload_n 3, 1) := by decide +kernel
theorem dX12_setLine_155 : decode cX12_setLine 155 = .ok (.iadd, 1) := by decide +kernel
theorem dX12_setLine_156 : decode cX12_setLine 156 = .ok (.iastore, 1) := by decide +kernel
theorem dX12_setLine_157 : decode cX12_setLine 157 = .ok (.aload_n 0, 1) := by decide +kernel
theorem dX12_setLine_158 : decode cX12_setLine 158 = .ok (.getfield 51, 3) := by decide +kernel
theorem dX12_setLine_161 : decode cX12_setLine 161 = .ok (.bipush 28, 2) := by decide +kernel
theorem dX12_setLine_163 : decode cX12_setLine 163 = .ok (.aload_n 0, 1) := by decide +kernel
theorem dX12_setLine_164 : decode cX12_setLine 164 = .ok (.getfield 228, 3) := by decide +kernel
theorem dX12_setLine_167 : decode cX12_setLine 167 = .ok (.iadd, 1) := by decide +kernel
theorem dX12_setLine_168 : decode cX12_setLine 168 = .ok (.aload_n 0, 1) := by decide +kernel
theorem dX12_setLine_169 : decode cX12_setLine 169 = .ok (.getfield 203, 3) := by decide +kernel
theorem dX12_setLine_172 : decode cX12_setLine 172 = .ok (.iastore, 1) := by decide +kernel
theorem dX12_setLine_173 : decode cX12_setLine 173 = .ok (.aload_n 0, 1) := by decide +kernel
theorem dX12_setLine_174 : decode cX12_setLine 174 = .ok (.getfield 54, 3) := by decide +kernel
theorem dX12_setLine_177 : decode cX12_setLine 177 = .ok (.bipush 28, 2) := by decide +kernel
theorem dX12_setLine_179 : decode cX12_setLine 179 = .ok (.aload_n 0, 1) := by decide +kernel
theorem dX12_setLine_180 : decode cX12_setLine 180 = .ok (.getfield 228, 3) := by decide +kernel
theorem dX12_setLine_183 : decode cX12_setLine 183 = .ok (.iadd, 1) := by decide +kernel
theorem dX12_setLine_184 : decode cX12_setLine 184 = .ok (.aload_n 0, 1) := by decide +kernel
theorem dX12_setLine_185 : decode cX12_setLine 185 = .ok (.getfield 225, 3) := by decide +kernel
theorem dX12_setLine_188 : decode cX12_setLine 188 = .ok (.iastore, 1) := by decide +kernel
theorem dX12_setLine_189 : decode cX12_setLine 189 = .ok (.aload_n 0, 1) := by decide +kernel
theorem dX12_setLine_190 : decode cX12_setLine 190 = .ok (.dup, 1) := by decide +kernel
theorem dX12_setLine_191 : decode cX12_setLine 191 = .ok (.getfield 228, 3) := by decide +kernel
theorem dX12_setLine_194 : decode cX12_setLine 194 = .ok (.iconst 1, 1) := by decide +kernel
theorem dX12_setLine_195 : decode cX12_setLine 195 = .ok (.iadd, 1) := by decide +kernel
theorem dX12_setLine_196 : decode cX12_setLine 196 = .ok (.putfield 228, 3) := by decide +kernel
theorem dX12_setLine_199 : decode cX12_setLine 199 = .ok (.iinc 3 1, 3) := by decide +kernel
theorem dX12_setLine_202 : decode cX12_setLine 202 = .ok (.goto (-92), 3) := by decide +kernel
theorem dX12_setLine_205 : decode cX12_setLine 205 = .ok (.aload_n 0, 1) := by decide +kernel
theorem dX12_setLine_206 : decode cX12_setLine 206 = .ok (.dup, 1) := by decide +kernel
theorem dX12_setLine_207 : decode cX12_setLine 207 = .ok (.getfield 225, 3) := by decide +kernel
theorem dX12_setLine_210 : decode cX12_setLine 210 = .ok (.iconst 1, 1) := by decide +kernel
theorem dX12_setLine_211 : decode cX12_setLine 211 = .ok (.iadd, 1) := by decide +kernel
theorem dX12_setLine_212 : decode cX12_setLine 212 = .ok (.putfield 225, 3) := by decide +kernel
theorem dX12_setLine_215 : decode cX12_setLine 215 = .ok (.iconst 1, 1) := by decide +kernel
theorem dX12_setLine_216 : decode cX12_setLine 216 = .ok (.ireturn, 1) := by decide +kernel
theorem dX12_onceLine_0 : decode cX12_onceLine 0 = .ok (.aload_n 0, 1) := by decide +kernel
theorem dX12_onceLine_1 : decode cX12_onceLine 1 = .ok (.getfield 183, 3) := by decide +kernel
theorem dX12_onceLine_4 : decode cX12_onceLine 4 = .ok (.iconst 1, 1) := by decide +kernel
theorem dX12_onceLine_5 : decode cX12_onceLine 5 = .ok (.if_icmp .ne 7, 3) := by decide +kernel
theorem dX12_onceLine_8 : decode cX12_onceLine 8 = .ok (.iconst 1, 1) := by decide +kernel
theorem dX12_onceLine_9 : decode cX12_onceLine 9 = .ok (.goto 28, 3) := by decide +kernel
theorem dX12_onceLine_12 : decode cX12_onceLine 12 = .ok (.aload_n 0, 1) := by decide +kernel
theorem dX12_onceLine_13 : decode cX12_onceLine 13 = .ok (.getfield 183, 3) := by decide +kernel
theorem dX12_onceLine_16 : decode cX12_onceLine 16 = .ok (.iconst 4, 1) := by decide +kernel
theorem dX12_onceLine_17 : decode cX12_onceLine 17 = .ok (.if_icmp .ne 7, 3) := by decide +kernel
theorem dX12_onceLine_20 : decode cX12_onceLine 20 = .ok (.iconst 2, 1) := by decide +kernel
theorem dX12_onceLine_21 : decode cX12_onceLine 21 = .ok (.goto 16, 3) := by decide +kernel
theorem dX12_onceLine_24 : decode cX12_onceLine 24 = .ok (.aload_n 0, 1) := by decide +kernel
theorem dX12_onceLine_25 : decode cX12_onceLine 25 = .ok (.getfield 183, 3) := by decide +kernel
theorem dX12_onceLine_28 : decode cX12_onceLine 28 = .ok (.iconst 5, 1) := by decide +kernel
theorem dX12_onceLine_29 : decode cX12_onceLine 29 = .ok (.if_icmp .ne 7, 3) := by decide +kernel
theorem dX12_onceLine_32 : decode cX12_onceLine 32 = .ok (.iconst 3, 1) := by decide +kernel
theorem dX12_onceLine_33 : decode cX12_onceLine 33 = .ok (.goto 4, 3) := by decide +kernel
theorem dX12_onceLine_36 : decode cX12_onceLine 36 = .ok (.iconst 4, 1) := by decide +kernel
theorem dX12_onceLine_37 : decode cX12_onceLine 37 = .ok (.istore_n 1, 1) := by decide +kernel
theorem dX12_onceLine_38 : decode cX12_onceLine 38 = .ok (.aload_n 0, 1) := by decide +kernel
theorem dX12_onceLine_39 : decode cX12_onceLine 39 = .ok (.getfield 20, 3) := by decide +kernel
theorem dX12_onceLine_42 : decode cX12_onceLine 42 = .ok (.iload_n 1, 1) := by decide +kernel
theorem dX12_onceLine_43 : decode cX12_onceLine 43 = .ok (.baload, 1) := by decide +kernel
theorem dX12_onceLine_44 : decode cX12_onceLine 44 = .ok (.ifCond .eq 9, 3) := by decide +kernel
theorem dX12_onceLine_47 : decode cX12_onceLine 47 = .ok (.aload_n 0, 1) := by decide +kernel
theorem dX12_onceLine_48 : decode cX12_onceLine 48 = .ok (.iconst 3, 1) := by decide +kernel
theorem dX12_onceLine_49 : decode cX12_onceLine 49 = .ok (.invokevirtual 196, 3) := by decide +kernel
theorem dX12_onceLine_52 : decode cX12_onceLine 52 = .ok (.ireturn, 1) := by decide +kernel
theorem dX12_onceLine_53 : decode cX12_onceLine 53 = .ok (.aload_n 0, 1) := by decide +kernel
theorem dX12_onceLine_54 : decode cX12_onceLine 54 = .ok (.getfield 20, 3) := by decide +kernel
theorem dX12_onceLine_57 : decode cX12_onceLine 57 = .ok (.iload_n 1, 1) := by decide +kernel
theorem dX12_onceLine_58 : decode cX12_onceLine 58 = .ok (.iconst 1, 1) := by decide +kernel
theorem dX12_onceLine_59 : decode cX12_onceLine 59 = .ok (.bastore, 1) := by decide +kernel
theorem dX12_onceLine_60 : decode cX12_onceLine 60 = .ok (.iload_n 1, 1) := by decide +kernel
theorem dX12_onceLine_61 : decode cX12_onceLine 61 = .ok (.iconst 2, 1) := by decide +kernel
theorem dX12_onceLine_62 : decode cX12_onceLine 62 = .ok (.if_icmp .ne 8, 3) := by decide +kernel
theorem dX12_onceLine_65 : decode cX12_onceLine 65 = .ok (.aload_n 0, 1) := by decide +kernel
theorem dX12_onceLine_66 : decode cX12_onceLine 66 = .ok (.invokevirtual 277, 3) := by decide +kernel
theorem dX12_onceLine_69 : decode cX12_onceLine 69 = .ok (.ireturn, 1) := by decide +kernel
theorem dX12_onceLine_70 : decode cX12_onceLine 70 = .ok (.aload_n 0, 1) := by decide +kernel
theorem dX12_onceLine_71 : decode cX12_onceLine 71 = .ok (.invokevirtual 206, 3) := by decide +kernel
theorem dX12_onceLine_74 : decode cX12_onceLine 74 = .ok (.iload_n 1, 1) := by decide +kernel
theorem dX12_onceLine_75 : decode cX12_onceLine 75 = .ok (.iconst 1, 1) := by decide +kernel
theorem dX12_onceLine_76 : decode cX12_onceLine 76 = .ok (.if_icmp .ne 36, 3) := by decide +kernel
theorem dX12_onceLine_79 : decode cX12_onceLine 79 = .ok (.aload_n 0, 1) := by decide +kernel
theorem dX12_onceLine_80 : decode cX12_onceLine 80 = .ok (.invokevirtual 273, 3) := by decide +kernel
theorem dX12_onceLine_83 : decode cX12_onceLine 83 = .ok (.ifCond .ne 5, 3) := by decide +kernel
theorem dX12_onceLine_86 : decode cX12_onceLine 86 = .ok (.iconst 0, 1) := by decide +kernel
theorem dX12_onceLine_87 : decode cX12_onceLine 87 = .ok (.ireturn, 1) := by decide +kernel
theorem dX12_onceLine_88 : decode cX12_onceLine 88 = .ok (.aload_n 0, 1) := by decide +kernel
theorem dX12_onceLine_89 : decode cX12_onceLine 89 = .ok (.getfield 24, 3) := by decide +kernel
theorem dX12_onceLine_92 : decode cX12_onceLine 92 = .ok (.bipush 7, 2) := by decide +kernel
theorem dX12_onceLine_94 : decode cX12_onceLine 94 = .ok (.aload_n 0, 1) := by decide +kernel
theorem dX12_onceLine_95 : decode cX12_onceLine 95 = .ok (.getfield 266, 3) := by decide +kernel
theorem dX12_onceLine_98 : decode cX12_onceLine 98 = .ok (.iastore, 1) := by decide +kernel
theorem dX12_onceLine_99 : decode cX12_onceLine 99 = .ok (.aload_n 0, 1) := by decide +kernel
theorem dX12_onceLine_100 : decode cX12_onceLine 100 = .ok (.getfield 24, 3) := by decide +kernel
theorem dX12_onceLine_103 : decode cX12_onceLine 103 = .ok (.bipush 8, 2) := by decide +kernel
theorem dX12_onceLine_105 : decode cX12_onceLine 105 = .ok (.aload_n 0, 1) := by decide +kernel
theorem dX12_onceLine_106 : decode cX12_onceLine 106 = .ok (.getfield 203, 3) := by decide +kernel
theorem dX12_onceLine_109 : decode cX12_onceLine 109 = .ok (.iastore, 1) := by decide +kernel
theorem dX12_onceLine_110 : decode cX12_onceLine 110 = .ok (.iconst 1, 1) := by decide +kernel
theorem dX12_onceLine_111 : decode cX12_onceLine 111 = .ok (.ireturn, 1) := by decide +kernel
theorem dX12_onceLine_112 : decode cX12_onceLine 112 = .ok (.iload_n 1, 1) := by decide +kernel
theorem dX12_onceLine_113 : decode cX12_onceLine 113 = .ok (.iconst 4, 1) := by decide +kernel
theorem dX12_onceLine_114 : decode cX12_onceLine 114 = .ok (.if_icmp .ne 28, 3) := by decide +kernel
theorem dX12_onceLine_117 : decode cX12_onceLine 117 = .ok (.aload_n 0, 1) := by decide +kernel
theorem dX12_onceLine_118 : decode cX12_onceLine 118 = .ok (.iconst 0, 1) := by decide +kernel
theorem dX12_onceLine_119 : decode cX12_onceLine 119 = .ok (.ldc 192, 2) := by decide +kernel
theorem dX12_onceLine_121 : decode cX12_onceLine 121 = .ok (.invokevirtual 212, 3) := by decide +kernel
theorem dX12_onceLine_124 : decode cX12_onceLine 124 = .ok (.ifCond .ne 5, 3) := by decide +kernel
theorem dX12_onceLine_127 : decode cX12_onceLine 127 = .ok (.iconst 0, 1) := by decide +kernel
theorem dX12_onceLine_128 : decode cX12_onceLine 128 = .ok (.ireturn, 1) := by decide +kernel
theorem dX12_onceLine_129 : decode cX12_onceLine 129 = .ok (.aload_n 0, 1) := by decide +kernel
theorem dX12_onceLine_130 : decode cX12_onceLine 130 = .ok (.getfield 24, 3) := by decide +kernel
theorem dX12_onceLine_133 : decode cX12_onceLine 133 = .ok (.bipush 13, 2) := by decide +kernel
theorem dX12_onceLine_135 : decode cX12_onceLine 135 = .ok (.aload_n 0, 1) := by decide +kernel
theorem dX12_onceLine_136 : decode cX12_onceLine 136 = .ok (.getfield 203, 3) := by decide +kernel
theorem dX12_onceLine_139 : decode cX12_onceLine 139 = .ok (.iastore, 1) := by decide +kernel
theorem dX12_onceLine_140 : decode cX12_onceLine 140 = .ok (.iconst 1, 1) := by decide +kernel
theorem dX12_onceLine_141 : decode cX12_onceLine 141 = .ok (.ireturn, 1) := by decide +kernel
theorem dX12_onceLine_142 : decode cX12_onceLine 142 = .ok (.aload_n 0, 1) := by decide +kernel
theorem dX12_onceLine_143 : decode cX12_onceLine 143 = .ok (.getfield 172, 3) := by decide +kernel
theorem dX12_onceLine_146 : decode cX12_onceLine 146 = .ok (.iconst 1, 1) := by decide +kernel
theorem dX12_onceLine_147 : decode cX12_onceLine 147 = .ok (.if_icmp .ne 21, 3) := by decide +kernel
theorem dX12_onceLine_150 : decode cX12_onceLine 150 = .ok (.aload_n 0, 1) := by decide +kernel
theorem dX12_onceLine_151 : decode cX12_onceLine 151 = .ok (.getfield 183, 3) := by decide +kernel
theorem dX12_onceLine_154 : decode cX12_onceLine 154 = .ok (.bipush 8, 2) := by decide +kernel
theorem dX12_onceLine_156 : decode cX12_onceLine 156 = .ok (.if_icmp .lt 12, 3) := by decide +kernel
theorem dX12_onceLine_159 : decode cX12_onceLine 159 = .ok (.aload_n 0, 1) := by decide +kernel
theorem dX12_onceLine_160 : decode cX12_onceLine 160 = .ok (.getfield 183, 3) := by decide +kernel
theorem dX12_onceLine_163 : decode cX12_onceLine 163 = .ok (.bipush 11, 2) := by decide +kernel
theorem dX12_onceLine_165 : decode cX12_onceLine 165 = .ok (.if_icmp .le 9, 3) := by decide +kernel
theorem dX12_onceLine_168 : decode cX12_onceLine 168 = .ok (.aload_n 0, 1) := by decide +kernel
theorem dX12_onceLine_169 : decode cX12_onceLine 169 = .ok (.iconst 1, 1) := by decide +kernel
theorem dX12_onceLine_170 : decode cX12_onceLine 170 = .ok (.invokevirtual 196, 3) := by decide +kernel
theorem dX12_onceLine_173 : decode cX12_onceLine 173 = .ok (.ireturn, 1) := by decide +kernel
theorem dX12_onceLine_174 : decode cX12_onceLine 174 = .ok (.aload_n 0, 1) := by decide +kernel
theorem dX12_onceLine_175 : decode cX12_onceLine 175 = .ok (.getfield 24, 3) := by decide +kernel
theorem dX12_onceLine_178 : decode cX12_onceLine 178 = .ok (.bipush 12, 2) := by decide +kernel
theorem dX12_onceLine_180 : decode cX12_onceLine 180 = .ok (.aload_n 0, 1) := by decide +kernel
theorem dX12_onceLine_181 : decode cX12_onceLine 181 = .ok (.getfield 183, 3) := by decide +kernel
theorem dX12_onceLine_184 : decode cX12_onceLine 184 = .ok (.bipush 8, 2) := by decide +kernel
theorem dX12_onceLine_186 : decode cX12_onceLine 186 = .ok (.isub, 1) := by decide +kernel
theorem dX12_onceLine_187 : decode cX12_onceLine 187 = .ok (.iastore, 1) := by decide +kernel
theorem dX12_onceLine_188 : decode cX12_onceLine 188 = .ok (.aload_n 0, 1) := by decide +kernel
theorem dX12_onceLine_189 : decode cX12_onceLine 189 = .ok (.invokevirtual 206, 3) := by decide +kernel
theorem dX12_onceLine_192 : decode cX12_onceLine 192 = .ok (.iconst 1, 1) := by decide +kernel
theorem dX12_onceLine_193 : decode cX12_onceLine 193 = .ok (.ireturn, 1) := by decide +kernel
theorem dX12_signs_0 : decode cX12_signs 0 = .ok (.aload_n 0, 1) := by decide +kernel
theorem dX12_signs_1 : decode cX12_signs 1 = .ok (.bipush 41, 2) := by decide +kernel
theorem dX12_signs_3 : decode cX12_signs 3 = .ok (.invokevirtual 209, 3) := by decide +kernel
theorem dX12_signs_6 : decode cX12_signs 6 = .ok (.ifCond .eq 41, 3) := by decide +kernel
theorem dX12_signs_9 : decode cX12_signs 9 = .ok (.aload_n 0, 1) := by decide +kernel
theorem dX12_signs_10 : decode cX12_signs 10 = .ok (.getfield 316, 3) := by decide +kernel
theorem dX12_signs_13 : decode cX12_signs 13 = .ok (.ifCond .le 34, 3) := by decide +kernel
theorem dX12_signs_16 : decode cX12_signs 16 = .ok (.aload_n 0, 1) := by decide +kernel
theorem dX12_signs_17 : decode cX12_signs 17 = .ok (.iconst 1, 1) := by decide +kernel
theorem dX12_signs_18 : decode cX12_signs 18 = .ok (.invokevirtual 338, 3) := by decide +kernel
theorem dX12_signs_21 : decode cX12_signs 21 = .ok (.aload_n 0, 1) := by decide +kernel
theorem dX12_signs_22 : decode cX12_signs 22 = .ok (.dup, 1) := by decide +kernel
theorem dX12_signs_23 : decode cX12_signs 23 = .ok (.getfield 301, 3) := by decide +kernel
theorem dX12_signs_26 : decode cX12_signs 26 = .ok (.iconst 1, 1) := by decide +kernel
theorem dX12_signs_27 : decode cX12_signs 27 = .ok (.isub, 1) := by decide +kernel
theorem dX12_signs_28 : decode cX12_signs 28 = .ok (.putfield 301, 3) := by decide +kernel
theorem dX12_signs_31 : decode cX12_signs 31 = .ok (.aload_n 0, 1) := by decide +kernel
theorem dX12_signs_32 : decode cX12_signs 32 = .ok (.dup, 1) := by decide +kernel
theorem dX12_signs_33 : decode cX12_signs 33 = .ok (.getfield 316, 3) := by decide +kernel
theorem dX12_signs_36 : decode cX12_signs 36 = .ok (.iconst 1, 1) := by decide +kernel
theorem dX12_signs_37 : decode cX12_signs 37 = .ok (.isub, 1) := by decide +kernel
theorem dX12_signs_38 : decode cX12_signs 38 = .ok (.putfield 316, 3) := by decide +kernel
theorem dX12_signs_41 : decode cX12_signs 41 = .ok (.aload_n 0, 1) := by decide +kernel
theorem dX12_signs_42 : decode cX12_signs 42 = .ok (.invokevirtual 206, 3) := by decide +kernel
theorem dX12_signs_45 : decode cX12_signs 45 = .ok (.iconst 1, 1) := by decide +kernel
theorem dX12_signs_46 : decode cX12_signs 46 = .ok (.ireturn, 1) := by decide +kernel
theorem dX12_signs_47 : decode cX12_signs 47 = .ok (.aload_n 0, 1) := by decide +kernel
theorem dX12_signs_48 : decode cX12_signs 48 = .ok (.bipush 15, 2) := by decide +kernel
theorem dX12_signs_50 : decode cX12_signs 50 = .ok (.invokevirtual 326, 3) := by decide +kernel
theorem dX12_signs_53 : decode cX12_signs 53 = .ok (.ifCond .eq 7, 3) := by decide +kernel
theorem dX12_signs_56 : decode cX12_signs 56 = .ok (.iconst 3, 1) := by decide +kernel
theorem dX12_signs_57 : decode cX12_signs 57 = .ok (.goto 90, 3) := by decide +kernel
theorem dX12_signs_60 : decode cX12_signs 60 = .ok (.aload_n 0, 1) := by decide +kernel
theorem dX12_signs_61 : decode cX12_signs 61 = .ok (.bipush 16, 2) := by decide +kernel
theorem dX12_signs_63 : decode cX12_signs 63 = .ok (.invokevirtual 326, 3) := by decide +kernel
theorem dX12_signs_66 : decode cX12_signs 66 = .ok (.ifCond .eq 7, 3) := by decide +kernel
theorem dX12_signs_69 : decode cX12_signs 69 = .ok (.iconst 4, 1) := by decide +kernel
theorem dX12_signs_70 : decode cX12_signs 70 = .ok (.goto 77, 3) := by decide +kernel
theorem dX12_signs_73 : decode cX12_signs 73 = .ok (.aload_n 0, 1) := by decide +kernel
theorem dX12_signs_74 : decode cX12_signs 74 = .ok (.getfield 172, 3) := by decide +kernel
theorem dX12_signs_77 : decode cX12_signs 77 = .ok (.iconst 5, 1) := by decide +kernel
theorem dX12_signs_78 : decode cX12_signs 78 = .ok (.if_icmp .ne 12, 3) := by decide +kernel
theorem dX12_signs_81 : decode cX12_signs 81 = .ok (.iconst 5, 1) := by decide +kernel
theorem dX12_signs_82 : decode cX12_signs 82 = .ok (.aload_n 0, 1) := by decide +kernel
theorem dX12_signs_83 : decode cX12_signs 83 = .ok (.getfield 183, 3) := by decide +kernel
theorem dX12_signs_86 : decode cX12_signs 86 = .ok (.iadd, 1) := by decide +kernel
theorem dX12_signs_87 : decode cX12_signs 87 = .ok (.goto 60, 3) := by decide +kernel
theorem dX12_signs_90 : decode cX12_signs 90 = .ok (.aload_n 0, 1) := by decide +kernel
theorem dX12_signs_91 : decode cX12_signs 91 = .ok (.bipush 43, 2) := by decide +kernel
theorem dX12_signs_93 : decode cX12_signs 93 = .ok (.invokevirtual 209, 3) := by decide +kernel
theorem dX12_signs_96 : decode cX12_signs 96 = .ok (.ifCond .eq 8, 3) := by decide +kernel
theorem dX12_signs_99 : decode cX12_signs 99 = .ok (.bipush 11, 2) := by decide +kernel
theorem dX12_signs_101 : decode cX12_signs 101 = .ok (.goto 46, 3) := by decide +kernel
theorem dX12_signs_104 : decode cX12_signs 104 = .ok (.aload_n 0, 1) := by decide +kernel
theorem dX12_signs_105 : decode cX12_signs 105 = .ok (.bipush 45, 2) := by decide +kernel
theorem dX12_signs_107 : decode cX12_signs 107 = .ok (.invokevirtual 209, 3) := by decide +kernel
theorem dX12_signs_110 : decode cX12_signs 110 = .ok (.ifCond .eq 8, 3) := by decide +kernel
theorem dX12_signs_113 : decode cX12_signs 113 = .ok (.bipush 12, 2) := by decide +kernel
theorem dX12_signs_115 : decode cX12_signs 115 = .ok (.goto 32, 3) := by decide +kernel
theorem dX12_signs_118 : decode cX12_signs 118 = .ok (.aload_n 0, 1) := by decide +kernel
theorem dX12_signs_119 : decode cX12_signs 119 = .ok (.bipush 42, 2) := by decide +kernel
theorem dX12_signs_121 : decode cX12_signs 121 = .ok (.invokevirtual 209, 3) := by decide +kernel
theorem dX12_signs_124 : decode cX12_signs 124 = .ok (.ifCond .eq 8, 3) := by decide +kernel
theorem dX12_signs_127 : decode cX12_signs 127 = .ok (.bipush 13, 2) := by decide +kernel
theorem dX12_signs_129 : decode cX12_signs 129 = .ok (.goto 18, 3) := by decide +kernel
theorem dX12_signs_132 : decode cX12_signs 132 = .ok (.aload_n 0, 1) := by decide +kernel
theorem dX12_signs_133 : decode cX12_signs 133 = .ok (.bipush 47, 2) := by decide +kernel
theorem dX12_signs_135 : decode cX12_signs 135 = .ok (.invokevirtual 209, 3) := by decide +kernel
theorem dX12_signs_138 : decode cX12_signs 138 = .ok (.ifCond .eq 8, 3) := by decide +kernel
theorem dX12_signs_141 : decode cX12_signs 141 = .ok (.bipush 14, 2) := by decide +kernel
theorem dX12_signs_143 : decode cX12_signs 143 = .ok (.goto 4, 3) := by decide +kernel
theorem dX12_signs_146 : decode cX12_signs 146 = .ok (.iconst 0, 1) := by decide +kernel
theorem dX12_signs_147 : decode cX12_signs 147 = .ok (.istore_n 1, 1) := by decide +kernel
theorem dX12_signs_148 : decode cX12_signs 148 = .ok (.iload_n 1, 1) := by decide +kernel
theorem dX12_signs_149 : decode cX12_signs 149 = .ok (.ifCond .ne 9, 3) := by decide +kernel
theorem dX12_signs_152 : decode cX12_signs 152 = .ok (.aload_n 0, 1) := by decide +kernel
theorem dX12_signs_153 : decode cX12_signs 153 = .ok (.iconst 1, 1) := by decide +kernel
theorem dX12_signs_154 : decode cX12_signs 154 = .ok (.invokevirtual 196, 3) := by decide +kernel
theorem dX12_signs_157 : decode cX12_signs 157 = .ok (.ireturn, 1) := by decide +kernel
theorem dX12_signs_158 : decode cX12_signs 158 = .ok (.aload_n 0, 1) := by decide +kernel
theorem dX12_signs_159 : decode cX12_signs 159 = .ok (.iload_n 1, 1) := by decide +kernel
theorem dX12_signs_160 : decode cX12_signs 160 = .ok (.invokestatic 304, 3) := by decide +kernel
theorem dX12_signs_163 : decode cX12_signs 163 = .ok (.iconst 4, 1) := by decide +kernel
theorem dX12_signs_164 : decode cX12_signs 164 = .ok (.if_icmp .ne 7, 3) := by decide +kernel
theorem dX12_signs_167 : decode cX12_signs 167 = .ok (.iconst 5, 1) := by decide +kernel
theorem dX12_signs_168 : decode cX12_signs 168 = .ok (.goto 7, 3) := by decide +kernel
theorem dX12_signs_171 : decode cX12_signs 171 = .ok (.iload_n 1, 1) := by decide +kernel
theorem dX12_signs_172 : decode cX12_signs 172 = .ok (.invokestatic 304, 3) := by decide +kernel
theorem dX12_signs_175 : decode cX12_signs 175 = .ok (.invokevirtual 338, 3) := by decide +kernel
theorem dX12_signs_178 : decode cX12_signs 178 = .ok (.iload_n 1, 1) := by decide +kernel
theorem dX12_signs_179 : decode cX12_signs 179 = .ok (.invokestatic 304, 3) := by decide +kernel
theorem dX12_signs_182 : decode cX12_signs 182 = .ok (.iconst 4, 1) := by decide +kernel
theorem dX12_signs_183 : decode cX12_signs 183 = .ok (.if_icmp .ne 34, 3) := by decide +kernel
theorem dX12_signs_186 : decode cX12_signs 186 = .ok (.aload_n 0, 1) := by decide +kernel
theorem dX12_signs_187 : decode cX12_signs 187 = .ok (.getfield 301, 3) := by decide +kernel
theorem dX12_signs_190 : decode cX12_signs 190 = .ok (.ifCond .le 27, 3) := by decide +kernel
theorem dX12_signs_193 : decode cX12_signs 193 = .ok (.aload_n 0, 1) := by decide +kernel
theorem dX12_signs_194 : decode cX12_signs 194 = .ok (.getfield 75, 3) := by decide +kernel
theorem dX12_signs_197 : decode cX12_signs 197 = .ok (.aload_n 0, 1) := by decide +kernel
theorem dX12_signs_198 : decode cX12_signs 198 = .ok (.getfield 301, 3) := by decide +kernel
theorem dX12_signs_201 : decode cX12_signs 201 = .ok (.iconst 1, 1) := by decide +kernel
theorem dX12_signs_202 : decode cX12_signs 202 = .ok (.isub, 1) := by decide +kernel
theorem dX12_signs_203 : decode cX12_signs 203 = .ok (.iaload, 1) := by decide +kernel
theorem dX12_signs_204 : decode cX12_signs 204 = .ok (.invokestatic 304, 3) := by decide +kernel
theorem dX12_signs_207 : decode cX12_signs 207 = .ok (.iconst 4, 1) := by decide +kernel
theorem dX12_signs_208 : decode cX12_signs 208 = .ok (.if_icmp .ne 9, 3) := by decide +kernel
theorem dX12_signs_211 : decode cX12_signs 211 = .ok (.aload_n 0, 1) := by decide +kernel
theorem dX12_signs_212 : decode cX12_signs 212 = .ok (.iconst 1, 1) := by decide +kernel
theorem dX12_signs_213 : decode cX12_signs 213 = .ok (.invokevirtual 196, 3) := by decide +kernel
theorem dX12_signs_216 : decode cX12_signs 216 = .ok (.ireturn, 1) := by decide +kernel
theorem dX12_signs_217 : decode cX12_signs 217 = .ok (.aload_n 0, 1) := by decide +kernel
theorem dX12_signs_218 : decode cX12_signs 218 = .ok (.invokevirtual 329, 3) := by decide +kernel
theorem dX12_signs_221 : decode cX12_signs 221 = .ok (.ifCond .ne 5, 3) := by decide +kernel
theorem dX12_signs_224 : decode cX12_signs 224 = .ok (.iconst 0, 1) := by decide +kernel
theorem dX12_signs_225 : decode cX12_signs 225 = .ok (.ireturn, 1) := by decide +kernel
theorem dX12_signs_226 : decode cX12_signs 226 = .ok (.aload_n 0, 1) := by decide +kernel
theorem dX12_signs_227 : decode cX12_signs 227 = .ok (.iload_n 1, 1) := by decide +kernel
theorem dX12_signs_228 : decode cX12_signs 228 = .ok (.invokevirtual 319, 3) := by decide +kernel
theorem dX12_signs_231 : decode cX12_signs 231 = .ok (.aload_n 0, 1) := by decide +kernel
theorem dX12_signs_232 : decode cX12_signs 232 = .ok (.iconst 1, 1) := by decide +kernel
theorem dX12_signs_233 : decode cX12_signs 233 = .ok (.putfield 335, 3) := by decide +kernel
theorem dX12_signs_236 : decode cX12_signs 236 = .ok (.aload_n 0, 1) := by decide +kernel
theorem dX12_signs_237 : decode cX12_signs 237 = .ok (.iload_n 1, 1) := by decide +kernel
theorem dX12_signs_238 : decode cX12_signs 238 = .ok (.invokestatic 304, 3) := by decide +kernel
theorem dX12_signs_241 : decode cX12_signs 241 = .ok (.iconst 3, 1) := by decide +kernel
theorem dX12_signs_242 : decode cX12_signs 242 = .ok (.if_icmp .ge 7, 3) := by decide +kernel
theorem dX12_signs_245 : decode cX12_signs 245 = .ok (.iconst 1, 1) := by decide +kernel
theorem dX12_signs_246 : decode cX12_signs 246 = .ok (.goto 4, 3) := by decide +kernel
theorem dX12_signs_249 : decode cX12_signs 249 = .ok (.iconst 0, 1) := by decide +kernel
theorem dX12_signs_250 : decode cX12_signs 250 = .ok (.putfield 323, 3) := by decide +kernel
theorem dX12_signs_253 : decode cX12_signs 253 = .ok (.aload_n 0, 1) := by decide +kernel
theorem dX12_signs_254 : decode cX12_signs 254 = .ok (.invokevirtual 206, 3) := by decide +kernel
theorem dX12_signs_257 : decode cX12_signs 257 = .ok (.iconst 1, 1) := by decide +kernel
theorem dX12_signs_258 : decode cX12_signs 258 = .ok (.ireturn, 1) := by decide +kernel
theorem dX12_sumRead_0 : decode cX12_sumRead 0 = .ok (.aload_n 0, 1) := by decide +kernel
theorem dX12_sumRead_1 : decode cX12_sumRead 1 = .ok (.iconst 0, 1) := by decide +kernel
theorem dX12_sumRead_2 : decode cX12_sumRead 2 = .ok (.putfield 301, 3) := by decide +kernel
theorem dX12_sumRead_5 : decode cX12_sumRead 5 = .ok (.aload_n 0, 1) := by decide +kernel
theorem dX12_sumRead_6 : decode cX12_sumRead 6 = .ok (.iconst 0, 1) := by decide +kernel
theorem dX12_sumRead_7 : decode cX12_sumRead 7 = .ok (.putfield 298, 3) := by decide +kernel
theorem dX12_sumRead_10 : decode cX12_sumRead 10 = .ok (.aload_n 0, 1) := by decide +kernel
theorem dX12_sumRead_11 : decode cX12_sumRead 11 = .ok (.iconst 0, 1) := by decide +kernel
theorem dX12_sumRead_12 : decode cX12_sumRead 12 = .ok (.putfield 316, 3) := by decide +kernel
theorem dX12_sumRead_15 : decode cX12_sumRead 15 = .ok (.aload_n 0, 1) := by decide +kernel
theorem dX12_sumRead_16 : decode cX12_sumRead 16 = .ok (.iconst 1, 1) := by decide +kernel
theorem dX12_sumRead_17 : decode cX12_sumRead 17 = .ok (.putfield 335, 3) := by decide +kernel
theorem dX12_sumRead_20 : decode cX12_sumRead 20 = .ok (.aload_n 0, 1) := by decide +kernel
theorem dX12_sumRead_21 : decode cX12_sumRead 21 = .ok (.iconst 1, 1) := by decide +kernel
theorem dX12_sumRead_22 : decode cX12_sumRead 22 = .ok (.putfield 323, 3) := by decide +kernel
theorem dX12_sumRead_25 : decode cX12_sumRead 25 = .ok (.aload_n 0, 1) := by decide +kernel
theorem dX12_sumRead_26 : decode cX12_sumRead 26 = .ok (.bipush 59, 2) := by decide +kernel
theorem dX12_sumRead_28 : decode cX12_sumRead 28 = .ok (.invokevirtual 209, 3) := by decide +kernel
theorem dX12_sumRead_31 : decode cX12_sumRead 31 = .ok (.ifCond .eq 17, 3) := by decide +kernel
theorem dX12_sumRead_34 : decode cX12_sumRead 34 = .ok (.aload_n 0, 1) := by decide +kernel
theorem dX12_sumRead_35 : decode cX12_sumRead 35 = .ok (.getfield 335, 3) := by decide +kernel
theorem dX12_sumRead_38 : decode cX12_sumRead 38 = .ok (.ifCond .ne 10, 3) := by decide +kernel
theorem dX12_sumRead_41 : decode cX12_sumRead 41 = .ok (.aload_n 0, 1) := by decide +kernel
theorem dX12_sumRead_42 : decode cX12_sumRead 42 = .ok (.getfield 316, 3) := by decide +kernel
theorem dX12_sumRead_45 : decode cX12_sumRead 45 = .ok (.ifCond .le 29, 3) := by decide +kernel
theorem dX12_sumRead_48 : decode cX12_sumRead 48 = .ok (.aload_n 0, 1) := by decide +kernel
theorem dX12_sumRead_49 : decode cX12_sumRead 49 = .ok (.getfield 335, 3) := by decide +kernel
theorem dX12_sumRead_52 : decode cX12_sumRead 52 = .ok (.ifCond .eq 13, 3) := by decide +kernel
theorem dX12_sumRead_55 : decode cX12_sumRead 55 = .ok (.aload_n 0, 1) := by decide +kernel
theorem dX12_sumRead_56 : decode cX12_sumRead 56 = .ok (.invokevirtual 341, 3) := by decide +kernel
theorem dX12_sumRead_59 : decode cX12_sumRead 59 = .ok (.ifCond .eq 13, 3) := by decide +kernel
theorem dX12_sumRead_62 : decode cX12_sumRead 62 = .ok (.goto (-37), 3) := by decide +kernel
theorem dX12_sumRead_65 : decode cX12_sumRead 65 = .ok (.aload_n 0, 1) := by decide +kernel
theorem dX12_sumRead_66 : decode cX12_sumRead 66 = .ok (.invokevirtual 344, 3) := by decide +kernel
theorem dX12_sumRead_69 : decode cX12_sumRead 69 = .ok (.ifCond .ne (-44), 3) := by decide +kernel
theorem dX12_sumRead_72 : decode cX12_sumRead 72 = .ok (.iconst 0, 1) := by decide +kernel
theorem dX12_sumRead_73 : decode cX12_sumRead 73 = .ok (.ireturn, 1) := by decide +kernel
theorem dX12_sumRead_74 : decode cX12_sumRead 74 = .ok (.aload_n 0, 1) := by decide +kernel
theorem dX12_sumRead_75 : decode cX12_sumRead 75 = .ok (.iconst 1, 1) := by decide +kernel
theorem dX12_sumRead_76 : decode cX12_sumRead 76 = .ok (.invokevirtual 338, 3) := by decide +kernel
theorem dX12_sumRead_79 : decode cX12_sumRead 79 = .ok (.iconst 1, 1) := by decide +kernel
theorem dX12_sumRead_80 : decode cX12_sumRead 80 = .ok (.ireturn, 1) := by decide +kernel
theorem dX12_lineRead_0 : decode cX12_lineRead 0 = .ok (.aload_n 0, 1) := by decide +kernel
theorem dX12_lineRead_1 : decode cX12_lineRead 1 = .ok (.getfield 172, 3) := by decide +kernel
theorem dX12_lineRead_4 : decode cX12_lineRead 4 = .ok (.iconst 1, 1) := by decide +kernel
theorem dX12_lineRead_5 : decode cX12_lineRead 5 = .ok (.if_icmp .ne 12, 3) := by decide +kernel
theorem dX12_lineRead_8 : decode cX12_lineRead 8 = .ok (.aload_n 0, 1) := by decide +kernel
theorem dX12_lineRead_9 : decode cX12_lineRead 9 = .ok (.getfield 183, 3) := by decide +kernel
theorem dX12_lineRead_12 : decode cX12_lineRead 12 = .ok (.bipush 7, 2) := by decide +kernel
theorem dX12_lineRead_14 : decode cX12_lineRead 14 = .ok (.if_icmp .le 9, 3) := by decide +kernel
theorem dX12_lineRead_17 : decode cX12_lineRead 17 = .ok (.aload_n 0, 1) := by decide +kernel
theorem dX12_lineRead_18 : decode cX12_lineRead 18 = .ok (.iconst 1, 1) := by decide +kernel
theorem dX12_lineRead_19 : decode cX12_lineRead 19 = .ok (.invokevirtual 196, 3) := by decide +kernel
theorem dX12_lineRead_22 : decode cX12_lineRead 22 = .ok (.ireturn, 1) := by decide +kernel
theorem dX12_lineRead_23 : decode cX12_lineRead 23 = .ok (.aload_n 0, 1) := by decide +kernel
theorem dX12_lineRead_24 : decode cX12_lineRead 24 = .ok (.getfield 183, 3) := by decide +kernel
theorem dX12_lineRead_27 : decode cX12_lineRead 27 = .ok (.tableswitch 73 0 6 #[41, 65, 49, 57, 65, 65, 65], 41) := by decide +kernel
theorem dX12_lineRead_68 : decode cX12_lineRead 68 = .ok (.aload_n 0, 1) := by decide +kernel
theorem dX12_lineRead_69 : decode cX12_lineRead 69 = .ok (.invokevirtual 280, 3) := by decide +kernel
theorem dX12_lineRead_72 : decode cX12_lineRead 72 = .ok (.istore_n 1, 1) := by decide +kernel
theorem dX12_lineRead_73 : decode cX12_lineRead 73 = .ok (.goto 124, 3) := by decide +kernel
theorem dX12_lineRead_76 : decode cX12_lineRead 76 = .ok (.aload_n 0, 1) := by decide +kernel
theorem dX12_lineRead_77 : decode cX12_lineRead 77 = .ok (.invokevirtual 283, 3) := by decide +kernel
theorem dX12_lineRead_80 : decode cX12_lineRead 80 = .ok (.istore_n 1, 1) := by decide +kernel
theorem dX12_lineRead_81 : decode cX12_lineRead 81 = .ok (.goto 116, 3) := by decide +kernel
theorem dX12_lineRead_84 : decode cX12_lineRead 84 = .ok (.aload_n 0, 1) := by decide +kernel
theorem dX12_lineRead_85 : decode cX12_lineRead 85 = .ok (.invokevirtual 286, 3) := by decide +kernel
theorem dX12_lineRead_88 : decode cX12_lineRead 88 = .ok (.istore_n 1, 1) := by decide +kernel
theorem dX12_lineRead_89 : decode cX12_lineRead 89 = .ok (.goto 108, 3) := by decide +kernel
theorem dX12_lineRead_92 : decode cX12_lineRead 92 = .ok (.aload_n 0, 1) := by decide +kernel
theorem dX12_lineRead_93 : decode cX12_lineRead 93 = .ok (.invokevirtual 289, 3) := by decide +kernel
theorem dX12_lineRead_96 : decode cX12_lineRead 96 = .ok (.istore_n 1, 1) := by decide +kernel
theorem dX12_lineRead_97 : decode cX12_lineRead 97 = .ok (.goto 100, 3) := by decide +kernel
theorem dX12_lineRead_100 : decode cX12_lineRead 100 = .ok (.aload_n 0, 1) := by decide +kernel
theorem dX12_lineRead_101 : decode cX12_lineRead 101 = .ok (.invokevirtual 206, 3) := by decide +kernel
theorem dX12_lineRead_104 : decode cX12_lineRead 104 = .ok (.aload_n 0, 1) := by decide +kernel
theorem dX12_lineRead_105 : decode cX12_lineRead 105 = .ok (.getfield 172, 3) := by decide +kernel
theorem dX12_lineRead_108 : decode cX12_lineRead 108 = .ok (.iconst 1, 1) := by decide +kernel
theorem dX12_lineRead_109 : decode cX12_lineRead 109 = .ok (.if_icmp .ne 21, 3) := by decide +kernel
theorem dX12_lineRead_112 : decode cX12_lineRead 112 = .ok (.aload_n 0, 1) := by decide +kernel
theorem dX12_lineRead_113 : decode cX12_lineRead 113 = .ok (.getfield 183, 3) := by decide +kernel
theorem dX12_lineRead_116 : decode cX12_lineRead 116 = .ok (.bipush 12, 2) := by decide +kernel
theorem dX12_lineRead_118 : decode cX12_lineRead 118 = .ok (.if_icmp .lt 12, 3) := by decide +kernel
theorem dX12_lineRead_121 : decode cX12_lineRead 121 = .ok (.aload_n 0, 1) := by decide +kernel
theorem dX12_lineRead_122 : decode cX12_lineRead 122 = .ok (.getfield 183, 3) := by decide +kernel
theorem dX12_lineRead_125 : decode cX12_lineRead 125 = .ok (.bipush 14, 2) := by decide +kernel
theorem dX12_lineRead_127 : decode cX12_lineRead 127 = .ok (.if_icmp .le 9, 3) := by decide +kernel
theorem dX12_lineRead_130 : decode cX12_lineRead 130 = .ok (.aload_n 0, 1) := by decide +kernel
theorem dX12_lineRead_131 : decode cX12_lineRead 131 = .ok (.iconst 1, 1) := by decide +kernel
theorem dX12_lineRead_132 : decode cX12_lineRead 132 = .ok (.invokevirtual 196, 3) := by decide +kernel
theorem dX12_lineRead_135 : decode cX12_lineRead 135 = .ok (.ireturn, 1) := by decide +kernel
theorem dX12_lineRead_136 : decode cX12_lineRead 136 = .ok (.iconst 3, 1) := by decide +kernel
theorem dX12_lineRead_137 : decode cX12_lineRead 137 = .ok (.aload_n 0, 1) := by decide +kernel
theorem dX12_lineRead_138 : decode cX12_lineRead 138 = .ok (.getfield 183, 3) := by decide +kernel
theorem dX12_lineRead_141 : decode cX12_lineRead 141 = .ok (.iadd, 1) := by decide +kernel
theorem dX12_lineRead_142 : decode cX12_lineRead 142 = .ok (.bipush 12, 2) := by decide +kernel
theorem dX12_lineRead_144 : decode cX12_lineRead 144 = .ok (.isub, 1) := by decide +kernel
theorem dX12_lineRead_145 : decode cX12_lineRead 145 = .ok (.istore_n 2, 1) := by decide +kernel
theorem dX12_lineRead_146 : decode cX12_lineRead 146 = .ok (.aload_n 0, 1) := by decide +kernel
theorem dX12_lineRead_147 : decode cX12_lineRead 147 = .ok (.getfield 57, 3) := by decide +kernel
theorem dX12_lineRead_150 : decode cX12_lineRead 150 = .ok (.iload_n 2, 1) := by decide +kernel
theorem dX12_lineRead_151 : decode cX12_lineRead 151 = .ok (.baload, 1) := by decide +kernel
theorem dX12_lineRead_152 : decode cX12_lineRead 152 = .ok (.ifCond .eq 9, 3) := by decide +kernel
theorem dX12_lineRead_155 : decode cX12_lineRead 155 = .ok (.aload_n 0, 1) := by decide +kernel
theorem dX12_lineRead_156 : decode cX12_lineRead 156 = .ok (.iconst 3, 1) := by decide +kernel
theorem dX12_lineRead_157 : decode cX12_lineRead 157 = .ok (.invokevirtual 196, 3) := by decide +kernel
theorem dX12_lineRead_160 : decode cX12_lineRead 160 = .ok (.ireturn, 1) := by decide +kernel
theorem dX12_lineRead_161 : decode cX12_lineRead 161 = .ok (.aload_n 0, 1) := by decide +kernel
theorem dX12_lineRead_162 : decode cX12_lineRead 162 = .ok (.getfield 57, 3) := by decide +kernel
theorem dX12_lineRead_165 : decode cX12_lineRead 165 = .ok (.iload_n 2, 1) := by decide +kernel
theorem dX12_lineRead_166 : decode cX12_lineRead 166 = .ok (.iconst 1, 1) := by decide +kernel
theorem dX12_lineRead_167 : decode cX12_lineRead 167 = .ok (.bastore, 1) := by decide +kernel
theorem dX12_lineRead_168 : decode cX12_lineRead 168 = .ok (.aload_n 0, 1) := by decide +kernel
theorem dX12_lineRead_169 : decode cX12_lineRead 169 = .ok (.invokevirtual 206, 3) := by decide +kernel
theorem dX12_lineRead_172 : decode cX12_lineRead 172 = .ok (.aload_n 0, 1) := by decide +kernel
theorem dX12_lineRead_173 : decode cX12_lineRead 173 = .ok (.getfield 60, 3) := by decide +kernel
theorem dX12_lineRead_176 : decode cX12_lineRead 176 = .ok (.iload_n 2, 1) := by decide +kernel
theorem dX12_lineRead_177 : decode cX12_lineRead 177 = .ok (.aload_n 0, 1) := by decide +kernel
theorem dX12_lineRead_178 : decode cX12_lineRead 178 = .ok (.getfield 231, 3) := by decide +kernel
theorem dX12_lineRead_181 : decode cX12_lineRead 181 = .ok (.iastore, 1) := by decide +kernel
theorem dX12_lineRead_182 : decode cX12_lineRead 182 = .ok (.aload_n 0, 1) := by decide +kernel
theorem dX12_lineRead_183 : decode cX12_lineRead 183 = .ok (.invokevirtual 292, 3) := by decide +kernel
theorem dX12_lineRead_186 : decode cX12_lineRead 186 = .ok (.istore_n 1, 1) := by decide +kernel
theorem dX12_lineRead_187 : decode cX12_lineRead 187 = .ok (.aload_n 0, 1) := by decide +kernel
theorem dX12_lineRead_188 : decode cX12_lineRead 188 = .ok (.getfield 63, 3) := by decide +kernel
theorem dX12_lineRead_191 : decode cX12_lineRead 191 = .ok (.iload_n 2, 1) := by decide +kernel
theorem dX12_lineRead_192 : decode cX12_lineRead 192 = .ok (.aload_n 0, 1) := by decide +kernel
theorem dX12_lineRead_193 : decode cX12_lineRead 193 = .ok (.getfield 231, 3) := by decide +kernel
theorem dX12_lineRead_196 : decode cX12_lineRead 196 = .ok (.iastore, 1) := by decide +kernel
theorem dX12_lineRead_197 : decode cX12_lineRead 197 = .ok (.iload_n 1, 1) := by decide +kernel
theorem dX12_lineRead_198 : decode cX12_lineRead 198 = .ok (.ifCond .ne 5, 3) := by decide +kernel
theorem dX12_lineRead_201 : decode cX12_lineRead 201 = .ok (.iconst 0, 1) := by decide +kernel
theorem dX12_lineRead_202 : decode cX12_lineRead 202 = .ok (.ireturn, 1) := by decide +kernel
theorem dX12_lineRead_203 : decode cX12_lineRead 203 = .ok (.aload_n 0, 1) := by decide +kernel
theorem dX12_lineRead_204 : decode cX12_lineRead 204 = .ok (.bipush 59, 2) := by decide +kernel
theorem dX12_lineRead_206 : decode cX12_lineRead 206 = .ok (.invokevirtual 209, 3) := by decide +kernel
theorem dX12_lineRead_209 : decode cX12_lineRead 209 = .ok (.ifCond .ne 9, 3) := by decide +kernel
theorem dX12_lineRead_212 : decode cX12_lineRead 212 = .ok (.aload_n 0, 1) := by decide +kernel
theorem dX12_lineRead_213 : decode cX12_lineRead 213 = .ok (.iconst 1, 1) := by decide +kernel
theorem dX12_lineRead_214 : decode cX12_lineRead 214 = .ok (.invokevirtual 196, 3) := by decide +kernel
theorem dX12_lineRead_217 : decode cX12_lineRead 217 = .ok (.ireturn, 1) := by decide +kernel
theorem dX12_lineRead_218 : decode cX12_lineRead 218 = .ok (.aload_n 0, 1) := by decide +kernel
theorem dX12_lineRead_219 : decode cX12_lineRead 219 = .ok (.invokevirtual 206, 3) := by decide +kernel
theorem dX12_lineRead_222 : decode cX12_lineRead 222 = .ok (.iconst 1, 1) := by decide +kernel
theorem dX12_lineRead_223 : decode cX12_lineRead 223 = .ok (.ireturn, 1) := by decide +kernel
theorem dX12_locals_0 : decode cX12_locals 0 = .ok (.aload_n 0, 1) := by decide +kernel
theorem dX12_locals_1 : decode cX12_locals 1 = .ok (.iconst 0, 1) := by decide +kernel
theorem dX12_locals_2 : decode cX12_locals 2 = .ok (.putfield 154, 3) := by decide +kernel
theorem dX12_locals_5 : decode cX12_locals 5 = .ok (.iload_n 1, 1) := by decide +kernel
theorem dX12_locals_6 : decode cX12_locals 6 = .ok (.iconst 0, 1) := by decide +kernel
theorem dX12_locals_7 : decode cX12_locals 7 = .ok (.bipush 12, 2) := by decide +kernel
theorem dX12_locals_9 : decode cX12_locals 9 = .ok (.invokestatic 199, 3) := by decide +kernel
theorem dX12_locals_12 : decode cX12_locals 12 = .ok (.ifCond .ne 5, 3) := by decide +kernel
theorem dX12_locals_15 : decode cX12_locals 15 = .ok (.iconst (-1), 1) := by decide +kernel
theorem dX12_locals_16 : decode cX12_locals 16 = .ok (.ireturn, 1) := by decide +kernel
theorem dX12_locals_17 : decode cX12_locals 17 = .ok (.iconst 0, 1) := by decide +kernel
theorem dX12_locals_18 : decode cX12_locals 18 = .ok (.istore_n 2, 1) := by decide +kernel
theorem dX12_locals_19 : decode cX12_locals 19 = .ok (.iload_n 2, 1) := by decide +kernel
theorem dX12_locals_20 : decode cX12_locals 20 = .ok (.aload_n 0, 1) := by decide +kernel
theorem dX12_locals_21 : decode cX12_locals 21 = .ok (.invokevirtual 527, 3) := by decide +kernel
theorem dX12_locals_24 : decode cX12_locals 24 = .ok (.if_icmp .ge 16, 3) := by decide +kernel
theorem dX12_locals_27 : decode cX12_locals 27 = .ok (.aload_n 0, 1) := by decide +kernel
theorem dX12_locals_28 : decode cX12_locals 28 = .ok (.getfield 139, 3) := by decide +kernel
theorem dX12_locals_31 : decode cX12_locals 31 = .ok (.iload_n 2, 1) := by decide +kernel
theorem dX12_locals_32 : decode cX12_locals 32 = .ok (.iconst 1, 1) := by decide +kernel
theorem dX12_locals_33 : decode cX12_locals 33 = .ok (.bastore, 1) := by decide +kernel
theorem dX12_locals_34 : decode cX12_locals 34 = .ok (.iinc 2 1, 3) := by decide +kernel
theorem dX12_locals_37 : decode cX12_locals 37 = .ok (.goto (-18), 3) := by decide +kernel
theorem dX12_locals_40 : decode cX12_locals 40 = .ok (.aload_n 0, 1) := by decide +kernel
theorem dX12_locals_41 : decode cX12_locals 41 = .ok (.invokevirtual 527, 3) := by decide +kernel
theorem dX12_locals_44 : decode cX12_locals 44 = .ok (.iconst 1, 1) := by decide +kernel
theorem dX12_locals_45 : decode cX12_locals 45 = .ok (.isub, 1) := by decide +kernel
theorem dX12_locals_46 : decode cX12_locals 46 = .ok (.istore_n 2, 1) := by decide +kernel
theorem dX12_locals_47 : decode cX12_locals 47 = .ok (.iload_n 2, 1) := by decide +kernel
theorem dX12_locals_48 : decode cX12_locals 48 = .ok (.ifCond .lt 45, 3) := by decide +kernel
theorem dX12_locals_51 : decode cX12_locals 51 = .ok (.aload_n 0, 1) := by decide +kernel
theorem dX12_locals_52 : decode cX12_locals 52 = .ok (.getfield 139, 3) := by decide +kernel
theorem dX12_locals_55 : decode cX12_locals 55 = .ok (.iload_n 2, 1) := by decide +kernel
theorem dX12_locals_56 : decode cX12_locals 56 = .ok (.baload, 1) := by decide +kernel
theorem dX12_locals_57 : decode cX12_locals 57 = .ok (.ifCond .eq 30, 3) := by decide +kernel
theorem dX12_locals_60 : decode cX12_locals 60 = .ok (.aload_n 0, 1) := by decide +kernel
theorem dX12_locals_61 : decode cX12_locals 61 = .ok (.getfield 136, 3) := by decide +kernel
theorem dX12_locals_64 : decode cX12_locals 64 = .ok (.iconst 3, 1) := by decide +kernel
theorem dX12_locals_65 : decode cX12_locals 65 = .ok (.iload_n 2, 1) := by decide +kernel
theorem dX12_locals_66 : decode cX12_locals 66 = .ok (.imul, 1) := by decide +kernel
theorem dX12_locals_67 : decode cX12_locals 67 = .ok (.iaload, 1) := by decide +kernel
theorem dX12_locals_68 : decode cX12_locals 68 = .ok (.ifCond .ge 19, 3) := by decide +kernel
theorem dX12_locals_71 : decode cX12_locals 71 = .ok (.aload_n 0, 1) := by decide +kernel
theorem dX12_locals_72 : decode cX12_locals 72 = .ok (.getfield 139, 3) := by decide +kernel
theorem dX12_locals_75 : decode cX12_locals 75 = .ok (.aload_n 0, 1) := by decide +kernel
theorem dX12_locals_76 : decode cX12_locals 76 = .ok (.getfield 136, 3) := by decide +kernel
theorem dX12_locals_79 : decode cX12_locals 79 = .ok (.iconst 3, 1) := by decide +kernel
theorem dX12_locals_80 : decode cX12_locals 80 = .ok (.iload_n 2, 1) := by decide +kernel
theorem dX12_locals_81 : decode cX12_locals 81 = .ok (.imul, 1) := by decide +kernel
theorem dX12_locals_82 : decode cX12_locals 82 = .ok (.iconst 1, 1) := by decide +kernel
theorem dX12_locals_83 : decode cX12_locals 83 = .ok (.iadd, 1) := by decide +kernel
theorem dX12_locals_84 : decode cX12_locals 84 = .ok (.iaload, 1) := by decide +kernel
theorem dX12_locals_85 : decode cX12_locals 85 = .ok (.iconst 0, 1) := by decide +kernel
theorem dX12_locals_86 : decode cX12_locals 86 = .ok (.bastore, 1) := by decide +kernel
theorem dX12_locals_87 : decode cX12_locals 87 = .ok (.iinc 2 (-1), 3) := by decide +kernel
theorem dX12_locals_90 : decode cX12_locals 90 = .ok (.goto (-43), 3) := by decide +kernel
theorem dX12_locals_93 : decode cX12_locals 93 = .ok (.iconst 0, 1) := by decide +kernel
theorem dX12_locals_94 : decode cX12_locals 94 = .ok (.istore_n 2, 1) := by decide +kernel
theorem dX12_locals_95 : decode cX12_locals 95 = .ok (.iconst 0, 1) := by decide +kernel
theorem dX12_locals_96 : decode cX12_locals 96 = .ok (.istore_n 3, 1) := by decide +kernel
theorem dX12_locals_97 : decode cX12_locals 97 = .ok (.iconst 0, 1) := by decide +kernel
theorem dX12_locals_98 : decode cX12_locals 98 = .ok (.istore 4, 2) := by decide +kernel
theorem dX12_locals_100 : decode cX12_locals 100 = .ok (.iload 4, 2) := by decide +kernel
theorem dX12_locals_102 : decode cX12_locals 102 = .ok (.aload_n 0, 1) := by decide +kernel
theorem dX12_locals_103 : decode cX12_locals 103 = .ok (.invokevirtual 527, 3) := by decide +kernel
theorem dX12_locals_106 : decode cX12_locals 106 = .ok (.if_icmp .ge 114, 3) := by decide +kernel
theorem dX12_locals_109 : decode cX12_locals 109 = .ok (.aload_n 0, 1) := by decide +kernel
theorem dX12_locals_110 : decode cX12_locals 110 = .ok (.getfield 139, 3) := by decide +kernel
theorem dX12_locals_113 : decode cX12_locals 113 = .ok (.iload 4, 2) := by decide +kernel
theorem dX12_locals_115 : decode cX12_locals 115 = .ok (.baload, 1) := by decide +kernel
theorem dX12_locals_116 : decode cX12_locals 116 = .ok (.ifCond .eq 98, 3) := by decide +kernel
theorem dX12_locals_119 : decode cX12_locals 119 = .ok (.aload_n 0, 1) := by decide +kernel
theorem dX12_locals_120 : decode cX12_locals 120 = .ok (.getfield 136, 3) := by decide +kernel
theorem dX12_locals_123 : decode cX12_locals 123 = .ok (.iconst 3, 1) := by decide +kernel
theorem dX12_locals_124 : decode cX12_locals 124 = .ok (.iload 4, 2) := by decide +kernel
theorem dX12_locals_126 : decode cX12_locals 126 = .ok (.imul, 1) := by decide +kernel
theorem dX12_locals_127 : decode cX12_locals 127 = .ok (.iaload, 1) := by decide +kernel
theorem dX12_locals_128 : decode cX12_locals 128 = .ok (.ifCond .ge 6, 3) := by decide +kernel
theorem dX12_locals_131 : decode cX12_locals 131 = .ok (.goto 83, 3) := by decide +kernel
theorem dX12_locals_134 : decode cX12_locals 134 = .ok (.aload_n 0, 1) := by decide +kernel
theorem dX12_locals_135 : decode cX12_locals 135 = .ok (.aload_n 0, 1) := by decide +kernel
theorem dX12_locals_136 : decode cX12_locals 136 = .ok (.getfield 136, 3) := by decide +kernel
theorem dX12_locals_139 : decode cX12_locals 139 = .ok (.iconst 3, 1) := by decide +kernel
theorem dX12_locals_140 : decode cX12_locals 140 = .ok (.iload 4, 2) := by decide +kernel
theorem dX12_locals_142 : decode cX12_locals 142 = .ok (.imul, 1) := by decide +kernel
theorem dX12_locals_143 : decode cX12_locals 143 = .ok (.iaload, 1) := by decide +kernel
theorem dX12_locals_144 : decode cX12_locals 144 = .ok (.invokevirtual 530, 3) := by decide +kernel
theorem dX12_locals_147 : decode cX12_locals 147 = .ok (.istore 5, 2) := by decide +kernel
theorem dX12_locals_149 : decode cX12_locals 149 = .ok (.iload 5, 2) := by decide +kernel
theorem dX12_locals_151 : decode cX12_locals 151 = .ok (.ifCond .ge 6, 3) := by decide +kernel
theorem dX12_locals_154 : decode cX12_locals 154 = .ok (.goto 60, 3) := by decide +kernel
theorem dX12_locals_157 : decode cX12_locals 157 = .ok (.iload_n 2, 1) := by decide +kernel
theorem dX12_locals_158 : decode cX12_locals 158 = .ok (.iconst 1, 1) := by decide +kernel
theorem dX12_locals_159 : decode cX12_locals 159 = .ok (.aload_n 0, 1) := by decide +kernel
theorem dX12_locals_160 : decode cX12_locals 160 = .ok (.getfield 136, 3) := by decide +kernel
theorem dX12_locals_163 : decode cX12_locals 163 = .ok (.iconst 3, 1) := by decide +kernel
theorem dX12_locals_164 : decode cX12_locals 164 = .ok (.iload 4, 2) := by decide +kernel
theorem dX12_locals_166 : decode cX12_locals 166 = .ok (.imul, 1) := by decide +kernel
theorem dX12_locals_167 : decode cX12_locals 167 = .ok (.iconst 1, 1) := by decide +kernel
theorem dX12_locals_168 : decode cX12_locals 168 = .ok (.iadd, 1) := by decide +kernel
theorem dX12_locals_169 : decode cX12_locals 169 = .ok (.iaload, 1) := by decide +kernel
theorem dX12_locals_170 : decode cX12_locals 170 = .ok (.ishl, 1) := by decide +kernel
theorem dX12_locals_171 : decode cX12_locals 171 = .ok (.ior, 1) := by decide +kernel
theorem dX12_locals_172 : decode cX12_locals 172 = .ok (.istore_n 2, 1) := by decide +kernel
theorem dX12_locals_173 : decode cX12_locals 173 = .ok (.aload_n 0, 1) := by decide +kernel
theorem dX12_locals_174 : decode cX12_locals 174 = .ok (.aload_n 0, 1) := by decide +kernel
theorem dX12_locals_175 : decode cX12_locals 175 = .ok (.getfield 136, 3) := by decide +kernel
theorem dX12_locals_178 : decode cX12_locals 178 = .ok (.iconst 3, 1) := by decide +kernel
theorem dX12_locals_179 : decode cX12_locals 179 = .ok (.iload 4, 2) := by decide +kernel
theorem dX12_locals_181 : decode cX12_locals 181 = .ok (.imul, 1) := by decide +kernel
theorem dX12_locals_182 : decode cX12_locals 182 = .ok (.iconst 2, 1) := by decide +kernel
theorem dX12_locals_183 : decode cX12_locals 183 = .ok (.iadd, 1) := by decide +kernel
theorem dX12_locals_184 : decode cX12_locals 184 = .ok (.iaload, 1) := by decide +kernel
theorem dX12_locals_185 : decode cX12_locals 185 = .ok (.aload_n 0, 1) := by decide +kernel
theorem dX12_locals_186 : decode cX12_locals 186 = .ok (.iload 5, 2) := by decide +kernel
theorem dX12_locals_188 : decode cX12_locals 188 = .ok (.invokevirtual 400, 3) := by decide +kernel
theorem dX12_locals_191 : decode cX12_locals 191 = .ok (.invokevirtual 403, 3) := by decide +kernel
theorem dX12_locals_194 : decode cX12_locals 194 = .ok (.iload_n 1, 1) := by decide +kernel
theorem dX12_locals_195 : decode cX12_locals 195 = .ok (.if_icmp .le 19, 3) := by decide +kernel
theorem dX12_locals_198 : decode cX12_locals 198 = .ok (.iload_n 3, 1) := by decide +kernel
theorem dX12_locals_199 : decode cX12_locals 199 = .ok (.iconst 1, 1) := by decide +kernel
theorem dX12_locals_200 : decode cX12_locals 200 = .ok (.aload_n 0, 1) := by decide +kernel
theorem dX12_locals_201 : decode cX12_locals 201 = .ok (.getfield 136, 3) := by decide +kernel
theorem dX12_locals_204 : decode cX12_locals 204 = .ok (.iconst 3, 1) := by decide +kernel
theorem dX12_locals_205 : decode cX12_locals 205 = .ok (.iload 4, 2) := by decide +kernel
theorem dX12_locals_207 : decode cX12_locals 207 = .ok (.imul, 1) := by decide +kernel
theorem dX12_locals_208 : decode cX12_locals 208 = .ok (.iconst 1, 1) := by decide +kernel
theorem dX12_locals_209 : decode cX12_locals 209 = .ok (.iadd, 1) := by decide +kernel
theorem dX12_locals_210 : decode cX12_locals 210 = .ok (.iaload, 1) := by decide +kernel
theorem dX12_locals_211 : decode cX12_locals 211 = .ok (.ishl, 1) := by decide +kernel
theorem dX12_locals_212 : decode cX12_locals 212 = .ok (.ior, 1) := by decide +kernel
theorem dX12_locals_213 : decode cX12_locals 213 = .ok (.istore_n 3, 1) := by decide +kernel
theorem dX12_locals_214 : decode cX12_locals 214 = .ok (.iinc 4 1, 3) := by decide +kernel
theorem dX12_locals_217 : decode cX12_locals 217 = .ok (.goto (-117), 3) := by decide +kernel
theorem dX12_locals_220 : decode cX12_locals 220 = .ok (.iload_n 2, 1) := by decide +kernel
theorem dX12_locals_221 : decode cX12_locals 221 = .ok (.iload_n 3, 1) := by decide +kernel
theorem dX12_locals_222 : decode cX12_locals 222 = .ok (.iconst (-1), 1) := by decide +kernel
theorem dX12_locals_223 : decode cX12_locals 223 = .ok (.ixor, 1) := by decide +kernel
theorem dX12_locals_224 : decode cX12_locals 224 = .ok (.iand, 1) := by decide +kernel
theorem dX12_locals_225 : decode cX12_locals 225 = .ok (.ireturn, 1) := by decide +kernel
theorem dX12_look_0 : decode cX12_look 0 = .ok (.aload_n 0, 1) := by decide +kernel
theorem dX12_look_1 : decode cX12_look 1 = .ok (.iconst 0, 1) := by decide +kernel
theorem dX12_look_2 : decode cX12_look 2 = .ok (.putfield 154, 3) := by decide +kernel
theorem dX12_look_5 : decode cX12_look 5 = .ok (.aload_n 0, 1) := by decide +kernel
theorem dX12_look_6 : decode cX12_look 6 = .ok (.iload_n 1, 1) := by decide +kernel
theorem dX12_look_7 : decode cX12_look 7 = .ok (.invokevirtual 413, 3) := by decide +kernel
theorem dX12_look_10 : decode cX12_look 10 = .ok (.ifCond .ne 9, 3) := by decide +kernel
theorem dX12_look_13 : decode cX12_look 13 = .ok (.aload_n 0, 1) := by decide +kernel
theorem dX12_look_14 : decode cX12_look 14 = .ok (.iconst 1, 1) := by decide +kernel
theorem dX12_look_15 : decode cX12_look 15 = .ok (.invokevirtual 416, 3) := by decide +kernel
theorem dX12_look_18 : decode cX12_look 18 = .ok (.ireturn, 1) := by decide +kernel
theorem dX12_look_19 : decode cX12_look 19 = .ok (.iload_n 2, 1) := by decide +kernel
theorem dX12_look_20 : decode cX12_look 20 = .ok (.tableswitch 96 0 5 #[40, 47, 54, 61, 68, 75], 40) := by decide +kernel
theorem dX12_look_60 : decode cX12_look 60 = .ok (.aload_n 0, 1) := by decide +kernel
theorem dX12_look_61 : decode cX12_look 61 = .ok (.getfield 88, 3) := by decide +kernel
theorem dX12_look_64 : decode cX12_look 64 = .ok (.iload_n 1, 1) := by decide +kernel
theorem dX12_look_65 : decode cX12_look 65 = .ok (.iaload, 1) := by decide +kernel
theorem dX12_look_66 : decode cX12_look 66 = .ok (.ireturn, 1) := by decide +kernel
theorem dX12_look_67 : decode cX12_look 67 = .ok (.aload_n 0, 1) := by decide +kernel
theorem dX12_look_68 : decode cX12_look 68 = .ok (.getfield 91, 3) := by decide +kernel
theorem dX12_look_71 : decode cX12_look 71 = .ok (.iload_n 1, 1) := by decide +kernel
theorem dX12_look_72 : decode cX12_look 72 = .ok (.iaload, 1) := by decide +kernel
theorem dX12_look_73 : decode cX12_look 73 = .ok (.ireturn, 1) := by decide +kernel
theorem dX12_look_74 : decode cX12_look 74 = .ok (.aload_n 0, 1) := by decide +kernel
theorem dX12_look_75 : decode cX12_look 75 = .ok (.getfield 94, 3) := by decide +kernel
theorem dX12_look_78 : decode cX12_look 78 = .ok (.iload_n 1, 1) := by decide +kernel
theorem dX12_look_79 : decode cX12_look 79 = .ok (.iaload, 1) := by decide +kernel
theorem dX12_look_80 : decode cX12_look 80 = .ok (.ireturn, 1) := by decide +kernel
theorem dX12_look_81 : decode cX12_look 81 = .ok (.aload_n 0, 1) := by decide +kernel
theorem dX12_look_82 : decode cX12_look 82 = .ok (.getfield 97, 3) := by decide +kernel
theorem dX12_look_85 : decode cX12_look 85 = .ok (.iload_n 1, 1) := by decide +kernel
theorem dX12_look_86 : decode cX12_look 86 = .ok (.iaload, 1) := by decide +kernel
theorem dX12_look_87 : decode cX12_look 87 = .ok (.ireturn, 1) := by decide +kernel
theorem dX12_look_88 : decode cX12_look 88 = .ok (.aload_n 0, 1) := by decide +kernel
theorem dX12_look_89 : decode cX12_look 89 = .ok (.getfield 100, 3) := by decide +kernel
theorem dX12_look_92 : decode cX12_look 92 = .ok (.iload_n 1, 1) := by decide +kernel
theorem dX12_look_93 : decode cX12_look 93 = .ok (.iaload, 1) := by decide +kernel
theorem dX12_look_94 : decode cX12_look 94 = .ok (.ireturn, 1) := by decide +kernel
theorem dX12_look_95 : decode cX12_look 95 = .ok (.aload_n 0, 1) := by decide +kernel
theorem dX12_look_96 : decode cX12_look 96 = .ok (.aload_n 0, 1) := by decide +kernel
theorem dX12_look_97 : decode cX12_look 97 = .ok (.getfield 88, 3) := by decide +kernel
theorem dX12_look_100 : decode cX12_look 100 = .ok (.iload_n 1, 1) := by decide +kernel
theorem dX12_look_101 : decode cX12_look 101 = .ok (.iaload, 1) := by decide +kernel
theorem dX12_look_102 : decode cX12_look 102 = .ok (.aload_n 0, 1) := by decide +kernel
theorem dX12_look_103 : decode cX12_look 103 = .ok (.aload_n 0, 1) := by decide +kernel
theorem dX12_look_104 : decode cX12_look 104 = .ok (.getfield 106, 3) := by decide +kernel
theorem dX12_look_107 : decode cX12_look 107 = .ok (.iconst 0, 1) := by decide +kernel
theorem dX12_look_108 : decode cX12_look 108 = .ok (.iaload, 1) := by decide +kernel
theorem dX12_look_109 : decode cX12_look 109 = .ok (.invokevirtual 400, 3) := by decide +kernel
theorem dX12_look_112 : decode cX12_look 112 = .ok (.invokevirtual 403, 3) := by decide +kernel
theorem dX12_look_115 : decode cX12_look 115 = .ok (.ireturn, 1) := by decide +kernel
theorem dX12_look_116 : decode cX12_look 116 = .ok (.aload_n 0, 1) := by decide +kernel
theorem dX12_look_117 : decode cX12_look 117 = .ok (.iconst 2, 1) := by decide +kernel
theorem dX12_look_118 : decode cX12_look 118 = .ok (.invokevirtual 416, 3) := by decide +kernel
theorem dX12_look_121 : decode cX12_look 121 = .ok (.ireturn, 1) := by decide +kernel
theorem dX12_minutes_0 : decode cX12_minutes 0 = .ok (.aload_n 0, 1) := by decide +kernel
theorem dX12_minutes_1 : decode cX12_minutes 1 = .ok (.iconst 0, 1) := by decide +kernel
theorem dX12_minutes_2 : decode cX12_minutes 2 = .ok (.putfield 154, 3) := by decide +kernel
theorem dX12_minutes_5 : decode cX12_minutes 5 = .ok (.iload_n 1, 1) := by decide +kernel
theorem dX12_minutes_6 : decode cX12_minutes 6 = .ok (.iconst 0, 1) := by decide +kernel
theorem dX12_minutes_7 : decode cX12_minutes 7 = .ok (.bipush 99, 2) := by decide +kernel
theorem dX12_minutes_9 : decode cX12_minutes 9 = .ok (.invokestatic 199, 3) := by decide +kernel
theorem dX12_minutes_12 : decode cX12_minutes 12 = .ok (.ifCond .eq 17, 3) := by decide +kernel
theorem dX12_minutes_15 : decode cX12_minutes 15 = .ok (.aload_n 0, 1) := by decide +kernel
theorem dX12_minutes_16 : decode cX12_minutes 16 = .ok (.getfield 106, 3) := by decide +kernel
theorem dX12_minutes_19 : decode cX12_minutes 19 = .ok (.iconst 0, 1) := by decide +kernel
theorem dX12_minutes_20 : decode cX12_minutes 20 = .ok (.iaload, 1) := by decide +kernel
theorem dX12_minutes_21 : decode cX12_minutes 21 = .ok (.iload_n 1, 1) := by decide +kernel
theorem dX12_minutes_22 : decode cX12_minutes 22 = .ok (.iadd, 1) := by decide +kernel
theorem dX12_minutes_23 : decode cX12_minutes 23 = .ok (.sipush 199, 3) := by decide +kernel
theorem dX12_minutes_26 : decode cX12_minutes 26 = .ok (.if_icmp .le 5, 3) := by decide +kernel
theorem dX12_minutes_29 : decode cX12_minutes 29 = .ok (.iconst (-1), 1) := by decide +kernel
theorem dX12_minutes_30 : decode cX12_minutes 30 = .ok (.ireturn, 1) := by decide +kernel
theorem dX12_minutes_31 : decode cX12_minutes 31 = .ok (.iconst 0, 1) := by decide +kernel
theorem dX12_minutes_32 : decode cX12_minutes 32 = .ok (.istore_n 2, 1) := by decide +kernel
theorem dX12_minutes_33 : decode cX12_minutes 33 = .ok (.iload_n 2, 1) := by decide +kernel
theorem dX12_minutes_34 : decode cX12_minutes 34 = .ok (.iload_n 1, 1) := by decide +kernel
theorem dX12_minutes_35 : decode cX12_minutes 35 = .ok (.if_icmp .ge 46, 3) := by decide +kernel
theorem dX12_minutes_38 : decode cX12_minutes 38 = .ok (.aload_n 0, 1) := by decide +kernel
theorem dX12_minutes_39 : decode cX12_minutes 39 = .ok (.iconst 0, 1) := by decide +kernel
theorem dX12_minutes_40 : decode cX12_minutes 40 = .ok (.aload_n 0, 1) := by decide +kernel
theorem dX12_minutes_41 : decode cX12_minutes 41 = .ok (.getfield 369, 3) := by decide +kernel
theorem dX12_minutes_44 : decode cX12_minutes 44 = .ok (.invokevirtual 472, 3) := by decide +kernel
theorem dX12_minutes_47 : decode cX12_minutes 47 = .ok (.iconst 0, 1) := by decide +kernel
theorem dX12_minutes_48 : decode cX12_minutes 48 = .ok (.istore_n 3, 1) := by decide +kernel
theorem dX12_minutes_49 : decode cX12_minutes 49 = .ok (.iload_n 3, 1) := by decide +kernel
theorem dX12_minutes_50 : decode cX12_minutes 50 = .ok (.aload_n 0, 1) := by decide +kernel
theorem dX12_minutes_51 : decode cX12_minutes 51 = .ok (.getfield 247, 3) := by decide +kernel
theorem dX12_minutes_54 : decode cX12_minutes 54 = .ok (.if_icmp .ge 21, 3) := by decide +kernel
theorem dX12_minutes_57 : decode cX12_minutes 57 = .ok (.aload_n 0, 1) := by decide +kernel
theorem dX12_minutes_58 : decode cX12_minutes 58 = .ok (.getfield 100, 3) := by decide +kernel
theorem dX12_minutes_61 : decode cX12_minutes 61 = .ok (.iload_n 3, 1) := by decide +kernel
theorem dX12_minutes_62 : decode cX12_minutes 62 = .ok (.aload_n 0, 1) := by decide +kernel
theorem dX12_minutes_63 : decode cX12_minutes 63 = .ok (.getfield 36, 3) := by decide +kernel
theorem dX12_minutes_66 : decode cX12_minutes 66 = .ok (.iload_n 3, 1) := by decide +kernel
theorem dX12_minutes_67 : decode cX12_minutes 67 = .ok (.iaload, 1) := by decide +kernel
theorem dX12_minutes_68 : decode cX12_minutes 68 = .ok (.iastore, 1) := by decide +kernel
theorem dX12_minutes_69 : decode cX12_minutes 69 = .ok (.iinc 3 1, 3) := by decide +kernel
theorem dX12_minutes_72 : decode cX12_minutes 72 = .ok (.goto (-23), 3) := by decide +kernel
theorem dX12_minutes_75 : decode cX12_minutes 75 = .ok (.iinc 2 1, 3) := by decide +kernel
theorem dX12_minutes_78 : decode cX12_minutes 78 = .ok (.goto (-45), 3) := by decide +kernel
theorem dX12_minutes_81 : decode cX12_minutes 81 = .ok (.aload_n 0, 1) := by decide +kernel
theorem dX12_minutes_82 : decode cX12_minutes 82 = .ok (.iload_n 1, 1) := by decide +kernel
theorem dX12_minutes_83 : decode cX12_minutes 83 = .ok (.ifCond .le 7, 3) := by decide +kernel
theorem dX12_minutes_86 : decode cX12_minutes 86 = .ok (.iconst 0, 1) := by decide +kernel
theorem dX12_minutes_87 : decode cX12_minutes 87 = .ok (.goto 7, 3) := by decide +kernel
theorem dX12_minutes_90 : decode cX12_minutes 90 = .ok (.aload_n 0, 1) := by decide +kernel
theorem dX12_minutes_91 : decode cX12_minutes 91 = .ok (.getfield 379, 3) := by decide +kernel
theorem dX12_minutes_94 : decode cX12_minutes 94 = .ok (.putfield 379, 3) := by decide +kernel
theorem dX12_minutes_97 : decode cX12_minutes 97 = .ok (.aload_n 0, 1) := by decide +kernel
theorem dX12_minutes_98 : decode cX12_minutes 98 = .ok (.getfield 106, 3) := by decide +kernel
theorem dX12_minutes_101 : decode cX12_minutes 101 = .ok (.iconst 0, 1) := by decide +kernel
theorem dX12_minutes_102 : decode cX12_minutes 102 = .ok (.iaload, 1) := by decide +kernel
theorem dX12_minutes_103 : decode cX12_minutes 103 = .ok (.ireturn, 1) := by decide +kernel
theorem dX12_named_0 : decode cX12_named 0 = .ok (.aload_n 0, 1) := by decide +kernel
theorem dX12_named_1 : decode cX12_named 1 = .ok (.iconst 0, 1) := by decide +kernel
theorem dX12_named_2 : decode cX12_named 2 = .ok (.putfield 154, 3) := by decide +kernel
theorem dX12_named_5 : decode cX12_named 5 = .ok (.aload_n 0, 1) := by decide +kernel
theorem dX12_named_6 : decode cX12_named 6 = .ok (.getfield 27, 3) := by decide +kernel
theorem dX12_named_9 : decode cX12_named 9 = .ok (.iconst 0, 1) := by decide +kernel
theorem dX12_named_10 : decode cX12_named 10 = .ok (.aload_n 0, 1) := by decide +kernel
theorem dX12_named_11 : decode cX12_named 11 = .ok (.getfield 247, 3) := by decide +kernel
theorem dX12_named_14 : decode cX12_named 14 = .ok (.iload_n 1, 1) := by decide +kernel
theorem dX12_named_15 : decode cX12_named 15 = .ok (.invokestatic 269, 3) := by decide +kernel
theorem dX12_named_18 : decode cX12_named 18 = .ok (.ireturn, 1) := by decide +kernel
theorem dX12_next_0 : decode cX12_next 0 = .ok (.aload_n 0, 1) := by decide +kernel
theorem dX12_next_1 : decode cX12_next 1 = .ok (.iconst 0, 1) := by decide +kernel
theorem dX12_next_2 : decode cX12_next 2 = .ok (.putfield 154, 3) := by decide +kernel
theorem dX12_next_5 : decode cX12_next 5 = .ok (.iconst 0, 1) := by decide +kernel
theorem dX12_next_6 : decode cX12_next 6 = .ok (.istore_n 1, 1) := by decide +kernel
theorem dX12_next_7 : decode cX12_next 7 = .ok (.iload_n 1, 1) := by decide +kernel
theorem dX12_next_8 : decode cX12_next 8 = .ok (.aload_n 0, 1) := by decide +kernel
theorem dX12_next_9 : decode cX12_next 9 = .ok (.getfield 250, 3) := by decide +kernel
theorem dX12_next_12 : decode cX12_next 12 = .ok (.if_icmp .ge 48, 3) := by decide +kernel
theorem dX12_next_15 : decode cX12_next 15 = .ok (.aload_n 0, 1) := by decide +kernel
theorem dX12_next_16 : decode cX12_next 16 = .ok (.getfield 48, 3) := by decide +kernel
theorem dX12_next_19 : decode cX12_next 19 = .ok (.aload_n 0, 1) := by decide +kernel
theorem dX12_next_20 : decode cX12_next 20 = .ok (.getfield 45, 3) := by decide +kernel
theorem dX12_next_23 : decode cX12_next 23 = .ok (.iload_n 1, 1) := by decide +kernel
theorem dX12_next_24 : decode cX12_next 24 = .ok (.iaload, 1) := by decide +kernel
theorem dX12_next_25 : decode cX12_next 25 = .ok (.iaload, 1) := by decide +kernel
theorem dX12_next_26 : decode cX12_next 26 = .ok (.aload_n 0, 1) := by decide +kernel
theorem dX12_next_27 : decode cX12_next 27 = .ok (.getfield 106, 3) := by decide +kernel
theorem dX12_next_30 : decode cX12_next 30 = .ok (.iconst 0, 1) := by decide +kernel
theorem dX12_next_31 : decode cX12_next 31 = .ok (.iaload, 1) := by decide +kernel
theorem dX12_next_32 : decode cX12_next 32 = .ok (.if_icmp .lt 22, 3) := by decide +kernel
theorem dX12_next_35 : decode cX12_next 35 = .ok (.aload_n 0, 1) := by decide +kernel
theorem dX12_next_36 : decode cX12_next 36 = .ok (.getfield 48, 3) := by decide +kernel
theorem dX12_next_39 : decode cX12_next 39 = .ok (.aload_n 0, 1) := by decide +kernel
theorem dX12_next_40 : decode cX12_next 40 = .ok (.getfield 45, 3) := by decide +kernel
theorem dX12_next_43 : decode cX12_next 43 = .ok (.iload_n 1, 1) := by decide +kernel
theorem dX12_next_44 : decode cX12_next 44 = .ok (.iaload, 1) := by decide +kernel
theorem dX12_next_45 : decode cX12_next 45 = .ok (.iaload, 1) := by decide +kernel
theorem dX12_next_46 : decode cX12_next 46 = .ok (.aload_n 0, 1) := by decide +kernel
theorem dX12_next_47 : decode cX12_next 47 = .ok (.getfield 106, 3) := by decide +kernel
theorem dX12_next_50 : decode cX12_next 50 = .ok (.iconst 0, 1) := by decide +kernel
theorem dX12_next_51 : decode cX12_next 51 = .ok (.iaload, 1) := by decide +kernel
theorem dX12_next_52 : decode cX12_next 52 = .ok (.isub, 1) := by decide +kernel
theorem dX12_next_53 : decode cX12_next 53 = .ok (.ireturn, 1) := by decide +kernel
theorem dX12_next_54 : decode cX12_next 54 = .ok (.iinc 1 1, 3) := by decide +kernel
theorem dX12_next_57 : decode cX12_next 57 = .ok (.goto (-50), 3) := by decide +kernel
theorem dX12_next_60 : decode cX12_next 60 = .ok (.bipush (-2), 2) := by decide +kernel
theorem dX12_next_62 : decode cX12_next 62 = .ok (.ireturn, 1) := by decide +kernel
theorem dX12_noted_0 : decode cX12_noted 0 = .ok (.aload_n 0, 1) := by decide +kernel
theorem dX12_noted_1 : decode cX12_noted 1 = .ok (.getfield 136, 3) := by decide +kernel
theorem dX12_noted_4 : decode cX12_noted 4 = .ok (.iconst 3, 1) := by decide +kernel
theorem dX12_noted_5 : decode cX12_noted 5 = .ok (.aload_n 0, 1) := by decide +kernel
theorem dX12_noted_6 : decode cX12_noted 6 = .ok (.getfield 376, 3) := by decide +kernel
theorem dX12_noted_9 : decode cX12_noted 9 = .ok (.imul, 1) := by decide +kernel
theorem dX12_noted_10 : decode cX12_noted 10 = .ok (.iload_n 1, 1) := by decide +kernel
theorem dX12_noted_11 : decode cX12_noted 11 = .ok (.iastore, 1) := by decide +kernel
theorem dX12_noted_12 : decode cX12_noted 12 = .ok (.aload_n 0, 1) := by decide +kernel
theorem dX12_noted_13 : decode cX12_noted 13 = .ok (.getfield 136, 3) := by decide +kernel
theorem dX12_noted_16 : decode cX12_noted 16 = .ok (.iconst 3, 1) := by decide +kernel
theorem dX12_noted_17 : decode cX12_noted 17 = .ok (.aload_n 0, 1) := by decide +kernel
theorem dX12_noted_18 : decode cX12_noted 18 = .ok (.getfield 376, 3) := by decide +kernel
theorem dX12_noted_21 : decode cX12_noted 21 = .ok (.imul, 1) := by decide +kernel
theorem dX12_noted_22 : decode cX12_noted 22 = .ok (.iconst 1, 1) := by decide +kernel
theorem dX12_noted_23 : decode cX12_noted 23 = .ok (.iadd, 1) := by decide +kernel
theorem dX12_noted_24 : decode cX12_noted 24 = .ok (.iload_n 2, 1) := by decide +kernel
theorem dX12_noted_25 : decode cX12_noted 25 = .ok (.iastore, 1) := by decide +kernel
theorem dX12_noted_26 : decode cX12_noted 26 = .ok (.aload_n 0, 1) := by decide +kernel
theorem dX12_noted_27 : decode cX12_noted 27 = .ok (.getfield 136, 3) := by decide +kernel
theorem dX12_noted_30 : decode cX12_noted 30 = .ok (.iconst 3, 1) := by decide +kernel
theorem dX12_noted_31 : decode cX12_noted 31 = .ok (.aload_n 0, 1) := by decide +kernel
theorem dX12_noted_32 : decode cX12_noted 32 = .ok (.getfield 376, 3) := by decide +kernel
theorem dX12_noted_35 : decode cX12_noted 35 = .ok (.imul, 1) := by decide +kernel
theorem dX12_noted_36 : decode cX12_noted 36 = .ok (.iconst 2, 1) := by decide +kernel
theorem dX12_noted_37 : decode cX12_noted 37 = .ok (.iadd, 1) := by decide +kernel
theorem dX12_noted_38 : decode cX12_noted 38 = .ok (.iload_n 3, 1) := by decide +kernel
theorem dX12_noted_39 : decode cX12_noted 39 = .ok (.iastore, 1) := by decide +kernel
theorem dX12_noted_40 : decode cX12_noted 40 = .ok (.aload_n 0, 1) := by decide +kernel
theorem dX12_noted_41 : decode cX12_noted 41 = .ok (.dup, 1) := by decide +kernel
theorem dX12_noted_42 : decode cX12_noted 42 = .ok (.getfield 376, 3) := by decide +kernel
theorem dX12_noted_45 : decode cX12_noted 45 = .ok (.iconst 1, 1) := by decide +kernel
theorem dX12_noted_46 : decode cX12_noted 46 = .ok (.iadd, 1) := by decide +kernel
theorem dX12_noted_47 : decode cX12_noted 47 = .ok (.putfield 376, 3) := by decide +kernel
theorem dX12_noted_50 : decode cX12_noted 50 = .ok (.aload_n 0, 1) := by decide +kernel
theorem dX12_noted_51 : decode cX12_noted 51 = .ok (.getfield 376, 3) := by decide +kernel
theorem dX12_noted_54 : decode cX12_noted 54 = .ok (.iconst 1, 1) := by decide +kernel
theorem dX12_noted_55 : decode cX12_noted 55 = .ok (.isub, 1) := by decide +kernel
theorem dX12_noted_56 : decode cX12_noted 56 = .ok (.ireturn, 1) := by decide +kernel
theorem dX12_note_0 : decode cX12_note 0 = .ok (.aload_n 0, 1) := by decide +kernel
theorem dX12_note_1 : decode cX12_note 1 = .ok (.iconst 0, 1) := by decide +kernel
theorem dX12_note_2 : decode cX12_note 2 = .ok (.putfield 154, 3) := by decide +kernel
theorem dX12_note_5 : decode cX12_note 5 = .ok (.aload_n 0, 1) := by decide +kernel
theorem dX12_note_6 : decode cX12_note 6 = .ok (.getfield 376, 3) := by decide +kernel
theorem dX12_note_9 : decode cX12_note 9 = .ok (.bipush 24, 2) := by decide +kernel
theorem dX12_note_11 : decode cX12_note 11 = .ok (.if_icmp .eq 30, 3) := by decide +kernel
theorem dX12_note_14 : decode cX12_note 14 = .ok (.iload_n 1, 1) := by decide +kernel
theorem dX12_note_15 : decode cX12_note 15 = .ok (.iconst 0, 1) := by decide +kernel
theorem dX12_note_16 : decode cX12_note 16 = .ok (.sipush 199, 3) := by decide +kernel
theorem dX12_note_19 : decode cX12_note 19 = .ok (.invokestatic 199, 3) := by decide +kernel
theorem dX12_note_22 : decode cX12_note 22 = .ok (.ifCond .eq 19, 3) := by decide +kernel
theorem dX12_note_25 : decode cX12_note 25 = .ok (.aload_n 0, 1) := by decide +kernel
theorem dX12_note_26 : decode cX12_note 26 = .ok (.iload_n 2, 1) := by decide +kernel
theorem dX12_note_27 : decode cX12_note 27 = .ok (.invokevirtual 413, 3) := by decide +kernel
theorem dX12_note_30 : decode cX12_note 30 = .ok (.ifCond .eq 11, 3) := by decide +kernel
theorem dX12_note_33 : decode cX12_note 33 = .ok (.aload_n 0, 1) := by decide +kernel
theorem dX12_note_34 : decode cX12_note 34 = .ok (.iload_n 3, 1) := by decide +kernel
theorem dX12_note_35 : decode cX12_note 35 = .ok (.invokevirtual 422, 3) := by decide +kernel
theorem dX12_note_38 : decode cX12_note 38 = .ok (.ifCond .ne 7, 3) := by decide +kernel
theorem dX12_note_41 : decode cX12_note 41 = .ok (.iconst (-1), 1) := by decide +kernel
theorem dX12_note_42 : decode cX12_note 42 = .ok (.goto 10, 3) := by decide +kernel
theorem dX12_note_45 : decode cX12_note 45 = .ok (.aload_n 0, 1) := by decide +kernel
theorem dX12_note_46 : decode cX12_note 46 = .ok (.iload_n 1, 1) := by decide +kernel
theorem dX12_note_47 : decode cX12_note 47 = .ok (.iload_n 2, 1) := by decide +kernel
theorem dX12_note_48 : decode cX12_note 48 = .ok (.iload_n 3, 1) := by decide +kernel
theorem dX12_note_49 : decode cX12_note 49 = .ok (.invokevirtual 524, 3) := by decide +kernel
theorem dX12_note_52 : decode cX12_note 52 = .ok (.ireturn, 1) := by decide +kernel
theorem dX12_odds_0 : decode cX12_odds 0 = .ok (.aload_n 0, 1) := by decide +kernel
theorem dX12_odds_1 : decode cX12_odds 1 = .ok (.iconst 0, 1) := by decide +kernel
theorem dX12_odds_2 : decode cX12_odds 2 = .ok (.putfield 154, 3) := by decide +kernel
theorem dX12_odds_5 : decode cX12_odds 5 = .ok (.aload_n 0, 1) := by decide +kernel
theorem dX12_odds_6 : decode cX12_odds 6 = .ok (.iload_n 1, 1) := by decide +kernel
theorem dX12_odds_7 : decode cX12_odds 7 = .ok (.invokevirtual 413, 3) := by decide +kernel
theorem dX12_odds_10 : decode cX12_odds 10 = .ok (.ifCond .eq 29, 3) := by decide +kernel
theorem dX12_odds_13 : decode cX12_odds 13 = .ok (.aload_n 0, 1) := by decide +kernel
theorem dX12_odds_14 : decode cX12_odds 14 = .ok (.iload_n 2, 1) := by decide +kernel
theorem dX12_odds_15 : decode cX12_odds 15 = .ok (.invokevirtual 419, 3) := by decide +kernel
theorem dX12_odds_18 : decode cX12_odds 18 = .ok (.ifCond .eq 21, 3) := by decide +kernel
theorem dX12_odds_21 : decode cX12_odds 21 = .ok (.aload_n 0, 1) := by decide +kernel
theorem dX12_odds_22 : decode cX12_odds 22 = .ok (.iload_n 3, 1) := by decide +kernel
theorem dX12_odds_23 : decode cX12_odds 23 = .ok (.invokevirtual 422, 3) := by decide +kernel
theorem dX12_odds_26 : decode cX12_odds 26 = .ok (.ifCond .eq 13, 3) := by decide +kernel
theorem dX12_odds_29 : decode cX12_odds 29 = .ok (.aload_n 0, 1) := by decide +kernel
theorem dX12_odds_30 : decode cX12_odds 30 = .ok (.iload_n 1, 1) := by decide +kernel
theorem dX12_odds_31 : decode cX12_odds 31 = .ok (.iload_n 2, 1) := by decide +kernel
theorem dX12_odds_32 : decode cX12_odds 32 = .ok (.iload_n 3, 1) := by decide +kernel
theorem dX12_odds_33 : decode cX12_odds 33 = .ok (.invokevirtual 425, 3) := by decide +kernel
theorem dX12_odds_36 : decode cX12_odds 36 = .ok (.goto 4, 3) := by decide +kernel
theorem dX12_odds_39 : decode cX12_odds 39 = .ok (.iconst (-1), 1) := by decide +kernel
theorem dX12_odds_40 : decode cX12_odds 40 = .ok (.ireturn, 1) := by decide +kernel
theorem dX12_order_0 : decode cX12_order 0 = .ok (.aload_n 0, 1) := by decide +kernel
theorem dX12_order_1 : decode cX12_order 1 = .ok (.iconst 0, 1) := by decide +kernel
theorem dX12_order_2 : decode cX12_order 2 = .ok (.putfield 154, 3) := by decide +kernel
theorem dX12_order_5 : decode cX12_order 5 = .ok (.aload_n 0, 1) := by decide +kernel
theorem dX12_order_6 : decode cX12_order 6 = .ok (.iload_n 1, 1) := by decide +kernel
theorem dX12_order_7 : decode cX12_order 7 = .ok (.invokevirtual 476, 3) := by decide +kernel
theorem dX12_order_10 : decode cX12_order 10 = .ok (.ifCond .eq 7, 3) := by decide +kernel
theorem dX12_order_13 : decode cX12_order 13 = .ok (.iload_n 2, 1) := by decide +kernel
theorem dX12_order_14 : decode cX12_order 14 = .ok (.ifCond .ge 5, 3) := by decide +kernel
theorem dX12_order_17 : decode cX12_order 17 = .ok (.iconst (-1), 1) := by decide +kernel
theorem dX12_order_18 : decode cX12_order 18 = .ok (.ireturn, 1) := by decide +kernel
theorem dX12_order_19 : decode cX12_order 19 = .ok (.aload_n 0, 1) := by decide +kernel
theorem dX12_order_20 : decode cX12_order 20 = .ok (.iconst 0, 1) := by decide +kernel
theorem dX12_order_21 : decode cX12_order 21 = .ok (.iload_n 1, 1) := by decide +kernel
theorem dX12_order_22 : decode cX12_order 22 = .ok (.aload_n 0, 1) := by decide +kernel
theorem dX12_order_23 : decode cX12_order 23 = .ok (.getfield 369, 3) := by decide +kernel
theorem dX12_order_26 : decode cX12_order 26 = .ok (.invokevirtual 453, 3) := by decide +kernel
theorem dX12_order_29 : decode cX12_order 29 = .ok (.iload_n 2, 1) := by decide +kernel
theorem dX12_order_30 : decode cX12_order 30 = .ok (.aload_n 0, 1) := by decide +kernel
theorem dX12_order_31 : decode cX12_order 31 = .ok (.getfield 433, 3) := by decide +kernel
theorem dX12_order_34 : decode cX12_order 34 = .ok (.if_icmp .lt 8, 3) := by decide +kernel
theorem dX12_order_37 : decode cX12_order 37 = .ok (.bipush (-2), 2) := by decide +kernel
theorem dX12_order_39 : decode cX12_order 39 = .ok (.goto 9, 3) := by decide +kernel
theorem dX12_order_42 : decode cX12_order 42 = .ok (.aload_n 0, 1) := by decide +kernel
theorem dX12_order_43 : decode cX12_order 43 = .ok (.getfield 118, 3) := by decide +kernel
theorem dX12_order_46 : decode cX12_order 46 = .ok (.iload_n 2, 1) := by decide +kernel
theorem dX12_order_47 : decode cX12_order 47 = .ok (.iaload, 1) := by decide +kernel
theorem dX12_order_48 : decode cX12_order 48 = .ok (.ireturn, 1) := by decide +kernel
theorem dX12_over_0 : decode cX12_over 0 = .ok (.aload_n 0, 1) := by decide +kernel
theorem dX12_over_1 : decode cX12_over 1 = .ok (.iconst 0, 1) := by decide +kernel
theorem dX12_over_2 : decode cX12_over 2 = .ok (.putfield 154, 3) := by decide +kernel
theorem dX12_over_5 : decode cX12_over 5 = .ok (.aload_n 0, 1) := by decide +kernel
theorem dX12_over_6 : decode cX12_over 6 = .ok (.iload_n 1, 1) := by decide +kernel
theorem dX12_over_7 : decode cX12_over 7 = .ok (.invokevirtual 413, 3) := by decide +kernel
theorem dX12_over_10 : decode cX12_over 10 = .ok (.ifCond .eq 19, 3) := by decide +kernel
theorem dX12_over_13 : decode cX12_over 13 = .ok (.aload_n 0, 1) := by decide +kernel
theorem dX12_over_14 : decode cX12_over 14 = .ok (.getfield 24, 3) := by decide +kernel
theorem dX12_over_17 : decode cX12_over 17 = .ok (.iconst 2, 1) := by decide +kernel
theorem dX12_over_18 : decode cX12_over 18 = .ok (.iaload, 1) := by decide +kernel
theorem dX12_over_19 : decode cX12_over 19 = .ok (.ifCond .eq 10, 3) := by decide +kernel
theorem dX12_over_22 : decode cX12_over 22 = .ok (.aload_n 0, 1) := by decide +kernel
theorem dX12_over_23 : decode cX12_over 23 = .ok (.getfield 253, 3) := by decide +kernel
theorem dX12_over_26 : decode cX12_over 26 = .ok (.ifCond .ne 5, 3) := by decide +kernel
theorem dX12_over_29 : decode cX12_over 29 = .ok (.iconst (-1), 1) := by decide +kernel
theorem dX12_over_30 : decode cX12_over 30 = .ok (.ireturn, 1) := by decide +kernel
theorem dX12_over_31 : decode cX12_over 31 = .ok (.aload_n 0, 1) := by decide +kernel
theorem dX12_over_32 : decode cX12_over 32 = .ok (.getfield 48, 3) := by decide +kernel
theorem dX12_over_35 : decode cX12_over 35 = .ok (.aload_n 0, 1) := by decide +kernel
theorem dX12_over_36 : decode cX12_over 36 = .ok (.getfield 253, 3) := by decide +kernel
theorem dX12_over_39 : decode cX12_over 39 = .ok (.iconst 1, 1) := by decide +kernel
theorem dX12_over_40 : decode cX12_over 40 = .ok (.isub, 1) := by decide +kernel
theorem dX12_over_41 : decode cX12_over 41 = .ok (.iaload, 1) := by decide +kernel
theorem dX12_over_42 : decode cX12_over 42 = .ok (.istore_n 2, 1) := by decide +kernel
theorem dX12_over_43 : decode cX12_over 43 = .ok (.aload_n 0, 1) := by decide +kernel
theorem dX12_over_44 : decode cX12_over 44 = .ok (.getfield 106, 3) := by decide +kernel
theorem dX12_over_47 : decode cX12_over 47 = .ok (.iconst 0, 1) := by decide +kernel
theorem dX12_over_48 : decode cX12_over 48 = .ok (.iaload, 1) := by decide +kernel
theorem dX12_over_49 : decode cX12_over 49 = .ok (.istore_n 3, 1) := by decide +kernel
theorem dX12_over_50 : decode cX12_over 50 = .ok (.iload_n 3, 1) := by decide +kernel
theorem dX12_over_51 : decode cX12_over 51 = .ok (.iload_n 2, 1) := by decide +kernel
theorem dX12_over_52 : decode cX12_over 52 = .ok (.if_icmp .gt 72, 3) := by decide +kernel
theorem dX12_over_55 : decode cX12_over 55 = .ok (.iload_n 2, 1) := by decide +kernel
theorem dX12_over_56 : decode cX12_over 56 = .ok (.iload_n 3, 1) := by decide +kernel
theorem dX12_over_57 : decode cX12_over 57 = .ok (.isub, 1) := by decide +kernel
theorem dX12_over_58 : decode cX12_over 58 = .ok (.aload_n 0, 1) := by decide +kernel
theorem dX12_over_59 : decode cX12_over 59 = .ok (.getfield 24, 3) := by decide +kernel
theorem dX12_over_62 : decode cX12_over 62 = .ok (.iconst 2, 1) := by decide +kernel
theorem dX12_over_63 : decode cX12_over 63 = .ok (.iaload, 1) := by decide +kernel
theorem dX12_over_64 : decode cX12_over 64 = .ok (.isub, 1) := by decide +kernel
theorem dX12_over_65 : decode cX12_over 65 = .ok (.istore 4, 2) := by decide +kernel
theorem dX12_over_67 : decode cX12_over 67 = .ok (.iload 4, 2) := by decide +kernel
theorem dX12_over_69 : decode cX12_over 69 = .ok (.ifCond .ge 7, 3) := by decide +kernel
theorem dX12_over_72 : decode cX12_over 72 = .ok (.iconst 0, 1) := by decide +kernel
theorem dX12_over_73 : decode cX12_over 73 = .ok (.goto 14, 3) := by decide +kernel
theorem dX12_over_76 : decode cX12_over 76 = .ok (.iload 4, 2) := by decide +kernel
theorem dX12_over_78 : decode cX12_over 78 = .ok (.aload_n 0, 1) := by decide +kernel
theorem dX12_over_79 : decode cX12_over 79 = .ok (.getfield 24, 3) := by decide +kernel
theorem dX12_over_82 : decode cX12_over 82 = .ok (.iconst 3, 1) := by decide +kernel
theorem dX12_over_83 : decode cX12_over 83 = .ok (.iaload, 1) := by decide +kernel
theorem dX12_over_84 : decode cX12_over 84 = .ok (.idiv, 1) := by decide +kernel
theorem dX12_over_85 : decode cX12_over 85 = .ok (.iconst 1, 1) := by decide +kernel
theorem dX12_over_86 : decode cX12_over 86 = .ok (.iadd, 1) := by decide +kernel
theorem dX12_over_87 : decode cX12_over 87 = .ok (.istore 5, 2) := by decide +kernel
theorem dX12_over_89 : decode cX12_over 89 = .ok (.bipush 100, 2) := by decide +kernel
theorem dX12_over_91 : decode cX12_over 91 = .ok (.aload_n 0, 1) := by decide +kernel
theorem dX12_over_92 : decode cX12_over 92 = .ok (.getfield 24, 3) := by decide +kernel
theorem dX12_over_95 : decode cX12_over 95 = .ok (.iconst 4, 1) := by decide +kernel
theorem dX12_over_96 : decode cX12_over 96 = .ok (.iaload, 1) := by decide +kernel
theorem dX12_over_97 : decode cX12_over 97 = .ok (.imul, 1) := by decide +kernel
theorem dX12_over_98 : decode cX12_over 98 = .ok (.iload 5, 2) := by decide +kernel
theorem dX12_over_100 : decode cX12_over 100 = .ok (.imul, 1) := by decide +kernel
theorem dX12_over_101 : decode cX12_over 101 = .ok (.aload_n 0, 1) := by decide +kernel
theorem dX12_over_102 : decode cX12_over 102 = .ok (.iload_n 1, 1) := by decide +kernel
theorem dX12_over_103 : decode cX12_over 103 = .ok (.aload_n 0, 1) := by decide +kernel
theorem dX12_over_104 : decode cX12_over 104 = .ok (.getfield 88, 3) := by decide +kernel
theorem dX12_over_107 : decode cX12_over 107 = .ok (.iload_n 1, 1) := by decide +kernel
theorem dX12_over_108 : decode cX12_over 108 = .ok (.iaload, 1) := by decide +kernel
theorem dX12_over_109 : decode cX12_over 109 = .ok (.iload_n 3, 1) := by decide +kernel
theorem dX12_over_110 : decode cX12_over 110 = .ok (.invokevirtual 482, 3) := by decide +kernel
theorem dX12_over_113 : decode cX12_over 113 = .ok (.if_icmp .le 5, 3) := by decide +kernel
theorem dX12_over_116 : decode cX12_over 116 = .ok (.iload_n 3, 1) := by decide +kernel
theorem dX12_over_117 : decode cX12_over 117 = .ok (.ireturn, 1) := by decide +kernel
theorem dX12_over_118 : decode cX12_over 118 = .ok (.iinc 3 1, 3) := by decide +kernel
theorem dX12_over_121 : decode cX12_over 121 = .ok (.goto (-71), 3) := by decide +kernel
theorem dX12_over_124 : decode cX12_over 124 = .ok (.bipush (-2), 2) := by decide +kernel
theorem dX12_over_126 : decode cX12_over 126 = .ok (.ireturn, 1) := by decide +kernel
theorem dX12_peak_0 : decode cX12_peak 0 = .ok (.aload_n 0, 1) := by decide +kernel
theorem dX12_peak_1 : decode cX12_peak 1 = .ok (.iconst 0, 1) := by decide +kernel
theorem dX12_peak_2 : decode cX12_peak 2 = .ok (.putfield 154, 3) := by decide +kernel
theorem dX12_peak_5 : decode cX12_peak 5 = .ok (.iload_n 1, 1) := by decide +kernel
theorem dX12_peak_6 : decode cX12_peak 6 = .ok (.iconst 0, 1) := by decide +kernel
theorem dX12_peak_7 : decode cX12_peak 7 = .ok (.sipush 199, 3) := by decide +kernel
theorem dX12_peak_10 : decode cX12_peak 10 = .ok (.invokestatic 199, 3) := by decide +kernel
theorem dX12_peak_13 : decode cX12_peak 13 = .ok (.ifCond .eq 11, 3) := by decide +kernel
theorem dX12_peak_16 : decode cX12_peak 16 = .ok (.aload_n 0, 1) := by decide +kernel
theorem dX12_peak_17 : decode cX12_peak 17 = .ok (.iload_n 1, 1) := by decide +kernel
theorem dX12_peak_18 : decode cX12_peak 18 = .ok (.invokevirtual 400, 3) := by decide +kernel
theorem dX12_peak_21 : decode cX12_peak 21 = .ok (.goto 4, 3) := by decide +kernel
theorem dX12_peak_24 : decode cX12_peak 24 = .ok (.iconst (-1), 1) := by decide +kernel
theorem dX12_peak_25 : decode cX12_peak 25 = .ok (.ireturn, 1) := by decide +kernel
theorem dX12_plan_0 : decode cX12_plan 0 = .ok (.aload_n 0, 1) := by decide +kernel
theorem dX12_plan_1 : decode cX12_plan 1 = .ok (.iconst 0, 1) := by decide +kernel
theorem dX12_plan_2 : decode cX12_plan 2 = .ok (.putfield 154, 3) := by decide +kernel
theorem dX12_plan_5 : decode cX12_plan 5 = .ok (.aload_n 0, 1) := by decide +kernel
theorem dX12_plan_6 : decode cX12_plan 6 = .ok (.iload_n 1, 1) := by decide +kernel
theorem dX12_plan_7 : decode cX12_plan 7 = .ok (.invokevirtual 413, 3) := by decide +kernel
theorem dX12_plan_10 : decode cX12_plan 10 = .ok (.ifCond .ne 5, 3) := by decide +kernel
theorem dX12_plan_13 : decode cX12_plan 13 = .ok (.iconst (-1), 1) := by decide +kernel
theorem dX12_plan_14 : decode cX12_plan 14 = .ok (.ireturn, 1) := by decide +kernel
theorem dX12_plan_15 : decode cX12_plan 15 = .ok (.aload_n 0, 1) := by decide +kernel
theorem dX12_plan_16 : decode cX12_plan 16 = .ok (.iload_n 1, 1) := by decide +kernel
theorem dX12_plan_17 : decode cX12_plan 17 = .ok (.invokevirtual 503, 3) := by decide +kernel
theorem dX12_plan_20 : decode cX12_plan 20 = .ok (.aload_n 0, 1) := by decide +kernel
theorem dX12_plan_21 : decode cX12_plan 21 = .ok (.getfield 127, 3) := by decide +kernel
theorem dX12_plan_24 : decode cX12_plan 24 = .ok (.aload_n 0, 1) := by decide +kernel
theorem dX12_plan_25 : decode cX12_plan 25 = .ok (.invokevirtual 506, 3) := by decide +kernel
theorem dX12_plan_28 : decode cX12_plan 28 = .ok (.iaload, 1) := by decide +kernel
theorem dX12_plan_29 : decode cX12_plan 29 = .ok (.ireturn, 1) := by decide +kernel
theorem dX12_planned_0 : decode cX12_planned 0 = .ok (.aload_n 0, 1) := by decide +kernel
theorem dX12_planned_1 : decode cX12_planned 1 = .ok (.iconst 0, 1) := by decide +kernel
theorem dX12_planned_2 : decode cX12_planned 2 = .ok (.putfield 154, 3) := by decide +kernel
theorem dX12_planned_5 : decode cX12_planned 5 = .ok (.aload_n 0, 1) := by decide +kernel
theorem dX12_planned_6 : decode cX12_planned 6 = .ok (.iload_n 1, 1) := by decide +kernel
theorem dX12_planned_7 : decode cX12_planned 7 = .ok (.invokevirtual 413, 3) := by decide +kernel
theorem dX12_planned_10 : decode cX12_planned 10 = .ok (.ifCond .eq 7, 3) := by decide +kernel
theorem dX12_planned_13 : decode cX12_planned 13 = .ok (.iload_n 2, 1) := by decide +kernel
theorem dX12_planned_14 : decode cX12_planned 14 = .ok (.ifCond .ge 5, 3) := by decide +kernel
theorem dX12_planned_17 : decode cX12_planned 17 = .ok (.iconst (-1), 1) := by decide +kernel
theorem dX12_planned_18 : decode cX12_planned 18 = .ok (.ireturn, 1) := by decide +kernel
theorem dX12_planned_19 : decode cX12_planned 19 = .ok (.aload_n 0, 1) := by decide +kernel
theorem dX12_planned_20 : decode cX12_planned 20 = .ok (.iload_n 1, 1) := by decide +kernel
theorem dX12_planned_21 : decode cX12_planned 21 = .ok (.invokevirtual 503, 3) := by decide +kernel
theorem dX12_planned_24 : decode cX12_planned 24 = .ok (.iload_n 2, 1) := by decide +kernel
theorem dX12_planned_25 : decode cX12_planned 25 = .ok (.istore_n 3, 1) := by decide +kernel
theorem dX12_planned_26 : decode cX12_planned 26 = .ok (.aload_n 0, 1) := by decide +kernel
theorem dX12_planned_27 : decode cX12_planned 27 = .ok (.invokevirtual 506, 3) := by decide +kernel
theorem dX12_planned_30 : decode cX12_planned 30 = .ok (.istore 4, 2) := by decide +kernel
theorem dX12_planned_32 : decode cX12_planned 32 = .ok (.iload 4, 2) := by decide +kernel
theorem dX12_planned_34 : decode cX12_planned 34 = .ok (.aload_n 0, 1) := by decide +kernel
theorem dX12_planned_35 : decode cX12_planned 35 = .ok (.getfield 253, 3) := by decide +kernel
theorem dX12_planned_38 : decode cX12_planned 38 = .ok (.if_icmp .ge 97, 3) := by decide +kernel
theorem dX12_planned_41 : decode cX12_planned 41 = .ok (.aload_n 0, 1) := by decide +kernel
theorem dX12_planned_42 : decode cX12_planned 42 = .ok (.iload_n 1, 1) := by decide +kernel
theorem dX12_planned_43 : decode cX12_planned 43 = .ok (.iload 4, 2) := by decide +kernel
theorem dX12_planned_45 : decode cX12_planned 45 = .ok (.aload_n 0, 1) := by decide +kernel
theorem dX12_planned_46 : decode cX12_planned 46 = .ok (.getfield 88, 3) := by decide +kernel
theorem dX12_planned_49 : decode cX12_planned 49 = .ok (.iload_n 1, 1) := by decide +kernel
theorem dX12_planned_50 : decode cX12_planned 50 = .ok (.iaload, 1) := by decide +kernel
theorem dX12_planned_51 : decode cX12_planned 51 = .ok (.invokevirtual 479, 3) := by decide +kernel
theorem dX12_planned_54 : decode cX12_planned 54 = .ok (.aload_n 0, 1) := by decide +kernel
theorem dX12_planned_55 : decode cX12_planned 55 = .ok (.getfield 127, 3) := by decide +kernel
theorem dX12_planned_58 : decode cX12_planned 58 = .ok (.aload_n 0, 1) := by decide +kernel
theorem dX12_planned_59 : decode cX12_planned 59 = .ok (.getfield 130, 3) := by decide +kernel
theorem dX12_planned_62 : decode cX12_planned 62 = .ok (.iload 4, 2) := by decide +kernel
theorem dX12_planned_64 : decode cX12_planned 64 = .ok (.iaload, 1) := by decide +kernel
theorem dX12_planned_65 : decode cX12_planned 65 = .ok (.iaload, 1) := by decide +kernel
theorem dX12_planned_66 : decode cX12_planned 66 = .ok (.iadd, 1) := by decide +kernel
theorem dX12_planned_67 : decode cX12_planned 67 = .ok (.aload_n 0, 1) := by decide +kernel
theorem dX12_planned_68 : decode cX12_planned 68 = .ok (.getfield 127, 3) := by decide +kernel
theorem dX12_planned_71 : decode cX12_planned 71 = .ok (.iload 4, 2) := by decide +kernel
theorem dX12_planned_73 : decode cX12_planned 73 = .ok (.iconst 1, 1) := by decide +kernel
theorem dX12_planned_74 : decode cX12_planned 74 = .ok (.iadd, 1) := by decide +kernel
theorem dX12_planned_75 : decode cX12_planned 75 = .ok (.iaload, 1) := by decide +kernel
theorem dX12_planned_76 : decode cX12_planned 76 = .ok (.if_icmp .lt 7, 3) := by decide +kernel
theorem dX12_planned_79 : decode cX12_planned 79 = .ok (.iconst 1, 1) := by decide +kernel
theorem dX12_planned_80 : decode cX12_planned 80 = .ok (.goto 4, 3) := by decide +kernel
theorem dX12_planned_83 : decode cX12_planned 83 = .ok (.iconst 0, 1) := by decide +kernel
theorem dX12_planned_84 : decode cX12_planned 84 = .ok (.istore 5, 2) := by decide +kernel
theorem dX12_planned_86 : decode cX12_planned 86 = .ok (.iload 5, 2) := by decide +kernel
theorem dX12_planned_88 : decode cX12_planned 88 = .ok (.ifCond .eq 10, 3) := by decide +kernel
theorem dX12_planned_91 : decode cX12_planned 91 = .ok (.iload_n 3, 1) := by decide +kernel
theorem dX12_planned_92 : decode cX12_planned 92 = .ok (.ifCond .ne 6, 3) := by decide +kernel
theorem dX12_planned_95 : decode cX12_planned 95 = .ok (.iload 4, 2) := by decide +kernel
theorem dX12_planned_97 : decode cX12_planned 97 = .ok (.ireturn, 1) := by decide +kernel
theorem dX12_planned_98 : decode cX12_planned 98 = .ok (.iload_n 3, 1) := by decide +kernel
theorem dX12_planned_99 : decode cX12_planned 99 = .ok (.iload 5, 2) := by decide +kernel
theorem dX12_planned_101 : decode cX12_planned 101 = .ok (.ifCond .eq 7, 3) := by decide +kernel
theorem dX12_planned_104 : decode cX12_planned 104 = .ok (.iconst 1, 1) := by decide +kernel
theorem dX12_planned_105 : decode cX12_planned 105 = .ok (.goto 4, 3) := by decide +kernel
theorem dX12_planned_108 : decode cX12_planned 108 = .ok (.iconst 0, 1) := by decide +kernel
theorem dX12_planned_109 : decode cX12_planned 109 = .ok (.isub, 1) := by decide +kernel
theorem dX12_planned_110 : decode cX12_planned 110 = .ok (.istore_n 3, 1) := by decide +kernel
theorem dX12_planned_111 : decode cX12_planned 111 = .ok (.iload 5, 2) := by decide +kernel
theorem dX12_planned_113 : decode cX12_planned 113 = .ok (.ifCond .eq 13, 3) := by decide +kernel
theorem dX12_planned_116 : decode cX12_planned 116 = .ok (.aload_n 0, 1) := by decide +kernel
theorem dX12_planned_117 : decode cX12_planned 117 = .ok (.getfield 130, 3) := by decide +kernel
theorem dX12_planned_120 : decode cX12_planned 120 = .ok (.iload 4, 2) := by decide +kernel
theorem dX12_planned_122 : decode cX12_planned 122 = .ok (.iaload, 1) := by decide +kernel
theorem dX12_planned_123 : decode cX12_planned 123 = .ok (.goto 7, 3) := by decide +kernel
theorem dX12_planned_126 : decode cX12_planned 126 = .ok (.iload 4, 2) := by decide +kernel
theorem dX12_planned_128 : decode cX12_planned 128 = .ok (.iconst 1, 1) := by decide +kernel
theorem dX12_planned_129 : decode cX12_planned 129 = .ok (.iadd, 1) := by decide +kernel
theorem dX12_planned_130 : decode cX12_planned 130 = .ok (.istore 4, 2) := by decide +kernel
theorem dX12_planned_132 : decode cX12_planned 132 = .ok (.goto (-100), 3) := by decide +kernel
theorem dX12_planned_135 : decode cX12_planned 135 = .ok (.bipush (-2), 2) := by decide +kernel
theorem dX12_planned_137 : decode cX12_planned 137 = .ok (.ireturn, 1) := by decide +kernel
theorem dX12_setEnd_0 : decode cX12_setEnd 0 = .ok (.iload_n 1, 1) := by decide +kernel
theorem dX12_setEnd_1 : decode cX12_setEnd 1 = .ok (.iconst 1, 1) := by decide +kernel
theorem dX12_setEnd_2 : decode cX12_setEnd 2 = .ok (.iadd, 1) := by decide +kernel
theorem dX12_setEnd_3 : decode cX12_setEnd 3 = .ok (.aload_n 0, 1) := by decide +kernel
theorem dX12_setEnd_4 : decode cX12_setEnd 4 = .ok (.getfield 250, 3) := by decide +kernel
theorem dX12_setEnd_7 : decode cX12_setEnd 7 = .ok (.if_icmp .ge 14, 3) := by decide +kernel
theorem dX12_setEnd_10 : decode cX12_setEnd 10 = .ok (.aload_n 0, 1) := by decide +kernel
theorem dX12_setEnd_11 : decode cX12_setEnd 11 = .ok (.getfield 45, 3) := by decide +kernel
theorem dX12_setEnd_14 : decode cX12_setEnd 14 = .ok (.iload_n 1, 1) := by decide +kernel
theorem dX12_setEnd_15 : decode cX12_setEnd 15 = .ok (.iconst 1, 1) := by decide +kernel
theorem dX12_setEnd_16 : decode cX12_setEnd 16 = .ok (.iadd, 1) := by decide +kernel
theorem dX12_setEnd_17 : decode cX12_setEnd 17 = .ok (.iaload, 1) := by decide +kernel
theorem dX12_setEnd_18 : decode cX12_setEnd 18 = .ok (.goto 7, 3) := by decide +kernel
theorem dX12_setEnd_21 : decode cX12_setEnd 21 = .ok (.aload_n 0, 1) := by decide +kernel
theorem dX12_setEnd_22 : decode cX12_setEnd 22 = .ok (.getfield 253, 3) := by decide +kernel
theorem dX12_setEnd_25 : decode cX12_setEnd 25 = .ok (.ireturn, 1) := by decide +kernel
theorem dX12_rank__0 : decode cX12_rank_ 0 = .ok (.aload_n 0, 1) := by decide +kernel
theorem dX12_rank__1 : decode cX12_rank_ 1 = .ok (.iconst 0, 1) := by decide +kernel
theorem dX12_rank__2 : decode cX12_rank_ 2 = .ok (.putfield 154, 3) := by decide +kernel
theorem dX12_rank__5 : decode cX12_rank_ 5 = .ok (.iload_n 1, 1) := by decide +kernel
theorem dX12_rank__6 : decode cX12_rank_ 6 = .ok (.iconst 1, 1) := by decide +kernel
theorem dX12_rank__7 : decode cX12_rank_ 7 = .ok (.bipush 7, 2) := by decide +kernel
theorem dX12_rank__9 : decode cX12_rank_ 9 = .ok (.invokestatic 199, 3) := by decide +kernel
theorem dX12_rank__12 : decode cX12_rank_ 12 = .ok (.ifCond .eq 12, 3) := by decide +kernel
theorem dX12_rank__15 : decode cX12_rank_ 15 = .ok (.iload_n 2, 1) := by decide +kernel
theorem dX12_rank__16 : decode cX12_rank_ 16 = .ok (.iconst 0, 1) := by decide +kernel
theorem dX12_rank__17 : decode cX12_rank_ 17 = .ok (.iconst 1, 1) := by decide +kernel
theorem dX12_rank__18 : decode cX12_rank_ 18 = .ok (.invokestatic 199, 3) := by decide +kernel
theorem dX12_rank__21 : decode cX12_rank_ 21 = .ok (.ifCond .ne 5, 3) := by decide +kernel
theorem dX12_rank__24 : decode cX12_rank_ 24 = .ok (.iconst (-1), 1) := by decide +kernel
theorem dX12_rank__25 : decode cX12_rank_ 25 = .ok (.ireturn, 1) := by decide +kernel
theorem dX12_rank__26 : decode cX12_rank_ 26 = .ok (.iconst 0, 1) := by decide +kernel
theorem dX12_rank__27 : decode cX12_rank_ 27 = .ok (.istore_n 3, 1) := by decide +kernel
theorem dX12_rank__28 : decode cX12_rank_ 28 = .ok (.iconst 0, 1) := by decide +kernel
theorem dX12_rank__29 : decode cX12_rank_ 29 = .ok (.istore 4, 2) := by decide +kernel
theorem dX12_rank__31 : decode cX12_rank_ 31 = .ok (.iconst 0, 1) := by decide +kernel
theorem dX12_rank__32 : decode cX12_rank_ 32 = .ok (.istore 5, 2) := by decide +kernel
theorem dX12_rank__34 : decode cX12_rank_ 34 = .ok (.iload 5, 2) := by decide +kernel
theorem dX12_rank__36 : decode cX12_rank_ 36 = .ok (.aload_n 0, 1) := by decide +kernel
theorem dX12_rank__37 : decode cX12_rank_ 37 = .ok (.getfield 250, 3) := by decide +kernel
theorem dX12_rank__40 : decode cX12_rank_ 40 = .ok (.if_icmp .ge 119, 3) := by decide +kernel
theorem dX12_rank__43 : decode cX12_rank_ 43 = .ok (.aload_n 0, 1) := by decide +kernel
theorem dX12_rank__44 : decode cX12_rank_ 44 = .ok (.iload 5, 2) := by decide +kernel
theorem dX12_rank__46 : decode cX12_rank_ 46 = .ok (.invokevirtual 500, 3) := by decide +kernel
theorem dX12_rank__49 : decode cX12_rank_ 49 = .ok (.aload_n 0, 1) := by decide +kernel
theorem dX12_rank__50 : decode cX12_rank_ 50 = .ok (.getfield 45, 3) := by decide +kernel
theorem dX12_rank__53 : decode cX12_rank_ 53 = .ok (.iload 5, 2) := by decide +kernel
theorem dX12_rank__55 : decode cX12_rank_ 55 = .ok (.iaload, 1) := by decide +kernel
theorem dX12_rank__56 : decode cX12_rank_ 56 = .ok (.isub, 1) := by decide +kernel
theorem dX12_rank__57 : decode cX12_rank_ 57 = .ok (.iload_n 1, 1) := by decide +kernel
theorem dX12_rank__58 : decode cX12_rank_ 58 = .ok (.if_icmp .ge 6, 3) := by decide +kernel
theorem dX12_rank__61 : decode cX12_rank_ 61 = .ok (.goto 92, 3) := by decide +kernel
theorem dX12_rank__64 : decode cX12_rank_ 64 = .ok (.iinc 3 1, 3) := by decide +kernel
theorem dX12_rank__67 : decode cX12_rank_ 67 = .ok (.iconst 0, 1) := by decide +kernel
theorem dX12_rank__68 : decode cX12_rank_ 68 = .ok (.istore 6, 2) := by decide +kernel
theorem dX12_rank__70 : decode cX12_rank_ 70 = .ok (.aload_n 0, 1) := by decide +kernel
theorem dX12_rank__71 : decode cX12_rank_ 71 = .ok (.getfield 45, 3) := by decide +kernel
theorem dX12_rank__74 : decode cX12_rank_ 74 = .ok (.iload 5, 2) := by decide +kernel
theorem dX12_rank__76 : decode cX12_rank_ 76 = .ok (.iaload, 1) := by decide +kernel
theorem dX12_rank__77 : decode cX12_rank_ 77 = .ok (.istore 7, 2) := by decide +kernel
theorem dX12_rank__79 : decode cX12_rank_ 79 = .ok (.iload 7, 2) := by decide +kernel
theorem dX12_rank__81 : decode cX12_rank_ 81 = .ok (.aload_n 0, 1) := by decide +kernel
theorem dX12_rank__82 : decode cX12_rank_ 82 = .ok (.iload 5, 2) := by decide +kernel
theorem dX12_rank__84 : decode cX12_rank_ 84 = .ok (.invokevirtual 500, 3) := by decide +kernel
theorem dX12_rank__87 : decode cX12_rank_ 87 = .ok (.if_icmp .ge 35, 3) := by decide +kernel
theorem dX12_rank__90 : decode cX12_rank_ 90 = .ok (.aload_n 0, 1) := by decide +kernel
theorem dX12_rank__91 : decode cX12_rank_ 91 = .ok (.getfield 51, 3) := by decide +kernel
theorem dX12_rank__94 : decode cX12_rank_ 94 = .ok (.iload 7, 2) := by decide +kernel
theorem dX12_rank__96 : decode cX12_rank_ 96 = .ok (.iaload, 1) := by decide +kernel
theorem dX12_rank__97 : decode cX12_rank_ 97 = .ok (.iload 6, 2) := by decide +kernel
theorem dX12_rank__99 : decode cX12_rank_ 99 = .ok (.if_icmp .le 13, 3) := by decide +kernel
theorem dX12_rank__102 : decode cX12_rank_ 102 = .ok (.aload_n 0, 1) := by decide +kernel
theorem dX12_rank__103 : decode cX12_rank_ 103 = .ok (.getfield 51, 3) := by decide +kernel
theorem dX12_rank__106 : decode cX12_rank_ 106 = .ok (.iload 7, 2) := by decide +kernel
theorem dX12_rank__108 : decode cX12_rank_ 108 = .ok (.iaload, 1) := by decide +kernel
theorem dX12_rank__109 : decode cX12_rank_ 109 = .ok (.goto 5, 3) := by decide +kernel
theorem dX12_rank__112 : decode cX12_rank_ 112 = .ok (.iload 6, 2) := by decide +kernel
theorem dX12_rank__114 : decode cX12_rank_ 114 = .ok (.istore 6, 2) := by decide +kernel
theorem dX12_rank__116 : decode cX12_rank_ 116 = .ok (.iinc 7 1, 3) := by decide +kernel
theorem dX12_rank__119 : decode cX12_rank_ 119 = .ok (.goto (-40), 3) := by decide +kernel
theorem dX12_rank__122 : decode cX12_rank_ 122 = .ok (.iload 4, 2) := by decide +kernel
theorem dX12_rank__124 : decode cX12_rank_ 124 = .ok (.aload_n 0, 1) := by decide +kernel
theorem dX12_rank__125 : decode cX12_rank_ 125 = .ok (.getfield 51, 3) := by decide +kernel
theorem dX12_rank__128 : decode cX12_rank_ 128 = .ok (.aload_n 0, 1) := by decide +kernel
theorem dX12_rank__129 : decode cX12_rank_ 129 = .ok (.getfield 45, 3) := by decide +kernel
theorem dX12_rank__132 : decode cX12_rank_ 132 = .ok (.iload 5, 2) := by decide +kernel
theorem dX12_rank__134 : decode cX12_rank_ 134 = .ok (.iaload, 1) := by decide +kernel
theorem dX12_rank__135 : decode cX12_rank_ 135 = .ok (.iload_n 1, 1) := by decide +kernel
theorem dX12_rank__136 : decode cX12_rank_ 136 = .ok (.iadd, 1) := by decide +kernel
theorem dX12_rank__137 : decode cX12_rank_ 137 = .ok (.iconst 1, 1) := by decide +kernel
theorem dX12_rank__138 : decode cX12_rank_ 138 = .ok (.isub, 1) := by decide +kernel
theorem dX12_rank__139 : decode cX12_rank_ 139 = .ok (.iaload, 1) := by decide +kernel
theorem dX12_rank__140 : decode cX12_rank_ 140 = .ok (.iload 6, 2) := by decide +kernel
theorem dX12_rank__142 : decode cX12_rank_ 142 = .ok (.if_icmp .ne 7, 3) := by decide +kernel
theorem dX12_rank__145 : decode cX12_rank_ 145 = .ok (.iconst 1, 1) := by decide +kernel
theorem dX12_rank__146 : decode cX12_rank_ 146 = .ok (.goto 4, 3) := by decide +kernel
theorem dX12_rank__149 : decode cX12_rank_ 149 = .ok (.iconst 0, 1) := by decide +kernel
theorem dX12_rank__150 : decode cX12_rank_ 150 = .ok (.iadd, 1) := by decide +kernel
theorem dX12_rank__151 : decode cX12_rank_ 151 = .ok (.istore 4, 2) := by decide +kernel
theorem dX12_rank__153 : decode cX12_rank_ 153 = .ok (.iinc 5 1, 3) := by decide +kernel
theorem dX12_rank__156 : decode cX12_rank_ 156 = .ok (.goto (-122), 3) := by decide +kernel
theorem dX12_rank__159 : decode cX12_rank_ 159 = .ok (.iload_n 2, 1) := by decide +kernel
theorem dX12_rank__160 : decode cX12_rank_ 160 = .ok (.ifCond .ne 8, 3) := by decide +kernel
theorem dX12_rank__163 : decode cX12_rank_ 163 = .ok (.iload 4, 2) := by decide +kernel
theorem dX12_rank__165 : decode cX12_rank_ 165 = .ok (.goto 4, 3) := by decide +kernel
theorem dX12_rank__168 : decode cX12_rank_ 168 = .ok (.iload_n 3, 1) := by decide +kernel
theorem dX12_rank__169 : decode cX12_rank_ 169 = .ok (.ireturn, 1) := by decide +kernel
theorem dX12_remember_0 : decode cX12_remember 0 = .ok (.aload_n 0, 1) := by decide +kernel
theorem dX12_remember_1 : decode cX12_remember 1 = .ok (.getfield 379, 3) := by decide +kernel
theorem dX12_remember_4 : decode cX12_remember 4 = .ok (.bipush 20, 2) := by decide +kernel
theorem dX12_remember_6 : decode cX12_remember 6 = .ok (.if_icmp .ne 43, 3) := by decide +kernel
theorem dX12_remember_9 : decode cX12_remember 9 = .ok (.iconst 0, 1) := by decide +kernel
theorem dX12_remember_10 : decode cX12_remember 10 = .ok (.istore_n 1, 1) := by decide +kernel
theorem dX12_remember_11 : decode cX12_remember 11 = .ok (.iload_n 1, 1) := by decide +kernel
theorem dX12_remember_12 : decode cX12_remember 12 = .ok (.sipush 209, 3) := by decide +kernel
theorem dX12_remember_15 : decode cX12_remember 15 = .ok (.if_icmp .ge 24, 3) := by decide +kernel
theorem dX12_remember_18 : decode cX12_remember 18 = .ok (.aload_n 0, 1) := by decide +kernel
theorem dX12_remember_19 : decode cX12_remember 19 = .ok (.getfield 142, 3) := by decide +kernel
theorem dX12_remember_22 : decode cX12_remember 22 = .ok (.iload_n 1, 1) := by decide +kernel
theorem dX12_remember_23 : decode cX12_remember 23 = .ok (.aload_n 0, 1) := by decide +kernel
theorem dX12_remember_24 : decode cX12_remember 24 = .ok (.getfield 142, 3) := by decide +kernel
theorem dX12_remember_27 : decode cX12_remember 27 = .ok (.iload_n 1, 1) := by decide +kernel
theorem dX12_remember_28 : decode cX12_remember 28 = .ok (.bipush 11, 2) := by decide +kernel
theorem dX12_remember_30 : decode cX12_remember 30 = .ok (.iadd, 1) := by decide +kernel
theorem dX12_remember_31 : decode cX12_remember 31 = .ok (.iaload, 1) := by decide +kernel
theorem dX12_remember_32 : decode cX12_remember 32 = .ok (.iastore, 1) := by decide +kernel
theorem dX12_remember_33 : decode cX12_remember 33 = .ok (.iinc 1 1, 3) := by decide +kernel
theorem dX12_remember_36 : decode cX12_remember 36 = .ok (.goto (-25), 3) := by decide +kernel
theorem dX12_remember_39 : decode cX12_remember 39 = .ok (.aload_n 0, 1) := by decide +kernel
theorem dX12_remember_40 : decode cX12_remember 40 = .ok (.dup, 1) := by decide +kernel
theorem dX12_remember_41 : decode cX12_remember 41 = .ok (.getfield 379, 3) := by decide +kernel
theorem dX12_remember_44 : decode cX12_remember 44 = .ok (.iconst 1, 1) := by decide +kernel
theorem dX12_remember_45 : decode cX12_remember 45 = .ok (.isub, 1) := by decide +kernel
theorem dX12_remember_46 : decode cX12_remember 46 = .ok (.putfield 379, 3) := by decide +kernel
theorem dX12_remember_49 : decode cX12_remember 49 = .ok (.iconst 0, 1) := by decide +kernel
theorem dX12_remember_50 : decode cX12_remember 50 = .ok (.istore_n 1, 1) := by decide +kernel
theorem dX12_remember_51 : decode cX12_remember 51 = .ok (.iload_n 1, 1) := by decide +kernel
theorem dX12_remember_52 : decode cX12_remember 52 = .ok (.iconst 5, 1) := by decide +kernel
theorem dX12_remember_53 : decode cX12_remember 53 = .ok (.if_icmp .ge 51, 3) := by decide +kernel
theorem dX12_remember_56 : decode cX12_remember 56 = .ok (.aload_n 0, 1) := by decide +kernel
theorem dX12_remember_57 : decode cX12_remember 57 = .ok (.getfield 142, 3) := by decide +kernel
theorem dX12_remember_60 : decode cX12_remember 60 = .ok (.bipush 11, 2) := by decide +kernel
theorem dX12_remember_62 : decode cX12_remember 62 = .ok (.aload_n 0, 1) := by decide +kernel
theorem dX12_remember_63 : decode cX12_remember 63 = .ok (.getfield 379, 3) := by decide +kernel
theorem dX12_remember_66 : decode cX12_remember 66 = .ok (.imul, 1) := by decide +kernel
theorem dX12_remember_67 : decode cX12_remember 67 = .ok (.iload_n 1, 1) := by decide +kernel
theorem dX12_remember_68 : decode cX12_remember 68 = .ok (.iadd, 1) := by decide +kernel
theorem dX12_remember_69 : decode cX12_remember 69 = .ok (.aload_n 0, 1) := by decide +kernel
theorem dX12_remember_70 : decode cX12_remember 70 = .ok (.getfield 88, 3) := by decide +kernel
theorem dX12_remember_73 : decode cX12_remember 73 = .ok (.iload_n 1, 1) := by decide +kernel
theorem dX12_remember_74 : decode cX12_remember 74 = .ok (.iaload, 1) := by decide +kernel
theorem dX12_remember_75 : decode cX12_remember 75 = .ok (.iastore, 1) := by decide +kernel
theorem dX12_remember_76 : decode cX12_remember 76 = .ok (.aload_n 0, 1) := by decide +kernel
theorem dX12_remember_77 : decode cX12_remember 77 = .ok (.getfield 142, 3) := by decide +kernel
theorem dX12_remember_80 : decode cX12_remember 80 = .ok (.bipush 11, 2) := by decide +kernel
theorem dX12_remember_82 : decode cX12_remember 82 = .ok (.aload_n 0, 1) := by decide +kernel
theorem dX12_remember_83 : decode cX12_remember 83 = .ok (.getfield 379, 3) := by decide +kernel
theorem dX12_remember_86 : decode cX12_remember 86 = .ok (.imul, 1) := by decide +kernel
theorem dX12_remember_87 : decode cX12_remember 87 = .ok (.iconst 5, 1) := by decide +kernel
theorem dX12_remember_88 : decode cX12_remember 88 = .ok (.iadd, 1) := by decide +kernel
theorem dX12_remember_89 : decode cX12_remember 89 = .ok (.iload_n 1, 1) := by decide +kernel
theorem dX12_remember_90 : decode cX12_remember 90 = .ok (.iadd, 1) := by decide +kernel
theorem dX12_remember_91 : decode cX12_remember 91 = .ok (.aload_n 0, 1) := by decide +kernel
theorem dX12_remember_92 : decode cX12_remember 92 = .ok (.getfield 100, 3) := by decide +kernel
theorem dX12_remember_95 : decode cX12_remember 95 = .ok (.iload_n 1, 1) := by decide +kernel
theorem dX12_remember_96 : decode cX12_remember 96 = .ok (.iaload, 1) := by decide +kernel
theorem dX12_remember_97 : decode cX12_remember 97 = .ok (.iastore, 1) := by decide +kernel
theorem dX12_remember_98 : decode cX12_remember 98 = .ok (.iinc 1 1, 3) := by decide +kernel
theorem dX12_remember_101 : decode cX12_remember 101 = .ok (.goto (-50), 3) := by decide +kernel
theorem dX12_remember_104 : decode cX12_remember 104 = .ok (.aload_n 0, 1) := by decide +kernel
theorem dX12_remember_105 : decode cX12_remember 105 = .ok (.getfield 142, 3) := by decide +kernel
theorem dX12_remember_108 : decode cX12_remember 108 = .ok (.bipush 11, 2) := by decide +kernel
theorem dX12_remember_110 : decode cX12_remember 110 = .ok (.aload_n 0, 1) := by decide +kernel
theorem dX12_remember_111 : decode cX12_remember 111 = .ok (.getfield 379, 3) := by decide +kernel
theorem dX12_remember_114 : decode cX12_remember 114 = .ok (.imul, 1) := by decide +kernel
theorem dX12_remember_115 : decode cX12_remember 115 = .ok (.bipush 10, 2) := by decide +kernel
theorem dX12_remember_117 : decode cX12_remember 117 = .ok (.iadd, 1) := by decide +kernel
theorem dX12_remember_118 : decode cX12_remember 118 = .ok (.aload_n 0, 1) := by decide +kernel
theorem dX12_remember_119 : decode cX12_remember 119 = .ok (.getfield 369, 3) := by decide +kernel
theorem dX12_remember_122 : decode cX12_remember 122 = .ok (.iastore, 1) := by decide +kernel
theorem dX12_remember_123 : decode cX12_remember 123 = .ok (.aload_n 0, 1) := by decide +kernel
theorem dX12_remember_124 : decode cX12_remember 124 = .ok (.dup, 1) := by decide +kernel
theorem dX12_remember_125 : decode cX12_remember 125 = .ok (.getfield 379, 3) := by decide +kernel
theorem dX12_remember_128 : decode cX12_remember 128 = .ok (.iconst 1, 1) := by decide +kernel
theorem dX12_remember_129 : decode cX12_remember 129 = .ok (.iadd, 1) := by decide +kernel
theorem dX12_remember_130 : decode cX12_remember 130 = .ok (.putfield 379, 3) := by decide +kernel
theorem dX12_remember_133 : decode cX12_remember 133 = .ok (.return_, 1) := by decide +kernel
