theorem dX7_wordOf_0 : decode cX7_wordOf 0 = .ok (.iconst 0, 1) := by decide +kernel
theorem dX7_wordOf_1 : decode cX7_wordOf 1 = .ok (.istore_n 2, 1) := by decide +kernel
theorem dX7_wordOf_2 : decode cX7_wordOf 2 = .ok (.iload_n 2, 1) := by decide +kernel
theorem dX7_wordOf_3 : decode cX7_wordOf 3 = .ok (.bipush 24, 2) := by decide +kernel
theorem dX7_wordOf_5 : decode cX7_wordOf 5 = .ok (.if_icmp .ge 21, 3) := by decide +kernel
theorem dX7_wordOf_8 : decode cX7_wordOf 8 = .ok (.aload_n 0, 1) := by decide +kernel
theorem dX7_wordOf_9 : decode cX7_wordOf 9 = .ok (.getfield 9, 3) := by decide +kernel
theorem dX7_wordOf_12 : decode cX7_wordOf 12 = .ok (.iload_n 2, 1) := by decide +kernel
theorem dX7_wordOf_13 : decode cX7_wordOf 13 = .ok (.iaload, 1) := by decide +kernel
theorem dX7_wordOf_14 : decode cX7_wordOf 14 = .ok (.iload_n 1, 1) := by decide +kernel
theorem dX7_wordOf_15 : decode cX7_wordOf 15 = .ok (.if_icmp .ne 5, 3) := by decide +kernel
theorem dX7_wordOf_18 : decode cX7_wordOf 18 = .ok (.iload_n 2, 1) := by decide +kernel
theorem dX7_wordOf_19 : decode cX7_wordOf 19 = .ok (.ireturn, 1) := by decide +kernel
theorem dX7_wordOf_20 : decode cX7_wordOf 20 = .ok (.iinc 2 1, 3) := by decide +kernel
theorem dX7_wordOf_23 : decode cX7_wordOf 23 = .ok (.goto (-21), 3) := by decide +kernel
theorem dX7_wordOf_26 : decode cX7_wordOf 26 = .ok (.bipush 24, 2) := by decide +kernel
theorem dX7_wordOf_28 : decode cX7_wordOf 28 = .ok (.ireturn, 1) := by decide +kernel
theorem dX7_takeWord_0 : decode cX7_takeWord 0 = .ok (.iconst 0, 1) := by decide +kernel
theorem dX7_takeWord_1 : decode cX7_takeWord 1 = .ok (.istore_n 1, 1) := by decide +kernel
theorem dX7_takeWord_2 : decode cX7_takeWord 2 = .ok (.aload_n 0, 1) := by decide +kernel
theorem dX7_takeWord_3 : decode cX7_takeWord 3 = .ok (.getfield 44, 3) := by decide +kernel
theorem dX7_takeWord_6 : decode cX7_takeWord 6 = .ok (.aload_n 0, 1) := by decide +kernel
theorem dX7_takeWord_7 : decode cX7_takeWord 7 = .ok (.getfield 40, 3) := by decide +kernel
theorem dX7_takeWord_10 : decode cX7_takeWord 10 = .ok (.if_icmp .ge 62, 3) := by decide +kernel
theorem dX7_takeWord_13 : decode cX7_takeWord 13 = .ok (.aload_n 0, 1) := by decide +kernel
theorem dX7_takeWord_14 : decode cX7_takeWord 14 = .ok (.getfield 15, 3) := by decide +kernel
theorem dX7_takeWord_17 : decode cX7_takeWord 17 = .ok (.aload_n 0, 1) := by decide +kernel
theorem dX7_takeWord_18 : decode cX7_takeWord 18 = .ok (.getfield 44, 3) := by decide +kernel
theorem dX7_takeWord_21 : decode cX7_takeWord 21 = .ok (.baload, 1) := by decide +kernel
theorem dX7_takeWord_22 : decode cX7_takeWord 22 = .ok (.invokestatic 27, 3) := by decide +kernel
theorem dX7_takeWord_25 : decode cX7_takeWord 25 = .ok (.ifCond .eq 47, 3) := by decide +kernel
theorem dX7_takeWord_28 : decode cX7_takeWord 28 = .ok (.iload_n 1, 1) := by decide +kernel
theorem dX7_takeWord_29 : decode cX7_takeWord 29 = .ok (.bipush 6, 2) := by decide +kernel
theorem dX7_takeWord_31 : decode cX7_takeWord 31 = .ok (.if_icmp .ge 25, 3) := by decide +kernel
theorem dX7_takeWord_34 : decode cX7_takeWord 34 = .ok (.aload_n 0, 1) := by decide +kernel
theorem dX7_takeWord_35 : decode cX7_takeWord 35 = .ok (.dup, 1) := by decide +kernel
theorem dX7_takeWord_36 : decode cX7_takeWord 36 = .ok (.getfield 53, 3) := by decide +kernel
theorem dX7_takeWord_39 : decode cX7_takeWord 39 = .ok (.aload_n 0, 1) := by decide +kernel
theorem dX7_takeWord_40 : decode cX7_takeWord 40 = .ok (.getfield 15, 3) := by decide +kernel
theorem dX7_takeWord_43 : decode cX7_takeWord 43 = .ok (.aload_n 0, 1) := by decide +kernel
theorem dX7_takeWord_44 : decode cX7_takeWord 44 = .ok (.getfield 44, 3) := by decide +kernel
theorem dX7_takeWord_47 : decode cX7_takeWord 47 = .ok (.baload, 1) := by decide +kernel
theorem dX7_takeWord_48 : decode cX7_takeWord 48 = .ok (.iload_n 1, 1) := by decide +kernel
theorem dX7_takeWord_49 : decode cX7_takeWord 49 = .ok (.invokestatic 31, 3) := by decide +kernel
theorem dX7_takeWord_52 : decode cX7_takeWord 52 = .ok (.ior, 1) := by decide +kernel
theorem dX7_takeWord_53 : decode cX7_takeWord 53 = .ok (.putfield 53, 3) := by decide +kernel
theorem dX7_takeWord_56 : decode cX7_takeWord 56 = .ok (.iinc 1 1, 3) := by decide +kernel
theorem dX7_takeWord_59 : decode cX7_takeWord 59 = .ok (.aload_n 0, 1) := by decide +kernel
theorem dX7_takeWord_60 : decode cX7_takeWord 60 = .ok (.dup, 1) := by decide +kernel
theorem dX7_takeWord_61 : decode cX7_takeWord 61 = .ok (.getfield 44, 3) := by decide +kernel
theorem dX7_takeWord_64 : decode cX7_takeWord 64 = .ok (.iconst 1, 1) := by decide +kernel
theorem dX7_takeWord_65 : decode cX7_takeWord 65 = .ok (.iadd, 1) := by decide +kernel
theorem dX7_takeWord_66 : decode cX7_takeWord 66 = .ok (.putfield 44, 3) := by decide +kernel
theorem dX7_takeWord_69 : decode cX7_takeWord 69 = .ok (.goto (-67), 3) := by decide +kernel
theorem dX7_takeWord_72 : decode cX7_takeWord 72 = .ok (.aload_n 0, 1) := by decide +kernel
theorem dX7_takeWord_73 : decode cX7_takeWord 73 = .ok (.iload_n 1, 1) := by decide +kernel
theorem dX7_takeWord_74 : decode cX7_takeWord 74 = .ok (.bipush 6, 2) := by decide +kernel
theorem dX7_takeWord_76 : decode cX7_takeWord 76 = .ok (.if_icmp .le 8, 3) := by decide +kernel
theorem dX7_takeWord_79 : decode cX7_takeWord 79 = .ok (.bipush 40, 2) := by decide +kernel
theorem dX7_takeWord_81 : decode cX7_takeWord 81 = .ok (.goto 11, 3) := by decide +kernel
theorem dX7_takeWord_84 : decode cX7_takeWord 84 = .ok (.aload_n 0, 1) := by decide +kernel
theorem dX7_takeWord_85 : decode cX7_takeWord 85 = .ok (.aload_n 0, 1) := by decide +kernel
theorem dX7_takeWord_86 : decode cX7_takeWord 86 = .ok (.getfield 53, 3) := by decide +kernel
theorem dX7_takeWord_89 : decode cX7_takeWord 89 = .ok (.invokevirtual 71, 3) := by decide +kernel
theorem dX7_takeWord_92 : decode cX7_takeWord 92 = .ok (.putfield 56, 3) := by decide +kernel
theorem dX7_takeWord_95 : decode cX7_takeWord 95 = .ok (.return_, 1) := by decide +kernel
theorem dX7_isDigit_0 : decode cX7_isDigit 0 = .ok (.iload_n 0, 1) := by decide +kernel
theorem dX7_isDigit_1 : decode cX7_isDigit 1 = .ok (.bipush 48, 2) := by decide +kernel
theorem dX7_isDigit_3 : decode cX7_isDigit 3 = .ok (.if_icmp .lt 13, 3) := by decide +kernel
theorem dX7_isDigit_6 : decode cX7_isDigit 6 = .ok (.iload_n 0, 1) := by decide +kernel
theorem dX7_isDigit_7 : decode cX7_isDigit 7 = .ok (.bipush 57, 2) := by decide +kernel
theorem dX7_isDigit_9 : decode cX7_isDigit 9 = .ok (.if_icmp .gt 7, 3) := by decide +kernel
theorem dX7_isDigit_12 : decode cX7_isDigit 12 = .ok (.iconst 1, 1) := by decide +kernel
theorem dX7_isDigit_13 : decode cX7_isDigit 13 = .ok (.goto 4, 3) := by decide +kernel
theorem dX7_isDigit_16 : decode cX7_isDigit 16 = .ok (.iconst 0, 1) := by decide +kernel
theorem dX7_isDigit_17 : decode cX7_isDigit 17 = .ok (.ireturn, 1) := by decide +kernel
theorem dX7_takeNumber_0 : decode cX7_takeNumber 0 = .ok (.aload_n 0, 1) := by decide +kernel
theorem dX7_takeNumber_1 : decode cX7_takeNumber 1 = .ok (.getfield 44, 3) := by decide +kernel
theorem dX7_takeNumber_4 : decode cX7_takeNumber 4 = .ok (.aload_n 0, 1) := by decide +kernel
theorem dX7_takeNumber_5 : decode cX7_takeNumber 5 = .ok (.getfield 40, 3) := by decide +kernel
theorem dX7_takeNumber_8 : decode cX7_takeNumber 8 = .ok (.if_icmp .ge 60, 3) := by decide +kernel
theorem dX7_takeNumber_11 : decode cX7_takeNumber 11 = .ok (.aload_n 0, 1) := by decide +kernel
theorem dX7_takeNumber_12 : decode cX7_takeNumber 12 = .ok (.getfield 15, 3) := by decide +kernel
theorem dX7_takeNumber_15 : decode cX7_takeNumber 15 = .ok (.aload_n 0, 1) := by decide +kernel
theorem dX7_takeNumber_16 : decode cX7_takeNumber 16 = .ok (.getfield 44, 3) := by decide +kernel
theorem dX7_takeNumber_19 : decode cX7_takeNumber 19 = .ok (.baload, 1) := by decide +kernel
theorem dX7_takeNumber_20 : decode cX7_takeNumber 20 = .ok (.invokestatic 62, 3) := by decide +kernel
theorem dX7_takeNumber_23 : decode cX7_takeNumber 23 = .ok (.ifCond .eq 45, 3) := by decide +kernel
theorem dX7_takeNumber_26 : decode cX7_takeNumber 26 = .ok (.aload_n 0, 1) := by decide +kernel
theorem dX7_takeNumber_27 : decode cX7_takeNumber 27 = .ok (.aload_n 0, 1) := by decide +kernel
theorem dX7_takeNumber_28 : decode cX7_takeNumber 28 = .ok (.getfield 53, 3) := by decide +kernel
theorem dX7_takeNumber_31 : decode cX7_takeNumber 31 = .ok (.bipush 10, 2) := by decide +kernel
theorem dX7_takeNumber_33 : decode cX7_takeNumber 33 = .ok (.imul, 1) := by decide +kernel
theorem dX7_takeNumber_34 : decode cX7_takeNumber 34 = .ok (.aload_n 0, 1) := by decide +kernel
theorem dX7_takeNumber_35 : decode cX7_takeNumber 35 = .ok (.getfield 15, 3) := by decide +kernel
theorem dX7_takeNumber_38 : decode cX7_takeNumber 38 = .ok (.aload_n 0, 1) := by decide +kernel
theorem dX7_takeNumber_39 : decode cX7_takeNumber 39 = .ok (.getfield 44, 3) := by decide +kernel
theorem dX7_takeNumber_42 : decode cX7_takeNumber 42 = .ok (.baload, 1) := by decide +kernel
theorem dX7_takeNumber_43 : decode cX7_takeNumber 43 = .ok (.iadd, 1) := by decide +kernel
theorem dX7_takeNumber_44 : decode cX7_takeNumber 44 = .ok (.bipush 48, 2) := by decide +kernel
theorem dX7_takeNumber_46 : decode cX7_takeNumber 46 = .ok (.isub, 1) := by decide +kernel
theorem dX7_takeNumber_47 : decode cX7_takeNumber 47 = .ok (.ldc 75, 2) := by decide +kernel
theorem dX7_takeNumber_49 : decode cX7_takeNumber 49 = .ok (.invokestatic 35, 3) := by decide +kernel
theorem dX7_takeNumber_52 : decode cX7_takeNumber 52 = .ok (.putfield 53, 3) := by decide +kernel
theorem dX7_takeNumber_55 : decode cX7_takeNumber 55 = .ok (.aload_n 0, 1) := by decide +kernel
theorem dX7_takeNumber_56 : decode cX7_takeNumber 56 = .ok (.dup, 1) := by decide +kernel
theorem dX7_takeNumber_57 : decode cX7_takeNumber 57 = .ok (.getfield 44, 3) := by decide +kernel
theorem dX7_takeNumber_60 : decode cX7_takeNumber 60 = .ok (.iconst 1, 1) := by decide +kernel
theorem dX7_takeNumber_61 : decode cX7_takeNumber 61 = .ok (.iadd, 1) := by decide +kernel
theorem dX7_takeNumber_62 : decode cX7_takeNumber 62 = .ok (.putfield 44, 3) := by decide +kernel
theorem dX7_takeNumber_65 : decode cX7_takeNumber 65 = .ok (.goto (-65), 3) := by decide +kernel
theorem dX7_takeNumber_68 : decode cX7_takeNumber 68 = .ok (.aload_n 0, 1) := by decide +kernel
theorem dX7_takeNumber_69 : decode cX7_takeNumber 69 = .ok (.bipush 25, 2) := by decide +kernel
theorem dX7_takeNumber_71 : decode cX7_takeNumber 71 = .ok (.putfield 56, 3) := by decide +kernel
theorem dX7_takeNumber_74 : decode cX7_takeNumber 74 = .ok (.return_, 1) := by decide +kernel
theorem dX7_signOf_0 : decode cX7_signOf 0 = .ok (.iload_n 0, 1) := by decide +kernel
theorem dX7_signOf_1 : decode cX7_signOf 1 = .ok (.tableswitch 137 40 62 #[110, 113, 131, 125, 137, 128, 137, 134, 137, 137, 137, 137, 137, 137, 137, 137, 137, 137, 137, 107, 116, 119, 122], 107) := by decide +kernel
theorem dX7_signOf_108 : decode cX7_signOf 108 = .ok (.bipush 38, 2) := by decide +kernel
theorem dX7_signOf_110 : decode cX7_signOf 110 = .ok (.ireturn, 1) := by decide +kernel
theorem dX7_signOf_111 : decode cX7_signOf 111 = .ok (.bipush 36, 2) := by decide +kernel
theorem dX7_signOf_113 : decode cX7_signOf 113 = .ok (.ireturn, 1) := by decide +kernel
theorem dX7_signOf_114 : decode cX7_signOf 114 = .ok (.bipush 37, 2) := by decide +kernel
theorem dX7_signOf_116 : decode cX7_signOf 116 = .ok (.ireturn, 1) := by decide +kernel
theorem dX7_signOf_117 : decode cX7_signOf 117 = .ok (.bipush 26, 2) := by decide +kernel
theorem dX7_signOf_119 : decode cX7_signOf 119 = .ok (.ireturn, 1) := by decide +kernel
theorem dX7_signOf_120 : decode cX7_signOf 120 = .ok (.bipush 28, 2) := by decide +kernel
theorem dX7_signOf_122 : decode cX7_signOf 122 = .ok (.ireturn, 1) := by decide +kernel
theorem dX7_signOf_123 : decode cX7_signOf 123 = .ok (.bipush 31, 2) := by decide +kernel
theorem dX7_signOf_125 : decode cX7_signOf 125 = .ok (.ireturn, 1) := by decide +kernel
theorem dX7_signOf_126 : decode cX7_signOf 126 = .ok (.bipush 32, 2) := by decide +kernel
theorem dX7_signOf_128 : decode cX7_signOf 128 = .ok (.ireturn, 1) := by decide +kernel
theorem dX7_signOf_129 : decode cX7_signOf 129 = .ok (.bipush 33, 2) := by decide +kernel
theorem dX7_signOf_131 : decode cX7_signOf 131 = .ok (.ireturn, 1) := by decide +kernel
theorem dX7_signOf_132 : decode cX7_signOf 132 = .ok (.bipush 34, 2) := by decide +kernel
theorem dX7_signOf_134 : decode cX7_signOf 134 = .ok (.ireturn, 1) := by decide +kernel
theorem dX7_signOf_135 : decode cX7_signOf 135 = .ok (.bipush 35, 2) := by decide +kernel
theorem dX7_signOf_137 : decode cX7_signOf 137 = .ok (.ireturn, 1) := by decide +kernel
theorem dX7_signOf_138 : decode cX7_signOf 138 = .ok (.bipush 40, 2) := by decide +kernel
theorem dX7_signOf_140 : decode cX7_signOf 140 = .ok (.ireturn, 1) := by decide +kernel
theorem dX7_isNext_0 : decode cX7_isNext 0 = .ok (.aload_n 0, 1) := by decide +kernel
theorem dX7_isNext_1 : decode cX7_isNext 1 = .ok (.getfield 44, 3) := by decide +kernel
theorem dX7_isNext_4 : decode cX7_isNext 4 = .ok (.aload_n 0, 1) := by decide +kernel
theorem dX7_isNext_5 : decode cX7_isNext 5 = .ok (.getfield 40, 3) := by decide +kernel
theorem dX7_isNext_8 : decode cX7_isNext 8 = .ok (.if_icmp .ge 20, 3) := by decide +kernel
theorem dX7_isNext_11 : decode cX7_isNext 11 = .ok (.aload_n 0, 1) := by decide +kernel
theorem dX7_isNext_12 : decode cX7_isNext 12 = .ok (.getfield 15, 3) := by decide +kernel
theorem dX7_isNext_15 : decode cX7_isNext 15 = .ok (.aload_n 0, 1) := by decide +kernel
theorem dX7_isNext_16 : decode cX7_isNext 16 = .ok (.getfield 44, 3) := by decide +kernel
theorem dX7_isNext_19 : decode cX7_isNext 19 = .ok (.baload, 1) := by decide +kernel
theorem dX7_isNext_20 : decode cX7_isNext 20 = .ok (.iload_n 1, 1) := by decide +kernel
theorem dX7_isNext_21 : decode cX7_isNext 21 = .ok (.if_icmp .ne 7, 3) := by decide +kernel
theorem dX7_isNext_24 : decode cX7_isNext 24 = .ok (.iconst 1, 1) := by decide +kernel
theorem dX7_isNext_25 : decode cX7_isNext 25 = .ok (.goto 4, 3) := by decide +kernel
theorem dX7_isNext_28 : decode cX7_isNext 28 = .ok (.iconst 0, 1) := by decide +kernel
theorem dX7_isNext_29 : decode cX7_isNext 29 = .ok (.ireturn, 1) := by decide +kernel
theorem dX7_takeSign_0 : decode cX7_takeSign 0 = .ok (.aload_n 0, 1) := by decide +kernel
theorem dX7_takeSign_1 : decode cX7_takeSign 1 = .ok (.getfield 15, 3) := by decide +kernel
theorem dX7_takeSign_4 : decode cX7_takeSign 4 = .ok (.aload_n 0, 1) := by decide +kernel
theorem dX7_takeSign_5 : decode cX7_takeSign 5 = .ok (.getfield 44, 3) := by decide +kernel
theorem dX7_takeSign_8 : decode cX7_takeSign 8 = .ok (.baload, 1) := by decide +kernel
theorem dX7_takeSign_9 : decode cX7_takeSign 9 = .ok (.istore_n 1, 1) := by decide +kernel
theorem dX7_takeSign_10 : decode cX7_takeSign 10 = .ok (.aload_n 0, 1) := by decide +kernel
theorem dX7_takeSign_11 : decode cX7_takeSign 11 = .ok (.dup, 1) := by decide +kernel
theorem dX7_takeSign_12 : decode cX7_takeSign 12 = .ok (.getfield 44, 3) := by decide +kernel
theorem dX7_takeSign_15 : decode cX7_takeSign 15 = .ok (.iconst 1, 1) := by decide +kernel
theorem dX7_takeSign_16 : decode cX7_takeSign 16 = .ok (.iadd, 1) := by decide +kernel
theorem dX7_takeSign_17 : decode cX7_takeSign 17 = .ok (.putfield 44, 3) := by decide +kernel
theorem dX7_takeSign_20 : decode cX7_takeSign 20 = .ok (.aload_n 0, 1) := by decide +kernel
theorem dX7_takeSign_21 : decode cX7_takeSign 21 = .ok (.iload_n 1, 1) := by decide +kernel
theorem dX7_takeSign_22 : decode cX7_takeSign 22 = .ok (.invokestatic 76, 3) := by decide +kernel
theorem dX7_takeSign_25 : decode cX7_takeSign 25 = .ok (.putfield 56, 3) := by decide +kernel
theorem dX7_takeSign_28 : decode cX7_takeSign 28 = .ok (.aload_n 0, 1) := by decide +kernel
theorem dX7_takeSign_29 : decode cX7_takeSign 29 = .ok (.getfield 56, 3) := by decide +kernel
theorem dX7_takeSign_32 : decode cX7_takeSign 32 = .ok (.bipush 26, 2) := by decide +kernel
theorem dX7_takeSign_34 : decode cX7_takeSign 34 = .ok (.if_icmp .ne 31, 3) := by decide +kernel
theorem dX7_takeSign_37 : decode cX7_takeSign 37 = .ok (.aload_n 0, 1) := by decide +kernel
theorem dX7_takeSign_38 : decode cX7_takeSign 38 = .ok (.bipush 61, 2) := by decide +kernel
theorem dX7_takeSign_40 : decode cX7_takeSign 40 = .ok (.invokevirtual 79, 3) := by decide +kernel
theorem dX7_takeSign_43 : decode cX7_takeSign 43 = .ok (.ifCond .eq 22, 3) := by decide +kernel
theorem dX7_takeSign_46 : decode cX7_takeSign 46 = .ok (.aload_n 0, 1) := by decide +kernel
theorem dX7_takeSign_47 : decode cX7_takeSign 47 = .ok (.bipush 27, 2) := by decide +kernel
theorem dX7_takeSign_49 : decode cX7_takeSign 49 = .ok (.putfield 56, 3) := by decide +kernel
theorem dX7_takeSign_52 : decode cX7_takeSign 52 = .ok (.aload_n 0, 1) := by decide +kernel
theorem dX7_takeSign_53 : decode cX7_takeSign 53 = .ok (.dup, 1) := by decide +kernel
theorem dX7_takeSign_54 : decode cX7_takeSign 54 = .ok (.getfield 44, 3) := by decide +kernel
theorem dX7_takeSign_57 : decode cX7_takeSign 57 = .ok (.iconst 1, 1) := by decide +kernel
theorem dX7_takeSign_58 : decode cX7_takeSign 58 = .ok (.iadd, 1) := by decide +kernel
theorem dX7_takeSign_59 : decode cX7_takeSign 59 = .ok (.putfield 44, 3) := by decide +kernel
theorem dX7_takeSign_62 : decode cX7_takeSign 62 = .ok (.goto 74, 3) := by decide +kernel
theorem dX7_takeSign_65 : decode cX7_takeSign 65 = .ok (.aload_n 0, 1) := by decide +kernel
theorem dX7_takeSign_66 : decode cX7_takeSign 66 = .ok (.getfield 56, 3) := by decide +kernel
theorem dX7_takeSign_69 : decode cX7_takeSign 69 = .ok (.bipush 26, 2) := by decide +kernel
theorem dX7_takeSign_71 : decode cX7_takeSign 71 = .ok (.if_icmp .ne 31, 3) := by decide +kernel
theorem dX7_takeSign_74 : decode cX7_takeSign 74 = .ok (.aload_n 0, 1) := by decide +kernel
theorem dX7_takeSign_75 : decode cX7_takeSign 75 = .ok (.bipush 62, 2) := by decide +kernel
theorem dX7_takeSign_77 : decode cX7_takeSign 77 = .ok (.invokevirtual 79, 3) := by decide +kernel
theorem dX7_takeSign_80 : decode cX7_takeSign 80 = .ok (.ifCond .eq 22, 3) := by decide +kernel
theorem dX7_takeSign_83 : decode cX7_takeSign 83 = .ok (.aload_n 0, 1) := by decide +kernel
theorem dX7_takeSign_84 : decode cX7_takeSign 84 = .ok (.bipush 29, 2) := by decide +kernel
theorem dX7_takeSign_86 : decode cX7_takeSign 86 = .ok (.putfield 56, 3) := by decide +kernel
theorem dX7_takeSign_89 : decode cX7_takeSign 89 = .ok (.aload_n 0, 1) := by decide +kernel
theorem dX7_takeSign_90 : decode cX7_takeSign 90 = .ok (.dup, 1) := by decide +kernel
theorem dX7_takeSign_91 : decode cX7_takeSign 91 = .ok (.getfield 44, 3) := by decide +kernel
theorem dX7_takeSign_94 : decode cX7_takeSign 94 = .ok (.iconst 1, 1) := by decide +kernel
theorem dX7_takeSign_95 : decode cX7_takeSign 95 = .ok (.iadd, 1) := by decide +kernel
theorem dX7_takeSign_96 : decode cX7_takeSign 96 = .ok (.putfield 44, 3) := by decide +kernel
theorem dX7_takeSign_99 : decode cX7_takeSign 99 = .ok (.goto 37, 3) := by decide +kernel
theorem dX7_takeSign_102 : decode cX7_takeSign 102 = .ok (.aload_n 0, 1) := by decide +kernel
theorem dX7_takeSign_103 : decode cX7_takeSign 103 = .ok (.getfield 56, 3) := by decide +kernel
theorem dX7_takeSign_106 : decode cX7_takeSign 106 = .ok (.bipush 31, 2) := by decide +kernel
theorem dX7_takeSign_108 : decode cX7_takeSign 108 = .ok (.if_icmp .ne 28, 3) := by decide +kernel
theorem dX7_takeSign_111 : decode cX7_takeSign 111 = .ok (.aload_n 0, 1) := by decide +kernel
theorem dX7_takeSign_112 : decode cX7_takeSign 112 = .ok (.bipush 61, 2) := by decide +kernel
theorem dX7_takeSign_114 : decode cX7_takeSign 114 = .ok (.invokevirtual 79, 3) := by decide +kernel
theorem dX7_takeSign_117 : decode cX7_takeSign 117 = .ok (.ifCond .eq 19, 3) := by decide +kernel
theorem dX7_takeSign_120 : decode cX7_takeSign 120 = .ok (.aload_n 0, 1) := by decide +kernel
theorem dX7_takeSign_121 : decode cX7_takeSign 121 = .ok (.bipush 30, 2) := by decide +kernel
theorem dX7_takeSign_123 : decode cX7_takeSign 123 = .ok (.putfield 56, 3) := by decide +kernel
theorem dX7_takeSign_126 : decode cX7_takeSign 126 = .ok (.aload_n 0, 1) := by decide +kernel
theorem dX7_takeSign_127 : decode cX7_takeSign 127 = .ok (.dup, 1) := by decide +kernel
theorem dX7_takeSign_128 : decode cX7_takeSign 128 = .ok (.getfield 44, 3) := by decide +kernel
theorem dX7_takeSign_131 : decode cX7_takeSign 131 = .ok (.iconst 1, 1) := by decide +kernel
theorem dX7_takeSign_132 : decode cX7_takeSign 132 = .ok (.iadd, 1) := by decide +kernel
theorem dX7_takeSign_133 : decode cX7_takeSign 133 = .ok (.putfield 44, 3) := by decide +kernel
theorem dX7_takeSign_136 : decode cX7_takeSign 136 = .ok (.return_, 1) := by decide +kernel
theorem dX7_advance_0 : decode cX7_advance 0 = .ok (.aload_n 0, 1) := by decide +kernel
theorem dX7_advance_1 : decode cX7_advance 1 = .ok (.invokevirtual 47, 3) := by decide +kernel
theorem dX7_advance_4 : decode cX7_advance 4 = .ok (.aload_n 0, 1) := by decide +kernel
theorem dX7_advance_5 : decode cX7_advance 5 = .ok (.aload_n 0, 1) := by decide +kernel
theorem dX7_advance_6 : decode cX7_advance 6 = .ok (.getfield 44, 3) := by decide +kernel
theorem dX7_advance_9 : decode cX7_advance 9 = .ok (.putfield 50, 3) := by decide +kernel
theorem dX7_advance_12 : decode cX7_advance 12 = .ok (.aload_n 0, 1) := by decide +kernel
theorem dX7_advance_13 : decode cX7_advance 13 = .ok (.iconst 0, 1) := by decide +kernel
theorem dX7_advance_14 : decode cX7_advance 14 = .ok (.putfield 53, 3) := by decide +kernel
theorem dX7_advance_17 : decode cX7_advance 17 = .ok (.aload_n 0, 1) := by decide +kernel
theorem dX7_advance_18 : decode cX7_advance 18 = .ok (.getfield 44, 3) := by decide +kernel
theorem dX7_advance_21 : decode cX7_advance 21 = .ok (.aload_n 0, 1) := by decide +kernel
theorem dX7_advance_22 : decode cX7_advance 22 = .ok (.getfield 40, 3) := by decide +kernel
theorem dX7_advance_25 : decode cX7_advance 25 = .ok (.if_icmp .lt 12, 3) := by decide +kernel
theorem dX7_advance_28 : decode cX7_advance 28 = .ok (.aload_n 0, 1) := by decide +kernel
theorem dX7_advance_29 : decode cX7_advance 29 = .ok (.bipush 39, 2) := by decide +kernel
theorem dX7_advance_31 : decode cX7_advance 31 = .ok (.putfield 56, 3) := by decide +kernel
theorem dX7_advance_34 : decode cX7_advance 34 = .ok (.goto 51, 3) := by decide +kernel
theorem dX7_advance_37 : decode cX7_advance 37 = .ok (.aload_n 0, 1) := by decide +kernel
theorem dX7_advance_38 : decode cX7_advance 38 = .ok (.getfield 15, 3) := by decide +kernel
theorem dX7_advance_41 : decode cX7_advance 41 = .ok (.aload_n 0, 1) := by decide +kernel
theorem dX7_advance_42 : decode cX7_advance 42 = .ok (.getfield 44, 3) := by decide +kernel
theorem dX7_advance_45 : decode cX7_advance 45 = .ok (.baload, 1) := by decide +kernel
theorem dX7_advance_46 : decode cX7_advance 46 = .ok (.invokestatic 27, 3) := by decide +kernel
theorem dX7_advance_49 : decode cX7_advance 49 = .ok (.ifCond .eq 10, 3) := by decide +kernel
theorem dX7_advance_52 : decode cX7_advance 52 = .ok (.aload_n 0, 1) := by decide +kernel
theorem dX7_advance_53 : decode cX7_advance 53 = .ok (.invokevirtual 59, 3) := by decide +kernel
theorem dX7_advance_56 : decode cX7_advance 56 = .ok (.goto 29, 3) := by decide +kernel
theorem dX7_advance_59 : decode cX7_advance 59 = .ok (.aload_n 0, 1) := by decide +kernel
theorem dX7_advance_60 : decode cX7_advance 60 = .ok (.getfield 15, 3) := by decide +kernel
theorem dX7_advance_63 : decode cX7_advance 63 = .ok (.aload_n 0, 1) := by decide +kernel
theorem dX7_advance_64 : decode cX7_advance 64 = .ok (.getfield 44, 3) := by decide +kernel
theorem dX7_advance_67 : decode cX7_advance 67 = .ok (.baload, 1) := by decide +kernel
theorem dX7_advance_68 : decode cX7_advance 68 = .ok (.invokestatic 62, 3) := by decide +kernel
theorem dX7_advance_71 : decode cX7_advance 71 = .ok (.ifCond .eq 10, 3) := by decide +kernel
theorem dX7_advance_74 : decode cX7_advance 74 = .ok (.aload_n 0, 1) := by decide +kernel
theorem dX7_advance_75 : decode cX7_advance 75 = .ok (.invokevirtual 65, 3) := by decide +kernel
theorem dX7_advance_78 : decode cX7_advance 78 = .ok (.goto 7, 3) := by decide +kernel
theorem dX7_advance_81 : decode cX7_advance 81 = .ok (.aload_n 0, 1) := by decide +kernel
theorem dX7_advance_82 : decode cX7_advance 82 = .ok (.invokevirtual 68, 3) := by decide +kernel
theorem dX7_advance_85 : decode cX7_advance 85 = .ok (.return_, 1) := by decide +kernel
theorem dX5_takenNumber_0 : decode cX5_takenNumber 0 = .ok (.aload_n 0, 1) := by decide +kernel
theorem dX5_takenNumber_1 : decode cX5_takenNumber 1 = .ok (.getfield 18, 3) := by decide +kernel
theorem dX5_takenNumber_4 : decode cX5_takenNumber 4 = .ok (.getfield 52, 3) := by decide +kernel
theorem dX5_takenNumber_7 : decode cX5_takenNumber 7 = .ok (.bipush 25, 2) := by decide +kernel
theorem dX5_takenNumber_9 : decode cX5_takenNumber 9 = .ok (.if_icmp .eq 11, 3) := by decide +kernel
theorem dX5_takenNumber_12 : decode cX5_takenNumber 12 = .ok (.aload_n 0, 1) := by decide +kernel
theorem dX5_takenNumber_13 : decode cX5_takenNumber 13 = .ok (.iconst 1, 1) := by decide +kernel
theorem dX5_takenNumber_14 : decode cX5_takenNumber 14 = .ok (.invokevirtual 89, 3) := by decide +kernel
theorem dX5_takenNumber_17 : decode cX5_takenNumber 17 = .ok (.pop, 1) := by decide +kernel
theorem dX5_takenNumber_18 : decode cX5_takenNumber 18 = .ok (.iconst (-1), 1) := by decide +kernel
theorem dX5_takenNumber_19 : decode cX5_takenNumber 19 = .ok (.ireturn, 1) := by decide +kernel
theorem dX5_takenNumber_20 : decode cX5_takenNumber 20 = .ok (.aload_n 0, 1) := by decide +kernel
theorem dX5_takenNumber_21 : decode cX5_takenNumber 21 = .ok (.getfield 18, 3) := by decide +kernel
theorem dX5_takenNumber_24 : decode cX5_takenNumber 24 = .ok (.getfield 97, 3) := by decide +kernel
theorem dX5_takenNumber_27 : decode cX5_takenNumber 27 = .ok (.iload_n 1, 1) := by decide +kernel
theorem dX5_takenNumber_28 : decode cX5_takenNumber 28 = .ok (.if_icmp .lt 14, 3) := by decide +kernel
theorem dX5_takenNumber_31 : decode cX5_takenNumber 31 = .ok (.aload_n 0, 1) := by decide +kernel
theorem dX5_takenNumber_32 : decode cX5_takenNumber 32 = .ok (.getfield 18, 3) := by decide +kernel
theorem dX5_takenNumber_35 : decode cX5_takenNumber 35 = .ok (.getfield 97, 3) := by decide +kernel
theorem dX5_takenNumber_38 : decode cX5_takenNumber 38 = .ok (.iload_n 2, 1) := by decide +kernel
theorem dX5_takenNumber_39 : decode cX5_takenNumber 39 = .ok (.if_icmp .le 11, 3) := by decide +kernel
theorem dX5_takenNumber_42 : decode cX5_takenNumber 42 = .ok (.aload_n 0, 1) := by decide +kernel
theorem dX5_takenNumber_43 : decode cX5_takenNumber 43 = .ok (.iconst 2, 1) := by decide +kernel
theorem dX5_takenNumber_44 : decode cX5_takenNumber 44 = .ok (.invokevirtual 89, 3) := by decide +kernel
theorem dX5_takenNumber_47 : decode cX5_takenNumber 47 = .ok (.pop, 1) := by decide +kernel
theorem dX5_takenNumber_48 : decode cX5_takenNumber 48 = .ok (.iconst (-1), 1) := by decide +kernel
theorem dX5_takenNumber_49 : decode cX5_takenNumber 49 = .ok (.ireturn, 1) := by decide +kernel
theorem dX5_takenNumber_50 : decode cX5_takenNumber 50 = .ok (.aload_n 0, 1) := by decide +kernel
theorem dX5_takenNumber_51 : decode cX5_takenNumber 51 = .ok (.getfield 18, 3) := by decide +kernel
theorem dX5_takenNumber_54 : decode cX5_takenNumber 54 = .ok (.getfield 97, 3) := by decide +kernel
theorem dX5_takenNumber_57 : decode cX5_takenNumber 57 = .ok (.ireturn, 1) := by decide +kernel
theorem dX5_numberIn_0 : decode cX5_numberIn 0 = .ok (.aload_n 0, 1) := by decide +kernel
theorem dX5_numberIn_1 : decode cX5_numberIn 1 = .ok (.getfield 18, 3) := by decide +kernel
theorem dX5_numberIn_4 : decode cX5_numberIn 4 = .ok (.invokevirtual 49, 3) := by decide +kernel
theorem dX5_numberIn_7 : decode cX5_numberIn 7 = .ok (.aload_n 0, 1) := by decide +kernel
theorem dX5_numberIn_8 : decode cX5_numberIn 8 = .ok (.iload_n 1, 1) := by decide +kernel
theorem dX5_numberIn_9 : decode cX5_numberIn 9 = .ok (.iload_n 2, 1) := by decide +kernel
theorem dX5_numberIn_10 : decode cX5_numberIn 10 = .ok (.invokevirtual 93, 3) := by decide +kernel
theorem dX5_numberIn_13 : decode cX5_numberIn 13 = .ok (.ireturn, 1) := by decide +kernel
theorem dX10_forget_0 : decode cX10_forget 0 = .ok (.aload_n 0, 1) := by decide +kernel
theorem dX10_forget_1 : decode cX10_forget 1 = .ok (.iconst 0, 1) := by decide +kernel
theorem dX10_forget_2 : decode cX10_forget 2 = .ok (.putfield 30, 3) := by decide +kernel
theorem dX10_forget_5 : decode cX10_forget 5 = .ok (.aload_n 0, 1) := by decide +kernel
theorem dX10_forget_6 : decode cX10_forget 6 = .ok (.iconst 0, 1) := by decide +kernel
theorem dX10_forget_7 : decode cX10_forget 7 = .ok (.putfield 34, 3) := by decide +kernel
theorem dX10_forget_10 : decode cX10_forget 10 = .ok (.return_, 1) := by decide +kernel
theorem dX8_forget_0 : decode cX8_forget 0 = .ok (.aload_n 0, 1) := by decide +kernel
theorem dX8_forget_1 : decode cX8_forget 1 = .ok (.bipush 6, 2) := by decide +kernel
theorem dX8_forget_3 : decode cX8_forget 3 = .ok (.putfield 32, 3) := by decide +kernel
theorem dX8_forget_6 : decode cX8_forget 6 = .ok (.aload_n 0, 1) := by decide +kernel
theorem dX8_forget_7 : decode cX8_forget 7 = .ok (.iconst 4, 1) := by decide +kernel
theorem dX8_forget_8 : decode cX8_forget 8 = .ok (.putfield 36, 3) := by decide +kernel
theorem dX8_forget_11 : decode cX8_forget 11 = .ok (.aload_n 0, 1) := by decide +kernel
theorem dX8_forget_12 : decode cX8_forget 12 = .ok (.iconst 0, 1) := by decide +kernel
theorem dX8_forget_13 : decode cX8_forget 13 = .ok (.putfield 39, 3) := by decide +kernel
theorem dX8_forget_16 : decode cX8_forget 16 = .ok (.aload_n 0, 1) := by decide +kernel
theorem dX8_forget_17 : decode cX8_forget 17 = .ok (.iconst 0, 1) := by decide +kernel
theorem dX8_forget_18 : decode cX8_forget 18 = .ok (.putfield 42, 3) := by decide +kernel
theorem dX8_forget_21 : decode cX8_forget 21 = .ok (.aload_n 0, 1) := by decide +kernel
theorem dX8_forget_22 : decode cX8_forget 22 = .ok (.getfield 12, 3) := by decide +kernel
theorem dX8_forget_25 : decode cX8_forget 25 = .ok (.iconst 0, 1) := by decide +kernel
theorem dX8_forget_26 : decode cX8_forget 26 = .ok (.putfield 45, 3) := by decide +kernel
theorem dX8_forget_29 : decode cX8_forget 29 = .ok (.aload_n 0, 1) := by decide +kernel
theorem dX8_forget_30 : decode cX8_forget 30 = .ok (.getfield 21, 3) := by decide +kernel
theorem dX8_forget_33 : decode cX8_forget 33 = .ok (.invokevirtual 48, 3) := by decide +kernel
theorem dX8_forget_36 : decode cX8_forget 36 = .ok (.aload_n 0, 1) := by decide +kernel
theorem dX8_forget_37 : decode cX8_forget 37 = .ok (.iconst 0, 1) := by decide +kernel
theorem dX8_forget_38 : decode cX8_forget 38 = .ok (.putfield 51, 3) := by decide +kernel
theorem dX8_forget_41 : decode cX8_forget 41 = .ok (.aload_n 0, 1) := by decide +kernel
theorem dX8_forget_42 : decode cX8_forget 42 = .ok (.iconst 0, 1) := by decide +kernel
theorem dX8_forget_43 : decode cX8_forget 43 = .ok (.putfield 54, 3) := by decide +kernel
theorem dX8_forget_46 : decode cX8_forget 46 = .ok (.aload_n 0, 1) := by decide +kernel
theorem dX8_forget_47 : decode cX8_forget 47 = .ok (.iconst 0, 1) := by decide +kernel
theorem dX8_forget_48 : decode cX8_forget 48 = .ok (.putfield 57, 3) := by decide +kernel
theorem dX8_forget_51 : decode cX8_forget 51 = .ok (.aload_n 0, 1) := by decide +kernel
theorem dX8_forget_52 : decode cX8_forget 52 = .ok (.iconst 0, 1) := by decide +kernel
theorem dX8_forget_53 : decode cX8_forget 53 = .ok (.putfield 60, 3) := by decide +kernel
theorem dX8_forget_56 : decode cX8_forget 56 = .ok (.aload_n 0, 1) := by decide +kernel
theorem dX8_forget_57 : decode cX8_forget 57 = .ok (.iconst 0, 1) := by decide +kernel
theorem dX8_forget_58 : decode cX8_forget 58 = .ok (.putfield 63, 3) := by decide +kernel
theorem dX8_forget_61 : decode cX8_forget 61 = .ok (.iconst 0, 1) := by decide +kernel
theorem dX8_forget_62 : decode cX8_forget 62 = .ok (.istore_n 1, 1) := by decide +kernel
theorem dX8_forget_63 : decode cX8_forget 63 = .ok (.iload_n 1, 1) := by decide +kernel
theorem dX8_forget_64 : decode cX8_forget 64 = .ok (.iconst 3, 1) := by decide +kernel
theorem dX8_forget_65 : decode cX8_forget 65 = .ok (.if_icmp .ge 18, 3) := by decide +kernel
theorem dX8_forget_68 : decode cX8_forget 68 = .ok (.aload_n 0, 1) := by decide +kernel
theorem dX8_forget_69 : decode cX8_forget 69 = .ok (.getfield 27, 3) := by decide +kernel
theorem dX8_forget_72 : decode cX8_forget 72 = .ok (.iload_n 1, 1) := by decide +kernel
theorem dX8_forget_73 : decode cX8_forget 73 = .ok (.aaload, 1) := by decide +kernel
theorem dX8_forget_74 : decode cX8_forget 74 = .ok (.invokevirtual 66, 3) := by decide +kernel
theorem dX8_forget_77 : decode cX8_forget 77 = .ok (.iinc 1 1, 3) := by decide +kernel
theorem dX8_forget_80 : decode cX8_forget 80 = .ok (.goto (-17), 3) := by decide +kernel
theorem dX8_forget_83 : decode cX8_forget 83 = .ok (.aload_n 0, 1) := by decide +kernel
theorem dX8_forget_84 : decode cX8_forget 84 = .ok (.iconst 0, 1) := by decide +kernel
theorem dX8_forget_85 : decode cX8_forget 85 = .ok (.putfield 67, 3) := by decide +kernel
theorem dX8_forget_88 : decode cX8_forget 88 = .ok (.aload_n 0, 1) := by decide +kernel
theorem dX8_forget_89 : decode cX8_forget 89 = .ok (.iconst 0, 1) := by decide +kernel
theorem dX8_forget_90 : decode cX8_forget 90 = .ok (.putfield 70, 3) := by decide +kernel
theorem dX8_forget_93 : decode cX8_forget 93 = .ok (.return_, 1) := by decide +kernel
theorem dX7_begin_0 : decode cX7_begin 0 = .ok (.aload_n 0, 1) := by decide +kernel
theorem dX7_begin_1 : decode cX7_begin 1 = .ok (.aload_n 1, 1) := by decide +kernel
theorem dX7_begin_2 : decode cX7_begin 2 = .ok (.putfield 15, 3) := by decide +kernel
theorem dX7_begin_5 : decode cX7_begin 5 = .ok (.aload_n 0, 1) := by decide +kernel
theorem dX7_begin_6 : decode cX7_begin 6 = .ok (.iload_n 2, 1) := by decide +kernel
theorem dX7_begin_7 : decode cX7_begin 7 = .ok (.aload_n 1, 1) := by decide +kernel
theorem dX7_begin_8 : decode cX7_begin 8 = .ok (.arraylength, 1) := by decide +kernel
theorem dX7_begin_9 : decode cX7_begin 9 = .ok (.invokestatic 35, 3) := by decide +kernel
theorem dX7_begin_12 : decode cX7_begin 12 = .ok (.putfield 40, 3) := by decide +kernel
theorem dX7_begin_15 : decode cX7_begin 15 = .ok (.aload_n 0, 1) := by decide +kernel
theorem dX7_begin_16 : decode cX7_begin 16 = .ok (.iconst 0, 1) := by decide +kernel
theorem dX7_begin_17 : decode cX7_begin 17 = .ok (.putfield 44, 3) := by decide +kernel
theorem dX7_begin_20 : decode cX7_begin 20 = .ok (.return_, 1) := by decide +kernel
theorem dX5_readStop_0 : decode cX5_readStop 0 = .ok (.aload_n 0, 1) := by decide +kernel
theorem dX5_readStop_1 : decode cX5_readStop 1 = .ok (.getfield 18, 3) := by decide +kernel
theorem dX5_readStop_4 : decode cX5_readStop 4 = .ok (.invokevirtual 49, 3) := by decide +kernel
theorem dX5_readStop_7 : decode cX5_readStop 7 = .ok (.aload_n 0, 1) := by decide +kernel
theorem dX5_readStop_8 : decode cX5_readStop 8 = .ok (.getfield 18, 3) := by decide +kernel
theorem dX5_readStop_11 : decode cX5_readStop 11 = .ok (.getfield 52, 3) := by decide +kernel
theorem dX5_readStop_14 : decode cX5_readStop 14 = .ok (.bipush 38, 2) := by decide +kernel
theorem dX5_readStop_16 : decode cX5_readStop 16 = .ok (.if_icmp .eq 11, 3) := by decide +kernel
theorem dX5_readStop_19 : decode cX5_readStop 19 = .ok (.aload_n 0, 1) := by decide +kernel
theorem dX5_readStop_20 : decode cX5_readStop 20 = .ok (.iconst 1, 1) := by decide +kernel
theorem dX5_readStop_21 : decode cX5_readStop 21 = .ok (.invokevirtual 89, 3) := by decide +kernel
theorem dX5_readStop_24 : decode cX5_readStop 24 = .ok (.ifCond .eq 7, 3) := by decide +kernel
theorem dX5_readStop_27 : decode cX5_readStop 27 = .ok (.iconst 1, 1) := by decide +kernel
theorem dX5_readStop_28 : decode cX5_readStop 28 = .ok (.goto 4, 3) := by decide +kernel
theorem dX5_readStop_31 : decode cX5_readStop 31 = .ok (.iconst 0, 1) := by decide +kernel
theorem dX5_readStop_32 : decode cX5_readStop 32 = .ok (.ireturn, 1) := by decide +kernel
theorem dX5_readSea_0 : decode cX5_readSea 0 = .ok (.aload_n 0, 1) := by decide +kernel
theorem dX5_readSea_1 : decode cX5_readSea 1 = .ok (.iconst 0, 1) := by decide +kernel
theorem dX5_readSea_2 : decode cX5_readSea 2 = .ok (.invokevirtual 100, 3) := by decide +kernel
theorem dX5_readSea_5 : decode cX5_readSea 5 = .ok (.ifCond .ne 5, 3) := by decide +kernel
theorem dX5_readSea_8 : decode cX5_readSea 8 = .ok (.iconst 0, 1) := by decide +kernel
theorem dX5_readSea_9 : decode cX5_readSea 9 = .ok (.ireturn, 1) := by decide +kernel
theorem dX5_readSea_10 : decode cX5_readSea 10 = .ok (.aload_n 0, 1) := by decide +kernel
theorem dX5_readSea_11 : decode cX5_readSea 11 = .ok (.getfield 41, 3) := by decide +kernel
theorem dX5_readSea_14 : decode cX5_readSea 14 = .ok (.ifCond .eq 9, 3) := by decide +kernel
theorem dX5_readSea_17 : decode cX5_readSea 17 = .ok (.aload_n 0, 1) := by decide +kernel
theorem dX5_readSea_18 : decode cX5_readSea 18 = .ok (.iconst 4, 1) := by decide +kernel
theorem dX5_readSea_19 : decode cX5_readSea 19 = .ok (.invokevirtual 89, 3) := by decide +kernel
theorem dX5_readSea_22 : decode cX5_readSea 22 = .ok (.ireturn, 1) := by decide +kernel
theorem dX5_readSea_23 : decode cX5_readSea 23 = .ok (.aload_n 0, 1) := by decide +kernel
theorem dX5_readSea_24 : decode cX5_readSea 24 = .ok (.iconst 1, 1) := by decide +kernel
theorem dX5_readSea_25 : decode cX5_readSea 25 = .ok (.bipush 8, 2) := by decide +kernel
theorem dX5_readSea_27 : decode cX5_readSea 27 = .ok (.invokevirtual 103, 3) := by decide +kernel
theorem dX5_readSea_30 : decode cX5_readSea 30 = .ok (.istore_n 1, 1) := by decide +kernel
theorem dX5_readSea_31 : decode cX5_readSea 31 = .ok (.iload_n 1, 1) := by decide +kernel
theorem dX5_readSea_32 : decode cX5_readSea 32 = .ok (.iconst (-1), 1) := by decide +kernel
theorem dX5_readSea_33 : decode cX5_readSea 33 = .ok (.if_icmp .ne 7, 3) := by decide +kernel
theorem dX5_readSea_36 : decode cX5_readSea 36 = .ok (.iconst (-1), 1) := by decide +kernel
theorem dX5_readSea_37 : decode cX5_readSea 37 = .ok (.goto 10, 3) := by decide +kernel
theorem dX5_readSea_40 : decode cX5_readSea 40 = .ok (.aload_n 0, 1) := by decide +kernel
theorem dX5_readSea_41 : decode cX5_readSea 41 = .ok (.iconst 1, 1) := by decide +kernel
theorem dX5_readSea_42 : decode cX5_readSea 42 = .ok (.bipush 6, 2) := by decide +kernel
theorem dX5_readSea_44 : decode cX5_readSea 44 = .ok (.invokevirtual 103, 3) := by decide +kernel
theorem dX5_readSea_47 : decode cX5_readSea 47 = .ok (.istore_n 2, 1) := by decide +kernel
theorem dX5_readSea_48 : decode cX5_readSea 48 = .ok (.iload_n 2, 1) := by decide +kernel
theorem dX5_readSea_49 : decode cX5_readSea 49 = .ok (.iconst (-1), 1) := by decide +kernel
theorem dX5_readSea_50 : decode cX5_readSea 50 = .ok (.if_icmp .ne 5, 3) := by decide +kernel
theorem dX5_readSea_53 : decode cX5_readSea 53 = .ok (.iconst 0, 1) := by decide +kernel
theorem dX5_readSea_54 : decode cX5_readSea 54 = .ok (.ireturn, 1) := by decide +kernel
theorem dX5_readSea_55 : decode cX5_readSea 55 = .ok (.aload_n 0, 1) := by decide +kernel
theorem dX5_readSea_56 : decode cX5_readSea 56 = .ok (.getfield 9, 3) := by decide +kernel
theorem dX5_readSea_59 : decode cX5_readSea 59 = .ok (.iload_n 1, 1) := by decide +kernel
theorem dX5_readSea_60 : decode cX5_readSea 60 = .ok (.putfield 106, 3) := by decide +kernel
theorem dX5_readSea_63 : decode cX5_readSea 63 = .ok (.aload_n 0, 1) := by decide +kernel
theorem dX5_readSea_64 : decode cX5_readSea 64 = .ok (.getfield 9, 3) := by decide +kernel
theorem dX5_readSea_67 : decode cX5_readSea 67 = .ok (.iload_n 2, 1) := by decide +kernel
theorem dX5_readSea_68 : decode cX5_readSea 68 = .ok (.putfield 109, 3) := by decide +kernel
theorem dX5_readSea_71 : decode cX5_readSea 71 = .ok (.aload_n 0, 1) := by decide +kernel
theorem dX5_readSea_72 : decode cX5_readSea 72 = .ok (.invokevirtual 112, 3) := by decide +kernel
theorem dX5_readSea_75 : decode cX5_readSea 75 = .ok (.ireturn, 1) := by decide +kernel
theorem dX5_readPeak_0 : decode cX5_readPeak 0 = .ok (.aload_n 0, 1) := by decide +kernel
theorem dX5_readPeak_1 : decode cX5_readPeak 1 = .ok (.iconst 1, 1) := by decide +kernel
theorem dX5_readPeak_2 : decode cX5_readPeak 2 = .ok (.invokevirtual 100, 3) := by decide +kernel
theorem dX5_readPeak_5 : decode cX5_readPeak 5 = .ok (.ifCond .ne 5, 3) := by decide +kernel
theorem dX5_readPeak_8 : decode cX5_readPeak 8 = .ok (.iconst 0, 1) := by decide +kernel
theorem dX5_readPeak_9 : decode cX5_readPeak 9 = .ok (.ireturn, 1) := by decide +kernel
theorem dX5_readPeak_10 : decode cX5_readPeak 10 = .ok (.aload_n 0, 1) := by decide +kernel
theorem dX5_readPeak_11 : decode cX5_readPeak 11 = .ok (.iconst 1, 1) := by decide +kernel
theorem dX5_readPeak_12 : decode cX5_readPeak 12 = .ok (.putfield 41, 3) := by decide +kernel
theorem dX5_readPeak_15 : decode cX5_readPeak 15 = .ok (.aload_n 0, 1) := by decide +kernel
theorem dX5_readPeak_16 : decode cX5_readPeak 16 = .ok (.iconst 0, 1) := by decide +kernel
theorem dX5_readPeak_17 : decode cX5_readPeak 17 = .ok (.aload_n 0, 1) := by decide +kernel
theorem dX5_readPeak_18 : decode cX5_readPeak 18 = .ok (.getfield 9, 3) := by decide +kernel
theorem dX5_readPeak_21 : decode cX5_readPeak 21 = .ok (.getfield 106, 3) := by decide +kernel
theorem dX5_readPeak_24 : decode cX5_readPeak 24 = .ok (.iconst 1, 1) := by decide +kernel
theorem dX5_readPeak_25 : decode cX5_readPeak 25 = .ok (.isub, 1) := by decide +kernel
theorem dX5_readPeak_26 : decode cX5_readPeak 26 = .ok (.invokevirtual 103, 3) := by decide +kernel
theorem dX5_readPeak_29 : decode cX5_readPeak 29 = .ok (.istore_n 1, 1) := by decide +kernel
theorem dX5_readPeak_30 : decode cX5_readPeak 30 = .ok (.iload_n 1, 1) := by decide +kernel
theorem dX5_readPeak_31 : decode cX5_readPeak 31 = .ok (.iconst (-1), 1) := by decide +kernel
theorem dX5_readPeak_32 : decode cX5_readPeak 32 = .ok (.if_icmp .ne 7, 3) := by decide +kernel
theorem dX5_readPeak_35 : decode cX5_readPeak 35 = .ok (.iconst (-1), 1) := by decide +kernel
theorem dX5_readPeak_36 : decode cX5_readPeak 36 = .ok (.goto 17, 3) := by decide +kernel
theorem dX5_readPeak_39 : decode cX5_readPeak 39 = .ok (.aload_n 0, 1) := by decide +kernel
theorem dX5_readPeak_40 : decode cX5_readPeak 40 = .ok (.iconst 0, 1) := by decide +kernel
theorem dX5_readPeak_41 : decode cX5_readPeak 41 = .ok (.aload_n 0, 1) := by decide +kernel
theorem dX5_readPeak_42 : decode cX5_readPeak 42 = .ok (.getfield 9, 3) := by decide +kernel
theorem dX5_readPeak_45 : decode cX5_readPeak 45 = .ok (.getfield 109, 3) := by decide +kernel
theorem dX5_readPeak_48 : decode cX5_readPeak 48 = .ok (.iconst 1, 1) := by decide +kernel
theorem dX5_readPeak_49 : decode cX5_readPeak 49 = .ok (.isub, 1) := by decide +kernel
theorem dX5_readPeak_50 : decode cX5_readPeak 50 = .ok (.invokevirtual 103, 3) := by decide +kernel
theorem dX5_readPeak_53 : decode cX5_readPeak 53 = .ok (.istore_n 2, 1) := by decide +kernel
theorem dX5_readPeak_54 : decode cX5_readPeak 54 = .ok (.iload_n 2, 1) := by decide +kernel
theorem dX5_readPeak_55 : decode cX5_readPeak 55 = .ok (.iconst (-1), 1) := by decide +kernel
theorem dX5_readPeak_56 : decode cX5_readPeak 56 = .ok (.if_icmp .ne 5, 3) := by decide +kernel
theorem dX5_readPeak_59 : decode cX5_readPeak 59 = .ok (.iconst 0, 1) := by decide +kernel
theorem dX5_readPeak_60 : decode cX5_readPeak 60 = .ok (.ireturn, 1) := by decide +kernel
theorem dX5_readPeak_61 : decode cX5_readPeak 61 = .ok (.aload_n 0, 1) := by decide +kernel
theorem dX5_readPeak_62 : decode cX5_readPeak 62 = .ok (.getfield 9, 3) := by decide +kernel
theorem dX5_readPeak_65 : decode cX5_readPeak 65 = .ok (.iload_n 1, 1) := by decide +kernel
theorem dX5_readPeak_66 : decode cX5_readPeak 66 = .ok (.putfield 115, 3) := by decide +kernel
theorem dX5_readPeak_69 : decode cX5_readPeak 69 = .ok (.aload_n 0, 1) := by decide +kernel
theorem dX5_readPeak_70 : decode cX5_readPeak 70 = .ok (.getfield 9, 3) := by decide +kernel
theorem dX5_readPeak_73 : decode cX5_readPeak 73 = .ok (.iload_n 2, 1) := by decide +kernel
theorem dX5_readPeak_74 : decode cX5_readPeak 74 = .ok (.putfield 118, 3) := by decide +kernel
theorem dX5_readPeak_77 : decode cX5_readPeak 77 = .ok (.aload_n 0, 1) := by decide +kernel
theorem dX5_readPeak_78 : decode cX5_readPeak 78 = .ok (.invokevirtual 112, 3) := by decide +kernel
theorem dX5_readPeak_81 : decode cX5_readPeak 81 = .ok (.ireturn, 1) := by decide +kernel
theorem dX5_readSurfer_0 : decode cX5_readSurfer 0 = .ok (.aload_n 0, 1) := by decide +kernel
theorem dX5_readSurfer_1 : decode cX5_readSurfer 1 = .ok (.getfield 9, 3) := by decide +kernel
theorem dX5_readSurfer_4 : decode cX5_readSurfer 4 = .ok (.getfield 121, 3) := by decide +kernel
theorem dX5_readSurfer_7 : decode cX5_readSurfer 7 = .ok (.getfield 125, 3) := by decide +kernel
theorem dX5_readSurfer_10 : decode cX5_readSurfer 10 = .ok (.iconst 5, 1) := by decide +kernel
theorem dX5_readSurfer_11 : decode cX5_readSurfer 11 = .ok (.if_icmp .lt 9, 3) := by decide +kernel
theorem dX5_readSurfer_14 : decode cX5_readSurfer 14 = .ok (.aload_n 0, 1) := by decide +kernel
theorem dX5_readSurfer_15 : decode cX5_readSurfer 15 = .ok (.iconst 2, 1) := by decide +kernel
theorem dX5_readSurfer_16 : decode cX5_readSurfer 16 = .ok (.invokevirtual 89, 3) := by decide +kernel
theorem dX5_readSurfer_19 : decode cX5_readSurfer 19 = .ok (.ireturn, 1) := by decide +kernel
theorem dX5_readSurfer_20 : decode cX5_readSurfer 20 = .ok (.aload_n 0, 1) := by decide +kernel
theorem dX5_readSurfer_21 : decode cX5_readSurfer 21 = .ok (.iconst 1, 1) := by decide +kernel
theorem dX5_readSurfer_22 : decode cX5_readSurfer 22 = .ok (.putfield 41, 3) := by decide +kernel
theorem dX5_readSurfer_25 : decode cX5_readSurfer 25 = .ok (.aload_n 0, 1) := by decide +kernel
theorem dX5_readSurfer_26 : decode cX5_readSurfer 26 = .ok (.getfield 18, 3) := by decide +kernel
theorem dX5_readSurfer_29 : decode cX5_readSurfer 29 = .ok (.invokevirtual 49, 3) := by decide +kernel
theorem dX5_readSurfer_32 : decode cX5_readSurfer 32 = .ok (.aload_n 0, 1) := by decide +kernel
theorem dX5_readSurfer_33 : decode cX5_readSurfer 33 = .ok (.getfield 18, 3) := by decide +kernel
theorem dX5_readSurfer_36 : decode cX5_readSurfer 36 = .ok (.getfield 52, 3) := by decide +kernel
theorem dX5_readSurfer_39 : decode cX5_readSurfer 39 = .ok (.bipush 24, 2) := by decide +kernel
theorem dX5_readSurfer_41 : decode cX5_readSurfer 41 = .ok (.if_icmp .eq 9, 3) := by decide +kernel
theorem dX5_readSurfer_44 : decode cX5_readSurfer 44 = .ok (.aload_n 0, 1) := by decide +kernel
theorem dX5_readSurfer_45 : decode cX5_readSurfer 45 = .ok (.iconst 1, 1) := by decide +kernel
theorem dX5_readSurfer_46 : decode cX5_readSurfer 46 = .ok (.invokevirtual 89, 3) := by decide +kernel
theorem dX5_readSurfer_49 : decode cX5_readSurfer 49 = .ok (.ireturn, 1) := by decide +kernel
theorem dX5_readSurfer_50 : decode cX5_readSurfer 50 = .ok (.aload_n 0, 1) := by decide +kernel
theorem dX5_readSurfer_51 : decode cX5_readSurfer 51 = .ok (.getfield 9, 3) := by decide +kernel
theorem dX5_readSurfer_54 : decode cX5_readSurfer 54 = .ok (.getfield 121, 3) := by decide +kernel
theorem dX5_readSurfer_57 : decode cX5_readSurfer 57 = .ok (.aload_n 0, 1) := by decide +kernel
theorem dX5_readSurfer_58 : decode cX5_readSurfer 58 = .ok (.getfield 18, 3) := by decide +kernel
theorem dX5_readSurfer_61 : decode cX5_readSurfer 61 = .ok (.getfield 97, 3) := by decide +kernel
theorem dX5_readSurfer_64 : decode cX5_readSurfer 64 = .ok (.invokevirtual 130, 3) := by decide +kernel
theorem dX5_readSurfer_67 : decode cX5_readSurfer 67 = .ok (.ifCond .eq 9, 3) := by decide +kernel
theorem dX5_readSurfer_70 : decode cX5_readSurfer 70 = .ok (.aload_n 0, 1) := by decide +kernel
theorem dX5_readSurfer_71 : decode cX5_readSurfer 71 = .ok (.iconst 3, 1) := by decide +kernel
theorem dX5_readSurfer_72 : decode cX5_readSurfer 72 = .ok (.invokevirtual 89, 3) := by decide +kernel
theorem dX5_readSurfer_75 : decode cX5_readSurfer 75 = .ok (.ireturn, 1) := by decide +kernel
theorem dX5_readSurfer_76 : decode cX5_readSurfer 76 = .ok (.aload_n 0, 1) := by decide +kernel
theorem dX5_readSurfer_77 : decode cX5_readSurfer 77 = .ok (.getfield 18, 3) := by decide +kernel
theorem dX5_readSurfer_80 : decode cX5_readSurfer 80 = .ok (.getfield 97, 3) := by decide +kernel
theorem dX5_readSurfer_83 : decode cX5_readSurfer 83 = .ok (.istore_n 1, 1) := by decide +kernel
theorem dX5_readSurfer_84 : decode cX5_readSurfer 84 = .ok (.aload_n 0, 1) := by decide +kernel
theorem dX5_readSurfer_85 : decode cX5_readSurfer 85 = .ok (.iconst 0, 1) := by decide +kernel
theorem dX5_readSurfer_86 : decode cX5_readSurfer 86 = .ok (.aload_n 0, 1) := by decide +kernel
theorem dX5_readSurfer_87 : decode cX5_readSurfer 87 = .ok (.getfield 9, 3) := by decide +kernel
theorem dX5_readSurfer_90 : decode cX5_readSurfer 90 = .ok (.getfield 106, 3) := by decide +kernel
theorem dX5_readSurfer_93 : decode cX5_readSurfer 93 = .ok (.iconst 1, 1) := by decide +kernel
theorem dX5_readSurfer_94 : decode cX5_readSurfer 94 = .ok (.isub, 1) := by decide +kernel
theorem dX5_readSurfer_95 : decode cX5_readSurfer 95 = .ok (.invokevirtual 103, 3) := by decide +kernel
theorem dX5_readSurfer_98 : decode cX5_readSurfer 98 = .ok (.istore_n 2, 1) := by decide +kernel
theorem dX5_readSurfer_99 : decode cX5_readSurfer 99 = .ok (.iload_n 2, 1) := by decide +kernel
theorem dX5_readSurfer_100 : decode cX5_readSurfer 100 = .ok (.iconst (-1), 1) := by decide +kernel
theorem dX5_readSurfer_101 : decode cX5_readSurfer 101 = .ok (.if_icmp .ne 7, 3) := by decide +kernel
theorem dX5_readSurfer_104 : decode cX5_readSurfer 104 = .ok (.iconst (-1), 1) := by decide +kernel
theorem dX5_readSurfer_105 : decode cX5_readSurfer 105 = .ok (.goto 17, 3) := by decide +kernel
theorem dX5_readSurfer_108 : decode cX5_readSurfer 108 = .ok (.aload_n 0, 1) := by decide +kernel
theorem dX5_readSurfer_109 : decode cX5_readSurfer 109 = .ok (.iconst 0, 1) := by decide +kernel
theorem dX5_readSurfer_110 : decode cX5_readSurfer 110 = .ok (.aload_n 0, 1) := by decide +kernel
theorem dX5_readSurfer_111 : decode cX5_readSurfer 111 = .ok (.getfield 9, 3) := by decide +kernel
theorem dX5_readSurfer_114 : decode cX5_readSurfer 114 = .ok (.getfield 109, 3) := by decide +kernel
theorem dX5_readSurfer_117 : decode cX5_readSurfer 117 = .ok (.iconst 1, 1) := by decide +kernel
theorem dX5_readSurfer_118 : decode cX5_readSurfer 118 = .ok (.isub, 1) := by decide +kernel
theorem dX5_readSurfer_119 : decode cX5_readSurfer 119 = .ok (.invokevirtual 103, 3) := by decide +kernel
theorem dX5_readSurfer_122 : decode cX5_readSurfer 122 = .ok (.istore_n 3, 1) := by decide +kernel
theorem dX5_readSurfer_123 : decode cX5_readSurfer 123 = .ok (.iload_n 3, 1) := by decide +kernel
theorem dX5_readSurfer_124 : decode cX5_readSurfer 124 = .ok (.iconst (-1), 1) := by decide +kernel
theorem dX5_readSurfer_125 : decode cX5_readSurfer 125 = .ok (.if_icmp .ne 7, 3) := by decide +kernel
theorem dX5_readSurfer_128 : decode cX5_readSurfer 128 = .ok (.iconst (-1), 1) := by decide +kernel
theorem dX5_readSurfer_129 : decode cX5_readSurfer 129 = .ok (.goto 10, 3) := by decide +kernel
theorem dX5_readSurfer_132 : decode cX5_readSurfer 132 = .ok (.aload_n 0, 1) := by decide +kernel
theorem dX5_readSurfer_133 : decode cX5_readSurfer 133 = .ok (.iconst 1, 1) := by decide +kernel
theorem dX5_readSurfer_134 : decode cX5_readSurfer 134 = .ok (.bipush 9, 2) := by decide +kernel
theorem dX5_readSurfer_136 : decode cX5_readSurfer 136 = .ok (.invokevirtual 103, 3) := by decide +kernel
theorem dX5_readSurfer_139 : decode cX5_readSurfer 139 = .ok (.istore 4, 2) := by decide +kernel
theorem dX5_readSurfer_141 : decode cX5_readSurfer 141 = .ok (.iload 4, 2) := by decide +kernel
theorem dX5_readSurfer_143 : decode cX5_readSurfer 143 = .ok (.iconst (-1), 1) := by decide +kernel
theorem dX5_readSurfer_144 : decode cX5_readSurfer 144 = .ok (.if_icmp .ne 7, 3) := by decide +kernel
theorem dX5_readSurfer_147 : decode cX5_readSurfer 147 = .ok (.iconst (-1), 1) := by decide +kernel
theorem dX5_readSurfer_148 : decode cX5_readSurfer 148 = .ok (.goto 9, 3) := by decide +kernel
theorem dX5_readSurfer_151 : decode cX5_readSurfer 151 = .ok (.aload_n 0, 1) := by decide +kernel
theorem dX5_readSurfer_152 : decode cX5_readSurfer 152 = .ok (.iconst 1, 1) := by decide +kernel
theorem dX5_readSurfer_153 : decode cX5_readSurfer 153 = .ok (.iconst 3, 1) := by decide +kernel
theorem dX5_readSurfer_154 : decode cX5_readSurfer 154 = .ok (.invokevirtual 103, 3) := by decide +kernel
theorem dX5_readSurfer_157 : decode cX5_readSurfer 157 = .ok (.istore 5, 2) := by decide +kernel
theorem dX5_readSurfer_159 : decode cX5_readSurfer 159 = .ok (.iload 5, 2) := by decide +kernel
theorem dX5_readSurfer_161 : decode cX5_readSurfer 161 = .ok (.iconst (-1), 1) := by decide +kernel
theorem dX5_readSurfer_162 : decode cX5_readSurfer 162 = .ok (.if_icmp .ne 7, 3) := by decide +kernel
theorem dX5_readSurfer_165 : decode cX5_readSurfer 165 = .ok (.iconst (-1), 1) := by decide +kernel
theorem dX5_readSurfer_166 : decode cX5_readSurfer 166 = .ok (.goto 10, 3) := by decide +kernel
theorem dX5_readSurfer_169 : decode cX5_readSurfer 169 = .ok (.aload_n 0, 1) := by decide +kernel
theorem dX5_readSurfer_170 : decode cX5_readSurfer 170 = .ok (.iconst 0, 1) := by decide +kernel
theorem dX5_readSurfer_171 : decode cX5_readSurfer 171 = .ok (.bipush 100, 2) := by decide +kernel
theorem dX5_readSurfer_173 : decode cX5_readSurfer 173 = .ok (.invokevirtual 103, 3) := by decide +kernel
theorem dX5_readSurfer_176 : decode cX5_readSurfer 176 = .ok (.istore 6, 2) := by decide +kernel
theorem dX5_readSurfer_178 : decode cX5_readSurfer 178 = .ok (.iload 6, 2) := by decide +kernel
theorem dX5_readSurfer_180 : decode cX5_readSurfer 180 = .ok (.iconst (-1), 1) := by decide +kernel
theorem dX5_readSurfer_181 : decode cX5_readSurfer 181 = .ok (.if_icmp .ne 7, 3) := by decide +kernel
theorem dX5_readSurfer_184 : decode cX5_readSurfer 184 = .ok (.iconst (-1), 1) := by decide +kernel
theorem dX5_readSurfer_185 : decode cX5_readSurfer 185 = .ok (.goto 10, 3) := by decide +kernel
theorem dX5_readSurfer_188 : decode cX5_readSurfer 188 = .ok (.aload_n 0, 1) := by decide +kernel
theorem dX5_readSurfer_189 : decode cX5_readSurfer 189 = .ok (.iconst 0, 1) := by decide +kernel
theorem dX5_readSurfer_190 : decode cX5_readSurfer 190 = .ok (.bipush 100, 2) := by decide +kernel
theorem dX5_readSurfer_192 : decode cX5_readSurfer 192 = .ok (.invokevirtual 103, 3) := by decide +kernel
theorem dX5_readSurfer_195 : decode cX5_readSurfer 195 = .ok (.istore 7, 2) := by decide +kernel
theorem dX5_readSurfer_197 : decode cX5_readSurfer 197 = .ok (.iload 7, 2) := by decide +kernel
theorem dX5_readSurfer_199 : decode cX5_readSurfer 199 = .ok (.iconst (-1), 1) := by decide +kernel
theorem dX5_readSurfer_200 : decode cX5_readSurfer 200 = .ok (.if_icmp .ne 5, 3) := by decide +kernel
theorem dX5_readSurfer_203 : decode cX5_readSurfer 203 = .ok (.iconst 0, 1) := by decide +kernel
theorem dX5_readSurfer_204 : decode cX5_readSurfer 204 = .ok (.ireturn, 1) := by decide +kernel
theorem dX5_readSurfer_205 : decode cX5_readSurfer 205 = .ok (.aload_n 0, 1) := by decide +kernel
theorem dX5_readSurfer_206 : decode cX5_readSurfer 206 = .ok (.getfield 9, 3) := by decide +kernel
theorem dX5_readSurfer_209 : decode cX5_readSurfer 209 = .ok (.getfield 121, 3) := by decide +kernel
theorem dX5_readSurfer_212 : decode cX5_readSurfer 212 = .ok (.iload_n 1, 1) := by decide +kernel
theorem dX5_readSurfer_213 : decode cX5_readSurfer 213 = .ok (.iload_n 3, 1) := by decide +kernel
theorem dX5_readSurfer_214 : decode cX5_readSurfer 214 = .ok (.aload_n 0, 1) := by decide +kernel
theorem dX5_readSurfer_215 : decode cX5_readSurfer 215 = .ok (.getfield 9, 3) := by decide +kernel
theorem dX5_readSurfer_218 : decode cX5_readSurfer 218 = .ok (.getfield 106, 3) := by decide +kernel
theorem dX5_readSurfer_221 : decode cX5_readSurfer 221 = .ok (.imul, 1) := by decide +kernel
theorem dX5_readSurfer_222 : decode cX5_readSurfer 222 = .ok (.iload_n 2, 1) := by decide +kernel
theorem dX5_readSurfer_223 : decode cX5_readSurfer 223 = .ok (.iadd, 1) := by decide +kernel
theorem dX5_readSurfer_224 : decode cX5_readSurfer 224 = .ok (.iload 4, 2) := by decide +kernel
theorem dX5_readSurfer_226 : decode cX5_readSurfer 226 = .ok (.iload 5, 2) := by decide +kernel
theorem dX5_readSurfer_228 : decode cX5_readSurfer 228 = .ok (.iload 6, 2) := by decide +kernel
theorem dX5_readSurfer_230 : decode cX5_readSurfer 230 = .ok (.iload 7, 2) := by decide +kernel
theorem dX5_readSurfer_232 : decode cX5_readSurfer 232 = .ok (.invokevirtual 133, 3) := by decide +kernel
theorem dX5_readSurfer_235 : decode cX5_readSurfer 235 = .ok (.aload_n 0, 1) := by decide +kernel
theorem dX5_readSurfer_236 : decode cX5_readSurfer 236 = .ok (.invokevirtual 112, 3) := by decide +kernel
theorem dX5_readSurfer_239 : decode cX5_readSurfer 239 = .ok (.ireturn, 1) := by decide +kernel
theorem dX10_firstMinute_0 : decode cX10_firstMinute 0 = .ok (.aload_n 0, 1) := by decide +kernel
theorem dX10_firstMinute_1 : decode cX10_firstMinute 1 = .ok (.getfield 18, 3) := by decide +kernel
theorem dX10_firstMinute_4 : decode cX10_firstMinute 4 = .ok (.aload_n 0, 1) := by decide +kernel
theorem dX10_firstMinute_5 : decode cX10_firstMinute 5 = .ok (.getfield 9, 3) := by decide +kernel
theorem dX10_firstMinute_8 : decode cX10_firstMinute 8 = .ok (.iload_n 1, 1) := by decide +kernel
theorem dX10_firstMinute_9 : decode cX10_firstMinute 9 = .ok (.iaload, 1) := by decide +kernel
theorem dX10_firstMinute_10 : decode cX10_firstMinute 10 = .ok (.iaload, 1) := by decide +kernel
theorem dX10_firstMinute_11 : decode cX10_firstMinute 11 = .ok (.ireturn, 1) := by decide +kernel
theorem dX10_lastMinute_0 : decode cX10_lastMinute 0 = .ok (.aload_n 0, 1) := by decide +kernel
theorem dX10_lastMinute_1 : decode cX10_lastMinute 1 = .ok (.iload_n 1, 1) := by decide +kernel
theorem dX10_lastMinute_2 : decode cX10_lastMinute 2 = .ok (.invokevirtual 37, 3) := by decide +kernel
theorem dX10_lastMinute_5 : decode cX10_lastMinute 5 = .ok (.aload_n 0, 1) := by decide +kernel
theorem dX10_lastMinute_6 : decode cX10_lastMinute 6 = .ok (.getfield 15, 3) := by decide +kernel
theorem dX10_lastMinute_9 : decode cX10_lastMinute 9 = .ok (.iload_n 1, 1) := by decide +kernel
theorem dX10_lastMinute_10 : decode cX10_lastMinute 10 = .ok (.iaload, 1) := by decide +kernel
theorem dX10_lastMinute_11 : decode cX10_lastMinute 11 = .ok (.iadd, 1) := by decide +kernel
theorem dX10_lastMinute_12 : decode cX10_lastMinute 12 = .ok (.iconst 1, 1) := by decide +kernel
theorem dX10_lastMinute_13 : decode cX10_lastMinute 13 = .ok (.isub, 1) := by decide +kernel
theorem dX10_lastMinute_14 : decode cX10_lastMinute 14 = .ok (.ireturn, 1) := by decide +kernel
theorem dX10_beginSet_0 : decode cX10_beginSet 0 = .ok (.aload_n 0, 1) := by decide +kernel
theorem dX10_beginSet_1 : decode cX10_beginSet 1 = .ok (.getfield 30, 3) := by decide +kernel
theorem dX10_beginSet_4 : decode cX10_beginSet 4 = .ok (.iconst 4, 1) := by decide +kernel
theorem dX10_beginSet_5 : decode cX10_beginSet 5 = .ok (.if_icmp .ge 36, 3) := by decide +kernel
theorem dX10_beginSet_8 : decode cX10_beginSet 8 = .ok (.aload_n 0, 1) := by decide +kernel
theorem dX10_beginSet_9 : decode cX10_beginSet 9 = .ok (.getfield 9, 3) := by decide +kernel
theorem dX10_beginSet_12 : decode cX10_beginSet 12 = .ok (.aload_n 0, 1) := by decide +kernel
theorem dX10_beginSet_13 : decode cX10_beginSet 13 = .ok (.getfield 30, 3) := by decide +kernel
theorem dX10_beginSet_16 : decode cX10_beginSet 16 = .ok (.aload_n 0, 1) := by decide +kernel
theorem dX10_beginSet_17 : decode cX10_beginSet 17 = .ok (.getfield 34, 3) := by decide +kernel
theorem dX10_beginSet_20 : decode cX10_beginSet 20 = .ok (.iastore, 1) := by decide +kernel
theorem dX10_beginSet_21 : decode cX10_beginSet 21 = .ok (.aload_n 0, 1) := by decide +kernel
theorem dX10_beginSet_22 : decode cX10_beginSet 22 = .ok (.getfield 15, 3) := by decide +kernel
theorem dX10_beginSet_25 : decode cX10_beginSet 25 = .ok (.aload_n 0, 1) := by decide +kernel
theorem dX10_beginSet_26 : decode cX10_beginSet 26 = .ok (.getfield 30, 3) := by decide +kernel
theorem dX10_beginSet_29 : decode cX10_beginSet 29 = .ok (.iconst 0, 1) := by decide +kernel
theorem dX10_beginSet_30 : decode cX10_beginSet 30 = .ok (.iastore, 1) := by decide +kernel
theorem dX10_beginSet_31 : decode cX10_beginSet 31 = .ok (.aload_n 0, 1) := by decide +kernel
theorem dX10_beginSet_32 : decode cX10_beginSet 32 = .ok (.dup, 1) := by decide +kernel
theorem dX10_beginSet_33 : decode cX10_beginSet 33 = .ok (.getfield 30, 3) := by decide +kernel
theorem dX10_beginSet_36 : decode cX10_beginSet 36 = .ok (.iconst 1, 1) := by decide +kernel
theorem dX10_beginSet_37 : decode cX10_beginSet 37 = .ok (.iadd, 1) := by decide +kernel
theorem dX10_beginSet_38 : decode cX10_beginSet 38 = .ok (.putfield 30, 3) := by decide +kernel
theorem dX10_beginSet_41 : decode cX10_beginSet 41 = .ok (.return_, 1) := by decide +kernel
theorem dX10_add_0 : decode cX10_add 0 = .ok (.aload_n 0, 1) := by decide +kernel
theorem dX10_add_1 : decode cX10_add 1 = .ok (.getfield 34, 3) := by decide +kernel
theorem dX10_add_4 : decode cX10_add 4 = .ok (.bipush 28, 2) := by decide +kernel
theorem dX10_add_6 : decode cX10_add 6 = .ok (.if_icmp .ge 11, 3) := by decide +kernel
theorem dX10_add_9 : decode cX10_add 9 = .ok (.aload_n 0, 1) := by decide +kernel
theorem dX10_add_10 : decode cX10_add 10 = .ok (.getfield 30, 3) := by decide +kernel
theorem dX10_add_13 : decode cX10_add 13 = .ok (.iconst 1, 1) := by decide +kernel
theorem dX10_add_14 : decode cX10_add 14 = .ok (.if_icmp .ge 4, 3) := by decide +kernel
theorem dX10_add_17 : decode cX10_add 17 = .ok (.return_, 1) := by decide +kernel
theorem dX10_add_18 : decode cX10_add 18 = .ok (.aload_n 0, 1) := by decide +kernel
theorem dX10_add_19 : decode cX10_add 19 = .ok (.getfield 15, 3) := by decide +kernel
theorem dX10_add_22 : decode cX10_add 22 = .ok (.aload_n 0, 1) := by decide +kernel
theorem dX10_add_23 : decode cX10_add 23 = .ok (.getfield 30, 3) := by decide +kernel
theorem dX10_add_26 : decode cX10_add 26 = .ok (.iconst 1, 1) := by decide +kernel
theorem dX10_add_27 : decode cX10_add 27 = .ok (.isub, 1) := by decide +kernel
theorem dX10_add_28 : decode cX10_add 28 = .ok (.dup2, 1) := by decide +kernel
theorem dX10_add_29 : decode cX10_add 29 = .ok (.iaload, 1) := by decide +kernel
theorem dX10_add_30 : decode cX10_add 30 = .ok (.iconst 1, 1) := by decide +kernel
theorem dX10_add_31 : decode cX10_add 31 = .ok (.iadd, 1) := by decide +kernel
theorem dX10_add_32 : decode cX10_add 32 = .ok (.iastore, 1) := by decide +kernel
theorem dX10_add_33 : decode cX10_add 33 = .ok (.aload_n 0, 1) := by decide +kernel
theorem dX10_add_34 : decode cX10_add 34 = .ok (.getfield 18, 3) := by decide +kernel
theorem dX10_add_37 : decode cX10_add 37 = .ok (.aload_n 0, 1) := by decide +kernel
theorem dX10_add_38 : decode cX10_add 38 = .ok (.getfield 34, 3) := by decide +kernel
theorem dX10_add_41 : decode cX10_add 41 = .ok (.iload_n 1, 1) := by decide +kernel
theorem dX10_add_42 : decode cX10_add 42 = .ok (.iastore, 1) := by decide +kernel
theorem dX10_add_43 : decode cX10_add 43 = .ok (.aload_n 0, 1) := by decide +kernel
theorem dX10_add_44 : decode cX10_add 44 = .ok (.getfield 21, 3) := by decide +kernel
theorem dX10_add_47 : decode cX10_add 47 = .ok (.aload_n 0, 1) := by decide +kernel
theorem dX10_add_48 : decode cX10_add 48 = .ok (.getfield 34, 3) := by decide +kernel
theorem dX10_add_51 : decode cX10_add 51 = .ok (.iload_n 2, 1) := by decide +kernel
theorem dX10_add_52 : decode cX10_add 52 = .ok (.iastore, 1) := by decide +kernel
theorem dX10_add_53 : decode cX10_add 53 = .ok (.aload_n 0, 1) := by decide +kernel
theorem dX10_add_54 : decode cX10_add 54 = .ok (.getfield 24, 3) := by decide +kernel
theorem dX10_add_57 : decode cX10_add 57 = .ok (.aload_n 0, 1) := by decide +kernel
theorem dX10_add_58 : decode cX10_add 58 = .ok (.getfield 34, 3) := by decide +kernel
theorem dX10_add_61 : decode cX10_add 61 = .ok (.aload_n 0, 1) := by decide +kernel
theorem dX10_add_62 : decode cX10_add 62 = .ok (.getfield 30, 3) := by decide +kernel
theorem dX10_add_65 : decode cX10_add 65 = .ok (.iconst 1, 1) := by decide +kernel
theorem dX10_add_66 : decode cX10_add 66 = .ok (.isub, 1) := by decide +kernel
theorem dX10_add_67 : decode cX10_add 67 = .ok (.iastore, 1) := by decide +kernel
theorem dX10_add_68 : decode cX10_add 68 = .ok (.aload_n 0, 1) := by decide +kernel
theorem dX10_add_69 : decode cX10_add 69 = .ok (.getfield 27, 3) := by decide +kernel
theorem dX10_add_72 : decode cX10_add 72 = .ok (.aload_n 0, 1) := by decide +kernel
theorem dX10_add_73 : decode cX10_add 73 = .ok (.getfield 34, 3) := by decide +kernel
theorem dX10_add_76 : decode cX10_add 76 = .ok (.aload_n 0, 1) := by decide +kernel
theorem dX10_add_77 : decode cX10_add 77 = .ok (.getfield 15, 3) := by decide +kernel
theorem dX10_add_80 : decode cX10_add 80 = .ok (.aload_n 0, 1) := by decide +kernel
theorem dX10_add_81 : decode cX10_add 81 = .ok (.getfield 30, 3) := by decide +kernel
theorem dX10_add_84 : decode cX10_add 84 = .ok (.iconst 1, 1) := by decide +kernel
theorem dX10_add_85 : decode cX10_add 85 = .ok (.isub, 1) := by decide +kernel
theorem dX10_add_86 : decode cX10_add 86 = .ok (.iaload, 1) := by decide +kernel
theorem dX10_add_87 : decode cX10_add 87 = .ok (.iastore, 1) := by decide +kernel
theorem dX10_add_88 : decode cX10_add 88 = .ok (.aload_n 0, 1) := by decide +kernel
theorem dX10_add_89 : decode cX10_add 89 = .ok (.dup, 1) := by decide +kernel
theorem dX10_add_90 : decode cX10_add 90 = .ok (.getfield 34, 3) := by decide +kernel
theorem dX10_add_93 : decode cX10_add 93 = .ok (.iconst 1, 1) := by decide +kernel
theorem dX10_add_94 : decode cX10_add 94 = .ok (.iadd, 1) := by decide +kernel
theorem dX10_add_95 : decode cX10_add 95 = .ok (.putfield 34, 3) := by decide +kernel
theorem dX10_add_98 : decode cX10_add 98 = .ok (.return_, 1) := by decide +kernel
theorem dX5_readSet_0 : decode cX5_readSet 0 = .ok (.aload_n 0, 1) := by decide +kernel
theorem dX5_readSet_1 : decode cX5_readSet 1 = .ok (.getfield 9, 3) := by decide +kernel
theorem dX5_readSet_4 : decode cX5_readSet 4 = .ok (.getfield 137, 3) := by decide +kernel
theorem dX5_readSet_7 : decode cX5_readSet 7 = .ok (.astore_n 1, 1) := by decide +kernel
theorem dX5_readSet_8 : decode cX5_readSet 8 = .ok (.aload_n 1, 1) := by decide +kernel
theorem dX5_readSet_9 : decode cX5_readSet 9 = .ok (.getfield 141, 3) := by decide +kernel
theorem dX5_readSet_12 : decode cX5_readSet 12 = .ok (.iconst 4, 1) := by decide +kernel
theorem dX5_readSet_13 : decode cX5_readSet 13 = .ok (.if_icmp .lt 9, 3) := by decide +kernel
theorem dX5_readSet_16 : decode cX5_readSet 16 = .ok (.aload_n 0, 1) := by decide +kernel
theorem dX5_readSet_17 : decode cX5_readSet 17 = .ok (.iconst 2, 1) := by decide +kernel
theorem dX5_readSet_18 : decode cX5_readSet 18 = .ok (.invokevirtual 89, 3) := by decide +kernel
theorem dX5_readSet_21 : decode cX5_readSet 21 = .ok (.ireturn, 1) := by decide +kernel
theorem dX5_readSet_22 : decode cX5_readSet 22 = .ok (.aload_n 0, 1) := by decide +kernel
theorem dX5_readSet_23 : decode cX5_readSet 23 = .ok (.iconst 0, 1) := by decide +kernel
theorem dX5_readSet_24 : decode cX5_readSet 24 = .ok (.bipush 99, 2) := by decide +kernel
theorem dX5_readSet_26 : decode cX5_readSet 26 = .ok (.invokevirtual 103, 3) := by decide +kernel
theorem dX5_readSet_29 : decode cX5_readSet 29 = .ok (.istore_n 2, 1) := by decide +kernel
theorem dX5_readSet_30 : decode cX5_readSet 30 = .ok (.iload_n 2, 1) := by decide +kernel
theorem dX5_readSet_31 : decode cX5_readSet 31 = .ok (.iconst (-1), 1) := by decide +kernel
theorem dX5_readSet_32 : decode cX5_readSet 32 = .ok (.if_icmp .ne 5, 3) := by decide +kernel
theorem dX5_readSet_35 : decode cX5_readSet 35 = .ok (.iconst 0, 1) := by decide +kernel
theorem dX5_readSet_36 : decode cX5_readSet 36 = .ok (.ireturn, 1) := by decide +kernel
theorem dX5_readSet_37 : decode cX5_readSet 37 = .ok (.aload_n 1, 1) := by decide +kernel
theorem dX5_readSet_38 : decode cX5_readSet 38 = .ok (.getfield 141, 3) := by decide +kernel
theorem dX5_readSet_41 : decode cX5_readSet 41 = .ok (.ifCond .le 23, 3) := by decide +kernel
theorem dX5_readSet_44 : decode cX5_readSet 44 = .ok (.iload_n 2, 1) := by decide +kernel
theorem dX5_readSet_45 : decode cX5_readSet 45 = .ok (.aload_n 1, 1) := by decide +kernel
theorem dX5_readSet_46 : decode cX5_readSet 46 = .ok (.aload_n 1, 1) := by decide +kernel
theorem dX5_readSet_47 : decode cX5_readSet 47 = .ok (.getfield 141, 3) := by decide +kernel
theorem dX5_readSet_50 : decode cX5_readSet 50 = .ok (.iconst 1, 1) := by decide +kernel
theorem dX5_readSet_51 : decode cX5_readSet 51 = .ok (.isub, 1) := by decide +kernel
theorem dX5_readSet_52 : decode cX5_readSet 52 = .ok (.invokevirtual 146, 3) := by decide +kernel
theorem dX5_readSet_55 : decode cX5_readSet 55 = .ok (.if_icmp .gt 9, 3) := by decide +kernel
theorem dX5_readSet_58 : decode cX5_readSet 58 = .ok (.aload_n 0, 1) := by decide +kernel
theorem dX5_readSet_59 : decode cX5_readSet 59 = .ok (.iconst 5, 1) := by decide +kernel
theorem dX5_readSet_60 : decode cX5_readSet 60 = .ok (.invokevirtual 89, 3) := by decide +kernel
theorem dX5_readSet_63 : decode cX5_readSet 63 = .ok (.ireturn, 1) := by decide +kernel
theorem dX5_readSet_64 : decode cX5_readSet 64 = .ok (.aload_n 1, 1) := by decide +kernel
theorem dX5_readSet_65 : decode cX5_readSet 65 = .ok (.invokevirtual 150, 3) := by decide +kernel
theorem dX5_readSet_68 : decode cX5_readSet 68 = .ok (.iconst 0, 1) := by decide +kernel
theorem dX5_readSet_69 : decode cX5_readSet 69 = .ok (.istore_n 3, 1) := by decide +kernel
theorem dX5_readSet_70 : decode cX5_readSet 70 = .ok (.iload_n 3, 1) := by decide +kernel
theorem dX5_readSet_71 : decode cX5_readSet 71 = .ok (.bipush 7, 2) := by decide +kernel
theorem dX5_readSet_73 : decode cX5_readSet 73 = .ok (.if_icmp .gt 72, 3) := by decide +kernel
theorem dX5_readSet_76 : decode cX5_readSet 76 = .ok (.aload_n 0, 1) := by decide +kernel
theorem dX5_readSet_77 : decode cX5_readSet 77 = .ok (.getfield 18, 3) := by decide +kernel
theorem dX5_readSet_80 : decode cX5_readSet 80 = .ok (.invokevirtual 49, 3) := by decide +kernel
theorem dX5_readSet_83 : decode cX5_readSet 83 = .ok (.iload_n 3, 1) := by decide +kernel
theorem dX5_readSet_84 : decode cX5_readSet 84 = .ok (.ifCond .le 17, 3) := by decide +kernel
theorem dX5_readSet_87 : decode cX5_readSet 87 = .ok (.aload_n 0, 1) := by decide +kernel
theorem dX5_readSet_88 : decode cX5_readSet 88 = .ok (.getfield 18, 3) := by decide +kernel
theorem dX5_readSet_91 : decode cX5_readSet 91 = .ok (.getfield 52, 3) := by decide +kernel
theorem dX5_readSet_94 : decode cX5_readSet 94 = .ok (.bipush 38, 2) := by decide +kernel
theorem dX5_readSet_96 : decode cX5_readSet 96 = .ok (.if_icmp .ne 5, 3) := by decide +kernel
theorem dX5_readSet_99 : decode cX5_readSet 99 = .ok (.iconst 1, 1) := by decide +kernel
theorem dX5_readSet_100 : decode cX5_readSet 100 = .ok (.ireturn, 1) := by decide +kernel
theorem dX5_readSet_101 : decode cX5_readSet 101 = .ok (.aload_n 0, 1) := by decide +kernel
theorem dX5_readSet_102 : decode cX5_readSet 102 = .ok (.iconst 1, 1) := by decide +kernel
theorem dX5_readSet_103 : decode cX5_readSet 103 = .ok (.bipush 9, 2) := by decide +kernel
theorem dX5_readSet_105 : decode cX5_readSet 105 = .ok (.invokevirtual 93, 3) := by decide +kernel
theorem dX5_readSet_108 : decode cX5_readSet 108 = .ok (.istore 4, 2) := by decide +kernel
theorem dX5_readSet_110 : decode cX5_readSet 110 = .ok (.iload 4, 2) := by decide +kernel
theorem dX5_readSet_112 : decode cX5_readSet 112 = .ok (.iconst (-1), 1) := by decide +kernel
theorem dX5_readSet_113 : decode cX5_readSet 113 = .ok (.if_icmp .ne 5, 3) := by decide +kernel
theorem dX5_readSet_116 : decode cX5_readSet 116 = .ok (.iconst 0, 1) := by decide +kernel
theorem dX5_readSet_117 : decode cX5_readSet 117 = .ok (.ireturn, 1) := by decide +kernel
theorem dX5_readSet_118 : decode cX5_readSet 118 = .ok (.iload_n 3, 1) := by decide +kernel
theorem dX5_readSet_119 : decode cX5_readSet 119 = .ok (.bipush 7, 2) := by decide +kernel
theorem dX5_readSet_121 : decode cX5_readSet 121 = .ok (.if_icmp .ne 9, 3) := by decide +kernel
theorem dX5_readSet_124 : decode cX5_readSet 124 = .ok (.aload_n 0, 1) := by decide +kernel
theorem dX5_readSet_125 : decode cX5_readSet 125 = .ok (.iconst 2, 1) := by decide +kernel
theorem dX5_readSet_126 : decode cX5_readSet 126 = .ok (.invokevirtual 89, 3) := by decide +kernel
theorem dX5_readSet_129 : decode cX5_readSet 129 = .ok (.ireturn, 1) := by decide +kernel
theorem dX5_readSet_130 : decode cX5_readSet 130 = .ok (.aload_n 1, 1) := by decide +kernel
theorem dX5_readSet_131 : decode cX5_readSet 131 = .ok (.iload_n 2, 1) := by decide +kernel
theorem dX5_readSet_132 : decode cX5_readSet 132 = .ok (.iload_n 3, 1) := by decide +kernel
theorem dX5_readSet_133 : decode cX5_readSet 133 = .ok (.iadd, 1) := by decide +kernel
theorem dX5_readSet_134 : decode cX5_readSet 134 = .ok (.iload 4, 2) := by decide +kernel
theorem dX5_readSet_136 : decode cX5_readSet 136 = .ok (.invokevirtual 153, 3) := by decide +kernel
theorem dX5_readSet_139 : decode cX5_readSet 139 = .ok (.iinc 3 1, 3) := by decide +kernel
theorem dX5_readSet_142 : decode cX5_readSet 142 = .ok (.goto (-72), 3) := by decide +kernel
theorem dX5_readSet_145 : decode cX5_readSet 145 = .ok (.iconst 0, 1) := by decide +kernel
theorem dX5_readSet_146 : decode cX5_readSet 146 = .ok (.ireturn, 1) := by decide +kernel
theorem dX5_readBank_0 : decode cX5_readBank 0 = .ok (.aload_n 0, 1) := by decide +kernel
theorem dX5_readBank_1 : decode cX5_readBank 1 = .ok (.iconst 4, 1) := by decide +kernel
theorem dX5_readBank_2 : decode cX5_readBank 2 = .ok (.invokevirtual 100, 3) := by decide +kernel
theorem dX5_readBank_5 : decode cX5_readBank 5 = .ok (.ifCond .ne 5, 3) := by decide +kernel
theorem dX5_readBank_8 : decode cX5_readBank 8 = .ok (.iconst 0, 1) := by decide +kernel
theorem dX5_readBank_9 : decode cX5_readBank 9 = .ok (.ireturn, 1) := by decide +kernel
theorem dX5_readBank_10 : decode cX5_readBank 10 = .ok (.aload_n 0, 1) := by decide +kernel
theorem dX5_readBank_11 : decode cX5_readBank 11 = .ok (.iconst 1, 1) := by decide +kernel
theorem dX5_readBank_12 : decode cX5_readBank 12 = .ok (.bipush 20, 2) := by decide +kernel
theorem dX5_readBank_14 : decode cX5_readBank 14 = .ok (.invokevirtual 103, 3) := by decide +kernel
theorem dX5_readBank_17 : decode cX5_readBank 17 = .ok (.istore_n 1, 1) := by decide +kernel
theorem dX5_readBank_18 : decode cX5_readBank 18 = .ok (.iload_n 1, 1) := by decide +kernel
theorem dX5_readBank_19 : decode cX5_readBank 19 = .ok (.iconst (-1), 1) := by decide +kernel
theorem dX5_readBank_20 : decode cX5_readBank 20 = .ok (.if_icmp .ne 7, 3) := by decide +kernel
theorem dX5_readBank_23 : decode cX5_readBank 23 = .ok (.iconst (-1), 1) := by decide +kernel
theorem dX5_readBank_24 : decode cX5_readBank 24 = .ok (.goto 10, 3) := by decide +kernel
theorem dX5_readBank_27 : decode cX5_readBank 27 = .ok (.aload_n 0, 1) := by decide +kernel
theorem dX5_readBank_28 : decode cX5_readBank 28 = .ok (.iconst 1, 1) := by decide +kernel
theorem dX5_readBank_29 : decode cX5_readBank 29 = .ok (.bipush 20, 2) := by decide +kernel
theorem dX5_readBank_31 : decode cX5_readBank 31 = .ok (.invokevirtual 103, 3) := by decide +kernel
theorem dX5_readBank_34 : decode cX5_readBank 34 = .ok (.istore_n 2, 1) := by decide +kernel
theorem dX5_readBank_35 : decode cX5_readBank 35 = .ok (.iload_n 2, 1) := by decide +kernel
theorem dX5_readBank_36 : decode cX5_readBank 36 = .ok (.iconst (-1), 1) := by decide +kernel
theorem dX5_readBank_37 : decode cX5_readBank 37 = .ok (.if_icmp .ne 7, 3) := by decide +kernel
theorem dX5_readBank_40 : decode cX5_readBank 40 = .ok (.iconst (-1), 1) := by decide +kernel
theorem dX5_readBank_41 : decode cX5_readBank 41 = .ok (.goto 10, 3) := by decide +kernel
theorem dX5_readBank_44 : decode cX5_readBank 44 = .ok (.aload_n 0, 1) := by decide +kernel
theorem dX5_readBank_45 : decode cX5_readBank 45 = .ok (.iconst 1, 1) := by decide +kernel
theorem dX5_readBank_46 : decode cX5_readBank 46 = .ok (.bipush 9, 2) := by decide +kernel
theorem dX5_readBank_48 : decode cX5_readBank 48 = .ok (.invokevirtual 103, 3) := by decide +kernel
theorem dX5_readBank_51 : decode cX5_readBank 51 = .ok (.istore_n 3, 1) := by decide +kernel
theorem dX5_readBank_52 : decode cX5_readBank 52 = .ok (.iload_n 3, 1) := by decide +kernel
theorem dX5_readBank_53 : decode cX5_readBank 53 = .ok (.iconst (-1), 1) := by decide +kernel
theorem dX5_readBank_54 : decode cX5_readBank 54 = .ok (.if_icmp .ne 5, 3) := by decide +kernel
theorem dX5_readBank_57 : decode cX5_readBank 57 = .ok (.iconst 0, 1) := by decide +kernel
theorem dX5_readBank_58 : decode cX5_readBank 58 = .ok (.ireturn, 1) := by decide +kernel
theorem dX5_readBank_59 : decode cX5_readBank 59 = .ok (.aload_n 0, 1) := by decide +kernel
theorem dX5_readBank_60 : decode cX5_readBank 60 = .ok (.getfield 9, 3) := by decide +kernel
theorem dX5_readBank_63 : decode cX5_readBank 63 = .ok (.iload_n 1, 1) := by decide +kernel
theorem dX5_readBank_64 : decode cX5_readBank 64 = .ok (.putfield 156, 3) := by decide +kernel
theorem dX5_readBank_67 : decode cX5_readBank 67 = .ok (.aload_n 0, 1) := by decide +kernel
theorem dX5_readBank_68 : decode cX5_readBank 68 = .ok (.getfield 9, 3) := by decide +kernel
theorem dX5_readBank_71 : decode cX5_readBank 71 = .ok (.iload_n 2, 1) := by decide +kernel
theorem dX5_readBank_72 : decode cX5_readBank 72 = .ok (.putfield 159, 3) := by decide +kernel
theorem dX5_readBank_75 : decode cX5_readBank 75 = .ok (.aload_n 0, 1) := by decide +kernel
theorem dX5_readBank_76 : decode cX5_readBank 76 = .ok (.getfield 9, 3) := by decide +kernel
theorem dX5_readBank_79 : decode cX5_readBank 79 = .ok (.iload_n 3, 1) := by decide +kernel
theorem dX5_readBank_80 : decode cX5_readBank 80 = .ok (.putfield 162, 3) := by decide +kernel
theorem dX5_readBank_83 : decode cX5_readBank 83 = .ok (.aload_n 0, 1) := by decide +kernel
theorem dX5_readBank_84 : decode cX5_readBank 84 = .ok (.invokevirtual 112, 3) := by decide +kernel
theorem dX5_readBank_87 : decode cX5_readBank 87 = .ok (.ireturn, 1) := by decide +kernel
theorem dX5_readRule_0 : decode cX5_readRule 0 = .ok (.aload_n 0, 1) := by decide +kernel
theorem dX5_readRule_1 : decode cX5_readRule 1 = .ok (.iconst 5, 1) := by decide +kernel
theorem dX5_readRule_2 : decode cX5_readRule 2 = .ok (.invokevirtual 100, 3) := by decide +kernel
theorem dX5_readRule_5 : decode cX5_readRule 5 = .ok (.ifCond .ne 5, 3) := by decide +kernel
theorem dX5_readRule_8 : decode cX5_readRule 8 = .ok (.iconst 0, 1) := by decide +kernel
theorem dX5_readRule_9 : decode cX5_readRule 9 = .ok (.ireturn, 1) := by decide +kernel
theorem dX5_readRule_10 : decode cX5_readRule 10 = .ok (.aload_n 0, 1) := by decide +kernel
theorem dX5_readRule_11 : decode cX5_readRule 11 = .ok (.getfield 18, 3) := by decide +kernel
theorem dX5_readRule_14 : decode cX5_readRule 14 = .ok (.invokevirtual 49, 3) := by decide +kernel
theorem dX5_readRule_17 : decode cX5_readRule 17 = .ok (.aload_n 0, 1) := by decide +kernel
theorem dX5_readRule_18 : decode cX5_readRule 18 = .ok (.getfield 18, 3) := by decide +kernel
theorem dX5_readRule_21 : decode cX5_readRule 21 = .ok (.getfield 52, 3) := by decide +kernel
theorem dX5_readRule_24 : decode cX5_readRule 24 = .ok (.bipush 8, 2) := by decide +kernel
theorem dX5_readRule_26 : decode cX5_readRule 26 = .ok (.isub, 1) := by decide +kernel
theorem dX5_readRule_27 : decode cX5_readRule 27 = .ok (.istore_n 1, 1) := by decide +kernel
theorem dX5_readRule_28 : decode cX5_readRule 28 = .ok (.iload_n 1, 1) := by decide +kernel
theorem dX5_readRule_29 : decode cX5_readRule 29 = .ok (.ifCond .lt 8, 3) := by decide +kernel
theorem dX5_readRule_32 : decode cX5_readRule 32 = .ok (.iload_n 1, 1) := by decide +kernel
theorem dX5_readRule_33 : decode cX5_readRule 33 = .ok (.iconst 4, 1) := by decide +kernel
theorem dX5_readRule_34 : decode cX5_readRule 34 = .ok (.if_icmp .lt 9, 3) := by decide +kernel
theorem dX5_readRule_37 : decode cX5_readRule 37 = .ok (.aload_n 0, 1) := by decide +kernel
theorem dX5_readRule_38 : decode cX5_readRule 38 = .ok (.iconst 1, 1) := by decide +kernel
theorem dX5_readRule_39 : decode cX5_readRule 39 = .ok (.invokevirtual 89, 3) := by decide +kernel
theorem dX5_readRule_42 : decode cX5_readRule 42 = .ok (.ireturn, 1) := by decide +kernel
theorem dX5_readRule_43 : decode cX5_readRule 43 = .ok (.aload_n 0, 1) := by decide +kernel
theorem dX5_readRule_44 : decode cX5_readRule 44 = .ok (.getfield 9, 3) := by decide +kernel
theorem dX5_readRule_47 : decode cX5_readRule 47 = .ok (.iload_n 1, 1) := by decide +kernel
theorem dX5_readRule_48 : decode cX5_readRule 48 = .ok (.putfield 165, 3) := by decide +kernel
theorem dX5_readRule_51 : decode cX5_readRule 51 = .ok (.aload_n 0, 1) := by decide +kernel
theorem dX5_readRule_52 : decode cX5_readRule 52 = .ok (.invokevirtual 112, 3) := by decide +kernel
theorem dX5_readRule_55 : decode cX5_readRule 55 = .ok (.ireturn, 1) := by decide +kernel
