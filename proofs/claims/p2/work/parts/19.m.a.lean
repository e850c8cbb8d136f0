theorem dX12_fairest_0 : decode cX12_fairest 0 = .ok (.aload_n 0, 1) := by decide +kernel
theorem dX12_fairest_1 : decode cX12_fairest 1 = .ok (.iconst 0, 1) := by decide +kernel
theorem dX12_fairest_2 : decode cX12_fairest 2 = .ok (.putfield 154, 3) := by decide +kernel
theorem dX12_fairest_5 : decode cX12_fairest 5 = .ok (.iload_n 1, 1) := by decide +kernel
theorem dX12_fairest_6 : decode cX12_fairest 6 = .ok (.ifCond .ge 5, 3) := by decide +kernel
theorem dX12_fairest_9 : decode cX12_fairest 9 = .ok (.iconst (-1), 1) := by decide +kernel
theorem dX12_fairest_10 : decode cX12_fairest 10 = .ok (.ireturn, 1) := by decide +kernel
theorem dX12_fairest_11 : decode cX12_fairest 11 = .ok (.iconst (-1), 1) := by decide +kernel
theorem dX12_fairest_12 : decode cX12_fairest 12 = .ok (.istore_n 2, 1) := by decide +kernel
theorem dX12_fairest_13 : decode cX12_fairest 13 = .ok (.iconst 0, 1) := by decide +kernel
theorem dX12_fairest_14 : decode cX12_fairest 14 = .ok (.istore_n 3, 1) := by decide +kernel
theorem dX12_fairest_15 : decode cX12_fairest 15 = .ok (.iconst 0, 1) := by decide +kernel
theorem dX12_fairest_16 : decode cX12_fairest 16 = .ok (.istore 4, 2) := by decide +kernel
theorem dX12_fairest_18 : decode cX12_fairest 18 = .ok (.iload 4, 2) := by decide +kernel
theorem dX12_fairest_20 : decode cX12_fairest 20 = .ok (.iconst 4, 1) := by decide +kernel
theorem dX12_fairest_21 : decode cX12_fairest 21 = .ok (.if_icmp .ge 60, 3) := by decide +kernel
theorem dX12_fairest_24 : decode cX12_fairest 24 = .ok (.aload_n 0, 1) := by decide +kernel
theorem dX12_fairest_25 : decode cX12_fairest 25 = .ok (.iload 4, 2) := by decide +kernel
theorem dX12_fairest_27 : decode cX12_fairest 27 = .ok (.iload_n 1, 1) := by decide +kernel
theorem dX12_fairest_28 : decode cX12_fairest 28 = .ok (.invokevirtual 515, 3) := by decide +kernel
theorem dX12_fairest_31 : decode cX12_fairest 31 = .ok (.sipush 1000, 3) := by decide +kernel
theorem dX12_fairest_34 : decode cX12_fairest 34 = .ok (.aload_n 0, 1) := by decide +kernel
theorem dX12_fairest_35 : decode cX12_fairest 35 = .ok (.iconst 1, 1) := by decide +kernel
theorem dX12_fairest_36 : decode cX12_fairest 36 = .ok (.invokevirtual 518, 3) := by decide +kernel
theorem dX12_fairest_39 : decode cX12_fairest 39 = .ok (.imul, 1) := by decide +kernel
theorem dX12_fairest_40 : decode cX12_fairest 40 = .ok (.aload_n 0, 1) := by decide +kernel
theorem dX12_fairest_41 : decode cX12_fairest 41 = .ok (.getfield 109, 3) := by decide +kernel
theorem dX12_fairest_44 : decode cX12_fairest 44 = .ok (.iconst 1, 1) := by decide +kernel
theorem dX12_fairest_45 : decode cX12_fairest 45 = .ok (.iaload, 1) := by decide +kernel
theorem dX12_fairest_46 : decode cX12_fairest 46 = .ok (.iadd, 1) := by decide +kernel
theorem dX12_fairest_47 : decode cX12_fairest 47 = .ok (.aload_n 0, 1) := by decide +kernel
theorem dX12_fairest_48 : decode cX12_fairest 48 = .ok (.getfield 112, 3) := by decide +kernel
theorem dX12_fairest_51 : decode cX12_fairest 51 = .ok (.iconst 1, 1) := by decide +kernel
theorem dX12_fairest_52 : decode cX12_fairest 52 = .ok (.iaload, 1) := by decide +kernel
theorem dX12_fairest_53 : decode cX12_fairest 53 = .ok (.iadd, 1) := by decide +kernel
theorem dX12_fairest_54 : decode cX12_fairest 54 = .ok (.istore 5, 2) := by decide +kernel
theorem dX12_fairest_56 : decode cX12_fairest 56 = .ok (.iload_n 2, 1) := by decide +kernel
theorem dX12_fairest_57 : decode cX12_fairest 57 = .ok (.ifCond .lt 12, 3) := by decide +kernel
theorem dX12_fairest_60 : decode cX12_fairest 60 = .ok (.iload 5, 2) := by decide +kernel
theorem dX12_fairest_62 : decode cX12_fairest 62 = .ok (.iload_n 3, 1) := by decide +kernel
theorem dX12_fairest_63 : decode cX12_fairest 63 = .ok (.if_icmp .lt 6, 3) := by decide +kernel
theorem dX12_fairest_66 : decode cX12_fairest 66 = .ok (.goto 9, 3) := by decide +kernel
theorem dX12_fairest_69 : decode cX12_fairest 69 = .ok (.iload 4, 2) := by decide +kernel
theorem dX12_fairest_71 : decode cX12_fairest 71 = .ok (.istore_n 2, 1) := by decide +kernel
theorem dX12_fairest_72 : decode cX12_fairest 72 = .ok (.iload 5, 2) := by decide +kernel
theorem dX12_fairest_74 : decode cX12_fairest 74 = .ok (.istore_n 3, 1) := by decide +kernel
theorem dX12_fairest_75 : decode cX12_fairest 75 = .ok (.iinc 4 1, 3) := by decide +kernel
theorem dX12_fairest_78 : decode cX12_fairest 78 = .ok (.goto (-60), 3) := by decide +kernel
theorem dX12_fairest_81 : decode cX12_fairest 81 = .ok (.iload_n 2, 1) := by decide +kernel
theorem dX12_fairest_82 : decode cX12_fairest 82 = .ok (.ireturn, 1) := by decide +kernel
theorem dX12_fault_0 : decode cX12_fault 0 = .ok (.aload_n 0, 1) := by decide +kernel
theorem dX12_fault_1 : decode cX12_fault 1 = .ok (.iconst 0, 1) := by decide +kernel
theorem dX12_fault_2 : decode cX12_fault 2 = .ok (.putfield 154, 3) := by decide +kernel
theorem dX12_fault_5 : decode cX12_fault 5 = .ok (.iload_n 1, 1) := by decide +kernel
theorem dX12_fault_6 : decode cX12_fault 6 = .ok (.ifCond .ne 10, 3) := by decide +kernel
theorem dX12_fault_9 : decode cX12_fault 9 = .ok (.aload_n 0, 1) := by decide +kernel
theorem dX12_fault_10 : decode cX12_fault 10 = .ok (.getfield 160, 3) := by decide +kernel
theorem dX12_fault_13 : decode cX12_fault 13 = .ok (.goto 16, 3) := by decide +kernel
theorem dX12_fault_16 : decode cX12_fault 16 = .ok (.iload_n 1, 1) := by decide +kernel
theorem dX12_fault_17 : decode cX12_fault 17 = .ok (.iconst 1, 1) := by decide +kernel
theorem dX12_fault_18 : decode cX12_fault 18 = .ok (.if_icmp .ne 10, 3) := by decide +kernel
theorem dX12_fault_21 : decode cX12_fault 21 = .ok (.aload_n 0, 1) := by decide +kernel
theorem dX12_fault_22 : decode cX12_fault 22 = .ok (.getfield 16, 3) := by decide +kernel
theorem dX12_fault_25 : decode cX12_fault 25 = .ok (.goto 4, 3) := by decide +kernel
theorem dX12_fault_28 : decode cX12_fault 28 = .ok (.iconst (-1), 1) := by decide +kernel
theorem dX12_fault_29 : decode cX12_fault 29 = .ok (.ireturn, 1) := by decide +kernel
theorem dX12_feed_0 : decode cX12_feed 0 = .ok (.aload_n 0, 1) := by decide +kernel
theorem dX12_feed_1 : decode cX12_feed 1 = .ok (.iconst 0, 1) := by decide +kernel
theorem dX12_feed_2 : decode cX12_feed 2 = .ok (.putfield 154, 3) := by decide +kernel
theorem dX12_feed_5 : decode cX12_feed 5 = .ok (.aload_n 0, 1) := by decide +kernel
theorem dX12_feed_6 : decode cX12_feed 6 = .ok (.getfield 157, 3) := by decide +kernel
theorem dX12_feed_9 : decode cX12_feed 9 = .ok (.bipush 20, 2) := by decide +kernel
theorem dX12_feed_11 : decode cX12_feed 11 = .ok (.iadd, 1) := by decide +kernel
theorem dX12_feed_12 : decode cX12_feed 12 = .ok (.sipush 700, 3) := by decide +kernel
theorem dX12_feed_15 : decode cX12_feed 15 = .ok (.if_icmp .le 5, 3) := by decide +kernel
theorem dX12_feed_18 : decode cX12_feed 18 = .ok (.iconst (-1), 1) := by decide +kernel
theorem dX12_feed_19 : decode cX12_feed 19 = .ok (.ireturn, 1) := by decide +kernel
theorem dX12_feed_20 : decode cX12_feed 20 = .ok (.iconst 0, 1) := by decide +kernel
theorem dX12_feed_21 : decode cX12_feed 21 = .ok (.istore 6, 2) := by decide +kernel
theorem dX12_feed_23 : decode cX12_feed 23 = .ok (.iload 6, 2) := by decide +kernel
theorem dX12_feed_25 : decode cX12_feed 25 = .ok (.bipush 20, 2) := by decide +kernel
theorem dX12_feed_27 : decode cX12_feed 27 = .ok (.if_icmp .ge 86, 3) := by decide +kernel
theorem dX12_feed_30 : decode cX12_feed 30 = .ok (.iload 6, 2) := by decide +kernel
theorem dX12_feed_32 : decode cX12_feed 32 = .ok (.iconst 4, 1) := by decide +kernel
theorem dX12_feed_33 : decode cX12_feed 33 = .ok (.if_icmp .ge 7, 3) := by decide +kernel
theorem dX12_feed_36 : decode cX12_feed 36 = .ok (.iload_n 1, 1) := by decide +kernel
theorem dX12_feed_37 : decode cX12_feed 37 = .ok (.goto 39, 3) := by decide +kernel
theorem dX12_feed_40 : decode cX12_feed 40 = .ok (.iload 6, 2) := by decide +kernel
theorem dX12_feed_42 : decode cX12_feed 42 = .ok (.bipush 8, 2) := by decide +kernel
theorem dX12_feed_44 : decode cX12_feed 44 = .ok (.if_icmp .ge 7, 3) := by decide +kernel
theorem dX12_feed_47 : decode cX12_feed 47 = .ok (.iload_n 2, 1) := by decide +kernel
theorem dX12_feed_48 : decode cX12_feed 48 = .ok (.goto 28, 3) := by decide +kernel
theorem dX12_feed_51 : decode cX12_feed 51 = .ok (.iload 6, 2) := by decide +kernel
theorem dX12_feed_53 : decode cX12_feed 53 = .ok (.bipush 12, 2) := by decide +kernel
theorem dX12_feed_55 : decode cX12_feed 55 = .ok (.if_icmp .ge 7, 3) := by decide +kernel
theorem dX12_feed_58 : decode cX12_feed 58 = .ok (.iload_n 3, 1) := by decide +kernel
theorem dX12_feed_59 : decode cX12_feed 59 = .ok (.goto 17, 3) := by decide +kernel
theorem dX12_feed_62 : decode cX12_feed 62 = .ok (.iload 6, 2) := by decide +kernel
theorem dX12_feed_64 : decode cX12_feed 64 = .ok (.bipush 16, 2) := by decide +kernel
theorem dX12_feed_66 : decode cX12_feed 66 = .ok (.if_icmp .ge 8, 3) := by decide +kernel
theorem dX12_feed_69 : decode cX12_feed 69 = .ok (.iload 4, 2) := by decide +kernel
theorem dX12_feed_71 : decode cX12_feed 71 = .ok (.goto 5, 3) := by decide +kernel
theorem dX12_feed_74 : decode cX12_feed 74 = .ok (.iload 5, 2) := by decide +kernel
theorem dX12_feed_76 : decode cX12_feed 76 = .ok (.istore 7, 2) := by decide +kernel
theorem dX12_feed_78 : decode cX12_feed 78 = .ok (.aload_n 0, 1) := by decide +kernel
theorem dX12_feed_79 : decode cX12_feed 79 = .ok (.getfield 7, 3) := by decide +kernel
theorem dX12_feed_82 : decode cX12_feed 82 = .ok (.aload_n 0, 1) := by decide +kernel
theorem dX12_feed_83 : decode cX12_feed 83 = .ok (.getfield 157, 3) := by decide +kernel
theorem dX12_feed_86 : decode cX12_feed 86 = .ok (.iload 6, 2) := by decide +kernel
theorem dX12_feed_88 : decode cX12_feed 88 = .ok (.iadd, 1) := by decide +kernel
theorem dX12_feed_89 : decode cX12_feed 89 = .ok (.iload 7, 2) := by decide +kernel
theorem dX12_feed_91 : decode cX12_feed 91 = .ok (.bipush 24, 2) := by decide +kernel
theorem dX12_feed_93 : decode cX12_feed 93 = .ok (.bipush 8, 2) := by decide +kernel
theorem dX12_feed_95 : decode cX12_feed 95 = .ok (.iload 6, 2) := by decide +kernel
theorem dX12_feed_97 : decode cX12_feed 97 = .ok (.iconst 4, 1) := by decide +kernel
theorem dX12_feed_98 : decode cX12_feed 98 = .ok (.irem, 1) := by decide +kernel
theorem dX12_feed_99 : decode cX12_feed 99 = .ok (.imul, 1) := by decide +kernel
theorem dX12_feed_100 : decode cX12_feed 100 = .ok (.isub, 1) := by decide +kernel
theorem dX12_feed_101 : decode cX12_feed 101 = .ok (.ishr, 1) := by decide +kernel
theorem dX12_feed_102 : decode cX12_feed 102 = .ok (.sipush 255, 3) := by decide +kernel
theorem dX12_feed_105 : decode cX12_feed 105 = .ok (.iand, 1) := by decide +kernel
theorem dX12_feed_106 : decode cX12_feed 106 = .ok (.iastore, 1) := by decide +kernel
theorem dX12_feed_107 : decode cX12_feed 107 = .ok (.iinc 6 1, 3) := by decide +kernel
theorem dX12_feed_110 : decode cX12_feed 110 = .ok (.goto (-87), 3) := by decide +kernel
theorem dX12_feed_113 : decode cX12_feed 113 = .ok (.aload_n 0, 1) := by decide +kernel
theorem dX12_feed_114 : decode cX12_feed 114 = .ok (.dup, 1) := by decide +kernel
theorem dX12_feed_115 : decode cX12_feed 115 = .ok (.getfield 157, 3) := by decide +kernel
theorem dX12_feed_118 : decode cX12_feed 118 = .ok (.bipush 20, 2) := by decide +kernel
theorem dX12_feed_120 : decode cX12_feed 120 = .ok (.iadd, 1) := by decide +kernel
theorem dX12_feed_121 : decode cX12_feed 121 = .ok (.putfield 157, 3) := by decide +kernel
theorem dX12_feed_124 : decode cX12_feed 124 = .ok (.aload_n 0, 1) := by decide +kernel
theorem dX12_feed_125 : decode cX12_feed 125 = .ok (.getfield 157, 3) := by decide +kernel
theorem dX12_feed_128 : decode cX12_feed 128 = .ok (.ireturn, 1) := by decide +kernel
theorem dX12_find_0 : decode cX12_find 0 = .ok (.iconst 0, 1) := by decide +kernel
theorem dX12_find_1 : decode cX12_find 1 = .ok (.istore 4, 2) := by decide +kernel
theorem dX12_find_3 : decode cX12_find 3 = .ok (.iload 4, 2) := by decide +kernel
theorem dX12_find_5 : decode cX12_find 5 = .ok (.iload_n 2, 1) := by decide +kernel
theorem dX12_find_6 : decode cX12_find 6 = .ok (.if_icmp .ge 22, 3) := by decide +kernel
theorem dX12_find_9 : decode cX12_find 9 = .ok (.aload_n 0, 1) := by decide +kernel
theorem dX12_find_10 : decode cX12_find 10 = .ok (.iload_n 1, 1) := by decide +kernel
theorem dX12_find_11 : decode cX12_find 11 = .ok (.iload 4, 2) := by decide +kernel
theorem dX12_find_13 : decode cX12_find 13 = .ok (.iadd, 1) := by decide +kernel
theorem dX12_find_14 : decode cX12_find 14 = .ok (.iaload, 1) := by decide +kernel
theorem dX12_find_15 : decode cX12_find 15 = .ok (.iload_n 3, 1) := by decide +kernel
theorem dX12_find_16 : decode cX12_find 16 = .ok (.if_icmp .ne 6, 3) := by decide +kernel
theorem dX12_find_19 : decode cX12_find 19 = .ok (.iload 4, 2) := by decide +kernel
theorem dX12_find_21 : decode cX12_find 21 = .ok (.ireturn, 1) := by decide +kernel
theorem dX12_find_22 : decode cX12_find 22 = .ok (.iinc 4 1, 3) := by decide +kernel
theorem dX12_find_25 : decode cX12_find 25 = .ok (.goto (-22), 3) := by decide +kernel
theorem dX12_find_28 : decode cX12_find 28 = .ok (.iconst (-1), 1) := by decide +kernel
theorem dX12_find_29 : decode cX12_find 29 = .ok (.ireturn, 1) := by decide +kernel
theorem dX12_gaps_0 : decode cX12_gaps 0 = .ok (.aload_n 0, 1) := by decide +kernel
theorem dX12_gaps_1 : decode cX12_gaps 1 = .ok (.iconst 0, 1) := by decide +kernel
theorem dX12_gaps_2 : decode cX12_gaps 2 = .ok (.putfield 154, 3) := by decide +kernel
theorem dX12_gaps_5 : decode cX12_gaps 5 = .ok (.iload_n 1, 1) := by decide +kernel
theorem dX12_gaps_6 : decode cX12_gaps 6 = .ok (.iconst 0, 1) := by decide +kernel
theorem dX12_gaps_7 : decode cX12_gaps 7 = .ok (.bipush 99, 2) := by decide +kernel
theorem dX12_gaps_9 : decode cX12_gaps 9 = .ok (.invokestatic 199, 3) := by decide +kernel
theorem dX12_gaps_12 : decode cX12_gaps 12 = .ok (.ifCond .eq 12, 3) := by decide +kernel
theorem dX12_gaps_15 : decode cX12_gaps 15 = .ok (.iload_n 2, 1) := by decide +kernel
theorem dX12_gaps_16 : decode cX12_gaps 16 = .ok (.iconst 0, 1) := by decide +kernel
theorem dX12_gaps_17 : decode cX12_gaps 17 = .ok (.iconst 1, 1) := by decide +kernel
theorem dX12_gaps_18 : decode cX12_gaps 18 = .ok (.invokestatic 199, 3) := by decide +kernel
theorem dX12_gaps_21 : decode cX12_gaps 21 = .ok (.ifCond .ne 5, 3) := by decide +kernel
theorem dX12_gaps_24 : decode cX12_gaps 24 = .ok (.iconst (-1), 1) := by decide +kernel
theorem dX12_gaps_25 : decode cX12_gaps 25 = .ok (.ireturn, 1) := by decide +kernel
theorem dX12_gaps_26 : decode cX12_gaps 26 = .ok (.iconst 0, 1) := by decide +kernel
theorem dX12_gaps_27 : decode cX12_gaps 27 = .ok (.istore_n 3, 1) := by decide +kernel
theorem dX12_gaps_28 : decode cX12_gaps 28 = .ok (.iconst 1, 1) := by decide +kernel
theorem dX12_gaps_29 : decode cX12_gaps 29 = .ok (.istore 4, 2) := by decide +kernel
theorem dX12_gaps_31 : decode cX12_gaps 31 = .ok (.iload 4, 2) := by decide +kernel
theorem dX12_gaps_33 : decode cX12_gaps 33 = .ok (.aload_n 0, 1) := by decide +kernel
theorem dX12_gaps_34 : decode cX12_gaps 34 = .ok (.getfield 250, 3) := by decide +kernel
theorem dX12_gaps_37 : decode cX12_gaps 37 = .ok (.if_icmp .ge 48, 3) := by decide +kernel
theorem dX12_gaps_40 : decode cX12_gaps 40 = .ok (.iload_n 3, 1) := by decide +kernel
theorem dX12_gaps_41 : decode cX12_gaps 41 = .ok (.aload_n 0, 1) := by decide +kernel
theorem dX12_gaps_42 : decode cX12_gaps 42 = .ok (.getfield 48, 3) := by decide +kernel
theorem dX12_gaps_45 : decode cX12_gaps 45 = .ok (.aload_n 0, 1) := by decide +kernel
theorem dX12_gaps_46 : decode cX12_gaps 46 = .ok (.getfield 45, 3) := by decide +kernel
theorem dX12_gaps_49 : decode cX12_gaps 49 = .ok (.iload 4, 2) := by decide +kernel
theorem dX12_gaps_51 : decode cX12_gaps 51 = .ok (.iaload, 1) := by decide +kernel
theorem dX12_gaps_52 : decode cX12_gaps 52 = .ok (.iaload, 1) := by decide +kernel
theorem dX12_gaps_53 : decode cX12_gaps 53 = .ok (.aload_n 0, 1) := by decide +kernel
theorem dX12_gaps_54 : decode cX12_gaps 54 = .ok (.getfield 48, 3) := by decide +kernel
theorem dX12_gaps_57 : decode cX12_gaps 57 = .ok (.aload_n 0, 1) := by decide +kernel
theorem dX12_gaps_58 : decode cX12_gaps 58 = .ok (.getfield 45, 3) := by decide +kernel
theorem dX12_gaps_61 : decode cX12_gaps 61 = .ok (.iload 4, 2) := by decide +kernel
theorem dX12_gaps_63 : decode cX12_gaps 63 = .ok (.iaload, 1) := by decide +kernel
theorem dX12_gaps_64 : decode cX12_gaps 64 = .ok (.iconst 1, 1) := by decide +kernel
theorem dX12_gaps_65 : decode cX12_gaps 65 = .ok (.isub, 1) := by decide +kernel
theorem dX12_gaps_66 : decode cX12_gaps 66 = .ok (.iaload, 1) := by decide +kernel
theorem dX12_gaps_67 : decode cX12_gaps 67 = .ok (.isub, 1) := by decide +kernel
theorem dX12_gaps_68 : decode cX12_gaps 68 = .ok (.iload_n 1, 1) := by decide +kernel
theorem dX12_gaps_69 : decode cX12_gaps 69 = .ok (.if_icmp .gt 7, 3) := by decide +kernel
theorem dX12_gaps_72 : decode cX12_gaps 72 = .ok (.iconst 1, 1) := by decide +kernel
theorem dX12_gaps_73 : decode cX12_gaps 73 = .ok (.goto 4, 3) := by decide +kernel
theorem dX12_gaps_76 : decode cX12_gaps 76 = .ok (.iconst 0, 1) := by decide +kernel
theorem dX12_gaps_77 : decode cX12_gaps 77 = .ok (.iadd, 1) := by decide +kernel
theorem dX12_gaps_78 : decode cX12_gaps 78 = .ok (.istore_n 3, 1) := by decide +kernel
theorem dX12_gaps_79 : decode cX12_gaps 79 = .ok (.iinc 4 1, 3) := by decide +kernel
theorem dX12_gaps_82 : decode cX12_gaps 82 = .ok (.goto (-51), 3) := by decide +kernel
theorem dX12_gaps_85 : decode cX12_gaps 85 = .ok (.iload_n 2, 1) := by decide +kernel
theorem dX12_gaps_86 : decode cX12_gaps 86 = .ok (.ifCond .ne 7, 3) := by decide +kernel
theorem dX12_gaps_89 : decode cX12_gaps 89 = .ok (.iload_n 3, 1) := by decide +kernel
theorem dX12_gaps_90 : decode cX12_gaps 90 = .ok (.goto 21, 3) := by decide +kernel
theorem dX12_gaps_93 : decode cX12_gaps 93 = .ok (.aload_n 0, 1) := by decide +kernel
theorem dX12_gaps_94 : decode cX12_gaps 94 = .ok (.getfield 250, 3) := by decide +kernel
theorem dX12_gaps_97 : decode cX12_gaps 97 = .ok (.iconst 2, 1) := by decide +kernel
theorem dX12_gaps_98 : decode cX12_gaps 98 = .ok (.if_icmp .ge 7, 3) := by decide +kernel
theorem dX12_gaps_101 : decode cX12_gaps 101 = .ok (.iconst 0, 1) := by decide +kernel
theorem dX12_gaps_102 : decode cX12_gaps 102 = .ok (.goto 9, 3) := by decide +kernel
theorem dX12_gaps_105 : decode cX12_gaps 105 = .ok (.aload_n 0, 1) := by decide +kernel
theorem dX12_gaps_106 : decode cX12_gaps 106 = .ok (.getfield 250, 3) := by decide +kernel
theorem dX12_gaps_109 : decode cX12_gaps 109 = .ok (.iconst 1, 1) := by decide +kernel
theorem dX12_gaps_110 : decode cX12_gaps 110 = .ok (.isub, 1) := by decide +kernel
theorem dX12_gaps_111 : decode cX12_gaps 111 = .ok (.ireturn, 1) := by decide +kernel
theorem dX12_give_0 : decode cX12_give 0 = .ok (.aload_n 0, 1) := by decide +kernel
theorem dX12_give_1 : decode cX12_give 1 = .ok (.iconst 0, 1) := by decide +kernel
theorem dX12_give_2 : decode cX12_give 2 = .ok (.putfield 154, 3) := by decide +kernel
theorem dX12_give_5 : decode cX12_give 5 = .ok (.aload_n 0, 1) := by decide +kernel
theorem dX12_give_6 : decode cX12_give 6 = .ok (.iload_n 1, 1) := by decide +kernel
theorem dX12_give_7 : decode cX12_give 7 = .ok (.invokevirtual 413, 3) := by decide +kernel
theorem dX12_give_10 : decode cX12_give 10 = .ok (.ifCond .eq 26, 3) := by decide +kernel
theorem dX12_give_13 : decode cX12_give 13 = .ok (.aload_n 0, 1) := by decide +kernel
theorem dX12_give_14 : decode cX12_give 14 = .ok (.iload_n 2, 1) := by decide +kernel
theorem dX12_give_15 : decode cX12_give 15 = .ok (.invokevirtual 413, 3) := by decide +kernel
theorem dX12_give_18 : decode cX12_give 18 = .ok (.ifCond .eq 18, 3) := by decide +kernel
theorem dX12_give_21 : decode cX12_give 21 = .ok (.iload_n 1, 1) := by decide +kernel
theorem dX12_give_22 : decode cX12_give 22 = .ok (.iload_n 2, 1) := by decide +kernel
theorem dX12_give_23 : decode cX12_give 23 = .ok (.if_icmp .eq 13, 3) := by decide +kernel
theorem dX12_give_26 : decode cX12_give 26 = .ok (.iload_n 3, 1) := by decide +kernel
theorem dX12_give_27 : decode cX12_give 27 = .ok (.iconst 0, 1) := by decide +kernel
theorem dX12_give_28 : decode cX12_give 28 = .ok (.bipush 99, 2) := by decide +kernel
theorem dX12_give_30 : decode cX12_give 30 = .ok (.invokestatic 199, 3) := by decide +kernel
theorem dX12_give_33 : decode cX12_give 33 = .ok (.ifCond .ne 5, 3) := by decide +kernel
theorem dX12_give_36 : decode cX12_give 36 = .ok (.iconst (-1), 1) := by decide +kernel
theorem dX12_give_37 : decode cX12_give 37 = .ok (.ireturn, 1) := by decide +kernel
theorem dX12_give_38 : decode cX12_give 38 = .ok (.aload_n 0, 1) := by decide +kernel
theorem dX12_give_39 : decode cX12_give 39 = .ok (.getfield 42, 3) := by decide +kernel
theorem dX12_give_42 : decode cX12_give 42 = .ok (.iload_n 2, 1) := by decide +kernel
theorem dX12_give_43 : decode cX12_give 43 = .ok (.iaload, 1) := by decide +kernel
theorem dX12_give_44 : decode cX12_give 44 = .ok (.iload_n 3, 1) := by decide +kernel
theorem dX12_give_45 : decode cX12_give 45 = .ok (.imul, 1) := by decide +kernel
theorem dX12_give_46 : decode cX12_give 46 = .ok (.bipush 100, 2) := by decide +kernel
theorem dX12_give_48 : decode cX12_give 48 = .ok (.if_icmp .le 7, 3) := by decide +kernel
theorem dX12_give_51 : decode cX12_give 51 = .ok (.iconst 1, 1) := by decide +kernel
theorem dX12_give_52 : decode cX12_give 52 = .ok (.goto 4, 3) := by decide +kernel
theorem dX12_give_55 : decode cX12_give 55 = .ok (.iconst 0, 1) := by decide +kernel
theorem dX12_give_56 : decode cX12_give 56 = .ok (.ireturn, 1) := by decide +kernel
theorem dX12_isWave_0 : decode cX12_isWave 0 = .ok (.iload_n 1, 1) := by decide +kernel
theorem dX12_isWave_1 : decode cX12_isWave 1 = .ok (.ifCond .lt 15, 3) := by decide +kernel
theorem dX12_isWave_4 : decode cX12_isWave 4 = .ok (.iload_n 1, 1) := by decide +kernel
theorem dX12_isWave_5 : decode cX12_isWave 5 = .ok (.aload_n 0, 1) := by decide +kernel
theorem dX12_isWave_6 : decode cX12_isWave 6 = .ok (.getfield 253, 3) := by decide +kernel
theorem dX12_isWave_9 : decode cX12_isWave 9 = .ok (.if_icmp .ge 7, 3) := by decide +kernel
theorem dX12_isWave_12 : decode cX12_isWave 12 = .ok (.iconst 1, 1) := by decide +kernel
theorem dX12_isWave_13 : decode cX12_isWave 13 = .ok (.goto 4, 3) := by decide +kernel
theorem dX12_isWave_16 : decode cX12_isWave 16 = .ok (.iconst 0, 1) := by decide +kernel
theorem dX12_isWave_17 : decode cX12_isWave 17 = .ok (.ireturn, 1) := by decide +kernel
theorem dX12_isToCome_0 : decode cX12_isToCome 0 = .ok (.aload_n 0, 1) := by decide +kernel
theorem dX12_isToCome_1 : decode cX12_isToCome 1 = .ok (.iload_n 1, 1) := by decide +kernel
theorem dX12_isToCome_2 : decode cX12_isToCome 2 = .ok (.invokevirtual 419, 3) := by decide +kernel
theorem dX12_isToCome_5 : decode cX12_isToCome 5 = .ok (.ifCond .eq 18, 3) := by decide +kernel
theorem dX12_isToCome_8 : decode cX12_isToCome 8 = .ok (.aload_n 0, 1) := by decide +kernel
theorem dX12_isToCome_9 : decode cX12_isToCome 9 = .ok (.getfield 103, 3) := by decide +kernel
theorem dX12_isToCome_12 : decode cX12_isToCome 12 = .ok (.iload_n 1, 1) := by decide +kernel
theorem dX12_isToCome_13 : decode cX12_isToCome 13 = .ok (.iaload, 1) := by decide +kernel
theorem dX12_isToCome_14 : decode cX12_isToCome 14 = .ok (.bipush (-2), 2) := by decide +kernel
theorem dX12_isToCome_16 : decode cX12_isToCome 16 = .ok (.if_icmp .ne 7, 3) := by decide +kernel
theorem dX12_isToCome_19 : decode cX12_isToCome 19 = .ok (.iconst 1, 1) := by decide +kernel
theorem dX12_isToCome_20 : decode cX12_isToCome 20 = .ok (.goto 4, 3) := by decide +kernel
theorem dX12_isToCome_23 : decode cX12_isToCome 23 = .ok (.iconst 0, 1) := by decide +kernel
theorem dX12_isToCome_24 : decode cX12_isToCome 24 = .ok (.ireturn, 1) := by decide +kernel
theorem dX12_go_0 : decode cX12_go 0 = .ok (.aload_n 0, 1) := by decide +kernel
theorem dX12_go_1 : decode cX12_go 1 = .ok (.iconst 0, 1) := by decide +kernel
theorem dX12_go_2 : decode cX12_go 2 = .ok (.putfield 154, 3) := by decide +kernel
theorem dX12_go_5 : decode cX12_go 5 = .ok (.aload_n 0, 1) := by decide +kernel
theorem dX12_go_6 : decode cX12_go 6 = .ok (.iload_n 1, 1) := by decide +kernel
theorem dX12_go_7 : decode cX12_go 7 = .ok (.invokevirtual 413, 3) := by decide +kernel
theorem dX12_go_10 : decode cX12_go 10 = .ok (.ifCond .eq 22, 3) := by decide +kernel
theorem dX12_go_13 : decode cX12_go 13 = .ok (.aload_n 0, 1) := by decide +kernel
theorem dX12_go_14 : decode cX12_go 14 = .ok (.iload_n 2, 1) := by decide +kernel
theorem dX12_go_15 : decode cX12_go 15 = .ok (.invokevirtual 476, 3) := by decide +kernel
theorem dX12_go_18 : decode cX12_go 18 = .ok (.ifCond .eq 14, 3) := by decide +kernel
theorem dX12_go_21 : decode cX12_go 21 = .ok (.iload_n 3, 1) := by decide +kernel
theorem dX12_go_22 : decode cX12_go 22 = .ok (.iconst 0, 1) := by decide +kernel
theorem dX12_go_23 : decode cX12_go 23 = .ok (.sipush 999, 3) := by decide +kernel
theorem dX12_go_26 : decode cX12_go 26 = .ok (.invokestatic 199, 3) := by decide +kernel
theorem dX12_go_29 : decode cX12_go 29 = .ok (.ifCond .ne 5, 3) := by decide +kernel
theorem dX12_go_32 : decode cX12_go 32 = .ok (.iconst (-1), 1) := by decide +kernel
theorem dX12_go_33 : decode cX12_go 33 = .ok (.ireturn, 1) := by decide +kernel
theorem dX12_go_34 : decode cX12_go 34 = .ok (.aload_n 0, 1) := by decide +kernel
theorem dX12_go_35 : decode cX12_go 35 = .ok (.iconst 0, 1) := by decide +kernel
theorem dX12_go_36 : decode cX12_go 36 = .ok (.iload_n 2, 1) := by decide +kernel
theorem dX12_go_37 : decode cX12_go 37 = .ok (.aload_n 0, 1) := by decide +kernel
theorem dX12_go_38 : decode cX12_go 38 = .ok (.getfield 369, 3) := by decide +kernel
theorem dX12_go_41 : decode cX12_go 41 = .ok (.invokevirtual 453, 3) := by decide +kernel
theorem dX12_go_44 : decode cX12_go 44 = .ok (.bipush 100, 2) := by decide +kernel
theorem dX12_go_46 : decode cX12_go 46 = .ok (.istore 4, 2) := by decide +kernel
theorem dX12_go_48 : decode cX12_go 48 = .ok (.iconst 0, 1) := by decide +kernel
theorem dX12_go_49 : decode cX12_go 49 = .ok (.istore 5, 2) := by decide +kernel
theorem dX12_go_51 : decode cX12_go 51 = .ok (.iconst 0, 1) := by decide +kernel
theorem dX12_go_52 : decode cX12_go 52 = .ok (.istore 6, 2) := by decide +kernel
theorem dX12_go_54 : decode cX12_go 54 = .ok (.iload 6, 2) := by decide +kernel
theorem dX12_go_56 : decode cX12_go 56 = .ok (.aload_n 0, 1) := by decide +kernel
theorem dX12_go_57 : decode cX12_go 57 = .ok (.getfield 433, 3) := by decide +kernel
theorem dX12_go_60 : decode cX12_go 60 = .ok (.if_icmp .ge 60, 3) := by decide +kernel
theorem dX12_go_63 : decode cX12_go 63 = .ok (.iload 5, 2) := by decide +kernel
theorem dX12_go_65 : decode cX12_go 65 = .ok (.ifCond .eq 26, 3) := by decide +kernel
theorem dX12_go_68 : decode cX12_go 68 = .ok (.iload 4, 2) := by decide +kernel
theorem dX12_go_70 : decode cX12_go 70 = .ok (.bipush 100, 2) := by decide +kernel
theorem dX12_go_72 : decode cX12_go 72 = .ok (.aload_n 0, 1) := by decide +kernel
theorem dX12_go_73 : decode cX12_go 73 = .ok (.getfield 39, 3) := by decide +kernel
theorem dX12_go_76 : decode cX12_go 76 = .ok (.aload_n 0, 1) := by decide +kernel
theorem dX12_go_77 : decode cX12_go 77 = .ok (.getfield 118, 3) := by decide +kernel
theorem dX12_go_80 : decode cX12_go 80 = .ok (.iload 6, 2) := by decide +kernel
theorem dX12_go_82 : decode cX12_go 82 = .ok (.iaload, 1) := by decide +kernel
theorem dX12_go_83 : decode cX12_go 83 = .ok (.iaload, 1) := by decide +kernel
theorem dX12_go_84 : decode cX12_go 84 = .ok (.isub, 1) := by decide +kernel
theorem dX12_go_85 : decode cX12_go 85 = .ok (.imul, 1) := by decide +kernel
theorem dX12_go_86 : decode cX12_go 86 = .ok (.bipush 100, 2) := by decide +kernel
theorem dX12_go_88 : decode cX12_go 88 = .ok (.idiv, 1) := by decide +kernel
theorem dX12_go_89 : decode cX12_go 89 = .ok (.istore 4, 2) := by decide +kernel
theorem dX12_go_91 : decode cX12_go 91 = .ok (.iload 5, 2) := by decide +kernel
theorem dX12_go_93 : decode cX12_go 93 = .ok (.ifCond .ne 14, 3) := by decide +kernel
theorem dX12_go_96 : decode cX12_go 96 = .ok (.aload_n 0, 1) := by decide +kernel
theorem dX12_go_97 : decode cX12_go 97 = .ok (.getfield 118, 3) := by decide +kernel
theorem dX12_go_100 : decode cX12_go 100 = .ok (.iload 6, 2) := by decide +kernel
theorem dX12_go_102 : decode cX12_go 102 = .ok (.iaload, 1) := by decide +kernel
theorem dX12_go_103 : decode cX12_go 103 = .ok (.iload_n 1, 1) := by decide +kernel
theorem dX12_go_104 : decode cX12_go 104 = .ok (.if_icmp .ne 7, 3) := by decide +kernel
theorem dX12_go_107 : decode cX12_go 107 = .ok (.iconst 1, 1) := by decide +kernel
theorem dX12_go_108 : decode cX12_go 108 = .ok (.goto 4, 3) := by decide +kernel
theorem dX12_go_111 : decode cX12_go 111 = .ok (.iconst 0, 1) := by decide +kernel
theorem dX12_go_112 : decode cX12_go 112 = .ok (.istore 5, 2) := by decide +kernel
theorem dX12_go_114 : decode cX12_go 114 = .ok (.iinc 6 1, 3) := by decide +kernel
theorem dX12_go_117 : decode cX12_go 117 = .ok (.goto (-63), 3) := by decide +kernel
theorem dX12_go_120 : decode cX12_go 120 = .ok (.aload_n 0, 1) := by decide +kernel
theorem dX12_go_121 : decode cX12_go 121 = .ok (.iload_n 1, 1) := by decide +kernel
theorem dX12_go_122 : decode cX12_go 122 = .ok (.iload_n 2, 1) := by decide +kernel
theorem dX12_go_123 : decode cX12_go 123 = .ok (.aload_n 0, 1) := by decide +kernel
theorem dX12_go_124 : decode cX12_go 124 = .ok (.getfield 88, 3) := by decide +kernel
theorem dX12_go_127 : decode cX12_go 127 = .ok (.iload_n 1, 1) := by decide +kernel
theorem dX12_go_128 : decode cX12_go 128 = .ok (.iaload, 1) := by decide +kernel
theorem dX12_go_129 : decode cX12_go 129 = .ok (.invokevirtual 479, 3) := by decide +kernel
theorem dX12_go_132 : decode cX12_go 132 = .ok (.iload_n 3, 1) := by decide +kernel
theorem dX12_go_133 : decode cX12_go 133 = .ok (.bipush 100, 2) := by decide +kernel
theorem dX12_go_135 : decode cX12_go 135 = .ok (.iload 4, 2) := by decide +kernel
theorem dX12_go_137 : decode cX12_go 137 = .ok (.isub, 1) := by decide +kernel
theorem dX12_go_138 : decode cX12_go 138 = .ok (.imul, 1) := by decide +kernel
theorem dX12_go_139 : decode cX12_go 139 = .ok (.if_icmp .le 7, 3) := by decide +kernel
theorem dX12_go_142 : decode cX12_go 142 = .ok (.iconst 1, 1) := by decide +kernel
theorem dX12_go_143 : decode cX12_go 143 = .ok (.goto 4, 3) := by decide +kernel
theorem dX12_go_146 : decode cX12_go 146 = .ok (.iconst 0, 1) := by decide +kernel
theorem dX12_go_147 : decode cX12_go 147 = .ok (.ireturn, 1) := by decide +kernel
theorem dX12_plain_0 : decode cX12_plain 0 = .ok (.aload_n 0, 1) := by decide +kernel
theorem dX12_plain_1 : decode cX12_plain 1 = .ok (.bipush 6, 2) := by decide +kernel
theorem dX12_plain_3 : decode cX12_plain 3 = .ok (.putfield 216, 3) := by decide +kernel
theorem dX12_plain_6 : decode cX12_plain 6 = .ok (.aload_n 0, 1) := by decide +kernel
theorem dX12_plain_7 : decode cX12_plain 7 = .ok (.iconst 4, 1) := by decide +kernel
theorem dX12_plain_8 : decode cX12_plain 8 = .ok (.putfield 219, 3) := by decide +kernel
theorem dX12_plain_11 : decode cX12_plain 11 = .ok (.aload_n 0, 1) := by decide +kernel
theorem dX12_plain_12 : decode cX12_plain 12 = .ok (.iconst 0, 1) := by decide +kernel
theorem dX12_plain_13 : decode cX12_plain 13 = .ok (.putfield 222, 3) := by decide +kernel
theorem dX12_plain_16 : decode cX12_plain 16 = .ok (.aload_n 0, 1) := by decide +kernel
theorem dX12_plain_17 : decode cX12_plain 17 = .ok (.iconst 0, 1) := by decide +kernel
theorem dX12_plain_18 : decode cX12_plain 18 = .ok (.putfield 225, 3) := by decide +kernel
theorem dX12_plain_21 : decode cX12_plain 21 = .ok (.aload_n 0, 1) := by decide +kernel
theorem dX12_plain_22 : decode cX12_plain 22 = .ok (.iconst 0, 1) := by decide +kernel
theorem dX12_plain_23 : decode cX12_plain 23 = .ok (.putfield 228, 3) := by decide +kernel
theorem dX12_plain_26 : decode cX12_plain 26 = .ok (.aload_n 0, 1) := by decide +kernel
theorem dX12_plain_27 : decode cX12_plain 27 = .ok (.iconst 0, 1) := by decide +kernel
theorem dX12_plain_28 : decode cX12_plain 28 = .ok (.putfield 231, 3) := by decide +kernel
theorem dX12_plain_31 : decode cX12_plain 31 = .ok (.aload_n 0, 1) := by decide +kernel
theorem dX12_plain_32 : decode cX12_plain 32 = .ok (.iconst 0, 1) := by decide +kernel
theorem dX12_plain_33 : decode cX12_plain 33 = .ok (.putfield 234, 3) := by decide +kernel
theorem dX12_plain_36 : decode cX12_plain 36 = .ok (.aload_n 0, 1) := by decide +kernel
theorem dX12_plain_37 : decode cX12_plain 37 = .ok (.iconst 0, 1) := by decide +kernel
theorem dX12_plain_38 : decode cX12_plain 38 = .ok (.putfield 237, 3) := by decide +kernel
theorem dX12_plain_41 : decode cX12_plain 41 = .ok (.iconst 0, 1) := by decide +kernel
theorem dX12_plain_42 : decode cX12_plain 42 = .ok (.istore_n 1, 1) := by decide +kernel
theorem dX12_plain_43 : decode cX12_plain 43 = .ok (.iload_n 1, 1) := by decide +kernel
theorem dX12_plain_44 : decode cX12_plain 44 = .ok (.iconst 5, 1) := by decide +kernel
theorem dX12_plain_45 : decode cX12_plain 45 = .ok (.if_icmp .ge 16, 3) := by decide +kernel
theorem dX12_plain_48 : decode cX12_plain 48 = .ok (.aload_n 0, 1) := by decide +kernel
theorem dX12_plain_49 : decode cX12_plain 49 = .ok (.getfield 20, 3) := by decide +kernel
theorem dX12_plain_52 : decode cX12_plain 52 = .ok (.iload_n 1, 1) := by decide +kernel
theorem dX12_plain_53 : decode cX12_plain 53 = .ok (.iconst 0, 1) := by decide +kernel
theorem dX12_plain_54 : decode cX12_plain 54 = .ok (.bastore, 1) := by decide +kernel
theorem dX12_plain_55 : decode cX12_plain 55 = .ok (.iinc 1 1, 3) := by decide +kernel
theorem dX12_plain_58 : decode cX12_plain 58 = .ok (.goto (-15), 3) := by decide +kernel
theorem dX12_plain_61 : decode cX12_plain 61 = .ok (.bipush 7, 2) := by decide +kernel
theorem dX12_plain_63 : decode cX12_plain 63 = .ok (.istore_n 1, 1) := by decide +kernel
theorem dX12_plain_64 : decode cX12_plain 64 = .ok (.iload_n 1, 1) := by decide +kernel
theorem dX12_plain_65 : decode cX12_plain 65 = .ok (.bipush 14, 2) := by decide +kernel
theorem dX12_plain_67 : decode cX12_plain 67 = .ok (.if_icmp .ge 16, 3) := by decide +kernel
theorem dX12_plain_70 : decode cX12_plain 70 = .ok (.aload_n 0, 1) := by decide +kernel
theorem dX12_plain_71 : decode cX12_plain 71 = .ok (.getfield 24, 3) := by decide +kernel
theorem dX12_plain_74 : decode cX12_plain 74 = .ok (.iload_n 1, 1) := by decide +kernel
theorem dX12_plain_75 : decode cX12_plain 75 = .ok (.iconst 0, 1) := by decide +kernel
theorem dX12_plain_76 : decode cX12_plain 76 = .ok (.iastore, 1) := by decide +kernel
theorem dX12_plain_77 : decode cX12_plain 77 = .ok (.iinc 1 1, 3) := by decide +kernel
theorem dX12_plain_80 : decode cX12_plain 80 = .ok (.goto (-16), 3) := by decide +kernel
theorem dX12_plain_83 : decode cX12_plain 83 = .ok (.iconst 3, 1) := by decide +kernel
theorem dX12_plain_84 : decode cX12_plain 84 = .ok (.istore_n 1, 1) := by decide +kernel
theorem dX12_plain_85 : decode cX12_plain 85 = .ok (.iload_n 1, 1) := by decide +kernel
theorem dX12_plain_86 : decode cX12_plain 86 = .ok (.bipush 6, 2) := by decide +kernel
theorem dX12_plain_88 : decode cX12_plain 88 = .ok (.if_icmp .ge 16, 3) := by decide +kernel
theorem dX12_plain_91 : decode cX12_plain 91 = .ok (.aload_n 0, 1) := by decide +kernel
theorem dX12_plain_92 : decode cX12_plain 92 = .ok (.getfield 57, 3) := by decide +kernel
theorem dX12_plain_95 : decode cX12_plain 95 = .ok (.iload_n 1, 1) := by decide +kernel
theorem dX12_plain_96 : decode cX12_plain 96 = .ok (.iconst 0, 1) := by decide +kernel
theorem dX12_plain_97 : decode cX12_plain 97 = .ok (.bastore, 1) := by decide +kernel
theorem dX12_plain_98 : decode cX12_plain 98 = .ok (.iinc 1 1, 3) := by decide +kernel
theorem dX12_plain_101 : decode cX12_plain 101 = .ok (.goto (-16), 3) := by decide +kernel
theorem dX12_plain_104 : decode cX12_plain 104 = .ok (.return_, 1) := by decide +kernel
theorem dX12_keepText_0 : decode cX12_keepText 0 = .ok (.aload_n 0, 1) := by decide +kernel
theorem dX12_keepText_1 : decode cX12_keepText 1 = .ok (.aload_n 0, 1) := by decide +kernel
theorem dX12_keepText_2 : decode cX12_keepText 2 = .ok (.getfield 216, 3) := by decide +kernel
theorem dX12_keepText_5 : decode cX12_keepText 5 = .ok (.putfield 241, 3) := by decide +kernel
theorem dX12_keepText_8 : decode cX12_keepText 8 = .ok (.aload_n 0, 1) := by decide +kernel
theorem dX12_keepText_9 : decode cX12_keepText 9 = .ok (.aload_n 0, 1) := by decide +kernel
theorem dX12_keepText_10 : decode cX12_keepText 10 = .ok (.getfield 219, 3) := by decide +kernel
theorem dX12_keepText_13 : decode cX12_keepText 13 = .ok (.putfield 244, 3) := by decide +kernel
theorem dX12_keepText_16 : decode cX12_keepText 16 = .ok (.aload_n 0, 1) := by decide +kernel
theorem dX12_keepText_17 : decode cX12_keepText 17 = .ok (.aload_n 0, 1) := by decide +kernel
theorem dX12_keepText_18 : decode cX12_keepText 18 = .ok (.getfield 222, 3) := by decide +kernel
theorem dX12_keepText_21 : decode cX12_keepText 21 = .ok (.putfield 247, 3) := by decide +kernel
theorem dX12_keepText_24 : decode cX12_keepText 24 = .ok (.aload_n 0, 1) := by decide +kernel
theorem dX12_keepText_25 : decode cX12_keepText 25 = .ok (.aload_n 0, 1) := by decide +kernel
theorem dX12_keepText_26 : decode cX12_keepText 26 = .ok (.getfield 225, 3) := by decide +kernel
theorem dX12_keepText_29 : decode cX12_keepText 29 = .ok (.putfield 250, 3) := by decide +kernel
theorem dX12_keepText_32 : decode cX12_keepText 32 = .ok (.aload_n 0, 1) := by decide +kernel
theorem dX12_keepText_33 : decode cX12_keepText 33 = .ok (.aload_n 0, 1) := by decide +kernel
theorem dX12_keepText_34 : decode cX12_keepText 34 = .ok (.getfield 228, 3) := by decide +kernel
theorem dX12_keepText_37 : decode cX12_keepText 37 = .ok (.putfield 253, 3) := by decide +kernel
theorem dX12_keepText_40 : decode cX12_keepText 40 = .ok (.aload_n 0, 1) := by decide +kernel
theorem dX12_keepText_41 : decode cX12_keepText 41 = .ok (.aload_n 0, 1) := by decide +kernel
theorem dX12_keepText_42 : decode cX12_keepText 42 = .ok (.getfield 231, 3) := by decide +kernel
theorem dX12_keepText_45 : decode cX12_keepText 45 = .ok (.putfield 256, 3) := by decide +kernel
theorem dX12_keepText_48 : decode cX12_keepText 48 = .ok (.aload_n 0, 1) := by decide +kernel
theorem dX12_keepText_49 : decode cX12_keepText 49 = .ok (.getfield 24, 3) := by decide +kernel
theorem dX12_keepText_52 : decode cX12_keepText 52 = .ok (.bipush 7, 2) := by decide +kernel
theorem dX12_keepText_54 : decode cX12_keepText 54 = .ok (.invokestatic 259, 3) := by decide +kernel
theorem dX12_keepText_57 : decode cX12_keepText 57 = .ok (.aload_n 0, 1) := by decide +kernel
theorem dX12_keepText_58 : decode cX12_keepText 58 = .ok (.getfield 27, 3) := by decide +kernel
theorem dX12_keepText_61 : decode cX12_keepText 61 = .ok (.iconst 5, 1) := by decide +kernel
theorem dX12_keepText_62 : decode cX12_keepText 62 = .ok (.invokestatic 259, 3) := by decide +kernel
theorem dX12_keepText_65 : decode cX12_keepText 65 = .ok (.aload_n 0, 1) := by decide +kernel
theorem dX12_keepText_66 : decode cX12_keepText 66 = .ok (.getfield 30, 3) := by decide +kernel
theorem dX12_keepText_69 : decode cX12_keepText 69 = .ok (.iconst 5, 1) := by decide +kernel
theorem dX12_keepText_70 : decode cX12_keepText 70 = .ok (.invokestatic 259, 3) := by decide +kernel
theorem dX12_keepText_73 : decode cX12_keepText 73 = .ok (.aload_n 0, 1) := by decide +kernel
theorem dX12_keepText_74 : decode cX12_keepText 74 = .ok (.getfield 33, 3) := by decide +kernel
theorem dX12_keepText_77 : decode cX12_keepText 77 = .ok (.iconst 5, 1) := by decide +kernel
theorem dX12_keepText_78 : decode cX12_keepText 78 = .ok (.invokestatic 259, 3) := by decide +kernel
theorem dX12_keepText_81 : decode cX12_keepText 81 = .ok (.aload_n 0, 1) := by decide +kernel
theorem dX12_keepText_82 : decode cX12_keepText 82 = .ok (.getfield 36, 3) := by decide +kernel
theorem dX12_keepText_85 : decode cX12_keepText 85 = .ok (.iconst 5, 1) := by decide +kernel
theorem dX12_keepText_86 : decode cX12_keepText 86 = .ok (.invokestatic 259, 3) := by decide +kernel
theorem dX12_keepText_89 : decode cX12_keepText 89 = .ok (.aload_n 0, 1) := by decide +kernel
theorem dX12_keepText_90 : decode cX12_keepText 90 = .ok (.getfield 39, 3) := by decide +kernel
theorem dX12_keepText_93 : decode cX12_keepText 93 = .ok (.iconst 5, 1) := by decide +kernel
theorem dX12_keepText_94 : decode cX12_keepText 94 = .ok (.invokestatic 259, 3) := by decide +kernel
theorem dX12_keepText_97 : decode cX12_keepText 97 = .ok (.aload_n 0, 1) := by decide +kernel
theorem dX12_keepText_98 : decode cX12_keepText 98 = .ok (.getfield 42, 3) := by decide +kernel
theorem dX12_keepText_101 : decode cX12_keepText 101 = .ok (.iconst 5, 1) := by decide +kernel
theorem dX12_keepText_102 : decode cX12_keepText 102 = .ok (.invokestatic 259, 3) := by decide +kernel
theorem dX12_keepText_105 : decode cX12_keepText 105 = .ok (.aload_n 0, 1) := by decide +kernel
theorem dX12_keepText_106 : decode cX12_keepText 106 = .ok (.getfield 45, 3) := by decide +kernel
theorem dX12_keepText_109 : decode cX12_keepText 109 = .ok (.iconst 4, 1) := by decide +kernel
theorem dX12_keepText_110 : decode cX12_keepText 110 = .ok (.invokestatic 259, 3) := by decide +kernel
theorem dX12_keepText_113 : decode cX12_keepText 113 = .ok (.aload_n 0, 1) := by decide +kernel
theorem dX12_keepText_114 : decode cX12_keepText 114 = .ok (.getfield 48, 3) := by decide +kernel
theorem dX12_keepText_117 : decode cX12_keepText 117 = .ok (.bipush 28, 2) := by decide +kernel
theorem dX12_keepText_119 : decode cX12_keepText 119 = .ok (.invokestatic 259, 3) := by decide +kernel
theorem dX12_keepText_122 : decode cX12_keepText 122 = .ok (.aload_n 0, 1) := by decide +kernel
theorem dX12_keepText_123 : decode cX12_keepText 123 = .ok (.getfield 51, 3) := by decide +kernel
theorem dX12_keepText_126 : decode cX12_keepText 126 = .ok (.bipush 28, 2) := by decide +kernel
theorem dX12_keepText_128 : decode cX12_keepText 128 = .ok (.invokestatic 259, 3) := by decide +kernel
theorem dX12_keepText_131 : decode cX12_keepText 131 = .ok (.aload_n 0, 1) := by decide +kernel
theorem dX12_keepText_132 : decode cX12_keepText 132 = .ok (.getfield 54, 3) := by decide +kernel
theorem dX12_keepText_135 : decode cX12_keepText 135 = .ok (.bipush 28, 2) := by decide +kernel
theorem dX12_keepText_137 : decode cX12_keepText 137 = .ok (.invokestatic 259, 3) := by decide +kernel
theorem dX12_keepText_140 : decode cX12_keepText 140 = .ok (.iconst 0, 1) := by decide +kernel
theorem dX12_keepText_141 : decode cX12_keepText 141 = .ok (.istore_n 1, 1) := by decide +kernel
theorem dX12_keepText_142 : decode cX12_keepText 142 = .ok (.iload_n 1, 1) := by decide +kernel
theorem dX12_keepText_143 : decode cX12_keepText 143 = .ok (.iconst 3, 1) := by decide +kernel
theorem dX12_keepText_144 : decode cX12_keepText 144 = .ok (.if_icmp .ge 23, 3) := by decide +kernel
theorem dX12_keepText_147 : decode cX12_keepText 147 = .ok (.aload_n 0, 1) := by decide +kernel
theorem dX12_keepText_148 : decode cX12_keepText 148 = .ok (.getfield 57, 3) := by decide +kernel
theorem dX12_keepText_151 : decode cX12_keepText 151 = .ok (.iload_n 1, 1) := by decide +kernel
theorem dX12_keepText_152 : decode cX12_keepText 152 = .ok (.aload_n 0, 1) := by decide +kernel
theorem dX12_keepText_153 : decode cX12_keepText 153 = .ok (.getfield 57, 3) := by decide +kernel
theorem dX12_keepText_156 : decode cX12_keepText 156 = .ok (.iconst 3, 1) := by decide +kernel
theorem dX12_keepText_157 : decode cX12_keepText 157 = .ok (.iload_n 1, 1) := by decide +kernel
theorem dX12_keepText_158 : decode cX12_keepText 158 = .ok (.iadd, 1) := by decide +kernel
theorem dX12_keepText_159 : decode cX12_keepText 159 = .ok (.baload, 1) := by decide +kernel
theorem dX12_keepText_160 : decode cX12_keepText 160 = .ok (.bastore, 1) := by decide +kernel
theorem dX12_keepText_161 : decode cX12_keepText 161 = .ok (.iinc 1 1, 3) := by decide +kernel
theorem dX12_keepText_164 : decode cX12_keepText 164 = .ok (.goto (-22), 3) := by decide +kernel
theorem dX12_keepText_167 : decode cX12_keepText 167 = .ok (.aload_n 0, 1) := by decide +kernel
theorem dX12_keepText_168 : decode cX12_keepText 168 = .ok (.getfield 60, 3) := by decide +kernel
theorem dX12_keepText_171 : decode cX12_keepText 171 = .ok (.iconst 3, 1) := by decide +kernel
theorem dX12_keepText_172 : decode cX12_keepText 172 = .ok (.invokestatic 259, 3) := by decide +kernel
theorem dX12_keepText_175 : decode cX12_keepText 175 = .ok (.aload_n 0, 1) := by decide +kernel
theorem dX12_keepText_176 : decode cX12_keepText 176 = .ok (.getfield 63, 3) := by decide +kernel
theorem dX12_keepText_179 : decode cX12_keepText 179 = .ok (.iconst 3, 1) := by decide +kernel
theorem dX12_keepText_180 : decode cX12_keepText 180 = .ok (.invokestatic 259, 3) := by decide +kernel
theorem dX12_keepText_183 : decode cX12_keepText 183 = .ok (.aload_n 0, 1) := by decide +kernel
theorem dX12_keepText_184 : decode cX12_keepText 184 = .ok (.getfield 66, 3) := by decide +kernel
theorem dX12_keepText_187 : decode cX12_keepText 187 = .ok (.bipush 64, 2) := by decide +kernel
theorem dX12_keepText_189 : decode cX12_keepText 189 = .ok (.invokestatic 259, 3) := by decide +kernel
theorem dX12_keepText_192 : decode cX12_keepText 192 = .ok (.aload_n 0, 1) := by decide +kernel
theorem dX12_keepText_193 : decode cX12_keepText 193 = .ok (.getfield 69, 3) := by decide +kernel
theorem dX12_keepText_196 : decode cX12_keepText 196 = .ok (.bipush 64, 2) := by decide +kernel
theorem dX12_keepText_198 : decode cX12_keepText 198 = .ok (.invokestatic 259, 3) := by decide +kernel
theorem dX12_keepText_201 : decode cX12_keepText 201 = .ok (.aload_n 0, 1) := by decide +kernel
theorem dX12_keepText_202 : decode cX12_keepText 202 = .ok (.getfield 72, 3) := by decide +kernel
theorem dX12_keepText_205 : decode cX12_keepText 205 = .ok (.bipush 64, 2) := by decide +kernel
theorem dX12_keepText_207 : decode cX12_keepText 207 = .ok (.invokestatic 259, 3) := by decide +kernel
theorem dX12_keepText_210 : decode cX12_keepText 210 = .ok (.aload_n 0, 1) := by decide +kernel
theorem dX12_keepText_211 : decode cX12_keepText 211 = .ok (.invokevirtual 263, 3) := by decide +kernel
theorem dX12_keepText_214 : decode cX12_keepText 214 = .ok (.return_, 1) := by decide +kernel
theorem dX12_isCell_0 : decode cX12_isCell 0 = .ok (.iload_n 1, 1) := by decide +kernel
theorem dX12_isCell_1 : decode cX12_isCell 1 = .ok (.ifCond .lt 15, 3) := by decide +kernel
theorem dX12_isCell_4 : decode cX12_isCell 4 = .ok (.iload_n 1, 1) := by decide +kernel
theorem dX12_isCell_5 : decode cX12_isCell 5 = .ok (.aload_n 0, 1) := by decide +kernel
theorem dX12_isCell_6 : decode cX12_isCell 6 = .ok (.invokevirtual 366, 3) := by decide +kernel
theorem dX12_isCell_9 : decode cX12_isCell 9 = .ok (.if_icmp .ge 7, 3) := by decide +kernel
theorem dX12_isCell_12 : decode cX12_isCell 12 = .ok (.iconst 1, 1) := by decide +kernel
theorem dX12_isCell_13 : decode cX12_isCell 13 = .ok (.goto 4, 3) := by decide +kernel
theorem dX12_isCell_16 : decode cX12_isCell 16 = .ok (.iconst 0, 1) := by decide +kernel
theorem dX12_isCell_17 : decode cX12_isCell 17 = .ok (.ireturn, 1) := by decide +kernel
theorem dX12_isCounted_0 : decode cX12_isCounted 0 = .ok (.aload_n 0, 1) := by decide +kernel
theorem dX12_isCounted_1 : decode cX12_isCounted 1 = .ok (.getfield 234, 3) := by decide +kernel
theorem dX12_isCounted_4 : decode cX12_isCounted 4 = .ok (.bipush 64, 2) := by decide +kernel
theorem dX12_isCounted_6 : decode cX12_isCounted 6 = .ok (.if_icmp .ne 9, 3) := by decide +kernel
theorem dX12_isCounted_9 : decode cX12_isCounted 9 = .ok (.aload_n 0, 1) := by decide +kernel
theorem dX12_isCounted_10 : decode cX12_isCounted 10 = .ok (.iconst 2, 1) := by decide +kernel
theorem dX12_isCounted_11 : decode cX12_isCounted 11 = .ok (.invokevirtual 196, 3) := by decide +kernel
theorem dX12_isCounted_14 : decode cX12_isCounted 14 = .ok (.ireturn, 1) := by decide +kernel
theorem dX12_isCounted_15 : decode cX12_isCounted 15 = .ok (.aload_n 0, 1) := by decide +kernel
theorem dX12_isCounted_16 : decode cX12_isCounted 16 = .ok (.dup, 1) := by decide +kernel
theorem dX12_isCounted_17 : decode cX12_isCounted 17 = .ok (.getfield 234, 3) := by decide +kernel
theorem dX12_isCounted_20 : decode cX12_isCounted 20 = .ok (.iconst 1, 1) := by decide +kernel
theorem dX12_isCounted_21 : decode cX12_isCounted 21 = .ok (.iadd, 1) := by decide +kernel
theorem dX12_isCounted_22 : decode cX12_isCounted 22 = .ok (.putfield 234, 3) := by decide +kernel
theorem dX12_isCounted_25 : decode cX12_isCounted 25 = .ok (.iconst 1, 1) := by decide +kernel
theorem dX12_isCounted_26 : decode cX12_isCounted 26 = .ok (.ireturn, 1) := by decide +kernel
theorem dX12_isKey_0 : decode cX12_isKey 0 = .ok (.aload_n 0, 1) := by decide +kernel
theorem dX12_isKey_1 : decode cX12_isKey 1 = .ok (.getfield 172, 3) := by decide +kernel
theorem dX12_isKey_4 : decode cX12_isKey 4 = .ok (.iconst 1, 1) := by decide +kernel
theorem dX12_isKey_5 : decode cX12_isKey 5 = .ok (.if_icmp .ne 15, 3) := by decide +kernel
theorem dX12_isKey_8 : decode cX12_isKey 8 = .ok (.aload_n 0, 1) := by decide +kernel
theorem dX12_isKey_9 : decode cX12_isKey 9 = .ok (.getfield 183, 3) := by decide +kernel
theorem dX12_isKey_12 : decode cX12_isKey 12 = .ok (.iload_n 1, 1) := by decide +kernel
theorem dX12_isKey_13 : decode cX12_isKey 13 = .ok (.if_icmp .ne 7, 3) := by decide +kernel
theorem dX12_isKey_16 : decode cX12_isKey 16 = .ok (.iconst 1, 1) := by decide +kernel
theorem dX12_isKey_17 : decode cX12_isKey 17 = .ok (.goto 4, 3) := by decide +kernel
theorem dX12_isKey_20 : decode cX12_isKey 20 = .ok (.iconst 0, 1) := by decide +kernel
theorem dX12_isKey_21 : decode cX12_isKey 21 = .ok (.ireturn, 1) := by decide +kernel
theorem dX12_isRest_0 : decode cX12_isRest 0 = .ok (.aload_n 0, 1) := by decide +kernel
theorem dX12_isRest_1 : decode cX12_isRest 1 = .ok (.getfield 121, 3) := by decide +kernel
theorem dX12_isRest_4 : decode cX12_isRest 4 = .ok (.iload_n 1, 1) := by decide +kernel
theorem dX12_isRest_5 : decode cX12_isRest 5 = .ok (.iaload, 1) := by decide +kernel
theorem dX12_isRest_6 : decode cX12_isRest 6 = .ok (.ifCond .ge 5, 3) := by decide +kernel
theorem dX12_isRest_9 : decode cX12_isRest 9 = .ok (.iconst 0, 1) := by decide +kernel
theorem dX12_isRest_10 : decode cX12_isRest 10 = .ok (.ireturn, 1) := by decide +kernel
theorem dX12_isRest_11 : decode cX12_isRest 11 = .ok (.iconst 0, 1) := by decide +kernel
theorem dX12_isRest_12 : decode cX12_isRest 12 = .ok (.istore_n 2, 1) := by decide +kernel
theorem dX12_isRest_13 : decode cX12_isRest 13 = .ok (.iload_n 2, 1) := by decide +kernel
theorem dX12_isRest_14 : decode cX12_isRest 14 = .ok (.iconst 5, 1) := by decide +kernel
theorem dX12_isRest_15 : decode cX12_isRest 15 = .ok (.if_icmp .ge 53, 3) := by decide +kernel
theorem dX12_isRest_18 : decode cX12_isRest 18 = .ok (.aload_n 0, 1) := by decide +kernel
theorem dX12_isRest_19 : decode cX12_isRest 19 = .ok (.getfield 121, 3) := by decide +kernel
theorem dX12_isRest_22 : decode cX12_isRest 22 = .ok (.iconst 5, 1) := by decide +kernel
theorem dX12_isRest_23 : decode cX12_isRest 23 = .ok (.iload_n 2, 1) := by decide +kernel
theorem dX12_isRest_24 : decode cX12_isRest 24 = .ok (.imul, 1) := by decide +kernel
theorem dX12_isRest_25 : decode cX12_isRest 25 = .ok (.iload_n 1, 1) := by decide +kernel
theorem dX12_isRest_26 : decode cX12_isRest 26 = .ok (.iconst 5, 1) := by decide +kernel
theorem dX12_isRest_27 : decode cX12_isRest 27 = .ok (.irem, 1) := by decide +kernel
theorem dX12_isRest_28 : decode cX12_isRest 28 = .ok (.iadd, 1) := by decide +kernel
theorem dX12_isRest_29 : decode cX12_isRest 29 = .ok (.iaload, 1) := by decide +kernel
theorem dX12_isRest_30 : decode cX12_isRest 30 = .ok (.aload_n 0, 1) := by decide +kernel
theorem dX12_isRest_31 : decode cX12_isRest 31 = .ok (.getfield 121, 3) := by decide +kernel
theorem dX12_isRest_34 : decode cX12_isRest 34 = .ok (.iload_n 1, 1) := by decide +kernel
theorem dX12_isRest_35 : decode cX12_isRest 35 = .ok (.iaload, 1) := by decide +kernel
theorem dX12_isRest_36 : decode cX12_isRest 36 = .ok (.if_icmp .gt 24, 3) := by decide +kernel
theorem dX12_isRest_39 : decode cX12_isRest 39 = .ok (.aload_n 0, 1) := by decide +kernel
theorem dX12_isRest_40 : decode cX12_isRest 40 = .ok (.getfield 124, 3) := by decide +kernel
theorem dX12_isRest_43 : decode cX12_isRest 43 = .ok (.iload_n 1, 1) := by decide +kernel
theorem dX12_isRest_44 : decode cX12_isRest 44 = .ok (.iconst 5, 1) := by decide +kernel
theorem dX12_isRest_45 : decode cX12_isRest 45 = .ok (.idiv, 1) := by decide +kernel
theorem dX12_isRest_46 : decode cX12_isRest 46 = .ok (.iconst 5, 1) := by decide +kernel
theorem dX12_isRest_47 : decode cX12_isRest 47 = .ok (.imul, 1) := by decide +kernel
theorem dX12_isRest_48 : decode cX12_isRest 48 = .ok (.iload_n 2, 1) := by decide +kernel
theorem dX12_isRest_49 : decode cX12_isRest 49 = .ok (.iadd, 1) := by decide +kernel
theorem dX12_isRest_50 : decode cX12_isRest 50 = .ok (.iaload, 1) := by decide +kernel
theorem dX12_isRest_51 : decode cX12_isRest 51 = .ok (.aload_n 0, 1) := by decide +kernel
theorem dX12_isRest_52 : decode cX12_isRest 52 = .ok (.getfield 124, 3) := by decide +kernel
theorem dX12_isRest_55 : decode cX12_isRest 55 = .ok (.iload_n 1, 1) := by decide +kernel
theorem dX12_isRest_56 : decode cX12_isRest 56 = .ok (.iaload, 1) := by decide +kernel
theorem dX12_isRest_57 : decode cX12_isRest 57 = .ok (.if_icmp .le 5, 3) := by decide +kernel
theorem dX12_isRest_60 : decode cX12_isRest 60 = .ok (.iconst 0, 1) := by decide +kernel
theorem dX12_isRest_61 : decode cX12_isRest 61 = .ok (.ireturn, 1) := by decide +kernel
theorem dX12_isRest_62 : decode cX12_isRest 62 = .ok (.iinc 2 1, 3) := by decide +kernel
theorem dX12_isRest_65 : decode cX12_isRest 65 = .ok (.goto (-52), 3) := by decide +kernel
theorem dX12_isRest_68 : decode cX12_isRest 68 = .ok (.iconst 1, 1) := by decide +kernel
theorem dX12_isRest_69 : decode cX12_isRest 69 = .ok (.ireturn, 1) := by decide +kernel
theorem dX12_isSign_0 : decode cX12_isSign 0 = .ok (.aload_n 0, 1) := by decide +kernel
theorem dX12_isSign_1 : decode cX12_isSign 1 = .ok (.getfield 172, 3) := by decide +kernel
theorem dX12_isSign_4 : decode cX12_isSign 4 = .ok (.iconst 4, 1) := by decide +kernel
theorem dX12_isSign_5 : decode cX12_isSign 5 = .ok (.if_icmp .ne 15, 3) := by decide +kernel
theorem dX12_isSign_8 : decode cX12_isSign 8 = .ok (.aload_n 0, 1) := by decide +kernel
theorem dX12_isSign_9 : decode cX12_isSign 9 = .ok (.getfield 183, 3) := by decide +kernel
theorem dX12_isSign_12 : decode cX12_isSign 12 = .ok (.iload_n 1, 1) := by decide +kernel
theorem dX12_isSign_13 : decode cX12_isSign 13 = .ok (.if_icmp .ne 7, 3) := by decide +kernel
theorem dX12_isSign_16 : decode cX12_isSign 16 = .ok (.iconst 1, 1) := by decide +kernel
theorem dX12_isSign_17 : decode cX12_isSign 17 = .ok (.goto 4, 3) := by decide +kernel
theorem dX12_isSign_20 : decode cX12_isSign 20 = .ok (.iconst 0, 1) := by decide +kernel
theorem dX12_isSign_21 : decode cX12_isSign 21 = .ok (.ireturn, 1) := by decide +kernel
theorem dX12_keep_0 : decode cX12_keep 0 = .ok (.aload_n 0, 1) := by decide +kernel
theorem dX12_keep_1 : decode cX12_keep 1 = .ok (.iconst 0, 1) := by decide +kernel
theorem dX12_keep_2 : decode cX12_keep 2 = .ok (.putfield 154, 3) := by decide +kernel
theorem dX12_keep_5 : decode cX12_keep 5 = .ok (.aload_n 0, 1) := by decide +kernel
theorem dX12_keep_6 : decode cX12_keep 6 = .ok (.iconst 1, 1) := by decide +kernel
theorem dX12_keep_7 : decode cX12_keep 7 = .ok (.putfield 382, 3) := by decide +kernel
theorem dX12_keep_10 : decode cX12_keep 10 = .ok (.iconst 0, 1) := by decide +kernel
theorem dX12_keep_11 : decode cX12_keep 11 = .ok (.istore_n 1, 1) := by decide +kernel
theorem dX12_keep_12 : decode cX12_keep 12 = .ok (.iload_n 1, 1) := by decide +kernel
theorem dX12_keep_13 : decode cX12_keep 13 = .ok (.iconst 5, 1) := by decide +kernel
theorem dX12_keep_14 : decode cX12_keep 14 = .ok (.if_icmp .ge 80, 3) := by decide +kernel
theorem dX12_keep_17 : decode cX12_keep 17 = .ok (.aload_n 0, 1) := by decide +kernel
theorem dX12_keep_18 : decode cX12_keep 18 = .ok (.getfield 145, 3) := by decide +kernel
theorem dX12_keep_21 : decode cX12_keep 21 = .ok (.iload_n 1, 1) := by decide +kernel
theorem dX12_keep_22 : decode cX12_keep 22 = .ok (.aload_n 0, 1) := by decide +kernel
theorem dX12_keep_23 : decode cX12_keep 23 = .ok (.getfield 88, 3) := by decide +kernel
theorem dX12_keep_26 : decode cX12_keep 26 = .ok (.iload_n 1, 1) := by decide +kernel
theorem dX12_keep_27 : decode cX12_keep 27 = .ok (.iaload, 1) := by decide +kernel
theorem dX12_keep_28 : decode cX12_keep 28 = .ok (.iastore, 1) := by decide +kernel
theorem dX12_keep_29 : decode cX12_keep 29 = .ok (.aload_n 0, 1) := by decide +kernel
theorem dX12_keep_30 : decode cX12_keep 30 = .ok (.getfield 145, 3) := by decide +kernel
theorem dX12_keep_33 : decode cX12_keep 33 = .ok (.iconst 5, 1) := by decide +kernel
theorem dX12_keep_34 : decode cX12_keep 34 = .ok (.iload_n 1, 1) := by decide +kernel
theorem dX12_keep_35 : decode cX12_keep 35 = .ok (.iadd, 1) := by decide +kernel
theorem dX12_keep_36 : decode cX12_keep 36 = .ok (.aload_n 0, 1) := by decide +kernel
theorem dX12_keep_37 : decode cX12_keep 37 = .ok (.getfield 91, 3) := by decide +kernel
theorem dX12_keep_40 : decode cX12_keep 40 = .ok (.iload_n 1, 1) := by decide +kernel
theorem dX12_keep_41 : decode cX12_keep 41 = .ok (.iaload, 1) := by decide +kernel
theorem dX12_keep_42 : decode cX12_keep 42 = .ok (.iastore, 1) := by decide +kernel
theorem dX12_keep_43 : decode cX12_keep 43 = .ok (.aload_n 0, 1) := by decide +kernel
theorem dX12_keep_44 : decode cX12_keep 44 = .ok (.getfield 145, 3) := by decide +kernel
theorem dX12_keep_47 : decode cX12_keep 47 = .ok (.bipush 10, 2) := by decide +kernel
theorem dX12_keep_49 : decode cX12_keep 49 = .ok (.iload_n 1, 1) := by decide +kernel
theorem dX12_keep_50 : decode cX12_keep 50 = .ok (.iadd, 1) := by decide +kernel
theorem dX12_keep_51 : decode cX12_keep 51 = .ok (.aload_n 0, 1) := by decide +kernel
theorem dX12_keep_52 : decode cX12_keep 52 = .ok (.getfield 94, 3) := by decide +kernel
theorem dX12_keep_55 : decode cX12_keep 55 = .ok (.iload_n 1, 1) := by decide +kernel
theorem dX12_keep_56 : decode cX12_keep 56 = .ok (.iaload, 1) := by decide +kernel
theorem dX12_keep_57 : decode cX12_keep 57 = .ok (.iastore, 1) := by decide +kernel
theorem dX12_keep_58 : decode cX12_keep 58 = .ok (.aload_n 0, 1) := by decide +kernel
theorem dX12_keep_59 : decode cX12_keep 59 = .ok (.getfield 145, 3) := by decide +kernel
theorem dX12_keep_62 : decode cX12_keep 62 = .ok (.bipush 15, 2) := by decide +kernel
theorem dX12_keep_64 : decode cX12_keep 64 = .ok (.iload_n 1, 1) := by decide +kernel
theorem dX12_keep_65 : decode cX12_keep 65 = .ok (.iadd, 1) := by decide +kernel
theorem dX12_keep_66 : decode cX12_keep 66 = .ok (.aload_n 0, 1) := by decide +kernel
theorem dX12_keep_67 : decode cX12_keep 67 = .ok (.getfield 97, 3) := by decide +kernel
theorem dX12_keep_70 : decode cX12_keep 70 = .ok (.iload_n 1, 1) := by decide +kernel
theorem dX12_keep_71 : decode cX12_keep 71 = .ok (.iaload, 1) := by decide +kernel
theorem dX12_keep_72 : decode cX12_keep 72 = .ok (.iastore, 1) := by decide +kernel
theorem dX12_keep_73 : decode cX12_keep 73 = .ok (.aload_n 0, 1) := by decide +kernel
theorem dX12_keep_74 : decode cX12_keep 74 = .ok (.getfield 145, 3) := by decide +kernel
theorem dX12_keep_77 : decode cX12_keep 77 = .ok (.bipush 20, 2) := by decide +kernel
theorem dX12_keep_79 : decode cX12_keep 79 = .ok (.iload_n 1, 1) := by decide +kernel
theorem dX12_keep_80 : decode cX12_keep 80 = .ok (.iadd, 1) := by decide +kernel
theorem dX12_keep_81 : decode cX12_keep 81 = .ok (.aload_n 0, 1) := by decide +kernel
theorem dX12_keep_82 : decode cX12_keep 82 = .ok (.getfield 100, 3) := by decide +kernel
theorem dX12_keep_85 : decode cX12_keep 85 = .ok (.iload_n 1, 1) := by decide +kernel
theorem dX12_keep_86 : decode cX12_keep 86 = .ok (.iaload, 1) := by decide +kernel
theorem dX12_keep_87 : decode cX12_keep 87 = .ok (.iastore, 1) := by decide +kernel
theorem dX12_keep_88 : decode cX12_keep 88 = .ok (.iinc 1 1, 3) := by decide +kernel
theorem dX12_keep_91 : decode cX12_keep 91 = .ok (.goto (-79), 3) := by decide +kernel
theorem dX12_keep_94 : decode cX12_keep 94 = .ok (.iconst 0, 1) := by decide +kernel
theorem dX12_keep_95 : decode cX12_keep 95 = .ok (.istore_n 1, 1) := by decide +kernel
theorem dX12_keep_96 : decode cX12_keep 96 = .ok (.iload_n 1, 1) := by decide +kernel
theorem dX12_keep_97 : decode cX12_keep 97 = .ok (.bipush 28, 2) := by decide +kernel
theorem dX12_keep_99 : decode cX12_keep 99 = .ok (.if_icmp .ge 24, 3) := by decide +kernel
theorem dX12_keep_102 : decode cX12_keep 102 = .ok (.aload_n 0, 1) := by decide +kernel
theorem dX12_keep_103 : decode cX12_keep 103 = .ok (.getfield 145, 3) := by decide +kernel
theorem dX12_keep_106 : decode cX12_keep 106 = .ok (.bipush 25, 2) := by decide +kernel
theorem dX12_keep_108 : decode cX12_keep 108 = .ok (.iload_n 1, 1) := by decide +kernel
theorem dX12_keep_109 : decode cX12_keep 109 = .ok (.iadd, 1) := by decide +kernel
theorem dX12_keep_110 : decode cX12_keep 110 = .ok (.aload_n 0, 1) := by decide +kernel
theorem dX12_keep_111 : decode cX12_keep 111 = .ok (.getfield 103, 3) := by decide +kernel
theorem dX12_keep_114 : decode cX12_keep 114 = .ok (.iload_n 1, 1) := by decide +kernel
theorem dX12_keep_115 : decode cX12_keep 115 = .ok (.iaload, 1) := by decide +kernel
theorem dX12_keep_116 : decode cX12_keep 116 = .ok (.iastore, 1) := by decide +kernel
theorem dX12_keep_117 : decode cX12_keep 117 = .ok (.iinc 1 1, 3) := by decide +kernel
theorem dX12_keep_120 : decode cX12_keep 120 = .ok (.goto (-24), 3) := by decide +kernel
theorem dX12_keep_123 : decode cX12_keep 123 = .ok (.aload_n 0, 1) := by decide +kernel
theorem dX12_keep_124 : decode cX12_keep 124 = .ok (.aload_n 0, 1) := by decide +kernel
theorem dX12_keep_125 : decode cX12_keep 125 = .ok (.getfield 106, 3) := by decide +kernel
theorem dX12_keep_128 : decode cX12_keep 128 = .ok (.iconst 0, 1) := by decide +kernel
theorem dX12_keep_129 : decode cX12_keep 129 = .ok (.iaload, 1) := by decide +kernel
theorem dX12_keep_130 : decode cX12_keep 130 = .ok (.putfield 533, 3) := by decide +kernel
theorem dX12_keep_133 : decode cX12_keep 133 = .ok (.aload_n 0, 1) := by decide +kernel
theorem dX12_keep_134 : decode cX12_keep 134 = .ok (.aload_n 0, 1) := by decide +kernel
theorem dX12_keep_135 : decode cX12_keep 135 = .ok (.getfield 369, 3) := by decide +kernel
theorem dX12_keep_138 : decode cX12_keep 138 = .ok (.putfield 536, 3) := by decide +kernel
theorem dX12_keep_141 : decode cX12_keep 141 = .ok (.aload_n 0, 1) := by decide +kernel
theorem dX12_keep_142 : decode cX12_keep 142 = .ok (.aload_n 0, 1) := by decide +kernel
theorem dX12_keep_143 : decode cX12_keep 143 = .ok (.getfield 109, 3) := by decide +kernel
theorem dX12_keep_146 : decode cX12_keep 146 = .ok (.iconst 0, 1) := by decide +kernel
theorem dX12_keep_147 : decode cX12_keep 147 = .ok (.iaload, 1) := by decide +kernel
theorem dX12_keep_148 : decode cX12_keep 148 = .ok (.putfield 539, 3) := by decide +kernel
theorem dX12_keep_151 : decode cX12_keep 151 = .ok (.aload_n 0, 1) := by decide +kernel
theorem dX12_keep_152 : decode cX12_keep 152 = .ok (.aload_n 0, 1) := by decide +kernel
theorem dX12_keep_153 : decode cX12_keep 153 = .ok (.getfield 112, 3) := by decide +kernel
theorem dX12_keep_156 : decode cX12_keep 156 = .ok (.iconst 0, 1) := by decide +kernel
theorem dX12_keep_157 : decode cX12_keep 157 = .ok (.iaload, 1) := by decide +kernel
theorem dX12_keep_158 : decode cX12_keep 158 = .ok (.putfield 542, 3) := by decide +kernel
theorem dX12_keep_161 : decode cX12_keep 161 = .ok (.aload_n 0, 1) := by decide +kernel
theorem dX12_keep_162 : decode cX12_keep 162 = .ok (.aload_n 0, 1) := by decide +kernel
theorem dX12_keep_163 : decode cX12_keep 163 = .ok (.getfield 372, 3) := by decide +kernel
theorem dX12_keep_166 : decode cX12_keep 166 = .ok (.putfield 545, 3) := by decide +kernel
theorem dX12_keep_169 : decode cX12_keep 169 = .ok (.aload_n 0, 1) := by decide +kernel
theorem dX12_keep_170 : decode cX12_keep 170 = .ok (.getfield 106, 3) := by decide +kernel
theorem dX12_keep_173 : decode cX12_keep 173 = .ok (.iconst 0, 1) := by decide +kernel
theorem dX12_keep_174 : decode cX12_keep 174 = .ok (.iaload, 1) := by decide +kernel
theorem dX12_keep_175 : decode cX12_keep 175 = .ok (.ireturn, 1) := by decide +kernel
theorem dX12_known_0 : decode cX12_known 0 = .ok (.aload_n 0, 1) := by decide +kernel
theorem dX12_known_1 : decode cX12_known 1 = .ok (.iconst 0, 1) := by decide +kernel
theorem dX12_known_2 : decode cX12_known 2 = .ok (.putfield 154, 3) := by decide +kernel
theorem dX12_known_5 : decode cX12_known 5 = .ok (.iload_n 1, 1) := by decide +kernel
theorem dX12_known_6 : decode cX12_known 6 = .ok (.iconst (-1), 1) := by decide +kernel
theorem dX12_known_7 : decode cX12_known 7 = .ok (.aload_n 0, 1) := by decide +kernel
theorem dX12_known_8 : decode cX12_known 8 = .ok (.getfield 376, 3) := by decide +kernel
theorem dX12_known_11 : decode cX12_known 11 = .ok (.invokestatic 199, 3) := by decide +kernel
theorem dX12_known_14 : decode cX12_known 14 = .ok (.ifCond .ne 5, 3) := by decide +kernel
theorem dX12_known_17 : decode cX12_known 17 = .ok (.iconst 0, 1) := by decide +kernel
theorem dX12_known_18 : decode cX12_known 18 = .ok (.ireturn, 1) := by decide +kernel
theorem dX12_known_19 : decode cX12_known 19 = .ok (.aload_n 0, 1) := by decide +kernel
theorem dX12_known_20 : decode cX12_known 20 = .ok (.iload_n 1, 1) := by decide +kernel
theorem dX12_known_21 : decode cX12_known 21 = .ok (.putfield 133, 3) := by decide +kernel
theorem dX12_known_24 : decode cX12_known 24 = .ok (.iconst 1, 1) := by decide +kernel
theorem dX12_known_25 : decode cX12_known 25 = .ok (.ireturn, 1) := by decide +kernel
theorem dX12_law_0 : decode cX12_law 0 = .ok (.aload_n 0, 1) := by decide +kernel
theorem dX12_law_1 : decode cX12_law 1 = .ok (.iconst 0, 1) := by decide +kernel
theorem dX12_law_2 : decode cX12_law 2 = .ok (.putfield 154, 3) := by decide +kernel
theorem dX12_law_5 : decode cX12_law 5 = .ok (.iload_n 1, 1) := by decide +kernel
theorem dX12_law_6 : decode cX12_law 6 = .ok (.iconst 0, 1) := by decide +kernel
theorem dX12_law_7 : decode cX12_law 7 = .ok (.iconst 2, 1) := by decide +kernel
theorem dX12_law_8 : decode cX12_law 8 = .ok (.invokestatic 199, 3) := by decide +kernel
theorem dX12_law_11 : decode cX12_law 11 = .ok (.ifCond .eq 24, 3) := by decide +kernel
theorem dX12_law_14 : decode cX12_law 14 = .ok (.iload_n 1, 1) := by decide +kernel
theorem dX12_law_15 : decode cX12_law 15 = .ok (.iconst 2, 1) := by decide +kernel
theorem dX12_law_16 : decode cX12_law 16 = .ok (.if_icmp .ge 23, 3) := by decide +kernel
theorem dX12_law_19 : decode cX12_law 19 = .ok (.aload_n 0, 1) := by decide +kernel
theorem dX12_law_20 : decode cX12_law 20 = .ok (.iload_n 2, 1) := by decide +kernel
theorem dX12_law_21 : decode cX12_law 21 = .ok (.invokevirtual 413, 3) := by decide +kernel
theorem dX12_law_24 : decode cX12_law 24 = .ok (.ifCond .eq 11, 3) := by decide +kernel
theorem dX12_law_27 : decode cX12_law 27 = .ok (.aload_n 0, 1) := by decide +kernel
theorem dX12_law_28 : decode cX12_law 28 = .ok (.iload_n 3, 1) := by decide +kernel
theorem dX12_law_29 : decode cX12_law 29 = .ok (.invokevirtual 419, 3) := by decide +kernel
theorem dX12_law_32 : decode cX12_law 32 = .ok (.ifCond .ne 7, 3) := by decide +kernel
theorem dX12_law_35 : decode cX12_law 35 = .ok (.ldc2_w 428, 3) := by decide +kernel
theorem dX12_law_38 : decode cX12_law 38 = .ok (.lreturn, 1) := by decide +kernel
theorem dX12_law_39 : decode cX12_law 39 = .ok (.iload_n 1, 1) := by decide +kernel
theorem dX12_law_40 : decode cX12_law 40 = .ok (.ifCond .ne 7, 3) := by decide +kernel
theorem dX12_law_43 : decode cX12_law 43 = .ok (.iconst 0, 1) := by decide +kernel
theorem dX12_law_44 : decode cX12_law 44 = .ok (.goto 13, 3) := by decide +kernel
theorem dX12_law_47 : decode cX12_law 47 = .ok (.iload_n 1, 1) := by decide +kernel
theorem dX12_law_48 : decode cX12_law 48 = .ok (.iconst 1, 1) := by decide +kernel
theorem dX12_law_49 : decode cX12_law 49 = .ok (.if_icmp .ne 7, 3) := by decide +kernel
theorem dX12_law_52 : decode cX12_law 52 = .ok (.iconst 2, 1) := by decide +kernel
theorem dX12_law_53 : decode cX12_law 53 = .ok (.goto 4, 3) := by decide +kernel
theorem dX12_law_56 : decode cX12_law 56 = .ok (.iconst 1, 1) := by decide +kernel
theorem dX12_law_57 : decode cX12_law 57 = .ok (.istore 4, 2) := by decide +kernel
theorem dX12_law_59 : decode cX12_law 59 = .ok (.aload_n 0, 1) := by decide +kernel
theorem dX12_law_60 : decode cX12_law 60 = .ok (.getfield 57, 3) := by decide +kernel
theorem dX12_law_63 : decode cX12_law 63 = .ok (.iload 4, 2) := by decide +kernel
theorem dX12_law_65 : decode cX12_law 65 = .ok (.baload, 1) := by decide +kernel
theorem dX12_law_66 : decode cX12_law 66 = .ok (.ifCond .ne 7, 3) := by decide +kernel
theorem dX12_law_69 : decode cX12_law 69 = .ok (.ldc2_w 428, 3) := by decide +kernel
theorem dX12_law_72 : decode cX12_law 72 = .ok (.lreturn, 1) := by decide +kernel
theorem dX12_law_73 : decode cX12_law 73 = .ok (.iload_n 1, 1) := by decide +kernel
theorem dX12_law_74 : decode cX12_law 74 = .ok (.ifCond .ne 19, 3) := by decide +kernel
theorem dX12_law_77 : decode cX12_law 77 = .ok (.aload_n 0, 1) := by decide +kernel
theorem dX12_law_78 : decode cX12_law 78 = .ok (.iload_n 2, 1) := by decide +kernel
theorem dX12_law_79 : decode cX12_law 79 = .ok (.iload_n 3, 1) := by decide +kernel
theorem dX12_law_80 : decode cX12_law 80 = .ok (.aload_n 0, 1) := by decide +kernel
theorem dX12_law_81 : decode cX12_law 81 = .ok (.getfield 88, 3) := by decide +kernel
theorem dX12_law_84 : decode cX12_law 84 = .ok (.iload_n 2, 1) := by decide +kernel
theorem dX12_law_85 : decode cX12_law 85 = .ok (.iaload, 1) := by decide +kernel
theorem dX12_law_86 : decode cX12_law 86 = .ok (.invokevirtual 409, 3) := by decide +kernel
theorem dX12_law_89 : decode cX12_law 89 = .ok (.pop, 1) := by decide +kernel
theorem dX12_law_90 : decode cX12_law 90 = .ok (.goto 44, 3) := by decide +kernel
theorem dX12_law_93 : decode cX12_law 93 = .ok (.iload_n 1, 1) := by decide +kernel
theorem dX12_law_94 : decode cX12_law 94 = .ok (.iconst 1, 1) := by decide +kernel
theorem dX12_law_95 : decode cX12_law 95 = .ok (.if_icmp .ne 25, 3) := by decide +kernel
theorem dX12_law_98 : decode cX12_law 98 = .ok (.aload_n 0, 1) := by decide +kernel
theorem dX12_law_99 : decode cX12_law 99 = .ok (.iconst 0, 1) := by decide +kernel
theorem dX12_law_100 : decode cX12_law 100 = .ok (.iconst 0, 1) := by decide +kernel
theorem dX12_law_101 : decode cX12_law 101 = .ok (.aload_n 0, 1) := by decide +kernel
theorem dX12_law_102 : decode cX12_law 102 = .ok (.getfield 33, 3) := by decide +kernel
theorem dX12_law_105 : decode cX12_law 105 = .ok (.iload_n 2, 1) := by decide +kernel
theorem dX12_law_106 : decode cX12_law 106 = .ok (.iaload, 1) := by decide +kernel
theorem dX12_law_107 : decode cX12_law 107 = .ok (.iload_n 3, 1) := by decide +kernel
theorem dX12_law_108 : decode cX12_law 108 = .ok (.aload_n 0, 1) := by decide +kernel
theorem dX12_law_109 : decode cX12_law 109 = .ok (.getfield 48, 3) := by decide +kernel
theorem dX12_law_112 : decode cX12_law 112 = .ok (.iload_n 3, 1) := by decide +kernel
theorem dX12_law_113 : decode cX12_law 113 = .ok (.iaload, 1) := by decide +kernel
theorem dX12_law_114 : decode cX12_law 114 = .ok (.invokevirtual 392, 3) := by decide +kernel
theorem dX12_law_117 : decode cX12_law 117 = .ok (.goto 17, 3) := by decide +kernel
theorem dX12_law_120 : decode cX12_law 120 = .ok (.aload_n 0, 1) := by decide +kernel
theorem dX12_law_121 : decode cX12_law 121 = .ok (.iconst 0, 1) := by decide +kernel
theorem dX12_law_122 : decode cX12_law 122 = .ok (.iconst 0, 1) := by decide +kernel
theorem dX12_law_123 : decode cX12_law 123 = .ok (.iconst 0, 1) := by decide +kernel
theorem dX12_law_124 : decode cX12_law 124 = .ok (.iconst (-1), 1) := by decide +kernel
theorem dX12_law_125 : decode cX12_law 125 = .ok (.aload_n 0, 1) := by decide +kernel
theorem dX12_law_126 : decode cX12_law 126 = .ok (.getfield 106, 3) := by decide +kernel
theorem dX12_law_129 : decode cX12_law 129 = .ok (.iconst 0, 1) := by decide +kernel
theorem dX12_law_130 : decode cX12_law 130 = .ok (.iaload, 1) := by decide +kernel
theorem dX12_law_131 : decode cX12_law 131 = .ok (.invokevirtual 392, 3) := by decide +kernel
theorem dX12_law_134 : decode cX12_law 134 = .ok (.aload_n 0, 1) := by decide +kernel
theorem dX12_law_135 : decode cX12_law 135 = .ok (.iload 4, 2) := by decide +kernel
theorem dX12_law_137 : decode cX12_law 137 = .ok (.invokevirtual 389, 3) := by decide +kernel
theorem dX12_law_140 : decode cX12_law 140 = .ok (.lstore 5, 2) := by decide +kernel
theorem dX12_law_142 : decode cX12_law 142 = .ok (.aload_n 0, 1) := by decide +kernel
theorem dX12_law_143 : decode cX12_law 143 = .ok (.getfield 347, 3) := by decide +kernel
theorem dX12_law_146 : decode cX12_law 146 = .ok (.ifCond .eq 9, 3) := by decide +kernel
theorem dX12_law_149 : decode cX12_law 149 = .ok (.ldc2_w 428, 3) := by decide +kernel
theorem dX12_law_152 : decode cX12_law 152 = .ok (.goto 5, 3) := by decide +kernel
theorem dX12_law_155 : decode cX12_law 155 = .ok (.lload 5, 2) := by decide +kernel
theorem dX12_law_157 : decode cX12_law 157 = .ok (.lreturn, 1) := by decide +kernel
theorem dX12_wayAt_0 : decode cX12_wayAt 0 = .ok (.iload_n 0, 1) := by decide +kernel
theorem dX12_wayAt_1 : decode cX12_wayAt 1 = .ok (.ifCond .ne 7, 3) := by decide +kernel
theorem dX12_wayAt_4 : decode cX12_wayAt 4 = .ok (.iconst 4, 1) := by decide +kernel
theorem dX12_wayAt_5 : decode cX12_wayAt 5 = .ok (.goto 6, 3) := by decide +kernel
theorem dX12_wayAt_8 : decode cX12_wayAt 8 = .ok (.iload_n 0, 1) := by decide +kernel
theorem dX12_wayAt_9 : decode cX12_wayAt 9 = .ok (.iconst 1, 1) := by decide +kernel
theorem dX12_wayAt_10 : decode cX12_wayAt 10 = .ok (.isub, 1) := by decide +kernel
theorem dX12_wayAt_11 : decode cX12_wayAt 11 = .ok (.ireturn, 1) := by decide +kernel
theorem dX12_layGame_0 : decode cX12_layGame 0 = .ok (.iconst 0, 1) := by decide +kernel
theorem dX12_layGame_1 : decode cX12_layGame 1 = .ok (.istore_n 3, 1) := by decide +kernel
theorem dX12_layGame_2 : decode cX12_layGame 2 = .ok (.iload_n 3, 1) := by decide +kernel
theorem dX12_layGame_3 : decode cX12_layGame 3 = .ok (.bipush 25, 2) := by decide +kernel
theorem dX12_layGame_5 : decode cX12_layGame 5 = .ok (.if_icmp .ge 197, 3) := by decide +kernel
theorem dX12_layGame_8 : decode cX12_layGame 8 = .ok (.aload_n 0, 1) := by decide +kernel
theorem dX12_layGame_9 : decode cX12_layGame 9 = .ok (.iload_n 1, 1) := by decide +kernel
theorem dX12_layGame_10 : decode cX12_layGame 10 = .ok (.iload_n 3, 1) := by decide +kernel
theorem dX12_layGame_11 : decode cX12_layGame 11 = .ok (.iconst 5, 1) := by decide +kernel
theorem dX12_layGame_12 : decode cX12_layGame 12 = .ok (.idiv, 1) := by decide +kernel
theorem dX12_layGame_13 : decode cX12_layGame 13 = .ok (.invokestatic 485, 3) := by decide +kernel
theorem dX12_layGame_16 : decode cX12_layGame 16 = .ok (.invokevirtual 488, 3) := by decide +kernel
theorem dX12_layGame_19 : decode cX12_layGame 19 = .ok (.istore 4, 2) := by decide +kernel
theorem dX12_layGame_21 : decode cX12_layGame 21 = .ok (.aload_n 0, 1) := by decide +kernel
theorem dX12_layGame_22 : decode cX12_layGame 22 = .ok (.iload_n 2, 1) := by decide +kernel
theorem dX12_layGame_23 : decode cX12_layGame 23 = .ok (.iload_n 3, 1) := by decide +kernel
theorem dX12_layGame_24 : decode cX12_layGame 24 = .ok (.iconst 5, 1) := by decide +kernel
theorem dX12_layGame_25 : decode cX12_layGame 25 = .ok (.irem, 1) := by decide +kernel
theorem dX12_layGame_26 : decode cX12_layGame 26 = .ok (.invokestatic 485, 3) := by decide +kernel
theorem dX12_layGame_29 : decode cX12_layGame 29 = .ok (.invokevirtual 488, 3) := by decide +kernel
theorem dX12_layGame_32 : decode cX12_layGame 32 = .ok (.istore 5, 2) := by decide +kernel
theorem dX12_layGame_34 : decode cX12_layGame 34 = .ok (.aload_n 0, 1) := by decide +kernel
theorem dX12_layGame_35 : decode cX12_layGame 35 = .ok (.getfield 121, 3) := by decide +kernel
theorem dX12_layGame_38 : decode cX12_layGame 38 = .ok (.iload_n 3, 1) := by decide +kernel
theorem dX12_layGame_39 : decode cX12_layGame 39 = .ok (.iconst (-1), 1) := by decide +kernel
theorem dX12_layGame_40 : decode cX12_layGame 40 = .ok (.iastore, 1) := by decide +kernel
theorem dX12_layGame_41 : decode cX12_layGame 41 = .ok (.aload_n 0, 1) := by decide +kernel
theorem dX12_layGame_42 : decode cX12_layGame 42 = .ok (.getfield 124, 3) := by decide +kernel
theorem dX12_layGame_45 : decode cX12_layGame 45 = .ok (.iload_n 3, 1) := by decide +kernel
theorem dX12_layGame_46 : decode cX12_layGame 46 = .ok (.iconst (-1), 1) := by decide +kernel
theorem dX12_layGame_47 : decode cX12_layGame 47 = .ok (.iastore, 1) := by decide +kernel
theorem dX12_layGame_48 : decode cX12_layGame 48 = .ok (.iload 4, 2) := by decide +kernel
theorem dX12_layGame_50 : decode cX12_layGame 50 = .ok (.ifCond .lt 146, 3) := by decide +kernel
theorem dX12_layGame_53 : decode cX12_layGame 53 = .ok (.iload 5, 2) := by decide +kernel
theorem dX12_layGame_55 : decode cX12_layGame 55 = .ok (.ifCond .ge 6, 3) := by decide +kernel
theorem dX12_layGame_58 : decode cX12_layGame 58 = .ok (.goto 138, 3) := by decide +kernel
theorem dX12_layGame_61 : decode cX12_layGame 61 = .ok (.aload_n 0, 1) := by decide +kernel
theorem dX12_layGame_62 : decode cX12_layGame 62 = .ok (.getfield 121, 3) := by decide +kernel
theorem dX12_layGame_65 : decode cX12_layGame 65 = .ok (.iload_n 3, 1) := by decide +kernel
theorem dX12_layGame_66 : decode cX12_layGame 66 = .ok (.iconst 0, 1) := by decide +kernel
theorem dX12_layGame_67 : decode cX12_layGame 67 = .ok (.iastore, 1) := by decide +kernel
theorem dX12_layGame_68 : decode cX12_layGame 68 = .ok (.aload_n 0, 1) := by decide +kernel
theorem dX12_layGame_69 : decode cX12_layGame 69 = .ok (.getfield 124, 3) := by decide +kernel
theorem dX12_layGame_72 : decode cX12_layGame 72 = .ok (.iload_n 3, 1) := by decide +kernel
theorem dX12_layGame_73 : decode cX12_layGame 73 = .ok (.iconst 0, 1) := by decide +kernel
theorem dX12_layGame_74 : decode cX12_layGame 74 = .ok (.iastore, 1) := by decide +kernel
theorem dX12_layGame_75 : decode cX12_layGame 75 = .ok (.iconst 0, 1) := by decide +kernel
theorem dX12_layGame_76 : decode cX12_layGame 76 = .ok (.istore 6, 2) := by decide +kernel
theorem dX12_layGame_78 : decode cX12_layGame 78 = .ok (.iload 6, 2) := by decide +kernel
theorem dX12_layGame_80 : decode cX12_layGame 80 = .ok (.aload_n 0, 1) := by decide +kernel
theorem dX12_layGame_81 : decode cX12_layGame 81 = .ok (.getfield 253, 3) := by decide +kernel
theorem dX12_layGame_84 : decode cX12_layGame 84 = .ok (.if_icmp .ge 112, 3) := by decide +kernel
theorem dX12_layGame_87 : decode cX12_layGame 87 = .ok (.aload_n 0, 1) := by decide +kernel
theorem dX12_layGame_88 : decode cX12_layGame 88 = .ok (.iload 6, 2) := by decide +kernel
theorem dX12_layGame_90 : decode cX12_layGame 90 = .ok (.invokevirtual 476, 3) := by decide +kernel
theorem dX12_layGame_93 : decode cX12_layGame 93 = .ok (.ifCond .ne 6, 3) := by decide +kernel
theorem dX12_layGame_96 : decode cX12_layGame 96 = .ok (.goto 94, 3) := by decide +kernel
theorem dX12_layGame_99 : decode cX12_layGame 99 = .ok (.aload_n 0, 1) := by decide +kernel
theorem dX12_layGame_100 : decode cX12_layGame 100 = .ok (.aload_n 0, 1) := by decide +kernel
theorem dX12_layGame_101 : decode cX12_layGame 101 = .ok (.getfield 48, 3) := by decide +kernel
theorem dX12_layGame_104 : decode cX12_layGame 104 = .ok (.iload 6, 2) := by decide +kernel
theorem dX12_layGame_106 : decode cX12_layGame 106 = .ok (.iaload, 1) := by decide +kernel
theorem dX12_layGame_107 : decode cX12_layGame 107 = .ok (.invokevirtual 400, 3) := by decide +kernel
theorem dX12_layGame_110 : decode cX12_layGame 110 = .ok (.istore 7, 2) := by decide +kernel
theorem dX12_layGame_112 : decode cX12_layGame 112 = .ok (.aload_n 0, 1) := by decide +kernel
theorem dX12_layGame_113 : decode cX12_layGame 113 = .ok (.iload 4, 2) := by decide +kernel
theorem dX12_layGame_115 : decode cX12_layGame 115 = .ok (.iload 7, 2) := by decide +kernel
theorem dX12_layGame_117 : decode cX12_layGame 117 = .ok (.invokevirtual 403, 3) := by decide +kernel
theorem dX12_layGame_120 : decode cX12_layGame 120 = .ok (.istore 8, 2) := by decide +kernel
theorem dX12_layGame_122 : decode cX12_layGame 122 = .ok (.aload_n 0, 1) := by decide +kernel
theorem dX12_layGame_123 : decode cX12_layGame 123 = .ok (.iload 5, 2) := by decide +kernel
theorem dX12_layGame_125 : decode cX12_layGame 125 = .ok (.iload 7, 2) := by decide +kernel
theorem dX12_layGame_127 : decode cX12_layGame 127 = .ok (.invokevirtual 403, 3) := by decide +kernel
theorem dX12_layGame_130 : decode cX12_layGame 130 = .ok (.istore 9, 2) := by decide +kernel
theorem dX12_layGame_132 : decode cX12_layGame 132 = .ok (.iload 8, 2) := by decide +kernel
theorem dX12_layGame_134 : decode cX12_layGame 134 = .ok (.iload 9, 2) := by decide +kernel
theorem dX12_layGame_136 : decode cX12_layGame 136 = .ok (.if_icmp .lt 15, 3) := by decide +kernel
theorem dX12_layGame_139 : decode cX12_layGame 139 = .ok (.iload 8, 2) := by decide +kernel
theorem dX12_layGame_141 : decode cX12_layGame 141 = .ok (.iload 9, 2) := by decide +kernel
theorem dX12_layGame_143 : decode cX12_layGame 143 = .ok (.if_icmp .ne 29, 3) := by decide +kernel
theorem dX12_layGame_146 : decode cX12_layGame 146 = .ok (.iload_n 1, 1) := by decide +kernel
theorem dX12_layGame_147 : decode cX12_layGame 147 = .ok (.iload_n 2, 1) := by decide +kernel
theorem dX12_layGame_148 : decode cX12_layGame 148 = .ok (.if_icmp .ge 24, 3) := by decide +kernel
theorem dX12_layGame_151 : decode cX12_layGame 151 = .ok (.aload_n 0, 1) := by decide +kernel
theorem dX12_layGame_152 : decode cX12_layGame 152 = .ok (.getfield 121, 3) := by decide +kernel
theorem dX12_layGame_155 : decode cX12_layGame 155 = .ok (.iload_n 3, 1) := by decide +kernel
theorem dX12_layGame_156 : decode cX12_layGame 156 = .ok (.dup2, 1) := by decide +kernel
theorem dX12_layGame_157 : decode cX12_layGame 157 = .ok (.iaload, 1) := by decide +kernel
theorem dX12_layGame_158 : decode cX12_layGame 158 = .ok (.aload_n 0, 1) := by decide +kernel
theorem dX12_layGame_159 : decode cX12_layGame 159 = .ok (.iload_n 1, 1) := by decide +kernel
theorem dX12_layGame_160 : decode cX12_layGame 160 = .ok (.iload 6, 2) := by decide +kernel
theorem dX12_layGame_162 : decode cX12_layGame 162 = .ok (.iload 4, 2) := by decide +kernel
theorem dX12_layGame_164 : decode cX12_layGame 164 = .ok (.invokevirtual 479, 3) := by decide +kernel
theorem dX12_layGame_167 : decode cX12_layGame 167 = .ok (.iadd, 1) := by decide +kernel
theorem dX12_layGame_168 : decode cX12_layGame 168 = .ok (.iastore, 1) := by decide +kernel
theorem dX12_layGame_169 : decode cX12_layGame 169 = .ok (.goto 21, 3) := by decide +kernel
theorem dX12_layGame_172 : decode cX12_layGame 172 = .ok (.aload_n 0, 1) := by decide +kernel
theorem dX12_layGame_173 : decode cX12_layGame 173 = .ok (.getfield 124, 3) := by decide +kernel
theorem dX12_layGame_176 : decode cX12_layGame 176 = .ok (.iload_n 3, 1) := by decide +kernel
theorem dX12_layGame_177 : decode cX12_layGame 177 = .ok (.dup2, 1) := by decide +kernel
theorem dX12_layGame_178 : decode cX12_layGame 178 = .ok (.iaload, 1) := by decide +kernel
theorem dX12_layGame_179 : decode cX12_layGame 179 = .ok (.aload_n 0, 1) := by decide +kernel
theorem dX12_layGame_180 : decode cX12_layGame 180 = .ok (.iload_n 2, 1) := by decide +kernel
theorem dX12_layGame_181 : decode cX12_layGame 181 = .ok (.iload 6, 2) := by decide +kernel
theorem dX12_layGame_183 : decode cX12_layGame 183 = .ok (.iload 5, 2) := by decide +kernel
theorem dX12_layGame_185 : decode cX12_layGame 185 = .ok (.invokevirtual 479, 3) := by decide +kernel
theorem dX12_layGame_188 : decode cX12_layGame 188 = .ok (.iadd, 1) := by decide +kernel
theorem dX12_layGame_189 : decode cX12_layGame 189 = .ok (.iastore, 1) := by decide +kernel
theorem dX12_layGame_190 : decode cX12_layGame 190 = .ok (.iinc 6 1, 3) := by decide +kernel
theorem dX12_layGame_193 : decode cX12_layGame 193 = .ok (.goto (-115), 3) := by decide +kernel
theorem dX12_layGame_196 : decode cX12_layGame 196 = .ok (.iinc 3 1, 3) := by decide +kernel
theorem dX12_layGame_199 : decode cX12_layGame 199 = .ok (.goto (-197), 3) := by decide +kernel
theorem dX12_layGame_202 : decode cX12_layGame 202 = .ok (.return_, 1) := by decide +kernel
theorem dX12_layPlan_0 : decode cX12_layPlan 0 = .ok (.aload_n 0, 1) := by decide +kernel
theorem dX12_layPlan_1 : decode cX12_layPlan 1 = .ok (.getfield 127, 3) := by decide +kernel
theorem dX12_layPlan_4 : decode cX12_layPlan 4 = .ok (.aload_n 0, 1) := by decide +kernel
theorem dX12_layPlan_5 : decode cX12_layPlan 5 = .ok (.getfield 253, 3) := by decide +kernel
theorem dX12_layPlan_8 : decode cX12_layPlan 8 = .ok (.iconst 0, 1) := by decide +kernel
theorem dX12_layPlan_9 : decode cX12_layPlan 9 = .ok (.iastore, 1) := by decide +kernel
theorem dX12_layPlan_10 : decode cX12_layPlan 10 = .ok (.aload_n 0, 1) := by decide +kernel
theorem dX12_layPlan_11 : decode cX12_layPlan 11 = .ok (.getfield 253, 3) := by decide +kernel
theorem dX12_layPlan_14 : decode cX12_layPlan 14 = .ok (.iconst 1, 1) := by decide +kernel
theorem dX12_layPlan_15 : decode cX12_layPlan 15 = .ok (.isub, 1) := by decide +kernel
theorem dX12_layPlan_16 : decode cX12_layPlan 16 = .ok (.istore_n 2, 1) := by decide +kernel
theorem dX12_layPlan_17 : decode cX12_layPlan 17 = .ok (.iload_n 2, 1) := by decide +kernel
theorem dX12_layPlan_18 : decode cX12_layPlan 18 = .ok (.ifCond .lt 113, 3) := by decide +kernel
theorem dX12_layPlan_21 : decode cX12_layPlan 21 = .ok (.iload_n 2, 1) := by decide +kernel
theorem dX12_layPlan_22 : decode cX12_layPlan 22 = .ok (.iconst 1, 1) := by decide +kernel
theorem dX12_layPlan_23 : decode cX12_layPlan 23 = .ok (.iadd, 1) := by decide +kernel
theorem dX12_layPlan_24 : decode cX12_layPlan 24 = .ok (.istore_n 3, 1) := by decide +kernel
theorem dX12_layPlan_25 : decode cX12_layPlan 25 = .ok (.aload_n 0, 1) := by decide +kernel
theorem dX12_layPlan_26 : decode cX12_layPlan 26 = .ok (.iload_n 1, 1) := by decide +kernel
theorem dX12_layPlan_27 : decode cX12_layPlan 27 = .ok (.iload_n 2, 1) := by decide +kernel
theorem dX12_layPlan_28 : decode cX12_layPlan 28 = .ok (.invokevirtual 450, 3) := by decide +kernel
theorem dX12_layPlan_31 : decode cX12_layPlan 31 = .ok (.istore 4, 2) := by decide +kernel
theorem dX12_layPlan_33 : decode cX12_layPlan 33 = .ok (.iload_n 3, 1) := by decide +kernel
theorem dX12_layPlan_34 : decode cX12_layPlan 34 = .ok (.aload_n 0, 1) := by decide +kernel
theorem dX12_layPlan_35 : decode cX12_layPlan 35 = .ok (.getfield 253, 3) := by decide +kernel
theorem dX12_layPlan_38 : decode cX12_layPlan 38 = .ok (.if_icmp .ge 27, 3) := by decide +kernel
theorem dX12_layPlan_41 : decode cX12_layPlan 41 = .ok (.aload_n 0, 1) := by decide +kernel
theorem dX12_layPlan_42 : decode cX12_layPlan 42 = .ok (.getfield 48, 3) := by decide +kernel
theorem dX12_layPlan_45 : decode cX12_layPlan 45 = .ok (.iload_n 3, 1) := by decide +kernel
theorem dX12_layPlan_46 : decode cX12_layPlan 46 = .ok (.iaload, 1) := by decide +kernel
theorem dX12_layPlan_47 : decode cX12_layPlan 47 = .ok (.aload_n 0, 1) := by decide +kernel
theorem dX12_layPlan_48 : decode cX12_layPlan 48 = .ok (.getfield 48, 3) := by decide +kernel
theorem dX12_layPlan_51 : decode cX12_layPlan 51 = .ok (.iload_n 2, 1) := by decide +kernel
theorem dX12_layPlan_52 : decode cX12_layPlan 52 = .ok (.iaload, 1) := by decide +kernel
theorem dX12_layPlan_53 : decode cX12_layPlan 53 = .ok (.iload 4, 2) := by decide +kernel
theorem dX12_layPlan_55 : decode cX12_layPlan 55 = .ok (.iadd, 1) := by decide +kernel
theorem dX12_layPlan_56 : decode cX12_layPlan 56 = .ok (.if_icmp .ge 9, 3) := by decide +kernel
theorem dX12_layPlan_59 : decode cX12_layPlan 59 = .ok (.iinc 3 1, 3) := by decide +kernel
theorem dX12_layPlan_62 : decode cX12_layPlan 62 = .ok (.goto (-29), 3) := by decide +kernel
theorem dX12_layPlan_65 : decode cX12_layPlan 65 = .ok (.aload_n 0, 1) := by decide +kernel
theorem dX12_layPlan_66 : decode cX12_layPlan 66 = .ok (.getfield 130, 3) := by decide +kernel
theorem dX12_layPlan_69 : decode cX12_layPlan 69 = .ok (.iload_n 2, 1) := by decide +kernel
theorem dX12_layPlan_70 : decode cX12_layPlan 70 = .ok (.iload_n 3, 1) := by decide +kernel
theorem dX12_layPlan_71 : decode cX12_layPlan 71 = .ok (.iastore, 1) := by decide +kernel
theorem dX12_layPlan_72 : decode cX12_layPlan 72 = .ok (.aload_n 0, 1) := by decide +kernel
theorem dX12_layPlan_73 : decode cX12_layPlan 73 = .ok (.iload_n 1, 1) := by decide +kernel
theorem dX12_layPlan_74 : decode cX12_layPlan 74 = .ok (.iload_n 2, 1) := by decide +kernel
theorem dX12_layPlan_75 : decode cX12_layPlan 75 = .ok (.aload_n 0, 1) := by decide +kernel
theorem dX12_layPlan_76 : decode cX12_layPlan 76 = .ok (.getfield 88, 3) := by decide +kernel
theorem dX12_layPlan_79 : decode cX12_layPlan 79 = .ok (.iload_n 1, 1) := by decide +kernel
theorem dX12_layPlan_80 : decode cX12_layPlan 80 = .ok (.iaload, 1) := by decide +kernel
theorem dX12_layPlan_81 : decode cX12_layPlan 81 = .ok (.invokevirtual 479, 3) := by decide +kernel
theorem dX12_layPlan_84 : decode cX12_layPlan 84 = .ok (.aload_n 0, 1) := by decide +kernel
theorem dX12_layPlan_85 : decode cX12_layPlan 85 = .ok (.getfield 127, 3) := by decide +kernel
theorem dX12_layPlan_88 : decode cX12_layPlan 88 = .ok (.iload_n 3, 1) := by decide +kernel
theorem dX12_layPlan_89 : decode cX12_layPlan 89 = .ok (.iaload, 1) := by decide +kernel
theorem dX12_layPlan_90 : decode cX12_layPlan 90 = .ok (.iadd, 1) := by decide +kernel
theorem dX12_layPlan_91 : decode cX12_layPlan 91 = .ok (.istore 5, 2) := by decide +kernel
theorem dX12_layPlan_93 : decode cX12_layPlan 93 = .ok (.aload_n 0, 1) := by decide +kernel
theorem dX12_layPlan_94 : decode cX12_layPlan 94 = .ok (.getfield 127, 3) := by decide +kernel
theorem dX12_layPlan_97 : decode cX12_layPlan 97 = .ok (.iload_n 2, 1) := by decide +kernel
theorem dX12_layPlan_98 : decode cX12_layPlan 98 = .ok (.iload 5, 2) := by decide +kernel
theorem dX12_layPlan_100 : decode cX12_layPlan 100 = .ok (.aload_n 0, 1) := by decide +kernel
theorem dX12_layPlan_101 : decode cX12_layPlan 101 = .ok (.getfield 127, 3) := by decide +kernel
theorem dX12_layPlan_104 : decode cX12_layPlan 104 = .ok (.iload_n 2, 1) := by decide +kernel
theorem dX12_layPlan_105 : decode cX12_layPlan 105 = .ok (.iconst 1, 1) := by decide +kernel
theorem dX12_layPlan_106 : decode cX12_layPlan 106 = .ok (.iadd, 1) := by decide +kernel
theorem dX12_layPlan_107 : decode cX12_layPlan 107 = .ok (.iaload, 1) := by decide +kernel
theorem dX12_layPlan_108 : decode cX12_layPlan 108 = .ok (.if_icmp .lt 8, 3) := by decide +kernel
theorem dX12_layPlan_111 : decode cX12_layPlan 111 = .ok (.iload 5, 2) := by decide +kernel
theorem dX12_layPlan_113 : decode cX12_layPlan 113 = .ok (.goto 11, 3) := by decide +kernel
theorem dX12_layPlan_116 : decode cX12_layPlan 116 = .ok (.aload_n 0, 1) := by decide +kernel
theorem dX12_layPlan_117 : decode cX12_layPlan 117 = .ok (.getfield 127, 3) := by decide +kernel
theorem dX12_layPlan_120 : decode cX12_layPlan 120 = .ok (.iload_n 2, 1) := by decide +kernel
theorem dX12_layPlan_121 : decode cX12_layPlan 121 = .ok (.iconst 1, 1) := by decide +kernel
theorem dX12_layPlan_122 : decode cX12_layPlan 122 = .ok (.iadd, 1) := by decide +kernel
theorem dX12_layPlan_123 : decode cX12_layPlan 123 = .ok (.iaload, 1) := by decide +kernel
theorem dX12_layPlan_124 : decode cX12_layPlan 124 = .ok (.iastore, 1) := by decide +kernel
theorem dX12_layPlan_125 : decode cX12_layPlan 125 = .ok (.iinc 2 (-1), 3) := by decide +kernel
theorem dX12_layPlan_128 : decode cX12_layPlan 128 = .ok (.goto (-111), 3) := by decide +kernel
theorem dX12_layPlan_131 : decode cX12_layPlan 131 = .ok (.return_, 1) := by decide +kernel
theorem dX12_waitsFor_0 : decode cX12_waitsFor 0 = .ok (.aload_n 0, 1) := by decide +kernel
theorem dX12_waitsFor_1 : decode cX12_waitsFor 1 = .ok (.getfield 75, 3) := by decide +kernel
theorem dX12_waitsFor_4 : decode cX12_waitsFor 4 = .ok (.aload_n 0, 1) := by decide +kernel
theorem dX12_waitsFor_5 : decode cX12_waitsFor 5 = .ok (.getfield 301, 3) := by decide +kernel
theorem dX12_waitsFor_8 : decode cX12_waitsFor 8 = .ok (.iload_n 1, 1) := by decide +kernel
theorem dX12_waitsFor_9 : decode cX12_waitsFor 9 = .ok (.iastore, 1) := by decide +kernel
theorem dX12_waitsFor_10 : decode cX12_waitsFor 10 = .ok (.aload_n 0, 1) := by decide +kernel
theorem dX12_waitsFor_11 : decode cX12_waitsFor 11 = .ok (.dup, 1) := by decide +kernel
theorem dX12_waitsFor_12 : decode cX12_waitsFor 12 = .ok (.getfield 301, 3) := by decide +kernel
theorem dX12_waitsFor_15 : decode cX12_waitsFor 15 = .ok (.iconst 1, 1) := by decide +kernel
theorem dX12_waitsFor_16 : decode cX12_waitsFor 16 = .ok (.iadd, 1) := by decide +kernel
theorem dX12_waitsFor_17 : decode cX12_waitsFor 17 = .ok (.putfield 301, 3) := by decide +kernel
theorem dX12_waitsFor_20 : decode cX12_waitsFor 20 = .ok (.return_, 1) := by decide +kernel
theorem dX12_nameMet_0 : decode cX12_nameMet 0 = .ok (.aload_n 0, 1) := by decide +kernel
theorem dX12_nameMet_1 : decode cX12_nameMet 1 = .ok (.getfield 172, 3) := by decide +kernel
theorem dX12_nameMet_4 : decode cX12_nameMet 4 = .ok (.iconst 1, 1) := by decide +kernel
theorem dX12_nameMet_5 : decode cX12_nameMet 5 = .ok (.if_icmp .ne 22, 3) := by decide +kernel
theorem dX12_nameMet_8 : decode cX12_nameMet 8 = .ok (.aload_n 0, 1) := by decide +kernel
theorem dX12_nameMet_9 : decode cX12_nameMet 9 = .ok (.getfield 183, 3) := by decide +kernel
theorem dX12_nameMet_12 : decode cX12_nameMet 12 = .ok (.bipush 18, 2) := by decide +kernel
theorem dX12_nameMet_14 : decode cX12_nameMet 14 = .ok (.if_icmp .lt 13, 3) := by decide +kernel
theorem dX12_nameMet_17 : decode cX12_nameMet 17 = .ok (.aload_n 0, 1) := by decide +kernel
theorem dX12_nameMet_18 : decode cX12_nameMet 18 = .ok (.getfield 183, 3) := by decide +kernel
theorem dX12_nameMet_21 : decode cX12_nameMet 21 = .ok (.bipush 18, 2) := by decide +kernel
theorem dX12_nameMet_23 : decode cX12_nameMet 23 = .ok (.isub, 1) := by decide +kernel
theorem dX12_nameMet_24 : decode cX12_nameMet 24 = .ok (.goto 4, 3) := by decide +kernel
theorem dX12_nameMet_27 : decode cX12_nameMet 27 = .ok (.iconst (-1), 1) := by decide +kernel
theorem dX12_nameMet_28 : decode cX12_nameMet 28 = .ok (.ireturn, 1) := by decide +kernel
