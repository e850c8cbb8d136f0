theorem dX0_isRest_0 : decode cX0_isRest 0 = .ok (.aload_n 0, 1) := by decide +kernel
theorem dX0_isRest_1 : decode cX0_isRest 1 = .ok (.getfield 9, 3) := by decide +kernel
theorem dX0_isRest_4 : decode cX0_isRest 4 = .ok (.iload_n 1, 1) := by decide +kernel
theorem dX0_isRest_5 : decode cX0_isRest 5 = .ok (.iaload, 1) := by decide +kernel
theorem dX0_isRest_6 : decode cX0_isRest 6 = .ok (.iconst (-1), 1) := by decide +kernel
theorem dX0_isRest_7 : decode cX0_isRest 7 = .ok (.if_icmp .eq 15, 3) := by decide +kernel
theorem dX0_isRest_10 : decode cX0_isRest 10 = .ok (.aload_n 0, 1) := by decide +kernel
theorem dX0_isRest_11 : decode cX0_isRest 11 = .ok (.getfield 9, 3) := by decide +kernel
theorem dX0_isRest_14 : decode cX0_isRest 14 = .ok (.iconst 5, 1) := by decide +kernel
theorem dX0_isRest_15 : decode cX0_isRest 15 = .ok (.iload_n 2, 1) := by decide +kernel
theorem dX0_isRest_16 : decode cX0_isRest 16 = .ok (.iadd, 1) := by decide +kernel
theorem dX0_isRest_17 : decode cX0_isRest 17 = .ok (.iaload, 1) := by decide +kernel
theorem dX0_isRest_18 : decode cX0_isRest 18 = .ok (.iconst (-1), 1) := by decide +kernel
theorem dX0_isRest_19 : decode cX0_isRest 19 = .ok (.if_icmp .ne 5, 3) := by decide +kernel
theorem dX0_isRest_22 : decode cX0_isRest 22 = .ok (.iconst 0, 1) := by decide +kernel
theorem dX0_isRest_23 : decode cX0_isRest 23 = .ok (.ireturn, 1) := by decide +kernel
theorem dX0_isRest_24 : decode cX0_isRest 24 = .ok (.iconst 0, 1) := by decide +kernel
theorem dX0_isRest_25 : decode cX0_isRest 25 = .ok (.istore_n 3, 1) := by decide +kernel
theorem dX0_isRest_26 : decode cX0_isRest 26 = .ok (.iload_n 3, 1) := by decide +kernel
theorem dX0_isRest_27 : decode cX0_isRest 27 = .ok (.iconst 5, 1) := by decide +kernel
theorem dX0_isRest_28 : decode cX0_isRest 28 = .ok (.if_icmp .ge 81, 3) := by decide +kernel
theorem dX0_isRest_31 : decode cX0_isRest 31 = .ok (.aload_n 0, 1) := by decide +kernel
theorem dX0_isRest_32 : decode cX0_isRest 32 = .ok (.getfield 9, 3) := by decide +kernel
theorem dX0_isRest_35 : decode cX0_isRest 35 = .ok (.iload_n 3, 1) := by decide +kernel
theorem dX0_isRest_36 : decode cX0_isRest 36 = .ok (.iaload, 1) := by decide +kernel
theorem dX0_isRest_37 : decode cX0_isRest 37 = .ok (.iconst (-1), 1) := by decide +kernel
theorem dX0_isRest_38 : decode cX0_isRest 38 = .ok (.if_icmp .eq 28, 3) := by decide +kernel
theorem dX0_isRest_41 : decode cX0_isRest 41 = .ok (.aload_n 0, 1) := by decide +kernel
theorem dX0_isRest_42 : decode cX0_isRest 42 = .ok (.getfield 21, 3) := by decide +kernel
theorem dX0_isRest_45 : decode cX0_isRest 45 = .ok (.iload_n 3, 1) := by decide +kernel
theorem dX0_isRest_46 : decode cX0_isRest 46 = .ok (.iconst 5, 1) := by decide +kernel
theorem dX0_isRest_47 : decode cX0_isRest 47 = .ok (.imul, 1) := by decide +kernel
theorem dX0_isRest_48 : decode cX0_isRest 48 = .ok (.iload_n 2, 1) := by decide +kernel
theorem dX0_isRest_49 : decode cX0_isRest 49 = .ok (.iadd, 1) := by decide +kernel
theorem dX0_isRest_50 : decode cX0_isRest 50 = .ok (.iaload, 1) := by decide +kernel
theorem dX0_isRest_51 : decode cX0_isRest 51 = .ok (.aload_n 0, 1) := by decide +kernel
theorem dX0_isRest_52 : decode cX0_isRest 52 = .ok (.getfield 21, 3) := by decide +kernel
theorem dX0_isRest_55 : decode cX0_isRest 55 = .ok (.iload_n 1, 1) := by decide +kernel
theorem dX0_isRest_56 : decode cX0_isRest 56 = .ok (.iconst 5, 1) := by decide +kernel
theorem dX0_isRest_57 : decode cX0_isRest 57 = .ok (.imul, 1) := by decide +kernel
theorem dX0_isRest_58 : decode cX0_isRest 58 = .ok (.iload_n 2, 1) := by decide +kernel
theorem dX0_isRest_59 : decode cX0_isRest 59 = .ok (.iadd, 1) := by decide +kernel
theorem dX0_isRest_60 : decode cX0_isRest 60 = .ok (.iaload, 1) := by decide +kernel
theorem dX0_isRest_61 : decode cX0_isRest 61 = .ok (.if_icmp .le 5, 3) := by decide +kernel
theorem dX0_isRest_64 : decode cX0_isRest 64 = .ok (.iconst 0, 1) := by decide +kernel
theorem dX0_isRest_65 : decode cX0_isRest 65 = .ok (.ireturn, 1) := by decide +kernel
theorem dX0_isRest_66 : decode cX0_isRest 66 = .ok (.aload_n 0, 1) := by decide +kernel
theorem dX0_isRest_67 : decode cX0_isRest 67 = .ok (.getfield 9, 3) := by decide +kernel
theorem dX0_isRest_70 : decode cX0_isRest 70 = .ok (.iconst 5, 1) := by decide +kernel
theorem dX0_isRest_71 : decode cX0_isRest 71 = .ok (.iload_n 3, 1) := by decide +kernel
theorem dX0_isRest_72 : decode cX0_isRest 72 = .ok (.iadd, 1) := by decide +kernel
theorem dX0_isRest_73 : decode cX0_isRest 73 = .ok (.iaload, 1) := by decide +kernel
theorem dX0_isRest_74 : decode cX0_isRest 74 = .ok (.iconst (-1), 1) := by decide +kernel
theorem dX0_isRest_75 : decode cX0_isRest 75 = .ok (.if_icmp .eq 28, 3) := by decide +kernel
theorem dX0_isRest_78 : decode cX0_isRest 78 = .ok (.aload_n 0, 1) := by decide +kernel
theorem dX0_isRest_79 : decode cX0_isRest 79 = .ok (.getfield 24, 3) := by decide +kernel
theorem dX0_isRest_82 : decode cX0_isRest 82 = .ok (.iload_n 1, 1) := by decide +kernel
theorem dX0_isRest_83 : decode cX0_isRest 83 = .ok (.iconst 5, 1) := by decide +kernel
theorem dX0_isRest_84 : decode cX0_isRest 84 = .ok (.imul, 1) := by decide +kernel
theorem dX0_isRest_85 : decode cX0_isRest 85 = .ok (.iload_n 3, 1) := by decide +kernel
theorem dX0_isRest_86 : decode cX0_isRest 86 = .ok (.iadd, 1) := by decide +kernel
theorem dX0_isRest_87 : decode cX0_isRest 87 = .ok (.iaload, 1) := by decide +kernel
theorem dX0_isRest_88 : decode cX0_isRest 88 = .ok (.aload_n 0, 1) := by decide +kernel
theorem dX0_isRest_89 : decode cX0_isRest 89 = .ok (.getfield 24, 3) := by decide +kernel
theorem dX0_isRest_92 : decode cX0_isRest 92 = .ok (.iload_n 1, 1) := by decide +kernel
theorem dX0_isRest_93 : decode cX0_isRest 93 = .ok (.iconst 5, 1) := by decide +kernel
theorem dX0_isRest_94 : decode cX0_isRest 94 = .ok (.imul, 1) := by decide +kernel
theorem dX0_isRest_95 : decode cX0_isRest 95 = .ok (.iload_n 2, 1) := by decide +kernel
theorem dX0_isRest_96 : decode cX0_isRest 96 = .ok (.iadd, 1) := by decide +kernel
theorem dX0_isRest_97 : decode cX0_isRest 97 = .ok (.iaload, 1) := by decide +kernel
theorem dX0_isRest_98 : decode cX0_isRest 98 = .ok (.if_icmp .le 5, 3) := by decide +kernel
theorem dX0_isRest_101 : decode cX0_isRest 101 = .ok (.iconst 0, 1) := by decide +kernel
theorem dX0_isRest_102 : decode cX0_isRest 102 = .ok (.ireturn, 1) := by decide +kernel
theorem dX0_isRest_103 : decode cX0_isRest 103 = .ok (.iinc 3 1, 3) := by decide +kernel
theorem dX0_isRest_106 : decode cX0_isRest 106 = .ok (.goto (-80), 3) := by decide +kernel
theorem dX0_isRest_109 : decode cX0_isRest 109 = .ok (.iconst 1, 1) := by decide +kernel
theorem dX0_isRest_110 : decode cX0_isRest 110 = .ok (.ireturn, 1) := by decide +kernel
theorem dX0_findRests_0 : decode cX0_findRests 0 = .ok (.aload_n 0, 1) := by decide +kernel
theorem dX0_findRests_1 : decode cX0_findRests 1 = .ok (.iconst 0, 1) := by decide +kernel
theorem dX0_findRests_2 : decode cX0_findRests 2 = .ok (.putfield 98, 3) := by decide +kernel
theorem dX0_findRests_5 : decode cX0_findRests 5 = .ok (.iconst 0, 1) := by decide +kernel
theorem dX0_findRests_6 : decode cX0_findRests 6 = .ok (.istore_n 1, 1) := by decide +kernel
theorem dX0_findRests_7 : decode cX0_findRests 7 = .ok (.iload_n 1, 1) := by decide +kernel
theorem dX0_findRests_8 : decode cX0_findRests 8 = .ok (.iconst 5, 1) := by decide +kernel
theorem dX0_findRests_9 : decode cX0_findRests 9 = .ok (.if_icmp .ge 64, 3) := by decide +kernel
theorem dX0_findRests_12 : decode cX0_findRests 12 = .ok (.iconst 0, 1) := by decide +kernel
theorem dX0_findRests_13 : decode cX0_findRests 13 = .ok (.istore_n 2, 1) := by decide +kernel
theorem dX0_findRests_14 : decode cX0_findRests 14 = .ok (.iload_n 2, 1) := by decide +kernel
theorem dX0_findRests_15 : decode cX0_findRests 15 = .ok (.iconst 5, 1) := by decide +kernel
theorem dX0_findRests_16 : decode cX0_findRests 16 = .ok (.if_icmp .ge 51, 3) := by decide +kernel
theorem dX0_findRests_19 : decode cX0_findRests 19 = .ok (.aload_n 0, 1) := by decide +kernel
theorem dX0_findRests_20 : decode cX0_findRests 20 = .ok (.iload_n 1, 1) := by decide +kernel
theorem dX0_findRests_21 : decode cX0_findRests 21 = .ok (.iload_n 2, 1) := by decide +kernel
theorem dX0_findRests_22 : decode cX0_findRests 22 = .ok (.invokevirtual 101, 3) := by decide +kernel
theorem dX0_findRests_25 : decode cX0_findRests 25 = .ok (.ifCond .eq 36, 3) := by decide +kernel
theorem dX0_findRests_28 : decode cX0_findRests 28 = .ok (.aload_n 0, 1) := by decide +kernel
theorem dX0_findRests_29 : decode cX0_findRests 29 = .ok (.getfield 27, 3) := by decide +kernel
theorem dX0_findRests_32 : decode cX0_findRests 32 = .ok (.aload_n 0, 1) := by decide +kernel
theorem dX0_findRests_33 : decode cX0_findRests 33 = .ok (.getfield 98, 3) := by decide +kernel
theorem dX0_findRests_36 : decode cX0_findRests 36 = .ok (.bipush 10, 2) := by decide +kernel
theorem dX0_findRests_38 : decode cX0_findRests 38 = .ok (.getstatic 84, 3) := by decide +kernel
theorem dX0_findRests_41 : decode cX0_findRests 41 = .ok (.iload_n 1, 1) := by decide +kernel
theorem dX0_findRests_42 : decode cX0_findRests 42 = .ok (.iaload, 1) := by decide +kernel
theorem dX0_findRests_43 : decode cX0_findRests 43 = .ok (.imul, 1) := by decide +kernel
theorem dX0_findRests_44 : decode cX0_findRests 44 = .ok (.getstatic 84, 3) := by decide +kernel
theorem dX0_findRests_47 : decode cX0_findRests 47 = .ok (.iload_n 2, 1) := by decide +kernel
theorem dX0_findRests_48 : decode cX0_findRests 48 = .ok (.iaload, 1) := by decide +kernel
theorem dX0_findRests_49 : decode cX0_findRests 49 = .ok (.iadd, 1) := by decide +kernel
theorem dX0_findRests_50 : decode cX0_findRests 50 = .ok (.iastore, 1) := by decide +kernel
theorem dX0_findRests_51 : decode cX0_findRests 51 = .ok (.aload_n 0, 1) := by decide +kernel
theorem dX0_findRests_52 : decode cX0_findRests 52 = .ok (.dup, 1) := by decide +kernel
theorem dX0_findRests_53 : decode cX0_findRests 53 = .ok (.getfield 98, 3) := by decide +kernel
theorem dX0_findRests_56 : decode cX0_findRests 56 = .ok (.iconst 1, 1) := by decide +kernel
theorem dX0_findRests_57 : decode cX0_findRests 57 = .ok (.iadd, 1) := by decide +kernel
theorem dX0_findRests_58 : decode cX0_findRests 58 = .ok (.putfield 98, 3) := by decide +kernel
theorem dX0_findRests_61 : decode cX0_findRests 61 = .ok (.iinc 2 1, 3) := by decide +kernel
theorem dX0_findRests_64 : decode cX0_findRests 64 = .ok (.goto (-50), 3) := by decide +kernel
theorem dX0_findRests_67 : decode cX0_findRests 67 = .ok (.iinc 1 1, 3) := by decide +kernel
theorem dX0_findRests_70 : decode cX0_findRests 70 = .ok (.goto (-63), 3) := by decide +kernel
theorem dX0_findRests_73 : decode cX0_findRests 73 = .ok (.return_, 1) := by decide +kernel
theorem dX0_listPlan_0 : decode cX0_listPlan 0 = .ok (.aload_n 0, 1) := by decide +kernel
theorem dX0_listPlan_1 : decode cX0_listPlan 1 = .ok (.iconst 0, 1) := by decide +kernel
theorem dX0_listPlan_2 : decode cX0_listPlan 2 = .ok (.putfield 122, 3) := by decide +kernel
theorem dX0_listPlan_5 : decode cX0_listPlan 5 = .ok (.iload_n 1, 1) := by decide +kernel
theorem dX0_listPlan_6 : decode cX0_listPlan 6 = .ok (.istore_n 3, 1) := by decide +kernel
theorem dX0_listPlan_7 : decode cX0_listPlan 7 = .ok (.iload_n 1, 1) := by decide +kernel
theorem dX0_listPlan_8 : decode cX0_listPlan 8 = .ok (.istore 4, 2) := by decide +kernel
theorem dX0_listPlan_10 : decode cX0_listPlan 10 = .ok (.iload 4, 2) := by decide +kernel
theorem dX0_listPlan_12 : decode cX0_listPlan 12 = .ok (.iload_n 2, 1) := by decide +kernel
theorem dX0_listPlan_13 : decode cX0_listPlan 13 = .ok (.if_icmp .ge 54, 3) := by decide +kernel
theorem dX0_listPlan_16 : decode cX0_listPlan 16 = .ok (.iload 4, 2) := by decide +kernel
theorem dX0_listPlan_18 : decode cX0_listPlan 18 = .ok (.iload_n 3, 1) := by decide +kernel
theorem dX0_listPlan_19 : decode cX0_listPlan 19 = .ok (.if_icmp .lt 42, 3) := by decide +kernel
theorem dX0_listPlan_22 : decode cX0_listPlan 22 = .ok (.aload_n 0, 1) := by decide +kernel
theorem dX0_listPlan_23 : decode cX0_listPlan 23 = .ok (.getfield 36, 3) := by decide +kernel
theorem dX0_listPlan_26 : decode cX0_listPlan 26 = .ok (.iload 4, 2) := by decide +kernel
theorem dX0_listPlan_28 : decode cX0_listPlan 28 = .ok (.baload, 1) := by decide +kernel
theorem dX0_listPlan_29 : decode cX0_listPlan 29 = .ok (.ifCond .eq 32, 3) := by decide +kernel
theorem dX0_listPlan_32 : decode cX0_listPlan 32 = .ok (.aload_n 0, 1) := by decide +kernel
theorem dX0_listPlan_33 : decode cX0_listPlan 33 = .ok (.getfield 40, 3) := by decide +kernel
theorem dX0_listPlan_36 : decode cX0_listPlan 36 = .ok (.aload_n 0, 1) := by decide +kernel
theorem dX0_listPlan_37 : decode cX0_listPlan 37 = .ok (.getfield 122, 3) := by decide +kernel
theorem dX0_listPlan_40 : decode cX0_listPlan 40 = .ok (.iload 4, 2) := by decide +kernel
theorem dX0_listPlan_42 : decode cX0_listPlan 42 = .ok (.iastore, 1) := by decide +kernel
theorem dX0_listPlan_43 : decode cX0_listPlan 43 = .ok (.aload_n 0, 1) := by decide +kernel
theorem dX0_listPlan_44 : decode cX0_listPlan 44 = .ok (.dup, 1) := by decide +kernel
theorem dX0_listPlan_45 : decode cX0_listPlan 45 = .ok (.getfield 122, 3) := by decide +kernel
theorem dX0_listPlan_48 : decode cX0_listPlan 48 = .ok (.iconst 1, 1) := by decide +kernel
theorem dX0_listPlan_49 : decode cX0_listPlan 49 = .ok (.iadd, 1) := by decide +kernel
theorem dX0_listPlan_50 : decode cX0_listPlan 50 = .ok (.putfield 122, 3) := by decide +kernel
theorem dX0_listPlan_53 : decode cX0_listPlan 53 = .ok (.aload_n 0, 1) := by decide +kernel
theorem dX0_listPlan_54 : decode cX0_listPlan 54 = .ok (.getfield 33, 3) := by decide +kernel
theorem dX0_listPlan_57 : decode cX0_listPlan 57 = .ok (.iload 4, 2) := by decide +kernel
theorem dX0_listPlan_59 : decode cX0_listPlan 59 = .ok (.iaload, 1) := by decide +kernel
theorem dX0_listPlan_60 : decode cX0_listPlan 60 = .ok (.istore_n 3, 1) := by decide +kernel
theorem dX0_listPlan_61 : decode cX0_listPlan 61 = .ok (.iinc 4 1, 3) := by decide +kernel
theorem dX0_listPlan_64 : decode cX0_listPlan 64 = .ok (.goto (-54), 3) := by decide +kernel
theorem dX0_listPlan_67 : decode cX0_listPlan 67 = .ok (.return_, 1) := by decide +kernel
theorem dX10_firstFrom_0 : decode cX10_firstFrom 0 = .ok (.iconst 0, 1) := by decide +kernel
theorem dX10_firstFrom_1 : decode cX10_firstFrom 1 = .ok (.istore_n 2, 1) := by decide +kernel
theorem dX10_firstFrom_2 : decode cX10_firstFrom 2 = .ok (.iload_n 2, 1) := by decide +kernel
theorem dX10_firstFrom_3 : decode cX10_firstFrom 3 = .ok (.aload_n 0, 1) := by decide +kernel
theorem dX10_firstFrom_4 : decode cX10_firstFrom 4 = .ok (.getfield 34, 3) := by decide +kernel
theorem dX10_firstFrom_7 : decode cX10_firstFrom 7 = .ok (.if_icmp .ge 21, 3) := by decide +kernel
theorem dX10_firstFrom_10 : decode cX10_firstFrom 10 = .ok (.aload_n 0, 1) := by decide +kernel
theorem dX10_firstFrom_11 : decode cX10_firstFrom 11 = .ok (.getfield 18, 3) := by decide +kernel
theorem dX10_firstFrom_14 : decode cX10_firstFrom 14 = .ok (.iload_n 2, 1) := by decide +kernel
theorem dX10_firstFrom_15 : decode cX10_firstFrom 15 = .ok (.iaload, 1) := by decide +kernel
theorem dX10_firstFrom_16 : decode cX10_firstFrom 16 = .ok (.iload_n 1, 1) := by decide +kernel
theorem dX10_firstFrom_17 : decode cX10_firstFrom 17 = .ok (.if_icmp .lt 5, 3) := by decide +kernel
theorem dX10_firstFrom_20 : decode cX10_firstFrom 20 = .ok (.iload_n 2, 1) := by decide +kernel
theorem dX10_firstFrom_21 : decode cX10_firstFrom 21 = .ok (.ireturn, 1) := by decide +kernel
theorem dX10_firstFrom_22 : decode cX10_firstFrom 22 = .ok (.iinc 2 1, 3) := by decide +kernel
theorem dX10_firstFrom_25 : decode cX10_firstFrom 25 = .ok (.goto (-23), 3) := by decide +kernel
theorem dX10_firstFrom_28 : decode cX10_firstFrom 28 = .ok (.aload_n 0, 1) := by decide +kernel
theorem dX10_firstFrom_29 : decode cX10_firstFrom 29 = .ok (.getfield 34, 3) := by decide +kernel
theorem dX10_firstFrom_32 : decode cX10_firstFrom 32 = .ok (.ireturn, 1) := by decide +kernel
theorem dX6_nameAway_0 : decode cX6_nameAway 0 = .ok (.aload_n 0, 1) := by decide +kernel
theorem dX6_nameAway_1 : decode cX6_nameAway 1 = .ok (.getfield 25, 3) := by decide +kernel
theorem dX6_nameAway_4 : decode cX6_nameAway 4 = .ok (.iconst 0, 1) := by decide +kernel
theorem dX6_nameAway_5 : decode cX6_nameAway 5 = .ok (.lconst 0, 1) := by decide +kernel
theorem dX6_nameAway_6 : decode cX6_nameAway 6 = .ok (.lastore, 1) := by decide +kernel
theorem dX6_nameAway_7 : decode cX6_nameAway 7 = .ok (.aload_n 0, 1) := by decide +kernel
theorem dX6_nameAway_8 : decode cX6_nameAway 8 = .ok (.getfield 25, 3) := by decide +kernel
theorem dX6_nameAway_11 : decode cX6_nameAway 11 = .ok (.iconst 1, 1) := by decide +kernel
theorem dX6_nameAway_12 : decode cX6_nameAway 12 = .ok (.lconst 0, 1) := by decide +kernel
theorem dX6_nameAway_13 : decode cX6_nameAway 13 = .ok (.lastore, 1) := by decide +kernel
theorem dX6_nameAway_14 : decode cX6_nameAway 14 = .ok (.aload_n 0, 1) := by decide +kernel
theorem dX6_nameAway_15 : decode cX6_nameAway 15 = .ok (.getfield 25, 3) := by decide +kernel
theorem dX6_nameAway_18 : decode cX6_nameAway 18 = .ok (.iconst 2, 1) := by decide +kernel
theorem dX6_nameAway_19 : decode cX6_nameAway 19 = .ok (.aload_n 0, 1) := by decide +kernel
theorem dX6_nameAway_20 : decode cX6_nameAway 20 = .ok (.getfield 15, 3) := by decide +kernel
theorem dX6_nameAway_23 : decode cX6_nameAway 23 = .ok (.iload_n 1, 1) := by decide +kernel
theorem dX6_nameAway_24 : decode cX6_nameAway 24 = .ok (.iaload, 1) := by decide +kernel
theorem dX6_nameAway_25 : decode cX6_nameAway 25 = .ok (.i2l, 1) := by decide +kernel
theorem dX6_nameAway_26 : decode cX6_nameAway 26 = .ok (.lastore, 1) := by decide +kernel
theorem dX6_nameAway_27 : decode cX6_nameAway 27 = .ok (.aload_n 0, 1) := by decide +kernel
theorem dX6_nameAway_28 : decode cX6_nameAway 28 = .ok (.getfield 25, 3) := by decide +kernel
theorem dX6_nameAway_31 : decode cX6_nameAway 31 = .ok (.iconst 3, 1) := by decide +kernel
theorem dX6_nameAway_32 : decode cX6_nameAway 32 = .ok (.aload_n 0, 1) := by decide +kernel
theorem dX6_nameAway_33 : decode cX6_nameAway 33 = .ok (.getfield 9, 3) := by decide +kernel
theorem dX6_nameAway_36 : decode cX6_nameAway 36 = .ok (.getfield 57, 3) := by decide +kernel
theorem dX6_nameAway_39 : decode cX6_nameAway 39 = .ok (.getfield 112, 3) := by decide +kernel
theorem dX6_nameAway_42 : decode cX6_nameAway 42 = .ok (.iload_n 2, 1) := by decide +kernel
theorem dX6_nameAway_43 : decode cX6_nameAway 43 = .ok (.iaload, 1) := by decide +kernel
theorem dX6_nameAway_44 : decode cX6_nameAway 44 = .ok (.i2l, 1) := by decide +kernel
theorem dX6_nameAway_45 : decode cX6_nameAway 45 = .ok (.lastore, 1) := by decide +kernel
theorem dX6_nameAway_46 : decode cX6_nameAway 46 = .ok (.aload_n 0, 1) := by decide +kernel
theorem dX6_nameAway_47 : decode cX6_nameAway 47 = .ok (.getfield 25, 3) := by decide +kernel
theorem dX6_nameAway_50 : decode cX6_nameAway 50 = .ok (.iconst 4, 1) := by decide +kernel
theorem dX6_nameAway_51 : decode cX6_nameAway 51 = .ok (.aload_n 0, 1) := by decide +kernel
theorem dX6_nameAway_52 : decode cX6_nameAway 52 = .ok (.getfield 9, 3) := by decide +kernel
theorem dX6_nameAway_55 : decode cX6_nameAway 55 = .ok (.getfield 57, 3) := by decide +kernel
theorem dX6_nameAway_58 : decode cX6_nameAway 58 = .ok (.getfield 67, 3) := by decide +kernel
theorem dX6_nameAway_61 : decode cX6_nameAway 61 = .ok (.iload_n 2, 1) := by decide +kernel
theorem dX6_nameAway_62 : decode cX6_nameAway 62 = .ok (.iaload, 1) := by decide +kernel
theorem dX6_nameAway_63 : decode cX6_nameAway 63 = .ok (.i2l, 1) := by decide +kernel
theorem dX6_nameAway_64 : decode cX6_nameAway 64 = .ok (.lastore, 1) := by decide +kernel
theorem dX6_nameAway_65 : decode cX6_nameAway 65 = .ok (.aload_n 0, 1) := by decide +kernel
theorem dX6_nameAway_66 : decode cX6_nameAway 66 = .ok (.getfield 25, 3) := by decide +kernel
theorem dX6_nameAway_69 : decode cX6_nameAway 69 = .ok (.iconst 5, 1) := by decide +kernel
theorem dX6_nameAway_70 : decode cX6_nameAway 70 = .ok (.aload_n 0, 1) := by decide +kernel
theorem dX6_nameAway_71 : decode cX6_nameAway 71 = .ok (.getfield 9, 3) := by decide +kernel
theorem dX6_nameAway_74 : decode cX6_nameAway 74 = .ok (.getfield 57, 3) := by decide +kernel
theorem dX6_nameAway_77 : decode cX6_nameAway 77 = .ok (.getfield 115, 3) := by decide +kernel
theorem dX6_nameAway_80 : decode cX6_nameAway 80 = .ok (.iload_n 2, 1) := by decide +kernel
theorem dX6_nameAway_81 : decode cX6_nameAway 81 = .ok (.iaload, 1) := by decide +kernel
theorem dX6_nameAway_82 : decode cX6_nameAway 82 = .ok (.i2l, 1) := by decide +kernel
theorem dX6_nameAway_83 : decode cX6_nameAway 83 = .ok (.lastore, 1) := by decide +kernel
theorem dX6_nameAway_84 : decode cX6_nameAway 84 = .ok (.return_, 1) := by decide +kernel
theorem dX2_oneIf_0 : decode cX2_oneIf 0 = .ok (.iload_n 0, 1) := by decide +kernel
theorem dX2_oneIf_1 : decode cX2_oneIf 1 = .ok (.ifCond .eq 7, 3) := by decide +kernel
theorem dX2_oneIf_4 : decode cX2_oneIf 4 = .ok (.lconst 1, 1) := by decide +kernel
theorem dX2_oneIf_5 : decode cX2_oneIf 5 = .ok (.goto 4, 3) := by decide +kernel
theorem dX2_oneIf_8 : decode cX2_oneIf 8 = .ok (.lconst 0, 1) := by decide +kernel
theorem dX2_oneIf_9 : decode cX2_oneIf 9 = .ok (.lreturn, 1) := by decide +kernel
theorem dX2_product_0 : decode cX2_product 0 = .ok (.lload_n 0, 1) := by decide +kernel
theorem dX2_product_1 : decode cX2_product 1 = .ok (.lconst 0, 1) := by decide +kernel
theorem dX2_product_2 : decode cX2_product 2 = .ok (.lcmp, 1) := by decide +kernel
theorem dX2_product_3 : decode cX2_product 3 = .ok (.ifCond .ge 8, 3) := by decide +kernel
theorem dX2_product_6 : decode cX2_product 6 = .ok (.lload_n 0, 1) := by decide +kernel
theorem dX2_product_7 : decode cX2_product 7 = .ok (.lneg, 1) := by decide +kernel
theorem dX2_product_8 : decode cX2_product 8 = .ok (.goto 4, 3) := by decide +kernel
theorem dX2_product_11 : decode cX2_product 11 = .ok (.lload_n 0, 1) := by decide +kernel
theorem dX2_product_12 : decode cX2_product 12 = .ok (.lstore 4, 2) := by decide +kernel
theorem dX2_product_14 : decode cX2_product 14 = .ok (.lload_n 2, 1) := by decide +kernel
theorem dX2_product_15 : decode cX2_product 15 = .ok (.lconst 0, 1) := by decide +kernel
theorem dX2_product_16 : decode cX2_product 16 = .ok (.lcmp, 1) := by decide +kernel
theorem dX2_product_17 : decode cX2_product 17 = .ok (.ifCond .ge 8, 3) := by decide +kernel
theorem dX2_product_20 : decode cX2_product 20 = .ok (.lload_n 2, 1) := by decide +kernel
theorem dX2_product_21 : decode cX2_product 21 = .ok (.lneg, 1) := by decide +kernel
theorem dX2_product_22 : decode cX2_product 22 = .ok (.goto 4, 3) := by decide +kernel
theorem dX2_product_25 : decode cX2_product 25 = .ok (.lload_n 2, 1) := by decide +kernel
theorem dX2_product_26 : decode cX2_product 26 = .ok (.lstore 6, 2) := by decide +kernel
theorem dX2_product_28 : decode cX2_product 28 = .ok (.lload 6, 2) := by decide +kernel
theorem dX2_product_30 : decode cX2_product 30 = .ok (.lconst 0, 1) := by decide +kernel
theorem dX2_product_31 : decode cX2_product 31 = .ok (.lcmp, 1) := by decide +kernel
theorem dX2_product_32 : decode cX2_product 32 = .ok (.ifCond .le 19, 3) := by decide +kernel
theorem dX2_product_35 : decode cX2_product 35 = .ok (.lload 4, 2) := by decide +kernel
theorem dX2_product_37 : decode cX2_product 37 = .ok (.ldc2_w 27, 3) := by decide +kernel
theorem dX2_product_40 : decode cX2_product 40 = .ok (.lload 6, 2) := by decide +kernel
theorem dX2_product_42 : decode cX2_product 42 = .ok (.ldiv, 1) := by decide +kernel
theorem dX2_product_43 : decode cX2_product 43 = .ok (.lcmp, 1) := by decide +kernel
theorem dX2_product_44 : decode cX2_product 44 = .ok (.ifCond .le 7, 3) := by decide +kernel
theorem dX2_product_47 : decode cX2_product 47 = .ok (.ldc2_w 31, 3) := by decide +kernel
theorem dX2_product_50 : decode cX2_product 50 = .ok (.lreturn, 1) := by decide +kernel
theorem dX2_product_51 : decode cX2_product 51 = .ok (.lload_n 0, 1) := by decide +kernel
theorem dX2_product_52 : decode cX2_product 52 = .ok (.lload_n 2, 1) := by decide +kernel
theorem dX2_product_53 : decode cX2_product 53 = .ok (.lmul, 1) := by decide +kernel
theorem dX2_product_54 : decode cX2_product 54 = .ok (.lreturn, 1) := by decide +kernel
theorem dX2_join_0 : decode cX2_join 0 = .ok (.iload_n 0, 1) := by decide +kernel
theorem dX2_join_1 : decode cX2_join 1 = .ok (.tableswitch 257 16 35 #[116, 95, 257, 257, 257, 257, 257, 257, 257, 257, 137, 152, 167, 182, 197, 212, 227, 231, 235, 241], 95) := by decide +kernel
theorem dX2_join_96 : decode cX2_join 96 = .ok (.lload_n 1, 1) := by decide +kernel
theorem dX2_join_97 : decode cX2_join 97 = .ok (.lconst 0, 1) := by decide +kernel
theorem dX2_join_98 : decode cX2_join 98 = .ok (.lcmp, 1) := by decide +kernel
theorem dX2_join_99 : decode cX2_join 99 = .ok (.ifCond .ne 9, 3) := by decide +kernel
theorem dX2_join_102 : decode cX2_join 102 = .ok (.lload_n 3, 1) := by decide +kernel
theorem dX2_join_103 : decode cX2_join 103 = .ok (.lconst 0, 1) := by decide +kernel
theorem dX2_join_104 : decode cX2_join 104 = .ok (.lcmp, 1) := by decide +kernel
theorem dX2_join_105 : decode cX2_join 105 = .ok (.ifCond .eq 7, 3) := by decide +kernel
theorem dX2_join_108 : decode cX2_join 108 = .ok (.iconst 1, 1) := by decide +kernel
theorem dX2_join_109 : decode cX2_join 109 = .ok (.goto 4, 3) := by decide +kernel
theorem dX2_join_112 : decode cX2_join 112 = .ok (.iconst 0, 1) := by decide +kernel
theorem dX2_join_113 : decode cX2_join 113 = .ok (.invokestatic 33, 3) := by decide +kernel
theorem dX2_join_116 : decode cX2_join 116 = .ok (.lreturn, 1) := by decide +kernel
theorem dX2_join_117 : decode cX2_join 117 = .ok (.lload_n 1, 1) := by decide +kernel
theorem dX2_join_118 : decode cX2_join 118 = .ok (.lconst 0, 1) := by decide +kernel
theorem dX2_join_119 : decode cX2_join 119 = .ok (.lcmp, 1) := by decide +kernel
theorem dX2_join_120 : decode cX2_join 120 = .ok (.ifCond .eq 13, 3) := by decide +kernel
theorem dX2_join_123 : decode cX2_join 123 = .ok (.lload_n 3, 1) := by decide +kernel
theorem dX2_join_124 : decode cX2_join 124 = .ok (.lconst 0, 1) := by decide +kernel
theorem dX2_join_125 : decode cX2_join 125 = .ok (.lcmp, 1) := by decide +kernel
theorem dX2_join_126 : decode cX2_join 126 = .ok (.ifCond .eq 7, 3) := by decide +kernel
theorem dX2_join_129 : decode cX2_join 129 = .ok (.iconst 1, 1) := by decide +kernel
theorem dX2_join_130 : decode cX2_join 130 = .ok (.goto 4, 3) := by decide +kernel
theorem dX2_join_133 : decode cX2_join 133 = .ok (.iconst 0, 1) := by decide +kernel
theorem dX2_join_134 : decode cX2_join 134 = .ok (.invokestatic 33, 3) := by decide +kernel
theorem dX2_join_137 : decode cX2_join 137 = .ok (.lreturn, 1) := by decide +kernel
theorem dX2_join_138 : decode cX2_join 138 = .ok (.lload_n 1, 1) := by decide +kernel
theorem dX2_join_139 : decode cX2_join 139 = .ok (.lload_n 3, 1) := by decide +kernel
theorem dX2_join_140 : decode cX2_join 140 = .ok (.lcmp, 1) := by decide +kernel
theorem dX2_join_141 : decode cX2_join 141 = .ok (.ifCond .ge 7, 3) := by decide +kernel
theorem dX2_join_144 : decode cX2_join 144 = .ok (.iconst 1, 1) := by decide +kernel
theorem dX2_join_145 : decode cX2_join 145 = .ok (.goto 4, 3) := by decide +kernel
theorem dX2_join_148 : decode cX2_join 148 = .ok (.iconst 0, 1) := by decide +kernel
theorem dX2_join_149 : decode cX2_join 149 = .ok (.invokestatic 33, 3) := by decide +kernel
theorem dX2_join_152 : decode cX2_join 152 = .ok (.lreturn, 1) := by decide +kernel
theorem dX2_join_153 : decode cX2_join 153 = .ok (.lload_n 1, 1) := by decide +kernel
theorem dX2_join_154 : decode cX2_join 154 = .ok (.lload_n 3, 1) := by decide +kernel
theorem dX2_join_155 : decode cX2_join 155 = .ok (.lcmp, 1) := by decide +kernel
theorem dX2_join_156 : decode cX2_join 156 = .ok (.ifCond .gt 7, 3) := by decide +kernel
theorem dX2_join_159 : decode cX2_join 159 = .ok (.iconst 1, 1) := by decide +kernel
theorem dX2_join_160 : decode cX2_join 160 = .ok (.goto 4, 3) := by decide +kernel
theorem dX2_join_163 : decode cX2_join 163 = .ok (.iconst 0, 1) := by decide +kernel
theorem dX2_join_164 : decode cX2_join 164 = .ok (.invokestatic 33, 3) := by decide +kernel
theorem dX2_join_167 : decode cX2_join 167 = .ok (.lreturn, 1) := by decide +kernel
theorem dX2_join_168 : decode cX2_join 168 = .ok (.lload_n 1, 1) := by decide +kernel
theorem dX2_join_169 : decode cX2_join 169 = .ok (.lload_n 3, 1) := by decide +kernel
theorem dX2_join_170 : decode cX2_join 170 = .ok (.lcmp, 1) := by decide +kernel
theorem dX2_join_171 : decode cX2_join 171 = .ok (.ifCond .ne 7, 3) := by decide +kernel
theorem dX2_join_174 : decode cX2_join 174 = .ok (.iconst 1, 1) := by decide +kernel
theorem dX2_join_175 : decode cX2_join 175 = .ok (.goto 4, 3) := by decide +kernel
theorem dX2_join_178 : decode cX2_join 178 = .ok (.iconst 0, 1) := by decide +kernel
theorem dX2_join_179 : decode cX2_join 179 = .ok (.invokestatic 33, 3) := by decide +kernel
theorem dX2_join_182 : decode cX2_join 182 = .ok (.lreturn, 1) := by decide +kernel
theorem dX2_join_183 : decode cX2_join 183 = .ok (.lload_n 1, 1) := by decide +kernel
theorem dX2_join_184 : decode cX2_join 184 = .ok (.lload_n 3, 1) := by decide +kernel
theorem dX2_join_185 : decode cX2_join 185 = .ok (.lcmp, 1) := by decide +kernel
theorem dX2_join_186 : decode cX2_join 186 = .ok (.ifCond .eq 7, 3) := by decide +kernel
theorem dX2_join_189 : decode cX2_join 189 = .ok (.iconst 1, 1) := by decide +kernel
theorem dX2_join_190 : decode cX2_join 190 = .ok (.goto 4, 3) := by decide +kernel
theorem dX2_join_193 : decode cX2_join 193 = .ok (.iconst 0, 1) := by decide +kernel
theorem dX2_join_194 : decode cX2_join 194 = .ok (.invokestatic 33, 3) := by decide +kernel
theorem dX2_join_197 : decode cX2_join 197 = .ok (.lreturn, 1) := by decide +kernel
theorem dX2_join_198 : decode cX2_join 198 = .ok (.lload_n 1, 1) := by decide +kernel
theorem dX2_join_199 : decode cX2_join 199 = .ok (.lload_n 3, 1) := by decide +kernel
theorem dX2_join_200 : decode cX2_join 200 = .ok (.lcmp, 1) := by decide +kernel
theorem dX2_join_201 : decode cX2_join 201 = .ok (.ifCond .lt 7, 3) := by decide +kernel
theorem dX2_join_204 : decode cX2_join 204 = .ok (.iconst 1, 1) := by decide +kernel
theorem dX2_join_205 : decode cX2_join 205 = .ok (.goto 4, 3) := by decide +kernel
theorem dX2_join_208 : decode cX2_join 208 = .ok (.iconst 0, 1) := by decide +kernel
theorem dX2_join_209 : decode cX2_join 209 = .ok (.invokestatic 33, 3) := by decide +kernel
theorem dX2_join_212 : decode cX2_join 212 = .ok (.lreturn, 1) := by decide +kernel
theorem dX2_join_213 : decode cX2_join 213 = .ok (.lload_n 1, 1) := by decide +kernel
theorem dX2_join_214 : decode cX2_join 214 = .ok (.lload_n 3, 1) := by decide +kernel
theorem dX2_join_215 : decode cX2_join 215 = .ok (.lcmp, 1) := by decide +kernel
theorem dX2_join_216 : decode cX2_join 216 = .ok (.ifCond .le 7, 3) := by decide +kernel
theorem dX2_join_219 : decode cX2_join 219 = .ok (.iconst 1, 1) := by decide +kernel
theorem dX2_join_220 : decode cX2_join 220 = .ok (.goto 4, 3) := by decide +kernel
theorem dX2_join_223 : decode cX2_join 223 = .ok (.iconst 0, 1) := by decide +kernel
theorem dX2_join_224 : decode cX2_join 224 = .ok (.invokestatic 33, 3) := by decide +kernel
theorem dX2_join_227 : decode cX2_join 227 = .ok (.lreturn, 1) := by decide +kernel
theorem dX2_join_228 : decode cX2_join 228 = .ok (.lload_n 1, 1) := by decide +kernel
theorem dX2_join_229 : decode cX2_join 229 = .ok (.lload_n 3, 1) := by decide +kernel
theorem dX2_join_230 : decode cX2_join 230 = .ok (.ladd, 1) := by decide +kernel
theorem dX2_join_231 : decode cX2_join 231 = .ok (.lreturn, 1) := by decide +kernel
theorem dX2_join_232 : decode cX2_join 232 = .ok (.lload_n 1, 1) := by decide +kernel
theorem dX2_join_233 : decode cX2_join 233 = .ok (.lload_n 3, 1) := by decide +kernel
theorem dX2_join_234 : decode cX2_join 234 = .ok (.lsub, 1) := by decide +kernel
theorem dX2_join_235 : decode cX2_join 235 = .ok (.lreturn, 1) := by decide +kernel
theorem dX2_join_236 : decode cX2_join 236 = .ok (.lload_n 1, 1) := by decide +kernel
theorem dX2_join_237 : decode cX2_join 237 = .ok (.lload_n 3, 1) := by decide +kernel
theorem dX2_join_238 : decode cX2_join 238 = .ok (.invokestatic 37, 3) := by decide +kernel
theorem dX2_join_241 : decode cX2_join 241 = .ok (.lreturn, 1) := by decide +kernel
theorem dX2_join_242 : decode cX2_join 242 = .ok (.lload_n 3, 1) := by decide +kernel
theorem dX2_join_243 : decode cX2_join 243 = .ok (.lconst 0, 1) := by decide +kernel
theorem dX2_join_244 : decode cX2_join 244 = .ok (.lcmp, 1) := by decide +kernel
theorem dX2_join_245 : decode cX2_join 245 = .ok (.ifCond .ne 9, 3) := by decide +kernel
theorem dX2_join_248 : decode cX2_join 248 = .ok (.ldc2_w 31, 3) := by decide +kernel
theorem dX2_join_251 : decode cX2_join 251 = .ok (.goto 6, 3) := by decide +kernel
theorem dX2_join_254 : decode cX2_join 254 = .ok (.lload_n 1, 1) := by decide +kernel
theorem dX2_join_255 : decode cX2_join 255 = .ok (.lload_n 3, 1) := by decide +kernel
theorem dX2_join_256 : decode cX2_join 256 = .ok (.ldiv, 1) := by decide +kernel
theorem dX2_join_257 : decode cX2_join 257 = .ok (.lreturn, 1) := by decide +kernel
theorem dX2_join_258 : decode cX2_join 258 = .ok (.ldc2_w 31, 3) := by decide +kernel
theorem dX2_join_261 : decode cX2_join 261 = .ok (.lreturn, 1) := by decide +kernel
theorem dX2_valueFor_0 : decode cX2_valueFor 0 = .ok (.iconst 0, 1) := by decide +kernel
theorem dX2_valueFor_1 : decode cX2_valueFor 1 = .ok (.istore_n 3, 1) := by decide +kernel
theorem dX2_valueFor_2 : decode cX2_valueFor 2 = .ok (.iconst 0, 1) := by decide +kernel
theorem dX2_valueFor_3 : decode cX2_valueFor 3 = .ok (.istore 4, 2) := by decide +kernel
theorem dX2_valueFor_5 : decode cX2_valueFor 5 = .ok (.iload 4, 2) := by decide +kernel
theorem dX2_valueFor_7 : decode cX2_valueFor 7 = .ok (.aload_n 0, 1) := by decide +kernel
theorem dX2_valueFor_8 : decode cX2_valueFor 8 = .ok (.getfield 15, 3) := by decide +kernel
theorem dX2_valueFor_11 : decode cX2_valueFor 11 = .ok (.if_icmp .ge 166, 3) := by decide +kernel
theorem dX2_valueFor_14 : decode cX2_valueFor 14 = .ok (.iload_n 3, 1) := by decide +kernel
theorem dX2_valueFor_15 : decode cX2_valueFor 15 = .ok (.aload_n 2, 1) := by decide +kernel
theorem dX2_valueFor_16 : decode cX2_valueFor 16 = .ok (.arraylength, 1) := by decide +kernel
theorem dX2_valueFor_17 : decode cX2_valueFor 17 = .ok (.if_icmp .ge 160, 3) := by decide +kernel
theorem dX2_valueFor_20 : decode cX2_valueFor 20 = .ok (.aload_n 0, 1) := by decide +kernel
theorem dX2_valueFor_21 : decode cX2_valueFor 21 = .ok (.getfield 9, 3) := by decide +kernel
theorem dX2_valueFor_24 : decode cX2_valueFor 24 = .ok (.iload 4, 2) := by decide +kernel
theorem dX2_valueFor_26 : decode cX2_valueFor 26 = .ok (.iaload, 1) := by decide +kernel
theorem dX2_valueFor_27 : decode cX2_valueFor 27 = .ok (.sipush 10000, 3) := by decide +kernel
theorem dX2_valueFor_30 : decode cX2_valueFor 30 = .ok (.isub, 1) := by decide +kernel
theorem dX2_valueFor_31 : decode cX2_valueFor 31 = .ok (.istore 5, 2) := by decide +kernel
theorem dX2_valueFor_33 : decode cX2_valueFor 33 = .ok (.iload 5, 2) := by decide +kernel
theorem dX2_valueFor_35 : decode cX2_valueFor 35 = .ok (.ifCond .ge 20, 3) := by decide +kernel
theorem dX2_valueFor_38 : decode cX2_valueFor 38 = .ok (.aload_n 2, 1) := by decide +kernel
theorem dX2_valueFor_39 : decode cX2_valueFor 39 = .ok (.iload_n 3, 1) := by decide +kernel
theorem dX2_valueFor_40 : decode cX2_valueFor 40 = .ok (.aload_n 0, 1) := by decide +kernel
theorem dX2_valueFor_41 : decode cX2_valueFor 41 = .ok (.getfield 9, 3) := by decide +kernel
theorem dX2_valueFor_44 : decode cX2_valueFor 44 = .ok (.iload 4, 2) := by decide +kernel
theorem dX2_valueFor_46 : decode cX2_valueFor 46 = .ok (.iaload, 1) := by decide +kernel
theorem dX2_valueFor_47 : decode cX2_valueFor 47 = .ok (.i2l, 1) := by decide +kernel
theorem dX2_valueFor_48 : decode cX2_valueFor 48 = .ok (.lastore, 1) := by decide +kernel
theorem dX2_valueFor_49 : decode cX2_valueFor 49 = .ok (.iinc 3 1, 3) := by decide +kernel
theorem dX2_valueFor_52 : decode cX2_valueFor 52 = .ok (.goto 119, 3) := by decide +kernel
theorem dX2_valueFor_55 : decode cX2_valueFor 55 = .ok (.iload 5, 2) := by decide +kernel
theorem dX2_valueFor_57 : decode cX2_valueFor 57 = .ok (.bipush 18, 2) := by decide +kernel
theorem dX2_valueFor_59 : decode cX2_valueFor 59 = .ok (.if_icmp .lt 26, 3) := by decide +kernel
theorem dX2_valueFor_62 : decode cX2_valueFor 62 = .ok (.iload 5, 2) := by decide +kernel
theorem dX2_valueFor_64 : decode cX2_valueFor 64 = .ok (.bipush 24, 2) := by decide +kernel
theorem dX2_valueFor_66 : decode cX2_valueFor 66 = .ok (.if_icmp .ge 19, 3) := by decide +kernel
theorem dX2_valueFor_69 : decode cX2_valueFor 69 = .ok (.aload_n 2, 1) := by decide +kernel
theorem dX2_valueFor_70 : decode cX2_valueFor 70 = .ok (.iload_n 3, 1) := by decide +kernel
theorem dX2_valueFor_71 : decode cX2_valueFor 71 = .ok (.aload_n 1, 1) := by decide +kernel
theorem dX2_valueFor_72 : decode cX2_valueFor 72 = .ok (.iload 5, 2) := by decide +kernel
theorem dX2_valueFor_74 : decode cX2_valueFor 74 = .ok (.bipush 18, 2) := by decide +kernel
theorem dX2_valueFor_76 : decode cX2_valueFor 76 = .ok (.isub, 1) := by decide +kernel
theorem dX2_valueFor_77 : decode cX2_valueFor 77 = .ok (.laload, 1) := by decide +kernel
theorem dX2_valueFor_78 : decode cX2_valueFor 78 = .ok (.lastore, 1) := by decide +kernel
theorem dX2_valueFor_79 : decode cX2_valueFor 79 = .ok (.iinc 3 1, 3) := by decide +kernel
theorem dX2_valueFor_82 : decode cX2_valueFor 82 = .ok (.goto 89, 3) := by decide +kernel
theorem dX2_valueFor_85 : decode cX2_valueFor 85 = .ok (.iload 5, 2) := by decide +kernel
theorem dX2_valueFor_87 : decode cX2_valueFor 87 = .ok (.bipush 15, 2) := by decide +kernel
theorem dX2_valueFor_89 : decode cX2_valueFor 89 = .ok (.if_icmp .ne 30, 3) := by decide +kernel
theorem dX2_valueFor_92 : decode cX2_valueFor 92 = .ok (.iload_n 3, 1) := by decide +kernel
theorem dX2_valueFor_93 : decode cX2_valueFor 93 = .ok (.ifCond .le 26, 3) := by decide +kernel
theorem dX2_valueFor_96 : decode cX2_valueFor 96 = .ok (.aload_n 2, 1) := by decide +kernel
theorem dX2_valueFor_97 : decode cX2_valueFor 97 = .ok (.iload_n 3, 1) := by decide +kernel
theorem dX2_valueFor_98 : decode cX2_valueFor 98 = .ok (.iconst 1, 1) := by decide +kernel
theorem dX2_valueFor_99 : decode cX2_valueFor 99 = .ok (.isub, 1) := by decide +kernel
theorem dX2_valueFor_100 : decode cX2_valueFor 100 = .ok (.aload_n 2, 1) := by decide +kernel
theorem dX2_valueFor_101 : decode cX2_valueFor 101 = .ok (.iload_n 3, 1) := by decide +kernel
theorem dX2_valueFor_102 : decode cX2_valueFor 102 = .ok (.iconst 1, 1) := by decide +kernel
theorem dX2_valueFor_103 : decode cX2_valueFor 103 = .ok (.isub, 1) := by decide +kernel
theorem dX2_valueFor_104 : decode cX2_valueFor 104 = .ok (.laload, 1) := by decide +kernel
theorem dX2_valueFor_105 : decode cX2_valueFor 105 = .ok (.lconst 0, 1) := by decide +kernel
theorem dX2_valueFor_106 : decode cX2_valueFor 106 = .ok (.lcmp, 1) := by decide +kernel
theorem dX2_valueFor_107 : decode cX2_valueFor 107 = .ok (.ifCond .ne 7, 3) := by decide +kernel
theorem dX2_valueFor_110 : decode cX2_valueFor 110 = .ok (.lconst 1, 1) := by decide +kernel
theorem dX2_valueFor_111 : decode cX2_valueFor 111 = .ok (.goto 4, 3) := by decide +kernel
theorem dX2_valueFor_114 : decode cX2_valueFor 114 = .ok (.lconst 0, 1) := by decide +kernel
theorem dX2_valueFor_115 : decode cX2_valueFor 115 = .ok (.lastore, 1) := by decide +kernel
theorem dX2_valueFor_116 : decode cX2_valueFor 116 = .ok (.goto 55, 3) := by decide +kernel
theorem dX2_valueFor_119 : decode cX2_valueFor 119 = .ok (.iload_n 3, 1) := by decide +kernel
theorem dX2_valueFor_120 : decode cX2_valueFor 120 = .ok (.iconst 1, 1) := by decide +kernel
theorem dX2_valueFor_121 : decode cX2_valueFor 121 = .ok (.if_icmp .le 50, 3) := by decide +kernel
theorem dX2_valueFor_124 : decode cX2_valueFor 124 = .ok (.iinc 3 (-1), 3) := by decide +kernel
theorem dX2_valueFor_127 : decode cX2_valueFor 127 = .ok (.iload 5, 2) := by decide +kernel
theorem dX2_valueFor_129 : decode cX2_valueFor 129 = .ok (.aload_n 2, 1) := by decide +kernel
theorem dX2_valueFor_130 : decode cX2_valueFor 130 = .ok (.iload_n 3, 1) := by decide +kernel
theorem dX2_valueFor_131 : decode cX2_valueFor 131 = .ok (.iconst 1, 1) := by decide +kernel
theorem dX2_valueFor_132 : decode cX2_valueFor 132 = .ok (.isub, 1) := by decide +kernel
theorem dX2_valueFor_133 : decode cX2_valueFor 133 = .ok (.laload, 1) := by decide +kernel
theorem dX2_valueFor_134 : decode cX2_valueFor 134 = .ok (.aload_n 2, 1) := by decide +kernel
theorem dX2_valueFor_135 : decode cX2_valueFor 135 = .ok (.iload_n 3, 1) := by decide +kernel
theorem dX2_valueFor_136 : decode cX2_valueFor 136 = .ok (.laload, 1) := by decide +kernel
theorem dX2_valueFor_137 : decode cX2_valueFor 137 = .ok (.invokestatic 23, 3) := by decide +kernel
theorem dX2_valueFor_140 : decode cX2_valueFor 140 = .ok (.lstore 6, 2) := by decide +kernel
theorem dX2_valueFor_142 : decode cX2_valueFor 142 = .ok (.lload 6, 2) := by decide +kernel
theorem dX2_valueFor_144 : decode cX2_valueFor 144 = .ok (.ldc2_w 27, 3) := by decide +kernel
theorem dX2_valueFor_147 : decode cX2_valueFor 147 = .ok (.lcmp, 1) := by decide +kernel
theorem dX2_valueFor_148 : decode cX2_valueFor 148 = .ok (.ifCond .gt 12, 3) := by decide +kernel
theorem dX2_valueFor_151 : decode cX2_valueFor 151 = .ok (.lload 6, 2) := by decide +kernel
theorem dX2_valueFor_153 : decode cX2_valueFor 153 = .ok (.ldc2_w 29, 3) := by decide +kernel
theorem dX2_valueFor_156 : decode cX2_valueFor 156 = .ok (.lcmp, 1) := by decide +kernel
theorem dX2_valueFor_157 : decode cX2_valueFor 157 = .ok (.ifCond .ge 7, 3) := by decide +kernel
theorem dX2_valueFor_160 : decode cX2_valueFor 160 = .ok (.ldc2_w 31, 3) := by decide +kernel
theorem dX2_valueFor_163 : decode cX2_valueFor 163 = .ok (.lreturn, 1) := by decide +kernel
theorem dX2_valueFor_164 : decode cX2_valueFor 164 = .ok (.aload_n 2, 1) := by decide +kernel
theorem dX2_valueFor_165 : decode cX2_valueFor 165 = .ok (.iload_n 3, 1) := by decide +kernel
theorem dX2_valueFor_166 : decode cX2_valueFor 166 = .ok (.iconst 1, 1) := by decide +kernel
theorem dX2_valueFor_167 : decode cX2_valueFor 167 = .ok (.isub, 1) := by decide +kernel
theorem dX2_valueFor_168 : decode cX2_valueFor 168 = .ok (.lload 6, 2) := by decide +kernel
theorem dX2_valueFor_170 : decode cX2_valueFor 170 = .ok (.lastore, 1) := by decide +kernel
theorem dX2_valueFor_171 : decode cX2_valueFor 171 = .ok (.iinc 4 1, 3) := by decide +kernel
theorem dX2_valueFor_174 : decode cX2_valueFor 174 = .ok (.goto (-169), 3) := by decide +kernel
theorem dX2_valueFor_177 : decode cX2_valueFor 177 = .ok (.iload_n 3, 1) := by decide +kernel
theorem dX2_valueFor_178 : decode cX2_valueFor 178 = .ok (.iconst 1, 1) := by decide +kernel
theorem dX2_valueFor_179 : decode cX2_valueFor 179 = .ok (.if_icmp .ne 9, 3) := by decide +kernel
theorem dX2_valueFor_182 : decode cX2_valueFor 182 = .ok (.aload_n 2, 1) := by decide +kernel
theorem dX2_valueFor_183 : decode cX2_valueFor 183 = .ok (.iconst 0, 1) := by decide +kernel
theorem dX2_valueFor_184 : decode cX2_valueFor 184 = .ok (.laload, 1) := by decide +kernel
theorem dX2_valueFor_185 : decode cX2_valueFor 185 = .ok (.goto 6, 3) := by decide +kernel
theorem dX2_valueFor_188 : decode cX2_valueFor 188 = .ok (.ldc2_w 31, 3) := by decide +kernel
theorem dX2_valueFor_191 : decode cX2_valueFor 191 = .ok (.lreturn, 1) := by decide +kernel
theorem dX6_awayFor_0 : decode cX6_awayFor 0 = .ok (.aload_n 0, 1) := by decide +kernel
theorem dX6_awayFor_1 : decode cX6_awayFor 1 = .ok (.iload_n 1, 1) := by decide +kernel
theorem dX6_awayFor_2 : decode cX6_awayFor 2 = .ok (.iload_n 2, 1) := by decide +kernel
theorem dX6_awayFor_3 : decode cX6_awayFor 3 = .ok (.invokevirtual 118, 3) := by decide +kernel
theorem dX6_awayFor_6 : decode cX6_awayFor 6 = .ok (.aload_n 0, 1) := by decide +kernel
theorem dX6_awayFor_7 : decode cX6_awayFor 7 = .ok (.getfield 9, 3) := by decide +kernel
theorem dX6_awayFor_10 : decode cX6_awayFor 10 = .ok (.getfield 76, 3) := by decide +kernel
theorem dX6_awayFor_13 : decode cX6_awayFor 13 = .ok (.iconst 2, 1) := by decide +kernel
theorem dX6_awayFor_14 : decode cX6_awayFor 14 = .ok (.aaload, 1) := by decide +kernel
theorem dX6_awayFor_15 : decode cX6_awayFor 15 = .ok (.aload_n 0, 1) := by decide +kernel
theorem dX6_awayFor_16 : decode cX6_awayFor 16 = .ok (.getfield 25, 3) := by decide +kernel
theorem dX6_awayFor_19 : decode cX6_awayFor 19 = .ok (.aload_n 0, 1) := by decide +kernel
theorem dX6_awayFor_20 : decode cX6_awayFor 20 = .ok (.getfield 29, 3) := by decide +kernel
theorem dX6_awayFor_23 : decode cX6_awayFor 23 = .ok (.invokevirtual 80, 3) := by decide +kernel
theorem dX6_awayFor_26 : decode cX6_awayFor 26 = .ok (.lstore_n 3, 1) := by decide +kernel
theorem dX6_awayFor_27 : decode cX6_awayFor 27 = .ok (.lload_n 3, 1) := by decide +kernel
theorem dX6_awayFor_28 : decode cX6_awayFor 28 = .ok (.ldc2_w 90, 3) := by decide +kernel
theorem dX6_awayFor_31 : decode cX6_awayFor 31 = .ok (.lcmp, 1) := by decide +kernel
theorem dX6_awayFor_32 : decode cX6_awayFor 32 = .ok (.ifCond .ne 7, 3) := by decide +kernel
theorem dX6_awayFor_35 : decode cX6_awayFor 35 = .ok (.iconst 5, 1) := by decide +kernel
theorem dX6_awayFor_36 : decode cX6_awayFor 36 = .ok (.goto 15, 3) := by decide +kernel
theorem dX6_awayFor_39 : decode cX6_awayFor 39 = .ok (.lconst 1, 1) := by decide +kernel
theorem dX6_awayFor_40 : decode cX6_awayFor 40 = .ok (.ldc2_w 139, 3) := by decide +kernel
theorem dX6_awayFor_43 : decode cX6_awayFor 43 = .ok (.lload_n 3, 1) := by decide +kernel
theorem dX6_awayFor_44 : decode cX6_awayFor 44 = .ok (.invokestatic 96, 3) := by decide +kernel
theorem dX6_awayFor_47 : decode cX6_awayFor 47 = .ok (.invokestatic 102, 3) := by decide +kernel
theorem dX6_awayFor_50 : decode cX6_awayFor 50 = .ok (.l2i, 1) := by decide +kernel
theorem dX6_awayFor_51 : decode cX6_awayFor 51 = .ok (.ireturn, 1) := by decide +kernel
theorem dX8_farFrom_0 : decode cX8_farFrom 0 = .ok (.aload_n 0, 1) := by decide +kernel
theorem dX8_farFrom_1 : decode cX8_farFrom 1 = .ok (.getfield 32, 3) := by decide +kernel
theorem dX8_farFrom_4 : decode cX8_farFrom 4 = .ok (.iconst 1, 1) := by decide +kernel
theorem dX8_farFrom_5 : decode cX8_farFrom 5 = .ok (.if_icmp .ge 5, 3) := by decide +kernel
theorem dX8_farFrom_8 : decode cX8_farFrom 8 = .ok (.iconst 0, 1) := by decide +kernel
theorem dX8_farFrom_9 : decode cX8_farFrom 9 = .ok (.ireturn, 1) := by decide +kernel
theorem dX8_farFrom_10 : decode cX8_farFrom 10 = .ok (.iload_n 1, 1) := by decide +kernel
theorem dX8_farFrom_11 : decode cX8_farFrom 11 = .ok (.aload_n 0, 1) := by decide +kernel
theorem dX8_farFrom_12 : decode cX8_farFrom 12 = .ok (.getfield 32, 3) := by decide +kernel
theorem dX8_farFrom_15 : decode cX8_farFrom 15 = .ok (.irem, 1) := by decide +kernel
theorem dX8_farFrom_16 : decode cX8_farFrom 16 = .ok (.iload_n 2, 1) := by decide +kernel
theorem dX8_farFrom_17 : decode cX8_farFrom 17 = .ok (.isub, 1) := by decide +kernel
theorem dX8_farFrom_18 : decode cX8_farFrom 18 = .ok (.invokestatic 73, 3) := by decide +kernel
theorem dX8_farFrom_21 : decode cX8_farFrom 21 = .ok (.iload_n 1, 1) := by decide +kernel
theorem dX8_farFrom_22 : decode cX8_farFrom 22 = .ok (.aload_n 0, 1) := by decide +kernel
theorem dX8_farFrom_23 : decode cX8_farFrom 23 = .ok (.getfield 32, 3) := by decide +kernel
theorem dX8_farFrom_26 : decode cX8_farFrom 26 = .ok (.idiv, 1) := by decide +kernel
theorem dX8_farFrom_27 : decode cX8_farFrom 27 = .ok (.aload_n 0, 1) := by decide +kernel
theorem dX8_farFrom_28 : decode cX8_farFrom 28 = .ok (.getfield 42, 3) := by decide +kernel
theorem dX8_farFrom_31 : decode cX8_farFrom 31 = .ok (.isub, 1) := by decide +kernel
theorem dX8_farFrom_32 : decode cX8_farFrom 32 = .ok (.invokestatic 73, 3) := by decide +kernel
theorem dX8_farFrom_35 : decode cX8_farFrom 35 = .ok (.iadd, 1) := by decide +kernel
theorem dX8_farFrom_36 : decode cX8_farFrom 36 = .ok (.ireturn, 1) := by decide +kernel
theorem dX8_rowOf_0 : decode cX8_rowOf 0 = .ok (.aload_n 0, 1) := by decide +kernel
theorem dX8_rowOf_1 : decode cX8_rowOf 1 = .ok (.getfield 32, 3) := by decide +kernel
theorem dX8_rowOf_4 : decode cX8_rowOf 4 = .ok (.ifCond .le 12, 3) := by decide +kernel
theorem dX8_rowOf_7 : decode cX8_rowOf 7 = .ok (.iload_n 1, 1) := by decide +kernel
theorem dX8_rowOf_8 : decode cX8_rowOf 8 = .ok (.aload_n 0, 1) := by decide +kernel
theorem dX8_rowOf_9 : decode cX8_rowOf 9 = .ok (.getfield 32, 3) := by decide +kernel
theorem dX8_rowOf_12 : decode cX8_rowOf 12 = .ok (.idiv, 1) := by decide +kernel
theorem dX8_rowOf_13 : decode cX8_rowOf 13 = .ok (.goto 4, 3) := by decide +kernel
theorem dX8_rowOf_16 : decode cX8_rowOf 16 = .ok (.iconst 0, 1) := by decide +kernel
theorem dX8_rowOf_17 : decode cX8_rowOf 17 = .ok (.ireturn, 1) := by decide +kernel
theorem dX6_nameCatch_0 : decode cX6_nameCatch 0 = .ok (.aload_n 0, 1) := by decide +kernel
theorem dX6_nameCatch_1 : decode cX6_nameCatch 1 = .ok (.iload_n 1, 1) := by decide +kernel
theorem dX6_nameCatch_2 : decode cX6_nameCatch 2 = .ok (.iload_n 2, 1) := by decide +kernel
theorem dX6_nameCatch_3 : decode cX6_nameCatch 3 = .ok (.invokevirtual 118, 3) := by decide +kernel
theorem dX6_nameCatch_6 : decode cX6_nameCatch 6 = .ok (.aload_n 0, 1) := by decide +kernel
theorem dX6_nameCatch_7 : decode cX6_nameCatch 7 = .ok (.getfield 25, 3) := by decide +kernel
theorem dX6_nameCatch_10 : decode cX6_nameCatch 10 = .ok (.iconst 0, 1) := by decide +kernel
theorem dX6_nameCatch_11 : decode cX6_nameCatch 11 = .ok (.aload_n 0, 1) := by decide +kernel
theorem dX6_nameCatch_12 : decode cX6_nameCatch 12 = .ok (.getfield 9, 3) := by decide +kernel
theorem dX6_nameCatch_15 : decode cX6_nameCatch 15 = .ok (.iload_n 3, 1) := by decide +kernel
theorem dX6_nameCatch_16 : decode cX6_nameCatch 16 = .ok (.aload_n 0, 1) := by decide +kernel
theorem dX6_nameCatch_17 : decode cX6_nameCatch 17 = .ok (.getfield 22, 3) := by decide +kernel
theorem dX6_nameCatch_20 : decode cX6_nameCatch 20 = .ok (.iload_n 2, 1) := by decide +kernel
theorem dX6_nameCatch_21 : decode cX6_nameCatch 21 = .ok (.iaload, 1) := by decide +kernel
theorem dX6_nameCatch_22 : decode cX6_nameCatch 22 = .ok (.invokevirtual 108, 3) := by decide +kernel
theorem dX6_nameCatch_25 : decode cX6_nameCatch 25 = .ok (.i2l, 1) := by decide +kernel
theorem dX6_nameCatch_26 : decode cX6_nameCatch 26 = .ok (.lastore, 1) := by decide +kernel
theorem dX6_nameCatch_27 : decode cX6_nameCatch 27 = .ok (.aload_n 0, 1) := by decide +kernel
theorem dX6_nameCatch_28 : decode cX6_nameCatch 28 = .ok (.getfield 25, 3) := by decide +kernel
theorem dX6_nameCatch_31 : decode cX6_nameCatch 31 = .ok (.iconst 1, 1) := by decide +kernel
theorem dX6_nameCatch_32 : decode cX6_nameCatch 32 = .ok (.aload_n 0, 1) := by decide +kernel
theorem dX6_nameCatch_33 : decode cX6_nameCatch 33 = .ok (.getfield 9, 3) := by decide +kernel
theorem dX6_nameCatch_36 : decode cX6_nameCatch 36 = .ok (.iload_n 3, 1) := by decide +kernel
theorem dX6_nameCatch_37 : decode cX6_nameCatch 37 = .ok (.invokevirtual 122, 3) := by decide +kernel
theorem dX6_nameCatch_40 : decode cX6_nameCatch 40 = .ok (.aload_n 0, 1) := by decide +kernel
theorem dX6_nameCatch_41 : decode cX6_nameCatch 41 = .ok (.getfield 9, 3) := by decide +kernel
theorem dX6_nameCatch_44 : decode cX6_nameCatch 44 = .ok (.getfield 125, 3) := by decide +kernel
theorem dX6_nameCatch_47 : decode cX6_nameCatch 47 = .ok (.isub, 1) := by decide +kernel
theorem dX6_nameCatch_48 : decode cX6_nameCatch 48 = .ok (.i2l, 1) := by decide +kernel
theorem dX6_nameCatch_49 : decode cX6_nameCatch 49 = .ok (.lastore, 1) := by decide +kernel
theorem dX6_nameCatch_50 : decode cX6_nameCatch 50 = .ok (.return_, 1) := by decide +kernel
theorem dX6_farOf_0 : decode cX6_farOf 0 = .ok (.aload_n 0, 1) := by decide +kernel
theorem dX6_farOf_1 : decode cX6_farOf 1 = .ok (.getfield 9, 3) := by decide +kernel
theorem dX6_farOf_4 : decode cX6_farOf 4 = .ok (.iload_n 1, 1) := by decide +kernel
theorem dX6_farOf_5 : decode cX6_farOf 5 = .ok (.aload_n 0, 1) := by decide +kernel
theorem dX6_farOf_6 : decode cX6_farOf 6 = .ok (.getfield 22, 3) := by decide +kernel
theorem dX6_farOf_9 : decode cX6_farOf 9 = .ok (.iload_n 2, 1) := by decide +kernel
theorem dX6_farOf_10 : decode cX6_farOf 10 = .ok (.iaload, 1) := by decide +kernel
theorem dX6_farOf_11 : decode cX6_farOf 11 = .ok (.invokevirtual 108, 3) := by decide +kernel
theorem dX6_farOf_14 : decode cX6_farOf 14 = .ok (.ireturn, 1) := by decide +kernel
theorem dX6_oddsAt_0 : decode cX6_oddsAt 0 = .ok (.aload_n 0, 1) := by decide +kernel
theorem dX6_oddsAt_1 : decode cX6_oddsAt 1 = .ok (.iload_n 1, 1) := by decide +kernel
theorem dX6_oddsAt_2 : decode cX6_oddsAt 2 = .ok (.iload_n 2, 1) := by decide +kernel
theorem dX6_oddsAt_3 : decode cX6_oddsAt 3 = .ok (.iload_n 3, 1) := by decide +kernel
theorem dX6_oddsAt_4 : decode cX6_oddsAt 4 = .ok (.invokevirtual 128, 3) := by decide +kernel
theorem dX6_oddsAt_7 : decode cX6_oddsAt 7 = .ok (.aload_n 0, 1) := by decide +kernel
theorem dX6_oddsAt_8 : decode cX6_oddsAt 8 = .ok (.getfield 9, 3) := by decide +kernel
theorem dX6_oddsAt_11 : decode cX6_oddsAt 11 = .ok (.getfield 76, 3) := by decide +kernel
theorem dX6_oddsAt_14 : decode cX6_oddsAt 14 = .ok (.iconst 0, 1) := by decide +kernel
theorem dX6_oddsAt_15 : decode cX6_oddsAt 15 = .ok (.aaload, 1) := by decide +kernel
theorem dX6_oddsAt_16 : decode cX6_oddsAt 16 = .ok (.aload_n 0, 1) := by decide +kernel
theorem dX6_oddsAt_17 : decode cX6_oddsAt 17 = .ok (.getfield 25, 3) := by decide +kernel
theorem dX6_oddsAt_20 : decode cX6_oddsAt 20 = .ok (.aload_n 0, 1) := by decide +kernel
theorem dX6_oddsAt_21 : decode cX6_oddsAt 21 = .ok (.getfield 29, 3) := by decide +kernel
theorem dX6_oddsAt_24 : decode cX6_oddsAt 24 = .ok (.invokevirtual 80, 3) := by decide +kernel
theorem dX6_oddsAt_27 : decode cX6_oddsAt 27 = .ok (.lstore 4, 2) := by decide +kernel
theorem dX6_oddsAt_29 : decode cX6_oddsAt 29 = .ok (.lload 4, 2) := by decide +kernel
theorem dX6_oddsAt_31 : decode cX6_oddsAt 31 = .ok (.ldc2_w 90, 3) := by decide +kernel
theorem dX6_oddsAt_34 : decode cX6_oddsAt 34 = .ok (.lcmp, 1) := by decide +kernel
theorem dX6_oddsAt_35 : decode cX6_oddsAt 35 = .ok (.ifCond .ne 20, 3) := by decide +kernel
theorem dX6_oddsAt_38 : decode cX6_oddsAt 38 = .ok (.iconst 0, 1) := by decide +kernel
theorem dX6_oddsAt_39 : decode cX6_oddsAt 39 = .ok (.bipush 100, 2) := by decide +kernel
theorem dX6_oddsAt_41 : decode cX6_oddsAt 41 = .ok (.bipush 20, 2) := by decide +kernel
theorem dX6_oddsAt_43 : decode cX6_oddsAt 43 = .ok (.aload_n 0, 1) := by decide +kernel
theorem dX6_oddsAt_44 : decode cX6_oddsAt 44 = .ok (.iload_n 3, 1) := by decide +kernel
theorem dX6_oddsAt_45 : decode cX6_oddsAt 45 = .ok (.iload_n 2, 1) := by decide +kernel
theorem dX6_oddsAt_46 : decode cX6_oddsAt 46 = .ok (.invokevirtual 132, 3) := by decide +kernel
theorem dX6_oddsAt_49 : decode cX6_oddsAt 49 = .ok (.imul, 1) := by decide +kernel
theorem dX6_oddsAt_50 : decode cX6_oddsAt 50 = .ok (.isub, 1) := by decide +kernel
theorem dX6_oddsAt_51 : decode cX6_oddsAt 51 = .ok (.invokestatic 135, 3) := by decide +kernel
theorem dX6_oddsAt_54 : decode cX6_oddsAt 54 = .ok (.ireturn, 1) := by decide +kernel
theorem dX6_oddsAt_55 : decode cX6_oddsAt 55 = .ok (.lconst 0, 1) := by decide +kernel
theorem dX6_oddsAt_56 : decode cX6_oddsAt 56 = .ok (.ldc2_w 137, 3) := by decide +kernel
theorem dX6_oddsAt_59 : decode cX6_oddsAt 59 = .ok (.lload 4, 2) := by decide +kernel
theorem dX6_oddsAt_61 : decode cX6_oddsAt 61 = .ok (.invokestatic 96, 3) := by decide +kernel
theorem dX6_oddsAt_64 : decode cX6_oddsAt 64 = .ok (.invokestatic 102, 3) := by decide +kernel
theorem dX6_oddsAt_67 : decode cX6_oddsAt 67 = .ok (.l2i, 1) := by decide +kernel
theorem dX6_oddsAt_68 : decode cX6_oddsAt 68 = .ok (.ireturn, 1) := by decide +kernel
theorem dX6_worthAt_0 : decode cX6_worthAt 0 = .ok (.aload_n 0, 1) := by decide +kernel
theorem dX6_worthAt_1 : decode cX6_worthAt 1 = .ok (.iload_n 1, 1) := by decide +kernel
theorem dX6_worthAt_2 : decode cX6_worthAt 2 = .ok (.iload_n 2, 1) := by decide +kernel
theorem dX6_worthAt_3 : decode cX6_worthAt 3 = .ok (.iload_n 3, 1) := by decide +kernel
theorem dX6_worthAt_4 : decode cX6_worthAt 4 = .ok (.invokevirtual 141, 3) := by decide +kernel
theorem dX6_worthAt_7 : decode cX6_worthAt 7 = .ok (.aload_n 0, 1) := by decide +kernel
theorem dX6_worthAt_8 : decode cX6_worthAt 8 = .ok (.getfield 9, 3) := by decide +kernel
theorem dX6_worthAt_11 : decode cX6_worthAt 11 = .ok (.getfield 57, 3) := by decide +kernel
theorem dX6_worthAt_14 : decode cX6_worthAt 14 = .ok (.getfield 112, 3) := by decide +kernel
theorem dX6_worthAt_17 : decode cX6_worthAt 17 = .ok (.iload_n 2, 1) := by decide +kernel
theorem dX6_worthAt_18 : decode cX6_worthAt 18 = .ok (.iaload, 1) := by decide +kernel
theorem dX6_worthAt_19 : decode cX6_worthAt 19 = .ok (.imul, 1) := by decide +kernel
theorem dX6_worthAt_20 : decode cX6_worthAt 20 = .ok (.ireturn, 1) := by decide +kernel
theorem dX0_makePlan_0 : decode cX0_makePlan 0 = .ok (.aload_n 1, 1) := by decide +kernel
theorem dX0_makePlan_1 : decode cX0_makePlan 1 = .ok (.getfield 43, 3) := by decide +kernel
theorem dX0_makePlan_4 : decode cX0_makePlan 4 = .ok (.getfield 49, 3) := by decide +kernel
theorem dX0_makePlan_7 : decode cX0_makePlan 7 = .ok (.astore 4, 2) := by decide +kernel
theorem dX0_makePlan_9 : decode cX0_makePlan 9 = .ok (.aload 4, 2) := by decide +kernel
theorem dX0_makePlan_11 : decode cX0_makePlan 11 = .ok (.aload_n 2, 1) := by decide +kernel
theorem dX0_makePlan_12 : decode cX0_makePlan 12 = .ok (.getfield 55, 3) := by decide +kernel
theorem dX0_makePlan_15 : decode cX0_makePlan 15 = .ok (.invokevirtual 61, 3) := by decide +kernel
theorem dX0_makePlan_18 : decode cX0_makePlan 18 = .ok (.istore 5, 2) := by decide +kernel
theorem dX0_makePlan_20 : decode cX0_makePlan 20 = .ok (.aload_n 0, 1) := by decide +kernel
theorem dX0_makePlan_21 : decode cX0_makePlan 21 = .ok (.getfield 30, 3) := by decide +kernel
theorem dX0_makePlan_24 : decode cX0_makePlan 24 = .ok (.aload 4, 2) := by decide +kernel
theorem dX0_makePlan_26 : decode cX0_makePlan 26 = .ok (.getfield 71, 3) := by decide +kernel
theorem dX0_makePlan_29 : decode cX0_makePlan 29 = .ok (.iconst 0, 1) := by decide +kernel
theorem dX0_makePlan_30 : decode cX0_makePlan 30 = .ok (.iastore, 1) := by decide +kernel
theorem dX0_makePlan_31 : decode cX0_makePlan 31 = .ok (.aload 4, 2) := by decide +kernel
theorem dX0_makePlan_33 : decode cX0_makePlan 33 = .ok (.getfield 71, 3) := by decide +kernel
theorem dX0_makePlan_36 : decode cX0_makePlan 36 = .ok (.iconst 1, 1) := by decide +kernel
theorem dX0_makePlan_37 : decode cX0_makePlan 37 = .ok (.isub, 1) := by decide +kernel
theorem dX0_makePlan_38 : decode cX0_makePlan 38 = .ok (.istore 6, 2) := by decide +kernel
theorem dX0_makePlan_40 : decode cX0_makePlan 40 = .ok (.iload 6, 2) := by decide +kernel
theorem dX0_makePlan_42 : decode cX0_makePlan 42 = .ok (.iload 5, 2) := by decide +kernel
theorem dX0_makePlan_44 : decode cX0_makePlan 44 = .ok (.if_icmp .lt 112, 3) := by decide +kernel
theorem dX0_makePlan_47 : decode cX0_makePlan 47 = .ok (.aload_n 0, 1) := by decide +kernel
theorem dX0_makePlan_48 : decode cX0_makePlan 48 = .ok (.getfield 33, 3) := by decide +kernel
theorem dX0_makePlan_51 : decode cX0_makePlan 51 = .ok (.iload 6, 2) := by decide +kernel
theorem dX0_makePlan_53 : decode cX0_makePlan 53 = .ok (.aload 4, 2) := by decide +kernel
theorem dX0_makePlan_55 : decode cX0_makePlan 55 = .ok (.aload 4, 2) := by decide +kernel
theorem dX0_makePlan_57 : decode cX0_makePlan 57 = .ok (.getfield 105, 3) := by decide +kernel
theorem dX0_makePlan_60 : decode cX0_makePlan 60 = .ok (.iload 6, 2) := by decide +kernel
theorem dX0_makePlan_62 : decode cX0_makePlan 62 = .ok (.iaload, 1) := by decide +kernel
theorem dX0_makePlan_63 : decode cX0_makePlan 63 = .ok (.aload_n 1, 1) := by decide +kernel
theorem dX0_makePlan_64 : decode cX0_makePlan 64 = .ok (.iload_n 3, 1) := by decide +kernel
theorem dX0_makePlan_65 : decode cX0_makePlan 65 = .ok (.iload 6, 2) := by decide +kernel
theorem dX0_makePlan_67 : decode cX0_makePlan 67 = .ok (.invokevirtual 107, 3) := by decide +kernel
theorem dX0_makePlan_70 : decode cX0_makePlan 70 = .ok (.iadd, 1) := by decide +kernel
theorem dX0_makePlan_71 : decode cX0_makePlan 71 = .ok (.invokevirtual 61, 3) := by decide +kernel
theorem dX0_makePlan_74 : decode cX0_makePlan 74 = .ok (.iastore, 1) := by decide +kernel
theorem dX0_makePlan_75 : decode cX0_makePlan 75 = .ok (.aload_n 1, 1) := by decide +kernel
theorem dX0_makePlan_76 : decode cX0_makePlan 76 = .ok (.iload_n 3, 1) := by decide +kernel
theorem dX0_makePlan_77 : decode cX0_makePlan 77 = .ok (.iload 6, 2) := by decide +kernel
theorem dX0_makePlan_79 : decode cX0_makePlan 79 = .ok (.aload_n 2, 1) := by decide +kernel
theorem dX0_makePlan_80 : decode cX0_makePlan 80 = .ok (.getfield 81, 3) := by decide +kernel
theorem dX0_makePlan_83 : decode cX0_makePlan 83 = .ok (.iload_n 3, 1) := by decide +kernel
theorem dX0_makePlan_84 : decode cX0_makePlan 84 = .ok (.iaload, 1) := by decide +kernel
theorem dX0_makePlan_85 : decode cX0_makePlan 85 = .ok (.invokevirtual 94, 3) := by decide +kernel
theorem dX0_makePlan_88 : decode cX0_makePlan 88 = .ok (.aload_n 0, 1) := by decide +kernel
theorem dX0_makePlan_89 : decode cX0_makePlan 89 = .ok (.getfield 30, 3) := by decide +kernel
theorem dX0_makePlan_92 : decode cX0_makePlan 92 = .ok (.aload_n 0, 1) := by decide +kernel
theorem dX0_makePlan_93 : decode cX0_makePlan 93 = .ok (.getfield 33, 3) := by decide +kernel
theorem dX0_makePlan_96 : decode cX0_makePlan 96 = .ok (.iload 6, 2) := by decide +kernel
theorem dX0_makePlan_98 : decode cX0_makePlan 98 = .ok (.iaload, 1) := by decide +kernel
theorem dX0_makePlan_99 : decode cX0_makePlan 99 = .ok (.iaload, 1) := by decide +kernel
theorem dX0_makePlan_100 : decode cX0_makePlan 100 = .ok (.iadd, 1) := by decide +kernel
theorem dX0_makePlan_101 : decode cX0_makePlan 101 = .ok (.istore 7, 2) := by decide +kernel
theorem dX0_makePlan_103 : decode cX0_makePlan 103 = .ok (.aload_n 0, 1) := by decide +kernel
theorem dX0_makePlan_104 : decode cX0_makePlan 104 = .ok (.getfield 36, 3) := by decide +kernel
theorem dX0_makePlan_107 : decode cX0_makePlan 107 = .ok (.iload 6, 2) := by decide +kernel
theorem dX0_makePlan_109 : decode cX0_makePlan 109 = .ok (.iload 7, 2) := by decide +kernel
theorem dX0_makePlan_111 : decode cX0_makePlan 111 = .ok (.aload_n 0, 1) := by decide +kernel
theorem dX0_makePlan_112 : decode cX0_makePlan 112 = .ok (.getfield 30, 3) := by decide +kernel
theorem dX0_makePlan_115 : decode cX0_makePlan 115 = .ok (.iload 6, 2) := by decide +kernel
theorem dX0_makePlan_117 : decode cX0_makePlan 117 = .ok (.iconst 1, 1) := by decide +kernel
theorem dX0_makePlan_118 : decode cX0_makePlan 118 = .ok (.iadd, 1) := by decide +kernel
theorem dX0_makePlan_119 : decode cX0_makePlan 119 = .ok (.iaload, 1) := by decide +kernel
theorem dX0_makePlan_120 : decode cX0_makePlan 120 = .ok (.if_icmp .lt 7, 3) := by decide +kernel
theorem dX0_makePlan_123 : decode cX0_makePlan 123 = .ok (.iconst 1, 1) := by decide +kernel
theorem dX0_makePlan_124 : decode cX0_makePlan 124 = .ok (.goto 4, 3) := by decide +kernel
theorem dX0_makePlan_127 : decode cX0_makePlan 127 = .ok (.iconst 0, 1) := by decide +kernel
theorem dX0_makePlan_128 : decode cX0_makePlan 128 = .ok (.bastore, 1) := by decide +kernel
theorem dX0_makePlan_129 : decode cX0_makePlan 129 = .ok (.aload_n 0, 1) := by decide +kernel
theorem dX0_makePlan_130 : decode cX0_makePlan 130 = .ok (.getfield 30, 3) := by decide +kernel
theorem dX0_makePlan_133 : decode cX0_makePlan 133 = .ok (.iload 6, 2) := by decide +kernel
theorem dX0_makePlan_135 : decode cX0_makePlan 135 = .ok (.iload 7, 2) := by decide +kernel
theorem dX0_makePlan_137 : decode cX0_makePlan 137 = .ok (.aload_n 0, 1) := by decide +kernel
theorem dX0_makePlan_138 : decode cX0_makePlan 138 = .ok (.getfield 30, 3) := by decide +kernel
theorem dX0_makePlan_141 : decode cX0_makePlan 141 = .ok (.iload 6, 2) := by decide +kernel
theorem dX0_makePlan_143 : decode cX0_makePlan 143 = .ok (.iconst 1, 1) := by decide +kernel
theorem dX0_makePlan_144 : decode cX0_makePlan 144 = .ok (.iadd, 1) := by decide +kernel
theorem dX0_makePlan_145 : decode cX0_makePlan 145 = .ok (.iaload, 1) := by decide +kernel
theorem dX0_makePlan_146 : decode cX0_makePlan 146 = .ok (.invokestatic 110, 3) := by decide +kernel
theorem dX0_makePlan_149 : decode cX0_makePlan 149 = .ok (.iastore, 1) := by decide +kernel
theorem dX0_makePlan_150 : decode cX0_makePlan 150 = .ok (.iinc 6 (-1), 3) := by decide +kernel
theorem dX0_makePlan_153 : decode cX0_makePlan 153 = .ok (.goto (-113), 3) := by decide +kernel
theorem dX0_makePlan_156 : decode cX0_makePlan 156 = .ok (.aload_n 0, 1) := by decide +kernel
theorem dX0_makePlan_157 : decode cX0_makePlan 157 = .ok (.aload_n 0, 1) := by decide +kernel
theorem dX0_makePlan_158 : decode cX0_makePlan 158 = .ok (.getfield 30, 3) := by decide +kernel
theorem dX0_makePlan_161 : decode cX0_makePlan 161 = .ok (.iload 5, 2) := by decide +kernel
theorem dX0_makePlan_163 : decode cX0_makePlan 163 = .ok (.iaload, 1) := by decide +kernel
theorem dX0_makePlan_164 : decode cX0_makePlan 164 = .ok (.putfield 115, 3) := by decide +kernel
theorem dX0_makePlan_167 : decode cX0_makePlan 167 = .ok (.aload_n 0, 1) := by decide +kernel
theorem dX0_makePlan_168 : decode cX0_makePlan 168 = .ok (.iload 5, 2) := by decide +kernel
theorem dX0_makePlan_170 : decode cX0_makePlan 170 = .ok (.aload 4, 2) := by decide +kernel
theorem dX0_makePlan_172 : decode cX0_makePlan 172 = .ok (.getfield 71, 3) := by decide +kernel
theorem dX0_makePlan_175 : decode cX0_makePlan 175 = .ok (.invokevirtual 118, 3) := by decide +kernel
theorem dX0_makePlan_178 : decode cX0_makePlan 178 = .ok (.return_, 1) := by decide +kernel
theorem dX8_columnOf_0 : decode cX8_columnOf 0 = .ok (.aload_n 0, 1) := by decide +kernel
theorem dX8_columnOf_1 : decode cX8_columnOf 1 = .ok (.getfield 32, 3) := by decide +kernel
theorem dX8_columnOf_4 : decode cX8_columnOf 4 = .ok (.ifCond .le 12, 3) := by decide +kernel
theorem dX8_columnOf_7 : decode cX8_columnOf 7 = .ok (.iload_n 1, 1) := by decide +kernel
theorem dX8_columnOf_8 : decode cX8_columnOf 8 = .ok (.aload_n 0, 1) := by decide +kernel
theorem dX8_columnOf_9 : decode cX8_columnOf 9 = .ok (.getfield 32, 3) := by decide +kernel
theorem dX8_columnOf_12 : decode cX8_columnOf 12 = .ok (.irem, 1) := by decide +kernel
theorem dX8_columnOf_13 : decode cX8_columnOf 13 = .ok (.goto 4, 3) := by decide +kernel
theorem dX8_columnOf_16 : decode cX8_columnOf 16 = .ok (.iconst 0, 1) := by decide +kernel
theorem dX8_columnOf_17 : decode cX8_columnOf 17 = .ok (.ireturn, 1) := by decide +kernel
theorem dX8_cellBeside_0 : decode cX8_cellBeside 0 = .ok (.aload_n 0, 1) := by decide +kernel
theorem dX8_cellBeside_1 : decode cX8_cellBeside 1 = .ok (.iload_n 1, 1) := by decide +kernel
theorem dX8_cellBeside_2 : decode cX8_cellBeside 2 = .ok (.invokevirtual 79, 3) := by decide +kernel
theorem dX8_cellBeside_5 : decode cX8_cellBeside 5 = .ok (.istore_n 3, 1) := by decide +kernel
theorem dX8_cellBeside_6 : decode cX8_cellBeside 6 = .ok (.aload_n 0, 1) := by decide +kernel
theorem dX8_cellBeside_7 : decode cX8_cellBeside 7 = .ok (.iload_n 1, 1) := by decide +kernel
theorem dX8_cellBeside_8 : decode cX8_cellBeside 8 = .ok (.invokevirtual 82, 3) := by decide +kernel
theorem dX8_cellBeside_11 : decode cX8_cellBeside 11 = .ok (.istore 4, 2) := by decide +kernel
theorem dX8_cellBeside_13 : decode cX8_cellBeside 13 = .ok (.iload_n 2, 1) := by decide +kernel
theorem dX8_cellBeside_14 : decode cX8_cellBeside 14 = .ok (.tableswitch 98 0 3 #[30, 46, 64, 86], 30) := by decide +kernel
theorem dX8_cellBeside_44 : decode cX8_cellBeside 44 = .ok (.iload 4, 2) := by decide +kernel
theorem dX8_cellBeside_46 : decode cX8_cellBeside 46 = .ok (.ifCond .le 12, 3) := by decide +kernel
theorem dX8_cellBeside_49 : decode cX8_cellBeside 49 = .ok (.iload_n 1, 1) := by decide +kernel
theorem dX8_cellBeside_50 : decode cX8_cellBeside 50 = .ok (.aload_n 0, 1) := by decide +kernel
theorem dX8_cellBeside_51 : decode cX8_cellBeside 51 = .ok (.getfield 32, 3) := by decide +kernel
theorem dX8_cellBeside_54 : decode cX8_cellBeside 54 = .ok (.isub, 1) := by decide +kernel
theorem dX8_cellBeside_55 : decode cX8_cellBeside 55 = .ok (.goto 4, 3) := by decide +kernel
theorem dX8_cellBeside_58 : decode cX8_cellBeside 58 = .ok (.iconst (-1), 1) := by decide +kernel
theorem dX8_cellBeside_59 : decode cX8_cellBeside 59 = .ok (.ireturn, 1) := by decide +kernel
theorem dX8_cellBeside_60 : decode cX8_cellBeside 60 = .ok (.iload_n 3, 1) := by decide +kernel
theorem dX8_cellBeside_61 : decode cX8_cellBeside 61 = .ok (.aload_n 0, 1) := by decide +kernel
theorem dX8_cellBeside_62 : decode cX8_cellBeside 62 = .ok (.getfield 32, 3) := by decide +kernel
theorem dX8_cellBeside_65 : decode cX8_cellBeside 65 = .ok (.iconst 1, 1) := by decide +kernel
theorem dX8_cellBeside_66 : decode cX8_cellBeside 66 = .ok (.isub, 1) := by decide +kernel
theorem dX8_cellBeside_67 : decode cX8_cellBeside 67 = .ok (.if_icmp .ge 9, 3) := by decide +kernel
theorem dX8_cellBeside_70 : decode cX8_cellBeside 70 = .ok (.iload_n 1, 1) := by decide +kernel
theorem dX8_cellBeside_71 : decode cX8_cellBeside 71 = .ok (.iconst 1, 1) := by decide +kernel
theorem dX8_cellBeside_72 : decode cX8_cellBeside 72 = .ok (.iadd, 1) := by decide +kernel
theorem dX8_cellBeside_73 : decode cX8_cellBeside 73 = .ok (.goto 4, 3) := by decide +kernel
theorem dX8_cellBeside_76 : decode cX8_cellBeside 76 = .ok (.iconst (-1), 1) := by decide +kernel
theorem dX8_cellBeside_77 : decode cX8_cellBeside 77 = .ok (.ireturn, 1) := by decide +kernel
theorem dX8_cellBeside_78 : decode cX8_cellBeside 78 = .ok (.iload 4, 2) := by decide +kernel
theorem dX8_cellBeside_80 : decode cX8_cellBeside 80 = .ok (.aload_n 0, 1) := by decide +kernel
theorem dX8_cellBeside_81 : decode cX8_cellBeside 81 = .ok (.getfield 36, 3) := by decide +kernel
theorem dX8_cellBeside_84 : decode cX8_cellBeside 84 = .ok (.iconst 1, 1) := by decide +kernel
theorem dX8_cellBeside_85 : decode cX8_cellBeside 85 = .ok (.isub, 1) := by decide +kernel
theorem dX8_cellBeside_86 : decode cX8_cellBeside 86 = .ok (.if_icmp .ge 12, 3) := by decide +kernel
