theorem dX11_fairest_0 : decode cX11_fairest 0 = .ok (.iload_n 1, 1) := by decide +kernel
theorem dX11_fairest_1 : decode cX11_fairest 1 = .ok (.ifCond .ge 5, 3) := by decide +kernel
theorem dX11_fairest_4 : decode cX11_fairest 4 = .ok (.iconst (-1), 1) := by decide +kernel
theorem dX11_fairest_5 : decode cX11_fairest 5 = .ok (.ireturn, 1) := by decide +kernel
theorem dX11_fairest_6 : decode cX11_fairest 6 = .ok (.iconst (-1), 1) := by decide +kernel
theorem dX11_fairest_7 : decode cX11_fairest 7 = .ok (.istore_n 2, 1) := by decide +kernel
theorem dX11_fairest_8 : decode cX11_fairest 8 = .ok (.iconst 0, 1) := by decide +kernel
theorem dX11_fairest_9 : decode cX11_fairest 9 = .ok (.istore_n 3, 1) := by decide +kernel
theorem dX11_fairest_10 : decode cX11_fairest 10 = .ok (.iconst 0, 1) := by decide +kernel
theorem dX11_fairest_11 : decode cX11_fairest 11 = .ok (.istore 4, 2) := by decide +kernel
theorem dX11_fairest_13 : decode cX11_fairest 13 = .ok (.iconst 0, 1) := by decide +kernel
theorem dX11_fairest_14 : decode cX11_fairest 14 = .ok (.istore 5, 2) := by decide +kernel
theorem dX11_fairest_16 : decode cX11_fairest 16 = .ok (.iload 5, 2) := by decide +kernel
theorem dX11_fairest_18 : decode cX11_fairest 18 = .ok (.iconst 4, 1) := by decide +kernel
theorem dX11_fairest_19 : decode cX11_fairest 19 = .ok (.if_icmp .ge 86, 3) := by decide +kernel
theorem dX11_fairest_22 : decode cX11_fairest 22 = .ok (.aload_n 0, 1) := by decide +kernel
theorem dX11_fairest_23 : decode cX11_fairest 23 = .ok (.iload 5, 2) := by decide +kernel
theorem dX11_fairest_25 : decode cX11_fairest 25 = .ok (.iload_n 1, 1) := by decide +kernel
theorem dX11_fairest_26 : decode cX11_fairest 26 = .ok (.invokevirtual 284, 3) := by decide +kernel
theorem dX11_fairest_29 : decode cX11_fairest 29 = .ok (.aload_n 0, 1) := by decide +kernel
theorem dX11_fairest_30 : decode cX11_fairest 30 = .ok (.getfield 51, 3) := by decide +kernel
theorem dX11_fairest_33 : decode cX11_fairest 33 = .ok (.aload_n 0, 1) := by decide +kernel
theorem dX11_fairest_34 : decode cX11_fairest 34 = .ok (.getfield 18, 3) := by decide +kernel
theorem dX11_fairest_37 : decode cX11_fairest 37 = .ok (.getfield 102, 3) := by decide +kernel
theorem dX11_fairest_40 : decode cX11_fairest 40 = .ok (.getfield 106, 3) := by decide +kernel
theorem dX11_fairest_43 : decode cX11_fairest 43 = .ok (.invokevirtual 293, 3) := by decide +kernel
theorem dX11_fairest_46 : decode cX11_fairest 46 = .ok (.istore 6, 2) := by decide +kernel
theorem dX11_fairest_48 : decode cX11_fairest 48 = .ok (.aload_n 0, 1) := by decide +kernel
theorem dX11_fairest_49 : decode cX11_fairest 49 = .ok (.getfield 51, 3) := by decide +kernel
theorem dX11_fairest_52 : decode cX11_fairest 52 = .ok (.getfield 287, 3) := by decide +kernel
theorem dX11_fairest_55 : decode cX11_fairest 55 = .ok (.aload_n 0, 1) := by decide +kernel
theorem dX11_fairest_56 : decode cX11_fairest 56 = .ok (.getfield 51, 3) := by decide +kernel
theorem dX11_fairest_59 : decode cX11_fairest 59 = .ok (.getfield 290, 3) := by decide +kernel
theorem dX11_fairest_62 : decode cX11_fairest 62 = .ok (.iadd, 1) := by decide +kernel
theorem dX11_fairest_63 : decode cX11_fairest 63 = .ok (.istore 7, 2) := by decide +kernel
theorem dX11_fairest_65 : decode cX11_fairest 65 = .ok (.iload_n 2, 1) := by decide +kernel
theorem dX11_fairest_66 : decode cX11_fairest 66 = .ok (.iconst (-1), 1) := by decide +kernel
theorem dX11_fairest_67 : decode cX11_fairest 67 = .ok (.if_icmp .eq 22, 3) := by decide +kernel
theorem dX11_fairest_70 : decode cX11_fairest 70 = .ok (.iload 6, 2) := by decide +kernel
theorem dX11_fairest_72 : decode cX11_fairest 72 = .ok (.iload_n 3, 1) := by decide +kernel
theorem dX11_fairest_73 : decode cX11_fairest 73 = .ok (.if_icmp .lt 16, 3) := by decide +kernel
theorem dX11_fairest_76 : decode cX11_fairest 76 = .ok (.iload 6, 2) := by decide +kernel
theorem dX11_fairest_78 : decode cX11_fairest 78 = .ok (.iload_n 3, 1) := by decide +kernel
theorem dX11_fairest_79 : decode cX11_fairest 79 = .ok (.if_icmp .ne 20, 3) := by decide +kernel
theorem dX11_fairest_82 : decode cX11_fairest 82 = .ok (.iload 7, 2) := by decide +kernel
theorem dX11_fairest_84 : decode cX11_fairest 84 = .ok (.iload 4, 2) := by decide +kernel
theorem dX11_fairest_86 : decode cX11_fairest 86 = .ok (.if_icmp .ge 13, 3) := by decide +kernel
theorem dX11_fairest_89 : decode cX11_fairest 89 = .ok (.iload 5, 2) := by decide +kernel
theorem dX11_fairest_91 : decode cX11_fairest 91 = .ok (.istore_n 2, 1) := by decide +kernel
theorem dX11_fairest_92 : decode cX11_fairest 92 = .ok (.iload 6, 2) := by decide +kernel
theorem dX11_fairest_94 : decode cX11_fairest 94 = .ok (.istore_n 3, 1) := by decide +kernel
theorem dX11_fairest_95 : decode cX11_fairest 95 = .ok (.iload 7, 2) := by decide +kernel
theorem dX11_fairest_97 : decode cX11_fairest 97 = .ok (.istore 4, 2) := by decide +kernel
theorem dX11_fairest_99 : decode cX11_fairest 99 = .ok (.iinc 5 1, 3) := by decide +kernel
theorem dX11_fairest_102 : decode cX11_fairest 102 = .ok (.goto (-86), 3) := by decide +kernel
theorem dX11_fairest_105 : decode cX11_fairest 105 = .ok (.iload_n 2, 1) := by decide +kernel
theorem dX11_fairest_106 : decode cX11_fairest 106 = .ok (.ireturn, 1) := by decide +kernel
theorem dX11_fault_0 : decode cX11_fault 0 = .ok (.iload_n 1, 1) := by decide +kernel
theorem dX11_fault_1 : decode cX11_fault 1 = .ok (.ifCond .ne 11, 3) := by decide +kernel
theorem dX11_fault_4 : decode cX11_fault 4 = .ok (.aload_n 0, 1) := by decide +kernel
theorem dX11_fault_5 : decode cX11_fault 5 = .ok (.getfield 30, 3) := by decide +kernel
theorem dX11_fault_8 : decode cX11_fault 8 = .ok (.getfield 96, 3) := by decide +kernel
theorem dX11_fault_11 : decode cX11_fault 11 = .ok (.ireturn, 1) := by decide +kernel
theorem dX11_fault_12 : decode cX11_fault 12 = .ok (.iload_n 1, 1) := by decide +kernel
theorem dX11_fault_13 : decode cX11_fault 13 = .ok (.iconst 1, 1) := by decide +kernel
theorem dX11_fault_14 : decode cX11_fault 14 = .ok (.if_icmp .ne 13, 3) := by decide +kernel
theorem dX11_fault_17 : decode cX11_fault 17 = .ok (.aload_n 0, 1) := by decide +kernel
theorem dX11_fault_18 : decode cX11_fault 18 = .ok (.getfield 30, 3) := by decide +kernel
theorem dX11_fault_21 : decode cX11_fault 21 = .ok (.getfield 99, 3) := by decide +kernel
theorem dX11_fault_24 : decode cX11_fault 24 = .ok (.goto 4, 3) := by decide +kernel
theorem dX11_fault_27 : decode cX11_fault 27 = .ok (.iconst (-1), 1) := by decide +kernel
theorem dX11_fault_28 : decode cX11_fault 28 = .ok (.ireturn, 1) := by decide +kernel
theorem dX11_putOnTape_0 : decode cX11_putOnTape 0 = .ok (.bipush 24, 2) := by decide +kernel
theorem dX11_putOnTape_2 : decode cX11_putOnTape 2 = .ok (.istore_n 2, 1) := by decide +kernel
theorem dX11_putOnTape_3 : decode cX11_putOnTape 3 = .ok (.iload_n 2, 1) := by decide +kernel
theorem dX11_putOnTape_4 : decode cX11_putOnTape 4 = .ok (.ifCond .lt 42, 3) := by decide +kernel
theorem dX11_putOnTape_7 : decode cX11_putOnTape 7 = .ok (.aload_n 0, 1) := by decide +kernel
theorem dX11_putOnTape_8 : decode cX11_putOnTape 8 = .ok (.getfield 78, 3) := by decide +kernel
theorem dX11_putOnTape_11 : decode cX11_putOnTape 11 = .ok (.sipush 700, 3) := by decide +kernel
theorem dX11_putOnTape_14 : decode cX11_putOnTape 14 = .ok (.if_icmp .ge 32, 3) := by decide +kernel
theorem dX11_putOnTape_17 : decode cX11_putOnTape 17 = .ok (.aload_n 0, 1) := by decide +kernel
theorem dX11_putOnTape_18 : decode cX11_putOnTape 18 = .ok (.getfield 11, 3) := by decide +kernel
theorem dX11_putOnTape_21 : decode cX11_putOnTape 21 = .ok (.aload_n 0, 1) := by decide +kernel
theorem dX11_putOnTape_22 : decode cX11_putOnTape 22 = .ok (.getfield 78, 3) := by decide +kernel
theorem dX11_putOnTape_25 : decode cX11_putOnTape 25 = .ok (.iload_n 1, 1) := by decide +kernel
theorem dX11_putOnTape_26 : decode cX11_putOnTape 26 = .ok (.iload_n 2, 1) := by decide +kernel
theorem dX11_putOnTape_27 : decode cX11_putOnTape 27 = .ok (.ishr, 1) := by decide +kernel
theorem dX11_putOnTape_28 : decode cX11_putOnTape 28 = .ok (.i2b, 1) := by decide +kernel
theorem dX11_putOnTape_29 : decode cX11_putOnTape 29 = .ok (.bastore, 1) := by decide +kernel
theorem dX11_putOnTape_30 : decode cX11_putOnTape 30 = .ok (.aload_n 0, 1) := by decide +kernel
theorem dX11_putOnTape_31 : decode cX11_putOnTape 31 = .ok (.dup, 1) := by decide +kernel
theorem dX11_putOnTape_32 : decode cX11_putOnTape 32 = .ok (.getfield 78, 3) := by decide +kernel
theorem dX11_putOnTape_35 : decode cX11_putOnTape 35 = .ok (.iconst 1, 1) := by decide +kernel
theorem dX11_putOnTape_36 : decode cX11_putOnTape 36 = .ok (.iadd, 1) := by decide +kernel
theorem dX11_putOnTape_37 : decode cX11_putOnTape 37 = .ok (.putfield 78, 3) := by decide +kernel
theorem dX11_putOnTape_40 : decode cX11_putOnTape 40 = .ok (.iinc 2 (-8), 3) := by decide +kernel
theorem dX11_putOnTape_43 : decode cX11_putOnTape 43 = .ok (.goto (-40), 3) := by decide +kernel
theorem dX11_putOnTape_46 : decode cX11_putOnTape 46 = .ok (.return_, 1) := by decide +kernel
theorem dX11_feed_0 : decode cX11_feed 0 = .ok (.aload_n 0, 1) := by decide +kernel
theorem dX11_feed_1 : decode cX11_feed 1 = .ok (.getfield 78, 3) := by decide +kernel
theorem dX11_feed_4 : decode cX11_feed 4 = .ok (.bipush 20, 2) := by decide +kernel
theorem dX11_feed_6 : decode cX11_feed 6 = .ok (.iadd, 1) := by decide +kernel
theorem dX11_feed_7 : decode cX11_feed 7 = .ok (.sipush 700, 3) := by decide +kernel
theorem dX11_feed_10 : decode cX11_feed 10 = .ok (.if_icmp .le 5, 3) := by decide +kernel
theorem dX11_feed_13 : decode cX11_feed 13 = .ok (.iconst (-1), 1) := by decide +kernel
theorem dX11_feed_14 : decode cX11_feed 14 = .ok (.ireturn, 1) := by decide +kernel
theorem dX11_feed_15 : decode cX11_feed 15 = .ok (.aload_n 0, 1) := by decide +kernel
theorem dX11_feed_16 : decode cX11_feed 16 = .ok (.iload_n 1, 1) := by decide +kernel
theorem dX11_feed_17 : decode cX11_feed 17 = .ok (.invokevirtual 82, 3) := by decide +kernel
theorem dX11_feed_20 : decode cX11_feed 20 = .ok (.aload_n 0, 1) := by decide +kernel
theorem dX11_feed_21 : decode cX11_feed 21 = .ok (.iload_n 2, 1) := by decide +kernel
theorem dX11_feed_22 : decode cX11_feed 22 = .ok (.invokevirtual 82, 3) := by decide +kernel
theorem dX11_feed_25 : decode cX11_feed 25 = .ok (.aload_n 0, 1) := by decide +kernel
theorem dX11_feed_26 : decode cX11_feed 26 = .ok (.iload_n 3, 1) := by decide +kernel
theorem dX11_feed_27 : decode cX11_feed 27 = .ok (.invokevirtual 82, 3) := by decide +kernel
theorem dX11_feed_30 : decode cX11_feed 30 = .ok (.aload_n 0, 1) := by decide +kernel
theorem dX11_feed_31 : decode cX11_feed 31 = .ok (.iload 4, 2) := by decide +kernel
theorem dX11_feed_33 : decode cX11_feed 33 = .ok (.invokevirtual 82, 3) := by decide +kernel
theorem dX11_feed_36 : decode cX11_feed 36 = .ok (.aload_n 0, 1) := by decide +kernel
theorem dX11_feed_37 : decode cX11_feed 37 = .ok (.iload 5, 2) := by decide +kernel
theorem dX11_feed_39 : decode cX11_feed 39 = .ok (.invokevirtual 82, 3) := by decide +kernel
theorem dX11_feed_42 : decode cX11_feed 42 = .ok (.aload_n 0, 1) := by decide +kernel
theorem dX11_feed_43 : decode cX11_feed 43 = .ok (.getfield 78, 3) := by decide +kernel
theorem dX11_feed_46 : decode cX11_feed 46 = .ok (.ireturn, 1) := by decide +kernel
theorem dX11_gaps_0 : decode cX11_gaps 0 = .ok (.iload_n 1, 1) := by decide +kernel
theorem dX11_gaps_1 : decode cX11_gaps 1 = .ok (.ifCond .lt 18, 3) := by decide +kernel
theorem dX11_gaps_4 : decode cX11_gaps 4 = .ok (.iload_n 1, 1) := by decide +kernel
theorem dX11_gaps_5 : decode cX11_gaps 5 = .ok (.bipush 99, 2) := by decide +kernel
theorem dX11_gaps_7 : decode cX11_gaps 7 = .ok (.if_icmp .gt 12, 3) := by decide +kernel
theorem dX11_gaps_10 : decode cX11_gaps 10 = .ok (.iload_n 2, 1) := by decide +kernel
theorem dX11_gaps_11 : decode cX11_gaps 11 = .ok (.ifCond .lt 8, 3) := by decide +kernel
theorem dX11_gaps_14 : decode cX11_gaps 14 = .ok (.iload_n 2, 1) := by decide +kernel
theorem dX11_gaps_15 : decode cX11_gaps 15 = .ok (.iconst 1, 1) := by decide +kernel
theorem dX11_gaps_16 : decode cX11_gaps 16 = .ok (.if_icmp .le 5, 3) := by decide +kernel
theorem dX11_gaps_19 : decode cX11_gaps 19 = .ok (.iconst (-1), 1) := by decide +kernel
theorem dX11_gaps_20 : decode cX11_gaps 20 = .ok (.ireturn, 1) := by decide +kernel
theorem dX11_gaps_21 : decode cX11_gaps 21 = .ok (.iconst 0, 1) := by decide +kernel
theorem dX11_gaps_22 : decode cX11_gaps 22 = .ok (.istore_n 3, 1) := by decide +kernel
theorem dX11_gaps_23 : decode cX11_gaps 23 = .ok (.iconst 1, 1) := by decide +kernel
theorem dX11_gaps_24 : decode cX11_gaps 24 = .ok (.istore 4, 2) := by decide +kernel
theorem dX11_gaps_26 : decode cX11_gaps 26 = .ok (.iload 4, 2) := by decide +kernel
theorem dX11_gaps_28 : decode cX11_gaps 28 = .ok (.aload_n 0, 1) := by decide +kernel
theorem dX11_gaps_29 : decode cX11_gaps 29 = .ok (.getfield 18, 3) := by decide +kernel
theorem dX11_gaps_32 : decode cX11_gaps 32 = .ok (.getfield 150, 3) := by decide +kernel
theorem dX11_gaps_35 : decode cX11_gaps 35 = .ok (.getfield 253, 3) := by decide +kernel
theorem dX11_gaps_38 : decode cX11_gaps 38 = .ok (.if_icmp .ge 52, 3) := by decide +kernel
theorem dX11_gaps_41 : decode cX11_gaps 41 = .ok (.aload_n 0, 1) := by decide +kernel
theorem dX11_gaps_42 : decode cX11_gaps 42 = .ok (.getfield 18, 3) := by decide +kernel
theorem dX11_gaps_45 : decode cX11_gaps 45 = .ok (.getfield 150, 3) := by decide +kernel
theorem dX11_gaps_48 : decode cX11_gaps 48 = .ok (.iload 4, 2) := by decide +kernel
theorem dX11_gaps_50 : decode cX11_gaps 50 = .ok (.invokevirtual 311, 3) := by decide +kernel
theorem dX11_gaps_53 : decode cX11_gaps 53 = .ok (.aload_n 0, 1) := by decide +kernel
theorem dX11_gaps_54 : decode cX11_gaps 54 = .ok (.getfield 18, 3) := by decide +kernel
theorem dX11_gaps_57 : decode cX11_gaps 57 = .ok (.getfield 150, 3) := by decide +kernel
theorem dX11_gaps_60 : decode cX11_gaps 60 = .ok (.iload 4, 2) := by decide +kernel
theorem dX11_gaps_62 : decode cX11_gaps 62 = .ok (.iconst 1, 1) := by decide +kernel
theorem dX11_gaps_63 : decode cX11_gaps 63 = .ok (.isub, 1) := by decide +kernel
theorem dX11_gaps_64 : decode cX11_gaps 64 = .ok (.invokevirtual 314, 3) := by decide +kernel
theorem dX11_gaps_67 : decode cX11_gaps 67 = .ok (.isub, 1) := by decide +kernel
theorem dX11_gaps_68 : decode cX11_gaps 68 = .ok (.istore 5, 2) := by decide +kernel
theorem dX11_gaps_70 : decode cX11_gaps 70 = .ok (.iload_n 2, 1) := by decide +kernel
theorem dX11_gaps_71 : decode cX11_gaps 71 = .ok (.iconst 1, 1) := by decide +kernel
theorem dX11_gaps_72 : decode cX11_gaps 72 = .ok (.if_icmp .eq 9, 3) := by decide +kernel
theorem dX11_gaps_75 : decode cX11_gaps 75 = .ok (.iload 5, 2) := by decide +kernel
theorem dX11_gaps_77 : decode cX11_gaps 77 = .ok (.iload_n 1, 1) := by decide +kernel
theorem dX11_gaps_78 : decode cX11_gaps 78 = .ok (.if_icmp .gt 6, 3) := by decide +kernel
theorem dX11_gaps_81 : decode cX11_gaps 81 = .ok (.iinc 3 1, 3) := by decide +kernel
theorem dX11_gaps_84 : decode cX11_gaps 84 = .ok (.iinc 4 1, 3) := by decide +kernel
theorem dX11_gaps_87 : decode cX11_gaps 87 = .ok (.goto (-61), 3) := by decide +kernel
theorem dX11_gaps_90 : decode cX11_gaps 90 = .ok (.iload_n 3, 1) := by decide +kernel
theorem dX11_gaps_91 : decode cX11_gaps 91 = .ok (.ireturn, 1) := by decide +kernel
theorem dX11_give_0 : decode cX11_give 0 = .ok (.aload_n 0, 1) := by decide +kernel
theorem dX11_give_1 : decode cX11_give 1 = .ok (.iload_n 1, 1) := by decide +kernel
theorem dX11_give_2 : decode cX11_give 2 = .ok (.invokevirtual 115, 3) := by decide +kernel
theorem dX11_give_5 : decode cX11_give 5 = .ok (.ifCond .eq 26, 3) := by decide +kernel
theorem dX11_give_8 : decode cX11_give 8 = .ok (.aload_n 0, 1) := by decide +kernel
theorem dX11_give_9 : decode cX11_give 9 = .ok (.iload_n 2, 1) := by decide +kernel
theorem dX11_give_10 : decode cX11_give 10 = .ok (.invokevirtual 115, 3) := by decide +kernel
theorem dX11_give_13 : decode cX11_give 13 = .ok (.ifCond .eq 18, 3) := by decide +kernel
theorem dX11_give_16 : decode cX11_give 16 = .ok (.iload_n 1, 1) := by decide +kernel
theorem dX11_give_17 : decode cX11_give 17 = .ok (.iload_n 2, 1) := by decide +kernel
theorem dX11_give_18 : decode cX11_give 18 = .ok (.if_icmp .eq 13, 3) := by decide +kernel
theorem dX11_give_21 : decode cX11_give 21 = .ok (.iload_n 3, 1) := by decide +kernel
theorem dX11_give_22 : decode cX11_give 22 = .ok (.ifCond .lt 9, 3) := by decide +kernel
theorem dX11_give_25 : decode cX11_give 25 = .ok (.iload_n 3, 1) := by decide +kernel
theorem dX11_give_26 : decode cX11_give 26 = .ok (.bipush 99, 2) := by decide +kernel
theorem dX11_give_28 : decode cX11_give 28 = .ok (.if_icmp .le 5, 3) := by decide +kernel
theorem dX11_give_31 : decode cX11_give 31 = .ok (.iconst (-1), 1) := by decide +kernel
theorem dX11_give_32 : decode cX11_give 32 = .ok (.ireturn, 1) := by decide +kernel
theorem dX11_give_33 : decode cX11_give 33 = .ok (.aload_n 0, 1) := by decide +kernel
theorem dX11_give_34 : decode cX11_give 34 = .ok (.getfield 18, 3) := by decide +kernel
theorem dX11_give_37 : decode cX11_give 37 = .ok (.getfield 102, 3) := by decide +kernel
theorem dX11_give_40 : decode cX11_give 40 = .ok (.getfield 281, 3) := by decide +kernel
theorem dX11_give_43 : decode cX11_give 43 = .ok (.iload_n 2, 1) := by decide +kernel
theorem dX11_give_44 : decode cX11_give 44 = .ok (.iaload, 1) := by decide +kernel
theorem dX11_give_45 : decode cX11_give 45 = .ok (.iload_n 3, 1) := by decide +kernel
theorem dX11_give_46 : decode cX11_give 46 = .ok (.imul, 1) := by decide +kernel
theorem dX11_give_47 : decode cX11_give 47 = .ok (.bipush 100, 2) := by decide +kernel
theorem dX11_give_49 : decode cX11_give 49 = .ok (.if_icmp .le 7, 3) := by decide +kernel
theorem dX11_give_52 : decode cX11_give 52 = .ok (.iconst 1, 1) := by decide +kernel
theorem dX11_give_53 : decode cX11_give 53 = .ok (.goto 4, 3) := by decide +kernel
theorem dX11_give_56 : decode cX11_give 56 = .ok (.iconst 0, 1) := by decide +kernel
theorem dX11_give_57 : decode cX11_give 57 = .ok (.ireturn, 1) := by decide +kernel
theorem dX11_isWave_0 : decode cX11_isWave 0 = .ok (.iload_n 1, 1) := by decide +kernel
theorem dX11_isWave_1 : decode cX11_isWave 1 = .ok (.ifCond .lt 21, 3) := by decide +kernel
theorem dX11_isWave_4 : decode cX11_isWave 4 = .ok (.iload_n 1, 1) := by decide +kernel
theorem dX11_isWave_5 : decode cX11_isWave 5 = .ok (.aload_n 0, 1) := by decide +kernel
theorem dX11_isWave_6 : decode cX11_isWave 6 = .ok (.getfield 18, 3) := by decide +kernel
theorem dX11_isWave_9 : decode cX11_isWave 9 = .ok (.getfield 150, 3) := by decide +kernel
theorem dX11_isWave_12 : decode cX11_isWave 12 = .ok (.getfield 299, 3) := by decide +kernel
theorem dX11_isWave_15 : decode cX11_isWave 15 = .ok (.if_icmp .ge 7, 3) := by decide +kernel
theorem dX11_isWave_18 : decode cX11_isWave 18 = .ok (.iconst 1, 1) := by decide +kernel
theorem dX11_isWave_19 : decode cX11_isWave 19 = .ok (.goto 4, 3) := by decide +kernel
theorem dX11_isWave_22 : decode cX11_isWave 22 = .ok (.iconst 0, 1) := by decide +kernel
theorem dX11_isWave_23 : decode cX11_isWave 23 = .ok (.ireturn, 1) := by decide +kernel
theorem dX11_isToCome_0 : decode cX11_isToCome 0 = .ok (.aload_n 0, 1) := by decide +kernel
theorem dX11_isToCome_1 : decode cX11_isToCome 1 = .ok (.iload_n 1, 1) := by decide +kernel
theorem dX11_isToCome_2 : decode cX11_isToCome 2 = .ok (.invokevirtual 147, 3) := by decide +kernel
theorem dX11_isToCome_5 : decode cX11_isToCome 5 = .ok (.ifCond .eq 29, 3) := by decide +kernel
theorem dX11_isToCome_8 : decode cX11_isToCome 8 = .ok (.aload_n 0, 1) := by decide +kernel
theorem dX11_isToCome_9 : decode cX11_isToCome 9 = .ok (.getfield 18, 3) := by decide +kernel
theorem dX11_isToCome_12 : decode cX11_isToCome 12 = .ok (.getfield 150, 3) := by decide +kernel
theorem dX11_isToCome_15 : decode cX11_isToCome 15 = .ok (.getfield 154, 3) := by decide +kernel
theorem dX11_isToCome_18 : decode cX11_isToCome 18 = .ok (.iload_n 1, 1) := by decide +kernel
theorem dX11_isToCome_19 : decode cX11_isToCome 19 = .ok (.iaload, 1) := by decide +kernel
theorem dX11_isToCome_20 : decode cX11_isToCome 20 = .ok (.aload_n 0, 1) := by decide +kernel
theorem dX11_isToCome_21 : decode cX11_isToCome 21 = .ok (.getfield 47, 3) := by decide +kernel
theorem dX11_isToCome_24 : decode cX11_isToCome 24 = .ok (.getfield 186, 3) := by decide +kernel
theorem dX11_isToCome_27 : decode cX11_isToCome 27 = .ok (.if_icmp .lt 7, 3) := by decide +kernel
theorem dX11_isToCome_30 : decode cX11_isToCome 30 = .ok (.iconst 1, 1) := by decide +kernel
theorem dX11_isToCome_31 : decode cX11_isToCome 31 = .ok (.goto 4, 3) := by decide +kernel
theorem dX11_isToCome_34 : decode cX11_isToCome 34 = .ok (.iconst 0, 1) := by decide +kernel
theorem dX11_isToCome_35 : decode cX11_isToCome 35 = .ok (.ireturn, 1) := by decide +kernel
theorem dX11_go_0 : decode cX11_go 0 = .ok (.aload_n 0, 1) := by decide +kernel
theorem dX11_go_1 : decode cX11_go 1 = .ok (.iload_n 1, 1) := by decide +kernel
theorem dX11_go_2 : decode cX11_go 2 = .ok (.invokevirtual 115, 3) := by decide +kernel
theorem dX11_go_5 : decode cX11_go 5 = .ok (.ifCond .eq 22, 3) := by decide +kernel
theorem dX11_go_8 : decode cX11_go 8 = .ok (.aload_n 0, 1) := by decide +kernel
theorem dX11_go_9 : decode cX11_go 9 = .ok (.iload_n 2, 1) := by decide +kernel
theorem dX11_go_10 : decode cX11_go 10 = .ok (.invokevirtual 223, 3) := by decide +kernel
theorem dX11_go_13 : decode cX11_go 13 = .ok (.ifCond .eq 14, 3) := by decide +kernel
theorem dX11_go_16 : decode cX11_go 16 = .ok (.iload_n 3, 1) := by decide +kernel
theorem dX11_go_17 : decode cX11_go 17 = .ok (.ifCond .lt 10, 3) := by decide +kernel
theorem dX11_go_20 : decode cX11_go 20 = .ok (.iload_n 3, 1) := by decide +kernel
theorem dX11_go_21 : decode cX11_go 21 = .ok (.sipush 999, 3) := by decide +kernel
theorem dX11_go_24 : decode cX11_go 24 = .ok (.if_icmp .le 5, 3) := by decide +kernel
theorem dX11_go_27 : decode cX11_go 27 = .ok (.iconst (-1), 1) := by decide +kernel
theorem dX11_go_28 : decode cX11_go 28 = .ok (.ireturn, 1) := by decide +kernel
theorem dX11_go_29 : decode cX11_go 29 = .ok (.aload_n 0, 1) := by decide +kernel
theorem dX11_go_30 : decode cX11_go 30 = .ok (.getfield 37, 3) := by decide +kernel
theorem dX11_go_33 : decode cX11_go 33 = .ok (.iload_n 1, 1) := by decide +kernel
theorem dX11_go_34 : decode cX11_go 34 = .ok (.iload_n 2, 1) := by decide +kernel
theorem dX11_go_35 : decode cX11_go 35 = .ok (.aload_n 0, 1) := by decide +kernel
theorem dX11_go_36 : decode cX11_go 36 = .ok (.getfield 47, 3) := by decide +kernel
theorem dX11_go_39 : decode cX11_go 39 = .ok (.getfield 122, 3) := by decide +kernel
theorem dX11_go_42 : decode cX11_go 42 = .ok (.iload_n 1, 1) := by decide +kernel
theorem dX11_go_43 : decode cX11_go 43 = .ok (.iaload, 1) := by decide +kernel
theorem dX11_go_44 : decode cX11_go 44 = .ok (.invokevirtual 275, 3) := by decide +kernel
theorem dX11_go_47 : decode cX11_go 47 = .ok (.istore 4, 2) := by decide +kernel
theorem dX11_go_49 : decode cX11_go 49 = .ok (.iload 4, 2) := by decide +kernel
theorem dX11_go_51 : decode cX11_go 51 = .ok (.iload_n 3, 1) := by decide +kernel
theorem dX11_go_52 : decode cX11_go 52 = .ok (.aload_n 0, 1) := by decide +kernel
theorem dX11_go_53 : decode cX11_go 53 = .ok (.getfield 37, 3) := by decide +kernel
theorem dX11_go_56 : decode cX11_go 56 = .ok (.aload_n 0, 1) := by decide +kernel
theorem dX11_go_57 : decode cX11_go 57 = .ok (.getfield 47, 3) := by decide +kernel
theorem dX11_go_60 : decode cX11_go 60 = .ok (.iload_n 1, 1) := by decide +kernel
theorem dX11_go_61 : decode cX11_go 61 = .ok (.iload_n 2, 1) := by decide +kernel
theorem dX11_go_62 : decode cX11_go 62 = .ok (.invokevirtual 278, 3) := by decide +kernel
theorem dX11_go_65 : decode cX11_go 65 = .ok (.imul, 1) := by decide +kernel
theorem dX11_go_66 : decode cX11_go 66 = .ok (.if_icmp .le 7, 3) := by decide +kernel
theorem dX11_go_69 : decode cX11_go 69 = .ok (.iconst 1, 1) := by decide +kernel
theorem dX11_go_70 : decode cX11_go 70 = .ok (.goto 4, 3) := by decide +kernel
theorem dX11_go_73 : decode cX11_go 73 = .ok (.iconst 0, 1) := by decide +kernel
theorem dX11_go_74 : decode cX11_go 74 = .ok (.ireturn, 1) := by decide +kernel
theorem dX11_isCell_0 : decode cX11_isCell 0 = .ok (.iload_n 1, 1) := by decide +kernel
theorem dX11_isCell_1 : decode cX11_isCell 1 = .ok (.ifCond .lt 18, 3) := by decide +kernel
theorem dX11_isCell_4 : decode cX11_isCell 4 = .ok (.iload_n 1, 1) := by decide +kernel
theorem dX11_isCell_5 : decode cX11_isCell 5 = .ok (.aload_n 0, 1) := by decide +kernel
theorem dX11_isCell_6 : decode cX11_isCell 6 = .ok (.getfield 18, 3) := by decide +kernel
theorem dX11_isCell_9 : decode cX11_isCell 9 = .ok (.invokevirtual 240, 3) := by decide +kernel
theorem dX11_isCell_12 : decode cX11_isCell 12 = .ok (.if_icmp .ge 7, 3) := by decide +kernel
theorem dX11_isCell_15 : decode cX11_isCell 15 = .ok (.iconst 1, 1) := by decide +kernel
theorem dX11_isCell_16 : decode cX11_isCell 16 = .ok (.goto 4, 3) := by decide +kernel
theorem dX11_isCell_19 : decode cX11_isCell 19 = .ok (.iconst 0, 1) := by decide +kernel
theorem dX11_isCell_20 : decode cX11_isCell 20 = .ok (.ireturn, 1) := by decide +kernel
theorem dX11_isRule_0 : decode cX11_isRule 0 = .ok (.iload_n 1, 1) := by decide +kernel
theorem dX11_isRule_1 : decode cX11_isRule 1 = .ok (.ifCond .lt 12, 3) := by decide +kernel
theorem dX11_isRule_4 : decode cX11_isRule 4 = .ok (.iload_n 1, 1) := by decide +kernel
theorem dX11_isRule_5 : decode cX11_isRule 5 = .ok (.iconst 4, 1) := by decide +kernel
theorem dX11_isRule_6 : decode cX11_isRule 6 = .ok (.if_icmp .ge 7, 3) := by decide +kernel
theorem dX11_isRule_9 : decode cX11_isRule 9 = .ok (.iconst 1, 1) := by decide +kernel
theorem dX11_isRule_10 : decode cX11_isRule 10 = .ok (.goto 4, 3) := by decide +kernel
theorem dX11_isRule_13 : decode cX11_isRule 13 = .ok (.iconst 0, 1) := by decide +kernel
theorem dX11_isRule_14 : decode cX11_isRule 14 = .ok (.ireturn, 1) := by decide +kernel
theorem dX11_keep_0 : decode cX11_keep 0 = .ok (.aload_n 0, 1) := by decide +kernel
theorem dX11_keep_1 : decode cX11_keep 1 = .ok (.getfield 54, 3) := by decide +kernel
theorem dX11_keep_4 : decode cX11_keep 4 = .ok (.aload_n 0, 1) := by decide +kernel
theorem dX11_keep_5 : decode cX11_keep 5 = .ok (.getfield 47, 3) := by decide +kernel
theorem dX11_keep_8 : decode cX11_keep 8 = .ok (.invokevirtual 373, 3) := by decide +kernel
theorem dX11_keep_11 : decode cX11_keep 11 = .ok (.aload_n 0, 1) := by decide +kernel
theorem dX11_keep_12 : decode cX11_keep 12 = .ok (.iconst 1, 1) := by decide +kernel
theorem dX11_keep_13 : decode cX11_keep 13 = .ok (.putfield 377, 3) := by decide +kernel
theorem dX11_keep_16 : decode cX11_keep 16 = .ok (.aload_n 0, 1) := by decide +kernel
theorem dX11_keep_17 : decode cX11_keep 17 = .ok (.getfield 47, 3) := by decide +kernel
theorem dX11_keep_20 : decode cX11_keep 20 = .ok (.getfield 186, 3) := by decide +kernel
theorem dX11_keep_23 : decode cX11_keep 23 = .ok (.ireturn, 1) := by decide +kernel
theorem dX11_known_0 : decode cX11_known 0 = .ok (.iload_n 1, 1) := by decide +kernel
theorem dX11_known_1 : decode cX11_known 1 = .ok (.iconst (-1), 1) := by decide +kernel
theorem dX11_known_2 : decode cX11_known 2 = .ok (.if_icmp .lt 14, 3) := by decide +kernel
theorem dX11_known_5 : decode cX11_known 5 = .ok (.iload_n 1, 1) := by decide +kernel
theorem dX11_known_6 : decode cX11_known 6 = .ok (.aload_n 0, 1) := by decide +kernel
theorem dX11_known_7 : decode cX11_known 7 = .ok (.getfield 60, 3) := by decide +kernel
theorem dX11_known_10 : decode cX11_known 10 = .ok (.getfield 323, 3) := by decide +kernel
theorem dX11_known_13 : decode cX11_known 13 = .ok (.if_icmp .le 5, 3) := by decide +kernel
theorem dX11_known_16 : decode cX11_known 16 = .ok (.iconst 0, 1) := by decide +kernel
theorem dX11_known_17 : decode cX11_known 17 = .ok (.ireturn, 1) := by decide +kernel
theorem dX11_known_18 : decode cX11_known 18 = .ok (.aload_n 0, 1) := by decide +kernel
theorem dX11_known_19 : decode cX11_known 19 = .ok (.getfield 60, 3) := by decide +kernel
theorem dX11_known_22 : decode cX11_known 22 = .ok (.iload_n 1, 1) := by decide +kernel
theorem dX11_known_23 : decode cX11_known 23 = .ok (.putfield 327, 3) := by decide +kernel
theorem dX11_known_26 : decode cX11_known 26 = .ok (.iconst 1, 1) := by decide +kernel
theorem dX11_known_27 : decode cX11_known 27 = .ok (.ireturn, 1) := by decide +kernel
theorem dX11_law_0 : decode cX11_law 0 = .ok (.iload_n 1, 1) := by decide +kernel
theorem dX11_law_1 : decode cX11_law 1 = .ok (.iconst 2, 1) := by decide +kernel
theorem dX11_law_2 : decode cX11_law 2 = .ok (.if_icmp .ne 18, 3) := by decide +kernel
theorem dX11_law_5 : decode cX11_law 5 = .ok (.aload_n 0, 1) := by decide +kernel
theorem dX11_law_6 : decode cX11_law 6 = .ok (.getfield 37, 3) := by decide +kernel
theorem dX11_law_9 : decode cX11_law 9 = .ok (.aload_n 0, 1) := by decide +kernel
theorem dX11_law_10 : decode cX11_law 10 = .ok (.getfield 47, 3) := by decide +kernel
theorem dX11_law_13 : decode cX11_law 13 = .ok (.getfield 186, 3) := by decide +kernel
theorem dX11_law_16 : decode cX11_law 16 = .ok (.invokevirtual 188, 3) := by decide +kernel
theorem dX11_law_19 : decode cX11_law 19 = .ok (.lreturn, 1) := by decide +kernel
theorem dX11_law_20 : decode cX11_law 20 = .ok (.aload_n 0, 1) := by decide +kernel
theorem dX11_law_21 : decode cX11_law 21 = .ok (.iload_n 2, 1) := by decide +kernel
theorem dX11_law_22 : decode cX11_law 22 = .ok (.invokevirtual 115, 3) := by decide +kernel
theorem dX11_law_25 : decode cX11_law 25 = .ok (.ifCond .eq 11, 3) := by decide +kernel
theorem dX11_law_28 : decode cX11_law 28 = .ok (.aload_n 0, 1) := by decide +kernel
theorem dX11_law_29 : decode cX11_law 29 = .ok (.iload_n 3, 1) := by decide +kernel
theorem dX11_law_30 : decode cX11_law 30 = .ok (.invokevirtual 147, 3) := by decide +kernel
theorem dX11_law_33 : decode cX11_law 33 = .ok (.ifCond .ne 7, 3) := by decide +kernel
theorem dX11_law_36 : decode cX11_law 36 = .ok (.ldc2_w 192, 3) := by decide +kernel
theorem dX11_law_39 : decode cX11_law 39 = .ok (.lreturn, 1) := by decide +kernel
theorem dX11_law_40 : decode cX11_law 40 = .ok (.iload_n 1, 1) := by decide +kernel
theorem dX11_law_41 : decode cX11_law 41 = .ok (.ifCond .ne 22, 3) := by decide +kernel
theorem dX11_law_44 : decode cX11_law 44 = .ok (.aload_n 0, 1) := by decide +kernel
theorem dX11_law_45 : decode cX11_law 45 = .ok (.getfield 37, 3) := by decide +kernel
theorem dX11_law_48 : decode cX11_law 48 = .ok (.iload_n 2, 1) := by decide +kernel
theorem dX11_law_49 : decode cX11_law 49 = .ok (.iload_n 3, 1) := by decide +kernel
theorem dX11_law_50 : decode cX11_law 50 = .ok (.aload_n 0, 1) := by decide +kernel
theorem dX11_law_51 : decode cX11_law 51 = .ok (.getfield 47, 3) := by decide +kernel
theorem dX11_law_54 : decode cX11_law 54 = .ok (.getfield 122, 3) := by decide +kernel
theorem dX11_law_57 : decode cX11_law 57 = .ok (.iload_n 2, 1) := by decide +kernel
theorem dX11_law_58 : decode cX11_law 58 = .ok (.iaload, 1) := by decide +kernel
theorem dX11_law_59 : decode cX11_law 59 = .ok (.invokevirtual 194, 3) := by decide +kernel
theorem dX11_law_62 : decode cX11_law 62 = .ok (.lreturn, 1) := by decide +kernel
theorem dX11_law_63 : decode cX11_law 63 = .ok (.iload_n 1, 1) := by decide +kernel
theorem dX11_law_64 : decode cX11_law 64 = .ok (.iconst 1, 1) := by decide +kernel
theorem dX11_law_65 : decode cX11_law 65 = .ok (.if_icmp .ne 15, 3) := by decide +kernel
theorem dX11_law_68 : decode cX11_law 68 = .ok (.aload_n 0, 1) := by decide +kernel
theorem dX11_law_69 : decode cX11_law 69 = .ok (.getfield 37, 3) := by decide +kernel
theorem dX11_law_72 : decode cX11_law 72 = .ok (.iload_n 2, 1) := by decide +kernel
theorem dX11_law_73 : decode cX11_law 73 = .ok (.iload_n 3, 1) := by decide +kernel
theorem dX11_law_74 : decode cX11_law 74 = .ok (.invokevirtual 198, 3) := by decide +kernel
theorem dX11_law_77 : decode cX11_law 77 = .ok (.goto 6, 3) := by decide +kernel
theorem dX11_law_80 : decode cX11_law 80 = .ok (.ldc2_w 192, 3) := by decide +kernel
theorem dX11_law_83 : decode cX11_law 83 = .ok (.lreturn, 1) := by decide +kernel
theorem dX11_locals_0 : decode cX11_locals 0 = .ok (.iload_n 1, 1) := by decide +kernel
theorem dX11_locals_1 : decode cX11_locals 1 = .ok (.ifCond .lt 9, 3) := by decide +kernel
theorem dX11_locals_4 : decode cX11_locals 4 = .ok (.iload_n 1, 1) := by decide +kernel
theorem dX11_locals_5 : decode cX11_locals 5 = .ok (.bipush 12, 2) := by decide +kernel
theorem dX11_locals_7 : decode cX11_locals 7 = .ok (.if_icmp .le 5, 3) := by decide +kernel
theorem dX11_locals_10 : decode cX11_locals 10 = .ok (.iconst (-1), 1) := by decide +kernel
theorem dX11_locals_11 : decode cX11_locals 11 = .ok (.ireturn, 1) := by decide +kernel
theorem dX11_locals_12 : decode cX11_locals 12 = .ok (.aload_n 0, 1) := by decide +kernel
theorem dX11_locals_13 : decode cX11_locals 13 = .ok (.getfield 60, 3) := by decide +kernel
theorem dX11_locals_16 : decode cX11_locals 16 = .ok (.invokevirtual 330, 3) := by decide +kernel
theorem dX11_locals_19 : decode cX11_locals 19 = .ok (.iconst 0, 1) := by decide +kernel
theorem dX11_locals_20 : decode cX11_locals 20 = .ok (.istore_n 2, 1) := by decide +kernel
theorem dX11_locals_21 : decode cX11_locals 21 = .ok (.iconst 0, 1) := by decide +kernel
theorem dX11_locals_22 : decode cX11_locals 22 = .ok (.istore_n 3, 1) := by decide +kernel
theorem dX11_locals_23 : decode cX11_locals 23 = .ok (.iconst 0, 1) := by decide +kernel
theorem dX11_locals_24 : decode cX11_locals 24 = .ok (.istore 4, 2) := by decide +kernel
theorem dX11_locals_26 : decode cX11_locals 26 = .ok (.iload 4, 2) := by decide +kernel
theorem dX11_locals_28 : decode cX11_locals 28 = .ok (.aload_n 0, 1) := by decide +kernel
theorem dX11_locals_29 : decode cX11_locals 29 = .ok (.getfield 60, 3) := by decide +kernel
theorem dX11_locals_32 : decode cX11_locals 32 = .ok (.invokevirtual 333, 3) := by decide +kernel
theorem dX11_locals_35 : decode cX11_locals 35 = .ok (.if_icmp .ge 114, 3) := by decide +kernel
theorem dX11_locals_38 : decode cX11_locals 38 = .ok (.aload_n 0, 1) := by decide +kernel
theorem dX11_locals_39 : decode cX11_locals 39 = .ok (.getfield 60, 3) := by decide +kernel
theorem dX11_locals_42 : decode cX11_locals 42 = .ok (.iload 4, 2) := by decide +kernel
theorem dX11_locals_44 : decode cX11_locals 44 = .ok (.invokevirtual 336, 3) := by decide +kernel
theorem dX11_locals_47 : decode cX11_locals 47 = .ok (.ifCond .eq 26, 3) := by decide +kernel
theorem dX11_locals_50 : decode cX11_locals 50 = .ok (.aload_n 0, 1) := by decide +kernel
theorem dX11_locals_51 : decode cX11_locals 51 = .ok (.getfield 18, 3) := by decide +kernel
theorem dX11_locals_54 : decode cX11_locals 54 = .ok (.getfield 150, 3) := by decide +kernel
theorem dX11_locals_57 : decode cX11_locals 57 = .ok (.aload_n 0, 1) := by decide +kernel
theorem dX11_locals_58 : decode cX11_locals 58 = .ok (.getfield 60, 3) := by decide +kernel
theorem dX11_locals_61 : decode cX11_locals 61 = .ok (.getfield 339, 3) := by decide +kernel
theorem dX11_locals_64 : decode cX11_locals 64 = .ok (.iload 4, 2) := by decide +kernel
theorem dX11_locals_66 : decode cX11_locals 66 = .ok (.iaload, 1) := by decide +kernel
theorem dX11_locals_67 : decode cX11_locals 67 = .ok (.invokevirtual 308, 3) := by decide +kernel
theorem dX11_locals_70 : decode cX11_locals 70 = .ok (.goto 4, 3) := by decide +kernel
theorem dX11_locals_73 : decode cX11_locals 73 = .ok (.iconst (-1), 1) := by decide +kernel
theorem dX11_locals_74 : decode cX11_locals 74 = .ok (.istore 5, 2) := by decide +kernel
theorem dX11_locals_76 : decode cX11_locals 76 = .ok (.iload 5, 2) := by decide +kernel
theorem dX11_locals_78 : decode cX11_locals 78 = .ok (.iconst (-1), 1) := by decide +kernel
theorem dX11_locals_79 : decode cX11_locals 79 = .ok (.if_icmp .eq 64, 3) := by decide +kernel
theorem dX11_locals_82 : decode cX11_locals 82 = .ok (.iconst 1, 1) := by decide +kernel
theorem dX11_locals_83 : decode cX11_locals 83 = .ok (.aload_n 0, 1) := by decide +kernel
theorem dX11_locals_84 : decode cX11_locals 84 = .ok (.getfield 60, 3) := by decide +kernel
theorem dX11_locals_87 : decode cX11_locals 87 = .ok (.getfield 340, 3) := by decide +kernel
theorem dX11_locals_90 : decode cX11_locals 90 = .ok (.iload 4, 2) := by decide +kernel
theorem dX11_locals_92 : decode cX11_locals 92 = .ok (.iaload, 1) := by decide +kernel
theorem dX11_locals_93 : decode cX11_locals 93 = .ok (.ishl, 1) := by decide +kernel
theorem dX11_locals_94 : decode cX11_locals 94 = .ok (.istore 6, 2) := by decide +kernel
theorem dX11_locals_96 : decode cX11_locals 96 = .ok (.aload_n 0, 1) := by decide +kernel
theorem dX11_locals_97 : decode cX11_locals 97 = .ok (.getfield 37, 3) := by decide +kernel
theorem dX11_locals_100 : decode cX11_locals 100 = .ok (.aload_n 0, 1) := by decide +kernel
theorem dX11_locals_101 : decode cX11_locals 101 = .ok (.getfield 60, 3) := by decide +kernel
theorem dX11_locals_104 : decode cX11_locals 104 = .ok (.getfield 343, 3) := by decide +kernel
theorem dX11_locals_107 : decode cX11_locals 107 = .ok (.iload 4, 2) := by decide +kernel
theorem dX11_locals_109 : decode cX11_locals 109 = .ok (.iaload, 1) := by decide +kernel
theorem dX11_locals_110 : decode cX11_locals 110 = .ok (.aload_n 0, 1) := by decide +kernel
theorem dX11_locals_111 : decode cX11_locals 111 = .ok (.getfield 18, 3) := by decide +kernel
theorem dX11_locals_114 : decode cX11_locals 114 = .ok (.getfield 150, 3) := by decide +kernel
theorem dX11_locals_117 : decode cX11_locals 117 = .ok (.getfield 344, 3) := by decide +kernel
theorem dX11_locals_120 : decode cX11_locals 120 = .ok (.iload 5, 2) := by decide +kernel
theorem dX11_locals_122 : decode cX11_locals 122 = .ok (.iaload, 1) := by decide +kernel
theorem dX11_locals_123 : decode cX11_locals 123 = .ok (.invokevirtual 347, 3) := by decide +kernel
theorem dX11_locals_126 : decode cX11_locals 126 = .ok (.iload_n 1, 1) := by decide +kernel
theorem dX11_locals_127 : decode cX11_locals 127 = .ok (.if_icmp .gt 11, 3) := by decide +kernel
theorem dX11_locals_130 : decode cX11_locals 130 = .ok (.iload_n 2, 1) := by decide +kernel
theorem dX11_locals_131 : decode cX11_locals 131 = .ok (.iload 6, 2) := by decide +kernel
theorem dX11_locals_133 : decode cX11_locals 133 = .ok (.ior, 1) := by decide +kernel
theorem dX11_locals_134 : decode cX11_locals 134 = .ok (.istore_n 2, 1) := by decide +kernel
theorem dX11_locals_135 : decode cX11_locals 135 = .ok (.goto 8, 3) := by decide +kernel
theorem dX11_locals_138 : decode cX11_locals 138 = .ok (.iload_n 3, 1) := by decide +kernel
theorem dX11_locals_139 : decode cX11_locals 139 = .ok (.iload 6, 2) := by decide +kernel
theorem dX11_locals_141 : decode cX11_locals 141 = .ok (.ior, 1) := by decide +kernel
theorem dX11_locals_142 : decode cX11_locals 142 = .ok (.istore_n 3, 1) := by decide +kernel
theorem dX11_locals_143 : decode cX11_locals 143 = .ok (.iinc 4 1, 3) := by decide +kernel
theorem dX11_locals_146 : decode cX11_locals 146 = .ok (.goto (-120), 3) := by decide +kernel
theorem dX11_locals_149 : decode cX11_locals 149 = .ok (.iload_n 2, 1) := by decide +kernel
theorem dX11_locals_150 : decode cX11_locals 150 = .ok (.iload_n 3, 1) := by decide +kernel
theorem dX11_locals_151 : decode cX11_locals 151 = .ok (.iconst (-1), 1) := by decide +kernel
theorem dX11_locals_152 : decode cX11_locals 152 = .ok (.ixor, 1) := by decide +kernel
theorem dX11_locals_153 : decode cX11_locals 153 = .ok (.iand, 1) := by decide +kernel
theorem dX11_locals_154 : decode cX11_locals 154 = .ok (.ireturn, 1) := by decide +kernel
theorem dX11_passMinute_0 : decode cX11_passMinute 0 = .ok (.aload_n 0, 1) := by decide +kernel
theorem dX11_passMinute_1 : decode cX11_passMinute 1 = .ok (.getfield 18, 3) := by decide +kernel
theorem dX11_passMinute_4 : decode cX11_passMinute 4 = .ok (.getfield 150, 3) := by decide +kernel
theorem dX11_passMinute_7 : decode cX11_passMinute 7 = .ok (.aload_n 0, 1) := by decide +kernel
theorem dX11_passMinute_8 : decode cX11_passMinute 8 = .ok (.getfield 47, 3) := by decide +kernel
theorem dX11_passMinute_11 : decode cX11_passMinute 11 = .ok (.getfield 186, 3) := by decide +kernel
theorem dX11_passMinute_14 : decode cX11_passMinute 14 = .ok (.invokevirtual 387, 3) := by decide +kernel
theorem dX11_passMinute_17 : decode cX11_passMinute 17 = .ok (.istore_n 1, 1) := by decide +kernel
theorem dX11_passMinute_18 : decode cX11_passMinute 18 = .ok (.iload_n 1, 1) := by decide +kernel
theorem dX11_passMinute_19 : decode cX11_passMinute 19 = .ok (.aload_n 0, 1) := by decide +kernel
theorem dX11_passMinute_20 : decode cX11_passMinute 20 = .ok (.getfield 18, 3) := by decide +kernel
theorem dX11_passMinute_23 : decode cX11_passMinute 23 = .ok (.getfield 150, 3) := by decide +kernel
theorem dX11_passMinute_26 : decode cX11_passMinute 26 = .ok (.getfield 299, 3) := by decide +kernel
theorem dX11_passMinute_29 : decode cX11_passMinute 29 = .ok (.if_icmp .ge 37, 3) := by decide +kernel
theorem dX11_passMinute_32 : decode cX11_passMinute 32 = .ok (.aload_n 0, 1) := by decide +kernel
theorem dX11_passMinute_33 : decode cX11_passMinute 33 = .ok (.getfield 18, 3) := by decide +kernel
theorem dX11_passMinute_36 : decode cX11_passMinute 36 = .ok (.getfield 150, 3) := by decide +kernel
theorem dX11_passMinute_39 : decode cX11_passMinute 39 = .ok (.getfield 154, 3) := by decide +kernel
theorem dX11_passMinute_42 : decode cX11_passMinute 42 = .ok (.iload_n 1, 1) := by decide +kernel
theorem dX11_passMinute_43 : decode cX11_passMinute 43 = .ok (.iaload, 1) := by decide +kernel
theorem dX11_passMinute_44 : decode cX11_passMinute 44 = .ok (.aload_n 0, 1) := by decide +kernel
theorem dX11_passMinute_45 : decode cX11_passMinute 45 = .ok (.getfield 47, 3) := by decide +kernel
theorem dX11_passMinute_48 : decode cX11_passMinute 48 = .ok (.getfield 186, 3) := by decide +kernel
theorem dX11_passMinute_51 : decode cX11_passMinute 51 = .ok (.if_icmp .ne 15, 3) := by decide +kernel
theorem dX11_passMinute_54 : decode cX11_passMinute 54 = .ok (.aload_n 0, 1) := by decide +kernel
theorem dX11_passMinute_55 : decode cX11_passMinute 55 = .ok (.getfield 37, 3) := by decide +kernel
theorem dX11_passMinute_58 : decode cX11_passMinute 58 = .ok (.aload_n 0, 1) := by decide +kernel
theorem dX11_passMinute_59 : decode cX11_passMinute 59 = .ok (.getfield 47, 3) := by decide +kernel
theorem dX11_passMinute_62 : decode cX11_passMinute 62 = .ok (.iload_n 1, 1) := by decide +kernel
theorem dX11_passMinute_63 : decode cX11_passMinute 63 = .ok (.invokevirtual 364, 3) := by decide +kernel
theorem dX11_passMinute_66 : decode cX11_passMinute 66 = .ok (.aload_n 0, 1) := by decide +kernel
theorem dX11_passMinute_67 : decode cX11_passMinute 67 = .ok (.getfield 47, 3) := by decide +kernel
theorem dX11_passMinute_70 : decode cX11_passMinute 70 = .ok (.aload_n 0, 1) := by decide +kernel
theorem dX11_passMinute_71 : decode cX11_passMinute 71 = .ok (.getfield 18, 3) := by decide +kernel
theorem dX11_passMinute_74 : decode cX11_passMinute 74 = .ok (.getfield 102, 3) := by decide +kernel
theorem dX11_passMinute_77 : decode cX11_passMinute 77 = .ok (.getfield 106, 3) := by decide +kernel
theorem dX11_passMinute_80 : decode cX11_passMinute 80 = .ok (.invokevirtual 399, 3) := by decide +kernel
theorem dX11_passMinute_83 : decode cX11_passMinute 83 = .ok (.aload_n 0, 1) := by decide +kernel
theorem dX11_passMinute_84 : decode cX11_passMinute 84 = .ok (.getfield 67, 3) := by decide +kernel
theorem dX11_passMinute_87 : decode cX11_passMinute 87 = .ok (.iconst 0, 1) := by decide +kernel
theorem dX11_passMinute_88 : decode cX11_passMinute 88 = .ok (.putfield 368, 3) := by decide +kernel
theorem dX11_passMinute_91 : decode cX11_passMinute 91 = .ok (.return_, 1) := by decide +kernel
theorem dX11_minutes_0 : decode cX11_minutes 0 = .ok (.iload_n 1, 1) := by decide +kernel
theorem dX11_minutes_1 : decode cX11_minutes 1 = .ok (.ifCond .lt 24, 3) := by decide +kernel
theorem dX11_minutes_4 : decode cX11_minutes 4 = .ok (.iload_n 1, 1) := by decide +kernel
theorem dX11_minutes_5 : decode cX11_minutes 5 = .ok (.bipush 99, 2) := by decide +kernel
theorem dX11_minutes_7 : decode cX11_minutes 7 = .ok (.if_icmp .gt 18, 3) := by decide +kernel
theorem dX11_minutes_10 : decode cX11_minutes 10 = .ok (.aload_n 0, 1) := by decide +kernel
theorem dX11_minutes_11 : decode cX11_minutes 11 = .ok (.getfield 47, 3) := by decide +kernel
theorem dX11_minutes_14 : decode cX11_minutes 14 = .ok (.getfield 186, 3) := by decide +kernel
theorem dX11_minutes_17 : decode cX11_minutes 17 = .ok (.iload_n 1, 1) := by decide +kernel
theorem dX11_minutes_18 : decode cX11_minutes 18 = .ok (.iadd, 1) := by decide +kernel
theorem dX11_minutes_19 : decode cX11_minutes 19 = .ok (.sipush 199, 3) := by decide +kernel
theorem dX11_minutes_22 : decode cX11_minutes 22 = .ok (.if_icmp .le 5, 3) := by decide +kernel
theorem dX11_minutes_25 : decode cX11_minutes 25 = .ok (.iconst (-1), 1) := by decide +kernel
theorem dX11_minutes_26 : decode cX11_minutes 26 = .ok (.ireturn, 1) := by decide +kernel
theorem dX11_minutes_27 : decode cX11_minutes 27 = .ok (.iconst 0, 1) := by decide +kernel
theorem dX11_minutes_28 : decode cX11_minutes 28 = .ok (.istore_n 2, 1) := by decide +kernel
theorem dX11_minutes_29 : decode cX11_minutes 29 = .ok (.iload_n 2, 1) := by decide +kernel
theorem dX11_minutes_30 : decode cX11_minutes 30 = .ok (.iload_n 1, 1) := by decide +kernel
theorem dX11_minutes_31 : decode cX11_minutes 31 = .ok (.if_icmp .ge 13, 3) := by decide +kernel
theorem dX11_minutes_34 : decode cX11_minutes 34 = .ok (.aload_n 0, 1) := by decide +kernel
theorem dX11_minutes_35 : decode cX11_minutes 35 = .ok (.invokevirtual 220, 3) := by decide +kernel
theorem dX11_minutes_38 : decode cX11_minutes 38 = .ok (.iinc 2 1, 3) := by decide +kernel
theorem dX11_minutes_41 : decode cX11_minutes 41 = .ok (.goto (-12), 3) := by decide +kernel
theorem dX11_minutes_44 : decode cX11_minutes 44 = .ok (.aload_n 0, 1) := by decide +kernel
theorem dX11_minutes_45 : decode cX11_minutes 45 = .ok (.getfield 47, 3) := by decide +kernel
theorem dX11_minutes_48 : decode cX11_minutes 48 = .ok (.getfield 186, 3) := by decide +kernel
theorem dX11_minutes_51 : decode cX11_minutes 51 = .ok (.ireturn, 1) := by decide +kernel
theorem dX11_named_0 : decode cX11_named 0 = .ok (.iconst 0, 1) := by decide +kernel
theorem dX11_named_1 : decode cX11_named 1 = .ok (.istore_n 2, 1) := by decide +kernel
theorem dX11_named_2 : decode cX11_named 2 = .ok (.iload_n 2, 1) := by decide +kernel
theorem dX11_named_3 : decode cX11_named 3 = .ok (.aload_n 0, 1) := by decide +kernel
theorem dX11_named_4 : decode cX11_named 4 = .ok (.getfield 18, 3) := by decide +kernel
theorem dX11_named_7 : decode cX11_named 7 = .ok (.getfield 102, 3) := by decide +kernel
theorem dX11_named_10 : decode cX11_named 10 = .ok (.getfield 106, 3) := by decide +kernel
theorem dX11_named_13 : decode cX11_named 13 = .ok (.if_icmp .ge 27, 3) := by decide +kernel
theorem dX11_named_16 : decode cX11_named 16 = .ok (.aload_n 0, 1) := by decide +kernel
theorem dX11_named_17 : decode cX11_named 17 = .ok (.getfield 18, 3) := by decide +kernel
theorem dX11_named_20 : decode cX11_named 20 = .ok (.getfield 102, 3) := by decide +kernel
theorem dX11_named_23 : decode cX11_named 23 = .ok (.getfield 111, 3) := by decide +kernel
theorem dX11_named_26 : decode cX11_named 26 = .ok (.iload_n 2, 1) := by decide +kernel
theorem dX11_named_27 : decode cX11_named 27 = .ok (.iaload, 1) := by decide +kernel
theorem dX11_named_28 : decode cX11_named 28 = .ok (.iload_n 1, 1) := by decide +kernel
theorem dX11_named_29 : decode cX11_named 29 = .ok (.if_icmp .ne 5, 3) := by decide +kernel
theorem dX11_named_32 : decode cX11_named 32 = .ok (.iload_n 2, 1) := by decide +kernel
theorem dX11_named_33 : decode cX11_named 33 = .ok (.ireturn, 1) := by decide +kernel
theorem dX11_named_34 : decode cX11_named 34 = .ok (.iinc 2 1, 3) := by decide +kernel
theorem dX11_named_37 : decode cX11_named 37 = .ok (.goto (-35), 3) := by decide +kernel
theorem dX11_named_40 : decode cX11_named 40 = .ok (.iconst (-1), 1) := by decide +kernel
theorem dX11_named_41 : decode cX11_named 41 = .ok (.ireturn, 1) := by decide +kernel
theorem dX11_next_0 : decode cX11_next 0 = .ok (.aload_n 0, 1) := by decide +kernel
theorem dX11_next_1 : decode cX11_next 1 = .ok (.getfield 18, 3) := by decide +kernel
theorem dX11_next_4 : decode cX11_next 4 = .ok (.getfield 150, 3) := by decide +kernel
theorem dX11_next_7 : decode cX11_next 7 = .ok (.aload_n 0, 1) := by decide +kernel
theorem dX11_next_8 : decode cX11_next 8 = .ok (.getfield 47, 3) := by decide +kernel
theorem dX11_next_11 : decode cX11_next 11 = .ok (.getfield 186, 3) := by decide +kernel
theorem dX11_next_14 : decode cX11_next 14 = .ok (.invokevirtual 308, 3) := by decide +kernel
theorem dX11_next_17 : decode cX11_next 17 = .ok (.istore_n 1, 1) := by decide +kernel
theorem dX11_next_18 : decode cX11_next 18 = .ok (.iload_n 1, 1) := by decide +kernel
theorem dX11_next_19 : decode cX11_next 19 = .ok (.iconst (-1), 1) := by decide +kernel
theorem dX11_next_20 : decode cX11_next 20 = .ok (.if_icmp .ne 8, 3) := by decide +kernel
theorem dX11_next_23 : decode cX11_next 23 = .ok (.bipush (-2), 2) := by decide +kernel
theorem dX11_next_25 : decode cX11_next 25 = .ok (.goto 22, 3) := by decide +kernel
theorem dX11_next_28 : decode cX11_next 28 = .ok (.aload_n 0, 1) := by decide +kernel
theorem dX11_next_29 : decode cX11_next 29 = .ok (.getfield 18, 3) := by decide +kernel
theorem dX11_next_32 : decode cX11_next 32 = .ok (.getfield 150, 3) := by decide +kernel
theorem dX11_next_35 : decode cX11_next 35 = .ok (.iload_n 1, 1) := by decide +kernel
theorem dX11_next_36 : decode cX11_next 36 = .ok (.invokevirtual 311, 3) := by decide +kernel
theorem dX11_next_39 : decode cX11_next 39 = .ok (.aload_n 0, 1) := by decide +kernel
theorem dX11_next_40 : decode cX11_next 40 = .ok (.getfield 47, 3) := by decide +kernel
theorem dX11_next_43 : decode cX11_next 43 = .ok (.getfield 186, 3) := by decide +kernel
theorem dX11_next_46 : decode cX11_next 46 = .ok (.isub, 1) := by decide +kernel
theorem dX11_next_47 : decode cX11_next 47 = .ok (.ireturn, 1) := by decide +kernel
theorem dX11_note_0 : decode cX11_note 0 = .ok (.iload_n 1, 1) := by decide +kernel
theorem dX11_note_1 : decode cX11_note 1 = .ok (.ifCond .lt 26, 3) := by decide +kernel
theorem dX11_note_4 : decode cX11_note 4 = .ok (.iload_n 1, 1) := by decide +kernel
theorem dX11_note_5 : decode cX11_note 5 = .ok (.sipush 199, 3) := by decide +kernel
theorem dX11_note_8 : decode cX11_note 8 = .ok (.if_icmp .gt 19, 3) := by decide +kernel
theorem dX11_note_11 : decode cX11_note 11 = .ok (.aload_n 0, 1) := by decide +kernel
theorem dX11_note_12 : decode cX11_note 12 = .ok (.iload_n 2, 1) := by decide +kernel
theorem dX11_note_13 : decode cX11_note 13 = .ok (.invokevirtual 115, 3) := by decide +kernel
theorem dX11_note_16 : decode cX11_note 16 = .ok (.ifCond .eq 11, 3) := by decide +kernel
theorem dX11_note_19 : decode cX11_note 19 = .ok (.aload_n 0, 1) := by decide +kernel
theorem dX11_note_20 : decode cX11_note 20 = .ok (.iload_n 3, 1) := by decide +kernel
theorem dX11_note_21 : decode cX11_note 21 = .ok (.invokevirtual 179, 3) := by decide +kernel
theorem dX11_note_24 : decode cX11_note 24 = .ok (.ifCond .ne 5, 3) := by decide +kernel
theorem dX11_note_27 : decode cX11_note 27 = .ok (.iconst (-1), 1) := by decide +kernel
theorem dX11_note_28 : decode cX11_note 28 = .ok (.ireturn, 1) := by decide +kernel
theorem dX11_note_29 : decode cX11_note 29 = .ok (.aload_n 0, 1) := by decide +kernel
theorem dX11_note_30 : decode cX11_note 30 = .ok (.getfield 60, 3) := by decide +kernel
theorem dX11_note_33 : decode cX11_note 33 = .ok (.iload_n 1, 1) := by decide +kernel
theorem dX11_note_34 : decode cX11_note 34 = .ok (.iload_n 2, 1) := by decide +kernel
theorem dX11_note_35 : decode cX11_note 35 = .ok (.iload_n 3, 1) := by decide +kernel
theorem dX11_note_36 : decode cX11_note 36 = .ok (.invokevirtual 320, 3) := by decide +kernel
theorem dX11_note_39 : decode cX11_note 39 = .ok (.ireturn, 1) := by decide +kernel
theorem dX11_odds_0 : decode cX11_odds 0 = .ok (.aload_n 0, 1) := by decide +kernel
theorem dX11_odds_1 : decode cX11_odds 1 = .ok (.iload_n 1, 1) := by decide +kernel
theorem dX11_odds_2 : decode cX11_odds 2 = .ok (.invokevirtual 115, 3) := by decide +kernel
theorem dX11_odds_5 : decode cX11_odds 5 = .ok (.ifCond .eq 19, 3) := by decide +kernel
theorem dX11_odds_8 : decode cX11_odds 8 = .ok (.aload_n 0, 1) := by decide +kernel
theorem dX11_odds_9 : decode cX11_odds 9 = .ok (.iload_n 2, 1) := by decide +kernel
theorem dX11_odds_10 : decode cX11_odds 10 = .ok (.invokevirtual 147, 3) := by decide +kernel
theorem dX11_odds_13 : decode cX11_odds 13 = .ok (.ifCond .eq 11, 3) := by decide +kernel
theorem dX11_odds_16 : decode cX11_odds 16 = .ok (.aload_n 0, 1) := by decide +kernel
theorem dX11_odds_17 : decode cX11_odds 17 = .ok (.iload_n 3, 1) := by decide +kernel
theorem dX11_odds_18 : decode cX11_odds 18 = .ok (.invokevirtual 179, 3) := by decide +kernel
theorem dX11_odds_21 : decode cX11_odds 21 = .ok (.ifCond .ne 5, 3) := by decide +kernel
theorem dX11_odds_24 : decode cX11_odds 24 = .ok (.iconst (-1), 1) := by decide +kernel
theorem dX11_odds_25 : decode cX11_odds 25 = .ok (.ireturn, 1) := by decide +kernel
theorem dX11_odds_26 : decode cX11_odds 26 = .ok (.aload_n 0, 1) := by decide +kernel
theorem dX11_odds_27 : decode cX11_odds 27 = .ok (.getfield 37, 3) := by decide +kernel
theorem dX11_odds_30 : decode cX11_odds 30 = .ok (.iload_n 1, 1) := by decide +kernel
theorem dX11_odds_31 : decode cX11_odds 31 = .ok (.iload_n 2, 1) := by decide +kernel
theorem dX11_odds_32 : decode cX11_odds 32 = .ok (.iload_n 3, 1) := by decide +kernel
theorem dX11_odds_33 : decode cX11_odds 33 = .ok (.invokevirtual 182, 3) := by decide +kernel
theorem dX11_odds_36 : decode cX11_odds 36 = .ok (.ireturn, 1) := by decide +kernel
theorem dX11_order_0 : decode cX11_order 0 = .ok (.aload_n 0, 1) := by decide +kernel
theorem dX11_order_1 : decode cX11_order 1 = .ok (.iload_n 1, 1) := by decide +kernel
theorem dX11_order_2 : decode cX11_order 2 = .ok (.invokevirtual 223, 3) := by decide +kernel
theorem dX11_order_5 : decode cX11_order 5 = .ok (.ifCond .eq 7, 3) := by decide +kernel
theorem dX11_order_8 : decode cX11_order 8 = .ok (.iload_n 2, 1) := by decide +kernel
theorem dX11_order_9 : decode cX11_order 9 = .ok (.ifCond .ge 5, 3) := by decide +kernel
theorem dX11_order_12 : decode cX11_order 12 = .ok (.iconst (-1), 1) := by decide +kernel
theorem dX11_order_13 : decode cX11_order 13 = .ok (.ireturn, 1) := by decide +kernel
theorem dX11_order_14 : decode cX11_order 14 = .ok (.aload_n 0, 1) := by decide +kernel
theorem dX11_order_15 : decode cX11_order 15 = .ok (.getfield 37, 3) := by decide +kernel
theorem dX11_order_18 : decode cX11_order 18 = .ok (.aload_n 0, 1) := by decide +kernel
theorem dX11_order_19 : decode cX11_order 19 = .ok (.getfield 47, 3) := by decide +kernel
theorem dX11_order_22 : decode cX11_order 22 = .ok (.iload_n 1, 1) := by decide +kernel
theorem dX11_order_23 : decode cX11_order 23 = .ok (.aload_n 0, 1) := by decide +kernel
theorem dX11_order_24 : decode cX11_order 24 = .ok (.getfield 47, 3) := by decide +kernel
theorem dX11_order_27 : decode cX11_order 27 = .ok (.getfield 186, 3) := by decide +kernel
theorem dX11_order_30 : decode cX11_order 30 = .ok (.invokevirtual 226, 3) := by decide +kernel
theorem dX11_order_33 : decode cX11_order 33 = .ok (.istore_n 3, 1) := by decide +kernel
theorem dX11_order_34 : decode cX11_order 34 = .ok (.iload_n 2, 1) := by decide +kernel
theorem dX11_order_35 : decode cX11_order 35 = .ok (.iload_n 3, 1) := by decide +kernel
theorem dX11_order_36 : decode cX11_order 36 = .ok (.if_icmp .ge 15, 3) := by decide +kernel
theorem dX11_order_39 : decode cX11_order 39 = .ok (.aload_n 0, 1) := by decide +kernel
theorem dX11_order_40 : decode cX11_order 40 = .ok (.getfield 37, 3) := by decide +kernel
theorem dX11_order_43 : decode cX11_order 43 = .ok (.getfield 230, 3) := by decide +kernel
theorem dX11_order_46 : decode cX11_order 46 = .ok (.iload_n 2, 1) := by decide +kernel
theorem dX11_order_47 : decode cX11_order 47 = .ok (.iaload, 1) := by decide +kernel
theorem dX11_order_48 : decode cX11_order 48 = .ok (.goto 5, 3) := by decide +kernel
theorem dX11_order_51 : decode cX11_order 51 = .ok (.bipush (-2), 2) := by decide +kernel
theorem dX11_order_53 : decode cX11_order 53 = .ok (.ireturn, 1) := by decide +kernel
theorem dX11_over_0 : decode cX11_over 0 = .ok (.aload_n 0, 1) := by decide +kernel
theorem dX11_over_1 : decode cX11_over 1 = .ok (.iload_n 1, 1) := by decide +kernel
theorem dX11_over_2 : decode cX11_over 2 = .ok (.invokevirtual 115, 3) := by decide +kernel
theorem dX11_over_5 : decode cX11_over 5 = .ok (.ifCond .eq 28, 3) := by decide +kernel
theorem dX11_over_8 : decode cX11_over 8 = .ok (.aload_n 0, 1) := by decide +kernel
theorem dX11_over_9 : decode cX11_over 9 = .ok (.getfield 18, 3) := by decide +kernel
theorem dX11_over_12 : decode cX11_over 12 = .ok (.getfield 296, 3) := by decide +kernel
theorem dX11_over_15 : decode cX11_over 15 = .ok (.iconst 1, 1) := by decide +kernel
theorem dX11_over_16 : decode cX11_over 16 = .ok (.if_icmp .lt 17, 3) := by decide +kernel
theorem dX11_over_19 : decode cX11_over 19 = .ok (.aload_n 0, 1) := by decide +kernel
theorem dX11_over_20 : decode cX11_over 20 = .ok (.getfield 18, 3) := by decide +kernel
theorem dX11_over_23 : decode cX11_over 23 = .ok (.getfield 150, 3) := by decide +kernel
theorem dX11_over_26 : decode cX11_over 26 = .ok (.getfield 299, 3) := by decide +kernel
theorem dX11_over_29 : decode cX11_over 29 = .ok (.iconst 1, 1) := by decide +kernel
theorem dX11_over_30 : decode cX11_over 30 = .ok (.if_icmp .ge 5, 3) := by decide +kernel
theorem dX11_over_33 : decode cX11_over 33 = .ok (.iconst (-1), 1) := by decide +kernel
theorem dX11_over_34 : decode cX11_over 34 = .ok (.ireturn, 1) := by decide +kernel
theorem dX11_over_35 : decode cX11_over 35 = .ok (.aload_n 0, 1) := by decide +kernel
theorem dX11_over_36 : decode cX11_over 36 = .ok (.getfield 18, 3) := by decide +kernel
theorem dX11_over_39 : decode cX11_over 39 = .ok (.getfield 150, 3) := by decide +kernel
theorem dX11_over_42 : decode cX11_over 42 = .ok (.getfield 154, 3) := by decide +kernel
theorem dX11_over_45 : decode cX11_over 45 = .ok (.aload_n 0, 1) := by decide +kernel
theorem dX11_over_46 : decode cX11_over 46 = .ok (.getfield 18, 3) := by decide +kernel
theorem dX11_over_49 : decode cX11_over 49 = .ok (.getfield 150, 3) := by decide +kernel
theorem dX11_over_52 : decode cX11_over 52 = .ok (.getfield 299, 3) := by decide +kernel
theorem dX11_over_55 : decode cX11_over 55 = .ok (.iconst 1, 1) := by decide +kernel
theorem dX11_over_56 : decode cX11_over 56 = .ok (.isub, 1) := by decide +kernel
theorem dX11_over_57 : decode cX11_over 57 = .ok (.iaload, 1) := by decide +kernel
theorem dX11_over_58 : decode cX11_over 58 = .ok (.istore_n 2, 1) := by decide +kernel
theorem dX11_over_59 : decode cX11_over 59 = .ok (.aload_n 0, 1) := by decide +kernel
theorem dX11_over_60 : decode cX11_over 60 = .ok (.invokevirtual 233, 3) := by decide +kernel
theorem dX11_over_63 : decode cX11_over 63 = .ok (.istore_n 3, 1) := by decide +kernel
theorem dX11_over_64 : decode cX11_over 64 = .ok (.aload_n 0, 1) := by decide +kernel
theorem dX11_over_65 : decode cX11_over 65 = .ok (.getfield 37, 3) := by decide +kernel
theorem dX11_over_68 : decode cX11_over 68 = .ok (.iload_n 1, 1) := by decide +kernel
theorem dX11_over_69 : decode cX11_over 69 = .ok (.aload_n 0, 1) := by decide +kernel
theorem dX11_over_70 : decode cX11_over 70 = .ok (.getfield 47, 3) := by decide +kernel
theorem dX11_over_73 : decode cX11_over 73 = .ok (.getfield 122, 3) := by decide +kernel
theorem dX11_over_76 : decode cX11_over 76 = .ok (.iload_n 1, 1) := by decide +kernel
theorem dX11_over_77 : decode cX11_over 77 = .ok (.iaload, 1) := by decide +kernel
theorem dX11_over_78 : decode cX11_over 78 = .ok (.iload_n 3, 1) := by decide +kernel
theorem dX11_over_79 : decode cX11_over 79 = .ok (.invokevirtual 237, 3) := by decide +kernel
theorem dX11_over_82 : decode cX11_over 82 = .ok (.istore 4, 2) := by decide +kernel
theorem dX11_over_84 : decode cX11_over 84 = .ok (.aload_n 0, 1) := by decide +kernel
theorem dX11_over_85 : decode cX11_over 85 = .ok (.getfield 47, 3) := by decide +kernel
theorem dX11_over_88 : decode cX11_over 88 = .ok (.getfield 186, 3) := by decide +kernel
theorem dX11_over_91 : decode cX11_over 91 = .ok (.istore 5, 2) := by decide +kernel
theorem dX11_over_93 : decode cX11_over 93 = .ok (.iload 5, 2) := by decide +kernel
theorem dX11_over_95 : decode cX11_over 95 = .ok (.iload_n 2, 1) := by decide +kernel
theorem dX11_over_96 : decode cX11_over 96 = .ok (.if_icmp .gt 95, 3) := by decide +kernel
theorem dX11_over_99 : decode cX11_over 99 = .ok (.bipush 100, 2) := by decide +kernel
theorem dX11_over_101 : decode cX11_over 101 = .ok (.aload_n 0, 1) := by decide +kernel
theorem dX11_over_102 : decode cX11_over 102 = .ok (.getfield 18, 3) := by decide +kernel
theorem dX11_over_105 : decode cX11_over 105 = .ok (.getfield 302, 3) := by decide +kernel
theorem dX11_over_108 : decode cX11_over 108 = .ok (.imul, 1) := by decide +kernel
theorem dX11_over_109 : decode cX11_over 109 = .ok (.aload_n 0, 1) := by decide +kernel
theorem dX11_over_110 : decode cX11_over 110 = .ok (.getfield 18, 3) := by decide +kernel
theorem dX11_over_113 : decode cX11_over 113 = .ok (.iload 5, 2) := by decide +kernel
theorem dX11_over_115 : decode cX11_over 115 = .ok (.iload_n 2, 1) := by decide +kernel
theorem dX11_over_116 : decode cX11_over 116 = .ok (.invokevirtual 305, 3) := by decide +kernel
theorem dX11_over_119 : decode cX11_over 119 = .ok (.imul, 1) := by decide +kernel
theorem dX11_over_120 : decode cX11_over 120 = .ok (.iload 4, 2) := by decide +kernel
theorem dX11_over_122 : decode cX11_over 122 = .ok (.if_icmp .le 6, 3) := by decide +kernel
theorem dX11_over_125 : decode cX11_over 125 = .ok (.iload 5, 2) := by decide +kernel
theorem dX11_over_127 : decode cX11_over 127 = .ok (.ireturn, 1) := by decide +kernel
theorem dX11_over_128 : decode cX11_over 128 = .ok (.iload_n 3, 1) := by decide +kernel
theorem dX11_over_129 : decode cX11_over 129 = .ok (.aload_n 0, 1) := by decide +kernel
theorem dX11_over_130 : decode cX11_over 130 = .ok (.getfield 18, 3) := by decide +kernel
theorem dX11_over_133 : decode cX11_over 133 = .ok (.getfield 150, 3) := by decide +kernel
theorem dX11_over_136 : decode cX11_over 136 = .ok (.getfield 299, 3) := by decide +kernel
theorem dX11_over_139 : decode cX11_over 139 = .ok (.if_icmp .ge 46, 3) := by decide +kernel
theorem dX11_over_142 : decode cX11_over 142 = .ok (.aload_n 0, 1) := by decide +kernel
theorem dX11_over_143 : decode cX11_over 143 = .ok (.getfield 18, 3) := by decide +kernel
theorem dX11_over_146 : decode cX11_over 146 = .ok (.getfield 150, 3) := by decide +kernel
theorem dX11_over_149 : decode cX11_over 149 = .ok (.getfield 154, 3) := by decide +kernel
theorem dX11_over_152 : decode cX11_over 152 = .ok (.iload_n 3, 1) := by decide +kernel
theorem dX11_over_153 : decode cX11_over 153 = .ok (.iaload, 1) := by decide +kernel
theorem dX11_over_154 : decode cX11_over 154 = .ok (.iload 5, 2) := by decide +kernel
theorem dX11_over_156 : decode cX11_over 156 = .ok (.if_icmp .ne 29, 3) := by decide +kernel
theorem dX11_over_159 : decode cX11_over 159 = .ok (.iload 4, 2) := by decide +kernel
theorem dX11_over_161 : decode cX11_over 161 = .ok (.aload_n 0, 1) := by decide +kernel
theorem dX11_over_162 : decode cX11_over 162 = .ok (.getfield 37, 3) := by decide +kernel
theorem dX11_over_165 : decode cX11_over 165 = .ok (.iload_n 1, 1) := by decide +kernel
theorem dX11_over_166 : decode cX11_over 166 = .ok (.iload_n 3, 1) := by decide +kernel
theorem dX11_over_167 : decode cX11_over 167 = .ok (.aload_n 0, 1) := by decide +kernel
theorem dX11_over_168 : decode cX11_over 168 = .ok (.getfield 47, 3) := by decide +kernel
theorem dX11_over_171 : decode cX11_over 171 = .ok (.getfield 122, 3) := by decide +kernel
theorem dX11_over_174 : decode cX11_over 174 = .ok (.iload_n 1, 1) := by decide +kernel
theorem dX11_over_175 : decode cX11_over 175 = .ok (.iaload, 1) := by decide +kernel
theorem dX11_over_176 : decode cX11_over 176 = .ok (.invokevirtual 275, 3) := by decide +kernel
theorem dX11_over_179 : decode cX11_over 179 = .ok (.isub, 1) := by decide +kernel
theorem dX11_over_180 : decode cX11_over 180 = .ok (.istore 4, 2) := by decide +kernel
theorem dX11_over_182 : decode cX11_over 182 = .ok (.iinc 3 1, 3) := by decide +kernel
theorem dX11_over_185 : decode cX11_over 185 = .ok (.iinc 5 1, 3) := by decide +kernel
theorem dX11_over_188 : decode cX11_over 188 = .ok (.goto (-95), 3) := by decide +kernel
theorem dX11_over_191 : decode cX11_over 191 = .ok (.bipush (-2), 2) := by decide +kernel
theorem dX11_over_193 : decode cX11_over 193 = .ok (.ireturn, 1) := by decide +kernel
theorem dX11_peak_0 : decode cX11_peak 0 = .ok (.iload_n 1, 1) := by decide +kernel
theorem dX11_peak_1 : decode cX11_peak 1 = .ok (.ifCond .lt 10, 3) := by decide +kernel
theorem dX11_peak_4 : decode cX11_peak 4 = .ok (.iload_n 1, 1) := by decide +kernel
theorem dX11_peak_5 : decode cX11_peak 5 = .ok (.sipush 199, 3) := by decide +kernel
theorem dX11_peak_8 : decode cX11_peak 8 = .ok (.if_icmp .le 5, 3) := by decide +kernel
theorem dX11_peak_11 : decode cX11_peak 11 = .ok (.iconst (-1), 1) := by decide +kernel
theorem dX11_peak_12 : decode cX11_peak 12 = .ok (.ireturn, 1) := by decide +kernel
theorem dX11_peak_13 : decode cX11_peak 13 = .ok (.aload_n 0, 1) := by decide +kernel
theorem dX11_peak_14 : decode cX11_peak 14 = .ok (.getfield 18, 3) := by decide +kernel
theorem dX11_peak_17 : decode cX11_peak 17 = .ok (.getfield 170, 3) := by decide +kernel
theorem dX11_peak_20 : decode cX11_peak 20 = .ok (.aload_n 0, 1) := by decide +kernel
theorem dX11_peak_21 : decode cX11_peak 21 = .ok (.getfield 18, 3) := by decide +kernel
theorem dX11_peak_24 : decode cX11_peak 24 = .ok (.getfield 173, 3) := by decide +kernel
theorem dX11_peak_27 : decode cX11_peak 27 = .ok (.imul, 1) := by decide +kernel
theorem dX11_peak_28 : decode cX11_peak 28 = .ok (.aload_n 0, 1) := by decide +kernel
theorem dX11_peak_29 : decode cX11_peak 29 = .ok (.getfield 37, 3) := by decide +kernel
theorem dX11_peak_32 : decode cX11_peak 32 = .ok (.iload_n 1, 1) := by decide +kernel
theorem dX11_peak_33 : decode cX11_peak 33 = .ok (.invokevirtual 176, 3) := by decide +kernel
theorem dX11_peak_36 : decode cX11_peak 36 = .ok (.iadd, 1) := by decide +kernel
theorem dX11_peak_37 : decode cX11_peak 37 = .ok (.ireturn, 1) := by decide +kernel
