theorem dX12_restAt_0 : decode cX12_restAt 0 = .ok (.aload_n 0, 1) := by decide +kernel
theorem dX12_restAt_1 : decode cX12_restAt 1 = .ok (.iload_n 1, 1) := by decide +kernel
theorem dX12_restAt_2 : decode cX12_restAt 2 = .ok (.iload_n 2, 1) := by decide +kernel
theorem dX12_restAt_3 : decode cX12_restAt 3 = .ok (.invokevirtual 491, 3) := by decide +kernel
theorem dX12_restAt_6 : decode cX12_restAt 6 = .ok (.iconst 0, 1) := by decide +kernel
theorem dX12_restAt_7 : decode cX12_restAt 7 = .ok (.istore 4, 2) := by decide +kernel
theorem dX12_restAt_9 : decode cX12_restAt 9 = .ok (.iconst 0, 1) := by decide +kernel
theorem dX12_restAt_10 : decode cX12_restAt 10 = .ok (.istore 5, 2) := by decide +kernel
theorem dX12_restAt_12 : decode cX12_restAt 12 = .ok (.iload 5, 2) := by decide +kernel
theorem dX12_restAt_14 : decode cX12_restAt 14 = .ok (.bipush 25, 2) := by decide +kernel
theorem dX12_restAt_16 : decode cX12_restAt 16 = .ok (.if_icmp .ge 49, 3) := by decide +kernel
theorem dX12_restAt_19 : decode cX12_restAt 19 = .ok (.aload_n 0, 1) := by decide +kernel
theorem dX12_restAt_20 : decode cX12_restAt 20 = .ok (.iload 5, 2) := by decide +kernel
theorem dX12_restAt_22 : decode cX12_restAt 22 = .ok (.invokevirtual 494, 3) := by decide +kernel
theorem dX12_restAt_25 : decode cX12_restAt 25 = .ok (.ifCond .ne 6, 3) := by decide +kernel
theorem dX12_restAt_28 : decode cX12_restAt 28 = .ok (.goto 31, 3) := by decide +kernel
theorem dX12_restAt_31 : decode cX12_restAt 31 = .ok (.iload 4, 2) := by decide +kernel
theorem dX12_restAt_33 : decode cX12_restAt 33 = .ok (.iload_n 3, 1) := by decide +kernel
theorem dX12_restAt_34 : decode cX12_restAt 34 = .ok (.if_icmp .ne 22, 3) := by decide +kernel
theorem dX12_restAt_37 : decode cX12_restAt 37 = .ok (.bipush 10, 2) := by decide +kernel
theorem dX12_restAt_39 : decode cX12_restAt 39 = .ok (.iload 5, 2) := by decide +kernel
theorem dX12_restAt_41 : decode cX12_restAt 41 = .ok (.iconst 5, 1) := by decide +kernel
theorem dX12_restAt_42 : decode cX12_restAt 42 = .ok (.idiv, 1) := by decide +kernel
theorem dX12_restAt_43 : decode cX12_restAt 43 = .ok (.invokestatic 485, 3) := by decide +kernel
theorem dX12_restAt_46 : decode cX12_restAt 46 = .ok (.imul, 1) := by decide +kernel
theorem dX12_restAt_47 : decode cX12_restAt 47 = .ok (.iload 5, 2) := by decide +kernel
theorem dX12_restAt_49 : decode cX12_restAt 49 = .ok (.iconst 5, 1) := by decide +kernel
theorem dX12_restAt_50 : decode cX12_restAt 50 = .ok (.irem, 1) := by decide +kernel
theorem dX12_restAt_51 : decode cX12_restAt 51 = .ok (.invokestatic 485, 3) := by decide +kernel
theorem dX12_restAt_54 : decode cX12_restAt 54 = .ok (.iadd, 1) := by decide +kernel
theorem dX12_restAt_55 : decode cX12_restAt 55 = .ok (.ireturn, 1) := by decide +kernel
theorem dX12_restAt_56 : decode cX12_restAt 56 = .ok (.iinc 4 1, 3) := by decide +kernel
theorem dX12_restAt_59 : decode cX12_restAt 59 = .ok (.iinc 5 1, 3) := by decide +kernel
theorem dX12_restAt_62 : decode cX12_restAt 62 = .ok (.goto (-50), 3) := by decide +kernel
theorem dX12_restAt_65 : decode cX12_restAt 65 = .ok (.iload_n 3, 1) := by decide +kernel
theorem dX12_restAt_66 : decode cX12_restAt 66 = .ok (.ifCond .ge 8, 3) := by decide +kernel
theorem dX12_restAt_69 : decode cX12_restAt 69 = .ok (.iload 4, 2) := by decide +kernel
theorem dX12_restAt_71 : decode cX12_restAt 71 = .ok (.goto 5, 3) := by decide +kernel
theorem dX12_restAt_74 : decode cX12_restAt 74 = .ok (.bipush (-2), 2) := by decide +kernel
theorem dX12_restAt_76 : decode cX12_restAt 76 = .ok (.ireturn, 1) := by decide +kernel
theorem dX12_rest_0 : decode cX12_rest 0 = .ok (.aload_n 0, 1) := by decide +kernel
theorem dX12_rest_1 : decode cX12_rest 1 = .ok (.iconst 0, 1) := by decide +kernel
theorem dX12_rest_2 : decode cX12_rest 2 = .ok (.putfield 154, 3) := by decide +kernel
theorem dX12_rest_5 : decode cX12_rest 5 = .ok (.aload_n 0, 1) := by decide +kernel
theorem dX12_rest_6 : decode cX12_rest 6 = .ok (.iload_n 1, 1) := by decide +kernel
theorem dX12_rest_7 : decode cX12_rest 7 = .ok (.invokevirtual 413, 3) := by decide +kernel
theorem dX12_rest_10 : decode cX12_rest 10 = .ok (.ifCond .eq 30, 3) := by decide +kernel
theorem dX12_rest_13 : decode cX12_rest 13 = .ok (.aload_n 0, 1) := by decide +kernel
theorem dX12_rest_14 : decode cX12_rest 14 = .ok (.iload_n 2, 1) := by decide +kernel
theorem dX12_rest_15 : decode cX12_rest 15 = .ok (.invokevirtual 413, 3) := by decide +kernel
theorem dX12_rest_18 : decode cX12_rest 18 = .ok (.ifCond .eq 22, 3) := by decide +kernel
theorem dX12_rest_21 : decode cX12_rest 21 = .ok (.iload_n 1, 1) := by decide +kernel
theorem dX12_rest_22 : decode cX12_rest 22 = .ok (.iload_n 2, 1) := by decide +kernel
theorem dX12_rest_23 : decode cX12_rest 23 = .ok (.if_icmp .eq 17, 3) := by decide +kernel
theorem dX12_rest_26 : decode cX12_rest 26 = .ok (.iload_n 3, 1) := by decide +kernel
theorem dX12_rest_27 : decode cX12_rest 27 = .ok (.ifCond .lt 13, 3) := by decide +kernel
theorem dX12_rest_30 : decode cX12_rest 30 = .ok (.aload_n 0, 1) := by decide +kernel
theorem dX12_rest_31 : decode cX12_rest 31 = .ok (.iload_n 1, 1) := by decide +kernel
theorem dX12_rest_32 : decode cX12_rest 32 = .ok (.iload_n 2, 1) := by decide +kernel
theorem dX12_rest_33 : decode cX12_rest 33 = .ok (.iload_n 3, 1) := by decide +kernel
theorem dX12_rest_34 : decode cX12_rest 34 = .ok (.invokevirtual 497, 3) := by decide +kernel
theorem dX12_rest_37 : decode cX12_rest 37 = .ok (.goto 4, 3) := by decide +kernel
theorem dX12_rest_40 : decode cX12_rest 40 = .ok (.iconst (-1), 1) := by decide +kernel
theorem dX12_rest_41 : decode cX12_rest 41 = .ok (.ireturn, 1) := by decide +kernel
theorem dX12_rests_0 : decode cX12_rests 0 = .ok (.aload_n 0, 1) := by decide +kernel
theorem dX12_rests_1 : decode cX12_rests 1 = .ok (.iconst 0, 1) := by decide +kernel
theorem dX12_rests_2 : decode cX12_rests 2 = .ok (.putfield 154, 3) := by decide +kernel
theorem dX12_rests_5 : decode cX12_rests 5 = .ok (.aload_n 0, 1) := by decide +kernel
theorem dX12_rests_6 : decode cX12_rests 6 = .ok (.iload_n 1, 1) := by decide +kernel
theorem dX12_rests_7 : decode cX12_rests 7 = .ok (.invokevirtual 413, 3) := by decide +kernel
theorem dX12_rests_10 : decode cX12_rests 10 = .ok (.ifCond .eq 26, 3) := by decide +kernel
theorem dX12_rests_13 : decode cX12_rests 13 = .ok (.aload_n 0, 1) := by decide +kernel
theorem dX12_rests_14 : decode cX12_rests 14 = .ok (.iload_n 2, 1) := by decide +kernel
theorem dX12_rests_15 : decode cX12_rests 15 = .ok (.invokevirtual 413, 3) := by decide +kernel
theorem dX12_rests_18 : decode cX12_rests 18 = .ok (.ifCond .eq 18, 3) := by decide +kernel
theorem dX12_rests_21 : decode cX12_rests 21 = .ok (.iload_n 1, 1) := by decide +kernel
theorem dX12_rests_22 : decode cX12_rests 22 = .ok (.iload_n 2, 1) := by decide +kernel
theorem dX12_rests_23 : decode cX12_rests 23 = .ok (.if_icmp .eq 13, 3) := by decide +kernel
theorem dX12_rests_26 : decode cX12_rests 26 = .ok (.aload_n 0, 1) := by decide +kernel
theorem dX12_rests_27 : decode cX12_rests 27 = .ok (.iload_n 1, 1) := by decide +kernel
theorem dX12_rests_28 : decode cX12_rests 28 = .ok (.iload_n 2, 1) := by decide +kernel
theorem dX12_rests_29 : decode cX12_rests 29 = .ok (.iconst (-1), 1) := by decide +kernel
theorem dX12_rests_30 : decode cX12_rests 30 = .ok (.invokevirtual 497, 3) := by decide +kernel
theorem dX12_rests_33 : decode cX12_rests 33 = .ok (.goto 4, 3) := by decide +kernel
theorem dX12_rests_36 : decode cX12_rests 36 = .ok (.iconst (-1), 1) := by decide +kernel
theorem dX12_rests_37 : decode cX12_rests 37 = .ok (.ireturn, 1) := by decide +kernel
theorem dX12_rule_0 : decode cX12_rule 0 = .ok (.aload_n 0, 1) := by decide +kernel
theorem dX12_rule_1 : decode cX12_rule 1 = .ok (.iconst 0, 1) := by decide +kernel
theorem dX12_rule_2 : decode cX12_rule 2 = .ok (.putfield 154, 3) := by decide +kernel
theorem dX12_rule_5 : decode cX12_rule 5 = .ok (.iload_n 1, 1) := by decide +kernel
theorem dX12_rule_6 : decode cX12_rule 6 = .ok (.iconst 0, 1) := by decide +kernel
theorem dX12_rule_7 : decode cX12_rule 7 = .ok (.iconst 3, 1) := by decide +kernel
theorem dX12_rule_8 : decode cX12_rule 8 = .ok (.invokestatic 199, 3) := by decide +kernel
theorem dX12_rule_11 : decode cX12_rule 11 = .ok (.ifCond .eq 11, 3) := by decide +kernel
theorem dX12_rule_14 : decode cX12_rule 14 = .ok (.iload_n 1, 1) := by decide +kernel
theorem dX12_rule_15 : decode cX12_rule 15 = .ok (.aload_n 0, 1) := by decide +kernel
theorem dX12_rule_16 : decode cX12_rule 16 = .ok (.getfield 369, 3) := by decide +kernel
theorem dX12_rule_19 : decode cX12_rule 19 = .ok (.if_icmp .ne 5, 3) := by decide +kernel
theorem dX12_rule_22 : decode cX12_rule 22 = .ok (.iconst 0, 1) := by decide +kernel
theorem dX12_rule_23 : decode cX12_rule 23 = .ok (.ireturn, 1) := by decide +kernel
theorem dX12_rule_24 : decode cX12_rule 24 = .ok (.aload_n 0, 1) := by decide +kernel
theorem dX12_rule_25 : decode cX12_rule 25 = .ok (.invokevirtual 469, 3) := by decide +kernel
theorem dX12_rule_28 : decode cX12_rule 28 = .ok (.aload_n 0, 1) := by decide +kernel
theorem dX12_rule_29 : decode cX12_rule 29 = .ok (.iload_n 1, 1) := by decide +kernel
theorem dX12_rule_30 : decode cX12_rule 30 = .ok (.putfield 369, 3) := by decide +kernel
theorem dX12_rule_33 : decode cX12_rule 33 = .ok (.iconst 1, 1) := by decide +kernel
theorem dX12_rule_34 : decode cX12_rule 34 = .ok (.ireturn, 1) := by decide +kernel
theorem dX12_seat_0 : decode cX12_seat 0 = .ok (.aload_n 0, 1) := by decide +kernel
theorem dX12_seat_1 : decode cX12_seat 1 = .ok (.iconst 0, 1) := by decide +kernel
theorem dX12_seat_2 : decode cX12_seat 2 = .ok (.putfield 154, 3) := by decide +kernel
theorem dX12_seat_5 : decode cX12_seat 5 = .ok (.aload_n 0, 1) := by decide +kernel
theorem dX12_seat_6 : decode cX12_seat 6 = .ok (.iload_n 1, 1) := by decide +kernel
theorem dX12_seat_7 : decode cX12_seat 7 = .ok (.invokevirtual 413, 3) := by decide +kernel
theorem dX12_seat_10 : decode cX12_seat 10 = .ok (.ifCond .eq 26, 3) := by decide +kernel
theorem dX12_seat_13 : decode cX12_seat 13 = .ok (.aload_n 0, 1) := by decide +kernel
theorem dX12_seat_14 : decode cX12_seat 14 = .ok (.iload_n 2, 1) := by decide +kernel
theorem dX12_seat_15 : decode cX12_seat 15 = .ok (.invokevirtual 422, 3) := by decide +kernel
theorem dX12_seat_18 : decode cX12_seat 18 = .ok (.ifCond .eq 18, 3) := by decide +kernel
theorem dX12_seat_21 : decode cX12_seat 21 = .ok (.aload_n 0, 1) := by decide +kernel
theorem dX12_seat_22 : decode cX12_seat 22 = .ok (.iload_n 1, 1) := by decide +kernel
theorem dX12_seat_23 : decode cX12_seat 23 = .ok (.iload_n 2, 1) := by decide +kernel
theorem dX12_seat_24 : decode cX12_seat 24 = .ok (.aload_n 0, 1) := by decide +kernel
theorem dX12_seat_25 : decode cX12_seat 25 = .ok (.getfield 106, 3) := by decide +kernel
theorem dX12_seat_28 : decode cX12_seat 28 = .ok (.iconst 0, 1) := by decide +kernel
theorem dX12_seat_29 : decode cX12_seat 29 = .ok (.iaload, 1) := by decide +kernel
theorem dX12_seat_30 : decode cX12_seat 30 = .ok (.invokevirtual 482, 3) := by decide +kernel
theorem dX12_seat_33 : decode cX12_seat 33 = .ok (.goto 4, 3) := by decide +kernel
theorem dX12_seat_36 : decode cX12_seat 36 = .ok (.iconst (-1), 1) := by decide +kernel
theorem dX12_seat_37 : decode cX12_seat 37 = .ok (.ireturn, 1) := by decide +kernel
theorem dX12_shares_0 : decode cX12_shares 0 = .ok (.aload_n 0, 1) := by decide +kernel
theorem dX12_shares_1 : decode cX12_shares 1 = .ok (.iconst 0, 1) := by decide +kernel
theorem dX12_shares_2 : decode cX12_shares 2 = .ok (.putfield 154, 3) := by decide +kernel
theorem dX12_shares_5 : decode cX12_shares 5 = .ok (.aload_n 0, 1) := by decide +kernel
theorem dX12_shares_6 : decode cX12_shares 6 = .ok (.getfield 247, 3) := by decide +kernel
theorem dX12_shares_9 : decode cX12_shares 9 = .ok (.ifCond .eq 12, 3) := by decide +kernel
theorem dX12_shares_12 : decode cX12_shares 12 = .ok (.iload_n 1, 1) := by decide +kernel
theorem dX12_shares_13 : decode cX12_shares 13 = .ok (.iconst 0, 1) := by decide +kernel
theorem dX12_shares_14 : decode cX12_shares 14 = .ok (.iconst 1, 1) := by decide +kernel
theorem dX12_shares_15 : decode cX12_shares 15 = .ok (.invokestatic 199, 3) := by decide +kernel
theorem dX12_shares_18 : decode cX12_shares 18 = .ok (.ifCond .ne 5, 3) := by decide +kernel
theorem dX12_shares_21 : decode cX12_shares 21 = .ok (.iconst (-1), 1) := by decide +kernel
theorem dX12_shares_22 : decode cX12_shares 22 = .ok (.ireturn, 1) := by decide +kernel
theorem dX12_shares_23 : decode cX12_shares 23 = .ok (.iload_n 1, 1) := by decide +kernel
theorem dX12_shares_24 : decode cX12_shares 24 = .ok (.ifCond .ne 11, 3) := by decide +kernel
theorem dX12_shares_27 : decode cX12_shares 27 = .ok (.aload_n 0, 1) := by decide +kernel
theorem dX12_shares_28 : decode cX12_shares 28 = .ok (.iconst 0, 1) := by decide +kernel
theorem dX12_shares_29 : decode cX12_shares 29 = .ok (.invokevirtual 518, 3) := by decide +kernel
theorem dX12_shares_32 : decode cX12_shares 32 = .ok (.goto 8, 3) := by decide +kernel
theorem dX12_shares_35 : decode cX12_shares 35 = .ok (.aload_n 0, 1) := by decide +kernel
theorem dX12_shares_36 : decode cX12_shares 36 = .ok (.iconst 0, 1) := by decide +kernel
theorem dX12_shares_37 : decode cX12_shares 37 = .ok (.invokevirtual 521, 3) := by decide +kernel
theorem dX12_shares_40 : decode cX12_shares 40 = .ok (.ireturn, 1) := by decide +kernel
theorem dX12_strike_0 : decode cX12_strike 0 = .ok (.aload_n 0, 1) := by decide +kernel
theorem dX12_strike_1 : decode cX12_strike 1 = .ok (.iconst 0, 1) := by decide +kernel
theorem dX12_strike_2 : decode cX12_strike 2 = .ok (.putfield 154, 3) := by decide +kernel
theorem dX12_strike_5 : decode cX12_strike 5 = .ok (.aload_n 0, 1) := by decide +kernel
theorem dX12_strike_6 : decode cX12_strike 6 = .ok (.getfield 376, 3) := by decide +kernel
theorem dX12_strike_9 : decode cX12_strike 9 = .ok (.bipush 24, 2) := by decide +kernel
theorem dX12_strike_11 : decode cX12_strike 11 = .ok (.if_icmp .eq 15, 3) := by decide +kernel
theorem dX12_strike_14 : decode cX12_strike 14 = .ok (.iload_n 1, 1) := by decide +kernel
theorem dX12_strike_15 : decode cX12_strike 15 = .ok (.ifCond .lt 11, 3) := by decide +kernel
theorem dX12_strike_18 : decode cX12_strike 18 = .ok (.iload_n 1, 1) := by decide +kernel
theorem dX12_strike_19 : decode cX12_strike 19 = .ok (.aload_n 0, 1) := by decide +kernel
theorem dX12_strike_20 : decode cX12_strike 20 = .ok (.getfield 376, 3) := by decide +kernel
theorem dX12_strike_23 : decode cX12_strike 23 = .ok (.if_icmp .lt 7, 3) := by decide +kernel
theorem dX12_strike_26 : decode cX12_strike 26 = .ok (.iconst (-1), 1) := by decide +kernel
theorem dX12_strike_27 : decode cX12_strike 27 = .ok (.goto 10, 3) := by decide +kernel
theorem dX12_strike_30 : decode cX12_strike 30 = .ok (.aload_n 0, 1) := by decide +kernel
theorem dX12_strike_31 : decode cX12_strike 31 = .ok (.iconst (-1), 1) := by decide +kernel
theorem dX12_strike_32 : decode cX12_strike 32 = .ok (.iload_n 1, 1) := by decide +kernel
theorem dX12_strike_33 : decode cX12_strike 33 = .ok (.iconst 0, 1) := by decide +kernel
theorem dX12_strike_34 : decode cX12_strike 34 = .ok (.invokevirtual 524, 3) := by decide +kernel
theorem dX12_strike_37 : decode cX12_strike 37 = .ok (.ireturn, 1) := by decide +kernel
theorem dX12_stroke_0 : decode cX12_stroke 0 = .ok (.aload_n 0, 1) := by decide +kernel
theorem dX12_stroke_1 : decode cX12_stroke 1 = .ok (.iconst 0, 1) := by decide +kernel
theorem dX12_stroke_2 : decode cX12_stroke 2 = .ok (.putfield 154, 3) := by decide +kernel
theorem dX12_stroke_5 : decode cX12_stroke 5 = .ok (.aload_n 0, 1) := by decide +kernel
theorem dX12_stroke_6 : decode cX12_stroke 6 = .ok (.iload_n 1, 1) := by decide +kernel
theorem dX12_stroke_7 : decode cX12_stroke 7 = .ok (.invokevirtual 413, 3) := by decide +kernel
theorem dX12_stroke_10 : decode cX12_stroke 10 = .ok (.ifCond .eq 12, 3) := by decide +kernel
theorem dX12_stroke_13 : decode cX12_stroke 13 = .ok (.iload_n 2, 1) := by decide +kernel
theorem dX12_stroke_14 : decode cX12_stroke 14 = .ok (.iconst 0, 1) := by decide +kernel
theorem dX12_stroke_15 : decode cX12_stroke 15 = .ok (.iconst 3, 1) := by decide +kernel
theorem dX12_stroke_16 : decode cX12_stroke 16 = .ok (.invokestatic 199, 3) := by decide +kernel
theorem dX12_stroke_19 : decode cX12_stroke 19 = .ok (.ifCond .ne 5, 3) := by decide +kernel
theorem dX12_stroke_22 : decode cX12_stroke 22 = .ok (.iconst (-1), 1) := by decide +kernel
theorem dX12_stroke_23 : decode cX12_stroke 23 = .ok (.ireturn, 1) := by decide +kernel
theorem dX12_stroke_24 : decode cX12_stroke 24 = .ok (.aload_n 0, 1) := by decide +kernel
theorem dX12_stroke_25 : decode cX12_stroke 25 = .ok (.aload_n 0, 1) := by decide +kernel
theorem dX12_stroke_26 : decode cX12_stroke 26 = .ok (.getfield 88, 3) := by decide +kernel
theorem dX12_stroke_29 : decode cX12_stroke 29 = .ok (.iload_n 1, 1) := by decide +kernel
theorem dX12_stroke_30 : decode cX12_stroke 30 = .ok (.iaload, 1) := by decide +kernel
theorem dX12_stroke_31 : decode cX12_stroke 31 = .ok (.iload_n 2, 1) := by decide +kernel
theorem dX12_stroke_32 : decode cX12_stroke 32 = .ok (.invokevirtual 466, 3) := by decide +kernel
theorem dX12_stroke_35 : decode cX12_stroke 35 = .ok (.istore_n 3, 1) := by decide +kernel
theorem dX12_stroke_36 : decode cX12_stroke 36 = .ok (.iload_n 3, 1) := by decide +kernel
theorem dX12_stroke_37 : decode cX12_stroke 37 = .ok (.ifCond .lt 21, 3) := by decide +kernel
theorem dX12_stroke_40 : decode cX12_stroke 40 = .ok (.aload_n 0, 1) := by decide +kernel
theorem dX12_stroke_41 : decode cX12_stroke 41 = .ok (.getfield 97, 3) := by decide +kernel
theorem dX12_stroke_44 : decode cX12_stroke 44 = .ok (.iload_n 1, 1) := by decide +kernel
theorem dX12_stroke_45 : decode cX12_stroke 45 = .ok (.iaload, 1) := by decide +kernel
theorem dX12_stroke_46 : decode cX12_stroke 46 = .ok (.ifCond .gt 12, 3) := by decide +kernel
theorem dX12_stroke_49 : decode cX12_stroke 49 = .ok (.aload_n 0, 1) := by decide +kernel
theorem dX12_stroke_50 : decode cX12_stroke 50 = .ok (.getfield 100, 3) := by decide +kernel
theorem dX12_stroke_53 : decode cX12_stroke 53 = .ok (.iload_n 1, 1) := by decide +kernel
theorem dX12_stroke_54 : decode cX12_stroke 54 = .ok (.iaload, 1) := by decide +kernel
theorem dX12_stroke_55 : decode cX12_stroke 55 = .ok (.ifCond .ne 6, 3) := by decide +kernel
theorem dX12_stroke_58 : decode cX12_stroke 58 = .ok (.bipush (-2), 2) := by decide +kernel
theorem dX12_stroke_60 : decode cX12_stroke 60 = .ok (.ireturn, 1) := by decide +kernel
theorem dX12_stroke_61 : decode cX12_stroke 61 = .ok (.aload_n 0, 1) := by decide +kernel
theorem dX12_stroke_62 : decode cX12_stroke 62 = .ok (.invokevirtual 469, 3) := by decide +kernel
theorem dX12_stroke_65 : decode cX12_stroke 65 = .ok (.aload_n 0, 1) := by decide +kernel
theorem dX12_stroke_66 : decode cX12_stroke 66 = .ok (.getfield 88, 3) := by decide +kernel
theorem dX12_stroke_69 : decode cX12_stroke 69 = .ok (.iload_n 1, 1) := by decide +kernel
theorem dX12_stroke_70 : decode cX12_stroke 70 = .ok (.iload_n 3, 1) := by decide +kernel
theorem dX12_stroke_71 : decode cX12_stroke 71 = .ok (.iastore, 1) := by decide +kernel
theorem dX12_stroke_72 : decode cX12_stroke 72 = .ok (.aload_n 0, 1) := by decide +kernel
theorem dX12_stroke_73 : decode cX12_stroke 73 = .ok (.getfield 100, 3) := by decide +kernel
theorem dX12_stroke_76 : decode cX12_stroke 76 = .ok (.iload_n 1, 1) := by decide +kernel
theorem dX12_stroke_77 : decode cX12_stroke 77 = .ok (.dup2, 1) := by decide +kernel
theorem dX12_stroke_78 : decode cX12_stroke 78 = .ok (.iaload, 1) := by decide +kernel
theorem dX12_stroke_79 : decode cX12_stroke 79 = .ok (.iconst 1, 1) := by decide +kernel
theorem dX12_stroke_80 : decode cX12_stroke 80 = .ok (.isub, 1) := by decide +kernel
theorem dX12_stroke_81 : decode cX12_stroke 81 = .ok (.iastore, 1) := by decide +kernel
theorem dX12_stroke_82 : decode cX12_stroke 82 = .ok (.iload_n 3, 1) := by decide +kernel
theorem dX12_stroke_83 : decode cX12_stroke 83 = .ok (.ireturn, 1) := by decide +kernel
theorem dX12_table_0 : decode cX12_table 0 = .ok (.aload_n 0, 1) := by decide +kernel
theorem dX12_table_1 : decode cX12_table 1 = .ok (.iconst 0, 1) := by decide +kernel
theorem dX12_table_2 : decode cX12_table 2 = .ok (.putfield 154, 3) := by decide +kernel
theorem dX12_table_5 : decode cX12_table 5 = .ok (.iload_n 1, 1) := by decide +kernel
theorem dX12_table_6 : decode cX12_table 6 = .ok (.iconst 0, 1) := by decide +kernel
theorem dX12_table_7 : decode cX12_table 7 = .ok (.iconst 3, 1) := by decide +kernel
theorem dX12_table_8 : decode cX12_table 8 = .ok (.invokestatic 199, 3) := by decide +kernel
theorem dX12_table_11 : decode cX12_table 11 = .ok (.ifCond .eq 30, 3) := by decide +kernel
theorem dX12_table_14 : decode cX12_table 14 = .ok (.iload_n 2, 1) := by decide +kernel
theorem dX12_table_15 : decode cX12_table 15 = .ok (.ifCond .lt 26, 3) := by decide +kernel
theorem dX12_table_18 : decode cX12_table 18 = .ok (.iload_n 3, 1) := by decide +kernel
theorem dX12_table_19 : decode cX12_table 19 = .ok (.iconst 0, 1) := by decide +kernel
theorem dX12_table_20 : decode cX12_table 20 = .ok (.bipush 7, 2) := by decide +kernel
theorem dX12_table_22 : decode cX12_table 22 = .ok (.invokestatic 199, 3) := by decide +kernel
theorem dX12_table_25 : decode cX12_table 25 = .ok (.ifCond .eq 16, 3) := by decide +kernel
theorem dX12_table_28 : decode cX12_table 28 = .ok (.iload_n 3, 1) := by decide +kernel
theorem dX12_table_29 : decode cX12_table 29 = .ok (.iconst 5, 1) := by decide +kernel
theorem dX12_table_30 : decode cX12_table 30 = .ok (.if_icmp .ge 13, 3) := by decide +kernel
theorem dX12_table_33 : decode cX12_table 33 = .ok (.iload_n 3, 1) := by decide +kernel
theorem dX12_table_34 : decode cX12_table 34 = .ok (.aload_n 0, 1) := by decide +kernel
theorem dX12_table_35 : decode cX12_table 35 = .ok (.getfield 247, 3) := by decide +kernel
theorem dX12_table_38 : decode cX12_table 38 = .ok (.if_icmp .lt 5, 3) := by decide +kernel
theorem dX12_table_41 : decode cX12_table 41 = .ok (.iconst (-1), 1) := by decide +kernel
theorem dX12_table_42 : decode cX12_table 42 = .ok (.ireturn, 1) := by decide +kernel
theorem dX12_table_43 : decode cX12_table 43 = .ok (.aload_n 0, 1) := by decide +kernel
theorem dX12_table_44 : decode cX12_table 44 = .ok (.iload_n 1, 1) := by decide +kernel
theorem dX12_table_45 : decode cX12_table 45 = .ok (.iload_n 2, 1) := by decide +kernel
theorem dX12_table_46 : decode cX12_table 46 = .ok (.invokevirtual 515, 3) := by decide +kernel
theorem dX12_table_49 : decode cX12_table 49 = .ok (.iload_n 3, 1) := by decide +kernel
theorem dX12_table_50 : decode cX12_table 50 = .ok (.iconst 5, 1) := by decide +kernel
theorem dX12_table_51 : decode cX12_table 51 = .ok (.if_icmp .ge 14, 3) := by decide +kernel
theorem dX12_table_54 : decode cX12_table 54 = .ok (.aload_n 0, 1) := by decide +kernel
theorem dX12_table_55 : decode cX12_table 55 = .ok (.getfield 91, 3) := by decide +kernel
theorem dX12_table_58 : decode cX12_table 58 = .ok (.iconst 5, 1) := by decide +kernel
theorem dX12_table_59 : decode cX12_table 59 = .ok (.iload_n 3, 1) := by decide +kernel
theorem dX12_table_60 : decode cX12_table 60 = .ok (.iadd, 1) := by decide +kernel
theorem dX12_table_61 : decode cX12_table 61 = .ok (.iaload, 1) := by decide +kernel
theorem dX12_table_62 : decode cX12_table 62 = .ok (.goto 37, 3) := by decide +kernel
theorem dX12_table_65 : decode cX12_table 65 = .ok (.iload_n 3, 1) := by decide +kernel
theorem dX12_table_66 : decode cX12_table 66 = .ok (.iconst 5, 1) := by decide +kernel
theorem dX12_table_67 : decode cX12_table 67 = .ok (.if_icmp .ne 12, 3) := by decide +kernel
theorem dX12_table_70 : decode cX12_table 70 = .ok (.aload_n 0, 1) := by decide +kernel
theorem dX12_table_71 : decode cX12_table 71 = .ok (.getfield 109, 3) := by decide +kernel
theorem dX12_table_74 : decode cX12_table 74 = .ok (.iconst 1, 1) := by decide +kernel
theorem dX12_table_75 : decode cX12_table 75 = .ok (.iaload, 1) := by decide +kernel
theorem dX12_table_76 : decode cX12_table 76 = .ok (.goto 23, 3) := by decide +kernel
theorem dX12_table_79 : decode cX12_table 79 = .ok (.iload_n 3, 1) := by decide +kernel
theorem dX12_table_80 : decode cX12_table 80 = .ok (.bipush 6, 2) := by decide +kernel
theorem dX12_table_82 : decode cX12_table 82 = .ok (.if_icmp .ne 12, 3) := by decide +kernel
theorem dX12_table_85 : decode cX12_table 85 = .ok (.aload_n 0, 1) := by decide +kernel
theorem dX12_table_86 : decode cX12_table 86 = .ok (.getfield 112, 3) := by decide +kernel
theorem dX12_table_89 : decode cX12_table 89 = .ok (.iconst 1, 1) := by decide +kernel
theorem dX12_table_90 : decode cX12_table 90 = .ok (.iaload, 1) := by decide +kernel
theorem dX12_table_91 : decode cX12_table 91 = .ok (.goto 8, 3) := by decide +kernel
theorem dX12_table_94 : decode cX12_table 94 = .ok (.aload_n 0, 1) := by decide +kernel
theorem dX12_table_95 : decode cX12_table 95 = .ok (.iconst 1, 1) := by decide +kernel
theorem dX12_table_96 : decode cX12_table 96 = .ok (.invokevirtual 518, 3) := by decide +kernel
theorem dX12_table_99 : decode cX12_table 99 = .ok (.ireturn, 1) := by decide +kernel
theorem dX12_text_0 : decode cX12_text 0 = .ok (.aload_n 0, 1) := by decide +kernel
theorem dX12_text_1 : decode cX12_text 1 = .ok (.iconst 0, 1) := by decide +kernel
theorem dX12_text_2 : decode cX12_text 2 = .ok (.putfield 154, 3) := by decide +kernel
theorem dX12_text_5 : decode cX12_text 5 = .ok (.iload_n 1, 1) := by decide +kernel
theorem dX12_text_6 : decode cX12_text 6 = .ok (.ifCond .lt 11, 3) := by decide +kernel
theorem dX12_text_9 : decode cX12_text 9 = .ok (.iload_n 1, 1) := by decide +kernel
theorem dX12_text_10 : decode cX12_text 10 = .ok (.aload_n 0, 1) := by decide +kernel
theorem dX12_text_11 : decode cX12_text 11 = .ok (.getfield 157, 3) := by decide +kernel
theorem dX12_text_14 : decode cX12_text 14 = .ok (.if_icmp .le 6, 3) := by decide +kernel
theorem dX12_text_17 : decode cX12_text 17 = .ok (.bipush (-2), 2) := by decide +kernel
theorem dX12_text_19 : decode cX12_text 19 = .ok (.ireturn, 1) := by decide +kernel
theorem dX12_text_20 : decode cX12_text 20 = .ok (.aload_n 0, 1) := by decide +kernel
theorem dX12_text_21 : decode cX12_text 21 = .ok (.iload_n 1, 1) := by decide +kernel
theorem dX12_text_22 : decode cX12_text 22 = .ok (.putfield 166, 3) := by decide +kernel
theorem dX12_text_25 : decode cX12_text 25 = .ok (.aload_n 0, 1) := by decide +kernel
theorem dX12_text_26 : decode cX12_text 26 = .ok (.iconst 0, 1) := by decide +kernel
theorem dX12_text_27 : decode cX12_text 27 = .ok (.putfield 157, 3) := by decide +kernel
theorem dX12_text_30 : decode cX12_text 30 = .ok (.aload_n 0, 1) := by decide +kernel
theorem dX12_text_31 : decode cX12_text 31 = .ok (.iconst 0, 1) := by decide +kernel
theorem dX12_text_32 : decode cX12_text 32 = .ok (.putfield 160, 3) := by decide +kernel
theorem dX12_text_35 : decode cX12_text 35 = .ok (.aload_n 0, 1) := by decide +kernel
theorem dX12_text_36 : decode cX12_text 36 = .ok (.iconst (-1), 1) := by decide +kernel
theorem dX12_text_37 : decode cX12_text 37 = .ok (.putfield 16, 3) := by decide +kernel
theorem dX12_text_40 : decode cX12_text 40 = .ok (.aload_n 0, 1) := by decide +kernel
theorem dX12_text_41 : decode cX12_text 41 = .ok (.iconst 0, 1) := by decide +kernel
theorem dX12_text_42 : decode cX12_text 42 = .ok (.putfield 169, 3) := by decide +kernel
theorem dX12_text_45 : decode cX12_text 45 = .ok (.aload_n 0, 1) := by decide +kernel
theorem dX12_text_46 : decode cX12_text 46 = .ok (.invokevirtual 148, 3) := by decide +kernel
theorem dX12_text_49 : decode cX12_text 49 = .ok (.aload_n 0, 1) := by decide +kernel
theorem dX12_text_50 : decode cX12_text 50 = .ok (.invokevirtual 206, 3) := by decide +kernel
theorem dX12_text_53 : decode cX12_text 53 = .ok (.iconst 0, 1) := by decide +kernel
theorem dX12_text_54 : decode cX12_text 54 = .ok (.istore_n 2, 1) := by decide +kernel
theorem dX12_text_55 : decode cX12_text 55 = .ok (.aload_n 0, 1) := by decide +kernel
theorem dX12_text_56 : decode cX12_text 56 = .ok (.getfield 172, 3) := by decide +kernel
theorem dX12_text_59 : decode cX12_text 59 = .ok (.ifCond .eq 18, 3) := by decide +kernel
theorem dX12_text_62 : decode cX12_text 62 = .ok (.aload_n 0, 1) := by decide +kernel
theorem dX12_text_63 : decode cX12_text 63 = .ok (.invokevirtual 295, 3) := by decide +kernel
theorem dX12_text_66 : decode cX12_text 66 = .ok (.ifCond .ne 5, 3) := by decide +kernel
theorem dX12_text_69 : decode cX12_text 69 = .ok (.iconst (-1), 1) := by decide +kernel
theorem dX12_text_70 : decode cX12_text 70 = .ok (.ireturn, 1) := by decide +kernel
theorem dX12_text_71 : decode cX12_text 71 = .ok (.iinc 2 1, 3) := by decide +kernel
theorem dX12_text_74 : decode cX12_text 74 = .ok (.goto (-19), 3) := by decide +kernel
theorem dX12_text_77 : decode cX12_text 77 = .ok (.aload_n 0, 1) := by decide +kernel
theorem dX12_text_78 : decode cX12_text 78 = .ok (.invokevirtual 151, 3) := by decide +kernel
theorem dX12_text_81 : decode cX12_text 81 = .ok (.iload_n 2, 1) := by decide +kernel
theorem dX12_text_82 : decode cX12_text 82 = .ok (.ireturn, 1) := by decide +kernel
theorem dX12_tried_0 : decode cX12_tried 0 = .ok (.aload_n 0, 1) := by decide +kernel
theorem dX12_tried_1 : decode cX12_tried 1 = .ok (.iconst 0, 1) := by decide +kernel
theorem dX12_tried_2 : decode cX12_tried 2 = .ok (.putfield 154, 3) := by decide +kernel
theorem dX12_tried_5 : decode cX12_tried 5 = .ok (.iload_n 1, 1) := by decide +kernel
theorem dX12_tried_6 : decode cX12_tried 6 = .ok (.iconst 0, 1) := by decide +kernel
theorem dX12_tried_7 : decode cX12_tried 7 = .ok (.iconst 4, 1) := by decide +kernel
theorem dX12_tried_8 : decode cX12_tried 8 = .ok (.invokestatic 199, 3) := by decide +kernel
theorem dX12_tried_11 : decode cX12_tried 11 = .ok (.ifCond .eq 7, 3) := by decide +kernel
theorem dX12_tried_14 : decode cX12_tried 14 = .ok (.iload_n 3, 1) := by decide +kernel
theorem dX12_tried_15 : decode cX12_tried 15 = .ok (.ifCond .ge 5, 3) := by decide +kernel
theorem dX12_tried_18 : decode cX12_tried 18 = .ok (.iconst (-1), 1) := by decide +kernel
theorem dX12_tried_19 : decode cX12_tried 19 = .ok (.ireturn, 1) := by decide +kernel
theorem dX12_tried_20 : decode cX12_tried 20 = .ok (.iload_n 1, 1) := by decide +kernel
theorem dX12_tried_21 : decode cX12_tried 21 = .ok (.iconst 1, 1) := by decide +kernel
theorem dX12_tried_22 : decode cX12_tried 22 = .ok (.if_icmp .eq 8, 3) := by decide +kernel
theorem dX12_tried_25 : decode cX12_tried 25 = .ok (.iload_n 1, 1) := by decide +kernel
theorem dX12_tried_26 : decode cX12_tried 26 = .ok (.iconst 4, 1) := by decide +kernel
theorem dX12_tried_27 : decode cX12_tried 27 = .ok (.if_icmp .ne 14, 3) := by decide +kernel
theorem dX12_tried_30 : decode cX12_tried 30 = .ok (.aload_n 0, 1) := by decide +kernel
theorem dX12_tried_31 : decode cX12_tried 31 = .ok (.iload_n 2, 1) := by decide +kernel
theorem dX12_tried_32 : decode cX12_tried 32 = .ok (.invokevirtual 413, 3) := by decide +kernel
theorem dX12_tried_35 : decode cX12_tried 35 = .ok (.ifCond .ne 12, 3) := by decide +kernel
theorem dX12_tried_38 : decode cX12_tried 38 = .ok (.goto 7, 3) := by decide +kernel
theorem dX12_tried_41 : decode cX12_tried 41 = .ok (.iload_n 2, 1) := by decide +kernel
theorem dX12_tried_42 : decode cX12_tried 42 = .ok (.ifCond .eq 5, 3) := by decide +kernel
theorem dX12_tried_45 : decode cX12_tried 45 = .ok (.iconst (-1), 1) := by decide +kernel
theorem dX12_tried_46 : decode cX12_tried 46 = .ok (.ireturn, 1) := by decide +kernel
theorem dX12_tried_47 : decode cX12_tried 47 = .ok (.aload_n 0, 1) := by decide +kernel
theorem dX12_tried_48 : decode cX12_tried 48 = .ok (.getfield 372, 3) := by decide +kernel
theorem dX12_tried_51 : decode cX12_tried 51 = .ok (.lstore 4, 2) := by decide +kernel
theorem dX12_tried_53 : decode cX12_tried 53 = .ok (.aload_n 0, 1) := by decide +kernel
theorem dX12_tried_54 : decode cX12_tried 54 = .ok (.iload_n 3, 1) := by decide +kernel
theorem dX12_tried_55 : decode cX12_tried 55 = .ok (.i2l, 1) := by decide +kernel
theorem dX12_tried_56 : decode cX12_tried 56 = .ok (.putfield 372, 3) := by decide +kernel
theorem dX12_tried_59 : decode cX12_tried 59 = .ok (.aload_n 0, 1) := by decide +kernel
theorem dX12_tried_60 : decode cX12_tried 60 = .ok (.invokevirtual 509, 3) := by decide +kernel
theorem dX12_tried_63 : decode cX12_tried 63 = .ok (.aload_n 0, 1) := by decide +kernel
theorem dX12_tried_64 : decode cX12_tried 64 = .ok (.iload_n 1, 1) := by decide +kernel
theorem dX12_tried_65 : decode cX12_tried 65 = .ok (.putfield 115, 3) := by decide +kernel
theorem dX12_tried_68 : decode cX12_tried 68 = .ok (.aload_n 0, 1) := by decide +kernel
theorem dX12_tried_69 : decode cX12_tried 69 = .ok (.iload_n 2, 1) := by decide +kernel
theorem dX12_tried_70 : decode cX12_tried 70 = .ok (.putfield 430, 3) := by decide +kernel
theorem dX12_tried_73 : decode cX12_tried 73 = .ok (.iconst 0, 1) := by decide +kernel
theorem dX12_tried_74 : decode cX12_tried 74 = .ok (.istore 6, 2) := by decide +kernel
theorem dX12_tried_76 : decode cX12_tried 76 = .ok (.iload 6, 2) := by decide +kernel
theorem dX12_tried_78 : decode cX12_tried 78 = .ok (.aload_n 0, 1) := by decide +kernel
theorem dX12_tried_79 : decode cX12_tried 79 = .ok (.getfield 247, 3) := by decide +kernel
theorem dX12_tried_82 : decode cX12_tried 82 = .ok (.if_icmp .ge 29, 3) := by decide +kernel
theorem dX12_tried_85 : decode cX12_tried 85 = .ok (.iload_n 1, 1) := by decide +kernel
theorem dX12_tried_86 : decode cX12_tried 86 = .ok (.iconst 4, 1) := by decide +kernel
theorem dX12_tried_87 : decode cX12_tried 87 = .ok (.if_icmp .ne 24, 3) := by decide +kernel
theorem dX12_tried_90 : decode cX12_tried 90 = .ok (.aload_n 0, 1) := by decide +kernel
theorem dX12_tried_91 : decode cX12_tried 91 = .ok (.getfield 88, 3) := by decide +kernel
theorem dX12_tried_94 : decode cX12_tried 94 = .ok (.iconst 5, 1) := by decide +kernel
theorem dX12_tried_95 : decode cX12_tried 95 = .ok (.iload 6, 2) := by decide +kernel
theorem dX12_tried_97 : decode cX12_tried 97 = .ok (.iadd, 1) := by decide +kernel
theorem dX12_tried_98 : decode cX12_tried 98 = .ok (.aload_n 0, 1) := by decide +kernel
theorem dX12_tried_99 : decode cX12_tried 99 = .ok (.getfield 88, 3) := by decide +kernel
theorem dX12_tried_102 : decode cX12_tried 102 = .ok (.iload_n 2, 1) := by decide +kernel
theorem dX12_tried_103 : decode cX12_tried 103 = .ok (.iaload, 1) := by decide +kernel
theorem dX12_tried_104 : decode cX12_tried 104 = .ok (.iastore, 1) := by decide +kernel
theorem dX12_tried_105 : decode cX12_tried 105 = .ok (.iinc 6 1, 3) := by decide +kernel
theorem dX12_tried_108 : decode cX12_tried 108 = .ok (.goto (-32), 3) := by decide +kernel
theorem dX12_tried_111 : decode cX12_tried 111 = .ok (.aload_n 0, 1) := by decide +kernel
theorem dX12_tried_112 : decode cX12_tried 112 = .ok (.aload_n 0, 1) := by decide +kernel
theorem dX12_tried_113 : decode cX12_tried 113 = .ok (.getfield 369, 3) := by decide +kernel
theorem dX12_tried_116 : decode cX12_tried 116 = .ok (.invokevirtual 512, 3) := by decide +kernel
theorem dX12_tried_119 : decode cX12_tried 119 = .ok (.aload_n 0, 1) := by decide +kernel
theorem dX12_tried_120 : decode cX12_tried 120 = .ok (.iconst (-1), 1) := by decide +kernel
theorem dX12_tried_121 : decode cX12_tried 121 = .ok (.putfield 115, 3) := by decide +kernel
theorem dX12_tried_124 : decode cX12_tried 124 = .ok (.aload_n 0, 1) := by decide +kernel
theorem dX12_tried_125 : decode cX12_tried 125 = .ok (.lload 4, 2) := by decide +kernel
theorem dX12_tried_127 : decode cX12_tried 127 = .ok (.putfield 372, 3) := by decide +kernel
theorem dX12_tried_130 : decode cX12_tried 130 = .ok (.aload_n 0, 1) := by decide +kernel
theorem dX12_tried_131 : decode cX12_tried 131 = .ok (.iconst 1, 1) := by decide +kernel
theorem dX12_tried_132 : decode cX12_tried 132 = .ok (.invokevirtual 521, 3) := by decide +kernel
theorem dX12_tried_135 : decode cX12_tried 135 = .ok (.ireturn, 1) := by decide +kernel
theorem dX12_undo_0 : decode cX12_undo 0 = .ok (.aload_n 0, 1) := by decide +kernel
theorem dX12_undo_1 : decode cX12_undo 1 = .ok (.iconst 0, 1) := by decide +kernel
theorem dX12_undo_2 : decode cX12_undo 2 = .ok (.putfield 154, 3) := by decide +kernel
theorem dX12_undo_5 : decode cX12_undo 5 = .ok (.aload_n 0, 1) := by decide +kernel
theorem dX12_undo_6 : decode cX12_undo 6 = .ok (.getfield 379, 3) := by decide +kernel
theorem dX12_undo_9 : decode cX12_undo 9 = .ok (.ifCond .ne 5, 3) := by decide +kernel
theorem dX12_undo_12 : decode cX12_undo 12 = .ok (.iconst (-1), 1) := by decide +kernel
theorem dX12_undo_13 : decode cX12_undo 13 = .ok (.ireturn, 1) := by decide +kernel
theorem dX12_undo_14 : decode cX12_undo 14 = .ok (.aload_n 0, 1) := by decide +kernel
theorem dX12_undo_15 : decode cX12_undo 15 = .ok (.dup, 1) := by decide +kernel
theorem dX12_undo_16 : decode cX12_undo 16 = .ok (.getfield 379, 3) := by decide +kernel
theorem dX12_undo_19 : decode cX12_undo 19 = .ok (.iconst 1, 1) := by decide +kernel
theorem dX12_undo_20 : decode cX12_undo 20 = .ok (.isub, 1) := by decide +kernel
theorem dX12_undo_21 : decode cX12_undo 21 = .ok (.putfield 379, 3) := by decide +kernel
theorem dX12_undo_24 : decode cX12_undo 24 = .ok (.iconst 0, 1) := by decide +kernel
theorem dX12_undo_25 : decode cX12_undo 25 = .ok (.istore_n 1, 1) := by decide +kernel
theorem dX12_undo_26 : decode cX12_undo 26 = .ok (.iload_n 1, 1) := by decide +kernel
theorem dX12_undo_27 : decode cX12_undo 27 = .ok (.iconst 5, 1) := by decide +kernel
theorem dX12_undo_28 : decode cX12_undo 28 = .ok (.if_icmp .ge 51, 3) := by decide +kernel
theorem dX12_undo_31 : decode cX12_undo 31 = .ok (.aload_n 0, 1) := by decide +kernel
theorem dX12_undo_32 : decode cX12_undo 32 = .ok (.getfield 88, 3) := by decide +kernel
theorem dX12_undo_35 : decode cX12_undo 35 = .ok (.iload_n 1, 1) := by decide +kernel
theorem dX12_undo_36 : decode cX12_undo 36 = .ok (.aload_n 0, 1) := by decide +kernel
theorem dX12_undo_37 : decode cX12_undo 37 = .ok (.getfield 142, 3) := by decide +kernel
theorem dX12_undo_40 : decode cX12_undo 40 = .ok (.bipush 11, 2) := by decide +kernel
theorem dX12_undo_42 : decode cX12_undo 42 = .ok (.aload_n 0, 1) := by decide +kernel
theorem dX12_undo_43 : decode cX12_undo 43 = .ok (.getfield 379, 3) := by decide +kernel
theorem dX12_undo_46 : decode cX12_undo 46 = .ok (.imul, 1) := by decide +kernel
theorem dX12_undo_47 : decode cX12_undo 47 = .ok (.iload_n 1, 1) := by decide +kernel
theorem dX12_undo_48 : decode cX12_undo 48 = .ok (.iadd, 1) := by decide +kernel
theorem dX12_undo_49 : decode cX12_undo 49 = .ok (.iaload, 1) := by decide +kernel
theorem dX12_undo_50 : decode cX12_undo 50 = .ok (.iastore, 1) := by decide +kernel
theorem dX12_undo_51 : decode cX12_undo 51 = .ok (.aload_n 0, 1) := by decide +kernel
theorem dX12_undo_52 : decode cX12_undo 52 = .ok (.getfield 100, 3) := by decide +kernel
theorem dX12_undo_55 : decode cX12_undo 55 = .ok (.iload_n 1, 1) := by decide +kernel
theorem dX12_undo_56 : decode cX12_undo 56 = .ok (.aload_n 0, 1) := by decide +kernel
theorem dX12_undo_57 : decode cX12_undo 57 = .ok (.getfield 142, 3) := by decide +kernel
theorem dX12_undo_60 : decode cX12_undo 60 = .ok (.bipush 11, 2) := by decide +kernel
theorem dX12_undo_62 : decode cX12_undo 62 = .ok (.aload_n 0, 1) := by decide +kernel
theorem dX12_undo_63 : decode cX12_undo 63 = .ok (.getfield 379, 3) := by decide +kernel
theorem dX12_undo_66 : decode cX12_undo 66 = .ok (.imul, 1) := by decide +kernel
theorem dX12_undo_67 : decode cX12_undo 67 = .ok (.iconst 5, 1) := by decide +kernel
theorem dX12_undo_68 : decode cX12_undo 68 = .ok (.iadd, 1) := by decide +kernel
theorem dX12_undo_69 : decode cX12_undo 69 = .ok (.iload_n 1, 1) := by decide +kernel
theorem dX12_undo_70 : decode cX12_undo 70 = .ok (.iadd, 1) := by decide +kernel
theorem dX12_undo_71 : decode cX12_undo 71 = .ok (.iaload, 1) := by decide +kernel
theorem dX12_undo_72 : decode cX12_undo 72 = .ok (.iastore, 1) := by decide +kernel
theorem dX12_undo_73 : decode cX12_undo 73 = .ok (.iinc 1 1, 3) := by decide +kernel
theorem dX12_undo_76 : decode cX12_undo 76 = .ok (.goto (-50), 3) := by decide +kernel
theorem dX12_undo_79 : decode cX12_undo 79 = .ok (.aload_n 0, 1) := by decide +kernel
theorem dX12_undo_80 : decode cX12_undo 80 = .ok (.aload_n 0, 1) := by decide +kernel
theorem dX12_undo_81 : decode cX12_undo 81 = .ok (.getfield 142, 3) := by decide +kernel
theorem dX12_undo_84 : decode cX12_undo 84 = .ok (.bipush 11, 2) := by decide +kernel
theorem dX12_undo_86 : decode cX12_undo 86 = .ok (.aload_n 0, 1) := by decide +kernel
theorem dX12_undo_87 : decode cX12_undo 87 = .ok (.getfield 379, 3) := by decide +kernel
theorem dX12_undo_90 : decode cX12_undo 90 = .ok (.imul, 1) := by decide +kernel
theorem dX12_undo_91 : decode cX12_undo 91 = .ok (.bipush 10, 2) := by decide +kernel
theorem dX12_undo_93 : decode cX12_undo 93 = .ok (.iadd, 1) := by decide +kernel
theorem dX12_undo_94 : decode cX12_undo 94 = .ok (.iaload, 1) := by decide +kernel
theorem dX12_undo_95 : decode cX12_undo 95 = .ok (.putfield 369, 3) := by decide +kernel
theorem dX12_undo_98 : decode cX12_undo 98 = .ok (.aload_n 0, 1) := by decide +kernel
theorem dX12_undo_99 : decode cX12_undo 99 = .ok (.getfield 379, 3) := by decide +kernel
theorem dX12_undo_102 : decode cX12_undo 102 = .ok (.ireturn, 1) := by decide +kernel
theorem dX12_wave_0 : decode cX12_wave 0 = .ok (.aload_n 0, 1) := by decide +kernel
theorem dX12_wave_1 : decode cX12_wave 1 = .ok (.iconst 0, 1) := by decide +kernel
theorem dX12_wave_2 : decode cX12_wave 2 = .ok (.putfield 154, 3) := by decide +kernel
theorem dX12_wave_5 : decode cX12_wave 5 = .ok (.aload_n 0, 1) := by decide +kernel
theorem dX12_wave_6 : decode cX12_wave 6 = .ok (.iload_n 1, 1) := by decide +kernel
theorem dX12_wave_7 : decode cX12_wave 7 = .ok (.invokevirtual 419, 3) := by decide +kernel
theorem dX12_wave_10 : decode cX12_wave 10 = .ok (.ifCond .ne 6, 3) := by decide +kernel
theorem dX12_wave_13 : decode cX12_wave 13 = .ok (.bipush (-4), 2) := by decide +kernel
theorem dX12_wave_15 : decode cX12_wave 15 = .ok (.ireturn, 1) := by decide +kernel
theorem dX12_wave_16 : decode cX12_wave 16 = .ok (.iload_n 2, 1) := by decide +kernel
theorem dX12_wave_17 : decode cX12_wave 17 = .ok (.tableswitch 79 0 4 #[35, 42, 49, 56, 72], 35) := by decide +kernel
theorem dX12_wave_52 : decode cX12_wave 52 = .ok (.aload_n 0, 1) := by decide +kernel
theorem dX12_wave_53 : decode cX12_wave 53 = .ok (.getfield 48, 3) := by decide +kernel
theorem dX12_wave_56 : decode cX12_wave 56 = .ok (.iload_n 1, 1) := by decide +kernel
theorem dX12_wave_57 : decode cX12_wave 57 = .ok (.iaload, 1) := by decide +kernel
theorem dX12_wave_58 : decode cX12_wave 58 = .ok (.ireturn, 1) := by decide +kernel
theorem dX12_wave_59 : decode cX12_wave 59 = .ok (.aload_n 0, 1) := by decide +kernel
theorem dX12_wave_60 : decode cX12_wave 60 = .ok (.getfield 51, 3) := by decide +kernel
theorem dX12_wave_63 : decode cX12_wave 63 = .ok (.iload_n 1, 1) := by decide +kernel
theorem dX12_wave_64 : decode cX12_wave 64 = .ok (.iaload, 1) := by decide +kernel
theorem dX12_wave_65 : decode cX12_wave 65 = .ok (.ireturn, 1) := by decide +kernel
theorem dX12_wave_66 : decode cX12_wave 66 = .ok (.aload_n 0, 1) := by decide +kernel
theorem dX12_wave_67 : decode cX12_wave 67 = .ok (.getfield 54, 3) := by decide +kernel
theorem dX12_wave_70 : decode cX12_wave 70 = .ok (.iload_n 1, 1) := by decide +kernel
theorem dX12_wave_71 : decode cX12_wave 71 = .ok (.iaload, 1) := by decide +kernel
theorem dX12_wave_72 : decode cX12_wave 72 = .ok (.ireturn, 1) := by decide +kernel
theorem dX12_wave_73 : decode cX12_wave 73 = .ok (.iload_n 1, 1) := by decide +kernel
theorem dX12_wave_74 : decode cX12_wave 74 = .ok (.aload_n 0, 1) := by decide +kernel
theorem dX12_wave_75 : decode cX12_wave 75 = .ok (.getfield 45, 3) := by decide +kernel
theorem dX12_wave_78 : decode cX12_wave 78 = .ok (.aload_n 0, 1) := by decide +kernel
theorem dX12_wave_79 : decode cX12_wave 79 = .ok (.getfield 54, 3) := by decide +kernel
theorem dX12_wave_82 : decode cX12_wave 82 = .ok (.iload_n 1, 1) := by decide +kernel
theorem dX12_wave_83 : decode cX12_wave 83 = .ok (.iaload, 1) := by decide +kernel
theorem dX12_wave_84 : decode cX12_wave 84 = .ok (.iaload, 1) := by decide +kernel
theorem dX12_wave_85 : decode cX12_wave 85 = .ok (.isub, 1) := by decide +kernel
theorem dX12_wave_86 : decode cX12_wave 86 = .ok (.iconst 1, 1) := by decide +kernel
theorem dX12_wave_87 : decode cX12_wave 87 = .ok (.iadd, 1) := by decide +kernel
theorem dX12_wave_88 : decode cX12_wave 88 = .ok (.ireturn, 1) := by decide +kernel
theorem dX12_wave_89 : decode cX12_wave 89 = .ok (.aload_n 0, 1) := by decide +kernel
theorem dX12_wave_90 : decode cX12_wave 90 = .ok (.getfield 103, 3) := by decide +kernel
theorem dX12_wave_93 : decode cX12_wave 93 = .ok (.iload_n 1, 1) := by decide +kernel
theorem dX12_wave_94 : decode cX12_wave 94 = .ok (.iaload, 1) := by decide +kernel
theorem dX12_wave_95 : decode cX12_wave 95 = .ok (.ireturn, 1) := by decide +kernel
theorem dX12_wave_96 : decode cX12_wave 96 = .ok (.bipush (-4), 2) := by decide +kernel
theorem dX12_wave_98 : decode cX12_wave 98 = .ok (.ireturn, 1) := by decide +kernel
