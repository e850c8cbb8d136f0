theorem dX11_plan_0 : decode cX11_plan 0 = .ok (.aload_n 0, 1) := by decide +kernel
theorem dX11_plan_1 : decode cX11_plan 1 = .ok (.iload_n 1, 1) := by decide +kernel
theorem dX11_plan_2 : decode cX11_plan 2 = .ok (.invokevirtual 115, 3) := by decide +kernel
theorem dX11_plan_5 : decode cX11_plan 5 = .ok (.ifCond .ne 5, 3) := by decide +kernel
theorem dX11_plan_8 : decode cX11_plan 8 = .ok (.iconst (-1), 1) := by decide +kernel
theorem dX11_plan_9 : decode cX11_plan 9 = .ok (.ireturn, 1) := by decide +kernel
theorem dX11_plan_10 : decode cX11_plan 10 = .ok (.aload_n 0, 1) := by decide +kernel
theorem dX11_plan_11 : decode cX11_plan 11 = .ok (.getfield 74, 3) := by decide +kernel
theorem dX11_plan_14 : decode cX11_plan 14 = .ok (.aload_n 0, 1) := by decide +kernel
theorem dX11_plan_15 : decode cX11_plan 15 = .ok (.getfield 37, 3) := by decide +kernel
theorem dX11_plan_18 : decode cX11_plan 18 = .ok (.aload_n 0, 1) := by decide +kernel
theorem dX11_plan_19 : decode cX11_plan 19 = .ok (.getfield 47, 3) := by decide +kernel
theorem dX11_plan_22 : decode cX11_plan 22 = .ok (.iload_n 1, 1) := by decide +kernel
theorem dX11_plan_23 : decode cX11_plan 23 = .ok (.invokevirtual 262, 3) := by decide +kernel
theorem dX11_plan_26 : decode cX11_plan 26 = .ok (.aload_n 0, 1) := by decide +kernel
theorem dX11_plan_27 : decode cX11_plan 27 = .ok (.getfield 74, 3) := by decide +kernel
theorem dX11_plan_30 : decode cX11_plan 30 = .ok (.getfield 266, 3) := by decide +kernel
theorem dX11_plan_33 : decode cX11_plan 33 = .ok (.ireturn, 1) := by decide +kernel
theorem dX11_planned_0 : decode cX11_planned 0 = .ok (.aload_n 0, 1) := by decide +kernel
theorem dX11_planned_1 : decode cX11_planned 1 = .ok (.iload_n 1, 1) := by decide +kernel
theorem dX11_planned_2 : decode cX11_planned 2 = .ok (.invokevirtual 115, 3) := by decide +kernel
theorem dX11_planned_5 : decode cX11_planned 5 = .ok (.ifCond .eq 7, 3) := by decide +kernel
theorem dX11_planned_8 : decode cX11_planned 8 = .ok (.iload_n 2, 1) := by decide +kernel
theorem dX11_planned_9 : decode cX11_planned 9 = .ok (.ifCond .ge 5, 3) := by decide +kernel
theorem dX11_planned_12 : decode cX11_planned 12 = .ok (.iconst (-1), 1) := by decide +kernel
theorem dX11_planned_13 : decode cX11_planned 13 = .ok (.ireturn, 1) := by decide +kernel
theorem dX11_planned_14 : decode cX11_planned 14 = .ok (.aload_n 0, 1) := by decide +kernel
theorem dX11_planned_15 : decode cX11_planned 15 = .ok (.getfield 74, 3) := by decide +kernel
theorem dX11_planned_18 : decode cX11_planned 18 = .ok (.aload_n 0, 1) := by decide +kernel
theorem dX11_planned_19 : decode cX11_planned 19 = .ok (.getfield 37, 3) := by decide +kernel
theorem dX11_planned_22 : decode cX11_planned 22 = .ok (.aload_n 0, 1) := by decide +kernel
theorem dX11_planned_23 : decode cX11_planned 23 = .ok (.getfield 47, 3) := by decide +kernel
theorem dX11_planned_26 : decode cX11_planned 26 = .ok (.iload_n 1, 1) := by decide +kernel
theorem dX11_planned_27 : decode cX11_planned 27 = .ok (.invokevirtual 262, 3) := by decide +kernel
theorem dX11_planned_30 : decode cX11_planned 30 = .ok (.iload_n 2, 1) := by decide +kernel
theorem dX11_planned_31 : decode cX11_planned 31 = .ok (.aload_n 0, 1) := by decide +kernel
theorem dX11_planned_32 : decode cX11_planned 32 = .ok (.getfield 74, 3) := by decide +kernel
theorem dX11_planned_35 : decode cX11_planned 35 = .ok (.getfield 269, 3) := by decide +kernel
theorem dX11_planned_38 : decode cX11_planned 38 = .ok (.if_icmp .ge 15, 3) := by decide +kernel
theorem dX11_planned_41 : decode cX11_planned 41 = .ok (.aload_n 0, 1) := by decide +kernel
theorem dX11_planned_42 : decode cX11_planned 42 = .ok (.getfield 74, 3) := by decide +kernel
theorem dX11_planned_45 : decode cX11_planned 45 = .ok (.getfield 272, 3) := by decide +kernel
theorem dX11_planned_48 : decode cX11_planned 48 = .ok (.iload_n 2, 1) := by decide +kernel
theorem dX11_planned_49 : decode cX11_planned 49 = .ok (.iaload, 1) := by decide +kernel
theorem dX11_planned_50 : decode cX11_planned 50 = .ok (.goto 5, 3) := by decide +kernel
theorem dX11_planned_53 : decode cX11_planned 53 = .ok (.bipush (-2), 2) := by decide +kernel
theorem dX11_planned_55 : decode cX11_planned 55 = .ok (.ireturn, 1) := by decide +kernel
theorem dX11_rank_0 : decode cX11_rank 0 = .ok (.iload_n 1, 1) := by decide +kernel
theorem dX11_rank_1 : decode cX11_rank 1 = .ok (.iconst 1, 1) := by decide +kernel
theorem dX11_rank_2 : decode cX11_rank 2 = .ok (.if_icmp .lt 18, 3) := by decide +kernel
theorem dX11_rank_5 : decode cX11_rank 5 = .ok (.iload_n 1, 1) := by decide +kernel
theorem dX11_rank_6 : decode cX11_rank 6 = .ok (.bipush 7, 2) := by decide +kernel
theorem dX11_rank_8 : decode cX11_rank 8 = .ok (.if_icmp .gt 12, 3) := by decide +kernel
theorem dX11_rank_11 : decode cX11_rank 11 = .ok (.iload_n 2, 1) := by decide +kernel
theorem dX11_rank_12 : decode cX11_rank 12 = .ok (.ifCond .lt 8, 3) := by decide +kernel
theorem dX11_rank_15 : decode cX11_rank 15 = .ok (.iload_n 2, 1) := by decide +kernel
theorem dX11_rank_16 : decode cX11_rank 16 = .ok (.iconst 1, 1) := by decide +kernel
theorem dX11_rank_17 : decode cX11_rank 17 = .ok (.if_icmp .le 5, 3) := by decide +kernel
theorem dX11_rank_20 : decode cX11_rank 20 = .ok (.iconst (-1), 1) := by decide +kernel
theorem dX11_rank_21 : decode cX11_rank 21 = .ok (.ireturn, 1) := by decide +kernel
theorem dX11_rank_22 : decode cX11_rank 22 = .ok (.iconst 0, 1) := by decide +kernel
theorem dX11_rank_23 : decode cX11_rank 23 = .ok (.istore_n 3, 1) := by decide +kernel
theorem dX11_rank_24 : decode cX11_rank 24 = .ok (.iconst 0, 1) := by decide +kernel
theorem dX11_rank_25 : decode cX11_rank 25 = .ok (.istore 4, 2) := by decide +kernel
theorem dX11_rank_27 : decode cX11_rank 27 = .ok (.iload 4, 2) := by decide +kernel
theorem dX11_rank_29 : decode cX11_rank 29 = .ok (.aload_n 0, 1) := by decide +kernel
theorem dX11_rank_30 : decode cX11_rank 30 = .ok (.getfield 18, 3) := by decide +kernel
theorem dX11_rank_33 : decode cX11_rank 33 = .ok (.getfield 150, 3) := by decide +kernel
theorem dX11_rank_36 : decode cX11_rank 36 = .ok (.getfield 253, 3) := by decide +kernel
theorem dX11_rank_39 : decode cX11_rank 39 = .ok (.if_icmp .ge 49, 3) := by decide +kernel
theorem dX11_rank_42 : decode cX11_rank 42 = .ok (.aload_n 0, 1) := by decide +kernel
theorem dX11_rank_43 : decode cX11_rank 43 = .ok (.getfield 18, 3) := by decide +kernel
theorem dX11_rank_46 : decode cX11_rank 46 = .ok (.getfield 150, 3) := by decide +kernel
theorem dX11_rank_49 : decode cX11_rank 49 = .ok (.iload 4, 2) := by decide +kernel
theorem dX11_rank_51 : decode cX11_rank 51 = .ok (.invokevirtual 256, 3) := by decide +kernel
theorem dX11_rank_54 : decode cX11_rank 54 = .ok (.iload_n 1, 1) := by decide +kernel
theorem dX11_rank_55 : decode cX11_rank 55 = .ok (.if_icmp .lt 27, 3) := by decide +kernel
theorem dX11_rank_58 : decode cX11_rank 58 = .ok (.iload_n 2, 1) := by decide +kernel
theorem dX11_rank_59 : decode cX11_rank 59 = .ok (.iconst 1, 1) := by decide +kernel
theorem dX11_rank_60 : decode cX11_rank 60 = .ok (.if_icmp .eq 19, 3) := by decide +kernel
theorem dX11_rank_63 : decode cX11_rank 63 = .ok (.aload_n 0, 1) := by decide +kernel
theorem dX11_rank_64 : decode cX11_rank 64 = .ok (.getfield 18, 3) := by decide +kernel
theorem dX11_rank_67 : decode cX11_rank 67 = .ok (.getfield 150, 3) := by decide +kernel
theorem dX11_rank_70 : decode cX11_rank 70 = .ok (.iload 4, 2) := by decide +kernel
theorem dX11_rank_72 : decode cX11_rank 72 = .ok (.iload_n 1, 1) := by decide +kernel
theorem dX11_rank_73 : decode cX11_rank 73 = .ok (.invokevirtual 259, 3) := by decide +kernel
theorem dX11_rank_76 : decode cX11_rank 76 = .ok (.ifCond .eq 6, 3) := by decide +kernel
theorem dX11_rank_79 : decode cX11_rank 79 = .ok (.iinc 3 1, 3) := by decide +kernel
theorem dX11_rank_82 : decode cX11_rank 82 = .ok (.iinc 4 1, 3) := by decide +kernel
theorem dX11_rank_85 : decode cX11_rank 85 = .ok (.goto (-58), 3) := by decide +kernel
theorem dX11_rank_88 : decode cX11_rank 88 = .ok (.iload_n 3, 1) := by decide +kernel
theorem dX11_rank_89 : decode cX11_rank 89 = .ok (.ireturn, 1) := by decide +kernel
theorem dX11_rest_0 : decode cX11_rest 0 = .ok (.aload_n 0, 1) := by decide +kernel
theorem dX11_rest_1 : decode cX11_rest 1 = .ok (.iload_n 1, 1) := by decide +kernel
theorem dX11_rest_2 : decode cX11_rest 2 = .ok (.invokevirtual 115, 3) := by decide +kernel
theorem dX11_rest_5 : decode cX11_rest 5 = .ok (.ifCond .eq 20, 3) := by decide +kernel
theorem dX11_rest_8 : decode cX11_rest 8 = .ok (.aload_n 0, 1) := by decide +kernel
theorem dX11_rest_9 : decode cX11_rest 9 = .ok (.iload_n 2, 1) := by decide +kernel
theorem dX11_rest_10 : decode cX11_rest 10 = .ok (.invokevirtual 115, 3) := by decide +kernel
theorem dX11_rest_13 : decode cX11_rest 13 = .ok (.ifCond .eq 12, 3) := by decide +kernel
theorem dX11_rest_16 : decode cX11_rest 16 = .ok (.iload_n 1, 1) := by decide +kernel
theorem dX11_rest_17 : decode cX11_rest 17 = .ok (.iload_n 2, 1) := by decide +kernel
theorem dX11_rest_18 : decode cX11_rest 18 = .ok (.if_icmp .eq 7, 3) := by decide +kernel
theorem dX11_rest_21 : decode cX11_rest 21 = .ok (.iload_n 3, 1) := by decide +kernel
theorem dX11_rest_22 : decode cX11_rest 22 = .ok (.ifCond .ge 5, 3) := by decide +kernel
theorem dX11_rest_25 : decode cX11_rest 25 = .ok (.iconst (-1), 1) := by decide +kernel
theorem dX11_rest_26 : decode cX11_rest 26 = .ok (.ireturn, 1) := by decide +kernel
theorem dX11_rest_27 : decode cX11_rest 27 = .ok (.aload_n 0, 1) := by decide +kernel
theorem dX11_rest_28 : decode cX11_rest 28 = .ok (.getfield 74, 3) := by decide +kernel
theorem dX11_rest_31 : decode cX11_rest 31 = .ok (.aload_n 0, 1) := by decide +kernel
theorem dX11_rest_32 : decode cX11_rest 32 = .ok (.getfield 37, 3) := by decide +kernel
theorem dX11_rest_35 : decode cX11_rest 35 = .ok (.aload_n 0, 1) := by decide +kernel
theorem dX11_rest_36 : decode cX11_rest 36 = .ok (.getfield 47, 3) := by decide +kernel
theorem dX11_rest_39 : decode cX11_rest 39 = .ok (.iload_n 1, 1) := by decide +kernel
theorem dX11_rest_40 : decode cX11_rest 40 = .ok (.iload_n 2, 1) := by decide +kernel
theorem dX11_rest_41 : decode cX11_rest 41 = .ok (.invokevirtual 243, 3) := by decide +kernel
theorem dX11_rest_44 : decode cX11_rest 44 = .ok (.iload_n 3, 1) := by decide +kernel
theorem dX11_rest_45 : decode cX11_rest 45 = .ok (.aload_n 0, 1) := by decide +kernel
theorem dX11_rest_46 : decode cX11_rest 46 = .ok (.getfield 74, 3) := by decide +kernel
theorem dX11_rest_49 : decode cX11_rest 49 = .ok (.getfield 247, 3) := by decide +kernel
theorem dX11_rest_52 : decode cX11_rest 52 = .ok (.if_icmp .ge 15, 3) := by decide +kernel
theorem dX11_rest_55 : decode cX11_rest 55 = .ok (.aload_n 0, 1) := by decide +kernel
theorem dX11_rest_56 : decode cX11_rest 56 = .ok (.getfield 74, 3) := by decide +kernel
theorem dX11_rest_59 : decode cX11_rest 59 = .ok (.getfield 250, 3) := by decide +kernel
theorem dX11_rest_62 : decode cX11_rest 62 = .ok (.iload_n 3, 1) := by decide +kernel
theorem dX11_rest_63 : decode cX11_rest 63 = .ok (.iaload, 1) := by decide +kernel
theorem dX11_rest_64 : decode cX11_rest 64 = .ok (.goto 5, 3) := by decide +kernel
theorem dX11_rest_67 : decode cX11_rest 67 = .ok (.bipush (-2), 2) := by decide +kernel
theorem dX11_rest_69 : decode cX11_rest 69 = .ok (.ireturn, 1) := by decide +kernel
theorem dX11_rests_0 : decode cX11_rests 0 = .ok (.aload_n 0, 1) := by decide +kernel
theorem dX11_rests_1 : decode cX11_rests 1 = .ok (.iload_n 1, 1) := by decide +kernel
theorem dX11_rests_2 : decode cX11_rests 2 = .ok (.invokevirtual 115, 3) := by decide +kernel
theorem dX11_rests_5 : decode cX11_rests 5 = .ok (.ifCond .eq 16, 3) := by decide +kernel
theorem dX11_rests_8 : decode cX11_rests 8 = .ok (.aload_n 0, 1) := by decide +kernel
theorem dX11_rests_9 : decode cX11_rests 9 = .ok (.iload_n 2, 1) := by decide +kernel
theorem dX11_rests_10 : decode cX11_rests 10 = .ok (.invokevirtual 115, 3) := by decide +kernel
theorem dX11_rests_13 : decode cX11_rests 13 = .ok (.ifCond .eq 8, 3) := by decide +kernel
theorem dX11_rests_16 : decode cX11_rests 16 = .ok (.iload_n 1, 1) := by decide +kernel
theorem dX11_rests_17 : decode cX11_rests 17 = .ok (.iload_n 2, 1) := by decide +kernel
theorem dX11_rests_18 : decode cX11_rests 18 = .ok (.if_icmp .ne 5, 3) := by decide +kernel
theorem dX11_rests_21 : decode cX11_rests 21 = .ok (.iconst (-1), 1) := by decide +kernel
theorem dX11_rests_22 : decode cX11_rests 22 = .ok (.ireturn, 1) := by decide +kernel
theorem dX11_rests_23 : decode cX11_rests 23 = .ok (.aload_n 0, 1) := by decide +kernel
theorem dX11_rests_24 : decode cX11_rests 24 = .ok (.getfield 74, 3) := by decide +kernel
theorem dX11_rests_27 : decode cX11_rests 27 = .ok (.aload_n 0, 1) := by decide +kernel
theorem dX11_rests_28 : decode cX11_rests 28 = .ok (.getfield 37, 3) := by decide +kernel
theorem dX11_rests_31 : decode cX11_rests 31 = .ok (.aload_n 0, 1) := by decide +kernel
theorem dX11_rests_32 : decode cX11_rests 32 = .ok (.getfield 47, 3) := by decide +kernel
theorem dX11_rests_35 : decode cX11_rests 35 = .ok (.iload_n 1, 1) := by decide +kernel
theorem dX11_rests_36 : decode cX11_rests 36 = .ok (.iload_n 2, 1) := by decide +kernel
theorem dX11_rests_37 : decode cX11_rests 37 = .ok (.invokevirtual 243, 3) := by decide +kernel
theorem dX11_rests_40 : decode cX11_rests 40 = .ok (.aload_n 0, 1) := by decide +kernel
theorem dX11_rests_41 : decode cX11_rests 41 = .ok (.getfield 74, 3) := by decide +kernel
theorem dX11_rests_44 : decode cX11_rests 44 = .ok (.getfield 247, 3) := by decide +kernel
theorem dX11_rests_47 : decode cX11_rests 47 = .ok (.ireturn, 1) := by decide +kernel
theorem dX11_rule_0 : decode cX11_rule 0 = .ok (.aload_n 0, 1) := by decide +kernel
theorem dX11_rule_1 : decode cX11_rule 1 = .ok (.iload_n 1, 1) := by decide +kernel
theorem dX11_rule_2 : decode cX11_rule 2 = .ok (.invokevirtual 214, 3) := by decide +kernel
theorem dX11_rule_5 : decode cX11_rule 5 = .ok (.ifCond .eq 14, 3) := by decide +kernel
theorem dX11_rule_8 : decode cX11_rule 8 = .ok (.iload_n 1, 1) := by decide +kernel
theorem dX11_rule_9 : decode cX11_rule 9 = .ok (.aload_n 0, 1) := by decide +kernel
theorem dX11_rule_10 : decode cX11_rule 10 = .ok (.getfield 47, 3) := by decide +kernel
theorem dX11_rule_13 : decode cX11_rule 13 = .ok (.getfield 217, 3) := by decide +kernel
theorem dX11_rule_16 : decode cX11_rule 16 = .ok (.if_icmp .ne 5, 3) := by decide +kernel
theorem dX11_rule_19 : decode cX11_rule 19 = .ok (.iconst 0, 1) := by decide +kernel
theorem dX11_rule_20 : decode cX11_rule 20 = .ok (.ireturn, 1) := by decide +kernel
theorem dX11_rule_21 : decode cX11_rule 21 = .ok (.aload_n 0, 1) := by decide +kernel
theorem dX11_rule_22 : decode cX11_rule 22 = .ok (.getfield 67, 3) := by decide +kernel
theorem dX11_rule_25 : decode cX11_rule 25 = .ok (.iconst (-1), 1) := by decide +kernel
theorem dX11_rule_26 : decode cX11_rule 26 = .ok (.aload_n 0, 1) := by decide +kernel
theorem dX11_rule_27 : decode cX11_rule 27 = .ok (.getfield 47, 3) := by decide +kernel
theorem dX11_rule_30 : decode cX11_rule 30 = .ok (.getfield 217, 3) := by decide +kernel
theorem dX11_rule_33 : decode cX11_rule 33 = .ok (.invokevirtual 210, 3) := by decide +kernel
theorem dX11_rule_36 : decode cX11_rule 36 = .ok (.aload_n 0, 1) := by decide +kernel
theorem dX11_rule_37 : decode cX11_rule 37 = .ok (.getfield 47, 3) := by decide +kernel
theorem dX11_rule_40 : decode cX11_rule 40 = .ok (.iload_n 1, 1) := by decide +kernel
theorem dX11_rule_41 : decode cX11_rule 41 = .ok (.putfield 217, 3) := by decide +kernel
theorem dX11_rule_44 : decode cX11_rule 44 = .ok (.iconst 1, 1) := by decide +kernel
theorem dX11_rule_45 : decode cX11_rule 45 = .ok (.ireturn, 1) := by decide +kernel
theorem dX11_seat_0 : decode cX11_seat 0 = .ok (.aload_n 0, 1) := by decide +kernel
theorem dX11_seat_1 : decode cX11_seat 1 = .ok (.iload_n 1, 1) := by decide +kernel
theorem dX11_seat_2 : decode cX11_seat 2 = .ok (.invokevirtual 115, 3) := by decide +kernel
theorem dX11_seat_5 : decode cX11_seat 5 = .ok (.ifCond .eq 11, 3) := by decide +kernel
theorem dX11_seat_8 : decode cX11_seat 8 = .ok (.aload_n 0, 1) := by decide +kernel
theorem dX11_seat_9 : decode cX11_seat 9 = .ok (.iload_n 2, 1) := by decide +kernel
theorem dX11_seat_10 : decode cX11_seat 10 = .ok (.invokevirtual 179, 3) := by decide +kernel
theorem dX11_seat_13 : decode cX11_seat 13 = .ok (.ifCond .ne 5, 3) := by decide +kernel
theorem dX11_seat_16 : decode cX11_seat 16 = .ok (.iconst (-1), 1) := by decide +kernel
theorem dX11_seat_17 : decode cX11_seat 17 = .ok (.ireturn, 1) := by decide +kernel
theorem dX11_seat_18 : decode cX11_seat 18 = .ok (.aload_n 0, 1) := by decide +kernel
theorem dX11_seat_19 : decode cX11_seat 19 = .ok (.getfield 37, 3) := by decide +kernel
theorem dX11_seat_22 : decode cX11_seat 22 = .ok (.iload_n 1, 1) := by decide +kernel
theorem dX11_seat_23 : decode cX11_seat 23 = .ok (.iload_n 2, 1) := by decide +kernel
theorem dX11_seat_24 : decode cX11_seat 24 = .ok (.aload_n 0, 1) := by decide +kernel
theorem dX11_seat_25 : decode cX11_seat 25 = .ok (.invokevirtual 233, 3) := by decide +kernel
theorem dX11_seat_28 : decode cX11_seat 28 = .ok (.invokevirtual 237, 3) := by decide +kernel
theorem dX11_seat_31 : decode cX11_seat 31 = .ok (.ireturn, 1) := by decide +kernel
theorem dX11_shares_0 : decode cX11_shares 0 = .ok (.iload_n 1, 1) := by decide +kernel
theorem dX11_shares_1 : decode cX11_shares 1 = .ok (.ifCond .lt 22, 3) := by decide +kernel
theorem dX11_shares_4 : decode cX11_shares 4 = .ok (.iload_n 1, 1) := by decide +kernel
theorem dX11_shares_5 : decode cX11_shares 5 = .ok (.iconst 1, 1) := by decide +kernel
theorem dX11_shares_6 : decode cX11_shares 6 = .ok (.if_icmp .gt 17, 3) := by decide +kernel
theorem dX11_shares_9 : decode cX11_shares 9 = .ok (.aload_n 0, 1) := by decide +kernel
theorem dX11_shares_10 : decode cX11_shares 10 = .ok (.getfield 18, 3) := by decide +kernel
theorem dX11_shares_13 : decode cX11_shares 13 = .ok (.getfield 102, 3) := by decide +kernel
theorem dX11_shares_16 : decode cX11_shares 16 = .ok (.getfield 106, 3) := by decide +kernel
theorem dX11_shares_19 : decode cX11_shares 19 = .ok (.iconst 1, 1) := by decide +kernel
theorem dX11_shares_20 : decode cX11_shares 20 = .ok (.if_icmp .ge 5, 3) := by decide +kernel
theorem dX11_shares_23 : decode cX11_shares 23 = .ok (.iconst (-1), 1) := by decide +kernel
theorem dX11_shares_24 : decode cX11_shares 24 = .ok (.ireturn, 1) := by decide +kernel
theorem dX11_shares_25 : decode cX11_shares 25 = .ok (.iload_n 1, 1) := by decide +kernel
theorem dX11_shares_26 : decode cX11_shares 26 = .ok (.ifCond .ne 23, 3) := by decide +kernel
theorem dX11_shares_29 : decode cX11_shares 29 = .ok (.aload_n 0, 1) := by decide +kernel
theorem dX11_shares_30 : decode cX11_shares 30 = .ok (.getfield 47, 3) := by decide +kernel
theorem dX11_shares_33 : decode cX11_shares 33 = .ok (.aload_n 0, 1) := by decide +kernel
theorem dX11_shares_34 : decode cX11_shares 34 = .ok (.getfield 18, 3) := by decide +kernel
theorem dX11_shares_37 : decode cX11_shares 37 = .ok (.getfield 102, 3) := by decide +kernel
theorem dX11_shares_40 : decode cX11_shares 40 = .ok (.getfield 106, 3) := by decide +kernel
theorem dX11_shares_43 : decode cX11_shares 43 = .ok (.invokevirtual 293, 3) := by decide +kernel
theorem dX11_shares_46 : decode cX11_shares 46 = .ok (.goto 20, 3) := by decide +kernel
theorem dX11_shares_49 : decode cX11_shares 49 = .ok (.aload_n 0, 1) := by decide +kernel
theorem dX11_shares_50 : decode cX11_shares 50 = .ok (.getfield 47, 3) := by decide +kernel
theorem dX11_shares_53 : decode cX11_shares 53 = .ok (.aload_n 0, 1) := by decide +kernel
theorem dX11_shares_54 : decode cX11_shares 54 = .ok (.getfield 18, 3) := by decide +kernel
theorem dX11_shares_57 : decode cX11_shares 57 = .ok (.getfield 102, 3) := by decide +kernel
theorem dX11_shares_60 : decode cX11_shares 60 = .ok (.getfield 106, 3) := by decide +kernel
theorem dX11_shares_63 : decode cX11_shares 63 = .ok (.invokevirtual 317, 3) := by decide +kernel
theorem dX11_shares_66 : decode cX11_shares 66 = .ok (.ireturn, 1) := by decide +kernel
theorem dX11_strike_0 : decode cX11_strike 0 = .ok (.iload_n 1, 1) := by decide +kernel
theorem dX11_strike_1 : decode cX11_strike 1 = .ok (.ifCond .lt 14, 3) := by decide +kernel
theorem dX11_strike_4 : decode cX11_strike 4 = .ok (.iload_n 1, 1) := by decide +kernel
theorem dX11_strike_5 : decode cX11_strike 5 = .ok (.aload_n 0, 1) := by decide +kernel
theorem dX11_strike_6 : decode cX11_strike 6 = .ok (.getfield 60, 3) := by decide +kernel
theorem dX11_strike_9 : decode cX11_strike 9 = .ok (.getfield 323, 3) := by decide +kernel
theorem dX11_strike_12 : decode cX11_strike 12 = .ok (.if_icmp .lt 5, 3) := by decide +kernel
theorem dX11_strike_15 : decode cX11_strike 15 = .ok (.iconst (-1), 1) := by decide +kernel
theorem dX11_strike_16 : decode cX11_strike 16 = .ok (.ireturn, 1) := by decide +kernel
theorem dX11_strike_17 : decode cX11_strike 17 = .ok (.aload_n 0, 1) := by decide +kernel
theorem dX11_strike_18 : decode cX11_strike 18 = .ok (.getfield 60, 3) := by decide +kernel
theorem dX11_strike_21 : decode cX11_strike 21 = .ok (.iload_n 1, 1) := by decide +kernel
theorem dX11_strike_22 : decode cX11_strike 22 = .ok (.invokevirtual 324, 3) := by decide +kernel
theorem dX11_strike_25 : decode cX11_strike 25 = .ok (.ireturn, 1) := by decide +kernel
theorem dX11_stroke_0 : decode cX11_stroke 0 = .ok (.aload_n 0, 1) := by decide +kernel
theorem dX11_stroke_1 : decode cX11_stroke 1 = .ok (.iload_n 1, 1) := by decide +kernel
theorem dX11_stroke_2 : decode cX11_stroke 2 = .ok (.invokevirtual 115, 3) := by decide +kernel
theorem dX11_stroke_5 : decode cX11_stroke 5 = .ok (.ifCond .eq 12, 3) := by decide +kernel
theorem dX11_stroke_8 : decode cX11_stroke 8 = .ok (.iload_n 2, 1) := by decide +kernel
theorem dX11_stroke_9 : decode cX11_stroke 9 = .ok (.ifCond .lt 8, 3) := by decide +kernel
theorem dX11_stroke_12 : decode cX11_stroke 12 = .ok (.iload_n 2, 1) := by decide +kernel
theorem dX11_stroke_13 : decode cX11_stroke 13 = .ok (.iconst 4, 1) := by decide +kernel
theorem dX11_stroke_14 : decode cX11_stroke 14 = .ok (.if_icmp .lt 5, 3) := by decide +kernel
theorem dX11_stroke_17 : decode cX11_stroke 17 = .ok (.iconst (-1), 1) := by decide +kernel
theorem dX11_stroke_18 : decode cX11_stroke 18 = .ok (.ireturn, 1) := by decide +kernel
theorem dX11_stroke_19 : decode cX11_stroke 19 = .ok (.aload_n 0, 1) := by decide +kernel
theorem dX11_stroke_20 : decode cX11_stroke 20 = .ok (.getfield 47, 3) := by decide +kernel
theorem dX11_stroke_23 : decode cX11_stroke 23 = .ok (.getfield 122, 3) := by decide +kernel
theorem dX11_stroke_26 : decode cX11_stroke 26 = .ok (.iload_n 1, 1) := by decide +kernel
theorem dX11_stroke_27 : decode cX11_stroke 27 = .ok (.iaload, 1) := by decide +kernel
theorem dX11_stroke_28 : decode cX11_stroke 28 = .ok (.istore_n 3, 1) := by decide +kernel
theorem dX11_stroke_29 : decode cX11_stroke 29 = .ok (.aload_n 0, 1) := by decide +kernel
theorem dX11_stroke_30 : decode cX11_stroke 30 = .ok (.getfield 18, 3) := by decide +kernel
theorem dX11_stroke_33 : decode cX11_stroke 33 = .ok (.iload_n 3, 1) := by decide +kernel
theorem dX11_stroke_34 : decode cX11_stroke 34 = .ok (.iload_n 2, 1) := by decide +kernel
theorem dX11_stroke_35 : decode cX11_stroke 35 = .ok (.invokevirtual 202, 3) := by decide +kernel
theorem dX11_stroke_38 : decode cX11_stroke 38 = .ok (.istore 4, 2) := by decide +kernel
theorem dX11_stroke_40 : decode cX11_stroke 40 = .ok (.iload 4, 2) := by decide +kernel
theorem dX11_stroke_42 : decode cX11_stroke 42 = .ok (.iconst (-1), 1) := by decide +kernel
theorem dX11_stroke_43 : decode cX11_stroke 43 = .ok (.if_icmp .eq 45, 3) := by decide +kernel
theorem dX11_stroke_46 : decode cX11_stroke 46 = .ok (.aload_n 0, 1) := by decide +kernel
theorem dX11_stroke_47 : decode cX11_stroke 47 = .ok (.getfield 47, 3) := by decide +kernel
theorem dX11_stroke_50 : decode cX11_stroke 50 = .ok (.iload_n 1, 1) := by decide +kernel
theorem dX11_stroke_51 : decode cX11_stroke 51 = .ok (.aload_n 0, 1) := by decide +kernel
theorem dX11_stroke_52 : decode cX11_stroke 52 = .ok (.getfield 47, 3) := by decide +kernel
theorem dX11_stroke_55 : decode cX11_stroke 55 = .ok (.getfield 186, 3) := by decide +kernel
theorem dX11_stroke_58 : decode cX11_stroke 58 = .ok (.invokevirtual 206, 3) := by decide +kernel
theorem dX11_stroke_61 : decode cX11_stroke 61 = .ok (.ifCond .eq 27, 3) := by decide +kernel
theorem dX11_stroke_64 : decode cX11_stroke 64 = .ok (.aload_n 0, 1) := by decide +kernel
theorem dX11_stroke_65 : decode cX11_stroke 65 = .ok (.getfield 47, 3) := by decide +kernel
theorem dX11_stroke_68 : decode cX11_stroke 68 = .ok (.getfield 137, 3) := by decide +kernel
theorem dX11_stroke_71 : decode cX11_stroke 71 = .ok (.iload_n 1, 1) := by decide +kernel
theorem dX11_stroke_72 : decode cX11_stroke 72 = .ok (.iaload, 1) := by decide +kernel
theorem dX11_stroke_73 : decode cX11_stroke 73 = .ok (.aload_n 0, 1) := by decide +kernel
theorem dX11_stroke_74 : decode cX11_stroke 74 = .ok (.getfield 18, 3) := by decide +kernel
theorem dX11_stroke_77 : decode cX11_stroke 77 = .ok (.getfield 102, 3) := by decide +kernel
theorem dX11_stroke_80 : decode cX11_stroke 80 = .ok (.getfield 134, 3) := by decide +kernel
theorem dX11_stroke_83 : decode cX11_stroke 83 = .ok (.iload_n 1, 1) := by decide +kernel
theorem dX11_stroke_84 : decode cX11_stroke 84 = .ok (.iaload, 1) := by decide +kernel
theorem dX11_stroke_85 : decode cX11_stroke 85 = .ok (.if_icmp .lt 6, 3) := by decide +kernel
theorem dX11_stroke_88 : decode cX11_stroke 88 = .ok (.bipush (-2), 2) := by decide +kernel
theorem dX11_stroke_90 : decode cX11_stroke 90 = .ok (.ireturn, 1) := by decide +kernel
theorem dX11_stroke_91 : decode cX11_stroke 91 = .ok (.aload_n 0, 1) := by decide +kernel
theorem dX11_stroke_92 : decode cX11_stroke 92 = .ok (.getfield 47, 3) := by decide +kernel
theorem dX11_stroke_95 : decode cX11_stroke 95 = .ok (.getfield 122, 3) := by decide +kernel
theorem dX11_stroke_98 : decode cX11_stroke 98 = .ok (.iload_n 1, 1) := by decide +kernel
theorem dX11_stroke_99 : decode cX11_stroke 99 = .ok (.iload 4, 2) := by decide +kernel
theorem dX11_stroke_101 : decode cX11_stroke 101 = .ok (.iastore, 1) := by decide +kernel
theorem dX11_stroke_102 : decode cX11_stroke 102 = .ok (.aload_n 0, 1) := by decide +kernel
theorem dX11_stroke_103 : decode cX11_stroke 103 = .ok (.getfield 47, 3) := by decide +kernel
theorem dX11_stroke_106 : decode cX11_stroke 106 = .ok (.getfield 137, 3) := by decide +kernel
theorem dX11_stroke_109 : decode cX11_stroke 109 = .ok (.iload_n 1, 1) := by decide +kernel
theorem dX11_stroke_110 : decode cX11_stroke 110 = .ok (.dup2, 1) := by decide +kernel
theorem dX11_stroke_111 : decode cX11_stroke 111 = .ok (.iaload, 1) := by decide +kernel
theorem dX11_stroke_112 : decode cX11_stroke 112 = .ok (.iconst 1, 1) := by decide +kernel
theorem dX11_stroke_113 : decode cX11_stroke 113 = .ok (.iadd, 1) := by decide +kernel
theorem dX11_stroke_114 : decode cX11_stroke 114 = .ok (.iastore, 1) := by decide +kernel
theorem dX11_stroke_115 : decode cX11_stroke 115 = .ok (.aload_n 0, 1) := by decide +kernel
theorem dX11_stroke_116 : decode cX11_stroke 116 = .ok (.getfield 67, 3) := by decide +kernel
theorem dX11_stroke_119 : decode cX11_stroke 119 = .ok (.iload_n 1, 1) := by decide +kernel
theorem dX11_stroke_120 : decode cX11_stroke 120 = .ok (.iload_n 3, 1) := by decide +kernel
theorem dX11_stroke_121 : decode cX11_stroke 121 = .ok (.invokevirtual 210, 3) := by decide +kernel
theorem dX11_stroke_124 : decode cX11_stroke 124 = .ok (.iload 4, 2) := by decide +kernel
theorem dX11_stroke_126 : decode cX11_stroke 126 = .ok (.ireturn, 1) := by decide +kernel
theorem dX11_table_0 : decode cX11_table 0 = .ok (.aload_n 0, 1) := by decide +kernel
theorem dX11_table_1 : decode cX11_table 1 = .ok (.iload_n 1, 1) := by decide +kernel
theorem dX11_table_2 : decode cX11_table 2 = .ok (.invokevirtual 214, 3) := by decide +kernel
theorem dX11_table_5 : decode cX11_table 5 = .ok (.ifCond .eq 17, 3) := by decide +kernel
theorem dX11_table_8 : decode cX11_table 8 = .ok (.iload_n 2, 1) := by decide +kernel
theorem dX11_table_9 : decode cX11_table 9 = .ok (.ifCond .lt 13, 3) := by decide +kernel
theorem dX11_table_12 : decode cX11_table 12 = .ok (.iload_n 3, 1) := by decide +kernel
theorem dX11_table_13 : decode cX11_table 13 = .ok (.ifCond .lt 9, 3) := by decide +kernel
theorem dX11_table_16 : decode cX11_table 16 = .ok (.iload_n 3, 1) := by decide +kernel
theorem dX11_table_17 : decode cX11_table 17 = .ok (.bipush 7, 2) := by decide +kernel
theorem dX11_table_19 : decode cX11_table 19 = .ok (.if_icmp .le 5, 3) := by decide +kernel
theorem dX11_table_22 : decode cX11_table 22 = .ok (.iconst (-1), 1) := by decide +kernel
theorem dX11_table_23 : decode cX11_table 23 = .ok (.ireturn, 1) := by decide +kernel
theorem dX11_table_24 : decode cX11_table 24 = .ok (.iload_n 3, 1) := by decide +kernel
theorem dX11_table_25 : decode cX11_table 25 = .ok (.iconst 5, 1) := by decide +kernel
theorem dX11_table_26 : decode cX11_table 26 = .ok (.if_icmp .ge 13, 3) := by decide +kernel
theorem dX11_table_29 : decode cX11_table 29 = .ok (.aload_n 0, 1) := by decide +kernel
theorem dX11_table_30 : decode cX11_table 30 = .ok (.iload_n 3, 1) := by decide +kernel
theorem dX11_table_31 : decode cX11_table 31 = .ok (.invokevirtual 115, 3) := by decide +kernel
theorem dX11_table_34 : decode cX11_table 34 = .ok (.ifCond .ne 5, 3) := by decide +kernel
theorem dX11_table_37 : decode cX11_table 37 = .ok (.iconst (-1), 1) := by decide +kernel
theorem dX11_table_38 : decode cX11_table 38 = .ok (.ireturn, 1) := by decide +kernel
theorem dX11_table_39 : decode cX11_table 39 = .ok (.aload_n 0, 1) := by decide +kernel
theorem dX11_table_40 : decode cX11_table 40 = .ok (.iload_n 1, 1) := by decide +kernel
theorem dX11_table_41 : decode cX11_table 41 = .ok (.iload_n 2, 1) := by decide +kernel
theorem dX11_table_42 : decode cX11_table 42 = .ok (.invokevirtual 284, 3) := by decide +kernel
theorem dX11_table_45 : decode cX11_table 45 = .ok (.iload_n 3, 1) := by decide +kernel
theorem dX11_table_46 : decode cX11_table 46 = .ok (.tableswitch 60 5 7 #[26, 34, 42], 26) := by decide +kernel
theorem dX11_table_72 : decode cX11_table 72 = .ok (.aload_n 0, 1) := by decide +kernel
theorem dX11_table_73 : decode cX11_table 73 = .ok (.getfield 51, 3) := by decide +kernel
theorem dX11_table_76 : decode cX11_table 76 = .ok (.getfield 287, 3) := by decide +kernel
theorem dX11_table_79 : decode cX11_table 79 = .ok (.ireturn, 1) := by decide +kernel
theorem dX11_table_80 : decode cX11_table 80 = .ok (.aload_n 0, 1) := by decide +kernel
theorem dX11_table_81 : decode cX11_table 81 = .ok (.getfield 51, 3) := by decide +kernel
theorem dX11_table_84 : decode cX11_table 84 = .ok (.getfield 290, 3) := by decide +kernel
theorem dX11_table_87 : decode cX11_table 87 = .ok (.ireturn, 1) := by decide +kernel
theorem dX11_table_88 : decode cX11_table 88 = .ok (.aload_n 0, 1) := by decide +kernel
theorem dX11_table_89 : decode cX11_table 89 = .ok (.getfield 51, 3) := by decide +kernel
theorem dX11_table_92 : decode cX11_table 92 = .ok (.aload_n 0, 1) := by decide +kernel
theorem dX11_table_93 : decode cX11_table 93 = .ok (.getfield 18, 3) := by decide +kernel
theorem dX11_table_96 : decode cX11_table 96 = .ok (.getfield 102, 3) := by decide +kernel
theorem dX11_table_99 : decode cX11_table 99 = .ok (.getfield 106, 3) := by decide +kernel
theorem dX11_table_102 : decode cX11_table 102 = .ok (.invokevirtual 293, 3) := by decide +kernel
theorem dX11_table_105 : decode cX11_table 105 = .ok (.ireturn, 1) := by decide +kernel
theorem dX11_table_106 : decode cX11_table 106 = .ok (.aload_n 0, 1) := by decide +kernel
theorem dX11_table_107 : decode cX11_table 107 = .ok (.getfield 51, 3) := by decide +kernel
theorem dX11_table_110 : decode cX11_table 110 = .ok (.getfield 125, 3) := by decide +kernel
theorem dX11_table_113 : decode cX11_table 113 = .ok (.iload_n 3, 1) := by decide +kernel
theorem dX11_table_114 : decode cX11_table 114 = .ok (.iaload, 1) := by decide +kernel
theorem dX11_table_115 : decode cX11_table 115 = .ok (.ireturn, 1) := by decide +kernel
theorem dX11_text_0 : decode cX11_text 0 = .ok (.iload_n 1, 1) := by decide +kernel
theorem dX11_text_1 : decode cX11_text 1 = .ok (.ifCond .lt 11, 3) := by decide +kernel
theorem dX11_text_4 : decode cX11_text 4 = .ok (.iload_n 1, 1) := by decide +kernel
theorem dX11_text_5 : decode cX11_text 5 = .ok (.aload_n 0, 1) := by decide +kernel
theorem dX11_text_6 : decode cX11_text 6 = .ok (.getfield 78, 3) := by decide +kernel
theorem dX11_text_9 : decode cX11_text 9 = .ok (.if_icmp .le 6, 3) := by decide +kernel
theorem dX11_text_12 : decode cX11_text 12 = .ok (.bipush (-2), 2) := by decide +kernel
theorem dX11_text_14 : decode cX11_text 14 = .ok (.ireturn, 1) := by decide +kernel
theorem dX11_text_15 : decode cX11_text 15 = .ok (.aload_n 0, 1) := by decide +kernel
theorem dX11_text_16 : decode cX11_text 16 = .ok (.iconst 0, 1) := by decide +kernel
theorem dX11_text_17 : decode cX11_text 17 = .ok (.putfield 78, 3) := by decide +kernel
theorem dX11_text_20 : decode cX11_text 20 = .ok (.aload_n 0, 1) := by decide +kernel
theorem dX11_text_21 : decode cX11_text 21 = .ok (.getfield 30, 3) := by decide +kernel
theorem dX11_text_24 : decode cX11_text 24 = .ok (.aload_n 0, 1) := by decide +kernel
theorem dX11_text_25 : decode cX11_text 25 = .ok (.getfield 11, 3) := by decide +kernel
theorem dX11_text_28 : decode cX11_text 28 = .ok (.iload_n 1, 1) := by decide +kernel
theorem dX11_text_29 : decode cX11_text 29 = .ok (.aload_n 0, 1) := by decide +kernel
theorem dX11_text_30 : decode cX11_text 30 = .ok (.getfield 22, 3) := by decide +kernel
theorem dX11_text_33 : decode cX11_text 33 = .ok (.invokevirtual 86, 3) := by decide +kernel
theorem dX11_text_36 : decode cX11_text 36 = .ok (.ifCond .ne 5, 3) := by decide +kernel
theorem dX11_text_39 : decode cX11_text 39 = .ok (.iconst (-1), 1) := by decide +kernel
theorem dX11_text_40 : decode cX11_text 40 = .ok (.ireturn, 1) := by decide +kernel
theorem dX11_text_41 : decode cX11_text 41 = .ok (.aload_n 0, 1) := by decide +kernel
theorem dX11_text_42 : decode cX11_text 42 = .ok (.getfield 18, 3) := by decide +kernel
theorem dX11_text_45 : decode cX11_text 45 = .ok (.astore_n 2, 1) := by decide +kernel
theorem dX11_text_46 : decode cX11_text 46 = .ok (.aload_n 0, 1) := by decide +kernel
theorem dX11_text_47 : decode cX11_text 47 = .ok (.aload_n 0, 1) := by decide +kernel
theorem dX11_text_48 : decode cX11_text 48 = .ok (.getfield 22, 3) := by decide +kernel
theorem dX11_text_51 : decode cX11_text 51 = .ok (.putfield 18, 3) := by decide +kernel
theorem dX11_text_54 : decode cX11_text 54 = .ok (.aload_n 0, 1) := by decide +kernel
theorem dX11_text_55 : decode cX11_text 55 = .ok (.aload_n 2, 1) := by decide +kernel
theorem dX11_text_56 : decode cX11_text 56 = .ok (.putfield 22, 3) := by decide +kernel
theorem dX11_text_59 : decode cX11_text 59 = .ok (.aload_n 0, 1) := by decide +kernel
theorem dX11_text_60 : decode cX11_text 60 = .ok (.invokevirtual 90, 3) := by decide +kernel
theorem dX11_text_63 : decode cX11_text 63 = .ok (.aload_n 0, 1) := by decide +kernel
theorem dX11_text_64 : decode cX11_text 64 = .ok (.getfield 18, 3) := by decide +kernel
theorem dX11_text_67 : decode cX11_text 67 = .ok (.getfield 93, 3) := by decide +kernel
theorem dX11_text_70 : decode cX11_text 70 = .ok (.ireturn, 1) := by decide +kernel
theorem dX11_tried_0 : decode cX11_tried 0 = .ok (.iload_n 1, 1) := by decide +kernel
theorem dX11_tried_1 : decode cX11_tried 1 = .ok (.ifCond .lt 12, 3) := by decide +kernel
theorem dX11_tried_4 : decode cX11_tried 4 = .ok (.iload_n 1, 1) := by decide +kernel
theorem dX11_tried_5 : decode cX11_tried 5 = .ok (.iconst 4, 1) := by decide +kernel
theorem dX11_tried_6 : decode cX11_tried 6 = .ok (.if_icmp .gt 7, 3) := by decide +kernel
theorem dX11_tried_9 : decode cX11_tried 9 = .ok (.iload_n 3, 1) := by decide +kernel
theorem dX11_tried_10 : decode cX11_tried 10 = .ok (.ifCond .ge 5, 3) := by decide +kernel
theorem dX11_tried_13 : decode cX11_tried 13 = .ok (.iconst (-1), 1) := by decide +kernel
theorem dX11_tried_14 : decode cX11_tried 14 = .ok (.ireturn, 1) := by decide +kernel
theorem dX11_tried_15 : decode cX11_tried 15 = .ok (.iload_n 1, 1) := by decide +kernel
theorem dX11_tried_16 : decode cX11_tried 16 = .ok (.iconst 1, 1) := by decide +kernel
theorem dX11_tried_17 : decode cX11_tried 17 = .ok (.if_icmp .eq 8, 3) := by decide +kernel
theorem dX11_tried_20 : decode cX11_tried 20 = .ok (.iload_n 1, 1) := by decide +kernel
theorem dX11_tried_21 : decode cX11_tried 21 = .ok (.iconst 4, 1) := by decide +kernel
theorem dX11_tried_22 : decode cX11_tried 22 = .ok (.if_icmp .ne 7, 3) := by decide +kernel
theorem dX11_tried_25 : decode cX11_tried 25 = .ok (.iconst 1, 1) := by decide +kernel
theorem dX11_tried_26 : decode cX11_tried 26 = .ok (.goto 4, 3) := by decide +kernel
theorem dX11_tried_29 : decode cX11_tried 29 = .ok (.iconst 0, 1) := by decide +kernel
theorem dX11_tried_30 : decode cX11_tried 30 = .ok (.istore 4, 2) := by decide +kernel
theorem dX11_tried_32 : decode cX11_tried 32 = .ok (.iload 4, 2) := by decide +kernel
theorem dX11_tried_34 : decode cX11_tried 34 = .ok (.ifCond .eq 14, 3) := by decide +kernel
theorem dX11_tried_37 : decode cX11_tried 37 = .ok (.aload_n 0, 1) := by decide +kernel
theorem dX11_tried_38 : decode cX11_tried 38 = .ok (.iload_n 2, 1) := by decide +kernel
theorem dX11_tried_39 : decode cX11_tried 39 = .ok (.invokevirtual 115, 3) := by decide +kernel
theorem dX11_tried_42 : decode cX11_tried 42 = .ok (.ifCond .ne 12, 3) := by decide +kernel
theorem dX11_tried_45 : decode cX11_tried 45 = .ok (.goto 7, 3) := by decide +kernel
theorem dX11_tried_48 : decode cX11_tried 48 = .ok (.iload_n 2, 1) := by decide +kernel
theorem dX11_tried_49 : decode cX11_tried 49 = .ok (.ifCond .eq 5, 3) := by decide +kernel
theorem dX11_tried_52 : decode cX11_tried 52 = .ok (.iconst (-1), 1) := by decide +kernel
theorem dX11_tried_53 : decode cX11_tried 53 = .ok (.ireturn, 1) := by decide +kernel
theorem dX11_tried_54 : decode cX11_tried 54 = .ok (.aload_n 0, 1) := by decide +kernel
theorem dX11_tried_55 : decode cX11_tried 55 = .ok (.getfield 51, 3) := by decide +kernel
theorem dX11_tried_58 : decode cX11_tried 58 = .ok (.aload_n 0, 1) := by decide +kernel
theorem dX11_tried_59 : decode cX11_tried 59 = .ok (.getfield 47, 3) := by decide +kernel
theorem dX11_tried_62 : decode cX11_tried 62 = .ok (.aload_n 0, 1) := by decide +kernel
theorem dX11_tried_63 : decode cX11_tried 63 = .ok (.getfield 47, 3) := by decide +kernel
theorem dX11_tried_66 : decode cX11_tried 66 = .ok (.getfield 217, 3) := by decide +kernel
theorem dX11_tried_69 : decode cX11_tried 69 = .ok (.iload_n 3, 1) := by decide +kernel
theorem dX11_tried_70 : decode cX11_tried 70 = .ok (.invokevirtual 353, 3) := by decide +kernel
theorem dX11_tried_73 : decode cX11_tried 73 = .ok (.aload_n 0, 1) := by decide +kernel
theorem dX11_tried_74 : decode cX11_tried 74 = .ok (.getfield 41, 3) := by decide +kernel
theorem dX11_tried_77 : decode cX11_tried 77 = .ok (.aload_n 0, 1) := by decide +kernel
theorem dX11_tried_78 : decode cX11_tried 78 = .ok (.getfield 37, 3) := by decide +kernel
theorem dX11_tried_81 : decode cX11_tried 81 = .ok (.invokevirtual 357, 3) := by decide +kernel
theorem dX11_tried_84 : decode cX11_tried 84 = .ok (.aload_n 0, 1) := by decide +kernel
theorem dX11_tried_85 : decode cX11_tried 85 = .ok (.iload_n 1, 1) := by decide +kernel
theorem dX11_tried_86 : decode cX11_tried 86 = .ok (.iload_n 2, 1) := by decide +kernel
theorem dX11_tried_87 : decode cX11_tried 87 = .ok (.invokevirtual 361, 3) := by decide +kernel
theorem dX11_tried_90 : decode cX11_tried 90 = .ok (.aload_n 0, 1) := by decide +kernel
theorem dX11_tried_91 : decode cX11_tried 91 = .ok (.invokevirtual 233, 3) := by decide +kernel
theorem dX11_tried_94 : decode cX11_tried 94 = .ok (.istore 5, 2) := by decide +kernel
theorem dX11_tried_96 : decode cX11_tried 96 = .ok (.iload 5, 2) := by decide +kernel
theorem dX11_tried_98 : decode cX11_tried 98 = .ok (.aload_n 0, 1) := by decide +kernel
theorem dX11_tried_99 : decode cX11_tried 99 = .ok (.getfield 18, 3) := by decide +kernel
theorem dX11_tried_102 : decode cX11_tried 102 = .ok (.getfield 150, 3) := by decide +kernel
theorem dX11_tried_105 : decode cX11_tried 105 = .ok (.getfield 299, 3) := by decide +kernel
theorem dX11_tried_108 : decode cX11_tried 108 = .ok (.if_icmp .ge 22, 3) := by decide +kernel
theorem dX11_tried_111 : decode cX11_tried 111 = .ok (.aload_n 0, 1) := by decide +kernel
theorem dX11_tried_112 : decode cX11_tried 112 = .ok (.getfield 41, 3) := by decide +kernel
theorem dX11_tried_115 : decode cX11_tried 115 = .ok (.aload_n 0, 1) := by decide +kernel
theorem dX11_tried_116 : decode cX11_tried 116 = .ok (.getfield 51, 3) := by decide +kernel
theorem dX11_tried_119 : decode cX11_tried 119 = .ok (.iload 5, 2) := by decide +kernel
theorem dX11_tried_121 : decode cX11_tried 121 = .ok (.invokevirtual 364, 3) := by decide +kernel
theorem dX11_tried_124 : decode cX11_tried 124 = .ok (.iinc 5 1, 3) := by decide +kernel
theorem dX11_tried_127 : decode cX11_tried 127 = .ok (.goto (-31), 3) := by decide +kernel
theorem dX11_tried_130 : decode cX11_tried 130 = .ok (.aload_n 0, 1) := by decide +kernel
theorem dX11_tried_131 : decode cX11_tried 131 = .ok (.getfield 51, 3) := by decide +kernel
theorem dX11_tried_134 : decode cX11_tried 134 = .ok (.aload_n 0, 1) := by decide +kernel
theorem dX11_tried_135 : decode cX11_tried 135 = .ok (.getfield 18, 3) := by decide +kernel
theorem dX11_tried_138 : decode cX11_tried 138 = .ok (.getfield 102, 3) := by decide +kernel
theorem dX11_tried_141 : decode cX11_tried 141 = .ok (.getfield 106, 3) := by decide +kernel
theorem dX11_tried_144 : decode cX11_tried 144 = .ok (.invokevirtual 317, 3) := by decide +kernel
theorem dX11_tried_147 : decode cX11_tried 147 = .ok (.ireturn, 1) := by decide +kernel
theorem dX11_undo_0 : decode cX11_undo 0 = .ok (.aload_n 0, 1) := by decide +kernel
theorem dX11_undo_1 : decode cX11_undo 1 = .ok (.getfield 67, 3) := by decide +kernel
theorem dX11_undo_4 : decode cX11_undo 4 = .ok (.getfield 368, 3) := by decide +kernel
theorem dX11_undo_7 : decode cX11_undo 7 = .ok (.iconst 1, 1) := by decide +kernel
theorem dX11_undo_8 : decode cX11_undo 8 = .ok (.if_icmp .ge 5, 3) := by decide +kernel
theorem dX11_undo_11 : decode cX11_undo 11 = .ok (.iconst (-1), 1) := by decide +kernel
theorem dX11_undo_12 : decode cX11_undo 12 = .ok (.ireturn, 1) := by decide +kernel
theorem dX11_undo_13 : decode cX11_undo 13 = .ok (.aload_n 0, 1) := by decide +kernel
theorem dX11_undo_14 : decode cX11_undo 14 = .ok (.getfield 67, 3) := by decide +kernel
theorem dX11_undo_17 : decode cX11_undo 17 = .ok (.dup, 1) := by decide +kernel
theorem dX11_undo_18 : decode cX11_undo 18 = .ok (.getfield 368, 3) := by decide +kernel
theorem dX11_undo_21 : decode cX11_undo 21 = .ok (.iconst 1, 1) := by decide +kernel
theorem dX11_undo_22 : decode cX11_undo 22 = .ok (.isub, 1) := by decide +kernel
theorem dX11_undo_23 : decode cX11_undo 23 = .ok (.putfield 368, 3) := by decide +kernel
theorem dX11_undo_26 : decode cX11_undo 26 = .ok (.aload_n 0, 1) := by decide +kernel
theorem dX11_undo_27 : decode cX11_undo 27 = .ok (.getfield 67, 3) := by decide +kernel
theorem dX11_undo_30 : decode cX11_undo 30 = .ok (.getfield 369, 3) := by decide +kernel
theorem dX11_undo_33 : decode cX11_undo 33 = .ok (.aload_n 0, 1) := by decide +kernel
theorem dX11_undo_34 : decode cX11_undo 34 = .ok (.getfield 67, 3) := by decide +kernel
theorem dX11_undo_37 : decode cX11_undo 37 = .ok (.getfield 368, 3) := by decide +kernel
theorem dX11_undo_40 : decode cX11_undo 40 = .ok (.iaload, 1) := by decide +kernel
theorem dX11_undo_41 : decode cX11_undo 41 = .ok (.istore_n 1, 1) := by decide +kernel
theorem dX11_undo_42 : decode cX11_undo 42 = .ok (.aload_n 0, 1) := by decide +kernel
theorem dX11_undo_43 : decode cX11_undo 43 = .ok (.getfield 67, 3) := by decide +kernel
theorem dX11_undo_46 : decode cX11_undo 46 = .ok (.getfield 370, 3) := by decide +kernel
theorem dX11_undo_49 : decode cX11_undo 49 = .ok (.aload_n 0, 1) := by decide +kernel
theorem dX11_undo_50 : decode cX11_undo 50 = .ok (.getfield 67, 3) := by decide +kernel
theorem dX11_undo_53 : decode cX11_undo 53 = .ok (.getfield 368, 3) := by decide +kernel
theorem dX11_undo_56 : decode cX11_undo 56 = .ok (.iaload, 1) := by decide +kernel
theorem dX11_undo_57 : decode cX11_undo 57 = .ok (.istore_n 2, 1) := by decide +kernel
theorem dX11_undo_58 : decode cX11_undo 58 = .ok (.iload_n 1, 1) := by decide +kernel
theorem dX11_undo_59 : decode cX11_undo 59 = .ok (.iconst (-1), 1) := by decide +kernel
theorem dX11_undo_60 : decode cX11_undo 60 = .ok (.if_icmp .ne 14, 3) := by decide +kernel
theorem dX11_undo_63 : decode cX11_undo 63 = .ok (.aload_n 0, 1) := by decide +kernel
theorem dX11_undo_64 : decode cX11_undo 64 = .ok (.getfield 47, 3) := by decide +kernel
theorem dX11_undo_67 : decode cX11_undo 67 = .ok (.iload_n 2, 1) := by decide +kernel
theorem dX11_undo_68 : decode cX11_undo 68 = .ok (.putfield 217, 3) := by decide +kernel
theorem dX11_undo_71 : decode cX11_undo 71 = .ok (.goto 26, 3) := by decide +kernel
theorem dX11_undo_74 : decode cX11_undo 74 = .ok (.aload_n 0, 1) := by decide +kernel
theorem dX11_undo_75 : decode cX11_undo 75 = .ok (.getfield 47, 3) := by decide +kernel
theorem dX11_undo_78 : decode cX11_undo 78 = .ok (.getfield 122, 3) := by decide +kernel
theorem dX11_undo_81 : decode cX11_undo 81 = .ok (.iload_n 1, 1) := by decide +kernel
theorem dX11_undo_82 : decode cX11_undo 82 = .ok (.iload_n 2, 1) := by decide +kernel
theorem dX11_undo_83 : decode cX11_undo 83 = .ok (.iastore, 1) := by decide +kernel
theorem dX11_undo_84 : decode cX11_undo 84 = .ok (.aload_n 0, 1) := by decide +kernel
theorem dX11_undo_85 : decode cX11_undo 85 = .ok (.getfield 47, 3) := by decide +kernel
theorem dX11_undo_88 : decode cX11_undo 88 = .ok (.getfield 137, 3) := by decide +kernel
theorem dX11_undo_91 : decode cX11_undo 91 = .ok (.iload_n 1, 1) := by decide +kernel
theorem dX11_undo_92 : decode cX11_undo 92 = .ok (.dup2, 1) := by decide +kernel
theorem dX11_undo_93 : decode cX11_undo 93 = .ok (.iaload, 1) := by decide +kernel
theorem dX11_undo_94 : decode cX11_undo 94 = .ok (.iconst 1, 1) := by decide +kernel
theorem dX11_undo_95 : decode cX11_undo 95 = .ok (.isub, 1) := by decide +kernel
theorem dX11_undo_96 : decode cX11_undo 96 = .ok (.iastore, 1) := by decide +kernel
theorem dX11_undo_97 : decode cX11_undo 97 = .ok (.aload_n 0, 1) := by decide +kernel
theorem dX11_undo_98 : decode cX11_undo 98 = .ok (.getfield 67, 3) := by decide +kernel
theorem dX11_undo_101 : decode cX11_undo 101 = .ok (.getfield 368, 3) := by decide +kernel
theorem dX11_undo_104 : decode cX11_undo 104 = .ok (.ireturn, 1) := by decide +kernel
theorem dX11_wave_0 : decode cX11_wave 0 = .ok (.aload_n 0, 1) := by decide +kernel
theorem dX11_wave_1 : decode cX11_wave 1 = .ok (.iload_n 1, 1) := by decide +kernel
theorem dX11_wave_2 : decode cX11_wave 2 = .ok (.invokevirtual 147, 3) := by decide +kernel
theorem dX11_wave_5 : decode cX11_wave 5 = .ok (.ifCond .ne 6, 3) := by decide +kernel
theorem dX11_wave_8 : decode cX11_wave 8 = .ok (.bipush (-4), 2) := by decide +kernel
theorem dX11_wave_10 : decode cX11_wave 10 = .ok (.ireturn, 1) := by decide +kernel
theorem dX11_wave_11 : decode cX11_wave 11 = .ok (.iload_n 2, 1) := by decide +kernel
theorem dX11_wave_12 : decode cX11_wave 12 = .ok (.tableswitch 98 0 4 #[36, 49, 62, 75, 88], 36) := by decide +kernel
theorem dX11_wave_48 : decode cX11_wave 48 = .ok (.aload_n 0, 1) := by decide +kernel
theorem dX11_wave_49 : decode cX11_wave 49 = .ok (.getfield 18, 3) := by decide +kernel
theorem dX11_wave_52 : decode cX11_wave 52 = .ok (.getfield 150, 3) := by decide +kernel
theorem dX11_wave_55 : decode cX11_wave 55 = .ok (.getfield 154, 3) := by decide +kernel
theorem dX11_wave_58 : decode cX11_wave 58 = .ok (.iload_n 1, 1) := by decide +kernel
theorem dX11_wave_59 : decode cX11_wave 59 = .ok (.iaload, 1) := by decide +kernel
theorem dX11_wave_60 : decode cX11_wave 60 = .ok (.ireturn, 1) := by decide +kernel
theorem dX11_wave_61 : decode cX11_wave 61 = .ok (.aload_n 0, 1) := by decide +kernel
theorem dX11_wave_62 : decode cX11_wave 62 = .ok (.getfield 18, 3) := by decide +kernel
theorem dX11_wave_65 : decode cX11_wave 65 = .ok (.getfield 150, 3) := by decide +kernel
theorem dX11_wave_68 : decode cX11_wave 68 = .ok (.getfield 159, 3) := by decide +kernel
theorem dX11_wave_71 : decode cX11_wave 71 = .ok (.iload_n 1, 1) := by decide +kernel
theorem dX11_wave_72 : decode cX11_wave 72 = .ok (.iaload, 1) := by decide +kernel
theorem dX11_wave_73 : decode cX11_wave 73 = .ok (.ireturn, 1) := by decide +kernel
theorem dX11_wave_74 : decode cX11_wave 74 = .ok (.aload_n 0, 1) := by decide +kernel
theorem dX11_wave_75 : decode cX11_wave 75 = .ok (.getfield 18, 3) := by decide +kernel
theorem dX11_wave_78 : decode cX11_wave 78 = .ok (.getfield 150, 3) := by decide +kernel
theorem dX11_wave_81 : decode cX11_wave 81 = .ok (.getfield 161, 3) := by decide +kernel
theorem dX11_wave_84 : decode cX11_wave 84 = .ok (.iload_n 1, 1) := by decide +kernel
theorem dX11_wave_85 : decode cX11_wave 85 = .ok (.iaload, 1) := by decide +kernel
theorem dX11_wave_86 : decode cX11_wave 86 = .ok (.ireturn, 1) := by decide +kernel
theorem dX11_wave_87 : decode cX11_wave 87 = .ok (.aload_n 0, 1) := by decide +kernel
theorem dX11_wave_88 : decode cX11_wave 88 = .ok (.getfield 18, 3) := by decide +kernel
theorem dX11_wave_91 : decode cX11_wave 91 = .ok (.getfield 150, 3) := by decide +kernel
theorem dX11_wave_94 : decode cX11_wave 94 = .ok (.getfield 164, 3) := by decide +kernel
theorem dX11_wave_97 : decode cX11_wave 97 = .ok (.iload_n 1, 1) := by decide +kernel
theorem dX11_wave_98 : decode cX11_wave 98 = .ok (.iaload, 1) := by decide +kernel
theorem dX11_wave_99 : decode cX11_wave 99 = .ok (.ireturn, 1) := by decide +kernel
theorem dX11_wave_100 : decode cX11_wave 100 = .ok (.aload_n 0, 1) := by decide +kernel
theorem dX11_wave_101 : decode cX11_wave 101 = .ok (.getfield 47, 3) := by decide +kernel
theorem dX11_wave_104 : decode cX11_wave 104 = .ok (.getfield 167, 3) := by decide +kernel
theorem dX11_wave_107 : decode cX11_wave 107 = .ok (.iload_n 1, 1) := by decide +kernel
theorem dX11_wave_108 : decode cX11_wave 108 = .ok (.iaload, 1) := by decide +kernel
theorem dX11_wave_109 : decode cX11_wave 109 = .ok (.ireturn, 1) := by decide +kernel
theorem dX11_wave_110 : decode cX11_wave 110 = .ok (.bipush (-4), 2) := by decide +kernel
theorem dX11_wave_112 : decode cX11_wave 112 = .ok (.ireturn, 1) := by decide +kernel
theorem dX12_layNames_0 : decode cX12_layNames 0 = .ok (.aload_n 0, 1) := by decide +kernel
theorem dX12_layNames_1 : decode cX12_layNames 1 = .ok (.getfield 81, 3) := by decide +kernel
theorem dX12_layNames_4 : decode cX12_layNames 4 = .ok (.iconst 0, 1) := by decide +kernel
theorem dX12_layNames_5 : decode cX12_layNames 5 = .ok (.iload_n 1, 1) := by decide +kernel
theorem dX12_layNames_6 : decode cX12_layNames 6 = .ok (.i2l, 1) := by decide +kernel
theorem dX12_layNames_7 : decode cX12_layNames 7 = .ok (.lastore, 1) := by decide +kernel
theorem dX12_layNames_8 : decode cX12_layNames 8 = .ok (.aload_n 0, 1) := by decide +kernel
theorem dX12_layNames_9 : decode cX12_layNames 9 = .ok (.getfield 81, 3) := by decide +kernel
theorem dX12_layNames_12 : decode cX12_layNames 12 = .ok (.iconst 1, 1) := by decide +kernel
theorem dX12_layNames_13 : decode cX12_layNames 13 = .ok (.iload_n 2, 1) := by decide +kernel
theorem dX12_layNames_14 : decode cX12_layNames 14 = .ok (.i2l, 1) := by decide +kernel
theorem dX12_layNames_15 : decode cX12_layNames 15 = .ok (.lastore, 1) := by decide +kernel
theorem dX12_layNames_16 : decode cX12_layNames 16 = .ok (.aload_n 0, 1) := by decide +kernel
theorem dX12_layNames_17 : decode cX12_layNames 17 = .ok (.getfield 81, 3) := by decide +kernel
theorem dX12_layNames_20 : decode cX12_layNames 20 = .ok (.iconst 2, 1) := by decide +kernel
theorem dX12_layNames_21 : decode cX12_layNames 21 = .ok (.iload_n 3, 1) := by decide +kernel
theorem dX12_layNames_22 : decode cX12_layNames 22 = .ok (.i2l, 1) := by decide +kernel
theorem dX12_layNames_23 : decode cX12_layNames 23 = .ok (.lastore, 1) := by decide +kernel
theorem dX12_layNames_24 : decode cX12_layNames 24 = .ok (.aload_n 0, 1) := by decide +kernel
theorem dX12_layNames_25 : decode cX12_layNames 25 = .ok (.getfield 81, 3) := by decide +kernel
theorem dX12_layNames_28 : decode cX12_layNames 28 = .ok (.iconst 3, 1) := by decide +kernel
theorem dX12_layNames_29 : decode cX12_layNames 29 = .ok (.iload 4, 2) := by decide +kernel
theorem dX12_layNames_31 : decode cX12_layNames 31 = .ok (.ifCond .ge 7, 3) := by decide +kernel
theorem dX12_layNames_34 : decode cX12_layNames 34 = .ok (.lconst 0, 1) := by decide +kernel
theorem dX12_layNames_35 : decode cX12_layNames 35 = .ok (.goto 11, 3) := by decide +kernel
theorem dX12_layNames_38 : decode cX12_layNames 38 = .ok (.aload_n 0, 1) := by decide +kernel
theorem dX12_layNames_39 : decode cX12_layNames 39 = .ok (.getfield 51, 3) := by decide +kernel
theorem dX12_layNames_42 : decode cX12_layNames 42 = .ok (.iload 4, 2) := by decide +kernel
theorem dX12_layNames_44 : decode cX12_layNames 44 = .ok (.iaload, 1) := by decide +kernel
theorem dX12_layNames_45 : decode cX12_layNames 45 = .ok (.i2l, 1) := by decide +kernel
theorem dX12_layNames_46 : decode cX12_layNames 46 = .ok (.lastore, 1) := by decide +kernel
theorem dX12_layNames_47 : decode cX12_layNames 47 = .ok (.aload_n 0, 1) := by decide +kernel
theorem dX12_layNames_48 : decode cX12_layNames 48 = .ok (.getfield 81, 3) := by decide +kernel
theorem dX12_layNames_51 : decode cX12_layNames 51 = .ok (.iconst 4, 1) := by decide +kernel
theorem dX12_layNames_52 : decode cX12_layNames 52 = .ok (.iload 5, 2) := by decide +kernel
theorem dX12_layNames_54 : decode cX12_layNames 54 = .ok (.i2l, 1) := by decide +kernel
theorem dX12_layNames_55 : decode cX12_layNames 55 = .ok (.lastore, 1) := by decide +kernel
theorem dX12_layNames_56 : decode cX12_layNames 56 = .ok (.aload_n 0, 1) := by decide +kernel
theorem dX12_layNames_57 : decode cX12_layNames 57 = .ok (.getfield 81, 3) := by decide +kernel
theorem dX12_layNames_60 : decode cX12_layNames 60 = .ok (.iconst 5, 1) := by decide +kernel
theorem dX12_layNames_61 : decode cX12_layNames 61 = .ok (.iload 4, 2) := by decide +kernel
theorem dX12_layNames_63 : decode cX12_layNames 63 = .ok (.ifCond .ge 7, 3) := by decide +kernel
theorem dX12_layNames_66 : decode cX12_layNames 66 = .ok (.lconst 0, 1) := by decide +kernel
theorem dX12_layNames_67 : decode cX12_layNames 67 = .ok (.goto 21, 3) := by decide +kernel
theorem dX12_layNames_70 : decode cX12_layNames 70 = .ok (.iload 4, 2) := by decide +kernel
theorem dX12_layNames_72 : decode cX12_layNames 72 = .ok (.aload_n 0, 1) := by decide +kernel
theorem dX12_layNames_73 : decode cX12_layNames 73 = .ok (.getfield 45, 3) := by decide +kernel
theorem dX12_layNames_76 : decode cX12_layNames 76 = .ok (.aload_n 0, 1) := by decide +kernel
theorem dX12_layNames_77 : decode cX12_layNames 77 = .ok (.getfield 54, 3) := by decide +kernel
theorem dX12_layNames_80 : decode cX12_layNames 80 = .ok (.iload 4, 2) := by decide +kernel
theorem dX12_layNames_82 : decode cX12_layNames 82 = .ok (.iaload, 1) := by decide +kernel
theorem dX12_layNames_83 : decode cX12_layNames 83 = .ok (.iaload, 1) := by decide +kernel
theorem dX12_layNames_84 : decode cX12_layNames 84 = .ok (.isub, 1) := by decide +kernel
theorem dX12_layNames_85 : decode cX12_layNames 85 = .ok (.iconst 1, 1) := by decide +kernel
theorem dX12_layNames_86 : decode cX12_layNames 86 = .ok (.iadd, 1) := by decide +kernel
theorem dX12_layNames_87 : decode cX12_layNames 87 = .ok (.i2l, 1) := by decide +kernel
theorem dX12_layNames_88 : decode cX12_layNames 88 = .ok (.lastore, 1) := by decide +kernel
theorem dX12_layNames_89 : decode cX12_layNames 89 = .ok (.return_, 1) := by decide +kernel
theorem dX12_bounded_0 : decode cX12_bounded 0 = .ok (.aload_n 0, 1) := by decide +kernel
theorem dX12_bounded_1 : decode cX12_bounded 1 = .ok (.aload_n 0, 1) := by decide +kernel
theorem dX12_bounded_2 : decode cX12_bounded 2 = .ok (.getfield 347, 3) := by decide +kernel
theorem dX12_bounded_5 : decode cX12_bounded 5 = .ok (.ifCond .ne 19, 3) := by decide +kernel
theorem dX12_bounded_8 : decode cX12_bounded 8 = .ok (.lload_n 1, 1) := by decide +kernel
theorem dX12_bounded_9 : decode cX12_bounded 9 = .ok (.ldc2_w 350, 3) := by decide +kernel
theorem dX12_bounded_12 : decode cX12_bounded 12 = .ok (.lcmp, 1) := by decide +kernel
theorem dX12_bounded_13 : decode cX12_bounded 13 = .ok (.ifCond .gt 11, 3) := by decide +kernel
theorem dX12_bounded_16 : decode cX12_bounded 16 = .ok (.lload_n 1, 1) := by decide +kernel
theorem dX12_bounded_17 : decode cX12_bounded 17 = .ok (.ldc2_w 352, 3) := by decide +kernel
theorem dX12_bounded_20 : decode cX12_bounded 20 = .ok (.lcmp, 1) := by decide +kernel
theorem dX12_bounded_21 : decode cX12_bounded 21 = .ok (.ifCond .ge 7, 3) := by decide +kernel
theorem dX12_bounded_24 : decode cX12_bounded 24 = .ok (.iconst 1, 1) := by decide +kernel
theorem dX12_bounded_25 : decode cX12_bounded 25 = .ok (.goto 4, 3) := by decide +kernel
theorem dX12_bounded_28 : decode cX12_bounded 28 = .ok (.iconst 0, 1) := by decide +kernel
theorem dX12_bounded_29 : decode cX12_bounded 29 = .ok (.putfield 347, 3) := by decide +kernel
theorem dX12_bounded_32 : decode cX12_bounded 32 = .ok (.aload_n 0, 1) := by decide +kernel
theorem dX12_bounded_33 : decode cX12_bounded 33 = .ok (.getfield 347, 3) := by decide +kernel
theorem dX12_bounded_36 : decode cX12_bounded 36 = .ok (.ifCond .eq 7, 3) := by decide +kernel
theorem dX12_bounded_39 : decode cX12_bounded 39 = .ok (.lconst 0, 1) := by decide +kernel
theorem dX12_bounded_40 : decode cX12_bounded 40 = .ok (.goto 4, 3) := by decide +kernel
theorem dX12_bounded_43 : decode cX12_bounded 43 = .ok (.lload_n 1, 1) := by decide +kernel
theorem dX12_bounded_44 : decode cX12_bounded 44 = .ok (.lreturn, 1) := by decide +kernel
theorem dX12_times_0 : decode cX12_times 0 = .ok (.lload_n 1, 1) := by decide +kernel
theorem dX12_times_1 : decode cX12_times 1 = .ok (.lconst 0, 1) := by decide +kernel
theorem dX12_times_2 : decode cX12_times 2 = .ok (.lcmp, 1) := by decide +kernel
theorem dX12_times_3 : decode cX12_times 3 = .ok (.ifCond .eq 45, 3) := by decide +kernel
theorem dX12_times_6 : decode cX12_times 6 = .ok (.lload_n 3, 1) := by decide +kernel
theorem dX12_times_7 : decode cX12_times 7 = .ok (.lconst 0, 1) := by decide +kernel
theorem dX12_times_8 : decode cX12_times 8 = .ok (.lcmp, 1) := by decide +kernel
theorem dX12_times_9 : decode cX12_times 9 = .ok (.ifCond .eq 39, 3) := by decide +kernel
theorem dX12_times_12 : decode cX12_times 12 = .ok (.lload_n 3, 1) := by decide +kernel
theorem dX12_times_13 : decode cX12_times 13 = .ok (.lconst 0, 1) := by decide +kernel
theorem dX12_times_14 : decode cX12_times 14 = .ok (.lcmp, 1) := by decide +kernel
theorem dX12_times_15 : decode cX12_times 15 = .ok (.ifCond .ge 8, 3) := by decide +kernel
theorem dX12_times_18 : decode cX12_times 18 = .ok (.lload_n 3, 1) := by decide +kernel
theorem dX12_times_19 : decode cX12_times 19 = .ok (.lneg, 1) := by decide +kernel
theorem dX12_times_20 : decode cX12_times 20 = .ok (.goto 4, 3) := by decide +kernel
theorem dX12_times_23 : decode cX12_times 23 = .ok (.lload_n 3, 1) := by decide +kernel
theorem dX12_times_24 : decode cX12_times 24 = .ok (.ldc2_w 350, 3) := by decide +kernel
theorem dX12_times_27 : decode cX12_times 27 = .ok (.lload_n 1, 1) := by decide +kernel
theorem dX12_times_28 : decode cX12_times 28 = .ok (.lconst 0, 1) := by decide +kernel
theorem dX12_times_29 : decode cX12_times 29 = .ok (.lcmp, 1) := by decide +kernel
theorem dX12_times_30 : decode cX12_times 30 = .ok (.ifCond .ge 8, 3) := by decide +kernel
theorem dX12_times_33 : decode cX12_times 33 = .ok (.lload_n 1, 1) := by decide +kernel
theorem dX12_times_34 : decode cX12_times 34 = .ok (.lneg, 1) := by decide +kernel
theorem dX12_times_35 : decode cX12_times 35 = .ok (.goto 4, 3) := by decide +kernel
theorem dX12_times_38 : decode cX12_times 38 = .ok (.lload_n 1, 1) := by decide +kernel
theorem dX12_times_39 : decode cX12_times 39 = .ok (.ldiv, 1) := by decide +kernel
theorem dX12_times_40 : decode cX12_times 40 = .ok (.lcmp, 1) := by decide +kernel
theorem dX12_times_41 : decode cX12_times 41 = .ok (.ifCond .le 7, 3) := by decide +kernel
theorem dX12_times_44 : decode cX12_times 44 = .ok (.iconst 1, 1) := by decide +kernel
theorem dX12_times_45 : decode cX12_times 45 = .ok (.goto 4, 3) := by decide +kernel
theorem dX12_times_48 : decode cX12_times 48 = .ok (.iconst 0, 1) := by decide +kernel
theorem dX12_times_49 : decode cX12_times 49 = .ok (.istore 5, 2) := by decide +kernel
theorem dX12_times_51 : decode cX12_times 51 = .ok (.aload_n 0, 1) := by decide +kernel
theorem dX12_times_52 : decode cX12_times 52 = .ok (.aload_n 0, 1) := by decide +kernel
theorem dX12_times_53 : decode cX12_times 53 = .ok (.getfield 347, 3) := by decide +kernel
theorem dX12_times_56 : decode cX12_times 56 = .ok (.ifCond .ne 8, 3) := by decide +kernel
theorem dX12_times_59 : decode cX12_times 59 = .ok (.iload 5, 2) := by decide +kernel
theorem dX12_times_61 : decode cX12_times 61 = .ok (.ifCond .eq 7, 3) := by decide +kernel
theorem dX12_times_64 : decode cX12_times 64 = .ok (.iconst 1, 1) := by decide +kernel
theorem dX12_times_65 : decode cX12_times 65 = .ok (.goto 4, 3) := by decide +kernel
theorem dX12_times_68 : decode cX12_times 68 = .ok (.iconst 0, 1) := by decide +kernel
theorem dX12_times_69 : decode cX12_times 69 = .ok (.putfield 347, 3) := by decide +kernel
theorem dX12_times_72 : decode cX12_times 72 = .ok (.aload_n 0, 1) := by decide +kernel
theorem dX12_times_73 : decode cX12_times 73 = .ok (.getfield 347, 3) := by decide +kernel
theorem dX12_times_76 : decode cX12_times 76 = .ok (.ifCond .eq 7, 3) := by decide +kernel
theorem dX12_times_79 : decode cX12_times 79 = .ok (.lconst 0, 1) := by decide +kernel
theorem dX12_times_80 : decode cX12_times 80 = .ok (.goto 6, 3) := by decide +kernel
theorem dX12_times_83 : decode cX12_times 83 = .ok (.lload_n 1, 1) := by decide +kernel
theorem dX12_times_84 : decode cX12_times 84 = .ok (.lload_n 3, 1) := by decide +kernel
theorem dX12_times_85 : decode cX12_times 85 = .ok (.lmul, 1) := by decide +kernel
theorem dX12_times_86 : decode cX12_times 86 = .ok (.lreturn, 1) := by decide +kernel
theorem dX12_compares_0 : decode cX12_compares 0 = .ok (.iload_n 0, 1) := by decide +kernel
theorem dX12_compares_1 : decode cX12_compares 1 = .ok (.tableswitch 95 5 9 #[35, 47, 59, 71, 83], 35) := by decide +kernel
theorem dX12_compares_36 : decode cX12_compares 36 = .ok (.lload_n 1, 1) := by decide +kernel
theorem dX12_compares_37 : decode cX12_compares 37 = .ok (.lload_n 3, 1) := by decide +kernel
theorem dX12_compares_38 : decode cX12_compares 38 = .ok (.lcmp, 1) := by decide +kernel
theorem dX12_compares_39 : decode cX12_compares 39 = .ok (.ifCond .ge 7, 3) := by decide +kernel
theorem dX12_compares_42 : decode cX12_compares 42 = .ok (.iconst 1, 1) := by decide +kernel
theorem dX12_compares_43 : decode cX12_compares 43 = .ok (.goto 4, 3) := by decide +kernel
theorem dX12_compares_46 : decode cX12_compares 46 = .ok (.iconst 0, 1) := by decide +kernel
theorem dX12_compares_47 : decode cX12_compares 47 = .ok (.ireturn, 1) := by decide +kernel
theorem dX12_compares_48 : decode cX12_compares 48 = .ok (.lload_n 1, 1) := by decide +kernel
theorem dX12_compares_49 : decode cX12_compares 49 = .ok (.lload_n 3, 1) := by decide +kernel
theorem dX12_compares_50 : decode cX12_compares 50 = .ok (.lcmp, 1) := by decide +kernel
theorem dX12_compares_51 : decode cX12_compares 51 = .ok (.ifCond .gt 7, 3) := by decide +kernel
theorem dX12_compares_54 : decode cX12_compares 54 = .ok (.iconst 1, 1) := by decide +kernel
theorem dX12_compares_55 : decode cX12_compares 55 = .ok (.goto 4, 3) := by decide +kernel
theorem dX12_compares_58 : decode cX12_compares 58 = .ok (.iconst 0, 1) := by decide +kernel
theorem dX12_compares_59 : decode cX12_compares 59 = .ok (.ireturn, 1) := by decide +kernel
theorem dX12_compares_60 : decode cX12_compares 60 = .ok (.lload_n 1, 1) := by decide +kernel
theorem dX12_compares_61 : decode cX12_compares 61 = .ok (.lload_n 3, 1) := by decide +kernel
theorem dX12_compares_62 : decode cX12_compares 62 = .ok (.lcmp, 1) := by decide +kernel
theorem dX12_compares_63 : decode cX12_compares 63 = .ok (.ifCond .ne 7, 3) := by decide +kernel
theorem dX12_compares_66 : decode cX12_compares 66 = .ok (.iconst 1, 1) := by decide +kernel
theorem dX12_compares_67 : decode cX12_compares 67 = .ok (.goto 4, 3) := by decide +kernel
theorem dX12_compares_70 : decode cX12_compares 70 = .ok (.iconst 0, 1) := by decide +kernel
theorem dX12_compares_71 : decode cX12_compares 71 = .ok (.ireturn, 1) := by decide +kernel
theorem dX12_compares_72 : decode cX12_compares 72 = .ok (.lload_n 1, 1) := by decide +kernel
theorem dX12_compares_73 : decode cX12_compares 73 = .ok (.lload_n 3, 1) := by decide +kernel
theorem dX12_compares_74 : decode cX12_compares 74 = .ok (.lcmp, 1) := by decide +kernel
theorem dX12_compares_75 : decode cX12_compares 75 = .ok (.ifCond .eq 7, 3) := by decide +kernel
theorem dX12_compares_78 : decode cX12_compares 78 = .ok (.iconst 1, 1) := by decide +kernel
theorem dX12_compares_79 : decode cX12_compares 79 = .ok (.goto 4, 3) := by decide +kernel
theorem dX12_compares_82 : decode cX12_compares 82 = .ok (.iconst 0, 1) := by decide +kernel
theorem dX12_compares_83 : decode cX12_compares 83 = .ok (.ireturn, 1) := by decide +kernel
theorem dX12_compares_84 : decode cX12_compares 84 = .ok (.lload_n 1, 1) := by decide +kernel
theorem dX12_compares_85 : decode cX12_compares 85 = .ok (.lload_n 3, 1) := by decide +kernel
theorem dX12_compares_86 : decode cX12_compares 86 = .ok (.lcmp, 1) := by decide +kernel
theorem dX12_compares_87 : decode cX12_compares 87 = .ok (.ifCond .lt 7, 3) := by decide +kernel
theorem dX12_compares_90 : decode cX12_compares 90 = .ok (.iconst 1, 1) := by decide +kernel
theorem dX12_compares_91 : decode cX12_compares 91 = .ok (.goto 4, 3) := by decide +kernel
theorem dX12_compares_94 : decode cX12_compares 94 = .ok (.iconst 0, 1) := by decide +kernel
theorem dX12_compares_95 : decode cX12_compares 95 = .ok (.ireturn, 1) := by decide +kernel
theorem dX12_compares_96 : decode cX12_compares 96 = .ok (.lload_n 1, 1) := by decide +kernel
theorem dX12_compares_97 : decode cX12_compares 97 = .ok (.lload_n 3, 1) := by decide +kernel
theorem dX12_compares_98 : decode cX12_compares 98 = .ok (.lcmp, 1) := by decide +kernel
theorem dX12_compares_99 : decode cX12_compares 99 = .ok (.ifCond .le 7, 3) := by decide +kernel
theorem dX12_compares_102 : decode cX12_compares 102 = .ok (.iconst 1, 1) := by decide +kernel
theorem dX12_compares_103 : decode cX12_compares 103 = .ok (.goto 4, 3) := by decide +kernel
theorem dX12_compares_106 : decode cX12_compares 106 = .ok (.iconst 0, 1) := by decide +kernel
theorem dX12_compares_107 : decode cX12_compares 107 = .ok (.ireturn, 1) := by decide +kernel
theorem dX12_valueOf_0 : decode cX12_valueOf 0 = .ok (.aload_n 0, 1) := by decide +kernel
theorem dX12_valueOf_1 : decode cX12_valueOf 1 = .ok (.getfield 66, 3) := by decide +kernel
theorem dX12_valueOf_4 : decode cX12_valueOf 4 = .ok (.iload_n 1, 1) := by decide +kernel
theorem dX12_valueOf_5 : decode cX12_valueOf 5 = .ok (.iaload, 1) := by decide +kernel
theorem dX12_valueOf_6 : decode cX12_valueOf 6 = .ok (.ifCond .ne 11, 3) := by decide +kernel
theorem dX12_valueOf_9 : decode cX12_valueOf 9 = .ok (.aload_n 0, 1) := by decide +kernel
theorem dX12_valueOf_10 : decode cX12_valueOf 10 = .ok (.getfield 69, 3) := by decide +kernel
theorem dX12_valueOf_13 : decode cX12_valueOf 13 = .ok (.iload_n 1, 1) := by decide +kernel
theorem dX12_valueOf_14 : decode cX12_valueOf 14 = .ok (.iaload, 1) := by decide +kernel
theorem dX12_valueOf_15 : decode cX12_valueOf 15 = .ok (.i2l, 1) := by decide +kernel
theorem dX12_valueOf_16 : decode cX12_valueOf 16 = .ok (.lreturn, 1) := by decide +kernel
theorem dX12_valueOf_17 : decode cX12_valueOf 17 = .ok (.aload_n 0, 1) := by decide +kernel
theorem dX12_valueOf_18 : decode cX12_valueOf 18 = .ok (.getfield 66, 3) := by decide +kernel
theorem dX12_valueOf_21 : decode cX12_valueOf 21 = .ok (.iload_n 1, 1) := by decide +kernel
theorem dX12_valueOf_22 : decode cX12_valueOf 22 = .ok (.iaload, 1) := by decide +kernel
theorem dX12_valueOf_23 : decode cX12_valueOf 23 = .ok (.iconst 1, 1) := by decide +kernel
theorem dX12_valueOf_24 : decode cX12_valueOf 24 = .ok (.if_icmp .ne 15, 3) := by decide +kernel
theorem dX12_valueOf_27 : decode cX12_valueOf 27 = .ok (.aload_n 0, 1) := by decide +kernel
theorem dX12_valueOf_28 : decode cX12_valueOf 28 = .ok (.getfield 81, 3) := by decide +kernel
theorem dX12_valueOf_31 : decode cX12_valueOf 31 = .ok (.aload_n 0, 1) := by decide +kernel
theorem dX12_valueOf_32 : decode cX12_valueOf 32 = .ok (.getfield 69, 3) := by decide +kernel
theorem dX12_valueOf_35 : decode cX12_valueOf 35 = .ok (.iload_n 1, 1) := by decide +kernel
theorem dX12_valueOf_36 : decode cX12_valueOf 36 = .ok (.iaload, 1) := by decide +kernel
theorem dX12_valueOf_37 : decode cX12_valueOf 37 = .ok (.laload, 1) := by decide +kernel
theorem dX12_valueOf_38 : decode cX12_valueOf 38 = .ok (.lreturn, 1) := by decide +kernel
theorem dX12_valueOf_39 : decode cX12_valueOf 39 = .ok (.aload_n 0, 1) := by decide +kernel
theorem dX12_valueOf_40 : decode cX12_valueOf 40 = .ok (.getfield 85, 3) := by decide +kernel
theorem dX12_valueOf_43 : decode cX12_valueOf 43 = .ok (.aload_n 0, 1) := by decide +kernel
theorem dX12_valueOf_44 : decode cX12_valueOf 44 = .ok (.getfield 69, 3) := by decide +kernel
theorem dX12_valueOf_47 : decode cX12_valueOf 47 = .ok (.iload_n 1, 1) := by decide +kernel
theorem dX12_valueOf_48 : decode cX12_valueOf 48 = .ok (.iaload, 1) := by decide +kernel
theorem dX12_valueOf_49 : decode cX12_valueOf 49 = .ok (.laload, 1) := by decide +kernel
theorem dX12_valueOf_50 : decode cX12_valueOf 50 = .ok (.lstore_n 2, 1) := by decide +kernel
theorem dX12_valueOf_51 : decode cX12_valueOf 51 = .ok (.aload_n 0, 1) := by decide +kernel
theorem dX12_valueOf_52 : decode cX12_valueOf 52 = .ok (.getfield 66, 3) := by decide +kernel
theorem dX12_valueOf_55 : decode cX12_valueOf 55 = .ok (.iload_n 1, 1) := by decide +kernel
theorem dX12_valueOf_56 : decode cX12_valueOf 56 = .ok (.iaload, 1) := by decide +kernel
theorem dX12_valueOf_57 : decode cX12_valueOf 57 = .ok (.iconst 2, 1) := by decide +kernel
theorem dX12_valueOf_58 : decode cX12_valueOf 58 = .ok (.if_icmp .ne 15, 3) := by decide +kernel
theorem dX12_valueOf_61 : decode cX12_valueOf 61 = .ok (.lload_n 2, 1) := by decide +kernel
theorem dX12_valueOf_62 : decode cX12_valueOf 62 = .ok (.lconst 0, 1) := by decide +kernel
theorem dX12_valueOf_63 : decode cX12_valueOf 63 = .ok (.lcmp, 1) := by decide +kernel
theorem dX12_valueOf_64 : decode cX12_valueOf 64 = .ok (.ifCond .ne 7, 3) := by decide +kernel
theorem dX12_valueOf_67 : decode cX12_valueOf 67 = .ok (.lconst 1, 1) := by decide +kernel
theorem dX12_valueOf_68 : decode cX12_valueOf 68 = .ok (.goto 4, 3) := by decide +kernel
theorem dX12_valueOf_71 : decode cX12_valueOf 71 = .ok (.lconst 0, 1) := by decide +kernel
theorem dX12_valueOf_72 : decode cX12_valueOf 72 = .ok (.lreturn, 1) := by decide +kernel
theorem dX12_valueOf_73 : decode cX12_valueOf 73 = .ok (.aload_n 0, 1) := by decide +kernel
theorem dX12_valueOf_74 : decode cX12_valueOf 74 = .ok (.getfield 85, 3) := by decide +kernel
theorem dX12_valueOf_77 : decode cX12_valueOf 77 = .ok (.aload_n 0, 1) := by decide +kernel
theorem dX12_valueOf_78 : decode cX12_valueOf 78 = .ok (.getfield 72, 3) := by decide +kernel
theorem dX12_valueOf_81 : decode cX12_valueOf 81 = .ok (.iload_n 1, 1) := by decide +kernel
theorem dX12_valueOf_82 : decode cX12_valueOf 82 = .ok (.iaload, 1) := by decide +kernel
theorem dX12_valueOf_83 : decode cX12_valueOf 83 = .ok (.laload, 1) := by decide +kernel
theorem dX12_valueOf_84 : decode cX12_valueOf 84 = .ok (.lstore 4, 2) := by decide +kernel
theorem dX12_valueOf_86 : decode cX12_valueOf 86 = .ok (.aload_n 0, 1) := by decide +kernel
theorem dX12_valueOf_87 : decode cX12_valueOf 87 = .ok (.getfield 66, 3) := by decide +kernel
theorem dX12_valueOf_90 : decode cX12_valueOf 90 = .ok (.iload_n 1, 1) := by decide +kernel
theorem dX12_valueOf_91 : decode cX12_valueOf 91 = .ok (.iaload, 1) := by decide +kernel
theorem dX12_valueOf_92 : decode cX12_valueOf 92 = .ok (.tableswitch 167 3 14 #[64, 83, 167, 167, 167, 167, 167, 167, 102, 111, 120, 128], 64) := by decide +kernel
theorem dX12_valueOf_156 : decode cX12_valueOf 156 = .ok (.lload_n 2, 1) := by decide +kernel
theorem dX12_valueOf_157 : decode cX12_valueOf 157 = .ok (.lconst 0, 1) := by decide +kernel
theorem dX12_valueOf_158 : decode cX12_valueOf 158 = .ok (.lcmp, 1) := by decide +kernel
theorem dX12_valueOf_159 : decode cX12_valueOf 159 = .ok (.ifCond .eq 14, 3) := by decide +kernel
theorem dX12_valueOf_162 : decode cX12_valueOf 162 = .ok (.lload 4, 2) := by decide +kernel
theorem dX12_valueOf_164 : decode cX12_valueOf 164 = .ok (.lconst 0, 1) := by decide +kernel
theorem dX12_valueOf_165 : decode cX12_valueOf 165 = .ok (.lcmp, 1) := by decide +kernel
theorem dX12_valueOf_166 : decode cX12_valueOf 166 = .ok (.ifCond .eq 7, 3) := by decide +kernel
theorem dX12_valueOf_169 : decode cX12_valueOf 169 = .ok (.lconst 1, 1) := by decide +kernel
theorem dX12_valueOf_170 : decode cX12_valueOf 170 = .ok (.goto 4, 3) := by decide +kernel
theorem dX12_valueOf_173 : decode cX12_valueOf 173 = .ok (.lconst 0, 1) := by decide +kernel
theorem dX12_valueOf_174 : decode cX12_valueOf 174 = .ok (.lreturn, 1) := by decide +kernel
theorem dX12_valueOf_175 : decode cX12_valueOf 175 = .ok (.lload_n 2, 1) := by decide +kernel
theorem dX12_valueOf_176 : decode cX12_valueOf 176 = .ok (.lconst 0, 1) := by decide +kernel
theorem dX12_valueOf_177 : decode cX12_valueOf 177 = .ok (.lcmp, 1) := by decide +kernel
theorem dX12_valueOf_178 : decode cX12_valueOf 178 = .ok (.ifCond .ne 10, 3) := by decide +kernel
theorem dX12_valueOf_181 : decode cX12_valueOf 181 = .ok (.lload 4, 2) := by decide +kernel
theorem dX12_valueOf_183 : decode cX12_valueOf 183 = .ok (.lconst 0, 1) := by decide +kernel
theorem dX12_valueOf_184 : decode cX12_valueOf 184 = .ok (.lcmp, 1) := by decide +kernel
theorem dX12_valueOf_185 : decode cX12_valueOf 185 = .ok (.ifCond .eq 7, 3) := by decide +kernel
theorem dX12_valueOf_188 : decode cX12_valueOf 188 = .ok (.lconst 1, 1) := by decide +kernel
theorem dX12_valueOf_189 : decode cX12_valueOf 189 = .ok (.goto 4, 3) := by decide +kernel
theorem dX12_valueOf_192 : decode cX12_valueOf 192 = .ok (.lconst 0, 1) := by decide +kernel
theorem dX12_valueOf_193 : decode cX12_valueOf 193 = .ok (.lreturn, 1) := by decide +kernel
theorem dX12_valueOf_194 : decode cX12_valueOf 194 = .ok (.aload_n 0, 1) := by decide +kernel
theorem dX12_valueOf_195 : decode cX12_valueOf 195 = .ok (.lload_n 2, 1) := by decide +kernel
theorem dX12_valueOf_196 : decode cX12_valueOf 196 = .ok (.lload 4, 2) := by decide +kernel
theorem dX12_valueOf_198 : decode cX12_valueOf 198 = .ok (.ladd, 1) := by decide +kernel
theorem dX12_valueOf_199 : decode cX12_valueOf 199 = .ok (.invokevirtual 354, 3) := by decide +kernel
theorem dX12_valueOf_202 : decode cX12_valueOf 202 = .ok (.lreturn, 1) := by decide +kernel
theorem dX12_valueOf_203 : decode cX12_valueOf 203 = .ok (.aload_n 0, 1) := by decide +kernel
theorem dX12_valueOf_204 : decode cX12_valueOf 204 = .ok (.lload_n 2, 1) := by decide +kernel
theorem dX12_valueOf_205 : decode cX12_valueOf 205 = .ok (.lload 4, 2) := by decide +kernel
theorem dX12_valueOf_207 : decode cX12_valueOf 207 = .ok (.lsub, 1) := by decide +kernel
theorem dX12_valueOf_208 : decode cX12_valueOf 208 = .ok (.invokevirtual 354, 3) := by decide +kernel
theorem dX12_valueOf_211 : decode cX12_valueOf 211 = .ok (.lreturn, 1) := by decide +kernel
theorem dX12_valueOf_212 : decode cX12_valueOf 212 = .ok (.aload_n 0, 1) := by decide +kernel
theorem dX12_valueOf_213 : decode cX12_valueOf 213 = .ok (.lload_n 2, 1) := by decide +kernel
theorem dX12_valueOf_214 : decode cX12_valueOf 214 = .ok (.lload 4, 2) := by decide +kernel
theorem dX12_valueOf_216 : decode cX12_valueOf 216 = .ok (.invokevirtual 358, 3) := by decide +kernel
theorem dX12_valueOf_219 : decode cX12_valueOf 219 = .ok (.lreturn, 1) := by decide +kernel
theorem dX12_valueOf_220 : decode cX12_valueOf 220 = .ok (.aload_n 0, 1) := by decide +kernel
theorem dX12_valueOf_221 : decode cX12_valueOf 221 = .ok (.aload_n 0, 1) := by decide +kernel
theorem dX12_valueOf_222 : decode cX12_valueOf 222 = .ok (.getfield 347, 3) := by decide +kernel
theorem dX12_valueOf_225 : decode cX12_valueOf 225 = .ok (.ifCond .ne 10, 3) := by decide +kernel
theorem dX12_valueOf_228 : decode cX12_valueOf 228 = .ok (.lload 4, 2) := by decide +kernel
theorem dX12_valueOf_230 : decode cX12_valueOf 230 = .ok (.lconst 0, 1) := by decide +kernel
theorem dX12_valueOf_231 : decode cX12_valueOf 231 = .ok (.lcmp, 1) := by decide +kernel
theorem dX12_valueOf_232 : decode cX12_valueOf 232 = .ok (.ifCond .ne 7, 3) := by decide +kernel
theorem dX12_valueOf_235 : decode cX12_valueOf 235 = .ok (.iconst 1, 1) := by decide +kernel
theorem dX12_valueOf_236 : decode cX12_valueOf 236 = .ok (.goto 4, 3) := by decide +kernel
theorem dX12_valueOf_239 : decode cX12_valueOf 239 = .ok (.iconst 0, 1) := by decide +kernel
theorem dX12_valueOf_240 : decode cX12_valueOf 240 = .ok (.putfield 347, 3) := by decide +kernel
theorem dX12_valueOf_243 : decode cX12_valueOf 243 = .ok (.aload_n 0, 1) := by decide +kernel
theorem dX12_valueOf_244 : decode cX12_valueOf 244 = .ok (.getfield 347, 3) := by decide +kernel
theorem dX12_valueOf_247 : decode cX12_valueOf 247 = .ok (.ifCond .eq 7, 3) := by decide +kernel
theorem dX12_valueOf_250 : decode cX12_valueOf 250 = .ok (.lconst 0, 1) := by decide +kernel
theorem dX12_valueOf_251 : decode cX12_valueOf 251 = .ok (.goto 7, 3) := by decide +kernel
theorem dX12_valueOf_254 : decode cX12_valueOf 254 = .ok (.lload_n 2, 1) := by decide +kernel
theorem dX12_valueOf_255 : decode cX12_valueOf 255 = .ok (.lload 4, 2) := by decide +kernel
theorem dX12_valueOf_257 : decode cX12_valueOf 257 = .ok (.ldiv, 1) := by decide +kernel
theorem dX12_valueOf_258 : decode cX12_valueOf 258 = .ok (.lreturn, 1) := by decide +kernel
theorem dX12_valueOf_259 : decode cX12_valueOf 259 = .ok (.aload_n 0, 1) := by decide +kernel
theorem dX12_valueOf_260 : decode cX12_valueOf 260 = .ok (.getfield 66, 3) := by decide +kernel
theorem dX12_valueOf_263 : decode cX12_valueOf 263 = .ok (.iload_n 1, 1) := by decide +kernel
theorem dX12_valueOf_264 : decode cX12_valueOf 264 = .ok (.iaload, 1) := by decide +kernel
theorem dX12_valueOf_265 : decode cX12_valueOf 265 = .ok (.lload_n 2, 1) := by decide +kernel
theorem dX12_valueOf_266 : decode cX12_valueOf 266 = .ok (.lload 4, 2) := by decide +kernel
theorem dX12_valueOf_268 : decode cX12_valueOf 268 = .ok (.invokestatic 362, 3) := by decide +kernel
theorem dX12_valueOf_271 : decode cX12_valueOf 271 = .ok (.ifCond .eq 7, 3) := by decide +kernel
theorem dX12_valueOf_274 : decode cX12_valueOf 274 = .ok (.lconst 1, 1) := by decide +kernel
theorem dX12_valueOf_275 : decode cX12_valueOf 275 = .ok (.goto 4, 3) := by decide +kernel
theorem dX12_valueOf_278 : decode cX12_valueOf 278 = .ok (.lconst 0, 1) := by decide +kernel
theorem dX12_valueOf_279 : decode cX12_valueOf 279 = .ok (.lreturn, 1) := by decide +kernel
theorem dX12_lawOf_0 : decode cX12_lawOf 0 = .ok (.aload_n 0, 1) := by decide +kernel
theorem dX12_lawOf_1 : decode cX12_lawOf 1 = .ok (.iconst 0, 1) := by decide +kernel
theorem dX12_lawOf_2 : decode cX12_lawOf 2 = .ok (.putfield 347, 3) := by decide +kernel
theorem dX12_lawOf_5 : decode cX12_lawOf 5 = .ok (.aload_n 0, 1) := by decide +kernel
theorem dX12_lawOf_6 : decode cX12_lawOf 6 = .ok (.getfield 60, 3) := by decide +kernel
theorem dX12_lawOf_9 : decode cX12_lawOf 9 = .ok (.iload_n 1, 1) := by decide +kernel
theorem dX12_lawOf_10 : decode cX12_lawOf 10 = .ok (.iaload, 1) := by decide +kernel
theorem dX12_lawOf_11 : decode cX12_lawOf 11 = .ok (.istore_n 2, 1) := by decide +kernel
theorem dX12_lawOf_12 : decode cX12_lawOf 12 = .ok (.iload_n 2, 1) := by decide +kernel
theorem dX12_lawOf_13 : decode cX12_lawOf 13 = .ok (.aload_n 0, 1) := by decide +kernel
theorem dX12_lawOf_14 : decode cX12_lawOf 14 = .ok (.getfield 63, 3) := by decide +kernel
theorem dX12_lawOf_17 : decode cX12_lawOf 17 = .ok (.iload_n 1, 1) := by decide +kernel
theorem dX12_lawOf_18 : decode cX12_lawOf 18 = .ok (.iaload, 1) := by decide +kernel
theorem dX12_lawOf_19 : decode cX12_lawOf 19 = .ok (.if_icmp .ge 20, 3) := by decide +kernel
theorem dX12_lawOf_22 : decode cX12_lawOf 22 = .ok (.aload_n 0, 1) := by decide +kernel
theorem dX12_lawOf_23 : decode cX12_lawOf 23 = .ok (.getfield 85, 3) := by decide +kernel
theorem dX12_lawOf_26 : decode cX12_lawOf 26 = .ok (.iload_n 2, 1) := by decide +kernel
theorem dX12_lawOf_27 : decode cX12_lawOf 27 = .ok (.aload_n 0, 1) := by decide +kernel
theorem dX12_lawOf_28 : decode cX12_lawOf 28 = .ok (.iload_n 2, 1) := by decide +kernel
theorem dX12_lawOf_29 : decode cX12_lawOf 29 = .ok (.invokevirtual 385, 3) := by decide +kernel
theorem dX12_lawOf_32 : decode cX12_lawOf 32 = .ok (.lastore, 1) := by decide +kernel
theorem dX12_lawOf_33 : decode cX12_lawOf 33 = .ok (.iinc 2 1, 3) := by decide +kernel
theorem dX12_lawOf_36 : decode cX12_lawOf 36 = .ok (.goto (-24), 3) := by decide +kernel
theorem dX12_lawOf_39 : decode cX12_lawOf 39 = .ok (.aload_n 0, 1) := by decide +kernel
theorem dX12_lawOf_40 : decode cX12_lawOf 40 = .ok (.getfield 347, 3) := by decide +kernel
theorem dX12_lawOf_43 : decode cX12_lawOf 43 = .ok (.ifCond .eq 7, 3) := by decide +kernel
theorem dX12_lawOf_46 : decode cX12_lawOf 46 = .ok (.lconst 0, 1) := by decide +kernel
theorem dX12_lawOf_47 : decode cX12_lawOf 47 = .ok (.goto 16, 3) := by decide +kernel
theorem dX12_lawOf_50 : decode cX12_lawOf 50 = .ok (.aload_n 0, 1) := by decide +kernel
theorem dX12_lawOf_51 : decode cX12_lawOf 51 = .ok (.getfield 85, 3) := by decide +kernel
theorem dX12_lawOf_54 : decode cX12_lawOf 54 = .ok (.aload_n 0, 1) := by decide +kernel
theorem dX12_lawOf_55 : decode cX12_lawOf 55 = .ok (.getfield 63, 3) := by decide +kernel
theorem dX12_lawOf_58 : decode cX12_lawOf 58 = .ok (.iload_n 1, 1) := by decide +kernel
theorem dX12_lawOf_59 : decode cX12_lawOf 59 = .ok (.iaload, 1) := by decide +kernel
theorem dX12_lawOf_60 : decode cX12_lawOf 60 = .ok (.iconst 1, 1) := by decide +kernel
theorem dX12_lawOf_61 : decode cX12_lawOf 61 = .ok (.isub, 1) := by decide +kernel
theorem dX12_lawOf_62 : decode cX12_lawOf 62 = .ok (.laload, 1) := by decide +kernel
theorem dX12_lawOf_63 : decode cX12_lawOf 63 = .ok (.lreturn, 1) := by decide +kernel
theorem dX12_boundLaw_0 : decode cX12_boundLaw 0 = .ok (.aload_n 0, 1) := by decide +kernel
theorem dX12_boundLaw_1 : decode cX12_boundLaw 1 = .ok (.getfield 57, 3) := by decide +kernel
theorem dX12_boundLaw_4 : decode cX12_boundLaw 4 = .ok (.iload_n 1, 1) := by decide +kernel
theorem dX12_boundLaw_5 : decode cX12_boundLaw 5 = .ok (.baload, 1) := by decide +kernel
theorem dX12_boundLaw_6 : decode cX12_boundLaw 6 = .ok (.ifCond .ne 5, 3) := by decide +kernel
theorem dX12_boundLaw_9 : decode cX12_boundLaw 9 = .ok (.iload_n 2, 1) := by decide +kernel
theorem dX12_boundLaw_10 : decode cX12_boundLaw 10 = .ok (.ireturn, 1) := by decide +kernel
theorem dX12_boundLaw_11 : decode cX12_boundLaw 11 = .ok (.aload_n 0, 1) := by decide +kernel
theorem dX12_boundLaw_12 : decode cX12_boundLaw 12 = .ok (.iload_n 1, 1) := by decide +kernel
theorem dX12_boundLaw_13 : decode cX12_boundLaw 13 = .ok (.invokevirtual 389, 3) := by decide +kernel
theorem dX12_boundLaw_16 : decode cX12_boundLaw 16 = .ok (.lstore 5, 2) := by decide +kernel
theorem dX12_boundLaw_18 : decode cX12_boundLaw 18 = .ok (.aload_n 0, 1) := by decide +kernel
theorem dX12_boundLaw_19 : decode cX12_boundLaw 19 = .ok (.getfield 347, 3) := by decide +kernel
theorem dX12_boundLaw_22 : decode cX12_boundLaw 22 = .ok (.ifCond .eq 5, 3) := by decide +kernel
theorem dX12_boundLaw_25 : decode cX12_boundLaw 25 = .ok (.iload_n 2, 1) := by decide +kernel
theorem dX12_boundLaw_26 : decode cX12_boundLaw 26 = .ok (.ireturn, 1) := by decide +kernel
theorem dX12_boundLaw_27 : decode cX12_boundLaw 27 = .ok (.lload 5, 2) := by decide +kernel
theorem dX12_boundLaw_29 : decode cX12_boundLaw 29 = .ok (.iload_n 3, 1) := by decide +kernel
theorem dX12_boundLaw_30 : decode cX12_boundLaw 30 = .ok (.i2l, 1) := by decide +kernel
theorem dX12_boundLaw_31 : decode cX12_boundLaw 31 = .ok (.lcmp, 1) := by decide +kernel
theorem dX12_boundLaw_32 : decode cX12_boundLaw 32 = .ok (.ifCond .ge 5, 3) := by decide +kernel
theorem dX12_boundLaw_35 : decode cX12_boundLaw 35 = .ok (.iload_n 3, 1) := by decide +kernel
theorem dX12_boundLaw_36 : decode cX12_boundLaw 36 = .ok (.ireturn, 1) := by decide +kernel
theorem dX12_boundLaw_37 : decode cX12_boundLaw 37 = .ok (.lload 5, 2) := by decide +kernel
theorem dX12_boundLaw_39 : decode cX12_boundLaw 39 = .ok (.iload 4, 2) := by decide +kernel
theorem dX12_boundLaw_41 : decode cX12_boundLaw 41 = .ok (.i2l, 1) := by decide +kernel
theorem dX12_boundLaw_42 : decode cX12_boundLaw 42 = .ok (.lcmp, 1) := by decide +kernel
theorem dX12_boundLaw_43 : decode cX12_boundLaw 43 = .ok (.ifCond .le 8, 3) := by decide +kernel
theorem dX12_boundLaw_46 : decode cX12_boundLaw 46 = .ok (.iload 4, 2) := by decide +kernel
theorem dX12_boundLaw_48 : decode cX12_boundLaw 48 = .ok (.goto 6, 3) := by decide +kernel
theorem dX12_boundLaw_51 : decode cX12_boundLaw 51 = .ok (.lload 5, 2) := by decide +kernel
theorem dX12_boundLaw_53 : decode cX12_boundLaw 53 = .ok (.l2i, 1) := by decide +kernel
theorem dX12_boundLaw_54 : decode cX12_boundLaw 54 = .ok (.ireturn, 1) := by decide +kernel
theorem dX12_peakAt_0 : decode cX12_peakAt 0 = .ok (.aload_n 0, 1) := by decide +kernel
theorem dX12_peakAt_1 : decode cX12_peakAt 1 = .ok (.iconst 0, 1) := by decide +kernel
theorem dX12_peakAt_2 : decode cX12_peakAt 2 = .ok (.iconst 0, 1) := by decide +kernel
theorem dX12_peakAt_3 : decode cX12_peakAt 3 = .ok (.iconst 0, 1) := by decide +kernel
theorem dX12_peakAt_4 : decode cX12_peakAt 4 = .ok (.iconst (-1), 1) := by decide +kernel
theorem dX12_peakAt_5 : decode cX12_peakAt 5 = .ok (.iload_n 1, 1) := by decide +kernel
theorem dX12_peakAt_6 : decode cX12_peakAt 6 = .ok (.invokevirtual 392, 3) := by decide +kernel
theorem dX12_peakAt_9 : decode cX12_peakAt 9 = .ok (.aload_n 0, 1) := by decide +kernel
theorem dX12_peakAt_10 : decode cX12_peakAt 10 = .ok (.getfield 24, 3) := by decide +kernel
theorem dX12_peakAt_13 : decode cX12_peakAt 13 = .ok (.iconst 0, 1) := by decide +kernel
theorem dX12_peakAt_14 : decode cX12_peakAt 14 = .ok (.iaload, 1) := by decide +kernel
theorem dX12_peakAt_15 : decode cX12_peakAt 15 = .ok (.aload_n 0, 1) := by decide +kernel
theorem dX12_peakAt_16 : decode cX12_peakAt 16 = .ok (.getfield 115, 3) := by decide +kernel
theorem dX12_peakAt_19 : decode cX12_peakAt 19 = .ok (.iconst 2, 1) := by decide +kernel
theorem dX12_peakAt_20 : decode cX12_peakAt 20 = .ok (.if_icmp .ne 7, 3) := by decide +kernel
theorem dX12_peakAt_23 : decode cX12_peakAt 23 = .ok (.iconst 0, 1) := by decide +kernel
theorem dX12_peakAt_24 : decode cX12_peakAt 24 = .ok (.goto 13, 3) := by decide +kernel
theorem dX12_peakAt_27 : decode cX12_peakAt 27 = .ok (.aload_n 0, 1) := by decide +kernel
theorem dX12_peakAt_28 : decode cX12_peakAt 28 = .ok (.iconst 1, 1) := by decide +kernel
theorem dX12_peakAt_29 : decode cX12_peakAt 29 = .ok (.iconst 0, 1) := by decide +kernel
theorem dX12_peakAt_30 : decode cX12_peakAt 30 = .ok (.bipush (-8), 2) := by decide +kernel
theorem dX12_peakAt_32 : decode cX12_peakAt 32 = .ok (.bipush 8, 2) := by decide +kernel
theorem dX12_peakAt_34 : decode cX12_peakAt 34 = .ok (.invokevirtual 396, 3) := by decide +kernel
theorem dX12_peakAt_37 : decode cX12_peakAt 37 = .ok (.iadd, 1) := by decide +kernel
theorem dX12_peakAt_38 : decode cX12_peakAt 38 = .ok (.istore_n 2, 1) := by decide +kernel
theorem dX12_peakAt_39 : decode cX12_peakAt 39 = .ok (.aload_n 0, 1) := by decide +kernel
theorem dX12_peakAt_40 : decode cX12_peakAt 40 = .ok (.getfield 241, 3) := by decide +kernel
theorem dX12_peakAt_43 : decode cX12_peakAt 43 = .ok (.aload_n 0, 1) := by decide +kernel
theorem dX12_peakAt_44 : decode cX12_peakAt 44 = .ok (.getfield 24, 3) := by decide +kernel
theorem dX12_peakAt_47 : decode cX12_peakAt 47 = .ok (.iconst 1, 1) := by decide +kernel
theorem dX12_peakAt_48 : decode cX12_peakAt 48 = .ok (.iaload, 1) := by decide +kernel
theorem dX12_peakAt_49 : decode cX12_peakAt 49 = .ok (.imul, 1) := by decide +kernel
theorem dX12_peakAt_50 : decode cX12_peakAt 50 = .ok (.iload_n 2, 1) := by decide +kernel
theorem dX12_peakAt_51 : decode cX12_peakAt 51 = .ok (.ifCond .ge 7, 3) := by decide +kernel
theorem dX12_peakAt_54 : decode cX12_peakAt 54 = .ok (.iconst 0, 1) := by decide +kernel
theorem dX12_peakAt_55 : decode cX12_peakAt 55 = .ok (.goto 21, 3) := by decide +kernel
theorem dX12_peakAt_58 : decode cX12_peakAt 58 = .ok (.iload_n 2, 1) := by decide +kernel
theorem dX12_peakAt_59 : decode cX12_peakAt 59 = .ok (.aload_n 0, 1) := by decide +kernel
theorem dX12_peakAt_60 : decode cX12_peakAt 60 = .ok (.getfield 241, 3) := by decide +kernel
theorem dX12_peakAt_63 : decode cX12_peakAt 63 = .ok (.if_icmp .lt 12, 3) := by decide +kernel
theorem dX12_peakAt_66 : decode cX12_peakAt 66 = .ok (.aload_n 0, 1) := by decide +kernel
theorem dX12_peakAt_67 : decode cX12_peakAt 67 = .ok (.getfield 241, 3) := by decide +kernel
theorem dX12_peakAt_70 : decode cX12_peakAt 70 = .ok (.iconst 1, 1) := by decide +kernel
theorem dX12_peakAt_71 : decode cX12_peakAt 71 = .ok (.isub, 1) := by decide +kernel
theorem dX12_peakAt_72 : decode cX12_peakAt 72 = .ok (.goto 4, 3) := by decide +kernel
theorem dX12_peakAt_75 : decode cX12_peakAt 75 = .ok (.iload_n 2, 1) := by decide +kernel
theorem dX12_peakAt_76 : decode cX12_peakAt 76 = .ok (.iadd, 1) := by decide +kernel
theorem dX12_peakAt_77 : decode cX12_peakAt 77 = .ok (.ireturn, 1) := by decide +kernel
theorem dX12_far_0 : decode cX12_far 0 = .ok (.iload_n 1, 1) := by decide +kernel
theorem dX12_far_1 : decode cX12_far 1 = .ok (.aload_n 0, 1) := by decide +kernel
theorem dX12_far_2 : decode cX12_far 2 = .ok (.getfield 241, 3) := by decide +kernel
theorem dX12_far_5 : decode cX12_far 5 = .ok (.irem, 1) := by decide +kernel
theorem dX12_far_6 : decode cX12_far 6 = .ok (.iload_n 2, 1) := by decide +kernel
theorem dX12_far_7 : decode cX12_far 7 = .ok (.aload_n 0, 1) := by decide +kernel
theorem dX12_far_8 : decode cX12_far 8 = .ok (.getfield 241, 3) := by decide +kernel
theorem dX12_far_11 : decode cX12_far 11 = .ok (.irem, 1) := by decide +kernel
theorem dX12_far_12 : decode cX12_far 12 = .ok (.isub, 1) := by decide +kernel
theorem dX12_far_13 : decode cX12_far 13 = .ok (.istore_n 3, 1) := by decide +kernel
theorem dX12_far_14 : decode cX12_far 14 = .ok (.iload_n 1, 1) := by decide +kernel
theorem dX12_far_15 : decode cX12_far 15 = .ok (.aload_n 0, 1) := by decide +kernel
theorem dX12_far_16 : decode cX12_far 16 = .ok (.getfield 241, 3) := by decide +kernel
theorem dX12_far_19 : decode cX12_far 19 = .ok (.idiv, 1) := by decide +kernel
theorem dX12_far_20 : decode cX12_far 20 = .ok (.iload_n 2, 1) := by decide +kernel
theorem dX12_far_21 : decode cX12_far 21 = .ok (.aload_n 0, 1) := by decide +kernel
theorem dX12_far_22 : decode cX12_far 22 = .ok (.getfield 241, 3) := by decide +kernel
theorem dX12_far_25 : decode cX12_far 25 = .ok (.idiv, 1) := by decide +kernel
theorem dX12_far_26 : decode cX12_far 26 = .ok (.isub, 1) := by decide +kernel
theorem dX12_far_27 : decode cX12_far 27 = .ok (.istore 4, 2) := by decide +kernel
theorem dX12_far_29 : decode cX12_far 29 = .ok (.iload_n 3, 1) := by decide +kernel
theorem dX12_far_30 : decode cX12_far 30 = .ok (.ifCond .ge 8, 3) := by decide +kernel
theorem dX12_far_33 : decode cX12_far 33 = .ok (.iload_n 3, 1) := by decide +kernel
theorem dX12_far_34 : decode cX12_far 34 = .ok (.ineg, 1) := by decide +kernel
theorem dX12_far_35 : decode cX12_far 35 = .ok (.goto 4, 3) := by decide +kernel
theorem dX12_far_38 : decode cX12_far 38 = .ok (.iload_n 3, 1) := by decide +kernel
theorem dX12_far_39 : decode cX12_far 39 = .ok (.iload 4, 2) := by decide +kernel
theorem dX12_far_41 : decode cX12_far 41 = .ok (.ifCond .ge 9, 3) := by decide +kernel
theorem dX12_far_44 : decode cX12_far 44 = .ok (.iload 4, 2) := by decide +kernel
theorem dX12_far_46 : decode cX12_far 46 = .ok (.ineg, 1) := by decide +kernel
theorem dX12_far_47 : decode cX12_far 47 = .ok (.goto 5, 3) := by decide +kernel
theorem dX12_far_50 : decode cX12_far 50 = .ok (.iload 4, 2) := by decide +kernel
theorem dX12_far_52 : decode cX12_far 52 = .ok (.iadd, 1) := by decide +kernel
theorem dX12_far_53 : decode cX12_far 53 = .ok (.ireturn, 1) := by decide +kernel
