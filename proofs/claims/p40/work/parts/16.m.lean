theorem zd_dX11_plan_0 : sg (cX11_plan.data.toList.drop 0) [[42], [27], [182, 0, 115], [154, 0, 5], [2], [172], [42], [180, 0, 74], [42], [180, 0, 37], [42], [180, 0, 47], [27], [182, 1, 6], [42], [180, 0, 74], [180, 1, 10], [172]] = true := by decide +kernel
theorem dX11_plan_0 : decode cX11_plan 0 = .ok (.aload_n 0, 1) := dc_42 (sg_at zd_dX11_plan_0 0 rfl rfl)
theorem dX11_plan_1 : decode cX11_plan 1 = .ok (.iload_n 1, 1) := dc_27 (sg_at zd_dX11_plan_0 1 rfl rfl)
theorem dX11_plan_2 : decode cX11_plan 2 = .ok (.invokevirtual 115, 3) := dc_182 (sg_at zd_dX11_plan_0 2 rfl rfl) rfl
theorem dX11_plan_5 : decode cX11_plan 5 = .ok (.ifCond .ne 5, 3) := dc_154 (sg_at zd_dX11_plan_0 3 rfl rfl) rfl
theorem dX11_plan_8 : decode cX11_plan 8 = .ok (.iconst (-1), 1) := dc_2 (sg_at zd_dX11_plan_0 4 rfl rfl)
theorem dX11_plan_9 : decode cX11_plan 9 = .ok (.ireturn, 1) := dc_172 (sg_at zd_dX11_plan_0 5 rfl rfl)
theorem dX11_plan_10 : decode cX11_plan 10 = .ok (.aload_n 0, 1) := dc_42 (sg_at zd_dX11_plan_0 6 rfl rfl)
theorem dX11_plan_11 : decode cX11_plan 11 = .ok (.getfield 74, 3) := dc_180 (sg_at zd_dX11_plan_0 7 rfl rfl) rfl
theorem dX11_plan_14 : decode cX11_plan 14 = .ok (.aload_n 0, 1) := dc_42 (sg_at zd_dX11_plan_0 8 rfl rfl)
theorem dX11_plan_15 : decode cX11_plan 15 = .ok (.getfield 37, 3) := dc_180 (sg_at zd_dX11_plan_0 9 rfl rfl) rfl
theorem dX11_plan_18 : decode cX11_plan 18 = .ok (.aload_n 0, 1) := dc_42 (sg_at zd_dX11_plan_0 10 rfl rfl)
theorem dX11_plan_19 : decode cX11_plan 19 = .ok (.getfield 47, 3) := dc_180 (sg_at zd_dX11_plan_0 11 rfl rfl) rfl
theorem dX11_plan_22 : decode cX11_plan 22 = .ok (.iload_n 1, 1) := dc_27 (sg_at zd_dX11_plan_0 12 rfl rfl)
theorem dX11_plan_23 : decode cX11_plan 23 = .ok (.invokevirtual 262, 3) := dc_182 (sg_at zd_dX11_plan_0 13 rfl rfl) rfl
theorem dX11_plan_26 : decode cX11_plan 26 = .ok (.aload_n 0, 1) := dc_42 (sg_at zd_dX11_plan_0 14 rfl rfl)
theorem dX11_plan_27 : decode cX11_plan 27 = .ok (.getfield 74, 3) := dc_180 (sg_at zd_dX11_plan_0 15 rfl rfl) rfl
theorem dX11_plan_30 : decode cX11_plan 30 = .ok (.getfield 266, 3) := dc_180 (sg_at zd_dX11_plan_0 16 rfl rfl) rfl
theorem dX11_plan_33 : decode cX11_plan 33 = .ok (.ireturn, 1) := dc_172 (sg_at zd_dX11_plan_0 17 rfl rfl)
theorem zd_dX11_planned_0 : sg (cX11_planned.data.toList.drop 0) [[42], [27], [182, 0, 115], [153, 0, 7], [28], [156, 0, 5], [2], [172], [42], [180, 0, 74], [42], [180, 0, 37], [42], [180, 0, 47], [27], [182, 1, 6], [28], [42], [180, 0, 74], [180, 1, 13]] = true := by decide +kernel
theorem dX11_planned_0 : decode cX11_planned 0 = .ok (.aload_n 0, 1) := dc_42 (sg_at zd_dX11_planned_0 0 rfl rfl)
theorem dX11_planned_1 : decode cX11_planned 1 = .ok (.iload_n 1, 1) := dc_27 (sg_at zd_dX11_planned_0 1 rfl rfl)
theorem dX11_planned_2 : decode cX11_planned 2 = .ok (.invokevirtual 115, 3) := dc_182 (sg_at zd_dX11_planned_0 2 rfl rfl) rfl
theorem dX11_planned_5 : decode cX11_planned 5 = .ok (.ifCond .eq 7, 3) := dc_153 (sg_at zd_dX11_planned_0 3 rfl rfl) rfl
theorem dX11_planned_8 : decode cX11_planned 8 = .ok (.iload_n 2, 1) := dc_28 (sg_at zd_dX11_planned_0 4 rfl rfl)
theorem dX11_planned_9 : decode cX11_planned 9 = .ok (.ifCond .ge 5, 3) := dc_156 (sg_at zd_dX11_planned_0 5 rfl rfl) rfl
theorem dX11_planned_12 : decode cX11_planned 12 = .ok (.iconst (-1), 1) := dc_2 (sg_at zd_dX11_planned_0 6 rfl rfl)
theorem dX11_planned_13 : decode cX11_planned 13 = .ok (.ireturn, 1) := dc_172 (sg_at zd_dX11_planned_0 7 rfl rfl)
theorem dX11_planned_14 : decode cX11_planned 14 = .ok (.aload_n 0, 1) := dc_42 (sg_at zd_dX11_planned_0 8 rfl rfl)
theorem dX11_planned_15 : decode cX11_planned 15 = .ok (.getfield 74, 3) := dc_180 (sg_at zd_dX11_planned_0 9 rfl rfl) rfl
theorem dX11_planned_18 : decode cX11_planned 18 = .ok (.aload_n 0, 1) := dc_42 (sg_at zd_dX11_planned_0 10 rfl rfl)
theorem dX11_planned_19 : decode cX11_planned 19 = .ok (.getfield 37, 3) := dc_180 (sg_at zd_dX11_planned_0 11 rfl rfl) rfl
theorem dX11_planned_22 : decode cX11_planned 22 = .ok (.aload_n 0, 1) := dc_42 (sg_at zd_dX11_planned_0 12 rfl rfl)
theorem dX11_planned_23 : decode cX11_planned 23 = .ok (.getfield 47, 3) := dc_180 (sg_at zd_dX11_planned_0 13 rfl rfl) rfl
theorem dX11_planned_26 : decode cX11_planned 26 = .ok (.iload_n 1, 1) := dc_27 (sg_at zd_dX11_planned_0 14 rfl rfl)
theorem dX11_planned_27 : decode cX11_planned 27 = .ok (.invokevirtual 262, 3) := dc_182 (sg_at zd_dX11_planned_0 15 rfl rfl) rfl
theorem dX11_planned_30 : decode cX11_planned 30 = .ok (.iload_n 2, 1) := dc_28 (sg_at zd_dX11_planned_0 16 rfl rfl)
theorem dX11_planned_31 : decode cX11_planned 31 = .ok (.aload_n 0, 1) := dc_42 (sg_at zd_dX11_planned_0 17 rfl rfl)
theorem dX11_planned_32 : decode cX11_planned 32 = .ok (.getfield 74, 3) := dc_180 (sg_at zd_dX11_planned_0 18 rfl rfl) rfl
theorem dX11_planned_35 : decode cX11_planned 35 = .ok (.getfield 269, 3) := dc_180 (sg_at zd_dX11_planned_0 19 rfl rfl) rfl
theorem zd_dX11_planned_38 : sg (cX11_planned.data.toList.drop 38) [[162, 0, 15], [42], [180, 0, 74], [180, 1, 16], [28], [46], [167, 0, 5], [16, 254], [172]] = true := by decide +kernel
theorem dX11_planned_38 : decode cX11_planned 38 = .ok (.if_icmp .ge 15, 3) := dc_162 (sg_at zd_dX11_planned_38 0 rfl rfl) rfl
theorem dX11_planned_41 : decode cX11_planned 41 = .ok (.aload_n 0, 1) := dc_42 (sg_at zd_dX11_planned_38 1 rfl rfl)
theorem dX11_planned_42 : decode cX11_planned 42 = .ok (.getfield 74, 3) := dc_180 (sg_at zd_dX11_planned_38 2 rfl rfl) rfl
theorem dX11_planned_45 : decode cX11_planned 45 = .ok (.getfield 272, 3) := dc_180 (sg_at zd_dX11_planned_38 3 rfl rfl) rfl
theorem dX11_planned_48 : decode cX11_planned 48 = .ok (.iload_n 2, 1) := dc_28 (sg_at zd_dX11_planned_38 4 rfl rfl)
theorem dX11_planned_49 : decode cX11_planned 49 = .ok (.iaload, 1) := dc_46 (sg_at zd_dX11_planned_38 5 rfl rfl)
theorem dX11_planned_50 : decode cX11_planned 50 = .ok (.goto 5, 3) := dc_167 (sg_at zd_dX11_planned_38 6 rfl rfl) rfl
theorem dX11_planned_53 : decode cX11_planned 53 = .ok (.bipush (-2), 2) := dc_16 (sg_at zd_dX11_planned_38 7 rfl rfl) rfl
theorem dX11_planned_55 : decode cX11_planned 55 = .ok (.ireturn, 1) := dc_172 (sg_at zd_dX11_planned_38 8 rfl rfl)
theorem zd_dX11_rank_0 : sg (cX11_rank.data.toList.drop 0) [[27], [4], [161, 0, 18], [27], [16, 7], [163, 0, 12], [28], [155, 0, 8], [28], [4], [164, 0, 5], [2], [172], [3], [62], [3], [54, 4], [21, 4], [42], [180, 0, 18]] = true := by decide +kernel
theorem dX11_rank_0 : decode cX11_rank 0 = .ok (.iload_n 1, 1) := dc_27 (sg_at zd_dX11_rank_0 0 rfl rfl)
theorem dX11_rank_1 : decode cX11_rank 1 = .ok (.iconst 1, 1) := dc_4 (sg_at zd_dX11_rank_0 1 rfl rfl)
theorem dX11_rank_2 : decode cX11_rank 2 = .ok (.if_icmp .lt 18, 3) := dc_161 (sg_at zd_dX11_rank_0 2 rfl rfl) rfl
theorem dX11_rank_5 : decode cX11_rank 5 = .ok (.iload_n 1, 1) := dc_27 (sg_at zd_dX11_rank_0 3 rfl rfl)
theorem dX11_rank_6 : decode cX11_rank 6 = .ok (.bipush 7, 2) := dc_16 (sg_at zd_dX11_rank_0 4 rfl rfl) rfl
theorem dX11_rank_8 : decode cX11_rank 8 = .ok (.if_icmp .gt 12, 3) := dc_163 (sg_at zd_dX11_rank_0 5 rfl rfl) rfl
theorem dX11_rank_11 : decode cX11_rank 11 = .ok (.iload_n 2, 1) := dc_28 (sg_at zd_dX11_rank_0 6 rfl rfl)
theorem dX11_rank_12 : decode cX11_rank 12 = .ok (.ifCond .lt 8, 3) := dc_155 (sg_at zd_dX11_rank_0 7 rfl rfl) rfl
theorem dX11_rank_15 : decode cX11_rank 15 = .ok (.iload_n 2, 1) := dc_28 (sg_at zd_dX11_rank_0 8 rfl rfl)
theorem dX11_rank_16 : decode cX11_rank 16 = .ok (.iconst 1, 1) := dc_4 (sg_at zd_dX11_rank_0 9 rfl rfl)
theorem dX11_rank_17 : decode cX11_rank 17 = .ok (.if_icmp .le 5, 3) := dc_164 (sg_at zd_dX11_rank_0 10 rfl rfl) rfl
theorem dX11_rank_20 : decode cX11_rank 20 = .ok (.iconst (-1), 1) := dc_2 (sg_at zd_dX11_rank_0 11 rfl rfl)
theorem dX11_rank_21 : decode cX11_rank 21 = .ok (.ireturn, 1) := dc_172 (sg_at zd_dX11_rank_0 12 rfl rfl)
theorem dX11_rank_22 : decode cX11_rank 22 = .ok (.iconst 0, 1) := dc_3 (sg_at zd_dX11_rank_0 13 rfl rfl)
theorem dX11_rank_23 : decode cX11_rank 23 = .ok (.istore_n 3, 1) := dc_62 (sg_at zd_dX11_rank_0 14 rfl rfl)
theorem dX11_rank_24 : decode cX11_rank 24 = .ok (.iconst 0, 1) := dc_3 (sg_at zd_dX11_rank_0 15 rfl rfl)
theorem dX11_rank_25 : decode cX11_rank 25 = .ok (.istore 4, 2) := dc_54 (sg_at zd_dX11_rank_0 16 rfl rfl)
theorem dX11_rank_27 : decode cX11_rank 27 = .ok (.iload 4, 2) := dc_21 (sg_at zd_dX11_rank_0 17 rfl rfl)
theorem dX11_rank_29 : decode cX11_rank 29 = .ok (.aload_n 0, 1) := dc_42 (sg_at zd_dX11_rank_0 18 rfl rfl)
theorem dX11_rank_30 : decode cX11_rank 30 = .ok (.getfield 18, 3) := dc_180 (sg_at zd_dX11_rank_0 19 rfl rfl) rfl
theorem zd_dX11_rank_33 : sg (cX11_rank.data.toList.drop 33) [[180, 0, 150], [180, 0, 253], [162, 0, 49], [42], [180, 0, 18], [180, 0, 150], [21, 4], [182, 1, 0], [27], [161, 0, 27], [28], [4], [159, 0, 19], [42], [180, 0, 18], [180, 0, 150], [21, 4], [27], [182, 1, 3], [153, 0, 6]] = true := by decide +kernel
theorem dX11_rank_33 : decode cX11_rank 33 = .ok (.getfield 150, 3) := dc_180 (sg_at zd_dX11_rank_33 0 rfl rfl) rfl
theorem dX11_rank_36 : decode cX11_rank 36 = .ok (.getfield 253, 3) := dc_180 (sg_at zd_dX11_rank_33 1 rfl rfl) rfl
theorem dX11_rank_39 : decode cX11_rank 39 = .ok (.if_icmp .ge 49, 3) := dc_162 (sg_at zd_dX11_rank_33 2 rfl rfl) rfl
theorem dX11_rank_42 : decode cX11_rank 42 = .ok (.aload_n 0, 1) := dc_42 (sg_at zd_dX11_rank_33 3 rfl rfl)
theorem dX11_rank_43 : decode cX11_rank 43 = .ok (.getfield 18, 3) := dc_180 (sg_at zd_dX11_rank_33 4 rfl rfl) rfl
theorem dX11_rank_46 : decode cX11_rank 46 = .ok (.getfield 150, 3) := dc_180 (sg_at zd_dX11_rank_33 5 rfl rfl) rfl
theorem dX11_rank_49 : decode cX11_rank 49 = .ok (.iload 4, 2) := dc_21 (sg_at zd_dX11_rank_33 6 rfl rfl)
theorem dX11_rank_51 : decode cX11_rank 51 = .ok (.invokevirtual 256, 3) := dc_182 (sg_at zd_dX11_rank_33 7 rfl rfl) rfl
theorem dX11_rank_54 : decode cX11_rank 54 = .ok (.iload_n 1, 1) := dc_27 (sg_at zd_dX11_rank_33 8 rfl rfl)
theorem dX11_rank_55 : decode cX11_rank 55 = .ok (.if_icmp .lt 27, 3) := dc_161 (sg_at zd_dX11_rank_33 9 rfl rfl) rfl
theorem dX11_rank_58 : decode cX11_rank 58 = .ok (.iload_n 2, 1) := dc_28 (sg_at zd_dX11_rank_33 10 rfl rfl)
theorem dX11_rank_59 : decode cX11_rank 59 = .ok (.iconst 1, 1) := dc_4 (sg_at zd_dX11_rank_33 11 rfl rfl)
theorem dX11_rank_60 : decode cX11_rank 60 = .ok (.if_icmp .eq 19, 3) := dc_159 (sg_at zd_dX11_rank_33 12 rfl rfl) rfl
theorem dX11_rank_63 : decode cX11_rank 63 = .ok (.aload_n 0, 1) := dc_42 (sg_at zd_dX11_rank_33 13 rfl rfl)
theorem dX11_rank_64 : decode cX11_rank 64 = .ok (.getfield 18, 3) := dc_180 (sg_at zd_dX11_rank_33 14 rfl rfl) rfl
theorem dX11_rank_67 : decode cX11_rank 67 = .ok (.getfield 150, 3) := dc_180 (sg_at zd_dX11_rank_33 15 rfl rfl) rfl
theorem dX11_rank_70 : decode cX11_rank 70 = .ok (.iload 4, 2) := dc_21 (sg_at zd_dX11_rank_33 16 rfl rfl)
theorem dX11_rank_72 : decode cX11_rank 72 = .ok (.iload_n 1, 1) := dc_27 (sg_at zd_dX11_rank_33 17 rfl rfl)
theorem dX11_rank_73 : decode cX11_rank 73 = .ok (.invokevirtual 259, 3) := dc_182 (sg_at zd_dX11_rank_33 18 rfl rfl) rfl
theorem dX11_rank_76 : decode cX11_rank 76 = .ok (.ifCond .eq 6, 3) := dc_153 (sg_at zd_dX11_rank_33 19 rfl rfl) rfl
theorem zd_dX11_rank_79 : sg (cX11_rank.data.toList.drop 79) [[132, 3, 1], [132, 4, 1], [167, 255, 198], [29], [172]] = true := by decide +kernel
theorem dX11_rank_79 : decode cX11_rank 79 = .ok (.iinc 3 1, 3) := dc_132 (sg_at zd_dX11_rank_79 0 rfl rfl) rfl
theorem dX11_rank_82 : decode cX11_rank 82 = .ok (.iinc 4 1, 3) := dc_132 (sg_at zd_dX11_rank_79 1 rfl rfl) rfl
theorem dX11_rank_85 : decode cX11_rank 85 = .ok (.goto (-58), 3) := dc_167 (sg_at zd_dX11_rank_79 2 rfl rfl) rfl
theorem dX11_rank_88 : decode cX11_rank 88 = .ok (.iload_n 3, 1) := dc_29 (sg_at zd_dX11_rank_79 3 rfl rfl)
theorem dX11_rank_89 : decode cX11_rank 89 = .ok (.ireturn, 1) := dc_172 (sg_at zd_dX11_rank_79 4 rfl rfl)
theorem zd_dX11_rest_0 : sg (cX11_rest.data.toList.drop 0) [[42], [27], [182, 0, 115], [153, 0, 20], [42], [28], [182, 0, 115], [153, 0, 12], [27], [28], [159, 0, 7], [29], [156, 0, 5], [2], [172], [42], [180, 0, 74], [42], [180, 0, 37], [42]] = true := by decide +kernel
theorem dX11_rest_0 : decode cX11_rest 0 = .ok (.aload_n 0, 1) := dc_42 (sg_at zd_dX11_rest_0 0 rfl rfl)
theorem dX11_rest_1 : decode cX11_rest 1 = .ok (.iload_n 1, 1) := dc_27 (sg_at zd_dX11_rest_0 1 rfl rfl)
theorem dX11_rest_2 : decode cX11_rest 2 = .ok (.invokevirtual 115, 3) := dc_182 (sg_at zd_dX11_rest_0 2 rfl rfl) rfl
theorem dX11_rest_5 : decode cX11_rest 5 = .ok (.ifCond .eq 20, 3) := dc_153 (sg_at zd_dX11_rest_0 3 rfl rfl) rfl
theorem dX11_rest_8 : decode cX11_rest 8 = .ok (.aload_n 0, 1) := dc_42 (sg_at zd_dX11_rest_0 4 rfl rfl)
theorem dX11_rest_9 : decode cX11_rest 9 = .ok (.iload_n 2, 1) := dc_28 (sg_at zd_dX11_rest_0 5 rfl rfl)
theorem dX11_rest_10 : decode cX11_rest 10 = .ok (.invokevirtual 115, 3) := dc_182 (sg_at zd_dX11_rest_0 6 rfl rfl) rfl
theorem dX11_rest_13 : decode cX11_rest 13 = .ok (.ifCond .eq 12, 3) := dc_153 (sg_at zd_dX11_rest_0 7 rfl rfl) rfl
theorem dX11_rest_16 : decode cX11_rest 16 = .ok (.iload_n 1, 1) := dc_27 (sg_at zd_dX11_rest_0 8 rfl rfl)
theorem dX11_rest_17 : decode cX11_rest 17 = .ok (.iload_n 2, 1) := dc_28 (sg_at zd_dX11_rest_0 9 rfl rfl)
theorem dX11_rest_18 : decode cX11_rest 18 = .ok (.if_icmp .eq 7, 3) := dc_159 (sg_at zd_dX11_rest_0 10 rfl rfl) rfl
theorem dX11_rest_21 : decode cX11_rest 21 = .ok (.iload_n 3, 1) := dc_29 (sg_at zd_dX11_rest_0 11 rfl rfl)
theorem dX11_rest_22 : decode cX11_rest 22 = .ok (.ifCond .ge 5, 3) := dc_156 (sg_at zd_dX11_rest_0 12 rfl rfl) rfl
theorem dX11_rest_25 : decode cX11_rest 25 = .ok (.iconst (-1), 1) := dc_2 (sg_at zd_dX11_rest_0 13 rfl rfl)
theorem dX11_rest_26 : decode cX11_rest 26 = .ok (.ireturn, 1) := dc_172 (sg_at zd_dX11_rest_0 14 rfl rfl)
theorem dX11_rest_27 : decode cX11_rest 27 = .ok (.aload_n 0, 1) := dc_42 (sg_at zd_dX11_rest_0 15 rfl rfl)
theorem dX11_rest_28 : decode cX11_rest 28 = .ok (.getfield 74, 3) := dc_180 (sg_at zd_dX11_rest_0 16 rfl rfl) rfl
theorem dX11_rest_31 : decode cX11_rest 31 = .ok (.aload_n 0, 1) := dc_42 (sg_at zd_dX11_rest_0 17 rfl rfl)
theorem dX11_rest_32 : decode cX11_rest 32 = .ok (.getfield 37, 3) := dc_180 (sg_at zd_dX11_rest_0 18 rfl rfl) rfl
theorem dX11_rest_35 : decode cX11_rest 35 = .ok (.aload_n 0, 1) := dc_42 (sg_at zd_dX11_rest_0 19 rfl rfl)
theorem zd_dX11_rest_36 : sg (cX11_rest.data.toList.drop 36) [[180, 0, 47], [27], [28], [182, 0, 243], [29], [42], [180, 0, 74], [180, 0, 247], [162, 0, 15], [42], [180, 0, 74], [180, 0, 250], [29], [46], [167, 0, 5], [16, 254], [172]] = true := by decide +kernel
theorem dX11_rest_36 : decode cX11_rest 36 = .ok (.getfield 47, 3) := dc_180 (sg_at zd_dX11_rest_36 0 rfl rfl) rfl
theorem dX11_rest_39 : decode cX11_rest 39 = .ok (.iload_n 1, 1) := dc_27 (sg_at zd_dX11_rest_36 1 rfl rfl)
theorem dX11_rest_40 : decode cX11_rest 40 = .ok (.iload_n 2, 1) := dc_28 (sg_at zd_dX11_rest_36 2 rfl rfl)
theorem dX11_rest_41 : decode cX11_rest 41 = .ok (.invokevirtual 243, 3) := dc_182 (sg_at zd_dX11_rest_36 3 rfl rfl) rfl
theorem dX11_rest_44 : decode cX11_rest 44 = .ok (.iload_n 3, 1) := dc_29 (sg_at zd_dX11_rest_36 4 rfl rfl)
theorem dX11_rest_45 : decode cX11_rest 45 = .ok (.aload_n 0, 1) := dc_42 (sg_at zd_dX11_rest_36 5 rfl rfl)
theorem dX11_rest_46 : decode cX11_rest 46 = .ok (.getfield 74, 3) := dc_180 (sg_at zd_dX11_rest_36 6 rfl rfl) rfl
theorem dX11_rest_49 : decode cX11_rest 49 = .ok (.getfield 247, 3) := dc_180 (sg_at zd_dX11_rest_36 7 rfl rfl) rfl
theorem dX11_rest_52 : decode cX11_rest 52 = .ok (.if_icmp .ge 15, 3) := dc_162 (sg_at zd_dX11_rest_36 8 rfl rfl) rfl
theorem dX11_rest_55 : decode cX11_rest 55 = .ok (.aload_n 0, 1) := dc_42 (sg_at zd_dX11_rest_36 9 rfl rfl)
theorem dX11_rest_56 : decode cX11_rest 56 = .ok (.getfield 74, 3) := dc_180 (sg_at zd_dX11_rest_36 10 rfl rfl) rfl
theorem dX11_rest_59 : decode cX11_rest 59 = .ok (.getfield 250, 3) := dc_180 (sg_at zd_dX11_rest_36 11 rfl rfl) rfl
theorem dX11_rest_62 : decode cX11_rest 62 = .ok (.iload_n 3, 1) := dc_29 (sg_at zd_dX11_rest_36 12 rfl rfl)
theorem dX11_rest_63 : decode cX11_rest 63 = .ok (.iaload, 1) := dc_46 (sg_at zd_dX11_rest_36 13 rfl rfl)
theorem dX11_rest_64 : decode cX11_rest 64 = .ok (.goto 5, 3) := dc_167 (sg_at zd_dX11_rest_36 14 rfl rfl) rfl
theorem dX11_rest_67 : decode cX11_rest 67 = .ok (.bipush (-2), 2) := dc_16 (sg_at zd_dX11_rest_36 15 rfl rfl) rfl
theorem dX11_rest_69 : decode cX11_rest 69 = .ok (.ireturn, 1) := dc_172 (sg_at zd_dX11_rest_36 16 rfl rfl)
theorem zd_dX11_rests_0 : sg (cX11_rests.data.toList.drop 0) [[42], [27], [182, 0, 115], [153, 0, 16], [42], [28], [182, 0, 115], [153, 0, 8], [27], [28], [160, 0, 5], [2], [172], [42], [180, 0, 74], [42], [180, 0, 37], [42], [180, 0, 47], [27]] = true := by decide +kernel
theorem dX11_rests_0 : decode cX11_rests 0 = .ok (.aload_n 0, 1) := dc_42 (sg_at zd_dX11_rests_0 0 rfl rfl)
theorem dX11_rests_1 : decode cX11_rests 1 = .ok (.iload_n 1, 1) := dc_27 (sg_at zd_dX11_rests_0 1 rfl rfl)
theorem dX11_rests_2 : decode cX11_rests 2 = .ok (.invokevirtual 115, 3) := dc_182 (sg_at zd_dX11_rests_0 2 rfl rfl) rfl
theorem dX11_rests_5 : decode cX11_rests 5 = .ok (.ifCond .eq 16, 3) := dc_153 (sg_at zd_dX11_rests_0 3 rfl rfl) rfl
theorem dX11_rests_8 : decode cX11_rests 8 = .ok (.aload_n 0, 1) := dc_42 (sg_at zd_dX11_rests_0 4 rfl rfl)
theorem dX11_rests_9 : decode cX11_rests 9 = .ok (.iload_n 2, 1) := dc_28 (sg_at zd_dX11_rests_0 5 rfl rfl)
theorem dX11_rests_10 : decode cX11_rests 10 = .ok (.invokevirtual 115, 3) := dc_182 (sg_at zd_dX11_rests_0 6 rfl rfl) rfl
theorem dX11_rests_13 : decode cX11_rests 13 = .ok (.ifCond .eq 8, 3) := dc_153 (sg_at zd_dX11_rests_0 7 rfl rfl) rfl
theorem dX11_rests_16 : decode cX11_rests 16 = .ok (.iload_n 1, 1) := dc_27 (sg_at zd_dX11_rests_0 8 rfl rfl)
theorem dX11_rests_17 : decode cX11_rests 17 = .ok (.iload_n 2, 1) := dc_28 (sg_at zd_dX11_rests_0 9 rfl rfl)
theorem dX11_rests_18 : decode cX11_rests 18 = .ok (.if_icmp .ne 5, 3) := dc_160 (sg_at zd_dX11_rests_0 10 rfl rfl) rfl
theorem dX11_rests_21 : decode cX11_rests 21 = .ok (.iconst (-1), 1) := dc_2 (sg_at zd_dX11_rests_0 11 rfl rfl)
theorem dX11_rests_22 : decode cX11_rests 22 = .ok (.ireturn, 1) := dc_172 (sg_at zd_dX11_rests_0 12 rfl rfl)
theorem dX11_rests_23 : decode cX11_rests 23 = .ok (.aload_n 0, 1) := dc_42 (sg_at zd_dX11_rests_0 13 rfl rfl)
theorem dX11_rests_24 : decode cX11_rests 24 = .ok (.getfield 74, 3) := dc_180 (sg_at zd_dX11_rests_0 14 rfl rfl) rfl
theorem dX11_rests_27 : decode cX11_rests 27 = .ok (.aload_n 0, 1) := dc_42 (sg_at zd_dX11_rests_0 15 rfl rfl)
theorem dX11_rests_28 : decode cX11_rests 28 = .ok (.getfield 37, 3) := dc_180 (sg_at zd_dX11_rests_0 16 rfl rfl) rfl
theorem dX11_rests_31 : decode cX11_rests 31 = .ok (.aload_n 0, 1) := dc_42 (sg_at zd_dX11_rests_0 17 rfl rfl)
theorem dX11_rests_32 : decode cX11_rests 32 = .ok (.getfield 47, 3) := dc_180 (sg_at zd_dX11_rests_0 18 rfl rfl) rfl
theorem dX11_rests_35 : decode cX11_rests 35 = .ok (.iload_n 1, 1) := dc_27 (sg_at zd_dX11_rests_0 19 rfl rfl)
theorem zd_dX11_rests_36 : sg (cX11_rests.data.toList.drop 36) [[28], [182, 0, 243], [42], [180, 0, 74], [180, 0, 247], [172]] = true := by decide +kernel
theorem dX11_rests_36 : decode cX11_rests 36 = .ok (.iload_n 2, 1) := dc_28 (sg_at zd_dX11_rests_36 0 rfl rfl)
theorem dX11_rests_37 : decode cX11_rests 37 = .ok (.invokevirtual 243, 3) := dc_182 (sg_at zd_dX11_rests_36 1 rfl rfl) rfl
theorem dX11_rests_40 : decode cX11_rests 40 = .ok (.aload_n 0, 1) := dc_42 (sg_at zd_dX11_rests_36 2 rfl rfl)
theorem dX11_rests_41 : decode cX11_rests 41 = .ok (.getfield 74, 3) := dc_180 (sg_at zd_dX11_rests_36 3 rfl rfl) rfl
theorem dX11_rests_44 : decode cX11_rests 44 = .ok (.getfield 247, 3) := dc_180 (sg_at zd_dX11_rests_36 4 rfl rfl) rfl
theorem dX11_rests_47 : decode cX11_rests 47 = .ok (.ireturn, 1) := dc_172 (sg_at zd_dX11_rests_36 5 rfl rfl)
theorem zd_dX11_rule_0 : sg (cX11_rule.data.toList.drop 0) [[42], [27], [182, 0, 214], [153, 0, 14], [27], [42], [180, 0, 47], [180, 0, 217], [160, 0, 5], [3], [172], [42], [180, 0, 67], [2], [42], [180, 0, 47], [180, 0, 217], [182, 0, 210], [42], [180, 0, 47]] = true := by decide +kernel
theorem dX11_rule_0 : decode cX11_rule 0 = .ok (.aload_n 0, 1) := dc_42 (sg_at zd_dX11_rule_0 0 rfl rfl)
theorem dX11_rule_1 : decode cX11_rule 1 = .ok (.iload_n 1, 1) := dc_27 (sg_at zd_dX11_rule_0 1 rfl rfl)
theorem dX11_rule_2 : decode cX11_rule 2 = .ok (.invokevirtual 214, 3) := dc_182 (sg_at zd_dX11_rule_0 2 rfl rfl) rfl
theorem dX11_rule_5 : decode cX11_rule 5 = .ok (.ifCond .eq 14, 3) := dc_153 (sg_at zd_dX11_rule_0 3 rfl rfl) rfl
theorem dX11_rule_8 : decode cX11_rule 8 = .ok (.iload_n 1, 1) := dc_27 (sg_at zd_dX11_rule_0 4 rfl rfl)
theorem dX11_rule_9 : decode cX11_rule 9 = .ok (.aload_n 0, 1) := dc_42 (sg_at zd_dX11_rule_0 5 rfl rfl)
theorem dX11_rule_10 : decode cX11_rule 10 = .ok (.getfield 47, 3) := dc_180 (sg_at zd_dX11_rule_0 6 rfl rfl) rfl
theorem dX11_rule_13 : decode cX11_rule 13 = .ok (.getfield 217, 3) := dc_180 (sg_at zd_dX11_rule_0 7 rfl rfl) rfl
theorem dX11_rule_16 : decode cX11_rule 16 = .ok (.if_icmp .ne 5, 3) := dc_160 (sg_at zd_dX11_rule_0 8 rfl rfl) rfl
theorem dX11_rule_19 : decode cX11_rule 19 = .ok (.iconst 0, 1) := dc_3 (sg_at zd_dX11_rule_0 9 rfl rfl)
theorem dX11_rule_20 : decode cX11_rule 20 = .ok (.ireturn, 1) := dc_172 (sg_at zd_dX11_rule_0 10 rfl rfl)
theorem dX11_rule_21 : decode cX11_rule 21 = .ok (.aload_n 0, 1) := dc_42 (sg_at zd_dX11_rule_0 11 rfl rfl)
theorem dX11_rule_22 : decode cX11_rule 22 = .ok (.getfield 67, 3) := dc_180 (sg_at zd_dX11_rule_0 12 rfl rfl) rfl
theorem dX11_rule_25 : decode cX11_rule 25 = .ok (.iconst (-1), 1) := dc_2 (sg_at zd_dX11_rule_0 13 rfl rfl)
theorem dX11_rule_26 : decode cX11_rule 26 = .ok (.aload_n 0, 1) := dc_42 (sg_at zd_dX11_rule_0 14 rfl rfl)
theorem dX11_rule_27 : decode cX11_rule 27 = .ok (.getfield 47, 3) := dc_180 (sg_at zd_dX11_rule_0 15 rfl rfl) rfl
theorem dX11_rule_30 : decode cX11_rule 30 = .ok (.getfield 217, 3) := dc_180 (sg_at zd_dX11_rule_0 16 rfl rfl) rfl
theorem dX11_rule_33 : decode cX11_rule 33 = .ok (.invokevirtual 210, 3) := dc_182 (sg_at zd_dX11_rule_0 17 rfl rfl) rfl
theorem dX11_rule_36 : decode cX11_rule 36 = .ok (.aload_n 0, 1) := dc_42 (sg_at zd_dX11_rule_0 18 rfl rfl)
theorem dX11_rule_37 : decode cX11_rule 37 = .ok (.getfield 47, 3) := dc_180 (sg_at zd_dX11_rule_0 19 rfl rfl) rfl
theorem zd_dX11_rule_40 : sg (cX11_rule.data.toList.drop 40) [[27], [181, 0, 217], [4], [172]] = true := by decide +kernel
theorem dX11_rule_40 : decode cX11_rule 40 = .ok (.iload_n 1, 1) := dc_27 (sg_at zd_dX11_rule_40 0 rfl rfl)
theorem dX11_rule_41 : decode cX11_rule 41 = .ok (.putfield 217, 3) := dc_181 (sg_at zd_dX11_rule_40 1 rfl rfl) rfl
theorem dX11_rule_44 : decode cX11_rule 44 = .ok (.iconst 1, 1) := dc_4 (sg_at zd_dX11_rule_40 2 rfl rfl)
theorem dX11_rule_45 : decode cX11_rule 45 = .ok (.ireturn, 1) := dc_172 (sg_at zd_dX11_rule_40 3 rfl rfl)
theorem zd_dX11_seat_0 : sg (cX11_seat.data.toList.drop 0) [[42], [27], [182, 0, 115], [153, 0, 11], [42], [28], [182, 0, 179], [154, 0, 5], [2], [172], [42], [180, 0, 37], [27], [28], [42], [182, 0, 233], [182, 0, 237], [172]] = true := by decide +kernel
theorem dX11_seat_0 : decode cX11_seat 0 = .ok (.aload_n 0, 1) := dc_42 (sg_at zd_dX11_seat_0 0 rfl rfl)
theorem dX11_seat_1 : decode cX11_seat 1 = .ok (.iload_n 1, 1) := dc_27 (sg_at zd_dX11_seat_0 1 rfl rfl)
theorem dX11_seat_2 : decode cX11_seat 2 = .ok (.invokevirtual 115, 3) := dc_182 (sg_at zd_dX11_seat_0 2 rfl rfl) rfl
theorem dX11_seat_5 : decode cX11_seat 5 = .ok (.ifCond .eq 11, 3) := dc_153 (sg_at zd_dX11_seat_0 3 rfl rfl) rfl
theorem dX11_seat_8 : decode cX11_seat 8 = .ok (.aload_n 0, 1) := dc_42 (sg_at zd_dX11_seat_0 4 rfl rfl)
theorem dX11_seat_9 : decode cX11_seat 9 = .ok (.iload_n 2, 1) := dc_28 (sg_at zd_dX11_seat_0 5 rfl rfl)
theorem dX11_seat_10 : decode cX11_seat 10 = .ok (.invokevirtual 179, 3) := dc_182 (sg_at zd_dX11_seat_0 6 rfl rfl) rfl
theorem dX11_seat_13 : decode cX11_seat 13 = .ok (.ifCond .ne 5, 3) := dc_154 (sg_at zd_dX11_seat_0 7 rfl rfl) rfl
theorem dX11_seat_16 : decode cX11_seat 16 = .ok (.iconst (-1), 1) := dc_2 (sg_at zd_dX11_seat_0 8 rfl rfl)
theorem dX11_seat_17 : decode cX11_seat 17 = .ok (.ireturn, 1) := dc_172 (sg_at zd_dX11_seat_0 9 rfl rfl)
theorem dX11_seat_18 : decode cX11_seat 18 = .ok (.aload_n 0, 1) := dc_42 (sg_at zd_dX11_seat_0 10 rfl rfl)
theorem dX11_seat_19 : decode cX11_seat 19 = .ok (.getfield 37, 3) := dc_180 (sg_at zd_dX11_seat_0 11 rfl rfl) rfl
theorem dX11_seat_22 : decode cX11_seat 22 = .ok (.iload_n 1, 1) := dc_27 (sg_at zd_dX11_seat_0 12 rfl rfl)
theorem dX11_seat_23 : decode cX11_seat 23 = .ok (.iload_n 2, 1) := dc_28 (sg_at zd_dX11_seat_0 13 rfl rfl)
theorem dX11_seat_24 : decode cX11_seat 24 = .ok (.aload_n 0, 1) := dc_42 (sg_at zd_dX11_seat_0 14 rfl rfl)
theorem dX11_seat_25 : decode cX11_seat 25 = .ok (.invokevirtual 233, 3) := dc_182 (sg_at zd_dX11_seat_0 15 rfl rfl) rfl
theorem dX11_seat_28 : decode cX11_seat 28 = .ok (.invokevirtual 237, 3) := dc_182 (sg_at zd_dX11_seat_0 16 rfl rfl) rfl
theorem dX11_seat_31 : decode cX11_seat 31 = .ok (.ireturn, 1) := dc_172 (sg_at zd_dX11_seat_0 17 rfl rfl)
theorem zd_dX11_shares_0 : sg (cX11_shares.data.toList.drop 0) [[27], [155, 0, 22], [27], [4], [163, 0, 17], [42], [180, 0, 18], [180, 0, 102], [180, 0, 106], [4], [162, 0, 5], [2], [172], [27], [154, 0, 23], [42], [180, 0, 47], [42], [180, 0, 18], [180, 0, 102]] = true := by decide +kernel
theorem dX11_shares_0 : decode cX11_shares 0 = .ok (.iload_n 1, 1) := dc_27 (sg_at zd_dX11_shares_0 0 rfl rfl)
theorem dX11_shares_1 : decode cX11_shares 1 = .ok (.ifCond .lt 22, 3) := dc_155 (sg_at zd_dX11_shares_0 1 rfl rfl) rfl
theorem dX11_shares_4 : decode cX11_shares 4 = .ok (.iload_n 1, 1) := dc_27 (sg_at zd_dX11_shares_0 2 rfl rfl)
theorem dX11_shares_5 : decode cX11_shares 5 = .ok (.iconst 1, 1) := dc_4 (sg_at zd_dX11_shares_0 3 rfl rfl)
theorem dX11_shares_6 : decode cX11_shares 6 = .ok (.if_icmp .gt 17, 3) := dc_163 (sg_at zd_dX11_shares_0 4 rfl rfl) rfl
theorem dX11_shares_9 : decode cX11_shares 9 = .ok (.aload_n 0, 1) := dc_42 (sg_at zd_dX11_shares_0 5 rfl rfl)
theorem dX11_shares_10 : decode cX11_shares 10 = .ok (.getfield 18, 3) := dc_180 (sg_at zd_dX11_shares_0 6 rfl rfl) rfl
theorem dX11_shares_13 : decode cX11_shares 13 = .ok (.getfield 102, 3) := dc_180 (sg_at zd_dX11_shares_0 7 rfl rfl) rfl
theorem dX11_shares_16 : decode cX11_shares 16 = .ok (.getfield 106, 3) := dc_180 (sg_at zd_dX11_shares_0 8 rfl rfl) rfl
theorem dX11_shares_19 : decode cX11_shares 19 = .ok (.iconst 1, 1) := dc_4 (sg_at zd_dX11_shares_0 9 rfl rfl)
theorem dX11_shares_20 : decode cX11_shares 20 = .ok (.if_icmp .ge 5, 3) := dc_162 (sg_at zd_dX11_shares_0 10 rfl rfl) rfl
theorem dX11_shares_23 : decode cX11_shares 23 = .ok (.iconst (-1), 1) := dc_2 (sg_at zd_dX11_shares_0 11 rfl rfl)
theorem dX11_shares_24 : decode cX11_shares 24 = .ok (.ireturn, 1) := dc_172 (sg_at zd_dX11_shares_0 12 rfl rfl)
theorem dX11_shares_25 : decode cX11_shares 25 = .ok (.iload_n 1, 1) := dc_27 (sg_at zd_dX11_shares_0 13 rfl rfl)
theorem dX11_shares_26 : decode cX11_shares 26 = .ok (.ifCond .ne 23, 3) := dc_154 (sg_at zd_dX11_shares_0 14 rfl rfl) rfl
theorem dX11_shares_29 : decode cX11_shares 29 = .ok (.aload_n 0, 1) := dc_42 (sg_at zd_dX11_shares_0 15 rfl rfl)
theorem dX11_shares_30 : decode cX11_shares 30 = .ok (.getfield 47, 3) := dc_180 (sg_at zd_dX11_shares_0 16 rfl rfl) rfl
theorem dX11_shares_33 : decode cX11_shares 33 = .ok (.aload_n 0, 1) := dc_42 (sg_at zd_dX11_shares_0 17 rfl rfl)
theorem dX11_shares_34 : decode cX11_shares 34 = .ok (.getfield 18, 3) := dc_180 (sg_at zd_dX11_shares_0 18 rfl rfl) rfl
theorem dX11_shares_37 : decode cX11_shares 37 = .ok (.getfield 102, 3) := dc_180 (sg_at zd_dX11_shares_0 19 rfl rfl) rfl
theorem zd_dX11_shares_40 : sg (cX11_shares.data.toList.drop 40) [[180, 0, 106], [182, 1, 37], [167, 0, 20], [42], [180, 0, 47], [42], [180, 0, 18], [180, 0, 102], [180, 0, 106], [182, 1, 61], [172]] = true := by decide +kernel
theorem dX11_shares_40 : decode cX11_shares 40 = .ok (.getfield 106, 3) := dc_180 (sg_at zd_dX11_shares_40 0 rfl rfl) rfl
theorem dX11_shares_43 : decode cX11_shares 43 = .ok (.invokevirtual 293, 3) := dc_182 (sg_at zd_dX11_shares_40 1 rfl rfl) rfl
theorem dX11_shares_46 : decode cX11_shares 46 = .ok (.goto 20, 3) := dc_167 (sg_at zd_dX11_shares_40 2 rfl rfl) rfl
theorem dX11_shares_49 : decode cX11_shares 49 = .ok (.aload_n 0, 1) := dc_42 (sg_at zd_dX11_shares_40 3 rfl rfl)
theorem dX11_shares_50 : decode cX11_shares 50 = .ok (.getfield 47, 3) := dc_180 (sg_at zd_dX11_shares_40 4 rfl rfl) rfl
theorem dX11_shares_53 : decode cX11_shares 53 = .ok (.aload_n 0, 1) := dc_42 (sg_at zd_dX11_shares_40 5 rfl rfl)
theorem dX11_shares_54 : decode cX11_shares 54 = .ok (.getfield 18, 3) := dc_180 (sg_at zd_dX11_shares_40 6 rfl rfl) rfl
theorem dX11_shares_57 : decode cX11_shares 57 = .ok (.getfield 102, 3) := dc_180 (sg_at zd_dX11_shares_40 7 rfl rfl) rfl
theorem dX11_shares_60 : decode cX11_shares 60 = .ok (.getfield 106, 3) := dc_180 (sg_at zd_dX11_shares_40 8 rfl rfl) rfl
theorem dX11_shares_63 : decode cX11_shares 63 = .ok (.invokevirtual 317, 3) := dc_182 (sg_at zd_dX11_shares_40 9 rfl rfl) rfl
theorem dX11_shares_66 : decode cX11_shares 66 = .ok (.ireturn, 1) := dc_172 (sg_at zd_dX11_shares_40 10 rfl rfl)
theorem zd_dX11_strike_0 : sg (cX11_strike.data.toList.drop 0) [[27], [155, 0, 14], [27], [42], [180, 0, 60], [180, 1, 67], [161, 0, 5], [2], [172], [42], [180, 0, 60], [27], [182, 1, 68], [172]] = true := by decide +kernel
theorem dX11_strike_0 : decode cX11_strike 0 = .ok (.iload_n 1, 1) := dc_27 (sg_at zd_dX11_strike_0 0 rfl rfl)
theorem dX11_strike_1 : decode cX11_strike 1 = .ok (.ifCond .lt 14, 3) := dc_155 (sg_at zd_dX11_strike_0 1 rfl rfl) rfl
theorem dX11_strike_4 : decode cX11_strike 4 = .ok (.iload_n 1, 1) := dc_27 (sg_at zd_dX11_strike_0 2 rfl rfl)
theorem dX11_strike_5 : decode cX11_strike 5 = .ok (.aload_n 0, 1) := dc_42 (sg_at zd_dX11_strike_0 3 rfl rfl)
theorem dX11_strike_6 : decode cX11_strike 6 = .ok (.getfield 60, 3) := dc_180 (sg_at zd_dX11_strike_0 4 rfl rfl) rfl
theorem dX11_strike_9 : decode cX11_strike 9 = .ok (.getfield 323, 3) := dc_180 (sg_at zd_dX11_strike_0 5 rfl rfl) rfl
theorem dX11_strike_12 : decode cX11_strike 12 = .ok (.if_icmp .lt 5, 3) := dc_161 (sg_at zd_dX11_strike_0 6 rfl rfl) rfl
theorem dX11_strike_15 : decode cX11_strike 15 = .ok (.iconst (-1), 1) := dc_2 (sg_at zd_dX11_strike_0 7 rfl rfl)
theorem dX11_strike_16 : decode cX11_strike 16 = .ok (.ireturn, 1) := dc_172 (sg_at zd_dX11_strike_0 8 rfl rfl)
theorem dX11_strike_17 : decode cX11_strike 17 = .ok (.aload_n 0, 1) := dc_42 (sg_at zd_dX11_strike_0 9 rfl rfl)
theorem dX11_strike_18 : decode cX11_strike 18 = .ok (.getfield 60, 3) := dc_180 (sg_at zd_dX11_strike_0 10 rfl rfl) rfl
theorem dX11_strike_21 : decode cX11_strike 21 = .ok (.iload_n 1, 1) := dc_27 (sg_at zd_dX11_strike_0 11 rfl rfl)
theorem dX11_strike_22 : decode cX11_strike 22 = .ok (.invokevirtual 324, 3) := dc_182 (sg_at zd_dX11_strike_0 12 rfl rfl) rfl
theorem dX11_strike_25 : decode cX11_strike 25 = .ok (.ireturn, 1) := dc_172 (sg_at zd_dX11_strike_0 13 rfl rfl)
theorem zd_dX11_stroke_0 : sg (cX11_stroke.data.toList.drop 0) [[42], [27], [182, 0, 115], [153, 0, 12], [28], [155, 0, 8], [28], [7], [161, 0, 5], [2], [172], [42], [180, 0, 47], [180, 0, 122], [27], [46], [62], [42], [180, 0, 18], [29]] = true := by decide +kernel
theorem dX11_stroke_0 : decode cX11_stroke 0 = .ok (.aload_n 0, 1) := dc_42 (sg_at zd_dX11_stroke_0 0 rfl rfl)
theorem dX11_stroke_1 : decode cX11_stroke 1 = .ok (.iload_n 1, 1) := dc_27 (sg_at zd_dX11_stroke_0 1 rfl rfl)
theorem dX11_stroke_2 : decode cX11_stroke 2 = .ok (.invokevirtual 115, 3) := dc_182 (sg_at zd_dX11_stroke_0 2 rfl rfl) rfl
theorem dX11_stroke_5 : decode cX11_stroke 5 = .ok (.ifCond .eq 12, 3) := dc_153 (sg_at zd_dX11_stroke_0 3 rfl rfl) rfl
theorem dX11_stroke_8 : decode cX11_stroke 8 = .ok (.iload_n 2, 1) := dc_28 (sg_at zd_dX11_stroke_0 4 rfl rfl)
theorem dX11_stroke_9 : decode cX11_stroke 9 = .ok (.ifCond .lt 8, 3) := dc_155 (sg_at zd_dX11_stroke_0 5 rfl rfl) rfl
theorem dX11_stroke_12 : decode cX11_stroke 12 = .ok (.iload_n 2, 1) := dc_28 (sg_at zd_dX11_stroke_0 6 rfl rfl)
theorem dX11_stroke_13 : decode cX11_stroke 13 = .ok (.iconst 4, 1) := dc_7 (sg_at zd_dX11_stroke_0 7 rfl rfl)
theorem dX11_stroke_14 : decode cX11_stroke 14 = .ok (.if_icmp .lt 5, 3) := dc_161 (sg_at zd_dX11_stroke_0 8 rfl rfl) rfl
theorem dX11_stroke_17 : decode cX11_stroke 17 = .ok (.iconst (-1), 1) := dc_2 (sg_at zd_dX11_stroke_0 9 rfl rfl)
theorem dX11_stroke_18 : decode cX11_stroke 18 = .ok (.ireturn, 1) := dc_172 (sg_at zd_dX11_stroke_0 10 rfl rfl)
theorem dX11_stroke_19 : decode cX11_stroke 19 = .ok (.aload_n 0, 1) := dc_42 (sg_at zd_dX11_stroke_0 11 rfl rfl)
theorem dX11_stroke_20 : decode cX11_stroke 20 = .ok (.getfield 47, 3) := dc_180 (sg_at zd_dX11_stroke_0 12 rfl rfl) rfl
theorem dX11_stroke_23 : decode cX11_stroke 23 = .ok (.getfield 122, 3) := dc_180 (sg_at zd_dX11_stroke_0 13 rfl rfl) rfl
theorem dX11_stroke_26 : decode cX11_stroke 26 = .ok (.iload_n 1, 1) := dc_27 (sg_at zd_dX11_stroke_0 14 rfl rfl)
theorem dX11_stroke_27 : decode cX11_stroke 27 = .ok (.iaload, 1) := dc_46 (sg_at zd_dX11_stroke_0 15 rfl rfl)
theorem dX11_stroke_28 : decode cX11_stroke 28 = .ok (.istore_n 3, 1) := dc_62 (sg_at zd_dX11_stroke_0 16 rfl rfl)
theorem dX11_stroke_29 : decode cX11_stroke 29 = .ok (.aload_n 0, 1) := dc_42 (sg_at zd_dX11_stroke_0 17 rfl rfl)
theorem dX11_stroke_30 : decode cX11_stroke 30 = .ok (.getfield 18, 3) := dc_180 (sg_at zd_dX11_stroke_0 18 rfl rfl) rfl
theorem dX11_stroke_33 : decode cX11_stroke 33 = .ok (.iload_n 3, 1) := dc_29 (sg_at zd_dX11_stroke_0 19 rfl rfl)
theorem zd_dX11_stroke_34 : sg (cX11_stroke.data.toList.drop 34) [[28], [182, 0, 202], [54, 4], [21, 4], [2], [159, 0, 45], [42], [180, 0, 47], [27], [42], [180, 0, 47], [180, 0, 186], [182, 0, 206], [153, 0, 27], [42], [180, 0, 47], [180, 0, 137], [27], [46], [42]] = true := by decide +kernel
theorem dX11_stroke_34 : decode cX11_stroke 34 = .ok (.iload_n 2, 1) := dc_28 (sg_at zd_dX11_stroke_34 0 rfl rfl)
theorem dX11_stroke_35 : decode cX11_stroke 35 = .ok (.invokevirtual 202, 3) := dc_182 (sg_at zd_dX11_stroke_34 1 rfl rfl) rfl
theorem dX11_stroke_38 : decode cX11_stroke 38 = .ok (.istore 4, 2) := dc_54 (sg_at zd_dX11_stroke_34 2 rfl rfl)
theorem dX11_stroke_40 : decode cX11_stroke 40 = .ok (.iload 4, 2) := dc_21 (sg_at zd_dX11_stroke_34 3 rfl rfl)
theorem dX11_stroke_42 : decode cX11_stroke 42 = .ok (.iconst (-1), 1) := dc_2 (sg_at zd_dX11_stroke_34 4 rfl rfl)
theorem dX11_stroke_43 : decode cX11_stroke 43 = .ok (.if_icmp .eq 45, 3) := dc_159 (sg_at zd_dX11_stroke_34 5 rfl rfl) rfl
theorem dX11_stroke_46 : decode cX11_stroke 46 = .ok (.aload_n 0, 1) := dc_42 (sg_at zd_dX11_stroke_34 6 rfl rfl)
theorem dX11_stroke_47 : decode cX11_stroke 47 = .ok (.getfield 47, 3) := dc_180 (sg_at zd_dX11_stroke_34 7 rfl rfl) rfl
theorem dX11_stroke_50 : decode cX11_stroke 50 = .ok (.iload_n 1, 1) := dc_27 (sg_at zd_dX11_stroke_34 8 rfl rfl)
theorem dX11_stroke_51 : decode cX11_stroke 51 = .ok (.aload_n 0, 1) := dc_42 (sg_at zd_dX11_stroke_34 9 rfl rfl)
theorem dX11_stroke_52 : decode cX11_stroke 52 = .ok (.getfield 47, 3) := dc_180 (sg_at zd_dX11_stroke_34 10 rfl rfl) rfl
theorem dX11_stroke_55 : decode cX11_stroke 55 = .ok (.getfield 186, 3) := dc_180 (sg_at zd_dX11_stroke_34 11 rfl rfl) rfl
theorem dX11_stroke_58 : decode cX11_stroke 58 = .ok (.invokevirtual 206, 3) := dc_182 (sg_at zd_dX11_stroke_34 12 rfl rfl) rfl
theorem dX11_stroke_61 : decode cX11_stroke 61 = .ok (.ifCond .eq 27, 3) := dc_153 (sg_at zd_dX11_stroke_34 13 rfl rfl) rfl
theorem dX11_stroke_64 : decode cX11_stroke 64 = .ok (.aload_n 0, 1) := dc_42 (sg_at zd_dX11_stroke_34 14 rfl rfl)
theorem dX11_stroke_65 : decode cX11_stroke 65 = .ok (.getfield 47, 3) := dc_180 (sg_at zd_dX11_stroke_34 15 rfl rfl) rfl
theorem dX11_stroke_68 : decode cX11_stroke 68 = .ok (.getfield 137, 3) := dc_180 (sg_at zd_dX11_stroke_34 16 rfl rfl) rfl
theorem dX11_stroke_71 : decode cX11_stroke 71 = .ok (.iload_n 1, 1) := dc_27 (sg_at zd_dX11_stroke_34 17 rfl rfl)
theorem dX11_stroke_72 : decode cX11_stroke 72 = .ok (.iaload, 1) := dc_46 (sg_at zd_dX11_stroke_34 18 rfl rfl)
theorem dX11_stroke_73 : decode cX11_stroke 73 = .ok (.aload_n 0, 1) := dc_42 (sg_at zd_dX11_stroke_34 19 rfl rfl)
theorem zd_dX11_stroke_74 : sg (cX11_stroke.data.toList.drop 74) [[180, 0, 18], [180, 0, 102], [180, 0, 134], [27], [46], [161, 0, 6], [16, 254], [172], [42], [180, 0, 47], [180, 0, 122], [27], [21, 4], [79], [42], [180, 0, 47], [180, 0, 137], [27], [92], [46]] = true := by decide +kernel
theorem dX11_stroke_74 : decode cX11_stroke 74 = .ok (.getfield 18, 3) := dc_180 (sg_at zd_dX11_stroke_74 0 rfl rfl) rfl
theorem dX11_stroke_77 : decode cX11_stroke 77 = .ok (.getfield 102, 3) := dc_180 (sg_at zd_dX11_stroke_74 1 rfl rfl) rfl
theorem dX11_stroke_80 : decode cX11_stroke 80 = .ok (.getfield 134, 3) := dc_180 (sg_at zd_dX11_stroke_74 2 rfl rfl) rfl
theorem dX11_stroke_83 : decode cX11_stroke 83 = .ok (.iload_n 1, 1) := dc_27 (sg_at zd_dX11_stroke_74 3 rfl rfl)
theorem dX11_stroke_84 : decode cX11_stroke 84 = .ok (.iaload, 1) := dc_46 (sg_at zd_dX11_stroke_74 4 rfl rfl)
theorem dX11_stroke_85 : decode cX11_stroke 85 = .ok (.if_icmp .lt 6, 3) := dc_161 (sg_at zd_dX11_stroke_74 5 rfl rfl) rfl
theorem dX11_stroke_88 : decode cX11_stroke 88 = .ok (.bipush (-2), 2) := dc_16 (sg_at zd_dX11_stroke_74 6 rfl rfl) rfl
theorem dX11_stroke_90 : decode cX11_stroke 90 = .ok (.ireturn, 1) := dc_172 (sg_at zd_dX11_stroke_74 7 rfl rfl)
theorem dX11_stroke_91 : decode cX11_stroke 91 = .ok (.aload_n 0, 1) := dc_42 (sg_at zd_dX11_stroke_74 8 rfl rfl)
theorem dX11_stroke_92 : decode cX11_stroke 92 = .ok (.getfield 47, 3) := dc_180 (sg_at zd_dX11_stroke_74 9 rfl rfl) rfl
theorem dX11_stroke_95 : decode cX11_stroke 95 = .ok (.getfield 122, 3) := dc_180 (sg_at zd_dX11_stroke_74 10 rfl rfl) rfl
theorem dX11_stroke_98 : decode cX11_stroke 98 = .ok (.iload_n 1, 1) := dc_27 (sg_at zd_dX11_stroke_74 11 rfl rfl)
theorem dX11_stroke_99 : decode cX11_stroke 99 = .ok (.iload 4, 2) := dc_21 (sg_at zd_dX11_stroke_74 12 rfl rfl)
theorem dX11_stroke_101 : decode cX11_stroke 101 = .ok (.iastore, 1) := dc_79 (sg_at zd_dX11_stroke_74 13 rfl rfl)
theorem dX11_stroke_102 : decode cX11_stroke 102 = .ok (.aload_n 0, 1) := dc_42 (sg_at zd_dX11_stroke_74 14 rfl rfl)
theorem dX11_stroke_103 : decode cX11_stroke 103 = .ok (.getfield 47, 3) := dc_180 (sg_at zd_dX11_stroke_74 15 rfl rfl) rfl
theorem dX11_stroke_106 : decode cX11_stroke 106 = .ok (.getfield 137, 3) := dc_180 (sg_at zd_dX11_stroke_74 16 rfl rfl) rfl
theorem dX11_stroke_109 : decode cX11_stroke 109 = .ok (.iload_n 1, 1) := dc_27 (sg_at zd_dX11_stroke_74 17 rfl rfl)
theorem dX11_stroke_110 : decode cX11_stroke 110 = .ok (.dup2, 1) := dc_92 (sg_at zd_dX11_stroke_74 18 rfl rfl)
theorem dX11_stroke_111 : decode cX11_stroke 111 = .ok (.iaload, 1) := dc_46 (sg_at zd_dX11_stroke_74 19 rfl rfl)
theorem zd_dX11_stroke_112 : sg (cX11_stroke.data.toList.drop 112) [[4], [96], [79], [42], [180, 0, 67], [27], [29], [182, 0, 210], [21, 4], [172]] = true := by decide +kernel
theorem dX11_stroke_112 : decode cX11_stroke 112 = .ok (.iconst 1, 1) := dc_4 (sg_at zd_dX11_stroke_112 0 rfl rfl)
theorem dX11_stroke_113 : decode cX11_stroke 113 = .ok (.iadd, 1) := dc_96 (sg_at zd_dX11_stroke_112 1 rfl rfl)
theorem dX11_stroke_114 : decode cX11_stroke 114 = .ok (.iastore, 1) := dc_79 (sg_at zd_dX11_stroke_112 2 rfl rfl)
theorem dX11_stroke_115 : decode cX11_stroke 115 = .ok (.aload_n 0, 1) := dc_42 (sg_at zd_dX11_stroke_112 3 rfl rfl)
theorem dX11_stroke_116 : decode cX11_stroke 116 = .ok (.getfield 67, 3) := dc_180 (sg_at zd_dX11_stroke_112 4 rfl rfl) rfl
theorem dX11_stroke_119 : decode cX11_stroke 119 = .ok (.iload_n 1, 1) := dc_27 (sg_at zd_dX11_stroke_112 5 rfl rfl)
theorem dX11_stroke_120 : decode cX11_stroke 120 = .ok (.iload_n 3, 1) := dc_29 (sg_at zd_dX11_stroke_112 6 rfl rfl)
theorem dX11_stroke_121 : decode cX11_stroke 121 = .ok (.invokevirtual 210, 3) := dc_182 (sg_at zd_dX11_stroke_112 7 rfl rfl) rfl
theorem dX11_stroke_124 : decode cX11_stroke 124 = .ok (.iload 4, 2) := dc_21 (sg_at zd_dX11_stroke_112 8 rfl rfl)
theorem dX11_stroke_126 : decode cX11_stroke 126 = .ok (.ireturn, 1) := dc_172 (sg_at zd_dX11_stroke_112 9 rfl rfl)
theorem zd_dX11_table_0 : sg (cX11_table.data.toList.drop 0) [[42], [27], [182, 0, 214], [153, 0, 17], [28], [155, 0, 13], [29], [155, 0, 9], [29], [16, 7], [164, 0, 5], [2], [172], [29], [8], [162, 0, 13], [42], [29], [182, 0, 115], [154, 0, 5]] = true := by decide +kernel
theorem dX11_table_0 : decode cX11_table 0 = .ok (.aload_n 0, 1) := dc_42 (sg_at zd_dX11_table_0 0 rfl rfl)
theorem dX11_table_1 : decode cX11_table 1 = .ok (.iload_n 1, 1) := dc_27 (sg_at zd_dX11_table_0 1 rfl rfl)
theorem dX11_table_2 : decode cX11_table 2 = .ok (.invokevirtual 214, 3) := dc_182 (sg_at zd_dX11_table_0 2 rfl rfl) rfl
theorem dX11_table_5 : decode cX11_table 5 = .ok (.ifCond .eq 17, 3) := dc_153 (sg_at zd_dX11_table_0 3 rfl rfl) rfl
theorem dX11_table_8 : decode cX11_table 8 = .ok (.iload_n 2, 1) := dc_28 (sg_at zd_dX11_table_0 4 rfl rfl)
theorem dX11_table_9 : decode cX11_table 9 = .ok (.ifCond .lt 13, 3) := dc_155 (sg_at zd_dX11_table_0 5 rfl rfl) rfl
theorem dX11_table_12 : decode cX11_table 12 = .ok (.iload_n 3, 1) := dc_29 (sg_at zd_dX11_table_0 6 rfl rfl)
theorem dX11_table_13 : decode cX11_table 13 = .ok (.ifCond .lt 9, 3) := dc_155 (sg_at zd_dX11_table_0 7 rfl rfl) rfl
theorem dX11_table_16 : decode cX11_table 16 = .ok (.iload_n 3, 1) := dc_29 (sg_at zd_dX11_table_0 8 rfl rfl)
theorem dX11_table_17 : decode cX11_table 17 = .ok (.bipush 7, 2) := dc_16 (sg_at zd_dX11_table_0 9 rfl rfl) rfl
theorem dX11_table_19 : decode cX11_table 19 = .ok (.if_icmp .le 5, 3) := dc_164 (sg_at zd_dX11_table_0 10 rfl rfl) rfl
theorem dX11_table_22 : decode cX11_table 22 = .ok (.iconst (-1), 1) := dc_2 (sg_at zd_dX11_table_0 11 rfl rfl)
theorem dX11_table_23 : decode cX11_table 23 = .ok (.ireturn, 1) := dc_172 (sg_at zd_dX11_table_0 12 rfl rfl)
theorem dX11_table_24 : decode cX11_table 24 = .ok (.iload_n 3, 1) := dc_29 (sg_at zd_dX11_table_0 13 rfl rfl)
theorem dX11_table_25 : decode cX11_table 25 = .ok (.iconst 5, 1) := dc_8 (sg_at zd_dX11_table_0 14 rfl rfl)
theorem dX11_table_26 : decode cX11_table 26 = .ok (.if_icmp .ge 13, 3) := dc_162 (sg_at zd_dX11_table_0 15 rfl rfl) rfl
theorem dX11_table_29 : decode cX11_table 29 = .ok (.aload_n 0, 1) := dc_42 (sg_at zd_dX11_table_0 16 rfl rfl)
theorem dX11_table_30 : decode cX11_table 30 = .ok (.iload_n 3, 1) := dc_29 (sg_at zd_dX11_table_0 17 rfl rfl)
theorem dX11_table_31 : decode cX11_table 31 = .ok (.invokevirtual 115, 3) := dc_182 (sg_at zd_dX11_table_0 18 rfl rfl) rfl
theorem dX11_table_34 : decode cX11_table 34 = .ok (.ifCond .ne 5, 3) := dc_154 (sg_at zd_dX11_table_0 19 rfl rfl) rfl
theorem zd_dX11_table_37 : sg (cX11_table.data.toList.drop 37) [[2], [172], [42], [27], [28], [182, 1, 28], [29]] = true := by decide +kernel
theorem dX11_table_37 : decode cX11_table 37 = .ok (.iconst (-1), 1) := dc_2 (sg_at zd_dX11_table_37 0 rfl rfl)
theorem dX11_table_38 : decode cX11_table 38 = .ok (.ireturn, 1) := dc_172 (sg_at zd_dX11_table_37 1 rfl rfl)
theorem dX11_table_39 : decode cX11_table 39 = .ok (.aload_n 0, 1) := dc_42 (sg_at zd_dX11_table_37 2 rfl rfl)
theorem dX11_table_40 : decode cX11_table 40 = .ok (.iload_n 1, 1) := dc_27 (sg_at zd_dX11_table_37 3 rfl rfl)
theorem dX11_table_41 : decode cX11_table 41 = .ok (.iload_n 2, 1) := dc_28 (sg_at zd_dX11_table_37 4 rfl rfl)
theorem dX11_table_42 : decode cX11_table 42 = .ok (.invokevirtual 284, 3) := dc_182 (sg_at zd_dX11_table_37 5 rfl rfl) rfl
theorem dX11_table_45 : decode cX11_table 45 = .ok (.iload_n 3, 1) := dc_29 (sg_at zd_dX11_table_37 6 rfl rfl)
theorem dX11_table_46 : decode cX11_table 46 = .ok (.tableswitch 60 5 7 #[26, 34, 42], 26) := by decide +kernel
theorem zd_dX11_table_72 : sg (cX11_table.data.toList.drop 72) [[42], [180, 0, 51], [180, 1, 31], [172], [42], [180, 0, 51], [180, 1, 34], [172], [42], [180, 0, 51], [42], [180, 0, 18], [180, 0, 102], [180, 0, 106], [182, 1, 37], [172], [42], [180, 0, 51], [180, 0, 125], [29]] = true := by decide +kernel
theorem dX11_table_72 : decode cX11_table 72 = .ok (.aload_n 0, 1) := dc_42 (sg_at zd_dX11_table_72 0 rfl rfl)
theorem dX11_table_73 : decode cX11_table 73 = .ok (.getfield 51, 3) := dc_180 (sg_at zd_dX11_table_72 1 rfl rfl) rfl
theorem dX11_table_76 : decode cX11_table 76 = .ok (.getfield 287, 3) := dc_180 (sg_at zd_dX11_table_72 2 rfl rfl) rfl
theorem dX11_table_79 : decode cX11_table 79 = .ok (.ireturn, 1) := dc_172 (sg_at zd_dX11_table_72 3 rfl rfl)
theorem dX11_table_80 : decode cX11_table 80 = .ok (.aload_n 0, 1) := dc_42 (sg_at zd_dX11_table_72 4 rfl rfl)
theorem dX11_table_81 : decode cX11_table 81 = .ok (.getfield 51, 3) := dc_180 (sg_at zd_dX11_table_72 5 rfl rfl) rfl
theorem dX11_table_84 : decode cX11_table 84 = .ok (.getfield 290, 3) := dc_180 (sg_at zd_dX11_table_72 6 rfl rfl) rfl
theorem dX11_table_87 : decode cX11_table 87 = .ok (.ireturn, 1) := dc_172 (sg_at zd_dX11_table_72 7 rfl rfl)
theorem dX11_table_88 : decode cX11_table 88 = .ok (.aload_n 0, 1) := dc_42 (sg_at zd_dX11_table_72 8 rfl rfl)
theorem dX11_table_89 : decode cX11_table 89 = .ok (.getfield 51, 3) := dc_180 (sg_at zd_dX11_table_72 9 rfl rfl) rfl
theorem dX11_table_92 : decode cX11_table 92 = .ok (.aload_n 0, 1) := dc_42 (sg_at zd_dX11_table_72 10 rfl rfl)
theorem dX11_table_93 : decode cX11_table 93 = .ok (.getfield 18, 3) := dc_180 (sg_at zd_dX11_table_72 11 rfl rfl) rfl
theorem dX11_table_96 : decode cX11_table 96 = .ok (.getfield 102, 3) := dc_180 (sg_at zd_dX11_table_72 12 rfl rfl) rfl
theorem dX11_table_99 : decode cX11_table 99 = .ok (.getfield 106, 3) := dc_180 (sg_at zd_dX11_table_72 13 rfl rfl) rfl
theorem dX11_table_102 : decode cX11_table 102 = .ok (.invokevirtual 293, 3) := dc_182 (sg_at zd_dX11_table_72 14 rfl rfl) rfl
theorem dX11_table_105 : decode cX11_table 105 = .ok (.ireturn, 1) := dc_172 (sg_at zd_dX11_table_72 15 rfl rfl)
theorem dX11_table_106 : decode cX11_table 106 = .ok (.aload_n 0, 1) := dc_42 (sg_at zd_dX11_table_72 16 rfl rfl)
theorem dX11_table_107 : decode cX11_table 107 = .ok (.getfield 51, 3) := dc_180 (sg_at zd_dX11_table_72 17 rfl rfl) rfl
theorem dX11_table_110 : decode cX11_table 110 = .ok (.getfield 125, 3) := dc_180 (sg_at zd_dX11_table_72 18 rfl rfl) rfl
theorem dX11_table_113 : decode cX11_table 113 = .ok (.iload_n 3, 1) := dc_29 (sg_at zd_dX11_table_72 19 rfl rfl)
theorem zd_dX11_table_114 : sg (cX11_table.data.toList.drop 114) [[46], [172]] = true := by decide +kernel
theorem dX11_table_114 : decode cX11_table 114 = .ok (.iaload, 1) := dc_46 (sg_at zd_dX11_table_114 0 rfl rfl)
theorem dX11_table_115 : decode cX11_table 115 = .ok (.ireturn, 1) := dc_172 (sg_at zd_dX11_table_114 1 rfl rfl)
theorem zd_dX11_text_0 : sg (cX11_text.data.toList.drop 0) [[27], [155, 0, 11], [27], [42], [180, 0, 78], [164, 0, 6], [16, 254], [172], [42], [3], [181, 0, 78], [42], [180, 0, 30], [42], [180, 0, 11], [27], [42], [180, 0, 22], [182, 0, 86], [154, 0, 5]] = true := by decide +kernel
theorem dX11_text_0 : decode cX11_text 0 = .ok (.iload_n 1, 1) := dc_27 (sg_at zd_dX11_text_0 0 rfl rfl)
theorem dX11_text_1 : decode cX11_text 1 = .ok (.ifCond .lt 11, 3) := dc_155 (sg_at zd_dX11_text_0 1 rfl rfl) rfl
theorem dX11_text_4 : decode cX11_text 4 = .ok (.iload_n 1, 1) := dc_27 (sg_at zd_dX11_text_0 2 rfl rfl)
theorem dX11_text_5 : decode cX11_text 5 = .ok (.aload_n 0, 1) := dc_42 (sg_at zd_dX11_text_0 3 rfl rfl)
theorem dX11_text_6 : decode cX11_text 6 = .ok (.getfield 78, 3) := dc_180 (sg_at zd_dX11_text_0 4 rfl rfl) rfl
theorem dX11_text_9 : decode cX11_text 9 = .ok (.if_icmp .le 6, 3) := dc_164 (sg_at zd_dX11_text_0 5 rfl rfl) rfl
theorem dX11_text_12 : decode cX11_text 12 = .ok (.bipush (-2), 2) := dc_16 (sg_at zd_dX11_text_0 6 rfl rfl) rfl
theorem dX11_text_14 : decode cX11_text 14 = .ok (.ireturn, 1) := dc_172 (sg_at zd_dX11_text_0 7 rfl rfl)
theorem dX11_text_15 : decode cX11_text 15 = .ok (.aload_n 0, 1) := dc_42 (sg_at zd_dX11_text_0 8 rfl rfl)
theorem dX11_text_16 : decode cX11_text 16 = .ok (.iconst 0, 1) := dc_3 (sg_at zd_dX11_text_0 9 rfl rfl)
theorem dX11_text_17 : decode cX11_text 17 = .ok (.putfield 78, 3) := dc_181 (sg_at zd_dX11_text_0 10 rfl rfl) rfl
theorem dX11_text_20 : decode cX11_text 20 = .ok (.aload_n 0, 1) := dc_42 (sg_at zd_dX11_text_0 11 rfl rfl)
theorem dX11_text_21 : decode cX11_text 21 = .ok (.getfield 30, 3) := dc_180 (sg_at zd_dX11_text_0 12 rfl rfl) rfl
theorem dX11_text_24 : decode cX11_text 24 = .ok (.aload_n 0, 1) := dc_42 (sg_at zd_dX11_text_0 13 rfl rfl)
theorem dX11_text_25 : decode cX11_text 25 = .ok (.getfield 11, 3) := dc_180 (sg_at zd_dX11_text_0 14 rfl rfl) rfl
theorem dX11_text_28 : decode cX11_text 28 = .ok (.iload_n 1, 1) := dc_27 (sg_at zd_dX11_text_0 15 rfl rfl)
theorem dX11_text_29 : decode cX11_text 29 = .ok (.aload_n 0, 1) := dc_42 (sg_at zd_dX11_text_0 16 rfl rfl)
theorem dX11_text_30 : decode cX11_text 30 = .ok (.getfield 22, 3) := dc_180 (sg_at zd_dX11_text_0 17 rfl rfl) rfl
theorem dX11_text_33 : decode cX11_text 33 = .ok (.invokevirtual 86, 3) := dc_182 (sg_at zd_dX11_text_0 18 rfl rfl) rfl
theorem dX11_text_36 : decode cX11_text 36 = .ok (.ifCond .ne 5, 3) := dc_154 (sg_at zd_dX11_text_0 19 rfl rfl) rfl
theorem zd_dX11_text_39 : sg (cX11_text.data.toList.drop 39) [[2], [172], [42], [180, 0, 18], [77], [42], [42], [180, 0, 22], [181, 0, 18], [42], [44], [181, 0, 22], [42], [182, 0, 90], [42], [180, 0, 18], [180, 0, 93], [172]] = true := by decide +kernel
theorem dX11_text_39 : decode cX11_text 39 = .ok (.iconst (-1), 1) := dc_2 (sg_at zd_dX11_text_39 0 rfl rfl)
theorem dX11_text_40 : decode cX11_text 40 = .ok (.ireturn, 1) := dc_172 (sg_at zd_dX11_text_39 1 rfl rfl)
theorem dX11_text_41 : decode cX11_text 41 = .ok (.aload_n 0, 1) := dc_42 (sg_at zd_dX11_text_39 2 rfl rfl)
theorem dX11_text_42 : decode cX11_text 42 = .ok (.getfield 18, 3) := dc_180 (sg_at zd_dX11_text_39 3 rfl rfl) rfl
theorem dX11_text_45 : decode cX11_text 45 = .ok (.astore_n 2, 1) := dc_77 (sg_at zd_dX11_text_39 4 rfl rfl)
theorem dX11_text_46 : decode cX11_text 46 = .ok (.aload_n 0, 1) := dc_42 (sg_at zd_dX11_text_39 5 rfl rfl)
theorem dX11_text_47 : decode cX11_text 47 = .ok (.aload_n 0, 1) := dc_42 (sg_at zd_dX11_text_39 6 rfl rfl)
theorem dX11_text_48 : decode cX11_text 48 = .ok (.getfield 22, 3) := dc_180 (sg_at zd_dX11_text_39 7 rfl rfl) rfl
theorem dX11_text_51 : decode cX11_text 51 = .ok (.putfield 18, 3) := dc_181 (sg_at zd_dX11_text_39 8 rfl rfl) rfl
theorem dX11_text_54 : decode cX11_text 54 = .ok (.aload_n 0, 1) := dc_42 (sg_at zd_dX11_text_39 9 rfl rfl)
theorem dX11_text_55 : decode cX11_text 55 = .ok (.aload_n 2, 1) := dc_44 (sg_at zd_dX11_text_39 10 rfl rfl)
theorem dX11_text_56 : decode cX11_text 56 = .ok (.putfield 22, 3) := dc_181 (sg_at zd_dX11_text_39 11 rfl rfl) rfl
theorem dX11_text_59 : decode cX11_text 59 = .ok (.aload_n 0, 1) := dc_42 (sg_at zd_dX11_text_39 12 rfl rfl)
theorem dX11_text_60 : decode cX11_text 60 = .ok (.invokevirtual 90, 3) := dc_182 (sg_at zd_dX11_text_39 13 rfl rfl) rfl
theorem dX11_text_63 : decode cX11_text 63 = .ok (.aload_n 0, 1) := dc_42 (sg_at zd_dX11_text_39 14 rfl rfl)
theorem dX11_text_64 : decode cX11_text 64 = .ok (.getfield 18, 3) := dc_180 (sg_at zd_dX11_text_39 15 rfl rfl) rfl
theorem dX11_text_67 : decode cX11_text 67 = .ok (.getfield 93, 3) := dc_180 (sg_at zd_dX11_text_39 16 rfl rfl) rfl
theorem dX11_text_70 : decode cX11_text 70 = .ok (.ireturn, 1) := dc_172 (sg_at zd_dX11_text_39 17 rfl rfl)
theorem zd_dX11_tried_0 : sg (cX11_tried.data.toList.drop 0) [[27], [155, 0, 12], [27], [7], [163, 0, 7], [29], [156, 0, 5], [2], [172], [27], [4], [159, 0, 8], [27], [7], [160, 0, 7], [4], [167, 0, 4], [3], [54, 4], [21, 4]] = true := by decide +kernel
theorem dX11_tried_0 : decode cX11_tried 0 = .ok (.iload_n 1, 1) := dc_27 (sg_at zd_dX11_tried_0 0 rfl rfl)
theorem dX11_tried_1 : decode cX11_tried 1 = .ok (.ifCond .lt 12, 3) := dc_155 (sg_at zd_dX11_tried_0 1 rfl rfl) rfl
theorem dX11_tried_4 : decode cX11_tried 4 = .ok (.iload_n 1, 1) := dc_27 (sg_at zd_dX11_tried_0 2 rfl rfl)
theorem dX11_tried_5 : decode cX11_tried 5 = .ok (.iconst 4, 1) := dc_7 (sg_at zd_dX11_tried_0 3 rfl rfl)
theorem dX11_tried_6 : decode cX11_tried 6 = .ok (.if_icmp .gt 7, 3) := dc_163 (sg_at zd_dX11_tried_0 4 rfl rfl) rfl
theorem dX11_tried_9 : decode cX11_tried 9 = .ok (.iload_n 3, 1) := dc_29 (sg_at zd_dX11_tried_0 5 rfl rfl)
theorem dX11_tried_10 : decode cX11_tried 10 = .ok (.ifCond .ge 5, 3) := dc_156 (sg_at zd_dX11_tried_0 6 rfl rfl) rfl
theorem dX11_tried_13 : decode cX11_tried 13 = .ok (.iconst (-1), 1) := dc_2 (sg_at zd_dX11_tried_0 7 rfl rfl)
theorem dX11_tried_14 : decode cX11_tried 14 = .ok (.ireturn, 1) := dc_172 (sg_at zd_dX11_tried_0 8 rfl rfl)
theorem dX11_tried_15 : decode cX11_tried 15 = .ok (.iload_n 1, 1) := dc_27 (sg_at zd_dX11_tried_0 9 rfl rfl)
theorem dX11_tried_16 : decode cX11_tried 16 = .ok (.iconst 1, 1) := dc_4 (sg_at zd_dX11_tried_0 10 rfl rfl)
theorem dX11_tried_17 : decode cX11_tried 17 = .ok (.if_icmp .eq 8, 3) := dc_159 (sg_at zd_dX11_tried_0 11 rfl rfl) rfl
theorem dX11_tried_20 : decode cX11_tried 20 = .ok (.iload_n 1, 1) := dc_27 (sg_at zd_dX11_tried_0 12 rfl rfl)
theorem dX11_tried_21 : decode cX11_tried 21 = .ok (.iconst 4, 1) := dc_7 (sg_at zd_dX11_tried_0 13 rfl rfl)
theorem dX11_tried_22 : decode cX11_tried 22 = .ok (.if_icmp .ne 7, 3) := dc_160 (sg_at zd_dX11_tried_0 14 rfl rfl) rfl
theorem dX11_tried_25 : decode cX11_tried 25 = .ok (.iconst 1, 1) := dc_4 (sg_at zd_dX11_tried_0 15 rfl rfl)
theorem dX11_tried_26 : decode cX11_tried 26 = .ok (.goto 4, 3) := dc_167 (sg_at zd_dX11_tried_0 16 rfl rfl) rfl
theorem dX11_tried_29 : decode cX11_tried 29 = .ok (.iconst 0, 1) := dc_3 (sg_at zd_dX11_tried_0 17 rfl rfl)
theorem dX11_tried_30 : decode cX11_tried 30 = .ok (.istore 4, 2) := dc_54 (sg_at zd_dX11_tried_0 18 rfl rfl)
theorem dX11_tried_32 : decode cX11_tried 32 = .ok (.iload 4, 2) := dc_21 (sg_at zd_dX11_tried_0 19 rfl rfl)
theorem zd_dX11_tried_34 : sg (cX11_tried.data.toList.drop 34) [[153, 0, 14], [42], [28], [182, 0, 115], [154, 0, 12], [167, 0, 7], [28], [153, 0, 5], [2], [172], [42], [180, 0, 51], [42], [180, 0, 47], [42], [180, 0, 47], [180, 0, 217], [29], [182, 1, 97], [42]] = true := by decide +kernel
theorem dX11_tried_34 : decode cX11_tried 34 = .ok (.ifCond .eq 14, 3) := dc_153 (sg_at zd_dX11_tried_34 0 rfl rfl) rfl
theorem dX11_tried_37 : decode cX11_tried 37 = .ok (.aload_n 0, 1) := dc_42 (sg_at zd_dX11_tried_34 1 rfl rfl)
theorem dX11_tried_38 : decode cX11_tried 38 = .ok (.iload_n 2, 1) := dc_28 (sg_at zd_dX11_tried_34 2 rfl rfl)
theorem dX11_tried_39 : decode cX11_tried 39 = .ok (.invokevirtual 115, 3) := dc_182 (sg_at zd_dX11_tried_34 3 rfl rfl) rfl
theorem dX11_tried_42 : decode cX11_tried 42 = .ok (.ifCond .ne 12, 3) := dc_154 (sg_at zd_dX11_tried_34 4 rfl rfl) rfl
theorem dX11_tried_45 : decode cX11_tried 45 = .ok (.goto 7, 3) := dc_167 (sg_at zd_dX11_tried_34 5 rfl rfl) rfl
theorem dX11_tried_48 : decode cX11_tried 48 = .ok (.iload_n 2, 1) := dc_28 (sg_at zd_dX11_tried_34 6 rfl rfl)
theorem dX11_tried_49 : decode cX11_tried 49 = .ok (.ifCond .eq 5, 3) := dc_153 (sg_at zd_dX11_tried_34 7 rfl rfl) rfl
theorem dX11_tried_52 : decode cX11_tried 52 = .ok (.iconst (-1), 1) := dc_2 (sg_at zd_dX11_tried_34 8 rfl rfl)
theorem dX11_tried_53 : decode cX11_tried 53 = .ok (.ireturn, 1) := dc_172 (sg_at zd_dX11_tried_34 9 rfl rfl)
theorem dX11_tried_54 : decode cX11_tried 54 = .ok (.aload_n 0, 1) := dc_42 (sg_at zd_dX11_tried_34 10 rfl rfl)
theorem dX11_tried_55 : decode cX11_tried 55 = .ok (.getfield 51, 3) := dc_180 (sg_at zd_dX11_tried_34 11 rfl rfl) rfl
theorem dX11_tried_58 : decode cX11_tried 58 = .ok (.aload_n 0, 1) := dc_42 (sg_at zd_dX11_tried_34 12 rfl rfl)
theorem dX11_tried_59 : decode cX11_tried 59 = .ok (.getfield 47, 3) := dc_180 (sg_at zd_dX11_tried_34 13 rfl rfl) rfl
theorem dX11_tried_62 : decode cX11_tried 62 = .ok (.aload_n 0, 1) := dc_42 (sg_at zd_dX11_tried_34 14 rfl rfl)
theorem dX11_tried_63 : decode cX11_tried 63 = .ok (.getfield 47, 3) := dc_180 (sg_at zd_dX11_tried_34 15 rfl rfl) rfl
theorem dX11_tried_66 : decode cX11_tried 66 = .ok (.getfield 217, 3) := dc_180 (sg_at zd_dX11_tried_34 16 rfl rfl) rfl
theorem dX11_tried_69 : decode cX11_tried 69 = .ok (.iload_n 3, 1) := dc_29 (sg_at zd_dX11_tried_34 17 rfl rfl)
theorem dX11_tried_70 : decode cX11_tried 70 = .ok (.invokevirtual 353, 3) := dc_182 (sg_at zd_dX11_tried_34 18 rfl rfl) rfl
theorem dX11_tried_73 : decode cX11_tried 73 = .ok (.aload_n 0, 1) := dc_42 (sg_at zd_dX11_tried_34 19 rfl rfl)
theorem zd_dX11_tried_74 : sg (cX11_tried.data.toList.drop 74) [[180, 0, 41], [42], [180, 0, 37], [182, 1, 101], [42], [27], [28], [182, 1, 105], [42], [182, 0, 233], [54, 5], [21, 5], [42], [180, 0, 18], [180, 0, 150], [180, 1, 43], [162, 0, 22], [42], [180, 0, 41], [42]] = true := by decide +kernel
theorem dX11_tried_74 : decode cX11_tried 74 = .ok (.getfield 41, 3) := dc_180 (sg_at zd_dX11_tried_74 0 rfl rfl) rfl
theorem dX11_tried_77 : decode cX11_tried 77 = .ok (.aload_n 0, 1) := dc_42 (sg_at zd_dX11_tried_74 1 rfl rfl)
theorem dX11_tried_78 : decode cX11_tried 78 = .ok (.getfield 37, 3) := dc_180 (sg_at zd_dX11_tried_74 2 rfl rfl) rfl
theorem dX11_tried_81 : decode cX11_tried 81 = .ok (.invokevirtual 357, 3) := dc_182 (sg_at zd_dX11_tried_74 3 rfl rfl) rfl
theorem dX11_tried_84 : decode cX11_tried 84 = .ok (.aload_n 0, 1) := dc_42 (sg_at zd_dX11_tried_74 4 rfl rfl)
theorem dX11_tried_85 : decode cX11_tried 85 = .ok (.iload_n 1, 1) := dc_27 (sg_at zd_dX11_tried_74 5 rfl rfl)
theorem dX11_tried_86 : decode cX11_tried 86 = .ok (.iload_n 2, 1) := dc_28 (sg_at zd_dX11_tried_74 6 rfl rfl)
theorem dX11_tried_87 : decode cX11_tried 87 = .ok (.invokevirtual 361, 3) := dc_182 (sg_at zd_dX11_tried_74 7 rfl rfl) rfl
theorem dX11_tried_90 : decode cX11_tried 90 = .ok (.aload_n 0, 1) := dc_42 (sg_at zd_dX11_tried_74 8 rfl rfl)
theorem dX11_tried_91 : decode cX11_tried 91 = .ok (.invokevirtual 233, 3) := dc_182 (sg_at zd_dX11_tried_74 9 rfl rfl) rfl
theorem dX11_tried_94 : decode cX11_tried 94 = .ok (.istore 5, 2) := dc_54 (sg_at zd_dX11_tried_74 10 rfl rfl)
theorem dX11_tried_96 : decode cX11_tried 96 = .ok (.iload 5, 2) := dc_21 (sg_at zd_dX11_tried_74 11 rfl rfl)
theorem dX11_tried_98 : decode cX11_tried 98 = .ok (.aload_n 0, 1) := dc_42 (sg_at zd_dX11_tried_74 12 rfl rfl)
theorem dX11_tried_99 : decode cX11_tried 99 = .ok (.getfield 18, 3) := dc_180 (sg_at zd_dX11_tried_74 13 rfl rfl) rfl
theorem dX11_tried_102 : decode cX11_tried 102 = .ok (.getfield 150, 3) := dc_180 (sg_at zd_dX11_tried_74 14 rfl rfl) rfl
theorem dX11_tried_105 : decode cX11_tried 105 = .ok (.getfield 299, 3) := dc_180 (sg_at zd_dX11_tried_74 15 rfl rfl) rfl
theorem dX11_tried_108 : decode cX11_tried 108 = .ok (.if_icmp .ge 22, 3) := dc_162 (sg_at zd_dX11_tried_74 16 rfl rfl) rfl
theorem dX11_tried_111 : decode cX11_tried 111 = .ok (.aload_n 0, 1) := dc_42 (sg_at zd_dX11_tried_74 17 rfl rfl)
theorem dX11_tried_112 : decode cX11_tried 112 = .ok (.getfield 41, 3) := dc_180 (sg_at zd_dX11_tried_74 18 rfl rfl) rfl
theorem dX11_tried_115 : decode cX11_tried 115 = .ok (.aload_n 0, 1) := dc_42 (sg_at zd_dX11_tried_74 19 rfl rfl)
theorem zd_dX11_tried_116 : sg (cX11_tried.data.toList.drop 116) [[180, 0, 51], [21, 5], [182, 1, 108], [132, 5, 1], [167, 255, 225], [42], [180, 0, 51], [42], [180, 0, 18], [180, 0, 102], [180, 0, 106], [182, 1, 61], [172]] = true := by decide +kernel
theorem dX11_tried_116 : decode cX11_tried 116 = .ok (.getfield 51, 3) := dc_180 (sg_at zd_dX11_tried_116 0 rfl rfl) rfl
theorem dX11_tried_119 : decode cX11_tried 119 = .ok (.iload 5, 2) := dc_21 (sg_at zd_dX11_tried_116 1 rfl rfl)
theorem dX11_tried_121 : decode cX11_tried 121 = .ok (.invokevirtual 364, 3) := dc_182 (sg_at zd_dX11_tried_116 2 rfl rfl) rfl
theorem dX11_tried_124 : decode cX11_tried 124 = .ok (.iinc 5 1, 3) := dc_132 (sg_at zd_dX11_tried_116 3 rfl rfl) rfl
theorem dX11_tried_127 : decode cX11_tried 127 = .ok (.goto (-31), 3) := dc_167 (sg_at zd_dX11_tried_116 4 rfl rfl) rfl
theorem dX11_tried_130 : decode cX11_tried 130 = .ok (.aload_n 0, 1) := dc_42 (sg_at zd_dX11_tried_116 5 rfl rfl)
theorem dX11_tried_131 : decode cX11_tried 131 = .ok (.getfield 51, 3) := dc_180 (sg_at zd_dX11_tried_116 6 rfl rfl) rfl
theorem dX11_tried_134 : decode cX11_tried 134 = .ok (.aload_n 0, 1) := dc_42 (sg_at zd_dX11_tried_116 7 rfl rfl)
theorem dX11_tried_135 : decode cX11_tried 135 = .ok (.getfield 18, 3) := dc_180 (sg_at zd_dX11_tried_116 8 rfl rfl) rfl
theorem dX11_tried_138 : decode cX11_tried 138 = .ok (.getfield 102, 3) := dc_180 (sg_at zd_dX11_tried_116 9 rfl rfl) rfl
theorem dX11_tried_141 : decode cX11_tried 141 = .ok (.getfield 106, 3) := dc_180 (sg_at zd_dX11_tried_116 10 rfl rfl) rfl
theorem dX11_tried_144 : decode cX11_tried 144 = .ok (.invokevirtual 317, 3) := dc_182 (sg_at zd_dX11_tried_116 11 rfl rfl) rfl
theorem dX11_tried_147 : decode cX11_tried 147 = .ok (.ireturn, 1) := dc_172 (sg_at zd_dX11_tried_116 12 rfl rfl)
theorem zd_dX11_undo_0 : sg (cX11_undo.data.toList.drop 0) [[42], [180, 0, 67], [180, 1, 112], [4], [162, 0, 5], [2], [172], [42], [180, 0, 67], [89], [180, 1, 112], [4], [100], [181, 1, 112], [42], [180, 0, 67], [180, 1, 113], [42], [180, 0, 67], [180, 1, 112]] = true := by decide +kernel
theorem dX11_undo_0 : decode cX11_undo 0 = .ok (.aload_n 0, 1) := dc_42 (sg_at zd_dX11_undo_0 0 rfl rfl)
theorem dX11_undo_1 : decode cX11_undo 1 = .ok (.getfield 67, 3) := dc_180 (sg_at zd_dX11_undo_0 1 rfl rfl) rfl
theorem dX11_undo_4 : decode cX11_undo 4 = .ok (.getfield 368, 3) := dc_180 (sg_at zd_dX11_undo_0 2 rfl rfl) rfl
theorem dX11_undo_7 : decode cX11_undo 7 = .ok (.iconst 1, 1) := dc_4 (sg_at zd_dX11_undo_0 3 rfl rfl)
theorem dX11_undo_8 : decode cX11_undo 8 = .ok (.if_icmp .ge 5, 3) := dc_162 (sg_at zd_dX11_undo_0 4 rfl rfl) rfl
theorem dX11_undo_11 : decode cX11_undo 11 = .ok (.iconst (-1), 1) := dc_2 (sg_at zd_dX11_undo_0 5 rfl rfl)
theorem dX11_undo_12 : decode cX11_undo 12 = .ok (.ireturn, 1) := dc_172 (sg_at zd_dX11_undo_0 6 rfl rfl)
theorem dX11_undo_13 : decode cX11_undo 13 = .ok (.aload_n 0, 1) := dc_42 (sg_at zd_dX11_undo_0 7 rfl rfl)
theorem dX11_undo_14 : decode cX11_undo 14 = .ok (.getfield 67, 3) := dc_180 (sg_at zd_dX11_undo_0 8 rfl rfl) rfl
theorem dX11_undo_17 : decode cX11_undo 17 = .ok (.dup, 1) := dc_89 (sg_at zd_dX11_undo_0 9 rfl rfl)
theorem dX11_undo_18 : decode cX11_undo 18 = .ok (.getfield 368, 3) := dc_180 (sg_at zd_dX11_undo_0 10 rfl rfl) rfl
theorem dX11_undo_21 : decode cX11_undo 21 = .ok (.iconst 1, 1) := dc_4 (sg_at zd_dX11_undo_0 11 rfl rfl)
theorem dX11_undo_22 : decode cX11_undo 22 = .ok (.isub, 1) := dc_100 (sg_at zd_dX11_undo_0 12 rfl rfl)
theorem dX11_undo_23 : decode cX11_undo 23 = .ok (.putfield 368, 3) := dc_181 (sg_at zd_dX11_undo_0 13 rfl rfl) rfl
theorem dX11_undo_26 : decode cX11_undo 26 = .ok (.aload_n 0, 1) := dc_42 (sg_at zd_dX11_undo_0 14 rfl rfl)
theorem dX11_undo_27 : decode cX11_undo 27 = .ok (.getfield 67, 3) := dc_180 (sg_at zd_dX11_undo_0 15 rfl rfl) rfl
theorem dX11_undo_30 : decode cX11_undo 30 = .ok (.getfield 369, 3) := dc_180 (sg_at zd_dX11_undo_0 16 rfl rfl) rfl
theorem dX11_undo_33 : decode cX11_undo 33 = .ok (.aload_n 0, 1) := dc_42 (sg_at zd_dX11_undo_0 17 rfl rfl)
theorem dX11_undo_34 : decode cX11_undo 34 = .ok (.getfield 67, 3) := dc_180 (sg_at zd_dX11_undo_0 18 rfl rfl) rfl
theorem dX11_undo_37 : decode cX11_undo 37 = .ok (.getfield 368, 3) := dc_180 (sg_at zd_dX11_undo_0 19 rfl rfl) rfl
theorem zd_dX11_undo_40 : sg (cX11_undo.data.toList.drop 40) [[46], [60], [42], [180, 0, 67], [180, 1, 114], [42], [180, 0, 67], [180, 1, 112], [46], [61], [27], [2], [160, 0, 14], [42], [180, 0, 47], [28], [181, 0, 217], [167, 0, 26], [42], [180, 0, 47]] = true := by decide +kernel
theorem dX11_undo_40 : decode cX11_undo 40 = .ok (.iaload, 1) := dc_46 (sg_at zd_dX11_undo_40 0 rfl rfl)
theorem dX11_undo_41 : decode cX11_undo 41 = .ok (.istore_n 1, 1) := dc_60 (sg_at zd_dX11_undo_40 1 rfl rfl)
theorem dX11_undo_42 : decode cX11_undo 42 = .ok (.aload_n 0, 1) := dc_42 (sg_at zd_dX11_undo_40 2 rfl rfl)
theorem dX11_undo_43 : decode cX11_undo 43 = .ok (.getfield 67, 3) := dc_180 (sg_at zd_dX11_undo_40 3 rfl rfl) rfl
theorem dX11_undo_46 : decode cX11_undo 46 = .ok (.getfield 370, 3) := dc_180 (sg_at zd_dX11_undo_40 4 rfl rfl) rfl
theorem dX11_undo_49 : decode cX11_undo 49 = .ok (.aload_n 0, 1) := dc_42 (sg_at zd_dX11_undo_40 5 rfl rfl)
theorem dX11_undo_50 : decode cX11_undo 50 = .ok (.getfield 67, 3) := dc_180 (sg_at zd_dX11_undo_40 6 rfl rfl) rfl
theorem dX11_undo_53 : decode cX11_undo 53 = .ok (.getfield 368, 3) := dc_180 (sg_at zd_dX11_undo_40 7 rfl rfl) rfl
theorem dX11_undo_56 : decode cX11_undo 56 = .ok (.iaload, 1) := dc_46 (sg_at zd_dX11_undo_40 8 rfl rfl)
theorem dX11_undo_57 : decode cX11_undo 57 = .ok (.istore_n 2, 1) := dc_61 (sg_at zd_dX11_undo_40 9 rfl rfl)
theorem dX11_undo_58 : decode cX11_undo 58 = .ok (.iload_n 1, 1) := dc_27 (sg_at zd_dX11_undo_40 10 rfl rfl)
theorem dX11_undo_59 : decode cX11_undo 59 = .ok (.iconst (-1), 1) := dc_2 (sg_at zd_dX11_undo_40 11 rfl rfl)
theorem dX11_undo_60 : decode cX11_undo 60 = .ok (.if_icmp .ne 14, 3) := dc_160 (sg_at zd_dX11_undo_40 12 rfl rfl) rfl
theorem dX11_undo_63 : decode cX11_undo 63 = .ok (.aload_n 0, 1) := dc_42 (sg_at zd_dX11_undo_40 13 rfl rfl)
theorem dX11_undo_64 : decode cX11_undo 64 = .ok (.getfield 47, 3) := dc_180 (sg_at zd_dX11_undo_40 14 rfl rfl) rfl
theorem dX11_undo_67 : decode cX11_undo 67 = .ok (.iload_n 2, 1) := dc_28 (sg_at zd_dX11_undo_40 15 rfl rfl)
theorem dX11_undo_68 : decode cX11_undo 68 = .ok (.putfield 217, 3) := dc_181 (sg_at zd_dX11_undo_40 16 rfl rfl) rfl
theorem dX11_undo_71 : decode cX11_undo 71 = .ok (.goto 26, 3) := dc_167 (sg_at zd_dX11_undo_40 17 rfl rfl) rfl
theorem dX11_undo_74 : decode cX11_undo 74 = .ok (.aload_n 0, 1) := dc_42 (sg_at zd_dX11_undo_40 18 rfl rfl)
theorem dX11_undo_75 : decode cX11_undo 75 = .ok (.getfield 47, 3) := dc_180 (sg_at zd_dX11_undo_40 19 rfl rfl) rfl
theorem zd_dX11_undo_78 : sg (cX11_undo.data.toList.drop 78) [[180, 0, 122], [27], [28], [79], [42], [180, 0, 47], [180, 0, 137], [27], [92], [46], [4], [100], [79], [42], [180, 0, 67], [180, 1, 112], [172]] = true := by decide +kernel
theorem dX11_undo_78 : decode cX11_undo 78 = .ok (.getfield 122, 3) := dc_180 (sg_at zd_dX11_undo_78 0 rfl rfl) rfl
theorem dX11_undo_81 : decode cX11_undo 81 = .ok (.iload_n 1, 1) := dc_27 (sg_at zd_dX11_undo_78 1 rfl rfl)
theorem dX11_undo_82 : decode cX11_undo 82 = .ok (.iload_n 2, 1) := dc_28 (sg_at zd_dX11_undo_78 2 rfl rfl)
theorem dX11_undo_83 : decode cX11_undo 83 = .ok (.iastore, 1) := dc_79 (sg_at zd_dX11_undo_78 3 rfl rfl)
theorem dX11_undo_84 : decode cX11_undo 84 = .ok (.aload_n 0, 1) := dc_42 (sg_at zd_dX11_undo_78 4 rfl rfl)
theorem dX11_undo_85 : decode cX11_undo 85 = .ok (.getfield 47, 3) := dc_180 (sg_at zd_dX11_undo_78 5 rfl rfl) rfl
theorem dX11_undo_88 : decode cX11_undo 88 = .ok (.getfield 137, 3) := dc_180 (sg_at zd_dX11_undo_78 6 rfl rfl) rfl
theorem dX11_undo_91 : decode cX11_undo 91 = .ok (.iload_n 1, 1) := dc_27 (sg_at zd_dX11_undo_78 7 rfl rfl)
theorem dX11_undo_92 : decode cX11_undo 92 = .ok (.dup2, 1) := dc_92 (sg_at zd_dX11_undo_78 8 rfl rfl)
theorem dX11_undo_93 : decode cX11_undo 93 = .ok (.iaload, 1) := dc_46 (sg_at zd_dX11_undo_78 9 rfl rfl)
theorem dX11_undo_94 : decode cX11_undo 94 = .ok (.iconst 1, 1) := dc_4 (sg_at zd_dX11_undo_78 10 rfl rfl)
theorem dX11_undo_95 : decode cX11_undo 95 = .ok (.isub, 1) := dc_100 (sg_at zd_dX11_undo_78 11 rfl rfl)
theorem dX11_undo_96 : decode cX11_undo 96 = .ok (.iastore, 1) := dc_79 (sg_at zd_dX11_undo_78 12 rfl rfl)
theorem dX11_undo_97 : decode cX11_undo 97 = .ok (.aload_n 0, 1) := dc_42 (sg_at zd_dX11_undo_78 13 rfl rfl)
theorem dX11_undo_98 : decode cX11_undo 98 = .ok (.getfield 67, 3) := dc_180 (sg_at zd_dX11_undo_78 14 rfl rfl) rfl
theorem dX11_undo_101 : decode cX11_undo 101 = .ok (.getfield 368, 3) := dc_180 (sg_at zd_dX11_undo_78 15 rfl rfl) rfl
theorem dX11_undo_104 : decode cX11_undo 104 = .ok (.ireturn, 1) := dc_172 (sg_at zd_dX11_undo_78 16 rfl rfl)
theorem zd_dX11_wave_0 : sg (cX11_wave.data.toList.drop 0) [[42], [27], [182, 0, 147], [154, 0, 6], [16, 252], [172], [28]] = true := by decide +kernel
theorem dX11_wave_0 : decode cX11_wave 0 = .ok (.aload_n 0, 1) := dc_42 (sg_at zd_dX11_wave_0 0 rfl rfl)
theorem dX11_wave_1 : decode cX11_wave 1 = .ok (.iload_n 1, 1) := dc_27 (sg_at zd_dX11_wave_0 1 rfl rfl)
theorem dX11_wave_2 : decode cX11_wave 2 = .ok (.invokevirtual 147, 3) := dc_182 (sg_at zd_dX11_wave_0 2 rfl rfl) rfl
theorem dX11_wave_5 : decode cX11_wave 5 = .ok (.ifCond .ne 6, 3) := dc_154 (sg_at zd_dX11_wave_0 3 rfl rfl) rfl
theorem dX11_wave_8 : decode cX11_wave 8 = .ok (.bipush (-4), 2) := dc_16 (sg_at zd_dX11_wave_0 4 rfl rfl) rfl
theorem dX11_wave_10 : decode cX11_wave 10 = .ok (.ireturn, 1) := dc_172 (sg_at zd_dX11_wave_0 5 rfl rfl)
theorem dX11_wave_11 : decode cX11_wave 11 = .ok (.iload_n 2, 1) := dc_28 (sg_at zd_dX11_wave_0 6 rfl rfl)
theorem dX11_wave_12 : decode cX11_wave 12 = .ok (.tableswitch 98 0 4 #[36, 49, 62, 75, 88], 36) := by decide +kernel
theorem zd_dX11_wave_48 : sg (cX11_wave.data.toList.drop 48) [[42], [180, 0, 18], [180, 0, 150], [180, 0, 154], [27], [46], [172], [42], [180, 0, 18], [180, 0, 150], [180, 0, 159], [27], [46], [172], [42], [180, 0, 18], [180, 0, 150], [180, 0, 161], [27], [46]] = true := by decide +kernel
theorem dX11_wave_48 : decode cX11_wave 48 = .ok (.aload_n 0, 1) := dc_42 (sg_at zd_dX11_wave_48 0 rfl rfl)
theorem dX11_wave_49 : decode cX11_wave 49 = .ok (.getfield 18, 3) := dc_180 (sg_at zd_dX11_wave_48 1 rfl rfl) rfl
theorem dX11_wave_52 : decode cX11_wave 52 = .ok (.getfield 150, 3) := dc_180 (sg_at zd_dX11_wave_48 2 rfl rfl) rfl
theorem dX11_wave_55 : decode cX11_wave 55 = .ok (.getfield 154, 3) := dc_180 (sg_at zd_dX11_wave_48 3 rfl rfl) rfl
theorem dX11_wave_58 : decode cX11_wave 58 = .ok (.iload_n 1, 1) := dc_27 (sg_at zd_dX11_wave_48 4 rfl rfl)
theorem dX11_wave_59 : decode cX11_wave 59 = .ok (.iaload, 1) := dc_46 (sg_at zd_dX11_wave_48 5 rfl rfl)
theorem dX11_wave_60 : decode cX11_wave 60 = .ok (.ireturn, 1) := dc_172 (sg_at zd_dX11_wave_48 6 rfl rfl)
theorem dX11_wave_61 : decode cX11_wave 61 = .ok (.aload_n 0, 1) := dc_42 (sg_at zd_dX11_wave_48 7 rfl rfl)
theorem dX11_wave_62 : decode cX11_wave 62 = .ok (.getfield 18, 3) := dc_180 (sg_at zd_dX11_wave_48 8 rfl rfl) rfl
theorem dX11_wave_65 : decode cX11_wave 65 = .ok (.getfield 150, 3) := dc_180 (sg_at zd_dX11_wave_48 9 rfl rfl) rfl
theorem dX11_wave_68 : decode cX11_wave 68 = .ok (.getfield 159, 3) := dc_180 (sg_at zd_dX11_wave_48 10 rfl rfl) rfl
theorem dX11_wave_71 : decode cX11_wave 71 = .ok (.iload_n 1, 1) := dc_27 (sg_at zd_dX11_wave_48 11 rfl rfl)
theorem dX11_wave_72 : decode cX11_wave 72 = .ok (.iaload, 1) := dc_46 (sg_at zd_dX11_wave_48 12 rfl rfl)
theorem dX11_wave_73 : decode cX11_wave 73 = .ok (.ireturn, 1) := dc_172 (sg_at zd_dX11_wave_48 13 rfl rfl)
theorem dX11_wave_74 : decode cX11_wave 74 = .ok (.aload_n 0, 1) := dc_42 (sg_at zd_dX11_wave_48 14 rfl rfl)
theorem dX11_wave_75 : decode cX11_wave 75 = .ok (.getfield 18, 3) := dc_180 (sg_at zd_dX11_wave_48 15 rfl rfl) rfl
theorem dX11_wave_78 : decode cX11_wave 78 = .ok (.getfield 150, 3) := dc_180 (sg_at zd_dX11_wave_48 16 rfl rfl) rfl
theorem dX11_wave_81 : decode cX11_wave 81 = .ok (.getfield 161, 3) := dc_180 (sg_at zd_dX11_wave_48 17 rfl rfl) rfl
theorem dX11_wave_84 : decode cX11_wave 84 = .ok (.iload_n 1, 1) := dc_27 (sg_at zd_dX11_wave_48 18 rfl rfl)
theorem dX11_wave_85 : decode cX11_wave 85 = .ok (.iaload, 1) := dc_46 (sg_at zd_dX11_wave_48 19 rfl rfl)
theorem zd_dX11_wave_86 : sg (cX11_wave.data.toList.drop 86) [[172], [42], [180, 0, 18], [180, 0, 150], [180, 0, 164], [27], [46], [172], [42], [180, 0, 47], [180, 0, 167], [27], [46], [172], [16, 252], [172]] = true := by decide +kernel
theorem dX11_wave_86 : decode cX11_wave 86 = .ok (.ireturn, 1) := dc_172 (sg_at zd_dX11_wave_86 0 rfl rfl)
theorem dX11_wave_87 : decode cX11_wave 87 = .ok (.aload_n 0, 1) := dc_42 (sg_at zd_dX11_wave_86 1 rfl rfl)
theorem dX11_wave_88 : decode cX11_wave 88 = .ok (.getfield 18, 3) := dc_180 (sg_at zd_dX11_wave_86 2 rfl rfl) rfl
theorem dX11_wave_91 : decode cX11_wave 91 = .ok (.getfield 150, 3) := dc_180 (sg_at zd_dX11_wave_86 3 rfl rfl) rfl
theorem dX11_wave_94 : decode cX11_wave 94 = .ok (.getfield 164, 3) := dc_180 (sg_at zd_dX11_wave_86 4 rfl rfl) rfl
theorem dX11_wave_97 : decode cX11_wave 97 = .ok (.iload_n 1, 1) := dc_27 (sg_at zd_dX11_wave_86 5 rfl rfl)
theorem dX11_wave_98 : decode cX11_wave 98 = .ok (.iaload, 1) := dc_46 (sg_at zd_dX11_wave_86 6 rfl rfl)
theorem dX11_wave_99 : decode cX11_wave 99 = .ok (.ireturn, 1) := dc_172 (sg_at zd_dX11_wave_86 7 rfl rfl)
theorem dX11_wave_100 : decode cX11_wave 100 = .ok (.aload_n 0, 1) := dc_42 (sg_at zd_dX11_wave_86 8 rfl rfl)
theorem dX11_wave_101 : decode cX11_wave 101 = .ok (.getfield 47, 3) := dc_180 (sg_at zd_dX11_wave_86 9 rfl rfl) rfl
theorem dX11_wave_104 : decode cX11_wave 104 = .ok (.getfield 167, 3) := dc_180 (sg_at zd_dX11_wave_86 10 rfl rfl) rfl
theorem dX11_wave_107 : decode cX11_wave 107 = .ok (.iload_n 1, 1) := dc_27 (sg_at zd_dX11_wave_86 11 rfl rfl)
theorem dX11_wave_108 : decode cX11_wave 108 = .ok (.iaload, 1) := dc_46 (sg_at zd_dX11_wave_86 12 rfl rfl)
theorem dX11_wave_109 : decode cX11_wave 109 = .ok (.ireturn, 1) := dc_172 (sg_at zd_dX11_wave_86 13 rfl rfl)
theorem dX11_wave_110 : decode cX11_wave 110 = .ok (.bipush (-4), 2) := dc_16 (sg_at zd_dX11_wave_86 14 rfl rfl) rfl
theorem dX11_wave_112 : decode cX11_wave 112 = .ok (.ireturn, 1) := dc_172 (sg_at zd_dX11_wave_86 15 rfl rfl)
theorem zd_dX12_layNames_0 : sg (cX12_layNames.data.toList.drop 0) [[42], [180, 0, 81], [3], [27], [133], [80], [42], [180, 0, 81], [4], [28], [133], [80], [42], [180, 0, 81], [5], [29], [133], [80], [42], [180, 0, 81]] = true := by decide +kernel
theorem dX12_layNames_0 : decode cX12_layNames 0 = .ok (.aload_n 0, 1) := dc_42 (sg_at zd_dX12_layNames_0 0 rfl rfl)
theorem dX12_layNames_1 : decode cX12_layNames 1 = .ok (.getfield 81, 3) := dc_180 (sg_at zd_dX12_layNames_0 1 rfl rfl) rfl
theorem dX12_layNames_4 : decode cX12_layNames 4 = .ok (.iconst 0, 1) := dc_3 (sg_at zd_dX12_layNames_0 2 rfl rfl)
theorem dX12_layNames_5 : decode cX12_layNames 5 = .ok (.iload_n 1, 1) := dc_27 (sg_at zd_dX12_layNames_0 3 rfl rfl)
theorem dX12_layNames_6 : decode cX12_layNames 6 = .ok (.i2l, 1) := dc_133 (sg_at zd_dX12_layNames_0 4 rfl rfl)
theorem dX12_layNames_7 : decode cX12_layNames 7 = .ok (.lastore, 1) := dc_80 (sg_at zd_dX12_layNames_0 5 rfl rfl)
theorem dX12_layNames_8 : decode cX12_layNames 8 = .ok (.aload_n 0, 1) := dc_42 (sg_at zd_dX12_layNames_0 6 rfl rfl)
theorem dX12_layNames_9 : decode cX12_layNames 9 = .ok (.getfield 81, 3) := dc_180 (sg_at zd_dX12_layNames_0 7 rfl rfl) rfl
theorem dX12_layNames_12 : decode cX12_layNames 12 = .ok (.iconst 1, 1) := dc_4 (sg_at zd_dX12_layNames_0 8 rfl rfl)
theorem dX12_layNames_13 : decode cX12_layNames 13 = .ok (.iload_n 2, 1) := dc_28 (sg_at zd_dX12_layNames_0 9 rfl rfl)
theorem dX12_layNames_14 : decode cX12_layNames 14 = .ok (.i2l, 1) := dc_133 (sg_at zd_dX12_layNames_0 10 rfl rfl)
theorem dX12_layNames_15 : decode cX12_layNames 15 = .ok (.lastore, 1) := dc_80 (sg_at zd_dX12_layNames_0 11 rfl rfl)
theorem dX12_layNames_16 : decode cX12_layNames 16 = .ok (.aload_n 0, 1) := dc_42 (sg_at zd_dX12_layNames_0 12 rfl rfl)
theorem dX12_layNames_17 : decode cX12_layNames 17 = .ok (.getfield 81, 3) := dc_180 (sg_at zd_dX12_layNames_0 13 rfl rfl) rfl
theorem dX12_layNames_20 : decode cX12_layNames 20 = .ok (.iconst 2, 1) := dc_5 (sg_at zd_dX12_layNames_0 14 rfl rfl)
theorem dX12_layNames_21 : decode cX12_layNames 21 = .ok (.iload_n 3, 1) := dc_29 (sg_at zd_dX12_layNames_0 15 rfl rfl)
theorem dX12_layNames_22 : decode cX12_layNames 22 = .ok (.i2l, 1) := dc_133 (sg_at zd_dX12_layNames_0 16 rfl rfl)
theorem dX12_layNames_23 : decode cX12_layNames 23 = .ok (.lastore, 1) := dc_80 (sg_at zd_dX12_layNames_0 17 rfl rfl)
theorem dX12_layNames_24 : decode cX12_layNames 24 = .ok (.aload_n 0, 1) := dc_42 (sg_at zd_dX12_layNames_0 18 rfl rfl)
theorem dX12_layNames_25 : decode cX12_layNames 25 = .ok (.getfield 81, 3) := dc_180 (sg_at zd_dX12_layNames_0 19 rfl rfl) rfl
theorem zd_dX12_layNames_28 : sg (cX12_layNames.data.toList.drop 28) [[6], [21, 4], [156, 0, 7], [9], [167, 0, 11], [42], [180, 0, 51], [21, 4], [46], [133], [80], [42], [180, 0, 81], [7], [21, 5], [133], [80], [42], [180, 0, 81], [8]] = true := by decide +kernel
theorem dX12_layNames_28 : decode cX12_layNames 28 = .ok (.iconst 3, 1) := dc_6 (sg_at zd_dX12_layNames_28 0 rfl rfl)
theorem dX12_layNames_29 : decode cX12_layNames 29 = .ok (.iload 4, 2) := dc_21 (sg_at zd_dX12_layNames_28 1 rfl rfl)
theorem dX12_layNames_31 : decode cX12_layNames 31 = .ok (.ifCond .ge 7, 3) := dc_156 (sg_at zd_dX12_layNames_28 2 rfl rfl) rfl
theorem dX12_layNames_34 : decode cX12_layNames 34 = .ok (.lconst 0, 1) := dc_9 (sg_at zd_dX12_layNames_28 3 rfl rfl)
theorem dX12_layNames_35 : decode cX12_layNames 35 = .ok (.goto 11, 3) := dc_167 (sg_at zd_dX12_layNames_28 4 rfl rfl) rfl
theorem dX12_layNames_38 : decode cX12_layNames 38 = .ok (.aload_n 0, 1) := dc_42 (sg_at zd_dX12_layNames_28 5 rfl rfl)
theorem dX12_layNames_39 : decode cX12_layNames 39 = .ok (.getfield 51, 3) := dc_180 (sg_at zd_dX12_layNames_28 6 rfl rfl) rfl
theorem dX12_layNames_42 : decode cX12_layNames 42 = .ok (.iload 4, 2) := dc_21 (sg_at zd_dX12_layNames_28 7 rfl rfl)
theorem dX12_layNames_44 : decode cX12_layNames 44 = .ok (.iaload, 1) := dc_46 (sg_at zd_dX12_layNames_28 8 rfl rfl)
theorem dX12_layNames_45 : decode cX12_layNames 45 = .ok (.i2l, 1) := dc_133 (sg_at zd_dX12_layNames_28 9 rfl rfl)
theorem dX12_layNames_46 : decode cX12_layNames 46 = .ok (.lastore, 1) := dc_80 (sg_at zd_dX12_layNames_28 10 rfl rfl)
theorem dX12_layNames_47 : decode cX12_layNames 47 = .ok (.aload_n 0, 1) := dc_42 (sg_at zd_dX12_layNames_28 11 rfl rfl)
theorem dX12_layNames_48 : decode cX12_layNames 48 = .ok (.getfield 81, 3) := dc_180 (sg_at zd_dX12_layNames_28 12 rfl rfl) rfl
theorem dX12_layNames_51 : decode cX12_layNames 51 = .ok (.iconst 4, 1) := dc_7 (sg_at zd_dX12_layNames_28 13 rfl rfl)
theorem dX12_layNames_52 : decode cX12_layNames 52 = .ok (.iload 5, 2) := dc_21 (sg_at zd_dX12_layNames_28 14 rfl rfl)
theorem dX12_layNames_54 : decode cX12_layNames 54 = .ok (.i2l, 1) := dc_133 (sg_at zd_dX12_layNames_28 15 rfl rfl)
theorem dX12_layNames_55 : decode cX12_layNames 55 = .ok (.lastore, 1) := dc_80 (sg_at zd_dX12_layNames_28 16 rfl rfl)
theorem dX12_layNames_56 : decode cX12_layNames 56 = .ok (.aload_n 0, 1) := dc_42 (sg_at zd_dX12_layNames_28 17 rfl rfl)
theorem dX12_layNames_57 : decode cX12_layNames 57 = .ok (.getfield 81, 3) := dc_180 (sg_at zd_dX12_layNames_28 18 rfl rfl) rfl
theorem dX12_layNames_60 : decode cX12_layNames 60 = .ok (.iconst 5, 1) := dc_8 (sg_at zd_dX12_layNames_28 19 rfl rfl)
theorem zd_dX12_layNames_61 : sg (cX12_layNames.data.toList.drop 61) [[21, 4], [156, 0, 7], [9], [167, 0, 21], [21, 4], [42], [180, 0, 45], [42], [180, 0, 54], [21, 4], [46], [46], [100], [4], [96], [133], [80], [177]] = true := by decide +kernel
theorem dX12_layNames_61 : decode cX12_layNames 61 = .ok (.iload 4, 2) := dc_21 (sg_at zd_dX12_layNames_61 0 rfl rfl)
theorem dX12_layNames_63 : decode cX12_layNames 63 = .ok (.ifCond .ge 7, 3) := dc_156 (sg_at zd_dX12_layNames_61 1 rfl rfl) rfl
theorem dX12_layNames_66 : decode cX12_layNames 66 = .ok (.lconst 0, 1) := dc_9 (sg_at zd_dX12_layNames_61 2 rfl rfl)
theorem dX12_layNames_67 : decode cX12_layNames 67 = .ok (.goto 21, 3) := dc_167 (sg_at zd_dX12_layNames_61 3 rfl rfl) rfl
theorem dX12_layNames_70 : decode cX12_layNames 70 = .ok (.iload 4, 2) := dc_21 (sg_at zd_dX12_layNames_61 4 rfl rfl)
theorem dX12_layNames_72 : decode cX12_layNames 72 = .ok (.aload_n 0, 1) := dc_42 (sg_at zd_dX12_layNames_61 5 rfl rfl)
theorem dX12_layNames_73 : decode cX12_layNames 73 = .ok (.getfield 45, 3) := dc_180 (sg_at zd_dX12_layNames_61 6 rfl rfl) rfl
theorem dX12_layNames_76 : decode cX12_layNames 76 = .ok (.aload_n 0, 1) := dc_42 (sg_at zd_dX12_layNames_61 7 rfl rfl)
theorem dX12_layNames_77 : decode cX12_layNames 77 = .ok (.getfield 54, 3) := dc_180 (sg_at zd_dX12_layNames_61 8 rfl rfl) rfl
theorem dX12_layNames_80 : decode cX12_layNames 80 = .ok (.iload 4, 2) := dc_21 (sg_at zd_dX12_layNames_61 9 rfl rfl)
theorem dX12_layNames_82 : decode cX12_layNames 82 = .ok (.iaload, 1) := dc_46 (sg_at zd_dX12_layNames_61 10 rfl rfl)
theorem dX12_layNames_83 : decode cX12_layNames 83 = .ok (.iaload, 1) := dc_46 (sg_at zd_dX12_layNames_61 11 rfl rfl)
theorem dX12_layNames_84 : decode cX12_layNames 84 = .ok (.isub, 1) := dc_100 (sg_at zd_dX12_layNames_61 12 rfl rfl)
theorem dX12_layNames_85 : decode cX12_layNames 85 = .ok (.iconst 1, 1) := dc_4 (sg_at zd_dX12_layNames_61 13 rfl rfl)
theorem dX12_layNames_86 : decode cX12_layNames 86 = .ok (.iadd, 1) := dc_96 (sg_at zd_dX12_layNames_61 14 rfl rfl)
theorem dX12_layNames_87 : decode cX12_layNames 87 = .ok (.i2l, 1) := dc_133 (sg_at zd_dX12_layNames_61 15 rfl rfl)
theorem dX12_layNames_88 : decode cX12_layNames 88 = .ok (.lastore, 1) := dc_80 (sg_at zd_dX12_layNames_61 16 rfl rfl)
theorem dX12_layNames_89 : decode cX12_layNames 89 = .ok (.return_, 1) := dc_177 (sg_at zd_dX12_layNames_61 17 rfl rfl)
theorem zd_dX12_bounded_0 : sg (cX12_bounded.data.toList.drop 0) [[42], [42], [180, 1, 91], [154, 0, 19], [31], [20, 1, 94], [148], [157, 0, 11], [31], [20, 1, 96], [148], [156, 0, 7], [4], [167, 0, 4], [3], [181, 1, 91], [42], [180, 1, 91], [153, 0, 7], [9]] = true := by decide +kernel
theorem dX12_bounded_0 : decode cX12_bounded 0 = .ok (.aload_n 0, 1) := dc_42 (sg_at zd_dX12_bounded_0 0 rfl rfl)
theorem dX12_bounded_1 : decode cX12_bounded 1 = .ok (.aload_n 0, 1) := dc_42 (sg_at zd_dX12_bounded_0 1 rfl rfl)
theorem dX12_bounded_2 : decode cX12_bounded 2 = .ok (.getfield 347, 3) := dc_180 (sg_at zd_dX12_bounded_0 2 rfl rfl) rfl
theorem dX12_bounded_5 : decode cX12_bounded 5 = .ok (.ifCond .ne 19, 3) := dc_154 (sg_at zd_dX12_bounded_0 3 rfl rfl) rfl
theorem dX12_bounded_8 : decode cX12_bounded 8 = .ok (.lload_n 1, 1) := dc_31 (sg_at zd_dX12_bounded_0 4 rfl rfl)
theorem dX12_bounded_9 : decode cX12_bounded 9 = .ok (.ldc2_w 350, 3) := dc_20 (sg_at zd_dX12_bounded_0 5 rfl rfl) rfl
theorem dX12_bounded_12 : decode cX12_bounded 12 = .ok (.lcmp, 1) := dc_148 (sg_at zd_dX12_bounded_0 6 rfl rfl)
theorem dX12_bounded_13 : decode cX12_bounded 13 = .ok (.ifCond .gt 11, 3) := dc_157 (sg_at zd_dX12_bounded_0 7 rfl rfl) rfl
theorem dX12_bounded_16 : decode cX12_bounded 16 = .ok (.lload_n 1, 1) := dc_31 (sg_at zd_dX12_bounded_0 8 rfl rfl)
theorem dX12_bounded_17 : decode cX12_bounded 17 = .ok (.ldc2_w 352, 3) := dc_20 (sg_at zd_dX12_bounded_0 9 rfl rfl) rfl
theorem dX12_bounded_20 : decode cX12_bounded 20 = .ok (.lcmp, 1) := dc_148 (sg_at zd_dX12_bounded_0 10 rfl rfl)
theorem dX12_bounded_21 : decode cX12_bounded 21 = .ok (.ifCond .ge 7, 3) := dc_156 (sg_at zd_dX12_bounded_0 11 rfl rfl) rfl
theorem dX12_bounded_24 : decode cX12_bounded 24 = .ok (.iconst 1, 1) := dc_4 (sg_at zd_dX12_bounded_0 12 rfl rfl)
theorem dX12_bounded_25 : decode cX12_bounded 25 = .ok (.goto 4, 3) := dc_167 (sg_at zd_dX12_bounded_0 13 rfl rfl) rfl
theorem dX12_bounded_28 : decode cX12_bounded 28 = .ok (.iconst 0, 1) := dc_3 (sg_at zd_dX12_bounded_0 14 rfl rfl)
theorem dX12_bounded_29 : decode cX12_bounded 29 = .ok (.putfield 347, 3) := dc_181 (sg_at zd_dX12_bounded_0 15 rfl rfl) rfl
theorem dX12_bounded_32 : decode cX12_bounded 32 = .ok (.aload_n 0, 1) := dc_42 (sg_at zd_dX12_bounded_0 16 rfl rfl)
theorem dX12_bounded_33 : decode cX12_bounded 33 = .ok (.getfield 347, 3) := dc_180 (sg_at zd_dX12_bounded_0 17 rfl rfl) rfl
theorem dX12_bounded_36 : decode cX12_bounded 36 = .ok (.ifCond .eq 7, 3) := dc_153 (sg_at zd_dX12_bounded_0 18 rfl rfl) rfl
theorem dX12_bounded_39 : decode cX12_bounded 39 = .ok (.lconst 0, 1) := dc_9 (sg_at zd_dX12_bounded_0 19 rfl rfl)
theorem zd_dX12_bounded_40 : sg (cX12_bounded.data.toList.drop 40) [[167, 0, 4], [31], [173]] = true := by decide +kernel
theorem dX12_bounded_40 : decode cX12_bounded 40 = .ok (.goto 4, 3) := dc_167 (sg_at zd_dX12_bounded_40 0 rfl rfl) rfl
theorem dX12_bounded_43 : decode cX12_bounded 43 = .ok (.lload_n 1, 1) := dc_31 (sg_at zd_dX12_bounded_40 1 rfl rfl)
theorem dX12_bounded_44 : decode cX12_bounded 44 = .ok (.lreturn, 1) := dc_173 (sg_at zd_dX12_bounded_40 2 rfl rfl)
theorem zd_dX12_times_0 : sg (cX12_times.data.toList.drop 0) [[31], [9], [148], [153, 0, 45], [33], [9], [148], [153, 0, 39], [33], [9], [148], [156, 0, 8], [33], [117], [167, 0, 4], [33], [20, 1, 94], [31], [9], [148]] = true := by decide +kernel
theorem dX12_times_0 : decode cX12_times 0 = .ok (.lload_n 1, 1) := dc_31 (sg_at zd_dX12_times_0 0 rfl rfl)
theorem dX12_times_1 : decode cX12_times 1 = .ok (.lconst 0, 1) := dc_9 (sg_at zd_dX12_times_0 1 rfl rfl)
theorem dX12_times_2 : decode cX12_times 2 = .ok (.lcmp, 1) := dc_148 (sg_at zd_dX12_times_0 2 rfl rfl)
theorem dX12_times_3 : decode cX12_times 3 = .ok (.ifCond .eq 45, 3) := dc_153 (sg_at zd_dX12_times_0 3 rfl rfl) rfl
theorem dX12_times_6 : decode cX12_times 6 = .ok (.lload_n 3, 1) := dc_33 (sg_at zd_dX12_times_0 4 rfl rfl)
theorem dX12_times_7 : decode cX12_times 7 = .ok (.lconst 0, 1) := dc_9 (sg_at zd_dX12_times_0 5 rfl rfl)
theorem dX12_times_8 : decode cX12_times 8 = .ok (.lcmp, 1) := dc_148 (sg_at zd_dX12_times_0 6 rfl rfl)
theorem dX12_times_9 : decode cX12_times 9 = .ok (.ifCond .eq 39, 3) := dc_153 (sg_at zd_dX12_times_0 7 rfl rfl) rfl
theorem dX12_times_12 : decode cX12_times 12 = .ok (.lload_n 3, 1) := dc_33 (sg_at zd_dX12_times_0 8 rfl rfl)
theorem dX12_times_13 : decode cX12_times 13 = .ok (.lconst 0, 1) := dc_9 (sg_at zd_dX12_times_0 9 rfl rfl)
theorem dX12_times_14 : decode cX12_times 14 = .ok (.lcmp, 1) := dc_148 (sg_at zd_dX12_times_0 10 rfl rfl)
theorem dX12_times_15 : decode cX12_times 15 = .ok (.ifCond .ge 8, 3) := dc_156 (sg_at zd_dX12_times_0 11 rfl rfl) rfl
theorem dX12_times_18 : decode cX12_times 18 = .ok (.lload_n 3, 1) := dc_33 (sg_at zd_dX12_times_0 12 rfl rfl)
theorem dX12_times_19 : decode cX12_times 19 = .ok (.lneg, 1) := dc_117 (sg_at zd_dX12_times_0 13 rfl rfl)
theorem dX12_times_20 : decode cX12_times 20 = .ok (.goto 4, 3) := dc_167 (sg_at zd_dX12_times_0 14 rfl rfl) rfl
theorem dX12_times_23 : decode cX12_times 23 = .ok (.lload_n 3, 1) := dc_33 (sg_at zd_dX12_times_0 15 rfl rfl)
theorem dX12_times_24 : decode cX12_times 24 = .ok (.ldc2_w 350, 3) := dc_20 (sg_at zd_dX12_times_0 16 rfl rfl) rfl
theorem dX12_times_27 : decode cX12_times 27 = .ok (.lload_n 1, 1) := dc_31 (sg_at zd_dX12_times_0 17 rfl rfl)
theorem dX12_times_28 : decode cX12_times 28 = .ok (.lconst 0, 1) := dc_9 (sg_at zd_dX12_times_0 18 rfl rfl)
theorem dX12_times_29 : decode cX12_times 29 = .ok (.lcmp, 1) := dc_148 (sg_at zd_dX12_times_0 19 rfl rfl)
theorem zd_dX12_times_30 : sg (cX12_times.data.toList.drop 30) [[156, 0, 8], [31], [117], [167, 0, 4], [31], [109], [148], [158, 0, 7], [4], [167, 0, 4], [3], [54, 5], [42], [42], [180, 1, 91], [154, 0, 8], [21, 5], [153, 0, 7], [4], [167, 0, 4]] = true := by decide +kernel
theorem dX12_times_30 : decode cX12_times 30 = .ok (.ifCond .ge 8, 3) := dc_156 (sg_at zd_dX12_times_30 0 rfl rfl) rfl
theorem dX12_times_33 : decode cX12_times 33 = .ok (.lload_n 1, 1) := dc_31 (sg_at zd_dX12_times_30 1 rfl rfl)
theorem dX12_times_34 : decode cX12_times 34 = .ok (.lneg, 1) := dc_117 (sg_at zd_dX12_times_30 2 rfl rfl)
theorem dX12_times_35 : decode cX12_times 35 = .ok (.goto 4, 3) := dc_167 (sg_at zd_dX12_times_30 3 rfl rfl) rfl
theorem dX12_times_38 : decode cX12_times 38 = .ok (.lload_n 1, 1) := dc_31 (sg_at zd_dX12_times_30 4 rfl rfl)
theorem dX12_times_39 : decode cX12_times 39 = .ok (.ldiv, 1) := dc_109 (sg_at zd_dX12_times_30 5 rfl rfl)
theorem dX12_times_40 : decode cX12_times 40 = .ok (.lcmp, 1) := dc_148 (sg_at zd_dX12_times_30 6 rfl rfl)
theorem dX12_times_41 : decode cX12_times 41 = .ok (.ifCond .le 7, 3) := dc_158 (sg_at zd_dX12_times_30 7 rfl rfl) rfl
theorem dX12_times_44 : decode cX12_times 44 = .ok (.iconst 1, 1) := dc_4 (sg_at zd_dX12_times_30 8 rfl rfl)
theorem dX12_times_45 : decode cX12_times 45 = .ok (.goto 4, 3) := dc_167 (sg_at zd_dX12_times_30 9 rfl rfl) rfl
theorem dX12_times_48 : decode cX12_times 48 = .ok (.iconst 0, 1) := dc_3 (sg_at zd_dX12_times_30 10 rfl rfl)
theorem dX12_times_49 : decode cX12_times 49 = .ok (.istore 5, 2) := dc_54 (sg_at zd_dX12_times_30 11 rfl rfl)
theorem dX12_times_51 : decode cX12_times 51 = .ok (.aload_n 0, 1) := dc_42 (sg_at zd_dX12_times_30 12 rfl rfl)
theorem dX12_times_52 : decode cX12_times 52 = .ok (.aload_n 0, 1) := dc_42 (sg_at zd_dX12_times_30 13 rfl rfl)
theorem dX12_times_53 : decode cX12_times 53 = .ok (.getfield 347, 3) := dc_180 (sg_at zd_dX12_times_30 14 rfl rfl) rfl
theorem dX12_times_56 : decode cX12_times 56 = .ok (.ifCond .ne 8, 3) := dc_154 (sg_at zd_dX12_times_30 15 rfl rfl) rfl
theorem dX12_times_59 : decode cX12_times 59 = .ok (.iload 5, 2) := dc_21 (sg_at zd_dX12_times_30 16 rfl rfl)
theorem dX12_times_61 : decode cX12_times 61 = .ok (.ifCond .eq 7, 3) := dc_153 (sg_at zd_dX12_times_30 17 rfl rfl) rfl
theorem dX12_times_64 : decode cX12_times 64 = .ok (.iconst 1, 1) := dc_4 (sg_at zd_dX12_times_30 18 rfl rfl)
theorem dX12_times_65 : decode cX12_times 65 = .ok (.goto 4, 3) := dc_167 (sg_at zd_dX12_times_30 19 rfl rfl) rfl
theorem zd_dX12_times_68 : sg (cX12_times.data.toList.drop 68) [[3], [181, 1, 91], [42], [180, 1, 91], [153, 0, 7], [9], [167, 0, 6], [31], [33], [105], [173]] = true := by decide +kernel
theorem dX12_times_68 : decode cX12_times 68 = .ok (.iconst 0, 1) := dc_3 (sg_at zd_dX12_times_68 0 rfl rfl)
theorem dX12_times_69 : decode cX12_times 69 = .ok (.putfield 347, 3) := dc_181 (sg_at zd_dX12_times_68 1 rfl rfl) rfl
theorem dX12_times_72 : decode cX12_times 72 = .ok (.aload_n 0, 1) := dc_42 (sg_at zd_dX12_times_68 2 rfl rfl)
theorem dX12_times_73 : decode cX12_times 73 = .ok (.getfield 347, 3) := dc_180 (sg_at zd_dX12_times_68 3 rfl rfl) rfl
theorem dX12_times_76 : decode cX12_times 76 = .ok (.ifCond .eq 7, 3) := dc_153 (sg_at zd_dX12_times_68 4 rfl rfl) rfl
theorem dX12_times_79 : decode cX12_times 79 = .ok (.lconst 0, 1) := dc_9 (sg_at zd_dX12_times_68 5 rfl rfl)
theorem dX12_times_80 : decode cX12_times 80 = .ok (.goto 6, 3) := dc_167 (sg_at zd_dX12_times_68 6 rfl rfl) rfl
theorem dX12_times_83 : decode cX12_times 83 = .ok (.lload_n 1, 1) := dc_31 (sg_at zd_dX12_times_68 7 rfl rfl)
theorem dX12_times_84 : decode cX12_times 84 = .ok (.lload_n 3, 1) := dc_33 (sg_at zd_dX12_times_68 8 rfl rfl)
theorem dX12_times_85 : decode cX12_times 85 = .ok (.lmul, 1) := dc_105 (sg_at zd_dX12_times_68 9 rfl rfl)
theorem dX12_times_86 : decode cX12_times 86 = .ok (.lreturn, 1) := dc_173 (sg_at zd_dX12_times_68 10 rfl rfl)
theorem zd_dX12_compares_0 : sg (cX12_compares.data.toList.drop 0) [[26]] = true := by decide +kernel
theorem dX12_compares_0 : decode cX12_compares 0 = .ok (.iload_n 0, 1) := dc_26 (sg_at zd_dX12_compares_0 0 rfl rfl)
theorem dX12_compares_1 : decode cX12_compares 1 = .ok (.tableswitch 95 5 9 #[35, 47, 59, 71, 83], 35) := by decide +kernel
theorem zd_dX12_compares_36 : sg (cX12_compares.data.toList.drop 36) [[31], [33], [148], [156, 0, 7], [4], [167, 0, 4], [3], [172], [31], [33], [148], [157, 0, 7], [4], [167, 0, 4], [3], [172], [31], [33], [148], [154, 0, 7]] = true := by decide +kernel
theorem dX12_compares_36 : decode cX12_compares 36 = .ok (.lload_n 1, 1) := dc_31 (sg_at zd_dX12_compares_36 0 rfl rfl)
theorem dX12_compares_37 : decode cX12_compares 37 = .ok (.lload_n 3, 1) := dc_33 (sg_at zd_dX12_compares_36 1 rfl rfl)
theorem dX12_compares_38 : decode cX12_compares 38 = .ok (.lcmp, 1) := dc_148 (sg_at zd_dX12_compares_36 2 rfl rfl)
theorem dX12_compares_39 : decode cX12_compares 39 = .ok (.ifCond .ge 7, 3) := dc_156 (sg_at zd_dX12_compares_36 3 rfl rfl) rfl
theorem dX12_compares_42 : decode cX12_compares 42 = .ok (.iconst 1, 1) := dc_4 (sg_at zd_dX12_compares_36 4 rfl rfl)
theorem dX12_compares_43 : decode cX12_compares 43 = .ok (.goto 4, 3) := dc_167 (sg_at zd_dX12_compares_36 5 rfl rfl) rfl
theorem dX12_compares_46 : decode cX12_compares 46 = .ok (.iconst 0, 1) := dc_3 (sg_at zd_dX12_compares_36 6 rfl rfl)
theorem dX12_compares_47 : decode cX12_compares 47 = .ok (.ireturn, 1) := dc_172 (sg_at zd_dX12_compares_36 7 rfl rfl)
theorem dX12_compares_48 : decode cX12_compares 48 = .ok (.lload_n 1, 1) := dc_31 (sg_at zd_dX12_compares_36 8 rfl rfl)
theorem dX12_compares_49 : decode cX12_compares 49 = .ok (.lload_n 3, 1) := dc_33 (sg_at zd_dX12_compares_36 9 rfl rfl)
theorem dX12_compares_50 : decode cX12_compares 50 = .ok (.lcmp, 1) := dc_148 (sg_at zd_dX12_compares_36 10 rfl rfl)
theorem dX12_compares_51 : decode cX12_compares 51 = .ok (.ifCond .gt 7, 3) := dc_157 (sg_at zd_dX12_compares_36 11 rfl rfl) rfl
theorem dX12_compares_54 : decode cX12_compares 54 = .ok (.iconst 1, 1) := dc_4 (sg_at zd_dX12_compares_36 12 rfl rfl)
theorem dX12_compares_55 : decode cX12_compares 55 = .ok (.goto 4, 3) := dc_167 (sg_at zd_dX12_compares_36 13 rfl rfl) rfl
theorem dX12_compares_58 : decode cX12_compares 58 = .ok (.iconst 0, 1) := dc_3 (sg_at zd_dX12_compares_36 14 rfl rfl)
theorem dX12_compares_59 : decode cX12_compares 59 = .ok (.ireturn, 1) := dc_172 (sg_at zd_dX12_compares_36 15 rfl rfl)
theorem dX12_compares_60 : decode cX12_compares 60 = .ok (.lload_n 1, 1) := dc_31 (sg_at zd_dX12_compares_36 16 rfl rfl)
theorem dX12_compares_61 : decode cX12_compares 61 = .ok (.lload_n 3, 1) := dc_33 (sg_at zd_dX12_compares_36 17 rfl rfl)
theorem dX12_compares_62 : decode cX12_compares 62 = .ok (.lcmp, 1) := dc_148 (sg_at zd_dX12_compares_36 18 rfl rfl)
theorem dX12_compares_63 : decode cX12_compares 63 = .ok (.ifCond .ne 7, 3) := dc_154 (sg_at zd_dX12_compares_36 19 rfl rfl) rfl
theorem zd_dX12_compares_66 : sg (cX12_compares.data.toList.drop 66) [[4], [167, 0, 4], [3], [172], [31], [33], [148], [153, 0, 7], [4], [167, 0, 4], [3], [172], [31], [33], [148], [155, 0, 7], [4], [167, 0, 4], [3], [172]] = true := by decide +kernel
theorem dX12_compares_66 : decode cX12_compares 66 = .ok (.iconst 1, 1) := dc_4 (sg_at zd_dX12_compares_66 0 rfl rfl)
theorem dX12_compares_67 : decode cX12_compares 67 = .ok (.goto 4, 3) := dc_167 (sg_at zd_dX12_compares_66 1 rfl rfl) rfl
theorem dX12_compares_70 : decode cX12_compares 70 = .ok (.iconst 0, 1) := dc_3 (sg_at zd_dX12_compares_66 2 rfl rfl)
theorem dX12_compares_71 : decode cX12_compares 71 = .ok (.ireturn, 1) := dc_172 (sg_at zd_dX12_compares_66 3 rfl rfl)
theorem dX12_compares_72 : decode cX12_compares 72 = .ok (.lload_n 1, 1) := dc_31 (sg_at zd_dX12_compares_66 4 rfl rfl)
theorem dX12_compares_73 : decode cX12_compares 73 = .ok (.lload_n 3, 1) := dc_33 (sg_at zd_dX12_compares_66 5 rfl rfl)
theorem dX12_compares_74 : decode cX12_compares 74 = .ok (.lcmp, 1) := dc_148 (sg_at zd_dX12_compares_66 6 rfl rfl)
theorem dX12_compares_75 : decode cX12_compares 75 = .ok (.ifCond .eq 7, 3) := dc_153 (sg_at zd_dX12_compares_66 7 rfl rfl) rfl
theorem dX12_compares_78 : decode cX12_compares 78 = .ok (.iconst 1, 1) := dc_4 (sg_at zd_dX12_compares_66 8 rfl rfl)
theorem dX12_compares_79 : decode cX12_compares 79 = .ok (.goto 4, 3) := dc_167 (sg_at zd_dX12_compares_66 9 rfl rfl) rfl
theorem dX12_compares_82 : decode cX12_compares 82 = .ok (.iconst 0, 1) := dc_3 (sg_at zd_dX12_compares_66 10 rfl rfl)
theorem dX12_compares_83 : decode cX12_compares 83 = .ok (.ireturn, 1) := dc_172 (sg_at zd_dX12_compares_66 11 rfl rfl)
theorem dX12_compares_84 : decode cX12_compares 84 = .ok (.lload_n 1, 1) := dc_31 (sg_at zd_dX12_compares_66 12 rfl rfl)
theorem dX12_compares_85 : decode cX12_compares 85 = .ok (.lload_n 3, 1) := dc_33 (sg_at zd_dX12_compares_66 13 rfl rfl)
theorem dX12_compares_86 : decode cX12_compares 86 = .ok (.lcmp, 1) := dc_148 (sg_at zd_dX12_compares_66 14 rfl rfl)
theorem dX12_compares_87 : decode cX12_compares 87 = .ok (.ifCond .lt 7, 3) := dc_155 (sg_at zd_dX12_compares_66 15 rfl rfl) rfl
theorem dX12_compares_90 : decode cX12_compares 90 = .ok (.iconst 1, 1) := dc_4 (sg_at zd_dX12_compares_66 16 rfl rfl)
theorem dX12_compares_91 : decode cX12_compares 91 = .ok (.goto 4, 3) := dc_167 (sg_at zd_dX12_compares_66 17 rfl rfl) rfl
theorem dX12_compares_94 : decode cX12_compares 94 = .ok (.iconst 0, 1) := dc_3 (sg_at zd_dX12_compares_66 18 rfl rfl)
theorem dX12_compares_95 : decode cX12_compares 95 = .ok (.ireturn, 1) := dc_172 (sg_at zd_dX12_compares_66 19 rfl rfl)
theorem zd_dX12_compares_96 : sg (cX12_compares.data.toList.drop 96) [[31], [33], [148], [158, 0, 7], [4], [167, 0, 4], [3], [172]] = true := by decide +kernel
theorem dX12_compares_96 : decode cX12_compares 96 = .ok (.lload_n 1, 1) := dc_31 (sg_at zd_dX12_compares_96 0 rfl rfl)
theorem dX12_compares_97 : decode cX12_compares 97 = .ok (.lload_n 3, 1) := dc_33 (sg_at zd_dX12_compares_96 1 rfl rfl)
theorem dX12_compares_98 : decode cX12_compares 98 = .ok (.lcmp, 1) := dc_148 (sg_at zd_dX12_compares_96 2 rfl rfl)
theorem dX12_compares_99 : decode cX12_compares 99 = .ok (.ifCond .le 7, 3) := dc_158 (sg_at zd_dX12_compares_96 3 rfl rfl) rfl
theorem dX12_compares_102 : decode cX12_compares 102 = .ok (.iconst 1, 1) := dc_4 (sg_at zd_dX12_compares_96 4 rfl rfl)
theorem dX12_compares_103 : decode cX12_compares 103 = .ok (.goto 4, 3) := dc_167 (sg_at zd_dX12_compares_96 5 rfl rfl) rfl
theorem dX12_compares_106 : decode cX12_compares 106 = .ok (.iconst 0, 1) := dc_3 (sg_at zd_dX12_compares_96 6 rfl rfl)
theorem dX12_compares_107 : decode cX12_compares 107 = .ok (.ireturn, 1) := dc_172 (sg_at zd_dX12_compares_96 7 rfl rfl)
theorem zd_dX12_valueOf_0 : sg (cX12_valueOf.data.toList.drop 0) [[42], [180, 0, 66], [27], [46], [154, 0, 11], [42], [180, 0, 69], [27], [46], [133], [173], [42], [180, 0, 66], [27], [46], [4], [160, 0, 15], [42], [180, 0, 81], [42]] = true := by decide +kernel
theorem dX12_valueOf_0 : decode cX12_valueOf 0 = .ok (.aload_n 0, 1) := dc_42 (sg_at zd_dX12_valueOf_0 0 rfl rfl)
theorem dX12_valueOf_1 : decode cX12_valueOf 1 = .ok (.getfield 66, 3) := dc_180 (sg_at zd_dX12_valueOf_0 1 rfl rfl) rfl
theorem dX12_valueOf_4 : decode cX12_valueOf 4 = .ok (.iload_n 1, 1) := dc_27 (sg_at zd_dX12_valueOf_0 2 rfl rfl)
theorem dX12_valueOf_5 : decode cX12_valueOf 5 = .ok (.iaload, 1) := dc_46 (sg_at zd_dX12_valueOf_0 3 rfl rfl)
theorem dX12_valueOf_6 : decode cX12_valueOf 6 = .ok (.ifCond .ne 11, 3) := dc_154 (sg_at zd_dX12_valueOf_0 4 rfl rfl) rfl
theorem dX12_valueOf_9 : decode cX12_valueOf 9 = .ok (.aload_n 0, 1) := dc_42 (sg_at zd_dX12_valueOf_0 5 rfl rfl)
theorem dX12_valueOf_10 : decode cX12_valueOf 10 = .ok (.getfield 69, 3) := dc_180 (sg_at zd_dX12_valueOf_0 6 rfl rfl) rfl
theorem dX12_valueOf_13 : decode cX12_valueOf 13 = .ok (.iload_n 1, 1) := dc_27 (sg_at zd_dX12_valueOf_0 7 rfl rfl)
theorem dX12_valueOf_14 : decode cX12_valueOf 14 = .ok (.iaload, 1) := dc_46 (sg_at zd_dX12_valueOf_0 8 rfl rfl)
theorem dX12_valueOf_15 : decode cX12_valueOf 15 = .ok (.i2l, 1) := dc_133 (sg_at zd_dX12_valueOf_0 9 rfl rfl)
theorem dX12_valueOf_16 : decode cX12_valueOf 16 = .ok (.lreturn, 1) := dc_173 (sg_at zd_dX12_valueOf_0 10 rfl rfl)
theorem dX12_valueOf_17 : decode cX12_valueOf 17 = .ok (.aload_n 0, 1) := dc_42 (sg_at zd_dX12_valueOf_0 11 rfl rfl)
theorem dX12_valueOf_18 : decode cX12_valueOf 18 = .ok (.getfield 66, 3) := dc_180 (sg_at zd_dX12_valueOf_0 12 rfl rfl) rfl
theorem dX12_valueOf_21 : decode cX12_valueOf 21 = .ok (.iload_n 1, 1) := dc_27 (sg_at zd_dX12_valueOf_0 13 rfl rfl)
theorem dX12_valueOf_22 : decode cX12_valueOf 22 = .ok (.iaload, 1) := dc_46 (sg_at zd_dX12_valueOf_0 14 rfl rfl)
theorem dX12_valueOf_23 : decode cX12_valueOf 23 = .ok (.iconst 1, 1) := dc_4 (sg_at zd_dX12_valueOf_0 15 rfl rfl)
theorem dX12_valueOf_24 : decode cX12_valueOf 24 = .ok (.if_icmp .ne 15, 3) := dc_160 (sg_at zd_dX12_valueOf_0 16 rfl rfl) rfl
theorem dX12_valueOf_27 : decode cX12_valueOf 27 = .ok (.aload_n 0, 1) := dc_42 (sg_at zd_dX12_valueOf_0 17 rfl rfl)
theorem dX12_valueOf_28 : decode cX12_valueOf 28 = .ok (.getfield 81, 3) := dc_180 (sg_at zd_dX12_valueOf_0 18 rfl rfl) rfl
theorem dX12_valueOf_31 : decode cX12_valueOf 31 = .ok (.aload_n 0, 1) := dc_42 (sg_at zd_dX12_valueOf_0 19 rfl rfl)
theorem zd_dX12_valueOf_32 : sg (cX12_valueOf.data.toList.drop 32) [[180, 0, 69], [27], [46], [47], [173], [42], [180, 0, 85], [42], [180, 0, 69], [27], [46], [47], [65], [42], [180, 0, 66], [27], [46], [5], [160, 0, 15], [32]] = true := by decide +kernel
theorem dX12_valueOf_32 : decode cX12_valueOf 32 = .ok (.getfield 69, 3) := dc_180 (sg_at zd_dX12_valueOf_32 0 rfl rfl) rfl
theorem dX12_valueOf_35 : decode cX12_valueOf 35 = .ok (.iload_n 1, 1) := dc_27 (sg_at zd_dX12_valueOf_32 1 rfl rfl)
theorem dX12_valueOf_36 : decode cX12_valueOf 36 = .ok (.iaload, 1) := dc_46 (sg_at zd_dX12_valueOf_32 2 rfl rfl)
theorem dX12_valueOf_37 : decode cX12_valueOf 37 = .ok (.laload, 1) := dc_47 (sg_at zd_dX12_valueOf_32 3 rfl rfl)
theorem dX12_valueOf_38 : decode cX12_valueOf 38 = .ok (.lreturn, 1) := dc_173 (sg_at zd_dX12_valueOf_32 4 rfl rfl)
theorem dX12_valueOf_39 : decode cX12_valueOf 39 = .ok (.aload_n 0, 1) := dc_42 (sg_at zd_dX12_valueOf_32 5 rfl rfl)
theorem dX12_valueOf_40 : decode cX12_valueOf 40 = .ok (.getfield 85, 3) := dc_180 (sg_at zd_dX12_valueOf_32 6 rfl rfl) rfl
theorem dX12_valueOf_43 : decode cX12_valueOf 43 = .ok (.aload_n 0, 1) := dc_42 (sg_at zd_dX12_valueOf_32 7 rfl rfl)
theorem dX12_valueOf_44 : decode cX12_valueOf 44 = .ok (.getfield 69, 3) := dc_180 (sg_at zd_dX12_valueOf_32 8 rfl rfl) rfl
theorem dX12_valueOf_47 : decode cX12_valueOf 47 = .ok (.iload_n 1, 1) := dc_27 (sg_at zd_dX12_valueOf_32 9 rfl rfl)
theorem dX12_valueOf_48 : decode cX12_valueOf 48 = .ok (.iaload, 1) := dc_46 (sg_at zd_dX12_valueOf_32 10 rfl rfl)
theorem dX12_valueOf_49 : decode cX12_valueOf 49 = .ok (.laload, 1) := dc_47 (sg_at zd_dX12_valueOf_32 11 rfl rfl)
theorem dX12_valueOf_50 : decode cX12_valueOf 50 = .ok (.lstore_n 2, 1) := dc_65 (sg_at zd_dX12_valueOf_32 12 rfl rfl)
theorem dX12_valueOf_51 : decode cX12_valueOf 51 = .ok (.aload_n 0, 1) := dc_42 (sg_at zd_dX12_valueOf_32 13 rfl rfl)
theorem dX12_valueOf_52 : decode cX12_valueOf 52 = .ok (.getfield 66, 3) := dc_180 (sg_at zd_dX12_valueOf_32 14 rfl rfl) rfl
theorem dX12_valueOf_55 : decode cX12_valueOf 55 = .ok (.iload_n 1, 1) := dc_27 (sg_at zd_dX12_valueOf_32 15 rfl rfl)
theorem dX12_valueOf_56 : decode cX12_valueOf 56 = .ok (.iaload, 1) := dc_46 (sg_at zd_dX12_valueOf_32 16 rfl rfl)
theorem dX12_valueOf_57 : decode cX12_valueOf 57 = .ok (.iconst 2, 1) := dc_5 (sg_at zd_dX12_valueOf_32 17 rfl rfl)
theorem dX12_valueOf_58 : decode cX12_valueOf 58 = .ok (.if_icmp .ne 15, 3) := dc_160 (sg_at zd_dX12_valueOf_32 18 rfl rfl) rfl
theorem dX12_valueOf_61 : decode cX12_valueOf 61 = .ok (.lload_n 2, 1) := dc_32 (sg_at zd_dX12_valueOf_32 19 rfl rfl)
theorem zd_dX12_valueOf_62 : sg (cX12_valueOf.data.toList.drop 62) [[9], [148], [154, 0, 7], [10], [167, 0, 4], [9], [173], [42], [180, 0, 85], [42], [180, 0, 72], [27], [46], [47], [55, 4], [42], [180, 0, 66], [27], [46]] = true := by decide +kernel
theorem dX12_valueOf_62 : decode cX12_valueOf 62 = .ok (.lconst 0, 1) := dc_9 (sg_at zd_dX12_valueOf_62 0 rfl rfl)
theorem dX12_valueOf_63 : decode cX12_valueOf 63 = .ok (.lcmp, 1) := dc_148 (sg_at zd_dX12_valueOf_62 1 rfl rfl)
theorem dX12_valueOf_64 : decode cX12_valueOf 64 = .ok (.ifCond .ne 7, 3) := dc_154 (sg_at zd_dX12_valueOf_62 2 rfl rfl) rfl
theorem dX12_valueOf_67 : decode cX12_valueOf 67 = .ok (.lconst 1, 1) := dc_10 (sg_at zd_dX12_valueOf_62 3 rfl rfl)
theorem dX12_valueOf_68 : decode cX12_valueOf 68 = .ok (.goto 4, 3) := dc_167 (sg_at zd_dX12_valueOf_62 4 rfl rfl) rfl
theorem dX12_valueOf_71 : decode cX12_valueOf 71 = .ok (.lconst 0, 1) := dc_9 (sg_at zd_dX12_valueOf_62 5 rfl rfl)
theorem dX12_valueOf_72 : decode cX12_valueOf 72 = .ok (.lreturn, 1) := dc_173 (sg_at zd_dX12_valueOf_62 6 rfl rfl)
theorem dX12_valueOf_73 : decode cX12_valueOf 73 = .ok (.aload_n 0, 1) := dc_42 (sg_at zd_dX12_valueOf_62 7 rfl rfl)
theorem dX12_valueOf_74 : decode cX12_valueOf 74 = .ok (.getfield 85, 3) := dc_180 (sg_at zd_dX12_valueOf_62 8 rfl rfl) rfl
theorem dX12_valueOf_77 : decode cX12_valueOf 77 = .ok (.aload_n 0, 1) := dc_42 (sg_at zd_dX12_valueOf_62 9 rfl rfl)
theorem dX12_valueOf_78 : decode cX12_valueOf 78 = .ok (.getfield 72, 3) := dc_180 (sg_at zd_dX12_valueOf_62 10 rfl rfl) rfl
theorem dX12_valueOf_81 : decode cX12_valueOf 81 = .ok (.iload_n 1, 1) := dc_27 (sg_at zd_dX12_valueOf_62 11 rfl rfl)
theorem dX12_valueOf_82 : decode cX12_valueOf 82 = .ok (.iaload, 1) := dc_46 (sg_at zd_dX12_valueOf_62 12 rfl rfl)
theorem dX12_valueOf_83 : decode cX12_valueOf 83 = .ok (.laload, 1) := dc_47 (sg_at zd_dX12_valueOf_62 13 rfl rfl)
theorem dX12_valueOf_84 : decode cX12_valueOf 84 = .ok (.lstore 4, 2) := dc_55 (sg_at zd_dX12_valueOf_62 14 rfl rfl)
theorem dX12_valueOf_86 : decode cX12_valueOf 86 = .ok (.aload_n 0, 1) := dc_42 (sg_at zd_dX12_valueOf_62 15 rfl rfl)
theorem dX12_valueOf_87 : decode cX12_valueOf 87 = .ok (.getfield 66, 3) := dc_180 (sg_at zd_dX12_valueOf_62 16 rfl rfl) rfl
theorem dX12_valueOf_90 : decode cX12_valueOf 90 = .ok (.iload_n 1, 1) := dc_27 (sg_at zd_dX12_valueOf_62 17 rfl rfl)
theorem dX12_valueOf_91 : decode cX12_valueOf 91 = .ok (.iaload, 1) := dc_46 (sg_at zd_dX12_valueOf_62 18 rfl rfl)
theorem dX12_valueOf_92 : decode cX12_valueOf 92 = .ok (.tableswitch 167 3 14 #[64, 83, 167, 167, 167, 167, 167, 167, 102, 111, 120, 128], 64) := by decide +kernel
theorem zd_dX12_valueOf_156 : sg (cX12_valueOf.data.toList.drop 156) [[32], [9], [148], [153, 0, 14], [22, 4], [9], [148], [153, 0, 7], [10], [167, 0, 4], [9], [173], [32], [9], [148], [154, 0, 10], [22, 4], [9], [148], [153, 0, 7]] = true := by decide +kernel
theorem dX12_valueOf_156 : decode cX12_valueOf 156 = .ok (.lload_n 2, 1) := dc_32 (sg_at zd_dX12_valueOf_156 0 rfl rfl)
theorem dX12_valueOf_157 : decode cX12_valueOf 157 = .ok (.lconst 0, 1) := dc_9 (sg_at zd_dX12_valueOf_156 1 rfl rfl)
theorem dX12_valueOf_158 : decode cX12_valueOf 158 = .ok (.lcmp, 1) := dc_148 (sg_at zd_dX12_valueOf_156 2 rfl rfl)
theorem dX12_valueOf_159 : decode cX12_valueOf 159 = .ok (.ifCond .eq 14, 3) := dc_153 (sg_at zd_dX12_valueOf_156 3 rfl rfl) rfl
theorem dX12_valueOf_162 : decode cX12_valueOf 162 = .ok (.lload 4, 2) := dc_22 (sg_at zd_dX12_valueOf_156 4 rfl rfl)
theorem dX12_valueOf_164 : decode cX12_valueOf 164 = .ok (.lconst 0, 1) := dc_9 (sg_at zd_dX12_valueOf_156 5 rfl rfl)
theorem dX12_valueOf_165 : decode cX12_valueOf 165 = .ok (.lcmp, 1) := dc_148 (sg_at zd_dX12_valueOf_156 6 rfl rfl)
theorem dX12_valueOf_166 : decode cX12_valueOf 166 = .ok (.ifCond .eq 7, 3) := dc_153 (sg_at zd_dX12_valueOf_156 7 rfl rfl) rfl
theorem dX12_valueOf_169 : decode cX12_valueOf 169 = .ok (.lconst 1, 1) := dc_10 (sg_at zd_dX12_valueOf_156 8 rfl rfl)
theorem dX12_valueOf_170 : decode cX12_valueOf 170 = .ok (.goto 4, 3) := dc_167 (sg_at zd_dX12_valueOf_156 9 rfl rfl) rfl
theorem dX12_valueOf_173 : decode cX12_valueOf 173 = .ok (.lconst 0, 1) := dc_9 (sg_at zd_dX12_valueOf_156 10 rfl rfl)
theorem dX12_valueOf_174 : decode cX12_valueOf 174 = .ok (.lreturn, 1) := dc_173 (sg_at zd_dX12_valueOf_156 11 rfl rfl)
theorem dX12_valueOf_175 : decode cX12_valueOf 175 = .ok (.lload_n 2, 1) := dc_32 (sg_at zd_dX12_valueOf_156 12 rfl rfl)
theorem dX12_valueOf_176 : decode cX12_valueOf 176 = .ok (.lconst 0, 1) := dc_9 (sg_at zd_dX12_valueOf_156 13 rfl rfl)
theorem dX12_valueOf_177 : decode cX12_valueOf 177 = .ok (.lcmp, 1) := dc_148 (sg_at zd_dX12_valueOf_156 14 rfl rfl)
theorem dX12_valueOf_178 : decode cX12_valueOf 178 = .ok (.ifCond .ne 10, 3) := dc_154 (sg_at zd_dX12_valueOf_156 15 rfl rfl) rfl
theorem dX12_valueOf_181 : decode cX12_valueOf 181 = .ok (.lload 4, 2) := dc_22 (sg_at zd_dX12_valueOf_156 16 rfl rfl)
theorem dX12_valueOf_183 : decode cX12_valueOf 183 = .ok (.lconst 0, 1) := dc_9 (sg_at zd_dX12_valueOf_156 17 rfl rfl)
theorem dX12_valueOf_184 : decode cX12_valueOf 184 = .ok (.lcmp, 1) := dc_148 (sg_at zd_dX12_valueOf_156 18 rfl rfl)
theorem dX12_valueOf_185 : decode cX12_valueOf 185 = .ok (.ifCond .eq 7, 3) := dc_153 (sg_at zd_dX12_valueOf_156 19 rfl rfl) rfl
theorem zd_dX12_valueOf_188 : sg (cX12_valueOf.data.toList.drop 188) [[10], [167, 0, 4], [9], [173], [42], [32], [22, 4], [97], [182, 1, 98], [173], [42], [32], [22, 4], [101], [182, 1, 98], [173], [42], [32], [22, 4], [182, 1, 102]] = true := by decide +kernel
theorem dX12_valueOf_188 : decode cX12_valueOf 188 = .ok (.lconst 1, 1) := dc_10 (sg_at zd_dX12_valueOf_188 0 rfl rfl)
theorem dX12_valueOf_189 : decode cX12_valueOf 189 = .ok (.goto 4, 3) := dc_167 (sg_at zd_dX12_valueOf_188 1 rfl rfl) rfl
theorem dX12_valueOf_192 : decode cX12_valueOf 192 = .ok (.lconst 0, 1) := dc_9 (sg_at zd_dX12_valueOf_188 2 rfl rfl)
theorem dX12_valueOf_193 : decode cX12_valueOf 193 = .ok (.lreturn, 1) := dc_173 (sg_at zd_dX12_valueOf_188 3 rfl rfl)
theorem dX12_valueOf_194 : decode cX12_valueOf 194 = .ok (.aload_n 0, 1) := dc_42 (sg_at zd_dX12_valueOf_188 4 rfl rfl)
theorem dX12_valueOf_195 : decode cX12_valueOf 195 = .ok (.lload_n 2, 1) := dc_32 (sg_at zd_dX12_valueOf_188 5 rfl rfl)
theorem dX12_valueOf_196 : decode cX12_valueOf 196 = .ok (.lload 4, 2) := dc_22 (sg_at zd_dX12_valueOf_188 6 rfl rfl)
theorem dX12_valueOf_198 : decode cX12_valueOf 198 = .ok (.ladd, 1) := dc_97 (sg_at zd_dX12_valueOf_188 7 rfl rfl)
theorem dX12_valueOf_199 : decode cX12_valueOf 199 = .ok (.invokevirtual 354, 3) := dc_182 (sg_at zd_dX12_valueOf_188 8 rfl rfl) rfl
theorem dX12_valueOf_202 : decode cX12_valueOf 202 = .ok (.lreturn, 1) := dc_173 (sg_at zd_dX12_valueOf_188 9 rfl rfl)
theorem dX12_valueOf_203 : decode cX12_valueOf 203 = .ok (.aload_n 0, 1) := dc_42 (sg_at zd_dX12_valueOf_188 10 rfl rfl)
theorem dX12_valueOf_204 : decode cX12_valueOf 204 = .ok (.lload_n 2, 1) := dc_32 (sg_at zd_dX12_valueOf_188 11 rfl rfl)
theorem dX12_valueOf_205 : decode cX12_valueOf 205 = .ok (.lload 4, 2) := dc_22 (sg_at zd_dX12_valueOf_188 12 rfl rfl)
theorem dX12_valueOf_207 : decode cX12_valueOf 207 = .ok (.lsub, 1) := dc_101 (sg_at zd_dX12_valueOf_188 13 rfl rfl)
theorem dX12_valueOf_208 : decode cX12_valueOf 208 = .ok (.invokevirtual 354, 3) := dc_182 (sg_at zd_dX12_valueOf_188 14 rfl rfl) rfl
theorem dX12_valueOf_211 : decode cX12_valueOf 211 = .ok (.lreturn, 1) := dc_173 (sg_at zd_dX12_valueOf_188 15 rfl rfl)
theorem dX12_valueOf_212 : decode cX12_valueOf 212 = .ok (.aload_n 0, 1) := dc_42 (sg_at zd_dX12_valueOf_188 16 rfl rfl)
theorem dX12_valueOf_213 : decode cX12_valueOf 213 = .ok (.lload_n 2, 1) := dc_32 (sg_at zd_dX12_valueOf_188 17 rfl rfl)
theorem dX12_valueOf_214 : decode cX12_valueOf 214 = .ok (.lload 4, 2) := dc_22 (sg_at zd_dX12_valueOf_188 18 rfl rfl)
theorem dX12_valueOf_216 : decode cX12_valueOf 216 = .ok (.invokevirtual 358, 3) := dc_182 (sg_at zd_dX12_valueOf_188 19 rfl rfl) rfl
theorem zd_dX12_valueOf_219 : sg (cX12_valueOf.data.toList.drop 219) [[173], [42], [42], [180, 1, 91], [154, 0, 10], [22, 4], [9], [148], [154, 0, 7], [4], [167, 0, 4], [3], [181, 1, 91], [42], [180, 1, 91], [153, 0, 7], [9], [167, 0, 7], [32], [22, 4]] = true := by decide +kernel
theorem dX12_valueOf_219 : decode cX12_valueOf 219 = .ok (.lreturn, 1) := dc_173 (sg_at zd_dX12_valueOf_219 0 rfl rfl)
theorem dX12_valueOf_220 : decode cX12_valueOf 220 = .ok (.aload_n 0, 1) := dc_42 (sg_at zd_dX12_valueOf_219 1 rfl rfl)
theorem dX12_valueOf_221 : decode cX12_valueOf 221 = .ok (.aload_n 0, 1) := dc_42 (sg_at zd_dX12_valueOf_219 2 rfl rfl)
theorem dX12_valueOf_222 : decode cX12_valueOf 222 = .ok (.getfield 347, 3) := dc_180 (sg_at zd_dX12_valueOf_219 3 rfl rfl) rfl
theorem dX12_valueOf_225 : decode cX12_valueOf 225 = .ok (.ifCond .ne 10, 3) := dc_154 (sg_at zd_dX12_valueOf_219 4 rfl rfl) rfl
theorem dX12_valueOf_228 : decode cX12_valueOf 228 = .ok (.lload 4, 2) := dc_22 (sg_at zd_dX12_valueOf_219 5 rfl rfl)
theorem dX12_valueOf_230 : decode cX12_valueOf 230 = .ok (.lconst 0, 1) := dc_9 (sg_at zd_dX12_valueOf_219 6 rfl rfl)
theorem dX12_valueOf_231 : decode cX12_valueOf 231 = .ok (.lcmp, 1) := dc_148 (sg_at zd_dX12_valueOf_219 7 rfl rfl)
theorem dX12_valueOf_232 : decode cX12_valueOf 232 = .ok (.ifCond .ne 7, 3) := dc_154 (sg_at zd_dX12_valueOf_219 8 rfl rfl) rfl
theorem dX12_valueOf_235 : decode cX12_valueOf 235 = .ok (.iconst 1, 1) := dc_4 (sg_at zd_dX12_valueOf_219 9 rfl rfl)
theorem dX12_valueOf_236 : decode cX12_valueOf 236 = .ok (.goto 4, 3) := dc_167 (sg_at zd_dX12_valueOf_219 10 rfl rfl) rfl
theorem dX12_valueOf_239 : decode cX12_valueOf 239 = .ok (.iconst 0, 1) := dc_3 (sg_at zd_dX12_valueOf_219 11 rfl rfl)
theorem dX12_valueOf_240 : decode cX12_valueOf 240 = .ok (.putfield 347, 3) := dc_181 (sg_at zd_dX12_valueOf_219 12 rfl rfl) rfl
theorem dX12_valueOf_243 : decode cX12_valueOf 243 = .ok (.aload_n 0, 1) := dc_42 (sg_at zd_dX12_valueOf_219 13 rfl rfl)
theorem dX12_valueOf_244 : decode cX12_valueOf 244 = .ok (.getfield 347, 3) := dc_180 (sg_at zd_dX12_valueOf_219 14 rfl rfl) rfl
theorem dX12_valueOf_247 : decode cX12_valueOf 247 = .ok (.ifCond .eq 7, 3) := dc_153 (sg_at zd_dX12_valueOf_219 15 rfl rfl) rfl
theorem dX12_valueOf_250 : decode cX12_valueOf 250 = .ok (.lconst 0, 1) := dc_9 (sg_at zd_dX12_valueOf_219 16 rfl rfl)
theorem dX12_valueOf_251 : decode cX12_valueOf 251 = .ok (.goto 7, 3) := dc_167 (sg_at zd_dX12_valueOf_219 17 rfl rfl) rfl
theorem dX12_valueOf_254 : decode cX12_valueOf 254 = .ok (.lload_n 2, 1) := dc_32 (sg_at zd_dX12_valueOf_219 18 rfl rfl)
theorem dX12_valueOf_255 : decode cX12_valueOf 255 = .ok (.lload 4, 2) := dc_22 (sg_at zd_dX12_valueOf_219 19 rfl rfl)
theorem zd_dX12_valueOf_257 : sg (cX12_valueOf.data.toList.drop 257) [[109], [173], [42], [180, 0, 66], [27], [46], [32], [22, 4], [184, 1, 106], [153, 0, 7], [10], [167, 0, 4], [9], [173]] = true := by decide +kernel
theorem dX12_valueOf_257 : decode cX12_valueOf 257 = .ok (.ldiv, 1) := dc_109 (sg_at zd_dX12_valueOf_257 0 rfl rfl)
theorem dX12_valueOf_258 : decode cX12_valueOf 258 = .ok (.lreturn, 1) := dc_173 (sg_at zd_dX12_valueOf_257 1 rfl rfl)
theorem dX12_valueOf_259 : decode cX12_valueOf 259 = .ok (.aload_n 0, 1) := dc_42 (sg_at zd_dX12_valueOf_257 2 rfl rfl)
theorem dX12_valueOf_260 : decode cX12_valueOf 260 = .ok (.getfield 66, 3) := dc_180 (sg_at zd_dX12_valueOf_257 3 rfl rfl) rfl
theorem dX12_valueOf_263 : decode cX12_valueOf 263 = .ok (.iload_n 1, 1) := dc_27 (sg_at zd_dX12_valueOf_257 4 rfl rfl)
theorem dX12_valueOf_264 : decode cX12_valueOf 264 = .ok (.iaload, 1) := dc_46 (sg_at zd_dX12_valueOf_257 5 rfl rfl)
theorem dX12_valueOf_265 : decode cX12_valueOf 265 = .ok (.lload_n 2, 1) := dc_32 (sg_at zd_dX12_valueOf_257 6 rfl rfl)
theorem dX12_valueOf_266 : decode cX12_valueOf 266 = .ok (.lload 4, 2) := dc_22 (sg_at zd_dX12_valueOf_257 7 rfl rfl)
theorem dX12_valueOf_268 : decode cX12_valueOf 268 = .ok (.invokestatic 362, 3) := dc_184 (sg_at zd_dX12_valueOf_257 8 rfl rfl) rfl
theorem dX12_valueOf_271 : decode cX12_valueOf 271 = .ok (.ifCond .eq 7, 3) := dc_153 (sg_at zd_dX12_valueOf_257 9 rfl rfl) rfl
theorem dX12_valueOf_274 : decode cX12_valueOf 274 = .ok (.lconst 1, 1) := dc_10 (sg_at zd_dX12_valueOf_257 10 rfl rfl)
theorem dX12_valueOf_275 : decode cX12_valueOf 275 = .ok (.goto 4, 3) := dc_167 (sg_at zd_dX12_valueOf_257 11 rfl rfl) rfl
theorem dX12_valueOf_278 : decode cX12_valueOf 278 = .ok (.lconst 0, 1) := dc_9 (sg_at zd_dX12_valueOf_257 12 rfl rfl)
theorem dX12_valueOf_279 : decode cX12_valueOf 279 = .ok (.lreturn, 1) := dc_173 (sg_at zd_dX12_valueOf_257 13 rfl rfl)
theorem zd_dX12_lawOf_0 : sg (cX12_lawOf.data.toList.drop 0) [[42], [3], [181, 1, 91], [42], [180, 0, 60], [27], [46], [61], [28], [42], [180, 0, 63], [27], [46], [162, 0, 20], [42], [180, 0, 85], [28], [42], [28], [182, 1, 129]] = true := by decide +kernel
theorem dX12_lawOf_0 : decode cX12_lawOf 0 = .ok (.aload_n 0, 1) := dc_42 (sg_at zd_dX12_lawOf_0 0 rfl rfl)
theorem dX12_lawOf_1 : decode cX12_lawOf 1 = .ok (.iconst 0, 1) := dc_3 (sg_at zd_dX12_lawOf_0 1 rfl rfl)
theorem dX12_lawOf_2 : decode cX12_lawOf 2 = .ok (.putfield 347, 3) := dc_181 (sg_at zd_dX12_lawOf_0 2 rfl rfl) rfl
theorem dX12_lawOf_5 : decode cX12_lawOf 5 = .ok (.aload_n 0, 1) := dc_42 (sg_at zd_dX12_lawOf_0 3 rfl rfl)
theorem dX12_lawOf_6 : decode cX12_lawOf 6 = .ok (.getfield 60, 3) := dc_180 (sg_at zd_dX12_lawOf_0 4 rfl rfl) rfl
theorem dX12_lawOf_9 : decode cX12_lawOf 9 = .ok (.iload_n 1, 1) := dc_27 (sg_at zd_dX12_lawOf_0 5 rfl rfl)
theorem dX12_lawOf_10 : decode cX12_lawOf 10 = .ok (.iaload, 1) := dc_46 (sg_at zd_dX12_lawOf_0 6 rfl rfl)
theorem dX12_lawOf_11 : decode cX12_lawOf 11 = .ok (.istore_n 2, 1) := dc_61 (sg_at zd_dX12_lawOf_0 7 rfl rfl)
theorem dX12_lawOf_12 : decode cX12_lawOf 12 = .ok (.iload_n 2, 1) := dc_28 (sg_at zd_dX12_lawOf_0 8 rfl rfl)
theorem dX12_lawOf_13 : decode cX12_lawOf 13 = .ok (.aload_n 0, 1) := dc_42 (sg_at zd_dX12_lawOf_0 9 rfl rfl)
theorem dX12_lawOf_14 : decode cX12_lawOf 14 = .ok (.getfield 63, 3) := dc_180 (sg_at zd_dX12_lawOf_0 10 rfl rfl) rfl
theorem dX12_lawOf_17 : decode cX12_lawOf 17 = .ok (.iload_n 1, 1) := dc_27 (sg_at zd_dX12_lawOf_0 11 rfl rfl)
theorem dX12_lawOf_18 : decode cX12_lawOf 18 = .ok (.iaload, 1) := dc_46 (sg_at zd_dX12_lawOf_0 12 rfl rfl)
theorem dX12_lawOf_19 : decode cX12_lawOf 19 = .ok (.if_icmp .ge 20, 3) := dc_162 (sg_at zd_dX12_lawOf_0 13 rfl rfl) rfl
theorem dX12_lawOf_22 : decode cX12_lawOf 22 = .ok (.aload_n 0, 1) := dc_42 (sg_at zd_dX12_lawOf_0 14 rfl rfl)
theorem dX12_lawOf_23 : decode cX12_lawOf 23 = .ok (.getfield 85, 3) := dc_180 (sg_at zd_dX12_lawOf_0 15 rfl rfl) rfl
theorem dX12_lawOf_26 : decode cX12_lawOf 26 = .ok (.iload_n 2, 1) := dc_28 (sg_at zd_dX12_lawOf_0 16 rfl rfl)
theorem dX12_lawOf_27 : decode cX12_lawOf 27 = .ok (.aload_n 0, 1) := dc_42 (sg_at zd_dX12_lawOf_0 17 rfl rfl)
theorem dX12_lawOf_28 : decode cX12_lawOf 28 = .ok (.iload_n 2, 1) := dc_28 (sg_at zd_dX12_lawOf_0 18 rfl rfl)
theorem dX12_lawOf_29 : decode cX12_lawOf 29 = .ok (.invokevirtual 385, 3) := dc_182 (sg_at zd_dX12_lawOf_0 19 rfl rfl) rfl
theorem zd_dX12_lawOf_32 : sg (cX12_lawOf.data.toList.drop 32) [[80], [132, 2, 1], [167, 255, 232], [42], [180, 1, 91], [153, 0, 7], [9], [167, 0, 16], [42], [180, 0, 85], [42], [180, 0, 63], [27], [46], [4], [100], [47], [173]] = true := by decide +kernel
theorem dX12_lawOf_32 : decode cX12_lawOf 32 = .ok (.lastore, 1) := dc_80 (sg_at zd_dX12_lawOf_32 0 rfl rfl)
theorem dX12_lawOf_33 : decode cX12_lawOf 33 = .ok (.iinc 2 1, 3) := dc_132 (sg_at zd_dX12_lawOf_32 1 rfl rfl) rfl
theorem dX12_lawOf_36 : decode cX12_lawOf 36 = .ok (.goto (-24), 3) := dc_167 (sg_at zd_dX12_lawOf_32 2 rfl rfl) rfl
theorem dX12_lawOf_39 : decode cX12_lawOf 39 = .ok (.aload_n 0, 1) := dc_42 (sg_at zd_dX12_lawOf_32 3 rfl rfl)
theorem dX12_lawOf_40 : decode cX12_lawOf 40 = .ok (.getfield 347, 3) := dc_180 (sg_at zd_dX12_lawOf_32 4 rfl rfl) rfl
theorem dX12_lawOf_43 : decode cX12_lawOf 43 = .ok (.ifCond .eq 7, 3) := dc_153 (sg_at zd_dX12_lawOf_32 5 rfl rfl) rfl
theorem dX12_lawOf_46 : decode cX12_lawOf 46 = .ok (.lconst 0, 1) := dc_9 (sg_at zd_dX12_lawOf_32 6 rfl rfl)
theorem dX12_lawOf_47 : decode cX12_lawOf 47 = .ok (.goto 16, 3) := dc_167 (sg_at zd_dX12_lawOf_32 7 rfl rfl) rfl
theorem dX12_lawOf_50 : decode cX12_lawOf 50 = .ok (.aload_n 0, 1) := dc_42 (sg_at zd_dX12_lawOf_32 8 rfl rfl)
theorem dX12_lawOf_51 : decode cX12_lawOf 51 = .ok (.getfield 85, 3) := dc_180 (sg_at zd_dX12_lawOf_32 9 rfl rfl) rfl
theorem dX12_lawOf_54 : decode cX12_lawOf 54 = .ok (.aload_n 0, 1) := dc_42 (sg_at zd_dX12_lawOf_32 10 rfl rfl)
theorem dX12_lawOf_55 : decode cX12_lawOf 55 = .ok (.getfield 63, 3) := dc_180 (sg_at zd_dX12_lawOf_32 11 rfl rfl) rfl
theorem dX12_lawOf_58 : decode cX12_lawOf 58 = .ok (.iload_n 1, 1) := dc_27 (sg_at zd_dX12_lawOf_32 12 rfl rfl)
theorem dX12_lawOf_59 : decode cX12_lawOf 59 = .ok (.iaload, 1) := dc_46 (sg_at zd_dX12_lawOf_32 13 rfl rfl)
theorem dX12_lawOf_60 : decode cX12_lawOf 60 = .ok (.iconst 1, 1) := dc_4 (sg_at zd_dX12_lawOf_32 14 rfl rfl)
theorem dX12_lawOf_61 : decode cX12_lawOf 61 = .ok (.isub, 1) := dc_100 (sg_at zd_dX12_lawOf_32 15 rfl rfl)
theorem dX12_lawOf_62 : decode cX12_lawOf 62 = .ok (.laload, 1) := dc_47 (sg_at zd_dX12_lawOf_32 16 rfl rfl)
theorem dX12_lawOf_63 : decode cX12_lawOf 63 = .ok (.lreturn, 1) := dc_173 (sg_at zd_dX12_lawOf_32 17 rfl rfl)
theorem zd_dX12_boundLaw_0 : sg (cX12_boundLaw.data.toList.drop 0) [[42], [180, 0, 57], [27], [51], [154, 0, 5], [28], [172], [42], [27], [182, 1, 133], [55, 5], [42], [180, 1, 91], [153, 0, 5], [28], [172], [22, 5], [29], [133], [148]] = true := by decide +kernel
theorem dX12_boundLaw_0 : decode cX12_boundLaw 0 = .ok (.aload_n 0, 1) := dc_42 (sg_at zd_dX12_boundLaw_0 0 rfl rfl)
theorem dX12_boundLaw_1 : decode cX12_boundLaw 1 = .ok (.getfield 57, 3) := dc_180 (sg_at zd_dX12_boundLaw_0 1 rfl rfl) rfl
theorem dX12_boundLaw_4 : decode cX12_boundLaw 4 = .ok (.iload_n 1, 1) := dc_27 (sg_at zd_dX12_boundLaw_0 2 rfl rfl)
theorem dX12_boundLaw_5 : decode cX12_boundLaw 5 = .ok (.baload, 1) := dc_51 (sg_at zd_dX12_boundLaw_0 3 rfl rfl)
theorem dX12_boundLaw_6 : decode cX12_boundLaw 6 = .ok (.ifCond .ne 5, 3) := dc_154 (sg_at zd_dX12_boundLaw_0 4 rfl rfl) rfl
theorem dX12_boundLaw_9 : decode cX12_boundLaw 9 = .ok (.iload_n 2, 1) := dc_28 (sg_at zd_dX12_boundLaw_0 5 rfl rfl)
theorem dX12_boundLaw_10 : decode cX12_boundLaw 10 = .ok (.ireturn, 1) := dc_172 (sg_at zd_dX12_boundLaw_0 6 rfl rfl)
theorem dX12_boundLaw_11 : decode cX12_boundLaw 11 = .ok (.aload_n 0, 1) := dc_42 (sg_at zd_dX12_boundLaw_0 7 rfl rfl)
theorem dX12_boundLaw_12 : decode cX12_boundLaw 12 = .ok (.iload_n 1, 1) := dc_27 (sg_at zd_dX12_boundLaw_0 8 rfl rfl)
theorem dX12_boundLaw_13 : decode cX12_boundLaw 13 = .ok (.invokevirtual 389, 3) := dc_182 (sg_at zd_dX12_boundLaw_0 9 rfl rfl) rfl
theorem dX12_boundLaw_16 : decode cX12_boundLaw 16 = .ok (.lstore 5, 2) := dc_55 (sg_at zd_dX12_boundLaw_0 10 rfl rfl)
theorem dX12_boundLaw_18 : decode cX12_boundLaw 18 = .ok (.aload_n 0, 1) := dc_42 (sg_at zd_dX12_boundLaw_0 11 rfl rfl)
theorem dX12_boundLaw_19 : decode cX12_boundLaw 19 = .ok (.getfield 347, 3) := dc_180 (sg_at zd_dX12_boundLaw_0 12 rfl rfl) rfl
theorem dX12_boundLaw_22 : decode cX12_boundLaw 22 = .ok (.ifCond .eq 5, 3) := dc_153 (sg_at zd_dX12_boundLaw_0 13 rfl rfl) rfl
theorem dX12_boundLaw_25 : decode cX12_boundLaw 25 = .ok (.iload_n 2, 1) := dc_28 (sg_at zd_dX12_boundLaw_0 14 rfl rfl)
theorem dX12_boundLaw_26 : decode cX12_boundLaw 26 = .ok (.ireturn, 1) := dc_172 (sg_at zd_dX12_boundLaw_0 15 rfl rfl)
theorem dX12_boundLaw_27 : decode cX12_boundLaw 27 = .ok (.lload 5, 2) := dc_22 (sg_at zd_dX12_boundLaw_0 16 rfl rfl)
theorem dX12_boundLaw_29 : decode cX12_boundLaw 29 = .ok (.iload_n 3, 1) := dc_29 (sg_at zd_dX12_boundLaw_0 17 rfl rfl)
theorem dX12_boundLaw_30 : decode cX12_boundLaw 30 = .ok (.i2l, 1) := dc_133 (sg_at zd_dX12_boundLaw_0 18 rfl rfl)
theorem dX12_boundLaw_31 : decode cX12_boundLaw 31 = .ok (.lcmp, 1) := dc_148 (sg_at zd_dX12_boundLaw_0 19 rfl rfl)
theorem zd_dX12_boundLaw_32 : sg (cX12_boundLaw.data.toList.drop 32) [[156, 0, 5], [29], [172], [22, 5], [21, 4], [133], [148], [158, 0, 8], [21, 4], [167, 0, 6], [22, 5], [136], [172]] = true := by decide +kernel
theorem dX12_boundLaw_32 : decode cX12_boundLaw 32 = .ok (.ifCond .ge 5, 3) := dc_156 (sg_at zd_dX12_boundLaw_32 0 rfl rfl) rfl
theorem dX12_boundLaw_35 : decode cX12_boundLaw 35 = .ok (.iload_n 3, 1) := dc_29 (sg_at zd_dX12_boundLaw_32 1 rfl rfl)
theorem dX12_boundLaw_36 : decode cX12_boundLaw 36 = .ok (.ireturn, 1) := dc_172 (sg_at zd_dX12_boundLaw_32 2 rfl rfl)
theorem dX12_boundLaw_37 : decode cX12_boundLaw 37 = .ok (.lload 5, 2) := dc_22 (sg_at zd_dX12_boundLaw_32 3 rfl rfl)
theorem dX12_boundLaw_39 : decode cX12_boundLaw 39 = .ok (.iload 4, 2) := dc_21 (sg_at zd_dX12_boundLaw_32 4 rfl rfl)
theorem dX12_boundLaw_41 : decode cX12_boundLaw 41 = .ok (.i2l, 1) := dc_133 (sg_at zd_dX12_boundLaw_32 5 rfl rfl)
theorem dX12_boundLaw_42 : decode cX12_boundLaw 42 = .ok (.lcmp, 1) := dc_148 (sg_at zd_dX12_boundLaw_32 6 rfl rfl)
theorem dX12_boundLaw_43 : decode cX12_boundLaw 43 = .ok (.ifCond .le 8, 3) := dc_158 (sg_at zd_dX12_boundLaw_32 7 rfl rfl) rfl
theorem dX12_boundLaw_46 : decode cX12_boundLaw 46 = .ok (.iload 4, 2) := dc_21 (sg_at zd_dX12_boundLaw_32 8 rfl rfl)
theorem dX12_boundLaw_48 : decode cX12_boundLaw 48 = .ok (.goto 6, 3) := dc_167 (sg_at zd_dX12_boundLaw_32 9 rfl rfl) rfl
theorem dX12_boundLaw_51 : decode cX12_boundLaw 51 = .ok (.lload 5, 2) := dc_22 (sg_at zd_dX12_boundLaw_32 10 rfl rfl)
theorem dX12_boundLaw_53 : decode cX12_boundLaw 53 = .ok (.l2i, 1) := dc_136 (sg_at zd_dX12_boundLaw_32 11 rfl rfl)
theorem dX12_boundLaw_54 : decode cX12_boundLaw 54 = .ok (.ireturn, 1) := dc_172 (sg_at zd_dX12_boundLaw_32 12 rfl rfl)
theorem zd_dX12_peakAt_0 : sg (cX12_peakAt.data.toList.drop 0) [[42], [3], [3], [3], [2], [27], [182, 1, 136], [42], [180, 0, 24], [3], [46], [42], [180, 0, 115], [5], [160, 0, 7], [3], [167, 0, 13], [42], [4], [3]] = true := by decide +kernel
theorem dX12_peakAt_0 : decode cX12_peakAt 0 = .ok (.aload_n 0, 1) := dc_42 (sg_at zd_dX12_peakAt_0 0 rfl rfl)
theorem dX12_peakAt_1 : decode cX12_peakAt 1 = .ok (.iconst 0, 1) := dc_3 (sg_at zd_dX12_peakAt_0 1 rfl rfl)
theorem dX12_peakAt_2 : decode cX12_peakAt 2 = .ok (.iconst 0, 1) := dc_3 (sg_at zd_dX12_peakAt_0 2 rfl rfl)
theorem dX12_peakAt_3 : decode cX12_peakAt 3 = .ok (.iconst 0, 1) := dc_3 (sg_at zd_dX12_peakAt_0 3 rfl rfl)
theorem dX12_peakAt_4 : decode cX12_peakAt 4 = .ok (.iconst (-1), 1) := dc_2 (sg_at zd_dX12_peakAt_0 4 rfl rfl)
theorem dX12_peakAt_5 : decode cX12_peakAt 5 = .ok (.iload_n 1, 1) := dc_27 (sg_at zd_dX12_peakAt_0 5 rfl rfl)
theorem dX12_peakAt_6 : decode cX12_peakAt 6 = .ok (.invokevirtual 392, 3) := dc_182 (sg_at zd_dX12_peakAt_0 6 rfl rfl) rfl
theorem dX12_peakAt_9 : decode cX12_peakAt 9 = .ok (.aload_n 0, 1) := dc_42 (sg_at zd_dX12_peakAt_0 7 rfl rfl)
theorem dX12_peakAt_10 : decode cX12_peakAt 10 = .ok (.getfield 24, 3) := dc_180 (sg_at zd_dX12_peakAt_0 8 rfl rfl) rfl
theorem dX12_peakAt_13 : decode cX12_peakAt 13 = .ok (.iconst 0, 1) := dc_3 (sg_at zd_dX12_peakAt_0 9 rfl rfl)
theorem dX12_peakAt_14 : decode cX12_peakAt 14 = .ok (.iaload, 1) := dc_46 (sg_at zd_dX12_peakAt_0 10 rfl rfl)
theorem dX12_peakAt_15 : decode cX12_peakAt 15 = .ok (.aload_n 0, 1) := dc_42 (sg_at zd_dX12_peakAt_0 11 rfl rfl)
theorem dX12_peakAt_16 : decode cX12_peakAt 16 = .ok (.getfield 115, 3) := dc_180 (sg_at zd_dX12_peakAt_0 12 rfl rfl) rfl
theorem dX12_peakAt_19 : decode cX12_peakAt 19 = .ok (.iconst 2, 1) := dc_5 (sg_at zd_dX12_peakAt_0 13 rfl rfl)
theorem dX12_peakAt_20 : decode cX12_peakAt 20 = .ok (.if_icmp .ne 7, 3) := dc_160 (sg_at zd_dX12_peakAt_0 14 rfl rfl) rfl
theorem dX12_peakAt_23 : decode cX12_peakAt 23 = .ok (.iconst 0, 1) := dc_3 (sg_at zd_dX12_peakAt_0 15 rfl rfl)
theorem dX12_peakAt_24 : decode cX12_peakAt 24 = .ok (.goto 13, 3) := dc_167 (sg_at zd_dX12_peakAt_0 16 rfl rfl) rfl
theorem dX12_peakAt_27 : decode cX12_peakAt 27 = .ok (.aload_n 0, 1) := dc_42 (sg_at zd_dX12_peakAt_0 17 rfl rfl)
theorem dX12_peakAt_28 : decode cX12_peakAt 28 = .ok (.iconst 1, 1) := dc_4 (sg_at zd_dX12_peakAt_0 18 rfl rfl)
theorem dX12_peakAt_29 : decode cX12_peakAt 29 = .ok (.iconst 0, 1) := dc_3 (sg_at zd_dX12_peakAt_0 19 rfl rfl)
theorem zd_dX12_peakAt_30 : sg (cX12_peakAt.data.toList.drop 30) [[16, 248], [16, 8], [182, 1, 140], [96], [61], [42], [180, 0, 241], [42], [180, 0, 24], [4], [46], [104], [28], [156, 0, 7], [3], [167, 0, 21], [28], [42], [180, 0, 241], [161, 0, 12]] = true := by decide +kernel
theorem dX12_peakAt_30 : decode cX12_peakAt 30 = .ok (.bipush (-8), 2) := dc_16 (sg_at zd_dX12_peakAt_30 0 rfl rfl) rfl
theorem dX12_peakAt_32 : decode cX12_peakAt 32 = .ok (.bipush 8, 2) := dc_16 (sg_at zd_dX12_peakAt_30 1 rfl rfl) rfl
theorem dX12_peakAt_34 : decode cX12_peakAt 34 = .ok (.invokevirtual 396, 3) := dc_182 (sg_at zd_dX12_peakAt_30 2 rfl rfl) rfl
theorem dX12_peakAt_37 : decode cX12_peakAt 37 = .ok (.iadd, 1) := dc_96 (sg_at zd_dX12_peakAt_30 3 rfl rfl)
theorem dX12_peakAt_38 : decode cX12_peakAt 38 = .ok (.istore_n 2, 1) := dc_61 (sg_at zd_dX12_peakAt_30 4 rfl rfl)
theorem dX12_peakAt_39 : decode cX12_peakAt 39 = .ok (.aload_n 0, 1) := dc_42 (sg_at zd_dX12_peakAt_30 5 rfl rfl)
theorem dX12_peakAt_40 : decode cX12_peakAt 40 = .ok (.getfield 241, 3) := dc_180 (sg_at zd_dX12_peakAt_30 6 rfl rfl) rfl
theorem dX12_peakAt_43 : decode cX12_peakAt 43 = .ok (.aload_n 0, 1) := dc_42 (sg_at zd_dX12_peakAt_30 7 rfl rfl)
theorem dX12_peakAt_44 : decode cX12_peakAt 44 = .ok (.getfield 24, 3) := dc_180 (sg_at zd_dX12_peakAt_30 8 rfl rfl) rfl
theorem dX12_peakAt_47 : decode cX12_peakAt 47 = .ok (.iconst 1, 1) := dc_4 (sg_at zd_dX12_peakAt_30 9 rfl rfl)
theorem dX12_peakAt_48 : decode cX12_peakAt 48 = .ok (.iaload, 1) := dc_46 (sg_at zd_dX12_peakAt_30 10 rfl rfl)
theorem dX12_peakAt_49 : decode cX12_peakAt 49 = .ok (.imul, 1) := dc_104 (sg_at zd_dX12_peakAt_30 11 rfl rfl)
theorem dX12_peakAt_50 : decode cX12_peakAt 50 = .ok (.iload_n 2, 1) := dc_28 (sg_at zd_dX12_peakAt_30 12 rfl rfl)
theorem dX12_peakAt_51 : decode cX12_peakAt 51 = .ok (.ifCond .ge 7, 3) := dc_156 (sg_at zd_dX12_peakAt_30 13 rfl rfl) rfl
theorem dX12_peakAt_54 : decode cX12_peakAt 54 = .ok (.iconst 0, 1) := dc_3 (sg_at zd_dX12_peakAt_30 14 rfl rfl)
theorem dX12_peakAt_55 : decode cX12_peakAt 55 = .ok (.goto 21, 3) := dc_167 (sg_at zd_dX12_peakAt_30 15 rfl rfl) rfl
theorem dX12_peakAt_58 : decode cX12_peakAt 58 = .ok (.iload_n 2, 1) := dc_28 (sg_at zd_dX12_peakAt_30 16 rfl rfl)
theorem dX12_peakAt_59 : decode cX12_peakAt 59 = .ok (.aload_n 0, 1) := dc_42 (sg_at zd_dX12_peakAt_30 17 rfl rfl)
theorem dX12_peakAt_60 : decode cX12_peakAt 60 = .ok (.getfield 241, 3) := dc_180 (sg_at zd_dX12_peakAt_30 18 rfl rfl) rfl
theorem dX12_peakAt_63 : decode cX12_peakAt 63 = .ok (.if_icmp .lt 12, 3) := dc_161 (sg_at zd_dX12_peakAt_30 19 rfl rfl) rfl
theorem zd_dX12_peakAt_66 : sg (cX12_peakAt.data.toList.drop 66) [[42], [180, 0, 241], [4], [100], [167, 0, 4], [28], [96], [172]] = true := by decide +kernel
theorem dX12_peakAt_66 : decode cX12_peakAt 66 = .ok (.aload_n 0, 1) := dc_42 (sg_at zd_dX12_peakAt_66 0 rfl rfl)
theorem dX12_peakAt_67 : decode cX12_peakAt 67 = .ok (.getfield 241, 3) := dc_180 (sg_at zd_dX12_peakAt_66 1 rfl rfl) rfl
theorem dX12_peakAt_70 : decode cX12_peakAt 70 = .ok (.iconst 1, 1) := dc_4 (sg_at zd_dX12_peakAt_66 2 rfl rfl)
theorem dX12_peakAt_71 : decode cX12_peakAt 71 = .ok (.isub, 1) := dc_100 (sg_at zd_dX12_peakAt_66 3 rfl rfl)
theorem dX12_peakAt_72 : decode cX12_peakAt 72 = .ok (.goto 4, 3) := dc_167 (sg_at zd_dX12_peakAt_66 4 rfl rfl) rfl
theorem dX12_peakAt_75 : decode cX12_peakAt 75 = .ok (.iload_n 2, 1) := dc_28 (sg_at zd_dX12_peakAt_66 5 rfl rfl)
theorem dX12_peakAt_76 : decode cX12_peakAt 76 = .ok (.iadd, 1) := dc_96 (sg_at zd_dX12_peakAt_66 6 rfl rfl)
theorem dX12_peakAt_77 : decode cX12_peakAt 77 = .ok (.ireturn, 1) := dc_172 (sg_at zd_dX12_peakAt_66 7 rfl rfl)
theorem zd_dX12_far_0 : sg (cX12_far.data.toList.drop 0) [[27], [42], [180, 0, 241], [112], [28], [42], [180, 0, 241], [112], [100], [62], [27], [42], [180, 0, 241], [108], [28], [42], [180, 0, 241], [108], [100], [54, 4]] = true := by decide +kernel
theorem dX12_far_0 : decode cX12_far 0 = .ok (.iload_n 1, 1) := dc_27 (sg_at zd_dX12_far_0 0 rfl rfl)
theorem dX12_far_1 : decode cX12_far 1 = .ok (.aload_n 0, 1) := dc_42 (sg_at zd_dX12_far_0 1 rfl rfl)
theorem dX12_far_2 : decode cX12_far 2 = .ok (.getfield 241, 3) := dc_180 (sg_at zd_dX12_far_0 2 rfl rfl) rfl
theorem dX12_far_5 : decode cX12_far 5 = .ok (.irem, 1) := dc_112 (sg_at zd_dX12_far_0 3 rfl rfl)
theorem dX12_far_6 : decode cX12_far 6 = .ok (.iload_n 2, 1) := dc_28 (sg_at zd_dX12_far_0 4 rfl rfl)
theorem dX12_far_7 : decode cX12_far 7 = .ok (.aload_n 0, 1) := dc_42 (sg_at zd_dX12_far_0 5 rfl rfl)
theorem dX12_far_8 : decode cX12_far 8 = .ok (.getfield 241, 3) := dc_180 (sg_at zd_dX12_far_0 6 rfl rfl) rfl
theorem dX12_far_11 : decode cX12_far 11 = .ok (.irem, 1) := dc_112 (sg_at zd_dX12_far_0 7 rfl rfl)
theorem dX12_far_12 : decode cX12_far 12 = .ok (.isub, 1) := dc_100 (sg_at zd_dX12_far_0 8 rfl rfl)
theorem dX12_far_13 : decode cX12_far 13 = .ok (.istore_n 3, 1) := dc_62 (sg_at zd_dX12_far_0 9 rfl rfl)
theorem dX12_far_14 : decode cX12_far 14 = .ok (.iload_n 1, 1) := dc_27 (sg_at zd_dX12_far_0 10 rfl rfl)
theorem dX12_far_15 : decode cX12_far 15 = .ok (.aload_n 0, 1) := dc_42 (sg_at zd_dX12_far_0 11 rfl rfl)
theorem dX12_far_16 : decode cX12_far 16 = .ok (.getfield 241, 3) := dc_180 (sg_at zd_dX12_far_0 12 rfl rfl) rfl
theorem dX12_far_19 : decode cX12_far 19 = .ok (.idiv, 1) := dc_108 (sg_at zd_dX12_far_0 13 rfl rfl)
theorem dX12_far_20 : decode cX12_far 20 = .ok (.iload_n 2, 1) := dc_28 (sg_at zd_dX12_far_0 14 rfl rfl)
theorem dX12_far_21 : decode cX12_far 21 = .ok (.aload_n 0, 1) := dc_42 (sg_at zd_dX12_far_0 15 rfl rfl)
theorem dX12_far_22 : decode cX12_far 22 = .ok (.getfield 241, 3) := dc_180 (sg_at zd_dX12_far_0 16 rfl rfl) rfl
theorem dX12_far_25 : decode cX12_far 25 = .ok (.idiv, 1) := dc_108 (sg_at zd_dX12_far_0 17 rfl rfl)
theorem dX12_far_26 : decode cX12_far 26 = .ok (.isub, 1) := dc_100 (sg_at zd_dX12_far_0 18 rfl rfl)
theorem dX12_far_27 : decode cX12_far 27 = .ok (.istore 4, 2) := dc_54 (sg_at zd_dX12_far_0 19 rfl rfl)
theorem zd_dX12_far_29 : sg (cX12_far.data.toList.drop 29) [[29], [156, 0, 8], [29], [116], [167, 0, 4], [29], [21, 4], [156, 0, 9], [21, 4], [116], [167, 0, 5], [21, 4], [96], [172]] = true := by decide +kernel
theorem dX12_far_29 : decode cX12_far 29 = .ok (.iload_n 3, 1) := dc_29 (sg_at zd_dX12_far_29 0 rfl rfl)
theorem dX12_far_30 : decode cX12_far 30 = .ok (.ifCond .ge 8, 3) := dc_156 (sg_at zd_dX12_far_29 1 rfl rfl) rfl
theorem dX12_far_33 : decode cX12_far 33 = .ok (.iload_n 3, 1) := dc_29 (sg_at zd_dX12_far_29 2 rfl rfl)
theorem dX12_far_34 : decode cX12_far 34 = .ok (.ineg, 1) := dc_116 (sg_at zd_dX12_far_29 3 rfl rfl)
theorem dX12_far_35 : decode cX12_far 35 = .ok (.goto 4, 3) := dc_167 (sg_at zd_dX12_far_29 4 rfl rfl) rfl
theorem dX12_far_38 : decode cX12_far 38 = .ok (.iload_n 3, 1) := dc_29 (sg_at zd_dX12_far_29 5 rfl rfl)
theorem dX12_far_39 : decode cX12_far 39 = .ok (.iload 4, 2) := dc_21 (sg_at zd_dX12_far_29 6 rfl rfl)
theorem dX12_far_41 : decode cX12_far 41 = .ok (.ifCond .ge 9, 3) := dc_156 (sg_at zd_dX12_far_29 7 rfl rfl) rfl
theorem dX12_far_44 : decode cX12_far 44 = .ok (.iload 4, 2) := dc_21 (sg_at zd_dX12_far_29 8 rfl rfl)
theorem dX12_far_46 : decode cX12_far 46 = .ok (.ineg, 1) := dc_116 (sg_at zd_dX12_far_29 9 rfl rfl)
theorem dX12_far_47 : decode cX12_far 47 = .ok (.goto 5, 3) := dc_167 (sg_at zd_dX12_far_29 10 rfl rfl) rfl
theorem dX12_far_50 : decode cX12_far 50 = .ok (.iload 4, 2) := dc_21 (sg_at zd_dX12_far_29 11 rfl rfl)
theorem dX12_far_52 : decode cX12_far 52 = .ok (.iadd, 1) := dc_96 (sg_at zd_dX12_far_29 12 rfl rfl)
theorem dX12_far_53 : decode cX12_far 53 = .ok (.ireturn, 1) := dc_172 (sg_at zd_dX12_far_29 13 rfl rfl)
section
variable {p : Program} {l : Launch} {e : Env} {s : State} {m : MethodId} {args : Array Value} {below : List Frame} {meth : Method} {c : Code} {D : va_G} {cy : Nat → ClassId} {b : Nat} {A : Nat → Prop} {fl : Bool}
def vX11_plan : List Cond := .code yX11_plan cX11_plan 2 (some .int) :: TB
theorem gX11_plan_X11_isSurfer : GoodIn vX11_plan (wsV RX11 115 RX11 yX11_isSurfer vX11_isSurfer) := gV_of wT_33_17 wT_33_18 wT_33_19 wT_1_2 wT_33_20
theorem lf11_plan_74 : Fl vX11_plan RX11 74 11 13 := ⟨RX11, TX11, 14, rfl, by decide, (fun w h9 => List.mem_cons_of_mem _ (wC_wsX110 w h9)), (List.mem_cons_of_mem _ wT_2_22)⟩
theorem lf11_plan_37 : Fl vX11_plan RX11 37 11 5 := ⟨RX11, TX11, 14, rfl, by decide, (fun w h9 => List.mem_cons_of_mem _ (wC_wsX110 w h9)), (List.mem_cons_of_mem _ wT_2_3)⟩
theorem lf11_plan_47 : Fl vX11_plan RX11 47 11 7 := ⟨RX11, TX11, 14, rfl, by decide, (fun w h9 => List.mem_cons_of_mem _ (wC_wsX110 w h9)), (List.mem_cons_of_mem _ wT_2_8)⟩
theorem gX11_plan_X0_makePlan : GoodIn vX11_plan (wsV RX11 262 RX0 yX0_makePlan vX0_makePlan) := gV_of wT_54_14 wT_54_15 wT_54_16 wT_2_21 wT_54_17
theorem lf11_plan_266 : Fl vX11_plan RX11 266 0 12 := ⟨RX0, TX0, 13, rfl, by decide, (fun w h9 => List.mem_cons_of_mem _ (wC_wsX00 w h9)), (List.mem_cons_of_mem _ wT_54_13)⟩
set_option maxHeartbeats 4000000 in
set_option maxRecDepth 100000 in
theorem T11_plan_0 (S : CallFix p m c cX11_plan 2 s args vX11_plan RX11) (hr : meth.sig.returnType = (some .int)) (hlo : meth.locks = false) {out : Int32 × PH} {h : PH} {a0 : Nat} {x1 : Int32} (f : F11_plan_0  h a0 x1 = some out) {H : Heap} {locs : List Loc} (I : ph_I D cy b A fl h s H locs) {ls : Array Slot} (hl : lv_has ls 2 [(0, .ref (b + a0)), (1, .int x1)]) : W p l e ({ frames := 6, cells := 0, slots := 0, locals := 153 } : Room) s m args below meth c H locs 0 0 (MQ below (va_Qi (fun (r : Int32) (u : PH) => (r, u) = out) (ph_B D cy b A fl) A) args s 0 0 A) (F0 m 0 ls []) := by
  unfold F11_plan_0 at f
  refine lv_aload_n S.1 S.2.1 dX11_plan_0 rfl (lv_at hl 0 rfl) ?_
  refine lv_iload_n S.1 S.2.1 dX11_plan_1 rfl (lv_at hl 1 rfl) ?_
  obtain ⟨o1, e2, f⟩ := ob f
  refine o_Vi S (As := [.int x1]) (rest := []) (ci := 11) (M11_isSurfer l D cy b A fl e2) gX11_plan_X11_isSurfer rfl rfl rfl cd11_isSurfer ⟨Nat.le_of_ble_eq_true rfl, Nat.le_of_ble_eq_true rfl⟩ I (gd e2).1 clX11 rfl rfl hl.1 rfl (Nat.le_of_ble_eq_true rfl) dX11_plan_2 ⟨Nat.le_of_ble_eq_true rfl, Nat.le_of_ble_eq_true rfl⟩ (fun H locs I => ?_)
  refine lv_if_ne (tgt := 10) S.1 S.2.1 dX11_plan_5 (by decide) (fun q3 => ?_) (fun q3 => ?_)
  · have f := (if_neg q3).symm.trans f
    refine lv_aload_n S.1 S.2.1 dX11_plan_10 rfl (lv_at hl 0 rfl) ?_
    obtain ⟨r4, e5, f⟩ := ob f
    refine o_gR S lf11_plan_74 I e5 dX11_plan_11 ?_
    refine lv_aload_n S.1 S.2.1 dX11_plan_14 rfl (lv_at hl 0 rfl) ?_
    obtain ⟨r6, e7, f⟩ := ob f
    refine o_gR S lf11_plan_37 I e7 dX11_plan_15 ?_
    refine lv_aload_n S.1 S.2.1 dX11_plan_18 rfl (lv_at hl 0 rfl) ?_
    obtain ⟨r8, e9, f⟩ := ob f
    refine o_gR S lf11_plan_47 I e9 dX11_plan_19 ?_
    refine lv_iload_n S.1 S.2.1 dX11_plan_22 rfl (lv_at hl 1 rfl) ?_
    obtain ⟨o10, e11, f⟩ := ob f
    refine o_Vv S (As := [.ref (b + r6), .ref (b + r8), .int x1]) (rest := []) (ci := 0) (M0_makePlan l D cy b A fl e11) gX11_plan_X0_makePlan rfl rfl rfl cd0_makePlan ⟨Nat.le_of_ble_eq_true rfl, Nat.le_of_ble_eq_true rfl⟩ I (gd e11).1 clX0 rfl rfl hl.1 rfl (Nat.le_of_ble_eq_true rfl) dX11_plan_23 ⟨Nat.le_of_ble_eq_true rfl, Nat.le_of_ble_eq_true rfl⟩ (fun H locs I => ?_)
    refine lv_aload_n S.1 S.2.1 dX11_plan_26 rfl (lv_at hl 0 rfl) ?_
    obtain ⟨r12, e13, f⟩ := ob f
    refine o_gR S lf11_plan_74 I e13 dX11_plan_27 ?_
    obtain ⟨v14, e15, f⟩ := ob f
    refine o_gI S lf11_plan_266 I e15 dX11_plan_30 ?_
    exact o_iret S hr hlo I f dX11_plan_33
  · have f := (if_pos q3).symm.trans f
    refine lv_iconst (v := (-1)) S.1 S.2.1 dX11_plan_8 (by decide) ?_
    exact o_iret S hr hlo I f dX11_plan_9
theorem M11_plan (l : Launch) (D : va_G) (cy : Nat → ClassId) (b : Nat) (A : Nat → Prop) (fl : Bool) {h : PH} {a0 : Nat} {x1 : Int32} {out : Int32 × PH} (f : F11_plan h a0 x1 = some out) : Met l yX11_plan vX11_plan ({ frames := 6, cells := 0, slots := 0, locals := 153 } : Room) (va_Pc [.ref (b + a0), .int x1] (ph_B D cy b A fl h)) (va_Qi (fun (r : Int32) (u : PH) => (r, u) = out) (ph_B D cy b A fl) A) 0 0 A :=
  o_met (by decide) rfl (Nat.le_of_ble_eq_true rfl) rfl (fun p e s m below meth c S hr hlo hnm ls hl I => T11_plan_0 S hr hlo ((gd f).2) I (lv_sub hl [0, 1] rfl))
def vX11_planned : List Cond := .code yX11_planned cX11_planned 3 (some .int) :: TB
theorem gX11_planned_X11_isSurfer : GoodIn vX11_planned (wsV RX11 115 RX11 yX11_isSurfer vX11_isSurfer) := gV_of wT_33_17 wT_33_18 wT_33_19 wT_1_2 wT_33_20
theorem lf11_planned_74 : Fl vX11_planned RX11 74 11 13 := ⟨RX11, TX11, 14, rfl, by decide, (fun w h9 => List.mem_cons_of_mem _ (wC_wsX110 w h9)), (List.mem_cons_of_mem _ wT_2_22)⟩
theorem lf11_planned_37 : Fl vX11_planned RX11 37 11 5 := ⟨RX11, TX11, 14, rfl, by decide, (fun w h9 => List.mem_cons_of_mem _ (wC_wsX110 w h9)), (List.mem_cons_of_mem _ wT_2_3)⟩
theorem lf11_planned_47 : Fl vX11_planned RX11 47 11 7 := ⟨RX11, TX11, 14, rfl, by decide, (fun w h9 => List.mem_cons_of_mem _ (wC_wsX110 w h9)), (List.mem_cons_of_mem _ wT_2_8)⟩
theorem gX11_planned_X0_makePlan : GoodIn vX11_planned (wsV RX11 262 RX0 yX0_makePlan vX0_makePlan) := gV_of wT_54_14 wT_54_15 wT_54_16 wT_2_21 wT_54_17
theorem lf11_planned_269 : Fl vX11_planned RX11 269 0 11 := ⟨RX0, TX0, 13, rfl, by decide, (fun w h9 => List.mem_cons_of_mem _ (wC_wsX00 w h9)), (List.mem_cons_of_mem _ wT_55_19)⟩
theorem lf11_planned_272 : Fl vX11_planned RX11 272 0 10 := ⟨RX0, TX0, 13, rfl, by decide, (fun w h9 => List.mem_cons_of_mem _ (wC_wsX00 w h9)), (List.mem_cons_of_mem _ wT_55_20)⟩
set_option maxHeartbeats 4000000 in
set_option maxRecDepth 100000 in
theorem T11_planned_0 (S : CallFix p m c cX11_planned 3 s args vX11_planned RX11) (hr : meth.sig.returnType = (some .int)) (hlo : meth.locks = false) {out : Int32 × PH} {h : PH} {a0 : Nat} {x1 : Int32} {x2 : Int32} (f : F11_planned_0  h a0 x1 x2 = some out) {H : Heap} {locs : List Loc} (I : ph_I D cy b A fl h s H locs) {ls : Array Slot} (hl : lv_has ls 3 [(0, .ref (b + a0)), (1, .int x1), (2, .int x2)]) : W p l e ({ frames := 6, cells := 0, slots := 0, locals := 153 } : Room) s m args below meth c H locs 0 0 (MQ below (va_Qi (fun (r : Int32) (u : PH) => (r, u) = out) (ph_B D cy b A fl) A) args s 0 0 A) (F0 m 0 ls []) := by
  unfold F11_planned_0 at f
  refine lv_aload_n S.1 S.2.1 dX11_planned_0 rfl (lv_at hl 0 rfl) ?_
  refine lv_iload_n S.1 S.2.1 dX11_planned_1 rfl (lv_at hl 1 rfl) ?_
  obtain ⟨o1, e2, f⟩ := ob f
  refine o_Vi S (As := [.int x1]) (rest := []) (ci := 11) (M11_isSurfer l D cy b A fl e2) gX11_planned_X11_isSurfer rfl rfl rfl cd11_isSurfer ⟨Nat.le_of_ble_eq_true rfl, Nat.le_of_ble_eq_true rfl⟩ I (gd e2).1 clX11 rfl rfl hl.1 rfl (Nat.le_of_ble_eq_true rfl) dX11_planned_2 ⟨Nat.le_of_ble_eq_true rfl, Nat.le_of_ble_eq_true rfl⟩ (fun H locs I => ?_)
  refine lv_if_eq (tgt := 12) S.1 S.2.1 dX11_planned_5 (by decide) (fun q3 => ?_) (fun q3 => ?_)
  · have f := (if_pos q3).symm.trans f
    refine lv_iconst (v := (-1)) S.1 S.2.1 dX11_planned_12 (by decide) ?_
    exact o_iret S hr hlo I f dX11_planned_13
  · have f := (if_neg q3).symm.trans f
    refine lv_iload_n S.1 S.2.1 dX11_planned_8 rfl (lv_at hl 2 rfl) ?_
    refine lv_if_ge (tgt := 14) S.1 S.2.1 dX11_planned_9 (by decide) (fun q4 => ?_) (fun q4 => ?_)
    · have f := (if_pos q4).symm.trans f
      refine lv_aload_n S.1 S.2.1 dX11_planned_14 rfl (lv_at hl 0 rfl) ?_
      obtain ⟨r5, e6, f⟩ := ob f
      refine o_gR S lf11_planned_74 I e6 dX11_planned_15 ?_
      refine lv_aload_n S.1 S.2.1 dX11_planned_18 rfl (lv_at hl 0 rfl) ?_
      obtain ⟨r7, e8, f⟩ := ob f
      refine o_gR S lf11_planned_37 I e8 dX11_planned_19 ?_
      refine lv_aload_n S.1 S.2.1 dX11_planned_22 rfl (lv_at hl 0 rfl) ?_
      obtain ⟨r9, e10, f⟩ := ob f
      refine o_gR S lf11_planned_47 I e10 dX11_planned_23 ?_
      refine lv_iload_n S.1 S.2.1 dX11_planned_26 rfl (lv_at hl 1 rfl) ?_
      obtain ⟨o11, e12, f⟩ := ob f
      refine o_Vv S (As := [.ref (b + r7), .ref (b + r9), .int x1]) (rest := []) (ci := 0) (M0_makePlan l D cy b A fl e12) gX11_planned_X0_makePlan rfl rfl rfl cd0_makePlan ⟨Nat.le_of_ble_eq_true rfl, Nat.le_of_ble_eq_true rfl⟩ I (gd e12).1 clX0 rfl rfl hl.1 rfl (Nat.le_of_ble_eq_true rfl) dX11_planned_27 ⟨Nat.le_of_ble_eq_true rfl, Nat.le_of_ble_eq_true rfl⟩ (fun H locs I => ?_)
      refine lv_iload_n S.1 S.2.1 dX11_planned_30 rfl (lv_at hl 2 rfl) ?_
      refine lv_aload_n S.1 S.2.1 dX11_planned_31 rfl (lv_at hl 0 rfl) ?_
      obtain ⟨r13, e14, f⟩ := ob f
      refine o_gR S lf11_planned_74 I e14 dX11_planned_32 ?_
      obtain ⟨v15, e16, f⟩ := ob f
      refine o_gI S lf11_planned_269 I e16 dX11_planned_35 ?_
      refine lv_icmp_ge (tgt := 53) S.1 S.2.1 dX11_planned_38 (by decide) (fun q17 => ?_) (fun q17 => ?_)
      · have f := (if_pos q17).symm.trans f
        refine lv_bipush (v := (-2)) S.1 S.2.1 dX11_planned_53 (by decide) ?_
        exact o_iret S hr hlo I f dX11_planned_55
      · have f := (if_neg q17).symm.trans f
        refine lv_aload_n S.1 S.2.1 dX11_planned_41 rfl (lv_at hl 0 rfl) ?_
        obtain ⟨r18, e19, f⟩ := ob f
        refine o_gR S lf11_planned_74 I e19 dX11_planned_42 ?_
        obtain ⟨r20, e21, f⟩ := ob f
        refine o_gR S lf11_planned_272 I e21 dX11_planned_45 ?_
        refine lv_iload_n S.1 S.2.1 dX11_planned_48 rfl (lv_at hl 2 rfl) ?_
        obtain ⟨v23, e22, f⟩ := ob f
        refine o_iald S I e22 dX11_planned_49 ?_
        refine lv_goto (tgt := 55) S.1 S.2.1 dX11_planned_50 (by decide) ?_
        exact o_iret S hr hlo I f dX11_planned_55
    · have f := (if_neg q4).symm.trans f
      refine lv_iconst (v := (-1)) S.1 S.2.1 dX11_planned_12 (by decide) ?_
      exact o_iret S hr hlo I f dX11_planned_13
theorem M11_planned (l : Launch) (D : va_G) (cy : Nat → ClassId) (b : Nat) (A : Nat → Prop) (fl : Bool) {h : PH} {a0 : Nat} {x1 : Int32} {x2 : Int32} {out : Int32 × PH} (f : F11_planned h a0 x1 x2 = some out) : Met l yX11_planned vX11_planned ({ frames := 6, cells := 0, slots := 0, locals := 153 } : Room) (va_Pc [.ref (b + a0), .int x1, .int x2] (ph_B D cy b A fl h)) (va_Qi (fun (r : Int32) (u : PH) => (r, u) = out) (ph_B D cy b A fl) A) 0 0 A :=
  o_met (by decide) rfl (Nat.le_of_ble_eq_true rfl) rfl (fun p e s m below meth c S hr hlo hnm ls hl I => T11_planned_0 S hr hlo ((gd f).2) I (lv_sub hl [0, 1, 2] rfl))
def vX11_rank : List Cond := .code yX11_rank cX11_rank 5 (some .int) :: TB
theorem lf11_rank_18 : Fl vX11_rank RX11 18 11 3 := ⟨RX11, TX11, 14, rfl, by decide, (fun w h9 => List.mem_cons_of_mem _ (wC_wsX110 w h9)), (List.mem_cons_of_mem _ wT_1_18)⟩
theorem lf11_rank_150 : Fl vX11_rank RX11 150 8 5 := ⟨RX8, TX8, 14, rfl, by decide, (fun w h9 => List.mem_cons_of_mem _ (wC_wsX80 w h9)), (List.mem_cons_of_mem _ wT_36_16)⟩
theorem lf11_rank_253 : Fl vX11_rank RX11 253 10 0 := ⟨RX10, TX10, 8, rfl, by decide, (fun w h9 => List.mem_cons_of_mem _ (wC_wsX100 w h9)), (List.mem_cons_of_mem _ wT_53_16)⟩
theorem gX11_rank_X10_lengthOf : GoodIn vX11_rank (wsV RX11 256 RX10 yX10_lengthOf vX10_lengthOf) := gV_of wT_53_17 wT_53_18 wT_53_19 wT_3_9 wT_53_20
theorem gX11_rank_X10_isLargest : GoodIn vX11_rank (wsV RX11 259 RX10 yX10_isLargest vX10_isLargest) := gV_of wT_53_21 wT_53_22 wT_53_23 wT_3_9 wT_54_0
set_option maxHeartbeats 4000000 in
set_option maxRecDepth 100000 in
theorem T11_rank_27 (S : CallFix p m c cX11_rank 5 s args vX11_rank RX11) (hr : meth.sig.returnType = (some .int)) (hlo : meth.locks = false) {out : Int32 × PH} : ∀ (n : Nat) {h : PH} {a0 : Nat} {x1 : Int32} {x2 : Int32} {x3 : Int32} {x4 : Int32} (f : F11_rank_27  n h a0 x1 x2 x3 x4 = some out) {H : Heap} {locs : List Loc} (I : ph_I D cy b A fl h s H locs) {ls : Array Slot} (hl : lv_has ls 5 [(0, .ref (b + a0)), (1, .int x1), (2, .int x2), (3, .int x3), (4, .int x4)]), W p l e ({ frames := 1, cells := 0, slots := 0, locals := 24 } : Room) s m args below meth c H locs 0 0 (MQ below (va_Qi (fun (r : Int32) (u : PH) => (r, u) = out) (ph_B D cy b A fl) A) args s 0 0 A) (F0 m 27 ls []) := by
  intro n
  induction n with
  | zero => intro h a0 x1 x2 x3 x4 f; rw [F11_rank_27] at f; cases f
  | succ n ih =>
    intro h a0 x1 x2 x3 x4 f H locs I ls hl
    rw [F11_rank_27] at f
    refine lv_iload S.1 S.2.1 dX11_rank_27 (lv_at hl 4 rfl) ?_
    refine lv_aload_n S.1 S.2.1 dX11_rank_29 rfl (lv_at hl 0 rfl) ?_
    obtain ⟨r1, e2, f⟩ := ob f
    refine o_gR S lf11_rank_18 I e2 dX11_rank_30 ?_
    obtain ⟨r3, e4, f⟩ := ob f
    refine o_gR S lf11_rank_150 I e4 dX11_rank_33 ?_
    obtain ⟨v5, e6, f⟩ := ob f
    refine o_gI S lf11_rank_253 I e6 dX11_rank_36 ?_
    refine lv_icmp_ge (tgt := 88) S.1 S.2.1 dX11_rank_39 (by decide) (fun q7 => ?_) (fun q7 => ?_)
    · have f := (if_pos q7).symm.trans f
      refine lv_iload_n S.1 S.2.1 dX11_rank_88 rfl (lv_at hl 3 rfl) ?_
      exact o_iret S hr hlo I f dX11_rank_89
    · have f := (if_neg q7).symm.trans f
      refine lv_aload_n S.1 S.2.1 dX11_rank_42 rfl (lv_at hl 0 rfl) ?_
      obtain ⟨r8, e9, f⟩ := ob f
      refine o_gR S lf11_rank_18 I e9 dX11_rank_43 ?_
      obtain ⟨r10, e11, f⟩ := ob f
      refine o_gR S lf11_rank_150 I e11 dX11_rank_46 ?_
      refine lv_iload S.1 S.2.1 dX11_rank_49 (lv_at hl 4 rfl) ?_
      obtain ⟨o12, e13, f⟩ := ob f
      refine o_Vi S (As := [.int x4]) (rest := []) (ci := 10) (M10_lengthOf l D cy b A fl e13) gX11_rank_X10_lengthOf rfl rfl rfl cd10_lengthOf ⟨Nat.le_of_ble_eq_true rfl, Nat.le_of_ble_eq_true rfl⟩ I (gd e13).1 clX10 rfl rfl hl.1 rfl (Nat.le_of_ble_eq_true rfl) dX11_rank_51 ⟨Nat.le_of_ble_eq_true rfl, Nat.le_of_ble_eq_true rfl⟩ (fun H locs I => ?_)
      refine lv_iload_n S.1 S.2.1 dX11_rank_54 rfl (lv_at hl 1 rfl) ?_
      refine lv_icmp_lt (tgt := 82) S.1 S.2.1 dX11_rank_55 (by decide) (fun q14 => ?_) (fun q14 => ?_)
      · have f := (if_pos q14).symm.trans f
        refine lv_iinc (v := (x4 + 1)) (lv' := [(4, .int (x4 + 1)), (0, .ref (b + a0)), (1, .int x1), (2, .int x2), (3, .int x3)]) S.1 S.2.1 dX11_rank_82 hl (k := 4) rfl (congrArg (fun z => x4 + z) (by decide)) (by decide) rfl (fun ls hl => ?_)
        refine lv_goto (tgt := 27) S.1 S.2.1 dX11_rank_85 (by decide) ?_
        exact ih f I (lv_sub hl [1, 2, 3, 4, 0] rfl)
      · have f := (if_neg q14).symm.trans f
        refine lv_iload_n S.1 S.2.1 dX11_rank_58 rfl (lv_at hl 2 rfl) ?_
        refine lv_iconst (v := 1) S.1 S.2.1 dX11_rank_59 (by decide) ?_
        refine lv_icmp_eq (tgt := 79) S.1 S.2.1 dX11_rank_60 (by decide) (fun q15 => ?_) (fun q15 => ?_)
        · have f := (if_pos q15).symm.trans f
          refine lv_iinc (v := (x3 + 1)) (lv' := [(3, .int (x3 + 1)), (0, .ref (b + a0)), (1, .int x1), (2, .int x2), (4, .int x4)]) S.1 S.2.1 dX11_rank_79 hl (k := 3) rfl (congrArg (fun z => x3 + z) (by decide)) (by decide) rfl (fun ls hl => ?_)
          refine lv_iinc (v := (x4 + 1)) (lv' := [(4, .int (x4 + 1)), (3, .int (x3 + 1)), (0, .ref (b + a0)), (1, .int x1), (2, .int x2)]) S.1 S.2.1 dX11_rank_82 hl (k := 4) rfl (congrArg (fun z => x4 + z) (by decide)) (by decide) rfl (fun ls hl => ?_)
          refine lv_goto (tgt := 27) S.1 S.2.1 dX11_rank_85 (by decide) ?_
          exact ih f I (lv_sub hl [2, 3, 4, 1, 0] rfl)
        · have f := (if_neg q15).symm.trans f
          refine lv_aload_n S.1 S.2.1 dX11_rank_63 rfl (lv_at hl 0 rfl) ?_
          obtain ⟨r16, e17, f⟩ := ob f
          refine o_gR S lf11_rank_18 I e17 dX11_rank_64 ?_
          obtain ⟨r18, e19, f⟩ := ob f
          refine o_gR S lf11_rank_150 I e19 dX11_rank_67 ?_
          refine lv_iload S.1 S.2.1 dX11_rank_70 (lv_at hl 4 rfl) ?_
          refine lv_iload_n S.1 S.2.1 dX11_rank_72 rfl (lv_at hl 1 rfl) ?_
          obtain ⟨o20, e21, f⟩ := ob f
          refine o_Vi S (As := [.int x4, .int x1]) (rest := []) (ci := 10) (M10_isLargest l D cy b A fl e21) gX11_rank_X10_isLargest rfl rfl rfl cd10_isLargest ⟨Nat.le_of_ble_eq_true rfl, Nat.le_of_ble_eq_true rfl⟩ I (gd e21).1 clX10 rfl rfl hl.1 rfl (Nat.le_of_ble_eq_true rfl) dX11_rank_73 ⟨Nat.le_of_ble_eq_true rfl, Nat.le_of_ble_eq_true rfl⟩ (fun H locs I => ?_)
          refine lv_if_eq (tgt := 82) S.1 S.2.1 dX11_rank_76 (by decide) (fun q22 => ?_) (fun q22 => ?_)
          · have f := (if_pos q22).symm.trans f
            refine lv_iinc (v := (x4 + 1)) (lv' := [(4, .int (x4 + 1)), (0, .ref (b + a0)), (1, .int x1), (2, .int x2), (3, .int x3)]) S.1 S.2.1 dX11_rank_82 hl (k := 4) rfl (congrArg (fun z => x4 + z) (by decide)) (by decide) rfl (fun ls hl => ?_)
            refine lv_goto (tgt := 27) S.1 S.2.1 dX11_rank_85 (by decide) ?_
            exact ih f I (lv_sub hl [1, 2, 3, 4, 0] rfl)
          · have f := (if_neg q22).symm.trans f
            refine lv_iinc (v := (x3 + 1)) (lv' := [(3, .int (x3 + 1)), (0, .ref (b + a0)), (1, .int x1), (2, .int x2), (4, .int x4)]) S.1 S.2.1 dX11_rank_79 hl (k := 3) rfl (congrArg (fun z => x3 + z) (by decide)) (by decide) rfl (fun ls hl => ?_)
            refine lv_iinc (v := (x4 + 1)) (lv' := [(4, .int (x4 + 1)), (3, .int (x3 + 1)), (0, .ref (b + a0)), (1, .int x1), (2, .int x2)]) S.1 S.2.1 dX11_rank_82 hl (k := 4) rfl (congrArg (fun z => x4 + z) (by decide)) (by decide) rfl (fun ls hl => ?_)
            refine lv_goto (tgt := 27) S.1 S.2.1 dX11_rank_85 (by decide) ?_
            exact ih f I (lv_sub hl [2, 3, 4, 1, 0] rfl)
set_option maxHeartbeats 4000000 in
set_option maxRecDepth 100000 in
theorem T11_rank_0 (S : CallFix p m c cX11_rank 5 s args vX11_rank RX11) (hr : meth.sig.returnType = (some .int)) (hlo : meth.locks = false) {out : Int32 × PH} {h : PH} {a0 : Nat} {x1 : Int32} {x2 : Int32} (f : F11_rank_0  h a0 x1 x2 = some out) {H : Heap} {locs : List Loc} (I : ph_I D cy b A fl h s H locs) {ls : Array Slot} (hl : lv_has ls 5 [(0, .ref (b + a0)), (1, .int x1), (2, .int x2)]) : W p l e ({ frames := 1, cells := 0, slots := 0, locals := 24 } : Room) s m args below meth c H locs 0 0 (MQ below (va_Qi (fun (r : Int32) (u : PH) => (r, u) = out) (ph_B D cy b A fl) A) args s 0 0 A) (F0 m 0 ls []) := by
  unfold F11_rank_0 at f
  refine lv_iload_n S.1 S.2.1 dX11_rank_0 rfl (lv_at hl 1 rfl) ?_
  refine lv_iconst (v := 1) S.1 S.2.1 dX11_rank_1 (by decide) ?_
  refine lv_icmp_lt (tgt := 20) S.1 S.2.1 dX11_rank_2 (by decide) (fun q1 => ?_) (fun q1 => ?_)
  · have f := (if_pos q1).symm.trans f
    refine lv_iconst (v := (-1)) S.1 S.2.1 dX11_rank_20 (by decide) ?_
    exact o_iret S hr hlo I f dX11_rank_21
  · have f := (if_neg q1).symm.trans f
    refine lv_iload_n S.1 S.2.1 dX11_rank_5 rfl (lv_at hl 1 rfl) ?_
    refine lv_bipush (v := 7) S.1 S.2.1 dX11_rank_6 (by decide) ?_
    refine lv_icmp_gt (tgt := 20) S.1 S.2.1 dX11_rank_8 (by decide) (fun q2 => ?_) (fun q2 => ?_)
    · have f := (if_pos q2).symm.trans f
      refine lv_iconst (v := (-1)) S.1 S.2.1 dX11_rank_20 (by decide) ?_
      exact o_iret S hr hlo I f dX11_rank_21
    · have f := (if_neg q2).symm.trans f
      refine lv_iload_n S.1 S.2.1 dX11_rank_11 rfl (lv_at hl 2 rfl) ?_
      refine lv_if_lt (tgt := 20) S.1 S.2.1 dX11_rank_12 (by decide) (fun q3 => ?_) (fun q3 => ?_)
      · have f := (if_pos q3).symm.trans f
        refine lv_iconst (v := (-1)) S.1 S.2.1 dX11_rank_20 (by decide) ?_
        exact o_iret S hr hlo I f dX11_rank_21
      · have f := (if_neg q3).symm.trans f
        refine lv_iload_n S.1 S.2.1 dX11_rank_15 rfl (lv_at hl 2 rfl) ?_
        refine lv_iconst (v := 1) S.1 S.2.1 dX11_rank_16 (by decide) ?_
        refine lv_icmp_le (tgt := 22) S.1 S.2.1 dX11_rank_17 (by decide) (fun q4 => ?_) (fun q4 => ?_)
        · have f := (if_pos q4).symm.trans f
          refine lv_iconst (v := 0) S.1 S.2.1 dX11_rank_22 (by decide) ?_
          refine lv_istore_n (lv' := [(3, .int 0), (0, .ref (b + a0)), (1, .int x1), (2, .int x2)]) S.1 S.2.1 dX11_rank_23 rfl hl (by decide) rfl (fun ls hl => ?_)
          refine lv_iconst (v := 0) S.1 S.2.1 dX11_rank_24 (by decide) ?_
          refine lv_istore (lv' := [(4, .int 0), (3, .int 0), (0, .ref (b + a0)), (1, .int x1), (2, .int x2)]) S.1 S.2.1 dX11_rank_25 hl (by decide) rfl (fun ls hl => ?_)
          exact T11_rank_27 S hr hlo  1024 f I (lv_sub hl [2, 3, 4, 1, 0] rfl)
        · have f := (if_neg q4).symm.trans f
          refine lv_iconst (v := (-1)) S.1 S.2.1 dX11_rank_20 (by decide) ?_
          exact o_iret S hr hlo I f dX11_rank_21
theorem M11_rank (l : Launch) (D : va_G) (cy : Nat → ClassId) (b : Nat) (A : Nat → Prop) (fl : Bool) {h : PH} {a0 : Nat} {x1 : Int32} {x2 : Int32} {out : Int32 × PH} (f : F11_rank h a0 x1 x2 = some out) : Met l yX11_rank vX11_rank ({ frames := 1, cells := 0, slots := 0, locals := 24 } : Room) (va_Pc [.ref (b + a0), .int x1, .int x2] (ph_B D cy b A fl h)) (va_Qi (fun (r : Int32) (u : PH) => (r, u) = out) (ph_B D cy b A fl) A) 0 0 A :=
  o_met (by decide) rfl (Nat.le_of_ble_eq_true rfl) rfl (fun p e s m below meth c S hr hlo hnm ls hl I => T11_rank_0 S hr hlo ((gd f).2) I (lv_sub hl [0, 1, 2] rfl))
def vX11_rest : List Cond := .code yX11_rest cX11_rest 4 (some .int) :: TB
theorem gX11_rest_X11_isSurfer : GoodIn vX11_rest (wsV RX11 115 RX11 yX11_isSurfer vX11_isSurfer) := gV_of wT_33_17 wT_33_18 wT_33_19 wT_1_2 wT_33_20
theorem lf11_rest_74 : Fl vX11_rest RX11 74 11 13 := ⟨RX11, TX11, 14, rfl, by decide, (fun w h9 => List.mem_cons_of_mem _ (wC_wsX110 w h9)), (List.mem_cons_of_mem _ wT_2_22)⟩
theorem lf11_rest_37 : Fl vX11_rest RX11 37 11 5 := ⟨RX11, TX11, 14, rfl, by decide, (fun w h9 => List.mem_cons_of_mem _ (wC_wsX110 w h9)), (List.mem_cons_of_mem _ wT_2_3)⟩
theorem lf11_rest_47 : Fl vX11_rest RX11 47 11 7 := ⟨RX11, TX11, 14, rfl, by decide, (fun w h9 => List.mem_cons_of_mem _ (wC_wsX110 w h9)), (List.mem_cons_of_mem _ wT_2_8)⟩
theorem gX11_rest_X0_playGame : GoodIn vX11_rest (wsV RX11 243 RX0 yX0_playGame vX0_playGame) := gV_of wT_50_22 wT_50_23 wT_51_0 wT_2_21 wT_51_1
theorem lf11_rest_247 : Fl vX11_rest RX11 247 0 6 := ⟨RX0, TX0, 13, rfl, by decide, (fun w h9 => List.mem_cons_of_mem _ (wC_wsX00 w h9)), (List.mem_cons_of_mem _ wT_50_21)⟩
theorem lf11_rest_250 : Fl vX11_rest RX11 250 0 5 := ⟨RX0, TX0, 13, rfl, by decide, (fun w h9 => List.mem_cons_of_mem _ (wC_wsX00 w h9)), (List.mem_cons_of_mem _ wT_53_7)⟩
set_option maxHeartbeats 4000000 in
set_option maxRecDepth 100000 in
theorem T11_rest_0 (S : CallFix p m c cX11_rest 4 s args vX11_rest RX11) (hr : meth.sig.returnType = (some .int)) (hlo : meth.locks = false) {out : Int32 × PH} {h : PH} {a0 : Nat} {x1 : Int32} {x2 : Int32} {x3 : Int32} (f : F11_rest_0  h a0 x1 x2 x3 = some out) {H : Heap} {locs : List Loc} (I : ph_I D cy b A fl h s H locs) {ls : Array Slot} (hl : lv_has ls 4 [(0, .ref (b + a0)), (1, .int x1), (2, .int x2), (3, .int x3)]) : W p l e ({ frames := 7, cells := 0, slots := 0, locals := 182 } : Room) s m args below meth c H locs 0 0 (MQ below (va_Qi (fun (r : Int32) (u : PH) => (r, u) = out) (ph_B D cy b A fl) A) args s 0 0 A) (F0 m 0 ls []) := by
  unfold F11_rest_0 at f
  refine lv_aload_n S.1 S.2.1 dX11_rest_0 rfl (lv_at hl 0 rfl) ?_
  refine lv_iload_n S.1 S.2.1 dX11_rest_1 rfl (lv_at hl 1 rfl) ?_
  obtain ⟨o1, e2, f⟩ := ob f
  refine o_Vi S (As := [.int x1]) (rest := []) (ci := 11) (M11_isSurfer l D cy b A fl e2) gX11_rest_X11_isSurfer rfl rfl rfl cd11_isSurfer ⟨Nat.le_of_ble_eq_true rfl, Nat.le_of_ble_eq_true rfl⟩ I (gd e2).1 clX11 rfl rfl hl.1 rfl (Nat.le_of_ble_eq_true rfl) dX11_rest_2 ⟨Nat.le_of_ble_eq_true rfl, Nat.le_of_ble_eq_true rfl⟩ (fun H locs I => ?_)
  refine lv_if_eq (tgt := 25) S.1 S.2.1 dX11_rest_5 (by decide) (fun q3 => ?_) (fun q3 => ?_)
  · have f := (if_pos q3).symm.trans f
    refine lv_iconst (v := (-1)) S.1 S.2.1 dX11_rest_25 (by decide) ?_
    exact o_iret S hr hlo I f dX11_rest_26
  · have f := (if_neg q3).symm.trans f
    refine lv_aload_n S.1 S.2.1 dX11_rest_8 rfl (lv_at hl 0 rfl) ?_
    refine lv_iload_n S.1 S.2.1 dX11_rest_9 rfl (lv_at hl 2 rfl) ?_
    obtain ⟨o4, e5, f⟩ := ob f
    refine o_Vi S (As := [.int x2]) (rest := []) (ci := 11) (M11_isSurfer l D cy b A fl e5) gX11_rest_X11_isSurfer rfl rfl rfl cd11_isSurfer ⟨Nat.le_of_ble_eq_true rfl, Nat.le_of_ble_eq_true rfl⟩ I (gd e5).1 clX11 rfl rfl hl.1 rfl (Nat.le_of_ble_eq_true rfl) dX11_rest_10 ⟨Nat.le_of_ble_eq_true rfl, Nat.le_of_ble_eq_true rfl⟩ (fun H locs I => ?_)
    refine lv_if_eq (tgt := 25) S.1 S.2.1 dX11_rest_13 (by decide) (fun q6 => ?_) (fun q6 => ?_)
    · have f := (if_pos q6).symm.trans f
      refine lv_iconst (v := (-1)) S.1 S.2.1 dX11_rest_25 (by decide) ?_
      exact o_iret S hr hlo I f dX11_rest_26
    · have f := (if_neg q6).symm.trans f
      refine lv_iload_n S.1 S.2.1 dX11_rest_16 rfl (lv_at hl 1 rfl) ?_
      refine lv_iload_n S.1 S.2.1 dX11_rest_17 rfl (lv_at hl 2 rfl) ?_
      refine lv_icmp_eq (tgt := 25) S.1 S.2.1 dX11_rest_18 (by decide) (fun q7 => ?_) (fun q7 => ?_)
      · have f := (if_pos q7).symm.trans f
        refine lv_iconst (v := (-1)) S.1 S.2.1 dX11_rest_25 (by decide) ?_
        exact o_iret S hr hlo I f dX11_rest_26
      · have f := (if_neg q7).symm.trans f
        refine lv_iload_n S.1 S.2.1 dX11_rest_21 rfl (lv_at hl 3 rfl) ?_
        refine lv_if_ge (tgt := 27) S.1 S.2.1 dX11_rest_22 (by decide) (fun q8 => ?_) (fun q8 => ?_)
        · have f := (if_pos q8).symm.trans f
          refine lv_aload_n S.1 S.2.1 dX11_rest_27 rfl (lv_at hl 0 rfl) ?_
          obtain ⟨r9, e10, f⟩ := ob f
          refine o_gR S lf11_rest_74 I e10 dX11_rest_28 ?_
          refine lv_aload_n S.1 S.2.1 dX11_rest_31 rfl (lv_at hl 0 rfl) ?_
          obtain ⟨r11, e12, f⟩ := ob f
          refine o_gR S lf11_rest_37 I e12 dX11_rest_32 ?_
          refine lv_aload_n S.1 S.2.1 dX11_rest_35 rfl (lv_at hl 0 rfl) ?_
          obtain ⟨r13, e14, f⟩ := ob f
          refine o_gR S lf11_rest_47 I e14 dX11_rest_36 ?_
          refine lv_iload_n S.1 S.2.1 dX11_rest_39 rfl (lv_at hl 1 rfl) ?_
          refine lv_iload_n S.1 S.2.1 dX11_rest_40 rfl (lv_at hl 2 rfl) ?_
          obtain ⟨o15, e16, f⟩ := ob f
          refine o_Vv S (As := [.ref (b + r11), .ref (b + r13), .int x1, .int x2]) (rest := []) (ci := 0) (M0_playGame l D cy b A fl e16) gX11_rest_X0_playGame rfl rfl rfl cd0_playGame ⟨Nat.le_of_ble_eq_true rfl, Nat.le_of_ble_eq_true rfl⟩ I (gd e16).1 clX0 rfl rfl hl.1 rfl (Nat.le_of_ble_eq_true rfl) dX11_rest_41 ⟨Nat.le_of_ble_eq_true rfl, Nat.le_of_ble_eq_true rfl⟩ (fun H locs I => ?_)
          refine lv_iload_n S.1 S.2.1 dX11_rest_44 rfl (lv_at hl 3 rfl) ?_
          refine lv_aload_n S.1 S.2.1 dX11_rest_45 rfl (lv_at hl 0 rfl) ?_
          obtain ⟨r17, e18, f⟩ := ob f
          refine o_gR S lf11_rest_74 I e18 dX11_rest_46 ?_
          obtain ⟨v19, e20, f⟩ := ob f
          refine o_gI S lf11_rest_247 I e20 dX11_rest_49 ?_
          refine lv_icmp_ge (tgt := 67) S.1 S.2.1 dX11_rest_52 (by decide) (fun q21 => ?_) (fun q21 => ?_)
          · have f := (if_pos q21).symm.trans f
            refine lv_bipush (v := (-2)) S.1 S.2.1 dX11_rest_67 (by decide) ?_
            exact o_iret S hr hlo I f dX11_rest_69
          · have f := (if_neg q21).symm.trans f
            refine lv_aload_n S.1 S.2.1 dX11_rest_55 rfl (lv_at hl 0 rfl) ?_
            obtain ⟨r22, e23, f⟩ := ob f
            refine o_gR S lf11_rest_74 I e23 dX11_rest_56 ?_
            obtain ⟨r24, e25, f⟩ := ob f
            refine o_gR S lf11_rest_250 I e25 dX11_rest_59 ?_
            refine lv_iload_n S.1 S.2.1 dX11_rest_62 rfl (lv_at hl 3 rfl) ?_
            obtain ⟨v27, e26, f⟩ := ob f
            refine o_iald S I e26 dX11_rest_63 ?_
            refine lv_goto (tgt := 69) S.1 S.2.1 dX11_rest_64 (by decide) ?_
            exact o_iret S hr hlo I f dX11_rest_69
        · have f := (if_neg q8).symm.trans f
          refine lv_iconst (v := (-1)) S.1 S.2.1 dX11_rest_25 (by decide) ?_
          exact o_iret S hr hlo I f dX11_rest_26
theorem M11_rest (l : Launch) (D : va_G) (cy : Nat → ClassId) (b : Nat) (A : Nat → Prop) (fl : Bool) {h : PH} {a0 : Nat} {x1 : Int32} {x2 : Int32} {x3 : Int32} {out : Int32 × PH} (f : F11_rest h a0 x1 x2 x3 = some out) : Met l yX11_rest vX11_rest ({ frames := 7, cells := 0, slots := 0, locals := 182 } : Room) (va_Pc [.ref (b + a0), .int x1, .int x2, .int x3] (ph_B D cy b A fl h)) (va_Qi (fun (r : Int32) (u : PH) => (r, u) = out) (ph_B D cy b A fl) A) 0 0 A :=
  o_met (by decide) rfl (Nat.le_of_ble_eq_true rfl) rfl (fun p e s m below meth c S hr hlo hnm ls hl I => T11_rest_0 S hr hlo ((gd f).2) I (lv_sub hl [0, 1, 2, 3] rfl))
def vX11_rests : List Cond := .code yX11_rests cX11_rests 3 (some .int) :: TB
theorem gX11_rests_X11_isSurfer : GoodIn vX11_rests (wsV RX11 115 RX11 yX11_isSurfer vX11_isSurfer) := gV_of wT_33_17 wT_33_18 wT_33_19 wT_1_2 wT_33_20
theorem lf11_rests_74 : Fl vX11_rests RX11 74 11 13 := ⟨RX11, TX11, 14, rfl, by decide, (fun w h9 => List.mem_cons_of_mem _ (wC_wsX110 w h9)), (List.mem_cons_of_mem _ wT_2_22)⟩
theorem lf11_rests_37 : Fl vX11_rests RX11 37 11 5 := ⟨RX11, TX11, 14, rfl, by decide, (fun w h9 => List.mem_cons_of_mem _ (wC_wsX110 w h9)), (List.mem_cons_of_mem _ wT_2_3)⟩
theorem lf11_rests_47 : Fl vX11_rests RX11 47 11 7 := ⟨RX11, TX11, 14, rfl, by decide, (fun w h9 => List.mem_cons_of_mem _ (wC_wsX110 w h9)), (List.mem_cons_of_mem _ wT_2_8)⟩
theorem gX11_rests_X0_playGame : GoodIn vX11_rests (wsV RX11 243 RX0 yX0_playGame vX0_playGame) := gV_of wT_50_22 wT_50_23 wT_51_0 wT_2_21 wT_51_1
theorem lf11_rests_247 : Fl vX11_rests RX11 247 0 6 := ⟨RX0, TX0, 13, rfl, by decide, (fun w h9 => List.mem_cons_of_mem _ (wC_wsX00 w h9)), (List.mem_cons_of_mem _ wT_50_21)⟩
set_option maxHeartbeats 4000000 in
set_option maxRecDepth 100000 in
theorem T11_rests_0 (S : CallFix p m c cX11_rests 3 s args vX11_rests RX11) (hr : meth.sig.returnType = (some .int)) (hlo : meth.locks = false) {out : Int32 × PH} {h : PH} {a0 : Nat} {x1 : Int32} {x2 : Int32} (f : F11_rests_0  h a0 x1 x2 = some out) {H : Heap} {locs : List Loc} (I : ph_I D cy b A fl h s H locs) {ls : Array Slot} (hl : lv_has ls 3 [(0, .ref (b + a0)), (1, .int x1), (2, .int x2)]) : W p l e ({ frames := 7, cells := 0, slots := 0, locals := 182 } : Room) s m args below meth c H locs 0 0 (MQ below (va_Qi (fun (r : Int32) (u : PH) => (r, u) = out) (ph_B D cy b A fl) A) args s 0 0 A) (F0 m 0 ls []) := by
  unfold F11_rests_0 at f
  refine lv_aload_n S.1 S.2.1 dX11_rests_0 rfl (lv_at hl 0 rfl) ?_
  refine lv_iload_n S.1 S.2.1 dX11_rests_1 rfl (lv_at hl 1 rfl) ?_
  obtain ⟨o1, e2, f⟩ := ob f
  refine o_Vi S (As := [.int x1]) (rest := []) (ci := 11) (M11_isSurfer l D cy b A fl e2) gX11_rests_X11_isSurfer rfl rfl rfl cd11_isSurfer ⟨Nat.le_of_ble_eq_true rfl, Nat.le_of_ble_eq_true rfl⟩ I (gd e2).1 clX11 rfl rfl hl.1 rfl (Nat.le_of_ble_eq_true rfl) dX11_rests_2 ⟨Nat.le_of_ble_eq_true rfl, Nat.le_of_ble_eq_true rfl⟩ (fun H locs I => ?_)
  refine lv_if_eq (tgt := 21) S.1 S.2.1 dX11_rests_5 (by decide) (fun q3 => ?_) (fun q3 => ?_)
  · have f := (if_pos q3).symm.trans f
    refine lv_iconst (v := (-1)) S.1 S.2.1 dX11_rests_21 (by decide) ?_
    exact o_iret S hr hlo I f dX11_rests_22
  · have f := (if_neg q3).symm.trans f
    refine lv_aload_n S.1 S.2.1 dX11_rests_8 rfl (lv_at hl 0 rfl) ?_
    refine lv_iload_n S.1 S.2.1 dX11_rests_9 rfl (lv_at hl 2 rfl) ?_
    obtain ⟨o4, e5, f⟩ := ob f
    refine o_Vi S (As := [.int x2]) (rest := []) (ci := 11) (M11_isSurfer l D cy b A fl e5) gX11_rests_X11_isSurfer rfl rfl rfl cd11_isSurfer ⟨Nat.le_of_ble_eq_true rfl, Nat.le_of_ble_eq_true rfl⟩ I (gd e5).1 clX11 rfl rfl hl.1 rfl (Nat.le_of_ble_eq_true rfl) dX11_rests_10 ⟨Nat.le_of_ble_eq_true rfl, Nat.le_of_ble_eq_true rfl⟩ (fun H locs I => ?_)
    refine lv_if_eq (tgt := 21) S.1 S.2.1 dX11_rests_13 (by decide) (fun q6 => ?_) (fun q6 => ?_)
    · have f := (if_pos q6).symm.trans f
      refine lv_iconst (v := (-1)) S.1 S.2.1 dX11_rests_21 (by decide) ?_
      exact o_iret S hr hlo I f dX11_rests_22
    · have f := (if_neg q6).symm.trans f
      refine lv_iload_n S.1 S.2.1 dX11_rests_16 rfl (lv_at hl 1 rfl) ?_
      refine lv_iload_n S.1 S.2.1 dX11_rests_17 rfl (lv_at hl 2 rfl) ?_
      refine lv_icmp_ne (tgt := 23) S.1 S.2.1 dX11_rests_18 (by decide) (fun q7 => ?_) (fun q7 => ?_)
      · have f := (if_neg q7).symm.trans f
        refine lv_aload_n S.1 S.2.1 dX11_rests_23 rfl (lv_at hl 0 rfl) ?_
        obtain ⟨r8, e9, f⟩ := ob f
        refine o_gR S lf11_rests_74 I e9 dX11_rests_24 ?_
        refine lv_aload_n S.1 S.2.1 dX11_rests_27 rfl (lv_at hl 0 rfl) ?_
        obtain ⟨r10, e11, f⟩ := ob f
        refine o_gR S lf11_rests_37 I e11 dX11_rests_28 ?_
        refine lv_aload_n S.1 S.2.1 dX11_rests_31 rfl (lv_at hl 0 rfl) ?_
        obtain ⟨r12, e13, f⟩ := ob f
        refine o_gR S lf11_rests_47 I e13 dX11_rests_32 ?_
        refine lv_iload_n S.1 S.2.1 dX11_rests_35 rfl (lv_at hl 1 rfl) ?_
        refine lv_iload_n S.1 S.2.1 dX11_rests_36 rfl (lv_at hl 2 rfl) ?_
        obtain ⟨o14, e15, f⟩ := ob f
        refine o_Vv S (As := [.ref (b + r10), .ref (b + r12), .int x1, .int x2]) (rest := []) (ci := 0) (M0_playGame l D cy b A fl e15) gX11_rests_X0_playGame rfl rfl rfl cd0_playGame ⟨Nat.le_of_ble_eq_true rfl, Nat.le_of_ble_eq_true rfl⟩ I (gd e15).1 clX0 rfl rfl hl.1 rfl (Nat.le_of_ble_eq_true rfl) dX11_rests_37 ⟨Nat.le_of_ble_eq_true rfl, Nat.le_of_ble_eq_true rfl⟩ (fun H locs I => ?_)
        refine lv_aload_n S.1 S.2.1 dX11_rests_40 rfl (lv_at hl 0 rfl) ?_
        obtain ⟨r16, e17, f⟩ := ob f
        refine o_gR S lf11_rests_74 I e17 dX11_rests_41 ?_
        obtain ⟨v18, e19, f⟩ := ob f
        refine o_gI S lf11_rests_247 I e19 dX11_rests_44 ?_
        exact o_iret S hr hlo I f dX11_rests_47
      · have f := (if_pos q7).symm.trans f
        refine lv_iconst (v := (-1)) S.1 S.2.1 dX11_rests_21 (by decide) ?_
        exact o_iret S hr hlo I f dX11_rests_22
theorem M11_rests (l : Launch) (D : va_G) (cy : Nat → ClassId) (b : Nat) (A : Nat → Prop) (fl : Bool) {h : PH} {a0 : Nat} {x1 : Int32} {x2 : Int32} {out : Int32 × PH} (f : F11_rests h a0 x1 x2 = some out) : Met l yX11_rests vX11_rests ({ frames := 7, cells := 0, slots := 0, locals := 182 } : Room) (va_Pc [.ref (b + a0), .int x1, .int x2] (ph_B D cy b A fl h)) (va_Qi (fun (r : Int32) (u : PH) => (r, u) = out) (ph_B D cy b A fl) A) 0 0 A :=
  o_met (by decide) rfl (Nat.le_of_ble_eq_true rfl) rfl (fun p e s m below meth c S hr hlo hnm ls hl I => T11_rests_0 S hr hlo ((gd f).2) I (lv_sub hl [0, 1, 2] rfl))
def vX11_rule : List Cond := .code yX11_rule cX11_rule 2 (some .boolean) :: TB
theorem gX11_rule_X11_isRule : GoodIn vX11_rule (wsV RX11 214 RX11 yX11_isRule vX11_isRule) := gV_of wT_43_0 wT_43_1 wT_43_2 wT_1_2 wT_43_3
theorem lf11_rule_47 : Fl vX11_rule RX11 47 11 7 := ⟨RX11, TX11, 14, rfl, by decide, (fun w h9 => List.mem_cons_of_mem _ (wC_wsX110 w h9)), (List.mem_cons_of_mem _ wT_2_8)⟩
theorem lf11_rule_217 : Fl vX11_rule RX11 217 4 1 := ⟨RX4, TX4, 11, rfl, by decide, (fun w h9 => List.mem_cons_of_mem _ (wC_wsX40 w h9)), (List.mem_cons_of_mem _ wT_42_23)⟩
theorem lf11_rule_67 : Fl vX11_rule RX11 67 11 12 := ⟨RX11, TX11, 14, rfl, by decide, (fun w h9 => List.mem_cons_of_mem _ (wC_wsX110 w h9)), (List.mem_cons_of_mem _ wT_2_18)⟩
theorem gX11_rule_X9_add : GoodIn vX11_rule (wsV RX11 210 RX9 yX9_add vX9_add) := gV_of wT_42_1 wT_42_2 wT_42_3 wT_2_17 wT_42_4
theorem lp11_rule_217 : Pl vX11_rule RX11 217 4 1 .int := ⟨RX4, TX4, 11, tyX4, rfl, by decide, (fun w h9 => List.mem_cons_of_mem _ (wC_wsX40 w h9)), (List.mem_cons_of_mem _ wT_42_23), tyX4_ok, nmX4, rfl, rfl⟩
set_option maxHeartbeats 4000000 in
set_option maxRecDepth 100000 in
theorem T11_rule_0 (S : CallFix p m c cX11_rule 2 s args vX11_rule RX11) (hr : meth.sig.returnType = (some .boolean)) (hlo : meth.locks = false) {out : Int32 × PH} {h : PH} {a0 : Nat} {x1 : Int32} (f : F11_rule_0  h a0 x1 = some out) {H : Heap} {locs : List Loc} (I : ph_I D cy b A false h s H locs) {ls : Array Slot} (hl : lv_has ls 2 [(0, .ref (b + a0)), (1, .int x1)]) : W p l e ({ frames := 2, cells := 0, slots := 0, locals := 62 } : Room) s m args below meth c H locs 0 0 (MQ below (va_Qi (fun (r : Int32) (u : PH) => (r, u) = out) (ph_B D cy b A false) A) args s 0 0 A) (F0 m 0 ls []) := by
  unfold F11_rule_0 at f
  refine lv_aload_n S.1 S.2.1 dX11_rule_0 rfl (lv_at hl 0 rfl) ?_
  refine lv_iload_n S.1 S.2.1 dX11_rule_1 rfl (lv_at hl 1 rfl) ?_
  obtain ⟨o1, e2, f⟩ := ob f
  refine o_Vi S (As := [.int x1]) (rest := []) (ci := 11) (M11_isRule l D cy b A false e2) gX11_rule_X11_isRule rfl rfl rfl cd11_isRule ⟨Nat.le_of_ble_eq_true rfl, Nat.le_of_ble_eq_true rfl⟩ I (gd e2).1 clX11 rfl rfl hl.1 rfl (Nat.le_of_ble_eq_true rfl) dX11_rule_2 ⟨Nat.le_of_ble_eq_true rfl, Nat.le_of_ble_eq_true rfl⟩ (fun H locs I => ?_)
  refine lv_if_eq (tgt := 19) S.1 S.2.1 dX11_rule_5 (by decide) (fun q3 => ?_) (fun q3 => ?_)
  · have f := (if_pos q3).symm.trans f
    refine lv_iconst (v := 0) S.1 S.2.1 dX11_rule_19 (by decide) ?_
    exact o_zret S hr hlo I f dX11_rule_20
  · have f := (if_neg q3).symm.trans f
    refine lv_iload_n S.1 S.2.1 dX11_rule_8 rfl (lv_at hl 1 rfl) ?_
    refine lv_aload_n S.1 S.2.1 dX11_rule_9 rfl (lv_at hl 0 rfl) ?_
    obtain ⟨r4, e5, f⟩ := ob f
    refine o_gR S lf11_rule_47 I e5 dX11_rule_10 ?_
    obtain ⟨v6, e7, f⟩ := ob f
    refine o_gI S lf11_rule_217 I e7 dX11_rule_13 ?_
    refine lv_icmp_ne (tgt := 21) S.1 S.2.1 dX11_rule_16 (by decide) (fun q8 => ?_) (fun q8 => ?_)
    · have f := (if_neg q8).symm.trans f
      refine lv_aload_n S.1 S.2.1 dX11_rule_21 rfl (lv_at hl 0 rfl) ?_
      obtain ⟨r9, e10, f⟩ := ob f
      refine o_gR S lf11_rule_67 I e10 dX11_rule_22 ?_
      refine lv_iconst (v := (-1)) S.1 S.2.1 dX11_rule_25 (by decide) ?_
      refine lv_aload_n S.1 S.2.1 dX11_rule_26 rfl (lv_at hl 0 rfl) ?_
      obtain ⟨r11, e12, f⟩ := ob f
      refine o_gR S lf11_rule_47 I e12 dX11_rule_27 ?_
      obtain ⟨v13, e14, f⟩ := ob f
      refine o_gI S lf11_rule_217 I e14 dX11_rule_30 ?_
      obtain ⟨o15, e16, f⟩ := ob f
      refine o_Vv S (As := [.int (-1), .int v13]) (rest := []) (ci := 9) (M9_add l D cy b A e16) gX11_rule_X9_add rfl rfl rfl cd9_add ⟨Nat.le_of_ble_eq_true rfl, Nat.le_of_ble_eq_true rfl⟩ I (gd e16).1 clX9 rfl rfl hl.1 rfl (Nat.le_of_ble_eq_true rfl) dX11_rule_33 ⟨Nat.le_of_ble_eq_true rfl, Nat.le_of_ble_eq_true rfl⟩ (fun H locs I => ?_)
      refine lv_aload_n S.1 S.2.1 dX11_rule_36 rfl (lv_at hl 0 rfl) ?_
      obtain ⟨r17, e18, f⟩ := ob f
      refine o_gR S lf11_rule_47 I e18 dX11_rule_37 ?_
      refine lv_iload_n S.1 S.2.1 dX11_rule_40 rfl (lv_at hl 1 rfl) ?_
      obtain ⟨h19, e20, f⟩ := ob f
      refine o_pI S lp11_rule_217 I e20 dX11_rule_41 (fun H locs I => ?_)
      refine lv_iconst (v := 1) S.1 S.2.1 dX11_rule_44 (by decide) ?_
      exact o_zret S hr hlo I f dX11_rule_45
    · have f := (if_pos q8).symm.trans f
      refine lv_iconst (v := 0) S.1 S.2.1 dX11_rule_19 (by decide) ?_
      exact o_zret S hr hlo I f dX11_rule_20
theorem M11_rule (l : Launch) (D : va_G) (cy : Nat → ClassId) (b : Nat) (A : Nat → Prop) {h : PH} {a0 : Nat} {x1 : Int32} {out : Int32 × PH} (f : F11_rule h a0 x1 = some out) : Met l yX11_rule vX11_rule ({ frames := 2, cells := 0, slots := 0, locals := 62 } : Room) (va_Pc [.ref (b + a0), .int x1] (ph_B D cy b A false h)) (va_Qi (fun (r : Int32) (u : PH) => (r, u) = out) (ph_B D cy b A false) A) 0 0 A :=
  o_met (by decide) rfl (Nat.le_of_ble_eq_true rfl) rfl (fun p e s m below meth c S hr hlo hnm ls hl I => T11_rule_0 S hr hlo ((gd f).2) I (lv_sub hl [0, 1] rfl))
def vX11_seat : List Cond := .code yX11_seat cX11_seat 3 (some .int) :: TB
theorem gX11_seat_X11_isSurfer : GoodIn vX11_seat (wsV RX11 115 RX11 yX11_isSurfer vX11_isSurfer) := gV_of wT_33_17 wT_33_18 wT_33_19 wT_1_2 wT_33_20
theorem gX11_seat_X11_isCell : GoodIn vX11_seat (wsV RX11 179 RX11 yX11_isCell vX11_isCell) := gV_of wT_38_1 wT_38_2 wT_38_3 wT_1_2 wT_38_4
theorem lf11_seat_37 : Fl vX11_seat RX11 37 11 5 := ⟨RX11, TX11, 14, rfl, by decide, (fun w h9 => List.mem_cons_of_mem _ (wC_wsX110 w h9)), (List.mem_cons_of_mem _ wT_2_3)⟩
theorem gX11_seat_X11_firstToCome : GoodIn vX11_seat (wsV RX11 233 RX11 yX11_firstToCome vX11_firstToCome) := gV_of wT_49_9 wT_49_10 wT_49_11 wT_1_2 wT_49_12
theorem gX11_seat_X6_seatFrom : GoodIn vX11_seat (wsV RX11 237 RX6 yX6_seatFrom vX6_seatFrom) := gV_of wT_49_13 wT_49_14 wT_49_15 wT_2_2 wT_49_16
set_option maxHeartbeats 4000000 in
set_option maxRecDepth 100000 in
theorem T11_seat_0 (S : CallFix p m c cX11_seat 3 s args vX11_seat RX11) (hr : meth.sig.returnType = (some .int)) (hlo : meth.locks = false) {out : Int32 × PH} {h : PH} {a0 : Nat} {x1 : Int32} {x2 : Int32} (f : F11_seat_0  h a0 x1 x2 = some out) {H : Heap} {locs : List Loc} (I : ph_I D cy b A fl h s H locs) {ls : Array Slot} (hl : lv_has ls 3 [(0, .ref (b + a0)), (1, .int x1), (2, .int x2)]) : W p l e ({ frames := 6, cells := 0, slots := 0, locals := 151 } : Room) s m args below meth c H locs 0 0 (MQ below (va_Qi (fun (r : Int32) (u : PH) => (r, u) = out) (ph_B D cy b A fl) A) args s 0 0 A) (F0 m 0 ls []) := by
  unfold F11_seat_0 at f
  refine lv_aload_n S.1 S.2.1 dX11_seat_0 rfl (lv_at hl 0 rfl) ?_
  refine lv_iload_n S.1 S.2.1 dX11_seat_1 rfl (lv_at hl 1 rfl) ?_
  obtain ⟨o1, e2, f⟩ := ob f
  refine o_Vi S (As := [.int x1]) (rest := []) (ci := 11) (M11_isSurfer l D cy b A fl e2) gX11_seat_X11_isSurfer rfl rfl rfl cd11_isSurfer ⟨Nat.le_of_ble_eq_true rfl, Nat.le_of_ble_eq_true rfl⟩ I (gd e2).1 clX11 rfl rfl hl.1 rfl (Nat.le_of_ble_eq_true rfl) dX11_seat_2 ⟨Nat.le_of_ble_eq_true rfl, Nat.le_of_ble_eq_true rfl⟩ (fun H locs I => ?_)
  refine lv_if_eq (tgt := 16) S.1 S.2.1 dX11_seat_5 (by decide) (fun q3 => ?_) (fun q3 => ?_)
  · have f := (if_pos q3).symm.trans f
    refine lv_iconst (v := (-1)) S.1 S.2.1 dX11_seat_16 (by decide) ?_
    exact o_iret S hr hlo I f dX11_seat_17
  · have f := (if_neg q3).symm.trans f
    refine lv_aload_n S.1 S.2.1 dX11_seat_8 rfl (lv_at hl 0 rfl) ?_
    refine lv_iload_n S.1 S.2.1 dX11_seat_9 rfl (lv_at hl 2 rfl) ?_
    obtain ⟨o4, e5, f⟩ := ob f
    refine o_Vi S (As := [.int x2]) (rest := []) (ci := 11) (M11_isCell l D cy b A fl e5) gX11_seat_X11_isCell rfl rfl rfl cd11_isCell ⟨Nat.le_of_ble_eq_true rfl, Nat.le_of_ble_eq_true rfl⟩ I (gd e5).1 clX11 rfl rfl hl.1 rfl (Nat.le_of_ble_eq_true rfl) dX11_seat_10 ⟨Nat.le_of_ble_eq_true rfl, Nat.le_of_ble_eq_true rfl⟩ (fun H locs I => ?_)
    refine lv_if_ne (tgt := 18) S.1 S.2.1 dX11_seat_13 (by decide) (fun q6 => ?_) (fun q6 => ?_)
    · have f := (if_neg q6).symm.trans f
      refine lv_aload_n S.1 S.2.1 dX11_seat_18 rfl (lv_at hl 0 rfl) ?_
      obtain ⟨r7, e8, f⟩ := ob f
      refine o_gR S lf11_seat_37 I e8 dX11_seat_19 ?_
      refine lv_iload_n S.1 S.2.1 dX11_seat_22 rfl (lv_at hl 1 rfl) ?_
      refine lv_iload_n S.1 S.2.1 dX11_seat_23 rfl (lv_at hl 2 rfl) ?_
      refine lv_aload_n S.1 S.2.1 dX11_seat_24 rfl (lv_at hl 0 rfl) ?_
      obtain ⟨o9, e10, f⟩ := ob f
      refine o_Vi S (As := []) (rest := [.int x2, .int x1, .ref (b + r7)]) (ci := 11) (M11_firstToCome l D cy b A fl e10) gX11_seat_X11_firstToCome rfl rfl rfl cd11_firstToCome ⟨Nat.le_of_ble_eq_true rfl, Nat.le_of_ble_eq_true rfl⟩ I (gd e10).1 clX11 rfl rfl hl.1 rfl (Nat.le_of_ble_eq_true rfl) dX11_seat_25 ⟨Nat.le_of_ble_eq_true rfl, Nat.le_of_ble_eq_true rfl⟩ (fun H locs I => ?_)
      obtain ⟨o11, e12, f⟩ := ob f
      refine o_Vi S (As := [.int x1, .int x2, .int o9.1]) (rest := []) (ci := 6) (M6_seatFrom l D cy b A fl e12) gX11_seat_X6_seatFrom rfl rfl rfl cd6_seatFrom ⟨Nat.le_of_ble_eq_true rfl, Nat.le_of_ble_eq_true rfl⟩ I (gd e12).1 clX6 rfl rfl hl.1 rfl (Nat.le_of_ble_eq_true rfl) dX11_seat_28 ⟨Nat.le_of_ble_eq_true rfl, Nat.le_of_ble_eq_true rfl⟩ (fun H locs I => ?_)
      exact o_iret S hr hlo I f dX11_seat_31
    · have f := (if_pos q6).symm.trans f
      refine lv_iconst (v := (-1)) S.1 S.2.1 dX11_seat_16 (by decide) ?_
      exact o_iret S hr hlo I f dX11_seat_17
theorem M11_seat (l : Launch) (D : va_G) (cy : Nat → ClassId) (b : Nat) (A : Nat → Prop) (fl : Bool) {h : PH} {a0 : Nat} {x1 : Int32} {x2 : Int32} {out : Int32 × PH} (f : F11_seat h a0 x1 x2 = some out) : Met l yX11_seat vX11_seat ({ frames := 6, cells := 0, slots := 0, locals := 151 } : Room) (va_Pc [.ref (b + a0), .int x1, .int x2] (ph_B D cy b A fl h)) (va_Qi (fun (r : Int32) (u : PH) => (r, u) = out) (ph_B D cy b A fl) A) 0 0 A :=
  o_met (by decide) rfl (Nat.le_of_ble_eq_true rfl) rfl (fun p e s m below meth c S hr hlo hnm ls hl I => T11_seat_0 S hr hlo ((gd f).2) I (lv_sub hl [0, 1, 2] rfl))
def vX11_shares : List Cond := .code yX11_shares cX11_shares 2 (some .int) :: TB
theorem lf11_shares_18 : Fl vX11_shares RX11 18 11 3 := ⟨RX11, TX11, 14, rfl, by decide, (fun w h9 => List.mem_cons_of_mem _ (wC_wsX110 w h9)), (List.mem_cons_of_mem _ wT_1_18)⟩
theorem lf11_shares_102 : Fl vX11_shares RX11 102 8 4 := ⟨RX8, TX8, 14, rfl, by decide, (fun w h9 => List.mem_cons_of_mem _ (wC_wsX80 w h9)), (List.mem_cons_of_mem _ wT_32_14)⟩
theorem lf11_shares_106 : Fl vX11_shares RX11 106 1 0 := ⟨RX1, TX1, 7, rfl, by decide, (fun w h9 => List.mem_cons_of_mem _ (wC_wsX10 w h9)), (List.mem_cons_of_mem _ wT_32_15)⟩
theorem lf11_shares_47 : Fl vX11_shares RX11 47 11 7 := ⟨RX11, TX11, 14, rfl, by decide, (fun w h9 => List.mem_cons_of_mem _ (wC_wsX110 w h9)), (List.mem_cons_of_mem _ wT_2_8)⟩
theorem gX11_shares_X4_hadInSum : GoodIn vX11_shares (wsV RX11 317 RX4 yX4_hadInSum vX4_hadInSum) := gV_of wT_60_21 wT_60_22 wT_60_23 wT_2_7 wT_61_0
theorem gX11_shares_X4_unlike : GoodIn vX11_shares (wsV RX11 293 RX4 yX4_unlike vX4_unlike) := gV_of wT_57_19 wT_57_20 wT_57_21 wT_2_7 wT_57_22
set_option maxHeartbeats 4000000 in
set_option maxRecDepth 100000 in
theorem T11_shares_0 (S : CallFix p m c cX11_shares 2 s args vX11_shares RX11) (hr : meth.sig.returnType = (some .int)) (hlo : meth.locks = false) {out : Int32 × PH} {h : PH} {a0 : Nat} {x1 : Int32} (f : F11_shares_0  h a0 x1 = some out) {H : Heap} {locs : List Loc} (I : ph_I D cy b A fl h s H locs) {ls : Array Slot} (hl : lv_has ls 2 [(0, .ref (b + a0)), (1, .int x1)]) : W p l e ({ frames := 2, cells := 0, slots := 0, locals := 48 } : Room) s m args below meth c H locs 0 0 (MQ below (va_Qi (fun (r : Int32) (u : PH) => (r, u) = out) (ph_B D cy b A fl) A) args s 0 0 A) (F0 m 0 ls []) := by
  unfold F11_shares_0 at f
  refine lv_iload_n S.1 S.2.1 dX11_shares_0 rfl (lv_at hl 1 rfl) ?_
  refine lv_if_lt (tgt := 23) S.1 S.2.1 dX11_shares_1 (by decide) (fun q1 => ?_) (fun q1 => ?_)
  · have f := (if_pos q1).symm.trans f
    refine lv_iconst (v := (-1)) S.1 S.2.1 dX11_shares_23 (by decide) ?_
    exact o_iret S hr hlo I f dX11_shares_24
  · have f := (if_neg q1).symm.trans f
    refine lv_iload_n S.1 S.2.1 dX11_shares_4 rfl (lv_at hl 1 rfl) ?_
    refine lv_iconst (v := 1) S.1 S.2.1 dX11_shares_5 (by decide) ?_
    refine lv_icmp_gt (tgt := 23) S.1 S.2.1 dX11_shares_6 (by decide) (fun q2 => ?_) (fun q2 => ?_)
    · have f := (if_pos q2).symm.trans f
      refine lv_iconst (v := (-1)) S.1 S.2.1 dX11_shares_23 (by decide) ?_
      exact o_iret S hr hlo I f dX11_shares_24
    · have f := (if_neg q2).symm.trans f
      refine lv_aload_n S.1 S.2.1 dX11_shares_9 rfl (lv_at hl 0 rfl) ?_
      obtain ⟨r3, e4, f⟩ := ob f
      refine o_gR S lf11_shares_18 I e4 dX11_shares_10 ?_
      obtain ⟨r5, e6, f⟩ := ob f
      refine o_gR S lf11_shares_102 I e6 dX11_shares_13 ?_
      obtain ⟨v7, e8, f⟩ := ob f
      refine o_gI S lf11_shares_106 I e8 dX11_shares_16 ?_
      refine lv_iconst (v := 1) S.1 S.2.1 dX11_shares_19 (by decide) ?_
      refine lv_icmp_ge (tgt := 25) S.1 S.2.1 dX11_shares_20 (by decide) (fun q9 => ?_) (fun q9 => ?_)
      · have f := (if_pos q9).symm.trans f
        refine lv_iload_n S.1 S.2.1 dX11_shares_25 rfl (lv_at hl 1 rfl) ?_
        refine lv_if_ne (tgt := 49) S.1 S.2.1 dX11_shares_26 (by decide) (fun q10 => ?_) (fun q10 => ?_)
        · have f := (if_neg q10).symm.trans f
          refine lv_aload_n S.1 S.2.1 dX11_shares_49 rfl (lv_at hl 0 rfl) ?_
          obtain ⟨r11, e12, f⟩ := ob f
          refine o_gR S lf11_shares_47 I e12 dX11_shares_50 ?_
          refine lv_aload_n S.1 S.2.1 dX11_shares_53 rfl (lv_at hl 0 rfl) ?_
          obtain ⟨r13, e14, f⟩ := ob f
          refine o_gR S lf11_shares_18 I e14 dX11_shares_54 ?_
          obtain ⟨r15, e16, f⟩ := ob f
          refine o_gR S lf11_shares_102 I e16 dX11_shares_57 ?_
          obtain ⟨v17, e18, f⟩ := ob f
          refine o_gI S lf11_shares_106 I e18 dX11_shares_60 ?_
          obtain ⟨o19, e20, f⟩ := ob f
          refine o_Vi S (As := [.int v17]) (rest := []) (ci := 4) (M4_hadInSum l D cy b A fl e20) gX11_shares_X4_hadInSum rfl rfl rfl cd4_hadInSum ⟨Nat.le_of_ble_eq_true rfl, Nat.le_of_ble_eq_true rfl⟩ I (gd e20).1 clX4 rfl rfl hl.1 rfl (Nat.le_of_ble_eq_true rfl) dX11_shares_63 ⟨Nat.le_of_ble_eq_true rfl, Nat.le_of_ble_eq_true rfl⟩ (fun H locs I => ?_)
          exact o_iret S hr hlo I f dX11_shares_66
        · have f := (if_pos q10).symm.trans f
          refine lv_aload_n S.1 S.2.1 dX11_shares_29 rfl (lv_at hl 0 rfl) ?_
          obtain ⟨r21, e22, f⟩ := ob f
          refine o_gR S lf11_shares_47 I e22 dX11_shares_30 ?_
          refine lv_aload_n S.1 S.2.1 dX11_shares_33 rfl (lv_at hl 0 rfl) ?_
          obtain ⟨r23, e24, f⟩ := ob f
          refine o_gR S lf11_shares_18 I e24 dX11_shares_34 ?_
          obtain ⟨r25, e26, f⟩ := ob f
          refine o_gR S lf11_shares_102 I e26 dX11_shares_37 ?_
          obtain ⟨v27, e28, f⟩ := ob f
          refine o_gI S lf11_shares_106 I e28 dX11_shares_40 ?_
          obtain ⟨o29, e30, f⟩ := ob f
          refine o_Vi S (As := [.int v27]) (rest := []) (ci := 4) (M4_unlike l D cy b A fl e30) gX11_shares_X4_unlike rfl rfl rfl cd4_unlike ⟨Nat.le_of_ble_eq_true rfl, Nat.le_of_ble_eq_true rfl⟩ I (gd e30).1 clX4 rfl rfl hl.1 rfl (Nat.le_of_ble_eq_true rfl) dX11_shares_43 ⟨Nat.le_of_ble_eq_true rfl, Nat.le_of_ble_eq_true rfl⟩ (fun H locs I => ?_)
          refine lv_goto (tgt := 66) S.1 S.2.1 dX11_shares_46 (by decide) ?_
          exact o_iret S hr hlo I f dX11_shares_66
      · have f := (if_neg q9).symm.trans f
        refine lv_iconst (v := (-1)) S.1 S.2.1 dX11_shares_23 (by decide) ?_
        exact o_iret S hr hlo I f dX11_shares_24
theorem M11_shares (l : Launch) (D : va_G) (cy : Nat → ClassId) (b : Nat) (A : Nat → Prop) (fl : Bool) {h : PH} {a0 : Nat} {x1 : Int32} {out : Int32 × PH} (f : F11_shares h a0 x1 = some out) : Met l yX11_shares vX11_shares ({ frames := 2, cells := 0, slots := 0, locals := 48 } : Room) (va_Pc [.ref (b + a0), .int x1] (ph_B D cy b A fl h)) (va_Qi (fun (r : Int32) (u : PH) => (r, u) = out) (ph_B D cy b A fl) A) 0 0 A :=
  o_met (by decide) rfl (Nat.le_of_ble_eq_true rfl) rfl (fun p e s m below meth c S hr hlo hnm ls hl I => T11_shares_0 S hr hlo ((gd f).2) I (lv_sub hl [0, 1] rfl))
def vX11_strike : List Cond := .code yX11_strike cX11_strike 2 (some .int) :: TB
theorem lf11_strike_60 : Fl vX11_strike RX11 60 11 11 := ⟨RX11, TX11, 14, rfl, by decide, (fun w h9 => List.mem_cons_of_mem _ (wC_wsX110 w h9)), (List.mem_cons_of_mem _ wT_2_14)⟩
theorem lf11_strike_323 : Fl vX11_strike RX11 323 3 0 := ⟨RX3, TX3, 7, rfl, by decide, (fun w h9 => List.mem_cons_of_mem _ (wC_wsX30 w h9)), (List.mem_cons_of_mem _ wT_23_18)⟩
theorem gX11_strike_X3_addStrike : GoodIn vX11_strike (wsV RX11 324 RX3 yX3_addStrike vX3_addStrike) := gV_of wT_62_6 wT_62_7 wT_62_8 wT_2_13 wT_62_9
set_option maxHeartbeats 4000000 in
set_option maxRecDepth 100000 in
theorem T11_strike_0 (S : CallFix p m c cX11_strike 2 s args vX11_strike RX11) (hr : meth.sig.returnType = (some .int)) (hlo : meth.locks = false) {out : Int32 × PH} {h : PH} {a0 : Nat} {x1 : Int32} (f : F11_strike_0  h a0 x1 = some out) {H : Heap} {locs : List Loc} (I : ph_I D cy b A fl h s H locs) {ls : Array Slot} (hl : lv_has ls 2 [(0, .ref (b + a0)), (1, .int x1)]) : W p l e ({ frames := 1, cells := 0, slots := 0, locals := 21 } : Room) s m args below meth c H locs 0 0 (MQ below (va_Qi (fun (r : Int32) (u : PH) => (r, u) = out) (ph_B D cy b A fl) A) args s 0 0 A) (F0 m 0 ls []) := by
  unfold F11_strike_0 at f
  refine lv_iload_n S.1 S.2.1 dX11_strike_0 rfl (lv_at hl 1 rfl) ?_
  refine lv_if_lt (tgt := 15) S.1 S.2.1 dX11_strike_1 (by decide) (fun q1 => ?_) (fun q1 => ?_)
  · have f := (if_pos q1).symm.trans f
    refine lv_iconst (v := (-1)) S.1 S.2.1 dX11_strike_15 (by decide) ?_
    exact o_iret S hr hlo I f dX11_strike_16
  · have f := (if_neg q1).symm.trans f
    refine lv_iload_n S.1 S.2.1 dX11_strike_4 rfl (lv_at hl 1 rfl) ?_
    refine lv_aload_n S.1 S.2.1 dX11_strike_5 rfl (lv_at hl 0 rfl) ?_
    obtain ⟨r2, e3, f⟩ := ob f
    refine o_gR S lf11_strike_60 I e3 dX11_strike_6 ?_
    obtain ⟨v4, e5, f⟩ := ob f
    refine o_gI S lf11_strike_323 I e5 dX11_strike_9 ?_
    refine lv_icmp_lt (tgt := 17) S.1 S.2.1 dX11_strike_12 (by decide) (fun q6 => ?_) (fun q6 => ?_)
    · have f := (if_pos q6).symm.trans f
      refine lv_aload_n S.1 S.2.1 dX11_strike_17 rfl (lv_at hl 0 rfl) ?_
      obtain ⟨r7, e8, f⟩ := ob f
      refine o_gR S lf11_strike_60 I e8 dX11_strike_18 ?_
      refine lv_iload_n S.1 S.2.1 dX11_strike_21 rfl (lv_at hl 1 rfl) ?_
      obtain ⟨o9, e10, f⟩ := ob f
      refine o_Vi S (As := [.int x1]) (rest := []) (ci := 3) (M3_addStrike l D cy b A fl e10) gX11_strike_X3_addStrike rfl rfl rfl cd3_addStrike ⟨Nat.le_of_ble_eq_true rfl, Nat.le_of_ble_eq_true rfl⟩ I (gd e10).1 clX3 rfl rfl hl.1 rfl (Nat.le_of_ble_eq_true rfl) dX11_strike_22 ⟨Nat.le_of_ble_eq_true rfl, Nat.le_of_ble_eq_true rfl⟩ (fun H locs I => ?_)
      exact o_iret S hr hlo I f dX11_strike_25
    · have f := (if_neg q6).symm.trans f
      refine lv_iconst (v := (-1)) S.1 S.2.1 dX11_strike_15 (by decide) ?_
      exact o_iret S hr hlo I f dX11_strike_16
theorem M11_strike (l : Launch) (D : va_G) (cy : Nat → ClassId) (b : Nat) (A : Nat → Prop) (fl : Bool) {h : PH} {a0 : Nat} {x1 : Int32} {out : Int32 × PH} (f : F11_strike h a0 x1 = some out) : Met l yX11_strike vX11_strike ({ frames := 1, cells := 0, slots := 0, locals := 21 } : Room) (va_Pc [.ref (b + a0), .int x1] (ph_B D cy b A fl h)) (va_Qi (fun (r : Int32) (u : PH) => (r, u) = out) (ph_B D cy b A fl) A) 0 0 A :=
  o_met (by decide) rfl (Nat.le_of_ble_eq_true rfl) rfl (fun p e s m below meth c S hr hlo hnm ls hl I => T11_strike_0 S hr hlo ((gd f).2) I (lv_sub hl [0, 1] rfl))
def vX11_stroke : List Cond := .code yX11_stroke cX11_stroke 5 (some .int) :: TB
theorem gX11_stroke_X11_isSurfer : GoodIn vX11_stroke (wsV RX11 115 RX11 yX11_isSurfer vX11_isSurfer) := gV_of wT_33_17 wT_33_18 wT_33_19 wT_1_2 wT_33_20
theorem lf11_stroke_47 : Fl vX11_stroke RX11 47 11 7 := ⟨RX11, TX11, 14, rfl, by decide, (fun w h9 => List.mem_cons_of_mem _ (wC_wsX110 w h9)), (List.mem_cons_of_mem _ wT_2_8)⟩
theorem lf11_stroke_122 : Fl vX11_stroke RX11 122 4 5 := ⟨RX4, TX4, 11, rfl, by decide, (fun w h9 => List.mem_cons_of_mem _ (wC_wsX40 w h9)), (List.mem_cons_of_mem _ wT_33_11)⟩
theorem lf11_stroke_18 : Fl vX11_stroke RX11 18 11 3 := ⟨RX11, TX11, 14, rfl, by decide, (fun w h9 => List.mem_cons_of_mem _ (wC_wsX110 w h9)), (List.mem_cons_of_mem _ wT_1_18)⟩
theorem gX11_stroke_X8_cellBeside : GoodIn vX11_stroke (wsV RX11 202 RX8 yX8_cellBeside vX8_cellBeside) := gV_of wT_41_12 wT_41_13 wT_41_14 wT_1_17 wT_41_15
theorem lf11_stroke_186 : Fl vX11_stroke RX11 186 4 0 := ⟨RX4, TX4, 11, rfl, by decide, (fun w h9 => List.mem_cons_of_mem _ (wC_wsX40 w h9)), (List.mem_cons_of_mem _ wT_34_1)⟩
theorem gX11_stroke_X4_isIn : GoodIn vX11_stroke (wsV RX11 206 RX4 yX4_isIn vX4_isIn) := gV_of wT_41_21 wT_41_22 wT_41_23 wT_2_7 wT_42_0
theorem lf11_stroke_137 : Fl vX11_stroke RX11 137 4 9 := ⟨RX4, TX4, 11, rfl, by decide, (fun w h9 => List.mem_cons_of_mem _ (wC_wsX40 w h9)), (List.mem_cons_of_mem _ wT_33_16)⟩
theorem lf11_stroke_102 : Fl vX11_stroke RX11 102 8 4 := ⟨RX8, TX8, 14, rfl, by decide, (fun w h9 => List.mem_cons_of_mem _ (wC_wsX80 w h9)), (List.mem_cons_of_mem _ wT_32_14)⟩
theorem lf11_stroke_134 : Fl vX11_stroke RX11 134 1 4 := ⟨RX1, TX1, 7, rfl, by decide, (fun w h9 => List.mem_cons_of_mem _ (wC_wsX10 w h9)), (List.mem_cons_of_mem _ wT_33_15)⟩
theorem lf11_stroke_67 : Fl vX11_stroke RX11 67 11 12 := ⟨RX11, TX11, 14, rfl, by decide, (fun w h9 => List.mem_cons_of_mem _ (wC_wsX110 w h9)), (List.mem_cons_of_mem _ wT_2_18)⟩
theorem gX11_stroke_X9_add : GoodIn vX11_stroke (wsV RX11 210 RX9 yX9_add vX9_add) := gV_of wT_42_1 wT_42_2 wT_42_3 wT_2_17 wT_42_4
set_option maxHeartbeats 4000000 in
set_option maxRecDepth 100000 in
theorem T11_stroke_0 (S : CallFix p m c cX11_stroke 5 s args vX11_stroke RX11) (hr : meth.sig.returnType = (some .int)) (hlo : meth.locks = false) {out : Int32 × PH} {h : PH} {a0 : Nat} {x1 : Int32} {x2 : Int32} (f : F11_stroke_0  h a0 x1 x2 = some out) {H : Heap} {locs : List Loc} (I : ph_I D cy b A false h s H locs) {ls : Array Slot} (hl : lv_has ls 5 [(0, .ref (b + a0)), (1, .int x1), (2, .int x2)]) : W p l e ({ frames := 2, cells := 0, slots := 0, locals := 62 } : Room) s m args below meth c H locs 0 0 (MQ below (va_Qi (fun (r : Int32) (u : PH) => (r, u) = out) (ph_B D cy b A false) A) args s 0 0 A) (F0 m 0 ls []) := by
  unfold F11_stroke_0 at f
  refine lv_aload_n S.1 S.2.1 dX11_stroke_0 rfl (lv_at hl 0 rfl) ?_
  refine lv_iload_n S.1 S.2.1 dX11_stroke_1 rfl (lv_at hl 1 rfl) ?_
  obtain ⟨o1, e2, f⟩ := ob f
  refine o_Vi S (As := [.int x1]) (rest := []) (ci := 11) (M11_isSurfer l D cy b A false e2) gX11_stroke_X11_isSurfer rfl rfl rfl cd11_isSurfer ⟨Nat.le_of_ble_eq_true rfl, Nat.le_of_ble_eq_true rfl⟩ I (gd e2).1 clX11 rfl rfl hl.1 rfl (Nat.le_of_ble_eq_true rfl) dX11_stroke_2 ⟨Nat.le_of_ble_eq_true rfl, Nat.le_of_ble_eq_true rfl⟩ (fun H locs I => ?_)
  refine lv_if_eq (tgt := 17) S.1 S.2.1 dX11_stroke_5 (by decide) (fun q3 => ?_) (fun q3 => ?_)
  · have f := (if_pos q3).symm.trans f
    refine lv_iconst (v := (-1)) S.1 S.2.1 dX11_stroke_17 (by decide) ?_
    exact o_iret S hr hlo I f dX11_stroke_18
  · have f := (if_neg q3).symm.trans f
    refine lv_iload_n S.1 S.2.1 dX11_stroke_8 rfl (lv_at hl 2 rfl) ?_
    refine lv_if_lt (tgt := 17) S.1 S.2.1 dX11_stroke_9 (by decide) (fun q4 => ?_) (fun q4 => ?_)
    · have f := (if_pos q4).symm.trans f
      refine lv_iconst (v := (-1)) S.1 S.2.1 dX11_stroke_17 (by decide) ?_
      exact o_iret S hr hlo I f dX11_stroke_18
    · have f := (if_neg q4).symm.trans f
      refine lv_iload_n S.1 S.2.1 dX11_stroke_12 rfl (lv_at hl 2 rfl) ?_
      refine lv_iconst (v := 4) S.1 S.2.1 dX11_stroke_13 (by decide) ?_
      refine lv_icmp_lt (tgt := 19) S.1 S.2.1 dX11_stroke_14 (by decide) (fun q5 => ?_) (fun q5 => ?_)
      · have f := (if_pos q5).symm.trans f
        refine lv_aload_n S.1 S.2.1 dX11_stroke_19 rfl (lv_at hl 0 rfl) ?_
        obtain ⟨r6, e7, f⟩ := ob f
        refine o_gR S lf11_stroke_47 I e7 dX11_stroke_20 ?_
        obtain ⟨r8, e9, f⟩ := ob f
        refine o_gR S lf11_stroke_122 I e9 dX11_stroke_23 ?_
        refine lv_iload_n S.1 S.2.1 dX11_stroke_26 rfl (lv_at hl 1 rfl) ?_
        obtain ⟨v11, e10, f⟩ := ob f
        refine o_iald S I e10 dX11_stroke_27 ?_
        refine lv_istore_n (lv' := [(3, .int v11), (0, .ref (b + a0)), (1, .int x1), (2, .int x2)]) S.1 S.2.1 dX11_stroke_28 rfl hl (by decide) rfl (fun ls hl => ?_)
        refine lv_aload_n S.1 S.2.1 dX11_stroke_29 rfl (lv_at hl 1 rfl) ?_
        obtain ⟨r12, e13, f⟩ := ob f
        refine o_gR S lf11_stroke_18 I e13 dX11_stroke_30 ?_
        refine lv_iload_n S.1 S.2.1 dX11_stroke_33 rfl (lv_at hl 0 rfl) ?_
        refine lv_iload_n S.1 S.2.1 dX11_stroke_34 rfl (lv_at hl 3 rfl) ?_
        obtain ⟨o14, e15, f⟩ := ob f
        refine o_Vi S (As := [.int v11, .int x2]) (rest := []) (ci := 8) (M8_cellBeside l D cy b A false e15) gX11_stroke_X8_cellBeside rfl rfl rfl cd8_cellBeside ⟨Nat.le_of_ble_eq_true rfl, Nat.le_of_ble_eq_true rfl⟩ I (gd e15).1 clX8 rfl rfl hl.1 rfl (Nat.le_of_ble_eq_true rfl) dX11_stroke_35 ⟨Nat.le_of_ble_eq_true rfl, Nat.le_of_ble_eq_true rfl⟩ (fun H locs I => ?_)
        refine lv_istore (lv' := [(4, .int o14.1), (3, .int v11), (0, .ref (b + a0)), (1, .int x1), (2, .int x2)]) S.1 S.2.1 dX11_stroke_38 hl (by decide) rfl (fun ls hl => ?_)
        refine lv_iload S.1 S.2.1 dX11_stroke_40 (lv_at hl 0 rfl) ?_
        refine lv_iconst (v := (-1)) S.1 S.2.1 dX11_stroke_42 (by decide) ?_
        refine lv_icmp_eq (tgt := 88) S.1 S.2.1 dX11_stroke_43 (by decide) (fun q16 => ?_) (fun q16 => ?_)
        · have f := (if_pos q16).symm.trans f
          refine lv_bipush (v := (-2)) S.1 S.2.1 dX11_stroke_88 (by decide) ?_
          exact o_iret S hr hlo I f dX11_stroke_90
        · have f := (if_neg q16).symm.trans f
          refine lv_aload_n S.1 S.2.1 dX11_stroke_46 rfl (lv_at hl 2 rfl) ?_
          obtain ⟨r17, e18, f⟩ := ob f
          refine o_gR S lf11_stroke_47 I e18 dX11_stroke_47 ?_
          refine lv_iload_n S.1 S.2.1 dX11_stroke_50 rfl (lv_at hl 3 rfl) ?_
          refine lv_aload_n S.1 S.2.1 dX11_stroke_51 rfl (lv_at hl 2 rfl) ?_
          obtain ⟨r19, e20, f⟩ := ob f
          refine o_gR S lf11_stroke_47 I e20 dX11_stroke_52 ?_
          obtain ⟨v21, e22, f⟩ := ob f
          refine o_gI S lf11_stroke_186 I e22 dX11_stroke_55 ?_
          obtain ⟨o23, e24, f⟩ := ob f
          refine o_Vi S (As := [.int x1, .int v21]) (rest := []) (ci := 4) (M4_isIn l D cy b A false e24) gX11_stroke_X4_isIn rfl rfl rfl cd4_isIn ⟨Nat.le_of_ble_eq_true rfl, Nat.le_of_ble_eq_true rfl⟩ I (gd e24).1 clX4 rfl rfl hl.1 rfl (Nat.le_of_ble_eq_true rfl) dX11_stroke_58 ⟨Nat.le_of_ble_eq_true rfl, Nat.le_of_ble_eq_true rfl⟩ (fun H locs I => ?_)
          refine lv_if_eq (tgt := 88) S.1 S.2.1 dX11_stroke_61 (by decide) (fun q25 => ?_) (fun q25 => ?_)
          · have f := (if_pos q25).symm.trans f
            refine lv_bipush (v := (-2)) S.1 S.2.1 dX11_stroke_88 (by decide) ?_
            exact o_iret S hr hlo I f dX11_stroke_90
          · have f := (if_neg q25).symm.trans f
            refine lv_aload_n S.1 S.2.1 dX11_stroke_64 rfl (lv_at hl 2 rfl) ?_
            obtain ⟨r26, e27, f⟩ := ob f
            refine o_gR S lf11_stroke_47 I e27 dX11_stroke_65 ?_
            obtain ⟨r28, e29, f⟩ := ob f
            refine o_gR S lf11_stroke_137 I e29 dX11_stroke_68 ?_
            refine lv_iload_n S.1 S.2.1 dX11_stroke_71 rfl (lv_at hl 3 rfl) ?_
            obtain ⟨v31, e30, f⟩ := ob f
            refine o_iald S I e30 dX11_stroke_72 ?_
            refine lv_aload_n S.1 S.2.1 dX11_stroke_73 rfl (lv_at hl 2 rfl) ?_
            obtain ⟨r32, e33, f⟩ := ob f
            refine o_gR S lf11_stroke_18 I e33 dX11_stroke_74 ?_
            obtain ⟨r34, e35, f⟩ := ob f
            refine o_gR S lf11_stroke_102 I e35 dX11_stroke_77 ?_
            obtain ⟨r36, e37, f⟩ := ob f
            refine o_gR S lf11_stroke_134 I e37 dX11_stroke_80 ?_
            refine lv_iload_n S.1 S.2.1 dX11_stroke_83 rfl (lv_at hl 3 rfl) ?_
            obtain ⟨v39, e38, f⟩ := ob f
            refine o_iald S I e38 dX11_stroke_84 ?_
            refine lv_icmp_lt (tgt := 91) S.1 S.2.1 dX11_stroke_85 (by decide) (fun q40 => ?_) (fun q40 => ?_)
            · have f := (if_pos q40).symm.trans f
              refine lv_aload_n S.1 S.2.1 dX11_stroke_91 rfl (lv_at hl 2 rfl) ?_
              obtain ⟨r41, e42, f⟩ := ob f
              refine o_gR S lf11_stroke_47 I e42 dX11_stroke_92 ?_
              obtain ⟨r43, e44, f⟩ := ob f
              refine o_gR S lf11_stroke_122 I e44 dX11_stroke_95 ?_
              refine lv_iload_n S.1 S.2.1 dX11_stroke_98 rfl (lv_at hl 3 rfl) ?_
              refine lv_iload S.1 S.2.1 dX11_stroke_99 (lv_at hl 0 rfl) ?_
              obtain ⟨h46, e45, f⟩ := ob f
              refine o_iast S I e45 dX11_stroke_101 (fun H locs I => ?_)
              refine lv_aload_n S.1 S.2.1 dX11_stroke_102 rfl (lv_at hl 2 rfl) ?_
              obtain ⟨r47, e48, f⟩ := ob f
              refine o_gR S lf11_stroke_47 I e48 dX11_stroke_103 ?_
              obtain ⟨r49, e50, f⟩ := ob f
              refine o_gR S lf11_stroke_137 I e50 dX11_stroke_106 ?_
              refine lv_iload_n S.1 S.2.1 dX11_stroke_109 rfl (lv_at hl 3 rfl) ?_
              refine lv_dup2_11 S.1 S.2.1 dX11_stroke_110 rfl rfl ?_
              obtain ⟨v52, e51, f⟩ := ob f
              refine o_iald S I e51 dX11_stroke_111 ?_
              refine lv_iconst (v := 1) S.1 S.2.1 dX11_stroke_112 (by decide) ?_
              refine lv_iadd S.1 S.2.1 dX11_stroke_113 ?_
              obtain ⟨h54, e53, f⟩ := ob f
              refine o_iast S I e53 dX11_stroke_114 (fun H locs I => ?_)
              refine lv_aload_n S.1 S.2.1 dX11_stroke_115 rfl (lv_at hl 2 rfl) ?_
              obtain ⟨r55, e56, f⟩ := ob f
              refine o_gR S lf11_stroke_67 I e56 dX11_stroke_116 ?_
              refine lv_iload_n S.1 S.2.1 dX11_stroke_119 rfl (lv_at hl 3 rfl) ?_
              refine lv_iload_n S.1 S.2.1 dX11_stroke_120 rfl (lv_at hl 1 rfl) ?_
              obtain ⟨o57, e58, f⟩ := ob f
              refine o_Vv S (As := [.int x1, .int v11]) (rest := []) (ci := 9) (M9_add l D cy b A e58) gX11_stroke_X9_add rfl rfl rfl cd9_add ⟨Nat.le_of_ble_eq_true rfl, Nat.le_of_ble_eq_true rfl⟩ I (gd e58).1 clX9 rfl rfl hl.1 rfl (Nat.le_of_ble_eq_true rfl) dX11_stroke_121 ⟨Nat.le_of_ble_eq_true rfl, Nat.le_of_ble_eq_true rfl⟩ (fun H locs I => ?_)
              refine lv_iload S.1 S.2.1 dX11_stroke_124 (lv_at hl 0 rfl) ?_
              exact o_iret S hr hlo I f dX11_stroke_126
            · have f := (if_neg q40).symm.trans f
              refine lv_bipush (v := (-2)) S.1 S.2.1 dX11_stroke_88 (by decide) ?_
              exact o_iret S hr hlo I f dX11_stroke_90
      · have f := (if_neg q5).symm.trans f
        refine lv_iconst (v := (-1)) S.1 S.2.1 dX11_stroke_17 (by decide) ?_
        exact o_iret S hr hlo I f dX11_stroke_18
theorem M11_stroke (l : Launch) (D : va_G) (cy : Nat → ClassId) (b : Nat) (A : Nat → Prop) {h : PH} {a0 : Nat} {x1 : Int32} {x2 : Int32} {out : Int32 × PH} (f : F11_stroke h a0 x1 x2 = some out) : Met l yX11_stroke vX11_stroke ({ frames := 2, cells := 0, slots := 0, locals := 62 } : Room) (va_Pc [.ref (b + a0), .int x1, .int x2] (ph_B D cy b A false h)) (va_Qi (fun (r : Int32) (u : PH) => (r, u) = out) (ph_B D cy b A false) A) 0 0 A :=
  o_met (by decide) rfl (Nat.le_of_ble_eq_true rfl) rfl (fun p e s m below meth c S hr hlo hnm ls hl I => T11_stroke_0 S hr hlo ((gd f).2) I (lv_sub hl [0, 1, 2] rfl))
def vX11_table : List Cond := .code yX11_table cX11_table 4 (some .int) :: TB
theorem gX11_table_X11_runBy : GoodIn vX11_table (wsV RX11 284 RX11 yX11_runBy vX11_runBy) := gV_of wT_57_6 wT_57_7 wT_57_8 wT_1_2 wT_57_9
theorem lf11_table_51 : Fl vX11_table RX11 51 11 8 := ⟨RX11, TX11, 14, rfl, by decide, (fun w h9 => List.mem_cons_of_mem _ (wC_wsX110 w h9)), (List.mem_cons_of_mem _ wT_2_9)⟩
theorem lf11_table_287 : Fl vX11_table RX11 287 4 3 := ⟨RX4, TX4, 11, rfl, by decide, (fun w h9 => List.mem_cons_of_mem _ (wC_wsX40 w h9)), (List.mem_cons_of_mem _ wT_57_4)⟩
theorem lf11_table_290 : Fl vX11_table RX11 290 4 4 := ⟨RX4, TX4, 11, rfl, by decide, (fun w h9 => List.mem_cons_of_mem _ (wC_wsX40 w h9)), (List.mem_cons_of_mem _ wT_57_5)⟩
theorem lf11_table_18 : Fl vX11_table RX11 18 11 3 := ⟨RX11, TX11, 14, rfl, by decide, (fun w h9 => List.mem_cons_of_mem _ (wC_wsX110 w h9)), (List.mem_cons_of_mem _ wT_1_18)⟩
theorem lf11_table_102 : Fl vX11_table RX11 102 8 4 := ⟨RX8, TX8, 14, rfl, by decide, (fun w h9 => List.mem_cons_of_mem _ (wC_wsX80 w h9)), (List.mem_cons_of_mem _ wT_32_14)⟩
theorem lf11_table_106 : Fl vX11_table RX11 106 1 0 := ⟨RX1, TX1, 7, rfl, by decide, (fun w h9 => List.mem_cons_of_mem _ (wC_wsX10 w h9)), (List.mem_cons_of_mem _ wT_32_15)⟩
theorem gX11_table_X4_unlike : GoodIn vX11_table (wsV RX11 293 RX4 yX4_unlike vX4_unlike) := gV_of wT_57_19 wT_57_20 wT_57_21 wT_2_7 wT_57_22
theorem lf11_table_125 : Fl vX11_table RX11 125 4 6 := ⟨RX4, TX4, 11, rfl, by decide, (fun w h9 => List.mem_cons_of_mem _ (wC_wsX40 w h9)), (List.mem_cons_of_mem _ wT_33_12)⟩
theorem gX11_table_X11_isRule : GoodIn vX11_table (wsV RX11 214 RX11 yX11_isRule vX11_isRule) := gV_of wT_43_0 wT_43_1 wT_43_2 wT_1_2 wT_43_3
theorem gX11_table_X11_isSurfer : GoodIn vX11_table (wsV RX11 115 RX11 yX11_isSurfer vX11_isSurfer) := gV_of wT_33_17 wT_33_18 wT_33_19 wT_1_2 wT_33_20
set_option maxHeartbeats 4000000 in
set_option maxRecDepth 100000 in
theorem T11_table_39 (S : CallFix p m c cX11_table 4 s args vX11_table RX11) (hr : meth.sig.returnType = (some .int)) (hlo : meth.locks = false) {out : Int32 × PH} {h : PH} {a0 : Nat} {x1 : Int32} {x2 : Int32} {x3 : Int32} (f : F11_table_39  h a0 x1 x2 x3 = some out) {H : Heap} {locs : List Loc} (I : ph_I D cy b A false h s H locs) {ls : Array Slot} (hl : lv_has ls 4 [(0, .ref (b + a0)), (1, .int x1), (2, .int x2), (3, .int x3)]) : W p l e ({ frames := 7, cells := 0, slots := 0, locals := 177 } : Room) s m args below meth c H locs 0 0 (MQ below (va_Qi (fun (r : Int32) (u : PH) => (r, u) = out) (ph_B D cy b A false) A) args s 0 0 A) (F0 m 39 ls []) := by
  unfold F11_table_39 at f
  refine lv_aload_n S.1 S.2.1 dX11_table_39 rfl (lv_at hl 0 rfl) ?_
  refine lv_iload_n S.1 S.2.1 dX11_table_40 rfl (lv_at hl 1 rfl) ?_
  refine lv_iload_n S.1 S.2.1 dX11_table_41 rfl (lv_at hl 2 rfl) ?_
  obtain ⟨o1, e2, f⟩ := ob f
  refine o_Vv S (As := [.int x1, .int x2]) (rest := []) (ci := 11) (M11_runBy l D cy b A e2) gX11_table_X11_runBy rfl rfl rfl cd11_runBy ⟨Nat.le_of_ble_eq_true rfl, Nat.le_of_ble_eq_true rfl⟩ I (gd e2).1 clX11 rfl rfl hl.1 rfl (Nat.le_of_ble_eq_true rfl) dX11_table_42 ⟨Nat.le_of_ble_eq_true rfl, Nat.le_of_ble_eq_true rfl⟩ (fun H locs I => ?_)
  refine lv_iload_n S.1 S.2.1 dX11_table_45 rfl (lv_at hl 3 rfl) ?_
  rcases Decidable.em (x3 = 5) with q3 | q3
  · have f := (if_pos q3).symm.trans f
    refine lv_tableIn (off := 26) (tgt := 72) S.1 S.2.1 dX11_table_46 (by rw [q3]; decide) (by rw [q3]; decide) (by rw [q3]; rfl) (by decide) ?_
    refine lv_aload_n S.1 S.2.1 dX11_table_72 rfl (lv_at hl 0 rfl) ?_
    obtain ⟨r4, e5, f⟩ := ob f
    refine o_gR S lf11_table_51 I e5 dX11_table_73 ?_
    obtain ⟨v6, e7, f⟩ := ob f
    refine o_gI S lf11_table_287 I e7 dX11_table_76 ?_
    exact o_iret S hr hlo I f dX11_table_79
  have f := (if_neg q3).symm.trans f
  rcases Decidable.em (x3 = 6) with q8 | q8
  · have f := (if_pos q8).symm.trans f
    refine lv_tableIn (off := 34) (tgt := 80) S.1 S.2.1 dX11_table_46 (by rw [q8]; decide) (by rw [q8]; decide) (by rw [q8]; rfl) (by decide) ?_
    refine lv_aload_n S.1 S.2.1 dX11_table_80 rfl (lv_at hl 0 rfl) ?_
    obtain ⟨r9, e10, f⟩ := ob f
    refine o_gR S lf11_table_51 I e10 dX11_table_81 ?_
    obtain ⟨v11, e12, f⟩ := ob f
    refine o_gI S lf11_table_290 I e12 dX11_table_84 ?_
    exact o_iret S hr hlo I f dX11_table_87
  have f := (if_neg q8).symm.trans f
  rcases Decidable.em (x3 = 7) with q13 | q13
  · have f := (if_pos q13).symm.trans f
    refine lv_tableIn (off := 42) (tgt := 88) S.1 S.2.1 dX11_table_46 (by rw [q13]; decide) (by rw [q13]; decide) (by rw [q13]; rfl) (by decide) ?_
    refine lv_aload_n S.1 S.2.1 dX11_table_88 rfl (lv_at hl 0 rfl) ?_
    obtain ⟨r14, e15, f⟩ := ob f
    refine o_gR S lf11_table_51 I e15 dX11_table_89 ?_
    refine lv_aload_n S.1 S.2.1 dX11_table_92 rfl (lv_at hl 0 rfl) ?_
    obtain ⟨r16, e17, f⟩ := ob f
    refine o_gR S lf11_table_18 I e17 dX11_table_93 ?_
    obtain ⟨r18, e19, f⟩ := ob f
    refine o_gR S lf11_table_102 I e19 dX11_table_96 ?_
    obtain ⟨v20, e21, f⟩ := ob f
    refine o_gI S lf11_table_106 I e21 dX11_table_99 ?_
    obtain ⟨o22, e23, f⟩ := ob f
    refine o_Vi S (As := [.int v20]) (rest := []) (ci := 4) (M4_unlike l D cy b A false e23) gX11_table_X4_unlike rfl rfl rfl cd4_unlike ⟨Nat.le_of_ble_eq_true rfl, Nat.le_of_ble_eq_true rfl⟩ I (gd e23).1 clX4 rfl rfl hl.1 rfl (Nat.le_of_ble_eq_true rfl) dX11_table_102 ⟨Nat.le_of_ble_eq_true rfl, Nat.le_of_ble_eq_true rfl⟩ (fun H locs I => ?_)
    exact o_iret S hr hlo I f dX11_table_105
  have f := (if_neg q13).symm.trans f
  refine lv_tableOut (tgt := 106) S.1 S.2.1 dX11_table_46 (by have := lv_neT q3 (a := 5) (by decide); have := lv_neT q8 (a := 6) (by decide); have := lv_neT q13 (a := 7) (by decide); omega) (by decide) ?_
  refine lv_aload_n S.1 S.2.1 dX11_table_106 rfl (lv_at hl 0 rfl) ?_
  obtain ⟨r24, e25, f⟩ := ob f
  refine o_gR S lf11_table_51 I e25 dX11_table_107 ?_
  obtain ⟨r26, e27, f⟩ := ob f
  refine o_gR S lf11_table_125 I e27 dX11_table_110 ?_
  refine lv_iload_n S.1 S.2.1 dX11_table_113 rfl (lv_at hl 3 rfl) ?_
  obtain ⟨v29, e28, f⟩ := ob f
  refine o_iald S I e28 dX11_table_114 ?_
  exact o_iret S hr hlo I f dX11_table_115
set_option maxHeartbeats 4000000 in
set_option maxRecDepth 100000 in
theorem T11_table_0 (S : CallFix p m c cX11_table 4 s args vX11_table RX11) (hr : meth.sig.returnType = (some .int)) (hlo : meth.locks = false) {out : Int32 × PH} {h : PH} {a0 : Nat} {x1 : Int32} {x2 : Int32} {x3 : Int32} (f : F11_table_0  h a0 x1 x2 x3 = some out) {H : Heap} {locs : List Loc} (I : ph_I D cy b A false h s H locs) {ls : Array Slot} (hl : lv_has ls 4 [(0, .ref (b + a0)), (1, .int x1), (2, .int x2), (3, .int x3)]) : W p l e ({ frames := 7, cells := 0, slots := 0, locals := 177 } : Room) s m args below meth c H locs 0 0 (MQ below (va_Qi (fun (r : Int32) (u : PH) => (r, u) = out) (ph_B D cy b A false) A) args s 0 0 A) (F0 m 0 ls []) := by
  unfold F11_table_0 at f
  refine lv_aload_n S.1 S.2.1 dX11_table_0 rfl (lv_at hl 0 rfl) ?_
  refine lv_iload_n S.1 S.2.1 dX11_table_1 rfl (lv_at hl 1 rfl) ?_
  obtain ⟨o1, e2, f⟩ := ob f
  refine o_Vi S (As := [.int x1]) (rest := []) (ci := 11) (M11_isRule l D cy b A false e2) gX11_table_X11_isRule rfl rfl rfl cd11_isRule ⟨Nat.le_of_ble_eq_true rfl, Nat.le_of_ble_eq_true rfl⟩ I (gd e2).1 clX11 rfl rfl hl.1 rfl (Nat.le_of_ble_eq_true rfl) dX11_table_2 ⟨Nat.le_of_ble_eq_true rfl, Nat.le_of_ble_eq_true rfl⟩ (fun H locs I => ?_)
  refine lv_if_eq (tgt := 22) S.1 S.2.1 dX11_table_5 (by decide) (fun q3 => ?_) (fun q3 => ?_)
  · have f := (if_pos q3).symm.trans f
    refine lv_iconst (v := (-1)) S.1 S.2.1 dX11_table_22 (by decide) ?_
    exact o_iret S hr hlo I f dX11_table_23
  · have f := (if_neg q3).symm.trans f
    refine lv_iload_n S.1 S.2.1 dX11_table_8 rfl (lv_at hl 2 rfl) ?_
    refine lv_if_lt (tgt := 22) S.1 S.2.1 dX11_table_9 (by decide) (fun q4 => ?_) (fun q4 => ?_)
    · have f := (if_pos q4).symm.trans f
      refine lv_iconst (v := (-1)) S.1 S.2.1 dX11_table_22 (by decide) ?_
      exact o_iret S hr hlo I f dX11_table_23
    · have f := (if_neg q4).symm.trans f
      refine lv_iload_n S.1 S.2.1 dX11_table_12 rfl (lv_at hl 3 rfl) ?_
      refine lv_if_lt (tgt := 22) S.1 S.2.1 dX11_table_13 (by decide) (fun q5 => ?_) (fun q5 => ?_)
      · have f := (if_pos q5).symm.trans f
        refine lv_iconst (v := (-1)) S.1 S.2.1 dX11_table_22 (by decide) ?_
        exact o_iret S hr hlo I f dX11_table_23
      · have f := (if_neg q5).symm.trans f
        refine lv_iload_n S.1 S.2.1 dX11_table_16 rfl (lv_at hl 3 rfl) ?_
        refine lv_bipush (v := 7) S.1 S.2.1 dX11_table_17 (by decide) ?_
        refine lv_icmp_le (tgt := 24) S.1 S.2.1 dX11_table_19 (by decide) (fun q6 => ?_) (fun q6 => ?_)
        · have f := (if_pos q6).symm.trans f
          refine lv_iload_n S.1 S.2.1 dX11_table_24 rfl (lv_at hl 3 rfl) ?_
          refine lv_iconst (v := 5) S.1 S.2.1 dX11_table_25 (by decide) ?_
          refine lv_icmp_ge (tgt := 39) S.1 S.2.1 dX11_table_26 (by decide) (fun q7 => ?_) (fun q7 => ?_)
          · have f := (if_pos q7).symm.trans f
            exact T11_table_39 S hr hlo  f I (lv_sub hl [0, 1, 2, 3] rfl)
          · have f := (if_neg q7).symm.trans f
            refine lv_aload_n S.1 S.2.1 dX11_table_29 rfl (lv_at hl 0 rfl) ?_
            refine lv_iload_n S.1 S.2.1 dX11_table_30 rfl (lv_at hl 3 rfl) ?_
            obtain ⟨o8, e9, f⟩ := ob f
            refine o_Vi S (As := [.int x3]) (rest := []) (ci := 11) (M11_isSurfer l D cy b A false e9) gX11_table_X11_isSurfer rfl rfl rfl cd11_isSurfer ⟨Nat.le_of_ble_eq_true rfl, Nat.le_of_ble_eq_true rfl⟩ I (gd e9).1 clX11 rfl rfl hl.1 rfl (Nat.le_of_ble_eq_true rfl) dX11_table_31 ⟨Nat.le_of_ble_eq_true rfl, Nat.le_of_ble_eq_true rfl⟩ (fun H locs I => ?_)
            refine lv_if_ne (tgt := 39) S.1 S.2.1 dX11_table_34 (by decide) (fun q10 => ?_) (fun q10 => ?_)
            · have f := (if_neg q10).symm.trans f
              exact T11_table_39 S hr hlo  f I (lv_sub hl [0, 1, 2, 3] rfl)
            · have f := (if_pos q10).symm.trans f
              refine lv_iconst (v := (-1)) S.1 S.2.1 dX11_table_37 (by decide) ?_
              exact o_iret S hr hlo I f dX11_table_38
        · have f := (if_neg q6).symm.trans f
          refine lv_iconst (v := (-1)) S.1 S.2.1 dX11_table_22 (by decide) ?_
          exact o_iret S hr hlo I f dX11_table_23
theorem M11_table (l : Launch) (D : va_G) (cy : Nat → ClassId) (b : Nat) (A : Nat → Prop) {h : PH} {a0 : Nat} {x1 : Int32} {x2 : Int32} {x3 : Int32} {out : Int32 × PH} (f : F11_table h a0 x1 x2 x3 = some out) : Met l yX11_table vX11_table ({ frames := 7, cells := 0, slots := 0, locals := 177 } : Room) (va_Pc [.ref (b + a0), .int x1, .int x2, .int x3] (ph_B D cy b A false h)) (va_Qi (fun (r : Int32) (u : PH) => (r, u) = out) (ph_B D cy b A false) A) 0 0 A :=
  o_met (by decide) rfl (Nat.le_of_ble_eq_true rfl) rfl (fun p e s m below meth c S hr hlo hnm ls hl I => T11_table_0 S hr hlo ((gd f).2) I (lv_sub hl [0, 1, 2, 3] rfl))
def vX11_text : List Cond := .code yX11_text cX11_text 3 (some .int) :: TB
theorem lf11_text_78 : Fl vX11_text RX11 78 11 1 := ⟨RX11, TX11, 14, rfl, by decide, (fun w h9 => List.mem_cons_of_mem _ (wC_wsX110 w h9)), (List.mem_cons_of_mem _ wT_13_8)⟩
theorem lp11_text_78 : Pl vX11_text RX11 78 11 1 .int := ⟨RX11, TX11, 14, tyX11, rfl, by decide, (fun w h9 => List.mem_cons_of_mem _ (wC_wsX110 w h9)), (List.mem_cons_of_mem _ wT_13_8), tyX11_ok, nmX11, rfl, rfl⟩
theorem lf11_text_30 : Fl vX11_text RX11 30 11 2 := ⟨RX11, TX11, 14, rfl, by decide, (fun w h9 => List.mem_cons_of_mem _ (wC_wsX110 w h9)), (List.mem_cons_of_mem _ wT_1_23)⟩
theorem lf11_text_11 : Fl vX11_text RX11 11 11 0 := ⟨RX11, TX11, 14, rfl, by decide, (fun w h9 => List.mem_cons_of_mem _ (wC_wsX110 w h9)), (List.mem_cons_of_mem _ wT_1_14)⟩
theorem lf11_text_22 : Fl vX11_text RX11 22 11 4 := ⟨RX11, TX11, 14, rfl, by decide, (fun w h9 => List.mem_cons_of_mem _ (wC_wsX110 w h9)), (List.mem_cons_of_mem _ wT_1_19)⟩
theorem gX11_text_X5_readAll : GoodIn vX11_text (wsV RX11 86 RX5 yX5_readAll vX5_readAll) := gV_of wT_14_0 wT_14_1 wT_14_2 wT_1_22 wT_14_3
theorem lf11_text_18 : Fl vX11_text RX11 18 11 3 := ⟨RX11, TX11, 14, rfl, by decide, (fun w h9 => List.mem_cons_of_mem _ (wC_wsX110 w h9)), (List.mem_cons_of_mem _ wT_1_18)⟩
theorem lp11_text_18 : Pl vX11_text RX11 18 11 3 (.object "WhoseWave$Told") := ⟨RX11, TX11, 14, tyX11, rfl, by decide, (fun w h9 => List.mem_cons_of_mem _ (wC_wsX110 w h9)), (List.mem_cons_of_mem _ wT_1_18), tyX11_ok, nmX11, rfl, rfl⟩
theorem lp11_text_22 : Pl vX11_text RX11 22 11 4 (.object "WhoseWave$Told") := ⟨RX11, TX11, 14, tyX11, rfl, by decide, (fun w h9 => List.mem_cons_of_mem _ (wC_wsX110 w h9)), (List.mem_cons_of_mem _ wT_1_19), tyX11_ok, nmX11, rfl, rfl⟩
theorem gX11_text_X11_beginAnew : GoodIn vX11_text (wsV RX11 90 RX11 yX11_beginAnew vX11_beginAnew) := gV_of wT_23_14 wT_23_15 wT_23_16 wT_1_2 wT_23_17
theorem lf11_text_93 : Fl vX11_text RX11 93 8 12 := ⟨RX8, TX8, 14, rfl, by decide, (fun w h9 => List.mem_cons_of_mem _ (wC_wsX80 w h9)), (List.mem_cons_of_mem _ wT_13_23)⟩
set_option maxHeartbeats 4000000 in
set_option maxRecDepth 100000 in
theorem T11_text_0 (S : CallFix p m c cX11_text 3 s args vX11_text RX11) (hr : meth.sig.returnType = (some .int)) (hlo : meth.locks = false) {out : Int32 × PH} {h : PH} {a0 : Nat} {x1 : Int32} (f : F11_text_0  h a0 x1 = some out) {H : Heap} {locs : List Loc} (I : ph_I D cy b A false h s H locs) {ls : Array Slot} (hl : lv_has ls 3 [(0, .ref (b + a0)), (1, .int x1)]) : W p l e ({ frames := 7, cells := 0, slots := 0, locals := 167 } : Room) s m args below meth c H locs 0 0 (MQ below (va_Qi (fun (r : Int32) (u : PH) => (r, u) = out) (ph_B D cy b A false) A) args s 0 0 A) (F0 m 0 ls []) := by
  unfold F11_text_0 at f
  refine lv_iload_n S.1 S.2.1 dX11_text_0 rfl (lv_at hl 1 rfl) ?_
  refine lv_if_lt (tgt := 12) S.1 S.2.1 dX11_text_1 (by decide) (fun q1 => ?_) (fun q1 => ?_)
  · have f := (if_pos q1).symm.trans f
    refine lv_bipush (v := (-2)) S.1 S.2.1 dX11_text_12 (by decide) ?_
    exact o_iret S hr hlo I f dX11_text_14
  · have f := (if_neg q1).symm.trans f
    refine lv_iload_n S.1 S.2.1 dX11_text_4 rfl (lv_at hl 1 rfl) ?_
    refine lv_aload_n S.1 S.2.1 dX11_text_5 rfl (lv_at hl 0 rfl) ?_
    obtain ⟨v2, e3, f⟩ := ob f
    refine o_gI S lf11_text_78 I e3 dX11_text_6 ?_
    refine lv_icmp_le (tgt := 15) S.1 S.2.1 dX11_text_9 (by decide) (fun q4 => ?_) (fun q4 => ?_)
    · have f := (if_pos q4).symm.trans f
      refine lv_aload_n S.1 S.2.1 dX11_text_15 rfl (lv_at hl 0 rfl) ?_
      refine lv_iconst (v := 0) S.1 S.2.1 dX11_text_16 (by decide) ?_
      obtain ⟨h5, e6, f⟩ := ob f
      refine o_pI S lp11_text_78 I e6 dX11_text_17 (fun H locs I => ?_)
      refine lv_aload_n S.1 S.2.1 dX11_text_20 rfl (lv_at hl 0 rfl) ?_
      obtain ⟨r7, e8, f⟩ := ob f
      refine o_gR S lf11_text_30 I e8 dX11_text_21 ?_
      refine lv_aload_n S.1 S.2.1 dX11_text_24 rfl (lv_at hl 0 rfl) ?_
      obtain ⟨r9, e10, f⟩ := ob f
      refine o_gR S lf11_text_11 I e10 dX11_text_25 ?_
      refine lv_iload_n S.1 S.2.1 dX11_text_28 rfl (lv_at hl 1 rfl) ?_
      refine lv_aload_n S.1 S.2.1 dX11_text_29 rfl (lv_at hl 0 rfl) ?_
      obtain ⟨r11, e12, f⟩ := ob f
      refine o_gR S lf11_text_22 I e12 dX11_text_30 ?_
      obtain ⟨o13, e14, f⟩ := ob f
      refine o_Vi S (As := [.ref (b + r9), .int x1, .ref (b + r11)]) (rest := []) (ci := 5) (M5_readAll l D cy b A false e14) gX11_text_X5_readAll rfl rfl rfl cd5_readAll ⟨Nat.le_of_ble_eq_true rfl, Nat.le_of_ble_eq_true rfl⟩ I (gd e14).1 clX5 rfl rfl hl.1 rfl (Nat.le_of_ble_eq_true rfl) dX11_text_33 ⟨Nat.le_of_ble_eq_true rfl, Nat.le_of_ble_eq_true rfl⟩ (fun H locs I => ?_)
      refine lv_if_ne (tgt := 41) S.1 S.2.1 dX11_text_36 (by decide) (fun q15 => ?_) (fun q15 => ?_)
      · have f := (if_neg q15).symm.trans f
        refine lv_aload_n S.1 S.2.1 dX11_text_41 rfl (lv_at hl 0 rfl) ?_
        obtain ⟨r16, e17, f⟩ := ob f
        refine o_gR S lf11_text_18 I e17 dX11_text_42 ?_
        refine lv_astore_n (lv' := [(2, .ref (b + r16)), (0, .ref (b + a0)), (1, .int x1)]) S.1 S.2.1 dX11_text_45 rfl hl (by decide) rfl (fun ls hl => ?_)
        refine lv_aload_n S.1 S.2.1 dX11_text_46 rfl (lv_at hl 1 rfl) ?_
        refine lv_aload_n S.1 S.2.1 dX11_text_47 rfl (lv_at hl 1 rfl) ?_
        obtain ⟨r18, e19, f⟩ := ob f
        refine o_gR S lf11_text_22 I e19 dX11_text_48 ?_
        obtain ⟨h20, e21, f⟩ := ob f
        refine o_pR S lp11_text_18 (Or.inl ⟨_, rfl⟩) I e21 dX11_text_51 (fun H locs I => ?_)
        refine lv_aload_n S.1 S.2.1 dX11_text_54 rfl (lv_at hl 1 rfl) ?_
        refine lv_aload_n S.1 S.2.1 dX11_text_55 rfl (lv_at hl 0 rfl) ?_
        obtain ⟨h22, e23, f⟩ := ob f
        refine o_pR S lp11_text_22 (Or.inl ⟨_, rfl⟩) I e23 dX11_text_56 (fun H locs I => ?_)
        refine lv_aload_n S.1 S.2.1 dX11_text_59 rfl (lv_at hl 1 rfl) ?_
        obtain ⟨o24, e25, f⟩ := ob f
        refine o_Vv S (As := []) (rest := []) (ci := 11) (M11_beginAnew l D cy b A e25) gX11_text_X11_beginAnew rfl rfl rfl cd11_beginAnew ⟨Nat.le_of_ble_eq_true rfl, Nat.le_of_ble_eq_true rfl⟩ I (gd e25).1 clX11 rfl rfl hl.1 rfl (Nat.le_of_ble_eq_true rfl) dX11_text_60 ⟨Nat.le_of_ble_eq_true rfl, Nat.le_of_ble_eq_true rfl⟩ (fun H locs I => ?_)
        refine lv_aload_n S.1 S.2.1 dX11_text_63 rfl (lv_at hl 1 rfl) ?_
        obtain ⟨r26, e27, f⟩ := ob f
        refine o_gR S lf11_text_18 I e27 dX11_text_64 ?_
        obtain ⟨v28, e29, f⟩ := ob f
        refine o_gI S lf11_text_93 I e29 dX11_text_67 ?_
        exact o_iret S hr hlo I f dX11_text_70
      · have f := (if_pos q15).symm.trans f
        refine lv_iconst (v := (-1)) S.1 S.2.1 dX11_text_39 (by decide) ?_
        exact o_iret S hr hlo I f dX11_text_40
    · have f := (if_neg q4).symm.trans f
      refine lv_bipush (v := (-2)) S.1 S.2.1 dX11_text_12 (by decide) ?_
      exact o_iret S hr hlo I f dX11_text_14
theorem M11_text (l : Launch) (D : va_G) (cy : Nat → ClassId) (b : Nat) (A : Nat → Prop) {h : PH} {a0 : Nat} {x1 : Int32} {out : Int32 × PH} (f : F11_text h a0 x1 = some out) : Met l yX11_text vX11_text ({ frames := 7, cells := 0, slots := 0, locals := 167 } : Room) (va_Pc [.ref (b + a0), .int x1] (ph_B D cy b A false h)) (va_Qi (fun (r : Int32) (u : PH) => (r, u) = out) (ph_B D cy b A false) A) 0 0 A :=
  o_met (by decide) rfl (Nat.le_of_ble_eq_true rfl) rfl (fun p e s m below meth c S hr hlo hnm ls hl I => T11_text_0 S hr hlo ((gd f).2) I (lv_sub hl [0, 1] rfl))
def vX11_tried : List Cond := .code yX11_tried cX11_tried 6 (some .int) :: TB
theorem lf11_tried_18 : Fl vX11_tried RX11 18 11 3 := ⟨RX11, TX11, 14, rfl, by decide, (fun w h9 => List.mem_cons_of_mem _ (wC_wsX110 w h9)), (List.mem_cons_of_mem _ wT_1_18)⟩
theorem lf11_tried_150 : Fl vX11_tried RX11 150 8 5 := ⟨RX8, TX8, 14, rfl, by decide, (fun w h9 => List.mem_cons_of_mem _ (wC_wsX80 w h9)), (List.mem_cons_of_mem _ wT_36_16)⟩
theorem lf11_tried_299 : Fl vX11_tried RX11 299 10 1 := ⟨RX10, TX10, 8, rfl, by decide, (fun w h9 => List.mem_cons_of_mem _ (wC_wsX100 w h9)), (List.mem_cons_of_mem _ wT_37_2)⟩
theorem lf11_tried_51 : Fl vX11_tried RX11 51 11 8 := ⟨RX11, TX11, 14, rfl, by decide, (fun w h9 => List.mem_cons_of_mem _ (wC_wsX110 w h9)), (List.mem_cons_of_mem _ wT_2_9)⟩
theorem lf11_tried_102 : Fl vX11_tried RX11 102 8 4 := ⟨RX8, TX8, 14, rfl, by decide, (fun w h9 => List.mem_cons_of_mem _ (wC_wsX80 w h9)), (List.mem_cons_of_mem _ wT_32_14)⟩
theorem lf11_tried_106 : Fl vX11_tried RX11 106 1 0 := ⟨RX1, TX1, 7, rfl, by decide, (fun w h9 => List.mem_cons_of_mem _ (wC_wsX10 w h9)), (List.mem_cons_of_mem _ wT_32_15)⟩
theorem gX11_tried_X4_hadInSum : GoodIn vX11_tried (wsV RX11 317 RX4 yX4_hadInSum vX4_hadInSum) := gV_of wT_60_21 wT_60_22 wT_60_23 wT_2_7 wT_61_0
theorem lf11_tried_41 : Fl vX11_tried RX11 41 11 6 := ⟨RX11, TX11, 14, rfl, by decide, (fun w h9 => List.mem_cons_of_mem _ (wC_wsX110 w h9)), (List.mem_cons_of_mem _ wT_2_4)⟩
theorem gX11_tried_X6_bringWave : GoodIn vX11_tried (wsV RX11 364 RX6 yX6_bringWave vX6_bringWave) := gV_of wT_43_20 wT_43_21 wT_43_22 wT_2_2 wT_43_23
theorem lf11_tried_47 : Fl vX11_tried RX11 47 11 7 := ⟨RX11, TX11, 14, rfl, by decide, (fun w h9 => List.mem_cons_of_mem _ (wC_wsX110 w h9)), (List.mem_cons_of_mem _ wT_2_8)⟩
theorem lf11_tried_217 : Fl vX11_tried RX11 217 4 1 := ⟨RX4, TX4, 11, rfl, by decide, (fun w h9 => List.mem_cons_of_mem _ (wC_wsX40 w h9)), (List.mem_cons_of_mem _ wT_42_23)⟩
theorem gX11_tried_X4_takeForRun : GoodIn vX11_tried (wsV RX11 353 RX4 yX4_takeForRun vX4_takeForRun) := gV_of wT_57_10 wT_57_11 wT_57_12 wT_2_7 wT_57_13
theorem lf11_tried_37 : Fl vX11_tried RX11 37 11 5 := ⟨RX11, TX11, 14, rfl, by decide, (fun w h9 => List.mem_cons_of_mem _ (wC_wsX110 w h9)), (List.mem_cons_of_mem _ wT_2_3)⟩
theorem gX11_tried_X6_takeOver : GoodIn vX11_tried (wsV RX11 357 RX6 yX6_takeOver vX6_takeOver) := gV_of wT_64_21 wT_64_22 wT_64_23 wT_2_2 wT_65_0
theorem gX11_tried_X11_changeTrial : GoodIn vX11_tried (wsV RX11 361 RX11 yX11_changeTrial vX11_changeTrial) := gV_of wT_65_1 wT_65_2 wT_65_3 wT_1_2 wT_65_4
theorem gX11_tried_X11_firstToCome : GoodIn vX11_tried (wsV RX11 233 RX11 yX11_firstToCome vX11_firstToCome) := gV_of wT_49_9 wT_49_10 wT_49_11 wT_1_2 wT_49_12
theorem gX11_tried_X11_isSurfer : GoodIn vX11_tried (wsV RX11 115 RX11 yX11_isSurfer vX11_isSurfer) := gV_of wT_33_17 wT_33_18 wT_33_19 wT_1_2 wT_33_20
set_option maxHeartbeats 4000000 in
set_option maxRecDepth 100000 in
theorem T11_tried_96 (S : CallFix p m c cX11_tried 6 s args vX11_tried RX11) (hr : meth.sig.returnType = (some .int)) (hlo : meth.locks = false) {out : Int32 × PH} : ∀ (n : Nat) {h : PH} {a0 : Nat} {x5 : Int32} (f : F11_tried_96  n h a0 x5 = some out) {H : Heap} {locs : List Loc} (I : ph_I D cy b A false h s H locs) {ls : Array Slot} (hl : lv_has ls 6 [(0, .ref (b + a0)), (5, .int x5)]), W p l e ({ frames := 6, cells := 0, slots := 0, locals := 154 } : Room) s m args below meth c H locs 0 0 (MQ below (va_Qi (fun (r : Int32) (u : PH) => (r, u) = out) (ph_B D cy b A false) A) args s 0 0 A) (F0 m 96 ls []) := by
  intro n
  induction n with
  | zero => intro h a0 x5 f; rw [F11_tried_96] at f; cases f
  | succ n ih =>
    intro h a0 x5 f H locs I ls hl
    rw [F11_tried_96] at f
    refine lv_iload S.1 S.2.1 dX11_tried_96 (lv_at hl 1 rfl) ?_
    refine lv_aload_n S.1 S.2.1 dX11_tried_98 rfl (lv_at hl 0 rfl) ?_
    obtain ⟨r1, e2, f⟩ := ob f
    refine o_gR S lf11_tried_18 I e2 dX11_tried_99 ?_
    obtain ⟨r3, e4, f⟩ := ob f
    refine o_gR S lf11_tried_150 I e4 dX11_tried_102 ?_
    obtain ⟨v5, e6, f⟩ := ob f
    refine o_gI S lf11_tried_299 I e6 dX11_tried_105 ?_
    refine lv_icmp_ge (tgt := 130) S.1 S.2.1 dX11_tried_108 (by decide) (fun q7 => ?_) (fun q7 => ?_)
    · have f := (if_pos q7).symm.trans f
      refine lv_aload_n S.1 S.2.1 dX11_tried_130 rfl (lv_at hl 0 rfl) ?_
      obtain ⟨r8, e9, f⟩ := ob f
      refine o_gR S lf11_tried_51 I e9 dX11_tried_131 ?_
      refine lv_aload_n S.1 S.2.1 dX11_tried_134 rfl (lv_at hl 0 rfl) ?_
      obtain ⟨r10, e11, f⟩ := ob f
      refine o_gR S lf11_tried_18 I e11 dX11_tried_135 ?_
      obtain ⟨r12, e13, f⟩ := ob f
      refine o_gR S lf11_tried_102 I e13 dX11_tried_138 ?_
      obtain ⟨v14, e15, f⟩ := ob f
      refine o_gI S lf11_tried_106 I e15 dX11_tried_141 ?_
      obtain ⟨o16, e17, f⟩ := ob f
      refine o_Vi S (As := [.int v14]) (rest := []) (ci := 4) (M4_hadInSum l D cy b A false e17) gX11_tried_X4_hadInSum rfl rfl rfl cd4_hadInSum ⟨Nat.le_of_ble_eq_true rfl, Nat.le_of_ble_eq_true rfl⟩ I (gd e17).1 clX4 rfl rfl hl.1 rfl (Nat.le_of_ble_eq_true rfl) dX11_tried_144 ⟨Nat.le_of_ble_eq_true rfl, Nat.le_of_ble_eq_true rfl⟩ (fun H locs I => ?_)
      exact o_iret S hr hlo I f dX11_tried_147
    · have f := (if_neg q7).symm.trans f
      refine lv_aload_n S.1 S.2.1 dX11_tried_111 rfl (lv_at hl 0 rfl) ?_
      obtain ⟨r18, e19, f⟩ := ob f
      refine o_gR S lf11_tried_41 I e19 dX11_tried_112 ?_
      refine lv_aload_n S.1 S.2.1 dX11_tried_115 rfl (lv_at hl 0 rfl) ?_
      obtain ⟨r20, e21, f⟩ := ob f
      refine o_gR S lf11_tried_51 I e21 dX11_tried_116 ?_
      refine lv_iload S.1 S.2.1 dX11_tried_119 (lv_at hl 1 rfl) ?_
      obtain ⟨o22, e23, f⟩ := ob f
      refine o_Vv S (As := [.ref (b + r20), .int x5]) (rest := []) (ci := 6) (M6_bringWave l D cy b A false e23) gX11_tried_X6_bringWave rfl rfl rfl cd6_bringWave ⟨Nat.le_of_ble_eq_true rfl, Nat.le_of_ble_eq_true rfl⟩ I (gd e23).1 clX6 rfl rfl hl.1 rfl (Nat.le_of_ble_eq_true rfl) dX11_tried_121 ⟨Nat.le_of_ble_eq_true rfl, Nat.le_of_ble_eq_true rfl⟩ (fun H locs I => ?_)
      refine lv_iinc (v := (x5 + 1)) (lv' := [(5, .int (x5 + 1)), (0, .ref (b + a0))]) S.1 S.2.1 dX11_tried_124 hl (k := 1) rfl (congrArg (fun z => x5 + z) (by decide)) (by decide) rfl (fun ls hl => ?_)
      refine lv_goto (tgt := 96) S.1 S.2.1 dX11_tried_127 (by decide) ?_
      exact ih f I (lv_sub hl [1, 0] rfl)
set_option maxHeartbeats 4000000 in
set_option maxRecDepth 100000 in
theorem T11_tried_54 (S : CallFix p m c cX11_tried 6 s args vX11_tried RX11) (hr : meth.sig.returnType = (some .int)) (hlo : meth.locks = false) {out : Int32 × PH} {h : PH} {a0 : Nat} {x1 : Int32} {x2 : Int32} {x3 : Int32} (f : F11_tried_54  h a0 x1 x2 x3 = some out) {H : Heap} {locs : List Loc} (I : ph_I D cy b A false h s H locs) {ls : Array Slot} (hl : lv_has ls 6 [(0, .ref (b + a0)), (1, .int x1), (2, .int x2), (3, .int x3)]) : W p l e ({ frames := 6, cells := 0, slots := 0, locals := 154 } : Room) s m args below meth c H locs 0 0 (MQ below (va_Qi (fun (r : Int32) (u : PH) => (r, u) = out) (ph_B D cy b A false) A) args s 0 0 A) (F0 m 54 ls []) := by
  unfold F11_tried_54 at f
  refine lv_aload_n S.1 S.2.1 dX11_tried_54 rfl (lv_at hl 0 rfl) ?_
  obtain ⟨r1, e2, f⟩ := ob f
  refine o_gR S lf11_tried_51 I e2 dX11_tried_55 ?_
  refine lv_aload_n S.1 S.2.1 dX11_tried_58 rfl (lv_at hl 0 rfl) ?_
  obtain ⟨r3, e4, f⟩ := ob f
  refine o_gR S lf11_tried_47 I e4 dX11_tried_59 ?_
  refine lv_aload_n S.1 S.2.1 dX11_tried_62 rfl (lv_at hl 0 rfl) ?_
  obtain ⟨r5, e6, f⟩ := ob f
  refine o_gR S lf11_tried_47 I e6 dX11_tried_63 ?_
  obtain ⟨v7, e8, f⟩ := ob f
  refine o_gI S lf11_tried_217 I e8 dX11_tried_66 ?_
  refine lv_iload_n S.1 S.2.1 dX11_tried_69 rfl (lv_at hl 3 rfl) ?_
  obtain ⟨o9, e10, f⟩ := ob f
  refine o_Vv S (As := [.ref (b + r3), .int v7, .int x3]) (rest := []) (ci := 4) (M4_takeForRun l D cy b A e10) gX11_tried_X4_takeForRun rfl rfl rfl cd4_takeForRun ⟨Nat.le_of_ble_eq_true rfl, Nat.le_of_ble_eq_true rfl⟩ I (gd e10).1 clX4 rfl rfl hl.1 rfl (Nat.le_of_ble_eq_true rfl) dX11_tried_70 ⟨Nat.le_of_ble_eq_true rfl, Nat.le_of_ble_eq_true rfl⟩ (fun H locs I => ?_)
  refine lv_aload_n S.1 S.2.1 dX11_tried_73 rfl (lv_at hl 0 rfl) ?_
  obtain ⟨r11, e12, f⟩ := ob f
  refine o_gR S lf11_tried_41 I e12 dX11_tried_74 ?_
  refine lv_aload_n S.1 S.2.1 dX11_tried_77 rfl (lv_at hl 0 rfl) ?_
  obtain ⟨r13, e14, f⟩ := ob f
  refine o_gR S lf11_tried_37 I e14 dX11_tried_78 ?_
  obtain ⟨o15, e16, f⟩ := ob f
  refine o_Vv S (As := [.ref (b + r13)]) (rest := []) (ci := 6) (M6_takeOver l D cy b A e16) gX11_tried_X6_takeOver rfl rfl rfl cd6_takeOver ⟨Nat.le_of_ble_eq_true rfl, Nat.le_of_ble_eq_true rfl⟩ I (gd e16).1 clX6 rfl rfl hl.1 rfl (Nat.le_of_ble_eq_true rfl) dX11_tried_81 ⟨Nat.le_of_ble_eq_true rfl, Nat.le_of_ble_eq_true rfl⟩ (fun H locs I => ?_)
  refine lv_aload_n S.1 S.2.1 dX11_tried_84 rfl (lv_at hl 0 rfl) ?_
  refine lv_iload_n S.1 S.2.1 dX11_tried_85 rfl (lv_at hl 1 rfl) ?_
  refine lv_iload_n S.1 S.2.1 dX11_tried_86 rfl (lv_at hl 2 rfl) ?_
  obtain ⟨o17, e18, f⟩ := ob f
  refine o_Vv S (As := [.int x1, .int x2]) (rest := []) (ci := 11) (M11_changeTrial l D cy b A false e18) gX11_tried_X11_changeTrial rfl rfl rfl cd11_changeTrial ⟨Nat.le_of_ble_eq_true rfl, Nat.le_of_ble_eq_true rfl⟩ I (gd e18).1 clX11 rfl rfl hl.1 rfl (Nat.le_of_ble_eq_true rfl) dX11_tried_87 ⟨Nat.le_of_ble_eq_true rfl, Nat.le_of_ble_eq_true rfl⟩ (fun H locs I => ?_)
  refine lv_aload_n S.1 S.2.1 dX11_tried_90 rfl (lv_at hl 0 rfl) ?_
  obtain ⟨o19, e20, f⟩ := ob f
  refine o_Vi S (As := []) (rest := []) (ci := 11) (M11_firstToCome l D cy b A false e20) gX11_tried_X11_firstToCome rfl rfl rfl cd11_firstToCome ⟨Nat.le_of_ble_eq_true rfl, Nat.le_of_ble_eq_true rfl⟩ I (gd e20).1 clX11 rfl rfl hl.1 rfl (Nat.le_of_ble_eq_true rfl) dX11_tried_91 ⟨Nat.le_of_ble_eq_true rfl, Nat.le_of_ble_eq_true rfl⟩ (fun H locs I => ?_)
  refine lv_istore (lv' := [(5, .int o19.1), (0, .ref (b + a0)), (1, .int x1), (2, .int x2), (3, .int x3)]) S.1 S.2.1 dX11_tried_94 hl (by decide) rfl (fun ls hl => ?_)
  exact T11_tried_96 S hr hlo  1024 f I (lv_sub hl [1, 0] rfl)
set_option maxHeartbeats 4000000 in
set_option maxRecDepth 100000 in
theorem T11_tried_30 (S : CallFix p m c cX11_tried 6 s args vX11_tried RX11) (hr : meth.sig.returnType = (some .int)) (hlo : meth.locks = false) {out : Int32 × PH} {h : PH} {a0 : Nat} {x1 : Int32} {x2 : Int32} {x3 : Int32} {s0 : Int32} (f : F11_tried_30  h a0 x1 x2 x3 s0 = some out) {H : Heap} {locs : List Loc} (I : ph_I D cy b A false h s H locs) {ls : Array Slot} (hl : lv_has ls 6 [(0, .ref (b + a0)), (1, .int x1), (2, .int x2), (3, .int x3)]) : W p l e ({ frames := 6, cells := 0, slots := 0, locals := 154 } : Room) s m args below meth c H locs 0 0 (MQ below (va_Qi (fun (r : Int32) (u : PH) => (r, u) = out) (ph_B D cy b A false) A) args s 0 0 A) (F0 m 30 ls [.int s0]) := by
  unfold F11_tried_30 at f
  refine lv_istore (lv' := [(4, .int s0), (0, .ref (b + a0)), (1, .int x1), (2, .int x2), (3, .int x3)]) S.1 S.2.1 dX11_tried_30 hl (by decide) rfl (fun ls hl => ?_)
  refine lv_iload S.1 S.2.1 dX11_tried_32 (lv_at hl 0 rfl) ?_
  refine lv_if_eq (tgt := 48) S.1 S.2.1 dX11_tried_34 (by decide) (fun q1 => ?_) (fun q1 => ?_)
  · have f := (if_pos q1).symm.trans f
    refine lv_iload_n S.1 S.2.1 dX11_tried_48 rfl (lv_at hl 3 rfl) ?_
    refine lv_if_eq (tgt := 54) S.1 S.2.1 dX11_tried_49 (by decide) (fun q2 => ?_) (fun q2 => ?_)
    · have f := (if_pos q2).symm.trans f
      exact T11_tried_54 S hr hlo  f I (lv_sub hl [1, 2, 3, 4] rfl)
    · have f := (if_neg q2).symm.trans f
      refine lv_iconst (v := (-1)) S.1 S.2.1 dX11_tried_52 (by decide) ?_
      exact o_iret S hr hlo I f dX11_tried_53
  · have f := (if_neg q1).symm.trans f
    refine lv_aload_n S.1 S.2.1 dX11_tried_37 rfl (lv_at hl 1 rfl) ?_
    refine lv_iload_n S.1 S.2.1 dX11_tried_38 rfl (lv_at hl 3 rfl) ?_
    obtain ⟨o3, e4, f⟩ := ob f
    refine o_Vi S (As := [.int x2]) (rest := []) (ci := 11) (M11_isSurfer l D cy b A false e4) gX11_tried_X11_isSurfer rfl rfl rfl cd11_isSurfer ⟨Nat.le_of_ble_eq_true rfl, Nat.le_of_ble_eq_true rfl⟩ I (gd e4).1 clX11 rfl rfl hl.1 rfl (Nat.le_of_ble_eq_true rfl) dX11_tried_39 ⟨Nat.le_of_ble_eq_true rfl, Nat.le_of_ble_eq_true rfl⟩ (fun H locs I => ?_)
    refine lv_if_ne (tgt := 54) S.1 S.2.1 dX11_tried_42 (by decide) (fun q5 => ?_) (fun q5 => ?_)
    · have f := (if_neg q5).symm.trans f
      exact T11_tried_54 S hr hlo  f I (lv_sub hl [1, 2, 3, 4] rfl)
    · have f := (if_pos q5).symm.trans f
      refine lv_goto (tgt := 52) S.1 S.2.1 dX11_tried_45 (by decide) ?_
      refine lv_iconst (v := (-1)) S.1 S.2.1 dX11_tried_52 (by decide) ?_
      exact o_iret S hr hlo I f dX11_tried_53
set_option maxHeartbeats 4000000 in
set_option maxRecDepth 100000 in
theorem T11_tried_25 (S : CallFix p m c cX11_tried 6 s args vX11_tried RX11) (hr : meth.sig.returnType = (some .int)) (hlo : meth.locks = false) {out : Int32 × PH} {h : PH} {a0 : Nat} {x1 : Int32} {x2 : Int32} {x3 : Int32} (f : F11_tried_25  h a0 x1 x2 x3 = some out) {H : Heap} {locs : List Loc} (I : ph_I D cy b A false h s H locs) {ls : Array Slot} (hl : lv_has ls 6 [(0, .ref (b + a0)), (1, .int x1), (2, .int x2), (3, .int x3)]) : W p l e ({ frames := 6, cells := 0, slots := 0, locals := 154 } : Room) s m args below meth c H locs 0 0 (MQ below (va_Qi (fun (r : Int32) (u : PH) => (r, u) = out) (ph_B D cy b A false) A) args s 0 0 A) (F0 m 25 ls []) := by
  unfold F11_tried_25 at f
  refine lv_iconst (v := 1) S.1 S.2.1 dX11_tried_25 (by decide) ?_
  refine lv_goto (tgt := 30) S.1 S.2.1 dX11_tried_26 (by decide) ?_
  exact T11_tried_30 S hr hlo  f I (lv_sub hl [0, 1, 2, 3] rfl)
set_option maxHeartbeats 4000000 in
set_option maxRecDepth 100000 in
theorem T11_tried_0 (S : CallFix p m c cX11_tried 6 s args vX11_tried RX11) (hr : meth.sig.returnType = (some .int)) (hlo : meth.locks = false) {out : Int32 × PH} {h : PH} {a0 : Nat} {x1 : Int32} {x2 : Int32} {x3 : Int32} (f : F11_tried_0  h a0 x1 x2 x3 = some out) {H : Heap} {locs : List Loc} (I : ph_I D cy b A false h s H locs) {ls : Array Slot} (hl : lv_has ls 6 [(0, .ref (b + a0)), (1, .int x1), (2, .int x2), (3, .int x3)]) : W p l e ({ frames := 6, cells := 0, slots := 0, locals := 154 } : Room) s m args below meth c H locs 0 0 (MQ below (va_Qi (fun (r : Int32) (u : PH) => (r, u) = out) (ph_B D cy b A false) A) args s 0 0 A) (F0 m 0 ls []) := by
  unfold F11_tried_0 at f
  refine lv_iload_n S.1 S.2.1 dX11_tried_0 rfl (lv_at hl 1 rfl) ?_
  refine lv_if_lt (tgt := 13) S.1 S.2.1 dX11_tried_1 (by decide) (fun q1 => ?_) (fun q1 => ?_)
  · have f := (if_pos q1).symm.trans f
    refine lv_iconst (v := (-1)) S.1 S.2.1 dX11_tried_13 (by decide) ?_
    exact o_iret S hr hlo I f dX11_tried_14
  · have f := (if_neg q1).symm.trans f
    refine lv_iload_n S.1 S.2.1 dX11_tried_4 rfl (lv_at hl 1 rfl) ?_
    refine lv_iconst (v := 4) S.1 S.2.1 dX11_tried_5 (by decide) ?_
    refine lv_icmp_gt (tgt := 13) S.1 S.2.1 dX11_tried_6 (by decide) (fun q2 => ?_) (fun q2 => ?_)
    · have f := (if_pos q2).symm.trans f
      refine lv_iconst (v := (-1)) S.1 S.2.1 dX11_tried_13 (by decide) ?_
      exact o_iret S hr hlo I f dX11_tried_14
    · have f := (if_neg q2).symm.trans f
      refine lv_iload_n S.1 S.2.1 dX11_tried_9 rfl (lv_at hl 3 rfl) ?_
      refine lv_if_ge (tgt := 15) S.1 S.2.1 dX11_tried_10 (by decide) (fun q3 => ?_) (fun q3 => ?_)
      · have f := (if_pos q3).symm.trans f
        refine lv_iload_n S.1 S.2.1 dX11_tried_15 rfl (lv_at hl 1 rfl) ?_
        refine lv_iconst (v := 1) S.1 S.2.1 dX11_tried_16 (by decide) ?_
        refine lv_icmp_eq (tgt := 25) S.1 S.2.1 dX11_tried_17 (by decide) (fun q4 => ?_) (fun q4 => ?_)
        · have f := (if_pos q4).symm.trans f
          exact T11_tried_25 S hr hlo  f I (lv_sub hl [0, 1, 2, 3] rfl)
        · have f := (if_neg q4).symm.trans f
          refine lv_iload_n S.1 S.2.1 dX11_tried_20 rfl (lv_at hl 1 rfl) ?_
          refine lv_iconst (v := 4) S.1 S.2.1 dX11_tried_21 (by decide) ?_
          refine lv_icmp_ne (tgt := 29) S.1 S.2.1 dX11_tried_22 (by decide) (fun q5 => ?_) (fun q5 => ?_)
          · have f := (if_neg q5).symm.trans f
            refine lv_iconst (v := 0) S.1 S.2.1 dX11_tried_29 (by decide) ?_
            exact T11_tried_30 S hr hlo  f I (lv_sub hl [0, 1, 2, 3] rfl)
          · have f := (if_pos q5).symm.trans f
            exact T11_tried_25 S hr hlo  f I (lv_sub hl [0, 1, 2, 3] rfl)
      · have f := (if_neg q3).symm.trans f
        refine lv_iconst (v := (-1)) S.1 S.2.1 dX11_tried_13 (by decide) ?_
        exact o_iret S hr hlo I f dX11_tried_14
theorem M11_tried (l : Launch) (D : va_G) (cy : Nat → ClassId) (b : Nat) (A : Nat → Prop) {h : PH} {a0 : Nat} {x1 : Int32} {x2 : Int32} {x3 : Int32} {out : Int32 × PH} (f : F11_tried h a0 x1 x2 x3 = some out) : Met l yX11_tried vX11_tried ({ frames := 6, cells := 0, slots := 0, locals := 154 } : Room) (va_Pc [.ref (b + a0), .int x1, .int x2, .int x3] (ph_B D cy b A false h)) (va_Qi (fun (r : Int32) (u : PH) => (r, u) = out) (ph_B D cy b A false) A) 0 0 A :=
  o_met (by decide) rfl (Nat.le_of_ble_eq_true rfl) rfl (fun p e s m below meth c S hr hlo hnm ls hl I => T11_tried_0 S hr hlo ((gd f).2) I (lv_sub hl [0, 1, 2, 3] rfl))
def vX11_undo : List Cond := .code yX11_undo cX11_undo 3 (some .int) :: TB
theorem lf11_undo_67 : Fl vX11_undo RX11 67 11 12 := ⟨RX11, TX11, 14, rfl, by decide, (fun w h9 => List.mem_cons_of_mem _ (wC_wsX110 w h9)), (List.mem_cons_of_mem _ wT_2_18)⟩
theorem lf11_undo_368 : Fl vX11_undo RX11 368 9 0 := ⟨RX9, TX9, 3, rfl, by decide, (fun w h9 => List.mem_cons_of_mem _ (wC_wsX90 w h9)), (List.mem_cons_of_mem _ wT_23_20)⟩
theorem lp11_undo_368 : Pl vX11_undo RX11 368 9 0 .int := ⟨RX9, TX9, 3, tyX9, rfl, by decide, (fun w h9 => List.mem_cons_of_mem _ (wC_wsX90 w h9)), (List.mem_cons_of_mem _ wT_23_20), tyX9_ok, nmX9, rfl, rfl⟩
theorem lf11_undo_369 : Fl vX11_undo RX11 369 9 1 := ⟨RX9, TX9, 3, rfl, by decide, (fun w h9 => List.mem_cons_of_mem _ (wC_wsX90 w h9)), (List.mem_cons_of_mem _ wT_66_10)⟩
theorem lf11_undo_370 : Fl vX11_undo RX11 370 9 2 := ⟨RX9, TX9, 3, rfl, by decide, (fun w h9 => List.mem_cons_of_mem _ (wC_wsX90 w h9)), (List.mem_cons_of_mem _ wT_66_11)⟩
theorem lf11_undo_47 : Fl vX11_undo RX11 47 11 7 := ⟨RX11, TX11, 14, rfl, by decide, (fun w h9 => List.mem_cons_of_mem _ (wC_wsX110 w h9)), (List.mem_cons_of_mem _ wT_2_8)⟩
theorem lf11_undo_122 : Fl vX11_undo RX11 122 4 5 := ⟨RX4, TX4, 11, rfl, by decide, (fun w h9 => List.mem_cons_of_mem _ (wC_wsX40 w h9)), (List.mem_cons_of_mem _ wT_33_11)⟩
theorem lf11_undo_137 : Fl vX11_undo RX11 137 4 9 := ⟨RX4, TX4, 11, rfl, by decide, (fun w h9 => List.mem_cons_of_mem _ (wC_wsX40 w h9)), (List.mem_cons_of_mem _ wT_33_16)⟩
theorem lp11_undo_217 : Pl vX11_undo RX11 217 4 1 .int := ⟨RX4, TX4, 11, tyX4, rfl, by decide, (fun w h9 => List.mem_cons_of_mem _ (wC_wsX40 w h9)), (List.mem_cons_of_mem _ wT_42_23), tyX4_ok, nmX4, rfl, rfl⟩
set_option maxHeartbeats 4000000 in
set_option maxRecDepth 100000 in
theorem T11_undo_97 (S : CallFix p m c cX11_undo 3 s args vX11_undo RX11) (hr : meth.sig.returnType = (some .int)) (hlo : meth.locks = false) {out : Int32 × PH} {h : PH} {a0 : Nat} (f : F11_undo_97  h a0 = some out) {H : Heap} {locs : List Loc} (I : ph_I D cy b A fl h s H locs) {ls : Array Slot} (hl : lv_has ls 3 [(0, .ref (b + a0))]) : W p l e ({ frames := 0, cells := 0, slots := 0, locals := 0 } : Room) s m args below meth c H locs 0 0 (MQ below (va_Qi (fun (r : Int32) (u : PH) => (r, u) = out) (ph_B D cy b A fl) A) args s 0 0 A) (F0 m 97 ls []) := by
  unfold F11_undo_97 at f
  refine lv_aload_n S.1 S.2.1 dX11_undo_97 rfl (lv_at hl 0 rfl) ?_
  obtain ⟨r1, e2, f⟩ := ob f
  refine o_gR S lf11_undo_67 I e2 dX11_undo_98 ?_
  obtain ⟨v3, e4, f⟩ := ob f
  refine o_gI S lf11_undo_368 I e4 dX11_undo_101 ?_
  exact o_iret S hr hlo I f dX11_undo_104
set_option maxHeartbeats 4000000 in
set_option maxRecDepth 100000 in
theorem T11_undo_0 (S : CallFix p m c cX11_undo 3 s args vX11_undo RX11) (hr : meth.sig.returnType = (some .int)) (hlo : meth.locks = false) {out : Int32 × PH} {h : PH} {a0 : Nat} (f : F11_undo_0  h a0 = some out) {H : Heap} {locs : List Loc} (I : ph_I D cy b A fl h s H locs) {ls : Array Slot} (hl : lv_has ls 3 [(0, .ref (b + a0))]) : W p l e ({ frames := 0, cells := 0, slots := 0, locals := 0 } : Room) s m args below meth c H locs 0 0 (MQ below (va_Qi (fun (r : Int32) (u : PH) => (r, u) = out) (ph_B D cy b A fl) A) args s 0 0 A) (F0 m 0 ls []) := by
  unfold F11_undo_0 at f
  refine lv_aload_n S.1 S.2.1 dX11_undo_0 rfl (lv_at hl 0 rfl) ?_
  obtain ⟨r1, e2, f⟩ := ob f
  refine o_gR S lf11_undo_67 I e2 dX11_undo_1 ?_
  obtain ⟨v3, e4, f⟩ := ob f
  refine o_gI S lf11_undo_368 I e4 dX11_undo_4 ?_
  refine lv_iconst (v := 1) S.1 S.2.1 dX11_undo_7 (by decide) ?_
  refine lv_icmp_ge (tgt := 13) S.1 S.2.1 dX11_undo_8 (by decide) (fun q5 => ?_) (fun q5 => ?_)
  · have f := (if_pos q5).symm.trans f
    refine lv_aload_n S.1 S.2.1 dX11_undo_13 rfl (lv_at hl 0 rfl) ?_
    obtain ⟨r6, e7, f⟩ := ob f
    refine o_gR S lf11_undo_67 I e7 dX11_undo_14 ?_
    refine lv_dup S.1 S.2.1 dX11_undo_17 rfl ?_
    obtain ⟨v8, e9, f⟩ := ob f
    refine o_gI S lf11_undo_368 I e9 dX11_undo_18 ?_
    refine lv_iconst (v := 1) S.1 S.2.1 dX11_undo_21 (by decide) ?_
    refine lv_isub S.1 S.2.1 dX11_undo_22 ?_
    obtain ⟨h10, e11, f⟩ := ob f
    refine o_pI S lp11_undo_368 I e11 dX11_undo_23 (fun H locs I => ?_)
    refine lv_aload_n S.1 S.2.1 dX11_undo_26 rfl (lv_at hl 0 rfl) ?_
    obtain ⟨r12, e13, f⟩ := ob f
    refine o_gR S lf11_undo_67 I e13 dX11_undo_27 ?_
    obtain ⟨r14, e15, f⟩ := ob f
    refine o_gR S lf11_undo_369 I e15 dX11_undo_30 ?_
    refine lv_aload_n S.1 S.2.1 dX11_undo_33 rfl (lv_at hl 0 rfl) ?_
    obtain ⟨r16, e17, f⟩ := ob f
    refine o_gR S lf11_undo_67 I e17 dX11_undo_34 ?_
    obtain ⟨v18, e19, f⟩ := ob f
    refine o_gI S lf11_undo_368 I e19 dX11_undo_37 ?_
    obtain ⟨v21, e20, f⟩ := ob f
    refine o_iald S I e20 dX11_undo_40 ?_
    refine lv_istore_n (lv' := [(1, .int v21), (0, .ref (b + a0))]) S.1 S.2.1 dX11_undo_41 rfl hl (by decide) rfl (fun ls hl => ?_)
    refine lv_aload_n S.1 S.2.1 dX11_undo_42 rfl (lv_at hl 1 rfl) ?_
    obtain ⟨r22, e23, f⟩ := ob f
    refine o_gR S lf11_undo_67 I e23 dX11_undo_43 ?_
    obtain ⟨r24, e25, f⟩ := ob f
    refine o_gR S lf11_undo_370 I e25 dX11_undo_46 ?_
    refine lv_aload_n S.1 S.2.1 dX11_undo_49 rfl (lv_at hl 1 rfl) ?_
    obtain ⟨r26, e27, f⟩ := ob f
    refine o_gR S lf11_undo_67 I e27 dX11_undo_50 ?_
    obtain ⟨v28, e29, f⟩ := ob f
    refine o_gI S lf11_undo_368 I e29 dX11_undo_53 ?_
    obtain ⟨v31, e30, f⟩ := ob f
    refine o_iald S I e30 dX11_undo_56 ?_
    refine lv_istore_n (lv' := [(2, .int v31), (1, .int v21), (0, .ref (b + a0))]) S.1 S.2.1 dX11_undo_57 rfl hl (by decide) rfl (fun ls hl => ?_)
    refine lv_iload_n S.1 S.2.1 dX11_undo_58 rfl (lv_at hl 1 rfl) ?_
    refine lv_iconst (v := (-1)) S.1 S.2.1 dX11_undo_59 (by decide) ?_
    refine lv_icmp_ne (tgt := 74) S.1 S.2.1 dX11_undo_60 (by decide) (fun q32 => ?_) (fun q32 => ?_)
    · have f := (if_neg q32).symm.trans f
      refine lv_aload_n S.1 S.2.1 dX11_undo_74 rfl (lv_at hl 2 rfl) ?_
      obtain ⟨r33, e34, f⟩ := ob f
      refine o_gR S lf11_undo_47 I e34 dX11_undo_75 ?_
      obtain ⟨r35, e36, f⟩ := ob f
      refine o_gR S lf11_undo_122 I e36 dX11_undo_78 ?_
      refine lv_iload_n S.1 S.2.1 dX11_undo_81 rfl (lv_at hl 1 rfl) ?_
      refine lv_iload_n S.1 S.2.1 dX11_undo_82 rfl (lv_at hl 0 rfl) ?_
      obtain ⟨h38, e37, f⟩ := ob f
      refine o_iast S I e37 dX11_undo_83 (fun H locs I => ?_)
      refine lv_aload_n S.1 S.2.1 dX11_undo_84 rfl (lv_at hl 2 rfl) ?_
      obtain ⟨r39, e40, f⟩ := ob f
      refine o_gR S lf11_undo_47 I e40 dX11_undo_85 ?_
      obtain ⟨r41, e42, f⟩ := ob f
      refine o_gR S lf11_undo_137 I e42 dX11_undo_88 ?_
      refine lv_iload_n S.1 S.2.1 dX11_undo_91 rfl (lv_at hl 1 rfl) ?_
      refine lv_dup2_11 S.1 S.2.1 dX11_undo_92 rfl rfl ?_
      obtain ⟨v44, e43, f⟩ := ob f
      refine o_iald S I e43 dX11_undo_93 ?_
      refine lv_iconst (v := 1) S.1 S.2.1 dX11_undo_94 (by decide) ?_
      refine lv_isub S.1 S.2.1 dX11_undo_95 ?_
      obtain ⟨h46, e45, f⟩ := ob f
      refine o_iast S I e45 dX11_undo_96 (fun H locs I => ?_)
      exact T11_undo_97 S hr hlo  f I (lv_sub hl [2] rfl)
    · have f := (if_pos q32).symm.trans f
      refine lv_aload_n S.1 S.2.1 dX11_undo_63 rfl (lv_at hl 2 rfl) ?_
      obtain ⟨r47, e48, f⟩ := ob f
      refine o_gR S lf11_undo_47 I e48 dX11_undo_64 ?_
      refine lv_iload_n S.1 S.2.1 dX11_undo_67 rfl (lv_at hl 0 rfl) ?_
      obtain ⟨h49, e50, f⟩ := ob f
      refine o_pI S lp11_undo_217 I e50 dX11_undo_68 (fun H locs I => ?_)
      refine lv_goto (tgt := 97) S.1 S.2.1 dX11_undo_71 (by decide) ?_
      exact T11_undo_97 S hr hlo  f I (lv_sub hl [2] rfl)
  · have f := (if_neg q5).symm.trans f
    refine lv_iconst (v := (-1)) S.1 S.2.1 dX11_undo_11 (by decide) ?_
    exact o_iret S hr hlo I f dX11_undo_12
theorem M11_undo (l : Launch) (D : va_G) (cy : Nat → ClassId) (b : Nat) (A : Nat → Prop) (fl : Bool) {h : PH} {a0 : Nat} {out : Int32 × PH} (f : F11_undo h a0 = some out) : Met l yX11_undo vX11_undo ({ frames := 0, cells := 0, slots := 0, locals := 0 } : Room) (va_Pc [.ref (b + a0)] (ph_B D cy b A fl h)) (va_Qi (fun (r : Int32) (u : PH) => (r, u) = out) (ph_B D cy b A fl) A) 0 0 A :=
  o_met (by decide) rfl (Nat.le_of_ble_eq_true rfl) rfl (fun p e s m below meth c S hr hlo hnm ls hl I => T11_undo_0 S hr hlo ((gd f).2) I (lv_sub hl [0] rfl))
def vX11_wave : List Cond := .code yX11_wave cX11_wave 3 (some .int) :: TB
theorem gX11_wave_X11_isWave : GoodIn vX11_wave (wsV RX11 147 RX11 yX11_isWave vX11_isWave) := gV_of wT_36_22 wT_36_23 wT_37_0 wT_1_2 wT_37_1
theorem lf11_wave_18 : Fl vX11_wave RX11 18 11 3 := ⟨RX11, TX11, 14, rfl, by decide, (fun w h9 => List.mem_cons_of_mem _ (wC_wsX110 w h9)), (List.mem_cons_of_mem _ wT_1_18)⟩
theorem lf11_wave_150 : Fl vX11_wave RX11 150 8 5 := ⟨RX8, TX8, 14, rfl, by decide, (fun w h9 => List.mem_cons_of_mem _ (wC_wsX80 w h9)), (List.mem_cons_of_mem _ wT_36_16)⟩
theorem lf11_wave_154 : Fl vX11_wave RX11 154 10 4 := ⟨RX10, TX10, 8, rfl, by decide, (fun w h9 => List.mem_cons_of_mem _ (wC_wsX100 w h9)), (List.mem_cons_of_mem _ wT_36_17)⟩
theorem lf11_wave_159 : Fl vX11_wave RX11 159 10 5 := ⟨RX10, TX10, 8, rfl, by decide, (fun w h9 => List.mem_cons_of_mem _ (wC_wsX100 w h9)), (List.mem_cons_of_mem _ wT_36_18)⟩
theorem lf11_wave_161 : Fl vX11_wave RX11 161 10 6 := ⟨RX10, TX10, 8, rfl, by decide, (fun w h9 => List.mem_cons_of_mem _ (wC_wsX100 w h9)), (List.mem_cons_of_mem _ wT_36_19)⟩
theorem lf11_wave_164 : Fl vX11_wave RX11 164 10 7 := ⟨RX10, TX10, 8, rfl, by decide, (fun w h9 => List.mem_cons_of_mem _ (wC_wsX100 w h9)), (List.mem_cons_of_mem _ wT_36_20)⟩
theorem lf11_wave_47 : Fl vX11_wave RX11 47 11 7 := ⟨RX11, TX11, 14, rfl, by decide, (fun w h9 => List.mem_cons_of_mem _ (wC_wsX110 w h9)), (List.mem_cons_of_mem _ wT_2_8)⟩
theorem lf11_wave_167 : Fl vX11_wave RX11 167 4 10 := ⟨RX4, TX4, 11, rfl, by decide, (fun w h9 => List.mem_cons_of_mem _ (wC_wsX40 w h9)), (List.mem_cons_of_mem _ wT_36_21)⟩
set_option maxHeartbeats 4000000 in
set_option maxRecDepth 100000 in
theorem T11_wave_0 (S : CallFix p m c cX11_wave 3 s args vX11_wave RX11) (hr : meth.sig.returnType = (some .int)) (hlo : meth.locks = false) {out : Int32 × PH} {h : PH} {a0 : Nat} {x1 : Int32} {x2 : Int32} (f : F11_wave_0  h a0 x1 x2 = some out) {H : Heap} {locs : List Loc} (I : ph_I D cy b A fl h s H locs) {ls : Array Slot} (hl : lv_has ls 3 [(0, .ref (b + a0)), (1, .int x1), (2, .int x2)]) : W p l e ({ frames := 1, cells := 0, slots := 0, locals := 21 } : Room) s m args below meth c H locs 0 0 (MQ below (va_Qi (fun (r : Int32) (u : PH) => (r, u) = out) (ph_B D cy b A fl) A) args s 0 0 A) (F0 m 0 ls []) := by
  unfold F11_wave_0 at f
  refine lv_aload_n S.1 S.2.1 dX11_wave_0 rfl (lv_at hl 0 rfl) ?_
  refine lv_iload_n S.1 S.2.1 dX11_wave_1 rfl (lv_at hl 1 rfl) ?_
  obtain ⟨o1, e2, f⟩ := ob f
  refine o_Vi S (As := [.int x1]) (rest := []) (ci := 11) (M11_isWave l D cy b A fl e2) gX11_wave_X11_isWave rfl rfl rfl cd11_isWave ⟨Nat.le_of_ble_eq_true rfl, Nat.le_of_ble_eq_true rfl⟩ I (gd e2).1 clX11 rfl rfl hl.1 rfl (Nat.le_of_ble_eq_true rfl) dX11_wave_2 ⟨Nat.le_of_ble_eq_true rfl, Nat.le_of_ble_eq_true rfl⟩ (fun H locs I => ?_)
  refine lv_if_ne (tgt := 11) S.1 S.2.1 dX11_wave_5 (by decide) (fun q3 => ?_) (fun q3 => ?_)
  · have f := (if_neg q3).symm.trans f
    refine lv_iload_n S.1 S.2.1 dX11_wave_11 rfl (lv_at hl 2 rfl) ?_
    rcases Decidable.em (x2 = 0) with q4 | q4
    · have f := (if_pos q4).symm.trans f
      refine lv_tableIn (off := 36) (tgt := 48) S.1 S.2.1 dX11_wave_12 (by rw [q4]; decide) (by rw [q4]; decide) (by rw [q4]; rfl) (by decide) ?_
      refine lv_aload_n S.1 S.2.1 dX11_wave_48 rfl (lv_at hl 0 rfl) ?_
      obtain ⟨r5, e6, f⟩ := ob f
      refine o_gR S lf11_wave_18 I e6 dX11_wave_49 ?_
      obtain ⟨r7, e8, f⟩ := ob f
      refine o_gR S lf11_wave_150 I e8 dX11_wave_52 ?_
      obtain ⟨r9, e10, f⟩ := ob f
      refine o_gR S lf11_wave_154 I e10 dX11_wave_55 ?_
      refine lv_iload_n S.1 S.2.1 dX11_wave_58 rfl (lv_at hl 1 rfl) ?_
      obtain ⟨v12, e11, f⟩ := ob f
      refine o_iald S I e11 dX11_wave_59 ?_
      exact o_iret S hr hlo I f dX11_wave_60
    have f := (if_neg q4).symm.trans f
    rcases Decidable.em (x2 = 1) with q13 | q13
    · have f := (if_pos q13).symm.trans f
      refine lv_tableIn (off := 49) (tgt := 61) S.1 S.2.1 dX11_wave_12 (by rw [q13]; decide) (by rw [q13]; decide) (by rw [q13]; rfl) (by decide) ?_
      refine lv_aload_n S.1 S.2.1 dX11_wave_61 rfl (lv_at hl 0 rfl) ?_
      obtain ⟨r14, e15, f⟩ := ob f
      refine o_gR S lf11_wave_18 I e15 dX11_wave_62 ?_
      obtain ⟨r16, e17, f⟩ := ob f
      refine o_gR S lf11_wave_150 I e17 dX11_wave_65 ?_
      obtain ⟨r18, e19, f⟩ := ob f
      refine o_gR S lf11_wave_159 I e19 dX11_wave_68 ?_
      refine lv_iload_n S.1 S.2.1 dX11_wave_71 rfl (lv_at hl 1 rfl) ?_
      obtain ⟨v21, e20, f⟩ := ob f
      refine o_iald S I e20 dX11_wave_72 ?_
      exact o_iret S hr hlo I f dX11_wave_73
    have f := (if_neg q13).symm.trans f
    rcases Decidable.em (x2 = 2) with q22 | q22
    · have f := (if_pos q22).symm.trans f
      refine lv_tableIn (off := 62) (tgt := 74) S.1 S.2.1 dX11_wave_12 (by rw [q22]; decide) (by rw [q22]; decide) (by rw [q22]; rfl) (by decide) ?_
      refine lv_aload_n S.1 S.2.1 dX11_wave_74 rfl (lv_at hl 0 rfl) ?_
      obtain ⟨r23, e24, f⟩ := ob f
      refine o_gR S lf11_wave_18 I e24 dX11_wave_75 ?_
      obtain ⟨r25, e26, f⟩ := ob f
      refine o_gR S lf11_wave_150 I e26 dX11_wave_78 ?_
      obtain ⟨r27, e28, f⟩ := ob f
      refine o_gR S lf11_wave_161 I e28 dX11_wave_81 ?_
      refine lv_iload_n S.1 S.2.1 dX11_wave_84 rfl (lv_at hl 1 rfl) ?_
      obtain ⟨v30, e29, f⟩ := ob f
      refine o_iald S I e29 dX11_wave_85 ?_
      exact o_iret S hr hlo I f dX11_wave_86
    have f := (if_neg q22).symm.trans f
    rcases Decidable.em (x2 = 3) with q31 | q31
    · have f := (if_pos q31).symm.trans f
      refine lv_tableIn (off := 75) (tgt := 87) S.1 S.2.1 dX11_wave_12 (by rw [q31]; decide) (by rw [q31]; decide) (by rw [q31]; rfl) (by decide) ?_
      refine lv_aload_n S.1 S.2.1 dX11_wave_87 rfl (lv_at hl 0 rfl) ?_
      obtain ⟨r32, e33, f⟩ := ob f
      refine o_gR S lf11_wave_18 I e33 dX11_wave_88 ?_
      obtain ⟨r34, e35, f⟩ := ob f
      refine o_gR S lf11_wave_150 I e35 dX11_wave_91 ?_
      obtain ⟨r36, e37, f⟩ := ob f
      refine o_gR S lf11_wave_164 I e37 dX11_wave_94 ?_
      refine lv_iload_n S.1 S.2.1 dX11_wave_97 rfl (lv_at hl 1 rfl) ?_
      obtain ⟨v39, e38, f⟩ := ob f
      refine o_iald S I e38 dX11_wave_98 ?_
      exact o_iret S hr hlo I f dX11_wave_99
    have f := (if_neg q31).symm.trans f
    rcases Decidable.em (x2 = 4) with q40 | q40
    · have f := (if_pos q40).symm.trans f
      refine lv_tableIn (off := 88) (tgt := 100) S.1 S.2.1 dX11_wave_12 (by rw [q40]; decide) (by rw [q40]; decide) (by rw [q40]; rfl) (by decide) ?_
      refine lv_aload_n S.1 S.2.1 dX11_wave_100 rfl (lv_at hl 0 rfl) ?_
      obtain ⟨r41, e42, f⟩ := ob f
      refine o_gR S lf11_wave_47 I e42 dX11_wave_101 ?_
      obtain ⟨r43, e44, f⟩ := ob f
      refine o_gR S lf11_wave_167 I e44 dX11_wave_104 ?_
      refine lv_iload_n S.1 S.2.1 dX11_wave_107 rfl (lv_at hl 1 rfl) ?_
      obtain ⟨v46, e45, f⟩ := ob f
      refine o_iald S I e45 dX11_wave_108 ?_
      exact o_iret S hr hlo I f dX11_wave_109
    have f := (if_neg q40).symm.trans f
    refine lv_tableOut (tgt := 110) S.1 S.2.1 dX11_wave_12 (by have := lv_neT q4 (a := 0) (by decide); have := lv_neT q13 (a := 1) (by decide); have := lv_neT q22 (a := 2) (by decide); have := lv_neT q31 (a := 3) (by decide); have := lv_neT q40 (a := 4) (by decide); omega) (by decide) ?_
    refine lv_bipush (v := (-4)) S.1 S.2.1 dX11_wave_110 (by decide) ?_
    exact o_iret S hr hlo I f dX11_wave_112
  · have f := (if_pos q3).symm.trans f
    refine lv_bipush (v := (-4)) S.1 S.2.1 dX11_wave_8 (by decide) ?_
    exact o_iret S hr hlo I f dX11_wave_10
theorem M11_wave (l : Launch) (D : va_G) (cy : Nat → ClassId) (b : Nat) (A : Nat → Prop) (fl : Bool) {h : PH} {a0 : Nat} {x1 : Int32} {x2 : Int32} {out : Int32 × PH} (f : F11_wave h a0 x1 x2 = some out) : Met l yX11_wave vX11_wave ({ frames := 1, cells := 0, slots := 0, locals := 21 } : Room) (va_Pc [.ref (b + a0), .int x1, .int x2] (ph_B D cy b A fl h)) (va_Qi (fun (r : Int32) (u : PH) => (r, u) = out) (ph_B D cy b A fl) A) 0 0 A :=
  o_met (by decide) rfl (Nat.le_of_ble_eq_true rfl) rfl (fun p e s m below meth c S hr hlo hnm ls hl I => T11_wave_0 S hr hlo ((gd f).2) I (lv_sub hl [0, 1, 2] rfl))
def vX12_layNames : List Cond := .code yX12_layNames cX12_layNames 6 none :: TB
theorem lf12_layNames_81 : Fl vX12_layNames RX12 81 12 52 := ⟨RX12, TX12, 87, rfl, by decide, (fun w h9 => List.mem_cons_of_mem _ (wC_wsX120 w h9)), (List.mem_cons_of_mem _ wT_10_20)⟩
theorem lf12_layNames_45 : Fl vX12_layNames RX12 45 12 33 := ⟨RX12, TX12, 87, rfl, by decide, (fun w h9 => List.mem_cons_of_mem _ (wC_wsX120 w h9)), (List.mem_cons_of_mem _ wT_10_8)⟩
theorem lf12_layNames_54 : Fl vX12_layNames RX12 54 12 36 := ⟨RX12, TX12, 87, rfl, by decide, (fun w h9 => List.mem_cons_of_mem _ (wC_wsX120 w h9)), (List.mem_cons_of_mem _ wT_10_11)⟩
theorem lf12_layNames_51 : Fl vX12_layNames RX12 51 12 35 := ⟨RX12, TX12, 87, rfl, by decide, (fun w h9 => List.mem_cons_of_mem _ (wC_wsX120 w h9)), (List.mem_cons_of_mem _ wT_10_10)⟩
theorem cd12_layNames : Cd yX12_layNames 5 := ⟨by decide, by decide, by decide +kernel⟩
set_option maxHeartbeats 4000000 in
set_option maxRecDepth 100000 in
theorem T12_layNames_88 (S : CallFix p m c cX12_layNames 6 s args vX12_layNames RX12) (hr : meth.sig.returnType = none) (hlo : meth.locks = false) {out : PH} {h : PH} {t0 : Int64} {s1 : Int32} {u2 : Nat} (f : F12_layNames_88  h t0 s1 u2 = some out) {H : Heap} {locs : List Loc} (I : ph_I D cy b A fl h s H locs) {ls : Array Slot} (hl : lv_has ls 6 []) : W p l e ({ frames := 0, cells := 0, slots := 0, locals := 0 } : Room) s m args below meth c H locs 0 0 (MQ below (va_Qv (fun (u : PH) => u = out) (ph_B D cy b A fl) A) args s 0 0 A) (F0 m 88 ls [.long t0, .int s1, .ref (b + u2)]) := by
  unfold F12_layNames_88 at f
  obtain ⟨h2, e1, f⟩ := ob f
  refine o_last S I e1 dX12_layNames_88 (fun H locs I => ?_)
  exact o_vret S hr hlo I f dX12_layNames_89
set_option maxHeartbeats 4000000 in
set_option maxRecDepth 100000 in
theorem T12_layNames_46 (S : CallFix p m c cX12_layNames 6 s args vX12_layNames RX12) (hr : meth.sig.returnType = none) (hlo : meth.locks = false) {out : PH} {h : PH} {a0 : Nat} {x4 : Int32} {x5 : Int32} {t0 : Int64} {s1 : Int32} {u2 : Nat} (f : F12_layNames_46  h a0 x4 x5 t0 s1 u2 = some out) {H : Heap} {locs : List Loc} (I : ph_I D cy b A fl h s H locs) {ls : Array Slot} (hl : lv_has ls 6 [(0, .ref (b + a0)), (4, .int x4), (5, .int x5)]) : W p l e ({ frames := 0, cells := 0, slots := 0, locals := 0 } : Room) s m args below meth c H locs 0 0 (MQ below (va_Qv (fun (u : PH) => u = out) (ph_B D cy b A fl) A) args s 0 0 A) (F0 m 46 ls [.long t0, .int s1, .ref (b + u2)]) := by
  unfold F12_layNames_46 at f
  obtain ⟨h2, e1, f⟩ := ob f
  refine o_last S I e1 dX12_layNames_46 (fun H locs I => ?_)
  refine lv_aload_n S.1 S.2.1 dX12_layNames_47 rfl (lv_at hl 0 rfl) ?_
  obtain ⟨r3, e4, f⟩ := ob f
  refine o_gR S lf12_layNames_81 I e4 dX12_layNames_48 ?_
  refine lv_iconst (v := 4) S.1 S.2.1 dX12_layNames_51 (by decide) ?_
  refine lv_iload S.1 S.2.1 dX12_layNames_52 (lv_at hl 2 rfl) ?_
  refine lv_i2l (v := Int32.toInt64 x5) S.1 S.2.1 dX12_layNames_54 rfl ?_
  obtain ⟨h6, e5, f⟩ := ob f
  refine o_last S I e5 dX12_layNames_55 (fun H locs I => ?_)
  refine lv_aload_n S.1 S.2.1 dX12_layNames_56 rfl (lv_at hl 0 rfl) ?_
  obtain ⟨r7, e8, f⟩ := ob f
  refine o_gR S lf12_layNames_81 I e8 dX12_layNames_57 ?_
  refine lv_iconst (v := 5) S.1 S.2.1 dX12_layNames_60 (by decide) ?_
  refine lv_iload S.1 S.2.1 dX12_layNames_61 (lv_at hl 1 rfl) ?_
  refine lv_if_ge (tgt := 70) S.1 S.2.1 dX12_layNames_63 (by decide) (fun q9 => ?_) (fun q9 => ?_)
  · have f := (if_pos q9).symm.trans f
    refine lv_iload S.1 S.2.1 dX12_layNames_70 (lv_at hl 1 rfl) ?_
    refine lv_aload_n S.1 S.2.1 dX12_layNames_72 rfl (lv_at hl 0 rfl) ?_
    obtain ⟨r10, e11, f⟩ := ob f
    refine o_gR S lf12_layNames_45 I e11 dX12_layNames_73 ?_
    refine lv_aload_n S.1 S.2.1 dX12_layNames_76 rfl (lv_at hl 0 rfl) ?_
    obtain ⟨r12, e13, f⟩ := ob f
    refine o_gR S lf12_layNames_54 I e13 dX12_layNames_77 ?_
    refine lv_iload S.1 S.2.1 dX12_layNames_80 (lv_at hl 1 rfl) ?_
    obtain ⟨v15, e14, f⟩ := ob f
    refine o_iald S I e14 dX12_layNames_82 ?_
    obtain ⟨v17, e16, f⟩ := ob f
    refine o_iald S I e16 dX12_layNames_83 ?_
    refine lv_isub S.1 S.2.1 dX12_layNames_84 ?_
    refine lv_iconst (v := 1) S.1 S.2.1 dX12_layNames_85 (by decide) ?_
    refine lv_iadd S.1 S.2.1 dX12_layNames_86 ?_
    refine lv_i2l (v := Int32.toInt64 ((x4 - v17) + 1)) S.1 S.2.1 dX12_layNames_87 rfl ?_
    exact T12_layNames_88 S hr hlo  f I (lv_sub hl [] rfl)
  · have f := (if_neg q9).symm.trans f
    refine lv_lconst (v := 0) S.1 S.2.1 dX12_layNames_66 (by decide) ?_
    refine lv_goto (tgt := 88) S.1 S.2.1 dX12_layNames_67 (by decide) ?_
    exact T12_layNames_88 S hr hlo  f I (lv_sub hl [] rfl)
set_option maxHeartbeats 4000000 in
set_option maxRecDepth 100000 in
theorem T12_layNames_0 (S : CallFix p m c cX12_layNames 6 s args vX12_layNames RX12) (hr : meth.sig.returnType = none) (hlo : meth.locks = false) {out : PH} {h : PH} {a0 : Nat} {x1 : Int32} {x2 : Int32} {x3 : Int32} {x4 : Int32} {x5 : Int32} (f : F12_layNames_0  h a0 x1 x2 x3 x4 x5 = some out) {H : Heap} {locs : List Loc} (I : ph_I D cy b A fl h s H locs) {ls : Array Slot} (hl : lv_has ls 6 [(0, .ref (b + a0)), (1, .int x1), (2, .int x2), (3, .int x3), (4, .int x4), (5, .int x5)]) : W p l e ({ frames := 0, cells := 0, slots := 0, locals := 0 } : Room) s m args below meth c H locs 0 0 (MQ below (va_Qv (fun (u : PH) => u = out) (ph_B D cy b A fl) A) args s 0 0 A) (F0 m 0 ls []) := by
  unfold F12_layNames_0 at f
  refine lv_aload_n S.1 S.2.1 dX12_layNames_0 rfl (lv_at hl 0 rfl) ?_
  obtain ⟨r1, e2, f⟩ := ob f
  refine o_gR S lf12_layNames_81 I e2 dX12_layNames_1 ?_
  refine lv_iconst (v := 0) S.1 S.2.1 dX12_layNames_4 (by decide) ?_
  refine lv_iload_n S.1 S.2.1 dX12_layNames_5 rfl (lv_at hl 1 rfl) ?_
  refine lv_i2l (v := Int32.toInt64 x1) S.1 S.2.1 dX12_layNames_6 rfl ?_
  obtain ⟨h4, e3, f⟩ := ob f
  refine o_last S I e3 dX12_layNames_7 (fun H locs I => ?_)
  refine lv_aload_n S.1 S.2.1 dX12_layNames_8 rfl (lv_at hl 0 rfl) ?_
  obtain ⟨r5, e6, f⟩ := ob f
  refine o_gR S lf12_layNames_81 I e6 dX12_layNames_9 ?_
  refine lv_iconst (v := 1) S.1 S.2.1 dX12_layNames_12 (by decide) ?_
  refine lv_iload_n S.1 S.2.1 dX12_layNames_13 rfl (lv_at hl 2 rfl) ?_
  refine lv_i2l (v := Int32.toInt64 x2) S.1 S.2.1 dX12_layNames_14 rfl ?_
  obtain ⟨h8, e7, f⟩ := ob f
  refine o_last S I e7 dX12_layNames_15 (fun H locs I => ?_)
  refine lv_aload_n S.1 S.2.1 dX12_layNames_16 rfl (lv_at hl 0 rfl) ?_
  obtain ⟨r9, e10, f⟩ := ob f
  refine o_gR S lf12_layNames_81 I e10 dX12_layNames_17 ?_
  refine lv_iconst (v := 2) S.1 S.2.1 dX12_layNames_20 (by decide) ?_
  refine lv_iload_n S.1 S.2.1 dX12_layNames_21 rfl (lv_at hl 3 rfl) ?_
  refine lv_i2l (v := Int32.toInt64 x3) S.1 S.2.1 dX12_layNames_22 rfl ?_
  obtain ⟨h12, e11, f⟩ := ob f
  refine o_last S I e11 dX12_layNames_23 (fun H locs I => ?_)
  refine lv_aload_n S.1 S.2.1 dX12_layNames_24 rfl (lv_at hl 0 rfl) ?_
  obtain ⟨r13, e14, f⟩ := ob f
  refine o_gR S lf12_layNames_81 I e14 dX12_layNames_25 ?_
  refine lv_iconst (v := 3) S.1 S.2.1 dX12_layNames_28 (by decide) ?_
  refine lv_iload S.1 S.2.1 dX12_layNames_29 (lv_at hl 4 rfl) ?_
  refine lv_if_ge (tgt := 38) S.1 S.2.1 dX12_layNames_31 (by decide) (fun q15 => ?_) (fun q15 => ?_)
  · have f := (if_pos q15).symm.trans f
    refine lv_aload_n S.1 S.2.1 dX12_layNames_38 rfl (lv_at hl 0 rfl) ?_
    obtain ⟨r16, e17, f⟩ := ob f
    refine o_gR S lf12_layNames_51 I e17 dX12_layNames_39 ?_
    refine lv_iload S.1 S.2.1 dX12_layNames_42 (lv_at hl 4 rfl) ?_
    obtain ⟨v19, e18, f⟩ := ob f
    refine o_iald S I e18 dX12_layNames_44 ?_
    refine lv_i2l (v := Int32.toInt64 v19) S.1 S.2.1 dX12_layNames_45 rfl ?_
    exact T12_layNames_46 S hr hlo  f I (lv_sub hl [0, 4, 5] rfl)
  · have f := (if_neg q15).symm.trans f
    refine lv_lconst (v := 0) S.1 S.2.1 dX12_layNames_34 (by decide) ?_
    refine lv_goto (tgt := 46) S.1 S.2.1 dX12_layNames_35 (by decide) ?_
    exact T12_layNames_46 S hr hlo  f I (lv_sub hl [0, 4, 5] rfl)
theorem M12_layNames (l : Launch) (D : va_G) (cy : Nat → ClassId) (b : Nat) (A : Nat → Prop) (fl : Bool) {h : PH} {a0 : Nat} {x1 : Int32} {x2 : Int32} {x3 : Int32} {x4 : Int32} {x5 : Int32} {out : PH} (f : F12_layNames h a0 x1 x2 x3 x4 x5 = some out) : Met l yX12_layNames vX12_layNames ({ frames := 0, cells := 0, slots := 0, locals := 0 } : Room) (va_Pc [.ref (b + a0), .int x1, .int x2, .int x3, .int x4, .int x5] (ph_B D cy b A fl h)) (va_Qv (fun (u : PH) => u = out) (ph_B D cy b A fl) A) 0 0 A :=
  o_met (by decide) rfl (Nat.le_of_ble_eq_true rfl) rfl (fun p e s m below meth c S hr hlo hnm ls hl I => T12_layNames_0 S hr hlo ((gd f).2) I (lv_sub hl [0, 1, 2, 3, 4, 5] rfl))
def vX12_bounded : List Cond := .code yX12_bounded cX12_bounded 3 (some .long) :: TB
theorem lp12_bounded_347 : Pl vX12_bounded RX12 347 12 54 .boolean := ⟨RX12, TX12, 87, tyX12, rfl, by decide, (fun w h9 => List.mem_cons_of_mem _ (wC_wsX120 w h9)), (List.mem_cons_of_mem _ wT_35_10), tyX12_ok, nmX12, rfl, rfl⟩
theorem lf12_bounded_347 : Fl vX12_bounded RX12 347 12 54 := ⟨RX12, TX12, 87, rfl, by decide, (fun w h9 => List.mem_cons_of_mem _ (wC_wsX120 w h9)), (List.mem_cons_of_mem _ wT_35_10)⟩
theorem cd12_bounded : Cd yX12_bounded 1 := ⟨by decide, by decide, by decide +kernel⟩
set_option maxHeartbeats 4000000 in
set_option maxRecDepth 100000 in
theorem T12_bounded_29 (S : CallFix p m c cX12_bounded 3 s args vX12_bounded RX12) (hr : meth.sig.returnType = (some .long)) (hlo : meth.locks = false) {out : Int64 × PH} {h : PH} {a0 : Nat} {j1 : Int64} {s0 : Int32} {u1 : Nat} (f : F12_bounded_29  h a0 j1 s0 u1 = some out) {H : Heap} {locs : List Loc} (I : ph_I D cy b A fl h s H locs) {ls : Array Slot} (hl : lv_has ls 3 [(0, .ref (b + a0)), (1, .long j1)]) : W p l e ({ frames := 0, cells := 0, slots := 0, locals := 0 } : Room) s m args below meth c H locs 0 0 (MQ below (va_Ql (fun (r : Int64) (u : PH) => (r, u) = out) (ph_B D cy b A fl) A) args s 0 0 A) (F0 m 29 ls [.int s0, .ref (b + u1)]) := by
  unfold F12_bounded_29 at f
  obtain ⟨h1, e2, f⟩ := ob f
  refine o_pZ S lp12_bounded_347 I e2 dX12_bounded_29 (fun H locs I => ?_)
  refine lv_aload_n S.1 S.2.1 dX12_bounded_32 rfl (lv_at hl 0 rfl) ?_
  obtain ⟨v3, e4, f⟩ := ob f
  refine o_gI S lf12_bounded_347 I e4 dX12_bounded_33 ?_
  refine lv_if_eq (tgt := 43) S.1 S.2.1 dX12_bounded_36 (by decide) (fun q5 => ?_) (fun q5 => ?_)
  · have f := (if_pos q5).symm.trans f
    refine lv_lload_n S.1 S.2.1 dX12_bounded_43 rfl (lv_at hl 1 rfl) ?_
    exact o_lret S hr hlo I f dX12_bounded_44
  · have f := (if_neg q5).symm.trans f
    refine lv_lconst (v := 0) S.1 S.2.1 dX12_bounded_39 (by decide) ?_
    refine lv_goto (tgt := 44) S.1 S.2.1 dX12_bounded_40 (by decide) ?_
    exact o_lret S hr hlo I f dX12_bounded_44
set_option maxHeartbeats 4000000 in
set_option maxRecDepth 100000 in
theorem T12_bounded_24 (S : CallFix p m c cX12_bounded 3 s args vX12_bounded RX12) (hr : meth.sig.returnType = (some .long)) (hlo : meth.locks = false) {out : Int64 × PH} {h : PH} {a0 : Nat} {j1 : Int64} {u0 : Nat} (f : F12_bounded_24  h a0 j1 u0 = some out) {H : Heap} {locs : List Loc} (I : ph_I D cy b A fl h s H locs) {ls : Array Slot} (hl : lv_has ls 3 [(0, .ref (b + a0)), (1, .long j1)]) : W p l e ({ frames := 0, cells := 0, slots := 0, locals := 0 } : Room) s m args below meth c H locs 0 0 (MQ below (va_Ql (fun (r : Int64) (u : PH) => (r, u) = out) (ph_B D cy b A fl) A) args s 0 0 A) (F0 m 24 ls [.ref (b + u0)]) := by
  unfold F12_bounded_24 at f
  refine lv_iconst (v := 1) S.1 S.2.1 dX12_bounded_24 (by decide) ?_
  refine lv_goto (tgt := 29) S.1 S.2.1 dX12_bounded_25 (by decide) ?_
  exact T12_bounded_29 S hr hlo  f I (lv_sub hl [0, 1] rfl)
set_option maxHeartbeats 4000000 in
set_option maxRecDepth 100000 in
theorem T12_bounded_0 (S : CallFix p m c cX12_bounded 3 s args vX12_bounded RX12) (hr : meth.sig.returnType = (some .long)) (hlo : meth.locks = false) {out : Int64 × PH} {h : PH} {a0 : Nat} {j1 : Int64} (f : F12_bounded_0  h a0 j1 = some out) {H : Heap} {locs : List Loc} (I : ph_I D cy b A fl h s H locs) {ls : Array Slot} (hl : lv_has ls 3 [(0, .ref (b + a0)), (1, .long j1)]) : W p l e ({ frames := 0, cells := 0, slots := 0, locals := 0 } : Room) s m args below meth c H locs 0 0 (MQ below (va_Ql (fun (r : Int64) (u : PH) => (r, u) = out) (ph_B D cy b A fl) A) args s 0 0 A) (F0 m 0 ls []) := by
  unfold F12_bounded_0 at f
  refine lv_aload_n S.1 S.2.1 dX12_bounded_0 rfl (lv_at hl 0 rfl) ?_
  refine lv_aload_n S.1 S.2.1 dX12_bounded_1 rfl (lv_at hl 0 rfl) ?_
  obtain ⟨v1, e2, f⟩ := ob f
  refine o_gI S lf12_bounded_347 I e2 dX12_bounded_2 ?_
  refine lv_if_ne (tgt := 24) S.1 S.2.1 dX12_bounded_5 (by decide) (fun q3 => ?_) (fun q3 => ?_)
  · have f := (if_neg q3).symm.trans f
    exact T12_bounded_24 S hr hlo  f I (lv_sub hl [0, 1] rfl)
  · have f := (if_pos q3).symm.trans f
    refine lv_lload_n S.1 S.2.1 dX12_bounded_8 rfl (lv_at hl 1 rfl) ?_
    refine lv_ldc2 (v := 1000000000000) S.1 S.2.1 S.2.2.2.1 (S.2.2.2.2 _ (List.mem_cons_of_mem _ wT_35_23)) dX12_bounded_9 ?_
    refine W.lcmp S.1 S.2.1 dX12_bounded_12 ?_
    refine lv_if_gt (tgt := 24) S.1 S.2.1 dX12_bounded_13 (by decide) (fun q4 => ?_) (fun q4 => ?_)
    · have f := (if_pos q4).symm.trans f
      exact T12_bounded_24 S hr hlo  f I (lv_sub hl [0, 1] rfl)
    · have f := (if_neg q4).symm.trans f
      refine lv_lload_n S.1 S.2.1 dX12_bounded_16 rfl (lv_at hl 1 rfl) ?_
      refine lv_ldc2 (v := (-1000000000000)) S.1 S.2.1 S.2.2.2.1 (S.2.2.2.2 _ (List.mem_cons_of_mem _ wT_36_0)) dX12_bounded_17 ?_
      refine W.lcmp S.1 S.2.1 dX12_bounded_20 ?_
      refine lv_if_ge (tgt := 28) S.1 S.2.1 dX12_bounded_21 (by decide) (fun q5 => ?_) (fun q5 => ?_)
      · have f := (if_pos q5).symm.trans f
        refine lv_iconst (v := 0) S.1 S.2.1 dX12_bounded_28 (by decide) ?_
        exact T12_bounded_29 S hr hlo  f I (lv_sub hl [0, 1] rfl)
      · have f := (if_neg q5).symm.trans f
        exact T12_bounded_24 S hr hlo  f I (lv_sub hl [0, 1] rfl)
theorem M12_bounded (l : Launch) (D : va_G) (cy : Nat → ClassId) (b : Nat) (A : Nat → Prop) (fl : Bool) {h : PH} {a0 : Nat} {j1 : Int64} {out : Int64 × PH} (f : F12_bounded h a0 j1 = some out) : Met l yX12_bounded vX12_bounded ({ frames := 0, cells := 0, slots := 0, locals := 0 } : Room) (va_Pc [.ref (b + a0), .long j1] (ph_B D cy b A fl h)) (va_Ql (fun (r : Int64) (u : PH) => (r, u) = out) (ph_B D cy b A fl) A) 0 0 A :=
  o_met (by decide) rfl (Nat.le_of_ble_eq_true rfl) rfl (fun p e s m below meth c S hr hlo hnm ls hl I => T12_bounded_0 S hr hlo ((gd f).2) I (lv_sub hl [0, 1] rfl))
def vX12_times : List Cond := .code yX12_times cX12_times 6 (some .long) :: TB
theorem lp12_times_347 : Pl vX12_times RX12 347 12 54 .boolean := ⟨RX12, TX12, 87, tyX12, rfl, by decide, (fun w h9 => List.mem_cons_of_mem _ (wC_wsX120 w h9)), (List.mem_cons_of_mem _ wT_35_10), tyX12_ok, nmX12, rfl, rfl⟩
theorem lf12_times_347 : Fl vX12_times RX12 347 12 54 := ⟨RX12, TX12, 87, rfl, by decide, (fun w h9 => List.mem_cons_of_mem _ (wC_wsX120 w h9)), (List.mem_cons_of_mem _ wT_35_10)⟩
theorem cd12_times : Cd yX12_times 2 := ⟨by decide, by decide, by decide +kernel⟩
set_option maxHeartbeats 4000000 in
set_option maxRecDepth 100000 in
theorem T12_times_69 (S : CallFix p m c cX12_times 6 s args vX12_times RX12) (hr : meth.sig.returnType = (some .long)) (hlo : meth.locks = false) {out : Int64 × PH} {h : PH} {a0 : Nat} {j1 : Int64} {j3 : Int64} {s0 : Int32} {u1 : Nat} (f : F12_times_69  h a0 j1 j3 s0 u1 = some out) {H : Heap} {locs : List Loc} (I : ph_I D cy b A fl h s H locs) {ls : Array Slot} (hl : lv_has ls 6 [(0, .ref (b + a0)), (1, .long j1), (3, .long j3)]) : W p l e ({ frames := 0, cells := 0, slots := 0, locals := 0 } : Room) s m args below meth c H locs 0 0 (MQ below (va_Ql (fun (r : Int64) (u : PH) => (r, u) = out) (ph_B D cy b A fl) A) args s 0 0 A) (F0 m 69 ls [.int s0, .ref (b + u1)]) := by
  unfold F12_times_69 at f
  obtain ⟨h1, e2, f⟩ := ob f
  refine o_pZ S lp12_times_347 I e2 dX12_times_69 (fun H locs I => ?_)
  refine lv_aload_n S.1 S.2.1 dX12_times_72 rfl (lv_at hl 0 rfl) ?_
  obtain ⟨v3, e4, f⟩ := ob f
  refine o_gI S lf12_times_347 I e4 dX12_times_73 ?_
  refine lv_if_eq (tgt := 83) S.1 S.2.1 dX12_times_76 (by decide) (fun q5 => ?_) (fun q5 => ?_)
  · have f := (if_pos q5).symm.trans f
    refine lv_lload_n S.1 S.2.1 dX12_times_83 rfl (lv_at hl 1 rfl) ?_
    refine lv_lload_n S.1 S.2.1 dX12_times_84 rfl (lv_at hl 2 rfl) ?_
    refine lv_lmul S.1 S.2.1 dX12_times_85 ?_
    exact o_lret S hr hlo I f dX12_times_86
  · have f := (if_neg q5).symm.trans f
    refine lv_lconst (v := 0) S.1 S.2.1 dX12_times_79 (by decide) ?_
    refine lv_goto (tgt := 86) S.1 S.2.1 dX12_times_80 (by decide) ?_
    exact o_lret S hr hlo I f dX12_times_86
set_option maxHeartbeats 4000000 in
set_option maxRecDepth 100000 in
theorem T12_times_64 (S : CallFix p m c cX12_times 6 s args vX12_times RX12) (hr : meth.sig.returnType = (some .long)) (hlo : meth.locks = false) {out : Int64 × PH} {h : PH} {a0 : Nat} {j1 : Int64} {j3 : Int64} {u0 : Nat} (f : F12_times_64  h a0 j1 j3 u0 = some out) {H : Heap} {locs : List Loc} (I : ph_I D cy b A fl h s H locs) {ls : Array Slot} (hl : lv_has ls 6 [(0, .ref (b + a0)), (1, .long j1), (3, .long j3)]) : W p l e ({ frames := 0, cells := 0, slots := 0, locals := 0 } : Room) s m args below meth c H locs 0 0 (MQ below (va_Ql (fun (r : Int64) (u : PH) => (r, u) = out) (ph_B D cy b A fl) A) args s 0 0 A) (F0 m 64 ls [.ref (b + u0)]) := by
  unfold F12_times_64 at f
  refine lv_iconst (v := 1) S.1 S.2.1 dX12_times_64 (by decide) ?_
  refine lv_goto (tgt := 69) S.1 S.2.1 dX12_times_65 (by decide) ?_
  exact T12_times_69 S hr hlo  f I (lv_sub hl [0, 1, 2] rfl)
set_option maxHeartbeats 4000000 in
set_option maxRecDepth 100000 in
theorem T12_times_49 (S : CallFix p m c cX12_times 6 s args vX12_times RX12) (hr : meth.sig.returnType = (some .long)) (hlo : meth.locks = false) {out : Int64 × PH} {h : PH} {a0 : Nat} {j1 : Int64} {j3 : Int64} {s0 : Int32} (f : F12_times_49  h a0 j1 j3 s0 = some out) {H : Heap} {locs : List Loc} (I : ph_I D cy b A fl h s H locs) {ls : Array Slot} (hl : lv_has ls 6 [(0, .ref (b + a0)), (1, .long j1), (3, .long j3)]) : W p l e ({ frames := 0, cells := 0, slots := 0, locals := 0 } : Room) s m args below meth c H locs 0 0 (MQ below (va_Ql (fun (r : Int64) (u : PH) => (r, u) = out) (ph_B D cy b A fl) A) args s 0 0 A) (F0 m 49 ls [.int s0]) := by
  unfold F12_times_49 at f
  refine lv_istore (lv' := [(5, .int s0), (0, .ref (b + a0)), (1, .long j1), (3, .long j3)]) S.1 S.2.1 dX12_times_49 hl (by decide) rfl (fun ls hl => ?_)
  refine lv_aload_n S.1 S.2.1 dX12_times_51 rfl (lv_at hl 1 rfl) ?_
  refine lv_aload_n S.1 S.2.1 dX12_times_52 rfl (lv_at hl 1 rfl) ?_
  obtain ⟨v1, e2, f⟩ := ob f
  refine o_gI S lf12_times_347 I e2 dX12_times_53 ?_
  refine lv_if_ne (tgt := 64) S.1 S.2.1 dX12_times_56 (by decide) (fun q3 => ?_) (fun q3 => ?_)
  · have f := (if_neg q3).symm.trans f
    exact T12_times_64 S hr hlo  f I (lv_sub hl [1, 2, 3] rfl)
  · have f := (if_pos q3).symm.trans f
    refine lv_iload S.1 S.2.1 dX12_times_59 (lv_at hl 0 rfl) ?_
    refine lv_if_eq (tgt := 68) S.1 S.2.1 dX12_times_61 (by decide) (fun q4 => ?_) (fun q4 => ?_)
    · have f := (if_pos q4).symm.trans f
      refine lv_iconst (v := 0) S.1 S.2.1 dX12_times_68 (by decide) ?_
      exact T12_times_69 S hr hlo  f I (lv_sub hl [1, 2, 3] rfl)
    · have f := (if_neg q4).symm.trans f
      exact T12_times_64 S hr hlo  f I (lv_sub hl [1, 2, 3] rfl)
set_option maxHeartbeats 4000000 in
set_option maxRecDepth 100000 in
theorem T12_times_48 (S : CallFix p m c cX12_times 6 s args vX12_times RX12) (hr : meth.sig.returnType = (some .long)) (hlo : meth.locks = false) {out : Int64 × PH} {h : PH} {a0 : Nat} {j1 : Int64} {j3 : Int64} (f : F12_times_48  h a0 j1 j3 = some out) {H : Heap} {locs : List Loc} (I : ph_I D cy b A fl h s H locs) {ls : Array Slot} (hl : lv_has ls 6 [(0, .ref (b + a0)), (1, .long j1), (3, .long j3)]) : W p l e ({ frames := 0, cells := 0, slots := 0, locals := 0 } : Room) s m args below meth c H locs 0 0 (MQ below (va_Ql (fun (r : Int64) (u : PH) => (r, u) = out) (ph_B D cy b A fl) A) args s 0 0 A) (F0 m 48 ls []) := by
  unfold F12_times_48 at f
  refine lv_iconst (v := 0) S.1 S.2.1 dX12_times_48 (by decide) ?_
  exact T12_times_49 S hr hlo  f I (lv_sub hl [0, 1, 2] rfl)
set_option maxHeartbeats 4000000 in
set_option maxRecDepth 100000 in
theorem T12_times_39 (S : CallFix p m c cX12_times 6 s args vX12_times RX12) (hr : meth.sig.returnType = (some .long)) (hlo : meth.locks = false) {out : Int64 × PH} {h : PH} {a0 : Nat} {j1 : Int64} {j3 : Int64} {t0 : Int64} {t1 : Int64} {t2 : Int64} (f : F12_times_39  h a0 j1 j3 t0 t1 t2 = some out) {H : Heap} {locs : List Loc} (I : ph_I D cy b A fl h s H locs) {ls : Array Slot} (hl : lv_has ls 6 [(0, .ref (b + a0)), (1, .long j1), (3, .long j3)]) : W p l e ({ frames := 0, cells := 0, slots := 0, locals := 0 } : Room) s m args below meth c H locs 0 0 (MQ below (va_Ql (fun (r : Int64) (u : PH) => (r, u) = out) (ph_B D cy b A fl) A) args s 0 0 A) (F0 m 39 ls [.long t0, .long t1, .long t2]) := by
  unfold F12_times_39 at f
  have q1 : ¬ t0 = 0 := fun q => by rw [if_pos q] at f; cases f
  have f := (if_neg q1).symm.trans f
  refine lv_ldiv S.1 S.2.1 dX12_times_39 q1 ?_
  refine W.lcmp S.1 S.2.1 dX12_times_40 ?_
  refine lv_if_le (tgt := 48) S.1 S.2.1 dX12_times_41 (by decide) (fun q2 => ?_) (fun q2 => ?_)
  · have f := (if_pos q2).symm.trans f
    exact T12_times_48 S hr hlo  f I (lv_sub hl [0, 1, 2] rfl)
  · have f := (if_neg q2).symm.trans f
    refine lv_iconst (v := 1) S.1 S.2.1 dX12_times_44 (by decide) ?_
    refine lv_goto (tgt := 49) S.1 S.2.1 dX12_times_45 (by decide) ?_
    exact T12_times_49 S hr hlo  f I (lv_sub hl [0, 1, 2] rfl)
set_option maxHeartbeats 4000000 in
set_option maxRecDepth 100000 in
theorem T12_times_24 (S : CallFix p m c cX12_times 6 s args vX12_times RX12) (hr : meth.sig.returnType = (some .long)) (hlo : meth.locks = false) {out : Int64 × PH} {h : PH} {a0 : Nat} {j1 : Int64} {j3 : Int64} {t0 : Int64} (f : F12_times_24  h a0 j1 j3 t0 = some out) {H : Heap} {locs : List Loc} (I : ph_I D cy b A fl h s H locs) {ls : Array Slot} (hl : lv_has ls 6 [(0, .ref (b + a0)), (1, .long j1), (3, .long j3)]) : W p l e ({ frames := 0, cells := 0, slots := 0, locals := 0 } : Room) s m args below meth c H locs 0 0 (MQ below (va_Ql (fun (r : Int64) (u : PH) => (r, u) = out) (ph_B D cy b A fl) A) args s 0 0 A) (F0 m 24 ls [.long t0]) := by
  unfold F12_times_24 at f
  refine lv_ldc2 (v := 1000000000000) S.1 S.2.1 S.2.2.2.1 (S.2.2.2.2 _ (List.mem_cons_of_mem _ wT_35_23)) dX12_times_24 ?_
  refine lv_lload_n S.1 S.2.1 dX12_times_27 rfl (lv_at hl 1 rfl) ?_
  refine lv_lconst (v := 0) S.1 S.2.1 dX12_times_28 (by decide) ?_
  refine W.lcmp S.1 S.2.1 dX12_times_29 ?_
  refine lv_if_ge (tgt := 38) S.1 S.2.1 dX12_times_30 (by decide) (fun q1 => ?_) (fun q1 => ?_)
  · have f := (if_pos q1).symm.trans f
    refine lv_lload_n S.1 S.2.1 dX12_times_38 rfl (lv_at hl 1 rfl) ?_
    exact T12_times_39 S hr hlo  f I (lv_sub hl [0, 1, 2] rfl)
  · have f := (if_neg q1).symm.trans f
    refine lv_lload_n S.1 S.2.1 dX12_times_33 rfl (lv_at hl 1 rfl) ?_
    refine lv_lneg S.1 S.2.1 dX12_times_34 ?_
    refine lv_goto (tgt := 39) S.1 S.2.1 dX12_times_35 (by decide) ?_
    exact T12_times_39 S hr hlo  f I (lv_sub hl [0, 1, 2] rfl)
set_option maxHeartbeats 4000000 in
set_option maxRecDepth 100000 in
theorem T12_times_0 (S : CallFix p m c cX12_times 6 s args vX12_times RX12) (hr : meth.sig.returnType = (some .long)) (hlo : meth.locks = false) {out : Int64 × PH} {h : PH} {a0 : Nat} {j1 : Int64} {j3 : Int64} (f : F12_times_0  h a0 j1 j3 = some out) {H : Heap} {locs : List Loc} (I : ph_I D cy b A fl h s H locs) {ls : Array Slot} (hl : lv_has ls 6 [(0, .ref (b + a0)), (1, .long j1), (3, .long j3)]) : W p l e ({ frames := 0, cells := 0, slots := 0, locals := 0 } : Room) s m args below meth c H locs 0 0 (MQ below (va_Ql (fun (r : Int64) (u : PH) => (r, u) = out) (ph_B D cy b A fl) A) args s 0 0 A) (F0 m 0 ls []) := by
  unfold F12_times_0 at f
  refine lv_lload_n S.1 S.2.1 dX12_times_0 rfl (lv_at hl 1 rfl) ?_
  refine lv_lconst (v := 0) S.1 S.2.1 dX12_times_1 (by decide) ?_
  refine W.lcmp S.1 S.2.1 dX12_times_2 ?_
  refine lv_if_eq (tgt := 48) S.1 S.2.1 dX12_times_3 (by decide) (fun q1 => ?_) (fun q1 => ?_)
  · have f := (if_pos q1).symm.trans f
    exact T12_times_48 S hr hlo  f I (lv_sub hl [0, 1, 2] rfl)
  · have f := (if_neg q1).symm.trans f
    refine lv_lload_n S.1 S.2.1 dX12_times_6 rfl (lv_at hl 2 rfl) ?_
    refine lv_lconst (v := 0) S.1 S.2.1 dX12_times_7 (by decide) ?_
    refine W.lcmp S.1 S.2.1 dX12_times_8 ?_
    refine lv_if_eq (tgt := 48) S.1 S.2.1 dX12_times_9 (by decide) (fun q2 => ?_) (fun q2 => ?_)
    · have f := (if_pos q2).symm.trans f
      exact T12_times_48 S hr hlo  f I (lv_sub hl [0, 1, 2] rfl)
    · have f := (if_neg q2).symm.trans f
      refine lv_lload_n S.1 S.2.1 dX12_times_12 rfl (lv_at hl 2 rfl) ?_
      refine lv_lconst (v := 0) S.1 S.2.1 dX12_times_13 (by decide) ?_
      refine W.lcmp S.1 S.2.1 dX12_times_14 ?_
      refine lv_if_ge (tgt := 23) S.1 S.2.1 dX12_times_15 (by decide) (fun q3 => ?_) (fun q3 => ?_)
      · have f := (if_pos q3).symm.trans f
        refine lv_lload_n S.1 S.2.1 dX12_times_23 rfl (lv_at hl 2 rfl) ?_
        exact T12_times_24 S hr hlo  f I (lv_sub hl [0, 1, 2] rfl)
      · have f := (if_neg q3).symm.trans f
        refine lv_lload_n S.1 S.2.1 dX12_times_18 rfl (lv_at hl 2 rfl) ?_
        refine lv_lneg S.1 S.2.1 dX12_times_19 ?_
        refine lv_goto (tgt := 24) S.1 S.2.1 dX12_times_20 (by decide) ?_
        exact T12_times_24 S hr hlo  f I (lv_sub hl [0, 1, 2] rfl)
theorem M12_times (l : Launch) (D : va_G) (cy : Nat → ClassId) (b : Nat) (A : Nat → Prop) (fl : Bool) {h : PH} {a0 : Nat} {j1 : Int64} {j3 : Int64} {out : Int64 × PH} (f : F12_times h a0 j1 j3 = some out) : Met l yX12_times vX12_times ({ frames := 0, cells := 0, slots := 0, locals := 0 } : Room) (va_Pc [.ref (b + a0), .long j1, .long j3] (ph_B D cy b A fl h)) (va_Ql (fun (r : Int64) (u : PH) => (r, u) = out) (ph_B D cy b A fl) A) 0 0 A :=
  o_met (by decide) rfl (Nat.le_of_ble_eq_true rfl) rfl (fun p e s m below meth c S hr hlo hnm ls hl I => T12_times_0 S hr hlo ((gd f).2) I (lv_sub hl [0, 1, 2] rfl))
def vX12_compares : List Cond := .code yX12_compares cX12_compares 5 (some .boolean) :: TB
theorem cd12_compares : Cd yX12_compares 3 := ⟨by decide, by decide, by decide +kernel⟩
set_option maxHeartbeats 4000000 in
set_option maxRecDepth 100000 in
theorem T12_compares_0 (S : CallFix p m c cX12_compares 5 s args vX12_compares RX12) (hr : meth.sig.returnType = (some .boolean)) (hlo : meth.locks = false) {out : Int32 × PH} {h : PH} {x0 : Int32} {j1 : Int64} {j3 : Int64} (f : F12_compares_0  h x0 j1 j3 = some out) {H : Heap} {locs : List Loc} (I : ph_I D cy b A fl h s H locs) {ls : Array Slot} (hl : lv_has ls 5 [(0, .int x0), (1, .long j1), (3, .long j3)]) : W p l e ({ frames := 0, cells := 0, slots := 0, locals := 0 } : Room) s m args below meth c H locs 0 0 (MQ below (va_Qi (fun (r : Int32) (u : PH) => (r, u) = out) (ph_B D cy b A fl) A) args s 0 0 A) (F0 m 0 ls []) := by
  unfold F12_compares_0 at f
  refine lv_iload_n S.1 S.2.1 dX12_compares_0 rfl (lv_at hl 0 rfl) ?_
  rcases Decidable.em (x0 = 5) with q1 | q1
  · have f := (if_pos q1).symm.trans f
    refine lv_tableIn (off := 35) (tgt := 36) S.1 S.2.1 dX12_compares_1 (by rw [q1]; decide) (by rw [q1]; decide) (by rw [q1]; rfl) (by decide) ?_
    refine lv_lload_n S.1 S.2.1 dX12_compares_36 rfl (lv_at hl 1 rfl) ?_
    refine lv_lload_n S.1 S.2.1 dX12_compares_37 rfl (lv_at hl 2 rfl) ?_
    refine W.lcmp S.1 S.2.1 dX12_compares_38 ?_
    refine lv_if_ge (tgt := 46) S.1 S.2.1 dX12_compares_39 (by decide) (fun q2 => ?_) (fun q2 => ?_)
    · have f := (if_pos q2).symm.trans f
      refine lv_iconst (v := 0) S.1 S.2.1 dX12_compares_46 (by decide) ?_
      exact o_zret S hr hlo I f dX12_compares_47
    · have f := (if_neg q2).symm.trans f
      refine lv_iconst (v := 1) S.1 S.2.1 dX12_compares_42 (by decide) ?_
      refine lv_goto (tgt := 47) S.1 S.2.1 dX12_compares_43 (by decide) ?_
      exact o_zret S hr hlo I f dX12_compares_47
  have f := (if_neg q1).symm.trans f
  rcases Decidable.em (x0 = 6) with q3 | q3
  · have f := (if_pos q3).symm.trans f
    refine lv_tableIn (off := 47) (tgt := 48) S.1 S.2.1 dX12_compares_1 (by rw [q3]; decide) (by rw [q3]; decide) (by rw [q3]; rfl) (by decide) ?_
    refine lv_lload_n S.1 S.2.1 dX12_compares_48 rfl (lv_at hl 1 rfl) ?_
    refine lv_lload_n S.1 S.2.1 dX12_compares_49 rfl (lv_at hl 2 rfl) ?_
    refine W.lcmp S.1 S.2.1 dX12_compares_50 ?_
    refine lv_if_gt (tgt := 58) S.1 S.2.1 dX12_compares_51 (by decide) (fun q4 => ?_) (fun q4 => ?_)
    · have f := (if_pos q4).symm.trans f
      refine lv_iconst (v := 0) S.1 S.2.1 dX12_compares_58 (by decide) ?_
      exact o_zret S hr hlo I f dX12_compares_59
    · have f := (if_neg q4).symm.trans f
      refine lv_iconst (v := 1) S.1 S.2.1 dX12_compares_54 (by decide) ?_
      refine lv_goto (tgt := 59) S.1 S.2.1 dX12_compares_55 (by decide) ?_
      exact o_zret S hr hlo I f dX12_compares_59
  have f := (if_neg q3).symm.trans f
  rcases Decidable.em (x0 = 7) with q5 | q5
  · have f := (if_pos q5).symm.trans f
    refine lv_tableIn (off := 59) (tgt := 60) S.1 S.2.1 dX12_compares_1 (by rw [q5]; decide) (by rw [q5]; decide) (by rw [q5]; rfl) (by decide) ?_
    refine lv_lload_n S.1 S.2.1 dX12_compares_60 rfl (lv_at hl 1 rfl) ?_
    refine lv_lload_n S.1 S.2.1 dX12_compares_61 rfl (lv_at hl 2 rfl) ?_
    refine W.lcmp S.1 S.2.1 dX12_compares_62 ?_
    refine lv_if_ne (tgt := 70) S.1 S.2.1 dX12_compares_63 (by decide) (fun q6 => ?_) (fun q6 => ?_)
    · have f := (if_neg q6).symm.trans f
      refine lv_iconst (v := 0) S.1 S.2.1 dX12_compares_70 (by decide) ?_
      exact o_zret S hr hlo I f dX12_compares_71
    · have f := (if_pos q6).symm.trans f
      refine lv_iconst (v := 1) S.1 S.2.1 dX12_compares_66 (by decide) ?_
      refine lv_goto (tgt := 71) S.1 S.2.1 dX12_compares_67 (by decide) ?_
      exact o_zret S hr hlo I f dX12_compares_71
  have f := (if_neg q5).symm.trans f
  rcases Decidable.em (x0 = 8) with q7 | q7
  · have f := (if_pos q7).symm.trans f
    refine lv_tableIn (off := 71) (tgt := 72) S.1 S.2.1 dX12_compares_1 (by rw [q7]; decide) (by rw [q7]; decide) (by rw [q7]; rfl) (by decide) ?_
    refine lv_lload_n S.1 S.2.1 dX12_compares_72 rfl (lv_at hl 1 rfl) ?_
    refine lv_lload_n S.1 S.2.1 dX12_compares_73 rfl (lv_at hl 2 rfl) ?_
    refine W.lcmp S.1 S.2.1 dX12_compares_74 ?_
    refine lv_if_eq (tgt := 82) S.1 S.2.1 dX12_compares_75 (by decide) (fun q8 => ?_) (fun q8 => ?_)
    · have f := (if_pos q8).symm.trans f
      refine lv_iconst (v := 0) S.1 S.2.1 dX12_compares_82 (by decide) ?_
      exact o_zret S hr hlo I f dX12_compares_83
    · have f := (if_neg q8).symm.trans f
      refine lv_iconst (v := 1) S.1 S.2.1 dX12_compares_78 (by decide) ?_
      refine lv_goto (tgt := 83) S.1 S.2.1 dX12_compares_79 (by decide) ?_
      exact o_zret S hr hlo I f dX12_compares_83
  have f := (if_neg q7).symm.trans f
  rcases Decidable.em (x0 = 9) with q9 | q9
  · have f := (if_pos q9).symm.trans f
    refine lv_tableIn (off := 83) (tgt := 84) S.1 S.2.1 dX12_compares_1 (by rw [q9]; decide) (by rw [q9]; decide) (by rw [q9]; rfl) (by decide) ?_
    refine lv_lload_n S.1 S.2.1 dX12_compares_84 rfl (lv_at hl 1 rfl) ?_
    refine lv_lload_n S.1 S.2.1 dX12_compares_85 rfl (lv_at hl 2 rfl) ?_
    refine W.lcmp S.1 S.2.1 dX12_compares_86 ?_
    refine lv_if_lt (tgt := 94) S.1 S.2.1 dX12_compares_87 (by decide) (fun q10 => ?_) (fun q10 => ?_)
    · have f := (if_pos q10).symm.trans f
      refine lv_iconst (v := 0) S.1 S.2.1 dX12_compares_94 (by decide) ?_
      exact o_zret S hr hlo I f dX12_compares_95
    · have f := (if_neg q10).symm.trans f
      refine lv_iconst (v := 1) S.1 S.2.1 dX12_compares_90 (by decide) ?_
      refine lv_goto (tgt := 95) S.1 S.2.1 dX12_compares_91 (by decide) ?_
      exact o_zret S hr hlo I f dX12_compares_95
  have f := (if_neg q9).symm.trans f
  refine lv_tableOut (tgt := 96) S.1 S.2.1 dX12_compares_1 (by have := lv_neT q1 (a := 5) (by decide); have := lv_neT q3 (a := 6) (by decide); have := lv_neT q5 (a := 7) (by decide); have := lv_neT q7 (a := 8) (by decide); have := lv_neT q9 (a := 9) (by decide); omega) (by decide) ?_
  refine lv_lload_n S.1 S.2.1 dX12_compares_96 rfl (lv_at hl 1 rfl) ?_
  refine lv_lload_n S.1 S.2.1 dX12_compares_97 rfl (lv_at hl 2 rfl) ?_
  refine W.lcmp S.1 S.2.1 dX12_compares_98 ?_
  refine lv_if_le (tgt := 106) S.1 S.2.1 dX12_compares_99 (by decide) (fun q11 => ?_) (fun q11 => ?_)
  · have f := (if_pos q11).symm.trans f
    refine lv_iconst (v := 0) S.1 S.2.1 dX12_compares_106 (by decide) ?_
    exact o_zret S hr hlo I f dX12_compares_107
  · have f := (if_neg q11).symm.trans f
    refine lv_iconst (v := 1) S.1 S.2.1 dX12_compares_102 (by decide) ?_
    refine lv_goto (tgt := 107) S.1 S.2.1 dX12_compares_103 (by decide) ?_
    exact o_zret S hr hlo I f dX12_compares_107
theorem M12_compares (l : Launch) (D : va_G) (cy : Nat → ClassId) (b : Nat) (A : Nat → Prop) (fl : Bool) {h : PH} {x0 : Int32} {j1 : Int64} {j3 : Int64} {out : Int32 × PH} (f : F12_compares h x0 j1 j3 = some out) : Met l yX12_compares vX12_compares ({ frames := 0, cells := 0, slots := 0, locals := 0 } : Room) (va_Pc [.int x0, .long j1, .long j3] (ph_B D cy b A fl h)) (va_Qi (fun (r : Int32) (u : PH) => (r, u) = out) (ph_B D cy b A fl) A) 0 0 A :=
  o_met (by decide) rfl (Nat.le_of_ble_eq_true rfl) rfl (fun p e s m below meth c S hr hlo hnm ls hl I => T12_compares_0 S hr hlo (f) I (lv_sub hl [0, 1, 2] rfl))
def vX12_valueOf : List Cond := .code yX12_valueOf cX12_valueOf 6 (some .long) :: TB
theorem lp12_valueOf_347 : Pl vX12_valueOf RX12 347 12 54 .boolean := ⟨RX12, TX12, 87, tyX12, rfl, by decide, (fun w h9 => List.mem_cons_of_mem _ (wC_wsX120 w h9)), (List.mem_cons_of_mem _ wT_35_10), tyX12_ok, nmX12, rfl, rfl⟩
theorem lf12_valueOf_347 : Fl vX12_valueOf RX12 347 12 54 := ⟨RX12, TX12, 87, rfl, by decide, (fun w h9 => List.mem_cons_of_mem _ (wC_wsX120 w h9)), (List.mem_cons_of_mem _ wT_35_10)⟩
theorem lf12_valueOf_66 : Fl vX12_valueOf RX12 66 12 40 := ⟨RX12, TX12, 87, rfl, by decide, (fun w h9 => List.mem_cons_of_mem _ (wC_wsX120 w h9)), (List.mem_cons_of_mem _ wT_10_15)⟩
theorem lf12_valueOf_85 : Fl vX12_valueOf RX12 85 12 53 := ⟨RX12, TX12, 87, rfl, by decide, (fun w h9 => List.mem_cons_of_mem _ (wC_wsX120 w h9)), (List.mem_cons_of_mem _ wT_10_21)⟩
theorem lf12_valueOf_69 : Fl vX12_valueOf RX12 69 12 41 := ⟨RX12, TX12, 87, rfl, by decide, (fun w h9 => List.mem_cons_of_mem _ (wC_wsX120 w h9)), (List.mem_cons_of_mem _ wT_10_16)⟩
theorem lf12_valueOf_72 : Fl vX12_valueOf RX12 72 12 42 := ⟨RX12, TX12, 87, rfl, by decide, (fun w h9 => List.mem_cons_of_mem _ (wC_wsX120 w h9)), (List.mem_cons_of_mem _ wT_10_17)⟩
theorem gX12_valueOf_X12_bounded : GoodIn vX12_valueOf (wsV RX12 354 RX12 yX12_bounded vX12_bounded) := gV_of wT_35_19 wT_35_20 wT_35_21 wT_1_5 wT_35_22
theorem gX12_valueOf_X12_times : GoodIn vX12_valueOf (wsV RX12 358 RX12 yX12_times vX12_times) := gV_of wT_36_1 wT_36_2 wT_36_3 wT_1_5 wT_36_4
theorem gX12_valueOf_X12_compares : GoodIn vX12_valueOf (va_wsS RX12 362 yX12_compares vX12_compares) := gS_of wT_36_5 wT_36_6 wT_1_5 wT_36_7
theorem lf12_valueOf_81 : Fl vX12_valueOf RX12 81 12 52 := ⟨RX12, TX12, 87, rfl, by decide, (fun w h9 => List.mem_cons_of_mem _ (wC_wsX120 w h9)), (List.mem_cons_of_mem _ wT_10_20)⟩
theorem cd12_valueOf : Cd yX12_valueOf 1 := ⟨by decide, by decide, by decide +kernel⟩
set_option maxHeartbeats 4000000 in
set_option maxRecDepth 100000 in
theorem T12_valueOf_240 (S : CallFix p m c cX12_valueOf 6 s args vX12_valueOf RX12) (hr : meth.sig.returnType = (some .long)) (hlo : meth.locks = false) {out : Int64 × PH} {h : PH} {a0 : Nat} {j2 : Int64} {j4 : Int64} {s0 : Int32} {u1 : Nat} (f : F12_valueOf_240  h a0 j2 j4 s0 u1 = some out) {H : Heap} {locs : List Loc} (I : ph_I D cy b A fl h s H locs) {ls : Array Slot} (hl : lv_has ls 6 [(0, .ref (b + a0)), (2, .long j2), (4, .long j4)]) : W p l e ({ frames := 1, cells := 0, slots := 0, locals := 25 } : Room) s m args below meth c H locs 0 0 (MQ below (va_Ql (fun (r : Int64) (u : PH) => (r, u) = out) (ph_B D cy b A fl) A) args s 0 0 A) (F0 m 240 ls [.int s0, .ref (b + u1)]) := by
  unfold F12_valueOf_240 at f
  obtain ⟨h1, e2, f⟩ := ob f
  refine o_pZ S lp12_valueOf_347 I e2 dX12_valueOf_240 (fun H locs I => ?_)
  refine lv_aload_n S.1 S.2.1 dX12_valueOf_243 rfl (lv_at hl 0 rfl) ?_
  obtain ⟨v3, e4, f⟩ := ob f
  refine o_gI S lf12_valueOf_347 I e4 dX12_valueOf_244 ?_
  refine lv_if_eq (tgt := 254) S.1 S.2.1 dX12_valueOf_247 (by decide) (fun q5 => ?_) (fun q5 => ?_)
  · have f := (if_pos q5).symm.trans f
    refine lv_lload_n S.1 S.2.1 dX12_valueOf_254 rfl (lv_at hl 1 rfl) ?_
    refine lv_lload S.1 S.2.1 dX12_valueOf_255 (lv_at hl 2 rfl) ?_
    have q6 : ¬ j4 = 0 := fun q => by rw [if_pos q] at f; cases f
    have f := (if_neg q6).symm.trans f
    refine lv_ldiv S.1 S.2.1 dX12_valueOf_257 q6 ?_
    exact o_lret S hr hlo I f dX12_valueOf_258
  · have f := (if_neg q5).symm.trans f
    refine lv_lconst (v := 0) S.1 S.2.1 dX12_valueOf_250 (by decide) ?_
    refine lv_goto (tgt := 258) S.1 S.2.1 dX12_valueOf_251 (by decide) ?_
    exact o_lret S hr hlo I f dX12_valueOf_258
set_option maxHeartbeats 4000000 in
set_option maxRecDepth 100000 in
theorem T12_valueOf_235 (S : CallFix p m c cX12_valueOf 6 s args vX12_valueOf RX12) (hr : meth.sig.returnType = (some .long)) (hlo : meth.locks = false) {out : Int64 × PH} {h : PH} {a0 : Nat} {j2 : Int64} {j4 : Int64} {u0 : Nat} (f : F12_valueOf_235  h a0 j2 j4 u0 = some out) {H : Heap} {locs : List Loc} (I : ph_I D cy b A fl h s H locs) {ls : Array Slot} (hl : lv_has ls 6 [(0, .ref (b + a0)), (2, .long j2), (4, .long j4)]) : W p l e ({ frames := 1, cells := 0, slots := 0, locals := 25 } : Room) s m args below meth c H locs 0 0 (MQ below (va_Ql (fun (r : Int64) (u : PH) => (r, u) = out) (ph_B D cy b A fl) A) args s 0 0 A) (F0 m 235 ls [.ref (b + u0)]) := by
  unfold F12_valueOf_235 at f
  refine lv_iconst (v := 1) S.1 S.2.1 dX12_valueOf_235 (by decide) ?_
  refine lv_goto (tgt := 240) S.1 S.2.1 dX12_valueOf_236 (by decide) ?_
  exact T12_valueOf_240 S hr hlo  f I (lv_sub hl [0, 1, 2] rfl)
set_option maxHeartbeats 4000000 in
set_option maxRecDepth 100000 in
theorem T12_valueOf_0 (S : CallFix p m c cX12_valueOf 6 s args vX12_valueOf RX12) (hr : meth.sig.returnType = (some .long)) (hlo : meth.locks = false) {out : Int64 × PH} {h : PH} {a0 : Nat} {x1 : Int32} (f : F12_valueOf_0  h a0 x1 = some out) {H : Heap} {locs : List Loc} (I : ph_I D cy b A fl h s H locs) {ls : Array Slot} (hl : lv_has ls 6 [(0, .ref (b + a0)), (1, .int x1)]) : W p l e ({ frames := 1, cells := 0, slots := 0, locals := 25 } : Room) s m args below meth c H locs 0 0 (MQ below (va_Ql (fun (r : Int64) (u : PH) => (r, u) = out) (ph_B D cy b A fl) A) args s 0 0 A) (F0 m 0 ls []) := by
  unfold F12_valueOf_0 at f
  refine lv_aload_n S.1 S.2.1 dX12_valueOf_0 rfl (lv_at hl 0 rfl) ?_
  obtain ⟨r1, e2, f⟩ := ob f
  refine o_gR S lf12_valueOf_66 I e2 dX12_valueOf_1 ?_
  refine lv_iload_n S.1 S.2.1 dX12_valueOf_4 rfl (lv_at hl 1 rfl) ?_
  obtain ⟨v4, e3, f⟩ := ob f
  refine o_iald S I e3 dX12_valueOf_5 ?_
  refine lv_if_ne (tgt := 17) S.1 S.2.1 dX12_valueOf_6 (by decide) (fun q5 => ?_) (fun q5 => ?_)
  · have f := (if_neg q5).symm.trans f
    refine lv_aload_n S.1 S.2.1 dX12_valueOf_17 rfl (lv_at hl 0 rfl) ?_
    obtain ⟨r6, e7, f⟩ := ob f
    refine o_gR S lf12_valueOf_66 I e7 dX12_valueOf_18 ?_
    refine lv_iload_n S.1 S.2.1 dX12_valueOf_21 rfl (lv_at hl 1 rfl) ?_
    obtain ⟨v9, e8, f⟩ := ob f
    refine o_iald S I e8 dX12_valueOf_22 ?_
    refine lv_iconst (v := 1) S.1 S.2.1 dX12_valueOf_23 (by decide) ?_
    refine lv_icmp_ne (tgt := 39) S.1 S.2.1 dX12_valueOf_24 (by decide) (fun q10 => ?_) (fun q10 => ?_)
    · have f := (if_neg q10).symm.trans f
      refine lv_aload_n S.1 S.2.1 dX12_valueOf_39 rfl (lv_at hl 0 rfl) ?_
      obtain ⟨r11, e12, f⟩ := ob f
      refine o_gR S lf12_valueOf_85 I e12 dX12_valueOf_40 ?_
      refine lv_aload_n S.1 S.2.1 dX12_valueOf_43 rfl (lv_at hl 0 rfl) ?_
      obtain ⟨r13, e14, f⟩ := ob f
      refine o_gR S lf12_valueOf_69 I e14 dX12_valueOf_44 ?_
      refine lv_iload_n S.1 S.2.1 dX12_valueOf_47 rfl (lv_at hl 1 rfl) ?_
      obtain ⟨v16, e15, f⟩ := ob f
      refine o_iald S I e15 dX12_valueOf_48 ?_
      obtain ⟨w18, e17, f⟩ := ob f
      refine o_lald S I e17 dX12_valueOf_49 ?_
      refine lv_lstore_n (lv' := [(2, .long w18), (0, .ref (b + a0)), (1, .int x1)]) S.1 S.2.1 dX12_valueOf_50 rfl hl (by decide) rfl (fun ls hl => ?_)
      refine lv_aload_n S.1 S.2.1 dX12_valueOf_51 rfl (lv_at hl 1 rfl) ?_
      obtain ⟨r19, e20, f⟩ := ob f
      refine o_gR S lf12_valueOf_66 I e20 dX12_valueOf_52 ?_
      refine lv_iload_n S.1 S.2.1 dX12_valueOf_55 rfl (lv_at hl 2 rfl) ?_
      obtain ⟨v22, e21, f⟩ := ob f
      refine o_iald S I e21 dX12_valueOf_56 ?_
      refine lv_iconst (v := 2) S.1 S.2.1 dX12_valueOf_57 (by decide) ?_
      refine lv_icmp_ne (tgt := 73) S.1 S.2.1 dX12_valueOf_58 (by decide) (fun q23 => ?_) (fun q23 => ?_)
      · have f := (if_neg q23).symm.trans f
        refine lv_aload_n S.1 S.2.1 dX12_valueOf_73 rfl (lv_at hl 1 rfl) ?_
        obtain ⟨r24, e25, f⟩ := ob f
        refine o_gR S lf12_valueOf_85 I e25 dX12_valueOf_74 ?_
        refine lv_aload_n S.1 S.2.1 dX12_valueOf_77 rfl (lv_at hl 1 rfl) ?_
        obtain ⟨r26, e27, f⟩ := ob f
        refine o_gR S lf12_valueOf_72 I e27 dX12_valueOf_78 ?_
        refine lv_iload_n S.1 S.2.1 dX12_valueOf_81 rfl (lv_at hl 2 rfl) ?_
        obtain ⟨v29, e28, f⟩ := ob f
        refine o_iald S I e28 dX12_valueOf_82 ?_
        obtain ⟨w31, e30, f⟩ := ob f
        refine o_lald S I e30 dX12_valueOf_83 ?_
        refine lv_lstore (lv' := [(4, .long w31), (2, .long w18), (0, .ref (b + a0)), (1, .int x1)]) S.1 S.2.1 dX12_valueOf_84 hl (by decide) rfl (fun ls hl => ?_)
        refine lv_aload_n S.1 S.2.1 dX12_valueOf_86 rfl (lv_at hl 2 rfl) ?_
        obtain ⟨r32, e33, f⟩ := ob f
        refine o_gR S lf12_valueOf_66 I e33 dX12_valueOf_87 ?_
        refine lv_iload_n S.1 S.2.1 dX12_valueOf_90 rfl (lv_at hl 3 rfl) ?_
        obtain ⟨v35, e34, f⟩ := ob f
        refine o_iald S I e34 dX12_valueOf_91 ?_
        rcases Decidable.em (v35 = 3) with q36 | q36
        · have f := (if_pos q36).symm.trans f
          refine lv_tableIn (off := 64) (tgt := 156) S.1 S.2.1 dX12_valueOf_92 (by rw [q36]; decide) (by rw [q36]; decide) (by rw [q36]; rfl) (by decide) ?_
          refine lv_lload_n S.1 S.2.1 dX12_valueOf_156 rfl (lv_at hl 1 rfl) ?_
          refine lv_lconst (v := 0) S.1 S.2.1 dX12_valueOf_157 (by decide) ?_
          refine W.lcmp S.1 S.2.1 dX12_valueOf_158 ?_
          refine lv_if_eq (tgt := 173) S.1 S.2.1 dX12_valueOf_159 (by decide) (fun q37 => ?_) (fun q37 => ?_)
          · have f := (if_pos q37).symm.trans f
            refine lv_lconst (v := 0) S.1 S.2.1 dX12_valueOf_173 (by decide) ?_
            exact o_lret S hr hlo I f dX12_valueOf_174
          · have f := (if_neg q37).symm.trans f
            refine lv_lload S.1 S.2.1 dX12_valueOf_162 (lv_at hl 0 rfl) ?_
            refine lv_lconst (v := 0) S.1 S.2.1 dX12_valueOf_164 (by decide) ?_
            refine W.lcmp S.1 S.2.1 dX12_valueOf_165 ?_
            refine lv_if_eq (tgt := 173) S.1 S.2.1 dX12_valueOf_166 (by decide) (fun q38 => ?_) (fun q38 => ?_)
            · have f := (if_pos q38).symm.trans f
              refine lv_lconst (v := 0) S.1 S.2.1 dX12_valueOf_173 (by decide) ?_
              exact o_lret S hr hlo I f dX12_valueOf_174
            · have f := (if_neg q38).symm.trans f
              refine lv_lconst (v := 1) S.1 S.2.1 dX12_valueOf_169 (by decide) ?_
              refine lv_goto (tgt := 174) S.1 S.2.1 dX12_valueOf_170 (by decide) ?_
              exact o_lret S hr hlo I f dX12_valueOf_174
        have f := (if_neg q36).symm.trans f
        rcases Decidable.em (v35 = 4) with q39 | q39
        · have f := (if_pos q39).symm.trans f
          refine lv_tableIn (off := 83) (tgt := 175) S.1 S.2.1 dX12_valueOf_92 (by rw [q39]; decide) (by rw [q39]; decide) (by rw [q39]; rfl) (by decide) ?_
          refine lv_lload_n S.1 S.2.1 dX12_valueOf_175 rfl (lv_at hl 1 rfl) ?_
          refine lv_lconst (v := 0) S.1 S.2.1 dX12_valueOf_176 (by decide) ?_
          refine W.lcmp S.1 S.2.1 dX12_valueOf_177 ?_
          refine lv_if_ne (tgt := 188) S.1 S.2.1 dX12_valueOf_178 (by decide) (fun q40 => ?_) (fun q40 => ?_)
          · have f := (if_neg q40).symm.trans f
            refine lv_lconst (v := 1) S.1 S.2.1 dX12_valueOf_188 (by decide) ?_
            refine lv_goto (tgt := 193) S.1 S.2.1 dX12_valueOf_189 (by decide) ?_
            exact o_lret S hr hlo I f dX12_valueOf_193
          · have f := (if_pos q40).symm.trans f
            refine lv_lload S.1 S.2.1 dX12_valueOf_181 (lv_at hl 0 rfl) ?_
            refine lv_lconst (v := 0) S.1 S.2.1 dX12_valueOf_183 (by decide) ?_
            refine W.lcmp S.1 S.2.1 dX12_valueOf_184 ?_
            refine lv_if_eq (tgt := 192) S.1 S.2.1 dX12_valueOf_185 (by decide) (fun q41 => ?_) (fun q41 => ?_)
            · have f := (if_pos q41).symm.trans f
              refine lv_lconst (v := 0) S.1 S.2.1 dX12_valueOf_192 (by decide) ?_
              exact o_lret S hr hlo I f dX12_valueOf_193
            · have f := (if_neg q41).symm.trans f
              refine lv_lconst (v := 1) S.1 S.2.1 dX12_valueOf_188 (by decide) ?_
              refine lv_goto (tgt := 193) S.1 S.2.1 dX12_valueOf_189 (by decide) ?_
              exact o_lret S hr hlo I f dX12_valueOf_193
        have f := (if_neg q39).symm.trans f
        rcases Decidable.em (v35 = 11) with q42 | q42
        · have f := (if_pos q42).symm.trans f
          refine lv_tableIn (off := 102) (tgt := 194) S.1 S.2.1 dX12_valueOf_92 (by rw [q42]; decide) (by rw [q42]; decide) (by rw [q42]; rfl) (by decide) ?_
          refine lv_aload_n S.1 S.2.1 dX12_valueOf_194 rfl (lv_at hl 2 rfl) ?_
          refine lv_lload_n S.1 S.2.1 dX12_valueOf_195 rfl (lv_at hl 1 rfl) ?_
          refine lv_lload S.1 S.2.1 dX12_valueOf_196 (lv_at hl 0 rfl) ?_
          refine lv_ladd S.1 S.2.1 dX12_valueOf_198 ?_
          obtain ⟨o43, e44, f⟩ := ob f
          refine o_Vl S (As := [.long (w18 + w31)]) (rest := []) (ci := 12) (M12_bounded l D cy b A fl e44) gX12_valueOf_X12_bounded rfl rfl rfl cd12_bounded ⟨Nat.le_of_ble_eq_true rfl, Nat.le_of_ble_eq_true rfl⟩ I (gd e44).1 clX12 rfl rfl hl.1 rfl (Nat.le_of_ble_eq_true rfl) dX12_valueOf_199 ⟨Nat.le_of_ble_eq_true rfl, Nat.le_of_ble_eq_true rfl⟩ (fun H locs I => ?_)
          exact o_lret S hr hlo I f dX12_valueOf_202
        have f := (if_neg q42).symm.trans f
        rcases Decidable.em (v35 = 12) with q45 | q45
        · have f := (if_pos q45).symm.trans f
          refine lv_tableIn (off := 111) (tgt := 203) S.1 S.2.1 dX12_valueOf_92 (by rw [q45]; decide) (by rw [q45]; decide) (by rw [q45]; rfl) (by decide) ?_
          refine lv_aload_n S.1 S.2.1 dX12_valueOf_203 rfl (lv_at hl 2 rfl) ?_
          refine lv_lload_n S.1 S.2.1 dX12_valueOf_204 rfl (lv_at hl 1 rfl) ?_
          refine lv_lload S.1 S.2.1 dX12_valueOf_205 (lv_at hl 0 rfl) ?_
          refine lv_lsub S.1 S.2.1 dX12_valueOf_207 ?_
          obtain ⟨o46, e47, f⟩ := ob f
          refine o_Vl S (As := [.long (w18 - w31)]) (rest := []) (ci := 12) (M12_bounded l D cy b A fl e47) gX12_valueOf_X12_bounded rfl rfl rfl cd12_bounded ⟨Nat.le_of_ble_eq_true rfl, Nat.le_of_ble_eq_true rfl⟩ I (gd e47).1 clX12 rfl rfl hl.1 rfl (Nat.le_of_ble_eq_true rfl) dX12_valueOf_208 ⟨Nat.le_of_ble_eq_true rfl, Nat.le_of_ble_eq_true rfl⟩ (fun H locs I => ?_)
          exact o_lret S hr hlo I f dX12_valueOf_211
        have f := (if_neg q45).symm.trans f
        rcases Decidable.em (v35 = 13) with q48 | q48
        · have f := (if_pos q48).symm.trans f
          refine lv_tableIn (off := 120) (tgt := 212) S.1 S.2.1 dX12_valueOf_92 (by rw [q48]; decide) (by rw [q48]; decide) (by rw [q48]; rfl) (by decide) ?_
          refine lv_aload_n S.1 S.2.1 dX12_valueOf_212 rfl (lv_at hl 2 rfl) ?_
          refine lv_lload_n S.1 S.2.1 dX12_valueOf_213 rfl (lv_at hl 1 rfl) ?_
          refine lv_lload S.1 S.2.1 dX12_valueOf_214 (lv_at hl 0 rfl) ?_
          obtain ⟨o49, e50, f⟩ := ob f
          refine o_Vl S (As := [.long w18, .long w31]) (rest := []) (ci := 12) (M12_times l D cy b A fl e50) gX12_valueOf_X12_times rfl rfl rfl cd12_times ⟨Nat.le_of_ble_eq_true rfl, Nat.le_of_ble_eq_true rfl⟩ I (gd e50).1 clX12 rfl rfl hl.1 rfl (Nat.le_of_ble_eq_true rfl) dX12_valueOf_216 ⟨Nat.le_of_ble_eq_true rfl, Nat.le_of_ble_eq_true rfl⟩ (fun H locs I => ?_)
          exact o_lret S hr hlo I f dX12_valueOf_219
        have f := (if_neg q48).symm.trans f
        rcases Decidable.em (v35 = 14) with q51 | q51
        · have f := (if_pos q51).symm.trans f
          refine lv_tableIn (off := 128) (tgt := 220) S.1 S.2.1 dX12_valueOf_92 (by rw [q51]; decide) (by rw [q51]; decide) (by rw [q51]; rfl) (by decide) ?_
          refine lv_aload_n S.1 S.2.1 dX12_valueOf_220 rfl (lv_at hl 2 rfl) ?_
          refine lv_aload_n S.1 S.2.1 dX12_valueOf_221 rfl (lv_at hl 2 rfl) ?_
          obtain ⟨v52, e53, f⟩ := ob f
          refine o_gI S lf12_valueOf_347 I e53 dX12_valueOf_222 ?_
          refine lv_if_ne (tgt := 235) S.1 S.2.1 dX12_valueOf_225 (by decide) (fun q54 => ?_) (fun q54 => ?_)
          · have f := (if_neg q54).symm.trans f
            exact T12_valueOf_235 S hr hlo  f I (lv_sub hl [2, 1, 0] rfl)
          · have f := (if_pos q54).symm.trans f
            refine lv_lload S.1 S.2.1 dX12_valueOf_228 (lv_at hl 0 rfl) ?_
            refine lv_lconst (v := 0) S.1 S.2.1 dX12_valueOf_230 (by decide) ?_
            refine W.lcmp S.1 S.2.1 dX12_valueOf_231 ?_
            refine lv_if_ne (tgt := 239) S.1 S.2.1 dX12_valueOf_232 (by decide) (fun q55 => ?_) (fun q55 => ?_)
            · have f := (if_neg q55).symm.trans f
              refine lv_iconst (v := 0) S.1 S.2.1 dX12_valueOf_239 (by decide) ?_
              exact T12_valueOf_240 S hr hlo  f I (lv_sub hl [2, 1, 0] rfl)
            · have f := (if_pos q55).symm.trans f
              exact T12_valueOf_235 S hr hlo  f I (lv_sub hl [2, 1, 0] rfl)
        have f := (if_neg q51).symm.trans f
        suffices K : W p l e ({ frames := 1, cells := 0, slots := 0, locals := 25 } : Room) s m args below meth c H locs 0 0 (MQ below (va_Ql (fun (r : Int64) (u : PH) => (r, u) = out) (ph_B D cy b A fl) A) args s 0 0 A) (F0 m 259 ls []) by
          have := lv_neT q36 (a := 3) (by decide)
          have := lv_neT q39 (a := 4) (by decide)
          have := lv_neT q42 (a := 11) (by decide)
          have := lv_neT q45 (a := 12) (by decide)
          have := lv_neT q48 (a := 13) (by decide)
          have := lv_neT q51 (a := 14) (by decide)
          have g9 : (v35).toInt < 3 ∨ 14 < (v35).toInt ∨ (v35).toInt = 5 ∨ (v35).toInt = 6 ∨ (v35).toInt = 7 ∨ (v35).toInt = 8 ∨ (v35).toInt = 9 ∨ (v35).toInt = 10 := by omega
          rcases g9 with g9 | g9 | g9 | g9 | g9 | g9 | g9 | g9
          · exact lv_tableOut (tgt := 259) S.1 S.2.1 dX12_valueOf_92 (Or.inl g9) (by decide) K
          · exact lv_tableOut (tgt := 259) S.1 S.2.1 dX12_valueOf_92 (Or.inr g9) (by decide) K
          · exact lv_tableIn (off := 167) (tgt := 259) S.1 S.2.1 dX12_valueOf_92 (by rw [g9]; decide) (by rw [g9]; decide) (by rw [g9]; rfl) (by decide) K
          · exact lv_tableIn (off := 167) (tgt := 259) S.1 S.2.1 dX12_valueOf_92 (by rw [g9]; decide) (by rw [g9]; decide) (by rw [g9]; rfl) (by decide) K
          · exact lv_tableIn (off := 167) (tgt := 259) S.1 S.2.1 dX12_valueOf_92 (by rw [g9]; decide) (by rw [g9]; decide) (by rw [g9]; rfl) (by decide) K
          · exact lv_tableIn (off := 167) (tgt := 259) S.1 S.2.1 dX12_valueOf_92 (by rw [g9]; decide) (by rw [g9]; decide) (by rw [g9]; rfl) (by decide) K
          · exact lv_tableIn (off := 167) (tgt := 259) S.1 S.2.1 dX12_valueOf_92 (by rw [g9]; decide) (by rw [g9]; decide) (by rw [g9]; rfl) (by decide) K
          · exact lv_tableIn (off := 167) (tgt := 259) S.1 S.2.1 dX12_valueOf_92 (by rw [g9]; decide) (by rw [g9]; decide) (by rw [g9]; rfl) (by decide) K
        refine lv_aload_n S.1 S.2.1 dX12_valueOf_259 rfl (lv_at hl 2 rfl) ?_
        obtain ⟨r56, e57, f⟩ := ob f
        refine o_gR S lf12_valueOf_66 I e57 dX12_valueOf_260 ?_
        refine lv_iload_n S.1 S.2.1 dX12_valueOf_263 rfl (lv_at hl 3 rfl) ?_
        obtain ⟨v59, e58, f⟩ := ob f
        refine o_iald S I e58 dX12_valueOf_264 ?_
        refine lv_lload_n S.1 S.2.1 dX12_valueOf_265 rfl (lv_at hl 1 rfl) ?_
        refine lv_lload S.1 S.2.1 dX12_valueOf_266 (lv_at hl 0 rfl) ?_
        obtain ⟨o60, e61, f⟩ := ob f
        refine o_Si S (As := [.int v59, .long w18, .long w31]) (rest := []) (M12_compares l D cy b A fl e61) gX12_valueOf_X12_compares rfl rfl rfl cd12_compares ⟨Nat.le_of_ble_eq_true rfl, Nat.le_of_ble_eq_true rfl⟩ I rfl hl.1 rfl (Nat.le_of_ble_eq_true rfl) dX12_valueOf_268 ⟨Nat.le_of_ble_eq_true rfl, Nat.le_of_ble_eq_true rfl⟩ (fun H locs I => ?_)
        refine lv_if_eq (tgt := 278) S.1 S.2.1 dX12_valueOf_271 (by decide) (fun q62 => ?_) (fun q62 => ?_)
        · have f := (if_pos q62).symm.trans f
          refine lv_lconst (v := 0) S.1 S.2.1 dX12_valueOf_278 (by decide) ?_
          exact o_lret S hr hlo I f dX12_valueOf_279
        · have f := (if_neg q62).symm.trans f
          refine lv_lconst (v := 1) S.1 S.2.1 dX12_valueOf_274 (by decide) ?_
          refine lv_goto (tgt := 279) S.1 S.2.1 dX12_valueOf_275 (by decide) ?_
          exact o_lret S hr hlo I f dX12_valueOf_279
      · have f := (if_pos q23).symm.trans f
        refine lv_lload_n S.1 S.2.1 dX12_valueOf_61 rfl (lv_at hl 0 rfl) ?_
        refine lv_lconst (v := 0) S.1 S.2.1 dX12_valueOf_62 (by decide) ?_
        refine W.lcmp S.1 S.2.1 dX12_valueOf_63 ?_
        refine lv_if_ne (tgt := 71) S.1 S.2.1 dX12_valueOf_64 (by decide) (fun q63 => ?_) (fun q63 => ?_)
        · have f := (if_neg q63).symm.trans f
          refine lv_lconst (v := 0) S.1 S.2.1 dX12_valueOf_71 (by decide) ?_
          exact o_lret S hr hlo I f dX12_valueOf_72
        · have f := (if_pos q63).symm.trans f
          refine lv_lconst (v := 1) S.1 S.2.1 dX12_valueOf_67 (by decide) ?_
          refine lv_goto (tgt := 72) S.1 S.2.1 dX12_valueOf_68 (by decide) ?_
          exact o_lret S hr hlo I f dX12_valueOf_72
    · have f := (if_pos q10).symm.trans f
      refine lv_aload_n S.1 S.2.1 dX12_valueOf_27 rfl (lv_at hl 0 rfl) ?_
      obtain ⟨r64, e65, f⟩ := ob f
      refine o_gR S lf12_valueOf_81 I e65 dX12_valueOf_28 ?_
      refine lv_aload_n S.1 S.2.1 dX12_valueOf_31 rfl (lv_at hl 0 rfl) ?_
      obtain ⟨r66, e67, f⟩ := ob f
      refine o_gR S lf12_valueOf_69 I e67 dX12_valueOf_32 ?_
      refine lv_iload_n S.1 S.2.1 dX12_valueOf_35 rfl (lv_at hl 1 rfl) ?_
      obtain ⟨v69, e68, f⟩ := ob f
      refine o_iald S I e68 dX12_valueOf_36 ?_
      obtain ⟨w71, e70, f⟩ := ob f
      refine o_lald S I e70 dX12_valueOf_37 ?_
      exact o_lret S hr hlo I f dX12_valueOf_38
  · have f := (if_pos q5).symm.trans f
    refine lv_aload_n S.1 S.2.1 dX12_valueOf_9 rfl (lv_at hl 0 rfl) ?_
    obtain ⟨r72, e73, f⟩ := ob f
    refine o_gR S lf12_valueOf_69 I e73 dX12_valueOf_10 ?_
    refine lv_iload_n S.1 S.2.1 dX12_valueOf_13 rfl (lv_at hl 1 rfl) ?_
    obtain ⟨v75, e74, f⟩ := ob f
    refine o_iald S I e74 dX12_valueOf_14 ?_
    refine lv_i2l (v := Int32.toInt64 v75) S.1 S.2.1 dX12_valueOf_15 rfl ?_
    exact o_lret S hr hlo I f dX12_valueOf_16
theorem M12_valueOf (l : Launch) (D : va_G) (cy : Nat → ClassId) (b : Nat) (A : Nat → Prop) (fl : Bool) {h : PH} {a0 : Nat} {x1 : Int32} {out : Int64 × PH} (f : F12_valueOf h a0 x1 = some out) : Met l yX12_valueOf vX12_valueOf ({ frames := 1, cells := 0, slots := 0, locals := 25 } : Room) (va_Pc [.ref (b + a0), .int x1] (ph_B D cy b A fl h)) (va_Ql (fun (r : Int64) (u : PH) => (r, u) = out) (ph_B D cy b A fl) A) 0 0 A :=
  o_met (by decide) rfl (Nat.le_of_ble_eq_true rfl) rfl (fun p e s m below meth c S hr hlo hnm ls hl I => T12_valueOf_0 S hr hlo ((gd f).2) I (lv_sub hl [0, 1] rfl))
def vX12_lawOf : List Cond := .code yX12_lawOf cX12_lawOf 3 (some .long) :: TB
theorem lf12_lawOf_63 : Fl vX12_lawOf RX12 63 12 39 := ⟨RX12, TX12, 87, rfl, by decide, (fun w h9 => List.mem_cons_of_mem _ (wC_wsX120 w h9)), (List.mem_cons_of_mem _ wT_10_14)⟩
theorem lf12_lawOf_347 : Fl vX12_lawOf RX12 347 12 54 := ⟨RX12, TX12, 87, rfl, by decide, (fun w h9 => List.mem_cons_of_mem _ (wC_wsX120 w h9)), (List.mem_cons_of_mem _ wT_35_10)⟩
theorem lf12_lawOf_85 : Fl vX12_lawOf RX12 85 12 53 := ⟨RX12, TX12, 87, rfl, by decide, (fun w h9 => List.mem_cons_of_mem _ (wC_wsX120 w h9)), (List.mem_cons_of_mem _ wT_10_21)⟩
theorem gX12_lawOf_X12_valueOf : GoodIn vX12_lawOf (wsV RX12 385 RX12 yX12_valueOf vX12_valueOf) := gV_of wT_35_15 wT_35_16 wT_35_17 wT_1_5 wT_35_18
theorem lp12_lawOf_347 : Pl vX12_lawOf RX12 347 12 54 .boolean := ⟨RX12, TX12, 87, tyX12, rfl, by decide, (fun w h9 => List.mem_cons_of_mem _ (wC_wsX120 w h9)), (List.mem_cons_of_mem _ wT_35_10), tyX12_ok, nmX12, rfl, rfl⟩
theorem lf12_lawOf_60 : Fl vX12_lawOf RX12 60 12 38 := ⟨RX12, TX12, 87, rfl, by decide, (fun w h9 => List.mem_cons_of_mem _ (wC_wsX120 w h9)), (List.mem_cons_of_mem _ wT_10_13)⟩
theorem cd12_lawOf : Cd yX12_lawOf 1 := ⟨by decide, by decide, by decide +kernel⟩
set_option maxHeartbeats 4000000 in
set_option maxRecDepth 100000 in
theorem T12_lawOf_12 (S : CallFix p m c cX12_lawOf 3 s args vX12_lawOf RX12) (hr : meth.sig.returnType = (some .long)) (hlo : meth.locks = false) {out : Int64 × PH} : ∀ (n : Nat) {h : PH} {a0 : Nat} {x1 : Int32} {x2 : Int32} (f : F12_lawOf_12  n h a0 x1 x2 = some out) {H : Heap} {locs : List Loc} (I : ph_I D cy b A fl h s H locs) {ls : Array Slot} (hl : lv_has ls 3 [(0, .ref (b + a0)), (1, .int x1), (2, .int x2)]), W p l e ({ frames := 2, cells := 0, slots := 0, locals := 50 } : Room) s m args below meth c H locs 0 0 (MQ below (va_Ql (fun (r : Int64) (u : PH) => (r, u) = out) (ph_B D cy b A fl) A) args s 0 0 A) (F0 m 12 ls []) := by
  intro n
  induction n with
  | zero => intro h a0 x1 x2 f; rw [F12_lawOf_12] at f; cases f
  | succ n ih =>
    intro h a0 x1 x2 f H locs I ls hl
    rw [F12_lawOf_12] at f
    refine lv_iload_n S.1 S.2.1 dX12_lawOf_12 rfl (lv_at hl 2 rfl) ?_
    refine lv_aload_n S.1 S.2.1 dX12_lawOf_13 rfl (lv_at hl 0 rfl) ?_
    obtain ⟨r1, e2, f⟩ := ob f
    refine o_gR S lf12_lawOf_63 I e2 dX12_lawOf_14 ?_
    refine lv_iload_n S.1 S.2.1 dX12_lawOf_17 rfl (lv_at hl 1 rfl) ?_
    obtain ⟨v4, e3, f⟩ := ob f
    refine o_iald S I e3 dX12_lawOf_18 ?_
    refine lv_icmp_ge (tgt := 39) S.1 S.2.1 dX12_lawOf_19 (by decide) (fun q5 => ?_) (fun q5 => ?_)
    · have f := (if_pos q5).symm.trans f
      refine lv_aload_n S.1 S.2.1 dX12_lawOf_39 rfl (lv_at hl 0 rfl) ?_
      obtain ⟨v6, e7, f⟩ := ob f
      refine o_gI S lf12_lawOf_347 I e7 dX12_lawOf_40 ?_
      refine lv_if_eq (tgt := 50) S.1 S.2.1 dX12_lawOf_43 (by decide) (fun q8 => ?_) (fun q8 => ?_)
      · have f := (if_pos q8).symm.trans f
        refine lv_aload_n S.1 S.2.1 dX12_lawOf_50 rfl (lv_at hl 0 rfl) ?_
        obtain ⟨r9, e10, f⟩ := ob f
        refine o_gR S lf12_lawOf_85 I e10 dX12_lawOf_51 ?_
        refine lv_aload_n S.1 S.2.1 dX12_lawOf_54 rfl (lv_at hl 0 rfl) ?_
        obtain ⟨r11, e12, f⟩ := ob f
        refine o_gR S lf12_lawOf_63 I e12 dX12_lawOf_55 ?_
        refine lv_iload_n S.1 S.2.1 dX12_lawOf_58 rfl (lv_at hl 1 rfl) ?_
        obtain ⟨v14, e13, f⟩ := ob f
        refine o_iald S I e13 dX12_lawOf_59 ?_
        refine lv_iconst (v := 1) S.1 S.2.1 dX12_lawOf_60 (by decide) ?_
        refine lv_isub S.1 S.2.1 dX12_lawOf_61 ?_
        obtain ⟨w16, e15, f⟩ := ob f
        refine o_lald S I e15 dX12_lawOf_62 ?_
        exact o_lret S hr hlo I f dX12_lawOf_63
      · have f := (if_neg q8).symm.trans f
        refine lv_lconst (v := 0) S.1 S.2.1 dX12_lawOf_46 (by decide) ?_
        refine lv_goto (tgt := 63) S.1 S.2.1 dX12_lawOf_47 (by decide) ?_
        exact o_lret S hr hlo I f dX12_lawOf_63
    · have f := (if_neg q5).symm.trans f
      refine lv_aload_n S.1 S.2.1 dX12_lawOf_22 rfl (lv_at hl 0 rfl) ?_
      obtain ⟨r17, e18, f⟩ := ob f
      refine o_gR S lf12_lawOf_85 I e18 dX12_lawOf_23 ?_
      refine lv_iload_n S.1 S.2.1 dX12_lawOf_26 rfl (lv_at hl 2 rfl) ?_
      refine lv_aload_n S.1 S.2.1 dX12_lawOf_27 rfl (lv_at hl 0 rfl) ?_
      refine lv_iload_n S.1 S.2.1 dX12_lawOf_28 rfl (lv_at hl 2 rfl) ?_
      obtain ⟨o19, e20, f⟩ := ob f
      refine o_Vl S (As := [.int x2]) (rest := [.int x2, .ref (b + r17)]) (ci := 12) (M12_valueOf l D cy b A fl e20) gX12_lawOf_X12_valueOf rfl rfl rfl cd12_valueOf ⟨Nat.le_of_ble_eq_true rfl, Nat.le_of_ble_eq_true rfl⟩ I (gd e20).1 clX12 rfl rfl hl.1 rfl (Nat.le_of_ble_eq_true rfl) dX12_lawOf_29 ⟨Nat.le_of_ble_eq_true rfl, Nat.le_of_ble_eq_true rfl⟩ (fun H locs I => ?_)
      obtain ⟨h22, e21, f⟩ := ob f
      refine o_last S I e21 dX12_lawOf_32 (fun H locs I => ?_)
      refine lv_iinc (v := (x2 + 1)) (lv' := [(2, .int (x2 + 1)), (0, .ref (b + a0)), (1, .int x1)]) S.1 S.2.1 dX12_lawOf_33 hl (k := 2) rfl (congrArg (fun z => x2 + z) (by decide)) (by decide) rfl (fun ls hl => ?_)
      refine lv_goto (tgt := 12) S.1 S.2.1 dX12_lawOf_36 (by decide) ?_
      exact ih f I (lv_sub hl [1, 2, 0] rfl)
set_option maxHeartbeats 4000000 in
set_option maxRecDepth 100000 in
theorem T12_lawOf_0 (S : CallFix p m c cX12_lawOf 3 s args vX12_lawOf RX12) (hr : meth.sig.returnType = (some .long)) (hlo : meth.locks = false) {out : Int64 × PH} {h : PH} {a0 : Nat} {x1 : Int32} (f : F12_lawOf_0  h a0 x1 = some out) {H : Heap} {locs : List Loc} (I : ph_I D cy b A fl h s H locs) {ls : Array Slot} (hl : lv_has ls 3 [(0, .ref (b + a0)), (1, .int x1)]) : W p l e ({ frames := 2, cells := 0, slots := 0, locals := 50 } : Room) s m args below meth c H locs 0 0 (MQ below (va_Ql (fun (r : Int64) (u : PH) => (r, u) = out) (ph_B D cy b A fl) A) args s 0 0 A) (F0 m 0 ls []) := by
  unfold F12_lawOf_0 at f
  refine lv_aload_n S.1 S.2.1 dX12_lawOf_0 rfl (lv_at hl 0 rfl) ?_
  refine lv_iconst (v := 0) S.1 S.2.1 dX12_lawOf_1 (by decide) ?_
  obtain ⟨h1, e2, f⟩ := ob f
  refine o_pZ S lp12_lawOf_347 I e2 dX12_lawOf_2 (fun H locs I => ?_)
  refine lv_aload_n S.1 S.2.1 dX12_lawOf_5 rfl (lv_at hl 0 rfl) ?_
  obtain ⟨r3, e4, f⟩ := ob f
  refine o_gR S lf12_lawOf_60 I e4 dX12_lawOf_6 ?_
  refine lv_iload_n S.1 S.2.1 dX12_lawOf_9 rfl (lv_at hl 1 rfl) ?_
  obtain ⟨v6, e5, f⟩ := ob f
  refine o_iald S I e5 dX12_lawOf_10 ?_
  refine lv_istore_n (lv' := [(2, .int v6), (0, .ref (b + a0)), (1, .int x1)]) S.1 S.2.1 dX12_lawOf_11 rfl hl (by decide) rfl (fun ls hl => ?_)
  exact T12_lawOf_12 S hr hlo  1024 f I (lv_sub hl [1, 2, 0] rfl)
theorem M12_lawOf (l : Launch) (D : va_G) (cy : Nat → ClassId) (b : Nat) (A : Nat → Prop) (fl : Bool) {h : PH} {a0 : Nat} {x1 : Int32} {out : Int64 × PH} (f : F12_lawOf h a0 x1 = some out) : Met l yX12_lawOf vX12_lawOf ({ frames := 2, cells := 0, slots := 0, locals := 50 } : Room) (va_Pc [.ref (b + a0), .int x1] (ph_B D cy b A fl h)) (va_Ql (fun (r : Int64) (u : PH) => (r, u) = out) (ph_B D cy b A fl) A) 0 0 A :=
  o_met (by decide) rfl (Nat.le_of_ble_eq_true rfl) rfl (fun p e s m below meth c S hr hlo hnm ls hl I => T12_lawOf_0 S hr hlo ((gd f).2) I (lv_sub hl [0, 1] rfl))
def vX12_boundLaw : List Cond := .code yX12_boundLaw cX12_boundLaw 7 (some .int) :: TB
theorem lf12_boundLaw_57 : Fl vX12_boundLaw RX12 57 12 37 := ⟨RX12, TX12, 87, rfl, by decide, (fun w h9 => List.mem_cons_of_mem _ (wC_wsX120 w h9)), (List.mem_cons_of_mem _ wT_10_12)⟩
theorem gX12_boundLaw_X12_lawOf : GoodIn vX12_boundLaw (wsV RX12 389 RX12 yX12_lawOf vX12_lawOf) := gV_of wT_35_11 wT_35_12 wT_35_13 wT_1_5 wT_35_14
theorem lf12_boundLaw_347 : Fl vX12_boundLaw RX12 347 12 54 := ⟨RX12, TX12, 87, rfl, by decide, (fun w h9 => List.mem_cons_of_mem _ (wC_wsX120 w h9)), (List.mem_cons_of_mem _ wT_35_10)⟩
theorem cd12_boundLaw : Cd yX12_boundLaw 4 := ⟨by decide, by decide, by decide +kernel⟩
set_option maxHeartbeats 4000000 in
set_option maxRecDepth 100000 in
theorem T12_boundLaw_0 (S : CallFix p m c cX12_boundLaw 7 s args vX12_boundLaw RX12) (hr : meth.sig.returnType = (some .int)) (hlo : meth.locks = false) {out : Int32 × PH} {h : PH} {a0 : Nat} {x1 : Int32} {x2 : Int32} {x3 : Int32} {x4 : Int32} (f : F12_boundLaw_0  h a0 x1 x2 x3 x4 = some out) {H : Heap} {locs : List Loc} (I : ph_I D cy b A fl h s H locs) {ls : Array Slot} (hl : lv_has ls 7 [(0, .ref (b + a0)), (1, .int x1), (2, .int x2), (3, .int x3), (4, .int x4)]) : W p l e ({ frames := 3, cells := 0, slots := 0, locals := 72 } : Room) s m args below meth c H locs 0 0 (MQ below (va_Qi (fun (r : Int32) (u : PH) => (r, u) = out) (ph_B D cy b A fl) A) args s 0 0 A) (F0 m 0 ls []) := by
  unfold F12_boundLaw_0 at f
  refine lv_aload_n S.1 S.2.1 dX12_boundLaw_0 rfl (lv_at hl 0 rfl) ?_
  obtain ⟨r1, e2, f⟩ := ob f
  refine o_gR S lf12_boundLaw_57 I e2 dX12_boundLaw_1 ?_
  refine lv_iload_n S.1 S.2.1 dX12_boundLaw_4 rfl (lv_at hl 1 rfl) ?_
  obtain ⟨v4, e3, f⟩ := ob f
  refine o_zald S I e3 dX12_boundLaw_5 ?_
  refine lv_if_ne (tgt := 11) S.1 S.2.1 dX12_boundLaw_6 (by decide) (fun q5 => ?_) (fun q5 => ?_)
  · have f := (if_neg q5).symm.trans f
    refine lv_aload_n S.1 S.2.1 dX12_boundLaw_11 rfl (lv_at hl 0 rfl) ?_
    refine lv_iload_n S.1 S.2.1 dX12_boundLaw_12 rfl (lv_at hl 1 rfl) ?_
    obtain ⟨o6, e7, f⟩ := ob f
    refine o_Vl S (As := [.int x1]) (rest := []) (ci := 12) (M12_lawOf l D cy b A fl e7) gX12_boundLaw_X12_lawOf rfl rfl rfl cd12_lawOf ⟨Nat.le_of_ble_eq_true rfl, Nat.le_of_ble_eq_true rfl⟩ I (gd e7).1 clX12 rfl rfl hl.1 rfl (Nat.le_of_ble_eq_true rfl) dX12_boundLaw_13 ⟨Nat.le_of_ble_eq_true rfl, Nat.le_of_ble_eq_true rfl⟩ (fun H locs I => ?_)
    refine lv_lstore (lv' := [(5, .long o6.1), (0, .ref (b + a0)), (1, .int x1), (2, .int x2), (3, .int x3), (4, .int x4)]) S.1 S.2.1 dX12_boundLaw_16 hl (by decide) rfl (fun ls hl => ?_)
    refine lv_aload_n S.1 S.2.1 dX12_boundLaw_18 rfl (lv_at hl 1 rfl) ?_
    obtain ⟨v8, e9, f⟩ := ob f
    refine o_gI S lf12_boundLaw_347 I e9 dX12_boundLaw_19 ?_
    refine lv_if_eq (tgt := 27) S.1 S.2.1 dX12_boundLaw_22 (by decide) (fun q10 => ?_) (fun q10 => ?_)
    · have f := (if_pos q10).symm.trans f
      refine lv_lload S.1 S.2.1 dX12_boundLaw_27 (lv_at hl 0 rfl) ?_
      refine lv_iload_n S.1 S.2.1 dX12_boundLaw_29 rfl (lv_at hl 4 rfl) ?_
      refine lv_i2l (v := Int32.toInt64 x3) S.1 S.2.1 dX12_boundLaw_30 rfl ?_
      refine W.lcmp S.1 S.2.1 dX12_boundLaw_31 ?_
      refine lv_if_ge (tgt := 37) S.1 S.2.1 dX12_boundLaw_32 (by decide) (fun q11 => ?_) (fun q11 => ?_)
      · have f := (if_pos q11).symm.trans f
        refine lv_lload S.1 S.2.1 dX12_boundLaw_37 (lv_at hl 0 rfl) ?_
        refine lv_iload S.1 S.2.1 dX12_boundLaw_39 (lv_at hl 5 rfl) ?_
        refine lv_i2l (v := Int32.toInt64 x4) S.1 S.2.1 dX12_boundLaw_41 rfl ?_
        refine W.lcmp S.1 S.2.1 dX12_boundLaw_42 ?_
        refine lv_if_le (tgt := 51) S.1 S.2.1 dX12_boundLaw_43 (by decide) (fun q12 => ?_) (fun q12 => ?_)
        · have f := (if_pos q12).symm.trans f
          refine lv_lload S.1 S.2.1 dX12_boundLaw_51 (lv_at hl 0 rfl) ?_
          refine lv_l2i (v := Int64.toInt32 o6.1) S.1 S.2.1 dX12_boundLaw_53 rfl ?_
          exact o_iret S hr hlo I f dX12_boundLaw_54
        · have f := (if_neg q12).symm.trans f
          refine lv_iload S.1 S.2.1 dX12_boundLaw_46 (lv_at hl 5 rfl) ?_
          refine lv_goto (tgt := 54) S.1 S.2.1 dX12_boundLaw_48 (by decide) ?_
          exact o_iret S hr hlo I f dX12_boundLaw_54
      · have f := (if_neg q11).symm.trans f
        refine lv_iload_n S.1 S.2.1 dX12_boundLaw_35 rfl (lv_at hl 4 rfl) ?_
        exact o_iret S hr hlo I f dX12_boundLaw_36
    · have f := (if_neg q10).symm.trans f
      refine lv_iload_n S.1 S.2.1 dX12_boundLaw_25 rfl (lv_at hl 3 rfl) ?_
      exact o_iret S hr hlo I f dX12_boundLaw_26
  · have f := (if_pos q5).symm.trans f
    refine lv_iload_n S.1 S.2.1 dX12_boundLaw_9 rfl (lv_at hl 2 rfl) ?_
    exact o_iret S hr hlo I f dX12_boundLaw_10
theorem M12_boundLaw (l : Launch) (D : va_G) (cy : Nat → ClassId) (b : Nat) (A : Nat → Prop) (fl : Bool) {h : PH} {a0 : Nat} {x1 : Int32} {x2 : Int32} {x3 : Int32} {x4 : Int32} {out : Int32 × PH} (f : F12_boundLaw h a0 x1 x2 x3 x4 = some out) : Met l yX12_boundLaw vX12_boundLaw ({ frames := 3, cells := 0, slots := 0, locals := 72 } : Room) (va_Pc [.ref (b + a0), .int x1, .int x2, .int x3, .int x4] (ph_B D cy b A fl h)) (va_Qi (fun (r : Int32) (u : PH) => (r, u) = out) (ph_B D cy b A fl) A) 0 0 A :=
  o_met (by decide) rfl (Nat.le_of_ble_eq_true rfl) rfl (fun p e s m below meth c S hr hlo hnm ls hl I => T12_boundLaw_0 S hr hlo ((gd f).2) I (lv_sub hl [0, 1, 2, 3, 4] rfl))
def vX12_peakAt : List Cond := .code yX12_peakAt cX12_peakAt 3 (some .int) :: TB
theorem lf12_peakAt_241 : Fl vX12_peakAt RX12 241 12 12 := ⟨RX12, TX12, 87, rfl, by decide, (fun w h9 => List.mem_cons_of_mem _ (wC_wsX120 w h9)), (List.mem_cons_of_mem _ wT_12_10)⟩
theorem lf12_peakAt_24 : Fl vX12_peakAt RX12 24 12 26 := ⟨RX12, TX12, 87, rfl, by decide, (fun w h9 => List.mem_cons_of_mem _ (wC_wsX120 w h9)), (List.mem_cons_of_mem _ wT_10_1)⟩
theorem gX12_peakAt_X12_layNames : GoodIn vX12_peakAt (wsV RX12 392 RX12 yX12_layNames vX12_layNames) := gV_of wT_35_2 wT_35_3 wT_35_4 wT_1_5 wT_35_5
theorem lf12_peakAt_115 : Fl vX12_peakAt RX12 115 12 66 := ⟨RX12, TX12, 87, rfl, by decide, (fun w h9 => List.mem_cons_of_mem _ (wC_wsX120 w h9)), (List.mem_cons_of_mem _ wT_11_7)⟩
theorem gX12_peakAt_X12_boundLaw : GoodIn vX12_peakAt (wsV RX12 396 RX12 yX12_boundLaw vX12_boundLaw) := gV_of wT_35_6 wT_35_7 wT_35_8 wT_1_5 wT_35_9
theorem cd12_peakAt : Cd yX12_peakAt 1 := ⟨by decide, by decide, by decide +kernel⟩
set_option maxHeartbeats 4000000 in
set_option maxRecDepth 100000 in
theorem T12_peakAt_37 (S : CallFix p m c cX12_peakAt 3 s args vX12_peakAt RX12) (hr : meth.sig.returnType = (some .int)) (hlo : meth.locks = false) {out : Int32 × PH} {h : PH} {a0 : Nat} {s0 : Int32} {s1 : Int32} (f : F12_peakAt_37  h a0 s0 s1 = some out) {H : Heap} {locs : List Loc} (I : ph_I D cy b A fl h s H locs) {ls : Array Slot} (hl : lv_has ls 3 [(0, .ref (b + a0))]) : W p l e ({ frames := 4, cells := 0, slots := 0, locals := 98 } : Room) s m args below meth c H locs 0 0 (MQ below (va_Qi (fun (r : Int32) (u : PH) => (r, u) = out) (ph_B D cy b A fl) A) args s 0 0 A) (F0 m 37 ls [.int s0, .int s1]) := by
  unfold F12_peakAt_37 at f
  refine lv_iadd S.1 S.2.1 dX12_peakAt_37 ?_
  refine lv_istore_n (lv' := [(2, .int (s1 + s0)), (0, .ref (b + a0))]) S.1 S.2.1 dX12_peakAt_38 rfl hl (by decide) rfl (fun ls hl => ?_)
  refine lv_aload_n S.1 S.2.1 dX12_peakAt_39 rfl (lv_at hl 1 rfl) ?_
  obtain ⟨v1, e2, f⟩ := ob f
  refine o_gI S lf12_peakAt_241 I e2 dX12_peakAt_40 ?_
  refine lv_aload_n S.1 S.2.1 dX12_peakAt_43 rfl (lv_at hl 1 rfl) ?_
  obtain ⟨r3, e4, f⟩ := ob f
  refine o_gR S lf12_peakAt_24 I e4 dX12_peakAt_44 ?_
  refine lv_iconst (v := 1) S.1 S.2.1 dX12_peakAt_47 (by decide) ?_
  obtain ⟨v6, e5, f⟩ := ob f
  refine o_iald S I e5 dX12_peakAt_48 ?_
  refine lv_imul S.1 S.2.1 dX12_peakAt_49 ?_
  refine lv_iload_n S.1 S.2.1 dX12_peakAt_50 rfl (lv_at hl 0 rfl) ?_
  refine lv_if_ge (tgt := 58) S.1 S.2.1 dX12_peakAt_51 (by decide) (fun q7 => ?_) (fun q7 => ?_)
  · have f := (if_pos q7).symm.trans f
    refine lv_iload_n S.1 S.2.1 dX12_peakAt_58 rfl (lv_at hl 0 rfl) ?_
    refine lv_aload_n S.1 S.2.1 dX12_peakAt_59 rfl (lv_at hl 1 rfl) ?_
    obtain ⟨v8, e9, f⟩ := ob f
    refine o_gI S lf12_peakAt_241 I e9 dX12_peakAt_60 ?_
    refine lv_icmp_lt (tgt := 75) S.1 S.2.1 dX12_peakAt_63 (by decide) (fun q10 => ?_) (fun q10 => ?_)
    · have f := (if_pos q10).symm.trans f
      refine lv_iload_n S.1 S.2.1 dX12_peakAt_75 rfl (lv_at hl 0 rfl) ?_
      refine lv_iadd S.1 S.2.1 dX12_peakAt_76 ?_
      exact o_iret S hr hlo I f dX12_peakAt_77
    · have f := (if_neg q10).symm.trans f
      refine lv_aload_n S.1 S.2.1 dX12_peakAt_66 rfl (lv_at hl 1 rfl) ?_
      obtain ⟨v11, e12, f⟩ := ob f
      refine o_gI S lf12_peakAt_241 I e12 dX12_peakAt_67 ?_
      refine lv_iconst (v := 1) S.1 S.2.1 dX12_peakAt_70 (by decide) ?_
      refine lv_isub S.1 S.2.1 dX12_peakAt_71 ?_
      refine lv_goto (tgt := 76) S.1 S.2.1 dX12_peakAt_72 (by decide) ?_
      refine lv_iadd S.1 S.2.1 dX12_peakAt_76 ?_
      exact o_iret S hr hlo I f dX12_peakAt_77
  · have f := (if_neg q7).symm.trans f
    refine lv_iconst (v := 0) S.1 S.2.1 dX12_peakAt_54 (by decide) ?_
    refine lv_goto (tgt := 76) S.1 S.2.1 dX12_peakAt_55 (by decide) ?_
    refine lv_iadd S.1 S.2.1 dX12_peakAt_76 ?_
    exact o_iret S hr hlo I f dX12_peakAt_77
set_option maxHeartbeats 4000000 in
set_option maxRecDepth 100000 in
theorem T12_peakAt_0 (S : CallFix p m c cX12_peakAt 3 s args vX12_peakAt RX12) (hr : meth.sig.returnType = (some .int)) (hlo : meth.locks = false) {out : Int32 × PH} {h : PH} {a0 : Nat} {x1 : Int32} (f : F12_peakAt_0  h a0 x1 = some out) {H : Heap} {locs : List Loc} (I : ph_I D cy b A fl h s H locs) {ls : Array Slot} (hl : lv_has ls 3 [(0, .ref (b + a0)), (1, .int x1)]) : W p l e ({ frames := 4, cells := 0, slots := 0, locals := 98 } : Room) s m args below meth c H locs 0 0 (MQ below (va_Qi (fun (r : Int32) (u : PH) => (r, u) = out) (ph_B D cy b A fl) A) args s 0 0 A) (F0 m 0 ls []) := by
  unfold F12_peakAt_0 at f
  refine lv_aload_n S.1 S.2.1 dX12_peakAt_0 rfl (lv_at hl 0 rfl) ?_
  refine lv_iconst (v := 0) S.1 S.2.1 dX12_peakAt_1 (by decide) ?_
  refine lv_iconst (v := 0) S.1 S.2.1 dX12_peakAt_2 (by decide) ?_
  refine lv_iconst (v := 0) S.1 S.2.1 dX12_peakAt_3 (by decide) ?_
  refine lv_iconst (v := (-1)) S.1 S.2.1 dX12_peakAt_4 (by decide) ?_
  refine lv_iload_n S.1 S.2.1 dX12_peakAt_5 rfl (lv_at hl 1 rfl) ?_
  obtain ⟨o1, e2, f⟩ := ob f
  refine o_Vv S (As := [.int 0, .int 0, .int 0, .int (-1), .int x1]) (rest := []) (ci := 12) (M12_layNames l D cy b A fl e2) gX12_peakAt_X12_layNames rfl rfl rfl cd12_layNames ⟨Nat.le_of_ble_eq_true rfl, Nat.le_of_ble_eq_true rfl⟩ I (gd e2).1 clX12 rfl rfl hl.1 rfl (Nat.le_of_ble_eq_true rfl) dX12_peakAt_6 ⟨Nat.le_of_ble_eq_true rfl, Nat.le_of_ble_eq_true rfl⟩ (fun H locs I => ?_)
  refine lv_aload_n S.1 S.2.1 dX12_peakAt_9 rfl (lv_at hl 0 rfl) ?_
  obtain ⟨r3, e4, f⟩ := ob f
  refine o_gR S lf12_peakAt_24 I e4 dX12_peakAt_10 ?_
  refine lv_iconst (v := 0) S.1 S.2.1 dX12_peakAt_13 (by decide) ?_
  obtain ⟨v6, e5, f⟩ := ob f
  refine o_iald S I e5 dX12_peakAt_14 ?_
  refine lv_aload_n S.1 S.2.1 dX12_peakAt_15 rfl (lv_at hl 0 rfl) ?_
  obtain ⟨v7, e8, f⟩ := ob f
  refine o_gI S lf12_peakAt_115 I e8 dX12_peakAt_16 ?_
  refine lv_iconst (v := 2) S.1 S.2.1 dX12_peakAt_19 (by decide) ?_
  refine lv_icmp_ne (tgt := 27) S.1 S.2.1 dX12_peakAt_20 (by decide) (fun q9 => ?_) (fun q9 => ?_)
  · have f := (if_neg q9).symm.trans f
    refine lv_aload_n S.1 S.2.1 dX12_peakAt_27 rfl (lv_at hl 0 rfl) ?_
    refine lv_iconst (v := 1) S.1 S.2.1 dX12_peakAt_28 (by decide) ?_
    refine lv_iconst (v := 0) S.1 S.2.1 dX12_peakAt_29 (by decide) ?_
    refine lv_bipush (v := (-8)) S.1 S.2.1 dX12_peakAt_30 (by decide) ?_
    refine lv_bipush (v := 8) S.1 S.2.1 dX12_peakAt_32 (by decide) ?_
    obtain ⟨o10, e11, f⟩ := ob f
    refine o_Vi S (As := [.int 1, .int 0, .int (-8), .int 8]) (rest := [.int v6]) (ci := 12) (M12_boundLaw l D cy b A fl e11) gX12_peakAt_X12_boundLaw rfl rfl rfl cd12_boundLaw ⟨Nat.le_of_ble_eq_true rfl, Nat.le_of_ble_eq_true rfl⟩ I (gd e11).1 clX12 rfl rfl hl.1 rfl (Nat.le_of_ble_eq_true rfl) dX12_peakAt_34 ⟨Nat.le_of_ble_eq_true rfl, Nat.le_of_ble_eq_true rfl⟩ (fun H locs I => ?_)
    exact T12_peakAt_37 S hr hlo  f I (lv_sub hl [0] rfl)
  · have f := (if_pos q9).symm.trans f
    refine lv_iconst (v := 0) S.1 S.2.1 dX12_peakAt_23 (by decide) ?_
    refine lv_goto (tgt := 37) S.1 S.2.1 dX12_peakAt_24 (by decide) ?_
    exact T12_peakAt_37 S hr hlo  f I (lv_sub hl [0] rfl)
theorem M12_peakAt (l : Launch) (D : va_G) (cy : Nat → ClassId) (b : Nat) (A : Nat → Prop) (fl : Bool) {h : PH} {a0 : Nat} {x1 : Int32} {out : Int32 × PH} (f : F12_peakAt h a0 x1 = some out) : Met l yX12_peakAt vX12_peakAt ({ frames := 4, cells := 0, slots := 0, locals := 98 } : Room) (va_Pc [.ref (b + a0), .int x1] (ph_B D cy b A fl h)) (va_Qi (fun (r : Int32) (u : PH) => (r, u) = out) (ph_B D cy b A fl) A) 0 0 A :=
  o_met (by decide) rfl (Nat.le_of_ble_eq_true rfl) rfl (fun p e s m below meth c S hr hlo hnm ls hl I => T12_peakAt_0 S hr hlo ((gd f).2) I (lv_sub hl [0, 1] rfl))
def vX12_far : List Cond := .code yX12_far cX12_far 5 (some .int) :: TB
theorem lf12_far_241 : Fl vX12_far RX12 241 12 12 := ⟨RX12, TX12, 87, rfl, by decide, (fun w h9 => List.mem_cons_of_mem _ (wC_wsX120 w h9)), (List.mem_cons_of_mem _ wT_12_10)⟩
theorem cd12_far : Cd yX12_far 2 := ⟨by decide, by decide, by decide +kernel⟩
set_option maxHeartbeats 4000000 in
set_option maxRecDepth 100000 in
theorem T12_far_39 (S : CallFix p m c cX12_far 5 s args vX12_far RX12) (hr : meth.sig.returnType = (some .int)) (hlo : meth.locks = false) {out : Int32 × PH} {h : PH} {x4 : Int32} {s0 : Int32} (f : F12_far_39  h x4 s0 = some out) {H : Heap} {locs : List Loc} (I : ph_I D cy b A fl h s H locs) {ls : Array Slot} (hl : lv_has ls 5 [(4, .int x4)]) : W p l e ({ frames := 0, cells := 0, slots := 0, locals := 0 } : Room) s m args below meth c H locs 0 0 (MQ below (va_Qi (fun (r : Int32) (u : PH) => (r, u) = out) (ph_B D cy b A fl) A) args s 0 0 A) (F0 m 39 ls [.int s0]) := by
  unfold F12_far_39 at f
  refine lv_iload S.1 S.2.1 dX12_far_39 (lv_at hl 0 rfl) ?_
  refine lv_if_ge (tgt := 50) S.1 S.2.1 dX12_far_41 (by decide) (fun q1 => ?_) (fun q1 => ?_)
  · have f := (if_pos q1).symm.trans f
    refine lv_iload S.1 S.2.1 dX12_far_50 (lv_at hl 0 rfl) ?_
    refine lv_iadd S.1 S.2.1 dX12_far_52 ?_
    exact o_iret S hr hlo I f dX12_far_53
  · have f := (if_neg q1).symm.trans f
    refine lv_iload S.1 S.2.1 dX12_far_44 (lv_at hl 0 rfl) ?_
    refine lv_ineg S.1 S.2.1 dX12_far_46 ?_
    refine lv_goto (tgt := 52) S.1 S.2.1 dX12_far_47 (by decide) ?_
    refine lv_iadd S.1 S.2.1 dX12_far_52 ?_
    exact o_iret S hr hlo I f dX12_far_53
set_option maxHeartbeats 4000000 in
set_option maxRecDepth 100000 in
theorem T12_far_0 (S : CallFix p m c cX12_far 5 s args vX12_far RX12) (hr : meth.sig.returnType = (some .int)) (hlo : meth.locks = false) {out : Int32 × PH} {h : PH} {a0 : Nat} {x1 : Int32} {x2 : Int32} (f : F12_far_0  h a0 x1 x2 = some out) {H : Heap} {locs : List Loc} (I : ph_I D cy b A fl h s H locs) {ls : Array Slot} (hl : lv_has ls 5 [(0, .ref (b + a0)), (1, .int x1), (2, .int x2)]) : W p l e ({ frames := 0, cells := 0, slots := 0, locals := 0 } : Room) s m args below meth c H locs 0 0 (MQ below (va_Qi (fun (r : Int32) (u : PH) => (r, u) = out) (ph_B D cy b A fl) A) args s 0 0 A) (F0 m 0 ls []) := by
  unfold F12_far_0 at f
  refine lv_iload_n S.1 S.2.1 dX12_far_0 rfl (lv_at hl 1 rfl) ?_
  refine lv_aload_n S.1 S.2.1 dX12_far_1 rfl (lv_at hl 0 rfl) ?_
  obtain ⟨v1, e2, f⟩ := ob f
  refine o_gI S lf12_far_241 I e2 dX12_far_2 ?_
  have q3 : ¬ v1 = 0 := fun q => by rw [if_pos q] at f; cases f
  have f := (if_neg q3).symm.trans f
  refine lv_irem S.1 S.2.1 dX12_far_5 q3 ?_
  refine lv_iload_n S.1 S.2.1 dX12_far_6 rfl (lv_at hl 2 rfl) ?_
  refine lv_aload_n S.1 S.2.1 dX12_far_7 rfl (lv_at hl 0 rfl) ?_
  obtain ⟨v4, e5, f⟩ := ob f
  refine o_gI S lf12_far_241 I e5 dX12_far_8 ?_
  have q6 : ¬ v4 = 0 := fun q => by rw [if_pos q] at f; cases f
  have f := (if_neg q6).symm.trans f
  refine lv_irem S.1 S.2.1 dX12_far_11 q6 ?_
  refine lv_isub S.1 S.2.1 dX12_far_12 ?_
  refine lv_istore_n (lv' := [(3, .int ((x1 - x1 / v1 * v1) - (x2 - x2 / v4 * v4))), (0, .ref (b + a0)), (1, .int x1), (2, .int x2)]) S.1 S.2.1 dX12_far_13 rfl hl (by decide) rfl (fun ls hl => ?_)
  refine lv_iload_n S.1 S.2.1 dX12_far_14 rfl (lv_at hl 2 rfl) ?_
  refine lv_aload_n S.1 S.2.1 dX12_far_15 rfl (lv_at hl 1 rfl) ?_
  obtain ⟨v7, e8, f⟩ := ob f
  refine o_gI S lf12_far_241 I e8 dX12_far_16 ?_
  have q9 : ¬ v7 = 0 := fun q => by rw [if_pos q] at f; cases f
  have f := (if_neg q9).symm.trans f
  refine lv_idiv S.1 S.2.1 dX12_far_19 q9 ?_
  refine lv_iload_n S.1 S.2.1 dX12_far_20 rfl (lv_at hl 3 rfl) ?_
  refine lv_aload_n S.1 S.2.1 dX12_far_21 rfl (lv_at hl 1 rfl) ?_
  obtain ⟨v10, e11, f⟩ := ob f
  refine o_gI S lf12_far_241 I e11 dX12_far_22 ?_
  have q12 : ¬ v10 = 0 := fun q => by rw [if_pos q] at f; cases f
  have f := (if_neg q12).symm.trans f
  refine lv_idiv S.1 S.2.1 dX12_far_25 q12 ?_
  refine lv_isub S.1 S.2.1 dX12_far_26 ?_
  refine lv_istore (lv' := [(4, .int ((x1 / v7) - (x2 / v10))), (3, .int ((x1 - x1 / v1 * v1) - (x2 - x2 / v4 * v4))), (0, .ref (b + a0)), (1, .int x1), (2, .int x2)]) S.1 S.2.1 dX12_far_27 hl (by decide) rfl (fun ls hl => ?_)
  refine lv_iload_n S.1 S.2.1 dX12_far_29 rfl (lv_at hl 1 rfl) ?_
  refine lv_if_ge (tgt := 38) S.1 S.2.1 dX12_far_30 (by decide) (fun q13 => ?_) (fun q13 => ?_)
  · have f := (if_pos q13).symm.trans f
    refine lv_iload_n S.1 S.2.1 dX12_far_38 rfl (lv_at hl 1 rfl) ?_
    exact T12_far_39 S hr hlo  f I (lv_sub hl [0] rfl)
  · have f := (if_neg q13).symm.trans f
    refine lv_iload_n S.1 S.2.1 dX12_far_33 rfl (lv_at hl 1 rfl) ?_
    refine lv_ineg S.1 S.2.1 dX12_far_34 ?_
    refine lv_goto (tgt := 39) S.1 S.2.1 dX12_far_35 (by decide) ?_
    exact T12_far_39 S hr hlo  f I (lv_sub hl [0] rfl)
theorem M12_far (l : Launch) (D : va_G) (cy : Nat → ClassId) (b : Nat) (A : Nat → Prop) (fl : Bool) {h : PH} {a0 : Nat} {x1 : Int32} {x2 : Int32} {out : Int32 × PH} (f : F12_far h a0 x1 x2 = some out) : Met l yX12_far vX12_far ({ frames := 0, cells := 0, slots := 0, locals := 0 } : Room) (va_Pc [.ref (b + a0), .int x1, .int x2] (ph_B D cy b A fl h)) (va_Qi (fun (r : Int32) (u : PH) => (r, u) = out) (ph_B D cy b A fl) A) 0 0 A :=
  o_met (by decide) rfl (Nat.le_of_ble_eq_true rfl) rfl (fun p e s m below meth c S hr hlo hnm ls hl I => T12_far_0 S hr hlo ((gd f).2) I (lv_sub hl [0, 1, 2] rfl))
end
theorem zd_dX12_boardOf_0 : sg (cX12_boardOf.data.toList.drop 0) [[42], [180, 0, 115], [6], [160, 0, 8], [16, 9], [167, 0, 9], [42], [180, 0, 33], [27], [46], [172]] = true := by decide +kernel
theorem dX12_boardOf_0 : decode cX12_boardOf 0 = .ok (.aload_n 0, 1) := dc_42 (sg_at zd_dX12_boardOf_0 0 rfl rfl)
theorem dX12_boardOf_1 : decode cX12_boardOf 1 = .ok (.getfield 115, 3) := dc_180 (sg_at zd_dX12_boardOf_0 1 rfl rfl) rfl
theorem dX12_boardOf_4 : decode cX12_boardOf 4 = .ok (.iconst 3, 1) := dc_6 (sg_at zd_dX12_boardOf_0 2 rfl rfl)
theorem dX12_boardOf_5 : decode cX12_boardOf 5 = .ok (.if_icmp .ne 8, 3) := dc_160 (sg_at zd_dX12_boardOf_0 3 rfl rfl) rfl
theorem dX12_boardOf_8 : decode cX12_boardOf 8 = .ok (.bipush 9, 2) := dc_16 (sg_at zd_dX12_boardOf_0 4 rfl rfl) rfl
theorem dX12_boardOf_10 : decode cX12_boardOf 10 = .ok (.goto 9, 3) := dc_167 (sg_at zd_dX12_boardOf_0 5 rfl rfl) rfl
theorem dX12_boardOf_13 : decode cX12_boardOf 13 = .ok (.aload_n 0, 1) := dc_42 (sg_at zd_dX12_boardOf_0 6 rfl rfl)
theorem dX12_boardOf_14 : decode cX12_boardOf 14 = .ok (.getfield 33, 3) := dc_180 (sg_at zd_dX12_boardOf_0 7 rfl rfl) rfl
theorem dX12_boardOf_17 : decode cX12_boardOf 17 = .ok (.iload_n 1, 1) := dc_27 (sg_at zd_dX12_boardOf_0 8 rfl rfl)
theorem dX12_boardOf_18 : decode cX12_boardOf 18 = .ok (.iaload, 1) := dc_46 (sg_at zd_dX12_boardOf_0 9 rfl rfl)
theorem dX12_boardOf_19 : decode cX12_boardOf 19 = .ok (.ireturn, 1) := dc_172 (sg_at zd_dX12_boardOf_0 10 rfl rfl)
theorem zd_dX12_layCatch_0 : sg (cX12_layCatch.data.toList.drop 0) [[42], [42], [180, 0, 48], [28], [46], [182, 1, 144], [54, 4], [42], [29], [21, 4], [182, 1, 147], [54, 5], [42], [21, 5], [29], [42], [180, 0, 241], [108], [21, 4], [42]] = true := by decide +kernel
theorem dX12_layCatch_0 : decode cX12_layCatch 0 = .ok (.aload_n 0, 1) := dc_42 (sg_at zd_dX12_layCatch_0 0 rfl rfl)
theorem dX12_layCatch_1 : decode cX12_layCatch 1 = .ok (.aload_n 0, 1) := dc_42 (sg_at zd_dX12_layCatch_0 1 rfl rfl)
theorem dX12_layCatch_2 : decode cX12_layCatch 2 = .ok (.getfield 48, 3) := dc_180 (sg_at zd_dX12_layCatch_0 2 rfl rfl) rfl
theorem dX12_layCatch_5 : decode cX12_layCatch 5 = .ok (.iload_n 2, 1) := dc_28 (sg_at zd_dX12_layCatch_0 3 rfl rfl)
theorem dX12_layCatch_6 : decode cX12_layCatch 6 = .ok (.iaload, 1) := dc_46 (sg_at zd_dX12_layCatch_0 4 rfl rfl)
theorem dX12_layCatch_7 : decode cX12_layCatch 7 = .ok (.invokevirtual 400, 3) := dc_182 (sg_at zd_dX12_layCatch_0 5 rfl rfl) rfl
theorem dX12_layCatch_10 : decode cX12_layCatch 10 = .ok (.istore 4, 2) := dc_54 (sg_at zd_dX12_layCatch_0 6 rfl rfl)
theorem dX12_layCatch_12 : decode cX12_layCatch 12 = .ok (.aload_n 0, 1) := dc_42 (sg_at zd_dX12_layCatch_0 7 rfl rfl)
theorem dX12_layCatch_13 : decode cX12_layCatch 13 = .ok (.iload_n 3, 1) := dc_29 (sg_at zd_dX12_layCatch_0 8 rfl rfl)
theorem dX12_layCatch_14 : decode cX12_layCatch 14 = .ok (.iload 4, 2) := dc_21 (sg_at zd_dX12_layCatch_0 9 rfl rfl)
theorem dX12_layCatch_16 : decode cX12_layCatch 16 = .ok (.invokevirtual 403, 3) := dc_182 (sg_at zd_dX12_layCatch_0 10 rfl rfl) rfl
theorem dX12_layCatch_19 : decode cX12_layCatch 19 = .ok (.istore 5, 2) := dc_54 (sg_at zd_dX12_layCatch_0 11 rfl rfl)
theorem dX12_layCatch_21 : decode cX12_layCatch 21 = .ok (.aload_n 0, 1) := dc_42 (sg_at zd_dX12_layCatch_0 12 rfl rfl)
theorem dX12_layCatch_22 : decode cX12_layCatch 22 = .ok (.iload 5, 2) := dc_21 (sg_at zd_dX12_layCatch_0 13 rfl rfl)
theorem dX12_layCatch_24 : decode cX12_layCatch 24 = .ok (.iload_n 3, 1) := dc_29 (sg_at zd_dX12_layCatch_0 14 rfl rfl)
theorem dX12_layCatch_25 : decode cX12_layCatch 25 = .ok (.aload_n 0, 1) := dc_42 (sg_at zd_dX12_layCatch_0 15 rfl rfl)
theorem dX12_layCatch_26 : decode cX12_layCatch 26 = .ok (.getfield 241, 3) := dc_180 (sg_at zd_dX12_layCatch_0 16 rfl rfl) rfl
theorem dX12_layCatch_29 : decode cX12_layCatch 29 = .ok (.idiv, 1) := dc_108 (sg_at zd_dX12_layCatch_0 17 rfl rfl)
theorem dX12_layCatch_30 : decode cX12_layCatch 30 = .ok (.iload 4, 2) := dc_21 (sg_at zd_dX12_layCatch_0 18 rfl rfl)
theorem dX12_layCatch_32 : decode cX12_layCatch 32 = .ok (.aload_n 0, 1) := dc_42 (sg_at zd_dX12_layCatch_0 19 rfl rfl)
theorem zd_dX12_layCatch_33 : sg (cX12_layCatch.data.toList.drop 33) [[180, 0, 241], [108], [100], [42], [27], [182, 1, 150], [28], [42], [180, 0, 48], [28], [46], [182, 1, 136], [21, 5], [172]] = true := by decide +kernel
theorem dX12_layCatch_33 : decode cX12_layCatch 33 = .ok (.getfield 241, 3) := dc_180 (sg_at zd_dX12_layCatch_33 0 rfl rfl) rfl
theorem dX12_layCatch_36 : decode cX12_layCatch 36 = .ok (.idiv, 1) := dc_108 (sg_at zd_dX12_layCatch_33 1 rfl rfl)
theorem dX12_layCatch_37 : decode cX12_layCatch 37 = .ok (.isub, 1) := dc_100 (sg_at zd_dX12_layCatch_33 2 rfl rfl)
theorem dX12_layCatch_38 : decode cX12_layCatch 38 = .ok (.aload_n 0, 1) := dc_42 (sg_at zd_dX12_layCatch_33 3 rfl rfl)
theorem dX12_layCatch_39 : decode cX12_layCatch 39 = .ok (.iload_n 1, 1) := dc_27 (sg_at zd_dX12_layCatch_33 4 rfl rfl)
theorem dX12_layCatch_40 : decode cX12_layCatch 40 = .ok (.invokevirtual 406, 3) := dc_182 (sg_at zd_dX12_layCatch_33 5 rfl rfl) rfl
theorem dX12_layCatch_43 : decode cX12_layCatch 43 = .ok (.iload_n 2, 1) := dc_28 (sg_at zd_dX12_layCatch_33 6 rfl rfl)
theorem dX12_layCatch_44 : decode cX12_layCatch 44 = .ok (.aload_n 0, 1) := dc_42 (sg_at zd_dX12_layCatch_33 7 rfl rfl)
theorem dX12_layCatch_45 : decode cX12_layCatch 45 = .ok (.getfield 48, 3) := dc_180 (sg_at zd_dX12_layCatch_33 8 rfl rfl) rfl
theorem dX12_layCatch_48 : decode cX12_layCatch 48 = .ok (.iload_n 2, 1) := dc_28 (sg_at zd_dX12_layCatch_33 9 rfl rfl)
theorem dX12_layCatch_49 : decode cX12_layCatch 49 = .ok (.iaload, 1) := dc_46 (sg_at zd_dX12_layCatch_33 10 rfl rfl)
theorem dX12_layCatch_50 : decode cX12_layCatch 50 = .ok (.invokevirtual 392, 3) := dc_182 (sg_at zd_dX12_layCatch_33 11 rfl rfl) rfl
theorem dX12_layCatch_53 : decode cX12_layCatch 53 = .ok (.iload 5, 2) := dc_21 (sg_at zd_dX12_layCatch_33 12 rfl rfl)
theorem dX12_layCatch_55 : decode cX12_layCatch 55 = .ok (.ireturn, 1) := dc_172 (sg_at zd_dX12_layCatch_33 13 rfl rfl)
theorem zd_dX12_oddsOf_0 : sg (cX12_oddsOf.data.toList.drop 0) [[42], [27], [28], [29], [182, 1, 153], [54, 4], [42], [3], [21, 4], [8], [162, 0, 14], [16, 100], [16, 20], [21, 4], [104], [100], [167, 0, 4], [3], [3], [16, 100]] = true := by decide +kernel
theorem dX12_oddsOf_0 : decode cX12_oddsOf 0 = .ok (.aload_n 0, 1) := dc_42 (sg_at zd_dX12_oddsOf_0 0 rfl rfl)
theorem dX12_oddsOf_1 : decode cX12_oddsOf 1 = .ok (.iload_n 1, 1) := dc_27 (sg_at zd_dX12_oddsOf_0 1 rfl rfl)
theorem dX12_oddsOf_2 : decode cX12_oddsOf 2 = .ok (.iload_n 2, 1) := dc_28 (sg_at zd_dX12_oddsOf_0 2 rfl rfl)
theorem dX12_oddsOf_3 : decode cX12_oddsOf 3 = .ok (.iload_n 3, 1) := dc_29 (sg_at zd_dX12_oddsOf_0 3 rfl rfl)
theorem dX12_oddsOf_4 : decode cX12_oddsOf 4 = .ok (.invokevirtual 409, 3) := dc_182 (sg_at zd_dX12_oddsOf_0 4 rfl rfl) rfl
theorem dX12_oddsOf_7 : decode cX12_oddsOf 7 = .ok (.istore 4, 2) := dc_54 (sg_at zd_dX12_oddsOf_0 5 rfl rfl)
theorem dX12_oddsOf_9 : decode cX12_oddsOf 9 = .ok (.aload_n 0, 1) := dc_42 (sg_at zd_dX12_oddsOf_0 6 rfl rfl)
theorem dX12_oddsOf_10 : decode cX12_oddsOf 10 = .ok (.iconst 0, 1) := dc_3 (sg_at zd_dX12_oddsOf_0 7 rfl rfl)
theorem dX12_oddsOf_11 : decode cX12_oddsOf 11 = .ok (.iload 4, 2) := dc_21 (sg_at zd_dX12_oddsOf_0 8 rfl rfl)
theorem dX12_oddsOf_13 : decode cX12_oddsOf 13 = .ok (.iconst 5, 1) := dc_8 (sg_at zd_dX12_oddsOf_0 9 rfl rfl)
theorem dX12_oddsOf_14 : decode cX12_oddsOf 14 = .ok (.if_icmp .ge 14, 3) := dc_162 (sg_at zd_dX12_oddsOf_0 10 rfl rfl) rfl
theorem dX12_oddsOf_17 : decode cX12_oddsOf 17 = .ok (.bipush 100, 2) := dc_16 (sg_at zd_dX12_oddsOf_0 11 rfl rfl) rfl
theorem dX12_oddsOf_19 : decode cX12_oddsOf 19 = .ok (.bipush 20, 2) := dc_16 (sg_at zd_dX12_oddsOf_0 12 rfl rfl) rfl
theorem dX12_oddsOf_21 : decode cX12_oddsOf 21 = .ok (.iload 4, 2) := dc_21 (sg_at zd_dX12_oddsOf_0 13 rfl rfl)
theorem dX12_oddsOf_23 : decode cX12_oddsOf 23 = .ok (.imul, 1) := dc_104 (sg_at zd_dX12_oddsOf_0 14 rfl rfl)
theorem dX12_oddsOf_24 : decode cX12_oddsOf 24 = .ok (.isub, 1) := dc_100 (sg_at zd_dX12_oddsOf_0 15 rfl rfl)
theorem dX12_oddsOf_25 : decode cX12_oddsOf 25 = .ok (.goto 4, 3) := dc_167 (sg_at zd_dX12_oddsOf_0 16 rfl rfl) rfl
theorem dX12_oddsOf_28 : decode cX12_oddsOf 28 = .ok (.iconst 0, 1) := dc_3 (sg_at zd_dX12_oddsOf_0 17 rfl rfl)
theorem dX12_oddsOf_29 : decode cX12_oddsOf 29 = .ok (.iconst 0, 1) := dc_3 (sg_at zd_dX12_oddsOf_0 18 rfl rfl)
theorem dX12_oddsOf_30 : decode cX12_oddsOf 30 = .ok (.bipush 100, 2) := dc_16 (sg_at zd_dX12_oddsOf_0 19 rfl rfl) rfl
theorem zd_dX12_oddsOf_32 : sg (cX12_oddsOf.data.toList.drop 32) [[182, 1, 140], [172]] = true := by decide +kernel
theorem dX12_oddsOf_32 : decode cX12_oddsOf 32 = .ok (.invokevirtual 396, 3) := dc_182 (sg_at zd_dX12_oddsOf_32 0 rfl rfl) rfl
theorem dX12_oddsOf_35 : decode cX12_oddsOf 35 = .ok (.ireturn, 1) := dc_172 (sg_at zd_dX12_oddsOf_32 1 rfl rfl)
theorem zd_dX12_isGoing_0 : sg (cX12_isGoing.data.toList.drop 0) [[42], [180, 0, 97], [8], [27], [104], [28], [96], [46], [154, 0, 42], [42], [180, 0, 115], [4], [160, 0, 11], [42], [180, 1, 174], [28], [159, 0, 26], [42], [28], [29]] = true := by decide +kernel
theorem dX12_isGoing_0 : decode cX12_isGoing 0 = .ok (.aload_n 0, 1) := dc_42 (sg_at zd_dX12_isGoing_0 0 rfl rfl)
theorem dX12_isGoing_1 : decode cX12_isGoing 1 = .ok (.getfield 97, 3) := dc_180 (sg_at zd_dX12_isGoing_0 1 rfl rfl) rfl
theorem dX12_isGoing_4 : decode cX12_isGoing 4 = .ok (.iconst 5, 1) := dc_8 (sg_at zd_dX12_isGoing_0 2 rfl rfl)
theorem dX12_isGoing_5 : decode cX12_isGoing 5 = .ok (.iload_n 1, 1) := dc_27 (sg_at zd_dX12_isGoing_0 3 rfl rfl)
theorem dX12_isGoing_6 : decode cX12_isGoing 6 = .ok (.imul, 1) := dc_104 (sg_at zd_dX12_isGoing_0 4 rfl rfl)
theorem dX12_isGoing_7 : decode cX12_isGoing 7 = .ok (.iload_n 2, 1) := dc_28 (sg_at zd_dX12_isGoing_0 5 rfl rfl)
theorem dX12_isGoing_8 : decode cX12_isGoing 8 = .ok (.iadd, 1) := dc_96 (sg_at zd_dX12_isGoing_0 6 rfl rfl)
theorem dX12_isGoing_9 : decode cX12_isGoing 9 = .ok (.iaload, 1) := dc_46 (sg_at zd_dX12_isGoing_0 7 rfl rfl)
theorem dX12_isGoing_10 : decode cX12_isGoing 10 = .ok (.ifCond .ne 42, 3) := dc_154 (sg_at zd_dX12_isGoing_0 8 rfl rfl) rfl
theorem dX12_isGoing_13 : decode cX12_isGoing 13 = .ok (.aload_n 0, 1) := dc_42 (sg_at zd_dX12_isGoing_0 9 rfl rfl)
theorem dX12_isGoing_14 : decode cX12_isGoing 14 = .ok (.getfield 115, 3) := dc_180 (sg_at zd_dX12_isGoing_0 10 rfl rfl) rfl
theorem dX12_isGoing_17 : decode cX12_isGoing 17 = .ok (.iconst 1, 1) := dc_4 (sg_at zd_dX12_isGoing_0 11 rfl rfl)
theorem dX12_isGoing_18 : decode cX12_isGoing 18 = .ok (.if_icmp .ne 11, 3) := dc_160 (sg_at zd_dX12_isGoing_0 12 rfl rfl) rfl
theorem dX12_isGoing_21 : decode cX12_isGoing 21 = .ok (.aload_n 0, 1) := dc_42 (sg_at zd_dX12_isGoing_0 13 rfl rfl)
theorem dX12_isGoing_22 : decode cX12_isGoing 22 = .ok (.getfield 430, 3) := dc_180 (sg_at zd_dX12_isGoing_0 14 rfl rfl) rfl
theorem dX12_isGoing_25 : decode cX12_isGoing 25 = .ok (.iload_n 2, 1) := dc_28 (sg_at zd_dX12_isGoing_0 15 rfl rfl)
theorem dX12_isGoing_26 : decode cX12_isGoing 26 = .ok (.if_icmp .eq 26, 3) := dc_159 (sg_at zd_dX12_isGoing_0 16 rfl rfl) rfl
theorem dX12_isGoing_29 : decode cX12_isGoing 29 = .ok (.aload_n 0, 1) := dc_42 (sg_at zd_dX12_isGoing_0 17 rfl rfl)
theorem dX12_isGoing_30 : decode cX12_isGoing 30 = .ok (.iload_n 2, 1) := dc_28 (sg_at zd_dX12_isGoing_0 18 rfl rfl)
theorem dX12_isGoing_31 : decode cX12_isGoing 31 = .ok (.iload_n 3, 1) := dc_29 (sg_at zd_dX12_isGoing_0 19 rfl rfl)
theorem zd_dX12_isGoing_32 : sg (cX12_isGoing.data.toList.drop 32) [[42], [180, 0, 88], [8], [27], [104], [28], [96], [46], [182, 1, 169], [158, 0, 7], [4], [167, 0, 4], [3], [172]] = true := by decide +kernel
theorem dX12_isGoing_32 : decode cX12_isGoing 32 = .ok (.aload_n 0, 1) := dc_42 (sg_at zd_dX12_isGoing_32 0 rfl rfl)
theorem dX12_isGoing_33 : decode cX12_isGoing 33 = .ok (.getfield 88, 3) := dc_180 (sg_at zd_dX12_isGoing_32 1 rfl rfl) rfl
theorem dX12_isGoing_36 : decode cX12_isGoing 36 = .ok (.iconst 5, 1) := dc_8 (sg_at zd_dX12_isGoing_32 2 rfl rfl)
theorem dX12_isGoing_37 : decode cX12_isGoing 37 = .ok (.iload_n 1, 1) := dc_27 (sg_at zd_dX12_isGoing_32 3 rfl rfl)
theorem dX12_isGoing_38 : decode cX12_isGoing 38 = .ok (.imul, 1) := dc_104 (sg_at zd_dX12_isGoing_32 4 rfl rfl)
theorem dX12_isGoing_39 : decode cX12_isGoing 39 = .ok (.iload_n 2, 1) := dc_28 (sg_at zd_dX12_isGoing_32 5 rfl rfl)
theorem dX12_isGoing_40 : decode cX12_isGoing 40 = .ok (.iadd, 1) := dc_96 (sg_at zd_dX12_isGoing_32 6 rfl rfl)
theorem dX12_isGoing_41 : decode cX12_isGoing 41 = .ok (.iaload, 1) := dc_46 (sg_at zd_dX12_isGoing_32 7 rfl rfl)
theorem dX12_isGoing_42 : decode cX12_isGoing 42 = .ok (.invokevirtual 425, 3) := dc_182 (sg_at zd_dX12_isGoing_32 8 rfl rfl) rfl
theorem dX12_isGoing_45 : decode cX12_isGoing 45 = .ok (.ifCond .le 7, 3) := dc_158 (sg_at zd_dX12_isGoing_32 9 rfl rfl) rfl
theorem dX12_isGoing_48 : decode cX12_isGoing 48 = .ok (.iconst 1, 1) := dc_4 (sg_at zd_dX12_isGoing_32 10 rfl rfl)
theorem dX12_isGoing_49 : decode cX12_isGoing 49 = .ok (.goto 4, 3) := dc_167 (sg_at zd_dX12_isGoing_32 11 rfl rfl) rfl
theorem dX12_isGoing_52 : decode cX12_isGoing 52 = .ok (.iconst 0, 1) := dc_3 (sg_at zd_dX12_isGoing_32 12 rfl rfl)
theorem dX12_isGoing_53 : decode cX12_isGoing 53 = .ok (.ireturn, 1) := dc_172 (sg_at zd_dX12_isGoing_32 13 rfl rfl)
theorem zd_dX12_keyOf_0 : sg (cX12_keyOf.data.toList.drop 0) [[42], [180, 0, 88], [8], [27], [104], [28], [96], [46], [54, 5], [42], [21, 5], [42], [42], [180, 0, 48], [29], [46], [182, 1, 144], [182, 1, 147], [54, 6], [21, 4]] = true := by decide +kernel
theorem dX12_keyOf_0 : decode cX12_keyOf 0 = .ok (.aload_n 0, 1) := dc_42 (sg_at zd_dX12_keyOf_0 0 rfl rfl)
theorem dX12_keyOf_1 : decode cX12_keyOf 1 = .ok (.getfield 88, 3) := dc_180 (sg_at zd_dX12_keyOf_0 1 rfl rfl) rfl
theorem dX12_keyOf_4 : decode cX12_keyOf 4 = .ok (.iconst 5, 1) := dc_8 (sg_at zd_dX12_keyOf_0 2 rfl rfl)
theorem dX12_keyOf_5 : decode cX12_keyOf 5 = .ok (.iload_n 1, 1) := dc_27 (sg_at zd_dX12_keyOf_0 3 rfl rfl)
theorem dX12_keyOf_6 : decode cX12_keyOf 6 = .ok (.imul, 1) := dc_104 (sg_at zd_dX12_keyOf_0 4 rfl rfl)
theorem dX12_keyOf_7 : decode cX12_keyOf 7 = .ok (.iload_n 2, 1) := dc_28 (sg_at zd_dX12_keyOf_0 5 rfl rfl)
theorem dX12_keyOf_8 : decode cX12_keyOf 8 = .ok (.iadd, 1) := dc_96 (sg_at zd_dX12_keyOf_0 6 rfl rfl)
theorem dX12_keyOf_9 : decode cX12_keyOf 9 = .ok (.iaload, 1) := dc_46 (sg_at zd_dX12_keyOf_0 7 rfl rfl)
theorem dX12_keyOf_10 : decode cX12_keyOf 10 = .ok (.istore 5, 2) := dc_54 (sg_at zd_dX12_keyOf_0 8 rfl rfl)
theorem dX12_keyOf_12 : decode cX12_keyOf 12 = .ok (.aload_n 0, 1) := dc_42 (sg_at zd_dX12_keyOf_0 9 rfl rfl)
theorem dX12_keyOf_13 : decode cX12_keyOf 13 = .ok (.iload 5, 2) := dc_21 (sg_at zd_dX12_keyOf_0 10 rfl rfl)
theorem dX12_keyOf_15 : decode cX12_keyOf 15 = .ok (.aload_n 0, 1) := dc_42 (sg_at zd_dX12_keyOf_0 11 rfl rfl)
theorem dX12_keyOf_16 : decode cX12_keyOf 16 = .ok (.aload_n 0, 1) := dc_42 (sg_at zd_dX12_keyOf_0 12 rfl rfl)
theorem dX12_keyOf_17 : decode cX12_keyOf 17 = .ok (.getfield 48, 3) := dc_180 (sg_at zd_dX12_keyOf_0 13 rfl rfl) rfl
theorem dX12_keyOf_20 : decode cX12_keyOf 20 = .ok (.iload_n 3, 1) := dc_29 (sg_at zd_dX12_keyOf_0 14 rfl rfl)
theorem dX12_keyOf_21 : decode cX12_keyOf 21 = .ok (.iaload, 1) := dc_46 (sg_at zd_dX12_keyOf_0 15 rfl rfl)
theorem dX12_keyOf_22 : decode cX12_keyOf 22 = .ok (.invokevirtual 400, 3) := dc_182 (sg_at zd_dX12_keyOf_0 16 rfl rfl) rfl
theorem dX12_keyOf_25 : decode cX12_keyOf 25 = .ok (.invokevirtual 403, 3) := dc_182 (sg_at zd_dX12_keyOf_0 17 rfl rfl) rfl
theorem dX12_keyOf_28 : decode cX12_keyOf 28 = .ok (.istore 6, 2) := dc_54 (sg_at zd_dX12_keyOf_0 18 rfl rfl)
theorem dX12_keyOf_30 : decode cX12_keyOf 30 = .ok (.iload 4, 2) := dc_21 (sg_at zd_dX12_keyOf_0 19 rfl rfl)
theorem zd_dX12_keyOf_32 : sg (cX12_keyOf.data.toList.drop 32) [[154, 0, 6], [21, 6], [172], [21, 4], [4], [160, 0, 14], [42], [180, 0, 91], [8], [27], [104], [28], [96], [46], [172], [21, 4], [6], [160, 0, 12], [21, 5], [42]] = true := by decide +kernel
theorem dX12_keyOf_32 : decode cX12_keyOf 32 = .ok (.ifCond .ne 6, 3) := dc_154 (sg_at zd_dX12_keyOf_32 0 rfl rfl) rfl
theorem dX12_keyOf_35 : decode cX12_keyOf 35 = .ok (.iload 6, 2) := dc_21 (sg_at zd_dX12_keyOf_32 1 rfl rfl)
theorem dX12_keyOf_37 : decode cX12_keyOf 37 = .ok (.ireturn, 1) := dc_172 (sg_at zd_dX12_keyOf_32 2 rfl rfl)
theorem dX12_keyOf_38 : decode cX12_keyOf 38 = .ok (.iload 4, 2) := dc_21 (sg_at zd_dX12_keyOf_32 3 rfl rfl)
theorem dX12_keyOf_40 : decode cX12_keyOf 40 = .ok (.iconst 1, 1) := dc_4 (sg_at zd_dX12_keyOf_32 4 rfl rfl)
theorem dX12_keyOf_41 : decode cX12_keyOf 41 = .ok (.if_icmp .ne 14, 3) := dc_160 (sg_at zd_dX12_keyOf_32 5 rfl rfl) rfl
theorem dX12_keyOf_44 : decode cX12_keyOf 44 = .ok (.aload_n 0, 1) := dc_42 (sg_at zd_dX12_keyOf_32 6 rfl rfl)
theorem dX12_keyOf_45 : decode cX12_keyOf 45 = .ok (.getfield 91, 3) := dc_180 (sg_at zd_dX12_keyOf_32 7 rfl rfl) rfl
theorem dX12_keyOf_48 : decode cX12_keyOf 48 = .ok (.iconst 5, 1) := dc_8 (sg_at zd_dX12_keyOf_32 8 rfl rfl)
theorem dX12_keyOf_49 : decode cX12_keyOf 49 = .ok (.iload_n 1, 1) := dc_27 (sg_at zd_dX12_keyOf_32 9 rfl rfl)
theorem dX12_keyOf_50 : decode cX12_keyOf 50 = .ok (.imul, 1) := dc_104 (sg_at zd_dX12_keyOf_32 10 rfl rfl)
theorem dX12_keyOf_51 : decode cX12_keyOf 51 = .ok (.iload_n 2, 1) := dc_28 (sg_at zd_dX12_keyOf_32 11 rfl rfl)
theorem dX12_keyOf_52 : decode cX12_keyOf 52 = .ok (.iadd, 1) := dc_96 (sg_at zd_dX12_keyOf_32 12 rfl rfl)
theorem dX12_keyOf_53 : decode cX12_keyOf 53 = .ok (.iaload, 1) := dc_46 (sg_at zd_dX12_keyOf_32 13 rfl rfl)
theorem dX12_keyOf_54 : decode cX12_keyOf 54 = .ok (.ireturn, 1) := dc_172 (sg_at zd_dX12_keyOf_32 14 rfl rfl)
theorem dX12_keyOf_55 : decode cX12_keyOf 55 = .ok (.iload 4, 2) := dc_21 (sg_at zd_dX12_keyOf_32 15 rfl rfl)
theorem dX12_keyOf_57 : decode cX12_keyOf 57 = .ok (.iconst 3, 1) := dc_6 (sg_at zd_dX12_keyOf_32 16 rfl rfl)
theorem dX12_keyOf_58 : decode cX12_keyOf 58 = .ok (.if_icmp .ne 12, 3) := dc_160 (sg_at zd_dX12_keyOf_32 17 rfl rfl) rfl
theorem dX12_keyOf_61 : decode cX12_keyOf 61 = .ok (.iload 5, 2) := dc_21 (sg_at zd_dX12_keyOf_32 18 rfl rfl)
theorem dX12_keyOf_63 : decode cX12_keyOf 63 = .ok (.aload_n 0, 1) := dc_42 (sg_at zd_dX12_keyOf_32 19 rfl rfl)
theorem zd_dX12_keyOf_64 : sg (cX12_keyOf.data.toList.drop 64) [[180, 0, 241], [108], [116], [172], [3], [54, 7], [3], [54, 8], [21, 8], [42], [180, 0, 253], [162, 0, 53], [21, 7], [154, 0, 35], [42], [180, 0, 54], [21, 8], [46], [42], [180, 0, 54]] = true := by decide +kernel
theorem dX12_keyOf_64 : decode cX12_keyOf 64 = .ok (.getfield 241, 3) := dc_180 (sg_at zd_dX12_keyOf_64 0 rfl rfl) rfl
theorem dX12_keyOf_67 : decode cX12_keyOf 67 = .ok (.idiv, 1) := dc_108 (sg_at zd_dX12_keyOf_64 1 rfl rfl)
theorem dX12_keyOf_68 : decode cX12_keyOf 68 = .ok (.ineg, 1) := dc_116 (sg_at zd_dX12_keyOf_64 2 rfl rfl)
theorem dX12_keyOf_69 : decode cX12_keyOf 69 = .ok (.ireturn, 1) := dc_172 (sg_at zd_dX12_keyOf_64 3 rfl rfl)
theorem dX12_keyOf_70 : decode cX12_keyOf 70 = .ok (.iconst 0, 1) := dc_3 (sg_at zd_dX12_keyOf_64 4 rfl rfl)
theorem dX12_keyOf_71 : decode cX12_keyOf 71 = .ok (.istore 7, 2) := dc_54 (sg_at zd_dX12_keyOf_64 5 rfl rfl)
theorem dX12_keyOf_73 : decode cX12_keyOf 73 = .ok (.iconst 0, 1) := dc_3 (sg_at zd_dX12_keyOf_64 6 rfl rfl)
theorem dX12_keyOf_74 : decode cX12_keyOf 74 = .ok (.istore 8, 2) := dc_54 (sg_at zd_dX12_keyOf_64 7 rfl rfl)
theorem dX12_keyOf_76 : decode cX12_keyOf 76 = .ok (.iload 8, 2) := dc_21 (sg_at zd_dX12_keyOf_64 8 rfl rfl)
theorem dX12_keyOf_78 : decode cX12_keyOf 78 = .ok (.aload_n 0, 1) := dc_42 (sg_at zd_dX12_keyOf_64 9 rfl rfl)
theorem dX12_keyOf_79 : decode cX12_keyOf 79 = .ok (.getfield 253, 3) := dc_180 (sg_at zd_dX12_keyOf_64 10 rfl rfl) rfl
theorem dX12_keyOf_82 : decode cX12_keyOf 82 = .ok (.if_icmp .ge 53, 3) := dc_162 (sg_at zd_dX12_keyOf_64 11 rfl rfl) rfl
theorem dX12_keyOf_85 : decode cX12_keyOf 85 = .ok (.iload 7, 2) := dc_21 (sg_at zd_dX12_keyOf_64 12 rfl rfl)
theorem dX12_keyOf_87 : decode cX12_keyOf 87 = .ok (.ifCond .ne 35, 3) := dc_154 (sg_at zd_dX12_keyOf_64 13 rfl rfl) rfl
theorem dX12_keyOf_90 : decode cX12_keyOf 90 = .ok (.aload_n 0, 1) := dc_42 (sg_at zd_dX12_keyOf_64 14 rfl rfl)
theorem dX12_keyOf_91 : decode cX12_keyOf 91 = .ok (.getfield 54, 3) := dc_180 (sg_at zd_dX12_keyOf_64 15 rfl rfl) rfl
theorem dX12_keyOf_94 : decode cX12_keyOf 94 = .ok (.iload 8, 2) := dc_21 (sg_at zd_dX12_keyOf_64 16 rfl rfl)
theorem dX12_keyOf_96 : decode cX12_keyOf 96 = .ok (.iaload, 1) := dc_46 (sg_at zd_dX12_keyOf_64 17 rfl rfl)
theorem dX12_keyOf_97 : decode cX12_keyOf 97 = .ok (.aload_n 0, 1) := dc_42 (sg_at zd_dX12_keyOf_64 18 rfl rfl)
theorem dX12_keyOf_98 : decode cX12_keyOf 98 = .ok (.getfield 54, 3) := dc_180 (sg_at zd_dX12_keyOf_64 19 rfl rfl) rfl
theorem zd_dX12_keyOf_101 : sg (cX12_keyOf.data.toList.drop 101) [[29], [46], [160, 0, 23], [42], [180, 0, 103], [16, 28], [27], [104], [21, 8], [96], [46], [28], [160, 0, 7], [4], [167, 0, 4], [3], [54, 7], [132, 8, 1], [167, 255, 200], [21, 7]] = true := by decide +kernel
theorem dX12_keyOf_101 : decode cX12_keyOf 101 = .ok (.iload_n 3, 1) := dc_29 (sg_at zd_dX12_keyOf_101 0 rfl rfl)
theorem dX12_keyOf_102 : decode cX12_keyOf 102 = .ok (.iaload, 1) := dc_46 (sg_at zd_dX12_keyOf_101 1 rfl rfl)
theorem dX12_keyOf_103 : decode cX12_keyOf 103 = .ok (.if_icmp .ne 23, 3) := dc_160 (sg_at zd_dX12_keyOf_101 2 rfl rfl) rfl
theorem dX12_keyOf_106 : decode cX12_keyOf 106 = .ok (.aload_n 0, 1) := dc_42 (sg_at zd_dX12_keyOf_101 3 rfl rfl)
theorem dX12_keyOf_107 : decode cX12_keyOf 107 = .ok (.getfield 103, 3) := dc_180 (sg_at zd_dX12_keyOf_101 4 rfl rfl) rfl
theorem dX12_keyOf_110 : decode cX12_keyOf 110 = .ok (.bipush 28, 2) := dc_16 (sg_at zd_dX12_keyOf_101 5 rfl rfl) rfl
theorem dX12_keyOf_112 : decode cX12_keyOf 112 = .ok (.iload_n 1, 1) := dc_27 (sg_at zd_dX12_keyOf_101 6 rfl rfl)
theorem dX12_keyOf_113 : decode cX12_keyOf 113 = .ok (.imul, 1) := dc_104 (sg_at zd_dX12_keyOf_101 7 rfl rfl)
theorem dX12_keyOf_114 : decode cX12_keyOf 114 = .ok (.iload 8, 2) := dc_21 (sg_at zd_dX12_keyOf_101 8 rfl rfl)
theorem dX12_keyOf_116 : decode cX12_keyOf 116 = .ok (.iadd, 1) := dc_96 (sg_at zd_dX12_keyOf_101 9 rfl rfl)
theorem dX12_keyOf_117 : decode cX12_keyOf 117 = .ok (.iaload, 1) := dc_46 (sg_at zd_dX12_keyOf_101 10 rfl rfl)
theorem dX12_keyOf_118 : decode cX12_keyOf 118 = .ok (.iload_n 2, 1) := dc_28 (sg_at zd_dX12_keyOf_101 11 rfl rfl)
theorem dX12_keyOf_119 : decode cX12_keyOf 119 = .ok (.if_icmp .ne 7, 3) := dc_160 (sg_at zd_dX12_keyOf_101 12 rfl rfl) rfl
theorem dX12_keyOf_122 : decode cX12_keyOf 122 = .ok (.iconst 1, 1) := dc_4 (sg_at zd_dX12_keyOf_101 13 rfl rfl)
theorem dX12_keyOf_123 : decode cX12_keyOf 123 = .ok (.goto 4, 3) := dc_167 (sg_at zd_dX12_keyOf_101 14 rfl rfl) rfl
theorem dX12_keyOf_126 : decode cX12_keyOf 126 = .ok (.iconst 0, 1) := dc_3 (sg_at zd_dX12_keyOf_101 15 rfl rfl)
theorem dX12_keyOf_127 : decode cX12_keyOf 127 = .ok (.istore 7, 2) := dc_54 (sg_at zd_dX12_keyOf_101 16 rfl rfl)
theorem dX12_keyOf_129 : decode cX12_keyOf 129 = .ok (.iinc 8 1, 3) := dc_132 (sg_at zd_dX12_keyOf_101 17 rfl rfl) rfl
theorem dX12_keyOf_132 : decode cX12_keyOf 132 = .ok (.goto (-56), 3) := dc_167 (sg_at zd_dX12_keyOf_101 18 rfl rfl) rfl
theorem dX12_keyOf_135 : decode cX12_keyOf 135 = .ok (.iload 7, 2) := dc_21 (sg_at zd_dX12_keyOf_101 19 rfl rfl)
theorem zd_dX12_keyOf_137 : sg (cX12_keyOf.data.toList.drop 137) [[153, 0, 9], [17, 3, 232], [167, 0, 4], [3], [21, 6], [96], [172]] = true := by decide +kernel
theorem dX12_keyOf_137 : decode cX12_keyOf 137 = .ok (.ifCond .eq 9, 3) := dc_153 (sg_at zd_dX12_keyOf_137 0 rfl rfl) rfl
theorem dX12_keyOf_140 : decode cX12_keyOf 140 = .ok (.sipush 1000, 3) := dc_17 (sg_at zd_dX12_keyOf_137 1 rfl rfl) rfl
theorem dX12_keyOf_143 : decode cX12_keyOf 143 = .ok (.goto 4, 3) := dc_167 (sg_at zd_dX12_keyOf_137 2 rfl rfl) rfl
theorem dX12_keyOf_146 : decode cX12_keyOf 146 = .ok (.iconst 0, 1) := dc_3 (sg_at zd_dX12_keyOf_137 3 rfl rfl)
theorem dX12_keyOf_147 : decode cX12_keyOf 147 = .ok (.iload 6, 2) := dc_21 (sg_at zd_dX12_keyOf_137 4 rfl rfl)
theorem dX12_keyOf_149 : decode cX12_keyOf 149 = .ok (.iadd, 1) := dc_96 (sg_at zd_dX12_keyOf_137 5 rfl rfl)
theorem dX12_keyOf_150 : decode cX12_keyOf 150 = .ok (.ireturn, 1) := dc_172 (sg_at zd_dX12_keyOf_137 6 rfl rfl)
theorem zd_dX12_layOrder_0 : sg (cX12_layOrder.data.toList.drop 0) [[42], [3], [181, 1, 177], [3], [54, 4], [21, 4], [42], [180, 0, 247], [162, 0, 107], [42], [27], [21, 4], [28], [182, 1, 180], [154, 0, 6], [167, 0, 87], [42], [27], [21, 4], [28]] = true := by decide +kernel
theorem dX12_layOrder_0 : decode cX12_layOrder 0 = .ok (.aload_n 0, 1) := dc_42 (sg_at zd_dX12_layOrder_0 0 rfl rfl)
theorem dX12_layOrder_1 : decode cX12_layOrder 1 = .ok (.iconst 0, 1) := dc_3 (sg_at zd_dX12_layOrder_0 1 rfl rfl)
theorem dX12_layOrder_2 : decode cX12_layOrder 2 = .ok (.putfield 433, 3) := dc_181 (sg_at zd_dX12_layOrder_0 2 rfl rfl) rfl
theorem dX12_layOrder_5 : decode cX12_layOrder 5 = .ok (.iconst 0, 1) := dc_3 (sg_at zd_dX12_layOrder_0 3 rfl rfl)
theorem dX12_layOrder_6 : decode cX12_layOrder 6 = .ok (.istore 4, 2) := dc_54 (sg_at zd_dX12_layOrder_0 4 rfl rfl)
theorem dX12_layOrder_8 : decode cX12_layOrder 8 = .ok (.iload 4, 2) := dc_21 (sg_at zd_dX12_layOrder_0 5 rfl rfl)
theorem dX12_layOrder_10 : decode cX12_layOrder 10 = .ok (.aload_n 0, 1) := dc_42 (sg_at zd_dX12_layOrder_0 6 rfl rfl)
theorem dX12_layOrder_11 : decode cX12_layOrder 11 = .ok (.getfield 247, 3) := dc_180 (sg_at zd_dX12_layOrder_0 7 rfl rfl) rfl
theorem dX12_layOrder_14 : decode cX12_layOrder 14 = .ok (.if_icmp .ge 107, 3) := dc_162 (sg_at zd_dX12_layOrder_0 8 rfl rfl) rfl
theorem dX12_layOrder_17 : decode cX12_layOrder 17 = .ok (.aload_n 0, 1) := dc_42 (sg_at zd_dX12_layOrder_0 9 rfl rfl)
theorem dX12_layOrder_18 : decode cX12_layOrder 18 = .ok (.iload_n 1, 1) := dc_27 (sg_at zd_dX12_layOrder_0 10 rfl rfl)
theorem dX12_layOrder_19 : decode cX12_layOrder 19 = .ok (.iload 4, 2) := dc_21 (sg_at zd_dX12_layOrder_0 11 rfl rfl)
theorem dX12_layOrder_21 : decode cX12_layOrder 21 = .ok (.iload_n 2, 1) := dc_28 (sg_at zd_dX12_layOrder_0 12 rfl rfl)
theorem dX12_layOrder_22 : decode cX12_layOrder 22 = .ok (.invokevirtual 436, 3) := dc_182 (sg_at zd_dX12_layOrder_0 13 rfl rfl) rfl
theorem dX12_layOrder_25 : decode cX12_layOrder 25 = .ok (.ifCond .ne 6, 3) := dc_154 (sg_at zd_dX12_layOrder_0 14 rfl rfl) rfl
theorem dX12_layOrder_28 : decode cX12_layOrder 28 = .ok (.goto 87, 3) := dc_167 (sg_at zd_dX12_layOrder_0 15 rfl rfl) rfl
theorem dX12_layOrder_31 : decode cX12_layOrder 31 = .ok (.aload_n 0, 1) := dc_42 (sg_at zd_dX12_layOrder_0 16 rfl rfl)
theorem dX12_layOrder_32 : decode cX12_layOrder 32 = .ok (.iload_n 1, 1) := dc_27 (sg_at zd_dX12_layOrder_0 17 rfl rfl)
theorem dX12_layOrder_33 : decode cX12_layOrder 33 = .ok (.iload 4, 2) := dc_21 (sg_at zd_dX12_layOrder_0 18 rfl rfl)
theorem dX12_layOrder_35 : decode cX12_layOrder 35 = .ok (.iload_n 2, 1) := dc_28 (sg_at zd_dX12_layOrder_0 19 rfl rfl)
theorem zd_dX12_layOrder_36 : sg (cX12_layOrder.data.toList.drop 36) [[29], [182, 1, 183], [54, 5], [42], [180, 1, 177], [54, 6], [21, 6], [158, 0, 46], [42], [27], [42], [180, 0, 118], [21, 6], [4], [100], [46], [28], [29], [182, 1, 183], [21, 5]] = true := by decide +kernel
theorem dX12_layOrder_36 : decode cX12_layOrder 36 = .ok (.iload_n 3, 1) := dc_29 (sg_at zd_dX12_layOrder_36 0 rfl rfl)
theorem dX12_layOrder_37 : decode cX12_layOrder 37 = .ok (.invokevirtual 439, 3) := dc_182 (sg_at zd_dX12_layOrder_36 1 rfl rfl) rfl
theorem dX12_layOrder_40 : decode cX12_layOrder 40 = .ok (.istore 5, 2) := dc_54 (sg_at zd_dX12_layOrder_36 2 rfl rfl)
theorem dX12_layOrder_42 : decode cX12_layOrder 42 = .ok (.aload_n 0, 1) := dc_42 (sg_at zd_dX12_layOrder_36 3 rfl rfl)
theorem dX12_layOrder_43 : decode cX12_layOrder 43 = .ok (.getfield 433, 3) := dc_180 (sg_at zd_dX12_layOrder_36 4 rfl rfl) rfl
theorem dX12_layOrder_46 : decode cX12_layOrder 46 = .ok (.istore 6, 2) := dc_54 (sg_at zd_dX12_layOrder_36 5 rfl rfl)
theorem dX12_layOrder_48 : decode cX12_layOrder 48 = .ok (.iload 6, 2) := dc_21 (sg_at zd_dX12_layOrder_36 6 rfl rfl)
theorem dX12_layOrder_50 : decode cX12_layOrder 50 = .ok (.ifCond .le 46, 3) := dc_158 (sg_at zd_dX12_layOrder_36 7 rfl rfl) rfl
theorem dX12_layOrder_53 : decode cX12_layOrder 53 = .ok (.aload_n 0, 1) := dc_42 (sg_at zd_dX12_layOrder_36 8 rfl rfl)
theorem dX12_layOrder_54 : decode cX12_layOrder 54 = .ok (.iload_n 1, 1) := dc_27 (sg_at zd_dX12_layOrder_36 9 rfl rfl)
theorem dX12_layOrder_55 : decode cX12_layOrder 55 = .ok (.aload_n 0, 1) := dc_42 (sg_at zd_dX12_layOrder_36 10 rfl rfl)
theorem dX12_layOrder_56 : decode cX12_layOrder 56 = .ok (.getfield 118, 3) := dc_180 (sg_at zd_dX12_layOrder_36 11 rfl rfl) rfl
theorem dX12_layOrder_59 : decode cX12_layOrder 59 = .ok (.iload 6, 2) := dc_21 (sg_at zd_dX12_layOrder_36 12 rfl rfl)
theorem dX12_layOrder_61 : decode cX12_layOrder 61 = .ok (.iconst 1, 1) := dc_4 (sg_at zd_dX12_layOrder_36 13 rfl rfl)
theorem dX12_layOrder_62 : decode cX12_layOrder 62 = .ok (.isub, 1) := dc_100 (sg_at zd_dX12_layOrder_36 14 rfl rfl)
theorem dX12_layOrder_63 : decode cX12_layOrder 63 = .ok (.iaload, 1) := dc_46 (sg_at zd_dX12_layOrder_36 15 rfl rfl)
theorem dX12_layOrder_64 : decode cX12_layOrder 64 = .ok (.iload_n 2, 1) := dc_28 (sg_at zd_dX12_layOrder_36 16 rfl rfl)
theorem dX12_layOrder_65 : decode cX12_layOrder 65 = .ok (.iload_n 3, 1) := dc_29 (sg_at zd_dX12_layOrder_36 17 rfl rfl)
theorem dX12_layOrder_66 : decode cX12_layOrder 66 = .ok (.invokevirtual 439, 3) := dc_182 (sg_at zd_dX12_layOrder_36 18 rfl rfl) rfl
theorem dX12_layOrder_69 : decode cX12_layOrder 69 = .ok (.iload 5, 2) := dc_21 (sg_at zd_dX12_layOrder_36 19 rfl rfl)
theorem zd_dX12_layOrder_71 : sg (cX12_layOrder.data.toList.drop 71) [[164, 0, 25], [42], [180, 0, 118], [21, 6], [42], [180, 0, 118], [21, 6], [4], [100], [46], [79], [132, 6, 255], [167, 255, 211], [42], [180, 0, 118], [21, 6], [21, 4], [79], [42], [89]] = true := by decide +kernel
theorem dX12_layOrder_71 : decode cX12_layOrder 71 = .ok (.if_icmp .le 25, 3) := dc_164 (sg_at zd_dX12_layOrder_71 0 rfl rfl) rfl
theorem dX12_layOrder_74 : decode cX12_layOrder 74 = .ok (.aload_n 0, 1) := dc_42 (sg_at zd_dX12_layOrder_71 1 rfl rfl)
theorem dX12_layOrder_75 : decode cX12_layOrder 75 = .ok (.getfield 118, 3) := dc_180 (sg_at zd_dX12_layOrder_71 2 rfl rfl) rfl
theorem dX12_layOrder_78 : decode cX12_layOrder 78 = .ok (.iload 6, 2) := dc_21 (sg_at zd_dX12_layOrder_71 3 rfl rfl)
theorem dX12_layOrder_80 : decode cX12_layOrder 80 = .ok (.aload_n 0, 1) := dc_42 (sg_at zd_dX12_layOrder_71 4 rfl rfl)
theorem dX12_layOrder_81 : decode cX12_layOrder 81 = .ok (.getfield 118, 3) := dc_180 (sg_at zd_dX12_layOrder_71 5 rfl rfl) rfl
theorem dX12_layOrder_84 : decode cX12_layOrder 84 = .ok (.iload 6, 2) := dc_21 (sg_at zd_dX12_layOrder_71 6 rfl rfl)
theorem dX12_layOrder_86 : decode cX12_layOrder 86 = .ok (.iconst 1, 1) := dc_4 (sg_at zd_dX12_layOrder_71 7 rfl rfl)
theorem dX12_layOrder_87 : decode cX12_layOrder 87 = .ok (.isub, 1) := dc_100 (sg_at zd_dX12_layOrder_71 8 rfl rfl)
theorem dX12_layOrder_88 : decode cX12_layOrder 88 = .ok (.iaload, 1) := dc_46 (sg_at zd_dX12_layOrder_71 9 rfl rfl)
theorem dX12_layOrder_89 : decode cX12_layOrder 89 = .ok (.iastore, 1) := dc_79 (sg_at zd_dX12_layOrder_71 10 rfl rfl)
theorem dX12_layOrder_90 : decode cX12_layOrder 90 = .ok (.iinc 6 (-1), 3) := dc_132 (sg_at zd_dX12_layOrder_71 11 rfl rfl) rfl
theorem dX12_layOrder_93 : decode cX12_layOrder 93 = .ok (.goto (-45), 3) := dc_167 (sg_at zd_dX12_layOrder_71 12 rfl rfl) rfl
theorem dX12_layOrder_96 : decode cX12_layOrder 96 = .ok (.aload_n 0, 1) := dc_42 (sg_at zd_dX12_layOrder_71 13 rfl rfl)
theorem dX12_layOrder_97 : decode cX12_layOrder 97 = .ok (.getfield 118, 3) := dc_180 (sg_at zd_dX12_layOrder_71 14 rfl rfl) rfl
theorem dX12_layOrder_100 : decode cX12_layOrder 100 = .ok (.iload 6, 2) := dc_21 (sg_at zd_dX12_layOrder_71 15 rfl rfl)
theorem dX12_layOrder_102 : decode cX12_layOrder 102 = .ok (.iload 4, 2) := dc_21 (sg_at zd_dX12_layOrder_71 16 rfl rfl)
theorem dX12_layOrder_104 : decode cX12_layOrder 104 = .ok (.iastore, 1) := dc_79 (sg_at zd_dX12_layOrder_71 17 rfl rfl)
theorem dX12_layOrder_105 : decode cX12_layOrder 105 = .ok (.aload_n 0, 1) := dc_42 (sg_at zd_dX12_layOrder_71 18 rfl rfl)
theorem dX12_layOrder_106 : decode cX12_layOrder 106 = .ok (.dup, 1) := dc_89 (sg_at zd_dX12_layOrder_71 19 rfl rfl)
theorem zd_dX12_layOrder_107 : sg (cX12_layOrder.data.toList.drop 107) [[180, 1, 177], [4], [96], [181, 1, 177], [132, 4, 1], [167, 255, 146], [177]] = true := by decide +kernel
theorem dX12_layOrder_107 : decode cX12_layOrder 107 = .ok (.getfield 433, 3) := dc_180 (sg_at zd_dX12_layOrder_107 0 rfl rfl) rfl
theorem dX12_layOrder_110 : decode cX12_layOrder 110 = .ok (.iconst 1, 1) := dc_4 (sg_at zd_dX12_layOrder_107 1 rfl rfl)
theorem dX12_layOrder_111 : decode cX12_layOrder 111 = .ok (.iadd, 1) := dc_96 (sg_at zd_dX12_layOrder_107 2 rfl rfl)
theorem dX12_layOrder_112 : decode cX12_layOrder 112 = .ok (.putfield 433, 3) := dc_181 (sg_at zd_dX12_layOrder_107 3 rfl rfl) rfl
theorem dX12_layOrder_115 : decode cX12_layOrder 115 = .ok (.iinc 4 1, 3) := dc_132 (sg_at zd_dX12_layOrder_107 4 rfl rfl) rfl
theorem dX12_layOrder_118 : decode cX12_layOrder 118 = .ok (.goto (-110), 3) := dc_167 (sg_at zd_dX12_layOrder_107 5 rfl rfl) rfl
theorem dX12_layOrder_121 : decode cX12_layOrder 121 = .ok (.return_, 1) := dc_177 (sg_at zd_dX12_layOrder_107 6 rfl rfl)
theorem zd_dX12_number1_0 : sg (cX12_number1.data.toList.drop 0) [[42], [42], [180, 1, 116], [20, 1, 186], [105], [20, 1, 188], [97], [20, 1, 190], [127], [181, 1, 116], [42], [180, 1, 116], [20, 1, 192], [109], [27], [133], [113], [136], [172]] = true := by decide +kernel
theorem dX12_number1_0 : decode cX12_number1 0 = .ok (.aload_n 0, 1) := dc_42 (sg_at zd_dX12_number1_0 0 rfl rfl)
theorem dX12_number1_1 : decode cX12_number1 1 = .ok (.aload_n 0, 1) := dc_42 (sg_at zd_dX12_number1_0 1 rfl rfl)
theorem dX12_number1_2 : decode cX12_number1 2 = .ok (.getfield 372, 3) := dc_180 (sg_at zd_dX12_number1_0 2 rfl rfl) rfl
theorem dX12_number1_5 : decode cX12_number1 5 = .ok (.ldc2_w 442, 3) := dc_20 (sg_at zd_dX12_number1_0 3 rfl rfl) rfl
theorem dX12_number1_8 : decode cX12_number1 8 = .ok (.lmul, 1) := dc_105 (sg_at zd_dX12_number1_0 4 rfl rfl)
theorem dX12_number1_9 : decode cX12_number1 9 = .ok (.ldc2_w 444, 3) := dc_20 (sg_at zd_dX12_number1_0 5 rfl rfl) rfl
theorem dX12_number1_12 : decode cX12_number1 12 = .ok (.ladd, 1) := dc_97 (sg_at zd_dX12_number1_0 6 rfl rfl)
theorem dX12_number1_13 : decode cX12_number1 13 = .ok (.ldc2_w 446, 3) := dc_20 (sg_at zd_dX12_number1_0 7 rfl rfl) rfl
theorem dX12_number1_16 : decode cX12_number1 16 = .ok (.land, 1) := dc_127 (sg_at zd_dX12_number1_0 8 rfl rfl)
theorem dX12_number1_17 : decode cX12_number1 17 = .ok (.putfield 372, 3) := dc_181 (sg_at zd_dX12_number1_0 9 rfl rfl) rfl
theorem dX12_number1_20 : decode cX12_number1 20 = .ok (.aload_n 0, 1) := dc_42 (sg_at zd_dX12_number1_0 10 rfl rfl)
theorem dX12_number1_21 : decode cX12_number1 21 = .ok (.getfield 372, 3) := dc_180 (sg_at zd_dX12_number1_0 11 rfl rfl) rfl
theorem dX12_number1_24 : decode cX12_number1 24 = .ok (.ldc2_w 448, 3) := dc_20 (sg_at zd_dX12_number1_0 12 rfl rfl) rfl
theorem dX12_number1_27 : decode cX12_number1 27 = .ok (.ldiv, 1) := dc_109 (sg_at zd_dX12_number1_0 13 rfl rfl)
theorem dX12_number1_28 : decode cX12_number1 28 = .ok (.iload_n 1, 1) := dc_27 (sg_at zd_dX12_number1_0 14 rfl rfl)
theorem dX12_number1_29 : decode cX12_number1 29 = .ok (.i2l, 1) := dc_133 (sg_at zd_dX12_number1_0 15 rfl rfl)
theorem dX12_number1_30 : decode cX12_number1 30 = .ok (.lrem, 1) := dc_113 (sg_at zd_dX12_number1_0 16 rfl rfl)
theorem dX12_number1_31 : decode cX12_number1 31 = .ok (.l2i, 1) := dc_136 (sg_at zd_dX12_number1_0 17 rfl rfl)
theorem dX12_number1_32 : decode cX12_number1 32 = .ok (.ireturn, 1) := dc_172 (sg_at zd_dX12_number1_0 18 rfl rfl)
theorem zd_dX12_awayOf_0 : sg (cX12_awayOf.data.toList.drop 0) [[42], [3], [3], [42], [27], [182, 1, 150], [28], [42], [180, 0, 48], [28], [46], [182, 1, 136], [42], [5], [8], [4], [16, 30], [182, 1, 140], [172]] = true := by decide +kernel
theorem dX12_awayOf_0 : decode cX12_awayOf 0 = .ok (.aload_n 0, 1) := dc_42 (sg_at zd_dX12_awayOf_0 0 rfl rfl)
theorem dX12_awayOf_1 : decode cX12_awayOf 1 = .ok (.iconst 0, 1) := dc_3 (sg_at zd_dX12_awayOf_0 1 rfl rfl)
theorem dX12_awayOf_2 : decode cX12_awayOf 2 = .ok (.iconst 0, 1) := dc_3 (sg_at zd_dX12_awayOf_0 2 rfl rfl)
theorem dX12_awayOf_3 : decode cX12_awayOf 3 = .ok (.aload_n 0, 1) := dc_42 (sg_at zd_dX12_awayOf_0 3 rfl rfl)
theorem dX12_awayOf_4 : decode cX12_awayOf 4 = .ok (.iload_n 1, 1) := dc_27 (sg_at zd_dX12_awayOf_0 4 rfl rfl)
theorem dX12_awayOf_5 : decode cX12_awayOf 5 = .ok (.invokevirtual 406, 3) := dc_182 (sg_at zd_dX12_awayOf_0 5 rfl rfl) rfl
theorem dX12_awayOf_8 : decode cX12_awayOf 8 = .ok (.iload_n 2, 1) := dc_28 (sg_at zd_dX12_awayOf_0 6 rfl rfl)
theorem dX12_awayOf_9 : decode cX12_awayOf 9 = .ok (.aload_n 0, 1) := dc_42 (sg_at zd_dX12_awayOf_0 7 rfl rfl)
theorem dX12_awayOf_10 : decode cX12_awayOf 10 = .ok (.getfield 48, 3) := dc_180 (sg_at zd_dX12_awayOf_0 8 rfl rfl) rfl
theorem dX12_awayOf_13 : decode cX12_awayOf 13 = .ok (.iload_n 2, 1) := dc_28 (sg_at zd_dX12_awayOf_0 9 rfl rfl)
theorem dX12_awayOf_14 : decode cX12_awayOf 14 = .ok (.iaload, 1) := dc_46 (sg_at zd_dX12_awayOf_0 10 rfl rfl)
theorem dX12_awayOf_15 : decode cX12_awayOf 15 = .ok (.invokevirtual 392, 3) := dc_182 (sg_at zd_dX12_awayOf_0 11 rfl rfl) rfl
theorem dX12_awayOf_18 : decode cX12_awayOf 18 = .ok (.aload_n 0, 1) := dc_42 (sg_at zd_dX12_awayOf_0 12 rfl rfl)
theorem dX12_awayOf_19 : decode cX12_awayOf 19 = .ok (.iconst 2, 1) := dc_5 (sg_at zd_dX12_awayOf_0 13 rfl rfl)
theorem dX12_awayOf_20 : decode cX12_awayOf 20 = .ok (.iconst 5, 1) := dc_8 (sg_at zd_dX12_awayOf_0 14 rfl rfl)
theorem dX12_awayOf_21 : decode cX12_awayOf 21 = .ok (.iconst 1, 1) := dc_4 (sg_at zd_dX12_awayOf_0 15 rfl rfl)
theorem dX12_awayOf_22 : decode cX12_awayOf 22 = .ok (.bipush 30, 2) := dc_16 (sg_at zd_dX12_awayOf_0 16 rfl rfl) rfl
theorem dX12_awayOf_24 : decode cX12_awayOf 24 = .ok (.invokevirtual 396, 3) := dc_182 (sg_at zd_dX12_awayOf_0 17 rfl rfl) rfl
theorem dX12_awayOf_27 : decode cX12_awayOf 27 = .ok (.ireturn, 1) := dc_172 (sg_at zd_dX12_awayOf_0 18 rfl rfl)
theorem zd_dX12_goesAway_0 : sg (cX12_goesAway.data.toList.drop 0) [[42], [180, 0, 97], [8], [27], [104], [28], [96], [42], [180, 0, 106], [27], [46], [21, 4], [42], [28], [29], [182, 1, 194], [104], [96], [79], [177]] = true := by decide +kernel
theorem dX12_goesAway_0 : decode cX12_goesAway 0 = .ok (.aload_n 0, 1) := dc_42 (sg_at zd_dX12_goesAway_0 0 rfl rfl)
theorem dX12_goesAway_1 : decode cX12_goesAway 1 = .ok (.getfield 97, 3) := dc_180 (sg_at zd_dX12_goesAway_0 1 rfl rfl) rfl
theorem dX12_goesAway_4 : decode cX12_goesAway 4 = .ok (.iconst 5, 1) := dc_8 (sg_at zd_dX12_goesAway_0 2 rfl rfl)
theorem dX12_goesAway_5 : decode cX12_goesAway 5 = .ok (.iload_n 1, 1) := dc_27 (sg_at zd_dX12_goesAway_0 3 rfl rfl)
theorem dX12_goesAway_6 : decode cX12_goesAway 6 = .ok (.imul, 1) := dc_104 (sg_at zd_dX12_goesAway_0 4 rfl rfl)
theorem dX12_goesAway_7 : decode cX12_goesAway 7 = .ok (.iload_n 2, 1) := dc_28 (sg_at zd_dX12_goesAway_0 5 rfl rfl)
theorem dX12_goesAway_8 : decode cX12_goesAway 8 = .ok (.iadd, 1) := dc_96 (sg_at zd_dX12_goesAway_0 6 rfl rfl)
theorem dX12_goesAway_9 : decode cX12_goesAway 9 = .ok (.aload_n 0, 1) := dc_42 (sg_at zd_dX12_goesAway_0 7 rfl rfl)
theorem dX12_goesAway_10 : decode cX12_goesAway 10 = .ok (.getfield 106, 3) := dc_180 (sg_at zd_dX12_goesAway_0 8 rfl rfl) rfl
theorem dX12_goesAway_13 : decode cX12_goesAway 13 = .ok (.iload_n 1, 1) := dc_27 (sg_at zd_dX12_goesAway_0 9 rfl rfl)
theorem dX12_goesAway_14 : decode cX12_goesAway 14 = .ok (.iaload, 1) := dc_46 (sg_at zd_dX12_goesAway_0 10 rfl rfl)
theorem dX12_goesAway_15 : decode cX12_goesAway 15 = .ok (.iload 4, 2) := dc_21 (sg_at zd_dX12_goesAway_0 11 rfl rfl)
theorem dX12_goesAway_17 : decode cX12_goesAway 17 = .ok (.aload_n 0, 1) := dc_42 (sg_at zd_dX12_goesAway_0 12 rfl rfl)
theorem dX12_goesAway_18 : decode cX12_goesAway 18 = .ok (.iload_n 2, 1) := dc_28 (sg_at zd_dX12_goesAway_0 13 rfl rfl)
theorem dX12_goesAway_19 : decode cX12_goesAway 19 = .ok (.iload_n 3, 1) := dc_29 (sg_at zd_dX12_goesAway_0 14 rfl rfl)
theorem dX12_goesAway_20 : decode cX12_goesAway 20 = .ok (.invokevirtual 450, 3) := dc_182 (sg_at zd_dX12_goesAway_0 15 rfl rfl) rfl
theorem dX12_goesAway_23 : decode cX12_goesAway 23 = .ok (.imul, 1) := dc_104 (sg_at zd_dX12_goesAway_0 16 rfl rfl)
theorem dX12_goesAway_24 : decode cX12_goesAway 24 = .ok (.iadd, 1) := dc_96 (sg_at zd_dX12_goesAway_0 17 rfl rfl)
theorem dX12_goesAway_25 : decode cX12_goesAway 25 = .ok (.iastore, 1) := dc_79 (sg_at zd_dX12_goesAway_0 18 rfl rfl)
theorem dX12_goesAway_26 : decode cX12_goesAway 26 = .ok (.return_, 1) := dc_177 (sg_at zd_dX12_goesAway_0 19 rfl rfl)
theorem zd_dX12_comes_0 : sg (cX12_comes.data.toList.drop 0) [[42], [27], [28], [29], [182, 1, 197], [3], [54, 4], [21, 4], [42], [180, 1, 177], [162, 0, 46], [42], [16, 100], [182, 1, 200], [42], [42], [180, 0, 118], [21, 4], [46], [28]] = true := by decide +kernel
theorem dX12_comes_0 : decode cX12_comes 0 = .ok (.aload_n 0, 1) := dc_42 (sg_at zd_dX12_comes_0 0 rfl rfl)
theorem dX12_comes_1 : decode cX12_comes 1 = .ok (.iload_n 1, 1) := dc_27 (sg_at zd_dX12_comes_0 1 rfl rfl)
theorem dX12_comes_2 : decode cX12_comes 2 = .ok (.iload_n 2, 1) := dc_28 (sg_at zd_dX12_comes_0 2 rfl rfl)
theorem dX12_comes_3 : decode cX12_comes 3 = .ok (.iload_n 3, 1) := dc_29 (sg_at zd_dX12_comes_0 3 rfl rfl)
theorem dX12_comes_4 : decode cX12_comes 4 = .ok (.invokevirtual 453, 3) := dc_182 (sg_at zd_dX12_comes_0 4 rfl rfl) rfl
theorem dX12_comes_7 : decode cX12_comes 7 = .ok (.iconst 0, 1) := dc_3 (sg_at zd_dX12_comes_0 5 rfl rfl)
theorem dX12_comes_8 : decode cX12_comes 8 = .ok (.istore 4, 2) := dc_54 (sg_at zd_dX12_comes_0 6 rfl rfl)
theorem dX12_comes_10 : decode cX12_comes 10 = .ok (.iload 4, 2) := dc_21 (sg_at zd_dX12_comes_0 7 rfl rfl)
theorem dX12_comes_12 : decode cX12_comes 12 = .ok (.aload_n 0, 1) := dc_42 (sg_at zd_dX12_comes_0 8 rfl rfl)
theorem dX12_comes_13 : decode cX12_comes 13 = .ok (.getfield 433, 3) := dc_180 (sg_at zd_dX12_comes_0 9 rfl rfl) rfl
theorem dX12_comes_16 : decode cX12_comes 16 = .ok (.if_icmp .ge 46, 3) := dc_162 (sg_at zd_dX12_comes_0 10 rfl rfl) rfl
theorem dX12_comes_19 : decode cX12_comes 19 = .ok (.aload_n 0, 1) := dc_42 (sg_at zd_dX12_comes_0 11 rfl rfl)
theorem dX12_comes_20 : decode cX12_comes 20 = .ok (.bipush 100, 2) := dc_16 (sg_at zd_dX12_comes_0 12 rfl rfl) rfl
theorem dX12_comes_22 : decode cX12_comes 22 = .ok (.invokevirtual 456, 3) := dc_182 (sg_at zd_dX12_comes_0 13 rfl rfl) rfl
theorem dX12_comes_25 : decode cX12_comes 25 = .ok (.aload_n 0, 1) := dc_42 (sg_at zd_dX12_comes_0 14 rfl rfl)
theorem dX12_comes_26 : decode cX12_comes 26 = .ok (.aload_n 0, 1) := dc_42 (sg_at zd_dX12_comes_0 15 rfl rfl)
theorem dX12_comes_27 : decode cX12_comes 27 = .ok (.getfield 118, 3) := dc_180 (sg_at zd_dX12_comes_0 16 rfl rfl) rfl
theorem dX12_comes_30 : decode cX12_comes 30 = .ok (.iload 4, 2) := dc_21 (sg_at zd_dX12_comes_0 17 rfl rfl)
theorem dX12_comes_32 : decode cX12_comes 32 = .ok (.iaload, 1) := dc_46 (sg_at zd_dX12_comes_0 18 rfl rfl)
theorem dX12_comes_33 : decode cX12_comes 33 = .ok (.iload_n 2, 1) := dc_28 (sg_at zd_dX12_comes_0 19 rfl rfl)
theorem zd_dX12_comes_34 : sg (cX12_comes.data.toList.drop 34) [[42], [180, 0, 88], [8], [27], [104], [42], [180, 0, 118], [21, 4], [46], [96], [46], [182, 1, 169], [161, 0, 9], [132, 4, 1], [167, 255, 207], [21, 4], [42], [180, 1, 177], [160, 0, 26], [42]] = true := by decide +kernel
theorem dX12_comes_34 : decode cX12_comes 34 = .ok (.aload_n 0, 1) := dc_42 (sg_at zd_dX12_comes_34 0 rfl rfl)
theorem dX12_comes_35 : decode cX12_comes 35 = .ok (.getfield 88, 3) := dc_180 (sg_at zd_dX12_comes_34 1 rfl rfl) rfl
theorem dX12_comes_38 : decode cX12_comes 38 = .ok (.iconst 5, 1) := dc_8 (sg_at zd_dX12_comes_34 2 rfl rfl)
theorem dX12_comes_39 : decode cX12_comes 39 = .ok (.iload_n 1, 1) := dc_27 (sg_at zd_dX12_comes_34 3 rfl rfl)
theorem dX12_comes_40 : decode cX12_comes 40 = .ok (.imul, 1) := dc_104 (sg_at zd_dX12_comes_34 4 rfl rfl)
theorem dX12_comes_41 : decode cX12_comes 41 = .ok (.aload_n 0, 1) := dc_42 (sg_at zd_dX12_comes_34 5 rfl rfl)
theorem dX12_comes_42 : decode cX12_comes 42 = .ok (.getfield 118, 3) := dc_180 (sg_at zd_dX12_comes_34 6 rfl rfl) rfl
theorem dX12_comes_45 : decode cX12_comes 45 = .ok (.iload 4, 2) := dc_21 (sg_at zd_dX12_comes_34 7 rfl rfl)
theorem dX12_comes_47 : decode cX12_comes 47 = .ok (.iaload, 1) := dc_46 (sg_at zd_dX12_comes_34 8 rfl rfl)
theorem dX12_comes_48 : decode cX12_comes 48 = .ok (.iadd, 1) := dc_96 (sg_at zd_dX12_comes_34 9 rfl rfl)
theorem dX12_comes_49 : decode cX12_comes 49 = .ok (.iaload, 1) := dc_46 (sg_at zd_dX12_comes_34 10 rfl rfl)
theorem dX12_comes_50 : decode cX12_comes 50 = .ok (.invokevirtual 425, 3) := dc_182 (sg_at zd_dX12_comes_34 11 rfl rfl) rfl
theorem dX12_comes_53 : decode cX12_comes 53 = .ok (.if_icmp .lt 9, 3) := dc_161 (sg_at zd_dX12_comes_34 12 rfl rfl) rfl
theorem dX12_comes_56 : decode cX12_comes 56 = .ok (.iinc 4 1, 3) := dc_132 (sg_at zd_dX12_comes_34 13 rfl rfl) rfl
theorem dX12_comes_59 : decode cX12_comes 59 = .ok (.goto (-49), 3) := dc_167 (sg_at zd_dX12_comes_34 14 rfl rfl) rfl
theorem dX12_comes_62 : decode cX12_comes 62 = .ok (.iload 4, 2) := dc_21 (sg_at zd_dX12_comes_34 15 rfl rfl)
theorem dX12_comes_64 : decode cX12_comes 64 = .ok (.aload_n 0, 1) := dc_42 (sg_at zd_dX12_comes_34 16 rfl rfl)
theorem dX12_comes_65 : decode cX12_comes 65 = .ok (.getfield 433, 3) := dc_180 (sg_at zd_dX12_comes_34 17 rfl rfl) rfl
theorem dX12_comes_68 : decode cX12_comes 68 = .ok (.if_icmp .ne 26, 3) := dc_160 (sg_at zd_dX12_comes_34 18 rfl rfl) rfl
theorem dX12_comes_71 : decode cX12_comes 71 = .ok (.aload_n 0, 1) := dc_42 (sg_at zd_dX12_comes_34 19 rfl rfl)
theorem zd_dX12_comes_72 : sg (cX12_comes.data.toList.drop 72) [[180, 0, 103], [16, 28], [27], [104], [28], [96], [2], [79], [42], [180, 0, 112], [27], [92], [46], [4], [96], [79], [177], [42], [180, 0, 118], [21, 4]] = true := by decide +kernel
theorem dX12_comes_72 : decode cX12_comes 72 = .ok (.getfield 103, 3) := dc_180 (sg_at zd_dX12_comes_72 0 rfl rfl) rfl
theorem dX12_comes_75 : decode cX12_comes 75 = .ok (.bipush 28, 2) := dc_16 (sg_at zd_dX12_comes_72 1 rfl rfl) rfl
theorem dX12_comes_77 : decode cX12_comes 77 = .ok (.iload_n 1, 1) := dc_27 (sg_at zd_dX12_comes_72 2 rfl rfl)
theorem dX12_comes_78 : decode cX12_comes 78 = .ok (.imul, 1) := dc_104 (sg_at zd_dX12_comes_72 3 rfl rfl)
theorem dX12_comes_79 : decode cX12_comes 79 = .ok (.iload_n 2, 1) := dc_28 (sg_at zd_dX12_comes_72 4 rfl rfl)
theorem dX12_comes_80 : decode cX12_comes 80 = .ok (.iadd, 1) := dc_96 (sg_at zd_dX12_comes_72 5 rfl rfl)
theorem dX12_comes_81 : decode cX12_comes 81 = .ok (.iconst (-1), 1) := dc_2 (sg_at zd_dX12_comes_72 6 rfl rfl)
theorem dX12_comes_82 : decode cX12_comes 82 = .ok (.iastore, 1) := dc_79 (sg_at zd_dX12_comes_72 7 rfl rfl)
theorem dX12_comes_83 : decode cX12_comes 83 = .ok (.aload_n 0, 1) := dc_42 (sg_at zd_dX12_comes_72 8 rfl rfl)
theorem dX12_comes_84 : decode cX12_comes 84 = .ok (.getfield 112, 3) := dc_180 (sg_at zd_dX12_comes_72 9 rfl rfl) rfl
theorem dX12_comes_87 : decode cX12_comes 87 = .ok (.iload_n 1, 1) := dc_27 (sg_at zd_dX12_comes_72 10 rfl rfl)
theorem dX12_comes_88 : decode cX12_comes 88 = .ok (.dup2, 1) := dc_92 (sg_at zd_dX12_comes_72 11 rfl rfl)
theorem dX12_comes_89 : decode cX12_comes 89 = .ok (.iaload, 1) := dc_46 (sg_at zd_dX12_comes_72 12 rfl rfl)
theorem dX12_comes_90 : decode cX12_comes 90 = .ok (.iconst 1, 1) := dc_4 (sg_at zd_dX12_comes_72 13 rfl rfl)
theorem dX12_comes_91 : decode cX12_comes 91 = .ok (.iadd, 1) := dc_96 (sg_at zd_dX12_comes_72 14 rfl rfl)
theorem dX12_comes_92 : decode cX12_comes 92 = .ok (.iastore, 1) := dc_79 (sg_at zd_dX12_comes_72 15 rfl rfl)
theorem dX12_comes_93 : decode cX12_comes 93 = .ok (.return_, 1) := dc_177 (sg_at zd_dX12_comes_72 16 rfl rfl)
theorem dX12_comes_94 : decode cX12_comes 94 = .ok (.aload_n 0, 1) := dc_42 (sg_at zd_dX12_comes_72 17 rfl rfl)
theorem dX12_comes_95 : decode cX12_comes 95 = .ok (.getfield 118, 3) := dc_180 (sg_at zd_dX12_comes_72 18 rfl rfl) rfl
theorem dX12_comes_98 : decode cX12_comes 98 = .ok (.iload 4, 2) := dc_21 (sg_at zd_dX12_comes_72 19 rfl rfl)
theorem zd_dX12_comes_100 : sg (cX12_comes.data.toList.drop 100) [[46], [54, 5], [21, 4], [4], [96], [54, 6], [21, 6], [42], [180, 1, 177], [162, 0, 135], [42], [180, 0, 115], [154, 0, 7], [3], [167, 0, 15], [42], [180, 0, 39], [42], [180, 0, 118], [21, 6]] = true := by decide +kernel
theorem dX12_comes_100 : decode cX12_comes 100 = .ok (.iaload, 1) := dc_46 (sg_at zd_dX12_comes_100 0 rfl rfl)
theorem dX12_comes_101 : decode cX12_comes 101 = .ok (.istore 5, 2) := dc_54 (sg_at zd_dX12_comes_100 1 rfl rfl)
theorem dX12_comes_103 : decode cX12_comes 103 = .ok (.iload 4, 2) := dc_21 (sg_at zd_dX12_comes_100 2 rfl rfl)
theorem dX12_comes_105 : decode cX12_comes 105 = .ok (.iconst 1, 1) := dc_4 (sg_at zd_dX12_comes_100 3 rfl rfl)
theorem dX12_comes_106 : decode cX12_comes 106 = .ok (.iadd, 1) := dc_96 (sg_at zd_dX12_comes_100 4 rfl rfl)
theorem dX12_comes_107 : decode cX12_comes 107 = .ok (.istore 6, 2) := dc_54 (sg_at zd_dX12_comes_100 5 rfl rfl)
theorem dX12_comes_109 : decode cX12_comes 109 = .ok (.iload 6, 2) := dc_21 (sg_at zd_dX12_comes_100 6 rfl rfl)
theorem dX12_comes_111 : decode cX12_comes 111 = .ok (.aload_n 0, 1) := dc_42 (sg_at zd_dX12_comes_100 7 rfl rfl)
theorem dX12_comes_112 : decode cX12_comes 112 = .ok (.getfield 433, 3) := dc_180 (sg_at zd_dX12_comes_100 8 rfl rfl) rfl
theorem dX12_comes_115 : decode cX12_comes 115 = .ok (.if_icmp .ge 135, 3) := dc_162 (sg_at zd_dX12_comes_100 9 rfl rfl) rfl
theorem dX12_comes_118 : decode cX12_comes 118 = .ok (.aload_n 0, 1) := dc_42 (sg_at zd_dX12_comes_100 10 rfl rfl)
theorem dX12_comes_119 : decode cX12_comes 119 = .ok (.getfield 115, 3) := dc_180 (sg_at zd_dX12_comes_100 11 rfl rfl) rfl
theorem dX12_comes_122 : decode cX12_comes 122 = .ok (.ifCond .ne 7, 3) := dc_154 (sg_at zd_dX12_comes_100 12 rfl rfl) rfl
theorem dX12_comes_125 : decode cX12_comes 125 = .ok (.iconst 0, 1) := dc_3 (sg_at zd_dX12_comes_100 13 rfl rfl)
theorem dX12_comes_126 : decode cX12_comes 126 = .ok (.goto 15, 3) := dc_167 (sg_at zd_dX12_comes_100 14 rfl rfl) rfl
theorem dX12_comes_129 : decode cX12_comes 129 = .ok (.aload_n 0, 1) := dc_42 (sg_at zd_dX12_comes_100 15 rfl rfl)
theorem dX12_comes_130 : decode cX12_comes 130 = .ok (.getfield 39, 3) := dc_180 (sg_at zd_dX12_comes_100 16 rfl rfl) rfl
theorem dX12_comes_133 : decode cX12_comes 133 = .ok (.aload_n 0, 1) := dc_42 (sg_at zd_dX12_comes_100 17 rfl rfl)
theorem dX12_comes_134 : decode cX12_comes 134 = .ok (.getfield 118, 3) := dc_180 (sg_at zd_dX12_comes_100 18 rfl rfl) rfl
theorem dX12_comes_137 : decode cX12_comes 137 = .ok (.iload 6, 2) := dc_21 (sg_at zd_dX12_comes_100 19 rfl rfl)
theorem zd_dX12_comes_139 : sg (cX12_comes.data.toList.drop 139) [[46], [46], [54, 7], [21, 7], [153, 0, 99], [42], [16, 100], [182, 1, 200], [21, 7], [161, 0, 6], [167, 0, 85], [42], [180, 0, 103], [16, 28], [27], [104], [28], [96], [16, 253], [79]] = true := by decide +kernel
theorem dX12_comes_139 : decode cX12_comes 139 = .ok (.iaload, 1) := dc_46 (sg_at zd_dX12_comes_139 0 rfl rfl)
theorem dX12_comes_140 : decode cX12_comes 140 = .ok (.iaload, 1) := dc_46 (sg_at zd_dX12_comes_139 1 rfl rfl)
theorem dX12_comes_141 : decode cX12_comes 141 = .ok (.istore 7, 2) := dc_54 (sg_at zd_dX12_comes_139 2 rfl rfl)
theorem dX12_comes_143 : decode cX12_comes 143 = .ok (.iload 7, 2) := dc_21 (sg_at zd_dX12_comes_139 3 rfl rfl)
theorem dX12_comes_145 : decode cX12_comes 145 = .ok (.ifCond .eq 99, 3) := dc_153 (sg_at zd_dX12_comes_139 4 rfl rfl) rfl
theorem dX12_comes_148 : decode cX12_comes 148 = .ok (.aload_n 0, 1) := dc_42 (sg_at zd_dX12_comes_139 5 rfl rfl)
theorem dX12_comes_149 : decode cX12_comes 149 = .ok (.bipush 100, 2) := dc_16 (sg_at zd_dX12_comes_139 6 rfl rfl) rfl
theorem dX12_comes_151 : decode cX12_comes 151 = .ok (.invokevirtual 456, 3) := dc_182 (sg_at zd_dX12_comes_139 7 rfl rfl) rfl
theorem dX12_comes_154 : decode cX12_comes 154 = .ok (.iload 7, 2) := dc_21 (sg_at zd_dX12_comes_139 8 rfl rfl)
theorem dX12_comes_156 : decode cX12_comes 156 = .ok (.if_icmp .lt 6, 3) := dc_161 (sg_at zd_dX12_comes_139 9 rfl rfl) rfl
theorem dX12_comes_159 : decode cX12_comes 159 = .ok (.goto 85, 3) := dc_167 (sg_at zd_dX12_comes_139 10 rfl rfl) rfl
theorem dX12_comes_162 : decode cX12_comes 162 = .ok (.aload_n 0, 1) := dc_42 (sg_at zd_dX12_comes_139 11 rfl rfl)
theorem dX12_comes_163 : decode cX12_comes 163 = .ok (.getfield 103, 3) := dc_180 (sg_at zd_dX12_comes_139 12 rfl rfl) rfl
theorem dX12_comes_166 : decode cX12_comes 166 = .ok (.bipush 28, 2) := dc_16 (sg_at zd_dX12_comes_139 13 rfl rfl) rfl
theorem dX12_comes_168 : decode cX12_comes 168 = .ok (.iload_n 1, 1) := dc_27 (sg_at zd_dX12_comes_139 14 rfl rfl)
theorem dX12_comes_169 : decode cX12_comes 169 = .ok (.imul, 1) := dc_104 (sg_at zd_dX12_comes_139 15 rfl rfl)
theorem dX12_comes_170 : decode cX12_comes 170 = .ok (.iload_n 2, 1) := dc_28 (sg_at zd_dX12_comes_139 16 rfl rfl)
theorem dX12_comes_171 : decode cX12_comes 171 = .ok (.iadd, 1) := dc_96 (sg_at zd_dX12_comes_139 17 rfl rfl)
theorem dX12_comes_172 : decode cX12_comes 172 = .ok (.bipush (-3), 2) := dc_16 (sg_at zd_dX12_comes_139 18 rfl rfl) rfl
theorem dX12_comes_174 : decode cX12_comes 174 = .ok (.iastore, 1) := dc_79 (sg_at zd_dX12_comes_139 19 rfl rfl)
theorem zd_dX12_comes_175 : sg (cX12_comes.data.toList.drop 175) [[42], [180, 0, 109], [27], [92], [46], [4], [96], [79], [42], [180, 0, 94], [8], [27], [104], [21, 5], [96], [92], [46], [4], [96], [79]] = true := by decide +kernel
theorem dX12_comes_175 : decode cX12_comes 175 = .ok (.aload_n 0, 1) := dc_42 (sg_at zd_dX12_comes_175 0 rfl rfl)
theorem dX12_comes_176 : decode cX12_comes 176 = .ok (.getfield 109, 3) := dc_180 (sg_at zd_dX12_comes_175 1 rfl rfl) rfl
theorem dX12_comes_179 : decode cX12_comes 179 = .ok (.iload_n 1, 1) := dc_27 (sg_at zd_dX12_comes_175 2 rfl rfl)
theorem dX12_comes_180 : decode cX12_comes 180 = .ok (.dup2, 1) := dc_92 (sg_at zd_dX12_comes_175 3 rfl rfl)
theorem dX12_comes_181 : decode cX12_comes 181 = .ok (.iaload, 1) := dc_46 (sg_at zd_dX12_comes_175 4 rfl rfl)
theorem dX12_comes_182 : decode cX12_comes 182 = .ok (.iconst 1, 1) := dc_4 (sg_at zd_dX12_comes_175 5 rfl rfl)
theorem dX12_comes_183 : decode cX12_comes 183 = .ok (.iadd, 1) := dc_96 (sg_at zd_dX12_comes_175 6 rfl rfl)
theorem dX12_comes_184 : decode cX12_comes 184 = .ok (.iastore, 1) := dc_79 (sg_at zd_dX12_comes_175 7 rfl rfl)
theorem dX12_comes_185 : decode cX12_comes 185 = .ok (.aload_n 0, 1) := dc_42 (sg_at zd_dX12_comes_175 8 rfl rfl)
theorem dX12_comes_186 : decode cX12_comes 186 = .ok (.getfield 94, 3) := dc_180 (sg_at zd_dX12_comes_175 9 rfl rfl) rfl
theorem dX12_comes_189 : decode cX12_comes 189 = .ok (.iconst 5, 1) := dc_8 (sg_at zd_dX12_comes_175 10 rfl rfl)
theorem dX12_comes_190 : decode cX12_comes 190 = .ok (.iload_n 1, 1) := dc_27 (sg_at zd_dX12_comes_175 11 rfl rfl)
theorem dX12_comes_191 : decode cX12_comes 191 = .ok (.imul, 1) := dc_104 (sg_at zd_dX12_comes_175 12 rfl rfl)
theorem dX12_comes_192 : decode cX12_comes 192 = .ok (.iload 5, 2) := dc_21 (sg_at zd_dX12_comes_175 13 rfl rfl)
theorem dX12_comes_194 : decode cX12_comes 194 = .ok (.iadd, 1) := dc_96 (sg_at zd_dX12_comes_175 14 rfl rfl)
theorem dX12_comes_195 : decode cX12_comes 195 = .ok (.dup2, 1) := dc_92 (sg_at zd_dX12_comes_175 15 rfl rfl)
theorem dX12_comes_196 : decode cX12_comes 196 = .ok (.iaload, 1) := dc_46 (sg_at zd_dX12_comes_175 16 rfl rfl)
theorem dX12_comes_197 : decode cX12_comes 197 = .ok (.iconst 1, 1) := dc_4 (sg_at zd_dX12_comes_175 17 rfl rfl)
theorem dX12_comes_198 : decode cX12_comes 198 = .ok (.iadd, 1) := dc_96 (sg_at zd_dX12_comes_175 18 rfl rfl)
theorem dX12_comes_199 : decode cX12_comes 199 = .ok (.iastore, 1) := dc_79 (sg_at zd_dX12_comes_175 19 rfl rfl)
theorem zd_dX12_comes_200 : sg (cX12_comes.data.toList.drop 200) [[42], [180, 0, 94], [8], [27], [104], [42], [180, 0, 118], [21, 6], [46], [96], [92], [46], [4], [96], [79], [42], [27], [21, 5], [28], [5]] = true := by decide +kernel
theorem dX12_comes_200 : decode cX12_comes 200 = .ok (.aload_n 0, 1) := dc_42 (sg_at zd_dX12_comes_200 0 rfl rfl)
theorem dX12_comes_201 : decode cX12_comes 201 = .ok (.getfield 94, 3) := dc_180 (sg_at zd_dX12_comes_200 1 rfl rfl) rfl
theorem dX12_comes_204 : decode cX12_comes 204 = .ok (.iconst 5, 1) := dc_8 (sg_at zd_dX12_comes_200 2 rfl rfl)
theorem dX12_comes_205 : decode cX12_comes 205 = .ok (.iload_n 1, 1) := dc_27 (sg_at zd_dX12_comes_200 3 rfl rfl)
theorem dX12_comes_206 : decode cX12_comes 206 = .ok (.imul, 1) := dc_104 (sg_at zd_dX12_comes_200 4 rfl rfl)
theorem dX12_comes_207 : decode cX12_comes 207 = .ok (.aload_n 0, 1) := dc_42 (sg_at zd_dX12_comes_200 5 rfl rfl)
theorem dX12_comes_208 : decode cX12_comes 208 = .ok (.getfield 118, 3) := dc_180 (sg_at zd_dX12_comes_200 6 rfl rfl) rfl
theorem dX12_comes_211 : decode cX12_comes 211 = .ok (.iload 6, 2) := dc_21 (sg_at zd_dX12_comes_200 7 rfl rfl)
theorem dX12_comes_213 : decode cX12_comes 213 = .ok (.iaload, 1) := dc_46 (sg_at zd_dX12_comes_200 8 rfl rfl)
theorem dX12_comes_214 : decode cX12_comes 214 = .ok (.iadd, 1) := dc_96 (sg_at zd_dX12_comes_200 9 rfl rfl)
theorem dX12_comes_215 : decode cX12_comes 215 = .ok (.dup2, 1) := dc_92 (sg_at zd_dX12_comes_200 10 rfl rfl)
theorem dX12_comes_216 : decode cX12_comes 216 = .ok (.iaload, 1) := dc_46 (sg_at zd_dX12_comes_200 11 rfl rfl)
theorem dX12_comes_217 : decode cX12_comes 217 = .ok (.iconst 1, 1) := dc_4 (sg_at zd_dX12_comes_200 12 rfl rfl)
theorem dX12_comes_218 : decode cX12_comes 218 = .ok (.iadd, 1) := dc_96 (sg_at zd_dX12_comes_200 13 rfl rfl)
theorem dX12_comes_219 : decode cX12_comes 219 = .ok (.iastore, 1) := dc_79 (sg_at zd_dX12_comes_200 14 rfl rfl)
theorem dX12_comes_220 : decode cX12_comes 220 = .ok (.aload_n 0, 1) := dc_42 (sg_at zd_dX12_comes_200 15 rfl rfl)
theorem dX12_comes_221 : decode cX12_comes 221 = .ok (.iload_n 1, 1) := dc_27 (sg_at zd_dX12_comes_200 16 rfl rfl)
theorem dX12_comes_222 : decode cX12_comes 222 = .ok (.iload 5, 2) := dc_21 (sg_at zd_dX12_comes_200 17 rfl rfl)
theorem dX12_comes_224 : decode cX12_comes 224 = .ok (.iload_n 2, 1) := dc_28 (sg_at zd_dX12_comes_200 18 rfl rfl)
theorem dX12_comes_225 : decode cX12_comes 225 = .ok (.iconst 2, 1) := dc_5 (sg_at zd_dX12_comes_200 19 rfl rfl)
theorem zd_dX12_comes_226 : sg (cX12_comes.data.toList.drop 226) [[182, 1, 203], [42], [27], [42], [180, 0, 118], [21, 6], [46], [28], [5], [182, 1, 203], [177], [132, 6, 1], [167, 255, 118], [42], [180, 0, 103], [16, 28], [27], [104], [28], [96]] = true := by decide +kernel
theorem dX12_comes_226 : decode cX12_comes 226 = .ok (.invokevirtual 459, 3) := dc_182 (sg_at zd_dX12_comes_226 0 rfl rfl) rfl
theorem dX12_comes_229 : decode cX12_comes 229 = .ok (.aload_n 0, 1) := dc_42 (sg_at zd_dX12_comes_226 1 rfl rfl)
theorem dX12_comes_230 : decode cX12_comes 230 = .ok (.iload_n 1, 1) := dc_27 (sg_at zd_dX12_comes_226 2 rfl rfl)
theorem dX12_comes_231 : decode cX12_comes 231 = .ok (.aload_n 0, 1) := dc_42 (sg_at zd_dX12_comes_226 3 rfl rfl)
theorem dX12_comes_232 : decode cX12_comes 232 = .ok (.getfield 118, 3) := dc_180 (sg_at zd_dX12_comes_226 4 rfl rfl) rfl
theorem dX12_comes_235 : decode cX12_comes 235 = .ok (.iload 6, 2) := dc_21 (sg_at zd_dX12_comes_226 5 rfl rfl)
theorem dX12_comes_237 : decode cX12_comes 237 = .ok (.iaload, 1) := dc_46 (sg_at zd_dX12_comes_226 6 rfl rfl)
theorem dX12_comes_238 : decode cX12_comes 238 = .ok (.iload_n 2, 1) := dc_28 (sg_at zd_dX12_comes_226 7 rfl rfl)
theorem dX12_comes_239 : decode cX12_comes 239 = .ok (.iconst 2, 1) := dc_5 (sg_at zd_dX12_comes_226 8 rfl rfl)
theorem dX12_comes_240 : decode cX12_comes 240 = .ok (.invokevirtual 459, 3) := dc_182 (sg_at zd_dX12_comes_226 9 rfl rfl) rfl
theorem dX12_comes_243 : decode cX12_comes 243 = .ok (.return_, 1) := dc_177 (sg_at zd_dX12_comes_226 10 rfl rfl)
theorem dX12_comes_244 : decode cX12_comes 244 = .ok (.iinc 6 1, 3) := dc_132 (sg_at zd_dX12_comes_226 11 rfl rfl) rfl
theorem dX12_comes_247 : decode cX12_comes 247 = .ok (.goto (-138), 3) := dc_167 (sg_at zd_dX12_comes_226 12 rfl rfl) rfl
theorem dX12_comes_250 : decode cX12_comes 250 = .ok (.aload_n 0, 1) := dc_42 (sg_at zd_dX12_comes_226 13 rfl rfl)
theorem dX12_comes_251 : decode cX12_comes 251 = .ok (.getfield 103, 3) := dc_180 (sg_at zd_dX12_comes_226 14 rfl rfl) rfl
theorem dX12_comes_254 : decode cX12_comes 254 = .ok (.bipush 28, 2) := dc_16 (sg_at zd_dX12_comes_226 15 rfl rfl) rfl
theorem dX12_comes_256 : decode cX12_comes 256 = .ok (.iload_n 1, 1) := dc_27 (sg_at zd_dX12_comes_226 16 rfl rfl)
theorem dX12_comes_257 : decode cX12_comes 257 = .ok (.imul, 1) := dc_104 (sg_at zd_dX12_comes_226 17 rfl rfl)
theorem dX12_comes_258 : decode cX12_comes 258 = .ok (.iload_n 2, 1) := dc_28 (sg_at zd_dX12_comes_226 18 rfl rfl)
theorem dX12_comes_259 : decode cX12_comes 259 = .ok (.iadd, 1) := dc_96 (sg_at zd_dX12_comes_226 19 rfl rfl)
theorem zd_dX12_comes_260 : sg (cX12_comes.data.toList.drop 260) [[21, 5], [79], [42], [180, 0, 91], [8], [27], [104], [21, 5], [96], [92], [46], [4], [96], [79], [42], [27], [21, 5], [28], [4], [182, 1, 203]] = true := by decide +kernel
theorem dX12_comes_260 : decode cX12_comes 260 = .ok (.iload 5, 2) := dc_21 (sg_at zd_dX12_comes_260 0 rfl rfl)
theorem dX12_comes_262 : decode cX12_comes 262 = .ok (.iastore, 1) := dc_79 (sg_at zd_dX12_comes_260 1 rfl rfl)
theorem dX12_comes_263 : decode cX12_comes 263 = .ok (.aload_n 0, 1) := dc_42 (sg_at zd_dX12_comes_260 2 rfl rfl)
theorem dX12_comes_264 : decode cX12_comes 264 = .ok (.getfield 91, 3) := dc_180 (sg_at zd_dX12_comes_260 3 rfl rfl) rfl
theorem dX12_comes_267 : decode cX12_comes 267 = .ok (.iconst 5, 1) := dc_8 (sg_at zd_dX12_comes_260 4 rfl rfl)
theorem dX12_comes_268 : decode cX12_comes 268 = .ok (.iload_n 1, 1) := dc_27 (sg_at zd_dX12_comes_260 5 rfl rfl)
theorem dX12_comes_269 : decode cX12_comes 269 = .ok (.imul, 1) := dc_104 (sg_at zd_dX12_comes_260 6 rfl rfl)
theorem dX12_comes_270 : decode cX12_comes 270 = .ok (.iload 5, 2) := dc_21 (sg_at zd_dX12_comes_260 7 rfl rfl)
theorem dX12_comes_272 : decode cX12_comes 272 = .ok (.iadd, 1) := dc_96 (sg_at zd_dX12_comes_260 8 rfl rfl)
theorem dX12_comes_273 : decode cX12_comes 273 = .ok (.dup2, 1) := dc_92 (sg_at zd_dX12_comes_260 9 rfl rfl)
theorem dX12_comes_274 : decode cX12_comes 274 = .ok (.iaload, 1) := dc_46 (sg_at zd_dX12_comes_260 10 rfl rfl)
theorem dX12_comes_275 : decode cX12_comes 275 = .ok (.iconst 1, 1) := dc_4 (sg_at zd_dX12_comes_260 11 rfl rfl)
theorem dX12_comes_276 : decode cX12_comes 276 = .ok (.iadd, 1) := dc_96 (sg_at zd_dX12_comes_260 12 rfl rfl)
theorem dX12_comes_277 : decode cX12_comes 277 = .ok (.iastore, 1) := dc_79 (sg_at zd_dX12_comes_260 13 rfl rfl)
theorem dX12_comes_278 : decode cX12_comes 278 = .ok (.aload_n 0, 1) := dc_42 (sg_at zd_dX12_comes_260 14 rfl rfl)
theorem dX12_comes_279 : decode cX12_comes 279 = .ok (.iload_n 1, 1) := dc_27 (sg_at zd_dX12_comes_260 15 rfl rfl)
theorem dX12_comes_280 : decode cX12_comes 280 = .ok (.iload 5, 2) := dc_21 (sg_at zd_dX12_comes_260 16 rfl rfl)
theorem dX12_comes_282 : decode cX12_comes 282 = .ok (.iload_n 2, 1) := dc_28 (sg_at zd_dX12_comes_260 17 rfl rfl)
theorem dX12_comes_283 : decode cX12_comes 283 = .ok (.iconst 1, 1) := dc_4 (sg_at zd_dX12_comes_260 18 rfl rfl)
theorem dX12_comes_284 : decode cX12_comes 284 = .ok (.invokevirtual 459, 3) := dc_182 (sg_at zd_dX12_comes_260 19 rfl rfl) rfl
theorem zd_dX12_comes_287 : sg (cX12_comes.data.toList.drop 287) [[177]] = true := by decide +kernel
theorem dX12_comes_287 : decode cX12_comes 287 = .ok (.return_, 1) := dc_177 (sg_at zd_dX12_comes_287 0 rfl rfl)
theorem zd_dX12_aMinute_0 : sg (cX12_aMinute.data.toList.drop 0) [[3], [62], [29], [42], [180, 0, 253], [162, 0, 31], [42], [180, 0, 48], [29], [46], [42], [180, 0, 106], [27], [46], [160, 0, 10], [42], [27], [29], [28], [182, 1, 207]] = true := by decide +kernel
theorem dX12_aMinute_0 : decode cX12_aMinute 0 = .ok (.iconst 0, 1) := dc_3 (sg_at zd_dX12_aMinute_0 0 rfl rfl)
theorem dX12_aMinute_1 : decode cX12_aMinute 1 = .ok (.istore_n 3, 1) := dc_62 (sg_at zd_dX12_aMinute_0 1 rfl rfl)
theorem dX12_aMinute_2 : decode cX12_aMinute 2 = .ok (.iload_n 3, 1) := dc_29 (sg_at zd_dX12_aMinute_0 2 rfl rfl)
theorem dX12_aMinute_3 : decode cX12_aMinute 3 = .ok (.aload_n 0, 1) := dc_42 (sg_at zd_dX12_aMinute_0 3 rfl rfl)
theorem dX12_aMinute_4 : decode cX12_aMinute 4 = .ok (.getfield 253, 3) := dc_180 (sg_at zd_dX12_aMinute_0 4 rfl rfl) rfl
theorem dX12_aMinute_7 : decode cX12_aMinute 7 = .ok (.if_icmp .ge 31, 3) := dc_162 (sg_at zd_dX12_aMinute_0 5 rfl rfl) rfl
theorem dX12_aMinute_10 : decode cX12_aMinute 10 = .ok (.aload_n 0, 1) := dc_42 (sg_at zd_dX12_aMinute_0 6 rfl rfl)
theorem dX12_aMinute_11 : decode cX12_aMinute 11 = .ok (.getfield 48, 3) := dc_180 (sg_at zd_dX12_aMinute_0 7 rfl rfl) rfl
theorem dX12_aMinute_14 : decode cX12_aMinute 14 = .ok (.iload_n 3, 1) := dc_29 (sg_at zd_dX12_aMinute_0 8 rfl rfl)
theorem dX12_aMinute_15 : decode cX12_aMinute 15 = .ok (.iaload, 1) := dc_46 (sg_at zd_dX12_aMinute_0 9 rfl rfl)
theorem dX12_aMinute_16 : decode cX12_aMinute 16 = .ok (.aload_n 0, 1) := dc_42 (sg_at zd_dX12_aMinute_0 10 rfl rfl)
theorem dX12_aMinute_17 : decode cX12_aMinute 17 = .ok (.getfield 106, 3) := dc_180 (sg_at zd_dX12_aMinute_0 11 rfl rfl) rfl
theorem dX12_aMinute_20 : decode cX12_aMinute 20 = .ok (.iload_n 1, 1) := dc_27 (sg_at zd_dX12_aMinute_0 12 rfl rfl)
theorem dX12_aMinute_21 : decode cX12_aMinute 21 = .ok (.iaload, 1) := dc_46 (sg_at zd_dX12_aMinute_0 13 rfl rfl)
theorem dX12_aMinute_22 : decode cX12_aMinute 22 = .ok (.if_icmp .ne 10, 3) := dc_160 (sg_at zd_dX12_aMinute_0 14 rfl rfl) rfl
theorem dX12_aMinute_25 : decode cX12_aMinute 25 = .ok (.aload_n 0, 1) := dc_42 (sg_at zd_dX12_aMinute_0 15 rfl rfl)
theorem dX12_aMinute_26 : decode cX12_aMinute 26 = .ok (.iload_n 1, 1) := dc_27 (sg_at zd_dX12_aMinute_0 16 rfl rfl)
theorem dX12_aMinute_27 : decode cX12_aMinute 27 = .ok (.iload_n 3, 1) := dc_29 (sg_at zd_dX12_aMinute_0 17 rfl rfl)
theorem dX12_aMinute_28 : decode cX12_aMinute 28 = .ok (.iload_n 2, 1) := dc_28 (sg_at zd_dX12_aMinute_0 18 rfl rfl)
theorem dX12_aMinute_29 : decode cX12_aMinute 29 = .ok (.invokevirtual 463, 3) := dc_182 (sg_at zd_dX12_aMinute_0 19 rfl rfl) rfl
theorem zd_dX12_aMinute_32 : sg (cX12_aMinute.data.toList.drop 32) [[132, 3, 1], [167, 255, 223], [42], [180, 0, 106], [27], [92], [46], [4], [96], [79], [3], [62], [29], [42], [180, 0, 247], [162, 0, 39], [42], [180, 0, 97], [8], [27]] = true := by decide +kernel
theorem dX12_aMinute_32 : decode cX12_aMinute 32 = .ok (.iinc 3 1, 3) := dc_132 (sg_at zd_dX12_aMinute_32 0 rfl rfl) rfl
theorem dX12_aMinute_35 : decode cX12_aMinute 35 = .ok (.goto (-33), 3) := dc_167 (sg_at zd_dX12_aMinute_32 1 rfl rfl) rfl
theorem dX12_aMinute_38 : decode cX12_aMinute 38 = .ok (.aload_n 0, 1) := dc_42 (sg_at zd_dX12_aMinute_32 2 rfl rfl)
theorem dX12_aMinute_39 : decode cX12_aMinute 39 = .ok (.getfield 106, 3) := dc_180 (sg_at zd_dX12_aMinute_32 3 rfl rfl) rfl
theorem dX12_aMinute_42 : decode cX12_aMinute 42 = .ok (.iload_n 1, 1) := dc_27 (sg_at zd_dX12_aMinute_32 4 rfl rfl)
theorem dX12_aMinute_43 : decode cX12_aMinute 43 = .ok (.dup2, 1) := dc_92 (sg_at zd_dX12_aMinute_32 5 rfl rfl)
theorem dX12_aMinute_44 : decode cX12_aMinute 44 = .ok (.iaload, 1) := dc_46 (sg_at zd_dX12_aMinute_32 6 rfl rfl)
theorem dX12_aMinute_45 : decode cX12_aMinute 45 = .ok (.iconst 1, 1) := dc_4 (sg_at zd_dX12_aMinute_32 7 rfl rfl)
theorem dX12_aMinute_46 : decode cX12_aMinute 46 = .ok (.iadd, 1) := dc_96 (sg_at zd_dX12_aMinute_32 8 rfl rfl)
theorem dX12_aMinute_47 : decode cX12_aMinute 47 = .ok (.iastore, 1) := dc_79 (sg_at zd_dX12_aMinute_32 9 rfl rfl)
theorem dX12_aMinute_48 : decode cX12_aMinute 48 = .ok (.iconst 0, 1) := dc_3 (sg_at zd_dX12_aMinute_32 10 rfl rfl)
theorem dX12_aMinute_49 : decode cX12_aMinute 49 = .ok (.istore_n 3, 1) := dc_62 (sg_at zd_dX12_aMinute_32 11 rfl rfl)
theorem dX12_aMinute_50 : decode cX12_aMinute 50 = .ok (.iload_n 3, 1) := dc_29 (sg_at zd_dX12_aMinute_32 12 rfl rfl)
theorem dX12_aMinute_51 : decode cX12_aMinute 51 = .ok (.aload_n 0, 1) := dc_42 (sg_at zd_dX12_aMinute_32 13 rfl rfl)
theorem dX12_aMinute_52 : decode cX12_aMinute 52 = .ok (.getfield 247, 3) := dc_180 (sg_at zd_dX12_aMinute_32 14 rfl rfl) rfl
theorem dX12_aMinute_55 : decode cX12_aMinute 55 = .ok (.if_icmp .ge 39, 3) := dc_162 (sg_at zd_dX12_aMinute_32 15 rfl rfl) rfl
theorem dX12_aMinute_58 : decode cX12_aMinute 58 = .ok (.aload_n 0, 1) := dc_42 (sg_at zd_dX12_aMinute_32 16 rfl rfl)
theorem dX12_aMinute_59 : decode cX12_aMinute 59 = .ok (.getfield 97, 3) := dc_180 (sg_at zd_dX12_aMinute_32 17 rfl rfl) rfl
theorem dX12_aMinute_62 : decode cX12_aMinute 62 = .ok (.iconst 5, 1) := dc_8 (sg_at zd_dX12_aMinute_32 18 rfl rfl)
theorem dX12_aMinute_63 : decode cX12_aMinute 63 = .ok (.iload_n 1, 1) := dc_27 (sg_at zd_dX12_aMinute_32 19 rfl rfl)
theorem zd_dX12_aMinute_64 : sg (cX12_aMinute.data.toList.drop 64) [[104], [29], [96], [46], [42], [180, 0, 106], [27], [46], [160, 0, 14], [42], [180, 0, 97], [8], [27], [104], [29], [96], [3], [79], [132, 3, 1], [167, 255, 215]] = true := by decide +kernel
theorem dX12_aMinute_64 : decode cX12_aMinute 64 = .ok (.imul, 1) := dc_104 (sg_at zd_dX12_aMinute_64 0 rfl rfl)
theorem dX12_aMinute_65 : decode cX12_aMinute 65 = .ok (.iload_n 3, 1) := dc_29 (sg_at zd_dX12_aMinute_64 1 rfl rfl)
theorem dX12_aMinute_66 : decode cX12_aMinute 66 = .ok (.iadd, 1) := dc_96 (sg_at zd_dX12_aMinute_64 2 rfl rfl)
theorem dX12_aMinute_67 : decode cX12_aMinute 67 = .ok (.iaload, 1) := dc_46 (sg_at zd_dX12_aMinute_64 3 rfl rfl)
theorem dX12_aMinute_68 : decode cX12_aMinute 68 = .ok (.aload_n 0, 1) := dc_42 (sg_at zd_dX12_aMinute_64 4 rfl rfl)
theorem dX12_aMinute_69 : decode cX12_aMinute 69 = .ok (.getfield 106, 3) := dc_180 (sg_at zd_dX12_aMinute_64 5 rfl rfl) rfl
theorem dX12_aMinute_72 : decode cX12_aMinute 72 = .ok (.iload_n 1, 1) := dc_27 (sg_at zd_dX12_aMinute_64 6 rfl rfl)
theorem dX12_aMinute_73 : decode cX12_aMinute 73 = .ok (.iaload, 1) := dc_46 (sg_at zd_dX12_aMinute_64 7 rfl rfl)
theorem dX12_aMinute_74 : decode cX12_aMinute 74 = .ok (.if_icmp .ne 14, 3) := dc_160 (sg_at zd_dX12_aMinute_64 8 rfl rfl) rfl
theorem dX12_aMinute_77 : decode cX12_aMinute 77 = .ok (.aload_n 0, 1) := dc_42 (sg_at zd_dX12_aMinute_64 9 rfl rfl)
theorem dX12_aMinute_78 : decode cX12_aMinute 78 = .ok (.getfield 97, 3) := dc_180 (sg_at zd_dX12_aMinute_64 10 rfl rfl) rfl
theorem dX12_aMinute_81 : decode cX12_aMinute 81 = .ok (.iconst 5, 1) := dc_8 (sg_at zd_dX12_aMinute_64 11 rfl rfl)
theorem dX12_aMinute_82 : decode cX12_aMinute 82 = .ok (.iload_n 1, 1) := dc_27 (sg_at zd_dX12_aMinute_64 12 rfl rfl)
theorem dX12_aMinute_83 : decode cX12_aMinute 83 = .ok (.imul, 1) := dc_104 (sg_at zd_dX12_aMinute_64 13 rfl rfl)
theorem dX12_aMinute_84 : decode cX12_aMinute 84 = .ok (.iload_n 3, 1) := dc_29 (sg_at zd_dX12_aMinute_64 14 rfl rfl)
theorem dX12_aMinute_85 : decode cX12_aMinute 85 = .ok (.iadd, 1) := dc_96 (sg_at zd_dX12_aMinute_64 15 rfl rfl)
theorem dX12_aMinute_86 : decode cX12_aMinute 86 = .ok (.iconst 0, 1) := dc_3 (sg_at zd_dX12_aMinute_64 16 rfl rfl)
theorem dX12_aMinute_87 : decode cX12_aMinute 87 = .ok (.iastore, 1) := dc_79 (sg_at zd_dX12_aMinute_64 17 rfl rfl)
theorem dX12_aMinute_88 : decode cX12_aMinute 88 = .ok (.iinc 3 1, 3) := dc_132 (sg_at zd_dX12_aMinute_64 18 rfl rfl) rfl
theorem dX12_aMinute_91 : decode cX12_aMinute 91 = .ok (.goto (-41), 3) := dc_167 (sg_at zd_dX12_aMinute_64 19 rfl rfl) rfl
theorem zd_dX12_aMinute_94 : sg (cX12_aMinute.data.toList.drop 94) [[177]] = true := by decide +kernel
theorem dX12_aMinute_94 : decode cX12_aMinute 94 = .ok (.return_, 1) := dc_177 (sg_at zd_dX12_aMinute_94 0 rfl rfl)
theorem zd_dX12_allHad_0 : sg (cX12_allHad.data.toList.drop 0) [[3], [61], [3], [62], [29], [42], [180, 0, 247], [162, 0, 22], [28], [42], [180, 0, 91], [8], [27], [104], [29], [96], [46], [96], [61], [132, 3, 1]] = true := by decide +kernel
theorem dX12_allHad_0 : decode cX12_allHad 0 = .ok (.iconst 0, 1) := dc_3 (sg_at zd_dX12_allHad_0 0 rfl rfl)
theorem dX12_allHad_1 : decode cX12_allHad 1 = .ok (.istore_n 2, 1) := dc_61 (sg_at zd_dX12_allHad_0 1 rfl rfl)
theorem dX12_allHad_2 : decode cX12_allHad 2 = .ok (.iconst 0, 1) := dc_3 (sg_at zd_dX12_allHad_0 2 rfl rfl)
theorem dX12_allHad_3 : decode cX12_allHad 3 = .ok (.istore_n 3, 1) := dc_62 (sg_at zd_dX12_allHad_0 3 rfl rfl)
theorem dX12_allHad_4 : decode cX12_allHad 4 = .ok (.iload_n 3, 1) := dc_29 (sg_at zd_dX12_allHad_0 4 rfl rfl)
theorem dX12_allHad_5 : decode cX12_allHad 5 = .ok (.aload_n 0, 1) := dc_42 (sg_at zd_dX12_allHad_0 5 rfl rfl)
theorem dX12_allHad_6 : decode cX12_allHad 6 = .ok (.getfield 247, 3) := dc_180 (sg_at zd_dX12_allHad_0 6 rfl rfl) rfl
theorem dX12_allHad_9 : decode cX12_allHad 9 = .ok (.if_icmp .ge 22, 3) := dc_162 (sg_at zd_dX12_allHad_0 7 rfl rfl) rfl
theorem dX12_allHad_12 : decode cX12_allHad 12 = .ok (.iload_n 2, 1) := dc_28 (sg_at zd_dX12_allHad_0 8 rfl rfl)
theorem dX12_allHad_13 : decode cX12_allHad 13 = .ok (.aload_n 0, 1) := dc_42 (sg_at zd_dX12_allHad_0 9 rfl rfl)
theorem dX12_allHad_14 : decode cX12_allHad 14 = .ok (.getfield 91, 3) := dc_180 (sg_at zd_dX12_allHad_0 10 rfl rfl) rfl
theorem dX12_allHad_17 : decode cX12_allHad 17 = .ok (.iconst 5, 1) := dc_8 (sg_at zd_dX12_allHad_0 11 rfl rfl)
theorem dX12_allHad_18 : decode cX12_allHad 18 = .ok (.iload_n 1, 1) := dc_27 (sg_at zd_dX12_allHad_0 12 rfl rfl)
theorem dX12_allHad_19 : decode cX12_allHad 19 = .ok (.imul, 1) := dc_104 (sg_at zd_dX12_allHad_0 13 rfl rfl)
theorem dX12_allHad_20 : decode cX12_allHad 20 = .ok (.iload_n 3, 1) := dc_29 (sg_at zd_dX12_allHad_0 14 rfl rfl)
theorem dX12_allHad_21 : decode cX12_allHad 21 = .ok (.iadd, 1) := dc_96 (sg_at zd_dX12_allHad_0 15 rfl rfl)
theorem dX12_allHad_22 : decode cX12_allHad 22 = .ok (.iaload, 1) := dc_46 (sg_at zd_dX12_allHad_0 16 rfl rfl)
theorem dX12_allHad_23 : decode cX12_allHad 23 = .ok (.iadd, 1) := dc_96 (sg_at zd_dX12_allHad_0 17 rfl rfl)
theorem dX12_allHad_24 : decode cX12_allHad 24 = .ok (.istore_n 2, 1) := dc_61 (sg_at zd_dX12_allHad_0 18 rfl rfl)
theorem dX12_allHad_25 : decode cX12_allHad 25 = .ok (.iinc 3 1, 3) := dc_132 (sg_at zd_dX12_allHad_0 19 rfl rfl) rfl
theorem zd_dX12_allHad_28 : sg (cX12_allHad.data.toList.drop 28) [[167, 255, 232], [28], [172]] = true := by decide +kernel
theorem dX12_allHad_28 : decode cX12_allHad 28 = .ok (.goto (-24), 3) := dc_167 (sg_at zd_dX12_allHad_28 0 rfl rfl) rfl
theorem dX12_allHad_31 : decode cX12_allHad 31 = .ok (.iload_n 2, 1) := dc_28 (sg_at zd_dX12_allHad_28 1 rfl rfl)
theorem dX12_allHad_32 : decode cX12_allHad 32 = .ok (.ireturn, 1) := dc_172 (sg_at zd_dX12_allHad_28 2 rfl rfl)
theorem zd_dX12_back_0 : sg (cX12_back.data.toList.drop 0) [[42], [3], [181, 0, 154], [42], [180, 1, 126], [154, 0, 5], [2], [172], [3], [60], [27], [8], [162, 0, 80], [42], [180, 0, 88], [27], [42], [180, 0, 145], [27], [46]] = true := by decide +kernel
theorem dX12_back_0 : decode cX12_back 0 = .ok (.aload_n 0, 1) := dc_42 (sg_at zd_dX12_back_0 0 rfl rfl)
theorem dX12_back_1 : decode cX12_back 1 = .ok (.iconst 0, 1) := dc_3 (sg_at zd_dX12_back_0 1 rfl rfl)
theorem dX12_back_2 : decode cX12_back 2 = .ok (.putfield 154, 3) := dc_181 (sg_at zd_dX12_back_0 2 rfl rfl) rfl
theorem dX12_back_5 : decode cX12_back 5 = .ok (.aload_n 0, 1) := dc_42 (sg_at zd_dX12_back_0 3 rfl rfl)
theorem dX12_back_6 : decode cX12_back 6 = .ok (.getfield 382, 3) := dc_180 (sg_at zd_dX12_back_0 4 rfl rfl) rfl
theorem dX12_back_9 : decode cX12_back 9 = .ok (.ifCond .ne 5, 3) := dc_154 (sg_at zd_dX12_back_0 5 rfl rfl) rfl
theorem dX12_back_12 : decode cX12_back 12 = .ok (.iconst (-1), 1) := dc_2 (sg_at zd_dX12_back_0 6 rfl rfl)
theorem dX12_back_13 : decode cX12_back 13 = .ok (.ireturn, 1) := dc_172 (sg_at zd_dX12_back_0 7 rfl rfl)
theorem dX12_back_14 : decode cX12_back 14 = .ok (.iconst 0, 1) := dc_3 (sg_at zd_dX12_back_0 8 rfl rfl)
theorem dX12_back_15 : decode cX12_back 15 = .ok (.istore_n 1, 1) := dc_60 (sg_at zd_dX12_back_0 9 rfl rfl)
theorem dX12_back_16 : decode cX12_back 16 = .ok (.iload_n 1, 1) := dc_27 (sg_at zd_dX12_back_0 10 rfl rfl)
theorem dX12_back_17 : decode cX12_back 17 = .ok (.iconst 5, 1) := dc_8 (sg_at zd_dX12_back_0 11 rfl rfl)
theorem dX12_back_18 : decode cX12_back 18 = .ok (.if_icmp .ge 80, 3) := dc_162 (sg_at zd_dX12_back_0 12 rfl rfl) rfl
theorem dX12_back_21 : decode cX12_back 21 = .ok (.aload_n 0, 1) := dc_42 (sg_at zd_dX12_back_0 13 rfl rfl)
theorem dX12_back_22 : decode cX12_back 22 = .ok (.getfield 88, 3) := dc_180 (sg_at zd_dX12_back_0 14 rfl rfl) rfl
theorem dX12_back_25 : decode cX12_back 25 = .ok (.iload_n 1, 1) := dc_27 (sg_at zd_dX12_back_0 15 rfl rfl)
theorem dX12_back_26 : decode cX12_back 26 = .ok (.aload_n 0, 1) := dc_42 (sg_at zd_dX12_back_0 16 rfl rfl)
theorem dX12_back_27 : decode cX12_back 27 = .ok (.getfield 145, 3) := dc_180 (sg_at zd_dX12_back_0 17 rfl rfl) rfl
theorem dX12_back_30 : decode cX12_back 30 = .ok (.iload_n 1, 1) := dc_27 (sg_at zd_dX12_back_0 18 rfl rfl)
theorem dX12_back_31 : decode cX12_back 31 = .ok (.iaload, 1) := dc_46 (sg_at zd_dX12_back_0 19 rfl rfl)
theorem zd_dX12_back_32 : sg (cX12_back.data.toList.drop 32) [[79], [42], [180, 0, 91], [27], [42], [180, 0, 145], [8], [27], [96], [46], [79], [42], [180, 0, 94], [27], [42], [180, 0, 145], [16, 10], [27], [96], [46]] = true := by decide +kernel
theorem dX12_back_32 : decode cX12_back 32 = .ok (.iastore, 1) := dc_79 (sg_at zd_dX12_back_32 0 rfl rfl)
theorem dX12_back_33 : decode cX12_back 33 = .ok (.aload_n 0, 1) := dc_42 (sg_at zd_dX12_back_32 1 rfl rfl)
theorem dX12_back_34 : decode cX12_back 34 = .ok (.getfield 91, 3) := dc_180 (sg_at zd_dX12_back_32 2 rfl rfl) rfl
theorem dX12_back_37 : decode cX12_back 37 = .ok (.iload_n 1, 1) := dc_27 (sg_at zd_dX12_back_32 3 rfl rfl)
theorem dX12_back_38 : decode cX12_back 38 = .ok (.aload_n 0, 1) := dc_42 (sg_at zd_dX12_back_32 4 rfl rfl)
theorem dX12_back_39 : decode cX12_back 39 = .ok (.getfield 145, 3) := dc_180 (sg_at zd_dX12_back_32 5 rfl rfl) rfl
theorem dX12_back_42 : decode cX12_back 42 = .ok (.iconst 5, 1) := dc_8 (sg_at zd_dX12_back_32 6 rfl rfl)
theorem dX12_back_43 : decode cX12_back 43 = .ok (.iload_n 1, 1) := dc_27 (sg_at zd_dX12_back_32 7 rfl rfl)
theorem dX12_back_44 : decode cX12_back 44 = .ok (.iadd, 1) := dc_96 (sg_at zd_dX12_back_32 8 rfl rfl)
theorem dX12_back_45 : decode cX12_back 45 = .ok (.iaload, 1) := dc_46 (sg_at zd_dX12_back_32 9 rfl rfl)
theorem dX12_back_46 : decode cX12_back 46 = .ok (.iastore, 1) := dc_79 (sg_at zd_dX12_back_32 10 rfl rfl)
theorem dX12_back_47 : decode cX12_back 47 = .ok (.aload_n 0, 1) := dc_42 (sg_at zd_dX12_back_32 11 rfl rfl)
theorem dX12_back_48 : decode cX12_back 48 = .ok (.getfield 94, 3) := dc_180 (sg_at zd_dX12_back_32 12 rfl rfl) rfl
theorem dX12_back_51 : decode cX12_back 51 = .ok (.iload_n 1, 1) := dc_27 (sg_at zd_dX12_back_32 13 rfl rfl)
theorem dX12_back_52 : decode cX12_back 52 = .ok (.aload_n 0, 1) := dc_42 (sg_at zd_dX12_back_32 14 rfl rfl)
theorem dX12_back_53 : decode cX12_back 53 = .ok (.getfield 145, 3) := dc_180 (sg_at zd_dX12_back_32 15 rfl rfl) rfl
theorem dX12_back_56 : decode cX12_back 56 = .ok (.bipush 10, 2) := dc_16 (sg_at zd_dX12_back_32 16 rfl rfl) rfl
theorem dX12_back_58 : decode cX12_back 58 = .ok (.iload_n 1, 1) := dc_27 (sg_at zd_dX12_back_32 17 rfl rfl)
theorem dX12_back_59 : decode cX12_back 59 = .ok (.iadd, 1) := dc_96 (sg_at zd_dX12_back_32 18 rfl rfl)
theorem dX12_back_60 : decode cX12_back 60 = .ok (.iaload, 1) := dc_46 (sg_at zd_dX12_back_32 19 rfl rfl)
theorem zd_dX12_back_61 : sg (cX12_back.data.toList.drop 61) [[79], [42], [180, 0, 97], [27], [42], [180, 0, 145], [16, 15], [27], [96], [46], [79], [42], [180, 0, 100], [27], [42], [180, 0, 145], [16, 20], [27], [96], [46]] = true := by decide +kernel
theorem dX12_back_61 : decode cX12_back 61 = .ok (.iastore, 1) := dc_79 (sg_at zd_dX12_back_61 0 rfl rfl)
theorem dX12_back_62 : decode cX12_back 62 = .ok (.aload_n 0, 1) := dc_42 (sg_at zd_dX12_back_61 1 rfl rfl)
theorem dX12_back_63 : decode cX12_back 63 = .ok (.getfield 97, 3) := dc_180 (sg_at zd_dX12_back_61 2 rfl rfl) rfl
theorem dX12_back_66 : decode cX12_back 66 = .ok (.iload_n 1, 1) := dc_27 (sg_at zd_dX12_back_61 3 rfl rfl)
theorem dX12_back_67 : decode cX12_back 67 = .ok (.aload_n 0, 1) := dc_42 (sg_at zd_dX12_back_61 4 rfl rfl)
theorem dX12_back_68 : decode cX12_back 68 = .ok (.getfield 145, 3) := dc_180 (sg_at zd_dX12_back_61 5 rfl rfl) rfl
theorem dX12_back_71 : decode cX12_back 71 = .ok (.bipush 15, 2) := dc_16 (sg_at zd_dX12_back_61 6 rfl rfl) rfl
theorem dX12_back_73 : decode cX12_back 73 = .ok (.iload_n 1, 1) := dc_27 (sg_at zd_dX12_back_61 7 rfl rfl)
theorem dX12_back_74 : decode cX12_back 74 = .ok (.iadd, 1) := dc_96 (sg_at zd_dX12_back_61 8 rfl rfl)
theorem dX12_back_75 : decode cX12_back 75 = .ok (.iaload, 1) := dc_46 (sg_at zd_dX12_back_61 9 rfl rfl)
theorem dX12_back_76 : decode cX12_back 76 = .ok (.iastore, 1) := dc_79 (sg_at zd_dX12_back_61 10 rfl rfl)
theorem dX12_back_77 : decode cX12_back 77 = .ok (.aload_n 0, 1) := dc_42 (sg_at zd_dX12_back_61 11 rfl rfl)
theorem dX12_back_78 : decode cX12_back 78 = .ok (.getfield 100, 3) := dc_180 (sg_at zd_dX12_back_61 12 rfl rfl) rfl
theorem dX12_back_81 : decode cX12_back 81 = .ok (.iload_n 1, 1) := dc_27 (sg_at zd_dX12_back_61 13 rfl rfl)
theorem dX12_back_82 : decode cX12_back 82 = .ok (.aload_n 0, 1) := dc_42 (sg_at zd_dX12_back_61 14 rfl rfl)
theorem dX12_back_83 : decode cX12_back 83 = .ok (.getfield 145, 3) := dc_180 (sg_at zd_dX12_back_61 15 rfl rfl) rfl
theorem dX12_back_86 : decode cX12_back 86 = .ok (.bipush 20, 2) := dc_16 (sg_at zd_dX12_back_61 16 rfl rfl) rfl
theorem dX12_back_88 : decode cX12_back 88 = .ok (.iload_n 1, 1) := dc_27 (sg_at zd_dX12_back_61 17 rfl rfl)
theorem dX12_back_89 : decode cX12_back 89 = .ok (.iadd, 1) := dc_96 (sg_at zd_dX12_back_61 18 rfl rfl)
theorem dX12_back_90 : decode cX12_back 90 = .ok (.iaload, 1) := dc_46 (sg_at zd_dX12_back_61 19 rfl rfl)
theorem zd_dX12_back_91 : sg (cX12_back.data.toList.drop 91) [[79], [132, 1, 1], [167, 255, 177], [3], [60], [27], [16, 28], [162, 0, 24], [42], [180, 0, 103], [27], [42], [180, 0, 145], [16, 25], [27], [96], [46], [79], [132, 1, 1], [167, 255, 232]] = true := by decide +kernel
theorem dX12_back_91 : decode cX12_back 91 = .ok (.iastore, 1) := dc_79 (sg_at zd_dX12_back_91 0 rfl rfl)
theorem dX12_back_92 : decode cX12_back 92 = .ok (.iinc 1 1, 3) := dc_132 (sg_at zd_dX12_back_91 1 rfl rfl) rfl
theorem dX12_back_95 : decode cX12_back 95 = .ok (.goto (-79), 3) := dc_167 (sg_at zd_dX12_back_91 2 rfl rfl) rfl
theorem dX12_back_98 : decode cX12_back 98 = .ok (.iconst 0, 1) := dc_3 (sg_at zd_dX12_back_91 3 rfl rfl)
theorem dX12_back_99 : decode cX12_back 99 = .ok (.istore_n 1, 1) := dc_60 (sg_at zd_dX12_back_91 4 rfl rfl)
theorem dX12_back_100 : decode cX12_back 100 = .ok (.iload_n 1, 1) := dc_27 (sg_at zd_dX12_back_91 5 rfl rfl)
theorem dX12_back_101 : decode cX12_back 101 = .ok (.bipush 28, 2) := dc_16 (sg_at zd_dX12_back_91 6 rfl rfl) rfl
theorem dX12_back_103 : decode cX12_back 103 = .ok (.if_icmp .ge 24, 3) := dc_162 (sg_at zd_dX12_back_91 7 rfl rfl) rfl
theorem dX12_back_106 : decode cX12_back 106 = .ok (.aload_n 0, 1) := dc_42 (sg_at zd_dX12_back_91 8 rfl rfl)
theorem dX12_back_107 : decode cX12_back 107 = .ok (.getfield 103, 3) := dc_180 (sg_at zd_dX12_back_91 9 rfl rfl) rfl
theorem dX12_back_110 : decode cX12_back 110 = .ok (.iload_n 1, 1) := dc_27 (sg_at zd_dX12_back_91 10 rfl rfl)
theorem dX12_back_111 : decode cX12_back 111 = .ok (.aload_n 0, 1) := dc_42 (sg_at zd_dX12_back_91 11 rfl rfl)
theorem dX12_back_112 : decode cX12_back 112 = .ok (.getfield 145, 3) := dc_180 (sg_at zd_dX12_back_91 12 rfl rfl) rfl
theorem dX12_back_115 : decode cX12_back 115 = .ok (.bipush 25, 2) := dc_16 (sg_at zd_dX12_back_91 13 rfl rfl) rfl
theorem dX12_back_117 : decode cX12_back 117 = .ok (.iload_n 1, 1) := dc_27 (sg_at zd_dX12_back_91 14 rfl rfl)
theorem dX12_back_118 : decode cX12_back 118 = .ok (.iadd, 1) := dc_96 (sg_at zd_dX12_back_91 15 rfl rfl)
theorem dX12_back_119 : decode cX12_back 119 = .ok (.iaload, 1) := dc_46 (sg_at zd_dX12_back_91 16 rfl rfl)
theorem dX12_back_120 : decode cX12_back 120 = .ok (.iastore, 1) := dc_79 (sg_at zd_dX12_back_91 17 rfl rfl)
theorem dX12_back_121 : decode cX12_back 121 = .ok (.iinc 1 1, 3) := dc_132 (sg_at zd_dX12_back_91 18 rfl rfl) rfl
theorem dX12_back_124 : decode cX12_back 124 = .ok (.goto (-24), 3) := dc_167 (sg_at zd_dX12_back_91 19 rfl rfl) rfl
theorem zd_dX12_back_127 : sg (cX12_back.data.toList.drop 127) [[42], [180, 0, 106], [3], [42], [180, 2, 21], [79], [42], [42], [180, 2, 24], [181, 1, 113], [42], [180, 0, 109], [3], [42], [180, 2, 27], [79], [42], [180, 0, 112], [3], [42]] = true := by decide +kernel
theorem dX12_back_127 : decode cX12_back 127 = .ok (.aload_n 0, 1) := dc_42 (sg_at zd_dX12_back_127 0 rfl rfl)
theorem dX12_back_128 : decode cX12_back 128 = .ok (.getfield 106, 3) := dc_180 (sg_at zd_dX12_back_127 1 rfl rfl) rfl
theorem dX12_back_131 : decode cX12_back 131 = .ok (.iconst 0, 1) := dc_3 (sg_at zd_dX12_back_127 2 rfl rfl)
theorem dX12_back_132 : decode cX12_back 132 = .ok (.aload_n 0, 1) := dc_42 (sg_at zd_dX12_back_127 3 rfl rfl)
theorem dX12_back_133 : decode cX12_back 133 = .ok (.getfield 533, 3) := dc_180 (sg_at zd_dX12_back_127 4 rfl rfl) rfl
theorem dX12_back_136 : decode cX12_back 136 = .ok (.iastore, 1) := dc_79 (sg_at zd_dX12_back_127 5 rfl rfl)
theorem dX12_back_137 : decode cX12_back 137 = .ok (.aload_n 0, 1) := dc_42 (sg_at zd_dX12_back_127 6 rfl rfl)
theorem dX12_back_138 : decode cX12_back 138 = .ok (.aload_n 0, 1) := dc_42 (sg_at zd_dX12_back_127 7 rfl rfl)
theorem dX12_back_139 : decode cX12_back 139 = .ok (.getfield 536, 3) := dc_180 (sg_at zd_dX12_back_127 8 rfl rfl) rfl
theorem dX12_back_142 : decode cX12_back 142 = .ok (.putfield 369, 3) := dc_181 (sg_at zd_dX12_back_127 9 rfl rfl) rfl
theorem dX12_back_145 : decode cX12_back 145 = .ok (.aload_n 0, 1) := dc_42 (sg_at zd_dX12_back_127 10 rfl rfl)
theorem dX12_back_146 : decode cX12_back 146 = .ok (.getfield 109, 3) := dc_180 (sg_at zd_dX12_back_127 11 rfl rfl) rfl
theorem dX12_back_149 : decode cX12_back 149 = .ok (.iconst 0, 1) := dc_3 (sg_at zd_dX12_back_127 12 rfl rfl)
theorem dX12_back_150 : decode cX12_back 150 = .ok (.aload_n 0, 1) := dc_42 (sg_at zd_dX12_back_127 13 rfl rfl)
theorem dX12_back_151 : decode cX12_back 151 = .ok (.getfield 539, 3) := dc_180 (sg_at zd_dX12_back_127 14 rfl rfl) rfl
theorem dX12_back_154 : decode cX12_back 154 = .ok (.iastore, 1) := dc_79 (sg_at zd_dX12_back_127 15 rfl rfl)
theorem dX12_back_155 : decode cX12_back 155 = .ok (.aload_n 0, 1) := dc_42 (sg_at zd_dX12_back_127 16 rfl rfl)
theorem dX12_back_156 : decode cX12_back 156 = .ok (.getfield 112, 3) := dc_180 (sg_at zd_dX12_back_127 17 rfl rfl) rfl
theorem dX12_back_159 : decode cX12_back 159 = .ok (.iconst 0, 1) := dc_3 (sg_at zd_dX12_back_127 18 rfl rfl)
theorem dX12_back_160 : decode cX12_back 160 = .ok (.aload_n 0, 1) := dc_42 (sg_at zd_dX12_back_127 19 rfl rfl)
theorem zd_dX12_back_161 : sg (cX12_back.data.toList.drop 161) [[180, 2, 30], [79], [42], [42], [180, 2, 33], [181, 1, 116], [42], [3], [181, 1, 123], [42], [180, 0, 106], [3], [46], [172]] = true := by decide +kernel
theorem dX12_back_161 : decode cX12_back 161 = .ok (.getfield 542, 3) := dc_180 (sg_at zd_dX12_back_161 0 rfl rfl) rfl
theorem dX12_back_164 : decode cX12_back 164 = .ok (.iastore, 1) := dc_79 (sg_at zd_dX12_back_161 1 rfl rfl)
theorem dX12_back_165 : decode cX12_back 165 = .ok (.aload_n 0, 1) := dc_42 (sg_at zd_dX12_back_161 2 rfl rfl)
theorem dX12_back_166 : decode cX12_back 166 = .ok (.aload_n 0, 1) := dc_42 (sg_at zd_dX12_back_161 3 rfl rfl)
theorem dX12_back_167 : decode cX12_back 167 = .ok (.getfield 545, 3) := dc_180 (sg_at zd_dX12_back_161 4 rfl rfl) rfl
theorem dX12_back_170 : decode cX12_back 170 = .ok (.putfield 372, 3) := dc_181 (sg_at zd_dX12_back_161 5 rfl rfl) rfl
theorem dX12_back_173 : decode cX12_back 173 = .ok (.aload_n 0, 1) := dc_42 (sg_at zd_dX12_back_161 6 rfl rfl)
theorem dX12_back_174 : decode cX12_back 174 = .ok (.iconst 0, 1) := dc_3 (sg_at zd_dX12_back_161 7 rfl rfl)
theorem dX12_back_175 : decode cX12_back 175 = .ok (.putfield 379, 3) := dc_181 (sg_at zd_dX12_back_161 8 rfl rfl) rfl
theorem dX12_back_178 : decode cX12_back 178 = .ok (.aload_n 0, 1) := dc_42 (sg_at zd_dX12_back_161 9 rfl rfl)
theorem dX12_back_179 : decode cX12_back 179 = .ok (.getfield 106, 3) := dc_180 (sg_at zd_dX12_back_161 10 rfl rfl) rfl
theorem dX12_back_182 : decode cX12_back 182 = .ok (.iconst 0, 1) := dc_3 (sg_at zd_dX12_back_161 11 rfl rfl)
theorem dX12_back_183 : decode cX12_back 183 = .ok (.iaload, 1) := dc_46 (sg_at zd_dX12_back_161 12 rfl rfl)
theorem dX12_back_184 : decode cX12_back 184 = .ok (.ireturn, 1) := dc_172 (sg_at zd_dX12_back_161 13 rfl rfl)
theorem zd_dX12_isSmall_0 : sg (cX12_isSmall.data.toList.drop 0) [[27], [42], [180, 0, 166], [162, 0, 29], [42], [180, 0, 7], [27], [46], [16, 97], [161, 0, 18], [42], [180, 0, 7], [27], [46], [16, 122], [163, 0, 7], [4], [167, 0, 4], [3], [172]] = true := by decide +kernel
theorem dX12_isSmall_0 : decode cX12_isSmall 0 = .ok (.iload_n 1, 1) := dc_27 (sg_at zd_dX12_isSmall_0 0 rfl rfl)
theorem dX12_isSmall_1 : decode cX12_isSmall 1 = .ok (.aload_n 0, 1) := dc_42 (sg_at zd_dX12_isSmall_0 1 rfl rfl)
theorem dX12_isSmall_2 : decode cX12_isSmall 2 = .ok (.getfield 166, 3) := dc_180 (sg_at zd_dX12_isSmall_0 2 rfl rfl) rfl
theorem dX12_isSmall_5 : decode cX12_isSmall 5 = .ok (.if_icmp .ge 29, 3) := dc_162 (sg_at zd_dX12_isSmall_0 3 rfl rfl) rfl
theorem dX12_isSmall_8 : decode cX12_isSmall 8 = .ok (.aload_n 0, 1) := dc_42 (sg_at zd_dX12_isSmall_0 4 rfl rfl)
theorem dX12_isSmall_9 : decode cX12_isSmall 9 = .ok (.getfield 7, 3) := dc_180 (sg_at zd_dX12_isSmall_0 5 rfl rfl) rfl
theorem dX12_isSmall_12 : decode cX12_isSmall 12 = .ok (.iload_n 1, 1) := dc_27 (sg_at zd_dX12_isSmall_0 6 rfl rfl)
theorem dX12_isSmall_13 : decode cX12_isSmall 13 = .ok (.iaload, 1) := dc_46 (sg_at zd_dX12_isSmall_0 7 rfl rfl)
theorem dX12_isSmall_14 : decode cX12_isSmall 14 = .ok (.bipush 97, 2) := dc_16 (sg_at zd_dX12_isSmall_0 8 rfl rfl) rfl
theorem dX12_isSmall_16 : decode cX12_isSmall 16 = .ok (.if_icmp .lt 18, 3) := dc_161 (sg_at zd_dX12_isSmall_0 9 rfl rfl) rfl
theorem dX12_isSmall_19 : decode cX12_isSmall 19 = .ok (.aload_n 0, 1) := dc_42 (sg_at zd_dX12_isSmall_0 10 rfl rfl)
theorem dX12_isSmall_20 : decode cX12_isSmall 20 = .ok (.getfield 7, 3) := dc_180 (sg_at zd_dX12_isSmall_0 11 rfl rfl) rfl
theorem dX12_isSmall_23 : decode cX12_isSmall 23 = .ok (.iload_n 1, 1) := dc_27 (sg_at zd_dX12_isSmall_0 12 rfl rfl)
theorem dX12_isSmall_24 : decode cX12_isSmall 24 = .ok (.iaload, 1) := dc_46 (sg_at zd_dX12_isSmall_0 13 rfl rfl)
theorem dX12_isSmall_25 : decode cX12_isSmall 25 = .ok (.bipush 122, 2) := dc_16 (sg_at zd_dX12_isSmall_0 14 rfl rfl) rfl
theorem dX12_isSmall_27 : decode cX12_isSmall 27 = .ok (.if_icmp .gt 7, 3) := dc_163 (sg_at zd_dX12_isSmall_0 15 rfl rfl) rfl
theorem dX12_isSmall_30 : decode cX12_isSmall 30 = .ok (.iconst 1, 1) := dc_4 (sg_at zd_dX12_isSmall_0 16 rfl rfl)
theorem dX12_isSmall_31 : decode cX12_isSmall 31 = .ok (.goto 4, 3) := dc_167 (sg_at zd_dX12_isSmall_0 17 rfl rfl) rfl
theorem dX12_isSmall_34 : decode cX12_isSmall 34 = .ok (.iconst 0, 1) := dc_3 (sg_at zd_dX12_isSmall_0 18 rfl rfl)
theorem dX12_isSmall_35 : decode cX12_isSmall 35 = .ok (.ireturn, 1) := dc_172 (sg_at zd_dX12_isSmall_0 19 rfl rfl)
theorem zd_dX12_wordAt_0 : sg (cX12_wordAt.data.toList.drop 0) [[3], [62], [3], [54, 4], [21, 4], [42], [180, 0, 13], [190], [162, 0, 114], [3], [54, 5], [42], [180, 0, 13], [21, 4], [21, 5], [96], [46], [16, 32], [159, 0, 9], [132, 5, 1]] = true := by decide +kernel
theorem dX12_wordAt_0 : decode cX12_wordAt 0 = .ok (.iconst 0, 1) := dc_3 (sg_at zd_dX12_wordAt_0 0 rfl rfl)
theorem dX12_wordAt_1 : decode cX12_wordAt 1 = .ok (.istore_n 3, 1) := dc_62 (sg_at zd_dX12_wordAt_0 1 rfl rfl)
theorem dX12_wordAt_2 : decode cX12_wordAt 2 = .ok (.iconst 0, 1) := dc_3 (sg_at zd_dX12_wordAt_0 2 rfl rfl)
theorem dX12_wordAt_3 : decode cX12_wordAt 3 = .ok (.istore 4, 2) := dc_54 (sg_at zd_dX12_wordAt_0 3 rfl rfl)
theorem dX12_wordAt_5 : decode cX12_wordAt 5 = .ok (.iload 4, 2) := dc_21 (sg_at zd_dX12_wordAt_0 4 rfl rfl)
theorem dX12_wordAt_7 : decode cX12_wordAt 7 = .ok (.aload_n 0, 1) := dc_42 (sg_at zd_dX12_wordAt_0 5 rfl rfl)
theorem dX12_wordAt_8 : decode cX12_wordAt 8 = .ok (.getfield 13, 3) := dc_180 (sg_at zd_dX12_wordAt_0 6 rfl rfl) rfl
theorem dX12_wordAt_11 : decode cX12_wordAt 11 = .ok (.arraylength, 1) := dc_190 (sg_at zd_dX12_wordAt_0 7 rfl rfl)
theorem dX12_wordAt_12 : decode cX12_wordAt 12 = .ok (.if_icmp .ge 114, 3) := dc_162 (sg_at zd_dX12_wordAt_0 8 rfl rfl) rfl
theorem dX12_wordAt_15 : decode cX12_wordAt 15 = .ok (.iconst 0, 1) := dc_3 (sg_at zd_dX12_wordAt_0 9 rfl rfl)
theorem dX12_wordAt_16 : decode cX12_wordAt 16 = .ok (.istore 5, 2) := dc_54 (sg_at zd_dX12_wordAt_0 10 rfl rfl)
theorem dX12_wordAt_18 : decode cX12_wordAt 18 = .ok (.aload_n 0, 1) := dc_42 (sg_at zd_dX12_wordAt_0 11 rfl rfl)
theorem dX12_wordAt_19 : decode cX12_wordAt 19 = .ok (.getfield 13, 3) := dc_180 (sg_at zd_dX12_wordAt_0 12 rfl rfl) rfl
theorem dX12_wordAt_22 : decode cX12_wordAt 22 = .ok (.iload 4, 2) := dc_21 (sg_at zd_dX12_wordAt_0 13 rfl rfl)
theorem dX12_wordAt_24 : decode cX12_wordAt 24 = .ok (.iload 5, 2) := dc_21 (sg_at zd_dX12_wordAt_0 14 rfl rfl)
theorem dX12_wordAt_26 : decode cX12_wordAt 26 = .ok (.iadd, 1) := dc_96 (sg_at zd_dX12_wordAt_0 15 rfl rfl)
theorem dX12_wordAt_27 : decode cX12_wordAt 27 = .ok (.iaload, 1) := dc_46 (sg_at zd_dX12_wordAt_0 16 rfl rfl)
theorem dX12_wordAt_28 : decode cX12_wordAt 28 = .ok (.bipush 32, 2) := dc_16 (sg_at zd_dX12_wordAt_0 17 rfl rfl) rfl
theorem dX12_wordAt_30 : decode cX12_wordAt 30 = .ok (.if_icmp .eq 9, 3) := dc_159 (sg_at zd_dX12_wordAt_0 18 rfl rfl) rfl
theorem dX12_wordAt_33 : decode cX12_wordAt 33 = .ok (.iinc 5 1, 3) := dc_132 (sg_at zd_dX12_wordAt_0 19 rfl rfl) rfl
theorem zd_dX12_wordAt_36 : sg (cX12_wordAt.data.toList.drop 36) [[167, 255, 238], [21, 5], [28], [27], [100], [160, 0, 7], [4], [167, 0, 4], [3], [54, 6], [3], [54, 7], [21, 7], [21, 5], [162, 0, 43], [21, 6], [153, 0, 38], [42], [180, 0, 13], [21, 4]] = true := by decide +kernel
theorem dX12_wordAt_36 : decode cX12_wordAt 36 = .ok (.goto (-18), 3) := dc_167 (sg_at zd_dX12_wordAt_36 0 rfl rfl) rfl
theorem dX12_wordAt_39 : decode cX12_wordAt 39 = .ok (.iload 5, 2) := dc_21 (sg_at zd_dX12_wordAt_36 1 rfl rfl)
theorem dX12_wordAt_41 : decode cX12_wordAt 41 = .ok (.iload_n 2, 1) := dc_28 (sg_at zd_dX12_wordAt_36 2 rfl rfl)
theorem dX12_wordAt_42 : decode cX12_wordAt 42 = .ok (.iload_n 1, 1) := dc_27 (sg_at zd_dX12_wordAt_36 3 rfl rfl)
theorem dX12_wordAt_43 : decode cX12_wordAt 43 = .ok (.isub, 1) := dc_100 (sg_at zd_dX12_wordAt_36 4 rfl rfl)
theorem dX12_wordAt_44 : decode cX12_wordAt 44 = .ok (.if_icmp .ne 7, 3) := dc_160 (sg_at zd_dX12_wordAt_36 5 rfl rfl) rfl
theorem dX12_wordAt_47 : decode cX12_wordAt 47 = .ok (.iconst 1, 1) := dc_4 (sg_at zd_dX12_wordAt_36 6 rfl rfl)
theorem dX12_wordAt_48 : decode cX12_wordAt 48 = .ok (.goto 4, 3) := dc_167 (sg_at zd_dX12_wordAt_36 7 rfl rfl) rfl
theorem dX12_wordAt_51 : decode cX12_wordAt 51 = .ok (.iconst 0, 1) := dc_3 (sg_at zd_dX12_wordAt_36 8 rfl rfl)
theorem dX12_wordAt_52 : decode cX12_wordAt 52 = .ok (.istore 6, 2) := dc_54 (sg_at zd_dX12_wordAt_36 9 rfl rfl)
theorem dX12_wordAt_54 : decode cX12_wordAt 54 = .ok (.iconst 0, 1) := dc_3 (sg_at zd_dX12_wordAt_36 10 rfl rfl)
theorem dX12_wordAt_55 : decode cX12_wordAt 55 = .ok (.istore 7, 2) := dc_54 (sg_at zd_dX12_wordAt_36 11 rfl rfl)
theorem dX12_wordAt_57 : decode cX12_wordAt 57 = .ok (.iload 7, 2) := dc_21 (sg_at zd_dX12_wordAt_36 12 rfl rfl)
theorem dX12_wordAt_59 : decode cX12_wordAt 59 = .ok (.iload 5, 2) := dc_21 (sg_at zd_dX12_wordAt_36 13 rfl rfl)
theorem dX12_wordAt_61 : decode cX12_wordAt 61 = .ok (.if_icmp .ge 43, 3) := dc_162 (sg_at zd_dX12_wordAt_36 14 rfl rfl) rfl
theorem dX12_wordAt_64 : decode cX12_wordAt 64 = .ok (.iload 6, 2) := dc_21 (sg_at zd_dX12_wordAt_36 15 rfl rfl)
theorem dX12_wordAt_66 : decode cX12_wordAt 66 = .ok (.ifCond .eq 38, 3) := dc_153 (sg_at zd_dX12_wordAt_36 16 rfl rfl) rfl
theorem dX12_wordAt_69 : decode cX12_wordAt 69 = .ok (.aload_n 0, 1) := dc_42 (sg_at zd_dX12_wordAt_36 17 rfl rfl)
theorem dX12_wordAt_70 : decode cX12_wordAt 70 = .ok (.getfield 13, 3) := dc_180 (sg_at zd_dX12_wordAt_36 18 rfl rfl) rfl
theorem dX12_wordAt_73 : decode cX12_wordAt 73 = .ok (.iload 4, 2) := dc_21 (sg_at zd_dX12_wordAt_36 19 rfl rfl)
theorem zd_dX12_wordAt_75 : sg (cX12_wordAt.data.toList.drop 75) [[21, 7], [96], [46], [42], [180, 0, 7], [27], [21, 7], [96], [46], [160, 0, 7], [4], [167, 0, 4], [3], [54, 6], [132, 7, 1], [167, 255, 212], [21, 6], [153, 0, 5], [29], [172]] = true := by decide +kernel
theorem dX12_wordAt_75 : decode cX12_wordAt 75 = .ok (.iload 7, 2) := dc_21 (sg_at zd_dX12_wordAt_75 0 rfl rfl)
theorem dX12_wordAt_77 : decode cX12_wordAt 77 = .ok (.iadd, 1) := dc_96 (sg_at zd_dX12_wordAt_75 1 rfl rfl)
theorem dX12_wordAt_78 : decode cX12_wordAt 78 = .ok (.iaload, 1) := dc_46 (sg_at zd_dX12_wordAt_75 2 rfl rfl)
theorem dX12_wordAt_79 : decode cX12_wordAt 79 = .ok (.aload_n 0, 1) := dc_42 (sg_at zd_dX12_wordAt_75 3 rfl rfl)
theorem dX12_wordAt_80 : decode cX12_wordAt 80 = .ok (.getfield 7, 3) := dc_180 (sg_at zd_dX12_wordAt_75 4 rfl rfl) rfl
theorem dX12_wordAt_83 : decode cX12_wordAt 83 = .ok (.iload_n 1, 1) := dc_27 (sg_at zd_dX12_wordAt_75 5 rfl rfl)
theorem dX12_wordAt_84 : decode cX12_wordAt 84 = .ok (.iload 7, 2) := dc_21 (sg_at zd_dX12_wordAt_75 6 rfl rfl)
theorem dX12_wordAt_86 : decode cX12_wordAt 86 = .ok (.iadd, 1) := dc_96 (sg_at zd_dX12_wordAt_75 7 rfl rfl)
theorem dX12_wordAt_87 : decode cX12_wordAt 87 = .ok (.iaload, 1) := dc_46 (sg_at zd_dX12_wordAt_75 8 rfl rfl)
theorem dX12_wordAt_88 : decode cX12_wordAt 88 = .ok (.if_icmp .ne 7, 3) := dc_160 (sg_at zd_dX12_wordAt_75 9 rfl rfl) rfl
theorem dX12_wordAt_91 : decode cX12_wordAt 91 = .ok (.iconst 1, 1) := dc_4 (sg_at zd_dX12_wordAt_75 10 rfl rfl)
theorem dX12_wordAt_92 : decode cX12_wordAt 92 = .ok (.goto 4, 3) := dc_167 (sg_at zd_dX12_wordAt_75 11 rfl rfl) rfl
theorem dX12_wordAt_95 : decode cX12_wordAt 95 = .ok (.iconst 0, 1) := dc_3 (sg_at zd_dX12_wordAt_75 12 rfl rfl)
theorem dX12_wordAt_96 : decode cX12_wordAt 96 = .ok (.istore 6, 2) := dc_54 (sg_at zd_dX12_wordAt_75 13 rfl rfl)
theorem dX12_wordAt_98 : decode cX12_wordAt 98 = .ok (.iinc 7 1, 3) := dc_132 (sg_at zd_dX12_wordAt_75 14 rfl rfl) rfl
theorem dX12_wordAt_101 : decode cX12_wordAt 101 = .ok (.goto (-44), 3) := dc_167 (sg_at zd_dX12_wordAt_75 15 rfl rfl) rfl
theorem dX12_wordAt_104 : decode cX12_wordAt 104 = .ok (.iload 6, 2) := dc_21 (sg_at zd_dX12_wordAt_75 16 rfl rfl)
theorem dX12_wordAt_106 : decode cX12_wordAt 106 = .ok (.ifCond .eq 5, 3) := dc_153 (sg_at zd_dX12_wordAt_75 17 rfl rfl) rfl
theorem dX12_wordAt_109 : decode cX12_wordAt 109 = .ok (.iload_n 3, 1) := dc_29 (sg_at zd_dX12_wordAt_75 18 rfl rfl)
theorem dX12_wordAt_110 : decode cX12_wordAt 110 = .ok (.ireturn, 1) := dc_172 (sg_at zd_dX12_wordAt_75 19 rfl rfl)
theorem zd_dX12_wordAt_111 : sg (cX12_wordAt.data.toList.drop 111) [[21, 4], [21, 5], [4], [96], [96], [54, 4], [132, 3, 1], [167, 255, 138], [2], [172]] = true := by decide +kernel
theorem dX12_wordAt_111 : decode cX12_wordAt 111 = .ok (.iload 4, 2) := dc_21 (sg_at zd_dX12_wordAt_111 0 rfl rfl)
theorem dX12_wordAt_113 : decode cX12_wordAt 113 = .ok (.iload 5, 2) := dc_21 (sg_at zd_dX12_wordAt_111 1 rfl rfl)
theorem dX12_wordAt_115 : decode cX12_wordAt 115 = .ok (.iconst 1, 1) := dc_4 (sg_at zd_dX12_wordAt_111 2 rfl rfl)
theorem dX12_wordAt_116 : decode cX12_wordAt 116 = .ok (.iadd, 1) := dc_96 (sg_at zd_dX12_wordAt_111 3 rfl rfl)
theorem dX12_wordAt_117 : decode cX12_wordAt 117 = .ok (.iadd, 1) := dc_96 (sg_at zd_dX12_wordAt_111 4 rfl rfl)
theorem dX12_wordAt_118 : decode cX12_wordAt 118 = .ok (.istore 4, 2) := dc_54 (sg_at zd_dX12_wordAt_111 5 rfl rfl)
theorem dX12_wordAt_120 : decode cX12_wordAt 120 = .ok (.iinc 3 1, 3) := dc_132 (sg_at zd_dX12_wordAt_111 6 rfl rfl) rfl
theorem dX12_wordAt_123 : decode cX12_wordAt 123 = .ok (.goto (-118), 3) := dc_167 (sg_at zd_dX12_wordAt_111 7 rfl rfl) rfl
theorem dX12_wordAt_126 : decode cX12_wordAt 126 = .ok (.iconst (-1), 1) := dc_2 (sg_at zd_dX12_wordAt_111 8 rfl rfl)
theorem dX12_wordAt_127 : decode cX12_wordAt 127 = .ok (.ireturn, 1) := dc_172 (sg_at zd_dX12_wordAt_111 9 rfl rfl)
theorem zd_dX12_packed_0 : sg (cX12_packed.data.toList.drop 0) [[3], [62], [27], [54, 4], [21, 4], [27], [16, 6], [96], [162, 0, 34], [29], [8], [120], [21, 4], [28], [162, 0, 16], [42], [180, 0, 7], [21, 4], [46], [16, 96]] = true := by decide +kernel
theorem dX12_packed_0 : decode cX12_packed 0 = .ok (.iconst 0, 1) := dc_3 (sg_at zd_dX12_packed_0 0 rfl rfl)
theorem dX12_packed_1 : decode cX12_packed 1 = .ok (.istore_n 3, 1) := dc_62 (sg_at zd_dX12_packed_0 1 rfl rfl)
theorem dX12_packed_2 : decode cX12_packed 2 = .ok (.iload_n 1, 1) := dc_27 (sg_at zd_dX12_packed_0 2 rfl rfl)
theorem dX12_packed_3 : decode cX12_packed 3 = .ok (.istore 4, 2) := dc_54 (sg_at zd_dX12_packed_0 3 rfl rfl)
theorem dX12_packed_5 : decode cX12_packed 5 = .ok (.iload 4, 2) := dc_21 (sg_at zd_dX12_packed_0 4 rfl rfl)
theorem dX12_packed_7 : decode cX12_packed 7 = .ok (.iload_n 1, 1) := dc_27 (sg_at zd_dX12_packed_0 5 rfl rfl)
theorem dX12_packed_8 : decode cX12_packed 8 = .ok (.bipush 6, 2) := dc_16 (sg_at zd_dX12_packed_0 6 rfl rfl) rfl
theorem dX12_packed_10 : decode cX12_packed 10 = .ok (.iadd, 1) := dc_96 (sg_at zd_dX12_packed_0 7 rfl rfl)
theorem dX12_packed_11 : decode cX12_packed 11 = .ok (.if_icmp .ge 34, 3) := dc_162 (sg_at zd_dX12_packed_0 8 rfl rfl) rfl
theorem dX12_packed_14 : decode cX12_packed 14 = .ok (.iload_n 3, 1) := dc_29 (sg_at zd_dX12_packed_0 9 rfl rfl)
theorem dX12_packed_15 : decode cX12_packed 15 = .ok (.iconst 5, 1) := dc_8 (sg_at zd_dX12_packed_0 10 rfl rfl)
theorem dX12_packed_16 : decode cX12_packed 16 = .ok (.ishl, 1) := dc_120 (sg_at zd_dX12_packed_0 11 rfl rfl)
theorem dX12_packed_17 : decode cX12_packed 17 = .ok (.iload 4, 2) := dc_21 (sg_at zd_dX12_packed_0 12 rfl rfl)
theorem dX12_packed_19 : decode cX12_packed 19 = .ok (.iload_n 2, 1) := dc_28 (sg_at zd_dX12_packed_0 13 rfl rfl)
theorem dX12_packed_20 : decode cX12_packed 20 = .ok (.if_icmp .ge 16, 3) := dc_162 (sg_at zd_dX12_packed_0 14 rfl rfl) rfl
theorem dX12_packed_23 : decode cX12_packed 23 = .ok (.aload_n 0, 1) := dc_42 (sg_at zd_dX12_packed_0 15 rfl rfl)
theorem dX12_packed_24 : decode cX12_packed 24 = .ok (.getfield 7, 3) := dc_180 (sg_at zd_dX12_packed_0 16 rfl rfl) rfl
theorem dX12_packed_27 : decode cX12_packed 27 = .ok (.iload 4, 2) := dc_21 (sg_at zd_dX12_packed_0 17 rfl rfl)
theorem dX12_packed_29 : decode cX12_packed 29 = .ok (.iaload, 1) := dc_46 (sg_at zd_dX12_packed_0 18 rfl rfl)
theorem dX12_packed_30 : decode cX12_packed 30 = .ok (.bipush 96, 2) := dc_16 (sg_at zd_dX12_packed_0 19 rfl rfl) rfl
theorem zd_dX12_packed_32 : sg (cX12_packed.data.toList.drop 32) [[100], [167, 0, 4], [3], [128], [62], [132, 4, 1], [167, 255, 219], [29], [172]] = true := by decide +kernel
theorem dX12_packed_32 : decode cX12_packed 32 = .ok (.isub, 1) := dc_100 (sg_at zd_dX12_packed_32 0 rfl rfl)
theorem dX12_packed_33 : decode cX12_packed 33 = .ok (.goto 4, 3) := dc_167 (sg_at zd_dX12_packed_32 1 rfl rfl) rfl
theorem dX12_packed_36 : decode cX12_packed 36 = .ok (.iconst 0, 1) := dc_3 (sg_at zd_dX12_packed_32 2 rfl rfl)
theorem dX12_packed_37 : decode cX12_packed 37 = .ok (.ior, 1) := dc_128 (sg_at zd_dX12_packed_32 3 rfl rfl)
theorem dX12_packed_38 : decode cX12_packed 38 = .ok (.istore_n 3, 1) := dc_62 (sg_at zd_dX12_packed_32 4 rfl rfl)
theorem dX12_packed_39 : decode cX12_packed 39 = .ok (.iinc 4 1, 3) := dc_132 (sg_at zd_dX12_packed_32 5 rfl rfl) rfl
theorem dX12_packed_42 : decode cX12_packed 42 = .ok (.goto (-37), 3) := dc_167 (sg_at zd_dX12_packed_32 6 rfl rfl) rfl
theorem dX12_packed_45 : decode cX12_packed 45 = .ok (.iload_n 3, 1) := dc_29 (sg_at zd_dX12_packed_32 7 rfl rfl)
theorem dX12_packed_46 : decode cX12_packed 46 = .ok (.ireturn, 1) := dc_172 (sg_at zd_dX12_packed_32 8 rfl rfl)
theorem zd_dX12_isDigit_0 : sg (cX12_isDigit.data.toList.drop 0) [[27], [42], [180, 0, 166], [162, 0, 29], [42], [180, 0, 7], [27], [46], [16, 48], [161, 0, 18], [42], [180, 0, 7], [27], [46], [16, 57], [163, 0, 7], [4], [167, 0, 4], [3], [172]] = true := by decide +kernel
theorem dX12_isDigit_0 : decode cX12_isDigit 0 = .ok (.iload_n 1, 1) := dc_27 (sg_at zd_dX12_isDigit_0 0 rfl rfl)
theorem dX12_isDigit_1 : decode cX12_isDigit 1 = .ok (.aload_n 0, 1) := dc_42 (sg_at zd_dX12_isDigit_0 1 rfl rfl)
theorem dX12_isDigit_2 : decode cX12_isDigit 2 = .ok (.getfield 166, 3) := dc_180 (sg_at zd_dX12_isDigit_0 2 rfl rfl) rfl
theorem dX12_isDigit_5 : decode cX12_isDigit 5 = .ok (.if_icmp .ge 29, 3) := dc_162 (sg_at zd_dX12_isDigit_0 3 rfl rfl) rfl
theorem dX12_isDigit_8 : decode cX12_isDigit 8 = .ok (.aload_n 0, 1) := dc_42 (sg_at zd_dX12_isDigit_0 4 rfl rfl)
theorem dX12_isDigit_9 : decode cX12_isDigit 9 = .ok (.getfield 7, 3) := dc_180 (sg_at zd_dX12_isDigit_0 5 rfl rfl) rfl
theorem dX12_isDigit_12 : decode cX12_isDigit 12 = .ok (.iload_n 1, 1) := dc_27 (sg_at zd_dX12_isDigit_0 6 rfl rfl)
theorem dX12_isDigit_13 : decode cX12_isDigit 13 = .ok (.iaload, 1) := dc_46 (sg_at zd_dX12_isDigit_0 7 rfl rfl)
theorem dX12_isDigit_14 : decode cX12_isDigit 14 = .ok (.bipush 48, 2) := dc_16 (sg_at zd_dX12_isDigit_0 8 rfl rfl) rfl
theorem dX12_isDigit_16 : decode cX12_isDigit 16 = .ok (.if_icmp .lt 18, 3) := dc_161 (sg_at zd_dX12_isDigit_0 9 rfl rfl) rfl
theorem dX12_isDigit_19 : decode cX12_isDigit 19 = .ok (.aload_n 0, 1) := dc_42 (sg_at zd_dX12_isDigit_0 10 rfl rfl)
theorem dX12_isDigit_20 : decode cX12_isDigit 20 = .ok (.getfield 7, 3) := dc_180 (sg_at zd_dX12_isDigit_0 11 rfl rfl) rfl
theorem dX12_isDigit_23 : decode cX12_isDigit 23 = .ok (.iload_n 1, 1) := dc_27 (sg_at zd_dX12_isDigit_0 12 rfl rfl)
theorem dX12_isDigit_24 : decode cX12_isDigit 24 = .ok (.iaload, 1) := dc_46 (sg_at zd_dX12_isDigit_0 13 rfl rfl)
theorem dX12_isDigit_25 : decode cX12_isDigit 25 = .ok (.bipush 57, 2) := dc_16 (sg_at zd_dX12_isDigit_0 14 rfl rfl) rfl
theorem dX12_isDigit_27 : decode cX12_isDigit 27 = .ok (.if_icmp .gt 7, 3) := dc_163 (sg_at zd_dX12_isDigit_0 15 rfl rfl) rfl
theorem dX12_isDigit_30 : decode cX12_isDigit 30 = .ok (.iconst 1, 1) := dc_4 (sg_at zd_dX12_isDigit_0 16 rfl rfl)
theorem dX12_isDigit_31 : decode cX12_isDigit 31 = .ok (.goto 4, 3) := dc_167 (sg_at zd_dX12_isDigit_0 17 rfl rfl) rfl
theorem dX12_isDigit_34 : decode cX12_isDigit 34 = .ok (.iconst 0, 1) := dc_3 (sg_at zd_dX12_isDigit_0 18 rfl rfl)
theorem dX12_isDigit_35 : decode cX12_isDigit 35 = .ok (.ireturn, 1) := dc_172 (sg_at zd_dX12_isDigit_0 19 rfl rfl)
theorem zd_dX12_signToken_0 : sg (cX12_signToken.data.toList.drop 0) [[42], [42], [180, 0, 7], [42], [180, 0, 169], [46], [181, 0, 183], [42], [89], [180, 0, 169], [4], [96], [181, 0, 169], [42], [180, 0, 183], [16, 60], [159, 0, 21], [42], [180, 0, 183], [16, 62]] = true := by decide +kernel
theorem dX12_signToken_0 : decode cX12_signToken 0 = .ok (.aload_n 0, 1) := dc_42 (sg_at zd_dX12_signToken_0 0 rfl rfl)
theorem dX12_signToken_1 : decode cX12_signToken 1 = .ok (.aload_n 0, 1) := dc_42 (sg_at zd_dX12_signToken_0 1 rfl rfl)
theorem dX12_signToken_2 : decode cX12_signToken 2 = .ok (.getfield 7, 3) := dc_180 (sg_at zd_dX12_signToken_0 2 rfl rfl) rfl
theorem dX12_signToken_5 : decode cX12_signToken 5 = .ok (.aload_n 0, 1) := dc_42 (sg_at zd_dX12_signToken_0 3 rfl rfl)
theorem dX12_signToken_6 : decode cX12_signToken 6 = .ok (.getfield 169, 3) := dc_180 (sg_at zd_dX12_signToken_0 4 rfl rfl) rfl
theorem dX12_signToken_9 : decode cX12_signToken 9 = .ok (.iaload, 1) := dc_46 (sg_at zd_dX12_signToken_0 5 rfl rfl)
theorem dX12_signToken_10 : decode cX12_signToken 10 = .ok (.putfield 183, 3) := dc_181 (sg_at zd_dX12_signToken_0 6 rfl rfl) rfl
theorem dX12_signToken_13 : decode cX12_signToken 13 = .ok (.aload_n 0, 1) := dc_42 (sg_at zd_dX12_signToken_0 7 rfl rfl)
theorem dX12_signToken_14 : decode cX12_signToken 14 = .ok (.dup, 1) := dc_89 (sg_at zd_dX12_signToken_0 8 rfl rfl)
theorem dX12_signToken_15 : decode cX12_signToken 15 = .ok (.getfield 169, 3) := dc_180 (sg_at zd_dX12_signToken_0 9 rfl rfl) rfl
theorem dX12_signToken_18 : decode cX12_signToken 18 = .ok (.iconst 1, 1) := dc_4 (sg_at zd_dX12_signToken_0 10 rfl rfl)
theorem dX12_signToken_19 : decode cX12_signToken 19 = .ok (.iadd, 1) := dc_96 (sg_at zd_dX12_signToken_0 11 rfl rfl)
theorem dX12_signToken_20 : decode cX12_signToken 20 = .ok (.putfield 169, 3) := dc_181 (sg_at zd_dX12_signToken_0 12 rfl rfl) rfl
theorem dX12_signToken_23 : decode cX12_signToken 23 = .ok (.aload_n 0, 1) := dc_42 (sg_at zd_dX12_signToken_0 13 rfl rfl)
theorem dX12_signToken_24 : decode cX12_signToken 24 = .ok (.getfield 183, 3) := dc_180 (sg_at zd_dX12_signToken_0 14 rfl rfl) rfl
theorem dX12_signToken_27 : decode cX12_signToken 27 = .ok (.bipush 60, 2) := dc_16 (sg_at zd_dX12_signToken_0 15 rfl rfl) rfl
theorem dX12_signToken_29 : decode cX12_signToken 29 = .ok (.if_icmp .eq 21, 3) := dc_159 (sg_at zd_dX12_signToken_0 16 rfl rfl) rfl
theorem dX12_signToken_32 : decode cX12_signToken 32 = .ok (.aload_n 0, 1) := dc_42 (sg_at zd_dX12_signToken_0 17 rfl rfl)
theorem dX12_signToken_33 : decode cX12_signToken 33 = .ok (.getfield 183, 3) := dc_180 (sg_at zd_dX12_signToken_0 18 rfl rfl) rfl
theorem dX12_signToken_36 : decode cX12_signToken 36 = .ok (.bipush 62, 2) := dc_16 (sg_at zd_dX12_signToken_0 19 rfl rfl) rfl
theorem zd_dX12_signToken_38 : sg (cX12_signToken.data.toList.drop 38) [[159, 0, 12], [42], [180, 0, 183], [16, 61], [160, 0, 151], [42], [180, 0, 169], [42], [180, 0, 166], [162, 0, 15], [42], [180, 0, 7], [42], [180, 0, 169], [46], [167, 0, 4], [3], [60], [42], [180, 0, 183]] = true := by decide +kernel
theorem dX12_signToken_38 : decode cX12_signToken 38 = .ok (.if_icmp .eq 12, 3) := dc_159 (sg_at zd_dX12_signToken_38 0 rfl rfl) rfl
theorem dX12_signToken_41 : decode cX12_signToken 41 = .ok (.aload_n 0, 1) := dc_42 (sg_at zd_dX12_signToken_38 1 rfl rfl)
theorem dX12_signToken_42 : decode cX12_signToken 42 = .ok (.getfield 183, 3) := dc_180 (sg_at zd_dX12_signToken_38 2 rfl rfl) rfl
theorem dX12_signToken_45 : decode cX12_signToken 45 = .ok (.bipush 61, 2) := dc_16 (sg_at zd_dX12_signToken_38 3 rfl rfl) rfl
theorem dX12_signToken_47 : decode cX12_signToken 47 = .ok (.if_icmp .ne 151, 3) := dc_160 (sg_at zd_dX12_signToken_38 4 rfl rfl) rfl
theorem dX12_signToken_50 : decode cX12_signToken 50 = .ok (.aload_n 0, 1) := dc_42 (sg_at zd_dX12_signToken_38 5 rfl rfl)
theorem dX12_signToken_51 : decode cX12_signToken 51 = .ok (.getfield 169, 3) := dc_180 (sg_at zd_dX12_signToken_38 6 rfl rfl) rfl
theorem dX12_signToken_54 : decode cX12_signToken 54 = .ok (.aload_n 0, 1) := dc_42 (sg_at zd_dX12_signToken_38 7 rfl rfl)
theorem dX12_signToken_55 : decode cX12_signToken 55 = .ok (.getfield 166, 3) := dc_180 (sg_at zd_dX12_signToken_38 8 rfl rfl) rfl
theorem dX12_signToken_58 : decode cX12_signToken 58 = .ok (.if_icmp .ge 15, 3) := dc_162 (sg_at zd_dX12_signToken_38 9 rfl rfl) rfl
theorem dX12_signToken_61 : decode cX12_signToken 61 = .ok (.aload_n 0, 1) := dc_42 (sg_at zd_dX12_signToken_38 10 rfl rfl)
theorem dX12_signToken_62 : decode cX12_signToken 62 = .ok (.getfield 7, 3) := dc_180 (sg_at zd_dX12_signToken_38 11 rfl rfl) rfl
theorem dX12_signToken_65 : decode cX12_signToken 65 = .ok (.aload_n 0, 1) := dc_42 (sg_at zd_dX12_signToken_38 12 rfl rfl)
theorem dX12_signToken_66 : decode cX12_signToken 66 = .ok (.getfield 169, 3) := dc_180 (sg_at zd_dX12_signToken_38 13 rfl rfl) rfl
theorem dX12_signToken_69 : decode cX12_signToken 69 = .ok (.iaload, 1) := dc_46 (sg_at zd_dX12_signToken_38 14 rfl rfl)
theorem dX12_signToken_70 : decode cX12_signToken 70 = .ok (.goto 4, 3) := dc_167 (sg_at zd_dX12_signToken_38 15 rfl rfl) rfl
theorem dX12_signToken_73 : decode cX12_signToken 73 = .ok (.iconst 0, 1) := dc_3 (sg_at zd_dX12_signToken_38 16 rfl rfl)
theorem dX12_signToken_74 : decode cX12_signToken 74 = .ok (.istore_n 1, 1) := dc_60 (sg_at zd_dX12_signToken_38 17 rfl rfl)
theorem dX12_signToken_75 : decode cX12_signToken 75 = .ok (.aload_n 0, 1) := dc_42 (sg_at zd_dX12_signToken_38 18 rfl rfl)
theorem dX12_signToken_76 : decode cX12_signToken 76 = .ok (.getfield 183, 3) := dc_180 (sg_at zd_dX12_signToken_38 19 rfl rfl) rfl
theorem zd_dX12_signToken_79 : sg (cX12_signToken.data.toList.drop 79) [[16, 61], [159, 0, 13], [27], [16, 61], [160, 0, 7], [4], [167, 0, 4], [3], [61], [42], [180, 0, 183], [16, 60], [160, 0, 13], [27], [16, 62], [160, 0, 7], [4], [167, 0, 4], [3], [62]] = true := by decide +kernel
theorem dX12_signToken_79 : decode cX12_signToken 79 = .ok (.bipush 61, 2) := dc_16 (sg_at zd_dX12_signToken_79 0 rfl rfl) rfl
theorem dX12_signToken_81 : decode cX12_signToken 81 = .ok (.if_icmp .eq 13, 3) := dc_159 (sg_at zd_dX12_signToken_79 1 rfl rfl) rfl
theorem dX12_signToken_84 : decode cX12_signToken 84 = .ok (.iload_n 1, 1) := dc_27 (sg_at zd_dX12_signToken_79 2 rfl rfl)
theorem dX12_signToken_85 : decode cX12_signToken 85 = .ok (.bipush 61, 2) := dc_16 (sg_at zd_dX12_signToken_79 3 rfl rfl) rfl
theorem dX12_signToken_87 : decode cX12_signToken 87 = .ok (.if_icmp .ne 7, 3) := dc_160 (sg_at zd_dX12_signToken_79 4 rfl rfl) rfl
theorem dX12_signToken_90 : decode cX12_signToken 90 = .ok (.iconst 1, 1) := dc_4 (sg_at zd_dX12_signToken_79 5 rfl rfl)
theorem dX12_signToken_91 : decode cX12_signToken 91 = .ok (.goto 4, 3) := dc_167 (sg_at zd_dX12_signToken_79 6 rfl rfl) rfl
theorem dX12_signToken_94 : decode cX12_signToken 94 = .ok (.iconst 0, 1) := dc_3 (sg_at zd_dX12_signToken_79 7 rfl rfl)
theorem dX12_signToken_95 : decode cX12_signToken 95 = .ok (.istore_n 2, 1) := dc_61 (sg_at zd_dX12_signToken_79 8 rfl rfl)
theorem dX12_signToken_96 : decode cX12_signToken 96 = .ok (.aload_n 0, 1) := dc_42 (sg_at zd_dX12_signToken_79 9 rfl rfl)
theorem dX12_signToken_97 : decode cX12_signToken 97 = .ok (.getfield 183, 3) := dc_180 (sg_at zd_dX12_signToken_79 10 rfl rfl) rfl
theorem dX12_signToken_100 : decode cX12_signToken 100 = .ok (.bipush 60, 2) := dc_16 (sg_at zd_dX12_signToken_79 11 rfl rfl) rfl
theorem dX12_signToken_102 : decode cX12_signToken 102 = .ok (.if_icmp .ne 13, 3) := dc_160 (sg_at zd_dX12_signToken_79 12 rfl rfl) rfl
theorem dX12_signToken_105 : decode cX12_signToken 105 = .ok (.iload_n 1, 1) := dc_27 (sg_at zd_dX12_signToken_79 13 rfl rfl)
theorem dX12_signToken_106 : decode cX12_signToken 106 = .ok (.bipush 62, 2) := dc_16 (sg_at zd_dX12_signToken_79 14 rfl rfl) rfl
theorem dX12_signToken_108 : decode cX12_signToken 108 = .ok (.if_icmp .ne 7, 3) := dc_160 (sg_at zd_dX12_signToken_79 15 rfl rfl) rfl
theorem dX12_signToken_111 : decode cX12_signToken 111 = .ok (.iconst 1, 1) := dc_4 (sg_at zd_dX12_signToken_79 16 rfl rfl)
theorem dX12_signToken_112 : decode cX12_signToken 112 = .ok (.goto 4, 3) := dc_167 (sg_at zd_dX12_signToken_79 17 rfl rfl) rfl
theorem dX12_signToken_115 : decode cX12_signToken 115 = .ok (.iconst 0, 1) := dc_3 (sg_at zd_dX12_signToken_79 18 rfl rfl)
theorem dX12_signToken_116 : decode cX12_signToken 116 = .ok (.istore_n 3, 1) := dc_62 (sg_at zd_dX12_signToken_79 19 rfl rfl)
theorem zd_dX12_signToken_117 : sg (cX12_signToken.data.toList.drop 117) [[28], [154, 0, 7], [29], [153, 0, 13], [42], [89], [180, 0, 169], [4], [96], [181, 0, 169], [42], [8], [181, 0, 172], [42], [42], [180, 0, 183], [16, 61], [160, 0, 7], [5], [167, 0, 41]] = true := by decide +kernel
theorem dX12_signToken_117 : decode cX12_signToken 117 = .ok (.iload_n 2, 1) := dc_28 (sg_at zd_dX12_signToken_117 0 rfl rfl)
theorem dX12_signToken_118 : decode cX12_signToken 118 = .ok (.ifCond .ne 7, 3) := dc_154 (sg_at zd_dX12_signToken_117 1 rfl rfl) rfl
theorem dX12_signToken_121 : decode cX12_signToken 121 = .ok (.iload_n 3, 1) := dc_29 (sg_at zd_dX12_signToken_117 2 rfl rfl)
theorem dX12_signToken_122 : decode cX12_signToken 122 = .ok (.ifCond .eq 13, 3) := dc_153 (sg_at zd_dX12_signToken_117 3 rfl rfl) rfl
theorem dX12_signToken_125 : decode cX12_signToken 125 = .ok (.aload_n 0, 1) := dc_42 (sg_at zd_dX12_signToken_117 4 rfl rfl)
theorem dX12_signToken_126 : decode cX12_signToken 126 = .ok (.dup, 1) := dc_89 (sg_at zd_dX12_signToken_117 5 rfl rfl)
theorem dX12_signToken_127 : decode cX12_signToken 127 = .ok (.getfield 169, 3) := dc_180 (sg_at zd_dX12_signToken_117 6 rfl rfl) rfl
theorem dX12_signToken_130 : decode cX12_signToken 130 = .ok (.iconst 1, 1) := dc_4 (sg_at zd_dX12_signToken_117 7 rfl rfl)
theorem dX12_signToken_131 : decode cX12_signToken 131 = .ok (.iadd, 1) := dc_96 (sg_at zd_dX12_signToken_117 8 rfl rfl)
theorem dX12_signToken_132 : decode cX12_signToken 132 = .ok (.putfield 169, 3) := dc_181 (sg_at zd_dX12_signToken_117 9 rfl rfl) rfl
theorem dX12_signToken_135 : decode cX12_signToken 135 = .ok (.aload_n 0, 1) := dc_42 (sg_at zd_dX12_signToken_117 10 rfl rfl)
theorem dX12_signToken_136 : decode cX12_signToken 136 = .ok (.iconst 5, 1) := dc_8 (sg_at zd_dX12_signToken_117 11 rfl rfl)
theorem dX12_signToken_137 : decode cX12_signToken 137 = .ok (.putfield 172, 3) := dc_181 (sg_at zd_dX12_signToken_117 12 rfl rfl) rfl
theorem dX12_signToken_140 : decode cX12_signToken 140 = .ok (.aload_n 0, 1) := dc_42 (sg_at zd_dX12_signToken_117 13 rfl rfl)
theorem dX12_signToken_141 : decode cX12_signToken 141 = .ok (.aload_n 0, 1) := dc_42 (sg_at zd_dX12_signToken_117 14 rfl rfl)
theorem dX12_signToken_142 : decode cX12_signToken 142 = .ok (.getfield 183, 3) := dc_180 (sg_at zd_dX12_signToken_117 15 rfl rfl) rfl
theorem dX12_signToken_145 : decode cX12_signToken 145 = .ok (.bipush 61, 2) := dc_16 (sg_at zd_dX12_signToken_117 16 rfl rfl) rfl
theorem dX12_signToken_147 : decode cX12_signToken 147 = .ok (.if_icmp .ne 7, 3) := dc_160 (sg_at zd_dX12_signToken_117 17 rfl rfl) rfl
theorem dX12_signToken_150 : decode cX12_signToken 150 = .ok (.iconst 2, 1) := dc_5 (sg_at zd_dX12_signToken_117 18 rfl rfl)
theorem dX12_signToken_151 : decode cX12_signToken 151 = .ok (.goto 41, 3) := dc_167 (sg_at zd_dX12_signToken_117 19 rfl rfl) rfl
theorem zd_dX12_signToken_154 : sg (cX12_signToken.data.toList.drop 154) [[42], [180, 0, 183], [16, 60], [160, 0, 23], [28], [153, 0, 7], [4], [167, 0, 24], [29], [153, 0, 7], [6], [167, 0, 16], [3], [167, 0, 12], [28], [153, 0, 7], [7], [167, 0, 4], [8], [181, 0, 183]] = true := by decide +kernel
theorem dX12_signToken_154 : decode cX12_signToken 154 = .ok (.aload_n 0, 1) := dc_42 (sg_at zd_dX12_signToken_154 0 rfl rfl)
theorem dX12_signToken_155 : decode cX12_signToken 155 = .ok (.getfield 183, 3) := dc_180 (sg_at zd_dX12_signToken_154 1 rfl rfl) rfl
theorem dX12_signToken_158 : decode cX12_signToken 158 = .ok (.bipush 60, 2) := dc_16 (sg_at zd_dX12_signToken_154 2 rfl rfl) rfl
theorem dX12_signToken_160 : decode cX12_signToken 160 = .ok (.if_icmp .ne 23, 3) := dc_160 (sg_at zd_dX12_signToken_154 3 rfl rfl) rfl
theorem dX12_signToken_163 : decode cX12_signToken 163 = .ok (.iload_n 2, 1) := dc_28 (sg_at zd_dX12_signToken_154 4 rfl rfl)
theorem dX12_signToken_164 : decode cX12_signToken 164 = .ok (.ifCond .eq 7, 3) := dc_153 (sg_at zd_dX12_signToken_154 5 rfl rfl) rfl
theorem dX12_signToken_167 : decode cX12_signToken 167 = .ok (.iconst 1, 1) := dc_4 (sg_at zd_dX12_signToken_154 6 rfl rfl)
theorem dX12_signToken_168 : decode cX12_signToken 168 = .ok (.goto 24, 3) := dc_167 (sg_at zd_dX12_signToken_154 7 rfl rfl) rfl
theorem dX12_signToken_171 : decode cX12_signToken 171 = .ok (.iload_n 3, 1) := dc_29 (sg_at zd_dX12_signToken_154 8 rfl rfl)
theorem dX12_signToken_172 : decode cX12_signToken 172 = .ok (.ifCond .eq 7, 3) := dc_153 (sg_at zd_dX12_signToken_154 9 rfl rfl) rfl
theorem dX12_signToken_175 : decode cX12_signToken 175 = .ok (.iconst 3, 1) := dc_6 (sg_at zd_dX12_signToken_154 10 rfl rfl)
theorem dX12_signToken_176 : decode cX12_signToken 176 = .ok (.goto 16, 3) := dc_167 (sg_at zd_dX12_signToken_154 11 rfl rfl) rfl
theorem dX12_signToken_179 : decode cX12_signToken 179 = .ok (.iconst 0, 1) := dc_3 (sg_at zd_dX12_signToken_154 12 rfl rfl)
theorem dX12_signToken_180 : decode cX12_signToken 180 = .ok (.goto 12, 3) := dc_167 (sg_at zd_dX12_signToken_154 13 rfl rfl) rfl
theorem dX12_signToken_183 : decode cX12_signToken 183 = .ok (.iload_n 2, 1) := dc_28 (sg_at zd_dX12_signToken_154 14 rfl rfl)
theorem dX12_signToken_184 : decode cX12_signToken 184 = .ok (.ifCond .eq 7, 3) := dc_153 (sg_at zd_dX12_signToken_154 15 rfl rfl) rfl
theorem dX12_signToken_187 : decode cX12_signToken 187 = .ok (.iconst 4, 1) := dc_7 (sg_at zd_dX12_signToken_154 16 rfl rfl)
theorem dX12_signToken_188 : decode cX12_signToken 188 = .ok (.goto 4, 3) := dc_167 (sg_at zd_dX12_signToken_154 17 rfl rfl) rfl
theorem dX12_signToken_191 : decode cX12_signToken 191 = .ok (.iconst 5, 1) := dc_8 (sg_at zd_dX12_signToken_154 18 rfl rfl)
theorem dX12_signToken_192 : decode cX12_signToken 192 = .ok (.putfield 183, 3) := dc_181 (sg_at zd_dX12_signToken_154 19 rfl rfl) rfl
theorem zd_dX12_signToken_195 : sg (cX12_signToken.data.toList.drop 195) [[167, 0, 95], [42], [180, 0, 183], [16, 59], [159, 0, 66], [42], [180, 0, 183], [16, 40], [159, 0, 57], [42], [180, 0, 183], [16, 41], [159, 0, 48], [42], [180, 0, 183], [16, 43], [159, 0, 39], [42], [180, 0, 183], [16, 45]] = true := by decide +kernel
theorem dX12_signToken_195 : decode cX12_signToken 195 = .ok (.goto 95, 3) := dc_167 (sg_at zd_dX12_signToken_195 0 rfl rfl) rfl
theorem dX12_signToken_198 : decode cX12_signToken 198 = .ok (.aload_n 0, 1) := dc_42 (sg_at zd_dX12_signToken_195 1 rfl rfl)
theorem dX12_signToken_199 : decode cX12_signToken 199 = .ok (.getfield 183, 3) := dc_180 (sg_at zd_dX12_signToken_195 2 rfl rfl) rfl
theorem dX12_signToken_202 : decode cX12_signToken 202 = .ok (.bipush 59, 2) := dc_16 (sg_at zd_dX12_signToken_195 3 rfl rfl) rfl
theorem dX12_signToken_204 : decode cX12_signToken 204 = .ok (.if_icmp .eq 66, 3) := dc_159 (sg_at zd_dX12_signToken_195 4 rfl rfl) rfl
theorem dX12_signToken_207 : decode cX12_signToken 207 = .ok (.aload_n 0, 1) := dc_42 (sg_at zd_dX12_signToken_195 5 rfl rfl)
theorem dX12_signToken_208 : decode cX12_signToken 208 = .ok (.getfield 183, 3) := dc_180 (sg_at zd_dX12_signToken_195 6 rfl rfl) rfl
theorem dX12_signToken_211 : decode cX12_signToken 211 = .ok (.bipush 40, 2) := dc_16 (sg_at zd_dX12_signToken_195 7 rfl rfl) rfl
theorem dX12_signToken_213 : decode cX12_signToken 213 = .ok (.if_icmp .eq 57, 3) := dc_159 (sg_at zd_dX12_signToken_195 8 rfl rfl) rfl
theorem dX12_signToken_216 : decode cX12_signToken 216 = .ok (.aload_n 0, 1) := dc_42 (sg_at zd_dX12_signToken_195 9 rfl rfl)
theorem dX12_signToken_217 : decode cX12_signToken 217 = .ok (.getfield 183, 3) := dc_180 (sg_at zd_dX12_signToken_195 10 rfl rfl) rfl
theorem dX12_signToken_220 : decode cX12_signToken 220 = .ok (.bipush 41, 2) := dc_16 (sg_at zd_dX12_signToken_195 11 rfl rfl) rfl
theorem dX12_signToken_222 : decode cX12_signToken 222 = .ok (.if_icmp .eq 48, 3) := dc_159 (sg_at zd_dX12_signToken_195 12 rfl rfl) rfl
theorem dX12_signToken_225 : decode cX12_signToken 225 = .ok (.aload_n 0, 1) := dc_42 (sg_at zd_dX12_signToken_195 13 rfl rfl)
theorem dX12_signToken_226 : decode cX12_signToken 226 = .ok (.getfield 183, 3) := dc_180 (sg_at zd_dX12_signToken_195 14 rfl rfl) rfl
theorem dX12_signToken_229 : decode cX12_signToken 229 = .ok (.bipush 43, 2) := dc_16 (sg_at zd_dX12_signToken_195 15 rfl rfl) rfl
theorem dX12_signToken_231 : decode cX12_signToken 231 = .ok (.if_icmp .eq 39, 3) := dc_159 (sg_at zd_dX12_signToken_195 16 rfl rfl) rfl
theorem dX12_signToken_234 : decode cX12_signToken 234 = .ok (.aload_n 0, 1) := dc_42 (sg_at zd_dX12_signToken_195 17 rfl rfl)
theorem dX12_signToken_235 : decode cX12_signToken 235 = .ok (.getfield 183, 3) := dc_180 (sg_at zd_dX12_signToken_195 18 rfl rfl) rfl
theorem dX12_signToken_238 : decode cX12_signToken 238 = .ok (.bipush 45, 2) := dc_16 (sg_at zd_dX12_signToken_195 19 rfl rfl) rfl
theorem zd_dX12_signToken_240 : sg (cX12_signToken.data.toList.drop 240) [[159, 0, 30], [42], [180, 0, 183], [16, 42], [159, 0, 21], [42], [180, 0, 183], [16, 47], [159, 0, 12], [42], [180, 0, 183], [16, 37], [160, 0, 7], [4], [167, 0, 4], [3], [60], [42], [27], [153, 0, 7]] = true := by decide +kernel
theorem dX12_signToken_240 : decode cX12_signToken 240 = .ok (.if_icmp .eq 30, 3) := dc_159 (sg_at zd_dX12_signToken_240 0 rfl rfl) rfl
theorem dX12_signToken_243 : decode cX12_signToken 243 = .ok (.aload_n 0, 1) := dc_42 (sg_at zd_dX12_signToken_240 1 rfl rfl)
theorem dX12_signToken_244 : decode cX12_signToken 244 = .ok (.getfield 183, 3) := dc_180 (sg_at zd_dX12_signToken_240 2 rfl rfl) rfl
theorem dX12_signToken_247 : decode cX12_signToken 247 = .ok (.bipush 42, 2) := dc_16 (sg_at zd_dX12_signToken_240 3 rfl rfl) rfl
theorem dX12_signToken_249 : decode cX12_signToken 249 = .ok (.if_icmp .eq 21, 3) := dc_159 (sg_at zd_dX12_signToken_240 4 rfl rfl) rfl
theorem dX12_signToken_252 : decode cX12_signToken 252 = .ok (.aload_n 0, 1) := dc_42 (sg_at zd_dX12_signToken_240 5 rfl rfl)
theorem dX12_signToken_253 : decode cX12_signToken 253 = .ok (.getfield 183, 3) := dc_180 (sg_at zd_dX12_signToken_240 6 rfl rfl) rfl
theorem dX12_signToken_256 : decode cX12_signToken 256 = .ok (.bipush 47, 2) := dc_16 (sg_at zd_dX12_signToken_240 7 rfl rfl) rfl
theorem dX12_signToken_258 : decode cX12_signToken 258 = .ok (.if_icmp .eq 12, 3) := dc_159 (sg_at zd_dX12_signToken_240 8 rfl rfl) rfl
theorem dX12_signToken_261 : decode cX12_signToken 261 = .ok (.aload_n 0, 1) := dc_42 (sg_at zd_dX12_signToken_240 9 rfl rfl)
theorem dX12_signToken_262 : decode cX12_signToken 262 = .ok (.getfield 183, 3) := dc_180 (sg_at zd_dX12_signToken_240 10 rfl rfl) rfl
theorem dX12_signToken_265 : decode cX12_signToken 265 = .ok (.bipush 37, 2) := dc_16 (sg_at zd_dX12_signToken_240 11 rfl rfl) rfl
theorem dX12_signToken_267 : decode cX12_signToken 267 = .ok (.if_icmp .ne 7, 3) := dc_160 (sg_at zd_dX12_signToken_240 12 rfl rfl) rfl
theorem dX12_signToken_270 : decode cX12_signToken 270 = .ok (.iconst 1, 1) := dc_4 (sg_at zd_dX12_signToken_240 13 rfl rfl)
theorem dX12_signToken_271 : decode cX12_signToken 271 = .ok (.goto 4, 3) := dc_167 (sg_at zd_dX12_signToken_240 14 rfl rfl) rfl
theorem dX12_signToken_274 : decode cX12_signToken 274 = .ok (.iconst 0, 1) := dc_3 (sg_at zd_dX12_signToken_240 15 rfl rfl)
theorem dX12_signToken_275 : decode cX12_signToken 275 = .ok (.istore_n 1, 1) := dc_60 (sg_at zd_dX12_signToken_240 16 rfl rfl)
theorem dX12_signToken_276 : decode cX12_signToken 276 = .ok (.aload_n 0, 1) := dc_42 (sg_at zd_dX12_signToken_240 17 rfl rfl)
theorem dX12_signToken_277 : decode cX12_signToken 277 = .ok (.iload_n 1, 1) := dc_27 (sg_at zd_dX12_signToken_240 18 rfl rfl)
theorem dX12_signToken_278 : decode cX12_signToken 278 = .ok (.ifCond .eq 7, 3) := dc_153 (sg_at zd_dX12_signToken_240 19 rfl rfl) rfl
theorem zd_dX12_signToken_281 : sg (cX12_signToken.data.toList.drop 281) [[7], [167, 0, 5], [16, 6], [181, 0, 172], [177]] = true := by decide +kernel
theorem dX12_signToken_281 : decode cX12_signToken 281 = .ok (.iconst 4, 1) := dc_7 (sg_at zd_dX12_signToken_281 0 rfl rfl)
theorem dX12_signToken_282 : decode cX12_signToken 282 = .ok (.goto 5, 3) := dc_167 (sg_at zd_dX12_signToken_281 1 rfl rfl) rfl
theorem dX12_signToken_285 : decode cX12_signToken 285 = .ok (.bipush 6, 2) := dc_16 (sg_at zd_dX12_signToken_281 2 rfl rfl) rfl
theorem dX12_signToken_287 : decode cX12_signToken 287 = .ok (.putfield 172, 3) := dc_181 (sg_at zd_dX12_signToken_281 3 rfl rfl) rfl
theorem dX12_signToken_290 : decode cX12_signToken 290 = .ok (.return_, 1) := dc_177 (sg_at zd_dX12_signToken_281 4 rfl rfl)
theorem zd_dX12_token_0 : sg (cX12_token.data.toList.drop 0) [[42], [180, 0, 169], [42], [180, 0, 166], [162, 0, 44], [42], [180, 0, 7], [42], [180, 0, 169], [46], [16, 10], [159, 0, 17], [42], [180, 0, 7], [42], [180, 0, 169], [46], [16, 32], [160, 0, 16], [42]] = true := by decide +kernel
theorem dX12_token_0 : decode cX12_token 0 = .ok (.aload_n 0, 1) := dc_42 (sg_at zd_dX12_token_0 0 rfl rfl)
theorem dX12_token_1 : decode cX12_token 1 = .ok (.getfield 169, 3) := dc_180 (sg_at zd_dX12_token_0 1 rfl rfl) rfl
theorem dX12_token_4 : decode cX12_token 4 = .ok (.aload_n 0, 1) := dc_42 (sg_at zd_dX12_token_0 2 rfl rfl)
theorem dX12_token_5 : decode cX12_token 5 = .ok (.getfield 166, 3) := dc_180 (sg_at zd_dX12_token_0 3 rfl rfl) rfl
theorem dX12_token_8 : decode cX12_token 8 = .ok (.if_icmp .ge 44, 3) := dc_162 (sg_at zd_dX12_token_0 4 rfl rfl) rfl
theorem dX12_token_11 : decode cX12_token 11 = .ok (.aload_n 0, 1) := dc_42 (sg_at zd_dX12_token_0 5 rfl rfl)
theorem dX12_token_12 : decode cX12_token 12 = .ok (.getfield 7, 3) := dc_180 (sg_at zd_dX12_token_0 6 rfl rfl) rfl
theorem dX12_token_15 : decode cX12_token 15 = .ok (.aload_n 0, 1) := dc_42 (sg_at zd_dX12_token_0 7 rfl rfl)
theorem dX12_token_16 : decode cX12_token 16 = .ok (.getfield 169, 3) := dc_180 (sg_at zd_dX12_token_0 8 rfl rfl) rfl
theorem dX12_token_19 : decode cX12_token 19 = .ok (.iaload, 1) := dc_46 (sg_at zd_dX12_token_0 9 rfl rfl)
theorem dX12_token_20 : decode cX12_token 20 = .ok (.bipush 10, 2) := dc_16 (sg_at zd_dX12_token_0 10 rfl rfl) rfl
theorem dX12_token_22 : decode cX12_token 22 = .ok (.if_icmp .eq 17, 3) := dc_159 (sg_at zd_dX12_token_0 11 rfl rfl) rfl
theorem dX12_token_25 : decode cX12_token 25 = .ok (.aload_n 0, 1) := dc_42 (sg_at zd_dX12_token_0 12 rfl rfl)
theorem dX12_token_26 : decode cX12_token 26 = .ok (.getfield 7, 3) := dc_180 (sg_at zd_dX12_token_0 13 rfl rfl) rfl
theorem dX12_token_29 : decode cX12_token 29 = .ok (.aload_n 0, 1) := dc_42 (sg_at zd_dX12_token_0 14 rfl rfl)
theorem dX12_token_30 : decode cX12_token 30 = .ok (.getfield 169, 3) := dc_180 (sg_at zd_dX12_token_0 15 rfl rfl) rfl
theorem dX12_token_33 : decode cX12_token 33 = .ok (.iaload, 1) := dc_46 (sg_at zd_dX12_token_0 16 rfl rfl)
theorem dX12_token_34 : decode cX12_token 34 = .ok (.bipush 32, 2) := dc_16 (sg_at zd_dX12_token_0 17 rfl rfl) rfl
theorem dX12_token_36 : decode cX12_token 36 = .ok (.if_icmp .ne 16, 3) := dc_160 (sg_at zd_dX12_token_0 18 rfl rfl) rfl
theorem dX12_token_39 : decode cX12_token 39 = .ok (.aload_n 0, 1) := dc_42 (sg_at zd_dX12_token_0 19 rfl rfl)
theorem zd_dX12_token_40 : sg (cX12_token.data.toList.drop 40) [[89], [180, 0, 169], [4], [96], [181, 0, 169], [167, 255, 207], [42], [42], [180, 0, 169], [181, 0, 163], [42], [180, 0, 169], [42], [180, 0, 166], [160, 0, 11], [42], [3], [181, 0, 172], [167, 0, 205], [42]] = true := by decide +kernel
theorem dX12_token_40 : decode cX12_token 40 = .ok (.dup, 1) := dc_89 (sg_at zd_dX12_token_40 0 rfl rfl)
theorem dX12_token_41 : decode cX12_token 41 = .ok (.getfield 169, 3) := dc_180 (sg_at zd_dX12_token_40 1 rfl rfl) rfl
theorem dX12_token_44 : decode cX12_token 44 = .ok (.iconst 1, 1) := dc_4 (sg_at zd_dX12_token_40 2 rfl rfl)
theorem dX12_token_45 : decode cX12_token 45 = .ok (.iadd, 1) := dc_96 (sg_at zd_dX12_token_40 3 rfl rfl)
theorem dX12_token_46 : decode cX12_token 46 = .ok (.putfield 169, 3) := dc_181 (sg_at zd_dX12_token_40 4 rfl rfl) rfl
theorem dX12_token_49 : decode cX12_token 49 = .ok (.goto (-49), 3) := dc_167 (sg_at zd_dX12_token_40 5 rfl rfl) rfl
theorem dX12_token_52 : decode cX12_token 52 = .ok (.aload_n 0, 1) := dc_42 (sg_at zd_dX12_token_40 6 rfl rfl)
theorem dX12_token_53 : decode cX12_token 53 = .ok (.aload_n 0, 1) := dc_42 (sg_at zd_dX12_token_40 7 rfl rfl)
theorem dX12_token_54 : decode cX12_token 54 = .ok (.getfield 169, 3) := dc_180 (sg_at zd_dX12_token_40 8 rfl rfl) rfl
theorem dX12_token_57 : decode cX12_token 57 = .ok (.putfield 163, 3) := dc_181 (sg_at zd_dX12_token_40 9 rfl rfl) rfl
theorem dX12_token_60 : decode cX12_token 60 = .ok (.aload_n 0, 1) := dc_42 (sg_at zd_dX12_token_40 10 rfl rfl)
theorem dX12_token_61 : decode cX12_token 61 = .ok (.getfield 169, 3) := dc_180 (sg_at zd_dX12_token_40 11 rfl rfl) rfl
theorem dX12_token_64 : decode cX12_token 64 = .ok (.aload_n 0, 1) := dc_42 (sg_at zd_dX12_token_40 12 rfl rfl)
theorem dX12_token_65 : decode cX12_token 65 = .ok (.getfield 166, 3) := dc_180 (sg_at zd_dX12_token_40 13 rfl rfl) rfl
theorem dX12_token_68 : decode cX12_token 68 = .ok (.if_icmp .ne 11, 3) := dc_160 (sg_at zd_dX12_token_40 14 rfl rfl) rfl
theorem dX12_token_71 : decode cX12_token 71 = .ok (.aload_n 0, 1) := dc_42 (sg_at zd_dX12_token_40 15 rfl rfl)
theorem dX12_token_72 : decode cX12_token 72 = .ok (.iconst 0, 1) := dc_3 (sg_at zd_dX12_token_40 16 rfl rfl)
theorem dX12_token_73 : decode cX12_token 73 = .ok (.putfield 172, 3) := dc_181 (sg_at zd_dX12_token_40 17 rfl rfl) rfl
theorem dX12_token_76 : decode cX12_token 76 = .ok (.goto 205, 3) := dc_167 (sg_at zd_dX12_token_40 18 rfl rfl) rfl
theorem dX12_token_79 : decode cX12_token 79 = .ok (.aload_n 0, 1) := dc_42 (sg_at zd_dX12_token_40 19 rfl rfl)
theorem zd_dX12_token_80 : sg (cX12_token.data.toList.drop 80) [[42], [180, 0, 169], [182, 0, 175], [153, 0, 105], [42], [42], [180, 0, 169], [182, 0, 175], [153, 0, 16], [42], [89], [180, 0, 169], [4], [96], [181, 0, 169], [167, 255, 235], [42], [42], [42], [180, 0, 163]] = true := by decide +kernel
theorem dX12_token_80 : decode cX12_token 80 = .ok (.aload_n 0, 1) := dc_42 (sg_at zd_dX12_token_80 0 rfl rfl)
theorem dX12_token_81 : decode cX12_token 81 = .ok (.getfield 169, 3) := dc_180 (sg_at zd_dX12_token_80 1 rfl rfl) rfl
theorem dX12_token_84 : decode cX12_token 84 = .ok (.invokevirtual 175, 3) := dc_182 (sg_at zd_dX12_token_80 2 rfl rfl) rfl
theorem dX12_token_87 : decode cX12_token 87 = .ok (.ifCond .eq 105, 3) := dc_153 (sg_at zd_dX12_token_80 3 rfl rfl) rfl
theorem dX12_token_90 : decode cX12_token 90 = .ok (.aload_n 0, 1) := dc_42 (sg_at zd_dX12_token_80 4 rfl rfl)
theorem dX12_token_91 : decode cX12_token 91 = .ok (.aload_n 0, 1) := dc_42 (sg_at zd_dX12_token_80 5 rfl rfl)
theorem dX12_token_92 : decode cX12_token 92 = .ok (.getfield 169, 3) := dc_180 (sg_at zd_dX12_token_80 6 rfl rfl) rfl
theorem dX12_token_95 : decode cX12_token 95 = .ok (.invokevirtual 175, 3) := dc_182 (sg_at zd_dX12_token_80 7 rfl rfl) rfl
theorem dX12_token_98 : decode cX12_token 98 = .ok (.ifCond .eq 16, 3) := dc_153 (sg_at zd_dX12_token_80 8 rfl rfl) rfl
theorem dX12_token_101 : decode cX12_token 101 = .ok (.aload_n 0, 1) := dc_42 (sg_at zd_dX12_token_80 9 rfl rfl)
theorem dX12_token_102 : decode cX12_token 102 = .ok (.dup, 1) := dc_89 (sg_at zd_dX12_token_80 10 rfl rfl)
theorem dX12_token_103 : decode cX12_token 103 = .ok (.getfield 169, 3) := dc_180 (sg_at zd_dX12_token_80 11 rfl rfl) rfl
theorem dX12_token_106 : decode cX12_token 106 = .ok (.iconst 1, 1) := dc_4 (sg_at zd_dX12_token_80 12 rfl rfl)
theorem dX12_token_107 : decode cX12_token 107 = .ok (.iadd, 1) := dc_96 (sg_at zd_dX12_token_80 13 rfl rfl)
theorem dX12_token_108 : decode cX12_token 108 = .ok (.putfield 169, 3) := dc_181 (sg_at zd_dX12_token_80 14 rfl rfl) rfl
theorem dX12_token_111 : decode cX12_token 111 = .ok (.goto (-21), 3) := dc_167 (sg_at zd_dX12_token_80 15 rfl rfl) rfl
theorem dX12_token_114 : decode cX12_token 114 = .ok (.aload_n 0, 1) := dc_42 (sg_at zd_dX12_token_80 16 rfl rfl)
theorem dX12_token_115 : decode cX12_token 115 = .ok (.aload_n 0, 1) := dc_42 (sg_at zd_dX12_token_80 17 rfl rfl)
theorem dX12_token_116 : decode cX12_token 116 = .ok (.aload_n 0, 1) := dc_42 (sg_at zd_dX12_token_80 18 rfl rfl)
theorem dX12_token_117 : decode cX12_token 117 = .ok (.getfield 163, 3) := dc_180 (sg_at zd_dX12_token_80 19 rfl rfl) rfl
theorem zd_dX12_token_120 : sg (cX12_token.data.toList.drop 120) [[42], [180, 0, 169], [182, 0, 179], [181, 0, 183], [42], [42], [180, 0, 183], [155, 0, 7], [4], [167, 0, 23], [42], [180, 0, 169], [42], [180, 0, 163], [100], [16, 6], [164, 0, 8], [16, 6], [167, 0, 4], [5]] = true := by decide +kernel
theorem dX12_token_120 : decode cX12_token 120 = .ok (.aload_n 0, 1) := dc_42 (sg_at zd_dX12_token_120 0 rfl rfl)
theorem dX12_token_121 : decode cX12_token 121 = .ok (.getfield 169, 3) := dc_180 (sg_at zd_dX12_token_120 1 rfl rfl) rfl
theorem dX12_token_124 : decode cX12_token 124 = .ok (.invokevirtual 179, 3) := dc_182 (sg_at zd_dX12_token_120 2 rfl rfl) rfl
theorem dX12_token_127 : decode cX12_token 127 = .ok (.putfield 183, 3) := dc_181 (sg_at zd_dX12_token_120 3 rfl rfl) rfl
theorem dX12_token_130 : decode cX12_token 130 = .ok (.aload_n 0, 1) := dc_42 (sg_at zd_dX12_token_120 4 rfl rfl)
theorem dX12_token_131 : decode cX12_token 131 = .ok (.aload_n 0, 1) := dc_42 (sg_at zd_dX12_token_120 5 rfl rfl)
theorem dX12_token_132 : decode cX12_token 132 = .ok (.getfield 183, 3) := dc_180 (sg_at zd_dX12_token_120 6 rfl rfl) rfl
theorem dX12_token_135 : decode cX12_token 135 = .ok (.ifCond .lt 7, 3) := dc_155 (sg_at zd_dX12_token_120 7 rfl rfl) rfl
theorem dX12_token_138 : decode cX12_token 138 = .ok (.iconst 1, 1) := dc_4 (sg_at zd_dX12_token_120 8 rfl rfl)
theorem dX12_token_139 : decode cX12_token 139 = .ok (.goto 23, 3) := dc_167 (sg_at zd_dX12_token_120 9 rfl rfl) rfl
theorem dX12_token_142 : decode cX12_token 142 = .ok (.aload_n 0, 1) := dc_42 (sg_at zd_dX12_token_120 10 rfl rfl)
theorem dX12_token_143 : decode cX12_token 143 = .ok (.getfield 169, 3) := dc_180 (sg_at zd_dX12_token_120 11 rfl rfl) rfl
theorem dX12_token_146 : decode cX12_token 146 = .ok (.aload_n 0, 1) := dc_42 (sg_at zd_dX12_token_120 12 rfl rfl)
theorem dX12_token_147 : decode cX12_token 147 = .ok (.getfield 163, 3) := dc_180 (sg_at zd_dX12_token_120 13 rfl rfl) rfl
theorem dX12_token_150 : decode cX12_token 150 = .ok (.isub, 1) := dc_100 (sg_at zd_dX12_token_120 14 rfl rfl)
theorem dX12_token_151 : decode cX12_token 151 = .ok (.bipush 6, 2) := dc_16 (sg_at zd_dX12_token_120 15 rfl rfl) rfl
theorem dX12_token_153 : decode cX12_token 153 = .ok (.if_icmp .le 8, 3) := dc_164 (sg_at zd_dX12_token_120 16 rfl rfl) rfl
theorem dX12_token_156 : decode cX12_token 156 = .ok (.bipush 6, 2) := dc_16 (sg_at zd_dX12_token_120 17 rfl rfl) rfl
theorem dX12_token_158 : decode cX12_token 158 = .ok (.goto 4, 3) := dc_167 (sg_at zd_dX12_token_120 18 rfl rfl) rfl
theorem dX12_token_161 : decode cX12_token 161 = .ok (.iconst 2, 1) := dc_5 (sg_at zd_dX12_token_120 19 rfl rfl)
theorem zd_dX12_token_162 : sg (cX12_token.data.toList.drop 162) [[181, 0, 172], [42], [180, 0, 172], [5], [160, 0, 111], [42], [42], [42], [180, 0, 163], [42], [180, 0, 169], [182, 0, 186], [181, 0, 183], [167, 0, 92], [42], [42], [180, 0, 169], [182, 0, 189], [153, 0, 77], [42]] = true := by decide +kernel
theorem dX12_token_162 : decode cX12_token 162 = .ok (.putfield 172, 3) := dc_181 (sg_at zd_dX12_token_162 0 rfl rfl) rfl
theorem dX12_token_165 : decode cX12_token 165 = .ok (.aload_n 0, 1) := dc_42 (sg_at zd_dX12_token_162 1 rfl rfl)
theorem dX12_token_166 : decode cX12_token 166 = .ok (.getfield 172, 3) := dc_180 (sg_at zd_dX12_token_162 2 rfl rfl) rfl
theorem dX12_token_169 : decode cX12_token 169 = .ok (.iconst 2, 1) := dc_5 (sg_at zd_dX12_token_162 3 rfl rfl)
theorem dX12_token_170 : decode cX12_token 170 = .ok (.if_icmp .ne 111, 3) := dc_160 (sg_at zd_dX12_token_162 4 rfl rfl) rfl
theorem dX12_token_173 : decode cX12_token 173 = .ok (.aload_n 0, 1) := dc_42 (sg_at zd_dX12_token_162 5 rfl rfl)
theorem dX12_token_174 : decode cX12_token 174 = .ok (.aload_n 0, 1) := dc_42 (sg_at zd_dX12_token_162 6 rfl rfl)
theorem dX12_token_175 : decode cX12_token 175 = .ok (.aload_n 0, 1) := dc_42 (sg_at zd_dX12_token_162 7 rfl rfl)
theorem dX12_token_176 : decode cX12_token 176 = .ok (.getfield 163, 3) := dc_180 (sg_at zd_dX12_token_162 8 rfl rfl) rfl
theorem dX12_token_179 : decode cX12_token 179 = .ok (.aload_n 0, 1) := dc_42 (sg_at zd_dX12_token_162 9 rfl rfl)
theorem dX12_token_180 : decode cX12_token 180 = .ok (.getfield 169, 3) := dc_180 (sg_at zd_dX12_token_162 10 rfl rfl) rfl
theorem dX12_token_183 : decode cX12_token 183 = .ok (.invokevirtual 186, 3) := dc_182 (sg_at zd_dX12_token_162 11 rfl rfl) rfl
theorem dX12_token_186 : decode cX12_token 186 = .ok (.putfield 183, 3) := dc_181 (sg_at zd_dX12_token_162 12 rfl rfl) rfl
theorem dX12_token_189 : decode cX12_token 189 = .ok (.goto 92, 3) := dc_167 (sg_at zd_dX12_token_162 13 rfl rfl) rfl
theorem dX12_token_192 : decode cX12_token 192 = .ok (.aload_n 0, 1) := dc_42 (sg_at zd_dX12_token_162 14 rfl rfl)
theorem dX12_token_193 : decode cX12_token 193 = .ok (.aload_n 0, 1) := dc_42 (sg_at zd_dX12_token_162 15 rfl rfl)
theorem dX12_token_194 : decode cX12_token 194 = .ok (.getfield 169, 3) := dc_180 (sg_at zd_dX12_token_162 16 rfl rfl) rfl
theorem dX12_token_197 : decode cX12_token 197 = .ok (.invokevirtual 189, 3) := dc_182 (sg_at zd_dX12_token_162 17 rfl rfl) rfl
theorem dX12_token_200 : decode cX12_token 200 = .ok (.ifCond .eq 77, 3) := dc_153 (sg_at zd_dX12_token_162 18 rfl rfl) rfl
theorem dX12_token_203 : decode cX12_token 203 = .ok (.aload_n 0, 1) := dc_42 (sg_at zd_dX12_token_162 19 rfl rfl)
theorem zd_dX12_token_204 : sg (cX12_token.data.toList.drop 204) [[6], [181, 0, 172], [42], [3], [181, 0, 183], [42], [42], [180, 0, 169], [182, 0, 189], [153, 0, 60], [42], [42], [180, 0, 183], [18, 192], [164, 0, 10], [42], [180, 0, 183], [167, 0, 23], [16, 10], [42]] = true := by decide +kernel
theorem dX12_token_204 : decode cX12_token 204 = .ok (.iconst 3, 1) := dc_6 (sg_at zd_dX12_token_204 0 rfl rfl)
theorem dX12_token_205 : decode cX12_token 205 = .ok (.putfield 172, 3) := dc_181 (sg_at zd_dX12_token_204 1 rfl rfl) rfl
theorem dX12_token_208 : decode cX12_token 208 = .ok (.aload_n 0, 1) := dc_42 (sg_at zd_dX12_token_204 2 rfl rfl)
theorem dX12_token_209 : decode cX12_token 209 = .ok (.iconst 0, 1) := dc_3 (sg_at zd_dX12_token_204 3 rfl rfl)
theorem dX12_token_210 : decode cX12_token 210 = .ok (.putfield 183, 3) := dc_181 (sg_at zd_dX12_token_204 4 rfl rfl) rfl
theorem dX12_token_213 : decode cX12_token 213 = .ok (.aload_n 0, 1) := dc_42 (sg_at zd_dX12_token_204 5 rfl rfl)
theorem dX12_token_214 : decode cX12_token 214 = .ok (.aload_n 0, 1) := dc_42 (sg_at zd_dX12_token_204 6 rfl rfl)
theorem dX12_token_215 : decode cX12_token 215 = .ok (.getfield 169, 3) := dc_180 (sg_at zd_dX12_token_204 7 rfl rfl) rfl
theorem dX12_token_218 : decode cX12_token 218 = .ok (.invokevirtual 189, 3) := dc_182 (sg_at zd_dX12_token_204 8 rfl rfl) rfl
theorem dX12_token_221 : decode cX12_token 221 = .ok (.ifCond .eq 60, 3) := dc_153 (sg_at zd_dX12_token_204 9 rfl rfl) rfl
theorem dX12_token_224 : decode cX12_token 224 = .ok (.aload_n 0, 1) := dc_42 (sg_at zd_dX12_token_204 10 rfl rfl)
theorem dX12_token_225 : decode cX12_token 225 = .ok (.aload_n 0, 1) := dc_42 (sg_at zd_dX12_token_204 11 rfl rfl)
theorem dX12_token_226 : decode cX12_token 226 = .ok (.getfield 183, 3) := dc_180 (sg_at zd_dX12_token_204 12 rfl rfl) rfl
theorem dX12_token_229 : decode cX12_token 229 = .ok (.ldc 192, 2) := dc_18 (sg_at zd_dX12_token_204 13 rfl rfl)
theorem dX12_token_231 : decode cX12_token 231 = .ok (.if_icmp .le 10, 3) := dc_164 (sg_at zd_dX12_token_204 14 rfl rfl) rfl
theorem dX12_token_234 : decode cX12_token 234 = .ok (.aload_n 0, 1) := dc_42 (sg_at zd_dX12_token_204 15 rfl rfl)
theorem dX12_token_235 : decode cX12_token 235 = .ok (.getfield 183, 3) := dc_180 (sg_at zd_dX12_token_204 16 rfl rfl) rfl
theorem dX12_token_238 : decode cX12_token 238 = .ok (.goto 23, 3) := dc_167 (sg_at zd_dX12_token_204 17 rfl rfl) rfl
theorem dX12_token_241 : decode cX12_token 241 = .ok (.bipush 10, 2) := dc_16 (sg_at zd_dX12_token_204 18 rfl rfl) rfl
theorem dX12_token_243 : decode cX12_token 243 = .ok (.aload_n 0, 1) := dc_42 (sg_at zd_dX12_token_204 19 rfl rfl)
theorem zd_dX12_token_244 : sg (cX12_token.data.toList.drop 244) [[180, 0, 183], [104], [42], [180, 0, 7], [42], [180, 0, 169], [46], [96], [16, 48], [100], [181, 0, 183], [42], [89], [180, 0, 169], [4], [96], [181, 0, 169], [167, 255, 195], [42], [182, 0, 193]] = true := by decide +kernel
theorem dX12_token_244 : decode cX12_token 244 = .ok (.getfield 183, 3) := dc_180 (sg_at zd_dX12_token_244 0 rfl rfl) rfl
theorem dX12_token_247 : decode cX12_token 247 = .ok (.imul, 1) := dc_104 (sg_at zd_dX12_token_244 1 rfl rfl)
theorem dX12_token_248 : decode cX12_token 248 = .ok (.aload_n 0, 1) := dc_42 (sg_at zd_dX12_token_244 2 rfl rfl)
theorem dX12_token_249 : decode cX12_token 249 = .ok (.getfield 7, 3) := dc_180 (sg_at zd_dX12_token_244 3 rfl rfl) rfl
theorem dX12_token_252 : decode cX12_token 252 = .ok (.aload_n 0, 1) := dc_42 (sg_at zd_dX12_token_244 4 rfl rfl)
theorem dX12_token_253 : decode cX12_token 253 = .ok (.getfield 169, 3) := dc_180 (sg_at zd_dX12_token_244 5 rfl rfl) rfl
theorem dX12_token_256 : decode cX12_token 256 = .ok (.iaload, 1) := dc_46 (sg_at zd_dX12_token_244 6 rfl rfl)
theorem dX12_token_257 : decode cX12_token 257 = .ok (.iadd, 1) := dc_96 (sg_at zd_dX12_token_244 7 rfl rfl)
theorem dX12_token_258 : decode cX12_token 258 = .ok (.bipush 48, 2) := dc_16 (sg_at zd_dX12_token_244 8 rfl rfl) rfl
theorem dX12_token_260 : decode cX12_token 260 = .ok (.isub, 1) := dc_100 (sg_at zd_dX12_token_244 9 rfl rfl)
theorem dX12_token_261 : decode cX12_token 261 = .ok (.putfield 183, 3) := dc_181 (sg_at zd_dX12_token_244 10 rfl rfl) rfl
theorem dX12_token_264 : decode cX12_token 264 = .ok (.aload_n 0, 1) := dc_42 (sg_at zd_dX12_token_244 11 rfl rfl)
theorem dX12_token_265 : decode cX12_token 265 = .ok (.dup, 1) := dc_89 (sg_at zd_dX12_token_244 12 rfl rfl)
theorem dX12_token_266 : decode cX12_token 266 = .ok (.getfield 169, 3) := dc_180 (sg_at zd_dX12_token_244 13 rfl rfl) rfl
theorem dX12_token_269 : decode cX12_token 269 = .ok (.iconst 1, 1) := dc_4 (sg_at zd_dX12_token_244 14 rfl rfl)
theorem dX12_token_270 : decode cX12_token 270 = .ok (.iadd, 1) := dc_96 (sg_at zd_dX12_token_244 15 rfl rfl)
theorem dX12_token_271 : decode cX12_token 271 = .ok (.putfield 169, 3) := dc_181 (sg_at zd_dX12_token_244 16 rfl rfl) rfl
theorem dX12_token_274 : decode cX12_token 274 = .ok (.goto (-61), 3) := dc_167 (sg_at zd_dX12_token_244 17 rfl rfl) rfl
theorem dX12_token_277 : decode cX12_token 277 = .ok (.aload_n 0, 1) := dc_42 (sg_at zd_dX12_token_244 18 rfl rfl)
theorem dX12_token_278 : decode cX12_token 278 = .ok (.invokevirtual 193, 3) := dc_182 (sg_at zd_dX12_token_244 19 rfl rfl) rfl
theorem zd_dX12_token_281 : sg (cX12_token.data.toList.drop 281) [[177]] = true := by decide +kernel
theorem dX12_token_281 : decode cX12_token 281 = .ok (.return_, 1) := dc_177 (sg_at zd_dX12_token_281 0 rfl rfl)
theorem zd_dX12_wrong_0 : sg (cX12_wrong.data.toList.drop 0) [[42], [27], [181, 0, 160], [42], [42], [180, 0, 163], [181, 0, 16], [3], [172]] = true := by decide +kernel
theorem dX12_wrong_0 : decode cX12_wrong 0 = .ok (.aload_n 0, 1) := dc_42 (sg_at zd_dX12_wrong_0 0 rfl rfl)
theorem dX12_wrong_1 : decode cX12_wrong 1 = .ok (.iload_n 1, 1) := dc_27 (sg_at zd_dX12_wrong_0 1 rfl rfl)
theorem dX12_wrong_2 : decode cX12_wrong 2 = .ok (.putfield 160, 3) := dc_181 (sg_at zd_dX12_wrong_0 2 rfl rfl) rfl
theorem dX12_wrong_5 : decode cX12_wrong 5 = .ok (.aload_n 0, 1) := dc_42 (sg_at zd_dX12_wrong_0 3 rfl rfl)
theorem dX12_wrong_6 : decode cX12_wrong 6 = .ok (.aload_n 0, 1) := dc_42 (sg_at zd_dX12_wrong_0 4 rfl rfl)
theorem dX12_wrong_7 : decode cX12_wrong 7 = .ok (.getfield 163, 3) := dc_180 (sg_at zd_dX12_wrong_0 5 rfl rfl) rfl
theorem dX12_wrong_10 : decode cX12_wrong 10 = .ok (.putfield 16, 3) := dc_181 (sg_at zd_dX12_wrong_0 6 rfl rfl) rfl
theorem dX12_wrong_13 : decode cX12_wrong 13 = .ok (.iconst 0, 1) := dc_3 (sg_at zd_dX12_wrong_0 7 rfl rfl)
theorem dX12_wrong_14 : decode cX12_wrong 14 = .ok (.ireturn, 1) := dc_172 (sg_at zd_dX12_wrong_0 8 rfl rfl)
theorem zd_dX12_isIn_0 : sg (cX12_isIn.data.toList.drop 0) [[26], [27], [161, 0, 12], [26], [28], [163, 0, 7], [4], [167, 0, 4], [3], [172]] = true := by decide +kernel
theorem dX12_isIn_0 : decode cX12_isIn 0 = .ok (.iload_n 0, 1) := dc_26 (sg_at zd_dX12_isIn_0 0 rfl rfl)
theorem dX12_isIn_1 : decode cX12_isIn 1 = .ok (.iload_n 1, 1) := dc_27 (sg_at zd_dX12_isIn_0 1 rfl rfl)
theorem dX12_isIn_2 : decode cX12_isIn 2 = .ok (.if_icmp .lt 12, 3) := dc_161 (sg_at zd_dX12_isIn_0 2 rfl rfl) rfl
theorem dX12_isIn_5 : decode cX12_isIn 5 = .ok (.iload_n 0, 1) := dc_26 (sg_at zd_dX12_isIn_0 3 rfl rfl)
theorem dX12_isIn_6 : decode cX12_isIn 6 = .ok (.iload_n 2, 1) := dc_28 (sg_at zd_dX12_isIn_0 4 rfl rfl)
theorem dX12_isIn_7 : decode cX12_isIn 7 = .ok (.if_icmp .gt 7, 3) := dc_163 (sg_at zd_dX12_isIn_0 5 rfl rfl) rfl
theorem dX12_isIn_10 : decode cX12_isIn 10 = .ok (.iconst 1, 1) := dc_4 (sg_at zd_dX12_isIn_0 6 rfl rfl)
theorem dX12_isIn_11 : decode cX12_isIn 11 = .ok (.goto 4, 3) := dc_167 (sg_at zd_dX12_isIn_0 7 rfl rfl) rfl
theorem dX12_isIn_14 : decode cX12_isIn 14 = .ok (.iconst 0, 1) := dc_3 (sg_at zd_dX12_isIn_0 8 rfl rfl)
theorem dX12_isIn_15 : decode cX12_isIn 15 = .ok (.ireturn, 1) := dc_172 (sg_at zd_dX12_isIn_0 9 rfl rfl)
theorem zd_dX12_number_0 : sg (cX12_number.data.toList.drop 0) [[42], [180, 0, 172], [6], [159, 0, 9], [42], [4], [182, 0, 196], [172], [42], [180, 0, 183], [27], [28], [184, 0, 199], [154, 0, 9], [42], [5], [182, 0, 196], [172], [42], [42]] = true := by decide +kernel
theorem dX12_number_0 : decode cX12_number 0 = .ok (.aload_n 0, 1) := dc_42 (sg_at zd_dX12_number_0 0 rfl rfl)
theorem dX12_number_1 : decode cX12_number 1 = .ok (.getfield 172, 3) := dc_180 (sg_at zd_dX12_number_0 1 rfl rfl) rfl
theorem dX12_number_4 : decode cX12_number 4 = .ok (.iconst 3, 1) := dc_6 (sg_at zd_dX12_number_0 2 rfl rfl)
theorem dX12_number_5 : decode cX12_number 5 = .ok (.if_icmp .eq 9, 3) := dc_159 (sg_at zd_dX12_number_0 3 rfl rfl) rfl
theorem dX12_number_8 : decode cX12_number 8 = .ok (.aload_n 0, 1) := dc_42 (sg_at zd_dX12_number_0 4 rfl rfl)
theorem dX12_number_9 : decode cX12_number 9 = .ok (.iconst 1, 1) := dc_4 (sg_at zd_dX12_number_0 5 rfl rfl)
theorem dX12_number_10 : decode cX12_number 10 = .ok (.invokevirtual 196, 3) := dc_182 (sg_at zd_dX12_number_0 6 rfl rfl) rfl
theorem dX12_number_13 : decode cX12_number 13 = .ok (.ireturn, 1) := dc_172 (sg_at zd_dX12_number_0 7 rfl rfl)
theorem dX12_number_14 : decode cX12_number 14 = .ok (.aload_n 0, 1) := dc_42 (sg_at zd_dX12_number_0 8 rfl rfl)
theorem dX12_number_15 : decode cX12_number 15 = .ok (.getfield 183, 3) := dc_180 (sg_at zd_dX12_number_0 9 rfl rfl) rfl
theorem dX12_number_18 : decode cX12_number 18 = .ok (.iload_n 1, 1) := dc_27 (sg_at zd_dX12_number_0 10 rfl rfl)
theorem dX12_number_19 : decode cX12_number 19 = .ok (.iload_n 2, 1) := dc_28 (sg_at zd_dX12_number_0 11 rfl rfl)
theorem dX12_number_20 : decode cX12_number 20 = .ok (.invokestatic 199, 3) := dc_184 (sg_at zd_dX12_number_0 12 rfl rfl) rfl
theorem dX12_number_23 : decode cX12_number 23 = .ok (.ifCond .ne 9, 3) := dc_154 (sg_at zd_dX12_number_0 13 rfl rfl) rfl
theorem dX12_number_26 : decode cX12_number 26 = .ok (.aload_n 0, 1) := dc_42 (sg_at zd_dX12_number_0 14 rfl rfl)
theorem dX12_number_27 : decode cX12_number 27 = .ok (.iconst 2, 1) := dc_5 (sg_at zd_dX12_number_0 15 rfl rfl)
theorem dX12_number_28 : decode cX12_number 28 = .ok (.invokevirtual 196, 3) := dc_182 (sg_at zd_dX12_number_0 16 rfl rfl) rfl
theorem dX12_number_31 : decode cX12_number 31 = .ok (.ireturn, 1) := dc_172 (sg_at zd_dX12_number_0 17 rfl rfl)
theorem dX12_number_32 : decode cX12_number 32 = .ok (.aload_n 0, 1) := dc_42 (sg_at zd_dX12_number_0 18 rfl rfl)
theorem dX12_number_33 : decode cX12_number 33 = .ok (.aload_n 0, 1) := dc_42 (sg_at zd_dX12_number_0 19 rfl rfl)
theorem zd_dX12_number_34 : sg (cX12_number.data.toList.drop 34) [[180, 0, 183], [181, 0, 203], [42], [182, 0, 206], [4], [172]] = true := by decide +kernel
theorem dX12_number_34 : decode cX12_number 34 = .ok (.getfield 183, 3) := dc_180 (sg_at zd_dX12_number_34 0 rfl rfl) rfl
theorem dX12_number_37 : decode cX12_number 37 = .ok (.putfield 203, 3) := dc_181 (sg_at zd_dX12_number_34 1 rfl rfl) rfl
theorem dX12_number_40 : decode cX12_number 40 = .ok (.aload_n 0, 1) := dc_42 (sg_at zd_dX12_number_34 2 rfl rfl)
theorem dX12_number_41 : decode cX12_number 41 = .ok (.invokevirtual 206, 3) := dc_182 (sg_at zd_dX12_number_34 3 rfl rfl) rfl
theorem dX12_number_44 : decode cX12_number 44 = .ok (.iconst 1, 1) := dc_4 (sg_at zd_dX12_number_34 4 rfl rfl)
theorem dX12_number_45 : decode cX12_number 45 = .ok (.ireturn, 1) := dc_172 (sg_at zd_dX12_number_34 5 rfl rfl)
theorem zd_dX12_bankLine_0 : sg (cX12_bankLine.data.toList.drop 0) [[42], [182, 0, 206], [42], [4], [16, 20], [182, 0, 212], [154, 0, 5], [3], [172], [42], [180, 0, 24], [16, 9], [42], [180, 0, 203], [79], [42], [4], [16, 20], [182, 0, 212], [154, 0, 5]] = true := by decide +kernel
theorem dX12_bankLine_0 : decode cX12_bankLine 0 = .ok (.aload_n 0, 1) := dc_42 (sg_at zd_dX12_bankLine_0 0 rfl rfl)
theorem dX12_bankLine_1 : decode cX12_bankLine 1 = .ok (.invokevirtual 206, 3) := dc_182 (sg_at zd_dX12_bankLine_0 1 rfl rfl) rfl
theorem dX12_bankLine_4 : decode cX12_bankLine 4 = .ok (.aload_n 0, 1) := dc_42 (sg_at zd_dX12_bankLine_0 2 rfl rfl)
theorem dX12_bankLine_5 : decode cX12_bankLine 5 = .ok (.iconst 1, 1) := dc_4 (sg_at zd_dX12_bankLine_0 3 rfl rfl)
theorem dX12_bankLine_6 : decode cX12_bankLine 6 = .ok (.bipush 20, 2) := dc_16 (sg_at zd_dX12_bankLine_0 4 rfl rfl) rfl
theorem dX12_bankLine_8 : decode cX12_bankLine 8 = .ok (.invokevirtual 212, 3) := dc_182 (sg_at zd_dX12_bankLine_0 5 rfl rfl) rfl
theorem dX12_bankLine_11 : decode cX12_bankLine 11 = .ok (.ifCond .ne 5, 3) := dc_154 (sg_at zd_dX12_bankLine_0 6 rfl rfl) rfl
theorem dX12_bankLine_14 : decode cX12_bankLine 14 = .ok (.iconst 0, 1) := dc_3 (sg_at zd_dX12_bankLine_0 7 rfl rfl)
theorem dX12_bankLine_15 : decode cX12_bankLine 15 = .ok (.ireturn, 1) := dc_172 (sg_at zd_dX12_bankLine_0 8 rfl rfl)
theorem dX12_bankLine_16 : decode cX12_bankLine 16 = .ok (.aload_n 0, 1) := dc_42 (sg_at zd_dX12_bankLine_0 9 rfl rfl)
theorem dX12_bankLine_17 : decode cX12_bankLine 17 = .ok (.getfield 24, 3) := dc_180 (sg_at zd_dX12_bankLine_0 10 rfl rfl) rfl
theorem dX12_bankLine_20 : decode cX12_bankLine 20 = .ok (.bipush 9, 2) := dc_16 (sg_at zd_dX12_bankLine_0 11 rfl rfl) rfl
theorem dX12_bankLine_22 : decode cX12_bankLine 22 = .ok (.aload_n 0, 1) := dc_42 (sg_at zd_dX12_bankLine_0 12 rfl rfl)
theorem dX12_bankLine_23 : decode cX12_bankLine 23 = .ok (.getfield 203, 3) := dc_180 (sg_at zd_dX12_bankLine_0 13 rfl rfl) rfl
theorem dX12_bankLine_26 : decode cX12_bankLine 26 = .ok (.iastore, 1) := dc_79 (sg_at zd_dX12_bankLine_0 14 rfl rfl)
theorem dX12_bankLine_27 : decode cX12_bankLine 27 = .ok (.aload_n 0, 1) := dc_42 (sg_at zd_dX12_bankLine_0 15 rfl rfl)
theorem dX12_bankLine_28 : decode cX12_bankLine 28 = .ok (.iconst 1, 1) := dc_4 (sg_at zd_dX12_bankLine_0 16 rfl rfl)
theorem dX12_bankLine_29 : decode cX12_bankLine 29 = .ok (.bipush 20, 2) := dc_16 (sg_at zd_dX12_bankLine_0 17 rfl rfl) rfl
theorem dX12_bankLine_31 : decode cX12_bankLine 31 = .ok (.invokevirtual 212, 3) := dc_182 (sg_at zd_dX12_bankLine_0 18 rfl rfl) rfl
theorem dX12_bankLine_34 : decode cX12_bankLine 34 = .ok (.ifCond .ne 5, 3) := dc_154 (sg_at zd_dX12_bankLine_0 19 rfl rfl) rfl
theorem zd_dX12_bankLine_37 : sg (cX12_bankLine.data.toList.drop 37) [[3], [172], [42], [180, 0, 24], [16, 10], [42], [180, 0, 203], [79], [42], [4], [16, 9], [182, 0, 212], [154, 0, 5], [3], [172], [42], [180, 0, 24], [16, 11], [42], [180, 0, 203]] = true := by decide +kernel
theorem dX12_bankLine_37 : decode cX12_bankLine 37 = .ok (.iconst 0, 1) := dc_3 (sg_at zd_dX12_bankLine_37 0 rfl rfl)
theorem dX12_bankLine_38 : decode cX12_bankLine 38 = .ok (.ireturn, 1) := dc_172 (sg_at zd_dX12_bankLine_37 1 rfl rfl)
theorem dX12_bankLine_39 : decode cX12_bankLine 39 = .ok (.aload_n 0, 1) := dc_42 (sg_at zd_dX12_bankLine_37 2 rfl rfl)
theorem dX12_bankLine_40 : decode cX12_bankLine 40 = .ok (.getfield 24, 3) := dc_180 (sg_at zd_dX12_bankLine_37 3 rfl rfl) rfl
theorem dX12_bankLine_43 : decode cX12_bankLine 43 = .ok (.bipush 10, 2) := dc_16 (sg_at zd_dX12_bankLine_37 4 rfl rfl) rfl
theorem dX12_bankLine_45 : decode cX12_bankLine 45 = .ok (.aload_n 0, 1) := dc_42 (sg_at zd_dX12_bankLine_37 5 rfl rfl)
theorem dX12_bankLine_46 : decode cX12_bankLine 46 = .ok (.getfield 203, 3) := dc_180 (sg_at zd_dX12_bankLine_37 6 rfl rfl) rfl
theorem dX12_bankLine_49 : decode cX12_bankLine 49 = .ok (.iastore, 1) := dc_79 (sg_at zd_dX12_bankLine_37 7 rfl rfl)
theorem dX12_bankLine_50 : decode cX12_bankLine 50 = .ok (.aload_n 0, 1) := dc_42 (sg_at zd_dX12_bankLine_37 8 rfl rfl)
theorem dX12_bankLine_51 : decode cX12_bankLine 51 = .ok (.iconst 1, 1) := dc_4 (sg_at zd_dX12_bankLine_37 9 rfl rfl)
theorem dX12_bankLine_52 : decode cX12_bankLine 52 = .ok (.bipush 9, 2) := dc_16 (sg_at zd_dX12_bankLine_37 10 rfl rfl) rfl
theorem dX12_bankLine_54 : decode cX12_bankLine 54 = .ok (.invokevirtual 212, 3) := dc_182 (sg_at zd_dX12_bankLine_37 11 rfl rfl) rfl
theorem dX12_bankLine_57 : decode cX12_bankLine 57 = .ok (.ifCond .ne 5, 3) := dc_154 (sg_at zd_dX12_bankLine_37 12 rfl rfl) rfl
theorem dX12_bankLine_60 : decode cX12_bankLine 60 = .ok (.iconst 0, 1) := dc_3 (sg_at zd_dX12_bankLine_37 13 rfl rfl)
theorem dX12_bankLine_61 : decode cX12_bankLine 61 = .ok (.ireturn, 1) := dc_172 (sg_at zd_dX12_bankLine_37 14 rfl rfl)
theorem dX12_bankLine_62 : decode cX12_bankLine 62 = .ok (.aload_n 0, 1) := dc_42 (sg_at zd_dX12_bankLine_37 15 rfl rfl)
theorem dX12_bankLine_63 : decode cX12_bankLine 63 = .ok (.getfield 24, 3) := dc_180 (sg_at zd_dX12_bankLine_37 16 rfl rfl) rfl
theorem dX12_bankLine_66 : decode cX12_bankLine 66 = .ok (.bipush 11, 2) := dc_16 (sg_at zd_dX12_bankLine_37 17 rfl rfl) rfl
theorem dX12_bankLine_68 : decode cX12_bankLine 68 = .ok (.aload_n 0, 1) := dc_42 (sg_at zd_dX12_bankLine_37 18 rfl rfl)
theorem dX12_bankLine_69 : decode cX12_bankLine 69 = .ok (.getfield 203, 3) := dc_180 (sg_at zd_dX12_bankLine_37 19 rfl rfl) rfl
theorem zd_dX12_bankLine_72 : sg (cX12_bankLine.data.toList.drop 72) [[79], [4], [172]] = true := by decide +kernel
theorem dX12_bankLine_72 : decode cX12_bankLine 72 = .ok (.iastore, 1) := dc_79 (sg_at zd_dX12_bankLine_72 0 rfl rfl)
theorem dX12_bankLine_73 : decode cX12_bankLine 73 = .ok (.iconst 1, 1) := dc_4 (sg_at zd_dX12_bankLine_72 1 rfl rfl)
theorem dX12_bankLine_74 : decode cX12_bankLine 74 = .ok (.ireturn, 1) := dc_172 (sg_at zd_dX12_bankLine_72 2 rfl rfl)
theorem zd_dX12_begin_0 : sg (cX12_begin.data.toList.drop 0) [[3], [60], [27], [8], [162, 0, 54], [42], [180, 0, 88], [27], [42], [180, 0, 30], [27], [46], [79], [42], [180, 0, 91], [27], [3], [79], [42], [180, 0, 94]] = true := by decide +kernel
theorem dX12_begin_0 : decode cX12_begin 0 = .ok (.iconst 0, 1) := dc_3 (sg_at zd_dX12_begin_0 0 rfl rfl)
theorem dX12_begin_1 : decode cX12_begin 1 = .ok (.istore_n 1, 1) := dc_60 (sg_at zd_dX12_begin_0 1 rfl rfl)
theorem dX12_begin_2 : decode cX12_begin 2 = .ok (.iload_n 1, 1) := dc_27 (sg_at zd_dX12_begin_0 2 rfl rfl)
theorem dX12_begin_3 : decode cX12_begin 3 = .ok (.iconst 5, 1) := dc_8 (sg_at zd_dX12_begin_0 3 rfl rfl)
theorem dX12_begin_4 : decode cX12_begin 4 = .ok (.if_icmp .ge 54, 3) := dc_162 (sg_at zd_dX12_begin_0 4 rfl rfl) rfl
theorem dX12_begin_7 : decode cX12_begin 7 = .ok (.aload_n 0, 1) := dc_42 (sg_at zd_dX12_begin_0 5 rfl rfl)
theorem dX12_begin_8 : decode cX12_begin 8 = .ok (.getfield 88, 3) := dc_180 (sg_at zd_dX12_begin_0 6 rfl rfl) rfl
theorem dX12_begin_11 : decode cX12_begin 11 = .ok (.iload_n 1, 1) := dc_27 (sg_at zd_dX12_begin_0 7 rfl rfl)
theorem dX12_begin_12 : decode cX12_begin 12 = .ok (.aload_n 0, 1) := dc_42 (sg_at zd_dX12_begin_0 8 rfl rfl)
theorem dX12_begin_13 : decode cX12_begin 13 = .ok (.getfield 30, 3) := dc_180 (sg_at zd_dX12_begin_0 9 rfl rfl) rfl
theorem dX12_begin_16 : decode cX12_begin 16 = .ok (.iload_n 1, 1) := dc_27 (sg_at zd_dX12_begin_0 10 rfl rfl)
theorem dX12_begin_17 : decode cX12_begin 17 = .ok (.iaload, 1) := dc_46 (sg_at zd_dX12_begin_0 11 rfl rfl)
theorem dX12_begin_18 : decode cX12_begin 18 = .ok (.iastore, 1) := dc_79 (sg_at zd_dX12_begin_0 12 rfl rfl)
theorem dX12_begin_19 : decode cX12_begin 19 = .ok (.aload_n 0, 1) := dc_42 (sg_at zd_dX12_begin_0 13 rfl rfl)
theorem dX12_begin_20 : decode cX12_begin 20 = .ok (.getfield 91, 3) := dc_180 (sg_at zd_dX12_begin_0 14 rfl rfl) rfl
theorem dX12_begin_23 : decode cX12_begin 23 = .ok (.iload_n 1, 1) := dc_27 (sg_at zd_dX12_begin_0 15 rfl rfl)
theorem dX12_begin_24 : decode cX12_begin 24 = .ok (.iconst 0, 1) := dc_3 (sg_at zd_dX12_begin_0 16 rfl rfl)
theorem dX12_begin_25 : decode cX12_begin 25 = .ok (.iastore, 1) := dc_79 (sg_at zd_dX12_begin_0 17 rfl rfl)
theorem dX12_begin_26 : decode cX12_begin 26 = .ok (.aload_n 0, 1) := dc_42 (sg_at zd_dX12_begin_0 18 rfl rfl)
theorem dX12_begin_27 : decode cX12_begin 27 = .ok (.getfield 94, 3) := dc_180 (sg_at zd_dX12_begin_0 19 rfl rfl) rfl
theorem zd_dX12_begin_30 : sg (cX12_begin.data.toList.drop 30) [[27], [3], [79], [42], [180, 0, 97], [27], [3], [79], [42], [180, 0, 100], [27], [42], [180, 0, 36], [27], [46], [79], [132, 1, 1], [167, 255, 203], [3], [60]] = true := by decide +kernel
theorem dX12_begin_30 : decode cX12_begin 30 = .ok (.iload_n 1, 1) := dc_27 (sg_at zd_dX12_begin_30 0 rfl rfl)
theorem dX12_begin_31 : decode cX12_begin 31 = .ok (.iconst 0, 1) := dc_3 (sg_at zd_dX12_begin_30 1 rfl rfl)
theorem dX12_begin_32 : decode cX12_begin 32 = .ok (.iastore, 1) := dc_79 (sg_at zd_dX12_begin_30 2 rfl rfl)
theorem dX12_begin_33 : decode cX12_begin 33 = .ok (.aload_n 0, 1) := dc_42 (sg_at zd_dX12_begin_30 3 rfl rfl)
theorem dX12_begin_34 : decode cX12_begin 34 = .ok (.getfield 97, 3) := dc_180 (sg_at zd_dX12_begin_30 4 rfl rfl) rfl
theorem dX12_begin_37 : decode cX12_begin 37 = .ok (.iload_n 1, 1) := dc_27 (sg_at zd_dX12_begin_30 5 rfl rfl)
theorem dX12_begin_38 : decode cX12_begin 38 = .ok (.iconst 0, 1) := dc_3 (sg_at zd_dX12_begin_30 6 rfl rfl)
theorem dX12_begin_39 : decode cX12_begin 39 = .ok (.iastore, 1) := dc_79 (sg_at zd_dX12_begin_30 7 rfl rfl)
theorem dX12_begin_40 : decode cX12_begin 40 = .ok (.aload_n 0, 1) := dc_42 (sg_at zd_dX12_begin_30 8 rfl rfl)
theorem dX12_begin_41 : decode cX12_begin 41 = .ok (.getfield 100, 3) := dc_180 (sg_at zd_dX12_begin_30 9 rfl rfl) rfl
theorem dX12_begin_44 : decode cX12_begin 44 = .ok (.iload_n 1, 1) := dc_27 (sg_at zd_dX12_begin_30 10 rfl rfl)
theorem dX12_begin_45 : decode cX12_begin 45 = .ok (.aload_n 0, 1) := dc_42 (sg_at zd_dX12_begin_30 11 rfl rfl)
theorem dX12_begin_46 : decode cX12_begin 46 = .ok (.getfield 36, 3) := dc_180 (sg_at zd_dX12_begin_30 12 rfl rfl) rfl
theorem dX12_begin_49 : decode cX12_begin 49 = .ok (.iload_n 1, 1) := dc_27 (sg_at zd_dX12_begin_30 13 rfl rfl)
theorem dX12_begin_50 : decode cX12_begin 50 = .ok (.iaload, 1) := dc_46 (sg_at zd_dX12_begin_30 14 rfl rfl)
theorem dX12_begin_51 : decode cX12_begin 51 = .ok (.iastore, 1) := dc_79 (sg_at zd_dX12_begin_30 15 rfl rfl)
theorem dX12_begin_52 : decode cX12_begin 52 = .ok (.iinc 1 1, 3) := dc_132 (sg_at zd_dX12_begin_30 16 rfl rfl) rfl
theorem dX12_begin_55 : decode cX12_begin 55 = .ok (.goto (-53), 3) := dc_167 (sg_at zd_dX12_begin_30 17 rfl rfl) rfl
theorem dX12_begin_58 : decode cX12_begin 58 = .ok (.iconst 0, 1) := dc_3 (sg_at zd_dX12_begin_30 18 rfl rfl)
theorem dX12_begin_59 : decode cX12_begin 59 = .ok (.istore_n 1, 1) := dc_60 (sg_at zd_dX12_begin_30 19 rfl rfl)
theorem zd_dX12_begin_60 : sg (cX12_begin.data.toList.drop 60) [[27], [16, 28], [162, 0, 17], [42], [180, 0, 103], [27], [16, 254], [79], [132, 1, 1], [167, 255, 239], [42], [180, 0, 106], [3], [3], [79], [42], [180, 0, 109], [3], [3], [79]] = true := by decide +kernel
theorem dX12_begin_60 : decode cX12_begin 60 = .ok (.iload_n 1, 1) := dc_27 (sg_at zd_dX12_begin_60 0 rfl rfl)
theorem dX12_begin_61 : decode cX12_begin 61 = .ok (.bipush 28, 2) := dc_16 (sg_at zd_dX12_begin_60 1 rfl rfl) rfl
theorem dX12_begin_63 : decode cX12_begin 63 = .ok (.if_icmp .ge 17, 3) := dc_162 (sg_at zd_dX12_begin_60 2 rfl rfl) rfl
theorem dX12_begin_66 : decode cX12_begin 66 = .ok (.aload_n 0, 1) := dc_42 (sg_at zd_dX12_begin_60 3 rfl rfl)
theorem dX12_begin_67 : decode cX12_begin 67 = .ok (.getfield 103, 3) := dc_180 (sg_at zd_dX12_begin_60 4 rfl rfl) rfl
theorem dX12_begin_70 : decode cX12_begin 70 = .ok (.iload_n 1, 1) := dc_27 (sg_at zd_dX12_begin_60 5 rfl rfl)
theorem dX12_begin_71 : decode cX12_begin 71 = .ok (.bipush (-2), 2) := dc_16 (sg_at zd_dX12_begin_60 6 rfl rfl) rfl
theorem dX12_begin_73 : decode cX12_begin 73 = .ok (.iastore, 1) := dc_79 (sg_at zd_dX12_begin_60 7 rfl rfl)
theorem dX12_begin_74 : decode cX12_begin 74 = .ok (.iinc 1 1, 3) := dc_132 (sg_at zd_dX12_begin_60 8 rfl rfl) rfl
theorem dX12_begin_77 : decode cX12_begin 77 = .ok (.goto (-17), 3) := dc_167 (sg_at zd_dX12_begin_60 9 rfl rfl) rfl
theorem dX12_begin_80 : decode cX12_begin 80 = .ok (.aload_n 0, 1) := dc_42 (sg_at zd_dX12_begin_60 10 rfl rfl)
theorem dX12_begin_81 : decode cX12_begin 81 = .ok (.getfield 106, 3) := dc_180 (sg_at zd_dX12_begin_60 11 rfl rfl) rfl
theorem dX12_begin_84 : decode cX12_begin 84 = .ok (.iconst 0, 1) := dc_3 (sg_at zd_dX12_begin_60 12 rfl rfl)
theorem dX12_begin_85 : decode cX12_begin 85 = .ok (.iconst 0, 1) := dc_3 (sg_at zd_dX12_begin_60 13 rfl rfl)
theorem dX12_begin_86 : decode cX12_begin 86 = .ok (.iastore, 1) := dc_79 (sg_at zd_dX12_begin_60 14 rfl rfl)
theorem dX12_begin_87 : decode cX12_begin 87 = .ok (.aload_n 0, 1) := dc_42 (sg_at zd_dX12_begin_60 15 rfl rfl)
theorem dX12_begin_88 : decode cX12_begin 88 = .ok (.getfield 109, 3) := dc_180 (sg_at zd_dX12_begin_60 16 rfl rfl) rfl
theorem dX12_begin_91 : decode cX12_begin 91 = .ok (.iconst 0, 1) := dc_3 (sg_at zd_dX12_begin_60 17 rfl rfl)
theorem dX12_begin_92 : decode cX12_begin 92 = .ok (.iconst 0, 1) := dc_3 (sg_at zd_dX12_begin_60 18 rfl rfl)
theorem dX12_begin_93 : decode cX12_begin 93 = .ok (.iastore, 1) := dc_79 (sg_at zd_dX12_begin_60 19 rfl rfl)
theorem zd_dX12_begin_94 : sg (cX12_begin.data.toList.drop 94) [[42], [180, 0, 112], [3], [3], [79], [42], [42], [180, 0, 24], [8], [46], [181, 1, 113], [42], [42], [180, 0, 24], [16, 6], [46], [133], [181, 1, 116], [42], [2]] = true := by decide +kernel
theorem dX12_begin_94 : decode cX12_begin 94 = .ok (.aload_n 0, 1) := dc_42 (sg_at zd_dX12_begin_94 0 rfl rfl)
theorem dX12_begin_95 : decode cX12_begin 95 = .ok (.getfield 112, 3) := dc_180 (sg_at zd_dX12_begin_94 1 rfl rfl) rfl
theorem dX12_begin_98 : decode cX12_begin 98 = .ok (.iconst 0, 1) := dc_3 (sg_at zd_dX12_begin_94 2 rfl rfl)
theorem dX12_begin_99 : decode cX12_begin 99 = .ok (.iconst 0, 1) := dc_3 (sg_at zd_dX12_begin_94 3 rfl rfl)
theorem dX12_begin_100 : decode cX12_begin 100 = .ok (.iastore, 1) := dc_79 (sg_at zd_dX12_begin_94 4 rfl rfl)
theorem dX12_begin_101 : decode cX12_begin 101 = .ok (.aload_n 0, 1) := dc_42 (sg_at zd_dX12_begin_94 5 rfl rfl)
theorem dX12_begin_102 : decode cX12_begin 102 = .ok (.aload_n 0, 1) := dc_42 (sg_at zd_dX12_begin_94 6 rfl rfl)
theorem dX12_begin_103 : decode cX12_begin 103 = .ok (.getfield 24, 3) := dc_180 (sg_at zd_dX12_begin_94 7 rfl rfl) rfl
theorem dX12_begin_106 : decode cX12_begin 106 = .ok (.iconst 5, 1) := dc_8 (sg_at zd_dX12_begin_94 8 rfl rfl)
theorem dX12_begin_107 : decode cX12_begin 107 = .ok (.iaload, 1) := dc_46 (sg_at zd_dX12_begin_94 9 rfl rfl)
theorem dX12_begin_108 : decode cX12_begin 108 = .ok (.putfield 369, 3) := dc_181 (sg_at zd_dX12_begin_94 10 rfl rfl) rfl
theorem dX12_begin_111 : decode cX12_begin 111 = .ok (.aload_n 0, 1) := dc_42 (sg_at zd_dX12_begin_94 11 rfl rfl)
theorem dX12_begin_112 : decode cX12_begin 112 = .ok (.aload_n 0, 1) := dc_42 (sg_at zd_dX12_begin_94 12 rfl rfl)
theorem dX12_begin_113 : decode cX12_begin 113 = .ok (.getfield 24, 3) := dc_180 (sg_at zd_dX12_begin_94 13 rfl rfl) rfl
theorem dX12_begin_116 : decode cX12_begin 116 = .ok (.bipush 6, 2) := dc_16 (sg_at zd_dX12_begin_94 14 rfl rfl) rfl
theorem dX12_begin_118 : decode cX12_begin 118 = .ok (.iaload, 1) := dc_46 (sg_at zd_dX12_begin_94 15 rfl rfl)
theorem dX12_begin_119 : decode cX12_begin 119 = .ok (.i2l, 1) := dc_133 (sg_at zd_dX12_begin_94 16 rfl rfl)
theorem dX12_begin_120 : decode cX12_begin 120 = .ok (.putfield 372, 3) := dc_181 (sg_at zd_dX12_begin_94 17 rfl rfl) rfl
theorem dX12_begin_123 : decode cX12_begin 123 = .ok (.aload_n 0, 1) := dc_42 (sg_at zd_dX12_begin_94 18 rfl rfl)
theorem dX12_begin_124 : decode cX12_begin 124 = .ok (.iconst (-1), 1) := dc_2 (sg_at zd_dX12_begin_94 19 rfl rfl)
theorem zd_dX12_begin_125 : sg (cX12_begin.data.toList.drop 125) [[181, 0, 115], [42], [3], [181, 1, 120], [42], [2], [181, 0, 133], [42], [3], [181, 1, 123], [42], [3], [181, 1, 126], [177]] = true := by decide +kernel
theorem dX12_begin_125 : decode cX12_begin 125 = .ok (.putfield 115, 3) := dc_181 (sg_at zd_dX12_begin_125 0 rfl rfl) rfl
theorem dX12_begin_128 : decode cX12_begin 128 = .ok (.aload_n 0, 1) := dc_42 (sg_at zd_dX12_begin_125 1 rfl rfl)
theorem dX12_begin_129 : decode cX12_begin 129 = .ok (.iconst 0, 1) := dc_3 (sg_at zd_dX12_begin_125 2 rfl rfl)
theorem dX12_begin_130 : decode cX12_begin 130 = .ok (.putfield 376, 3) := dc_181 (sg_at zd_dX12_begin_125 3 rfl rfl) rfl
theorem dX12_begin_133 : decode cX12_begin 133 = .ok (.aload_n 0, 1) := dc_42 (sg_at zd_dX12_begin_125 4 rfl rfl)
theorem dX12_begin_134 : decode cX12_begin 134 = .ok (.iconst (-1), 1) := dc_2 (sg_at zd_dX12_begin_125 5 rfl rfl)
theorem dX12_begin_135 : decode cX12_begin 135 = .ok (.putfield 133, 3) := dc_181 (sg_at zd_dX12_begin_125 6 rfl rfl) rfl
theorem dX12_begin_138 : decode cX12_begin 138 = .ok (.aload_n 0, 1) := dc_42 (sg_at zd_dX12_begin_125 7 rfl rfl)
theorem dX12_begin_139 : decode cX12_begin 139 = .ok (.iconst 0, 1) := dc_3 (sg_at zd_dX12_begin_125 8 rfl rfl)
theorem dX12_begin_140 : decode cX12_begin 140 = .ok (.putfield 379, 3) := dc_181 (sg_at zd_dX12_begin_125 9 rfl rfl) rfl
theorem dX12_begin_143 : decode cX12_begin 143 = .ok (.aload_n 0, 1) := dc_42 (sg_at zd_dX12_begin_125 10 rfl rfl)
theorem dX12_begin_144 : decode cX12_begin 144 = .ok (.iconst 0, 1) := dc_3 (sg_at zd_dX12_begin_125 11 rfl rfl)
theorem dX12_begin_145 : decode cX12_begin 145 = .ok (.putfield 382, 3) := dc_181 (sg_at zd_dX12_begin_125 12 rfl rfl) rfl
theorem dX12_begin_148 : decode cX12_begin 148 = .ok (.return_, 1) := dc_177 (sg_at zd_dX12_begin_125 13 rfl rfl)
section
variable {p : Program} {l : Launch} {e : Env} {s : State} {m : MethodId} {args : Array Value} {below : List Frame} {meth : Method} {c : Code} {D : va_G} {cy : Nat → ClassId} {b : Nat} {A : Nat → Prop} {fl : Bool}
def vX12_boardOf : List Cond := .code yX12_boardOf cX12_boardOf 2 (some .int) :: TB
theorem lf12_boardOf_115 : Fl vX12_boardOf RX12 115 12 66 := ⟨RX12, TX12, 87, rfl, by decide, (fun w h9 => List.mem_cons_of_mem _ (wC_wsX120 w h9)), (List.mem_cons_of_mem _ wT_11_7)⟩
theorem lf12_boardOf_33 : Fl vX12_boardOf RX12 33 12 29 := ⟨RX12, TX12, 87, rfl, by decide, (fun w h9 => List.mem_cons_of_mem _ (wC_wsX120 w h9)), (List.mem_cons_of_mem _ wT_10_4)⟩
theorem cd12_boardOf : Cd yX12_boardOf 1 := ⟨by decide, by decide, by decide +kernel⟩
set_option maxHeartbeats 4000000 in
set_option maxRecDepth 100000 in
theorem T12_boardOf_0 (S : CallFix p m c cX12_boardOf 2 s args vX12_boardOf RX12) (hr : meth.sig.returnType = (some .int)) (hlo : meth.locks = false) {out : Int32 × PH} {h : PH} {a0 : Nat} {x1 : Int32} (f : F12_boardOf_0  h a0 x1 = some out) {H : Heap} {locs : List Loc} (I : ph_I D cy b A fl h s H locs) {ls : Array Slot} (hl : lv_has ls 2 [(0, .ref (b + a0)), (1, .int x1)]) : W p l e ({ frames := 0, cells := 0, slots := 0, locals := 0 } : Room) s m args below meth c H locs 0 0 (MQ below (va_Qi (fun (r : Int32) (u : PH) => (r, u) = out) (ph_B D cy b A fl) A) args s 0 0 A) (F0 m 0 ls []) := by
  unfold F12_boardOf_0 at f
  refine lv_aload_n S.1 S.2.1 dX12_boardOf_0 rfl (lv_at hl 0 rfl) ?_
  obtain ⟨v1, e2, f⟩ := ob f
  refine o_gI S lf12_boardOf_115 I e2 dX12_boardOf_1 ?_
  refine lv_iconst (v := 3) S.1 S.2.1 dX12_boardOf_4 (by decide) ?_
  refine lv_icmp_ne (tgt := 13) S.1 S.2.1 dX12_boardOf_5 (by decide) (fun q3 => ?_) (fun q3 => ?_)
  · have f := (if_neg q3).symm.trans f
    refine lv_aload_n S.1 S.2.1 dX12_boardOf_13 rfl (lv_at hl 0 rfl) ?_
    obtain ⟨r4, e5, f⟩ := ob f
    refine o_gR S lf12_boardOf_33 I e5 dX12_boardOf_14 ?_
    refine lv_iload_n S.1 S.2.1 dX12_boardOf_17 rfl (lv_at hl 1 rfl) ?_
    obtain ⟨v7, e6, f⟩ := ob f
    refine o_iald S I e6 dX12_boardOf_18 ?_
    exact o_iret S hr hlo I f dX12_boardOf_19
  · have f := (if_pos q3).symm.trans f
    refine lv_bipush (v := 9) S.1 S.2.1 dX12_boardOf_8 (by decide) ?_
    refine lv_goto (tgt := 19) S.1 S.2.1 dX12_boardOf_10 (by decide) ?_
    exact o_iret S hr hlo I f dX12_boardOf_19
theorem M12_boardOf (l : Launch) (D : va_G) (cy : Nat → ClassId) (b : Nat) (A : Nat → Prop) (fl : Bool) {h : PH} {a0 : Nat} {x1 : Int32} {out : Int32 × PH} (f : F12_boardOf h a0 x1 = some out) : Met l yX12_boardOf vX12_boardOf ({ frames := 0, cells := 0, slots := 0, locals := 0 } : Room) (va_Pc [.ref (b + a0), .int x1] (ph_B D cy b A fl h)) (va_Qi (fun (r : Int32) (u : PH) => (r, u) = out) (ph_B D cy b A fl) A) 0 0 A :=
  o_met (by decide) rfl (Nat.le_of_ble_eq_true rfl) rfl (fun p e s m below meth c S hr hlo hnm ls hl I => T12_boardOf_0 S hr hlo ((gd f).2) I (lv_sub hl [0, 1] rfl))
def vX12_layCatch : List Cond := .code yX12_layCatch cX12_layCatch 6 (some .int) :: TB
theorem lf12_layCatch_48 : Fl vX12_layCatch RX12 48 12 34 := ⟨RX12, TX12, 87, rfl, by decide, (fun w h9 => List.mem_cons_of_mem _ (wC_wsX120 w h9)), (List.mem_cons_of_mem _ wT_10_9)⟩
theorem gX12_layCatch_X12_peakAt : GoodIn vX12_layCatch (wsV RX12 400 RX12 yX12_peakAt vX12_peakAt) := gV_of wT_34_22 wT_34_23 wT_35_0 wT_1_5 wT_35_1
theorem gX12_layCatch_X12_far : GoodIn vX12_layCatch (wsV RX12 403 RX12 yX12_far vX12_far) := gV_of wT_36_8 wT_36_9 wT_36_10 wT_1_5 wT_36_11
theorem lf12_layCatch_241 : Fl vX12_layCatch RX12 241 12 12 := ⟨RX12, TX12, 87, rfl, by decide, (fun w h9 => List.mem_cons_of_mem _ (wC_wsX120 w h9)), (List.mem_cons_of_mem _ wT_12_10)⟩
theorem gX12_layCatch_X12_boardOf : GoodIn vX12_layCatch (wsV RX12 406 RX12 yX12_boardOf vX12_boardOf) := gV_of wT_40_9 wT_40_10 wT_40_11 wT_1_5 wT_40_12
theorem gX12_layCatch_X12_layNames : GoodIn vX12_layCatch (wsV RX12 392 RX12 yX12_layNames vX12_layNames) := gV_of wT_35_2 wT_35_3 wT_35_4 wT_1_5 wT_35_5
theorem cd12_layCatch : Cd yX12_layCatch 3 := ⟨by decide, by decide, by decide +kernel⟩
set_option maxHeartbeats 4000000 in
set_option maxRecDepth 100000 in
theorem T12_layCatch_0 (S : CallFix p m c cX12_layCatch 6 s args vX12_layCatch RX12) (hr : meth.sig.returnType = (some .int)) (hlo : meth.locks = false) {out : Int32 × PH} {h : PH} {a0 : Nat} {x1 : Int32} {x2 : Int32} {x3 : Int32} (f : F12_layCatch_0  h a0 x1 x2 x3 = some out) {H : Heap} {locs : List Loc} (I : ph_I D cy b A fl h s H locs) {ls : Array Slot} (hl : lv_has ls 6 [(0, .ref (b + a0)), (1, .int x1), (2, .int x2), (3, .int x3)]) : W p l e ({ frames := 5, cells := 0, slots := 0, locals := 120 } : Room) s m args below meth c H locs 0 0 (MQ below (va_Qi (fun (r : Int32) (u : PH) => (r, u) = out) (ph_B D cy b A fl) A) args s 0 0 A) (F0 m 0 ls []) := by
  unfold F12_layCatch_0 at f
  refine lv_aload_n S.1 S.2.1 dX12_layCatch_0 rfl (lv_at hl 0 rfl) ?_
  refine lv_aload_n S.1 S.2.1 dX12_layCatch_1 rfl (lv_at hl 0 rfl) ?_
  obtain ⟨r1, e2, f⟩ := ob f
  refine o_gR S lf12_layCatch_48 I e2 dX12_layCatch_2 ?_
  refine lv_iload_n S.1 S.2.1 dX12_layCatch_5 rfl (lv_at hl 2 rfl) ?_
  obtain ⟨v4, e3, f⟩ := ob f
  refine o_iald S I e3 dX12_layCatch_6 ?_
  obtain ⟨o5, e6, f⟩ := ob f
  refine o_Vi S (As := [.int v4]) (rest := []) (ci := 12) (M12_peakAt l D cy b A fl e6) gX12_layCatch_X12_peakAt rfl rfl rfl cd12_peakAt ⟨Nat.le_of_ble_eq_true rfl, Nat.le_of_ble_eq_true rfl⟩ I (gd e6).1 clX12 rfl rfl hl.1 rfl (Nat.le_of_ble_eq_true rfl) dX12_layCatch_7 ⟨Nat.le_of_ble_eq_true rfl, Nat.le_of_ble_eq_true rfl⟩ (fun H locs I => ?_)
  refine lv_istore (lv' := [(4, .int o5.1), (0, .ref (b + a0)), (1, .int x1), (2, .int x2), (3, .int x3)]) S.1 S.2.1 dX12_layCatch_10 hl (by decide) rfl (fun ls hl => ?_)
  refine lv_aload_n S.1 S.2.1 dX12_layCatch_12 rfl (lv_at hl 1 rfl) ?_
  refine lv_iload_n S.1 S.2.1 dX12_layCatch_13 rfl (lv_at hl 4 rfl) ?_
  refine lv_iload S.1 S.2.1 dX12_layCatch_14 (lv_at hl 0 rfl) ?_
  obtain ⟨o7, e8, f⟩ := ob f
  refine o_Vi S (As := [.int x3, .int o5.1]) (rest := []) (ci := 12) (M12_far l D cy b A fl e8) gX12_layCatch_X12_far rfl rfl rfl cd12_far ⟨Nat.le_of_ble_eq_true rfl, Nat.le_of_ble_eq_true rfl⟩ I (gd e8).1 clX12 rfl rfl hl.1 rfl (Nat.le_of_ble_eq_true rfl) dX12_layCatch_16 ⟨Nat.le_of_ble_eq_true rfl, Nat.le_of_ble_eq_true rfl⟩ (fun H locs I => ?_)
  refine lv_istore (lv' := [(5, .int o7.1), (4, .int o5.1), (0, .ref (b + a0)), (1, .int x1), (2, .int x2), (3, .int x3)]) S.1 S.2.1 dX12_layCatch_19 hl (by decide) rfl (fun ls hl => ?_)
  refine lv_aload_n S.1 S.2.1 dX12_layCatch_21 rfl (lv_at hl 2 rfl) ?_
  refine lv_iload S.1 S.2.1 dX12_layCatch_22 (lv_at hl 0 rfl) ?_
  refine lv_iload_n S.1 S.2.1 dX12_layCatch_24 rfl (lv_at hl 5 rfl) ?_
  refine lv_aload_n S.1 S.2.1 dX12_layCatch_25 rfl (lv_at hl 2 rfl) ?_
  obtain ⟨v9, e10, f⟩ := ob f
  refine o_gI S lf12_layCatch_241 I e10 dX12_layCatch_26 ?_
  have q11 : ¬ v9 = 0 := fun q => by rw [if_pos q] at f; cases f
  have f := (if_neg q11).symm.trans f
  refine lv_idiv S.1 S.2.1 dX12_layCatch_29 q11 ?_
  refine lv_iload S.1 S.2.1 dX12_layCatch_30 (lv_at hl 1 rfl) ?_
  refine lv_aload_n S.1 S.2.1 dX12_layCatch_32 rfl (lv_at hl 2 rfl) ?_
  obtain ⟨v12, e13, f⟩ := ob f
  refine o_gI S lf12_layCatch_241 I e13 dX12_layCatch_33 ?_
  have q14 : ¬ v12 = 0 := fun q => by rw [if_pos q] at f; cases f
  have f := (if_neg q14).symm.trans f
  refine lv_idiv S.1 S.2.1 dX12_layCatch_36 q14 ?_
  refine lv_isub S.1 S.2.1 dX12_layCatch_37 ?_
  refine lv_aload_n S.1 S.2.1 dX12_layCatch_38 rfl (lv_at hl 2 rfl) ?_
  refine lv_iload_n S.1 S.2.1 dX12_layCatch_39 rfl (lv_at hl 3 rfl) ?_
  obtain ⟨o15, e16, f⟩ := ob f
  refine o_Vi S (As := [.int x1]) (rest := [.int ((x3 / v9) - (o5.1 / v12)), .int o7.1, .ref (b + a0)]) (ci := 12) (M12_boardOf l D cy b A fl e16) gX12_layCatch_X12_boardOf rfl rfl rfl cd12_boardOf ⟨Nat.le_of_ble_eq_true rfl, Nat.le_of_ble_eq_true rfl⟩ I (gd e16).1 clX12 rfl rfl hl.1 rfl (Nat.le_of_ble_eq_true rfl) dX12_layCatch_40 ⟨Nat.le_of_ble_eq_true rfl, Nat.le_of_ble_eq_true rfl⟩ (fun H locs I => ?_)
  refine lv_iload_n S.1 S.2.1 dX12_layCatch_43 rfl (lv_at hl 4 rfl) ?_
  refine lv_aload_n S.1 S.2.1 dX12_layCatch_44 rfl (lv_at hl 2 rfl) ?_
  obtain ⟨r17, e18, f⟩ := ob f
  refine o_gR S lf12_layCatch_48 I e18 dX12_layCatch_45 ?_
  refine lv_iload_n S.1 S.2.1 dX12_layCatch_48 rfl (lv_at hl 4 rfl) ?_
  obtain ⟨v20, e19, f⟩ := ob f
  refine o_iald S I e19 dX12_layCatch_49 ?_
  obtain ⟨o21, e22, f⟩ := ob f
  refine o_Vv S (As := [.int o7.1, .int ((x3 / v9) - (o5.1 / v12)), .int o15.1, .int x2, .int v20]) (rest := []) (ci := 12) (M12_layNames l D cy b A fl e22) gX12_layCatch_X12_layNames rfl rfl rfl cd12_layNames ⟨Nat.le_of_ble_eq_true rfl, Nat.le_of_ble_eq_true rfl⟩ I (gd e22).1 clX12 rfl rfl hl.1 rfl (Nat.le_of_ble_eq_true rfl) dX12_layCatch_50 ⟨Nat.le_of_ble_eq_true rfl, Nat.le_of_ble_eq_true rfl⟩ (fun H locs I => ?_)
  refine lv_iload S.1 S.2.1 dX12_layCatch_53 (lv_at hl 0 rfl) ?_
  exact o_iret S hr hlo I f dX12_layCatch_55
theorem M12_layCatch (l : Launch) (D : va_G) (cy : Nat → ClassId) (b : Nat) (A : Nat → Prop) (fl : Bool) {h : PH} {a0 : Nat} {x1 : Int32} {x2 : Int32} {x3 : Int32} {out : Int32 × PH} (f : F12_layCatch h a0 x1 x2 x3 = some out) : Met l yX12_layCatch vX12_layCatch ({ frames := 5, cells := 0, slots := 0, locals := 120 } : Room) (va_Pc [.ref (b + a0), .int x1, .int x2, .int x3] (ph_B D cy b A fl h)) (va_Qi (fun (r : Int32) (u : PH) => (r, u) = out) (ph_B D cy b A fl) A) 0 0 A :=
  o_met (by decide) rfl (Nat.le_of_ble_eq_true rfl) rfl (fun p e s m below meth c S hr hlo hnm ls hl I => T12_layCatch_0 S hr hlo ((gd f).2) I (lv_sub hl [0, 1, 2, 3] rfl))
def vX12_oddsOf : List Cond := .code yX12_oddsOf cX12_oddsOf 5 (some .int) :: TB
theorem gX12_oddsOf_X12_boundLaw : GoodIn vX12_oddsOf (wsV RX12 396 RX12 yX12_boundLaw vX12_boundLaw) := gV_of wT_35_6 wT_35_7 wT_35_8 wT_1_5 wT_35_9
theorem gX12_oddsOf_X12_layCatch : GoodIn vX12_oddsOf (wsV RX12 409 RX12 yX12_layCatch vX12_layCatch) := gV_of wT_40_5 wT_40_6 wT_40_7 wT_1_5 wT_40_8
theorem cd12_oddsOf : Cd yX12_oddsOf 3 := ⟨by decide, by decide, by decide +kernel⟩
set_option maxHeartbeats 4000000 in
set_option maxRecDepth 100000 in
theorem T12_oddsOf_29 (S : CallFix p m c cX12_oddsOf 5 s args vX12_oddsOf RX12) (hr : meth.sig.returnType = (some .int)) (hlo : meth.locks = false) {out : Int32 × PH} {h : PH} {s0 : Int32} {s1 : Int32} {u2 : Nat} (f : F12_oddsOf_29  h s0 s1 u2 = some out) {H : Heap} {locs : List Loc} (I : ph_I D cy b A fl h s H locs) {ls : Array Slot} (hl : lv_has ls 5 []) : W p l e ({ frames := 6, cells := 0, slots := 0, locals := 145 } : Room) s m args below meth c H locs 0 0 (MQ below (va_Qi (fun (r : Int32) (u : PH) => (r, u) = out) (ph_B D cy b A fl) A) args s 0 0 A) (F0 m 29 ls [.int s0, .int s1, .ref (b + u2)]) := by
  unfold F12_oddsOf_29 at f
  refine lv_iconst (v := 0) S.1 S.2.1 dX12_oddsOf_29 (by decide) ?_
  refine lv_bipush (v := 100) S.1 S.2.1 dX12_oddsOf_30 (by decide) ?_
  obtain ⟨o1, e2, f⟩ := ob f
  refine o_Vi S (As := [.int s1, .int s0, .int 0, .int 100]) (rest := []) (ci := 12) (M12_boundLaw l D cy b A fl e2) gX12_oddsOf_X12_boundLaw rfl rfl rfl cd12_boundLaw ⟨Nat.le_of_ble_eq_true rfl, Nat.le_of_ble_eq_true rfl⟩ I (gd e2).1 clX12 rfl rfl hl.1 rfl (Nat.le_of_ble_eq_true rfl) dX12_oddsOf_32 ⟨Nat.le_of_ble_eq_true rfl, Nat.le_of_ble_eq_true rfl⟩ (fun H locs I => ?_)
  exact o_iret S hr hlo I f dX12_oddsOf_35
set_option maxHeartbeats 4000000 in
set_option maxRecDepth 100000 in
theorem T12_oddsOf_0 (S : CallFix p m c cX12_oddsOf 5 s args vX12_oddsOf RX12) (hr : meth.sig.returnType = (some .int)) (hlo : meth.locks = false) {out : Int32 × PH} {h : PH} {a0 : Nat} {x1 : Int32} {x2 : Int32} {x3 : Int32} (f : F12_oddsOf_0  h a0 x1 x2 x3 = some out) {H : Heap} {locs : List Loc} (I : ph_I D cy b A fl h s H locs) {ls : Array Slot} (hl : lv_has ls 5 [(0, .ref (b + a0)), (1, .int x1), (2, .int x2), (3, .int x3)]) : W p l e ({ frames := 6, cells := 0, slots := 0, locals := 145 } : Room) s m args below meth c H locs 0 0 (MQ below (va_Qi (fun (r : Int32) (u : PH) => (r, u) = out) (ph_B D cy b A fl) A) args s 0 0 A) (F0 m 0 ls []) := by
  unfold F12_oddsOf_0 at f
  refine lv_aload_n S.1 S.2.1 dX12_oddsOf_0 rfl (lv_at hl 0 rfl) ?_
  refine lv_iload_n S.1 S.2.1 dX12_oddsOf_1 rfl (lv_at hl 1 rfl) ?_
  refine lv_iload_n S.1 S.2.1 dX12_oddsOf_2 rfl (lv_at hl 2 rfl) ?_
  refine lv_iload_n S.1 S.2.1 dX12_oddsOf_3 rfl (lv_at hl 3 rfl) ?_
  obtain ⟨o1, e2, f⟩ := ob f
  refine o_Vi S (As := [.int x1, .int x2, .int x3]) (rest := []) (ci := 12) (M12_layCatch l D cy b A fl e2) gX12_oddsOf_X12_layCatch rfl rfl rfl cd12_layCatch ⟨Nat.le_of_ble_eq_true rfl, Nat.le_of_ble_eq_true rfl⟩ I (gd e2).1 clX12 rfl rfl hl.1 rfl (Nat.le_of_ble_eq_true rfl) dX12_oddsOf_4 ⟨Nat.le_of_ble_eq_true rfl, Nat.le_of_ble_eq_true rfl⟩ (fun H locs I => ?_)
  refine lv_istore (lv' := [(4, .int o1.1), (0, .ref (b + a0)), (1, .int x1), (2, .int x2), (3, .int x3)]) S.1 S.2.1 dX12_oddsOf_7 hl (by decide) rfl (fun ls hl => ?_)
  refine lv_aload_n S.1 S.2.1 dX12_oddsOf_9 rfl (lv_at hl 1 rfl) ?_
  refine lv_iconst (v := 0) S.1 S.2.1 dX12_oddsOf_10 (by decide) ?_
  refine lv_iload S.1 S.2.1 dX12_oddsOf_11 (lv_at hl 0 rfl) ?_
  refine lv_iconst (v := 5) S.1 S.2.1 dX12_oddsOf_13 (by decide) ?_
  refine lv_icmp_ge (tgt := 28) S.1 S.2.1 dX12_oddsOf_14 (by decide) (fun q3 => ?_) (fun q3 => ?_)
  · have f := (if_pos q3).symm.trans f
    refine lv_iconst (v := 0) S.1 S.2.1 dX12_oddsOf_28 (by decide) ?_
    exact T12_oddsOf_29 S hr hlo  f I (lv_sub hl [] rfl)
  · have f := (if_neg q3).symm.trans f
    refine lv_bipush (v := 100) S.1 S.2.1 dX12_oddsOf_17 (by decide) ?_
    refine lv_bipush (v := 20) S.1 S.2.1 dX12_oddsOf_19 (by decide) ?_
    refine lv_iload S.1 S.2.1 dX12_oddsOf_21 (lv_at hl 0 rfl) ?_
    refine lv_imul S.1 S.2.1 dX12_oddsOf_23 ?_
    refine lv_isub S.1 S.2.1 dX12_oddsOf_24 ?_
    refine lv_goto (tgt := 29) S.1 S.2.1 dX12_oddsOf_25 (by decide) ?_
    exact T12_oddsOf_29 S hr hlo  f I (lv_sub hl [] rfl)
theorem M12_oddsOf (l : Launch) (D : va_G) (cy : Nat → ClassId) (b : Nat) (A : Nat → Prop) (fl : Bool) {h : PH} {a0 : Nat} {x1 : Int32} {x2 : Int32} {x3 : Int32} {out : Int32 × PH} (f : F12_oddsOf h a0 x1 x2 x3 = some out) : Met l yX12_oddsOf vX12_oddsOf ({ frames := 6, cells := 0, slots := 0, locals := 145 } : Room) (va_Pc [.ref (b + a0), .int x1, .int x2, .int x3] (ph_B D cy b A fl h)) (va_Qi (fun (r : Int32) (u : PH) => (r, u) = out) (ph_B D cy b A fl) A) 0 0 A :=
  o_met (by decide) rfl (Nat.le_of_ble_eq_true rfl) rfl (fun p e s m below meth c S hr hlo hnm ls hl I => T12_oddsOf_0 S hr hlo ((gd f).2) I (lv_sub hl [0, 1, 2, 3] rfl))
def vX12_isGoing : List Cond := .code yX12_isGoing cX12_isGoing 4 (some .boolean) :: TB
theorem lf12_isGoing_88 : Fl vX12_isGoing RX12 88 12 55 := ⟨RX12, TX12, 87, rfl, by decide, (fun w h9 => List.mem_cons_of_mem _ (wC_wsX120 w h9)), (List.mem_cons_of_mem _ wT_10_22)⟩
theorem gX12_isGoing_X12_oddsOf : GoodIn vX12_isGoing (wsV RX12 425 RX12 yX12_oddsOf vX12_oddsOf) := gV_of wT_40_1 wT_40_2 wT_40_3 wT_1_5 wT_40_4
theorem lf12_isGoing_97 : Fl vX12_isGoing RX12 97 12 58 := ⟨RX12, TX12, 87, rfl, by decide, (fun w h9 => List.mem_cons_of_mem _ (wC_wsX120 w h9)), (List.mem_cons_of_mem _ wT_11_1)⟩
theorem lf12_isGoing_115 : Fl vX12_isGoing RX12 115 12 66 := ⟨RX12, TX12, 87, rfl, by decide, (fun w h9 => List.mem_cons_of_mem _ (wC_wsX120 w h9)), (List.mem_cons_of_mem _ wT_11_7)⟩
theorem lf12_isGoing_430 : Fl vX12_isGoing RX12 430 12 67 := ⟨RX12, TX12, 87, rfl, by decide, (fun w h9 => List.mem_cons_of_mem _ (wC_wsX120 w h9)), (List.mem_cons_of_mem _ wT_47_6)⟩
theorem cd12_isGoing : Cd yX12_isGoing 3 := ⟨by decide, by decide, by decide +kernel⟩
set_option maxHeartbeats 4000000 in
set_option maxRecDepth 100000 in
theorem T12_isGoing_29 (S : CallFix p m c cX12_isGoing 4 s args vX12_isGoing RX12) (hr : meth.sig.returnType = (some .boolean)) (hlo : meth.locks = false) {out : Int32 × PH} {h : PH} {a0 : Nat} {x1 : Int32} {x2 : Int32} {x3 : Int32} (f : F12_isGoing_29  h a0 x1 x2 x3 = some out) {H : Heap} {locs : List Loc} (I : ph_I D cy b A fl h s H locs) {ls : Array Slot} (hl : lv_has ls 4 [(0, .ref (b + a0)), (1, .int x1), (2, .int x2), (3, .int x3)]) : W p l e ({ frames := 7, cells := 0, slots := 0, locals := 169 } : Room) s m args below meth c H locs 0 0 (MQ below (va_Qi (fun (r : Int32) (u : PH) => (r, u) = out) (ph_B D cy b A fl) A) args s 0 0 A) (F0 m 29 ls []) := by
  unfold F12_isGoing_29 at f
  refine lv_aload_n S.1 S.2.1 dX12_isGoing_29 rfl (lv_at hl 0 rfl) ?_
  refine lv_iload_n S.1 S.2.1 dX12_isGoing_30 rfl (lv_at hl 2 rfl) ?_
  refine lv_iload_n S.1 S.2.1 dX12_isGoing_31 rfl (lv_at hl 3 rfl) ?_
  refine lv_aload_n S.1 S.2.1 dX12_isGoing_32 rfl (lv_at hl 0 rfl) ?_
  obtain ⟨r1, e2, f⟩ := ob f
  refine o_gR S lf12_isGoing_88 I e2 dX12_isGoing_33 ?_
  refine lv_iconst (v := 5) S.1 S.2.1 dX12_isGoing_36 (by decide) ?_
  refine lv_iload_n S.1 S.2.1 dX12_isGoing_37 rfl (lv_at hl 1 rfl) ?_
  refine lv_imul S.1 S.2.1 dX12_isGoing_38 ?_
  refine lv_iload_n S.1 S.2.1 dX12_isGoing_39 rfl (lv_at hl 2 rfl) ?_
  refine lv_iadd S.1 S.2.1 dX12_isGoing_40 ?_
  obtain ⟨v4, e3, f⟩ := ob f
  refine o_iald S I e3 dX12_isGoing_41 ?_
  obtain ⟨o5, e6, f⟩ := ob f
  refine o_Vi S (As := [.int x2, .int x3, .int v4]) (rest := []) (ci := 12) (M12_oddsOf l D cy b A fl e6) gX12_isGoing_X12_oddsOf rfl rfl rfl cd12_oddsOf ⟨Nat.le_of_ble_eq_true rfl, Nat.le_of_ble_eq_true rfl⟩ I (gd e6).1 clX12 rfl rfl hl.1 rfl (Nat.le_of_ble_eq_true rfl) dX12_isGoing_42 ⟨Nat.le_of_ble_eq_true rfl, Nat.le_of_ble_eq_true rfl⟩ (fun H locs I => ?_)
  refine lv_if_le (tgt := 52) S.1 S.2.1 dX12_isGoing_45 (by decide) (fun q7 => ?_) (fun q7 => ?_)
  · have f := (if_pos q7).symm.trans f
    refine lv_iconst (v := 0) S.1 S.2.1 dX12_isGoing_52 (by decide) ?_
    exact o_zret S hr hlo I f dX12_isGoing_53
  · have f := (if_neg q7).symm.trans f
    refine lv_iconst (v := 1) S.1 S.2.1 dX12_isGoing_48 (by decide) ?_
    refine lv_goto (tgt := 53) S.1 S.2.1 dX12_isGoing_49 (by decide) ?_
    exact o_zret S hr hlo I f dX12_isGoing_53
set_option maxHeartbeats 4000000 in
set_option maxRecDepth 100000 in
theorem T12_isGoing_0 (S : CallFix p m c cX12_isGoing 4 s args vX12_isGoing RX12) (hr : meth.sig.returnType = (some .boolean)) (hlo : meth.locks = false) {out : Int32 × PH} {h : PH} {a0 : Nat} {x1 : Int32} {x2 : Int32} {x3 : Int32} (f : F12_isGoing_0  h a0 x1 x2 x3 = some out) {H : Heap} {locs : List Loc} (I : ph_I D cy b A fl h s H locs) {ls : Array Slot} (hl : lv_has ls 4 [(0, .ref (b + a0)), (1, .int x1), (2, .int x2), (3, .int x3)]) : W p l e ({ frames := 7, cells := 0, slots := 0, locals := 169 } : Room) s m args below meth c H locs 0 0 (MQ below (va_Qi (fun (r : Int32) (u : PH) => (r, u) = out) (ph_B D cy b A fl) A) args s 0 0 A) (F0 m 0 ls []) := by
  unfold F12_isGoing_0 at f
  refine lv_aload_n S.1 S.2.1 dX12_isGoing_0 rfl (lv_at hl 0 rfl) ?_
  obtain ⟨r1, e2, f⟩ := ob f
  refine o_gR S lf12_isGoing_97 I e2 dX12_isGoing_1 ?_
  refine lv_iconst (v := 5) S.1 S.2.1 dX12_isGoing_4 (by decide) ?_
  refine lv_iload_n S.1 S.2.1 dX12_isGoing_5 rfl (lv_at hl 1 rfl) ?_
  refine lv_imul S.1 S.2.1 dX12_isGoing_6 ?_
  refine lv_iload_n S.1 S.2.1 dX12_isGoing_7 rfl (lv_at hl 2 rfl) ?_
  refine lv_iadd S.1 S.2.1 dX12_isGoing_8 ?_
  obtain ⟨v4, e3, f⟩ := ob f
  refine o_iald S I e3 dX12_isGoing_9 ?_
  refine lv_if_ne (tgt := 52) S.1 S.2.1 dX12_isGoing_10 (by decide) (fun q5 => ?_) (fun q5 => ?_)
  · have f := (if_neg q5).symm.trans f
    refine lv_iconst (v := 0) S.1 S.2.1 dX12_isGoing_52 (by decide) ?_
    exact o_zret S hr hlo I f dX12_isGoing_53
  · have f := (if_pos q5).symm.trans f
    refine lv_aload_n S.1 S.2.1 dX12_isGoing_13 rfl (lv_at hl 0 rfl) ?_
    obtain ⟨v6, e7, f⟩ := ob f
    refine o_gI S lf12_isGoing_115 I e7 dX12_isGoing_14 ?_
    refine lv_iconst (v := 1) S.1 S.2.1 dX12_isGoing_17 (by decide) ?_
    refine lv_icmp_ne (tgt := 29) S.1 S.2.1 dX12_isGoing_18 (by decide) (fun q8 => ?_) (fun q8 => ?_)
    · have f := (if_neg q8).symm.trans f
      exact T12_isGoing_29 S hr hlo  f I (lv_sub hl [0, 1, 2, 3] rfl)
    · have f := (if_pos q8).symm.trans f
      refine lv_aload_n S.1 S.2.1 dX12_isGoing_21 rfl (lv_at hl 0 rfl) ?_
      obtain ⟨v9, e10, f⟩ := ob f
      refine o_gI S lf12_isGoing_430 I e10 dX12_isGoing_22 ?_
      refine lv_iload_n S.1 S.2.1 dX12_isGoing_25 rfl (lv_at hl 2 rfl) ?_
      refine lv_icmp_eq (tgt := 52) S.1 S.2.1 dX12_isGoing_26 (by decide) (fun q11 => ?_) (fun q11 => ?_)
      · have f := (if_pos q11).symm.trans f
        refine lv_iconst (v := 0) S.1 S.2.1 dX12_isGoing_52 (by decide) ?_
        exact o_zret S hr hlo I f dX12_isGoing_53
      · have f := (if_neg q11).symm.trans f
        exact T12_isGoing_29 S hr hlo  f I (lv_sub hl [0, 1, 2, 3] rfl)
theorem M12_isGoing (l : Launch) (D : va_G) (cy : Nat → ClassId) (b : Nat) (A : Nat → Prop) (fl : Bool) {h : PH} {a0 : Nat} {x1 : Int32} {x2 : Int32} {x3 : Int32} {out : Int32 × PH} (f : F12_isGoing h a0 x1 x2 x3 = some out) : Met l yX12_isGoing vX12_isGoing ({ frames := 7, cells := 0, slots := 0, locals := 169 } : Room) (va_Pc [.ref (b + a0), .int x1, .int x2, .int x3] (ph_B D cy b A fl h)) (va_Qi (fun (r : Int32) (u : PH) => (r, u) = out) (ph_B D cy b A fl) A) 0 0 A :=
  o_met (by decide) rfl (Nat.le_of_ble_eq_true rfl) rfl (fun p e s m below meth c S hr hlo hnm ls hl I => T12_isGoing_0 S hr hlo ((gd f).2) I (lv_sub hl [0, 1, 2, 3] rfl))
def vX12_keyOf : List Cond := .code yX12_keyOf cX12_keyOf 9 (some .int) :: TB
theorem lf12_keyOf_253 : Fl vX12_keyOf RX12 253 12 16 := ⟨RX12, TX12, 87, rfl, by decide, (fun w h9 => List.mem_cons_of_mem _ (wC_wsX120 w h9)), (List.mem_cons_of_mem _ wT_12_14)⟩
theorem lf12_keyOf_54 : Fl vX12_keyOf RX12 54 12 36 := ⟨RX12, TX12, 87, rfl, by decide, (fun w h9 => List.mem_cons_of_mem _ (wC_wsX120 w h9)), (List.mem_cons_of_mem _ wT_10_11)⟩
theorem lf12_keyOf_103 : Fl vX12_keyOf RX12 103 12 60 := ⟨RX12, TX12, 87, rfl, by decide, (fun w h9 => List.mem_cons_of_mem _ (wC_wsX120 w h9)), (List.mem_cons_of_mem _ wT_11_3)⟩
theorem lf12_keyOf_88 : Fl vX12_keyOf RX12 88 12 55 := ⟨RX12, TX12, 87, rfl, by decide, (fun w h9 => List.mem_cons_of_mem _ (wC_wsX120 w h9)), (List.mem_cons_of_mem _ wT_10_22)⟩
theorem lf12_keyOf_48 : Fl vX12_keyOf RX12 48 12 34 := ⟨RX12, TX12, 87, rfl, by decide, (fun w h9 => List.mem_cons_of_mem _ (wC_wsX120 w h9)), (List.mem_cons_of_mem _ wT_10_9)⟩
theorem gX12_keyOf_X12_peakAt : GoodIn vX12_keyOf (wsV RX12 400 RX12 yX12_peakAt vX12_peakAt) := gV_of wT_34_22 wT_34_23 wT_35_0 wT_1_5 wT_35_1
theorem gX12_keyOf_X12_far : GoodIn vX12_keyOf (wsV RX12 403 RX12 yX12_far vX12_far) := gV_of wT_36_8 wT_36_9 wT_36_10 wT_1_5 wT_36_11
theorem lf12_keyOf_241 : Fl vX12_keyOf RX12 241 12 12 := ⟨RX12, TX12, 87, rfl, by decide, (fun w h9 => List.mem_cons_of_mem _ (wC_wsX120 w h9)), (List.mem_cons_of_mem _ wT_12_10)⟩
theorem lf12_keyOf_91 : Fl vX12_keyOf RX12 91 12 56 := ⟨RX12, TX12, 87, rfl, by decide, (fun w h9 => List.mem_cons_of_mem _ (wC_wsX120 w h9)), (List.mem_cons_of_mem _ wT_10_23)⟩
theorem cd12_keyOf : Cd yX12_keyOf 4 := ⟨by decide, by decide, by decide +kernel⟩
set_option maxHeartbeats 4000000 in
set_option maxRecDepth 100000 in
theorem T12_keyOf_122 (S : CallFix p m c cX12_keyOf 9 s args vX12_keyOf RX12) (hr : meth.sig.returnType = (some .int)) (hlo : meth.locks = false) {out : Int32 × PH} {k76 : PH → Nat → Int32 → Int32 → Int32 → Int32 → Int32 → Int32 → Option (Int32 × PH)} (hk76 : ∀ {h : PH} {a0 : Nat} {x1 : Int32} {x2 : Int32} {x3 : Int32} {x6 : Int32} {x7 : Int32} {x8 : Int32}, k76 h a0 x1 x2 x3 x6 x7 x8 = some out → ∀ (H : Heap) (locs : List Loc), ph_I D cy b A fl h s H locs → ∀ (ls : Array Slot), lv_has ls 9 [(0, .ref (b + a0)), (1, .int x1), (2, .int x2), (3, .int x3), (6, .int x6), (7, .int x7), (8, .int x8)] → W p l e ({ frames := 5, cells := 0, slots := 0, locals := 120 } : Room) s m args below meth c H locs 0 0 (MQ below (va_Qi (fun (r : Int32) (u : PH) => (r, u) = out) (ph_B D cy b A fl) A) args s 0 0 A) (F0 m 76 ls [])) {h : PH} {a0 : Nat} {x1 : Int32} {x2 : Int32} {x3 : Int32} {x6 : Int32} {x8 : Int32} (f : F12_keyOf_122 k76 h a0 x1 x2 x3 x6 x8 = some out) {H : Heap} {locs : List Loc} (I : ph_I D cy b A fl h s H locs) {ls : Array Slot} (hl : lv_has ls 9 [(0, .ref (b + a0)), (1, .int x1), (2, .int x2), (3, .int x3), (6, .int x6), (8, .int x8)]) : W p l e ({ frames := 5, cells := 0, slots := 0, locals := 120 } : Room) s m args below meth c H locs 0 0 (MQ below (va_Qi (fun (r : Int32) (u : PH) => (r, u) = out) (ph_B D cy b A fl) A) args s 0 0 A) (F0 m 122 ls []) := by
  unfold F12_keyOf_122 at f
  refine lv_iconst (v := 1) S.1 S.2.1 dX12_keyOf_122 (by decide) ?_
  refine lv_goto (tgt := 127) S.1 S.2.1 dX12_keyOf_123 (by decide) ?_
  refine lv_istore (lv' := [(7, .int 1), (0, .ref (b + a0)), (1, .int x1), (2, .int x2), (3, .int x3), (6, .int x6), (8, .int x8)]) S.1 S.2.1 dX12_keyOf_127 hl (by decide) rfl (fun ls hl => ?_)
  refine lv_iinc (v := (x8 + 1)) (lv' := [(8, .int (x8 + 1)), (7, .int 1), (0, .ref (b + a0)), (1, .int x1), (2, .int x2), (3, .int x3), (6, .int x6)]) S.1 S.2.1 dX12_keyOf_129 hl (k := 6) rfl (congrArg (fun z => x8 + z) (by decide)) (by decide) rfl (fun ls hl => ?_)
  refine lv_goto (tgt := 76) S.1 S.2.1 dX12_keyOf_132 (by decide) ?_
  exact hk76 f _ _ I _ (lv_sub hl [2, 3, 4, 5, 6, 1, 0] rfl)
set_option maxHeartbeats 4000000 in
set_option maxRecDepth 100000 in
theorem T12_keyOf_76 (S : CallFix p m c cX12_keyOf 9 s args vX12_keyOf RX12) (hr : meth.sig.returnType = (some .int)) (hlo : meth.locks = false) {out : Int32 × PH} : ∀ (n : Nat) {h : PH} {a0 : Nat} {x1 : Int32} {x2 : Int32} {x3 : Int32} {x6 : Int32} {x7 : Int32} {x8 : Int32} (f : F12_keyOf_76  n h a0 x1 x2 x3 x6 x7 x8 = some out) {H : Heap} {locs : List Loc} (I : ph_I D cy b A fl h s H locs) {ls : Array Slot} (hl : lv_has ls 9 [(0, .ref (b + a0)), (1, .int x1), (2, .int x2), (3, .int x3), (6, .int x6), (7, .int x7), (8, .int x8)]), W p l e ({ frames := 5, cells := 0, slots := 0, locals := 120 } : Room) s m args below meth c H locs 0 0 (MQ below (va_Qi (fun (r : Int32) (u : PH) => (r, u) = out) (ph_B D cy b A fl) A) args s 0 0 A) (F0 m 76 ls []) := by
  intro n
  induction n with
  | zero => intro h a0 x1 x2 x3 x6 x7 x8 f; rw [F12_keyOf_76] at f; cases f
  | succ n ih =>
    intro h a0 x1 x2 x3 x6 x7 x8 f H locs I ls hl
    rw [F12_keyOf_76] at f
    refine lv_iload S.1 S.2.1 dX12_keyOf_76 (lv_at hl 6 rfl) ?_
    refine lv_aload_n S.1 S.2.1 dX12_keyOf_78 rfl (lv_at hl 0 rfl) ?_
    obtain ⟨v1, e2, f⟩ := ob f
    refine o_gI S lf12_keyOf_253 I e2 dX12_keyOf_79 ?_
    refine lv_icmp_ge (tgt := 135) S.1 S.2.1 dX12_keyOf_82 (by decide) (fun q3 => ?_) (fun q3 => ?_)
    · have f := (if_pos q3).symm.trans f
      refine lv_iload S.1 S.2.1 dX12_keyOf_135 (lv_at hl 5 rfl) ?_
      refine lv_if_eq (tgt := 146) S.1 S.2.1 dX12_keyOf_137 (by decide) (fun q4 => ?_) (fun q4 => ?_)
      · have f := (if_pos q4).symm.trans f
        refine lv_iconst (v := 0) S.1 S.2.1 dX12_keyOf_146 (by decide) ?_
        refine lv_iload S.1 S.2.1 dX12_keyOf_147 (lv_at hl 4 rfl) ?_
        refine lv_iadd S.1 S.2.1 dX12_keyOf_149 ?_
        exact o_iret S hr hlo I f dX12_keyOf_150
      · have f := (if_neg q4).symm.trans f
        refine lv_sipush (v := 1000) S.1 S.2.1 dX12_keyOf_140 (by decide) ?_
        refine lv_goto (tgt := 147) S.1 S.2.1 dX12_keyOf_143 (by decide) ?_
        refine lv_iload S.1 S.2.1 dX12_keyOf_147 (lv_at hl 4 rfl) ?_
        refine lv_iadd S.1 S.2.1 dX12_keyOf_149 ?_
        exact o_iret S hr hlo I f dX12_keyOf_150
    · have f := (if_neg q3).symm.trans f
      refine lv_iload S.1 S.2.1 dX12_keyOf_85 (lv_at hl 5 rfl) ?_
      refine lv_if_ne (tgt := 122) S.1 S.2.1 dX12_keyOf_87 (by decide) (fun q5 => ?_) (fun q5 => ?_)
      · have f := (if_neg q5).symm.trans f
        exact T12_keyOf_122 S hr hlo (fun f _ _ I _ hl => ih f I hl) f I (lv_sub hl [0, 1, 2, 3, 4, 6] rfl)
      · have f := (if_pos q5).symm.trans f
        refine lv_aload_n S.1 S.2.1 dX12_keyOf_90 rfl (lv_at hl 0 rfl) ?_
        obtain ⟨r6, e7, f⟩ := ob f
        refine o_gR S lf12_keyOf_54 I e7 dX12_keyOf_91 ?_
        refine lv_iload S.1 S.2.1 dX12_keyOf_94 (lv_at hl 6 rfl) ?_
        obtain ⟨v9, e8, f⟩ := ob f
        refine o_iald S I e8 dX12_keyOf_96 ?_
        refine lv_aload_n S.1 S.2.1 dX12_keyOf_97 rfl (lv_at hl 0 rfl) ?_
        obtain ⟨r10, e11, f⟩ := ob f
        refine o_gR S lf12_keyOf_54 I e11 dX12_keyOf_98 ?_
        refine lv_iload_n S.1 S.2.1 dX12_keyOf_101 rfl (lv_at hl 3 rfl) ?_
        obtain ⟨v13, e12, f⟩ := ob f
        refine o_iald S I e12 dX12_keyOf_102 ?_
        refine lv_icmp_ne (tgt := 126) S.1 S.2.1 dX12_keyOf_103 (by decide) (fun q14 => ?_) (fun q14 => ?_)
        · have f := (if_neg q14).symm.trans f
          refine lv_iconst (v := 0) S.1 S.2.1 dX12_keyOf_126 (by decide) ?_
          refine lv_istore (lv' := [(7, .int 0), (0, .ref (b + a0)), (1, .int x1), (2, .int x2), (3, .int x3), (6, .int x6), (8, .int x8)]) S.1 S.2.1 dX12_keyOf_127 hl (by decide) rfl (fun ls hl => ?_)
          refine lv_iinc (v := (x8 + 1)) (lv' := [(8, .int (x8 + 1)), (7, .int 0), (0, .ref (b + a0)), (1, .int x1), (2, .int x2), (3, .int x3), (6, .int x6)]) S.1 S.2.1 dX12_keyOf_129 hl (k := 6) rfl (congrArg (fun z => x8 + z) (by decide)) (by decide) rfl (fun ls hl => ?_)
          refine lv_goto (tgt := 76) S.1 S.2.1 dX12_keyOf_132 (by decide) ?_
          exact ih f I (lv_sub hl [2, 3, 4, 5, 6, 1, 0] rfl)
        · have f := (if_pos q14).symm.trans f
          refine lv_aload_n S.1 S.2.1 dX12_keyOf_106 rfl (lv_at hl 0 rfl) ?_
          obtain ⟨r15, e16, f⟩ := ob f
          refine o_gR S lf12_keyOf_103 I e16 dX12_keyOf_107 ?_
          refine lv_bipush (v := 28) S.1 S.2.1 dX12_keyOf_110 (by decide) ?_
          refine lv_iload_n S.1 S.2.1 dX12_keyOf_112 rfl (lv_at hl 1 rfl) ?_
          refine lv_imul S.1 S.2.1 dX12_keyOf_113 ?_
          refine lv_iload S.1 S.2.1 dX12_keyOf_114 (lv_at hl 6 rfl) ?_
          refine lv_iadd S.1 S.2.1 dX12_keyOf_116 ?_
          obtain ⟨v18, e17, f⟩ := ob f
          refine o_iald S I e17 dX12_keyOf_117 ?_
          refine lv_iload_n S.1 S.2.1 dX12_keyOf_118 rfl (lv_at hl 2 rfl) ?_
          refine lv_icmp_ne (tgt := 126) S.1 S.2.1 dX12_keyOf_119 (by decide) (fun q19 => ?_) (fun q19 => ?_)
          · have f := (if_neg q19).symm.trans f
            refine lv_iconst (v := 0) S.1 S.2.1 dX12_keyOf_126 (by decide) ?_
            refine lv_istore (lv' := [(7, .int 0), (0, .ref (b + a0)), (1, .int x1), (2, .int x2), (3, .int x3), (6, .int x6), (8, .int x8)]) S.1 S.2.1 dX12_keyOf_127 hl (by decide) rfl (fun ls hl => ?_)
            refine lv_iinc (v := (x8 + 1)) (lv' := [(8, .int (x8 + 1)), (7, .int 0), (0, .ref (b + a0)), (1, .int x1), (2, .int x2), (3, .int x3), (6, .int x6)]) S.1 S.2.1 dX12_keyOf_129 hl (k := 6) rfl (congrArg (fun z => x8 + z) (by decide)) (by decide) rfl (fun ls hl => ?_)
            refine lv_goto (tgt := 76) S.1 S.2.1 dX12_keyOf_132 (by decide) ?_
            exact ih f I (lv_sub hl [2, 3, 4, 5, 6, 1, 0] rfl)
          · have f := (if_pos q19).symm.trans f
            exact T12_keyOf_122 S hr hlo (fun f _ _ I _ hl => ih f I hl) f I (lv_sub hl [0, 1, 2, 3, 4, 6] rfl)
set_option maxHeartbeats 4000000 in
set_option maxRecDepth 100000 in
theorem T12_keyOf_0 (S : CallFix p m c cX12_keyOf 9 s args vX12_keyOf RX12) (hr : meth.sig.returnType = (some .int)) (hlo : meth.locks = false) {out : Int32 × PH} {h : PH} {a0 : Nat} {x1 : Int32} {x2 : Int32} {x3 : Int32} {x4 : Int32} (f : F12_keyOf_0  h a0 x1 x2 x3 x4 = some out) {H : Heap} {locs : List Loc} (I : ph_I D cy b A fl h s H locs) {ls : Array Slot} (hl : lv_has ls 9 [(0, .ref (b + a0)), (1, .int x1), (2, .int x2), (3, .int x3), (4, .int x4)]) : W p l e ({ frames := 5, cells := 0, slots := 0, locals := 120 } : Room) s m args below meth c H locs 0 0 (MQ below (va_Qi (fun (r : Int32) (u : PH) => (r, u) = out) (ph_B D cy b A fl) A) args s 0 0 A) (F0 m 0 ls []) := by
  unfold F12_keyOf_0 at f
  refine lv_aload_n S.1 S.2.1 dX12_keyOf_0 rfl (lv_at hl 0 rfl) ?_
  obtain ⟨r1, e2, f⟩ := ob f
  refine o_gR S lf12_keyOf_88 I e2 dX12_keyOf_1 ?_
  refine lv_iconst (v := 5) S.1 S.2.1 dX12_keyOf_4 (by decide) ?_
  refine lv_iload_n S.1 S.2.1 dX12_keyOf_5 rfl (lv_at hl 1 rfl) ?_
  refine lv_imul S.1 S.2.1 dX12_keyOf_6 ?_
  refine lv_iload_n S.1 S.2.1 dX12_keyOf_7 rfl (lv_at hl 2 rfl) ?_
  refine lv_iadd S.1 S.2.1 dX12_keyOf_8 ?_
  obtain ⟨v4, e3, f⟩ := ob f
  refine o_iald S I e3 dX12_keyOf_9 ?_
  refine lv_istore (lv' := [(5, .int v4), (0, .ref (b + a0)), (1, .int x1), (2, .int x2), (3, .int x3), (4, .int x4)]) S.1 S.2.1 dX12_keyOf_10 hl (by decide) rfl (fun ls hl => ?_)
  refine lv_aload_n S.1 S.2.1 dX12_keyOf_12 rfl (lv_at hl 1 rfl) ?_
  refine lv_iload S.1 S.2.1 dX12_keyOf_13 (lv_at hl 0 rfl) ?_
  refine lv_aload_n S.1 S.2.1 dX12_keyOf_15 rfl (lv_at hl 1 rfl) ?_
  refine lv_aload_n S.1 S.2.1 dX12_keyOf_16 rfl (lv_at hl 1 rfl) ?_
  obtain ⟨r5, e6, f⟩ := ob f
  refine o_gR S lf12_keyOf_48 I e6 dX12_keyOf_17 ?_
  refine lv_iload_n S.1 S.2.1 dX12_keyOf_20 rfl (lv_at hl 4 rfl) ?_
  obtain ⟨v8, e7, f⟩ := ob f
  refine o_iald S I e7 dX12_keyOf_21 ?_
  obtain ⟨o9, e10, f⟩ := ob f
  refine o_Vi S (As := [.int v8]) (rest := [.int v4, .ref (b + a0)]) (ci := 12) (M12_peakAt l D cy b A fl e10) gX12_keyOf_X12_peakAt rfl rfl rfl cd12_peakAt ⟨Nat.le_of_ble_eq_true rfl, Nat.le_of_ble_eq_true rfl⟩ I (gd e10).1 clX12 rfl rfl hl.1 rfl (Nat.le_of_ble_eq_true rfl) dX12_keyOf_22 ⟨Nat.le_of_ble_eq_true rfl, Nat.le_of_ble_eq_true rfl⟩ (fun H locs I => ?_)
  obtain ⟨o11, e12, f⟩ := ob f
  refine o_Vi S (As := [.int v4, .int o9.1]) (rest := []) (ci := 12) (M12_far l D cy b A fl e12) gX12_keyOf_X12_far rfl rfl rfl cd12_far ⟨Nat.le_of_ble_eq_true rfl, Nat.le_of_ble_eq_true rfl⟩ I (gd e12).1 clX12 rfl rfl hl.1 rfl (Nat.le_of_ble_eq_true rfl) dX12_keyOf_25 ⟨Nat.le_of_ble_eq_true rfl, Nat.le_of_ble_eq_true rfl⟩ (fun H locs I => ?_)
  refine lv_istore (lv' := [(6, .int o11.1), (5, .int v4), (0, .ref (b + a0)), (1, .int x1), (2, .int x2), (3, .int x3), (4, .int x4)]) S.1 S.2.1 dX12_keyOf_28 hl (by decide) rfl (fun ls hl => ?_)
  refine lv_iload S.1 S.2.1 dX12_keyOf_30 (lv_at hl 6 rfl) ?_
  refine lv_if_ne (tgt := 38) S.1 S.2.1 dX12_keyOf_32 (by decide) (fun q13 => ?_) (fun q13 => ?_)
  · have f := (if_neg q13).symm.trans f
    refine lv_iload S.1 S.2.1 dX12_keyOf_38 (lv_at hl 6 rfl) ?_
    refine lv_iconst (v := 1) S.1 S.2.1 dX12_keyOf_40 (by decide) ?_
    refine lv_icmp_ne (tgt := 55) S.1 S.2.1 dX12_keyOf_41 (by decide) (fun q14 => ?_) (fun q14 => ?_)
    · have f := (if_neg q14).symm.trans f
      refine lv_iload S.1 S.2.1 dX12_keyOf_55 (lv_at hl 6 rfl) ?_
      refine lv_iconst (v := 3) S.1 S.2.1 dX12_keyOf_57 (by decide) ?_
      refine lv_icmp_ne (tgt := 70) S.1 S.2.1 dX12_keyOf_58 (by decide) (fun q15 => ?_) (fun q15 => ?_)
      · have f := (if_neg q15).symm.trans f
        refine lv_iconst (v := 0) S.1 S.2.1 dX12_keyOf_70 (by decide) ?_
        refine lv_istore (lv' := [(7, .int 0), (6, .int o11.1), (5, .int v4), (0, .ref (b + a0)), (1, .int x1), (2, .int x2), (3, .int x3), (4, .int x4)]) S.1 S.2.1 dX12_keyOf_71 hl (by decide) rfl (fun ls hl => ?_)
        refine lv_iconst (v := 0) S.1 S.2.1 dX12_keyOf_73 (by decide) ?_
        refine lv_istore (lv' := [(8, .int 0), (7, .int 0), (6, .int o11.1), (5, .int v4), (0, .ref (b + a0)), (1, .int x1), (2, .int x2), (3, .int x3), (4, .int x4)]) S.1 S.2.1 dX12_keyOf_74 hl (by decide) rfl (fun ls hl => ?_)
        exact T12_keyOf_76 S hr hlo  1024 f I (lv_sub hl [4, 5, 6, 7, 2, 1, 0] rfl)
      · have f := (if_pos q15).symm.trans f
        refine lv_iload S.1 S.2.1 dX12_keyOf_61 (lv_at hl 1 rfl) ?_
        refine lv_aload_n S.1 S.2.1 dX12_keyOf_63 rfl (lv_at hl 2 rfl) ?_
        obtain ⟨v16, e17, f⟩ := ob f
        refine o_gI S lf12_keyOf_241 I e17 dX12_keyOf_64 ?_
        have q18 : ¬ v16 = 0 := fun q => by rw [if_pos q] at f; cases f
        have f := (if_neg q18).symm.trans f
        refine lv_idiv S.1 S.2.1 dX12_keyOf_67 q18 ?_
        refine lv_ineg S.1 S.2.1 dX12_keyOf_68 ?_
        exact o_iret S hr hlo I f dX12_keyOf_69
    · have f := (if_pos q14).symm.trans f
      refine lv_aload_n S.1 S.2.1 dX12_keyOf_44 rfl (lv_at hl 2 rfl) ?_
      obtain ⟨r19, e20, f⟩ := ob f
      refine o_gR S lf12_keyOf_91 I e20 dX12_keyOf_45 ?_
      refine lv_iconst (v := 5) S.1 S.2.1 dX12_keyOf_48 (by decide) ?_
      refine lv_iload_n S.1 S.2.1 dX12_keyOf_49 rfl (lv_at hl 3 rfl) ?_
      refine lv_imul S.1 S.2.1 dX12_keyOf_50 ?_
      refine lv_iload_n S.1 S.2.1 dX12_keyOf_51 rfl (lv_at hl 4 rfl) ?_
      refine lv_iadd S.1 S.2.1 dX12_keyOf_52 ?_
      obtain ⟨v22, e21, f⟩ := ob f
      refine o_iald S I e21 dX12_keyOf_53 ?_
      exact o_iret S hr hlo I f dX12_keyOf_54
  · have f := (if_pos q13).symm.trans f
    refine lv_iload S.1 S.2.1 dX12_keyOf_35 (lv_at hl 0 rfl) ?_
    exact o_iret S hr hlo I f dX12_keyOf_37
theorem M12_keyOf (l : Launch) (D : va_G) (cy : Nat → ClassId) (b : Nat) (A : Nat → Prop) (fl : Bool) {h : PH} {a0 : Nat} {x1 : Int32} {x2 : Int32} {x3 : Int32} {x4 : Int32} {out : Int32 × PH} (f : F12_keyOf h a0 x1 x2 x3 x4 = some out) : Met l yX12_keyOf vX12_keyOf ({ frames := 5, cells := 0, slots := 0, locals := 120 } : Room) (va_Pc [.ref (b + a0), .int x1, .int x2, .int x3, .int x4] (ph_B D cy b A fl h)) (va_Qi (fun (r : Int32) (u : PH) => (r, u) = out) (ph_B D cy b A fl) A) 0 0 A :=
  o_met (by decide) rfl (Nat.le_of_ble_eq_true rfl) rfl (fun p e s m below meth c S hr hlo hnm ls hl I => T12_keyOf_0 S hr hlo ((gd f).2) I (lv_sub hl [0, 1, 2, 3, 4] rfl))
def vX12_layOrder : List Cond := .code yX12_layOrder cX12_layOrder 7 none :: TB
theorem lf12_layOrder_118 : Fl vX12_layOrder RX12 118 12 68 := ⟨RX12, TX12, 87, rfl, by decide, (fun w h9 => List.mem_cons_of_mem _ (wC_wsX120 w h9)), (List.mem_cons_of_mem _ wT_11_8)⟩
theorem lf12_layOrder_433 : Fl vX12_layOrder RX12 433 12 69 := ⟨RX12, TX12, 87, rfl, by decide, (fun w h9 => List.mem_cons_of_mem _ (wC_wsX120 w h9)), (List.mem_cons_of_mem _ wT_46_21)⟩
theorem lp12_layOrder_433 : Pl vX12_layOrder RX12 433 12 69 .int := ⟨RX12, TX12, 87, tyX12, rfl, by decide, (fun w h9 => List.mem_cons_of_mem _ (wC_wsX120 w h9)), (List.mem_cons_of_mem _ wT_46_21), tyX12_ok, nmX12, rfl, rfl⟩
theorem gX12_layOrder_X12_keyOf : GoodIn vX12_layOrder (wsV RX12 439 RX12 yX12_keyOf vX12_keyOf) := gV_of wT_47_7 wT_47_8 wT_47_9 wT_1_5 wT_47_10
theorem lf12_layOrder_247 : Fl vX12_layOrder RX12 247 12 14 := ⟨RX12, TX12, 87, rfl, by decide, (fun w h9 => List.mem_cons_of_mem _ (wC_wsX120 w h9)), (List.mem_cons_of_mem _ wT_12_12)⟩
theorem gX12_layOrder_X12_isGoing : GoodIn vX12_layOrder (wsV RX12 436 RX12 yX12_isGoing vX12_isGoing) := gV_of wT_47_2 wT_47_3 wT_47_4 wT_1_5 wT_47_5
theorem cd12_layOrder : Cd yX12_layOrder 3 := ⟨by decide, by decide, by decide +kernel⟩
set_option maxHeartbeats 4000000 in
set_option maxRecDepth 100000 in
theorem T12_layOrder_96 (S : CallFix p m c cX12_layOrder 7 s args vX12_layOrder RX12) (hr : meth.sig.returnType = none) (hlo : meth.locks = false) {out : PH} {k8 : PH → Nat → Int32 → Int32 → Int32 → Int32 → Option (PH)} (hk8 : ∀ {h : PH} {a0 : Nat} {x1 : Int32} {x2 : Int32} {x3 : Int32} {x4 : Int32}, k8 h a0 x1 x2 x3 x4 = some out → ∀ (H : Heap) (locs : List Loc), ph_I D cy b A fl h s H locs → ∀ (ls : Array Slot), lv_has ls 7 [(0, .ref (b + a0)), (1, .int x1), (2, .int x2), (3, .int x3), (4, .int x4)] → W p l e ({ frames := 8, cells := 0, slots := 0, locals := 192 } : Room) s m args below meth c H locs 0 0 (MQ below (va_Qv (fun (u : PH) => u = out) (ph_B D cy b A fl) A) args s 0 0 A) (F0 m 8 ls [])) {h : PH} {a0 : Nat} {x1 : Int32} {x2 : Int32} {x3 : Int32} {x4 : Int32} {x6 : Int32} (f : F12_layOrder_96 k8 h a0 x1 x2 x3 x4 x6 = some out) {H : Heap} {locs : List Loc} (I : ph_I D cy b A fl h s H locs) {ls : Array Slot} (hl : lv_has ls 7 [(0, .ref (b + a0)), (1, .int x1), (2, .int x2), (3, .int x3), (4, .int x4), (6, .int x6)]) : W p l e ({ frames := 8, cells := 0, slots := 0, locals := 192 } : Room) s m args below meth c H locs 0 0 (MQ below (va_Qv (fun (u : PH) => u = out) (ph_B D cy b A fl) A) args s 0 0 A) (F0 m 96 ls []) := by
  unfold F12_layOrder_96 at f
  refine lv_aload_n S.1 S.2.1 dX12_layOrder_96 rfl (lv_at hl 0 rfl) ?_
  obtain ⟨r1, e2, f⟩ := ob f
  refine o_gR S lf12_layOrder_118 I e2 dX12_layOrder_97 ?_
  refine lv_iload S.1 S.2.1 dX12_layOrder_100 (lv_at hl 5 rfl) ?_
  refine lv_iload S.1 S.2.1 dX12_layOrder_102 (lv_at hl 4 rfl) ?_
  obtain ⟨h4, e3, f⟩ := ob f
  refine o_iast S I e3 dX12_layOrder_104 (fun H locs I => ?_)
  refine lv_aload_n S.1 S.2.1 dX12_layOrder_105 rfl (lv_at hl 0 rfl) ?_
  refine lv_dup S.1 S.2.1 dX12_layOrder_106 rfl ?_
  obtain ⟨v5, e6, f⟩ := ob f
  refine o_gI S lf12_layOrder_433 I e6 dX12_layOrder_107 ?_
  refine lv_iconst (v := 1) S.1 S.2.1 dX12_layOrder_110 (by decide) ?_
  refine lv_iadd S.1 S.2.1 dX12_layOrder_111 ?_
  obtain ⟨h7, e8, f⟩ := ob f
  refine o_pI S lp12_layOrder_433 I e8 dX12_layOrder_112 (fun H locs I => ?_)
  refine lv_iinc (v := (x4 + 1)) (lv' := [(4, .int (x4 + 1)), (0, .ref (b + a0)), (1, .int x1), (2, .int x2), (3, .int x3), (6, .int x6)]) S.1 S.2.1 dX12_layOrder_115 hl (k := 4) rfl (congrArg (fun z => x4 + z) (by decide)) (by decide) rfl (fun ls hl => ?_)
  refine lv_goto (tgt := 8) S.1 S.2.1 dX12_layOrder_118 (by decide) ?_
  exact hk8 f _ _ I _ (lv_sub hl [1, 2, 3, 4, 0] rfl)
set_option maxHeartbeats 4000000 in
set_option maxRecDepth 100000 in
theorem T12_layOrder_48 (S : CallFix p m c cX12_layOrder 7 s args vX12_layOrder RX12) (hr : meth.sig.returnType = none) (hlo : meth.locks = false) {out : PH} {k8 : PH → Nat → Int32 → Int32 → Int32 → Int32 → Option (PH)} (hk8 : ∀ {h : PH} {a0 : Nat} {x1 : Int32} {x2 : Int32} {x3 : Int32} {x4 : Int32}, k8 h a0 x1 x2 x3 x4 = some out → ∀ (H : Heap) (locs : List Loc), ph_I D cy b A fl h s H locs → ∀ (ls : Array Slot), lv_has ls 7 [(0, .ref (b + a0)), (1, .int x1), (2, .int x2), (3, .int x3), (4, .int x4)] → W p l e ({ frames := 8, cells := 0, slots := 0, locals := 192 } : Room) s m args below meth c H locs 0 0 (MQ below (va_Qv (fun (u : PH) => u = out) (ph_B D cy b A fl) A) args s 0 0 A) (F0 m 8 ls [])) : ∀ (n : Nat) {h : PH} {a0 : Nat} {x1 : Int32} {x2 : Int32} {x3 : Int32} {x4 : Int32} {x5 : Int32} {x6 : Int32} (f : F12_layOrder_48 k8 n h a0 x1 x2 x3 x4 x5 x6 = some out) {H : Heap} {locs : List Loc} (I : ph_I D cy b A fl h s H locs) {ls : Array Slot} (hl : lv_has ls 7 [(0, .ref (b + a0)), (1, .int x1), (2, .int x2), (3, .int x3), (4, .int x4), (5, .int x5), (6, .int x6)]), W p l e ({ frames := 8, cells := 0, slots := 0, locals := 192 } : Room) s m args below meth c H locs 0 0 (MQ below (va_Qv (fun (u : PH) => u = out) (ph_B D cy b A fl) A) args s 0 0 A) (F0 m 48 ls []) := by
  intro n
  induction n with
  | zero => intro h a0 x1 x2 x3 x4 x5 x6 f; rw [F12_layOrder_48] at f; cases f
  | succ n ih =>
    intro h a0 x1 x2 x3 x4 x5 x6 f H locs I ls hl
    rw [F12_layOrder_48] at f
    refine lv_iload S.1 S.2.1 dX12_layOrder_48 (lv_at hl 6 rfl) ?_
    refine lv_if_le (tgt := 96) S.1 S.2.1 dX12_layOrder_50 (by decide) (fun q1 => ?_) (fun q1 => ?_)
    · have f := (if_pos q1).symm.trans f
      exact T12_layOrder_96 S hr hlo (fun f _ _ I _ hl => hk8 f _ _ I _ hl) f I (lv_sub hl [0, 1, 2, 3, 4, 6] rfl)
    · have f := (if_neg q1).symm.trans f
      refine lv_aload_n S.1 S.2.1 dX12_layOrder_53 rfl (lv_at hl 0 rfl) ?_
      refine lv_iload_n S.1 S.2.1 dX12_layOrder_54 rfl (lv_at hl 1 rfl) ?_
      refine lv_aload_n S.1 S.2.1 dX12_layOrder_55 rfl (lv_at hl 0 rfl) ?_
      obtain ⟨r2, e3, f⟩ := ob f
      refine o_gR S lf12_layOrder_118 I e3 dX12_layOrder_56 ?_
      refine lv_iload S.1 S.2.1 dX12_layOrder_59 (lv_at hl 6 rfl) ?_
      refine lv_iconst (v := 1) S.1 S.2.1 dX12_layOrder_61 (by decide) ?_
      refine lv_isub S.1 S.2.1 dX12_layOrder_62 ?_
      obtain ⟨v5, e4, f⟩ := ob f
      refine o_iald S I e4 dX12_layOrder_63 ?_
      refine lv_iload_n S.1 S.2.1 dX12_layOrder_64 rfl (lv_at hl 2 rfl) ?_
      refine lv_iload_n S.1 S.2.1 dX12_layOrder_65 rfl (lv_at hl 3 rfl) ?_
      obtain ⟨o6, e7, f⟩ := ob f
      refine o_Vi S (As := [.int x1, .int v5, .int x2, .int x3]) (rest := []) (ci := 12) (M12_keyOf l D cy b A fl e7) gX12_layOrder_X12_keyOf rfl rfl rfl cd12_keyOf ⟨Nat.le_of_ble_eq_true rfl, Nat.le_of_ble_eq_true rfl⟩ I (gd e7).1 clX12 rfl rfl hl.1 rfl (Nat.le_of_ble_eq_true rfl) dX12_layOrder_66 ⟨Nat.le_of_ble_eq_true rfl, Nat.le_of_ble_eq_true rfl⟩ (fun H locs I => ?_)
      refine lv_iload S.1 S.2.1 dX12_layOrder_69 (lv_at hl 5 rfl) ?_
      refine lv_icmp_le (tgt := 96) S.1 S.2.1 dX12_layOrder_71 (by decide) (fun q8 => ?_) (fun q8 => ?_)
      · have f := (if_pos q8).symm.trans f
        exact T12_layOrder_96 S hr hlo (fun f _ _ I _ hl => hk8 f _ _ I _ hl) f I (lv_sub hl [0, 1, 2, 3, 4, 6] rfl)
      · have f := (if_neg q8).symm.trans f
        refine lv_aload_n S.1 S.2.1 dX12_layOrder_74 rfl (lv_at hl 0 rfl) ?_
        obtain ⟨r9, e10, f⟩ := ob f
        refine o_gR S lf12_layOrder_118 I e10 dX12_layOrder_75 ?_
        refine lv_iload S.1 S.2.1 dX12_layOrder_78 (lv_at hl 6 rfl) ?_
        refine lv_aload_n S.1 S.2.1 dX12_layOrder_80 rfl (lv_at hl 0 rfl) ?_
        obtain ⟨r11, e12, f⟩ := ob f
        refine o_gR S lf12_layOrder_118 I e12 dX12_layOrder_81 ?_
        refine lv_iload S.1 S.2.1 dX12_layOrder_84 (lv_at hl 6 rfl) ?_
        refine lv_iconst (v := 1) S.1 S.2.1 dX12_layOrder_86 (by decide) ?_
        refine lv_isub S.1 S.2.1 dX12_layOrder_87 ?_
        obtain ⟨v14, e13, f⟩ := ob f
        refine o_iald S I e13 dX12_layOrder_88 ?_
        obtain ⟨h16, e15, f⟩ := ob f
        refine o_iast S I e15 dX12_layOrder_89 (fun H locs I => ?_)
        refine lv_iinc (v := (x6 + (-1))) (lv' := [(6, .int (x6 + (-1))), (0, .ref (b + a0)), (1, .int x1), (2, .int x2), (3, .int x3), (4, .int x4), (5, .int x5)]) S.1 S.2.1 dX12_layOrder_90 hl (k := 6) rfl (congrArg (fun z => x6 + z) (by decide)) (by decide) rfl (fun ls hl => ?_)
        refine lv_goto (tgt := 48) S.1 S.2.1 dX12_layOrder_93 (by decide) ?_
        exact ih f I (lv_sub hl [1, 2, 3, 4, 5, 6, 0] rfl)
set_option maxHeartbeats 4000000 in
set_option maxRecDepth 100000 in
theorem T12_layOrder_8 (S : CallFix p m c cX12_layOrder 7 s args vX12_layOrder RX12) (hr : meth.sig.returnType = none) (hlo : meth.locks = false) {out : PH} : ∀ (n : Nat) {h : PH} {a0 : Nat} {x1 : Int32} {x2 : Int32} {x3 : Int32} {x4 : Int32} (f : F12_layOrder_8  n h a0 x1 x2 x3 x4 = some out) {H : Heap} {locs : List Loc} (I : ph_I D cy b A fl h s H locs) {ls : Array Slot} (hl : lv_has ls 7 [(0, .ref (b + a0)), (1, .int x1), (2, .int x2), (3, .int x3), (4, .int x4)]), W p l e ({ frames := 8, cells := 0, slots := 0, locals := 192 } : Room) s m args below meth c H locs 0 0 (MQ below (va_Qv (fun (u : PH) => u = out) (ph_B D cy b A fl) A) args s 0 0 A) (F0 m 8 ls []) := by
  intro n
  induction n with
  | zero => intro h a0 x1 x2 x3 x4 f; rw [F12_layOrder_8] at f; cases f
  | succ n ih =>
    intro h a0 x1 x2 x3 x4 f H locs I ls hl
    rw [F12_layOrder_8] at f
    refine lv_iload S.1 S.2.1 dX12_layOrder_8 (lv_at hl 4 rfl) ?_
    refine lv_aload_n S.1 S.2.1 dX12_layOrder_10 rfl (lv_at hl 0 rfl) ?_
    obtain ⟨v1, e2, f⟩ := ob f
    refine o_gI S lf12_layOrder_247 I e2 dX12_layOrder_11 ?_
    refine lv_icmp_ge (tgt := 121) S.1 S.2.1 dX12_layOrder_14 (by decide) (fun q3 => ?_) (fun q3 => ?_)
    · have f := (if_pos q3).symm.trans f
      exact o_vret S hr hlo I f dX12_layOrder_121
    · have f := (if_neg q3).symm.trans f
      refine lv_aload_n S.1 S.2.1 dX12_layOrder_17 rfl (lv_at hl 0 rfl) ?_
      refine lv_iload_n S.1 S.2.1 dX12_layOrder_18 rfl (lv_at hl 1 rfl) ?_
      refine lv_iload S.1 S.2.1 dX12_layOrder_19 (lv_at hl 4 rfl) ?_
      refine lv_iload_n S.1 S.2.1 dX12_layOrder_21 rfl (lv_at hl 2 rfl) ?_
      obtain ⟨o4, e5, f⟩ := ob f
      refine o_Vi S (As := [.int x1, .int x4, .int x2]) (rest := []) (ci := 12) (M12_isGoing l D cy b A fl e5) gX12_layOrder_X12_isGoing rfl rfl rfl cd12_isGoing ⟨Nat.le_of_ble_eq_true rfl, Nat.le_of_ble_eq_true rfl⟩ I (gd e5).1 clX12 rfl rfl hl.1 rfl (Nat.le_of_ble_eq_true rfl) dX12_layOrder_22 ⟨Nat.le_of_ble_eq_true rfl, Nat.le_of_ble_eq_true rfl⟩ (fun H locs I => ?_)
      refine lv_if_ne (tgt := 31) S.1 S.2.1 dX12_layOrder_25 (by decide) (fun q6 => ?_) (fun q6 => ?_)
      · have f := (if_neg q6).symm.trans f
        refine lv_aload_n S.1 S.2.1 dX12_layOrder_31 rfl (lv_at hl 0 rfl) ?_
        refine lv_iload_n S.1 S.2.1 dX12_layOrder_32 rfl (lv_at hl 1 rfl) ?_
        refine lv_iload S.1 S.2.1 dX12_layOrder_33 (lv_at hl 4 rfl) ?_
        refine lv_iload_n S.1 S.2.1 dX12_layOrder_35 rfl (lv_at hl 2 rfl) ?_
        refine lv_iload_n S.1 S.2.1 dX12_layOrder_36 rfl (lv_at hl 3 rfl) ?_
        obtain ⟨o7, e8, f⟩ := ob f
        refine o_Vi S (As := [.int x1, .int x4, .int x2, .int x3]) (rest := []) (ci := 12) (M12_keyOf l D cy b A fl e8) gX12_layOrder_X12_keyOf rfl rfl rfl cd12_keyOf ⟨Nat.le_of_ble_eq_true rfl, Nat.le_of_ble_eq_true rfl⟩ I (gd e8).1 clX12 rfl rfl hl.1 rfl (Nat.le_of_ble_eq_true rfl) dX12_layOrder_37 ⟨Nat.le_of_ble_eq_true rfl, Nat.le_of_ble_eq_true rfl⟩ (fun H locs I => ?_)
        refine lv_istore (lv' := [(5, .int o7.1), (0, .ref (b + a0)), (1, .int x1), (2, .int x2), (3, .int x3), (4, .int x4)]) S.1 S.2.1 dX12_layOrder_40 hl (by decide) rfl (fun ls hl => ?_)
        refine lv_aload_n S.1 S.2.1 dX12_layOrder_42 rfl (lv_at hl 1 rfl) ?_
        obtain ⟨v9, e10, f⟩ := ob f
        refine o_gI S lf12_layOrder_433 I e10 dX12_layOrder_43 ?_
        refine lv_istore (lv' := [(6, .int v9), (5, .int o7.1), (0, .ref (b + a0)), (1, .int x1), (2, .int x2), (3, .int x3), (4, .int x4)]) S.1 S.2.1 dX12_layOrder_46 hl (by decide) rfl (fun ls hl => ?_)
        exact T12_layOrder_48 S hr hlo (fun f _ _ I _ hl => ih f I hl) 1024 f I (lv_sub hl [2, 3, 4, 5, 6, 1, 0] rfl)
      · have f := (if_pos q6).symm.trans f
        refine lv_goto (tgt := 115) S.1 S.2.1 dX12_layOrder_28 (by decide) ?_
        refine lv_iinc (v := (x4 + 1)) (lv' := [(4, .int (x4 + 1)), (0, .ref (b + a0)), (1, .int x1), (2, .int x2), (3, .int x3)]) S.1 S.2.1 dX12_layOrder_115 hl (k := 4) rfl (congrArg (fun z => x4 + z) (by decide)) (by decide) rfl (fun ls hl => ?_)
        refine lv_goto (tgt := 8) S.1 S.2.1 dX12_layOrder_118 (by decide) ?_
        exact ih f I (lv_sub hl [1, 2, 3, 4, 0] rfl)
set_option maxHeartbeats 4000000 in
set_option maxRecDepth 100000 in
theorem T12_layOrder_0 (S : CallFix p m c cX12_layOrder 7 s args vX12_layOrder RX12) (hr : meth.sig.returnType = none) (hlo : meth.locks = false) {out : PH} {h : PH} {a0 : Nat} {x1 : Int32} {x2 : Int32} {x3 : Int32} (f : F12_layOrder_0  h a0 x1 x2 x3 = some out) {H : Heap} {locs : List Loc} (I : ph_I D cy b A fl h s H locs) {ls : Array Slot} (hl : lv_has ls 7 [(0, .ref (b + a0)), (1, .int x1), (2, .int x2), (3, .int x3)]) : W p l e ({ frames := 8, cells := 0, slots := 0, locals := 192 } : Room) s m args below meth c H locs 0 0 (MQ below (va_Qv (fun (u : PH) => u = out) (ph_B D cy b A fl) A) args s 0 0 A) (F0 m 0 ls []) := by
  unfold F12_layOrder_0 at f
  refine lv_aload_n S.1 S.2.1 dX12_layOrder_0 rfl (lv_at hl 0 rfl) ?_
  refine lv_iconst (v := 0) S.1 S.2.1 dX12_layOrder_1 (by decide) ?_
  obtain ⟨h1, e2, f⟩ := ob f
  refine o_pI S lp12_layOrder_433 I e2 dX12_layOrder_2 (fun H locs I => ?_)
  refine lv_iconst (v := 0) S.1 S.2.1 dX12_layOrder_5 (by decide) ?_
  refine lv_istore (lv' := [(4, .int 0), (0, .ref (b + a0)), (1, .int x1), (2, .int x2), (3, .int x3)]) S.1 S.2.1 dX12_layOrder_6 hl (by decide) rfl (fun ls hl => ?_)
  exact T12_layOrder_8 S hr hlo  1024 f I (lv_sub hl [1, 2, 3, 4, 0] rfl)
theorem M12_layOrder (l : Launch) (D : va_G) (cy : Nat → ClassId) (b : Nat) (A : Nat → Prop) (fl : Bool) {h : PH} {a0 : Nat} {x1 : Int32} {x2 : Int32} {x3 : Int32} {out : PH} (f : F12_layOrder h a0 x1 x2 x3 = some out) : Met l yX12_layOrder vX12_layOrder ({ frames := 8, cells := 0, slots := 0, locals := 192 } : Room) (va_Pc [.ref (b + a0), .int x1, .int x2, .int x3] (ph_B D cy b A fl h)) (va_Qv (fun (u : PH) => u = out) (ph_B D cy b A fl) A) 0 0 A :=
  o_met (by decide) rfl (Nat.le_of_ble_eq_true rfl) rfl (fun p e s m below meth c S hr hlo hnm ls hl I => T12_layOrder_0 S hr hlo ((gd f).2) I (lv_sub hl [0, 1, 2, 3] rfl))
def vX12_number1 : List Cond := .code yX12_number1 cX12_number1 2 (some .int) :: TB
theorem lf12_number1_372 : Fl vX12_number1 RX12 372 12 65 := ⟨RX12, TX12, 87, rfl, by decide, (fun w h9 => List.mem_cons_of_mem _ (wC_wsX120 w h9)), (List.mem_cons_of_mem _ wT_13_0)⟩
theorem lp12_number1_372 : Pl vX12_number1 RX12 372 12 65 .long := ⟨RX12, TX12, 87, tyX12, rfl, by decide, (fun w h9 => List.mem_cons_of_mem _ (wC_wsX120 w h9)), (List.mem_cons_of_mem _ wT_13_0), tyX12_ok, nmX12, rfl, rfl⟩
theorem cd12_number1 : Cd yX12_number1 1 := ⟨by decide, by decide, by decide +kernel⟩
set_option maxHeartbeats 4000000 in
set_option maxRecDepth 100000 in
theorem T12_number1_0 (S : CallFix p m c cX12_number1 2 s args vX12_number1 RX12) (hr : meth.sig.returnType = (some .int)) (hlo : meth.locks = false) {out : Int32 × PH} {h : PH} {a0 : Nat} {x1 : Int32} (f : F12_number1_0  h a0 x1 = some out) {H : Heap} {locs : List Loc} (I : ph_I D cy b A fl h s H locs) {ls : Array Slot} (hl : lv_has ls 2 [(0, .ref (b + a0)), (1, .int x1)]) : W p l e ({ frames := 0, cells := 0, slots := 0, locals := 0 } : Room) s m args below meth c H locs 0 0 (MQ below (va_Qi (fun (r : Int32) (u : PH) => (r, u) = out) (ph_B D cy b A fl) A) args s 0 0 A) (F0 m 0 ls []) := by
  unfold F12_number1_0 at f
  refine lv_aload_n S.1 S.2.1 dX12_number1_0 rfl (lv_at hl 0 rfl) ?_
  refine lv_aload_n S.1 S.2.1 dX12_number1_1 rfl (lv_at hl 0 rfl) ?_
  obtain ⟨w1, e2, f⟩ := ob f
  refine o_gJ S lf12_number1_372 I e2 dX12_number1_2 ?_
  refine lv_ldc2 (v := 1103515245) S.1 S.2.1 S.2.2.2.1 (S.2.2.2.2 _ (List.mem_cons_of_mem _ wT_47_15)) dX12_number1_5 ?_
  refine lv_lmul S.1 S.2.1 dX12_number1_8 ?_
  refine lv_ldc2 (v := 12345) S.1 S.2.1 S.2.2.2.1 (S.2.2.2.2 _ (List.mem_cons_of_mem _ wT_47_16)) dX12_number1_9 ?_
  refine lv_ladd S.1 S.2.1 dX12_number1_12 ?_
  refine lv_ldc2 (v := 2147483647) S.1 S.2.1 S.2.2.2.1 (S.2.2.2.2 _ (List.mem_cons_of_mem _ wT_47_17)) dX12_number1_13 ?_
  refine lv_land S.1 S.2.1 dX12_number1_16 ?_
  obtain ⟨h3, e4, f⟩ := ob f
  refine o_pJ S lp12_number1_372 I e4 dX12_number1_17 (fun H locs I => ?_)
  refine lv_aload_n S.1 S.2.1 dX12_number1_20 rfl (lv_at hl 0 rfl) ?_
  obtain ⟨w5, e6, f⟩ := ob f
  refine o_gJ S lf12_number1_372 I e6 dX12_number1_21 ?_
  refine lv_ldc2 (v := 65536) S.1 S.2.1 S.2.2.2.1 (S.2.2.2.2 _ (List.mem_cons_of_mem _ wT_47_18)) dX12_number1_24 ?_
  refine lv_ldiv S.1 S.2.1 dX12_number1_27 (by decide) ?_
  refine lv_iload_n S.1 S.2.1 dX12_number1_28 rfl (lv_at hl 1 rfl) ?_
  refine lv_i2l (v := Int32.toInt64 x1) S.1 S.2.1 dX12_number1_29 rfl ?_
  have q7 : ¬ (Int32.toInt64 x1) = 0 := fun q => by rw [if_pos q] at f; cases f
  have f := (if_neg q7).symm.trans f
  refine lv_lrem S.1 S.2.1 dX12_number1_30 q7 ?_
  refine lv_l2i (v := Int64.toInt32 ((w5 / (65536 : Int64)) - (w5 / (65536 : Int64)) / (Int32.toInt64 x1) * (Int32.toInt64 x1))) S.1 S.2.1 dX12_number1_31 rfl ?_
  exact o_iret S hr hlo I f dX12_number1_32
theorem M12_number1 (l : Launch) (D : va_G) (cy : Nat → ClassId) (b : Nat) (A : Nat → Prop) (fl : Bool) {h : PH} {a0 : Nat} {x1 : Int32} {out : Int32 × PH} (f : F12_number1 h a0 x1 = some out) : Met l yX12_number1 vX12_number1 ({ frames := 0, cells := 0, slots := 0, locals := 0 } : Room) (va_Pc [.ref (b + a0), .int x1] (ph_B D cy b A fl h)) (va_Qi (fun (r : Int32) (u : PH) => (r, u) = out) (ph_B D cy b A fl) A) 0 0 A :=
  o_met (by decide) rfl (Nat.le_of_ble_eq_true rfl) rfl (fun p e s m below meth c S hr hlo hnm ls hl I => T12_number1_0 S hr hlo ((gd f).2) I (lv_sub hl [0, 1] rfl))
def vX12_awayOf : List Cond := .code yX12_awayOf cX12_awayOf 3 (some .int) :: TB
theorem gX12_awayOf_X12_boardOf : GoodIn vX12_awayOf (wsV RX12 406 RX12 yX12_boardOf vX12_boardOf) := gV_of wT_40_9 wT_40_10 wT_40_11 wT_1_5 wT_40_12
theorem lf12_awayOf_48 : Fl vX12_awayOf RX12 48 12 34 := ⟨RX12, TX12, 87, rfl, by decide, (fun w h9 => List.mem_cons_of_mem _ (wC_wsX120 w h9)), (List.mem_cons_of_mem _ wT_10_9)⟩
theorem gX12_awayOf_X12_layNames : GoodIn vX12_awayOf (wsV RX12 392 RX12 yX12_layNames vX12_layNames) := gV_of wT_35_2 wT_35_3 wT_35_4 wT_1_5 wT_35_5
theorem gX12_awayOf_X12_boundLaw : GoodIn vX12_awayOf (wsV RX12 396 RX12 yX12_boundLaw vX12_boundLaw) := gV_of wT_35_6 wT_35_7 wT_35_8 wT_1_5 wT_35_9
theorem cd12_awayOf : Cd yX12_awayOf 2 := ⟨by decide, by decide, by decide +kernel⟩
set_option maxHeartbeats 4000000 in
set_option maxRecDepth 100000 in
theorem T12_awayOf_0 (S : CallFix p m c cX12_awayOf 3 s args vX12_awayOf RX12) (hr : meth.sig.returnType = (some .int)) (hlo : meth.locks = false) {out : Int32 × PH} {h : PH} {a0 : Nat} {x1 : Int32} {x2 : Int32} (f : F12_awayOf_0  h a0 x1 x2 = some out) {H : Heap} {locs : List Loc} (I : ph_I D cy b A fl h s H locs) {ls : Array Slot} (hl : lv_has ls 3 [(0, .ref (b + a0)), (1, .int x1), (2, .int x2)]) : W p l e ({ frames := 4, cells := 0, slots := 0, locals := 98 } : Room) s m args below meth c H locs 0 0 (MQ below (va_Qi (fun (r : Int32) (u : PH) => (r, u) = out) (ph_B D cy b A fl) A) args s 0 0 A) (F0 m 0 ls []) := by
  unfold F12_awayOf_0 at f
  refine lv_aload_n S.1 S.2.1 dX12_awayOf_0 rfl (lv_at hl 0 rfl) ?_
  refine lv_iconst (v := 0) S.1 S.2.1 dX12_awayOf_1 (by decide) ?_
  refine lv_iconst (v := 0) S.1 S.2.1 dX12_awayOf_2 (by decide) ?_
  refine lv_aload_n S.1 S.2.1 dX12_awayOf_3 rfl (lv_at hl 0 rfl) ?_
  refine lv_iload_n S.1 S.2.1 dX12_awayOf_4 rfl (lv_at hl 1 rfl) ?_
  obtain ⟨o1, e2, f⟩ := ob f
  refine o_Vi S (As := [.int x1]) (rest := [.int 0, .int 0, .ref (b + a0)]) (ci := 12) (M12_boardOf l D cy b A fl e2) gX12_awayOf_X12_boardOf rfl rfl rfl cd12_boardOf ⟨Nat.le_of_ble_eq_true rfl, Nat.le_of_ble_eq_true rfl⟩ I (gd e2).1 clX12 rfl rfl hl.1 rfl (Nat.le_of_ble_eq_true rfl) dX12_awayOf_5 ⟨Nat.le_of_ble_eq_true rfl, Nat.le_of_ble_eq_true rfl⟩ (fun H locs I => ?_)
  refine lv_iload_n S.1 S.2.1 dX12_awayOf_8 rfl (lv_at hl 2 rfl) ?_
  refine lv_aload_n S.1 S.2.1 dX12_awayOf_9 rfl (lv_at hl 0 rfl) ?_
  obtain ⟨r3, e4, f⟩ := ob f
  refine o_gR S lf12_awayOf_48 I e4 dX12_awayOf_10 ?_
  refine lv_iload_n S.1 S.2.1 dX12_awayOf_13 rfl (lv_at hl 2 rfl) ?_
  obtain ⟨v6, e5, f⟩ := ob f
  refine o_iald S I e5 dX12_awayOf_14 ?_
  obtain ⟨o7, e8, f⟩ := ob f
  refine o_Vv S (As := [.int 0, .int 0, .int o1.1, .int x2, .int v6]) (rest := []) (ci := 12) (M12_layNames l D cy b A fl e8) gX12_awayOf_X12_layNames rfl rfl rfl cd12_layNames ⟨Nat.le_of_ble_eq_true rfl, Nat.le_of_ble_eq_true rfl⟩ I (gd e8).1 clX12 rfl rfl hl.1 rfl (Nat.le_of_ble_eq_true rfl) dX12_awayOf_15 ⟨Nat.le_of_ble_eq_true rfl, Nat.le_of_ble_eq_true rfl⟩ (fun H locs I => ?_)
  refine lv_aload_n S.1 S.2.1 dX12_awayOf_18 rfl (lv_at hl 0 rfl) ?_
  refine lv_iconst (v := 2) S.1 S.2.1 dX12_awayOf_19 (by decide) ?_
  refine lv_iconst (v := 5) S.1 S.2.1 dX12_awayOf_20 (by decide) ?_
  refine lv_iconst (v := 1) S.1 S.2.1 dX12_awayOf_21 (by decide) ?_
  refine lv_bipush (v := 30) S.1 S.2.1 dX12_awayOf_22 (by decide) ?_
  obtain ⟨o9, e10, f⟩ := ob f
  refine o_Vi S (As := [.int 2, .int 5, .int 1, .int 30]) (rest := []) (ci := 12) (M12_boundLaw l D cy b A fl e10) gX12_awayOf_X12_boundLaw rfl rfl rfl cd12_boundLaw ⟨Nat.le_of_ble_eq_true rfl, Nat.le_of_ble_eq_true rfl⟩ I (gd e10).1 clX12 rfl rfl hl.1 rfl (Nat.le_of_ble_eq_true rfl) dX12_awayOf_24 ⟨Nat.le_of_ble_eq_true rfl, Nat.le_of_ble_eq_true rfl⟩ (fun H locs I => ?_)
  exact o_iret S hr hlo I f dX12_awayOf_27
theorem M12_awayOf (l : Launch) (D : va_G) (cy : Nat → ClassId) (b : Nat) (A : Nat → Prop) (fl : Bool) {h : PH} {a0 : Nat} {x1 : Int32} {x2 : Int32} {out : Int32 × PH} (f : F12_awayOf h a0 x1 x2 = some out) : Met l yX12_awayOf vX12_awayOf ({ frames := 4, cells := 0, slots := 0, locals := 98 } : Room) (va_Pc [.ref (b + a0), .int x1, .int x2] (ph_B D cy b A fl h)) (va_Qi (fun (r : Int32) (u : PH) => (r, u) = out) (ph_B D cy b A fl) A) 0 0 A :=
  o_met (by decide) rfl (Nat.le_of_ble_eq_true rfl) rfl (fun p e s m below meth c S hr hlo hnm ls hl I => T12_awayOf_0 S hr hlo ((gd f).2) I (lv_sub hl [0, 1, 2] rfl))
def vX12_goesAway : List Cond := .code yX12_goesAway cX12_goesAway 5 none :: TB
theorem lf12_goesAway_97 : Fl vX12_goesAway RX12 97 12 58 := ⟨RX12, TX12, 87, rfl, by decide, (fun w h9 => List.mem_cons_of_mem _ (wC_wsX120 w h9)), (List.mem_cons_of_mem _ wT_11_1)⟩
theorem lf12_goesAway_106 : Fl vX12_goesAway RX12 106 12 61 := ⟨RX12, TX12, 87, rfl, by decide, (fun w h9 => List.mem_cons_of_mem _ (wC_wsX120 w h9)), (List.mem_cons_of_mem _ wT_11_4)⟩
theorem gX12_goesAway_X12_awayOf : GoodIn vX12_goesAway (wsV RX12 450 RX12 yX12_awayOf vX12_awayOf) := gV_of wT_47_23 wT_48_0 wT_48_1 wT_1_5 wT_48_2
theorem cd12_goesAway : Cd yX12_goesAway 4 := ⟨by decide, by decide, by decide +kernel⟩
set_option maxHeartbeats 4000000 in
set_option maxRecDepth 100000 in
theorem T12_goesAway_0 (S : CallFix p m c cX12_goesAway 5 s args vX12_goesAway RX12) (hr : meth.sig.returnType = none) (hlo : meth.locks = false) {out : PH} {h : PH} {a0 : Nat} {x1 : Int32} {x2 : Int32} {x3 : Int32} {x4 : Int32} (f : F12_goesAway_0  h a0 x1 x2 x3 x4 = some out) {H : Heap} {locs : List Loc} (I : ph_I D cy b A fl h s H locs) {ls : Array Slot} (hl : lv_has ls 5 [(0, .ref (b + a0)), (1, .int x1), (2, .int x2), (3, .int x3), (4, .int x4)]) : W p l e ({ frames := 5, cells := 0, slots := 0, locals := 120 } : Room) s m args below meth c H locs 0 0 (MQ below (va_Qv (fun (u : PH) => u = out) (ph_B D cy b A fl) A) args s 0 0 A) (F0 m 0 ls []) := by
  unfold F12_goesAway_0 at f
  refine lv_aload_n S.1 S.2.1 dX12_goesAway_0 rfl (lv_at hl 0 rfl) ?_
  obtain ⟨r1, e2, f⟩ := ob f
  refine o_gR S lf12_goesAway_97 I e2 dX12_goesAway_1 ?_
  refine lv_iconst (v := 5) S.1 S.2.1 dX12_goesAway_4 (by decide) ?_
  refine lv_iload_n S.1 S.2.1 dX12_goesAway_5 rfl (lv_at hl 1 rfl) ?_
  refine lv_imul S.1 S.2.1 dX12_goesAway_6 ?_
  refine lv_iload_n S.1 S.2.1 dX12_goesAway_7 rfl (lv_at hl 2 rfl) ?_
  refine lv_iadd S.1 S.2.1 dX12_goesAway_8 ?_
  refine lv_aload_n S.1 S.2.1 dX12_goesAway_9 rfl (lv_at hl 0 rfl) ?_
  obtain ⟨r3, e4, f⟩ := ob f
  refine o_gR S lf12_goesAway_106 I e4 dX12_goesAway_10 ?_
  refine lv_iload_n S.1 S.2.1 dX12_goesAway_13 rfl (lv_at hl 1 rfl) ?_
  obtain ⟨v6, e5, f⟩ := ob f
  refine o_iald S I e5 dX12_goesAway_14 ?_
  refine lv_iload S.1 S.2.1 dX12_goesAway_15 (lv_at hl 4 rfl) ?_
  refine lv_aload_n S.1 S.2.1 dX12_goesAway_17 rfl (lv_at hl 0 rfl) ?_
  refine lv_iload_n S.1 S.2.1 dX12_goesAway_18 rfl (lv_at hl 2 rfl) ?_
  refine lv_iload_n S.1 S.2.1 dX12_goesAway_19 rfl (lv_at hl 3 rfl) ?_
  obtain ⟨o7, e8, f⟩ := ob f
  refine o_Vi S (As := [.int x2, .int x3]) (rest := [.int x4, .int v6, .int ((5 * x1) + x2), .ref (b + r1)]) (ci := 12) (M12_awayOf l D cy b A fl e8) gX12_goesAway_X12_awayOf rfl rfl rfl cd12_awayOf ⟨Nat.le_of_ble_eq_true rfl, Nat.le_of_ble_eq_true rfl⟩ I (gd e8).1 clX12 rfl rfl hl.1 rfl (Nat.le_of_ble_eq_true rfl) dX12_goesAway_20 ⟨Nat.le_of_ble_eq_true rfl, Nat.le_of_ble_eq_true rfl⟩ (fun H locs I => ?_)
  refine lv_imul S.1 S.2.1 dX12_goesAway_23 ?_
  refine lv_iadd S.1 S.2.1 dX12_goesAway_24 ?_
  obtain ⟨h10, e9, f⟩ := ob f
  refine o_iast S I e9 dX12_goesAway_25 (fun H locs I => ?_)
  exact o_vret S hr hlo I f dX12_goesAway_26
theorem M12_goesAway (l : Launch) (D : va_G) (cy : Nat → ClassId) (b : Nat) (A : Nat → Prop) (fl : Bool) {h : PH} {a0 : Nat} {x1 : Int32} {x2 : Int32} {x3 : Int32} {x4 : Int32} {out : PH} (f : F12_goesAway h a0 x1 x2 x3 x4 = some out) : Met l yX12_goesAway vX12_goesAway ({ frames := 5, cells := 0, slots := 0, locals := 120 } : Room) (va_Pc [.ref (b + a0), .int x1, .int x2, .int x3, .int x4] (ph_B D cy b A fl h)) (va_Qv (fun (u : PH) => u = out) (ph_B D cy b A fl) A) 0 0 A :=
  o_met (by decide) rfl (Nat.le_of_ble_eq_true rfl) rfl (fun p e s m below meth c S hr hlo hnm ls hl I => T12_goesAway_0 S hr hlo ((gd f).2) I (lv_sub hl [0, 1, 2, 3, 4] rfl))
def vX12_comes : List Cond := .code yX12_comes cX12_comes 8 none :: TB
theorem gX12_comes_X12_number1 : GoodIn vX12_comes (wsV RX12 456 RX12 yX12_number1 vX12_number1) := gV_of wT_47_11 wT_47_12 wT_47_13 wT_1_5 wT_47_14
theorem lf12_comes_103 : Fl vX12_comes RX12 103 12 60 := ⟨RX12, TX12, 87, rfl, by decide, (fun w h9 => List.mem_cons_of_mem _ (wC_wsX120 w h9)), (List.mem_cons_of_mem _ wT_11_3)⟩
theorem lf12_comes_109 : Fl vX12_comes RX12 109 12 62 := ⟨RX12, TX12, 87, rfl, by decide, (fun w h9 => List.mem_cons_of_mem _ (wC_wsX120 w h9)), (List.mem_cons_of_mem _ wT_11_5)⟩
theorem lf12_comes_94 : Fl vX12_comes RX12 94 12 57 := ⟨RX12, TX12, 87, rfl, by decide, (fun w h9 => List.mem_cons_of_mem _ (wC_wsX120 w h9)), (List.mem_cons_of_mem _ wT_11_0)⟩
theorem lf12_comes_118 : Fl vX12_comes RX12 118 12 68 := ⟨RX12, TX12, 87, rfl, by decide, (fun w h9 => List.mem_cons_of_mem _ (wC_wsX120 w h9)), (List.mem_cons_of_mem _ wT_11_8)⟩
theorem gX12_comes_X12_goesAway : GoodIn vX12_comes (wsV RX12 459 RX12 yX12_goesAway vX12_goesAway) := gV_of wT_47_19 wT_47_20 wT_47_21 wT_1_5 wT_47_22
theorem lf12_comes_433 : Fl vX12_comes RX12 433 12 69 := ⟨RX12, TX12, 87, rfl, by decide, (fun w h9 => List.mem_cons_of_mem _ (wC_wsX120 w h9)), (List.mem_cons_of_mem _ wT_46_21)⟩
theorem lf12_comes_91 : Fl vX12_comes RX12 91 12 56 := ⟨RX12, TX12, 87, rfl, by decide, (fun w h9 => List.mem_cons_of_mem _ (wC_wsX120 w h9)), (List.mem_cons_of_mem _ wT_10_23)⟩
theorem lf12_comes_115 : Fl vX12_comes RX12 115 12 66 := ⟨RX12, TX12, 87, rfl, by decide, (fun w h9 => List.mem_cons_of_mem _ (wC_wsX120 w h9)), (List.mem_cons_of_mem _ wT_11_7)⟩
theorem lf12_comes_39 : Fl vX12_comes RX12 39 12 31 := ⟨RX12, TX12, 87, rfl, by decide, (fun w h9 => List.mem_cons_of_mem _ (wC_wsX120 w h9)), (List.mem_cons_of_mem _ wT_10_6)⟩
theorem lf12_comes_112 : Fl vX12_comes RX12 112 12 63 := ⟨RX12, TX12, 87, rfl, by decide, (fun w h9 => List.mem_cons_of_mem _ (wC_wsX120 w h9)), (List.mem_cons_of_mem _ wT_11_6)⟩
theorem lf12_comes_88 : Fl vX12_comes RX12 88 12 55 := ⟨RX12, TX12, 87, rfl, by decide, (fun w h9 => List.mem_cons_of_mem _ (wC_wsX120 w h9)), (List.mem_cons_of_mem _ wT_10_22)⟩
theorem gX12_comes_X12_oddsOf : GoodIn vX12_comes (wsV RX12 425 RX12 yX12_oddsOf vX12_oddsOf) := gV_of wT_40_1 wT_40_2 wT_40_3 wT_1_5 wT_40_4
theorem gX12_comes_X12_layOrder : GoodIn vX12_comes (wsV RX12 453 RX12 yX12_layOrder vX12_layOrder) := gV_of wT_46_22 wT_46_23 wT_47_0 wT_1_5 wT_47_1
theorem cd12_comes : Cd yX12_comes 3 := ⟨by decide, by decide, by decide +kernel⟩
set_option maxHeartbeats 4000000 in
set_option maxRecDepth 100000 in
theorem T12_comes_141 (S : CallFix p m c cX12_comes 8 s args vX12_comes RX12) (hr : meth.sig.returnType = none) (hlo : meth.locks = false) {out : PH} {k109 : PH → Nat → Int32 → Int32 → Int32 → Int32 → Option (PH)} (hk109 : ∀ {h : PH} {a0 : Nat} {x1 : Int32} {x2 : Int32} {x5 : Int32} {x6 : Int32}, k109 h a0 x1 x2 x5 x6 = some out → ∀ (H : Heap) (locs : List Loc), ph_I D cy b A fl h s H locs → ∀ (ls : Array Slot), lv_has ls 8 [(0, .ref (b + a0)), (1, .int x1), (2, .int x2), (5, .int x5), (6, .int x6)] → W p l e ({ frames := 9, cells := 0, slots := 0, locals := 218 } : Room) s m args below meth c H locs 0 0 (MQ below (va_Qv (fun (u : PH) => u = out) (ph_B D cy b A fl) A) args s 0 0 A) (F0 m 109 ls [])) {h : PH} {a0 : Nat} {x1 : Int32} {x2 : Int32} {x5 : Int32} {x6 : Int32} {s0 : Int32} (f : F12_comes_141 k109 h a0 x1 x2 x5 x6 s0 = some out) {H : Heap} {locs : List Loc} (I : ph_I D cy b A fl h s H locs) {ls : Array Slot} (hl : lv_has ls 8 [(0, .ref (b + a0)), (1, .int x1), (2, .int x2), (5, .int x5), (6, .int x6)]) : W p l e ({ frames := 9, cells := 0, slots := 0, locals := 218 } : Room) s m args below meth c H locs 0 0 (MQ below (va_Qv (fun (u : PH) => u = out) (ph_B D cy b A fl) A) args s 0 0 A) (F0 m 141 ls [.int s0]) := by
  unfold F12_comes_141 at f
  refine lv_istore (lv' := [(7, .int s0), (0, .ref (b + a0)), (1, .int x1), (2, .int x2), (5, .int x5), (6, .int x6)]) S.1 S.2.1 dX12_comes_141 hl (by decide) rfl (fun ls hl => ?_)
  refine lv_iload S.1 S.2.1 dX12_comes_143 (lv_at hl 0 rfl) ?_
  refine lv_if_eq (tgt := 244) S.1 S.2.1 dX12_comes_145 (by decide) (fun q1 => ?_) (fun q1 => ?_)
  · have f := (if_pos q1).symm.trans f
    refine lv_iinc (v := (x6 + 1)) (lv' := [(6, .int (x6 + 1)), (7, .int s0), (0, .ref (b + a0)), (1, .int x1), (2, .int x2), (5, .int x5)]) S.1 S.2.1 dX12_comes_244 hl (k := 5) rfl (congrArg (fun z => x6 + z) (by decide)) (by decide) rfl (fun ls hl => ?_)
    refine lv_goto (tgt := 109) S.1 S.2.1 dX12_comes_247 (by decide) ?_
    exact hk109 f _ _ I _ (lv_sub hl [2, 3, 4, 5, 0] rfl)
  · have f := (if_neg q1).symm.trans f
    refine lv_aload_n S.1 S.2.1 dX12_comes_148 rfl (lv_at hl 1 rfl) ?_
    refine lv_bipush (v := 100) S.1 S.2.1 dX12_comes_149 (by decide) ?_
    obtain ⟨o2, e3, f⟩ := ob f
    refine o_Vi S (As := [.int 100]) (rest := []) (ci := 12) (M12_number1 l D cy b A fl e3) gX12_comes_X12_number1 rfl rfl rfl cd12_number1 ⟨Nat.le_of_ble_eq_true rfl, Nat.le_of_ble_eq_true rfl⟩ I (gd e3).1 clX12 rfl rfl hl.1 rfl (Nat.le_of_ble_eq_true rfl) dX12_comes_151 ⟨Nat.le_of_ble_eq_true rfl, Nat.le_of_ble_eq_true rfl⟩ (fun H locs I => ?_)
    refine lv_iload S.1 S.2.1 dX12_comes_154 (lv_at hl 0 rfl) ?_
    refine lv_icmp_lt (tgt := 162) S.1 S.2.1 dX12_comes_156 (by decide) (fun q4 => ?_) (fun q4 => ?_)
    · have f := (if_pos q4).symm.trans f
      refine lv_aload_n S.1 S.2.1 dX12_comes_162 rfl (lv_at hl 1 rfl) ?_
      obtain ⟨r5, e6, f⟩ := ob f
      refine o_gR S lf12_comes_103 I e6 dX12_comes_163 ?_
      refine lv_bipush (v := 28) S.1 S.2.1 dX12_comes_166 (by decide) ?_
      refine lv_iload_n S.1 S.2.1 dX12_comes_168 rfl (lv_at hl 2 rfl) ?_
      refine lv_imul S.1 S.2.1 dX12_comes_169 ?_
      refine lv_iload_n S.1 S.2.1 dX12_comes_170 rfl (lv_at hl 3 rfl) ?_
      refine lv_iadd S.1 S.2.1 dX12_comes_171 ?_
      refine lv_bipush (v := (-3)) S.1 S.2.1 dX12_comes_172 (by decide) ?_
      obtain ⟨h8, e7, f⟩ := ob f
      refine o_iast S I e7 dX12_comes_174 (fun H locs I => ?_)
      refine lv_aload_n S.1 S.2.1 dX12_comes_175 rfl (lv_at hl 1 rfl) ?_
      obtain ⟨r9, e10, f⟩ := ob f
      refine o_gR S lf12_comes_109 I e10 dX12_comes_176 ?_
      refine lv_iload_n S.1 S.2.1 dX12_comes_179 rfl (lv_at hl 2 rfl) ?_
      refine lv_dup2_11 S.1 S.2.1 dX12_comes_180 rfl rfl ?_
      obtain ⟨v12, e11, f⟩ := ob f
      refine o_iald S I e11 dX12_comes_181 ?_
      refine lv_iconst (v := 1) S.1 S.2.1 dX12_comes_182 (by decide) ?_
      refine lv_iadd S.1 S.2.1 dX12_comes_183 ?_
      obtain ⟨h14, e13, f⟩ := ob f
      refine o_iast S I e13 dX12_comes_184 (fun H locs I => ?_)
      refine lv_aload_n S.1 S.2.1 dX12_comes_185 rfl (lv_at hl 1 rfl) ?_
      obtain ⟨r15, e16, f⟩ := ob f
      refine o_gR S lf12_comes_94 I e16 dX12_comes_186 ?_
      refine lv_iconst (v := 5) S.1 S.2.1 dX12_comes_189 (by decide) ?_
      refine lv_iload_n S.1 S.2.1 dX12_comes_190 rfl (lv_at hl 2 rfl) ?_
      refine lv_imul S.1 S.2.1 dX12_comes_191 ?_
      refine lv_iload S.1 S.2.1 dX12_comes_192 (lv_at hl 4 rfl) ?_
      refine lv_iadd S.1 S.2.1 dX12_comes_194 ?_
      refine lv_dup2_11 S.1 S.2.1 dX12_comes_195 rfl rfl ?_
      obtain ⟨v18, e17, f⟩ := ob f
      refine o_iald S I e17 dX12_comes_196 ?_
      refine lv_iconst (v := 1) S.1 S.2.1 dX12_comes_197 (by decide) ?_
      refine lv_iadd S.1 S.2.1 dX12_comes_198 ?_
      obtain ⟨h20, e19, f⟩ := ob f
      refine o_iast S I e19 dX12_comes_199 (fun H locs I => ?_)
      refine lv_aload_n S.1 S.2.1 dX12_comes_200 rfl (lv_at hl 1 rfl) ?_
      obtain ⟨r21, e22, f⟩ := ob f
      refine o_gR S lf12_comes_94 I e22 dX12_comes_201 ?_
      refine lv_iconst (v := 5) S.1 S.2.1 dX12_comes_204 (by decide) ?_
      refine lv_iload_n S.1 S.2.1 dX12_comes_205 rfl (lv_at hl 2 rfl) ?_
      refine lv_imul S.1 S.2.1 dX12_comes_206 ?_
      refine lv_aload_n S.1 S.2.1 dX12_comes_207 rfl (lv_at hl 1 rfl) ?_
      obtain ⟨r23, e24, f⟩ := ob f
      refine o_gR S lf12_comes_118 I e24 dX12_comes_208 ?_
      refine lv_iload S.1 S.2.1 dX12_comes_211 (lv_at hl 5 rfl) ?_
      obtain ⟨v26, e25, f⟩ := ob f
      refine o_iald S I e25 dX12_comes_213 ?_
      refine lv_iadd S.1 S.2.1 dX12_comes_214 ?_
      refine lv_dup2_11 S.1 S.2.1 dX12_comes_215 rfl rfl ?_
      obtain ⟨v28, e27, f⟩ := ob f
      refine o_iald S I e27 dX12_comes_216 ?_
      refine lv_iconst (v := 1) S.1 S.2.1 dX12_comes_217 (by decide) ?_
      refine lv_iadd S.1 S.2.1 dX12_comes_218 ?_
      obtain ⟨h30, e29, f⟩ := ob f
      refine o_iast S I e29 dX12_comes_219 (fun H locs I => ?_)
      refine lv_aload_n S.1 S.2.1 dX12_comes_220 rfl (lv_at hl 1 rfl) ?_
      refine lv_iload_n S.1 S.2.1 dX12_comes_221 rfl (lv_at hl 2 rfl) ?_
      refine lv_iload S.1 S.2.1 dX12_comes_222 (lv_at hl 4 rfl) ?_
      refine lv_iload_n S.1 S.2.1 dX12_comes_224 rfl (lv_at hl 3 rfl) ?_
      refine lv_iconst (v := 2) S.1 S.2.1 dX12_comes_225 (by decide) ?_
      obtain ⟨o31, e32, f⟩ := ob f
      refine o_Vv S (As := [.int x1, .int x5, .int x2, .int 2]) (rest := []) (ci := 12) (M12_goesAway l D cy b A fl e32) gX12_comes_X12_goesAway rfl rfl rfl cd12_goesAway ⟨Nat.le_of_ble_eq_true rfl, Nat.le_of_ble_eq_true rfl⟩ I (gd e32).1 clX12 rfl rfl hl.1 rfl (Nat.le_of_ble_eq_true rfl) dX12_comes_226 ⟨Nat.le_of_ble_eq_true rfl, Nat.le_of_ble_eq_true rfl⟩ (fun H locs I => ?_)
      refine lv_aload_n S.1 S.2.1 dX12_comes_229 rfl (lv_at hl 1 rfl) ?_
      refine lv_iload_n S.1 S.2.1 dX12_comes_230 rfl (lv_at hl 2 rfl) ?_
      refine lv_aload_n S.1 S.2.1 dX12_comes_231 rfl (lv_at hl 1 rfl) ?_
      obtain ⟨r33, e34, f⟩ := ob f
      refine o_gR S lf12_comes_118 I e34 dX12_comes_232 ?_
      refine lv_iload S.1 S.2.1 dX12_comes_235 (lv_at hl 5 rfl) ?_
      obtain ⟨v36, e35, f⟩ := ob f
      refine o_iald S I e35 dX12_comes_237 ?_
      refine lv_iload_n S.1 S.2.1 dX12_comes_238 rfl (lv_at hl 3 rfl) ?_
      refine lv_iconst (v := 2) S.1 S.2.1 dX12_comes_239 (by decide) ?_
      obtain ⟨o37, e38, f⟩ := ob f
      refine o_Vv S (As := [.int x1, .int v36, .int x2, .int 2]) (rest := []) (ci := 12) (M12_goesAway l D cy b A fl e38) gX12_comes_X12_goesAway rfl rfl rfl cd12_goesAway ⟨Nat.le_of_ble_eq_true rfl, Nat.le_of_ble_eq_true rfl⟩ I (gd e38).1 clX12 rfl rfl hl.1 rfl (Nat.le_of_ble_eq_true rfl) dX12_comes_240 ⟨Nat.le_of_ble_eq_true rfl, Nat.le_of_ble_eq_true rfl⟩ (fun H locs I => ?_)
      exact o_vret S hr hlo I f dX12_comes_243
    · have f := (if_neg q4).symm.trans f
      refine lv_goto (tgt := 244) S.1 S.2.1 dX12_comes_159 (by decide) ?_
      refine lv_iinc (v := (x6 + 1)) (lv' := [(6, .int (x6 + 1)), (7, .int s0), (0, .ref (b + a0)), (1, .int x1), (2, .int x2), (5, .int x5)]) S.1 S.2.1 dX12_comes_244 hl (k := 5) rfl (congrArg (fun z => x6 + z) (by decide)) (by decide) rfl (fun ls hl => ?_)
      refine lv_goto (tgt := 109) S.1 S.2.1 dX12_comes_247 (by decide) ?_
      exact hk109 f _ _ I _ (lv_sub hl [2, 3, 4, 5, 0] rfl)
set_option maxHeartbeats 4000000 in
set_option maxRecDepth 100000 in
theorem T12_comes_109 (S : CallFix p m c cX12_comes 8 s args vX12_comes RX12) (hr : meth.sig.returnType = none) (hlo : meth.locks = false) {out : PH} : ∀ (n : Nat) {h : PH} {a0 : Nat} {x1 : Int32} {x2 : Int32} {x5 : Int32} {x6 : Int32} (f : F12_comes_109  n h a0 x1 x2 x5 x6 = some out) {H : Heap} {locs : List Loc} (I : ph_I D cy b A fl h s H locs) {ls : Array Slot} (hl : lv_has ls 8 [(0, .ref (b + a0)), (1, .int x1), (2, .int x2), (5, .int x5), (6, .int x6)]), W p l e ({ frames := 9, cells := 0, slots := 0, locals := 218 } : Room) s m args below meth c H locs 0 0 (MQ below (va_Qv (fun (u : PH) => u = out) (ph_B D cy b A fl) A) args s 0 0 A) (F0 m 109 ls []) := by
  intro n
  induction n with
  | zero => intro h a0 x1 x2 x5 x6 f; rw [F12_comes_109] at f; cases f
  | succ n ih =>
    intro h a0 x1 x2 x5 x6 f H locs I ls hl
    rw [F12_comes_109] at f
    refine lv_iload S.1 S.2.1 dX12_comes_109 (lv_at hl 4 rfl) ?_
    refine lv_aload_n S.1 S.2.1 dX12_comes_111 rfl (lv_at hl 0 rfl) ?_
    obtain ⟨v1, e2, f⟩ := ob f
    refine o_gI S lf12_comes_433 I e2 dX12_comes_112 ?_
    refine lv_icmp_ge (tgt := 250) S.1 S.2.1 dX12_comes_115 (by decide) (fun q3 => ?_) (fun q3 => ?_)
    · have f := (if_pos q3).symm.trans f
      refine lv_aload_n S.1 S.2.1 dX12_comes_250 rfl (lv_at hl 0 rfl) ?_
      obtain ⟨r4, e5, f⟩ := ob f
      refine o_gR S lf12_comes_103 I e5 dX12_comes_251 ?_
      refine lv_bipush (v := 28) S.1 S.2.1 dX12_comes_254 (by decide) ?_
      refine lv_iload_n S.1 S.2.1 dX12_comes_256 rfl (lv_at hl 1 rfl) ?_
      refine lv_imul S.1 S.2.1 dX12_comes_257 ?_
      refine lv_iload_n S.1 S.2.1 dX12_comes_258 rfl (lv_at hl 2 rfl) ?_
      refine lv_iadd S.1 S.2.1 dX12_comes_259 ?_
      refine lv_iload S.1 S.2.1 dX12_comes_260 (lv_at hl 3 rfl) ?_
      obtain ⟨h7, e6, f⟩ := ob f
      refine o_iast S I e6 dX12_comes_262 (fun H locs I => ?_)
      refine lv_aload_n S.1 S.2.1 dX12_comes_263 rfl (lv_at hl 0 rfl) ?_
      obtain ⟨r8, e9, f⟩ := ob f
      refine o_gR S lf12_comes_91 I e9 dX12_comes_264 ?_
      refine lv_iconst (v := 5) S.1 S.2.1 dX12_comes_267 (by decide) ?_
      refine lv_iload_n S.1 S.2.1 dX12_comes_268 rfl (lv_at hl 1 rfl) ?_
      refine lv_imul S.1 S.2.1 dX12_comes_269 ?_
      refine lv_iload S.1 S.2.1 dX12_comes_270 (lv_at hl 3 rfl) ?_
      refine lv_iadd S.1 S.2.1 dX12_comes_272 ?_
      refine lv_dup2_11 S.1 S.2.1 dX12_comes_273 rfl rfl ?_
      obtain ⟨v11, e10, f⟩ := ob f
      refine o_iald S I e10 dX12_comes_274 ?_
      refine lv_iconst (v := 1) S.1 S.2.1 dX12_comes_275 (by decide) ?_
      refine lv_iadd S.1 S.2.1 dX12_comes_276 ?_
      obtain ⟨h13, e12, f⟩ := ob f
      refine o_iast S I e12 dX12_comes_277 (fun H locs I => ?_)
      refine lv_aload_n S.1 S.2.1 dX12_comes_278 rfl (lv_at hl 0 rfl) ?_
      refine lv_iload_n S.1 S.2.1 dX12_comes_279 rfl (lv_at hl 1 rfl) ?_
      refine lv_iload S.1 S.2.1 dX12_comes_280 (lv_at hl 3 rfl) ?_
      refine lv_iload_n S.1 S.2.1 dX12_comes_282 rfl (lv_at hl 2 rfl) ?_
      refine lv_iconst (v := 1) S.1 S.2.1 dX12_comes_283 (by decide) ?_
      obtain ⟨o14, e15, f⟩ := ob f
      refine o_Vv S (As := [.int x1, .int x5, .int x2, .int 1]) (rest := []) (ci := 12) (M12_goesAway l D cy b A fl e15) gX12_comes_X12_goesAway rfl rfl rfl cd12_goesAway ⟨Nat.le_of_ble_eq_true rfl, Nat.le_of_ble_eq_true rfl⟩ I (gd e15).1 clX12 rfl rfl hl.1 rfl (Nat.le_of_ble_eq_true rfl) dX12_comes_284 ⟨Nat.le_of_ble_eq_true rfl, Nat.le_of_ble_eq_true rfl⟩ (fun H locs I => ?_)
      exact o_vret S hr hlo I f dX12_comes_287
    · have f := (if_neg q3).symm.trans f
      refine lv_aload_n S.1 S.2.1 dX12_comes_118 rfl (lv_at hl 0 rfl) ?_
      obtain ⟨v16, e17, f⟩ := ob f
      refine o_gI S lf12_comes_115 I e17 dX12_comes_119 ?_
      refine lv_if_ne (tgt := 129) S.1 S.2.1 dX12_comes_122 (by decide) (fun q18 => ?_) (fun q18 => ?_)
      · have f := (if_neg q18).symm.trans f
        refine lv_aload_n S.1 S.2.1 dX12_comes_129 rfl (lv_at hl 0 rfl) ?_
        obtain ⟨r19, e20, f⟩ := ob f
        refine o_gR S lf12_comes_39 I e20 dX12_comes_130 ?_
        refine lv_aload_n S.1 S.2.1 dX12_comes_133 rfl (lv_at hl 0 rfl) ?_
        obtain ⟨r21, e22, f⟩ := ob f
        refine o_gR S lf12_comes_118 I e22 dX12_comes_134 ?_
        refine lv_iload S.1 S.2.1 dX12_comes_137 (lv_at hl 4 rfl) ?_
        obtain ⟨v24, e23, f⟩ := ob f
        refine o_iald S I e23 dX12_comes_139 ?_
        obtain ⟨v26, e25, f⟩ := ob f
        refine o_iald S I e25 dX12_comes_140 ?_
        exact T12_comes_141 S hr hlo (fun f _ _ I _ hl => ih f I hl) f I (lv_sub hl [0, 1, 2, 3, 4] rfl)
      · have f := (if_pos q18).symm.trans f
        refine lv_iconst (v := 0) S.1 S.2.1 dX12_comes_125 (by decide) ?_
        refine lv_goto (tgt := 141) S.1 S.2.1 dX12_comes_126 (by decide) ?_
        exact T12_comes_141 S hr hlo (fun f _ _ I _ hl => ih f I hl) f I (lv_sub hl [0, 1, 2, 3, 4] rfl)
set_option maxHeartbeats 4000000 in
set_option maxRecDepth 100000 in
theorem T12_comes_62 (S : CallFix p m c cX12_comes 8 s args vX12_comes RX12) (hr : meth.sig.returnType = none) (hlo : meth.locks = false) {out : PH} {h : PH} {a0 : Nat} {x1 : Int32} {x2 : Int32} {x4 : Int32} (f : F12_comes_62  h a0 x1 x2 x4 = some out) {H : Heap} {locs : List Loc} (I : ph_I D cy b A fl h s H locs) {ls : Array Slot} (hl : lv_has ls 8 [(0, .ref (b + a0)), (1, .int x1), (2, .int x2), (4, .int x4)]) : W p l e ({ frames := 9, cells := 0, slots := 0, locals := 218 } : Room) s m args below meth c H locs 0 0 (MQ below (va_Qv (fun (u : PH) => u = out) (ph_B D cy b A fl) A) args s 0 0 A) (F0 m 62 ls []) := by
  unfold F12_comes_62 at f
  refine lv_iload S.1 S.2.1 dX12_comes_62 (lv_at hl 3 rfl) ?_
  refine lv_aload_n S.1 S.2.1 dX12_comes_64 rfl (lv_at hl 0 rfl) ?_
  obtain ⟨v1, e2, f⟩ := ob f
  refine o_gI S lf12_comes_433 I e2 dX12_comes_65 ?_
  refine lv_icmp_ne (tgt := 94) S.1 S.2.1 dX12_comes_68 (by decide) (fun q3 => ?_) (fun q3 => ?_)
  · have f := (if_neg q3).symm.trans f
    refine lv_aload_n S.1 S.2.1 dX12_comes_94 rfl (lv_at hl 0 rfl) ?_
    obtain ⟨r4, e5, f⟩ := ob f
    refine o_gR S lf12_comes_118 I e5 dX12_comes_95 ?_
    refine lv_iload S.1 S.2.1 dX12_comes_98 (lv_at hl 3 rfl) ?_
    obtain ⟨v7, e6, f⟩ := ob f
    refine o_iald S I e6 dX12_comes_100 ?_
    refine lv_istore (lv' := [(5, .int v7), (0, .ref (b + a0)), (1, .int x1), (2, .int x2), (4, .int x4)]) S.1 S.2.1 dX12_comes_101 hl (by decide) rfl (fun ls hl => ?_)
    refine lv_iload S.1 S.2.1 dX12_comes_103 (lv_at hl 4 rfl) ?_
    refine lv_iconst (v := 1) S.1 S.2.1 dX12_comes_105 (by decide) ?_
    refine lv_iadd S.1 S.2.1 dX12_comes_106 ?_
    refine lv_istore (lv' := [(6, .int (x4 + 1)), (5, .int v7), (0, .ref (b + a0)), (1, .int x1), (2, .int x2), (4, .int x4)]) S.1 S.2.1 dX12_comes_107 hl (by decide) rfl (fun ls hl => ?_)
    exact T12_comes_109 S hr hlo  1024 f I (lv_sub hl [2, 3, 4, 1, 0] rfl)
  · have f := (if_pos q3).symm.trans f
    refine lv_aload_n S.1 S.2.1 dX12_comes_71 rfl (lv_at hl 0 rfl) ?_
    obtain ⟨r8, e9, f⟩ := ob f
    refine o_gR S lf12_comes_103 I e9 dX12_comes_72 ?_
    refine lv_bipush (v := 28) S.1 S.2.1 dX12_comes_75 (by decide) ?_
    refine lv_iload_n S.1 S.2.1 dX12_comes_77 rfl (lv_at hl 1 rfl) ?_
    refine lv_imul S.1 S.2.1 dX12_comes_78 ?_
    refine lv_iload_n S.1 S.2.1 dX12_comes_79 rfl (lv_at hl 2 rfl) ?_
    refine lv_iadd S.1 S.2.1 dX12_comes_80 ?_
    refine lv_iconst (v := (-1)) S.1 S.2.1 dX12_comes_81 (by decide) ?_
    obtain ⟨h11, e10, f⟩ := ob f
    refine o_iast S I e10 dX12_comes_82 (fun H locs I => ?_)
    refine lv_aload_n S.1 S.2.1 dX12_comes_83 rfl (lv_at hl 0 rfl) ?_
    obtain ⟨r12, e13, f⟩ := ob f
    refine o_gR S lf12_comes_112 I e13 dX12_comes_84 ?_
    refine lv_iload_n S.1 S.2.1 dX12_comes_87 rfl (lv_at hl 1 rfl) ?_
    refine lv_dup2_11 S.1 S.2.1 dX12_comes_88 rfl rfl ?_
    obtain ⟨v15, e14, f⟩ := ob f
    refine o_iald S I e14 dX12_comes_89 ?_
    refine lv_iconst (v := 1) S.1 S.2.1 dX12_comes_90 (by decide) ?_
    refine lv_iadd S.1 S.2.1 dX12_comes_91 ?_
    obtain ⟨h17, e16, f⟩ := ob f
    refine o_iast S I e16 dX12_comes_92 (fun H locs I => ?_)
    exact o_vret S hr hlo I f dX12_comes_93
set_option maxHeartbeats 4000000 in
set_option maxRecDepth 100000 in
theorem T12_comes_10 (S : CallFix p m c cX12_comes 8 s args vX12_comes RX12) (hr : meth.sig.returnType = none) (hlo : meth.locks = false) {out : PH} : ∀ (n : Nat) {h : PH} {a0 : Nat} {x1 : Int32} {x2 : Int32} {x4 : Int32} (f : F12_comes_10  n h a0 x1 x2 x4 = some out) {H : Heap} {locs : List Loc} (I : ph_I D cy b A fl h s H locs) {ls : Array Slot} (hl : lv_has ls 8 [(0, .ref (b + a0)), (1, .int x1), (2, .int x2), (4, .int x4)]), W p l e ({ frames := 9, cells := 0, slots := 0, locals := 218 } : Room) s m args below meth c H locs 0 0 (MQ below (va_Qv (fun (u : PH) => u = out) (ph_B D cy b A fl) A) args s 0 0 A) (F0 m 10 ls []) := by
  intro n
  induction n with
  | zero => intro h a0 x1 x2 x4 f; rw [F12_comes_10] at f; cases f
  | succ n ih =>
    intro h a0 x1 x2 x4 f H locs I ls hl
    rw [F12_comes_10] at f
    refine lv_iload S.1 S.2.1 dX12_comes_10 (lv_at hl 3 rfl) ?_
    refine lv_aload_n S.1 S.2.1 dX12_comes_12 rfl (lv_at hl 0 rfl) ?_
    obtain ⟨v1, e2, f⟩ := ob f
    refine o_gI S lf12_comes_433 I e2 dX12_comes_13 ?_
    refine lv_icmp_ge (tgt := 62) S.1 S.2.1 dX12_comes_16 (by decide) (fun q3 => ?_) (fun q3 => ?_)
    · have f := (if_pos q3).symm.trans f
      exact T12_comes_62 S hr hlo  f I (lv_sub hl [0, 1, 2, 3] rfl)
    · have f := (if_neg q3).symm.trans f
      refine lv_aload_n S.1 S.2.1 dX12_comes_19 rfl (lv_at hl 0 rfl) ?_
      refine lv_bipush (v := 100) S.1 S.2.1 dX12_comes_20 (by decide) ?_
      obtain ⟨o4, e5, f⟩ := ob f
      refine o_Vi S (As := [.int 100]) (rest := []) (ci := 12) (M12_number1 l D cy b A fl e5) gX12_comes_X12_number1 rfl rfl rfl cd12_number1 ⟨Nat.le_of_ble_eq_true rfl, Nat.le_of_ble_eq_true rfl⟩ I (gd e5).1 clX12 rfl rfl hl.1 rfl (Nat.le_of_ble_eq_true rfl) dX12_comes_22 ⟨Nat.le_of_ble_eq_true rfl, Nat.le_of_ble_eq_true rfl⟩ (fun H locs I => ?_)
      refine lv_aload_n S.1 S.2.1 dX12_comes_25 rfl (lv_at hl 0 rfl) ?_
      refine lv_aload_n S.1 S.2.1 dX12_comes_26 rfl (lv_at hl 0 rfl) ?_
      obtain ⟨r6, e7, f⟩ := ob f
      refine o_gR S lf12_comes_118 I e7 dX12_comes_27 ?_
      refine lv_iload S.1 S.2.1 dX12_comes_30 (lv_at hl 3 rfl) ?_
      obtain ⟨v9, e8, f⟩ := ob f
      refine o_iald S I e8 dX12_comes_32 ?_
      refine lv_iload_n S.1 S.2.1 dX12_comes_33 rfl (lv_at hl 2 rfl) ?_
      refine lv_aload_n S.1 S.2.1 dX12_comes_34 rfl (lv_at hl 0 rfl) ?_
      obtain ⟨r10, e11, f⟩ := ob f
      refine o_gR S lf12_comes_88 I e11 dX12_comes_35 ?_
      refine lv_iconst (v := 5) S.1 S.2.1 dX12_comes_38 (by decide) ?_
      refine lv_iload_n S.1 S.2.1 dX12_comes_39 rfl (lv_at hl 1 rfl) ?_
      refine lv_imul S.1 S.2.1 dX12_comes_40 ?_
      refine lv_aload_n S.1 S.2.1 dX12_comes_41 rfl (lv_at hl 0 rfl) ?_
      obtain ⟨r12, e13, f⟩ := ob f
      refine o_gR S lf12_comes_118 I e13 dX12_comes_42 ?_
      refine lv_iload S.1 S.2.1 dX12_comes_45 (lv_at hl 3 rfl) ?_
      obtain ⟨v15, e14, f⟩ := ob f
      refine o_iald S I e14 dX12_comes_47 ?_
      refine lv_iadd S.1 S.2.1 dX12_comes_48 ?_
      obtain ⟨v17, e16, f⟩ := ob f
      refine o_iald S I e16 dX12_comes_49 ?_
      obtain ⟨o18, e19, f⟩ := ob f
      refine o_Vi S (As := [.int v9, .int x2, .int v17]) (rest := [.int o4.1]) (ci := 12) (M12_oddsOf l D cy b A fl e19) gX12_comes_X12_oddsOf rfl rfl rfl cd12_oddsOf ⟨Nat.le_of_ble_eq_true rfl, Nat.le_of_ble_eq_true rfl⟩ I (gd e19).1 clX12 rfl rfl hl.1 rfl (Nat.le_of_ble_eq_true rfl) dX12_comes_50 ⟨Nat.le_of_ble_eq_true rfl, Nat.le_of_ble_eq_true rfl⟩ (fun H locs I => ?_)
      refine lv_icmp_lt (tgt := 62) S.1 S.2.1 dX12_comes_53 (by decide) (fun q20 => ?_) (fun q20 => ?_)
      · have f := (if_pos q20).symm.trans f
        exact T12_comes_62 S hr hlo  f I (lv_sub hl [0, 1, 2, 3] rfl)
      · have f := (if_neg q20).symm.trans f
        refine lv_iinc (v := (x4 + 1)) (lv' := [(4, .int (x4 + 1)), (0, .ref (b + a0)), (1, .int x1), (2, .int x2)]) S.1 S.2.1 dX12_comes_56 hl (k := 3) rfl (congrArg (fun z => x4 + z) (by decide)) (by decide) rfl (fun ls hl => ?_)
        refine lv_goto (tgt := 10) S.1 S.2.1 dX12_comes_59 (by decide) ?_
        exact ih f I (lv_sub hl [1, 2, 3, 0] rfl)
set_option maxHeartbeats 4000000 in
set_option maxRecDepth 100000 in
theorem T12_comes_0 (S : CallFix p m c cX12_comes 8 s args vX12_comes RX12) (hr : meth.sig.returnType = none) (hlo : meth.locks = false) {out : PH} {h : PH} {a0 : Nat} {x1 : Int32} {x2 : Int32} {x3 : Int32} (f : F12_comes_0  h a0 x1 x2 x3 = some out) {H : Heap} {locs : List Loc} (I : ph_I D cy b A fl h s H locs) {ls : Array Slot} (hl : lv_has ls 8 [(0, .ref (b + a0)), (1, .int x1), (2, .int x2), (3, .int x3)]) : W p l e ({ frames := 9, cells := 0, slots := 0, locals := 218 } : Room) s m args below meth c H locs 0 0 (MQ below (va_Qv (fun (u : PH) => u = out) (ph_B D cy b A fl) A) args s 0 0 A) (F0 m 0 ls []) := by
  unfold F12_comes_0 at f
  refine lv_aload_n S.1 S.2.1 dX12_comes_0 rfl (lv_at hl 0 rfl) ?_
  refine lv_iload_n S.1 S.2.1 dX12_comes_1 rfl (lv_at hl 1 rfl) ?_
  refine lv_iload_n S.1 S.2.1 dX12_comes_2 rfl (lv_at hl 2 rfl) ?_
  refine lv_iload_n S.1 S.2.1 dX12_comes_3 rfl (lv_at hl 3 rfl) ?_
  obtain ⟨o1, e2, f⟩ := ob f
  refine o_Vv S (As := [.int x1, .int x2, .int x3]) (rest := []) (ci := 12) (M12_layOrder l D cy b A fl e2) gX12_comes_X12_layOrder rfl rfl rfl cd12_layOrder ⟨Nat.le_of_ble_eq_true rfl, Nat.le_of_ble_eq_true rfl⟩ I (gd e2).1 clX12 rfl rfl hl.1 rfl (Nat.le_of_ble_eq_true rfl) dX12_comes_4 ⟨Nat.le_of_ble_eq_true rfl, Nat.le_of_ble_eq_true rfl⟩ (fun H locs I => ?_)
  refine lv_iconst (v := 0) S.1 S.2.1 dX12_comes_7 (by decide) ?_
  refine lv_istore (lv' := [(4, .int 0), (0, .ref (b + a0)), (1, .int x1), (2, .int x2), (3, .int x3)]) S.1 S.2.1 dX12_comes_8 hl (by decide) rfl (fun ls hl => ?_)
  exact T12_comes_10 S hr hlo  1024 f I (lv_sub hl [1, 2, 3, 0] rfl)
theorem M12_comes (l : Launch) (D : va_G) (cy : Nat → ClassId) (b : Nat) (A : Nat → Prop) (fl : Bool) {h : PH} {a0 : Nat} {x1 : Int32} {x2 : Int32} {x3 : Int32} {out : PH} (f : F12_comes h a0 x1 x2 x3 = some out) : Met l yX12_comes vX12_comes ({ frames := 9, cells := 0, slots := 0, locals := 218 } : Room) (va_Pc [.ref (b + a0), .int x1, .int x2, .int x3] (ph_B D cy b A fl h)) (va_Qv (fun (u : PH) => u = out) (ph_B D cy b A fl) A) 0 0 A :=
  o_met (by decide) rfl (Nat.le_of_ble_eq_true rfl) rfl (fun p e s m below meth c S hr hlo hnm ls hl I => T12_comes_0 S hr hlo ((gd f).2) I (lv_sub hl [0, 1, 2, 3] rfl))
def vX12_aMinute : List Cond := .code yX12_aMinute cX12_aMinute 4 none :: TB
theorem lf12_aMinute_247 : Fl vX12_aMinute RX12 247 12 14 := ⟨RX12, TX12, 87, rfl, by decide, (fun w h9 => List.mem_cons_of_mem _ (wC_wsX120 w h9)), (List.mem_cons_of_mem _ wT_12_12)⟩
theorem lf12_aMinute_97 : Fl vX12_aMinute RX12 97 12 58 := ⟨RX12, TX12, 87, rfl, by decide, (fun w h9 => List.mem_cons_of_mem _ (wC_wsX120 w h9)), (List.mem_cons_of_mem _ wT_11_1)⟩
theorem lf12_aMinute_106 : Fl vX12_aMinute RX12 106 12 61 := ⟨RX12, TX12, 87, rfl, by decide, (fun w h9 => List.mem_cons_of_mem _ (wC_wsX120 w h9)), (List.mem_cons_of_mem _ wT_11_4)⟩
theorem lf12_aMinute_253 : Fl vX12_aMinute RX12 253 12 16 := ⟨RX12, TX12, 87, rfl, by decide, (fun w h9 => List.mem_cons_of_mem _ (wC_wsX120 w h9)), (List.mem_cons_of_mem _ wT_12_14)⟩
theorem lf12_aMinute_48 : Fl vX12_aMinute RX12 48 12 34 := ⟨RX12, TX12, 87, rfl, by decide, (fun w h9 => List.mem_cons_of_mem _ (wC_wsX120 w h9)), (List.mem_cons_of_mem _ wT_10_9)⟩
theorem gX12_aMinute_X12_comes : GoodIn vX12_aMinute (wsV RX12 463 RX12 yX12_comes vX12_comes) := gV_of wT_46_17 wT_46_18 wT_46_19 wT_1_5 wT_46_20
theorem cd12_aMinute : Cd yX12_aMinute 2 := ⟨by decide, by decide, by decide +kernel⟩
set_option maxHeartbeats 4000000 in
set_option maxRecDepth 100000 in
theorem T12_aMinute_50 (S : CallFix p m c cX12_aMinute 4 s args vX12_aMinute RX12) (hr : meth.sig.returnType = none) (hlo : meth.locks = false) {out : PH} : ∀ (n : Nat) {h : PH} {a0 : Nat} {x1 : Int32} {x3 : Int32} (f : F12_aMinute_50  n h a0 x1 x3 = some out) {H : Heap} {locs : List Loc} (I : ph_I D cy b A fl h s H locs) {ls : Array Slot} (hl : lv_has ls 4 [(0, .ref (b + a0)), (1, .int x1), (3, .int x3)]), W p l e ({ frames := 10, cells := 0, slots := 0, locals := 245 } : Room) s m args below meth c H locs 0 0 (MQ below (va_Qv (fun (u : PH) => u = out) (ph_B D cy b A fl) A) args s 0 0 A) (F0 m 50 ls []) := by
  intro n
  induction n with
  | zero => intro h a0 x1 x3 f; rw [F12_aMinute_50] at f; cases f
  | succ n ih =>
    intro h a0 x1 x3 f H locs I ls hl
    rw [F12_aMinute_50] at f
    refine lv_iload_n S.1 S.2.1 dX12_aMinute_50 rfl (lv_at hl 2 rfl) ?_
    refine lv_aload_n S.1 S.2.1 dX12_aMinute_51 rfl (lv_at hl 0 rfl) ?_
    obtain ⟨v1, e2, f⟩ := ob f
    refine o_gI S lf12_aMinute_247 I e2 dX12_aMinute_52 ?_
    refine lv_icmp_ge (tgt := 94) S.1 S.2.1 dX12_aMinute_55 (by decide) (fun q3 => ?_) (fun q3 => ?_)
    · have f := (if_pos q3).symm.trans f
      exact o_vret S hr hlo I f dX12_aMinute_94
    · have f := (if_neg q3).symm.trans f
      refine lv_aload_n S.1 S.2.1 dX12_aMinute_58 rfl (lv_at hl 0 rfl) ?_
      obtain ⟨r4, e5, f⟩ := ob f
      refine o_gR S lf12_aMinute_97 I e5 dX12_aMinute_59 ?_
      refine lv_iconst (v := 5) S.1 S.2.1 dX12_aMinute_62 (by decide) ?_
      refine lv_iload_n S.1 S.2.1 dX12_aMinute_63 rfl (lv_at hl 1 rfl) ?_
      refine lv_imul S.1 S.2.1 dX12_aMinute_64 ?_
      refine lv_iload_n S.1 S.2.1 dX12_aMinute_65 rfl (lv_at hl 2 rfl) ?_
      refine lv_iadd S.1 S.2.1 dX12_aMinute_66 ?_
      obtain ⟨v7, e6, f⟩ := ob f
      refine o_iald S I e6 dX12_aMinute_67 ?_
      refine lv_aload_n S.1 S.2.1 dX12_aMinute_68 rfl (lv_at hl 0 rfl) ?_
      obtain ⟨r8, e9, f⟩ := ob f
      refine o_gR S lf12_aMinute_106 I e9 dX12_aMinute_69 ?_
      refine lv_iload_n S.1 S.2.1 dX12_aMinute_72 rfl (lv_at hl 1 rfl) ?_
      obtain ⟨v11, e10, f⟩ := ob f
      refine o_iald S I e10 dX12_aMinute_73 ?_
      refine lv_icmp_ne (tgt := 88) S.1 S.2.1 dX12_aMinute_74 (by decide) (fun q12 => ?_) (fun q12 => ?_)
      · have f := (if_neg q12).symm.trans f
        refine lv_iinc (v := (x3 + 1)) (lv' := [(3, .int (x3 + 1)), (0, .ref (b + a0)), (1, .int x1)]) S.1 S.2.1 dX12_aMinute_88 hl (k := 2) rfl (congrArg (fun z => x3 + z) (by decide)) (by decide) rfl (fun ls hl => ?_)
        refine lv_goto (tgt := 50) S.1 S.2.1 dX12_aMinute_91 (by decide) ?_
        exact ih f I (lv_sub hl [1, 2, 0] rfl)
      · have f := (if_pos q12).symm.trans f
        refine lv_aload_n S.1 S.2.1 dX12_aMinute_77 rfl (lv_at hl 0 rfl) ?_
        obtain ⟨r13, e14, f⟩ := ob f
        refine o_gR S lf12_aMinute_97 I e14 dX12_aMinute_78 ?_
        refine lv_iconst (v := 5) S.1 S.2.1 dX12_aMinute_81 (by decide) ?_
        refine lv_iload_n S.1 S.2.1 dX12_aMinute_82 rfl (lv_at hl 1 rfl) ?_
        refine lv_imul S.1 S.2.1 dX12_aMinute_83 ?_
        refine lv_iload_n S.1 S.2.1 dX12_aMinute_84 rfl (lv_at hl 2 rfl) ?_
        refine lv_iadd S.1 S.2.1 dX12_aMinute_85 ?_
        refine lv_iconst (v := 0) S.1 S.2.1 dX12_aMinute_86 (by decide) ?_
        obtain ⟨h16, e15, f⟩ := ob f
        refine o_iast S I e15 dX12_aMinute_87 (fun H locs I => ?_)
        refine lv_iinc (v := (x3 + 1)) (lv' := [(3, .int (x3 + 1)), (0, .ref (b + a0)), (1, .int x1)]) S.1 S.2.1 dX12_aMinute_88 hl (k := 2) rfl (congrArg (fun z => x3 + z) (by decide)) (by decide) rfl (fun ls hl => ?_)
        refine lv_goto (tgt := 50) S.1 S.2.1 dX12_aMinute_91 (by decide) ?_
        exact ih f I (lv_sub hl [1, 2, 0] rfl)
set_option maxHeartbeats 4000000 in
set_option maxRecDepth 100000 in
theorem T12_aMinute_2 (S : CallFix p m c cX12_aMinute 4 s args vX12_aMinute RX12) (hr : meth.sig.returnType = none) (hlo : meth.locks = false) {out : PH} : ∀ (n : Nat) {h : PH} {a0 : Nat} {x1 : Int32} {x2 : Int32} {x3 : Int32} (f : F12_aMinute_2  n h a0 x1 x2 x3 = some out) {H : Heap} {locs : List Loc} (I : ph_I D cy b A fl h s H locs) {ls : Array Slot} (hl : lv_has ls 4 [(0, .ref (b + a0)), (1, .int x1), (2, .int x2), (3, .int x3)]), W p l e ({ frames := 10, cells := 0, slots := 0, locals := 245 } : Room) s m args below meth c H locs 0 0 (MQ below (va_Qv (fun (u : PH) => u = out) (ph_B D cy b A fl) A) args s 0 0 A) (F0 m 2 ls []) := by
  intro n
  induction n with
  | zero => intro h a0 x1 x2 x3 f; rw [F12_aMinute_2] at f; cases f
  | succ n ih =>
    intro h a0 x1 x2 x3 f H locs I ls hl
    rw [F12_aMinute_2] at f
    refine lv_iload_n S.1 S.2.1 dX12_aMinute_2 rfl (lv_at hl 3 rfl) ?_
    refine lv_aload_n S.1 S.2.1 dX12_aMinute_3 rfl (lv_at hl 0 rfl) ?_
    obtain ⟨v1, e2, f⟩ := ob f
    refine o_gI S lf12_aMinute_253 I e2 dX12_aMinute_4 ?_
    refine lv_icmp_ge (tgt := 38) S.1 S.2.1 dX12_aMinute_7 (by decide) (fun q3 => ?_) (fun q3 => ?_)
    · have f := (if_pos q3).symm.trans f
      refine lv_aload_n S.1 S.2.1 dX12_aMinute_38 rfl (lv_at hl 0 rfl) ?_
      obtain ⟨r4, e5, f⟩ := ob f
      refine o_gR S lf12_aMinute_106 I e5 dX12_aMinute_39 ?_
      refine lv_iload_n S.1 S.2.1 dX12_aMinute_42 rfl (lv_at hl 1 rfl) ?_
      refine lv_dup2_11 S.1 S.2.1 dX12_aMinute_43 rfl rfl ?_
      obtain ⟨v7, e6, f⟩ := ob f
      refine o_iald S I e6 dX12_aMinute_44 ?_
      refine lv_iconst (v := 1) S.1 S.2.1 dX12_aMinute_45 (by decide) ?_
      refine lv_iadd S.1 S.2.1 dX12_aMinute_46 ?_
      obtain ⟨h9, e8, f⟩ := ob f
      refine o_iast S I e8 dX12_aMinute_47 (fun H locs I => ?_)
      refine lv_iconst (v := 0) S.1 S.2.1 dX12_aMinute_48 (by decide) ?_
      refine lv_istore_n (lv' := [(3, .int 0), (0, .ref (b + a0)), (1, .int x1), (2, .int x2)]) S.1 S.2.1 dX12_aMinute_49 rfl hl (by decide) rfl (fun ls hl => ?_)
      exact T12_aMinute_50 S hr hlo  1024 f I (lv_sub hl [1, 2, 0] rfl)
    · have f := (if_neg q3).symm.trans f
      refine lv_aload_n S.1 S.2.1 dX12_aMinute_10 rfl (lv_at hl 0 rfl) ?_
      obtain ⟨r10, e11, f⟩ := ob f
      refine o_gR S lf12_aMinute_48 I e11 dX12_aMinute_11 ?_
      refine lv_iload_n S.1 S.2.1 dX12_aMinute_14 rfl (lv_at hl 3 rfl) ?_
      obtain ⟨v13, e12, f⟩ := ob f
      refine o_iald S I e12 dX12_aMinute_15 ?_
      refine lv_aload_n S.1 S.2.1 dX12_aMinute_16 rfl (lv_at hl 0 rfl) ?_
      obtain ⟨r14, e15, f⟩ := ob f
      refine o_gR S lf12_aMinute_106 I e15 dX12_aMinute_17 ?_
      refine lv_iload_n S.1 S.2.1 dX12_aMinute_20 rfl (lv_at hl 1 rfl) ?_
      obtain ⟨v17, e16, f⟩ := ob f
      refine o_iald S I e16 dX12_aMinute_21 ?_
      refine lv_icmp_ne (tgt := 32) S.1 S.2.1 dX12_aMinute_22 (by decide) (fun q18 => ?_) (fun q18 => ?_)
      · have f := (if_neg q18).symm.trans f
        refine lv_iinc (v := (x3 + 1)) (lv' := [(3, .int (x3 + 1)), (0, .ref (b + a0)), (1, .int x1), (2, .int x2)]) S.1 S.2.1 dX12_aMinute_32 hl (k := 3) rfl (congrArg (fun z => x3 + z) (by decide)) (by decide) rfl (fun ls hl => ?_)
        refine lv_goto (tgt := 2) S.1 S.2.1 dX12_aMinute_35 (by decide) ?_
        exact ih f I (lv_sub hl [1, 2, 3, 0] rfl)
      · have f := (if_pos q18).symm.trans f
        refine lv_aload_n S.1 S.2.1 dX12_aMinute_25 rfl (lv_at hl 0 rfl) ?_
        refine lv_iload_n S.1 S.2.1 dX12_aMinute_26 rfl (lv_at hl 1 rfl) ?_
        refine lv_iload_n S.1 S.2.1 dX12_aMinute_27 rfl (lv_at hl 3 rfl) ?_
        refine lv_iload_n S.1 S.2.1 dX12_aMinute_28 rfl (lv_at hl 2 rfl) ?_
        obtain ⟨o19, e20, f⟩ := ob f
        refine o_Vv S (As := [.int x1, .int x3, .int x2]) (rest := []) (ci := 12) (M12_comes l D cy b A fl e20) gX12_aMinute_X12_comes rfl rfl rfl cd12_comes ⟨Nat.le_of_ble_eq_true rfl, Nat.le_of_ble_eq_true rfl⟩ I (gd e20).1 clX12 rfl rfl hl.1 rfl (Nat.le_of_ble_eq_true rfl) dX12_aMinute_29 ⟨Nat.le_of_ble_eq_true rfl, Nat.le_of_ble_eq_true rfl⟩ (fun H locs I => ?_)
        refine lv_iinc (v := (x3 + 1)) (lv' := [(3, .int (x3 + 1)), (0, .ref (b + a0)), (1, .int x1), (2, .int x2)]) S.1 S.2.1 dX12_aMinute_32 hl (k := 3) rfl (congrArg (fun z => x3 + z) (by decide)) (by decide) rfl (fun ls hl => ?_)
        refine lv_goto (tgt := 2) S.1 S.2.1 dX12_aMinute_35 (by decide) ?_
        exact ih f I (lv_sub hl [1, 2, 3, 0] rfl)
set_option maxHeartbeats 4000000 in
set_option maxRecDepth 100000 in
theorem T12_aMinute_0 (S : CallFix p m c cX12_aMinute 4 s args vX12_aMinute RX12) (hr : meth.sig.returnType = none) (hlo : meth.locks = false) {out : PH} {h : PH} {a0 : Nat} {x1 : Int32} {x2 : Int32} (f : F12_aMinute_0  h a0 x1 x2 = some out) {H : Heap} {locs : List Loc} (I : ph_I D cy b A fl h s H locs) {ls : Array Slot} (hl : lv_has ls 4 [(0, .ref (b + a0)), (1, .int x1), (2, .int x2)]) : W p l e ({ frames := 10, cells := 0, slots := 0, locals := 245 } : Room) s m args below meth c H locs 0 0 (MQ below (va_Qv (fun (u : PH) => u = out) (ph_B D cy b A fl) A) args s 0 0 A) (F0 m 0 ls []) := by
  unfold F12_aMinute_0 at f
  refine lv_iconst (v := 0) S.1 S.2.1 dX12_aMinute_0 (by decide) ?_
  refine lv_istore_n (lv' := [(3, .int 0), (0, .ref (b + a0)), (1, .int x1), (2, .int x2)]) S.1 S.2.1 dX12_aMinute_1 rfl hl (by decide) rfl (fun ls hl => ?_)
  exact T12_aMinute_2 S hr hlo  1024 f I (lv_sub hl [1, 2, 3, 0] rfl)
theorem M12_aMinute (l : Launch) (D : va_G) (cy : Nat → ClassId) (b : Nat) (A : Nat → Prop) (fl : Bool) {h : PH} {a0 : Nat} {x1 : Int32} {x2 : Int32} {out : PH} (f : F12_aMinute h a0 x1 x2 = some out) : Met l yX12_aMinute vX12_aMinute ({ frames := 10, cells := 0, slots := 0, locals := 245 } : Room) (va_Pc [.ref (b + a0), .int x1, .int x2] (ph_B D cy b A fl h)) (va_Qv (fun (u : PH) => u = out) (ph_B D cy b A fl) A) 0 0 A :=
  o_met (by decide) rfl (Nat.le_of_ble_eq_true rfl) rfl (fun p e s m below meth c S hr hlo hnm ls hl I => T12_aMinute_0 S hr hlo ((gd f).2) I (lv_sub hl [0, 1, 2] rfl))
def vX12_allHad : List Cond := .code yX12_allHad cX12_allHad 4 (some .int) :: TB
theorem lf12_allHad_247 : Fl vX12_allHad RX12 247 12 14 := ⟨RX12, TX12, 87, rfl, by decide, (fun w h9 => List.mem_cons_of_mem _ (wC_wsX120 w h9)), (List.mem_cons_of_mem _ wT_12_12)⟩
theorem lf12_allHad_91 : Fl vX12_allHad RX12 91 12 56 := ⟨RX12, TX12, 87, rfl, by decide, (fun w h9 => List.mem_cons_of_mem _ (wC_wsX120 w h9)), (List.mem_cons_of_mem _ wT_10_23)⟩
theorem cd12_allHad : Cd yX12_allHad 1 := ⟨by decide, by decide, by decide +kernel⟩
set_option maxHeartbeats 4000000 in
set_option maxRecDepth 100000 in
theorem T12_allHad_4 (S : CallFix p m c cX12_allHad 4 s args vX12_allHad RX12) (hr : meth.sig.returnType = (some .int)) (hlo : meth.locks = false) {out : Int32 × PH} : ∀ (n : Nat) {h : PH} {a0 : Nat} {x1 : Int32} {x2 : Int32} {x3 : Int32} (f : F12_allHad_4  n h a0 x1 x2 x3 = some out) {H : Heap} {locs : List Loc} (I : ph_I D cy b A fl h s H locs) {ls : Array Slot} (hl : lv_has ls 4 [(0, .ref (b + a0)), (1, .int x1), (2, .int x2), (3, .int x3)]), W p l e ({ frames := 0, cells := 0, slots := 0, locals := 0 } : Room) s m args below meth c H locs 0 0 (MQ below (va_Qi (fun (r : Int32) (u : PH) => (r, u) = out) (ph_B D cy b A fl) A) args s 0 0 A) (F0 m 4 ls []) := by
  intro n
  induction n with
  | zero => intro h a0 x1 x2 x3 f; rw [F12_allHad_4] at f; cases f
  | succ n ih =>
    intro h a0 x1 x2 x3 f H locs I ls hl
    rw [F12_allHad_4] at f
    refine lv_iload_n S.1 S.2.1 dX12_allHad_4 rfl (lv_at hl 3 rfl) ?_
    refine lv_aload_n S.1 S.2.1 dX12_allHad_5 rfl (lv_at hl 0 rfl) ?_
    obtain ⟨v1, e2, f⟩ := ob f
    refine o_gI S lf12_allHad_247 I e2 dX12_allHad_6 ?_
    refine lv_icmp_ge (tgt := 31) S.1 S.2.1 dX12_allHad_9 (by decide) (fun q3 => ?_) (fun q3 => ?_)
    · have f := (if_pos q3).symm.trans f
      refine lv_iload_n S.1 S.2.1 dX12_allHad_31 rfl (lv_at hl 2 rfl) ?_
      exact o_iret S hr hlo I f dX12_allHad_32
    · have f := (if_neg q3).symm.trans f
      refine lv_iload_n S.1 S.2.1 dX12_allHad_12 rfl (lv_at hl 2 rfl) ?_
      refine lv_aload_n S.1 S.2.1 dX12_allHad_13 rfl (lv_at hl 0 rfl) ?_
      obtain ⟨r4, e5, f⟩ := ob f
      refine o_gR S lf12_allHad_91 I e5 dX12_allHad_14 ?_
      refine lv_iconst (v := 5) S.1 S.2.1 dX12_allHad_17 (by decide) ?_
      refine lv_iload_n S.1 S.2.1 dX12_allHad_18 rfl (lv_at hl 1 rfl) ?_
      refine lv_imul S.1 S.2.1 dX12_allHad_19 ?_
      refine lv_iload_n S.1 S.2.1 dX12_allHad_20 rfl (lv_at hl 3 rfl) ?_
      refine lv_iadd S.1 S.2.1 dX12_allHad_21 ?_
      obtain ⟨v7, e6, f⟩ := ob f
      refine o_iald S I e6 dX12_allHad_22 ?_
      refine lv_iadd S.1 S.2.1 dX12_allHad_23 ?_
      refine lv_istore_n (lv' := [(2, .int (x2 + v7)), (0, .ref (b + a0)), (1, .int x1), (3, .int x3)]) S.1 S.2.1 dX12_allHad_24 rfl hl (by decide) rfl (fun ls hl => ?_)
      refine lv_iinc (v := (x3 + 1)) (lv' := [(3, .int (x3 + 1)), (2, .int (x2 + v7)), (0, .ref (b + a0)), (1, .int x1)]) S.1 S.2.1 dX12_allHad_25 hl (k := 3) rfl (congrArg (fun z => x3 + z) (by decide)) (by decide) rfl (fun ls hl => ?_)
      refine lv_goto (tgt := 4) S.1 S.2.1 dX12_allHad_28 (by decide) ?_
      exact ih f I (lv_sub hl [2, 3, 1, 0] rfl)
set_option maxHeartbeats 4000000 in
set_option maxRecDepth 100000 in
theorem T12_allHad_0 (S : CallFix p m c cX12_allHad 4 s args vX12_allHad RX12) (hr : meth.sig.returnType = (some .int)) (hlo : meth.locks = false) {out : Int32 × PH} {h : PH} {a0 : Nat} {x1 : Int32} (f : F12_allHad_0  h a0 x1 = some out) {H : Heap} {locs : List Loc} (I : ph_I D cy b A fl h s H locs) {ls : Array Slot} (hl : lv_has ls 4 [(0, .ref (b + a0)), (1, .int x1)]) : W p l e ({ frames := 0, cells := 0, slots := 0, locals := 0 } : Room) s m args below meth c H locs 0 0 (MQ below (va_Qi (fun (r : Int32) (u : PH) => (r, u) = out) (ph_B D cy b A fl) A) args s 0 0 A) (F0 m 0 ls []) := by
  unfold F12_allHad_0 at f
  refine lv_iconst (v := 0) S.1 S.2.1 dX12_allHad_0 (by decide) ?_
  refine lv_istore_n (lv' := [(2, .int 0), (0, .ref (b + a0)), (1, .int x1)]) S.1 S.2.1 dX12_allHad_1 rfl hl (by decide) rfl (fun ls hl => ?_)
  refine lv_iconst (v := 0) S.1 S.2.1 dX12_allHad_2 (by decide) ?_
  refine lv_istore_n (lv' := [(3, .int 0), (2, .int 0), (0, .ref (b + a0)), (1, .int x1)]) S.1 S.2.1 dX12_allHad_3 rfl hl (by decide) rfl (fun ls hl => ?_)
  exact T12_allHad_4 S hr hlo  1024 f I (lv_sub hl [2, 3, 1, 0] rfl)
theorem M12_allHad (l : Launch) (D : va_G) (cy : Nat → ClassId) (b : Nat) (A : Nat → Prop) (fl : Bool) {h : PH} {a0 : Nat} {x1 : Int32} {out : Int32 × PH} (f : F12_allHad h a0 x1 = some out) : Met l yX12_allHad vX12_allHad ({ frames := 0, cells := 0, slots := 0, locals := 0 } : Room) (va_Pc [.ref (b + a0), .int x1] (ph_B D cy b A fl h)) (va_Qi (fun (r : Int32) (u : PH) => (r, u) = out) (ph_B D cy b A fl) A) 0 0 A :=
  o_met (by decide) rfl (Nat.le_of_ble_eq_true rfl) rfl (fun p e s m below meth c S hr hlo hnm ls hl I => T12_allHad_0 S hr hlo ((gd f).2) I (lv_sub hl [0, 1] rfl))
def vX12_back : List Cond := .code yX12_back cX12_back 2 (some .int) :: TB
theorem lf12_back_106 : Fl vX12_back RX12 106 12 61 := ⟨RX12, TX12, 87, rfl, by decide, (fun w h9 => List.mem_cons_of_mem _ (wC_wsX120 w h9)), (List.mem_cons_of_mem _ wT_11_4)⟩
theorem lf12_back_533 : Fl vX12_back RX12 533 12 82 := ⟨RX12, TX12, 87, rfl, by decide, (fun w h9 => List.mem_cons_of_mem _ (wC_wsX120 w h9)), (List.mem_cons_of_mem _ wT_67_1)⟩
theorem lf12_back_536 : Fl vX12_back RX12 536 12 83 := ⟨RX12, TX12, 87, rfl, by decide, (fun w h9 => List.mem_cons_of_mem _ (wC_wsX120 w h9)), (List.mem_cons_of_mem _ wT_67_2)⟩
theorem lp12_back_369 : Pl vX12_back RX12 369 12 64 .int := ⟨RX12, TX12, 87, tyX12, rfl, by decide, (fun w h9 => List.mem_cons_of_mem _ (wC_wsX120 w h9)), (List.mem_cons_of_mem _ wT_12_23), tyX12_ok, nmX12, rfl, rfl⟩
theorem lf12_back_109 : Fl vX12_back RX12 109 12 62 := ⟨RX12, TX12, 87, rfl, by decide, (fun w h9 => List.mem_cons_of_mem _ (wC_wsX120 w h9)), (List.mem_cons_of_mem _ wT_11_5)⟩
theorem lf12_back_539 : Fl vX12_back RX12 539 12 84 := ⟨RX12, TX12, 87, rfl, by decide, (fun w h9 => List.mem_cons_of_mem _ (wC_wsX120 w h9)), (List.mem_cons_of_mem _ wT_67_3)⟩
theorem lf12_back_112 : Fl vX12_back RX12 112 12 63 := ⟨RX12, TX12, 87, rfl, by decide, (fun w h9 => List.mem_cons_of_mem _ (wC_wsX120 w h9)), (List.mem_cons_of_mem _ wT_11_6)⟩
theorem lf12_back_542 : Fl vX12_back RX12 542 12 85 := ⟨RX12, TX12, 87, rfl, by decide, (fun w h9 => List.mem_cons_of_mem _ (wC_wsX120 w h9)), (List.mem_cons_of_mem _ wT_67_4)⟩
theorem lf12_back_545 : Fl vX12_back RX12 545 12 86 := ⟨RX12, TX12, 87, rfl, by decide, (fun w h9 => List.mem_cons_of_mem _ (wC_wsX120 w h9)), (List.mem_cons_of_mem _ wT_67_5)⟩
theorem lp12_back_372 : Pl vX12_back RX12 372 12 65 .long := ⟨RX12, TX12, 87, tyX12, rfl, by decide, (fun w h9 => List.mem_cons_of_mem _ (wC_wsX120 w h9)), (List.mem_cons_of_mem _ wT_13_0), tyX12_ok, nmX12, rfl, rfl⟩
theorem lp12_back_379 : Pl vX12_back RX12 379 12 78 .int := ⟨RX12, TX12, 87, tyX12, rfl, by decide, (fun w h9 => List.mem_cons_of_mem _ (wC_wsX120 w h9)), (List.mem_cons_of_mem _ wT_13_2), tyX12_ok, nmX12, rfl, rfl⟩
theorem lf12_back_103 : Fl vX12_back RX12 103 12 60 := ⟨RX12, TX12, 87, rfl, by decide, (fun w h9 => List.mem_cons_of_mem _ (wC_wsX120 w h9)), (List.mem_cons_of_mem _ wT_11_3)⟩
theorem lf12_back_145 : Fl vX12_back RX12 145 12 81 := ⟨RX12, TX12, 87, rfl, by decide, (fun w h9 => List.mem_cons_of_mem _ (wC_wsX120 w h9)), (List.mem_cons_of_mem _ wT_11_17)⟩
theorem lf12_back_88 : Fl vX12_back RX12 88 12 55 := ⟨RX12, TX12, 87, rfl, by decide, (fun w h9 => List.mem_cons_of_mem _ (wC_wsX120 w h9)), (List.mem_cons_of_mem _ wT_10_22)⟩
theorem lf12_back_91 : Fl vX12_back RX12 91 12 56 := ⟨RX12, TX12, 87, rfl, by decide, (fun w h9 => List.mem_cons_of_mem _ (wC_wsX120 w h9)), (List.mem_cons_of_mem _ wT_10_23)⟩
theorem lf12_back_94 : Fl vX12_back RX12 94 12 57 := ⟨RX12, TX12, 87, rfl, by decide, (fun w h9 => List.mem_cons_of_mem _ (wC_wsX120 w h9)), (List.mem_cons_of_mem _ wT_11_0)⟩
theorem lf12_back_97 : Fl vX12_back RX12 97 12 58 := ⟨RX12, TX12, 87, rfl, by decide, (fun w h9 => List.mem_cons_of_mem _ (wC_wsX120 w h9)), (List.mem_cons_of_mem _ wT_11_1)⟩
theorem lf12_back_100 : Fl vX12_back RX12 100 12 59 := ⟨RX12, TX12, 87, rfl, by decide, (fun w h9 => List.mem_cons_of_mem _ (wC_wsX120 w h9)), (List.mem_cons_of_mem _ wT_11_2)⟩
theorem lp12_back_154 : Pl vX12_back RX12 154 12 2 .int := ⟨RX12, TX12, 87, tyX12, rfl, by decide, (fun w h9 => List.mem_cons_of_mem _ (wC_wsX120 w h9)), (List.mem_cons_of_mem _ wT_13_17), tyX12_ok, nmX12, rfl, rfl⟩
theorem lf12_back_382 : Fl vX12_back RX12 382 12 80 := ⟨RX12, TX12, 87, rfl, by decide, (fun w h9 => List.mem_cons_of_mem _ (wC_wsX120 w h9)), (List.mem_cons_of_mem _ wT_13_3)⟩
set_option maxHeartbeats 4000000 in
set_option maxRecDepth 100000 in
theorem T12_back_100 (S : CallFix p m c cX12_back 2 s args vX12_back RX12) (hr : meth.sig.returnType = (some .int)) (hlo : meth.locks = false) {out : Int32 × PH} : ∀ (n : Nat) {h : PH} {a0 : Nat} {x1 : Int32} (f : F12_back_100  n h a0 x1 = some out) {H : Heap} {locs : List Loc} (I : ph_I D cy b A fl h s H locs) {ls : Array Slot} (hl : lv_has ls 2 [(0, .ref (b + a0)), (1, .int x1)]), W p l e ({ frames := 0, cells := 0, slots := 0, locals := 0 } : Room) s m args below meth c H locs 0 0 (MQ below (va_Qi (fun (r : Int32) (u : PH) => (r, u) = out) (ph_B D cy b A fl) A) args s 0 0 A) (F0 m 100 ls []) := by
  intro n
  induction n with
  | zero => intro h a0 x1 f; rw [F12_back_100] at f; cases f
  | succ n ih =>
    intro h a0 x1 f H locs I ls hl
    rw [F12_back_100] at f
    refine lv_iload_n S.1 S.2.1 dX12_back_100 rfl (lv_at hl 1 rfl) ?_
    refine lv_bipush (v := 28) S.1 S.2.1 dX12_back_101 (by decide) ?_
    refine lv_icmp_ge (tgt := 127) S.1 S.2.1 dX12_back_103 (by decide) (fun q1 => ?_) (fun q1 => ?_)
    · have f := (if_pos q1).symm.trans f
      refine lv_aload_n S.1 S.2.1 dX12_back_127 rfl (lv_at hl 0 rfl) ?_
      obtain ⟨r2, e3, f⟩ := ob f
      refine o_gR S lf12_back_106 I e3 dX12_back_128 ?_
      refine lv_iconst (v := 0) S.1 S.2.1 dX12_back_131 (by decide) ?_
      refine lv_aload_n S.1 S.2.1 dX12_back_132 rfl (lv_at hl 0 rfl) ?_
      obtain ⟨v4, e5, f⟩ := ob f
      refine o_gI S lf12_back_533 I e5 dX12_back_133 ?_
      obtain ⟨h7, e6, f⟩ := ob f
      refine o_iast S I e6 dX12_back_136 (fun H locs I => ?_)
      refine lv_aload_n S.1 S.2.1 dX12_back_137 rfl (lv_at hl 0 rfl) ?_
      refine lv_aload_n S.1 S.2.1 dX12_back_138 rfl (lv_at hl 0 rfl) ?_
      obtain ⟨v8, e9, f⟩ := ob f
      refine o_gI S lf12_back_536 I e9 dX12_back_139 ?_
      obtain ⟨h10, e11, f⟩ := ob f
      refine o_pI S lp12_back_369 I e11 dX12_back_142 (fun H locs I => ?_)
      refine lv_aload_n S.1 S.2.1 dX12_back_145 rfl (lv_at hl 0 rfl) ?_
      obtain ⟨r12, e13, f⟩ := ob f
      refine o_gR S lf12_back_109 I e13 dX12_back_146 ?_
      refine lv_iconst (v := 0) S.1 S.2.1 dX12_back_149 (by decide) ?_
      refine lv_aload_n S.1 S.2.1 dX12_back_150 rfl (lv_at hl 0 rfl) ?_
      obtain ⟨v14, e15, f⟩ := ob f
      refine o_gI S lf12_back_539 I e15 dX12_back_151 ?_
      obtain ⟨h17, e16, f⟩ := ob f
      refine o_iast S I e16 dX12_back_154 (fun H locs I => ?_)
      refine lv_aload_n S.1 S.2.1 dX12_back_155 rfl (lv_at hl 0 rfl) ?_
      obtain ⟨r18, e19, f⟩ := ob f
      refine o_gR S lf12_back_112 I e19 dX12_back_156 ?_
      refine lv_iconst (v := 0) S.1 S.2.1 dX12_back_159 (by decide) ?_
      refine lv_aload_n S.1 S.2.1 dX12_back_160 rfl (lv_at hl 0 rfl) ?_
      obtain ⟨v20, e21, f⟩ := ob f
      refine o_gI S lf12_back_542 I e21 dX12_back_161 ?_
      obtain ⟨h23, e22, f⟩ := ob f
      refine o_iast S I e22 dX12_back_164 (fun H locs I => ?_)
      refine lv_aload_n S.1 S.2.1 dX12_back_165 rfl (lv_at hl 0 rfl) ?_
      refine lv_aload_n S.1 S.2.1 dX12_back_166 rfl (lv_at hl 0 rfl) ?_
      obtain ⟨w24, e25, f⟩ := ob f
      refine o_gJ S lf12_back_545 I e25 dX12_back_167 ?_
      obtain ⟨h26, e27, f⟩ := ob f
      refine o_pJ S lp12_back_372 I e27 dX12_back_170 (fun H locs I => ?_)
      refine lv_aload_n S.1 S.2.1 dX12_back_173 rfl (lv_at hl 0 rfl) ?_
      refine lv_iconst (v := 0) S.1 S.2.1 dX12_back_174 (by decide) ?_
      obtain ⟨h28, e29, f⟩ := ob f
      refine o_pI S lp12_back_379 I e29 dX12_back_175 (fun H locs I => ?_)
      refine lv_aload_n S.1 S.2.1 dX12_back_178 rfl (lv_at hl 0 rfl) ?_
      obtain ⟨r30, e31, f⟩ := ob f
      refine o_gR S lf12_back_106 I e31 dX12_back_179 ?_
      refine lv_iconst (v := 0) S.1 S.2.1 dX12_back_182 (by decide) ?_
      obtain ⟨v33, e32, f⟩ := ob f
      refine o_iald S I e32 dX12_back_183 ?_
      exact o_iret S hr hlo I f dX12_back_184
    · have f := (if_neg q1).symm.trans f
      refine lv_aload_n S.1 S.2.1 dX12_back_106 rfl (lv_at hl 0 rfl) ?_
      obtain ⟨r34, e35, f⟩ := ob f
      refine o_gR S lf12_back_103 I e35 dX12_back_107 ?_
      refine lv_iload_n S.1 S.2.1 dX12_back_110 rfl (lv_at hl 1 rfl) ?_
      refine lv_aload_n S.1 S.2.1 dX12_back_111 rfl (lv_at hl 0 rfl) ?_
      obtain ⟨r36, e37, f⟩ := ob f
      refine o_gR S lf12_back_145 I e37 dX12_back_112 ?_
      refine lv_bipush (v := 25) S.1 S.2.1 dX12_back_115 (by decide) ?_
      refine lv_iload_n S.1 S.2.1 dX12_back_117 rfl (lv_at hl 1 rfl) ?_
      refine lv_iadd S.1 S.2.1 dX12_back_118 ?_
      obtain ⟨v39, e38, f⟩ := ob f
      refine o_iald S I e38 dX12_back_119 ?_
      obtain ⟨h41, e40, f⟩ := ob f
      refine o_iast S I e40 dX12_back_120 (fun H locs I => ?_)
      refine lv_iinc (v := (x1 + 1)) (lv' := [(1, .int (x1 + 1)), (0, .ref (b + a0))]) S.1 S.2.1 dX12_back_121 hl (k := 1) rfl (congrArg (fun z => x1 + z) (by decide)) (by decide) rfl (fun ls hl => ?_)
      refine lv_goto (tgt := 100) S.1 S.2.1 dX12_back_124 (by decide) ?_
      exact ih f I (lv_sub hl [1, 0] rfl)
set_option maxHeartbeats 4000000 in
set_option maxRecDepth 100000 in
theorem T12_back_16 (S : CallFix p m c cX12_back 2 s args vX12_back RX12) (hr : meth.sig.returnType = (some .int)) (hlo : meth.locks = false) {out : Int32 × PH} : ∀ (n : Nat) {h : PH} {a0 : Nat} {x1 : Int32} (f : F12_back_16  n h a0 x1 = some out) {H : Heap} {locs : List Loc} (I : ph_I D cy b A fl h s H locs) {ls : Array Slot} (hl : lv_has ls 2 [(0, .ref (b + a0)), (1, .int x1)]), W p l e ({ frames := 0, cells := 0, slots := 0, locals := 0 } : Room) s m args below meth c H locs 0 0 (MQ below (va_Qi (fun (r : Int32) (u : PH) => (r, u) = out) (ph_B D cy b A fl) A) args s 0 0 A) (F0 m 16 ls []) := by
  intro n
  induction n with
  | zero => intro h a0 x1 f; rw [F12_back_16] at f; cases f
  | succ n ih =>
    intro h a0 x1 f H locs I ls hl
    rw [F12_back_16] at f
    refine lv_iload_n S.1 S.2.1 dX12_back_16 rfl (lv_at hl 1 rfl) ?_
    refine lv_iconst (v := 5) S.1 S.2.1 dX12_back_17 (by decide) ?_
    refine lv_icmp_ge (tgt := 98) S.1 S.2.1 dX12_back_18 (by decide) (fun q1 => ?_) (fun q1 => ?_)
    · have f := (if_pos q1).symm.trans f
      refine lv_iconst (v := 0) S.1 S.2.1 dX12_back_98 (by decide) ?_
      refine lv_istore_n (lv' := [(1, .int 0), (0, .ref (b + a0))]) S.1 S.2.1 dX12_back_99 rfl hl (by decide) rfl (fun ls hl => ?_)
      exact T12_back_100 S hr hlo  1024 f I (lv_sub hl [1, 0] rfl)
    · have f := (if_neg q1).symm.trans f
      refine lv_aload_n S.1 S.2.1 dX12_back_21 rfl (lv_at hl 0 rfl) ?_
      obtain ⟨r2, e3, f⟩ := ob f
      refine o_gR S lf12_back_88 I e3 dX12_back_22 ?_
      refine lv_iload_n S.1 S.2.1 dX12_back_25 rfl (lv_at hl 1 rfl) ?_
      refine lv_aload_n S.1 S.2.1 dX12_back_26 rfl (lv_at hl 0 rfl) ?_
      obtain ⟨r4, e5, f⟩ := ob f
      refine o_gR S lf12_back_145 I e5 dX12_back_27 ?_
      refine lv_iload_n S.1 S.2.1 dX12_back_30 rfl (lv_at hl 1 rfl) ?_
      obtain ⟨v7, e6, f⟩ := ob f
      refine o_iald S I e6 dX12_back_31 ?_
      obtain ⟨h9, e8, f⟩ := ob f
      refine o_iast S I e8 dX12_back_32 (fun H locs I => ?_)
      refine lv_aload_n S.1 S.2.1 dX12_back_33 rfl (lv_at hl 0 rfl) ?_
      obtain ⟨r10, e11, f⟩ := ob f
      refine o_gR S lf12_back_91 I e11 dX12_back_34 ?_
      refine lv_iload_n S.1 S.2.1 dX12_back_37 rfl (lv_at hl 1 rfl) ?_
      refine lv_aload_n S.1 S.2.1 dX12_back_38 rfl (lv_at hl 0 rfl) ?_
      obtain ⟨r12, e13, f⟩ := ob f
      refine o_gR S lf12_back_145 I e13 dX12_back_39 ?_
      refine lv_iconst (v := 5) S.1 S.2.1 dX12_back_42 (by decide) ?_
      refine lv_iload_n S.1 S.2.1 dX12_back_43 rfl (lv_at hl 1 rfl) ?_
      refine lv_iadd S.1 S.2.1 dX12_back_44 ?_
      obtain ⟨v15, e14, f⟩ := ob f
      refine o_iald S I e14 dX12_back_45 ?_
      obtain ⟨h17, e16, f⟩ := ob f
      refine o_iast S I e16 dX12_back_46 (fun H locs I => ?_)
      refine lv_aload_n S.1 S.2.1 dX12_back_47 rfl (lv_at hl 0 rfl) ?_
      obtain ⟨r18, e19, f⟩ := ob f
      refine o_gR S lf12_back_94 I e19 dX12_back_48 ?_
      refine lv_iload_n S.1 S.2.1 dX12_back_51 rfl (lv_at hl 1 rfl) ?_
      refine lv_aload_n S.1 S.2.1 dX12_back_52 rfl (lv_at hl 0 rfl) ?_
      obtain ⟨r20, e21, f⟩ := ob f
      refine o_gR S lf12_back_145 I e21 dX12_back_53 ?_
      refine lv_bipush (v := 10) S.1 S.2.1 dX12_back_56 (by decide) ?_
      refine lv_iload_n S.1 S.2.1 dX12_back_58 rfl (lv_at hl 1 rfl) ?_
      refine lv_iadd S.1 S.2.1 dX12_back_59 ?_
      obtain ⟨v23, e22, f⟩ := ob f
      refine o_iald S I e22 dX12_back_60 ?_
      obtain ⟨h25, e24, f⟩ := ob f
      refine o_iast S I e24 dX12_back_61 (fun H locs I => ?_)
      refine lv_aload_n S.1 S.2.1 dX12_back_62 rfl (lv_at hl 0 rfl) ?_
      obtain ⟨r26, e27, f⟩ := ob f
      refine o_gR S lf12_back_97 I e27 dX12_back_63 ?_
      refine lv_iload_n S.1 S.2.1 dX12_back_66 rfl (lv_at hl 1 rfl) ?_
      refine lv_aload_n S.1 S.2.1 dX12_back_67 rfl (lv_at hl 0 rfl) ?_
      obtain ⟨r28, e29, f⟩ := ob f
      refine o_gR S lf12_back_145 I e29 dX12_back_68 ?_
      refine lv_bipush (v := 15) S.1 S.2.1 dX12_back_71 (by decide) ?_
      refine lv_iload_n S.1 S.2.1 dX12_back_73 rfl (lv_at hl 1 rfl) ?_
      refine lv_iadd S.1 S.2.1 dX12_back_74 ?_
      obtain ⟨v31, e30, f⟩ := ob f
      refine o_iald S I e30 dX12_back_75 ?_
      obtain ⟨h33, e32, f⟩ := ob f
      refine o_iast S I e32 dX12_back_76 (fun H locs I => ?_)
      refine lv_aload_n S.1 S.2.1 dX12_back_77 rfl (lv_at hl 0 rfl) ?_
      obtain ⟨r34, e35, f⟩ := ob f
      refine o_gR S lf12_back_100 I e35 dX12_back_78 ?_
      refine lv_iload_n S.1 S.2.1 dX12_back_81 rfl (lv_at hl 1 rfl) ?_
      refine lv_aload_n S.1 S.2.1 dX12_back_82 rfl (lv_at hl 0 rfl) ?_
      obtain ⟨r36, e37, f⟩ := ob f
      refine o_gR S lf12_back_145 I e37 dX12_back_83 ?_
      refine lv_bipush (v := 20) S.1 S.2.1 dX12_back_86 (by decide) ?_
      refine lv_iload_n S.1 S.2.1 dX12_back_88 rfl (lv_at hl 1 rfl) ?_
      refine lv_iadd S.1 S.2.1 dX12_back_89 ?_
      obtain ⟨v39, e38, f⟩ := ob f
      refine o_iald S I e38 dX12_back_90 ?_
      obtain ⟨h41, e40, f⟩ := ob f
      refine o_iast S I e40 dX12_back_91 (fun H locs I => ?_)
      refine lv_iinc (v := (x1 + 1)) (lv' := [(1, .int (x1 + 1)), (0, .ref (b + a0))]) S.1 S.2.1 dX12_back_92 hl (k := 1) rfl (congrArg (fun z => x1 + z) (by decide)) (by decide) rfl (fun ls hl => ?_)
      refine lv_goto (tgt := 16) S.1 S.2.1 dX12_back_95 (by decide) ?_
      exact ih f I (lv_sub hl [1, 0] rfl)
set_option maxHeartbeats 4000000 in
set_option maxRecDepth 100000 in
theorem T12_back_0 (S : CallFix p m c cX12_back 2 s args vX12_back RX12) (hr : meth.sig.returnType = (some .int)) (hlo : meth.locks = false) {out : Int32 × PH} {h : PH} {a0 : Nat} (f : F12_back_0  h a0 = some out) {H : Heap} {locs : List Loc} (I : ph_I D cy b A fl h s H locs) {ls : Array Slot} (hl : lv_has ls 2 [(0, .ref (b + a0))]) : W p l e ({ frames := 0, cells := 0, slots := 0, locals := 0 } : Room) s m args below meth c H locs 0 0 (MQ below (va_Qi (fun (r : Int32) (u : PH) => (r, u) = out) (ph_B D cy b A fl) A) args s 0 0 A) (F0 m 0 ls []) := by
  unfold F12_back_0 at f
  refine lv_aload_n S.1 S.2.1 dX12_back_0 rfl (lv_at hl 0 rfl) ?_
  refine lv_iconst (v := 0) S.1 S.2.1 dX12_back_1 (by decide) ?_
  obtain ⟨h1, e2, f⟩ := ob f
  refine o_pI S lp12_back_154 I e2 dX12_back_2 (fun H locs I => ?_)
  refine lv_aload_n S.1 S.2.1 dX12_back_5 rfl (lv_at hl 0 rfl) ?_
  obtain ⟨v3, e4, f⟩ := ob f
  refine o_gI S lf12_back_382 I e4 dX12_back_6 ?_
  refine lv_if_ne (tgt := 14) S.1 S.2.1 dX12_back_9 (by decide) (fun q5 => ?_) (fun q5 => ?_)
  · have f := (if_neg q5).symm.trans f
    refine lv_iconst (v := 0) S.1 S.2.1 dX12_back_14 (by decide) ?_
    refine lv_istore_n (lv' := [(1, .int 0), (0, .ref (b + a0))]) S.1 S.2.1 dX12_back_15 rfl hl (by decide) rfl (fun ls hl => ?_)
    exact T12_back_16 S hr hlo  1024 f I (lv_sub hl [1, 0] rfl)
  · have f := (if_pos q5).symm.trans f
    refine lv_iconst (v := (-1)) S.1 S.2.1 dX12_back_12 (by decide) ?_
    exact o_iret S hr hlo I f dX12_back_13
theorem M12_back (l : Launch) (D : va_G) (cy : Nat → ClassId) (b : Nat) (A : Nat → Prop) (fl : Bool) {h : PH} {a0 : Nat} {out : Int32 × PH} (f : F12_back h a0 = some out) : Met l yX12_back vX12_back ({ frames := 0, cells := 0, slots := 0, locals := 0 } : Room) (va_Pc [.ref (b + a0)] (ph_B D cy b A fl h)) (va_Qi (fun (r : Int32) (u : PH) => (r, u) = out) (ph_B D cy b A fl) A) 0 0 A :=
  o_met (by decide) rfl (Nat.le_of_ble_eq_true rfl) rfl (fun p e s m below meth c S hr hlo hnm ls hl I => T12_back_0 S hr hlo ((gd f).2) I (lv_sub hl [0] rfl))
def vX12_isSmall : List Cond := .code yX12_isSmall cX12_isSmall 2 (some .boolean) :: TB
theorem lf12_isSmall_166 : Fl vX12_isSmall RX12 166 12 6 := ⟨RX12, TX12, 87, rfl, by decide, (fun w h9 => List.mem_cons_of_mem _ (wC_wsX120 w h9)), (List.mem_cons_of_mem _ wT_26_17)⟩
theorem lf12_isSmall_7 : Fl vX12_isSmall RX12 7 12 0 := ⟨RX12, TX12, 87, rfl, by decide, (fun w h9 => List.mem_cons_of_mem _ (wC_wsX120 w h9)), (List.mem_cons_of_mem _ wT_9_21)⟩
theorem cd12_isSmall : Cd yX12_isSmall 1 := ⟨by decide, by decide, by decide +kernel⟩
set_option maxHeartbeats 4000000 in
set_option maxRecDepth 100000 in
theorem T12_isSmall_0 (S : CallFix p m c cX12_isSmall 2 s args vX12_isSmall RX12) (hr : meth.sig.returnType = (some .boolean)) (hlo : meth.locks = false) {out : Int32 × PH} {h : PH} {a0 : Nat} {x1 : Int32} (f : F12_isSmall_0  h a0 x1 = some out) {H : Heap} {locs : List Loc} (I : ph_I D cy b A fl h s H locs) {ls : Array Slot} (hl : lv_has ls 2 [(0, .ref (b + a0)), (1, .int x1)]) : W p l e ({ frames := 0, cells := 0, slots := 0, locals := 0 } : Room) s m args below meth c H locs 0 0 (MQ below (va_Qi (fun (r : Int32) (u : PH) => (r, u) = out) (ph_B D cy b A fl) A) args s 0 0 A) (F0 m 0 ls []) := by
  unfold F12_isSmall_0 at f
  refine lv_iload_n S.1 S.2.1 dX12_isSmall_0 rfl (lv_at hl 1 rfl) ?_
  refine lv_aload_n S.1 S.2.1 dX12_isSmall_1 rfl (lv_at hl 0 rfl) ?_
  obtain ⟨v1, e2, f⟩ := ob f
  refine o_gI S lf12_isSmall_166 I e2 dX12_isSmall_2 ?_
  refine lv_icmp_ge (tgt := 34) S.1 S.2.1 dX12_isSmall_5 (by decide) (fun q3 => ?_) (fun q3 => ?_)
  · have f := (if_pos q3).symm.trans f
    refine lv_iconst (v := 0) S.1 S.2.1 dX12_isSmall_34 (by decide) ?_
    exact o_zret S hr hlo I f dX12_isSmall_35
  · have f := (if_neg q3).symm.trans f
    refine lv_aload_n S.1 S.2.1 dX12_isSmall_8 rfl (lv_at hl 0 rfl) ?_
    obtain ⟨r4, e5, f⟩ := ob f
    refine o_gR S lf12_isSmall_7 I e5 dX12_isSmall_9 ?_
    refine lv_iload_n S.1 S.2.1 dX12_isSmall_12 rfl (lv_at hl 1 rfl) ?_
    obtain ⟨v7, e6, f⟩ := ob f
    refine o_iald S I e6 dX12_isSmall_13 ?_
    refine lv_bipush (v := 97) S.1 S.2.1 dX12_isSmall_14 (by decide) ?_
    refine lv_icmp_lt (tgt := 34) S.1 S.2.1 dX12_isSmall_16 (by decide) (fun q8 => ?_) (fun q8 => ?_)
    · have f := (if_pos q8).symm.trans f
      refine lv_iconst (v := 0) S.1 S.2.1 dX12_isSmall_34 (by decide) ?_
      exact o_zret S hr hlo I f dX12_isSmall_35
    · have f := (if_neg q8).symm.trans f
      refine lv_aload_n S.1 S.2.1 dX12_isSmall_19 rfl (lv_at hl 0 rfl) ?_
      obtain ⟨r9, e10, f⟩ := ob f
      refine o_gR S lf12_isSmall_7 I e10 dX12_isSmall_20 ?_
      refine lv_iload_n S.1 S.2.1 dX12_isSmall_23 rfl (lv_at hl 1 rfl) ?_
      obtain ⟨v12, e11, f⟩ := ob f
      refine o_iald S I e11 dX12_isSmall_24 ?_
      refine lv_bipush (v := 122) S.1 S.2.1 dX12_isSmall_25 (by decide) ?_
      refine lv_icmp_gt (tgt := 34) S.1 S.2.1 dX12_isSmall_27 (by decide) (fun q13 => ?_) (fun q13 => ?_)
      · have f := (if_pos q13).symm.trans f
        refine lv_iconst (v := 0) S.1 S.2.1 dX12_isSmall_34 (by decide) ?_
        exact o_zret S hr hlo I f dX12_isSmall_35
      · have f := (if_neg q13).symm.trans f
        refine lv_iconst (v := 1) S.1 S.2.1 dX12_isSmall_30 (by decide) ?_
        refine lv_goto (tgt := 35) S.1 S.2.1 dX12_isSmall_31 (by decide) ?_
        exact o_zret S hr hlo I f dX12_isSmall_35
theorem M12_isSmall (l : Launch) (D : va_G) (cy : Nat → ClassId) (b : Nat) (A : Nat → Prop) (fl : Bool) {h : PH} {a0 : Nat} {x1 : Int32} {out : Int32 × PH} (f : F12_isSmall h a0 x1 = some out) : Met l yX12_isSmall vX12_isSmall ({ frames := 0, cells := 0, slots := 0, locals := 0 } : Room) (va_Pc [.ref (b + a0), .int x1] (ph_B D cy b A fl h)) (va_Qi (fun (r : Int32) (u : PH) => (r, u) = out) (ph_B D cy b A fl) A) 0 0 A :=
  o_met (by decide) rfl (Nat.le_of_ble_eq_true rfl) rfl (fun p e s m below meth c S hr hlo hnm ls hl I => T12_isSmall_0 S hr hlo ((gd f).2) I (lv_sub hl [0, 1] rfl))
def vX12_wordAt : List Cond := .code yX12_wordAt cX12_wordAt 8 (some .int) :: TB
theorem lf12_wordAt_13 : Fl vX12_wordAt RX12 13 12 3 := ⟨RX12, TX12, 87, rfl, by decide, (fun w h9 => List.mem_cons_of_mem _ (wC_wsX120 w h9)), (List.mem_cons_of_mem _ wT_9_22)⟩
theorem lf12_wordAt_7 : Fl vX12_wordAt RX12 7 12 0 := ⟨RX12, TX12, 87, rfl, by decide, (fun w h9 => List.mem_cons_of_mem _ (wC_wsX120 w h9)), (List.mem_cons_of_mem _ wT_9_21)⟩
theorem cd12_wordAt : Cd yX12_wordAt 2 := ⟨by decide, by decide, by decide +kernel⟩
set_option maxHeartbeats 4000000 in
set_option maxRecDepth 100000 in
theorem T12_wordAt_104 (S : CallFix p m c cX12_wordAt 8 s args vX12_wordAt RX12) (hr : meth.sig.returnType = (some .int)) (hlo : meth.locks = false) {out : Int32 × PH} {k5 : PH → Nat → Int32 → Int32 → Int32 → Int32 → Option (Int32 × PH)} (hk5 : ∀ {h : PH} {a0 : Nat} {x1 : Int32} {x2 : Int32} {x3 : Int32} {x4 : Int32}, k5 h a0 x1 x2 x3 x4 = some out → ∀ (H : Heap) (locs : List Loc), ph_I D cy b A fl h s H locs → ∀ (ls : Array Slot), lv_has ls 8 [(0, .ref (b + a0)), (1, .int x1), (2, .int x2), (3, .int x3), (4, .int x4)] → W p l e ({ frames := 0, cells := 0, slots := 0, locals := 0 } : Room) s m args below meth c H locs 0 0 (MQ below (va_Qi (fun (r : Int32) (u : PH) => (r, u) = out) (ph_B D cy b A fl) A) args s 0 0 A) (F0 m 5 ls [])) {h : PH} {a0 : Nat} {x1 : Int32} {x2 : Int32} {x3 : Int32} {x4 : Int32} {x5 : Int32} {x6 : Int32} (f : F12_wordAt_104 k5 h a0 x1 x2 x3 x4 x5 x6 = some out) {H : Heap} {locs : List Loc} (I : ph_I D cy b A fl h s H locs) {ls : Array Slot} (hl : lv_has ls 8 [(0, .ref (b + a0)), (1, .int x1), (2, .int x2), (3, .int x3), (4, .int x4), (5, .int x5), (6, .int x6)]) : W p l e ({ frames := 0, cells := 0, slots := 0, locals := 0 } : Room) s m args below meth c H locs 0 0 (MQ below (va_Qi (fun (r : Int32) (u : PH) => (r, u) = out) (ph_B D cy b A fl) A) args s 0 0 A) (F0 m 104 ls []) := by
  unfold F12_wordAt_104 at f
  refine lv_iload S.1 S.2.1 dX12_wordAt_104 (lv_at hl 6 rfl) ?_
  refine lv_if_eq (tgt := 111) S.1 S.2.1 dX12_wordAt_106 (by decide) (fun q1 => ?_) (fun q1 => ?_)
  · have f := (if_pos q1).symm.trans f
    refine lv_iload S.1 S.2.1 dX12_wordAt_111 (lv_at hl 4 rfl) ?_
    refine lv_iload S.1 S.2.1 dX12_wordAt_113 (lv_at hl 5 rfl) ?_
    refine lv_iconst (v := 1) S.1 S.2.1 dX12_wordAt_115 (by decide) ?_
    refine lv_iadd S.1 S.2.1 dX12_wordAt_116 ?_
    refine lv_iadd S.1 S.2.1 dX12_wordAt_117 ?_
    refine lv_istore (lv' := [(4, .int (x4 + (x5 + 1))), (0, .ref (b + a0)), (1, .int x1), (2, .int x2), (3, .int x3), (5, .int x5), (6, .int x6)]) S.1 S.2.1 dX12_wordAt_118 hl (by decide) rfl (fun ls hl => ?_)
    refine lv_iinc (v := (x3 + 1)) (lv' := [(3, .int (x3 + 1)), (4, .int (x4 + (x5 + 1))), (0, .ref (b + a0)), (1, .int x1), (2, .int x2), (5, .int x5), (6, .int x6)]) S.1 S.2.1 dX12_wordAt_120 hl (k := 4) rfl (congrArg (fun z => x3 + z) (by decide)) (by decide) rfl (fun ls hl => ?_)
    refine lv_goto (tgt := 5) S.1 S.2.1 dX12_wordAt_123 (by decide) ?_
    exact hk5 f _ _ I _ (lv_sub hl [2, 3, 4, 0, 1] rfl)
  · have f := (if_neg q1).symm.trans f
    refine lv_iload_n S.1 S.2.1 dX12_wordAt_109 rfl (lv_at hl 3 rfl) ?_
    exact o_iret S hr hlo I f dX12_wordAt_110
set_option maxHeartbeats 4000000 in
set_option maxRecDepth 100000 in
theorem T12_wordAt_57 (S : CallFix p m c cX12_wordAt 8 s args vX12_wordAt RX12) (hr : meth.sig.returnType = (some .int)) (hlo : meth.locks = false) {out : Int32 × PH} {k5 : PH → Nat → Int32 → Int32 → Int32 → Int32 → Option (Int32 × PH)} (hk5 : ∀ {h : PH} {a0 : Nat} {x1 : Int32} {x2 : Int32} {x3 : Int32} {x4 : Int32}, k5 h a0 x1 x2 x3 x4 = some out → ∀ (H : Heap) (locs : List Loc), ph_I D cy b A fl h s H locs → ∀ (ls : Array Slot), lv_has ls 8 [(0, .ref (b + a0)), (1, .int x1), (2, .int x2), (3, .int x3), (4, .int x4)] → W p l e ({ frames := 0, cells := 0, slots := 0, locals := 0 } : Room) s m args below meth c H locs 0 0 (MQ below (va_Qi (fun (r : Int32) (u : PH) => (r, u) = out) (ph_B D cy b A fl) A) args s 0 0 A) (F0 m 5 ls [])) : ∀ (n : Nat) {h : PH} {a0 : Nat} {x1 : Int32} {x2 : Int32} {x3 : Int32} {x4 : Int32} {x5 : Int32} {x6 : Int32} {x7 : Int32} (f : F12_wordAt_57 k5 n h a0 x1 x2 x3 x4 x5 x6 x7 = some out) {H : Heap} {locs : List Loc} (I : ph_I D cy b A fl h s H locs) {ls : Array Slot} (hl : lv_has ls 8 [(0, .ref (b + a0)), (1, .int x1), (2, .int x2), (3, .int x3), (4, .int x4), (5, .int x5), (6, .int x6), (7, .int x7)]), W p l e ({ frames := 0, cells := 0, slots := 0, locals := 0 } : Room) s m args below meth c H locs 0 0 (MQ below (va_Qi (fun (r : Int32) (u : PH) => (r, u) = out) (ph_B D cy b A fl) A) args s 0 0 A) (F0 m 57 ls []) := by
  intro n
  induction n with
  | zero => intro h a0 x1 x2 x3 x4 x5 x6 x7 f; rw [F12_wordAt_57] at f; cases f
  | succ n ih =>
    intro h a0 x1 x2 x3 x4 x5 x6 x7 f H locs I ls hl
    rw [F12_wordAt_57] at f
    refine lv_iload S.1 S.2.1 dX12_wordAt_57 (lv_at hl 7 rfl) ?_
    refine lv_iload S.1 S.2.1 dX12_wordAt_59 (lv_at hl 5 rfl) ?_
    refine lv_icmp_ge (tgt := 104) S.1 S.2.1 dX12_wordAt_61 (by decide) (fun q1 => ?_) (fun q1 => ?_)
    · have f := (if_pos q1).symm.trans f
      exact T12_wordAt_104 S hr hlo (fun f _ _ I _ hl => hk5 f _ _ I _ hl) f I (lv_sub hl [0, 1, 2, 3, 4, 5, 6] rfl)
    · have f := (if_neg q1).symm.trans f
      refine lv_iload S.1 S.2.1 dX12_wordAt_64 (lv_at hl 6 rfl) ?_
      refine lv_if_eq (tgt := 104) S.1 S.2.1 dX12_wordAt_66 (by decide) (fun q2 => ?_) (fun q2 => ?_)
      · have f := (if_pos q2).symm.trans f
        exact T12_wordAt_104 S hr hlo (fun f _ _ I _ hl => hk5 f _ _ I _ hl) f I (lv_sub hl [0, 1, 2, 3, 4, 5, 6] rfl)
      · have f := (if_neg q2).symm.trans f
        refine lv_aload_n S.1 S.2.1 dX12_wordAt_69 rfl (lv_at hl 0 rfl) ?_
        obtain ⟨r3, e4, f⟩ := ob f
        refine o_gR S lf12_wordAt_13 I e4 dX12_wordAt_70 ?_
        refine lv_iload S.1 S.2.1 dX12_wordAt_73 (lv_at hl 4 rfl) ?_
        refine lv_iload S.1 S.2.1 dX12_wordAt_75 (lv_at hl 7 rfl) ?_
        refine lv_iadd S.1 S.2.1 dX12_wordAt_77 ?_
        obtain ⟨v6, e5, f⟩ := ob f
        refine o_iald S I e5 dX12_wordAt_78 ?_
        refine lv_aload_n S.1 S.2.1 dX12_wordAt_79 rfl (lv_at hl 0 rfl) ?_
        obtain ⟨r7, e8, f⟩ := ob f
        refine o_gR S lf12_wordAt_7 I e8 dX12_wordAt_80 ?_
        refine lv_iload_n S.1 S.2.1 dX12_wordAt_83 rfl (lv_at hl 1 rfl) ?_
        refine lv_iload S.1 S.2.1 dX12_wordAt_84 (lv_at hl 7 rfl) ?_
        refine lv_iadd S.1 S.2.1 dX12_wordAt_86 ?_
        obtain ⟨v10, e9, f⟩ := ob f
        refine o_iald S I e9 dX12_wordAt_87 ?_
        refine lv_icmp_ne (tgt := 95) S.1 S.2.1 dX12_wordAt_88 (by decide) (fun q11 => ?_) (fun q11 => ?_)
        · have f := (if_neg q11).symm.trans f
          refine lv_iconst (v := 0) S.1 S.2.1 dX12_wordAt_95 (by decide) ?_
          refine lv_istore (lv' := [(6, .int 0), (0, .ref (b + a0)), (1, .int x1), (2, .int x2), (3, .int x3), (4, .int x4), (5, .int x5), (7, .int x7)]) S.1 S.2.1 dX12_wordAt_96 hl (by decide) rfl (fun ls hl => ?_)
          refine lv_iinc (v := (x7 + 1)) (lv' := [(7, .int (x7 + 1)), (6, .int 0), (0, .ref (b + a0)), (1, .int x1), (2, .int x2), (3, .int x3), (4, .int x4), (5, .int x5)]) S.1 S.2.1 dX12_wordAt_98 hl (k := 7) rfl (congrArg (fun z => x7 + z) (by decide)) (by decide) rfl (fun ls hl => ?_)
          refine lv_goto (tgt := 57) S.1 S.2.1 dX12_wordAt_101 (by decide) ?_
          exact ih f I (lv_sub hl [2, 3, 4, 5, 6, 7, 1, 0] rfl)
        · have f := (if_pos q11).symm.trans f
          refine lv_iconst (v := 1) S.1 S.2.1 dX12_wordAt_91 (by decide) ?_
          refine lv_goto (tgt := 96) S.1 S.2.1 dX12_wordAt_92 (by decide) ?_
          refine lv_istore (lv' := [(6, .int 1), (0, .ref (b + a0)), (1, .int x1), (2, .int x2), (3, .int x3), (4, .int x4), (5, .int x5), (7, .int x7)]) S.1 S.2.1 dX12_wordAt_96 hl (by decide) rfl (fun ls hl => ?_)
          refine lv_iinc (v := (x7 + 1)) (lv' := [(7, .int (x7 + 1)), (6, .int 1), (0, .ref (b + a0)), (1, .int x1), (2, .int x2), (3, .int x3), (4, .int x4), (5, .int x5)]) S.1 S.2.1 dX12_wordAt_98 hl (k := 7) rfl (congrArg (fun z => x7 + z) (by decide)) (by decide) rfl (fun ls hl => ?_)
          refine lv_goto (tgt := 57) S.1 S.2.1 dX12_wordAt_101 (by decide) ?_
          exact ih f I (lv_sub hl [2, 3, 4, 5, 6, 7, 1, 0] rfl)
set_option maxHeartbeats 4000000 in
set_option maxRecDepth 100000 in
theorem T12_wordAt_18 (S : CallFix p m c cX12_wordAt 8 s args vX12_wordAt RX12) (hr : meth.sig.returnType = (some .int)) (hlo : meth.locks = false) {out : Int32 × PH} {k5 : PH → Nat → Int32 → Int32 → Int32 → Int32 → Option (Int32 × PH)} (hk5 : ∀ {h : PH} {a0 : Nat} {x1 : Int32} {x2 : Int32} {x3 : Int32} {x4 : Int32}, k5 h a0 x1 x2 x3 x4 = some out → ∀ (H : Heap) (locs : List Loc), ph_I D cy b A fl h s H locs → ∀ (ls : Array Slot), lv_has ls 8 [(0, .ref (b + a0)), (1, .int x1), (2, .int x2), (3, .int x3), (4, .int x4)] → W p l e ({ frames := 0, cells := 0, slots := 0, locals := 0 } : Room) s m args below meth c H locs 0 0 (MQ below (va_Qi (fun (r : Int32) (u : PH) => (r, u) = out) (ph_B D cy b A fl) A) args s 0 0 A) (F0 m 5 ls [])) : ∀ (n : Nat) {h : PH} {a0 : Nat} {x1 : Int32} {x2 : Int32} {x3 : Int32} {x4 : Int32} {x5 : Int32} (f : F12_wordAt_18 k5 n h a0 x1 x2 x3 x4 x5 = some out) {H : Heap} {locs : List Loc} (I : ph_I D cy b A fl h s H locs) {ls : Array Slot} (hl : lv_has ls 8 [(0, .ref (b + a0)), (1, .int x1), (2, .int x2), (3, .int x3), (4, .int x4), (5, .int x5)]), W p l e ({ frames := 0, cells := 0, slots := 0, locals := 0 } : Room) s m args below meth c H locs 0 0 (MQ below (va_Qi (fun (r : Int32) (u : PH) => (r, u) = out) (ph_B D cy b A fl) A) args s 0 0 A) (F0 m 18 ls []) := by
  intro n
  induction n with
  | zero => intro h a0 x1 x2 x3 x4 x5 f; rw [F12_wordAt_18] at f; cases f
  | succ n ih =>
    intro h a0 x1 x2 x3 x4 x5 f H locs I ls hl
    rw [F12_wordAt_18] at f
    refine lv_aload_n S.1 S.2.1 dX12_wordAt_18 rfl (lv_at hl 0 rfl) ?_
    obtain ⟨r1, e2, f⟩ := ob f
    refine o_gR S lf12_wordAt_13 I e2 dX12_wordAt_19 ?_
    refine lv_iload S.1 S.2.1 dX12_wordAt_22 (lv_at hl 4 rfl) ?_
    refine lv_iload S.1 S.2.1 dX12_wordAt_24 (lv_at hl 5 rfl) ?_
    refine lv_iadd S.1 S.2.1 dX12_wordAt_26 ?_
    obtain ⟨v4, e3, f⟩ := ob f
    refine o_iald S I e3 dX12_wordAt_27 ?_
    refine lv_bipush (v := 32) S.1 S.2.1 dX12_wordAt_28 (by decide) ?_
    refine lv_icmp_eq (tgt := 39) S.1 S.2.1 dX12_wordAt_30 (by decide) (fun q5 => ?_) (fun q5 => ?_)
    · have f := (if_pos q5).symm.trans f
      refine lv_iload S.1 S.2.1 dX12_wordAt_39 (lv_at hl 5 rfl) ?_
      refine lv_iload_n S.1 S.2.1 dX12_wordAt_41 rfl (lv_at hl 2 rfl) ?_
      refine lv_iload_n S.1 S.2.1 dX12_wordAt_42 rfl (lv_at hl 1 rfl) ?_
      refine lv_isub S.1 S.2.1 dX12_wordAt_43 ?_
      refine lv_icmp_ne (tgt := 51) S.1 S.2.1 dX12_wordAt_44 (by decide) (fun q6 => ?_) (fun q6 => ?_)
      · have f := (if_neg q6).symm.trans f
        refine lv_iconst (v := 0) S.1 S.2.1 dX12_wordAt_51 (by decide) ?_
        refine lv_istore (lv' := [(6, .int 0), (0, .ref (b + a0)), (1, .int x1), (2, .int x2), (3, .int x3), (4, .int x4), (5, .int x5)]) S.1 S.2.1 dX12_wordAt_52 hl (by decide) rfl (fun ls hl => ?_)
        refine lv_iconst (v := 0) S.1 S.2.1 dX12_wordAt_54 (by decide) ?_
        refine lv_istore (lv' := [(7, .int 0), (6, .int 0), (0, .ref (b + a0)), (1, .int x1), (2, .int x2), (3, .int x3), (4, .int x4), (5, .int x5)]) S.1 S.2.1 dX12_wordAt_55 hl (by decide) rfl (fun ls hl => ?_)
        exact T12_wordAt_57 S hr hlo (fun f _ _ I _ hl => hk5 f _ _ I _ hl) 1024 f I (lv_sub hl [2, 3, 4, 5, 6, 7, 1, 0] rfl)
      · have f := (if_pos q6).symm.trans f
        refine lv_iconst (v := 1) S.1 S.2.1 dX12_wordAt_47 (by decide) ?_
        refine lv_goto (tgt := 52) S.1 S.2.1 dX12_wordAt_48 (by decide) ?_
        refine lv_istore (lv' := [(6, .int 1), (0, .ref (b + a0)), (1, .int x1), (2, .int x2), (3, .int x3), (4, .int x4), (5, .int x5)]) S.1 S.2.1 dX12_wordAt_52 hl (by decide) rfl (fun ls hl => ?_)
        refine lv_iconst (v := 0) S.1 S.2.1 dX12_wordAt_54 (by decide) ?_
        refine lv_istore (lv' := [(7, .int 0), (6, .int 1), (0, .ref (b + a0)), (1, .int x1), (2, .int x2), (3, .int x3), (4, .int x4), (5, .int x5)]) S.1 S.2.1 dX12_wordAt_55 hl (by decide) rfl (fun ls hl => ?_)
        exact T12_wordAt_57 S hr hlo (fun f _ _ I _ hl => hk5 f _ _ I _ hl) 1024 f I (lv_sub hl [2, 3, 4, 5, 6, 7, 1, 0] rfl)
    · have f := (if_neg q5).symm.trans f
      refine lv_iinc (v := (x5 + 1)) (lv' := [(5, .int (x5 + 1)), (0, .ref (b + a0)), (1, .int x1), (2, .int x2), (3, .int x3), (4, .int x4)]) S.1 S.2.1 dX12_wordAt_33 hl (k := 5) rfl (congrArg (fun z => x5 + z) (by decide)) (by decide) rfl (fun ls hl => ?_)
      refine lv_goto (tgt := 18) S.1 S.2.1 dX12_wordAt_36 (by decide) ?_
      exact ih f I (lv_sub hl [1, 2, 3, 4, 5, 0] rfl)
set_option maxHeartbeats 4000000 in
set_option maxRecDepth 100000 in
theorem T12_wordAt_5 (S : CallFix p m c cX12_wordAt 8 s args vX12_wordAt RX12) (hr : meth.sig.returnType = (some .int)) (hlo : meth.locks = false) {out : Int32 × PH} : ∀ (n : Nat) {h : PH} {a0 : Nat} {x1 : Int32} {x2 : Int32} {x3 : Int32} {x4 : Int32} (f : F12_wordAt_5  n h a0 x1 x2 x3 x4 = some out) {H : Heap} {locs : List Loc} (I : ph_I D cy b A fl h s H locs) {ls : Array Slot} (hl : lv_has ls 8 [(0, .ref (b + a0)), (1, .int x1), (2, .int x2), (3, .int x3), (4, .int x4)]), W p l e ({ frames := 0, cells := 0, slots := 0, locals := 0 } : Room) s m args below meth c H locs 0 0 (MQ below (va_Qi (fun (r : Int32) (u : PH) => (r, u) = out) (ph_B D cy b A fl) A) args s 0 0 A) (F0 m 5 ls []) := by
  intro n
  induction n with
  | zero => intro h a0 x1 x2 x3 x4 f; rw [F12_wordAt_5] at f; cases f
  | succ n ih =>
    intro h a0 x1 x2 x3 x4 f H locs I ls hl
    rw [F12_wordAt_5] at f
    refine lv_iload S.1 S.2.1 dX12_wordAt_5 (lv_at hl 4 rfl) ?_
    refine lv_aload_n S.1 S.2.1 dX12_wordAt_7 rfl (lv_at hl 0 rfl) ?_
    obtain ⟨r1, e2, f⟩ := ob f
    refine o_gR S lf12_wordAt_13 I e2 dX12_wordAt_8 ?_
    obtain ⟨v3, e4, f⟩ := ob f
    refine o_alen S I e4 dX12_wordAt_11 ?_
    refine lv_icmp_ge (tgt := 126) S.1 S.2.1 dX12_wordAt_12 (by decide) (fun q5 => ?_) (fun q5 => ?_)
    · have f := (if_pos q5).symm.trans f
      refine lv_iconst (v := (-1)) S.1 S.2.1 dX12_wordAt_126 (by decide) ?_
      exact o_iret S hr hlo I f dX12_wordAt_127
    · have f := (if_neg q5).symm.trans f
      refine lv_iconst (v := 0) S.1 S.2.1 dX12_wordAt_15 (by decide) ?_
      refine lv_istore (lv' := [(5, .int 0), (0, .ref (b + a0)), (1, .int x1), (2, .int x2), (3, .int x3), (4, .int x4)]) S.1 S.2.1 dX12_wordAt_16 hl (by decide) rfl (fun ls hl => ?_)
      exact T12_wordAt_18 S hr hlo (fun f _ _ I _ hl => ih f I hl) 1024 f I (lv_sub hl [1, 2, 3, 4, 5, 0] rfl)
set_option maxHeartbeats 4000000 in
set_option maxRecDepth 100000 in
theorem T12_wordAt_0 (S : CallFix p m c cX12_wordAt 8 s args vX12_wordAt RX12) (hr : meth.sig.returnType = (some .int)) (hlo : meth.locks = false) {out : Int32 × PH} {h : PH} {a0 : Nat} {x1 : Int32} {x2 : Int32} (f : F12_wordAt_0  h a0 x1 x2 = some out) {H : Heap} {locs : List Loc} (I : ph_I D cy b A fl h s H locs) {ls : Array Slot} (hl : lv_has ls 8 [(0, .ref (b + a0)), (1, .int x1), (2, .int x2)]) : W p l e ({ frames := 0, cells := 0, slots := 0, locals := 0 } : Room) s m args below meth c H locs 0 0 (MQ below (va_Qi (fun (r : Int32) (u : PH) => (r, u) = out) (ph_B D cy b A fl) A) args s 0 0 A) (F0 m 0 ls []) := by
  unfold F12_wordAt_0 at f
  refine lv_iconst (v := 0) S.1 S.2.1 dX12_wordAt_0 (by decide) ?_
  refine lv_istore_n (lv' := [(3, .int 0), (0, .ref (b + a0)), (1, .int x1), (2, .int x2)]) S.1 S.2.1 dX12_wordAt_1 rfl hl (by decide) rfl (fun ls hl => ?_)
  refine lv_iconst (v := 0) S.1 S.2.1 dX12_wordAt_2 (by decide) ?_
  refine lv_istore (lv' := [(4, .int 0), (3, .int 0), (0, .ref (b + a0)), (1, .int x1), (2, .int x2)]) S.1 S.2.1 dX12_wordAt_3 hl (by decide) rfl (fun ls hl => ?_)
  exact T12_wordAt_5 S hr hlo  1024 f I (lv_sub hl [2, 3, 4, 1, 0] rfl)
theorem M12_wordAt (l : Launch) (D : va_G) (cy : Nat → ClassId) (b : Nat) (A : Nat → Prop) (fl : Bool) {h : PH} {a0 : Nat} {x1 : Int32} {x2 : Int32} {out : Int32 × PH} (f : F12_wordAt h a0 x1 x2 = some out) : Met l yX12_wordAt vX12_wordAt ({ frames := 0, cells := 0, slots := 0, locals := 0 } : Room) (va_Pc [.ref (b + a0), .int x1, .int x2] (ph_B D cy b A fl h)) (va_Qi (fun (r : Int32) (u : PH) => (r, u) = out) (ph_B D cy b A fl) A) 0 0 A :=
  o_met (by decide) rfl (Nat.le_of_ble_eq_true rfl) rfl (fun p e s m below meth c S hr hlo hnm ls hl I => T12_wordAt_0 S hr hlo ((gd f).2) I (lv_sub hl [0, 1, 2] rfl))
def vX12_packed : List Cond := .code yX12_packed cX12_packed 5 (some .int) :: TB
theorem lf12_packed_7 : Fl vX12_packed RX12 7 12 0 := ⟨RX12, TX12, 87, rfl, by decide, (fun w h9 => List.mem_cons_of_mem _ (wC_wsX120 w h9)), (List.mem_cons_of_mem _ wT_9_21)⟩
theorem cd12_packed : Cd yX12_packed 2 := ⟨by decide, by decide, by decide +kernel⟩
set_option maxHeartbeats 4000000 in
set_option maxRecDepth 100000 in
theorem T12_packed_5 (S : CallFix p m c cX12_packed 5 s args vX12_packed RX12) (hr : meth.sig.returnType = (some .int)) (hlo : meth.locks = false) {out : Int32 × PH} : ∀ (n : Nat) {h : PH} {a0 : Nat} {x1 : Int32} {x2 : Int32} {x3 : Int32} {x4 : Int32} (f : F12_packed_5  n h a0 x1 x2 x3 x4 = some out) {H : Heap} {locs : List Loc} (I : ph_I D cy b A fl h s H locs) {ls : Array Slot} (hl : lv_has ls 5 [(0, .ref (b + a0)), (1, .int x1), (2, .int x2), (3, .int x3), (4, .int x4)]), W p l e ({ frames := 0, cells := 0, slots := 0, locals := 0 } : Room) s m args below meth c H locs 0 0 (MQ below (va_Qi (fun (r : Int32) (u : PH) => (r, u) = out) (ph_B D cy b A fl) A) args s 0 0 A) (F0 m 5 ls []) := by
  intro n
  induction n with
  | zero => intro h a0 x1 x2 x3 x4 f; rw [F12_packed_5] at f; cases f
  | succ n ih =>
    intro h a0 x1 x2 x3 x4 f H locs I ls hl
    rw [F12_packed_5] at f
    refine lv_iload S.1 S.2.1 dX12_packed_5 (lv_at hl 4 rfl) ?_
    refine lv_iload_n S.1 S.2.1 dX12_packed_7 rfl (lv_at hl 1 rfl) ?_
    refine lv_bipush (v := 6) S.1 S.2.1 dX12_packed_8 (by decide) ?_
    refine lv_iadd S.1 S.2.1 dX12_packed_10 ?_
    refine lv_icmp_ge (tgt := 45) S.1 S.2.1 dX12_packed_11 (by decide) (fun q1 => ?_) (fun q1 => ?_)
    · have f := (if_pos q1).symm.trans f
      refine lv_iload_n S.1 S.2.1 dX12_packed_45 rfl (lv_at hl 3 rfl) ?_
      exact o_iret S hr hlo I f dX12_packed_46
    · have f := (if_neg q1).symm.trans f
      refine lv_iload_n S.1 S.2.1 dX12_packed_14 rfl (lv_at hl 3 rfl) ?_
      refine lv_iconst (v := 5) S.1 S.2.1 dX12_packed_15 (by decide) ?_
      refine lv_ishl S.1 S.2.1 dX12_packed_16 ?_
      refine lv_iload S.1 S.2.1 dX12_packed_17 (lv_at hl 4 rfl) ?_
      refine lv_iload_n S.1 S.2.1 dX12_packed_19 rfl (lv_at hl 2 rfl) ?_
      refine lv_icmp_ge (tgt := 36) S.1 S.2.1 dX12_packed_20 (by decide) (fun q2 => ?_) (fun q2 => ?_)
      · have f := (if_pos q2).symm.trans f
        refine lv_iconst (v := 0) S.1 S.2.1 dX12_packed_36 (by decide) ?_
        refine lv_ior S.1 S.2.1 dX12_packed_37 ?_
        refine lv_istore_n (lv' := [(3, .int ((x3 <<< (5 &&& 31)) ||| 0)), (0, .ref (b + a0)), (1, .int x1), (2, .int x2), (4, .int x4)]) S.1 S.2.1 dX12_packed_38 rfl hl (by decide) rfl (fun ls hl => ?_)
        refine lv_iinc (v := (x4 + 1)) (lv' := [(4, .int (x4 + 1)), (3, .int ((x3 <<< (5 &&& 31)) ||| 0)), (0, .ref (b + a0)), (1, .int x1), (2, .int x2)]) S.1 S.2.1 dX12_packed_39 hl (k := 4) rfl (congrArg (fun z => x4 + z) (by decide)) (by decide) rfl (fun ls hl => ?_)
        refine lv_goto (tgt := 5) S.1 S.2.1 dX12_packed_42 (by decide) ?_
        exact ih f I (lv_sub hl [2, 3, 4, 1, 0] rfl)
      · have f := (if_neg q2).symm.trans f
        refine lv_aload_n S.1 S.2.1 dX12_packed_23 rfl (lv_at hl 0 rfl) ?_
        obtain ⟨r3, e4, f⟩ := ob f
        refine o_gR S lf12_packed_7 I e4 dX12_packed_24 ?_
        refine lv_iload S.1 S.2.1 dX12_packed_27 (lv_at hl 4 rfl) ?_
        obtain ⟨v6, e5, f⟩ := ob f
        refine o_iald S I e5 dX12_packed_29 ?_
        refine lv_bipush (v := 96) S.1 S.2.1 dX12_packed_30 (by decide) ?_
        refine lv_isub S.1 S.2.1 dX12_packed_32 ?_
        refine lv_goto (tgt := 37) S.1 S.2.1 dX12_packed_33 (by decide) ?_
        refine lv_ior S.1 S.2.1 dX12_packed_37 ?_
        refine lv_istore_n (lv' := [(3, .int ((x3 <<< (5 &&& 31)) ||| (v6 - 96))), (0, .ref (b + a0)), (1, .int x1), (2, .int x2), (4, .int x4)]) S.1 S.2.1 dX12_packed_38 rfl hl (by decide) rfl (fun ls hl => ?_)
        refine lv_iinc (v := (x4 + 1)) (lv' := [(4, .int (x4 + 1)), (3, .int ((x3 <<< (5 &&& 31)) ||| (v6 - 96))), (0, .ref (b + a0)), (1, .int x1), (2, .int x2)]) S.1 S.2.1 dX12_packed_39 hl (k := 4) rfl (congrArg (fun z => x4 + z) (by decide)) (by decide) rfl (fun ls hl => ?_)
        refine lv_goto (tgt := 5) S.1 S.2.1 dX12_packed_42 (by decide) ?_
        exact ih f I (lv_sub hl [2, 3, 4, 1, 0] rfl)
set_option maxHeartbeats 4000000 in
set_option maxRecDepth 100000 in
theorem T12_packed_0 (S : CallFix p m c cX12_packed 5 s args vX12_packed RX12) (hr : meth.sig.returnType = (some .int)) (hlo : meth.locks = false) {out : Int32 × PH} {h : PH} {a0 : Nat} {x1 : Int32} {x2 : Int32} (f : F12_packed_0  h a0 x1 x2 = some out) {H : Heap} {locs : List Loc} (I : ph_I D cy b A fl h s H locs) {ls : Array Slot} (hl : lv_has ls 5 [(0, .ref (b + a0)), (1, .int x1), (2, .int x2)]) : W p l e ({ frames := 0, cells := 0, slots := 0, locals := 0 } : Room) s m args below meth c H locs 0 0 (MQ below (va_Qi (fun (r : Int32) (u : PH) => (r, u) = out) (ph_B D cy b A fl) A) args s 0 0 A) (F0 m 0 ls []) := by
  unfold F12_packed_0 at f
  refine lv_iconst (v := 0) S.1 S.2.1 dX12_packed_0 (by decide) ?_
  refine lv_istore_n (lv' := [(3, .int 0), (0, .ref (b + a0)), (1, .int x1), (2, .int x2)]) S.1 S.2.1 dX12_packed_1 rfl hl (by decide) rfl (fun ls hl => ?_)
  refine lv_iload_n S.1 S.2.1 dX12_packed_2 rfl (lv_at hl 2 rfl) ?_
  refine lv_istore (lv' := [(4, .int x1), (3, .int 0), (0, .ref (b + a0)), (1, .int x1), (2, .int x2)]) S.1 S.2.1 dX12_packed_3 hl (by decide) rfl (fun ls hl => ?_)
  exact T12_packed_5 S hr hlo  1024 f I (lv_sub hl [2, 3, 4, 1, 0] rfl)
theorem M12_packed (l : Launch) (D : va_G) (cy : Nat → ClassId) (b : Nat) (A : Nat → Prop) (fl : Bool) {h : PH} {a0 : Nat} {x1 : Int32} {x2 : Int32} {out : Int32 × PH} (f : F12_packed h a0 x1 x2 = some out) : Met l yX12_packed vX12_packed ({ frames := 0, cells := 0, slots := 0, locals := 0 } : Room) (va_Pc [.ref (b + a0), .int x1, .int x2] (ph_B D cy b A fl h)) (va_Qi (fun (r : Int32) (u : PH) => (r, u) = out) (ph_B D cy b A fl) A) 0 0 A :=
  o_met (by decide) rfl (Nat.le_of_ble_eq_true rfl) rfl (fun p e s m below meth c S hr hlo hnm ls hl I => T12_packed_0 S hr hlo ((gd f).2) I (lv_sub hl [0, 1, 2] rfl))
def vX12_isDigit : List Cond := .code yX12_isDigit cX12_isDigit 2 (some .boolean) :: TB
theorem lf12_isDigit_166 : Fl vX12_isDigit RX12 166 12 6 := ⟨RX12, TX12, 87, rfl, by decide, (fun w h9 => List.mem_cons_of_mem _ (wC_wsX120 w h9)), (List.mem_cons_of_mem _ wT_26_17)⟩
theorem lf12_isDigit_7 : Fl vX12_isDigit RX12 7 12 0 := ⟨RX12, TX12, 87, rfl, by decide, (fun w h9 => List.mem_cons_of_mem _ (wC_wsX120 w h9)), (List.mem_cons_of_mem _ wT_9_21)⟩
theorem cd12_isDigit : Cd yX12_isDigit 1 := ⟨by decide, by decide, by decide +kernel⟩
set_option maxHeartbeats 4000000 in
set_option maxRecDepth 100000 in
theorem T12_isDigit_0 (S : CallFix p m c cX12_isDigit 2 s args vX12_isDigit RX12) (hr : meth.sig.returnType = (some .boolean)) (hlo : meth.locks = false) {out : Int32 × PH} {h : PH} {a0 : Nat} {x1 : Int32} (f : F12_isDigit_0  h a0 x1 = some out) {H : Heap} {locs : List Loc} (I : ph_I D cy b A fl h s H locs) {ls : Array Slot} (hl : lv_has ls 2 [(0, .ref (b + a0)), (1, .int x1)]) : W p l e ({ frames := 0, cells := 0, slots := 0, locals := 0 } : Room) s m args below meth c H locs 0 0 (MQ below (va_Qi (fun (r : Int32) (u : PH) => (r, u) = out) (ph_B D cy b A fl) A) args s 0 0 A) (F0 m 0 ls []) := by
  unfold F12_isDigit_0 at f
  refine lv_iload_n S.1 S.2.1 dX12_isDigit_0 rfl (lv_at hl 1 rfl) ?_
  refine lv_aload_n S.1 S.2.1 dX12_isDigit_1 rfl (lv_at hl 0 rfl) ?_
  obtain ⟨v1, e2, f⟩ := ob f
  refine o_gI S lf12_isDigit_166 I e2 dX12_isDigit_2 ?_
  refine lv_icmp_ge (tgt := 34) S.1 S.2.1 dX12_isDigit_5 (by decide) (fun q3 => ?_) (fun q3 => ?_)
  · have f := (if_pos q3).symm.trans f
    refine lv_iconst (v := 0) S.1 S.2.1 dX12_isDigit_34 (by decide) ?_
    exact o_zret S hr hlo I f dX12_isDigit_35
  · have f := (if_neg q3).symm.trans f
    refine lv_aload_n S.1 S.2.1 dX12_isDigit_8 rfl (lv_at hl 0 rfl) ?_
    obtain ⟨r4, e5, f⟩ := ob f
    refine o_gR S lf12_isDigit_7 I e5 dX12_isDigit_9 ?_
    refine lv_iload_n S.1 S.2.1 dX12_isDigit_12 rfl (lv_at hl 1 rfl) ?_
    obtain ⟨v7, e6, f⟩ := ob f
    refine o_iald S I e6 dX12_isDigit_13 ?_
    refine lv_bipush (v := 48) S.1 S.2.1 dX12_isDigit_14 (by decide) ?_
    refine lv_icmp_lt (tgt := 34) S.1 S.2.1 dX12_isDigit_16 (by decide) (fun q8 => ?_) (fun q8 => ?_)
    · have f := (if_pos q8).symm.trans f
      refine lv_iconst (v := 0) S.1 S.2.1 dX12_isDigit_34 (by decide) ?_
      exact o_zret S hr hlo I f dX12_isDigit_35
    · have f := (if_neg q8).symm.trans f
      refine lv_aload_n S.1 S.2.1 dX12_isDigit_19 rfl (lv_at hl 0 rfl) ?_
      obtain ⟨r9, e10, f⟩ := ob f
      refine o_gR S lf12_isDigit_7 I e10 dX12_isDigit_20 ?_
      refine lv_iload_n S.1 S.2.1 dX12_isDigit_23 rfl (lv_at hl 1 rfl) ?_
      obtain ⟨v12, e11, f⟩ := ob f
      refine o_iald S I e11 dX12_isDigit_24 ?_
      refine lv_bipush (v := 57) S.1 S.2.1 dX12_isDigit_25 (by decide) ?_
      refine lv_icmp_gt (tgt := 34) S.1 S.2.1 dX12_isDigit_27 (by decide) (fun q13 => ?_) (fun q13 => ?_)
      · have f := (if_pos q13).symm.trans f
        refine lv_iconst (v := 0) S.1 S.2.1 dX12_isDigit_34 (by decide) ?_
        exact o_zret S hr hlo I f dX12_isDigit_35
      · have f := (if_neg q13).symm.trans f
        refine lv_iconst (v := 1) S.1 S.2.1 dX12_isDigit_30 (by decide) ?_
        refine lv_goto (tgt := 35) S.1 S.2.1 dX12_isDigit_31 (by decide) ?_
        exact o_zret S hr hlo I f dX12_isDigit_35
theorem M12_isDigit (l : Launch) (D : va_G) (cy : Nat → ClassId) (b : Nat) (A : Nat → Prop) (fl : Bool) {h : PH} {a0 : Nat} {x1 : Int32} {out : Int32 × PH} (f : F12_isDigit h a0 x1 = some out) : Met l yX12_isDigit vX12_isDigit ({ frames := 0, cells := 0, slots := 0, locals := 0 } : Room) (va_Pc [.ref (b + a0), .int x1] (ph_B D cy b A fl h)) (va_Qi (fun (r : Int32) (u : PH) => (r, u) = out) (ph_B D cy b A fl) A) 0 0 A :=
  o_met (by decide) rfl (Nat.le_of_ble_eq_true rfl) rfl (fun p e s m below meth c S hr hlo hnm ls hl I => T12_isDigit_0 S hr hlo ((gd f).2) I (lv_sub hl [0, 1] rfl))
def vX12_signToken : List Cond := .code yX12_signToken cX12_signToken 4 none :: TB
theorem lp12_signToken_183 : Pl vX12_signToken RX12 183 12 9 .int := ⟨RX12, TX12, 87, tyX12, rfl, by decide, (fun w h9 => List.mem_cons_of_mem _ (wC_wsX120 w h9)), (List.mem_cons_of_mem _ wT_27_2), tyX12_ok, nmX12, rfl, rfl⟩
theorem lp12_signToken_172 : Pl vX12_signToken RX12 172 12 8 .int := ⟨RX12, TX12, 87, tyX12, rfl, by decide, (fun w h9 => List.mem_cons_of_mem _ (wC_wsX120 w h9)), (List.mem_cons_of_mem _ wT_26_20), tyX12_ok, nmX12, rfl, rfl⟩
theorem lf12_signToken_183 : Fl vX12_signToken RX12 183 12 9 := ⟨RX12, TX12, 87, rfl, by decide, (fun w h9 => List.mem_cons_of_mem _ (wC_wsX120 w h9)), (List.mem_cons_of_mem _ wT_27_2)⟩
theorem lf12_signToken_169 : Fl vX12_signToken RX12 169 12 7 := ⟨RX12, TX12, 87, rfl, by decide, (fun w h9 => List.mem_cons_of_mem _ (wC_wsX120 w h9)), (List.mem_cons_of_mem _ wT_26_19)⟩
theorem lp12_signToken_169 : Pl vX12_signToken RX12 169 12 7 .int := ⟨RX12, TX12, 87, tyX12, rfl, by decide, (fun w h9 => List.mem_cons_of_mem _ (wC_wsX120 w h9)), (List.mem_cons_of_mem _ wT_26_19), tyX12_ok, nmX12, rfl, rfl⟩
theorem lf12_signToken_166 : Fl vX12_signToken RX12 166 12 6 := ⟨RX12, TX12, 87, rfl, by decide, (fun w h9 => List.mem_cons_of_mem _ (wC_wsX120 w h9)), (List.mem_cons_of_mem _ wT_26_17)⟩
theorem lf12_signToken_7 : Fl vX12_signToken RX12 7 12 0 := ⟨RX12, TX12, 87, rfl, by decide, (fun w h9 => List.mem_cons_of_mem _ (wC_wsX120 w h9)), (List.mem_cons_of_mem _ wT_9_21)⟩
theorem cd12_signToken : Cd yX12_signToken 0 := ⟨by decide, by decide, by decide +kernel⟩
set_option maxHeartbeats 4000000 in
set_option maxRecDepth 100000 in
theorem T12_signToken_192 (S : CallFix p m c cX12_signToken 4 s args vX12_signToken RX12) (hr : meth.sig.returnType = none) (hlo : meth.locks = false) {out : PH} {h : PH} {s0 : Int32} {u1 : Nat} (f : F12_signToken_192  h s0 u1 = some out) {H : Heap} {locs : List Loc} (I : ph_I D cy b A fl h s H locs) {ls : Array Slot} (hl : lv_has ls 4 []) : W p l e ({ frames := 0, cells := 0, slots := 0, locals := 0 } : Room) s m args below meth c H locs 0 0 (MQ below (va_Qv (fun (u : PH) => u = out) (ph_B D cy b A fl) A) args s 0 0 A) (F0 m 192 ls [.int s0, .ref (b + u1)]) := by
  unfold F12_signToken_192 at f
  obtain ⟨h1, e2, f⟩ := ob f
  refine o_pI S lp12_signToken_183 I e2 dX12_signToken_192 (fun H locs I => ?_)
  refine lv_goto (tgt := 290) S.1 S.2.1 dX12_signToken_195 (by decide) ?_
  exact o_vret S hr hlo I f dX12_signToken_290
set_option maxHeartbeats 4000000 in
set_option maxRecDepth 100000 in
theorem T12_signToken_135 (S : CallFix p m c cX12_signToken 4 s args vX12_signToken RX12) (hr : meth.sig.returnType = none) (hlo : meth.locks = false) {out : PH} {h : PH} {a0 : Nat} {x2 : Int32} {x3 : Int32} (f : F12_signToken_135  h a0 x2 x3 = some out) {H : Heap} {locs : List Loc} (I : ph_I D cy b A fl h s H locs) {ls : Array Slot} (hl : lv_has ls 4 [(0, .ref (b + a0)), (2, .int x2), (3, .int x3)]) : W p l e ({ frames := 0, cells := 0, slots := 0, locals := 0 } : Room) s m args below meth c H locs 0 0 (MQ below (va_Qv (fun (u : PH) => u = out) (ph_B D cy b A fl) A) args s 0 0 A) (F0 m 135 ls []) := by
  unfold F12_signToken_135 at f
  refine lv_aload_n S.1 S.2.1 dX12_signToken_135 rfl (lv_at hl 0 rfl) ?_
  refine lv_iconst (v := 5) S.1 S.2.1 dX12_signToken_136 (by decide) ?_
  obtain ⟨h1, e2, f⟩ := ob f
  refine o_pI S lp12_signToken_172 I e2 dX12_signToken_137 (fun H locs I => ?_)
  refine lv_aload_n S.1 S.2.1 dX12_signToken_140 rfl (lv_at hl 0 rfl) ?_
  refine lv_aload_n S.1 S.2.1 dX12_signToken_141 rfl (lv_at hl 0 rfl) ?_
  obtain ⟨v3, e4, f⟩ := ob f
  refine o_gI S lf12_signToken_183 I e4 dX12_signToken_142 ?_
  refine lv_bipush (v := 61) S.1 S.2.1 dX12_signToken_145 (by decide) ?_
  refine lv_icmp_ne (tgt := 154) S.1 S.2.1 dX12_signToken_147 (by decide) (fun q5 => ?_) (fun q5 => ?_)
  · have f := (if_neg q5).symm.trans f
    refine lv_aload_n S.1 S.2.1 dX12_signToken_154 rfl (lv_at hl 0 rfl) ?_
    obtain ⟨v6, e7, f⟩ := ob f
    refine o_gI S lf12_signToken_183 I e7 dX12_signToken_155 ?_
    refine lv_bipush (v := 60) S.1 S.2.1 dX12_signToken_158 (by decide) ?_
    refine lv_icmp_ne (tgt := 183) S.1 S.2.1 dX12_signToken_160 (by decide) (fun q8 => ?_) (fun q8 => ?_)
    · have f := (if_neg q8).symm.trans f
      refine lv_iload_n S.1 S.2.1 dX12_signToken_183 rfl (lv_at hl 1 rfl) ?_
      refine lv_if_eq (tgt := 191) S.1 S.2.1 dX12_signToken_184 (by decide) (fun q9 => ?_) (fun q9 => ?_)
      · have f := (if_pos q9).symm.trans f
        refine lv_iconst (v := 5) S.1 S.2.1 dX12_signToken_191 (by decide) ?_
        exact T12_signToken_192 S hr hlo  f I (lv_sub hl [] rfl)
      · have f := (if_neg q9).symm.trans f
        refine lv_iconst (v := 4) S.1 S.2.1 dX12_signToken_187 (by decide) ?_
        refine lv_goto (tgt := 192) S.1 S.2.1 dX12_signToken_188 (by decide) ?_
        exact T12_signToken_192 S hr hlo  f I (lv_sub hl [] rfl)
    · have f := (if_pos q8).symm.trans f
      refine lv_iload_n S.1 S.2.1 dX12_signToken_163 rfl (lv_at hl 1 rfl) ?_
      refine lv_if_eq (tgt := 171) S.1 S.2.1 dX12_signToken_164 (by decide) (fun q10 => ?_) (fun q10 => ?_)
      · have f := (if_pos q10).symm.trans f
        refine lv_iload_n S.1 S.2.1 dX12_signToken_171 rfl (lv_at hl 2 rfl) ?_
        refine lv_if_eq (tgt := 179) S.1 S.2.1 dX12_signToken_172 (by decide) (fun q11 => ?_) (fun q11 => ?_)
        · have f := (if_pos q11).symm.trans f
          refine lv_iconst (v := 0) S.1 S.2.1 dX12_signToken_179 (by decide) ?_
          refine lv_goto (tgt := 192) S.1 S.2.1 dX12_signToken_180 (by decide) ?_
          exact T12_signToken_192 S hr hlo  f I (lv_sub hl [] rfl)
        · have f := (if_neg q11).symm.trans f
          refine lv_iconst (v := 3) S.1 S.2.1 dX12_signToken_175 (by decide) ?_
          refine lv_goto (tgt := 192) S.1 S.2.1 dX12_signToken_176 (by decide) ?_
          exact T12_signToken_192 S hr hlo  f I (lv_sub hl [] rfl)
      · have f := (if_neg q10).symm.trans f
        refine lv_iconst (v := 1) S.1 S.2.1 dX12_signToken_167 (by decide) ?_
        refine lv_goto (tgt := 192) S.1 S.2.1 dX12_signToken_168 (by decide) ?_
        exact T12_signToken_192 S hr hlo  f I (lv_sub hl [] rfl)
  · have f := (if_pos q5).symm.trans f
    refine lv_iconst (v := 2) S.1 S.2.1 dX12_signToken_150 (by decide) ?_
    refine lv_goto (tgt := 192) S.1 S.2.1 dX12_signToken_151 (by decide) ?_
    exact T12_signToken_192 S hr hlo  f I (lv_sub hl [] rfl)
set_option maxHeartbeats 4000000 in
set_option maxRecDepth 100000 in
theorem T12_signToken_125 (S : CallFix p m c cX12_signToken 4 s args vX12_signToken RX12) (hr : meth.sig.returnType = none) (hlo : meth.locks = false) {out : PH} {h : PH} {a0 : Nat} {x2 : Int32} {x3 : Int32} (f : F12_signToken_125  h a0 x2 x3 = some out) {H : Heap} {locs : List Loc} (I : ph_I D cy b A fl h s H locs) {ls : Array Slot} (hl : lv_has ls 4 [(0, .ref (b + a0)), (2, .int x2), (3, .int x3)]) : W p l e ({ frames := 0, cells := 0, slots := 0, locals := 0 } : Room) s m args below meth c H locs 0 0 (MQ below (va_Qv (fun (u : PH) => u = out) (ph_B D cy b A fl) A) args s 0 0 A) (F0 m 125 ls []) := by
  unfold F12_signToken_125 at f
  refine lv_aload_n S.1 S.2.1 dX12_signToken_125 rfl (lv_at hl 0 rfl) ?_
  refine lv_dup S.1 S.2.1 dX12_signToken_126 rfl ?_
  obtain ⟨v1, e2, f⟩ := ob f
  refine o_gI S lf12_signToken_169 I e2 dX12_signToken_127 ?_
  refine lv_iconst (v := 1) S.1 S.2.1 dX12_signToken_130 (by decide) ?_
  refine lv_iadd S.1 S.2.1 dX12_signToken_131 ?_
  obtain ⟨h3, e4, f⟩ := ob f
  refine o_pI S lp12_signToken_169 I e4 dX12_signToken_132 (fun H locs I => ?_)
  exact T12_signToken_135 S hr hlo  f I (lv_sub hl [0, 1, 2] rfl)
set_option maxHeartbeats 4000000 in
set_option maxRecDepth 100000 in
theorem T12_signToken_116 (S : CallFix p m c cX12_signToken 4 s args vX12_signToken RX12) (hr : meth.sig.returnType = none) (hlo : meth.locks = false) {out : PH} {h : PH} {a0 : Nat} {x2 : Int32} {s0 : Int32} (f : F12_signToken_116  h a0 x2 s0 = some out) {H : Heap} {locs : List Loc} (I : ph_I D cy b A fl h s H locs) {ls : Array Slot} (hl : lv_has ls 4 [(0, .ref (b + a0)), (2, .int x2)]) : W p l e ({ frames := 0, cells := 0, slots := 0, locals := 0 } : Room) s m args below meth c H locs 0 0 (MQ below (va_Qv (fun (u : PH) => u = out) (ph_B D cy b A fl) A) args s 0 0 A) (F0 m 116 ls [.int s0]) := by
  unfold F12_signToken_116 at f
  refine lv_istore_n (lv' := [(3, .int s0), (0, .ref (b + a0)), (2, .int x2)]) S.1 S.2.1 dX12_signToken_116 rfl hl (by decide) rfl (fun ls hl => ?_)
  refine lv_iload_n S.1 S.2.1 dX12_signToken_117 rfl (lv_at hl 2 rfl) ?_
  refine lv_if_ne (tgt := 125) S.1 S.2.1 dX12_signToken_118 (by decide) (fun q1 => ?_) (fun q1 => ?_)
  · have f := (if_neg q1).symm.trans f
    exact T12_signToken_125 S hr hlo  f I (lv_sub hl [1, 2, 0] rfl)
  · have f := (if_pos q1).symm.trans f
    refine lv_iload_n S.1 S.2.1 dX12_signToken_121 rfl (lv_at hl 0 rfl) ?_
    refine lv_if_eq (tgt := 135) S.1 S.2.1 dX12_signToken_122 (by decide) (fun q2 => ?_) (fun q2 => ?_)
    · have f := (if_pos q2).symm.trans f
      exact T12_signToken_135 S hr hlo  f I (lv_sub hl [1, 2, 0] rfl)
    · have f := (if_neg q2).symm.trans f
      exact T12_signToken_125 S hr hlo  f I (lv_sub hl [1, 2, 0] rfl)
set_option maxHeartbeats 4000000 in
set_option maxRecDepth 100000 in
theorem T12_signToken_115 (S : CallFix p m c cX12_signToken 4 s args vX12_signToken RX12) (hr : meth.sig.returnType = none) (hlo : meth.locks = false) {out : PH} {h : PH} {a0 : Nat} {x2 : Int32} (f : F12_signToken_115  h a0 x2 = some out) {H : Heap} {locs : List Loc} (I : ph_I D cy b A fl h s H locs) {ls : Array Slot} (hl : lv_has ls 4 [(0, .ref (b + a0)), (2, .int x2)]) : W p l e ({ frames := 0, cells := 0, slots := 0, locals := 0 } : Room) s m args below meth c H locs 0 0 (MQ below (va_Qv (fun (u : PH) => u = out) (ph_B D cy b A fl) A) args s 0 0 A) (F0 m 115 ls []) := by
  unfold F12_signToken_115 at f
  refine lv_iconst (v := 0) S.1 S.2.1 dX12_signToken_115 (by decide) ?_
  exact T12_signToken_116 S hr hlo  f I (lv_sub hl [0, 1] rfl)
set_option maxHeartbeats 4000000 in
set_option maxRecDepth 100000 in
theorem T12_signToken_95 (S : CallFix p m c cX12_signToken 4 s args vX12_signToken RX12) (hr : meth.sig.returnType = none) (hlo : meth.locks = false) {out : PH} {h : PH} {a0 : Nat} {x1 : Int32} {s0 : Int32} (f : F12_signToken_95  h a0 x1 s0 = some out) {H : Heap} {locs : List Loc} (I : ph_I D cy b A fl h s H locs) {ls : Array Slot} (hl : lv_has ls 4 [(0, .ref (b + a0)), (1, .int x1)]) : W p l e ({ frames := 0, cells := 0, slots := 0, locals := 0 } : Room) s m args below meth c H locs 0 0 (MQ below (va_Qv (fun (u : PH) => u = out) (ph_B D cy b A fl) A) args s 0 0 A) (F0 m 95 ls [.int s0]) := by
  unfold F12_signToken_95 at f
  refine lv_istore_n (lv' := [(2, .int s0), (0, .ref (b + a0)), (1, .int x1)]) S.1 S.2.1 dX12_signToken_95 rfl hl (by decide) rfl (fun ls hl => ?_)
  refine lv_aload_n S.1 S.2.1 dX12_signToken_96 rfl (lv_at hl 1 rfl) ?_
  obtain ⟨v1, e2, f⟩ := ob f
  refine o_gI S lf12_signToken_183 I e2 dX12_signToken_97 ?_
  refine lv_bipush (v := 60) S.1 S.2.1 dX12_signToken_100 (by decide) ?_
  refine lv_icmp_ne (tgt := 115) S.1 S.2.1 dX12_signToken_102 (by decide) (fun q3 => ?_) (fun q3 => ?_)
  · have f := (if_neg q3).symm.trans f
    exact T12_signToken_115 S hr hlo  f I (lv_sub hl [1, 0] rfl)
  · have f := (if_pos q3).symm.trans f
    refine lv_iload_n S.1 S.2.1 dX12_signToken_105 rfl (lv_at hl 2 rfl) ?_
    refine lv_bipush (v := 62) S.1 S.2.1 dX12_signToken_106 (by decide) ?_
    refine lv_icmp_ne (tgt := 115) S.1 S.2.1 dX12_signToken_108 (by decide) (fun q4 => ?_) (fun q4 => ?_)
    · have f := (if_neg q4).symm.trans f
      exact T12_signToken_115 S hr hlo  f I (lv_sub hl [1, 0] rfl)
    · have f := (if_pos q4).symm.trans f
      refine lv_iconst (v := 1) S.1 S.2.1 dX12_signToken_111 (by decide) ?_
      refine lv_goto (tgt := 116) S.1 S.2.1 dX12_signToken_112 (by decide) ?_
      exact T12_signToken_116 S hr hlo  f I (lv_sub hl [1, 0] rfl)
set_option maxHeartbeats 4000000 in
set_option maxRecDepth 100000 in
theorem T12_signToken_94 (S : CallFix p m c cX12_signToken 4 s args vX12_signToken RX12) (hr : meth.sig.returnType = none) (hlo : meth.locks = false) {out : PH} {h : PH} {a0 : Nat} {x1 : Int32} (f : F12_signToken_94  h a0 x1 = some out) {H : Heap} {locs : List Loc} (I : ph_I D cy b A fl h s H locs) {ls : Array Slot} (hl : lv_has ls 4 [(0, .ref (b + a0)), (1, .int x1)]) : W p l e ({ frames := 0, cells := 0, slots := 0, locals := 0 } : Room) s m args below meth c H locs 0 0 (MQ below (va_Qv (fun (u : PH) => u = out) (ph_B D cy b A fl) A) args s 0 0 A) (F0 m 94 ls []) := by
  unfold F12_signToken_94 at f
  refine lv_iconst (v := 0) S.1 S.2.1 dX12_signToken_94 (by decide) ?_
  exact T12_signToken_95 S hr hlo  f I (lv_sub hl [0, 1] rfl)
set_option maxHeartbeats 4000000 in
set_option maxRecDepth 100000 in
theorem T12_signToken_74 (S : CallFix p m c cX12_signToken 4 s args vX12_signToken RX12) (hr : meth.sig.returnType = none) (hlo : meth.locks = false) {out : PH} {h : PH} {a0 : Nat} {s0 : Int32} (f : F12_signToken_74  h a0 s0 = some out) {H : Heap} {locs : List Loc} (I : ph_I D cy b A fl h s H locs) {ls : Array Slot} (hl : lv_has ls 4 [(0, .ref (b + a0))]) : W p l e ({ frames := 0, cells := 0, slots := 0, locals := 0 } : Room) s m args below meth c H locs 0 0 (MQ below (va_Qv (fun (u : PH) => u = out) (ph_B D cy b A fl) A) args s 0 0 A) (F0 m 74 ls [.int s0]) := by
  unfold F12_signToken_74 at f
  refine lv_istore_n (lv' := [(1, .int s0), (0, .ref (b + a0))]) S.1 S.2.1 dX12_signToken_74 rfl hl (by decide) rfl (fun ls hl => ?_)
  refine lv_aload_n S.1 S.2.1 dX12_signToken_75 rfl (lv_at hl 1 rfl) ?_
  obtain ⟨v1, e2, f⟩ := ob f
  refine o_gI S lf12_signToken_183 I e2 dX12_signToken_76 ?_
  refine lv_bipush (v := 61) S.1 S.2.1 dX12_signToken_79 (by decide) ?_
  refine lv_icmp_eq (tgt := 94) S.1 S.2.1 dX12_signToken_81 (by decide) (fun q3 => ?_) (fun q3 => ?_)
  · have f := (if_pos q3).symm.trans f
    exact T12_signToken_94 S hr hlo  f I (lv_sub hl [1, 0] rfl)
  · have f := (if_neg q3).symm.trans f
    refine lv_iload_n S.1 S.2.1 dX12_signToken_84 rfl (lv_at hl 0 rfl) ?_
    refine lv_bipush (v := 61) S.1 S.2.1 dX12_signToken_85 (by decide) ?_
    refine lv_icmp_ne (tgt := 94) S.1 S.2.1 dX12_signToken_87 (by decide) (fun q4 => ?_) (fun q4 => ?_)
    · have f := (if_neg q4).symm.trans f
      exact T12_signToken_94 S hr hlo  f I (lv_sub hl [1, 0] rfl)
    · have f := (if_pos q4).symm.trans f
      refine lv_iconst (v := 1) S.1 S.2.1 dX12_signToken_90 (by decide) ?_
      refine lv_goto (tgt := 95) S.1 S.2.1 dX12_signToken_91 (by decide) ?_
      exact T12_signToken_95 S hr hlo  f I (lv_sub hl [1, 0] rfl)
set_option maxHeartbeats 4000000 in
set_option maxRecDepth 100000 in
theorem T12_signToken_50 (S : CallFix p m c cX12_signToken 4 s args vX12_signToken RX12) (hr : meth.sig.returnType = none) (hlo : meth.locks = false) {out : PH} {h : PH} {a0 : Nat} (f : F12_signToken_50  h a0 = some out) {H : Heap} {locs : List Loc} (I : ph_I D cy b A fl h s H locs) {ls : Array Slot} (hl : lv_has ls 4 [(0, .ref (b + a0))]) : W p l e ({ frames := 0, cells := 0, slots := 0, locals := 0 } : Room) s m args below meth c H locs 0 0 (MQ below (va_Qv (fun (u : PH) => u = out) (ph_B D cy b A fl) A) args s 0 0 A) (F0 m 50 ls []) := by
  unfold F12_signToken_50 at f
  refine lv_aload_n S.1 S.2.1 dX12_signToken_50 rfl (lv_at hl 0 rfl) ?_
  obtain ⟨v1, e2, f⟩ := ob f
  refine o_gI S lf12_signToken_169 I e2 dX12_signToken_51 ?_
  refine lv_aload_n S.1 S.2.1 dX12_signToken_54 rfl (lv_at hl 0 rfl) ?_
  obtain ⟨v3, e4, f⟩ := ob f
  refine o_gI S lf12_signToken_166 I e4 dX12_signToken_55 ?_
  refine lv_icmp_ge (tgt := 73) S.1 S.2.1 dX12_signToken_58 (by decide) (fun q5 => ?_) (fun q5 => ?_)
  · have f := (if_pos q5).symm.trans f
    refine lv_iconst (v := 0) S.1 S.2.1 dX12_signToken_73 (by decide) ?_
    exact T12_signToken_74 S hr hlo  f I (lv_sub hl [0] rfl)
  · have f := (if_neg q5).symm.trans f
    refine lv_aload_n S.1 S.2.1 dX12_signToken_61 rfl (lv_at hl 0 rfl) ?_
    obtain ⟨r6, e7, f⟩ := ob f
    refine o_gR S lf12_signToken_7 I e7 dX12_signToken_62 ?_
    refine lv_aload_n S.1 S.2.1 dX12_signToken_65 rfl (lv_at hl 0 rfl) ?_
    obtain ⟨v8, e9, f⟩ := ob f
    refine o_gI S lf12_signToken_169 I e9 dX12_signToken_66 ?_
    obtain ⟨v11, e10, f⟩ := ob f
    refine o_iald S I e10 dX12_signToken_69 ?_
    refine lv_goto (tgt := 74) S.1 S.2.1 dX12_signToken_70 (by decide) ?_
    exact T12_signToken_74 S hr hlo  f I (lv_sub hl [0] rfl)
set_option maxHeartbeats 4000000 in
set_option maxRecDepth 100000 in
theorem T12_signToken_287 (S : CallFix p m c cX12_signToken 4 s args vX12_signToken RX12) (hr : meth.sig.returnType = none) (hlo : meth.locks = false) {out : PH} {h : PH} {s0 : Int32} {u1 : Nat} (f : F12_signToken_287  h s0 u1 = some out) {H : Heap} {locs : List Loc} (I : ph_I D cy b A fl h s H locs) {ls : Array Slot} (hl : lv_has ls 4 []) : W p l e ({ frames := 0, cells := 0, slots := 0, locals := 0 } : Room) s m args below meth c H locs 0 0 (MQ below (va_Qv (fun (u : PH) => u = out) (ph_B D cy b A fl) A) args s 0 0 A) (F0 m 287 ls [.int s0, .ref (b + u1)]) := by
  unfold F12_signToken_287 at f
  obtain ⟨h1, e2, f⟩ := ob f
  refine o_pI S lp12_signToken_172 I e2 dX12_signToken_287 (fun H locs I => ?_)
  exact o_vret S hr hlo I f dX12_signToken_290
set_option maxHeartbeats 4000000 in
set_option maxRecDepth 100000 in
theorem T12_signToken_275 (S : CallFix p m c cX12_signToken 4 s args vX12_signToken RX12) (hr : meth.sig.returnType = none) (hlo : meth.locks = false) {out : PH} {h : PH} {a0 : Nat} {s0 : Int32} (f : F12_signToken_275  h a0 s0 = some out) {H : Heap} {locs : List Loc} (I : ph_I D cy b A fl h s H locs) {ls : Array Slot} (hl : lv_has ls 4 [(0, .ref (b + a0))]) : W p l e ({ frames := 0, cells := 0, slots := 0, locals := 0 } : Room) s m args below meth c H locs 0 0 (MQ below (va_Qv (fun (u : PH) => u = out) (ph_B D cy b A fl) A) args s 0 0 A) (F0 m 275 ls [.int s0]) := by
  unfold F12_signToken_275 at f
  refine lv_istore_n (lv' := [(1, .int s0), (0, .ref (b + a0))]) S.1 S.2.1 dX12_signToken_275 rfl hl (by decide) rfl (fun ls hl => ?_)
  refine lv_aload_n S.1 S.2.1 dX12_signToken_276 rfl (lv_at hl 1 rfl) ?_
  refine lv_iload_n S.1 S.2.1 dX12_signToken_277 rfl (lv_at hl 0 rfl) ?_
  refine lv_if_eq (tgt := 285) S.1 S.2.1 dX12_signToken_278 (by decide) (fun q1 => ?_) (fun q1 => ?_)
  · have f := (if_pos q1).symm.trans f
    refine lv_bipush (v := 6) S.1 S.2.1 dX12_signToken_285 (by decide) ?_
    exact T12_signToken_287 S hr hlo  f I (lv_sub hl [] rfl)
  · have f := (if_neg q1).symm.trans f
    refine lv_iconst (v := 4) S.1 S.2.1 dX12_signToken_281 (by decide) ?_
    refine lv_goto (tgt := 287) S.1 S.2.1 dX12_signToken_282 (by decide) ?_
    exact T12_signToken_287 S hr hlo  f I (lv_sub hl [] rfl)
set_option maxHeartbeats 4000000 in
set_option maxRecDepth 100000 in
theorem T12_signToken_270 (S : CallFix p m c cX12_signToken 4 s args vX12_signToken RX12) (hr : meth.sig.returnType = none) (hlo : meth.locks = false) {out : PH} {h : PH} {a0 : Nat} (f : F12_signToken_270  h a0 = some out) {H : Heap} {locs : List Loc} (I : ph_I D cy b A fl h s H locs) {ls : Array Slot} (hl : lv_has ls 4 [(0, .ref (b + a0))]) : W p l e ({ frames := 0, cells := 0, slots := 0, locals := 0 } : Room) s m args below meth c H locs 0 0 (MQ below (va_Qv (fun (u : PH) => u = out) (ph_B D cy b A fl) A) args s 0 0 A) (F0 m 270 ls []) := by
  unfold F12_signToken_270 at f
  refine lv_iconst (v := 1) S.1 S.2.1 dX12_signToken_270 (by decide) ?_
  refine lv_goto (tgt := 275) S.1 S.2.1 dX12_signToken_271 (by decide) ?_
  exact T12_signToken_275 S hr hlo  f I (lv_sub hl [0] rfl)
set_option maxHeartbeats 4000000 in
set_option maxRecDepth 100000 in
theorem T12_signToken_0 (S : CallFix p m c cX12_signToken 4 s args vX12_signToken RX12) (hr : meth.sig.returnType = none) (hlo : meth.locks = false) {out : PH} {h : PH} {a0 : Nat} (f : F12_signToken_0  h a0 = some out) {H : Heap} {locs : List Loc} (I : ph_I D cy b A fl h s H locs) {ls : Array Slot} (hl : lv_has ls 4 [(0, .ref (b + a0))]) : W p l e ({ frames := 0, cells := 0, slots := 0, locals := 0 } : Room) s m args below meth c H locs 0 0 (MQ below (va_Qv (fun (u : PH) => u = out) (ph_B D cy b A fl) A) args s 0 0 A) (F0 m 0 ls []) := by
  unfold F12_signToken_0 at f
  refine lv_aload_n S.1 S.2.1 dX12_signToken_0 rfl (lv_at hl 0 rfl) ?_
  refine lv_aload_n S.1 S.2.1 dX12_signToken_1 rfl (lv_at hl 0 rfl) ?_
  obtain ⟨r1, e2, f⟩ := ob f
  refine o_gR S lf12_signToken_7 I e2 dX12_signToken_2 ?_
  refine lv_aload_n S.1 S.2.1 dX12_signToken_5 rfl (lv_at hl 0 rfl) ?_
  obtain ⟨v3, e4, f⟩ := ob f
  refine o_gI S lf12_signToken_169 I e4 dX12_signToken_6 ?_
  obtain ⟨v6, e5, f⟩ := ob f
  refine o_iald S I e5 dX12_signToken_9 ?_
  obtain ⟨h7, e8, f⟩ := ob f
  refine o_pI S lp12_signToken_183 I e8 dX12_signToken_10 (fun H locs I => ?_)
  refine lv_aload_n S.1 S.2.1 dX12_signToken_13 rfl (lv_at hl 0 rfl) ?_
  refine lv_dup S.1 S.2.1 dX12_signToken_14 rfl ?_
  obtain ⟨v9, e10, f⟩ := ob f
  refine o_gI S lf12_signToken_169 I e10 dX12_signToken_15 ?_
  refine lv_iconst (v := 1) S.1 S.2.1 dX12_signToken_18 (by decide) ?_
  refine lv_iadd S.1 S.2.1 dX12_signToken_19 ?_
  obtain ⟨h11, e12, f⟩ := ob f
  refine o_pI S lp12_signToken_169 I e12 dX12_signToken_20 (fun H locs I => ?_)
  refine lv_aload_n S.1 S.2.1 dX12_signToken_23 rfl (lv_at hl 0 rfl) ?_
  obtain ⟨v13, e14, f⟩ := ob f
  refine o_gI S lf12_signToken_183 I e14 dX12_signToken_24 ?_
  refine lv_bipush (v := 60) S.1 S.2.1 dX12_signToken_27 (by decide) ?_
  refine lv_icmp_eq (tgt := 50) S.1 S.2.1 dX12_signToken_29 (by decide) (fun q15 => ?_) (fun q15 => ?_)
  · have f := (if_pos q15).symm.trans f
    exact T12_signToken_50 S hr hlo  f I (lv_sub hl [0] rfl)
  · have f := (if_neg q15).symm.trans f
    refine lv_aload_n S.1 S.2.1 dX12_signToken_32 rfl (lv_at hl 0 rfl) ?_
    obtain ⟨v16, e17, f⟩ := ob f
    refine o_gI S lf12_signToken_183 I e17 dX12_signToken_33 ?_
    refine lv_bipush (v := 62) S.1 S.2.1 dX12_signToken_36 (by decide) ?_
    refine lv_icmp_eq (tgt := 50) S.1 S.2.1 dX12_signToken_38 (by decide) (fun q18 => ?_) (fun q18 => ?_)
    · have f := (if_pos q18).symm.trans f
      exact T12_signToken_50 S hr hlo  f I (lv_sub hl [0] rfl)
    · have f := (if_neg q18).symm.trans f
      refine lv_aload_n S.1 S.2.1 dX12_signToken_41 rfl (lv_at hl 0 rfl) ?_
      obtain ⟨v19, e20, f⟩ := ob f
      refine o_gI S lf12_signToken_183 I e20 dX12_signToken_42 ?_
      refine lv_bipush (v := 61) S.1 S.2.1 dX12_signToken_45 (by decide) ?_
      refine lv_icmp_ne (tgt := 198) S.1 S.2.1 dX12_signToken_47 (by decide) (fun q21 => ?_) (fun q21 => ?_)
      · have f := (if_neg q21).symm.trans f
        refine lv_aload_n S.1 S.2.1 dX12_signToken_198 rfl (lv_at hl 0 rfl) ?_
        obtain ⟨v22, e23, f⟩ := ob f
        refine o_gI S lf12_signToken_183 I e23 dX12_signToken_199 ?_
        refine lv_bipush (v := 59) S.1 S.2.1 dX12_signToken_202 (by decide) ?_
        refine lv_icmp_eq (tgt := 270) S.1 S.2.1 dX12_signToken_204 (by decide) (fun q24 => ?_) (fun q24 => ?_)
        · have f := (if_pos q24).symm.trans f
          exact T12_signToken_270 S hr hlo  f I (lv_sub hl [0] rfl)
        · have f := (if_neg q24).symm.trans f
          refine lv_aload_n S.1 S.2.1 dX12_signToken_207 rfl (lv_at hl 0 rfl) ?_
          obtain ⟨v25, e26, f⟩ := ob f
          refine o_gI S lf12_signToken_183 I e26 dX12_signToken_208 ?_
          refine lv_bipush (v := 40) S.1 S.2.1 dX12_signToken_211 (by decide) ?_
          refine lv_icmp_eq (tgt := 270) S.1 S.2.1 dX12_signToken_213 (by decide) (fun q27 => ?_) (fun q27 => ?_)
          · have f := (if_pos q27).symm.trans f
            exact T12_signToken_270 S hr hlo  f I (lv_sub hl [0] rfl)
          · have f := (if_neg q27).symm.trans f
            refine lv_aload_n S.1 S.2.1 dX12_signToken_216 rfl (lv_at hl 0 rfl) ?_
            obtain ⟨v28, e29, f⟩ := ob f
            refine o_gI S lf12_signToken_183 I e29 dX12_signToken_217 ?_
            refine lv_bipush (v := 41) S.1 S.2.1 dX12_signToken_220 (by decide) ?_
            refine lv_icmp_eq (tgt := 270) S.1 S.2.1 dX12_signToken_222 (by decide) (fun q30 => ?_) (fun q30 => ?_)
            · have f := (if_pos q30).symm.trans f
              exact T12_signToken_270 S hr hlo  f I (lv_sub hl [0] rfl)
            · have f := (if_neg q30).symm.trans f
              refine lv_aload_n S.1 S.2.1 dX12_signToken_225 rfl (lv_at hl 0 rfl) ?_
              obtain ⟨v31, e32, f⟩ := ob f
              refine o_gI S lf12_signToken_183 I e32 dX12_signToken_226 ?_
              refine lv_bipush (v := 43) S.1 S.2.1 dX12_signToken_229 (by decide) ?_
              refine lv_icmp_eq (tgt := 270) S.1 S.2.1 dX12_signToken_231 (by decide) (fun q33 => ?_) (fun q33 => ?_)
              · have f := (if_pos q33).symm.trans f
                exact T12_signToken_270 S hr hlo  f I (lv_sub hl [0] rfl)
              · have f := (if_neg q33).symm.trans f
                refine lv_aload_n S.1 S.2.1 dX12_signToken_234 rfl (lv_at hl 0 rfl) ?_
                obtain ⟨v34, e35, f⟩ := ob f
                refine o_gI S lf12_signToken_183 I e35 dX12_signToken_235 ?_
                refine lv_bipush (v := 45) S.1 S.2.1 dX12_signToken_238 (by decide) ?_
                refine lv_icmp_eq (tgt := 270) S.1 S.2.1 dX12_signToken_240 (by decide) (fun q36 => ?_) (fun q36 => ?_)
                · have f := (if_pos q36).symm.trans f
                  exact T12_signToken_270 S hr hlo  f I (lv_sub hl [0] rfl)
                · have f := (if_neg q36).symm.trans f
                  refine lv_aload_n S.1 S.2.1 dX12_signToken_243 rfl (lv_at hl 0 rfl) ?_
                  obtain ⟨v37, e38, f⟩ := ob f
                  refine o_gI S lf12_signToken_183 I e38 dX12_signToken_244 ?_
                  refine lv_bipush (v := 42) S.1 S.2.1 dX12_signToken_247 (by decide) ?_
                  refine lv_icmp_eq (tgt := 270) S.1 S.2.1 dX12_signToken_249 (by decide) (fun q39 => ?_) (fun q39 => ?_)
                  · have f := (if_pos q39).symm.trans f
                    exact T12_signToken_270 S hr hlo  f I (lv_sub hl [0] rfl)
                  · have f := (if_neg q39).symm.trans f
                    refine lv_aload_n S.1 S.2.1 dX12_signToken_252 rfl (lv_at hl 0 rfl) ?_
                    obtain ⟨v40, e41, f⟩ := ob f
                    refine o_gI S lf12_signToken_183 I e41 dX12_signToken_253 ?_
                    refine lv_bipush (v := 47) S.1 S.2.1 dX12_signToken_256 (by decide) ?_
                    refine lv_icmp_eq (tgt := 270) S.1 S.2.1 dX12_signToken_258 (by decide) (fun q42 => ?_) (fun q42 => ?_)
                    · have f := (if_pos q42).symm.trans f
                      exact T12_signToken_270 S hr hlo  f I (lv_sub hl [0] rfl)
                    · have f := (if_neg q42).symm.trans f
                      refine lv_aload_n S.1 S.2.1 dX12_signToken_261 rfl (lv_at hl 0 rfl) ?_
                      obtain ⟨v43, e44, f⟩ := ob f
                      refine o_gI S lf12_signToken_183 I e44 dX12_signToken_262 ?_
                      refine lv_bipush (v := 37) S.1 S.2.1 dX12_signToken_265 (by decide) ?_
                      refine lv_icmp_ne (tgt := 274) S.1 S.2.1 dX12_signToken_267 (by decide) (fun q45 => ?_) (fun q45 => ?_)
                      · have f := (if_neg q45).symm.trans f
                        refine lv_iconst (v := 0) S.1 S.2.1 dX12_signToken_274 (by decide) ?_
                        exact T12_signToken_275 S hr hlo  f I (lv_sub hl [0] rfl)
                      · have f := (if_pos q45).symm.trans f
                        exact T12_signToken_270 S hr hlo  f I (lv_sub hl [0] rfl)
      · have f := (if_pos q21).symm.trans f
        exact T12_signToken_50 S hr hlo  f I (lv_sub hl [0] rfl)
theorem M12_signToken (l : Launch) (D : va_G) (cy : Nat → ClassId) (b : Nat) (A : Nat → Prop) (fl : Bool) {h : PH} {a0 : Nat} {out : PH} (f : F12_signToken h a0 = some out) : Met l yX12_signToken vX12_signToken ({ frames := 0, cells := 0, slots := 0, locals := 0 } : Room) (va_Pc [.ref (b + a0)] (ph_B D cy b A fl h)) (va_Qv (fun (u : PH) => u = out) (ph_B D cy b A fl) A) 0 0 A :=
  o_met (by decide) rfl (Nat.le_of_ble_eq_true rfl) rfl (fun p e s m below meth c S hr hlo hnm ls hl I => T12_signToken_0 S hr hlo ((gd f).2) I (lv_sub hl [0] rfl))
def vX12_token : List Cond := .code yX12_token cX12_token 1 none :: TB
theorem lp12_token_183 : Pl vX12_token RX12 183 12 9 .int := ⟨RX12, TX12, 87, tyX12, rfl, by decide, (fun w h9 => List.mem_cons_of_mem _ (wC_wsX120 w h9)), (List.mem_cons_of_mem _ wT_27_2), tyX12_ok, nmX12, rfl, rfl⟩
theorem lf12_token_169 : Fl vX12_token RX12 169 12 7 := ⟨RX12, TX12, 87, rfl, by decide, (fun w h9 => List.mem_cons_of_mem _ (wC_wsX120 w h9)), (List.mem_cons_of_mem _ wT_26_19)⟩
theorem lp12_token_169 : Pl vX12_token RX12 169 12 7 .int := ⟨RX12, TX12, 87, tyX12, rfl, by decide, (fun w h9 => List.mem_cons_of_mem _ (wC_wsX120 w h9)), (List.mem_cons_of_mem _ wT_26_19), tyX12_ok, nmX12, rfl, rfl⟩
theorem gX12_token_X12_isDigit : GoodIn vX12_token (wsV RX12 189 RX12 yX12_isDigit vX12_isDigit) := gV_of wT_27_16 wT_27_17 wT_27_18 wT_1_5 wT_27_19
theorem lf12_token_183 : Fl vX12_token RX12 183 12 9 := ⟨RX12, TX12, 87, rfl, by decide, (fun w h9 => List.mem_cons_of_mem _ (wC_wsX120 w h9)), (List.mem_cons_of_mem _ wT_27_2)⟩
theorem lf12_token_7 : Fl vX12_token RX12 7 12 0 := ⟨RX12, TX12, 87, rfl, by decide, (fun w h9 => List.mem_cons_of_mem _ (wC_wsX120 w h9)), (List.mem_cons_of_mem _ wT_9_21)⟩
theorem lp12_token_172 : Pl vX12_token RX12 172 12 8 .int := ⟨RX12, TX12, 87, tyX12, rfl, by decide, (fun w h9 => List.mem_cons_of_mem _ (wC_wsX120 w h9)), (List.mem_cons_of_mem _ wT_26_20), tyX12_ok, nmX12, rfl, rfl⟩
theorem lf12_token_172 : Fl vX12_token RX12 172 12 8 := ⟨RX12, TX12, 87, rfl, by decide, (fun w h9 => List.mem_cons_of_mem _ (wC_wsX120 w h9)), (List.mem_cons_of_mem _ wT_26_20)⟩
theorem lf12_token_163 : Fl vX12_token RX12 163 12 10 := ⟨RX12, TX12, 87, rfl, by decide, (fun w h9 => List.mem_cons_of_mem _ (wC_wsX120 w h9)), (List.mem_cons_of_mem _ wT_27_1)⟩
theorem gX12_token_X12_packed : GoodIn vX12_token (wsV RX12 186 RX12 yX12_packed vX12_packed) := gV_of wT_27_12 wT_27_13 wT_27_14 wT_1_5 wT_27_15
theorem gX12_token_X12_isSmall : GoodIn vX12_token (wsV RX12 175 RX12 yX12_isSmall vX12_isSmall) := gV_of wT_27_4 wT_27_5 wT_27_6 wT_1_5 wT_27_7
theorem gX12_token_X12_wordAt : GoodIn vX12_token (wsV RX12 179 RX12 yX12_wordAt vX12_wordAt) := gV_of wT_27_8 wT_27_9 wT_27_10 wT_1_5 wT_27_11
theorem lp12_token_163 : Pl vX12_token RX12 163 12 10 .int := ⟨RX12, TX12, 87, tyX12, rfl, by decide, (fun w h9 => List.mem_cons_of_mem _ (wC_wsX120 w h9)), (List.mem_cons_of_mem _ wT_27_1), tyX12_ok, nmX12, rfl, rfl⟩
theorem lf12_token_166 : Fl vX12_token RX12 166 12 6 := ⟨RX12, TX12, 87, rfl, by decide, (fun w h9 => List.mem_cons_of_mem _ (wC_wsX120 w h9)), (List.mem_cons_of_mem _ wT_26_17)⟩
theorem gX12_token_X12_signToken : GoodIn vX12_token (wsV RX12 193 RX12 yX12_signToken vX12_signToken) := gV_of wT_27_20 wT_27_21 wT_27_22 wT_1_5 wT_27_23
theorem cd12_token : Cd yX12_token 0 := ⟨by decide, by decide, by decide +kernel⟩
set_option maxHeartbeats 4000000 in
set_option maxRecDepth 100000 in
theorem T12_token_261 (S : CallFix p m c cX12_token 1 s args vX12_token RX12) (hr : meth.sig.returnType = none) (hlo : meth.locks = false) {out : PH} {k213 : PH → Nat → Option (PH)} (hk213 : ∀ {h : PH} {a0 : Nat}, k213 h a0 = some out → ∀ (H : Heap) (locs : List Loc), ph_I D cy b A fl h s H locs → ∀ (ls : Array Slot), lv_has ls 1 [(0, .ref (b + a0))] → W p l e ({ frames := 1, cells := 0, slots := 0, locals := 27 } : Room) s m args below meth c H locs 0 0 (MQ below (va_Qv (fun (u : PH) => u = out) (ph_B D cy b A fl) A) args s 0 0 A) (F0 m 213 ls [])) {h : PH} {a0 : Nat} {s0 : Int32} {u1 : Nat} (f : F12_token_261 k213 h a0 s0 u1 = some out) {H : Heap} {locs : List Loc} (I : ph_I D cy b A fl h s H locs) {ls : Array Slot} (hl : lv_has ls 1 [(0, .ref (b + a0))]) : W p l e ({ frames := 1, cells := 0, slots := 0, locals := 27 } : Room) s m args below meth c H locs 0 0 (MQ below (va_Qv (fun (u : PH) => u = out) (ph_B D cy b A fl) A) args s 0 0 A) (F0 m 261 ls [.int s0, .ref (b + u1)]) := by
  unfold F12_token_261 at f
  obtain ⟨h1, e2, f⟩ := ob f
  refine o_pI S lp12_token_183 I e2 dX12_token_261 (fun H locs I => ?_)
  refine lv_aload_n S.1 S.2.1 dX12_token_264 rfl (lv_at hl 0 rfl) ?_
  refine lv_dup S.1 S.2.1 dX12_token_265 rfl ?_
  obtain ⟨v3, e4, f⟩ := ob f
  refine o_gI S lf12_token_169 I e4 dX12_token_266 ?_
  refine lv_iconst (v := 1) S.1 S.2.1 dX12_token_269 (by decide) ?_
  refine lv_iadd S.1 S.2.1 dX12_token_270 ?_
  obtain ⟨h5, e6, f⟩ := ob f
  refine o_pI S lp12_token_169 I e6 dX12_token_271 (fun H locs I => ?_)
  refine lv_goto (tgt := 213) S.1 S.2.1 dX12_token_274 (by decide) ?_
  exact hk213 f _ _ I _ (lv_sub hl [0] rfl)
set_option maxHeartbeats 4000000 in
set_option maxRecDepth 100000 in
theorem T12_token_213 (S : CallFix p m c cX12_token 1 s args vX12_token RX12) (hr : meth.sig.returnType = none) (hlo : meth.locks = false) {out : PH} : ∀ (n : Nat) {h : PH} {a0 : Nat} (f : F12_token_213  n h a0 = some out) {H : Heap} {locs : List Loc} (I : ph_I D cy b A fl h s H locs) {ls : Array Slot} (hl : lv_has ls 1 [(0, .ref (b + a0))]), W p l e ({ frames := 1, cells := 0, slots := 0, locals := 27 } : Room) s m args below meth c H locs 0 0 (MQ below (va_Qv (fun (u : PH) => u = out) (ph_B D cy b A fl) A) args s 0 0 A) (F0 m 213 ls []) := by
  intro n
  induction n with
  | zero => intro h a0 f; rw [F12_token_213] at f; cases f
  | succ n ih =>
    intro h a0 f H locs I ls hl
    rw [F12_token_213] at f
    refine lv_aload_n S.1 S.2.1 dX12_token_213 rfl (lv_at hl 0 rfl) ?_
    refine lv_aload_n S.1 S.2.1 dX12_token_214 rfl (lv_at hl 0 rfl) ?_
    obtain ⟨v1, e2, f⟩ := ob f
    refine o_gI S lf12_token_169 I e2 dX12_token_215 ?_
    obtain ⟨o3, e4, f⟩ := ob f
    refine o_Vi S (As := [.int v1]) (rest := []) (ci := 12) (M12_isDigit l D cy b A fl e4) gX12_token_X12_isDigit rfl rfl rfl cd12_isDigit ⟨Nat.le_of_ble_eq_true rfl, Nat.le_of_ble_eq_true rfl⟩ I (gd e4).1 clX12 rfl rfl hl.1 rfl (Nat.le_of_ble_eq_true rfl) dX12_token_218 ⟨Nat.le_of_ble_eq_true rfl, Nat.le_of_ble_eq_true rfl⟩ (fun H locs I => ?_)
    refine lv_if_eq (tgt := 281) S.1 S.2.1 dX12_token_221 (by decide) (fun q5 => ?_) (fun q5 => ?_)
    · have f := (if_pos q5).symm.trans f
      exact o_vret S hr hlo I f dX12_token_281
    · have f := (if_neg q5).symm.trans f
      refine lv_aload_n S.1 S.2.1 dX12_token_224 rfl (lv_at hl 0 rfl) ?_
      refine lv_aload_n S.1 S.2.1 dX12_token_225 rfl (lv_at hl 0 rfl) ?_
      obtain ⟨v6, e7, f⟩ := ob f
      refine o_gI S lf12_token_183 I e7 dX12_token_226 ?_
      refine lv_ldc (v := 99999) S.1 S.2.1 S.2.2.2.1 (S.2.2.2.2 _ (List.mem_cons_of_mem _ wT_27_3)) dX12_token_229 ?_
      refine lv_icmp_le (tgt := 241) S.1 S.2.1 dX12_token_231 (by decide) (fun q8 => ?_) (fun q8 => ?_)
      · have f := (if_pos q8).symm.trans f
        refine lv_bipush (v := 10) S.1 S.2.1 dX12_token_241 (by decide) ?_
        refine lv_aload_n S.1 S.2.1 dX12_token_243 rfl (lv_at hl 0 rfl) ?_
        obtain ⟨v9, e10, f⟩ := ob f
        refine o_gI S lf12_token_183 I e10 dX12_token_244 ?_
        refine lv_imul S.1 S.2.1 dX12_token_247 ?_
        refine lv_aload_n S.1 S.2.1 dX12_token_248 rfl (lv_at hl 0 rfl) ?_
        obtain ⟨r11, e12, f⟩ := ob f
        refine o_gR S lf12_token_7 I e12 dX12_token_249 ?_
        refine lv_aload_n S.1 S.2.1 dX12_token_252 rfl (lv_at hl 0 rfl) ?_
        obtain ⟨v13, e14, f⟩ := ob f
        refine o_gI S lf12_token_169 I e14 dX12_token_253 ?_
        obtain ⟨v16, e15, f⟩ := ob f
        refine o_iald S I e15 dX12_token_256 ?_
        refine lv_iadd S.1 S.2.1 dX12_token_257 ?_
        refine lv_bipush (v := 48) S.1 S.2.1 dX12_token_258 (by decide) ?_
        refine lv_isub S.1 S.2.1 dX12_token_260 ?_
        exact T12_token_261 S hr hlo (fun f _ _ I _ hl => ih f I hl) f I (lv_sub hl [0] rfl)
      · have f := (if_neg q8).symm.trans f
        refine lv_aload_n S.1 S.2.1 dX12_token_234 rfl (lv_at hl 0 rfl) ?_
        obtain ⟨v17, e18, f⟩ := ob f
        refine o_gI S lf12_token_183 I e18 dX12_token_235 ?_
        refine lv_goto (tgt := 261) S.1 S.2.1 dX12_token_238 (by decide) ?_
        exact T12_token_261 S hr hlo (fun f _ _ I _ hl => ih f I hl) f I (lv_sub hl [0] rfl)
set_option maxHeartbeats 4000000 in
set_option maxRecDepth 100000 in
theorem T12_token_162 (S : CallFix p m c cX12_token 1 s args vX12_token RX12) (hr : meth.sig.returnType = none) (hlo : meth.locks = false) {out : PH} {h : PH} {a0 : Nat} {s0 : Int32} {u1 : Nat} (f : F12_token_162  h a0 s0 u1 = some out) {H : Heap} {locs : List Loc} (I : ph_I D cy b A fl h s H locs) {ls : Array Slot} (hl : lv_has ls 1 [(0, .ref (b + a0))]) : W p l e ({ frames := 1, cells := 0, slots := 0, locals := 27 } : Room) s m args below meth c H locs 0 0 (MQ below (va_Qv (fun (u : PH) => u = out) (ph_B D cy b A fl) A) args s 0 0 A) (F0 m 162 ls [.int s0, .ref (b + u1)]) := by
  unfold F12_token_162 at f
  obtain ⟨h1, e2, f⟩ := ob f
  refine o_pI S lp12_token_172 I e2 dX12_token_162 (fun H locs I => ?_)
  refine lv_aload_n S.1 S.2.1 dX12_token_165 rfl (lv_at hl 0 rfl) ?_
  obtain ⟨v3, e4, f⟩ := ob f
  refine o_gI S lf12_token_172 I e4 dX12_token_166 ?_
  refine lv_iconst (v := 2) S.1 S.2.1 dX12_token_169 (by decide) ?_
  refine lv_icmp_ne (tgt := 281) S.1 S.2.1 dX12_token_170 (by decide) (fun q5 => ?_) (fun q5 => ?_)
  · have f := (if_neg q5).symm.trans f
    exact o_vret S hr hlo I f dX12_token_281
  · have f := (if_pos q5).symm.trans f
    refine lv_aload_n S.1 S.2.1 dX12_token_173 rfl (lv_at hl 0 rfl) ?_
    refine lv_aload_n S.1 S.2.1 dX12_token_174 rfl (lv_at hl 0 rfl) ?_
    refine lv_aload_n S.1 S.2.1 dX12_token_175 rfl (lv_at hl 0 rfl) ?_
    obtain ⟨v6, e7, f⟩ := ob f
    refine o_gI S lf12_token_163 I e7 dX12_token_176 ?_
    refine lv_aload_n S.1 S.2.1 dX12_token_179 rfl (lv_at hl 0 rfl) ?_
    obtain ⟨v8, e9, f⟩ := ob f
    refine o_gI S lf12_token_169 I e9 dX12_token_180 ?_
    obtain ⟨o10, e11, f⟩ := ob f
    refine o_Vi S (As := [.int v6, .int v8]) (rest := [.ref (b + a0)]) (ci := 12) (M12_packed l D cy b A fl e11) gX12_token_X12_packed rfl rfl rfl cd12_packed ⟨Nat.le_of_ble_eq_true rfl, Nat.le_of_ble_eq_true rfl⟩ I (gd e11).1 clX12 rfl rfl hl.1 rfl (Nat.le_of_ble_eq_true rfl) dX12_token_183 ⟨Nat.le_of_ble_eq_true rfl, Nat.le_of_ble_eq_true rfl⟩ (fun H locs I => ?_)
    obtain ⟨h12, e13, f⟩ := ob f
    refine o_pI S lp12_token_183 I e13 dX12_token_186 (fun H locs I => ?_)
    refine lv_goto (tgt := 281) S.1 S.2.1 dX12_token_189 (by decide) ?_
    exact o_vret S hr hlo I f dX12_token_281
set_option maxHeartbeats 4000000 in
set_option maxRecDepth 100000 in
theorem T12_token_90 (S : CallFix p m c cX12_token 1 s args vX12_token RX12) (hr : meth.sig.returnType = none) (hlo : meth.locks = false) {out : PH} : ∀ (n : Nat) {h : PH} {a0 : Nat} (f : F12_token_90  n h a0 = some out) {H : Heap} {locs : List Loc} (I : ph_I D cy b A fl h s H locs) {ls : Array Slot} (hl : lv_has ls 1 [(0, .ref (b + a0))]), W p l e ({ frames := 1, cells := 0, slots := 0, locals := 27 } : Room) s m args below meth c H locs 0 0 (MQ below (va_Qv (fun (u : PH) => u = out) (ph_B D cy b A fl) A) args s 0 0 A) (F0 m 90 ls []) := by
  intro n
  induction n with
  | zero => intro h a0 f; rw [F12_token_90] at f; cases f
  | succ n ih =>
    intro h a0 f H locs I ls hl
    rw [F12_token_90] at f
    refine lv_aload_n S.1 S.2.1 dX12_token_90 rfl (lv_at hl 0 rfl) ?_
    refine lv_aload_n S.1 S.2.1 dX12_token_91 rfl (lv_at hl 0 rfl) ?_
    obtain ⟨v1, e2, f⟩ := ob f
    refine o_gI S lf12_token_169 I e2 dX12_token_92 ?_
    obtain ⟨o3, e4, f⟩ := ob f
    refine o_Vi S (As := [.int v1]) (rest := []) (ci := 12) (M12_isSmall l D cy b A fl e4) gX12_token_X12_isSmall rfl rfl rfl cd12_isSmall ⟨Nat.le_of_ble_eq_true rfl, Nat.le_of_ble_eq_true rfl⟩ I (gd e4).1 clX12 rfl rfl hl.1 rfl (Nat.le_of_ble_eq_true rfl) dX12_token_95 ⟨Nat.le_of_ble_eq_true rfl, Nat.le_of_ble_eq_true rfl⟩ (fun H locs I => ?_)
    refine lv_if_eq (tgt := 114) S.1 S.2.1 dX12_token_98 (by decide) (fun q5 => ?_) (fun q5 => ?_)
    · have f := (if_pos q5).symm.trans f
      refine lv_aload_n S.1 S.2.1 dX12_token_114 rfl (lv_at hl 0 rfl) ?_
      refine lv_aload_n S.1 S.2.1 dX12_token_115 rfl (lv_at hl 0 rfl) ?_
      refine lv_aload_n S.1 S.2.1 dX12_token_116 rfl (lv_at hl 0 rfl) ?_
      obtain ⟨v6, e7, f⟩ := ob f
      refine o_gI S lf12_token_163 I e7 dX12_token_117 ?_
      refine lv_aload_n S.1 S.2.1 dX12_token_120 rfl (lv_at hl 0 rfl) ?_
      obtain ⟨v8, e9, f⟩ := ob f
      refine o_gI S lf12_token_169 I e9 dX12_token_121 ?_
      obtain ⟨o10, e11, f⟩ := ob f
      refine o_Vi S (As := [.int v6, .int v8]) (rest := [.ref (b + a0)]) (ci := 12) (M12_wordAt l D cy b A fl e11) gX12_token_X12_wordAt rfl rfl rfl cd12_wordAt ⟨Nat.le_of_ble_eq_true rfl, Nat.le_of_ble_eq_true rfl⟩ I (gd e11).1 clX12 rfl rfl hl.1 rfl (Nat.le_of_ble_eq_true rfl) dX12_token_124 ⟨Nat.le_of_ble_eq_true rfl, Nat.le_of_ble_eq_true rfl⟩ (fun H locs I => ?_)
      obtain ⟨h12, e13, f⟩ := ob f
      refine o_pI S lp12_token_183 I e13 dX12_token_127 (fun H locs I => ?_)
      refine lv_aload_n S.1 S.2.1 dX12_token_130 rfl (lv_at hl 0 rfl) ?_
      refine lv_aload_n S.1 S.2.1 dX12_token_131 rfl (lv_at hl 0 rfl) ?_
      obtain ⟨v14, e15, f⟩ := ob f
      refine o_gI S lf12_token_183 I e15 dX12_token_132 ?_
      refine lv_if_lt (tgt := 142) S.1 S.2.1 dX12_token_135 (by decide) (fun q16 => ?_) (fun q16 => ?_)
      · have f := (if_pos q16).symm.trans f
        refine lv_aload_n S.1 S.2.1 dX12_token_142 rfl (lv_at hl 0 rfl) ?_
        obtain ⟨v17, e18, f⟩ := ob f
        refine o_gI S lf12_token_169 I e18 dX12_token_143 ?_
        refine lv_aload_n S.1 S.2.1 dX12_token_146 rfl (lv_at hl 0 rfl) ?_
        obtain ⟨v19, e20, f⟩ := ob f
        refine o_gI S lf12_token_163 I e20 dX12_token_147 ?_
        refine lv_isub S.1 S.2.1 dX12_token_150 ?_
        refine lv_bipush (v := 6) S.1 S.2.1 dX12_token_151 (by decide) ?_
        refine lv_icmp_le (tgt := 161) S.1 S.2.1 dX12_token_153 (by decide) (fun q21 => ?_) (fun q21 => ?_)
        · have f := (if_pos q21).symm.trans f
          refine lv_iconst (v := 2) S.1 S.2.1 dX12_token_161 (by decide) ?_
          exact T12_token_162 S hr hlo  f I (lv_sub hl [0] rfl)
        · have f := (if_neg q21).symm.trans f
          refine lv_bipush (v := 6) S.1 S.2.1 dX12_token_156 (by decide) ?_
          refine lv_goto (tgt := 162) S.1 S.2.1 dX12_token_158 (by decide) ?_
          exact T12_token_162 S hr hlo  f I (lv_sub hl [0] rfl)
      · have f := (if_neg q16).symm.trans f
        refine lv_iconst (v := 1) S.1 S.2.1 dX12_token_138 (by decide) ?_
        refine lv_goto (tgt := 162) S.1 S.2.1 dX12_token_139 (by decide) ?_
        exact T12_token_162 S hr hlo  f I (lv_sub hl [0] rfl)
    · have f := (if_neg q5).symm.trans f
      refine lv_aload_n S.1 S.2.1 dX12_token_101 rfl (lv_at hl 0 rfl) ?_
      refine lv_dup S.1 S.2.1 dX12_token_102 rfl ?_
      obtain ⟨v22, e23, f⟩ := ob f
      refine o_gI S lf12_token_169 I e23 dX12_token_103 ?_
      refine lv_iconst (v := 1) S.1 S.2.1 dX12_token_106 (by decide) ?_
      refine lv_iadd S.1 S.2.1 dX12_token_107 ?_
      obtain ⟨h24, e25, f⟩ := ob f
      refine o_pI S lp12_token_169 I e25 dX12_token_108 (fun H locs I => ?_)
      refine lv_goto (tgt := 90) S.1 S.2.1 dX12_token_111 (by decide) ?_
      exact ih f I (lv_sub hl [0] rfl)
set_option maxHeartbeats 4000000 in
set_option maxRecDepth 100000 in
theorem T12_token_52 (S : CallFix p m c cX12_token 1 s args vX12_token RX12) (hr : meth.sig.returnType = none) (hlo : meth.locks = false) {out : PH} {h : PH} {a0 : Nat} (f : F12_token_52  h a0 = some out) {H : Heap} {locs : List Loc} (I : ph_I D cy b A fl h s H locs) {ls : Array Slot} (hl : lv_has ls 1 [(0, .ref (b + a0))]) : W p l e ({ frames := 1, cells := 0, slots := 0, locals := 27 } : Room) s m args below meth c H locs 0 0 (MQ below (va_Qv (fun (u : PH) => u = out) (ph_B D cy b A fl) A) args s 0 0 A) (F0 m 52 ls []) := by
  unfold F12_token_52 at f
  refine lv_aload_n S.1 S.2.1 dX12_token_52 rfl (lv_at hl 0 rfl) ?_
  refine lv_aload_n S.1 S.2.1 dX12_token_53 rfl (lv_at hl 0 rfl) ?_
  obtain ⟨v1, e2, f⟩ := ob f
  refine o_gI S lf12_token_169 I e2 dX12_token_54 ?_
  obtain ⟨h3, e4, f⟩ := ob f
  refine o_pI S lp12_token_163 I e4 dX12_token_57 (fun H locs I => ?_)
  refine lv_aload_n S.1 S.2.1 dX12_token_60 rfl (lv_at hl 0 rfl) ?_
  obtain ⟨v5, e6, f⟩ := ob f
  refine o_gI S lf12_token_169 I e6 dX12_token_61 ?_
  refine lv_aload_n S.1 S.2.1 dX12_token_64 rfl (lv_at hl 0 rfl) ?_
  obtain ⟨v7, e8, f⟩ := ob f
  refine o_gI S lf12_token_166 I e8 dX12_token_65 ?_
  refine lv_icmp_ne (tgt := 79) S.1 S.2.1 dX12_token_68 (by decide) (fun q9 => ?_) (fun q9 => ?_)
  · have f := (if_neg q9).symm.trans f
    refine lv_aload_n S.1 S.2.1 dX12_token_79 rfl (lv_at hl 0 rfl) ?_
    refine lv_aload_n S.1 S.2.1 dX12_token_80 rfl (lv_at hl 0 rfl) ?_
    obtain ⟨v10, e11, f⟩ := ob f
    refine o_gI S lf12_token_169 I e11 dX12_token_81 ?_
    obtain ⟨o12, e13, f⟩ := ob f
    refine o_Vi S (As := [.int v10]) (rest := []) (ci := 12) (M12_isSmall l D cy b A fl e13) gX12_token_X12_isSmall rfl rfl rfl cd12_isSmall ⟨Nat.le_of_ble_eq_true rfl, Nat.le_of_ble_eq_true rfl⟩ I (gd e13).1 clX12 rfl rfl hl.1 rfl (Nat.le_of_ble_eq_true rfl) dX12_token_84 ⟨Nat.le_of_ble_eq_true rfl, Nat.le_of_ble_eq_true rfl⟩ (fun H locs I => ?_)
    refine lv_if_eq (tgt := 192) S.1 S.2.1 dX12_token_87 (by decide) (fun q14 => ?_) (fun q14 => ?_)
    · have f := (if_pos q14).symm.trans f
      refine lv_aload_n S.1 S.2.1 dX12_token_192 rfl (lv_at hl 0 rfl) ?_
      refine lv_aload_n S.1 S.2.1 dX12_token_193 rfl (lv_at hl 0 rfl) ?_
      obtain ⟨v15, e16, f⟩ := ob f
      refine o_gI S lf12_token_169 I e16 dX12_token_194 ?_
      obtain ⟨o17, e18, f⟩ := ob f
      refine o_Vi S (As := [.int v15]) (rest := []) (ci := 12) (M12_isDigit l D cy b A fl e18) gX12_token_X12_isDigit rfl rfl rfl cd12_isDigit ⟨Nat.le_of_ble_eq_true rfl, Nat.le_of_ble_eq_true rfl⟩ I (gd e18).1 clX12 rfl rfl hl.1 rfl (Nat.le_of_ble_eq_true rfl) dX12_token_197 ⟨Nat.le_of_ble_eq_true rfl, Nat.le_of_ble_eq_true rfl⟩ (fun H locs I => ?_)
      refine lv_if_eq (tgt := 277) S.1 S.2.1 dX12_token_200 (by decide) (fun q19 => ?_) (fun q19 => ?_)
      · have f := (if_pos q19).symm.trans f
        refine lv_aload_n S.1 S.2.1 dX12_token_277 rfl (lv_at hl 0 rfl) ?_
        obtain ⟨o20, e21, f⟩ := ob f
        refine o_Vv S (As := []) (rest := []) (ci := 12) (M12_signToken l D cy b A fl e21) gX12_token_X12_signToken rfl rfl rfl cd12_signToken ⟨Nat.le_of_ble_eq_true rfl, Nat.le_of_ble_eq_true rfl⟩ I (gd e21).1 clX12 rfl rfl hl.1 rfl (Nat.le_of_ble_eq_true rfl) dX12_token_278 ⟨Nat.le_of_ble_eq_true rfl, Nat.le_of_ble_eq_true rfl⟩ (fun H locs I => ?_)
        exact o_vret S hr hlo I f dX12_token_281
      · have f := (if_neg q19).symm.trans f
        refine lv_aload_n S.1 S.2.1 dX12_token_203 rfl (lv_at hl 0 rfl) ?_
        refine lv_iconst (v := 3) S.1 S.2.1 dX12_token_204 (by decide) ?_
        obtain ⟨h22, e23, f⟩ := ob f
        refine o_pI S lp12_token_172 I e23 dX12_token_205 (fun H locs I => ?_)
        refine lv_aload_n S.1 S.2.1 dX12_token_208 rfl (lv_at hl 0 rfl) ?_
        refine lv_iconst (v := 0) S.1 S.2.1 dX12_token_209 (by decide) ?_
        obtain ⟨h24, e25, f⟩ := ob f
        refine o_pI S lp12_token_183 I e25 dX12_token_210 (fun H locs I => ?_)
        exact T12_token_213 S hr hlo  1024 f I (lv_sub hl [0] rfl)
    · have f := (if_neg q14).symm.trans f
      exact T12_token_90 S hr hlo  1024 f I (lv_sub hl [0] rfl)
  · have f := (if_pos q9).symm.trans f
    refine lv_aload_n S.1 S.2.1 dX12_token_71 rfl (lv_at hl 0 rfl) ?_
    refine lv_iconst (v := 0) S.1 S.2.1 dX12_token_72 (by decide) ?_
    obtain ⟨h26, e27, f⟩ := ob f
    refine o_pI S lp12_token_172 I e27 dX12_token_73 (fun H locs I => ?_)
    refine lv_goto (tgt := 281) S.1 S.2.1 dX12_token_76 (by decide) ?_
    exact o_vret S hr hlo I f dX12_token_281
set_option maxHeartbeats 4000000 in
set_option maxRecDepth 100000 in
theorem T12_token_39 (S : CallFix p m c cX12_token 1 s args vX12_token RX12) (hr : meth.sig.returnType = none) (hlo : meth.locks = false) {out : PH} {k0 : PH → Nat → Option (PH)} (hk0 : ∀ {h : PH} {a0 : Nat}, k0 h a0 = some out → ∀ (H : Heap) (locs : List Loc), ph_I D cy b A fl h s H locs → ∀ (ls : Array Slot), lv_has ls 1 [(0, .ref (b + a0))] → W p l e ({ frames := 1, cells := 0, slots := 0, locals := 27 } : Room) s m args below meth c H locs 0 0 (MQ below (va_Qv (fun (u : PH) => u = out) (ph_B D cy b A fl) A) args s 0 0 A) (F0 m 0 ls [])) {h : PH} {a0 : Nat} (f : F12_token_39 k0 h a0 = some out) {H : Heap} {locs : List Loc} (I : ph_I D cy b A fl h s H locs) {ls : Array Slot} (hl : lv_has ls 1 [(0, .ref (b + a0))]) : W p l e ({ frames := 1, cells := 0, slots := 0, locals := 27 } : Room) s m args below meth c H locs 0 0 (MQ below (va_Qv (fun (u : PH) => u = out) (ph_B D cy b A fl) A) args s 0 0 A) (F0 m 39 ls []) := by
  unfold F12_token_39 at f
  refine lv_aload_n S.1 S.2.1 dX12_token_39 rfl (lv_at hl 0 rfl) ?_
  refine lv_dup S.1 S.2.1 dX12_token_40 rfl ?_
  obtain ⟨v1, e2, f⟩ := ob f
  refine o_gI S lf12_token_169 I e2 dX12_token_41 ?_
  refine lv_iconst (v := 1) S.1 S.2.1 dX12_token_44 (by decide) ?_
  refine lv_iadd S.1 S.2.1 dX12_token_45 ?_
  obtain ⟨h3, e4, f⟩ := ob f
  refine o_pI S lp12_token_169 I e4 dX12_token_46 (fun H locs I => ?_)
  refine lv_goto (tgt := 0) S.1 S.2.1 dX12_token_49 (by decide) ?_
  exact hk0 f _ _ I _ (lv_sub hl [0] rfl)
set_option maxHeartbeats 4000000 in
set_option maxRecDepth 100000 in
theorem T12_token_0 (S : CallFix p m c cX12_token 1 s args vX12_token RX12) (hr : meth.sig.returnType = none) (hlo : meth.locks = false) {out : PH} : ∀ (n : Nat) {h : PH} {a0 : Nat} (f : F12_token_0  n h a0 = some out) {H : Heap} {locs : List Loc} (I : ph_I D cy b A fl h s H locs) {ls : Array Slot} (hl : lv_has ls 1 [(0, .ref (b + a0))]), W p l e ({ frames := 1, cells := 0, slots := 0, locals := 27 } : Room) s m args below meth c H locs 0 0 (MQ below (va_Qv (fun (u : PH) => u = out) (ph_B D cy b A fl) A) args s 0 0 A) (F0 m 0 ls []) := by
  intro n
  induction n with
  | zero => intro h a0 f; rw [F12_token_0] at f; cases f
  | succ n ih =>
    intro h a0 f H locs I ls hl
    rw [F12_token_0] at f
    refine lv_aload_n S.1 S.2.1 dX12_token_0 rfl (lv_at hl 0 rfl) ?_
    obtain ⟨v1, e2, f⟩ := ob f
    refine o_gI S lf12_token_169 I e2 dX12_token_1 ?_
    refine lv_aload_n S.1 S.2.1 dX12_token_4 rfl (lv_at hl 0 rfl) ?_
    obtain ⟨v3, e4, f⟩ := ob f
    refine o_gI S lf12_token_166 I e4 dX12_token_5 ?_
    refine lv_icmp_ge (tgt := 52) S.1 S.2.1 dX12_token_8 (by decide) (fun q5 => ?_) (fun q5 => ?_)
    · have f := (if_pos q5).symm.trans f
      exact T12_token_52 S hr hlo  f I (lv_sub hl [0] rfl)
    · have f := (if_neg q5).symm.trans f
      refine lv_aload_n S.1 S.2.1 dX12_token_11 rfl (lv_at hl 0 rfl) ?_
      obtain ⟨r6, e7, f⟩ := ob f
      refine o_gR S lf12_token_7 I e7 dX12_token_12 ?_
      refine lv_aload_n S.1 S.2.1 dX12_token_15 rfl (lv_at hl 0 rfl) ?_
      obtain ⟨v8, e9, f⟩ := ob f
      refine o_gI S lf12_token_169 I e9 dX12_token_16 ?_
      obtain ⟨v11, e10, f⟩ := ob f
      refine o_iald S I e10 dX12_token_19 ?_
      refine lv_bipush (v := 10) S.1 S.2.1 dX12_token_20 (by decide) ?_
      refine lv_icmp_eq (tgt := 39) S.1 S.2.1 dX12_token_22 (by decide) (fun q12 => ?_) (fun q12 => ?_)
      · have f := (if_pos q12).symm.trans f
        exact T12_token_39 S hr hlo (fun f _ _ I _ hl => ih f I hl) f I (lv_sub hl [0] rfl)
      · have f := (if_neg q12).symm.trans f
        refine lv_aload_n S.1 S.2.1 dX12_token_25 rfl (lv_at hl 0 rfl) ?_
        obtain ⟨r13, e14, f⟩ := ob f
        refine o_gR S lf12_token_7 I e14 dX12_token_26 ?_
        refine lv_aload_n S.1 S.2.1 dX12_token_29 rfl (lv_at hl 0 rfl) ?_
        obtain ⟨v15, e16, f⟩ := ob f
        refine o_gI S lf12_token_169 I e16 dX12_token_30 ?_
        obtain ⟨v18, e17, f⟩ := ob f
        refine o_iald S I e17 dX12_token_33 ?_
        refine lv_bipush (v := 32) S.1 S.2.1 dX12_token_34 (by decide) ?_
        refine lv_icmp_ne (tgt := 52) S.1 S.2.1 dX12_token_36 (by decide) (fun q19 => ?_) (fun q19 => ?_)
        · have f := (if_neg q19).symm.trans f
          exact T12_token_52 S hr hlo  f I (lv_sub hl [0] rfl)
        · have f := (if_pos q19).symm.trans f
          exact T12_token_39 S hr hlo (fun f _ _ I _ hl => ih f I hl) f I (lv_sub hl [0] rfl)
theorem M12_token (l : Launch) (D : va_G) (cy : Nat → ClassId) (b : Nat) (A : Nat → Prop) (fl : Bool) {h : PH} {a0 : Nat} {out : PH} (f : F12_token h a0 = some out) : Met l yX12_token vX12_token ({ frames := 1, cells := 0, slots := 0, locals := 27 } : Room) (va_Pc [.ref (b + a0)] (ph_B D cy b A fl h)) (va_Qv (fun (u : PH) => u = out) (ph_B D cy b A fl) A) 0 0 A :=
  o_met (by decide) rfl (Nat.le_of_ble_eq_true rfl) rfl (fun p e s m below meth c S hr hlo hnm ls hl I => T12_token_0 S hr hlo 1024 ((gd f).2) I (lv_sub hl [0] rfl))
def vX12_wrong : List Cond := .code yX12_wrong cX12_wrong 2 (some .boolean) :: TB
theorem lp12_wrong_160 : Pl vX12_wrong RX12 160 12 4 .int := ⟨RX12, TX12, 87, tyX12, rfl, by decide, (fun w h9 => List.mem_cons_of_mem _ (wC_wsX120 w h9)), (List.mem_cons_of_mem _ wT_26_18), tyX12_ok, nmX12, rfl, rfl⟩
theorem lf12_wrong_163 : Fl vX12_wrong RX12 163 12 10 := ⟨RX12, TX12, 87, rfl, by decide, (fun w h9 => List.mem_cons_of_mem _ (wC_wsX120 w h9)), (List.mem_cons_of_mem _ wT_27_1)⟩
theorem lp12_wrong_16 : Pl vX12_wrong RX12 16 12 5 .int := ⟨RX12, TX12, 87, tyX12, rfl, by decide, (fun w h9 => List.mem_cons_of_mem _ (wC_wsX120 w h9)), (List.mem_cons_of_mem _ wT_9_23), tyX12_ok, nmX12, rfl, rfl⟩
theorem cd12_wrong : Cd yX12_wrong 1 := ⟨by decide, by decide, by decide +kernel⟩
set_option maxHeartbeats 4000000 in
set_option maxRecDepth 100000 in
theorem T12_wrong_0 (S : CallFix p m c cX12_wrong 2 s args vX12_wrong RX12) (hr : meth.sig.returnType = (some .boolean)) (hlo : meth.locks = false) {out : Int32 × PH} {h : PH} {a0 : Nat} {x1 : Int32} (f : F12_wrong_0  h a0 x1 = some out) {H : Heap} {locs : List Loc} (I : ph_I D cy b A fl h s H locs) {ls : Array Slot} (hl : lv_has ls 2 [(0, .ref (b + a0)), (1, .int x1)]) : W p l e ({ frames := 0, cells := 0, slots := 0, locals := 0 } : Room) s m args below meth c H locs 0 0 (MQ below (va_Qi (fun (r : Int32) (u : PH) => (r, u) = out) (ph_B D cy b A fl) A) args s 0 0 A) (F0 m 0 ls []) := by
  unfold F12_wrong_0 at f
  refine lv_aload_n S.1 S.2.1 dX12_wrong_0 rfl (lv_at hl 0 rfl) ?_
  refine lv_iload_n S.1 S.2.1 dX12_wrong_1 rfl (lv_at hl 1 rfl) ?_
  obtain ⟨h1, e2, f⟩ := ob f
  refine o_pI S lp12_wrong_160 I e2 dX12_wrong_2 (fun H locs I => ?_)
  refine lv_aload_n S.1 S.2.1 dX12_wrong_5 rfl (lv_at hl 0 rfl) ?_
  refine lv_aload_n S.1 S.2.1 dX12_wrong_6 rfl (lv_at hl 0 rfl) ?_
  obtain ⟨v3, e4, f⟩ := ob f
  refine o_gI S lf12_wrong_163 I e4 dX12_wrong_7 ?_
  obtain ⟨h5, e6, f⟩ := ob f
  refine o_pI S lp12_wrong_16 I e6 dX12_wrong_10 (fun H locs I => ?_)
  refine lv_iconst (v := 0) S.1 S.2.1 dX12_wrong_13 (by decide) ?_
  exact o_zret S hr hlo I f dX12_wrong_14
theorem M12_wrong (l : Launch) (D : va_G) (cy : Nat → ClassId) (b : Nat) (A : Nat → Prop) (fl : Bool) {h : PH} {a0 : Nat} {x1 : Int32} {out : Int32 × PH} (f : F12_wrong h a0 x1 = some out) : Met l yX12_wrong vX12_wrong ({ frames := 0, cells := 0, slots := 0, locals := 0 } : Room) (va_Pc [.ref (b + a0), .int x1] (ph_B D cy b A fl h)) (va_Qi (fun (r : Int32) (u : PH) => (r, u) = out) (ph_B D cy b A fl) A) 0 0 A :=
  o_met (by decide) rfl (Nat.le_of_ble_eq_true rfl) rfl (fun p e s m below meth c S hr hlo hnm ls hl I => T12_wrong_0 S hr hlo ((gd f).2) I (lv_sub hl [0, 1] rfl))
def vX12_isIn : List Cond := .code yX12_isIn cX12_isIn 3 (some .boolean) :: TB
theorem cd12_isIn : Cd yX12_isIn 3 := ⟨by decide, by decide, by decide +kernel⟩
set_option maxHeartbeats 4000000 in
set_option maxRecDepth 100000 in
theorem T12_isIn_0 (S : CallFix p m c cX12_isIn 3 s args vX12_isIn RX12) (hr : meth.sig.returnType = (some .boolean)) (hlo : meth.locks = false) {out : Int32 × PH} {h : PH} {x0 : Int32} {x1 : Int32} {x2 : Int32} (f : F12_isIn_0  h x0 x1 x2 = some out) {H : Heap} {locs : List Loc} (I : ph_I D cy b A fl h s H locs) {ls : Array Slot} (hl : lv_has ls 3 [(0, .int x0), (1, .int x1), (2, .int x2)]) : W p l e ({ frames := 0, cells := 0, slots := 0, locals := 0 } : Room) s m args below meth c H locs 0 0 (MQ below (va_Qi (fun (r : Int32) (u : PH) => (r, u) = out) (ph_B D cy b A fl) A) args s 0 0 A) (F0 m 0 ls []) := by
  unfold F12_isIn_0 at f
  refine lv_iload_n S.1 S.2.1 dX12_isIn_0 rfl (lv_at hl 0 rfl) ?_
  refine lv_iload_n S.1 S.2.1 dX12_isIn_1 rfl (lv_at hl 1 rfl) ?_
  refine lv_icmp_lt (tgt := 14) S.1 S.2.1 dX12_isIn_2 (by decide) (fun q1 => ?_) (fun q1 => ?_)
  · have f := (if_pos q1).symm.trans f
    refine lv_iconst (v := 0) S.1 S.2.1 dX12_isIn_14 (by decide) ?_
    exact o_zret S hr hlo I f dX12_isIn_15
  · have f := (if_neg q1).symm.trans f
    refine lv_iload_n S.1 S.2.1 dX12_isIn_5 rfl (lv_at hl 0 rfl) ?_
    refine lv_iload_n S.1 S.2.1 dX12_isIn_6 rfl (lv_at hl 2 rfl) ?_
    refine lv_icmp_gt (tgt := 14) S.1 S.2.1 dX12_isIn_7 (by decide) (fun q2 => ?_) (fun q2 => ?_)
    · have f := (if_pos q2).symm.trans f
      refine lv_iconst (v := 0) S.1 S.2.1 dX12_isIn_14 (by decide) ?_
      exact o_zret S hr hlo I f dX12_isIn_15
    · have f := (if_neg q2).symm.trans f
      refine lv_iconst (v := 1) S.1 S.2.1 dX12_isIn_10 (by decide) ?_
      refine lv_goto (tgt := 15) S.1 S.2.1 dX12_isIn_11 (by decide) ?_
      exact o_zret S hr hlo I f dX12_isIn_15
theorem M12_isIn (l : Launch) (D : va_G) (cy : Nat → ClassId) (b : Nat) (A : Nat → Prop) (fl : Bool) {h : PH} {x0 : Int32} {x1 : Int32} {x2 : Int32} {out : Int32 × PH} (f : F12_isIn h x0 x1 x2 = some out) : Met l yX12_isIn vX12_isIn ({ frames := 0, cells := 0, slots := 0, locals := 0 } : Room) (va_Pc [.int x0, .int x1, .int x2] (ph_B D cy b A fl h)) (va_Qi (fun (r : Int32) (u : PH) => (r, u) = out) (ph_B D cy b A fl) A) 0 0 A :=
  o_met (by decide) rfl (Nat.le_of_ble_eq_true rfl) rfl (fun p e s m below meth c S hr hlo hnm ls hl I => T12_isIn_0 S hr hlo (f) I (lv_sub hl [0, 1, 2] rfl))
def vX12_number : List Cond := .code yX12_number cX12_number 3 (some .boolean) :: TB
theorem lf12_number_172 : Fl vX12_number RX12 172 12 8 := ⟨RX12, TX12, 87, rfl, by decide, (fun w h9 => List.mem_cons_of_mem _ (wC_wsX120 w h9)), (List.mem_cons_of_mem _ wT_26_20)⟩
theorem lf12_number_183 : Fl vX12_number RX12 183 12 9 := ⟨RX12, TX12, 87, rfl, by decide, (fun w h9 => List.mem_cons_of_mem _ (wC_wsX120 w h9)), (List.mem_cons_of_mem _ wT_27_2)⟩
theorem gX12_number_X12_isIn : GoodIn vX12_number (va_wsS RX12 199 yX12_isIn vX12_isIn) := gS_of wT_28_17 wT_28_18 wT_1_5 wT_28_19
theorem lp12_number_203 : Pl vX12_number RX12 203 12 11 .int := ⟨RX12, TX12, 87, tyX12, rfl, by decide, (fun w h9 => List.mem_cons_of_mem _ (wC_wsX120 w h9)), (List.mem_cons_of_mem _ wT_28_12), tyX12_ok, nmX12, rfl, rfl⟩
theorem gX12_number_X12_token : GoodIn vX12_number (wsV RX12 206 RX12 yX12_token vX12_token) := gV_of wT_26_21 wT_26_22 wT_26_23 wT_1_5 wT_27_0
theorem gX12_number_X12_wrong : GoodIn vX12_number (wsV RX12 196 RX12 yX12_wrong vX12_wrong) := gV_of wT_28_4 wT_28_5 wT_28_6 wT_1_5 wT_28_7
theorem cd12_number : Cd yX12_number 2 := ⟨by decide, by decide, by decide +kernel⟩
set_option maxHeartbeats 4000000 in
set_option maxRecDepth 100000 in
theorem T12_number_0 (S : CallFix p m c cX12_number 3 s args vX12_number RX12) (hr : meth.sig.returnType = (some .boolean)) (hlo : meth.locks = false) {out : Int32 × PH} {h : PH} {a0 : Nat} {x1 : Int32} {x2 : Int32} (f : F12_number_0  h a0 x1 x2 = some out) {H : Heap} {locs : List Loc} (I : ph_I D cy b A fl h s H locs) {ls : Array Slot} (hl : lv_has ls 3 [(0, .ref (b + a0)), (1, .int x1), (2, .int x2)]) : W p l e ({ frames := 2, cells := 0, slots := 0, locals := 47 } : Room) s m args below meth c H locs 0 0 (MQ below (va_Qi (fun (r : Int32) (u : PH) => (r, u) = out) (ph_B D cy b A fl) A) args s 0 0 A) (F0 m 0 ls []) := by
  unfold F12_number_0 at f
  refine lv_aload_n S.1 S.2.1 dX12_number_0 rfl (lv_at hl 0 rfl) ?_
  obtain ⟨v1, e2, f⟩ := ob f
  refine o_gI S lf12_number_172 I e2 dX12_number_1 ?_
  refine lv_iconst (v := 3) S.1 S.2.1 dX12_number_4 (by decide) ?_
  refine lv_icmp_eq (tgt := 14) S.1 S.2.1 dX12_number_5 (by decide) (fun q3 => ?_) (fun q3 => ?_)
  · have f := (if_pos q3).symm.trans f
    refine lv_aload_n S.1 S.2.1 dX12_number_14 rfl (lv_at hl 0 rfl) ?_
    obtain ⟨v4, e5, f⟩ := ob f
    refine o_gI S lf12_number_183 I e5 dX12_number_15 ?_
    refine lv_iload_n S.1 S.2.1 dX12_number_18 rfl (lv_at hl 1 rfl) ?_
    refine lv_iload_n S.1 S.2.1 dX12_number_19 rfl (lv_at hl 2 rfl) ?_
    obtain ⟨o6, e7, f⟩ := ob f
    refine o_Si S (As := [.int v4, .int x1, .int x2]) (rest := []) (M12_isIn l D cy b A fl e7) gX12_number_X12_isIn rfl rfl rfl cd12_isIn ⟨Nat.le_of_ble_eq_true rfl, Nat.le_of_ble_eq_true rfl⟩ I rfl hl.1 rfl (Nat.le_of_ble_eq_true rfl) dX12_number_20 ⟨Nat.le_of_ble_eq_true rfl, Nat.le_of_ble_eq_true rfl⟩ (fun H locs I => ?_)
    refine lv_if_ne (tgt := 32) S.1 S.2.1 dX12_number_23 (by decide) (fun q8 => ?_) (fun q8 => ?_)
    · have f := (if_neg q8).symm.trans f
      refine lv_aload_n S.1 S.2.1 dX12_number_32 rfl (lv_at hl 0 rfl) ?_
      refine lv_aload_n S.1 S.2.1 dX12_number_33 rfl (lv_at hl 0 rfl) ?_
      obtain ⟨v9, e10, f⟩ := ob f
      refine o_gI S lf12_number_183 I e10 dX12_number_34 ?_
      obtain ⟨h11, e12, f⟩ := ob f
      refine o_pI S lp12_number_203 I e12 dX12_number_37 (fun H locs I => ?_)
      refine lv_aload_n S.1 S.2.1 dX12_number_40 rfl (lv_at hl 0 rfl) ?_
      obtain ⟨o13, e14, f⟩ := ob f
      refine o_Vv S (As := []) (rest := []) (ci := 12) (M12_token l D cy b A fl e14) gX12_number_X12_token rfl rfl rfl cd12_token ⟨Nat.le_of_ble_eq_true rfl, Nat.le_of_ble_eq_true rfl⟩ I (gd e14).1 clX12 rfl rfl hl.1 rfl (Nat.le_of_ble_eq_true rfl) dX12_number_41 ⟨Nat.le_of_ble_eq_true rfl, Nat.le_of_ble_eq_true rfl⟩ (fun H locs I => ?_)
      refine lv_iconst (v := 1) S.1 S.2.1 dX12_number_44 (by decide) ?_
      exact o_zret S hr hlo I f dX12_number_45
    · have f := (if_pos q8).symm.trans f
      refine lv_aload_n S.1 S.2.1 dX12_number_26 rfl (lv_at hl 0 rfl) ?_
      refine lv_iconst (v := 2) S.1 S.2.1 dX12_number_27 (by decide) ?_
      obtain ⟨o15, e16, f⟩ := ob f
      refine o_Vi S (As := [.int 2]) (rest := []) (ci := 12) (M12_wrong l D cy b A fl e16) gX12_number_X12_wrong rfl rfl rfl cd12_wrong ⟨Nat.le_of_ble_eq_true rfl, Nat.le_of_ble_eq_true rfl⟩ I (gd e16).1 clX12 rfl rfl hl.1 rfl (Nat.le_of_ble_eq_true rfl) dX12_number_28 ⟨Nat.le_of_ble_eq_true rfl, Nat.le_of_ble_eq_true rfl⟩ (fun H locs I => ?_)
      exact o_zret S hr hlo I f dX12_number_31
  · have f := (if_neg q3).symm.trans f
    refine lv_aload_n S.1 S.2.1 dX12_number_8 rfl (lv_at hl 0 rfl) ?_
    refine lv_iconst (v := 1) S.1 S.2.1 dX12_number_9 (by decide) ?_
    obtain ⟨o17, e18, f⟩ := ob f
    refine o_Vi S (As := [.int 1]) (rest := []) (ci := 12) (M12_wrong l D cy b A fl e18) gX12_number_X12_wrong rfl rfl rfl cd12_wrong ⟨Nat.le_of_ble_eq_true rfl, Nat.le_of_ble_eq_true rfl⟩ I (gd e18).1 clX12 rfl rfl hl.1 rfl (Nat.le_of_ble_eq_true rfl) dX12_number_10 ⟨Nat.le_of_ble_eq_true rfl, Nat.le_of_ble_eq_true rfl⟩ (fun H locs I => ?_)
    exact o_zret S hr hlo I f dX12_number_13
theorem M12_number (l : Launch) (D : va_G) (cy : Nat → ClassId) (b : Nat) (A : Nat → Prop) (fl : Bool) {h : PH} {a0 : Nat} {x1 : Int32} {x2 : Int32} {out : Int32 × PH} (f : F12_number h a0 x1 x2 = some out) : Met l yX12_number vX12_number ({ frames := 2, cells := 0, slots := 0, locals := 47 } : Room) (va_Pc [.ref (b + a0), .int x1, .int x2] (ph_B D cy b A fl h)) (va_Qi (fun (r : Int32) (u : PH) => (r, u) = out) (ph_B D cy b A fl) A) 0 0 A :=
  o_met (by decide) rfl (Nat.le_of_ble_eq_true rfl) rfl (fun p e s m below meth c S hr hlo hnm ls hl I => T12_number_0 S hr hlo ((gd f).2) I (lv_sub hl [0, 1, 2] rfl))
def vX12_bankLine : List Cond := .code yX12_bankLine cX12_bankLine 1 (some .boolean) :: TB
theorem gX12_bankLine_X12_token : GoodIn vX12_bankLine (wsV RX12 206 RX12 yX12_token vX12_token) := gV_of wT_26_21 wT_26_22 wT_26_23 wT_1_5 wT_27_0
theorem gX12_bankLine_X12_number : GoodIn vX12_bankLine (wsV RX12 212 RX12 yX12_number vX12_number) := gV_of wT_28_13 wT_28_14 wT_28_15 wT_1_5 wT_28_16
theorem lf12_bankLine_24 : Fl vX12_bankLine RX12 24 12 26 := ⟨RX12, TX12, 87, rfl, by decide, (fun w h9 => List.mem_cons_of_mem _ (wC_wsX120 w h9)), (List.mem_cons_of_mem _ wT_10_1)⟩
theorem lf12_bankLine_203 : Fl vX12_bankLine RX12 203 12 11 := ⟨RX12, TX12, 87, rfl, by decide, (fun w h9 => List.mem_cons_of_mem _ (wC_wsX120 w h9)), (List.mem_cons_of_mem _ wT_28_12)⟩
theorem cd12_bankLine : Cd yX12_bankLine 0 := ⟨by decide, by decide, by decide +kernel⟩
set_option maxHeartbeats 4000000 in
set_option maxRecDepth 100000 in
theorem T12_bankLine_0 (S : CallFix p m c cX12_bankLine 1 s args vX12_bankLine RX12) (hr : meth.sig.returnType = (some .boolean)) (hlo : meth.locks = false) {out : Int32 × PH} {h : PH} {a0 : Nat} (f : F12_bankLine_0  h a0 = some out) {H : Heap} {locs : List Loc} (I : ph_I D cy b A fl h s H locs) {ls : Array Slot} (hl : lv_has ls 1 [(0, .ref (b + a0))]) : W p l e ({ frames := 3, cells := 0, slots := 0, locals := 69 } : Room) s m args below meth c H locs 0 0 (MQ below (va_Qi (fun (r : Int32) (u : PH) => (r, u) = out) (ph_B D cy b A fl) A) args s 0 0 A) (F0 m 0 ls []) := by
  unfold F12_bankLine_0 at f
  refine lv_aload_n S.1 S.2.1 dX12_bankLine_0 rfl (lv_at hl 0 rfl) ?_
  obtain ⟨o1, e2, f⟩ := ob f
  refine o_Vv S (As := []) (rest := []) (ci := 12) (M12_token l D cy b A fl e2) gX12_bankLine_X12_token rfl rfl rfl cd12_token ⟨Nat.le_of_ble_eq_true rfl, Nat.le_of_ble_eq_true rfl⟩ I (gd e2).1 clX12 rfl rfl hl.1 rfl (Nat.le_of_ble_eq_true rfl) dX12_bankLine_1 ⟨Nat.le_of_ble_eq_true rfl, Nat.le_of_ble_eq_true rfl⟩ (fun H locs I => ?_)
  refine lv_aload_n S.1 S.2.1 dX12_bankLine_4 rfl (lv_at hl 0 rfl) ?_
  refine lv_iconst (v := 1) S.1 S.2.1 dX12_bankLine_5 (by decide) ?_
  refine lv_bipush (v := 20) S.1 S.2.1 dX12_bankLine_6 (by decide) ?_
  obtain ⟨o3, e4, f⟩ := ob f
  refine o_Vi S (As := [.int 1, .int 20]) (rest := []) (ci := 12) (M12_number l D cy b A fl e4) gX12_bankLine_X12_number rfl rfl rfl cd12_number ⟨Nat.le_of_ble_eq_true rfl, Nat.le_of_ble_eq_true rfl⟩ I (gd e4).1 clX12 rfl rfl hl.1 rfl (Nat.le_of_ble_eq_true rfl) dX12_bankLine_8 ⟨Nat.le_of_ble_eq_true rfl, Nat.le_of_ble_eq_true rfl⟩ (fun H locs I => ?_)
  refine lv_if_ne (tgt := 16) S.1 S.2.1 dX12_bankLine_11 (by decide) (fun q5 => ?_) (fun q5 => ?_)
  · have f := (if_neg q5).symm.trans f
    refine lv_aload_n S.1 S.2.1 dX12_bankLine_16 rfl (lv_at hl 0 rfl) ?_
    obtain ⟨r6, e7, f⟩ := ob f
    refine o_gR S lf12_bankLine_24 I e7 dX12_bankLine_17 ?_
    refine lv_bipush (v := 9) S.1 S.2.1 dX12_bankLine_20 (by decide) ?_
    refine lv_aload_n S.1 S.2.1 dX12_bankLine_22 rfl (lv_at hl 0 rfl) ?_
    obtain ⟨v8, e9, f⟩ := ob f
    refine o_gI S lf12_bankLine_203 I e9 dX12_bankLine_23 ?_
    obtain ⟨h11, e10, f⟩ := ob f
    refine o_iast S I e10 dX12_bankLine_26 (fun H locs I => ?_)
    refine lv_aload_n S.1 S.2.1 dX12_bankLine_27 rfl (lv_at hl 0 rfl) ?_
    refine lv_iconst (v := 1) S.1 S.2.1 dX12_bankLine_28 (by decide) ?_
    refine lv_bipush (v := 20) S.1 S.2.1 dX12_bankLine_29 (by decide) ?_
    obtain ⟨o12, e13, f⟩ := ob f
    refine o_Vi S (As := [.int 1, .int 20]) (rest := []) (ci := 12) (M12_number l D cy b A fl e13) gX12_bankLine_X12_number rfl rfl rfl cd12_number ⟨Nat.le_of_ble_eq_true rfl, Nat.le_of_ble_eq_true rfl⟩ I (gd e13).1 clX12 rfl rfl hl.1 rfl (Nat.le_of_ble_eq_true rfl) dX12_bankLine_31 ⟨Nat.le_of_ble_eq_true rfl, Nat.le_of_ble_eq_true rfl⟩ (fun H locs I => ?_)
    refine lv_if_ne (tgt := 39) S.1 S.2.1 dX12_bankLine_34 (by decide) (fun q14 => ?_) (fun q14 => ?_)
    · have f := (if_neg q14).symm.trans f
      refine lv_aload_n S.1 S.2.1 dX12_bankLine_39 rfl (lv_at hl 0 rfl) ?_
      obtain ⟨r15, e16, f⟩ := ob f
      refine o_gR S lf12_bankLine_24 I e16 dX12_bankLine_40 ?_
      refine lv_bipush (v := 10) S.1 S.2.1 dX12_bankLine_43 (by decide) ?_
      refine lv_aload_n S.1 S.2.1 dX12_bankLine_45 rfl (lv_at hl 0 rfl) ?_
      obtain ⟨v17, e18, f⟩ := ob f
      refine o_gI S lf12_bankLine_203 I e18 dX12_bankLine_46 ?_
      obtain ⟨h20, e19, f⟩ := ob f
      refine o_iast S I e19 dX12_bankLine_49 (fun H locs I => ?_)
      refine lv_aload_n S.1 S.2.1 dX12_bankLine_50 rfl (lv_at hl 0 rfl) ?_
      refine lv_iconst (v := 1) S.1 S.2.1 dX12_bankLine_51 (by decide) ?_
      refine lv_bipush (v := 9) S.1 S.2.1 dX12_bankLine_52 (by decide) ?_
      obtain ⟨o21, e22, f⟩ := ob f
      refine o_Vi S (As := [.int 1, .int 9]) (rest := []) (ci := 12) (M12_number l D cy b A fl e22) gX12_bankLine_X12_number rfl rfl rfl cd12_number ⟨Nat.le_of_ble_eq_true rfl, Nat.le_of_ble_eq_true rfl⟩ I (gd e22).1 clX12 rfl rfl hl.1 rfl (Nat.le_of_ble_eq_true rfl) dX12_bankLine_54 ⟨Nat.le_of_ble_eq_true rfl, Nat.le_of_ble_eq_true rfl⟩ (fun H locs I => ?_)
      refine lv_if_ne (tgt := 62) S.1 S.2.1 dX12_bankLine_57 (by decide) (fun q23 => ?_) (fun q23 => ?_)
      · have f := (if_neg q23).symm.trans f
        refine lv_aload_n S.1 S.2.1 dX12_bankLine_62 rfl (lv_at hl 0 rfl) ?_
        obtain ⟨r24, e25, f⟩ := ob f
        refine o_gR S lf12_bankLine_24 I e25 dX12_bankLine_63 ?_
        refine lv_bipush (v := 11) S.1 S.2.1 dX12_bankLine_66 (by decide) ?_
        refine lv_aload_n S.1 S.2.1 dX12_bankLine_68 rfl (lv_at hl 0 rfl) ?_
        obtain ⟨v26, e27, f⟩ := ob f
        refine o_gI S lf12_bankLine_203 I e27 dX12_bankLine_69 ?_
        obtain ⟨h29, e28, f⟩ := ob f
        refine o_iast S I e28 dX12_bankLine_72 (fun H locs I => ?_)
        refine lv_iconst (v := 1) S.1 S.2.1 dX12_bankLine_73 (by decide) ?_
        exact o_zret S hr hlo I f dX12_bankLine_74
      · have f := (if_pos q23).symm.trans f
        refine lv_iconst (v := 0) S.1 S.2.1 dX12_bankLine_60 (by decide) ?_
        exact o_zret S hr hlo I f dX12_bankLine_61
    · have f := (if_pos q14).symm.trans f
      refine lv_iconst (v := 0) S.1 S.2.1 dX12_bankLine_37 (by decide) ?_
      exact o_zret S hr hlo I f dX12_bankLine_38
  · have f := (if_pos q5).symm.trans f
    refine lv_iconst (v := 0) S.1 S.2.1 dX12_bankLine_14 (by decide) ?_
    exact o_zret S hr hlo I f dX12_bankLine_15
theorem M12_bankLine (l : Launch) (D : va_G) (cy : Nat → ClassId) (b : Nat) (A : Nat → Prop) (fl : Bool) {h : PH} {a0 : Nat} {out : Int32 × PH} (f : F12_bankLine h a0 = some out) : Met l yX12_bankLine vX12_bankLine ({ frames := 3, cells := 0, slots := 0, locals := 69 } : Room) (va_Pc [.ref (b + a0)] (ph_B D cy b A fl h)) (va_Qi (fun (r : Int32) (u : PH) => (r, u) = out) (ph_B D cy b A fl) A) 0 0 A :=
  o_met (by decide) rfl (Nat.le_of_ble_eq_true rfl) rfl (fun p e s m below meth c S hr hlo hnm ls hl I => T12_bankLine_0 S hr hlo ((gd f).2) I (lv_sub hl [0] rfl))
def vX12_begin : List Cond := .code yX12_begin cX12_begin 2 none :: TB
theorem lf12_begin_106 : Fl vX12_begin RX12 106 12 61 := ⟨RX12, TX12, 87, rfl, by decide, (fun w h9 => List.mem_cons_of_mem _ (wC_wsX120 w h9)), (List.mem_cons_of_mem _ wT_11_4)⟩
theorem lf12_begin_109 : Fl vX12_begin RX12 109 12 62 := ⟨RX12, TX12, 87, rfl, by decide, (fun w h9 => List.mem_cons_of_mem _ (wC_wsX120 w h9)), (List.mem_cons_of_mem _ wT_11_5)⟩
theorem lf12_begin_112 : Fl vX12_begin RX12 112 12 63 := ⟨RX12, TX12, 87, rfl, by decide, (fun w h9 => List.mem_cons_of_mem _ (wC_wsX120 w h9)), (List.mem_cons_of_mem _ wT_11_6)⟩
theorem lf12_begin_24 : Fl vX12_begin RX12 24 12 26 := ⟨RX12, TX12, 87, rfl, by decide, (fun w h9 => List.mem_cons_of_mem _ (wC_wsX120 w h9)), (List.mem_cons_of_mem _ wT_10_1)⟩
theorem lp12_begin_369 : Pl vX12_begin RX12 369 12 64 .int := ⟨RX12, TX12, 87, tyX12, rfl, by decide, (fun w h9 => List.mem_cons_of_mem _ (wC_wsX120 w h9)), (List.mem_cons_of_mem _ wT_12_23), tyX12_ok, nmX12, rfl, rfl⟩
theorem lp12_begin_372 : Pl vX12_begin RX12 372 12 65 .long := ⟨RX12, TX12, 87, tyX12, rfl, by decide, (fun w h9 => List.mem_cons_of_mem _ (wC_wsX120 w h9)), (List.mem_cons_of_mem _ wT_13_0), tyX12_ok, nmX12, rfl, rfl⟩
theorem lp12_begin_115 : Pl vX12_begin RX12 115 12 66 .int := ⟨RX12, TX12, 87, tyX12, rfl, by decide, (fun w h9 => List.mem_cons_of_mem _ (wC_wsX120 w h9)), (List.mem_cons_of_mem _ wT_11_7), tyX12_ok, nmX12, rfl, rfl⟩
theorem lp12_begin_376 : Pl vX12_begin RX12 376 12 74 .int := ⟨RX12, TX12, 87, tyX12, rfl, by decide, (fun w h9 => List.mem_cons_of_mem _ (wC_wsX120 w h9)), (List.mem_cons_of_mem _ wT_13_1), tyX12_ok, nmX12, rfl, rfl⟩
theorem lp12_begin_133 : Pl vX12_begin RX12 133 12 75 .int := ⟨RX12, TX12, 87, tyX12, rfl, by decide, (fun w h9 => List.mem_cons_of_mem _ (wC_wsX120 w h9)), (List.mem_cons_of_mem _ wT_11_13), tyX12_ok, nmX12, rfl, rfl⟩
theorem lp12_begin_379 : Pl vX12_begin RX12 379 12 78 .int := ⟨RX12, TX12, 87, tyX12, rfl, by decide, (fun w h9 => List.mem_cons_of_mem _ (wC_wsX120 w h9)), (List.mem_cons_of_mem _ wT_13_2), tyX12_ok, nmX12, rfl, rfl⟩
theorem lp12_begin_382 : Pl vX12_begin RX12 382 12 80 .boolean := ⟨RX12, TX12, 87, tyX12, rfl, by decide, (fun w h9 => List.mem_cons_of_mem _ (wC_wsX120 w h9)), (List.mem_cons_of_mem _ wT_13_3), tyX12_ok, nmX12, rfl, rfl⟩
theorem lf12_begin_103 : Fl vX12_begin RX12 103 12 60 := ⟨RX12, TX12, 87, rfl, by decide, (fun w h9 => List.mem_cons_of_mem _ (wC_wsX120 w h9)), (List.mem_cons_of_mem _ wT_11_3)⟩
theorem lf12_begin_88 : Fl vX12_begin RX12 88 12 55 := ⟨RX12, TX12, 87, rfl, by decide, (fun w h9 => List.mem_cons_of_mem _ (wC_wsX120 w h9)), (List.mem_cons_of_mem _ wT_10_22)⟩
theorem lf12_begin_30 : Fl vX12_begin RX12 30 12 28 := ⟨RX12, TX12, 87, rfl, by decide, (fun w h9 => List.mem_cons_of_mem _ (wC_wsX120 w h9)), (List.mem_cons_of_mem _ wT_10_3)⟩
theorem lf12_begin_91 : Fl vX12_begin RX12 91 12 56 := ⟨RX12, TX12, 87, rfl, by decide, (fun w h9 => List.mem_cons_of_mem _ (wC_wsX120 w h9)), (List.mem_cons_of_mem _ wT_10_23)⟩
theorem lf12_begin_94 : Fl vX12_begin RX12 94 12 57 := ⟨RX12, TX12, 87, rfl, by decide, (fun w h9 => List.mem_cons_of_mem _ (wC_wsX120 w h9)), (List.mem_cons_of_mem _ wT_11_0)⟩
theorem lf12_begin_97 : Fl vX12_begin RX12 97 12 58 := ⟨RX12, TX12, 87, rfl, by decide, (fun w h9 => List.mem_cons_of_mem _ (wC_wsX120 w h9)), (List.mem_cons_of_mem _ wT_11_1)⟩
theorem lf12_begin_100 : Fl vX12_begin RX12 100 12 59 := ⟨RX12, TX12, 87, rfl, by decide, (fun w h9 => List.mem_cons_of_mem _ (wC_wsX120 w h9)), (List.mem_cons_of_mem _ wT_11_2)⟩
theorem lf12_begin_36 : Fl vX12_begin RX12 36 12 30 := ⟨RX12, TX12, 87, rfl, by decide, (fun w h9 => List.mem_cons_of_mem _ (wC_wsX120 w h9)), (List.mem_cons_of_mem _ wT_10_5)⟩
theorem cd12_begin : Cd yX12_begin 0 := ⟨by decide, by decide, by decide +kernel⟩
set_option maxHeartbeats 4000000 in
set_option maxRecDepth 100000 in
theorem T12_begin_60 (S : CallFix p m c cX12_begin 2 s args vX12_begin RX12) (hr : meth.sig.returnType = none) (hlo : meth.locks = false) {out : PH} : ∀ (n : Nat) {h : PH} {a0 : Nat} {x1 : Int32} (f : F12_begin_60  n h a0 x1 = some out) {H : Heap} {locs : List Loc} (I : ph_I D cy b A fl h s H locs) {ls : Array Slot} (hl : lv_has ls 2 [(0, .ref (b + a0)), (1, .int x1)]), W p l e ({ frames := 0, cells := 0, slots := 0, locals := 0 } : Room) s m args below meth c H locs 0 0 (MQ below (va_Qv (fun (u : PH) => u = out) (ph_B D cy b A fl) A) args s 0 0 A) (F0 m 60 ls []) := by
  intro n
  induction n with
  | zero => intro h a0 x1 f; rw [F12_begin_60] at f; cases f
  | succ n ih =>
    intro h a0 x1 f H locs I ls hl
    rw [F12_begin_60] at f
    refine lv_iload_n S.1 S.2.1 dX12_begin_60 rfl (lv_at hl 1 rfl) ?_
    refine lv_bipush (v := 28) S.1 S.2.1 dX12_begin_61 (by decide) ?_
    refine lv_icmp_ge (tgt := 80) S.1 S.2.1 dX12_begin_63 (by decide) (fun q1 => ?_) (fun q1 => ?_)
    · have f := (if_pos q1).symm.trans f
      refine lv_aload_n S.1 S.2.1 dX12_begin_80 rfl (lv_at hl 0 rfl) ?_
      obtain ⟨r2, e3, f⟩ := ob f
      refine o_gR S lf12_begin_106 I e3 dX12_begin_81 ?_
      refine lv_iconst (v := 0) S.1 S.2.1 dX12_begin_84 (by decide) ?_
      refine lv_iconst (v := 0) S.1 S.2.1 dX12_begin_85 (by decide) ?_
      obtain ⟨h5, e4, f⟩ := ob f
      refine o_iast S I e4 dX12_begin_86 (fun H locs I => ?_)
      refine lv_aload_n S.1 S.2.1 dX12_begin_87 rfl (lv_at hl 0 rfl) ?_
      obtain ⟨r6, e7, f⟩ := ob f
      refine o_gR S lf12_begin_109 I e7 dX12_begin_88 ?_
      refine lv_iconst (v := 0) S.1 S.2.1 dX12_begin_91 (by decide) ?_
      refine lv_iconst (v := 0) S.1 S.2.1 dX12_begin_92 (by decide) ?_
      obtain ⟨h9, e8, f⟩ := ob f
      refine o_iast S I e8 dX12_begin_93 (fun H locs I => ?_)
      refine lv_aload_n S.1 S.2.1 dX12_begin_94 rfl (lv_at hl 0 rfl) ?_
      obtain ⟨r10, e11, f⟩ := ob f
      refine o_gR S lf12_begin_112 I e11 dX12_begin_95 ?_
      refine lv_iconst (v := 0) S.1 S.2.1 dX12_begin_98 (by decide) ?_
      refine lv_iconst (v := 0) S.1 S.2.1 dX12_begin_99 (by decide) ?_
      obtain ⟨h13, e12, f⟩ := ob f
      refine o_iast S I e12 dX12_begin_100 (fun H locs I => ?_)
      refine lv_aload_n S.1 S.2.1 dX12_begin_101 rfl (lv_at hl 0 rfl) ?_
      refine lv_aload_n S.1 S.2.1 dX12_begin_102 rfl (lv_at hl 0 rfl) ?_
      obtain ⟨r14, e15, f⟩ := ob f
      refine o_gR S lf12_begin_24 I e15 dX12_begin_103 ?_
      refine lv_iconst (v := 5) S.1 S.2.1 dX12_begin_106 (by decide) ?_
      obtain ⟨v17, e16, f⟩ := ob f
      refine o_iald S I e16 dX12_begin_107 ?_
      obtain ⟨h18, e19, f⟩ := ob f
      refine o_pI S lp12_begin_369 I e19 dX12_begin_108 (fun H locs I => ?_)
      refine lv_aload_n S.1 S.2.1 dX12_begin_111 rfl (lv_at hl 0 rfl) ?_
      refine lv_aload_n S.1 S.2.1 dX12_begin_112 rfl (lv_at hl 0 rfl) ?_
      obtain ⟨r20, e21, f⟩ := ob f
      refine o_gR S lf12_begin_24 I e21 dX12_begin_113 ?_
      refine lv_bipush (v := 6) S.1 S.2.1 dX12_begin_116 (by decide) ?_
      obtain ⟨v23, e22, f⟩ := ob f
      refine o_iald S I e22 dX12_begin_118 ?_
      refine lv_i2l (v := Int32.toInt64 v23) S.1 S.2.1 dX12_begin_119 rfl ?_
      obtain ⟨h24, e25, f⟩ := ob f
      refine o_pJ S lp12_begin_372 I e25 dX12_begin_120 (fun H locs I => ?_)
      refine lv_aload_n S.1 S.2.1 dX12_begin_123 rfl (lv_at hl 0 rfl) ?_
      refine lv_iconst (v := (-1)) S.1 S.2.1 dX12_begin_124 (by decide) ?_
      obtain ⟨h26, e27, f⟩ := ob f
      refine o_pI S lp12_begin_115 I e27 dX12_begin_125 (fun H locs I => ?_)
      refine lv_aload_n S.1 S.2.1 dX12_begin_128 rfl (lv_at hl 0 rfl) ?_
      refine lv_iconst (v := 0) S.1 S.2.1 dX12_begin_129 (by decide) ?_
      obtain ⟨h28, e29, f⟩ := ob f
      refine o_pI S lp12_begin_376 I e29 dX12_begin_130 (fun H locs I => ?_)
      refine lv_aload_n S.1 S.2.1 dX12_begin_133 rfl (lv_at hl 0 rfl) ?_
      refine lv_iconst (v := (-1)) S.1 S.2.1 dX12_begin_134 (by decide) ?_
      obtain ⟨h30, e31, f⟩ := ob f
      refine o_pI S lp12_begin_133 I e31 dX12_begin_135 (fun H locs I => ?_)
      refine lv_aload_n S.1 S.2.1 dX12_begin_138 rfl (lv_at hl 0 rfl) ?_
      refine lv_iconst (v := 0) S.1 S.2.1 dX12_begin_139 (by decide) ?_
      obtain ⟨h32, e33, f⟩ := ob f
      refine o_pI S lp12_begin_379 I e33 dX12_begin_140 (fun H locs I => ?_)
      refine lv_aload_n S.1 S.2.1 dX12_begin_143 rfl (lv_at hl 0 rfl) ?_
      refine lv_iconst (v := 0) S.1 S.2.1 dX12_begin_144 (by decide) ?_
      obtain ⟨h34, e35, f⟩ := ob f
      refine o_pZ S lp12_begin_382 I e35 dX12_begin_145 (fun H locs I => ?_)
      exact o_vret S hr hlo I f dX12_begin_148
    · have f := (if_neg q1).symm.trans f
      refine lv_aload_n S.1 S.2.1 dX12_begin_66 rfl (lv_at hl 0 rfl) ?_
      obtain ⟨r36, e37, f⟩ := ob f
      refine o_gR S lf12_begin_103 I e37 dX12_begin_67 ?_
      refine lv_iload_n S.1 S.2.1 dX12_begin_70 rfl (lv_at hl 1 rfl) ?_
      refine lv_bipush (v := (-2)) S.1 S.2.1 dX12_begin_71 (by decide) ?_
      obtain ⟨h39, e38, f⟩ := ob f
      refine o_iast S I e38 dX12_begin_73 (fun H locs I => ?_)
      refine lv_iinc (v := (x1 + 1)) (lv' := [(1, .int (x1 + 1)), (0, .ref (b + a0))]) S.1 S.2.1 dX12_begin_74 hl (k := 1) rfl (congrArg (fun z => x1 + z) (by decide)) (by decide) rfl (fun ls hl => ?_)
      refine lv_goto (tgt := 60) S.1 S.2.1 dX12_begin_77 (by decide) ?_
      exact ih f I (lv_sub hl [1, 0] rfl)
set_option maxHeartbeats 4000000 in
set_option maxRecDepth 100000 in
theorem T12_begin_2 (S : CallFix p m c cX12_begin 2 s args vX12_begin RX12) (hr : meth.sig.returnType = none) (hlo : meth.locks = false) {out : PH} : ∀ (n : Nat) {h : PH} {a0 : Nat} {x1 : Int32} (f : F12_begin_2  n h a0 x1 = some out) {H : Heap} {locs : List Loc} (I : ph_I D cy b A fl h s H locs) {ls : Array Slot} (hl : lv_has ls 2 [(0, .ref (b + a0)), (1, .int x1)]), W p l e ({ frames := 0, cells := 0, slots := 0, locals := 0 } : Room) s m args below meth c H locs 0 0 (MQ below (va_Qv (fun (u : PH) => u = out) (ph_B D cy b A fl) A) args s 0 0 A) (F0 m 2 ls []) := by
  intro n
  induction n with
  | zero => intro h a0 x1 f; rw [F12_begin_2] at f; cases f
  | succ n ih =>
    intro h a0 x1 f H locs I ls hl
    rw [F12_begin_2] at f
    refine lv_iload_n S.1 S.2.1 dX12_begin_2 rfl (lv_at hl 1 rfl) ?_
    refine lv_iconst (v := 5) S.1 S.2.1 dX12_begin_3 (by decide) ?_
    refine lv_icmp_ge (tgt := 58) S.1 S.2.1 dX12_begin_4 (by decide) (fun q1 => ?_) (fun q1 => ?_)
    · have f := (if_pos q1).symm.trans f
      refine lv_iconst (v := 0) S.1 S.2.1 dX12_begin_58 (by decide) ?_
      refine lv_istore_n (lv' := [(1, .int 0), (0, .ref (b + a0))]) S.1 S.2.1 dX12_begin_59 rfl hl (by decide) rfl (fun ls hl => ?_)
      exact T12_begin_60 S hr hlo  1024 f I (lv_sub hl [1, 0] rfl)
    · have f := (if_neg q1).symm.trans f
      refine lv_aload_n S.1 S.2.1 dX12_begin_7 rfl (lv_at hl 0 rfl) ?_
      obtain ⟨r2, e3, f⟩ := ob f
      refine o_gR S lf12_begin_88 I e3 dX12_begin_8 ?_
      refine lv_iload_n S.1 S.2.1 dX12_begin_11 rfl (lv_at hl 1 rfl) ?_
      refine lv_aload_n S.1 S.2.1 dX12_begin_12 rfl (lv_at hl 0 rfl) ?_
      obtain ⟨r4, e5, f⟩ := ob f
      refine o_gR S lf12_begin_30 I e5 dX12_begin_13 ?_
      refine lv_iload_n S.1 S.2.1 dX12_begin_16 rfl (lv_at hl 1 rfl) ?_
      obtain ⟨v7, e6, f⟩ := ob f
      refine o_iald S I e6 dX12_begin_17 ?_
      obtain ⟨h9, e8, f⟩ := ob f
      refine o_iast S I e8 dX12_begin_18 (fun H locs I => ?_)
      refine lv_aload_n S.1 S.2.1 dX12_begin_19 rfl (lv_at hl 0 rfl) ?_
      obtain ⟨r10, e11, f⟩ := ob f
      refine o_gR S lf12_begin_91 I e11 dX12_begin_20 ?_
      refine lv_iload_n S.1 S.2.1 dX12_begin_23 rfl (lv_at hl 1 rfl) ?_
      refine lv_iconst (v := 0) S.1 S.2.1 dX12_begin_24 (by decide) ?_
      obtain ⟨h13, e12, f⟩ := ob f
      refine o_iast S I e12 dX12_begin_25 (fun H locs I => ?_)
      refine lv_aload_n S.1 S.2.1 dX12_begin_26 rfl (lv_at hl 0 rfl) ?_
      obtain ⟨r14, e15, f⟩ := ob f
      refine o_gR S lf12_begin_94 I e15 dX12_begin_27 ?_
      refine lv_iload_n S.1 S.2.1 dX12_begin_30 rfl (lv_at hl 1 rfl) ?_
      refine lv_iconst (v := 0) S.1 S.2.1 dX12_begin_31 (by decide) ?_
      obtain ⟨h17, e16, f⟩ := ob f
      refine o_iast S I e16 dX12_begin_32 (fun H locs I => ?_)
      refine lv_aload_n S.1 S.2.1 dX12_begin_33 rfl (lv_at hl 0 rfl) ?_
      obtain ⟨r18, e19, f⟩ := ob f
      refine o_gR S lf12_begin_97 I e19 dX12_begin_34 ?_
      refine lv_iload_n S.1 S.2.1 dX12_begin_37 rfl (lv_at hl 1 rfl) ?_
      refine lv_iconst (v := 0) S.1 S.2.1 dX12_begin_38 (by decide) ?_
      obtain ⟨h21, e20, f⟩ := ob f
      refine o_iast S I e20 dX12_begin_39 (fun H locs I => ?_)
      refine lv_aload_n S.1 S.2.1 dX12_begin_40 rfl (lv_at hl 0 rfl) ?_
      obtain ⟨r22, e23, f⟩ := ob f
      refine o_gR S lf12_begin_100 I e23 dX12_begin_41 ?_
      refine lv_iload_n S.1 S.2.1 dX12_begin_44 rfl (lv_at hl 1 rfl) ?_
      refine lv_aload_n S.1 S.2.1 dX12_begin_45 rfl (lv_at hl 0 rfl) ?_
      obtain ⟨r24, e25, f⟩ := ob f
      refine o_gR S lf12_begin_36 I e25 dX12_begin_46 ?_
      refine lv_iload_n S.1 S.2.1 dX12_begin_49 rfl (lv_at hl 1 rfl) ?_
      obtain ⟨v27, e26, f⟩ := ob f
      refine o_iald S I e26 dX12_begin_50 ?_
      obtain ⟨h29, e28, f⟩ := ob f
      refine o_iast S I e28 dX12_begin_51 (fun H locs I => ?_)
      refine lv_iinc (v := (x1 + 1)) (lv' := [(1, .int (x1 + 1)), (0, .ref (b + a0))]) S.1 S.2.1 dX12_begin_52 hl (k := 1) rfl (congrArg (fun z => x1 + z) (by decide)) (by decide) rfl (fun ls hl => ?_)
      refine lv_goto (tgt := 2) S.1 S.2.1 dX12_begin_55 (by decide) ?_
      exact ih f I (lv_sub hl [1, 0] rfl)
set_option maxHeartbeats 4000000 in
set_option maxRecDepth 100000 in
theorem T12_begin_0 (S : CallFix p m c cX12_begin 2 s args vX12_begin RX12) (hr : meth.sig.returnType = none) (hlo : meth.locks = false) {out : PH} {h : PH} {a0 : Nat} (f : F12_begin_0  h a0 = some out) {H : Heap} {locs : List Loc} (I : ph_I D cy b A fl h s H locs) {ls : Array Slot} (hl : lv_has ls 2 [(0, .ref (b + a0))]) : W p l e ({ frames := 0, cells := 0, slots := 0, locals := 0 } : Room) s m args below meth c H locs 0 0 (MQ below (va_Qv (fun (u : PH) => u = out) (ph_B D cy b A fl) A) args s 0 0 A) (F0 m 0 ls []) := by
  unfold F12_begin_0 at f
  refine lv_iconst (v := 0) S.1 S.2.1 dX12_begin_0 (by decide) ?_
  refine lv_istore_n (lv' := [(1, .int 0), (0, .ref (b + a0))]) S.1 S.2.1 dX12_begin_1 rfl hl (by decide) rfl (fun ls hl => ?_)
  exact T12_begin_2 S hr hlo  1024 f I (lv_sub hl [1, 0] rfl)
theorem M12_begin (l : Launch) (D : va_G) (cy : Nat → ClassId) (b : Nat) (A : Nat → Prop) (fl : Bool) {h : PH} {a0 : Nat} {out : PH} (f : F12_begin h a0 = some out) : Met l yX12_begin vX12_begin ({ frames := 0, cells := 0, slots := 0, locals := 0 } : Room) (va_Pc [.ref (b + a0)] (ph_B D cy b A fl h)) (va_Qv (fun (u : PH) => u = out) (ph_B D cy b A fl) A) 0 0 A :=
  o_met (by decide) rfl (Nat.le_of_ble_eq_true rfl) rfl (fun p e s m below meth c S hr hlo hnm ls hl I => T12_begin_0 S hr hlo ((gd f).2) I (lv_sub hl [0] rfl))
end
