theorem zd_dX1_init_0 : dq cX1_init [(0, .aload_n 0, 1), (1, .invokespecial 3, 3), (4, .aload_n 0, 1), (5, .iconst 5, 1), (6, .newarray .int, 2), (8, .putfield 9, 3), (11, .aload_n 0, 1), (12, .iconst 5, 1), (13, .newarray .int, 2), (15, .putfield 15, 3), (18, .aload_n 0, 1), (19, .iconst 5, 1), (20, .newarray .int, 2), (22, .putfield 18, 3)] = true := by decide +kernel
theorem dX1_init_0 : decode cX1_init 0 = .ok (.aload_n 0, 1) := dq_at zd_dX1_init_0 0 rfl
theorem dX1_init_1 : decode cX1_init 1 = .ok (.invokespecial 3, 3) := dq_at zd_dX1_init_0 1 rfl
theorem dX1_init_4 : decode cX1_init 4 = .ok (.aload_n 0, 1) := dq_at zd_dX1_init_0 2 rfl
theorem dX1_init_5 : decode cX1_init 5 = .ok (.iconst 5, 1) := dq_at zd_dX1_init_0 3 rfl
theorem dX1_init_6 : decode cX1_init 6 = .ok (.newarray .int, 2) := dq_at zd_dX1_init_0 4 rfl
theorem dX1_init_8 : decode cX1_init 8 = .ok (.putfield 9, 3) := dq_at zd_dX1_init_0 5 rfl
theorem dX1_init_11 : decode cX1_init 11 = .ok (.aload_n 0, 1) := dq_at zd_dX1_init_0 6 rfl
theorem dX1_init_12 : decode cX1_init 12 = .ok (.iconst 5, 1) := dq_at zd_dX1_init_0 7 rfl
theorem dX1_init_13 : decode cX1_init 13 = .ok (.newarray .int, 2) := dq_at zd_dX1_init_0 8 rfl
theorem dX1_init_15 : decode cX1_init 15 = .ok (.putfield 15, 3) := dq_at zd_dX1_init_0 9 rfl
theorem dX1_init_18 : decode cX1_init 18 = .ok (.aload_n 0, 1) := dq_at zd_dX1_init_0 10 rfl
theorem dX1_init_19 : decode cX1_init 19 = .ok (.iconst 5, 1) := dq_at zd_dX1_init_0 11 rfl
theorem dX1_init_20 : decode cX1_init 20 = .ok (.newarray .int, 2) := dq_at zd_dX1_init_0 12 rfl
theorem dX1_init_22 : decode cX1_init 22 = .ok (.putfield 18, 3) := dq_at zd_dX1_init_0 13 rfl
theorem zd_dX1_init_25 : dq cX1_init [(25, .aload_n 0, 1), (26, .iconst 5, 1), (27, .newarray .int, 2), (29, .putfield 21, 3), (32, .aload_n 0, 1), (33, .iconst 5, 1), (34, .newarray .int, 2), (36, .putfield 24, 3), (39, .aload_n 0, 1), (40, .iconst 5, 1), (41, .newarray .int, 2), (43, .putfield 27, 3), (46, .return_, 1)] = true := by decide +kernel
theorem dX1_init_25 : decode cX1_init 25 = .ok (.aload_n 0, 1) := dq_at zd_dX1_init_25 0 rfl
theorem dX1_init_26 : decode cX1_init 26 = .ok (.iconst 5, 1) := dq_at zd_dX1_init_25 1 rfl
theorem dX1_init_27 : decode cX1_init 27 = .ok (.newarray .int, 2) := dq_at zd_dX1_init_25 2 rfl
theorem dX1_init_29 : decode cX1_init 29 = .ok (.putfield 21, 3) := dq_at zd_dX1_init_25 3 rfl
theorem dX1_init_32 : decode cX1_init 32 = .ok (.aload_n 0, 1) := dq_at zd_dX1_init_25 4 rfl
theorem dX1_init_33 : decode cX1_init 33 = .ok (.iconst 5, 1) := dq_at zd_dX1_init_25 5 rfl
theorem dX1_init_34 : decode cX1_init 34 = .ok (.newarray .int, 2) := dq_at zd_dX1_init_25 6 rfl
theorem dX1_init_36 : decode cX1_init 36 = .ok (.putfield 24, 3) := dq_at zd_dX1_init_25 7 rfl
theorem dX1_init_39 : decode cX1_init 39 = .ok (.aload_n 0, 1) := dq_at zd_dX1_init_25 8 rfl
theorem dX1_init_40 : decode cX1_init 40 = .ok (.iconst 5, 1) := dq_at zd_dX1_init_25 9 rfl
theorem dX1_init_41 : decode cX1_init 41 = .ok (.newarray .int, 2) := dq_at zd_dX1_init_25 10 rfl
theorem dX1_init_43 : decode cX1_init 43 = .ok (.putfield 27, 3) := dq_at zd_dX1_init_25 11 rfl
theorem dX1_init_46 : decode cX1_init 46 = .ok (.return_, 1) := dq_at zd_dX1_init_25 12 rfl
theorem zd_dX2_init_0 : dq cX2_init [(0, .aload_n 0, 1), (1, .invokespecial 3, 3), (4, .aload_n 0, 1), (5, .bipush 64, 2), (7, .newarray .int, 2), (9, .putfield 9, 3), (12, .return_, 1)] = true := by decide +kernel
theorem dX2_init_0 : decode cX2_init 0 = .ok (.aload_n 0, 1) := dq_at zd_dX2_init_0 0 rfl
theorem dX2_init_1 : decode cX2_init 1 = .ok (.invokespecial 3, 3) := dq_at zd_dX2_init_0 1 rfl
theorem dX2_init_4 : decode cX2_init 4 = .ok (.aload_n 0, 1) := dq_at zd_dX2_init_0 2 rfl
theorem dX2_init_5 : decode cX2_init 5 = .ok (.bipush 64, 2) := dq_at zd_dX2_init_0 3 rfl
theorem dX2_init_7 : decode cX2_init 7 = .ok (.newarray .int, 2) := dq_at zd_dX2_init_0 4 rfl
theorem dX2_init_9 : decode cX2_init 9 = .ok (.putfield 9, 3) := dq_at zd_dX2_init_0 5 rfl
theorem dX2_init_12 : decode cX2_init 12 = .ok (.return_, 1) := dq_at zd_dX2_init_0 6 rfl
theorem zd_dX3_init_0 : dq cX3_init [(0, .aload_n 0, 1), (1, .invokespecial 3, 3), (4, .aload_n 0, 1), (5, .iconst (-1), 1), (6, .putfield 9, 3), (9, .aload_n 0, 1), (10, .bipush 24, 2), (12, .newarray .int, 2), (14, .putfield 15, 3), (17, .aload_n 0, 1), (18, .bipush 24, 2), (20, .newarray .int, 2), (22, .putfield 19, 3)] = true := by decide +kernel
theorem dX3_init_0 : decode cX3_init 0 = .ok (.aload_n 0, 1) := dq_at zd_dX3_init_0 0 rfl
theorem dX3_init_1 : decode cX3_init 1 = .ok (.invokespecial 3, 3) := dq_at zd_dX3_init_0 1 rfl
theorem dX3_init_4 : decode cX3_init 4 = .ok (.aload_n 0, 1) := dq_at zd_dX3_init_0 2 rfl
theorem dX3_init_5 : decode cX3_init 5 = .ok (.iconst (-1), 1) := dq_at zd_dX3_init_0 3 rfl
theorem dX3_init_6 : decode cX3_init 6 = .ok (.putfield 9, 3) := dq_at zd_dX3_init_0 4 rfl
theorem dX3_init_9 : decode cX3_init 9 = .ok (.aload_n 0, 1) := dq_at zd_dX3_init_0 5 rfl
theorem dX3_init_10 : decode cX3_init 10 = .ok (.bipush 24, 2) := dq_at zd_dX3_init_0 6 rfl
theorem dX3_init_12 : decode cX3_init 12 = .ok (.newarray .int, 2) := dq_at zd_dX3_init_0 7 rfl
theorem dX3_init_14 : decode cX3_init 14 = .ok (.putfield 15, 3) := dq_at zd_dX3_init_0 8 rfl
theorem dX3_init_17 : decode cX3_init 17 = .ok (.aload_n 0, 1) := dq_at zd_dX3_init_0 9 rfl
theorem dX3_init_18 : decode cX3_init 18 = .ok (.bipush 24, 2) := dq_at zd_dX3_init_0 10 rfl
theorem dX3_init_20 : decode cX3_init 20 = .ok (.newarray .int, 2) := dq_at zd_dX3_init_0 11 rfl
theorem dX3_init_22 : decode cX3_init 22 = .ok (.putfield 19, 3) := dq_at zd_dX3_init_0 12 rfl
theorem zd_dX3_init_25 : dq cX3_init [(25, .aload_n 0, 1), (26, .bipush 24, 2), (28, .newarray .int, 2), (30, .putfield 22, 3), (33, .aload_n 0, 1), (34, .bipush 24, 2), (36, .newarray .int, 2), (38, .putfield 25, 3), (41, .aload_n 0, 1), (42, .bipush 24, 2), (44, .newarray .boolean, 2), (46, .putfield 28, 3), (49, .return_, 1)] = true := by decide +kernel
theorem dX3_init_25 : decode cX3_init 25 = .ok (.aload_n 0, 1) := dq_at zd_dX3_init_25 0 rfl
theorem dX3_init_26 : decode cX3_init 26 = .ok (.bipush 24, 2) := dq_at zd_dX3_init_25 1 rfl
theorem dX3_init_28 : decode cX3_init 28 = .ok (.newarray .int, 2) := dq_at zd_dX3_init_25 2 rfl
theorem dX3_init_30 : decode cX3_init 30 = .ok (.putfield 22, 3) := dq_at zd_dX3_init_25 3 rfl
theorem dX3_init_33 : decode cX3_init 33 = .ok (.aload_n 0, 1) := dq_at zd_dX3_init_25 4 rfl
theorem dX3_init_34 : decode cX3_init 34 = .ok (.bipush 24, 2) := dq_at zd_dX3_init_25 5 rfl
theorem dX3_init_36 : decode cX3_init 36 = .ok (.newarray .int, 2) := dq_at zd_dX3_init_25 6 rfl
theorem dX3_init_38 : decode cX3_init 38 = .ok (.putfield 25, 3) := dq_at zd_dX3_init_25 7 rfl
theorem dX3_init_41 : decode cX3_init 41 = .ok (.aload_n 0, 1) := dq_at zd_dX3_init_25 8 rfl
theorem dX3_init_42 : decode cX3_init 42 = .ok (.bipush 24, 2) := dq_at zd_dX3_init_25 9 rfl
theorem dX3_init_44 : decode cX3_init 44 = .ok (.newarray .boolean, 2) := dq_at zd_dX3_init_25 10 rfl
theorem dX3_init_46 : decode cX3_init 46 = .ok (.putfield 28, 3) := dq_at zd_dX3_init_25 11 rfl
theorem dX3_init_49 : decode cX3_init 49 = .ok (.return_, 1) := dq_at zd_dX3_init_25 12 rfl
theorem zd_dX4_init_0 : dq cX4_init [(0, .aload_n 0, 1), (1, .invokespecial 3, 3), (4, .aload_n 0, 1), (5, .iconst 5, 1), (6, .newarray .int, 2), (8, .putfield 9, 3), (11, .aload_n 0, 1), (12, .iconst 5, 1), (13, .newarray .int, 2), (15, .putfield 15, 3), (18, .aload_n 0, 1), (19, .iconst 5, 1), (20, .newarray .int, 2), (22, .putfield 18, 3)] = true := by decide +kernel
theorem dX4_init_0 : decode cX4_init 0 = .ok (.aload_n 0, 1) := dq_at zd_dX4_init_0 0 rfl
theorem dX4_init_1 : decode cX4_init 1 = .ok (.invokespecial 3, 3) := dq_at zd_dX4_init_0 1 rfl
theorem dX4_init_4 : decode cX4_init 4 = .ok (.aload_n 0, 1) := dq_at zd_dX4_init_0 2 rfl
theorem dX4_init_5 : decode cX4_init 5 = .ok (.iconst 5, 1) := dq_at zd_dX4_init_0 3 rfl
theorem dX4_init_6 : decode cX4_init 6 = .ok (.newarray .int, 2) := dq_at zd_dX4_init_0 4 rfl
theorem dX4_init_8 : decode cX4_init 8 = .ok (.putfield 9, 3) := dq_at zd_dX4_init_0 5 rfl
theorem dX4_init_11 : decode cX4_init 11 = .ok (.aload_n 0, 1) := dq_at zd_dX4_init_0 6 rfl
theorem dX4_init_12 : decode cX4_init 12 = .ok (.iconst 5, 1) := dq_at zd_dX4_init_0 7 rfl
theorem dX4_init_13 : decode cX4_init 13 = .ok (.newarray .int, 2) := dq_at zd_dX4_init_0 8 rfl
theorem dX4_init_15 : decode cX4_init 15 = .ok (.putfield 15, 3) := dq_at zd_dX4_init_0 9 rfl
theorem dX4_init_18 : decode cX4_init 18 = .ok (.aload_n 0, 1) := dq_at zd_dX4_init_0 10 rfl
theorem dX4_init_19 : decode cX4_init 19 = .ok (.iconst 5, 1) := dq_at zd_dX4_init_0 11 rfl
theorem dX4_init_20 : decode cX4_init 20 = .ok (.newarray .int, 2) := dq_at zd_dX4_init_0 12 rfl
theorem dX4_init_22 : decode cX4_init 22 = .ok (.putfield 18, 3) := dq_at zd_dX4_init_0 13 rfl
theorem zd_dX4_init_25 : dq cX4_init [(25, .aload_n 0, 1), (26, .iconst 5, 1), (27, .newarray .int, 2), (29, .putfield 21, 3), (32, .aload_n 0, 1), (33, .iconst 5, 1), (34, .newarray .int, 2), (36, .putfield 24, 3), (39, .aload_n 0, 1), (40, .bipush 28, 2), (42, .newarray .int, 2), (44, .putfield 27, 3), (47, .return_, 1)] = true := by decide +kernel
theorem dX4_init_25 : decode cX4_init 25 = .ok (.aload_n 0, 1) := dq_at zd_dX4_init_25 0 rfl
theorem dX4_init_26 : decode cX4_init 26 = .ok (.iconst 5, 1) := dq_at zd_dX4_init_25 1 rfl
theorem dX4_init_27 : decode cX4_init 27 = .ok (.newarray .int, 2) := dq_at zd_dX4_init_25 2 rfl
theorem dX4_init_29 : decode cX4_init 29 = .ok (.putfield 21, 3) := dq_at zd_dX4_init_25 3 rfl
theorem dX4_init_32 : decode cX4_init 32 = .ok (.aload_n 0, 1) := dq_at zd_dX4_init_25 4 rfl
theorem dX4_init_33 : decode cX4_init 33 = .ok (.iconst 5, 1) := dq_at zd_dX4_init_25 5 rfl
theorem dX4_init_34 : decode cX4_init 34 = .ok (.newarray .int, 2) := dq_at zd_dX4_init_25 6 rfl
theorem dX4_init_36 : decode cX4_init 36 = .ok (.putfield 24, 3) := dq_at zd_dX4_init_25 7 rfl
theorem dX4_init_39 : decode cX4_init 39 = .ok (.aload_n 0, 1) := dq_at zd_dX4_init_25 8 rfl
theorem dX4_init_40 : decode cX4_init 40 = .ok (.bipush 28, 2) := dq_at zd_dX4_init_25 9 rfl
theorem dX4_init_42 : decode cX4_init 42 = .ok (.newarray .int, 2) := dq_at zd_dX4_init_25 10 rfl
theorem dX4_init_44 : decode cX4_init 44 = .ok (.putfield 27, 3) := dq_at zd_dX4_init_25 11 rfl
theorem dX4_init_47 : decode cX4_init 47 = .ok (.return_, 1) := dq_at zd_dX4_init_25 12 rfl
theorem zd_dX7_init_0 : dq cX7_init [(0, .aload_n 0, 1), (1, .invokespecial 3, 3), (4, .aload_n 0, 1), (5, .bipush 24, 2), (7, .newarray .int, 2), (9, .putfield 9, 3), (12, .aload_n 0, 1), (13, .iconst 0, 1), (14, .newarray .byte, 2), (16, .putfield 15, 3), (19, .iconst 0, 1), (20, .istore_n 1, 1), (21, .iload_n 1, 1), (22, .bipush 24, 2), (24, .if_icmp .ge 60, 3), (27, .iconst 0, 1), (28, .istore_n 2, 1), (29, .iload_n 2, 1), (30, .bipush 6, 2), (32, .if_icmp .ge 46, 3), (35, .ldc 19, 2), (37, .iload_n 1, 1), (38, .bipush 6, 2), (40, .imul, 1)] = true := by decide +kernel
theorem dX7_init_0 : decode cX7_init 0 = .ok (.aload_n 0, 1) := dq_at zd_dX7_init_0 0 rfl
theorem dX7_init_1 : decode cX7_init 1 = .ok (.invokespecial 3, 3) := dq_at zd_dX7_init_0 1 rfl
theorem dX7_init_4 : decode cX7_init 4 = .ok (.aload_n 0, 1) := dq_at zd_dX7_init_0 2 rfl
theorem dX7_init_5 : decode cX7_init 5 = .ok (.bipush 24, 2) := dq_at zd_dX7_init_0 3 rfl
theorem dX7_init_7 : decode cX7_init 7 = .ok (.newarray .int, 2) := dq_at zd_dX7_init_0 4 rfl
theorem dX7_init_9 : decode cX7_init 9 = .ok (.putfield 9, 3) := dq_at zd_dX7_init_0 5 rfl
theorem dX7_init_12 : decode cX7_init 12 = .ok (.aload_n 0, 1) := dq_at zd_dX7_init_0 6 rfl
theorem dX7_init_13 : decode cX7_init 13 = .ok (.iconst 0, 1) := dq_at zd_dX7_init_0 7 rfl
theorem dX7_init_14 : decode cX7_init 14 = .ok (.newarray .byte, 2) := dq_at zd_dX7_init_0 8 rfl
theorem dX7_init_16 : decode cX7_init 16 = .ok (.putfield 15, 3) := dq_at zd_dX7_init_0 9 rfl
theorem dX7_init_19 : decode cX7_init 19 = .ok (.iconst 0, 1) := dq_at zd_dX7_init_0 10 rfl
theorem dX7_init_20 : decode cX7_init 20 = .ok (.istore_n 1, 1) := dq_at zd_dX7_init_0 11 rfl
theorem dX7_init_21 : decode cX7_init 21 = .ok (.iload_n 1, 1) := dq_at zd_dX7_init_0 12 rfl
theorem dX7_init_22 : decode cX7_init 22 = .ok (.bipush 24, 2) := dq_at zd_dX7_init_0 13 rfl
theorem dX7_init_24 : decode cX7_init 24 = .ok (.if_icmp .ge 60, 3) := dq_at zd_dX7_init_0 14 rfl
theorem dX7_init_27 : decode cX7_init 27 = .ok (.iconst 0, 1) := dq_at zd_dX7_init_0 15 rfl
theorem dX7_init_28 : decode cX7_init 28 = .ok (.istore_n 2, 1) := dq_at zd_dX7_init_0 16 rfl
theorem dX7_init_29 : decode cX7_init 29 = .ok (.iload_n 2, 1) := dq_at zd_dX7_init_0 17 rfl
theorem dX7_init_30 : decode cX7_init 30 = .ok (.bipush 6, 2) := dq_at zd_dX7_init_0 18 rfl
theorem dX7_init_32 : decode cX7_init 32 = .ok (.if_icmp .ge 46, 3) := dq_at zd_dX7_init_0 19 rfl
theorem dX7_init_35 : decode cX7_init 35 = .ok (.ldc 19, 2) := dq_at zd_dX7_init_0 20 rfl
theorem dX7_init_37 : decode cX7_init 37 = .ok (.iload_n 1, 1) := dq_at zd_dX7_init_0 21 rfl
theorem dX7_init_38 : decode cX7_init 38 = .ok (.bipush 6, 2) := dq_at zd_dX7_init_0 22 rfl
theorem dX7_init_40 : decode cX7_init 40 = .ok (.imul, 1) := dq_at zd_dX7_init_0 23 rfl
theorem zd_dX7_init_41 : dq cX7_init [(41, .iload_n 2, 1), (42, .iadd, 1), (43, .invokevirtual 21, 3), (46, .istore_n 3, 1), (47, .aload_n 0, 1), (48, .getfield 9, 3), (51, .iload_n 1, 1), (52, .dup2, 1), (53, .iaload, 1), (54, .iload_n 3, 1), (55, .invokestatic 27, 3), (58, .ifCond .eq 11, 3), (61, .iload_n 3, 1), (62, .iload_n 2, 1), (63, .invokestatic 31, 3), (66, .goto 4, 3), (69, .iconst 0, 1), (70, .ior, 1), (71, .iastore, 1), (72, .iinc 2 1, 3), (75, .goto (-46), 3), (78, .iinc 1 1, 3), (81, .goto (-60), 3), (84, .return_, 1)] = true := by decide +kernel
theorem dX7_init_41 : decode cX7_init 41 = .ok (.iload_n 2, 1) := dq_at zd_dX7_init_41 0 rfl
theorem dX7_init_42 : decode cX7_init 42 = .ok (.iadd, 1) := dq_at zd_dX7_init_41 1 rfl
theorem dX7_init_43 : decode cX7_init 43 = .ok (.invokevirtual 21, 3) := dq_at zd_dX7_init_41 2 rfl
theorem dX7_init_46 : decode cX7_init 46 = .ok (.istore_n 3, 1) := dq_at zd_dX7_init_41 3 rfl
theorem dX7_init_47 : decode cX7_init 47 = .ok (.aload_n 0, 1) := dq_at zd_dX7_init_41 4 rfl
theorem dX7_init_48 : decode cX7_init 48 = .ok (.getfield 9, 3) := dq_at zd_dX7_init_41 5 rfl
theorem dX7_init_51 : decode cX7_init 51 = .ok (.iload_n 1, 1) := dq_at zd_dX7_init_41 6 rfl
theorem dX7_init_52 : decode cX7_init 52 = .ok (.dup2, 1) := dq_at zd_dX7_init_41 7 rfl
theorem dX7_init_53 : decode cX7_init 53 = .ok (.iaload, 1) := dq_at zd_dX7_init_41 8 rfl
theorem dX7_init_54 : decode cX7_init 54 = .ok (.iload_n 3, 1) := dq_at zd_dX7_init_41 9 rfl
theorem dX7_init_55 : decode cX7_init 55 = .ok (.invokestatic 27, 3) := dq_at zd_dX7_init_41 10 rfl
theorem dX7_init_58 : decode cX7_init 58 = .ok (.ifCond .eq 11, 3) := dq_at zd_dX7_init_41 11 rfl
theorem dX7_init_61 : decode cX7_init 61 = .ok (.iload_n 3, 1) := dq_at zd_dX7_init_41 12 rfl
theorem dX7_init_62 : decode cX7_init 62 = .ok (.iload_n 2, 1) := dq_at zd_dX7_init_41 13 rfl
theorem dX7_init_63 : decode cX7_init 63 = .ok (.invokestatic 31, 3) := dq_at zd_dX7_init_41 14 rfl
theorem dX7_init_66 : decode cX7_init 66 = .ok (.goto 4, 3) := dq_at zd_dX7_init_41 15 rfl
theorem dX7_init_69 : decode cX7_init 69 = .ok (.iconst 0, 1) := dq_at zd_dX7_init_41 16 rfl
theorem dX7_init_70 : decode cX7_init 70 = .ok (.ior, 1) := dq_at zd_dX7_init_41 17 rfl
theorem dX7_init_71 : decode cX7_init 71 = .ok (.iastore, 1) := dq_at zd_dX7_init_41 18 rfl
theorem dX7_init_72 : decode cX7_init 72 = .ok (.iinc 2 1, 3) := dq_at zd_dX7_init_41 19 rfl
theorem dX7_init_75 : decode cX7_init 75 = .ok (.goto (-46), 3) := dq_at zd_dX7_init_41 20 rfl
theorem dX7_init_78 : decode cX7_init 78 = .ok (.iinc 1 1, 3) := dq_at zd_dX7_init_41 21 rfl
theorem dX7_init_81 : decode cX7_init 81 = .ok (.goto (-60), 3) := dq_at zd_dX7_init_41 22 rfl
theorem dX7_init_84 : decode cX7_init 84 = .ok (.return_, 1) := dq_at zd_dX7_init_41 23 rfl
theorem zd_dX9_init_0 : dq cX9_init [(0, .aload_n 0, 1), (1, .invokespecial 3, 3), (4, .aload_n 0, 1), (5, .bipush 20, 2), (7, .newarray .int, 2), (9, .putfield 9, 3), (12, .aload_n 0, 1), (13, .bipush 20, 2), (15, .newarray .int, 2), (17, .putfield 15, 3), (20, .return_, 1)] = true := by decide +kernel
theorem dX9_init_0 : decode cX9_init 0 = .ok (.aload_n 0, 1) := dq_at zd_dX9_init_0 0 rfl
theorem dX9_init_1 : decode cX9_init 1 = .ok (.invokespecial 3, 3) := dq_at zd_dX9_init_0 1 rfl
theorem dX9_init_4 : decode cX9_init 4 = .ok (.aload_n 0, 1) := dq_at zd_dX9_init_0 2 rfl
theorem dX9_init_5 : decode cX9_init 5 = .ok (.bipush 20, 2) := dq_at zd_dX9_init_0 3 rfl
theorem dX9_init_7 : decode cX9_init 7 = .ok (.newarray .int, 2) := dq_at zd_dX9_init_0 4 rfl
theorem dX9_init_9 : decode cX9_init 9 = .ok (.putfield 9, 3) := dq_at zd_dX9_init_0 5 rfl
theorem dX9_init_12 : decode cX9_init 12 = .ok (.aload_n 0, 1) := dq_at zd_dX9_init_0 6 rfl
theorem dX9_init_13 : decode cX9_init 13 = .ok (.bipush 20, 2) := dq_at zd_dX9_init_0 7 rfl
theorem dX9_init_15 : decode cX9_init 15 = .ok (.newarray .int, 2) := dq_at zd_dX9_init_0 8 rfl
theorem dX9_init_17 : decode cX9_init 17 = .ok (.putfield 15, 3) := dq_at zd_dX9_init_0 9 rfl
theorem dX9_init_20 : decode cX9_init 20 = .ok (.return_, 1) := dq_at zd_dX9_init_0 10 rfl
theorem zd_dX10_init_0 : dq cX10_init [(0, .aload_n 0, 1), (1, .invokespecial 3, 3), (4, .aload_n 0, 1), (5, .iconst 4, 1), (6, .newarray .int, 2), (8, .putfield 9, 3), (11, .aload_n 0, 1), (12, .iconst 4, 1), (13, .newarray .int, 2), (15, .putfield 15, 3), (18, .aload_n 0, 1), (19, .bipush 28, 2), (21, .newarray .int, 2), (23, .putfield 18, 3)] = true := by decide +kernel
theorem dX10_init_0 : decode cX10_init 0 = .ok (.aload_n 0, 1) := dq_at zd_dX10_init_0 0 rfl
theorem dX10_init_1 : decode cX10_init 1 = .ok (.invokespecial 3, 3) := dq_at zd_dX10_init_0 1 rfl
theorem dX10_init_4 : decode cX10_init 4 = .ok (.aload_n 0, 1) := dq_at zd_dX10_init_0 2 rfl
theorem dX10_init_5 : decode cX10_init 5 = .ok (.iconst 4, 1) := dq_at zd_dX10_init_0 3 rfl
theorem dX10_init_6 : decode cX10_init 6 = .ok (.newarray .int, 2) := dq_at zd_dX10_init_0 4 rfl
theorem dX10_init_8 : decode cX10_init 8 = .ok (.putfield 9, 3) := dq_at zd_dX10_init_0 5 rfl
theorem dX10_init_11 : decode cX10_init 11 = .ok (.aload_n 0, 1) := dq_at zd_dX10_init_0 6 rfl
theorem dX10_init_12 : decode cX10_init 12 = .ok (.iconst 4, 1) := dq_at zd_dX10_init_0 7 rfl
theorem dX10_init_13 : decode cX10_init 13 = .ok (.newarray .int, 2) := dq_at zd_dX10_init_0 8 rfl
theorem dX10_init_15 : decode cX10_init 15 = .ok (.putfield 15, 3) := dq_at zd_dX10_init_0 9 rfl
theorem dX10_init_18 : decode cX10_init 18 = .ok (.aload_n 0, 1) := dq_at zd_dX10_init_0 10 rfl
theorem dX10_init_19 : decode cX10_init 19 = .ok (.bipush 28, 2) := dq_at zd_dX10_init_0 11 rfl
theorem dX10_init_21 : decode cX10_init 21 = .ok (.newarray .int, 2) := dq_at zd_dX10_init_0 12 rfl
theorem dX10_init_23 : decode cX10_init 23 = .ok (.putfield 18, 3) := dq_at zd_dX10_init_0 13 rfl
theorem zd_dX10_init_26 : dq cX10_init [(26, .aload_n 0, 1), (27, .bipush 28, 2), (29, .newarray .int, 2), (31, .putfield 21, 3), (34, .aload_n 0, 1), (35, .bipush 28, 2), (37, .newarray .int, 2), (39, .putfield 24, 3), (42, .aload_n 0, 1), (43, .bipush 28, 2), (45, .newarray .int, 2), (47, .putfield 27, 3), (50, .return_, 1)] = true := by decide +kernel
theorem dX10_init_26 : decode cX10_init 26 = .ok (.aload_n 0, 1) := dq_at zd_dX10_init_26 0 rfl
theorem dX10_init_27 : decode cX10_init 27 = .ok (.bipush 28, 2) := dq_at zd_dX10_init_26 1 rfl
theorem dX10_init_29 : decode cX10_init 29 = .ok (.newarray .int, 2) := dq_at zd_dX10_init_26 2 rfl
theorem dX10_init_31 : decode cX10_init 31 = .ok (.putfield 21, 3) := dq_at zd_dX10_init_26 3 rfl
theorem dX10_init_34 : decode cX10_init 34 = .ok (.aload_n 0, 1) := dq_at zd_dX10_init_26 4 rfl
theorem dX10_init_35 : decode cX10_init 35 = .ok (.bipush 28, 2) := dq_at zd_dX10_init_26 5 rfl
theorem dX10_init_37 : decode cX10_init 37 = .ok (.newarray .int, 2) := dq_at zd_dX10_init_26 6 rfl
theorem dX10_init_39 : decode cX10_init 39 = .ok (.putfield 24, 3) := dq_at zd_dX10_init_26 7 rfl
theorem dX10_init_42 : decode cX10_init 42 = .ok (.aload_n 0, 1) := dq_at zd_dX10_init_26 8 rfl
theorem dX10_init_43 : decode cX10_init 43 = .ok (.bipush 28, 2) := dq_at zd_dX10_init_26 9 rfl
theorem dX10_init_45 : decode cX10_init 45 = .ok (.newarray .int, 2) := dq_at zd_dX10_init_26 10 rfl
theorem dX10_init_47 : decode cX10_init 47 = .ok (.putfield 27, 3) := dq_at zd_dX10_init_26 11 rfl
theorem dX10_init_50 : decode cX10_init 50 = .ok (.return_, 1) := dq_at zd_dX10_init_26 12 rfl
theorem zd_dX8_init_0 : dq cX8_init [(0, .aload_n 0, 1), (1, .invokespecial 3, 3), (4, .aload_n 0, 1), (5, .new 9, 3), (8, .dup, 1), (9, .invokespecial 11, 3), (12, .putfield 12, 3), (15, .aload_n 0, 1), (16, .new 18, 3), (19, .dup, 1), (20, .invokespecial 20, 3), (23, .putfield 21, 3), (26, .aload_n 0, 1), (27, .iconst 3, 1), (28, .anewarray 25, 3), (31, .putfield 27, 3), (34, .iconst 0, 1), (35, .istore_n 1, 1), (36, .iload_n 1, 1)] = true := by decide +kernel
theorem dX8_init_0 : decode cX8_init 0 = .ok (.aload_n 0, 1) := dq_at zd_dX8_init_0 0 rfl
theorem dX8_init_1 : decode cX8_init 1 = .ok (.invokespecial 3, 3) := dq_at zd_dX8_init_0 1 rfl
theorem dX8_init_4 : decode cX8_init 4 = .ok (.aload_n 0, 1) := dq_at zd_dX8_init_0 2 rfl
theorem dX8_init_5 : decode cX8_init 5 = .ok (.new 9, 3) := dq_at zd_dX8_init_0 3 rfl
theorem dX8_init_8 : decode cX8_init 8 = .ok (.dup, 1) := dq_at zd_dX8_init_0 4 rfl
theorem dX8_init_9 : decode cX8_init 9 = .ok (.invokespecial 11, 3) := dq_at zd_dX8_init_0 5 rfl
theorem dX8_init_12 : decode cX8_init 12 = .ok (.putfield 12, 3) := dq_at zd_dX8_init_0 6 rfl
theorem dX8_init_15 : decode cX8_init 15 = .ok (.aload_n 0, 1) := dq_at zd_dX8_init_0 7 rfl
theorem dX8_init_16 : decode cX8_init 16 = .ok (.new 18, 3) := dq_at zd_dX8_init_0 8 rfl
theorem dX8_init_19 : decode cX8_init 19 = .ok (.dup, 1) := dq_at zd_dX8_init_0 9 rfl
theorem dX8_init_20 : decode cX8_init 20 = .ok (.invokespecial 20, 3) := dq_at zd_dX8_init_0 10 rfl
theorem dX8_init_23 : decode cX8_init 23 = .ok (.putfield 21, 3) := dq_at zd_dX8_init_0 11 rfl
theorem dX8_init_26 : decode cX8_init 26 = .ok (.aload_n 0, 1) := dq_at zd_dX8_init_0 12 rfl
theorem dX8_init_27 : decode cX8_init 27 = .ok (.iconst 3, 1) := dq_at zd_dX8_init_0 13 rfl
theorem dX8_init_28 : decode cX8_init 28 = .ok (.anewarray 25, 3) := dq_at zd_dX8_init_0 14 rfl
theorem dX8_init_31 : decode cX8_init 31 = .ok (.putfield 27, 3) := dq_at zd_dX8_init_0 15 rfl
theorem dX8_init_34 : decode cX8_init 34 = .ok (.iconst 0, 1) := dq_at zd_dX8_init_0 16 rfl
theorem dX8_init_35 : decode cX8_init 35 = .ok (.istore_n 1, 1) := dq_at zd_dX8_init_0 17 rfl
theorem dX8_init_36 : decode cX8_init 36 = .ok (.iload_n 1, 1) := dq_at zd_dX8_init_0 18 rfl
theorem zd_dX8_init_37 : dq cX8_init [(37, .iconst 3, 1), (38, .if_icmp .ge 22, 3), (41, .aload_n 0, 1), (42, .getfield 27, 3), (45, .iload_n 1, 1), (46, .new 25, 3), (49, .dup, 1), (50, .invokespecial 31, 3), (53, .aastore, 1), (54, .iinc 1 1, 3), (57, .goto (-21), 3), (60, .aload_n 0, 1), (61, .bipush 6, 2), (63, .putfield 32, 3), (66, .aload_n 0, 1), (67, .iconst 4, 1), (68, .putfield 36, 3), (71, .return_, 1)] = true := by decide +kernel
theorem dX8_init_37 : decode cX8_init 37 = .ok (.iconst 3, 1) := dq_at zd_dX8_init_37 0 rfl
theorem dX8_init_38 : decode cX8_init 38 = .ok (.if_icmp .ge 22, 3) := dq_at zd_dX8_init_37 1 rfl
theorem dX8_init_41 : decode cX8_init 41 = .ok (.aload_n 0, 1) := dq_at zd_dX8_init_37 2 rfl
theorem dX8_init_42 : decode cX8_init 42 = .ok (.getfield 27, 3) := dq_at zd_dX8_init_37 3 rfl
theorem dX8_init_45 : decode cX8_init 45 = .ok (.iload_n 1, 1) := dq_at zd_dX8_init_37 4 rfl
theorem dX8_init_46 : decode cX8_init 46 = .ok (.new 25, 3) := dq_at zd_dX8_init_37 5 rfl
theorem dX8_init_49 : decode cX8_init 49 = .ok (.dup, 1) := dq_at zd_dX8_init_37 6 rfl
theorem dX8_init_50 : decode cX8_init 50 = .ok (.invokespecial 31, 3) := dq_at zd_dX8_init_37 7 rfl
theorem dX8_init_53 : decode cX8_init 53 = .ok (.aastore, 1) := dq_at zd_dX8_init_37 8 rfl
theorem dX8_init_54 : decode cX8_init 54 = .ok (.iinc 1 1, 3) := dq_at zd_dX8_init_37 9 rfl
theorem dX8_init_57 : decode cX8_init 57 = .ok (.goto (-21), 3) := dq_at zd_dX8_init_37 10 rfl
theorem dX8_init_60 : decode cX8_init 60 = .ok (.aload_n 0, 1) := dq_at zd_dX8_init_37 11 rfl
theorem dX8_init_61 : decode cX8_init 61 = .ok (.bipush 6, 2) := dq_at zd_dX8_init_37 12 rfl
theorem dX8_init_63 : decode cX8_init 63 = .ok (.putfield 32, 3) := dq_at zd_dX8_init_37 13 rfl
theorem dX8_init_66 : decode cX8_init 66 = .ok (.aload_n 0, 1) := dq_at zd_dX8_init_37 14 rfl
theorem dX8_init_67 : decode cX8_init 67 = .ok (.iconst 4, 1) := dq_at zd_dX8_init_37 15 rfl
theorem dX8_init_68 : decode cX8_init 68 = .ok (.putfield 36, 3) := dq_at zd_dX8_init_37 16 rfl
theorem dX8_init_71 : decode cX8_init 71 = .ok (.return_, 1) := dq_at zd_dX8_init_37 17 rfl
theorem zd_dX5_init_0 : dq cX5_init [(0, .aload_n 0, 1), (1, .invokespecial 3, 3), (4, .aload_n 0, 1), (5, .aload_n 1, 1), (6, .putfield 9, 3), (9, .aload_n 0, 1), (10, .new 15, 3), (13, .dup, 1), (14, .invokespecial 17, 3), (17, .putfield 18, 3), (20, .aload_n 0, 1), (21, .bipush 72, 2), (23, .newarray .int, 2), (25, .putfield 22, 3), (28, .aload_n 0, 1), (29, .iconst (-1), 1), (30, .putfield 26, 3), (33, .return_, 1)] = true := by decide +kernel
theorem dX5_init_0 : decode cX5_init 0 = .ok (.aload_n 0, 1) := dq_at zd_dX5_init_0 0 rfl
theorem dX5_init_1 : decode cX5_init 1 = .ok (.invokespecial 3, 3) := dq_at zd_dX5_init_0 1 rfl
theorem dX5_init_4 : decode cX5_init 4 = .ok (.aload_n 0, 1) := dq_at zd_dX5_init_0 2 rfl
theorem dX5_init_5 : decode cX5_init 5 = .ok (.aload_n 1, 1) := dq_at zd_dX5_init_0 3 rfl
theorem dX5_init_6 : decode cX5_init 6 = .ok (.putfield 9, 3) := dq_at zd_dX5_init_0 4 rfl
theorem dX5_init_9 : decode cX5_init 9 = .ok (.aload_n 0, 1) := dq_at zd_dX5_init_0 5 rfl
theorem dX5_init_10 : decode cX5_init 10 = .ok (.new 15, 3) := dq_at zd_dX5_init_0 6 rfl
theorem dX5_init_13 : decode cX5_init 13 = .ok (.dup, 1) := dq_at zd_dX5_init_0 7 rfl
theorem dX5_init_14 : decode cX5_init 14 = .ok (.invokespecial 17, 3) := dq_at zd_dX5_init_0 8 rfl
theorem dX5_init_17 : decode cX5_init 17 = .ok (.putfield 18, 3) := dq_at zd_dX5_init_0 9 rfl
theorem dX5_init_20 : decode cX5_init 20 = .ok (.aload_n 0, 1) := dq_at zd_dX5_init_0 10 rfl
theorem dX5_init_21 : decode cX5_init 21 = .ok (.bipush 72, 2) := dq_at zd_dX5_init_0 11 rfl
theorem dX5_init_23 : decode cX5_init 23 = .ok (.newarray .int, 2) := dq_at zd_dX5_init_0 12 rfl
theorem dX5_init_25 : decode cX5_init 25 = .ok (.putfield 22, 3) := dq_at zd_dX5_init_0 13 rfl
theorem dX5_init_28 : decode cX5_init 28 = .ok (.aload_n 0, 1) := dq_at zd_dX5_init_0 14 rfl
theorem dX5_init_29 : decode cX5_init 29 = .ok (.iconst (-1), 1) := dq_at zd_dX5_init_0 15 rfl
theorem dX5_init_30 : decode cX5_init 30 = .ok (.putfield 26, 3) := dq_at zd_dX5_init_0 16 rfl
theorem dX5_init_33 : decode cX5_init 33 = .ok (.return_, 1) := dq_at zd_dX5_init_0 17 rfl
theorem zd_dX6_init_0 : dq cX6_init [(0, .aload_n 0, 1), (1, .invokespecial 3, 3), (4, .aload_n 0, 1), (5, .aload_n 1, 1), (6, .putfield 9, 3), (9, .aload_n 0, 1), (10, .iconst 5, 1), (11, .newarray .int, 2), (13, .putfield 15, 3), (16, .aload_n 0, 1), (17, .iconst 5, 1)] = true := by decide +kernel
theorem dX6_init_0 : decode cX6_init 0 = .ok (.aload_n 0, 1) := dq_at zd_dX6_init_0 0 rfl
theorem dX6_init_1 : decode cX6_init 1 = .ok (.invokespecial 3, 3) := dq_at zd_dX6_init_0 1 rfl
theorem dX6_init_4 : decode cX6_init 4 = .ok (.aload_n 0, 1) := dq_at zd_dX6_init_0 2 rfl
theorem dX6_init_5 : decode cX6_init 5 = .ok (.aload_n 1, 1) := dq_at zd_dX6_init_0 3 rfl
theorem dX6_init_6 : decode cX6_init 6 = .ok (.putfield 9, 3) := dq_at zd_dX6_init_0 4 rfl
theorem dX6_init_9 : decode cX6_init 9 = .ok (.aload_n 0, 1) := dq_at zd_dX6_init_0 5 rfl
theorem dX6_init_10 : decode cX6_init 10 = .ok (.iconst 5, 1) := dq_at zd_dX6_init_0 6 rfl
theorem dX6_init_11 : decode cX6_init 11 = .ok (.newarray .int, 2) := dq_at zd_dX6_init_0 7 rfl
theorem dX6_init_13 : decode cX6_init 13 = .ok (.putfield 15, 3) := dq_at zd_dX6_init_0 8 rfl
theorem dX6_init_16 : decode cX6_init 16 = .ok (.aload_n 0, 1) := dq_at zd_dX6_init_0 9 rfl
theorem dX6_init_17 : decode cX6_init 17 = .ok (.iconst 5, 1) := dq_at zd_dX6_init_0 10 rfl
