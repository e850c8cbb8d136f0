theorem zd_dX6_init_18 : dq cX6_init [(18, .newarray .int, 2), (20, .putfield 19, 3), (23, .aload_n 0, 1), (24, .bipush 28, 2), (26, .newarray .int, 2), (28, .putfield 22, 3), (31, .aload_n 0, 1), (32, .bipush 6, 2), (34, .newarray .long, 2), (36, .putfield 25, 3), (39, .aload_n 0, 1), (40, .bipush 64, 2), (42, .newarray .long, 2), (44, .putfield 29, 3)] = true := by decide +kernel
theorem dX6_init_18 : decode cX6_init 18 = .ok (.newarray .int, 2) := dq_at zd_dX6_init_18 0 rfl
theorem dX6_init_20 : decode cX6_init 20 = .ok (.putfield 19, 3) := dq_at zd_dX6_init_18 1 rfl
theorem dX6_init_23 : decode cX6_init 23 = .ok (.aload_n 0, 1) := dq_at zd_dX6_init_18 2 rfl
theorem dX6_init_24 : decode cX6_init 24 = .ok (.bipush 28, 2) := dq_at zd_dX6_init_18 3 rfl
theorem dX6_init_26 : decode cX6_init 26 = .ok (.newarray .int, 2) := dq_at zd_dX6_init_18 4 rfl
theorem dX6_init_28 : decode cX6_init 28 = .ok (.putfield 22, 3) := dq_at zd_dX6_init_18 5 rfl
theorem dX6_init_31 : decode cX6_init 31 = .ok (.aload_n 0, 1) := dq_at zd_dX6_init_18 6 rfl
theorem dX6_init_32 : decode cX6_init 32 = .ok (.bipush 6, 2) := dq_at zd_dX6_init_18 7 rfl
theorem dX6_init_34 : decode cX6_init 34 = .ok (.newarray .long, 2) := dq_at zd_dX6_init_18 8 rfl
theorem dX6_init_36 : decode cX6_init 36 = .ok (.putfield 25, 3) := dq_at zd_dX6_init_18 9 rfl
theorem dX6_init_39 : decode cX6_init 39 = .ok (.aload_n 0, 1) := dq_at zd_dX6_init_18 10 rfl
theorem dX6_init_40 : decode cX6_init 40 = .ok (.bipush 64, 2) := dq_at zd_dX6_init_18 11 rfl
theorem dX6_init_42 : decode cX6_init 42 = .ok (.newarray .long, 2) := dq_at zd_dX6_init_18 12 rfl
theorem dX6_init_44 : decode cX6_init 44 = .ok (.putfield 29, 3) := dq_at zd_dX6_init_18 13 rfl
theorem zd_dX6_init_47 : dq cX6_init [(47, .aload_n 0, 1), (48, .iconst 5, 1), (49, .newarray .int, 2), (51, .putfield 32, 3), (54, .aload_n 0, 1), (55, .iconst 5, 1), (56, .newarray .int, 2), (58, .putfield 35, 3), (61, .aload_n 0, 1), (62, .iconst 5, 1), (63, .newarray .int, 2), (65, .putfield 38, 3), (68, .return_, 1)] = true := by decide +kernel
theorem dX6_init_47 : decode cX6_init 47 = .ok (.aload_n 0, 1) := dq_at zd_dX6_init_47 0 rfl
theorem dX6_init_48 : decode cX6_init 48 = .ok (.iconst 5, 1) := dq_at zd_dX6_init_47 1 rfl
theorem dX6_init_49 : decode cX6_init 49 = .ok (.newarray .int, 2) := dq_at zd_dX6_init_47 2 rfl
theorem dX6_init_51 : decode cX6_init 51 = .ok (.putfield 32, 3) := dq_at zd_dX6_init_47 3 rfl
theorem dX6_init_54 : decode cX6_init 54 = .ok (.aload_n 0, 1) := dq_at zd_dX6_init_47 4 rfl
theorem dX6_init_55 : decode cX6_init 55 = .ok (.iconst 5, 1) := dq_at zd_dX6_init_47 5 rfl
theorem dX6_init_56 : decode cX6_init 56 = .ok (.newarray .int, 2) := dq_at zd_dX6_init_47 6 rfl
theorem dX6_init_58 : decode cX6_init 58 = .ok (.putfield 35, 3) := dq_at zd_dX6_init_47 7 rfl
theorem dX6_init_61 : decode cX6_init 61 = .ok (.aload_n 0, 1) := dq_at zd_dX6_init_47 8 rfl
theorem dX6_init_62 : decode cX6_init 62 = .ok (.iconst 5, 1) := dq_at zd_dX6_init_47 9 rfl
theorem dX6_init_63 : decode cX6_init 63 = .ok (.newarray .int, 2) := dq_at zd_dX6_init_47 10 rfl
theorem dX6_init_65 : decode cX6_init 65 = .ok (.putfield 38, 3) := dq_at zd_dX6_init_47 11 rfl
theorem dX6_init_68 : decode cX6_init 68 = .ok (.return_, 1) := dq_at zd_dX6_init_47 12 rfl
theorem zd_dX0_init_0 : dq cX0_init [(0, .aload_n 0, 1), (1, .invokespecial 3, 3), (4, .aload_n 0, 1), (5, .bipush 10, 2), (7, .newarray .int, 2), (9, .putfield 9, 3), (12, .aload_n 0, 1), (13, .sipush 280, 3), (16, .newarray .int, 2), (18, .putfield 15, 3), (21, .aload_n 0, 1), (22, .sipush 280, 3), (25, .newarray .int, 2), (27, .putfield 18, 3), (30, .aload_n 0, 1), (31, .bipush 25, 2), (33, .newarray .int, 2), (35, .putfield 21, 3), (38, .aload_n 0, 1), (39, .bipush 25, 2), (41, .newarray .int, 2), (43, .putfield 24, 3)] = true := by decide +kernel
theorem dX0_init_0 : decode cX0_init 0 = .ok (.aload_n 0, 1) := dq_at zd_dX0_init_0 0 rfl
theorem dX0_init_1 : decode cX0_init 1 = .ok (.invokespecial 3, 3) := dq_at zd_dX0_init_0 1 rfl
theorem dX0_init_4 : decode cX0_init 4 = .ok (.aload_n 0, 1) := dq_at zd_dX0_init_0 2 rfl
theorem dX0_init_5 : decode cX0_init 5 = .ok (.bipush 10, 2) := dq_at zd_dX0_init_0 3 rfl
theorem dX0_init_7 : decode cX0_init 7 = .ok (.newarray .int, 2) := dq_at zd_dX0_init_0 4 rfl
theorem dX0_init_9 : decode cX0_init 9 = .ok (.putfield 9, 3) := dq_at zd_dX0_init_0 5 rfl
theorem dX0_init_12 : decode cX0_init 12 = .ok (.aload_n 0, 1) := dq_at zd_dX0_init_0 6 rfl
theorem dX0_init_13 : decode cX0_init 13 = .ok (.sipush 280, 3) := dq_at zd_dX0_init_0 7 rfl
theorem dX0_init_16 : decode cX0_init 16 = .ok (.newarray .int, 2) := dq_at zd_dX0_init_0 8 rfl
theorem dX0_init_18 : decode cX0_init 18 = .ok (.putfield 15, 3) := dq_at zd_dX0_init_0 9 rfl
theorem dX0_init_21 : decode cX0_init 21 = .ok (.aload_n 0, 1) := dq_at zd_dX0_init_0 10 rfl
theorem dX0_init_22 : decode cX0_init 22 = .ok (.sipush 280, 3) := dq_at zd_dX0_init_0 11 rfl
theorem dX0_init_25 : decode cX0_init 25 = .ok (.newarray .int, 2) := dq_at zd_dX0_init_0 12 rfl
theorem dX0_init_27 : decode cX0_init 27 = .ok (.putfield 18, 3) := dq_at zd_dX0_init_0 13 rfl
theorem dX0_init_30 : decode cX0_init 30 = .ok (.aload_n 0, 1) := dq_at zd_dX0_init_0 14 rfl
theorem dX0_init_31 : decode cX0_init 31 = .ok (.bipush 25, 2) := dq_at zd_dX0_init_0 15 rfl
theorem dX0_init_33 : decode cX0_init 33 = .ok (.newarray .int, 2) := dq_at zd_dX0_init_0 16 rfl
theorem dX0_init_35 : decode cX0_init 35 = .ok (.putfield 21, 3) := dq_at zd_dX0_init_0 17 rfl
theorem dX0_init_38 : decode cX0_init 38 = .ok (.aload_n 0, 1) := dq_at zd_dX0_init_0 18 rfl
theorem dX0_init_39 : decode cX0_init 39 = .ok (.bipush 25, 2) := dq_at zd_dX0_init_0 19 rfl
theorem dX0_init_41 : decode cX0_init 41 = .ok (.newarray .int, 2) := dq_at zd_dX0_init_0 20 rfl
theorem dX0_init_43 : decode cX0_init 43 = .ok (.putfield 24, 3) := dq_at zd_dX0_init_0 21 rfl
theorem zd_dX0_init_46 : dq cX0_init [(46, .aload_n 0, 1), (47, .bipush 25, 2), (49, .newarray .int, 2), (51, .putfield 27, 3), (54, .aload_n 0, 1), (55, .bipush 29, 2), (57, .newarray .int, 2), (59, .putfield 30, 3), (62, .aload_n 0, 1), (63, .bipush 28, 2), (65, .newarray .int, 2), (67, .putfield 33, 3), (70, .aload_n 0, 1), (71, .bipush 28, 2), (73, .newarray .boolean, 2), (75, .putfield 36, 3), (78, .aload_n 0, 1), (79, .bipush 28, 2), (81, .newarray .int, 2), (83, .putfield 40, 3), (86, .return_, 1)] = true := by decide +kernel
theorem dX0_init_46 : decode cX0_init 46 = .ok (.aload_n 0, 1) := dq_at zd_dX0_init_46 0 rfl
theorem dX0_init_47 : decode cX0_init 47 = .ok (.bipush 25, 2) := dq_at zd_dX0_init_46 1 rfl
theorem dX0_init_49 : decode cX0_init 49 = .ok (.newarray .int, 2) := dq_at zd_dX0_init_46 2 rfl
theorem dX0_init_51 : decode cX0_init 51 = .ok (.putfield 27, 3) := dq_at zd_dX0_init_46 3 rfl
theorem dX0_init_54 : decode cX0_init 54 = .ok (.aload_n 0, 1) := dq_at zd_dX0_init_46 4 rfl
theorem dX0_init_55 : decode cX0_init 55 = .ok (.bipush 29, 2) := dq_at zd_dX0_init_46 5 rfl
theorem dX0_init_57 : decode cX0_init 57 = .ok (.newarray .int, 2) := dq_at zd_dX0_init_46 6 rfl
theorem dX0_init_59 : decode cX0_init 59 = .ok (.putfield 30, 3) := dq_at zd_dX0_init_46 7 rfl
theorem dX0_init_62 : decode cX0_init 62 = .ok (.aload_n 0, 1) := dq_at zd_dX0_init_46 8 rfl
theorem dX0_init_63 : decode cX0_init 63 = .ok (.bipush 28, 2) := dq_at zd_dX0_init_46 9 rfl
theorem dX0_init_65 : decode cX0_init 65 = .ok (.newarray .int, 2) := dq_at zd_dX0_init_46 10 rfl
theorem dX0_init_67 : decode cX0_init 67 = .ok (.putfield 33, 3) := dq_at zd_dX0_init_46 11 rfl
theorem dX0_init_70 : decode cX0_init 70 = .ok (.aload_n 0, 1) := dq_at zd_dX0_init_46 12 rfl
theorem dX0_init_71 : decode cX0_init 71 = .ok (.bipush 28, 2) := dq_at zd_dX0_init_46 13 rfl
theorem dX0_init_73 : decode cX0_init 73 = .ok (.newarray .boolean, 2) := dq_at zd_dX0_init_46 14 rfl
theorem dX0_init_75 : decode cX0_init 75 = .ok (.putfield 36, 3) := dq_at zd_dX0_init_46 15 rfl
theorem dX0_init_78 : decode cX0_init 78 = .ok (.aload_n 0, 1) := dq_at zd_dX0_init_46 16 rfl
theorem dX0_init_79 : decode cX0_init 79 = .ok (.bipush 28, 2) := dq_at zd_dX0_init_46 17 rfl
theorem dX0_init_81 : decode cX0_init 81 = .ok (.newarray .int, 2) := dq_at zd_dX0_init_46 18 rfl
theorem dX0_init_83 : decode cX0_init 83 = .ok (.putfield 40, 3) := dq_at zd_dX0_init_46 19 rfl
theorem dX0_init_86 : decode cX0_init 86 = .ok (.return_, 1) := dq_at zd_dX0_init_46 20 rfl
theorem zd_dX11_init_0 : dq cX11_init [(0, .aload_n 0, 1), (1, .invokespecial 3, 3), (4, .aload_n 0, 1), (5, .sipush 700, 3), (8, .newarray .byte, 2), (10, .putfield 11, 3), (13, .aload_n 0, 1), (14, .new 15, 3), (17, .dup, 1), (18, .invokespecial 17, 3), (21, .putfield 18, 3), (24, .aload_n 0, 1), (25, .new 15, 3), (28, .dup, 1), (29, .invokespecial 17, 3), (32, .putfield 22, 3), (35, .aload_n 0, 1), (36, .new 25, 3), (39, .dup, 1), (40, .aload_n 0, 1), (41, .getfield 22, 3), (44, .invokespecial 27, 3), (47, .putfield 30, 3)] = true := by decide +kernel
theorem dX11_init_0 : decode cX11_init 0 = .ok (.aload_n 0, 1) := dq_at zd_dX11_init_0 0 rfl
theorem dX11_init_1 : decode cX11_init 1 = .ok (.invokespecial 3, 3) := dq_at zd_dX11_init_0 1 rfl
theorem dX11_init_4 : decode cX11_init 4 = .ok (.aload_n 0, 1) := dq_at zd_dX11_init_0 2 rfl
theorem dX11_init_5 : decode cX11_init 5 = .ok (.sipush 700, 3) := dq_at zd_dX11_init_0 3 rfl
theorem dX11_init_8 : decode cX11_init 8 = .ok (.newarray .byte, 2) := dq_at zd_dX11_init_0 4 rfl
theorem dX11_init_10 : decode cX11_init 10 = .ok (.putfield 11, 3) := dq_at zd_dX11_init_0 5 rfl
theorem dX11_init_13 : decode cX11_init 13 = .ok (.aload_n 0, 1) := dq_at zd_dX11_init_0 6 rfl
theorem dX11_init_14 : decode cX11_init 14 = .ok (.new 15, 3) := dq_at zd_dX11_init_0 7 rfl
theorem dX11_init_17 : decode cX11_init 17 = .ok (.dup, 1) := dq_at zd_dX11_init_0 8 rfl
theorem dX11_init_18 : decode cX11_init 18 = .ok (.invokespecial 17, 3) := dq_at zd_dX11_init_0 9 rfl
theorem dX11_init_21 : decode cX11_init 21 = .ok (.putfield 18, 3) := dq_at zd_dX11_init_0 10 rfl
theorem dX11_init_24 : decode cX11_init 24 = .ok (.aload_n 0, 1) := dq_at zd_dX11_init_0 11 rfl
theorem dX11_init_25 : decode cX11_init 25 = .ok (.new 15, 3) := dq_at zd_dX11_init_0 12 rfl
theorem dX11_init_28 : decode cX11_init 28 = .ok (.dup, 1) := dq_at zd_dX11_init_0 13 rfl
theorem dX11_init_29 : decode cX11_init 29 = .ok (.invokespecial 17, 3) := dq_at zd_dX11_init_0 14 rfl
theorem dX11_init_32 : decode cX11_init 32 = .ok (.putfield 22, 3) := dq_at zd_dX11_init_0 15 rfl
theorem dX11_init_35 : decode cX11_init 35 = .ok (.aload_n 0, 1) := dq_at zd_dX11_init_0 16 rfl
theorem dX11_init_36 : decode cX11_init 36 = .ok (.new 25, 3) := dq_at zd_dX11_init_0 17 rfl
theorem dX11_init_39 : decode cX11_init 39 = .ok (.dup, 1) := dq_at zd_dX11_init_0 18 rfl
theorem dX11_init_40 : decode cX11_init 40 = .ok (.aload_n 0, 1) := dq_at zd_dX11_init_0 19 rfl
theorem dX11_init_41 : decode cX11_init 41 = .ok (.getfield 22, 3) := dq_at zd_dX11_init_0 20 rfl
theorem dX11_init_44 : decode cX11_init 44 = .ok (.invokespecial 27, 3) := dq_at zd_dX11_init_0 21 rfl
theorem dX11_init_47 : decode cX11_init 47 = .ok (.putfield 30, 3) := dq_at zd_dX11_init_0 22 rfl
theorem zd_dX11_init_50 : dq cX11_init [(50, .aload_n 0, 1), (51, .new 34, 3), (54, .dup, 1), (55, .aload_n 0, 1), (56, .getfield 18, 3), (59, .invokespecial 36, 3), (62, .putfield 37, 3), (65, .aload_n 0, 1), (66, .new 34, 3), (69, .dup, 1), (70, .aload_n 0, 1), (71, .getfield 18, 3), (74, .invokespecial 36, 3), (77, .putfield 41, 3), (80, .aload_n 0, 1), (81, .new 44, 3), (84, .dup, 1), (85, .invokespecial 46, 3), (88, .putfield 47, 3), (91, .aload_n 0, 1), (92, .new 44, 3), (95, .dup, 1), (96, .invokespecial 46, 3)] = true := by decide +kernel
theorem dX11_init_50 : decode cX11_init 50 = .ok (.aload_n 0, 1) := dq_at zd_dX11_init_50 0 rfl
theorem dX11_init_51 : decode cX11_init 51 = .ok (.new 34, 3) := dq_at zd_dX11_init_50 1 rfl
theorem dX11_init_54 : decode cX11_init 54 = .ok (.dup, 1) := dq_at zd_dX11_init_50 2 rfl
theorem dX11_init_55 : decode cX11_init 55 = .ok (.aload_n 0, 1) := dq_at zd_dX11_init_50 3 rfl
theorem dX11_init_56 : decode cX11_init 56 = .ok (.getfield 18, 3) := dq_at zd_dX11_init_50 4 rfl
theorem dX11_init_59 : decode cX11_init 59 = .ok (.invokespecial 36, 3) := dq_at zd_dX11_init_50 5 rfl
theorem dX11_init_62 : decode cX11_init 62 = .ok (.putfield 37, 3) := dq_at zd_dX11_init_50 6 rfl
theorem dX11_init_65 : decode cX11_init 65 = .ok (.aload_n 0, 1) := dq_at zd_dX11_init_50 7 rfl
theorem dX11_init_66 : decode cX11_init 66 = .ok (.new 34, 3) := dq_at zd_dX11_init_50 8 rfl
theorem dX11_init_69 : decode cX11_init 69 = .ok (.dup, 1) := dq_at zd_dX11_init_50 9 rfl
theorem dX11_init_70 : decode cX11_init 70 = .ok (.aload_n 0, 1) := dq_at zd_dX11_init_50 10 rfl
theorem dX11_init_71 : decode cX11_init 71 = .ok (.getfield 18, 3) := dq_at zd_dX11_init_50 11 rfl
theorem dX11_init_74 : decode cX11_init 74 = .ok (.invokespecial 36, 3) := dq_at zd_dX11_init_50 12 rfl
theorem dX11_init_77 : decode cX11_init 77 = .ok (.putfield 41, 3) := dq_at zd_dX11_init_50 13 rfl
theorem dX11_init_80 : decode cX11_init 80 = .ok (.aload_n 0, 1) := dq_at zd_dX11_init_50 14 rfl
theorem dX11_init_81 : decode cX11_init 81 = .ok (.new 44, 3) := dq_at zd_dX11_init_50 15 rfl
theorem dX11_init_84 : decode cX11_init 84 = .ok (.dup, 1) := dq_at zd_dX11_init_50 16 rfl
theorem dX11_init_85 : decode cX11_init 85 = .ok (.invokespecial 46, 3) := dq_at zd_dX11_init_50 17 rfl
theorem dX11_init_88 : decode cX11_init 88 = .ok (.putfield 47, 3) := dq_at zd_dX11_init_50 18 rfl
theorem dX11_init_91 : decode cX11_init 91 = .ok (.aload_n 0, 1) := dq_at zd_dX11_init_50 19 rfl
theorem dX11_init_92 : decode cX11_init 92 = .ok (.new 44, 3) := dq_at zd_dX11_init_50 20 rfl
theorem dX11_init_95 : decode cX11_init 95 = .ok (.dup, 1) := dq_at zd_dX11_init_50 21 rfl
theorem dX11_init_96 : decode cX11_init 96 = .ok (.invokespecial 46, 3) := dq_at zd_dX11_init_50 22 rfl
theorem zd_dX11_init_99 : dq cX11_init [(99, .putfield 51, 3), (102, .aload_n 0, 1), (103, .new 44, 3), (106, .dup, 1), (107, .invokespecial 46, 3), (110, .putfield 54, 3), (113, .aload_n 0, 1), (114, .new 57, 3), (117, .dup, 1), (118, .invokespecial 59, 3), (121, .putfield 60, 3), (124, .aload_n 0, 1), (125, .new 64, 3), (128, .dup, 1), (129, .invokespecial 66, 3), (132, .putfield 67, 3), (135, .aload_n 0, 1), (136, .new 71, 3), (139, .dup, 1), (140, .invokespecial 73, 3), (143, .putfield 74, 3), (146, .return_, 1)] = true := by decide +kernel
theorem dX11_init_99 : decode cX11_init 99 = .ok (.putfield 51, 3) := dq_at zd_dX11_init_99 0 rfl
theorem dX11_init_102 : decode cX11_init 102 = .ok (.aload_n 0, 1) := dq_at zd_dX11_init_99 1 rfl
theorem dX11_init_103 : decode cX11_init 103 = .ok (.new 44, 3) := dq_at zd_dX11_init_99 2 rfl
theorem dX11_init_106 : decode cX11_init 106 = .ok (.dup, 1) := dq_at zd_dX11_init_99 3 rfl
theorem dX11_init_107 : decode cX11_init 107 = .ok (.invokespecial 46, 3) := dq_at zd_dX11_init_99 4 rfl
theorem dX11_init_110 : decode cX11_init 110 = .ok (.putfield 54, 3) := dq_at zd_dX11_init_99 5 rfl
theorem dX11_init_113 : decode cX11_init 113 = .ok (.aload_n 0, 1) := dq_at zd_dX11_init_99 6 rfl
theorem dX11_init_114 : decode cX11_init 114 = .ok (.new 57, 3) := dq_at zd_dX11_init_99 7 rfl
theorem dX11_init_117 : decode cX11_init 117 = .ok (.dup, 1) := dq_at zd_dX11_init_99 8 rfl
theorem dX11_init_118 : decode cX11_init 118 = .ok (.invokespecial 59, 3) := dq_at zd_dX11_init_99 9 rfl
theorem dX11_init_121 : decode cX11_init 121 = .ok (.putfield 60, 3) := dq_at zd_dX11_init_99 10 rfl
theorem dX11_init_124 : decode cX11_init 124 = .ok (.aload_n 0, 1) := dq_at zd_dX11_init_99 11 rfl
theorem dX11_init_125 : decode cX11_init 125 = .ok (.new 64, 3) := dq_at zd_dX11_init_99 12 rfl
theorem dX11_init_128 : decode cX11_init 128 = .ok (.dup, 1) := dq_at zd_dX11_init_99 13 rfl
theorem dX11_init_129 : decode cX11_init 129 = .ok (.invokespecial 66, 3) := dq_at zd_dX11_init_99 14 rfl
theorem dX11_init_132 : decode cX11_init 132 = .ok (.putfield 67, 3) := dq_at zd_dX11_init_99 15 rfl
theorem dX11_init_135 : decode cX11_init 135 = .ok (.aload_n 0, 1) := dq_at zd_dX11_init_99 16 rfl
theorem dX11_init_136 : decode cX11_init 136 = .ok (.new 71, 3) := dq_at zd_dX11_init_99 17 rfl
theorem dX11_init_139 : decode cX11_init 139 = .ok (.dup, 1) := dq_at zd_dX11_init_99 18 rfl
theorem dX11_init_140 : decode cX11_init 140 = .ok (.invokespecial 73, 3) := dq_at zd_dX11_init_99 19 rfl
theorem dX11_init_143 : decode cX11_init 143 = .ok (.putfield 74, 3) := dq_at zd_dX11_init_99 20 rfl
theorem dX11_init_146 : decode cX11_init 146 = .ok (.return_, 1) := dq_at zd_dX11_init_99 21 rfl
section
variable {p : Program} {l : Launch} {e : Env} {s : State} {m : MethodId} {args : Array Value} {below : List Frame} {meth : Method} {c : Code} {D : va_G} {cy : Nat → ClassId} {b : Nat} {A : Nat → Prop} {fl : Bool}
def vX1_init : List Cond := .code yX1_init cX1_init 1 none :: TB
theorem lp1_init_9 : PlF vX1_init RX1 9 1 1 (.array .int) := ⟨RX1, TX1, 7, tyX1, rfl, by decide, (fun w h9 => List.mem_cons_of_mem _ (wC_wsX10 w h9)), (List.mem_cons_of_mem _ wT_3_22), tyX1_ok, nmX1, rfl, rfl, rfl⟩
theorem lp1_init_15 : PlF vX1_init RX1 15 1 2 (.array .int) := ⟨RX1, TX1, 7, tyX1, rfl, by decide, (fun w h9 => List.mem_cons_of_mem _ (wC_wsX10 w h9)), (List.mem_cons_of_mem _ wT_3_23), tyX1_ok, nmX1, rfl, rfl, rfl⟩
theorem lp1_init_18 : PlF vX1_init RX1 18 1 3 (.array .int) := ⟨RX1, TX1, 7, tyX1, rfl, by decide, (fun w h9 => List.mem_cons_of_mem _ (wC_wsX10 w h9)), (List.mem_cons_of_mem _ wT_4_0), tyX1_ok, nmX1, rfl, rfl, rfl⟩
theorem lp1_init_21 : PlF vX1_init RX1 21 1 4 (.array .int) := ⟨RX1, TX1, 7, tyX1, rfl, by decide, (fun w h9 => List.mem_cons_of_mem _ (wC_wsX10 w h9)), (List.mem_cons_of_mem _ wT_4_1), tyX1_ok, nmX1, rfl, rfl, rfl⟩
theorem lp1_init_24 : PlF vX1_init RX1 24 1 5 (.array .int) := ⟨RX1, TX1, 7, tyX1, rfl, by decide, (fun w h9 => List.mem_cons_of_mem _ (wC_wsX10 w h9)), (List.mem_cons_of_mem _ wT_4_2), tyX1_ok, nmX1, rfl, rfl, rfl⟩
theorem lp1_init_27 : PlF vX1_init RX1 27 1 6 (.array .int) := ⟨RX1, TX1, 7, tyX1, rfl, by decide, (fun w h9 => List.mem_cons_of_mem _ (wC_wsX10 w h9)), (List.mem_cons_of_mem _ wT_4_3), tyX1_ok, nmX1, rfl, rfl, rfl⟩
theorem cd1_init : Cd yX1_init 0 := ⟨by decide, by decide, by decide +kernel⟩
set_option maxHeartbeats 4000000 in
set_option maxRecDepth 100000 in
theorem T1_init_0 (S : CallFix p m c cX1_init 1 s args vX1_init RX1) (hr : meth.sig.returnType = none) (hlo : meth.locks = false) (hin2 : meth.name = "<init>") (hAn : ∀ q, b ≤ q → A q) {out : PH} {h : PH} {a0 : Nat} (f : F1_init_0  h a0 = some out) {H : Heap} {locs : List Loc} (I : ph_I D cy b A true h s H locs) {ls : Array Slot} (hl : lv_has ls 1 [(0, .ref (b + a0))]) : W p l e ({ frames := 1, cells := 6, slots := 30, locals := 20 } : Room) s m args below meth c H locs 0 0 (MQ below (va_Qv (fun (u : PH) => u = out) (ph_B D cy b A true) A) args s 6 30 A) (F0 m 0 ls []) := by
  unfold F1_init_0 at f
  refine lv_aload_n S.1 S.2.1 dX1_init_0 rfl (lv_at hl 0 rfl) ?_
  refine o_objI S (List.mem_cons_of_mem _ wT_3_20) (List.mem_cons_of_mem _ wT_1_11) (List.mem_cons_of_mem _ wT_1_12) hl.1 dX1_init_1 (Nat.le_of_ble_eq_true rfl) (Nat.le_of_ble_eq_true rfl) ?_
  refine lv_aload_n S.1 S.2.1 dX1_init_4 rfl (lv_at hl 0 rfl) ?_
  refine lv_iconst (v := 5) S.1 S.2.1 dX1_init_5 (by decide) ?_
  obtain ⟨h1, e2, f⟩ := ob f
  refine o_newI S (List.mem_cons_of_mem _ wT_3_21) I hAn (N := 5) e2 (by decide) (by decide) (Nat.le_of_ble_eq_true rfl) (Nat.le_of_ble_eq_true rfl) (Nat.le_of_ble_eq_true rfl) dX1_init_6 (fun H I => ?_)
  obtain ⟨h3, e4, f⟩ := ob f
  refine o_pRF S hin2 lp1_init_9 (Or.inr ⟨_, rfl⟩) I e4 dX1_init_8 (fun H locs I => ?_)
  refine lv_aload_n S.1 S.2.1 dX1_init_11 rfl (lv_at hl 0 rfl) ?_
  refine lv_iconst (v := 5) S.1 S.2.1 dX1_init_12 (by decide) ?_
  obtain ⟨h5, e6, f⟩ := ob f
  refine o_newI S (List.mem_cons_of_mem _ wT_3_21) I hAn (N := 5) e6 (by decide) (by decide) (Nat.le_of_ble_eq_true rfl) (Nat.le_of_ble_eq_true rfl) (Nat.le_of_ble_eq_true rfl) dX1_init_13 (fun H I => ?_)
  obtain ⟨h7, e8, f⟩ := ob f
  refine o_pRF S hin2 lp1_init_15 (Or.inr ⟨_, rfl⟩) I e8 dX1_init_15 (fun H locs I => ?_)
  refine lv_aload_n S.1 S.2.1 dX1_init_18 rfl (lv_at hl 0 rfl) ?_
  refine lv_iconst (v := 5) S.1 S.2.1 dX1_init_19 (by decide) ?_
  obtain ⟨h9, e10, f⟩ := ob f
  refine o_newI S (List.mem_cons_of_mem _ wT_3_21) I hAn (N := 5) e10 (by decide) (by decide) (Nat.le_of_ble_eq_true rfl) (Nat.le_of_ble_eq_true rfl) (Nat.le_of_ble_eq_true rfl) dX1_init_20 (fun H I => ?_)
  obtain ⟨h11, e12, f⟩ := ob f
  refine o_pRF S hin2 lp1_init_18 (Or.inr ⟨_, rfl⟩) I e12 dX1_init_22 (fun H locs I => ?_)
  refine lv_aload_n S.1 S.2.1 dX1_init_25 rfl (lv_at hl 0 rfl) ?_
  refine lv_iconst (v := 5) S.1 S.2.1 dX1_init_26 (by decide) ?_
  obtain ⟨h13, e14, f⟩ := ob f
  refine o_newI S (List.mem_cons_of_mem _ wT_3_21) I hAn (N := 5) e14 (by decide) (by decide) (Nat.le_of_ble_eq_true rfl) (Nat.le_of_ble_eq_true rfl) (Nat.le_of_ble_eq_true rfl) dX1_init_27 (fun H I => ?_)
  obtain ⟨h15, e16, f⟩ := ob f
  refine o_pRF S hin2 lp1_init_21 (Or.inr ⟨_, rfl⟩) I e16 dX1_init_29 (fun H locs I => ?_)
  refine lv_aload_n S.1 S.2.1 dX1_init_32 rfl (lv_at hl 0 rfl) ?_
  refine lv_iconst (v := 5) S.1 S.2.1 dX1_init_33 (by decide) ?_
  obtain ⟨h17, e18, f⟩ := ob f
  refine o_newI S (List.mem_cons_of_mem _ wT_3_21) I hAn (N := 5) e18 (by decide) (by decide) (Nat.le_of_ble_eq_true rfl) (Nat.le_of_ble_eq_true rfl) (Nat.le_of_ble_eq_true rfl) dX1_init_34 (fun H I => ?_)
  obtain ⟨h19, e20, f⟩ := ob f
  refine o_pRF S hin2 lp1_init_24 (Or.inr ⟨_, rfl⟩) I e20 dX1_init_36 (fun H locs I => ?_)
  refine lv_aload_n S.1 S.2.1 dX1_init_39 rfl (lv_at hl 0 rfl) ?_
  refine lv_iconst (v := 5) S.1 S.2.1 dX1_init_40 (by decide) ?_
  obtain ⟨h21, e22, f⟩ := ob f
  refine o_newI S (List.mem_cons_of_mem _ wT_3_21) I hAn (N := 5) e22 (by decide) (by decide) (Nat.le_of_ble_eq_true rfl) (Nat.le_of_ble_eq_true rfl) (Nat.le_of_ble_eq_true rfl) dX1_init_41 (fun H I => ?_)
  obtain ⟨h23, e24, f⟩ := ob f
  refine o_pRF S hin2 lp1_init_27 (Or.inr ⟨_, rfl⟩) I e24 dX1_init_43 (fun H locs I => ?_)
  exact o_vret S hr hlo I f dX1_init_46
theorem M1_init (l : Launch) (D : va_G) (cy : Nat → ClassId) (b : Nat) (A : Nat → Prop) (hAn : ∀ q, b ≤ q → A q) {h : PH} {a0 : Nat} {out : PH} (f : F1_init h a0 = some out) : Met l yX1_init vX1_init ({ frames := 1, cells := 6, slots := 30, locals := 20 } : Room) (va_Pc [.ref (b + a0)] (ph_B D cy b A true h)) (va_Qv (fun (u : PH) => u = out) (ph_B D cy b A true) A) 6 30 A :=
  o_met (by decide) rfl (Nat.le_of_ble_eq_true rfl) rfl (fun p e s m below meth c S hr hlo hnm ls hl I => T1_init_0 S hr hlo hnm hAn ((gd f).2) I (lv_sub hl [0] rfl))
def vX2_init : List Cond := .code yX2_init cX2_init 1 none :: TB
theorem lp2_init_9 : PlF vX2_init RX2 9 2 0 (.array .int) := ⟨RX2, TX2, 3, tyX2, rfl, by decide, (fun w h9 => List.mem_cons_of_mem _ (wC_wsX20 w h9)), (List.mem_cons_of_mem _ wT_4_18), tyX2_ok, nmX2, rfl, rfl, rfl⟩
theorem cd2_init : Cd yX2_init 0 := ⟨by decide, by decide, by decide +kernel⟩
set_option maxHeartbeats 4000000 in
set_option maxRecDepth 100000 in
theorem T2_init_0 (S : CallFix p m c cX2_init 1 s args vX2_init RX2) (hr : meth.sig.returnType = none) (hlo : meth.locks = false) (hin2 : meth.name = "<init>") (hAn : ∀ q, b ≤ q → A q) {out : PH} {h : PH} {a0 : Nat} (f : F2_init_0  h a0 = some out) {H : Heap} {locs : List Loc} (I : ph_I D cy b A true h s H locs) {ls : Array Slot} (hl : lv_has ls 1 [(0, .ref (b + a0))]) : W p l e ({ frames := 1, cells := 1, slots := 64, locals := 20 } : Room) s m args below meth c H locs 0 0 (MQ below (va_Qv (fun (u : PH) => u = out) (ph_B D cy b A true) A) args s 1 64 A) (F0 m 0 ls []) := by
  unfold F2_init_0 at f
  refine lv_aload_n S.1 S.2.1 dX2_init_0 rfl (lv_at hl 0 rfl) ?_
  refine o_objI S (List.mem_cons_of_mem _ wT_4_17) (List.mem_cons_of_mem _ wT_1_11) (List.mem_cons_of_mem _ wT_1_12) hl.1 dX2_init_1 (Nat.le_of_ble_eq_true rfl) (Nat.le_of_ble_eq_true rfl) ?_
  refine lv_aload_n S.1 S.2.1 dX2_init_4 rfl (lv_at hl 0 rfl) ?_
  refine lv_bipush (v := 64) S.1 S.2.1 dX2_init_5 (by decide) ?_
  obtain ⟨h1, e2, f⟩ := ob f
  refine o_newI S (List.mem_cons_of_mem _ wT_3_21) I hAn (N := 64) e2 (by decide) (by decide) (Nat.le_of_ble_eq_true rfl) (Nat.le_of_ble_eq_true rfl) (Nat.le_of_ble_eq_true rfl) dX2_init_7 (fun H I => ?_)
  obtain ⟨h3, e4, f⟩ := ob f
  refine o_pRF S hin2 lp2_init_9 (Or.inr ⟨_, rfl⟩) I e4 dX2_init_9 (fun H locs I => ?_)
  exact o_vret S hr hlo I f dX2_init_12
theorem M2_init (l : Launch) (D : va_G) (cy : Nat → ClassId) (b : Nat) (A : Nat → Prop) (hAn : ∀ q, b ≤ q → A q) {h : PH} {a0 : Nat} {out : PH} (f : F2_init h a0 = some out) : Met l yX2_init vX2_init ({ frames := 1, cells := 1, slots := 64, locals := 20 } : Room) (va_Pc [.ref (b + a0)] (ph_B D cy b A true h)) (va_Qv (fun (u : PH) => u = out) (ph_B D cy b A true) A) 1 64 A :=
  o_met (by decide) rfl (Nat.le_of_ble_eq_true rfl) rfl (fun p e s m below meth c S hr hlo hnm ls hl I => T2_init_0 S hr hlo hnm hAn ((gd f).2) I (lv_sub hl [0] rfl))
end
