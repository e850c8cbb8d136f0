theorem zd_dX1_init_0 : sg (cX1_init.data.toList.drop 0) [[42], [183, 0, 3], [42], [8], [188, 10], [181, 0, 9], [42], [8], [188, 10], [181, 0, 15], [42], [8], [188, 10], [181, 0, 18], [42], [8], [188, 10], [181, 0, 21], [42], [8]] = true := by decide +kernel
theorem dX1_init_0 : decode cX1_init 0 = .ok (.aload_n 0, 1) := dc_42 (sg_at zd_dX1_init_0 0 rfl rfl)
theorem dX1_init_1 : decode cX1_init 1 = .ok (.invokespecial 3, 3) := dc_183 (sg_at zd_dX1_init_0 1 rfl rfl) rfl
theorem dX1_init_4 : decode cX1_init 4 = .ok (.aload_n 0, 1) := dc_42 (sg_at zd_dX1_init_0 2 rfl rfl)
theorem dX1_init_5 : decode cX1_init 5 = .ok (.iconst 5, 1) := dc_8 (sg_at zd_dX1_init_0 3 rfl rfl)
theorem dX1_init_6 : decode cX1_init 6 = .ok (.newarray .int, 2) := dc_188_10 (sg_at zd_dX1_init_0 4 rfl rfl)
theorem dX1_init_8 : decode cX1_init 8 = .ok (.putfield 9, 3) := dc_181 (sg_at zd_dX1_init_0 5 rfl rfl) rfl
theorem dX1_init_11 : decode cX1_init 11 = .ok (.aload_n 0, 1) := dc_42 (sg_at zd_dX1_init_0 6 rfl rfl)
theorem dX1_init_12 : decode cX1_init 12 = .ok (.iconst 5, 1) := dc_8 (sg_at zd_dX1_init_0 7 rfl rfl)
theorem dX1_init_13 : decode cX1_init 13 = .ok (.newarray .int, 2) := dc_188_10 (sg_at zd_dX1_init_0 8 rfl rfl)
theorem dX1_init_15 : decode cX1_init 15 = .ok (.putfield 15, 3) := dc_181 (sg_at zd_dX1_init_0 9 rfl rfl) rfl
theorem dX1_init_18 : decode cX1_init 18 = .ok (.aload_n 0, 1) := dc_42 (sg_at zd_dX1_init_0 10 rfl rfl)
theorem dX1_init_19 : decode cX1_init 19 = .ok (.iconst 5, 1) := dc_8 (sg_at zd_dX1_init_0 11 rfl rfl)
theorem dX1_init_20 : decode cX1_init 20 = .ok (.newarray .int, 2) := dc_188_10 (sg_at zd_dX1_init_0 12 rfl rfl)
theorem dX1_init_22 : decode cX1_init 22 = .ok (.putfield 18, 3) := dc_181 (sg_at zd_dX1_init_0 13 rfl rfl) rfl
theorem dX1_init_25 : decode cX1_init 25 = .ok (.aload_n 0, 1) := dc_42 (sg_at zd_dX1_init_0 14 rfl rfl)
theorem dX1_init_26 : decode cX1_init 26 = .ok (.iconst 5, 1) := dc_8 (sg_at zd_dX1_init_0 15 rfl rfl)
theorem dX1_init_27 : decode cX1_init 27 = .ok (.newarray .int, 2) := dc_188_10 (sg_at zd_dX1_init_0 16 rfl rfl)
theorem dX1_init_29 : decode cX1_init 29 = .ok (.putfield 21, 3) := dc_181 (sg_at zd_dX1_init_0 17 rfl rfl) rfl
theorem dX1_init_32 : decode cX1_init 32 = .ok (.aload_n 0, 1) := dc_42 (sg_at zd_dX1_init_0 18 rfl rfl)
theorem dX1_init_33 : decode cX1_init 33 = .ok (.iconst 5, 1) := dc_8 (sg_at zd_dX1_init_0 19 rfl rfl)
theorem zd_dX1_init_34 : sg (cX1_init.data.toList.drop 34) [[188, 10], [181, 0, 24], [42], [8], [188, 10], [181, 0, 27], [177]] = true := by decide +kernel
theorem dX1_init_34 : decode cX1_init 34 = .ok (.newarray .int, 2) := dc_188_10 (sg_at zd_dX1_init_34 0 rfl rfl)
theorem dX1_init_36 : decode cX1_init 36 = .ok (.putfield 24, 3) := dc_181 (sg_at zd_dX1_init_34 1 rfl rfl) rfl
theorem dX1_init_39 : decode cX1_init 39 = .ok (.aload_n 0, 1) := dc_42 (sg_at zd_dX1_init_34 2 rfl rfl)
theorem dX1_init_40 : decode cX1_init 40 = .ok (.iconst 5, 1) := dc_8 (sg_at zd_dX1_init_34 3 rfl rfl)
theorem dX1_init_41 : decode cX1_init 41 = .ok (.newarray .int, 2) := dc_188_10 (sg_at zd_dX1_init_34 4 rfl rfl)
theorem dX1_init_43 : decode cX1_init 43 = .ok (.putfield 27, 3) := dc_181 (sg_at zd_dX1_init_34 5 rfl rfl) rfl
theorem dX1_init_46 : decode cX1_init 46 = .ok (.return_, 1) := dc_177 (sg_at zd_dX1_init_34 6 rfl rfl)
theorem zd_dX2_init_0 : sg (cX2_init.data.toList.drop 0) [[42], [183, 0, 3], [42], [16, 64], [188, 10], [181, 0, 9], [177]] = true := by decide +kernel
theorem dX2_init_0 : decode cX2_init 0 = .ok (.aload_n 0, 1) := dc_42 (sg_at zd_dX2_init_0 0 rfl rfl)
theorem dX2_init_1 : decode cX2_init 1 = .ok (.invokespecial 3, 3) := dc_183 (sg_at zd_dX2_init_0 1 rfl rfl) rfl
theorem dX2_init_4 : decode cX2_init 4 = .ok (.aload_n 0, 1) := dc_42 (sg_at zd_dX2_init_0 2 rfl rfl)
theorem dX2_init_5 : decode cX2_init 5 = .ok (.bipush 64, 2) := dc_16 (sg_at zd_dX2_init_0 3 rfl rfl) rfl
theorem dX2_init_7 : decode cX2_init 7 = .ok (.newarray .int, 2) := dc_188_10 (sg_at zd_dX2_init_0 4 rfl rfl)
theorem dX2_init_9 : decode cX2_init 9 = .ok (.putfield 9, 3) := dc_181 (sg_at zd_dX2_init_0 5 rfl rfl) rfl
theorem dX2_init_12 : decode cX2_init 12 = .ok (.return_, 1) := dc_177 (sg_at zd_dX2_init_0 6 rfl rfl)
theorem zd_dX3_init_0 : sg (cX3_init.data.toList.drop 0) [[42], [183, 0, 3], [42], [2], [181, 0, 9], [42], [16, 24], [188, 10], [181, 0, 15], [42], [16, 24], [188, 10], [181, 0, 19], [42], [16, 24], [188, 10], [181, 0, 22], [42], [16, 24], [188, 10]] = true := by decide +kernel
theorem dX3_init_0 : decode cX3_init 0 = .ok (.aload_n 0, 1) := dc_42 (sg_at zd_dX3_init_0 0 rfl rfl)
theorem dX3_init_1 : decode cX3_init 1 = .ok (.invokespecial 3, 3) := dc_183 (sg_at zd_dX3_init_0 1 rfl rfl) rfl
theorem dX3_init_4 : decode cX3_init 4 = .ok (.aload_n 0, 1) := dc_42 (sg_at zd_dX3_init_0 2 rfl rfl)
theorem dX3_init_5 : decode cX3_init 5 = .ok (.iconst (-1), 1) := dc_2 (sg_at zd_dX3_init_0 3 rfl rfl)
theorem dX3_init_6 : decode cX3_init 6 = .ok (.putfield 9, 3) := dc_181 (sg_at zd_dX3_init_0 4 rfl rfl) rfl
theorem dX3_init_9 : decode cX3_init 9 = .ok (.aload_n 0, 1) := dc_42 (sg_at zd_dX3_init_0 5 rfl rfl)
theorem dX3_init_10 : decode cX3_init 10 = .ok (.bipush 24, 2) := dc_16 (sg_at zd_dX3_init_0 6 rfl rfl) rfl
theorem dX3_init_12 : decode cX3_init 12 = .ok (.newarray .int, 2) := dc_188_10 (sg_at zd_dX3_init_0 7 rfl rfl)
theorem dX3_init_14 : decode cX3_init 14 = .ok (.putfield 15, 3) := dc_181 (sg_at zd_dX3_init_0 8 rfl rfl) rfl
theorem dX3_init_17 : decode cX3_init 17 = .ok (.aload_n 0, 1) := dc_42 (sg_at zd_dX3_init_0 9 rfl rfl)
theorem dX3_init_18 : decode cX3_init 18 = .ok (.bipush 24, 2) := dc_16 (sg_at zd_dX3_init_0 10 rfl rfl) rfl
theorem dX3_init_20 : decode cX3_init 20 = .ok (.newarray .int, 2) := dc_188_10 (sg_at zd_dX3_init_0 11 rfl rfl)
theorem dX3_init_22 : decode cX3_init 22 = .ok (.putfield 19, 3) := dc_181 (sg_at zd_dX3_init_0 12 rfl rfl) rfl
theorem dX3_init_25 : decode cX3_init 25 = .ok (.aload_n 0, 1) := dc_42 (sg_at zd_dX3_init_0 13 rfl rfl)
theorem dX3_init_26 : decode cX3_init 26 = .ok (.bipush 24, 2) := dc_16 (sg_at zd_dX3_init_0 14 rfl rfl) rfl
theorem dX3_init_28 : decode cX3_init 28 = .ok (.newarray .int, 2) := dc_188_10 (sg_at zd_dX3_init_0 15 rfl rfl)
theorem dX3_init_30 : decode cX3_init 30 = .ok (.putfield 22, 3) := dc_181 (sg_at zd_dX3_init_0 16 rfl rfl) rfl
theorem dX3_init_33 : decode cX3_init 33 = .ok (.aload_n 0, 1) := dc_42 (sg_at zd_dX3_init_0 17 rfl rfl)
theorem dX3_init_34 : decode cX3_init 34 = .ok (.bipush 24, 2) := dc_16 (sg_at zd_dX3_init_0 18 rfl rfl) rfl
theorem dX3_init_36 : decode cX3_init 36 = .ok (.newarray .int, 2) := dc_188_10 (sg_at zd_dX3_init_0 19 rfl rfl)
theorem zd_dX3_init_38 : sg (cX3_init.data.toList.drop 38) [[181, 0, 25], [42], [16, 24], [188, 4], [181, 0, 28], [177]] = true := by decide +kernel
theorem dX3_init_38 : decode cX3_init 38 = .ok (.putfield 25, 3) := dc_181 (sg_at zd_dX3_init_38 0 rfl rfl) rfl
theorem dX3_init_41 : decode cX3_init 41 = .ok (.aload_n 0, 1) := dc_42 (sg_at zd_dX3_init_38 1 rfl rfl)
theorem dX3_init_42 : decode cX3_init 42 = .ok (.bipush 24, 2) := dc_16 (sg_at zd_dX3_init_38 2 rfl rfl) rfl
theorem dX3_init_44 : decode cX3_init 44 = .ok (.newarray .boolean, 2) := dc_188_4 (sg_at zd_dX3_init_38 3 rfl rfl)
theorem dX3_init_46 : decode cX3_init 46 = .ok (.putfield 28, 3) := dc_181 (sg_at zd_dX3_init_38 4 rfl rfl) rfl
theorem dX3_init_49 : decode cX3_init 49 = .ok (.return_, 1) := dc_177 (sg_at zd_dX3_init_38 5 rfl rfl)
theorem zd_dX4_init_0 : sg (cX4_init.data.toList.drop 0) [[42], [183, 0, 3], [42], [8], [188, 10], [181, 0, 9], [42], [8], [188, 10], [181, 0, 15], [42], [8], [188, 10], [181, 0, 18], [42], [8], [188, 10], [181, 0, 21], [42], [8]] = true := by decide +kernel
theorem dX4_init_0 : decode cX4_init 0 = .ok (.aload_n 0, 1) := dc_42 (sg_at zd_dX4_init_0 0 rfl rfl)
theorem dX4_init_1 : decode cX4_init 1 = .ok (.invokespecial 3, 3) := dc_183 (sg_at zd_dX4_init_0 1 rfl rfl) rfl
theorem dX4_init_4 : decode cX4_init 4 = .ok (.aload_n 0, 1) := dc_42 (sg_at zd_dX4_init_0 2 rfl rfl)
theorem dX4_init_5 : decode cX4_init 5 = .ok (.iconst 5, 1) := dc_8 (sg_at zd_dX4_init_0 3 rfl rfl)
theorem dX4_init_6 : decode cX4_init 6 = .ok (.newarray .int, 2) := dc_188_10 (sg_at zd_dX4_init_0 4 rfl rfl)
theorem dX4_init_8 : decode cX4_init 8 = .ok (.putfield 9, 3) := dc_181 (sg_at zd_dX4_init_0 5 rfl rfl) rfl
theorem dX4_init_11 : decode cX4_init 11 = .ok (.aload_n 0, 1) := dc_42 (sg_at zd_dX4_init_0 6 rfl rfl)
theorem dX4_init_12 : decode cX4_init 12 = .ok (.iconst 5, 1) := dc_8 (sg_at zd_dX4_init_0 7 rfl rfl)
theorem dX4_init_13 : decode cX4_init 13 = .ok (.newarray .int, 2) := dc_188_10 (sg_at zd_dX4_init_0 8 rfl rfl)
theorem dX4_init_15 : decode cX4_init 15 = .ok (.putfield 15, 3) := dc_181 (sg_at zd_dX4_init_0 9 rfl rfl) rfl
theorem dX4_init_18 : decode cX4_init 18 = .ok (.aload_n 0, 1) := dc_42 (sg_at zd_dX4_init_0 10 rfl rfl)
theorem dX4_init_19 : decode cX4_init 19 = .ok (.iconst 5, 1) := dc_8 (sg_at zd_dX4_init_0 11 rfl rfl)
theorem dX4_init_20 : decode cX4_init 20 = .ok (.newarray .int, 2) := dc_188_10 (sg_at zd_dX4_init_0 12 rfl rfl)
theorem dX4_init_22 : decode cX4_init 22 = .ok (.putfield 18, 3) := dc_181 (sg_at zd_dX4_init_0 13 rfl rfl) rfl
theorem dX4_init_25 : decode cX4_init 25 = .ok (.aload_n 0, 1) := dc_42 (sg_at zd_dX4_init_0 14 rfl rfl)
theorem dX4_init_26 : decode cX4_init 26 = .ok (.iconst 5, 1) := dc_8 (sg_at zd_dX4_init_0 15 rfl rfl)
theorem dX4_init_27 : decode cX4_init 27 = .ok (.newarray .int, 2) := dc_188_10 (sg_at zd_dX4_init_0 16 rfl rfl)
theorem dX4_init_29 : decode cX4_init 29 = .ok (.putfield 21, 3) := dc_181 (sg_at zd_dX4_init_0 17 rfl rfl) rfl
theorem dX4_init_32 : decode cX4_init 32 = .ok (.aload_n 0, 1) := dc_42 (sg_at zd_dX4_init_0 18 rfl rfl)
theorem dX4_init_33 : decode cX4_init 33 = .ok (.iconst 5, 1) := dc_8 (sg_at zd_dX4_init_0 19 rfl rfl)
theorem zd_dX4_init_34 : sg (cX4_init.data.toList.drop 34) [[188, 10], [181, 0, 24], [42], [16, 28], [188, 10], [181, 0, 27], [177]] = true := by decide +kernel
theorem dX4_init_34 : decode cX4_init 34 = .ok (.newarray .int, 2) := dc_188_10 (sg_at zd_dX4_init_34 0 rfl rfl)
theorem dX4_init_36 : decode cX4_init 36 = .ok (.putfield 24, 3) := dc_181 (sg_at zd_dX4_init_34 1 rfl rfl) rfl
theorem dX4_init_39 : decode cX4_init 39 = .ok (.aload_n 0, 1) := dc_42 (sg_at zd_dX4_init_34 2 rfl rfl)
theorem dX4_init_40 : decode cX4_init 40 = .ok (.bipush 28, 2) := dc_16 (sg_at zd_dX4_init_34 3 rfl rfl) rfl
theorem dX4_init_42 : decode cX4_init 42 = .ok (.newarray .int, 2) := dc_188_10 (sg_at zd_dX4_init_34 4 rfl rfl)
theorem dX4_init_44 : decode cX4_init 44 = .ok (.putfield 27, 3) := dc_181 (sg_at zd_dX4_init_34 5 rfl rfl) rfl
theorem dX4_init_47 : decode cX4_init 47 = .ok (.return_, 1) := dc_177 (sg_at zd_dX4_init_34 6 rfl rfl)
theorem zd_dX7_init_0 : sg (cX7_init.data.toList.drop 0) [[42], [183, 0, 3], [42], [16, 24], [188, 10], [181, 0, 9], [42], [3], [188, 8], [181, 0, 15], [3], [60], [27], [16, 24], [162, 0, 60], [3], [61], [28], [16, 6], [162, 0, 46]] = true := by decide +kernel
theorem dX7_init_0 : decode cX7_init 0 = .ok (.aload_n 0, 1) := dc_42 (sg_at zd_dX7_init_0 0 rfl rfl)
theorem dX7_init_1 : decode cX7_init 1 = .ok (.invokespecial 3, 3) := dc_183 (sg_at zd_dX7_init_0 1 rfl rfl) rfl
theorem dX7_init_4 : decode cX7_init 4 = .ok (.aload_n 0, 1) := dc_42 (sg_at zd_dX7_init_0 2 rfl rfl)
theorem dX7_init_5 : decode cX7_init 5 = .ok (.bipush 24, 2) := dc_16 (sg_at zd_dX7_init_0 3 rfl rfl) rfl
theorem dX7_init_7 : decode cX7_init 7 = .ok (.newarray .int, 2) := dc_188_10 (sg_at zd_dX7_init_0 4 rfl rfl)
theorem dX7_init_9 : decode cX7_init 9 = .ok (.putfield 9, 3) := dc_181 (sg_at zd_dX7_init_0 5 rfl rfl) rfl
theorem dX7_init_12 : decode cX7_init 12 = .ok (.aload_n 0, 1) := dc_42 (sg_at zd_dX7_init_0 6 rfl rfl)
theorem dX7_init_13 : decode cX7_init 13 = .ok (.iconst 0, 1) := dc_3 (sg_at zd_dX7_init_0 7 rfl rfl)
theorem dX7_init_14 : decode cX7_init 14 = .ok (.newarray .byte, 2) := dc_188_8 (sg_at zd_dX7_init_0 8 rfl rfl)
theorem dX7_init_16 : decode cX7_init 16 = .ok (.putfield 15, 3) := dc_181 (sg_at zd_dX7_init_0 9 rfl rfl) rfl
theorem dX7_init_19 : decode cX7_init 19 = .ok (.iconst 0, 1) := dc_3 (sg_at zd_dX7_init_0 10 rfl rfl)
theorem dX7_init_20 : decode cX7_init 20 = .ok (.istore_n 1, 1) := dc_60 (sg_at zd_dX7_init_0 11 rfl rfl)
theorem dX7_init_21 : decode cX7_init 21 = .ok (.iload_n 1, 1) := dc_27 (sg_at zd_dX7_init_0 12 rfl rfl)
theorem dX7_init_22 : decode cX7_init 22 = .ok (.bipush 24, 2) := dc_16 (sg_at zd_dX7_init_0 13 rfl rfl) rfl
theorem dX7_init_24 : decode cX7_init 24 = .ok (.if_icmp .ge 60, 3) := dc_162 (sg_at zd_dX7_init_0 14 rfl rfl) rfl
theorem dX7_init_27 : decode cX7_init 27 = .ok (.iconst 0, 1) := dc_3 (sg_at zd_dX7_init_0 15 rfl rfl)
theorem dX7_init_28 : decode cX7_init 28 = .ok (.istore_n 2, 1) := dc_61 (sg_at zd_dX7_init_0 16 rfl rfl)
theorem dX7_init_29 : decode cX7_init 29 = .ok (.iload_n 2, 1) := dc_28 (sg_at zd_dX7_init_0 17 rfl rfl)
theorem dX7_init_30 : decode cX7_init 30 = .ok (.bipush 6, 2) := dc_16 (sg_at zd_dX7_init_0 18 rfl rfl) rfl
theorem dX7_init_32 : decode cX7_init 32 = .ok (.if_icmp .ge 46, 3) := dc_162 (sg_at zd_dX7_init_0 19 rfl rfl) rfl
theorem zd_dX7_init_35 : sg (cX7_init.data.toList.drop 35) [[18, 19], [27], [16, 6], [104], [28], [96], [182, 0, 21], [62], [42], [180, 0, 9], [27], [92], [46], [29], [184, 0, 27], [153, 0, 11], [29], [28], [184, 0, 31], [167, 0, 4]] = true := by decide +kernel
theorem dX7_init_35 : decode cX7_init 35 = .ok (.ldc 19, 2) := dc_18 (sg_at zd_dX7_init_35 0 rfl rfl)
theorem dX7_init_37 : decode cX7_init 37 = .ok (.iload_n 1, 1) := dc_27 (sg_at zd_dX7_init_35 1 rfl rfl)
theorem dX7_init_38 : decode cX7_init 38 = .ok (.bipush 6, 2) := dc_16 (sg_at zd_dX7_init_35 2 rfl rfl) rfl
theorem dX7_init_40 : decode cX7_init 40 = .ok (.imul, 1) := dc_104 (sg_at zd_dX7_init_35 3 rfl rfl)
theorem dX7_init_41 : decode cX7_init 41 = .ok (.iload_n 2, 1) := dc_28 (sg_at zd_dX7_init_35 4 rfl rfl)
theorem dX7_init_42 : decode cX7_init 42 = .ok (.iadd, 1) := dc_96 (sg_at zd_dX7_init_35 5 rfl rfl)
theorem dX7_init_43 : decode cX7_init 43 = .ok (.invokevirtual 21, 3) := dc_182 (sg_at zd_dX7_init_35 6 rfl rfl) rfl
theorem dX7_init_46 : decode cX7_init 46 = .ok (.istore_n 3, 1) := dc_62 (sg_at zd_dX7_init_35 7 rfl rfl)
theorem dX7_init_47 : decode cX7_init 47 = .ok (.aload_n 0, 1) := dc_42 (sg_at zd_dX7_init_35 8 rfl rfl)
theorem dX7_init_48 : decode cX7_init 48 = .ok (.getfield 9, 3) := dc_180 (sg_at zd_dX7_init_35 9 rfl rfl) rfl
theorem dX7_init_51 : decode cX7_init 51 = .ok (.iload_n 1, 1) := dc_27 (sg_at zd_dX7_init_35 10 rfl rfl)
theorem dX7_init_52 : decode cX7_init 52 = .ok (.dup2, 1) := dc_92 (sg_at zd_dX7_init_35 11 rfl rfl)
theorem dX7_init_53 : decode cX7_init 53 = .ok (.iaload, 1) := dc_46 (sg_at zd_dX7_init_35 12 rfl rfl)
theorem dX7_init_54 : decode cX7_init 54 = .ok (.iload_n 3, 1) := dc_29 (sg_at zd_dX7_init_35 13 rfl rfl)
theorem dX7_init_55 : decode cX7_init 55 = .ok (.invokestatic 27, 3) := dc_184 (sg_at zd_dX7_init_35 14 rfl rfl) rfl
theorem dX7_init_58 : decode cX7_init 58 = .ok (.ifCond .eq 11, 3) := dc_153 (sg_at zd_dX7_init_35 15 rfl rfl) rfl
theorem dX7_init_61 : decode cX7_init 61 = .ok (.iload_n 3, 1) := dc_29 (sg_at zd_dX7_init_35 16 rfl rfl)
theorem dX7_init_62 : decode cX7_init 62 = .ok (.iload_n 2, 1) := dc_28 (sg_at zd_dX7_init_35 17 rfl rfl)
theorem dX7_init_63 : decode cX7_init 63 = .ok (.invokestatic 31, 3) := dc_184 (sg_at zd_dX7_init_35 18 rfl rfl) rfl
theorem dX7_init_66 : decode cX7_init 66 = .ok (.goto 4, 3) := dc_167 (sg_at zd_dX7_init_35 19 rfl rfl) rfl
theorem zd_dX7_init_69 : sg (cX7_init.data.toList.drop 69) [[3], [128], [79], [132, 2, 1], [167, 255, 210], [132, 1, 1], [167, 255, 196], [177]] = true := by decide +kernel
theorem dX7_init_69 : decode cX7_init 69 = .ok (.iconst 0, 1) := dc_3 (sg_at zd_dX7_init_69 0 rfl rfl)
theorem dX7_init_70 : decode cX7_init 70 = .ok (.ior, 1) := dc_128 (sg_at zd_dX7_init_69 1 rfl rfl)
theorem dX7_init_71 : decode cX7_init 71 = .ok (.iastore, 1) := dc_79 (sg_at zd_dX7_init_69 2 rfl rfl)
theorem dX7_init_72 : decode cX7_init 72 = .ok (.iinc 2 1, 3) := dc_132 (sg_at zd_dX7_init_69 3 rfl rfl) rfl
theorem dX7_init_75 : decode cX7_init 75 = .ok (.goto (-46), 3) := dc_167 (sg_at zd_dX7_init_69 4 rfl rfl) rfl
theorem dX7_init_78 : decode cX7_init 78 = .ok (.iinc 1 1, 3) := dc_132 (sg_at zd_dX7_init_69 5 rfl rfl) rfl
theorem dX7_init_81 : decode cX7_init 81 = .ok (.goto (-60), 3) := dc_167 (sg_at zd_dX7_init_69 6 rfl rfl) rfl
theorem dX7_init_84 : decode cX7_init 84 = .ok (.return_, 1) := dc_177 (sg_at zd_dX7_init_69 7 rfl rfl)
theorem zd_dX9_init_0 : sg (cX9_init.data.toList.drop 0) [[42], [183, 0, 3], [42], [16, 20], [188, 10], [181, 0, 9], [42], [16, 20], [188, 10], [181, 0, 15], [177]] = true := by decide +kernel
theorem dX9_init_0 : decode cX9_init 0 = .ok (.aload_n 0, 1) := dc_42 (sg_at zd_dX9_init_0 0 rfl rfl)
theorem dX9_init_1 : decode cX9_init 1 = .ok (.invokespecial 3, 3) := dc_183 (sg_at zd_dX9_init_0 1 rfl rfl) rfl
theorem dX9_init_4 : decode cX9_init 4 = .ok (.aload_n 0, 1) := dc_42 (sg_at zd_dX9_init_0 2 rfl rfl)
theorem dX9_init_5 : decode cX9_init 5 = .ok (.bipush 20, 2) := dc_16 (sg_at zd_dX9_init_0 3 rfl rfl) rfl
theorem dX9_init_7 : decode cX9_init 7 = .ok (.newarray .int, 2) := dc_188_10 (sg_at zd_dX9_init_0 4 rfl rfl)
theorem dX9_init_9 : decode cX9_init 9 = .ok (.putfield 9, 3) := dc_181 (sg_at zd_dX9_init_0 5 rfl rfl) rfl
theorem dX9_init_12 : decode cX9_init 12 = .ok (.aload_n 0, 1) := dc_42 (sg_at zd_dX9_init_0 6 rfl rfl)
theorem dX9_init_13 : decode cX9_init 13 = .ok (.bipush 20, 2) := dc_16 (sg_at zd_dX9_init_0 7 rfl rfl) rfl
theorem dX9_init_15 : decode cX9_init 15 = .ok (.newarray .int, 2) := dc_188_10 (sg_at zd_dX9_init_0 8 rfl rfl)
theorem dX9_init_17 : decode cX9_init 17 = .ok (.putfield 15, 3) := dc_181 (sg_at zd_dX9_init_0 9 rfl rfl) rfl
theorem dX9_init_20 : decode cX9_init 20 = .ok (.return_, 1) := dc_177 (sg_at zd_dX9_init_0 10 rfl rfl)
theorem zd_dX10_init_0 : sg (cX10_init.data.toList.drop 0) [[42], [183, 0, 3], [42], [7], [188, 10], [181, 0, 9], [42], [7], [188, 10], [181, 0, 15], [42], [16, 28], [188, 10], [181, 0, 18], [42], [16, 28], [188, 10], [181, 0, 21], [42], [16, 28]] = true := by decide +kernel
theorem dX10_init_0 : decode cX10_init 0 = .ok (.aload_n 0, 1) := dc_42 (sg_at zd_dX10_init_0 0 rfl rfl)
theorem dX10_init_1 : decode cX10_init 1 = .ok (.invokespecial 3, 3) := dc_183 (sg_at zd_dX10_init_0 1 rfl rfl) rfl
theorem dX10_init_4 : decode cX10_init 4 = .ok (.aload_n 0, 1) := dc_42 (sg_at zd_dX10_init_0 2 rfl rfl)
theorem dX10_init_5 : decode cX10_init 5 = .ok (.iconst 4, 1) := dc_7 (sg_at zd_dX10_init_0 3 rfl rfl)
theorem dX10_init_6 : decode cX10_init 6 = .ok (.newarray .int, 2) := dc_188_10 (sg_at zd_dX10_init_0 4 rfl rfl)
theorem dX10_init_8 : decode cX10_init 8 = .ok (.putfield 9, 3) := dc_181 (sg_at zd_dX10_init_0 5 rfl rfl) rfl
theorem dX10_init_11 : decode cX10_init 11 = .ok (.aload_n 0, 1) := dc_42 (sg_at zd_dX10_init_0 6 rfl rfl)
theorem dX10_init_12 : decode cX10_init 12 = .ok (.iconst 4, 1) := dc_7 (sg_at zd_dX10_init_0 7 rfl rfl)
theorem dX10_init_13 : decode cX10_init 13 = .ok (.newarray .int, 2) := dc_188_10 (sg_at zd_dX10_init_0 8 rfl rfl)
theorem dX10_init_15 : decode cX10_init 15 = .ok (.putfield 15, 3) := dc_181 (sg_at zd_dX10_init_0 9 rfl rfl) rfl
theorem dX10_init_18 : decode cX10_init 18 = .ok (.aload_n 0, 1) := dc_42 (sg_at zd_dX10_init_0 10 rfl rfl)
theorem dX10_init_19 : decode cX10_init 19 = .ok (.bipush 28, 2) := dc_16 (sg_at zd_dX10_init_0 11 rfl rfl) rfl
theorem dX10_init_21 : decode cX10_init 21 = .ok (.newarray .int, 2) := dc_188_10 (sg_at zd_dX10_init_0 12 rfl rfl)
theorem dX10_init_23 : decode cX10_init 23 = .ok (.putfield 18, 3) := dc_181 (sg_at zd_dX10_init_0 13 rfl rfl) rfl
theorem dX10_init_26 : decode cX10_init 26 = .ok (.aload_n 0, 1) := dc_42 (sg_at zd_dX10_init_0 14 rfl rfl)
theorem dX10_init_27 : decode cX10_init 27 = .ok (.bipush 28, 2) := dc_16 (sg_at zd_dX10_init_0 15 rfl rfl) rfl
theorem dX10_init_29 : decode cX10_init 29 = .ok (.newarray .int, 2) := dc_188_10 (sg_at zd_dX10_init_0 16 rfl rfl)
theorem dX10_init_31 : decode cX10_init 31 = .ok (.putfield 21, 3) := dc_181 (sg_at zd_dX10_init_0 17 rfl rfl) rfl
theorem dX10_init_34 : decode cX10_init 34 = .ok (.aload_n 0, 1) := dc_42 (sg_at zd_dX10_init_0 18 rfl rfl)
theorem dX10_init_35 : decode cX10_init 35 = .ok (.bipush 28, 2) := dc_16 (sg_at zd_dX10_init_0 19 rfl rfl) rfl
theorem zd_dX10_init_37 : sg (cX10_init.data.toList.drop 37) [[188, 10], [181, 0, 24], [42], [16, 28], [188, 10], [181, 0, 27], [177]] = true := by decide +kernel
theorem dX10_init_37 : decode cX10_init 37 = .ok (.newarray .int, 2) := dc_188_10 (sg_at zd_dX10_init_37 0 rfl rfl)
theorem dX10_init_39 : decode cX10_init 39 = .ok (.putfield 24, 3) := dc_181 (sg_at zd_dX10_init_37 1 rfl rfl) rfl
theorem dX10_init_42 : decode cX10_init 42 = .ok (.aload_n 0, 1) := dc_42 (sg_at zd_dX10_init_37 2 rfl rfl)
theorem dX10_init_43 : decode cX10_init 43 = .ok (.bipush 28, 2) := dc_16 (sg_at zd_dX10_init_37 3 rfl rfl) rfl
theorem dX10_init_45 : decode cX10_init 45 = .ok (.newarray .int, 2) := dc_188_10 (sg_at zd_dX10_init_37 4 rfl rfl)
theorem dX10_init_47 : decode cX10_init 47 = .ok (.putfield 27, 3) := dc_181 (sg_at zd_dX10_init_37 5 rfl rfl) rfl
theorem dX10_init_50 : decode cX10_init 50 = .ok (.return_, 1) := dc_177 (sg_at zd_dX10_init_37 6 rfl rfl)
theorem zd_dX8_init_0 : sg (cX8_init.data.toList.drop 0) [[42], [183, 0, 3], [42], [187, 0, 9], [89], [183, 0, 11], [181, 0, 12], [42], [187, 0, 18], [89], [183, 0, 20], [181, 0, 21], [42], [6], [189, 0, 25], [181, 0, 27], [3], [60], [27], [6]] = true := by decide +kernel
theorem dX8_init_0 : decode cX8_init 0 = .ok (.aload_n 0, 1) := dc_42 (sg_at zd_dX8_init_0 0 rfl rfl)
theorem dX8_init_1 : decode cX8_init 1 = .ok (.invokespecial 3, 3) := dc_183 (sg_at zd_dX8_init_0 1 rfl rfl) rfl
theorem dX8_init_4 : decode cX8_init 4 = .ok (.aload_n 0, 1) := dc_42 (sg_at zd_dX8_init_0 2 rfl rfl)
theorem dX8_init_5 : decode cX8_init 5 = .ok (.new 9, 3) := dc_187 (sg_at zd_dX8_init_0 3 rfl rfl) rfl
theorem dX8_init_8 : decode cX8_init 8 = .ok (.dup, 1) := dc_89 (sg_at zd_dX8_init_0 4 rfl rfl)
theorem dX8_init_9 : decode cX8_init 9 = .ok (.invokespecial 11, 3) := dc_183 (sg_at zd_dX8_init_0 5 rfl rfl) rfl
theorem dX8_init_12 : decode cX8_init 12 = .ok (.putfield 12, 3) := dc_181 (sg_at zd_dX8_init_0 6 rfl rfl) rfl
theorem dX8_init_15 : decode cX8_init 15 = .ok (.aload_n 0, 1) := dc_42 (sg_at zd_dX8_init_0 7 rfl rfl)
theorem dX8_init_16 : decode cX8_init 16 = .ok (.new 18, 3) := dc_187 (sg_at zd_dX8_init_0 8 rfl rfl) rfl
theorem dX8_init_19 : decode cX8_init 19 = .ok (.dup, 1) := dc_89 (sg_at zd_dX8_init_0 9 rfl rfl)
theorem dX8_init_20 : decode cX8_init 20 = .ok (.invokespecial 20, 3) := dc_183 (sg_at zd_dX8_init_0 10 rfl rfl) rfl
theorem dX8_init_23 : decode cX8_init 23 = .ok (.putfield 21, 3) := dc_181 (sg_at zd_dX8_init_0 11 rfl rfl) rfl
theorem dX8_init_26 : decode cX8_init 26 = .ok (.aload_n 0, 1) := dc_42 (sg_at zd_dX8_init_0 12 rfl rfl)
theorem dX8_init_27 : decode cX8_init 27 = .ok (.iconst 3, 1) := dc_6 (sg_at zd_dX8_init_0 13 rfl rfl)
theorem dX8_init_28 : decode cX8_init 28 = .ok (.anewarray 25, 3) := dc_189 (sg_at zd_dX8_init_0 14 rfl rfl) rfl
theorem dX8_init_31 : decode cX8_init 31 = .ok (.putfield 27, 3) := dc_181 (sg_at zd_dX8_init_0 15 rfl rfl) rfl
theorem dX8_init_34 : decode cX8_init 34 = .ok (.iconst 0, 1) := dc_3 (sg_at zd_dX8_init_0 16 rfl rfl)
theorem dX8_init_35 : decode cX8_init 35 = .ok (.istore_n 1, 1) := dc_60 (sg_at zd_dX8_init_0 17 rfl rfl)
theorem dX8_init_36 : decode cX8_init 36 = .ok (.iload_n 1, 1) := dc_27 (sg_at zd_dX8_init_0 18 rfl rfl)
theorem dX8_init_37 : decode cX8_init 37 = .ok (.iconst 3, 1) := dc_6 (sg_at zd_dX8_init_0 19 rfl rfl)
theorem zd_dX8_init_38 : sg (cX8_init.data.toList.drop 38) [[162, 0, 22], [42], [180, 0, 27], [27], [187, 0, 25], [89], [183, 0, 31], [83], [132, 1, 1], [167, 255, 235], [42], [16, 6], [181, 0, 32], [42], [7], [181, 0, 36], [177]] = true := by decide +kernel
theorem dX8_init_38 : decode cX8_init 38 = .ok (.if_icmp .ge 22, 3) := dc_162 (sg_at zd_dX8_init_38 0 rfl rfl) rfl
theorem dX8_init_41 : decode cX8_init 41 = .ok (.aload_n 0, 1) := dc_42 (sg_at zd_dX8_init_38 1 rfl rfl)
theorem dX8_init_42 : decode cX8_init 42 = .ok (.getfield 27, 3) := dc_180 (sg_at zd_dX8_init_38 2 rfl rfl) rfl
theorem dX8_init_45 : decode cX8_init 45 = .ok (.iload_n 1, 1) := dc_27 (sg_at zd_dX8_init_38 3 rfl rfl)
theorem dX8_init_46 : decode cX8_init 46 = .ok (.new 25, 3) := dc_187 (sg_at zd_dX8_init_38 4 rfl rfl) rfl
theorem dX8_init_49 : decode cX8_init 49 = .ok (.dup, 1) := dc_89 (sg_at zd_dX8_init_38 5 rfl rfl)
theorem dX8_init_50 : decode cX8_init 50 = .ok (.invokespecial 31, 3) := dc_183 (sg_at zd_dX8_init_38 6 rfl rfl) rfl
theorem dX8_init_53 : decode cX8_init 53 = .ok (.aastore, 1) := dc_83 (sg_at zd_dX8_init_38 7 rfl rfl)
theorem dX8_init_54 : decode cX8_init 54 = .ok (.iinc 1 1, 3) := dc_132 (sg_at zd_dX8_init_38 8 rfl rfl) rfl
theorem dX8_init_57 : decode cX8_init 57 = .ok (.goto (-21), 3) := dc_167 (sg_at zd_dX8_init_38 9 rfl rfl) rfl
theorem dX8_init_60 : decode cX8_init 60 = .ok (.aload_n 0, 1) := dc_42 (sg_at zd_dX8_init_38 10 rfl rfl)
theorem dX8_init_61 : decode cX8_init 61 = .ok (.bipush 6, 2) := dc_16 (sg_at zd_dX8_init_38 11 rfl rfl) rfl
theorem dX8_init_63 : decode cX8_init 63 = .ok (.putfield 32, 3) := dc_181 (sg_at zd_dX8_init_38 12 rfl rfl) rfl
theorem dX8_init_66 : decode cX8_init 66 = .ok (.aload_n 0, 1) := dc_42 (sg_at zd_dX8_init_38 13 rfl rfl)
theorem dX8_init_67 : decode cX8_init 67 = .ok (.iconst 4, 1) := dc_7 (sg_at zd_dX8_init_38 14 rfl rfl)
theorem dX8_init_68 : decode cX8_init 68 = .ok (.putfield 36, 3) := dc_181 (sg_at zd_dX8_init_38 15 rfl rfl) rfl
theorem dX8_init_71 : decode cX8_init 71 = .ok (.return_, 1) := dc_177 (sg_at zd_dX8_init_38 16 rfl rfl)
theorem zd_dX5_init_0 : sg (cX5_init.data.toList.drop 0) [[42], [183, 0, 3], [42], [43], [181, 0, 9], [42], [187, 0, 15], [89], [183, 0, 17], [181, 0, 18], [42], [16, 72], [188, 10], [181, 0, 22], [42], [2], [181, 0, 26], [177]] = true := by decide +kernel
theorem dX5_init_0 : decode cX5_init 0 = .ok (.aload_n 0, 1) := dc_42 (sg_at zd_dX5_init_0 0 rfl rfl)
theorem dX5_init_1 : decode cX5_init 1 = .ok (.invokespecial 3, 3) := dc_183 (sg_at zd_dX5_init_0 1 rfl rfl) rfl
theorem dX5_init_4 : decode cX5_init 4 = .ok (.aload_n 0, 1) := dc_42 (sg_at zd_dX5_init_0 2 rfl rfl)
theorem dX5_init_5 : decode cX5_init 5 = .ok (.aload_n 1, 1) := dc_43 (sg_at zd_dX5_init_0 3 rfl rfl)
theorem dX5_init_6 : decode cX5_init 6 = .ok (.putfield 9, 3) := dc_181 (sg_at zd_dX5_init_0 4 rfl rfl) rfl
theorem dX5_init_9 : decode cX5_init 9 = .ok (.aload_n 0, 1) := dc_42 (sg_at zd_dX5_init_0 5 rfl rfl)
theorem dX5_init_10 : decode cX5_init 10 = .ok (.new 15, 3) := dc_187 (sg_at zd_dX5_init_0 6 rfl rfl) rfl
theorem dX5_init_13 : decode cX5_init 13 = .ok (.dup, 1) := dc_89 (sg_at zd_dX5_init_0 7 rfl rfl)
theorem dX5_init_14 : decode cX5_init 14 = .ok (.invokespecial 17, 3) := dc_183 (sg_at zd_dX5_init_0 8 rfl rfl) rfl
theorem dX5_init_17 : decode cX5_init 17 = .ok (.putfield 18, 3) := dc_181 (sg_at zd_dX5_init_0 9 rfl rfl) rfl
theorem dX5_init_20 : decode cX5_init 20 = .ok (.aload_n 0, 1) := dc_42 (sg_at zd_dX5_init_0 10 rfl rfl)
theorem dX5_init_21 : decode cX5_init 21 = .ok (.bipush 72, 2) := dc_16 (sg_at zd_dX5_init_0 11 rfl rfl) rfl
theorem dX5_init_23 : decode cX5_init 23 = .ok (.newarray .int, 2) := dc_188_10 (sg_at zd_dX5_init_0 12 rfl rfl)
theorem dX5_init_25 : decode cX5_init 25 = .ok (.putfield 22, 3) := dc_181 (sg_at zd_dX5_init_0 13 rfl rfl) rfl
theorem dX5_init_28 : decode cX5_init 28 = .ok (.aload_n 0, 1) := dc_42 (sg_at zd_dX5_init_0 14 rfl rfl)
theorem dX5_init_29 : decode cX5_init 29 = .ok (.iconst (-1), 1) := dc_2 (sg_at zd_dX5_init_0 15 rfl rfl)
theorem dX5_init_30 : decode cX5_init 30 = .ok (.putfield 26, 3) := dc_181 (sg_at zd_dX5_init_0 16 rfl rfl) rfl
theorem dX5_init_33 : decode cX5_init 33 = .ok (.return_, 1) := dc_177 (sg_at zd_dX5_init_0 17 rfl rfl)
theorem zd_dX6_init_0 : sg (cX6_init.data.toList.drop 0) [[42], [183, 0, 3], [42], [43], [181, 0, 9], [42], [8], [188, 10], [181, 0, 15], [42], [8], [188, 10], [181, 0, 19], [42], [16, 28], [188, 10], [181, 0, 22], [42], [16, 6], [188, 11]] = true := by decide +kernel
theorem dX6_init_0 : decode cX6_init 0 = .ok (.aload_n 0, 1) := dc_42 (sg_at zd_dX6_init_0 0 rfl rfl)
theorem dX6_init_1 : decode cX6_init 1 = .ok (.invokespecial 3, 3) := dc_183 (sg_at zd_dX6_init_0 1 rfl rfl) rfl
theorem dX6_init_4 : decode cX6_init 4 = .ok (.aload_n 0, 1) := dc_42 (sg_at zd_dX6_init_0 2 rfl rfl)
theorem dX6_init_5 : decode cX6_init 5 = .ok (.aload_n 1, 1) := dc_43 (sg_at zd_dX6_init_0 3 rfl rfl)
theorem dX6_init_6 : decode cX6_init 6 = .ok (.putfield 9, 3) := dc_181 (sg_at zd_dX6_init_0 4 rfl rfl) rfl
theorem dX6_init_9 : decode cX6_init 9 = .ok (.aload_n 0, 1) := dc_42 (sg_at zd_dX6_init_0 5 rfl rfl)
theorem dX6_init_10 : decode cX6_init 10 = .ok (.iconst 5, 1) := dc_8 (sg_at zd_dX6_init_0 6 rfl rfl)
theorem dX6_init_11 : decode cX6_init 11 = .ok (.newarray .int, 2) := dc_188_10 (sg_at zd_dX6_init_0 7 rfl rfl)
theorem dX6_init_13 : decode cX6_init 13 = .ok (.putfield 15, 3) := dc_181 (sg_at zd_dX6_init_0 8 rfl rfl) rfl
theorem dX6_init_16 : decode cX6_init 16 = .ok (.aload_n 0, 1) := dc_42 (sg_at zd_dX6_init_0 9 rfl rfl)
theorem dX6_init_17 : decode cX6_init 17 = .ok (.iconst 5, 1) := dc_8 (sg_at zd_dX6_init_0 10 rfl rfl)
theorem dX6_init_18 : decode cX6_init 18 = .ok (.newarray .int, 2) := dc_188_10 (sg_at zd_dX6_init_0 11 rfl rfl)
theorem dX6_init_20 : decode cX6_init 20 = .ok (.putfield 19, 3) := dc_181 (sg_at zd_dX6_init_0 12 rfl rfl) rfl
theorem dX6_init_23 : decode cX6_init 23 = .ok (.aload_n 0, 1) := dc_42 (sg_at zd_dX6_init_0 13 rfl rfl)
theorem dX6_init_24 : decode cX6_init 24 = .ok (.bipush 28, 2) := dc_16 (sg_at zd_dX6_init_0 14 rfl rfl) rfl
theorem dX6_init_26 : decode cX6_init 26 = .ok (.newarray .int, 2) := dc_188_10 (sg_at zd_dX6_init_0 15 rfl rfl)
theorem dX6_init_28 : decode cX6_init 28 = .ok (.putfield 22, 3) := dc_181 (sg_at zd_dX6_init_0 16 rfl rfl) rfl
theorem dX6_init_31 : decode cX6_init 31 = .ok (.aload_n 0, 1) := dc_42 (sg_at zd_dX6_init_0 17 rfl rfl)
theorem dX6_init_32 : decode cX6_init 32 = .ok (.bipush 6, 2) := dc_16 (sg_at zd_dX6_init_0 18 rfl rfl) rfl
theorem dX6_init_34 : decode cX6_init 34 = .ok (.newarray .long, 2) := dc_188_11 (sg_at zd_dX6_init_0 19 rfl rfl)
theorem zd_dX6_init_36 : sg (cX6_init.data.toList.drop 36) [[181, 0, 25], [42], [16, 64], [188, 11], [181, 0, 29], [42], [8], [188, 10], [181, 0, 32], [42], [8], [188, 10], [181, 0, 35], [42], [8], [188, 10], [181, 0, 38], [177]] = true := by decide +kernel
theorem dX6_init_36 : decode cX6_init 36 = .ok (.putfield 25, 3) := dc_181 (sg_at zd_dX6_init_36 0 rfl rfl) rfl
theorem dX6_init_39 : decode cX6_init 39 = .ok (.aload_n 0, 1) := dc_42 (sg_at zd_dX6_init_36 1 rfl rfl)
theorem dX6_init_40 : decode cX6_init 40 = .ok (.bipush 64, 2) := dc_16 (sg_at zd_dX6_init_36 2 rfl rfl) rfl
theorem dX6_init_42 : decode cX6_init 42 = .ok (.newarray .long, 2) := dc_188_11 (sg_at zd_dX6_init_36 3 rfl rfl)
theorem dX6_init_44 : decode cX6_init 44 = .ok (.putfield 29, 3) := dc_181 (sg_at zd_dX6_init_36 4 rfl rfl) rfl
theorem dX6_init_47 : decode cX6_init 47 = .ok (.aload_n 0, 1) := dc_42 (sg_at zd_dX6_init_36 5 rfl rfl)
theorem dX6_init_48 : decode cX6_init 48 = .ok (.iconst 5, 1) := dc_8 (sg_at zd_dX6_init_36 6 rfl rfl)
theorem dX6_init_49 : decode cX6_init 49 = .ok (.newarray .int, 2) := dc_188_10 (sg_at zd_dX6_init_36 7 rfl rfl)
theorem dX6_init_51 : decode cX6_init 51 = .ok (.putfield 32, 3) := dc_181 (sg_at zd_dX6_init_36 8 rfl rfl) rfl
theorem dX6_init_54 : decode cX6_init 54 = .ok (.aload_n 0, 1) := dc_42 (sg_at zd_dX6_init_36 9 rfl rfl)
theorem dX6_init_55 : decode cX6_init 55 = .ok (.iconst 5, 1) := dc_8 (sg_at zd_dX6_init_36 10 rfl rfl)
theorem dX6_init_56 : decode cX6_init 56 = .ok (.newarray .int, 2) := dc_188_10 (sg_at zd_dX6_init_36 11 rfl rfl)
theorem dX6_init_58 : decode cX6_init 58 = .ok (.putfield 35, 3) := dc_181 (sg_at zd_dX6_init_36 12 rfl rfl) rfl
theorem dX6_init_61 : decode cX6_init 61 = .ok (.aload_n 0, 1) := dc_42 (sg_at zd_dX6_init_36 13 rfl rfl)
theorem dX6_init_62 : decode cX6_init 62 = .ok (.iconst 5, 1) := dc_8 (sg_at zd_dX6_init_36 14 rfl rfl)
theorem dX6_init_63 : decode cX6_init 63 = .ok (.newarray .int, 2) := dc_188_10 (sg_at zd_dX6_init_36 15 rfl rfl)
theorem dX6_init_65 : decode cX6_init 65 = .ok (.putfield 38, 3) := dc_181 (sg_at zd_dX6_init_36 16 rfl rfl) rfl
theorem dX6_init_68 : decode cX6_init 68 = .ok (.return_, 1) := dc_177 (sg_at zd_dX6_init_36 17 rfl rfl)
theorem zd_dX0_init_0 : sg (cX0_init.data.toList.drop 0) [[42], [183, 0, 3], [42], [16, 10], [188, 10], [181, 0, 9], [42], [17, 1, 24], [188, 10], [181, 0, 15], [42], [17, 1, 24], [188, 10], [181, 0, 18], [42], [16, 25], [188, 10], [181, 0, 21], [42], [16, 25]] = true := by decide +kernel
theorem dX0_init_0 : decode cX0_init 0 = .ok (.aload_n 0, 1) := dc_42 (sg_at zd_dX0_init_0 0 rfl rfl)
theorem dX0_init_1 : decode cX0_init 1 = .ok (.invokespecial 3, 3) := dc_183 (sg_at zd_dX0_init_0 1 rfl rfl) rfl
theorem dX0_init_4 : decode cX0_init 4 = .ok (.aload_n 0, 1) := dc_42 (sg_at zd_dX0_init_0 2 rfl rfl)
theorem dX0_init_5 : decode cX0_init 5 = .ok (.bipush 10, 2) := dc_16 (sg_at zd_dX0_init_0 3 rfl rfl) rfl
theorem dX0_init_7 : decode cX0_init 7 = .ok (.newarray .int, 2) := dc_188_10 (sg_at zd_dX0_init_0 4 rfl rfl)
theorem dX0_init_9 : decode cX0_init 9 = .ok (.putfield 9, 3) := dc_181 (sg_at zd_dX0_init_0 5 rfl rfl) rfl
theorem dX0_init_12 : decode cX0_init 12 = .ok (.aload_n 0, 1) := dc_42 (sg_at zd_dX0_init_0 6 rfl rfl)
theorem dX0_init_13 : decode cX0_init 13 = .ok (.sipush 280, 3) := dc_17 (sg_at zd_dX0_init_0 7 rfl rfl) rfl
theorem dX0_init_16 : decode cX0_init 16 = .ok (.newarray .int, 2) := dc_188_10 (sg_at zd_dX0_init_0 8 rfl rfl)
theorem dX0_init_18 : decode cX0_init 18 = .ok (.putfield 15, 3) := dc_181 (sg_at zd_dX0_init_0 9 rfl rfl) rfl
theorem dX0_init_21 : decode cX0_init 21 = .ok (.aload_n 0, 1) := dc_42 (sg_at zd_dX0_init_0 10 rfl rfl)
theorem dX0_init_22 : decode cX0_init 22 = .ok (.sipush 280, 3) := dc_17 (sg_at zd_dX0_init_0 11 rfl rfl) rfl
theorem dX0_init_25 : decode cX0_init 25 = .ok (.newarray .int, 2) := dc_188_10 (sg_at zd_dX0_init_0 12 rfl rfl)
theorem dX0_init_27 : decode cX0_init 27 = .ok (.putfield 18, 3) := dc_181 (sg_at zd_dX0_init_0 13 rfl rfl) rfl
theorem dX0_init_30 : decode cX0_init 30 = .ok (.aload_n 0, 1) := dc_42 (sg_at zd_dX0_init_0 14 rfl rfl)
theorem dX0_init_31 : decode cX0_init 31 = .ok (.bipush 25, 2) := dc_16 (sg_at zd_dX0_init_0 15 rfl rfl) rfl
theorem dX0_init_33 : decode cX0_init 33 = .ok (.newarray .int, 2) := dc_188_10 (sg_at zd_dX0_init_0 16 rfl rfl)
theorem dX0_init_35 : decode cX0_init 35 = .ok (.putfield 21, 3) := dc_181 (sg_at zd_dX0_init_0 17 rfl rfl) rfl
theorem dX0_init_38 : decode cX0_init 38 = .ok (.aload_n 0, 1) := dc_42 (sg_at zd_dX0_init_0 18 rfl rfl)
theorem dX0_init_39 : decode cX0_init 39 = .ok (.bipush 25, 2) := dc_16 (sg_at zd_dX0_init_0 19 rfl rfl) rfl
theorem zd_dX0_init_41 : sg (cX0_init.data.toList.drop 41) [[188, 10], [181, 0, 24], [42], [16, 25], [188, 10], [181, 0, 27], [42], [16, 29], [188, 10], [181, 0, 30], [42], [16, 28], [188, 10], [181, 0, 33], [42], [16, 28], [188, 4], [181, 0, 36], [42], [16, 28]] = true := by decide +kernel
theorem dX0_init_41 : decode cX0_init 41 = .ok (.newarray .int, 2) := dc_188_10 (sg_at zd_dX0_init_41 0 rfl rfl)
theorem dX0_init_43 : decode cX0_init 43 = .ok (.putfield 24, 3) := dc_181 (sg_at zd_dX0_init_41 1 rfl rfl) rfl
theorem dX0_init_46 : decode cX0_init 46 = .ok (.aload_n 0, 1) := dc_42 (sg_at zd_dX0_init_41 2 rfl rfl)
theorem dX0_init_47 : decode cX0_init 47 = .ok (.bipush 25, 2) := dc_16 (sg_at zd_dX0_init_41 3 rfl rfl) rfl
theorem dX0_init_49 : decode cX0_init 49 = .ok (.newarray .int, 2) := dc_188_10 (sg_at zd_dX0_init_41 4 rfl rfl)
theorem dX0_init_51 : decode cX0_init 51 = .ok (.putfield 27, 3) := dc_181 (sg_at zd_dX0_init_41 5 rfl rfl) rfl
theorem dX0_init_54 : decode cX0_init 54 = .ok (.aload_n 0, 1) := dc_42 (sg_at zd_dX0_init_41 6 rfl rfl)
theorem dX0_init_55 : decode cX0_init 55 = .ok (.bipush 29, 2) := dc_16 (sg_at zd_dX0_init_41 7 rfl rfl) rfl
theorem dX0_init_57 : decode cX0_init 57 = .ok (.newarray .int, 2) := dc_188_10 (sg_at zd_dX0_init_41 8 rfl rfl)
theorem dX0_init_59 : decode cX0_init 59 = .ok (.putfield 30, 3) := dc_181 (sg_at zd_dX0_init_41 9 rfl rfl) rfl
theorem dX0_init_62 : decode cX0_init 62 = .ok (.aload_n 0, 1) := dc_42 (sg_at zd_dX0_init_41 10 rfl rfl)
theorem dX0_init_63 : decode cX0_init 63 = .ok (.bipush 28, 2) := dc_16 (sg_at zd_dX0_init_41 11 rfl rfl) rfl
theorem dX0_init_65 : decode cX0_init 65 = .ok (.newarray .int, 2) := dc_188_10 (sg_at zd_dX0_init_41 12 rfl rfl)
theorem dX0_init_67 : decode cX0_init 67 = .ok (.putfield 33, 3) := dc_181 (sg_at zd_dX0_init_41 13 rfl rfl) rfl
theorem dX0_init_70 : decode cX0_init 70 = .ok (.aload_n 0, 1) := dc_42 (sg_at zd_dX0_init_41 14 rfl rfl)
theorem dX0_init_71 : decode cX0_init 71 = .ok (.bipush 28, 2) := dc_16 (sg_at zd_dX0_init_41 15 rfl rfl) rfl
theorem dX0_init_73 : decode cX0_init 73 = .ok (.newarray .boolean, 2) := dc_188_4 (sg_at zd_dX0_init_41 16 rfl rfl)
theorem dX0_init_75 : decode cX0_init 75 = .ok (.putfield 36, 3) := dc_181 (sg_at zd_dX0_init_41 17 rfl rfl) rfl
theorem dX0_init_78 : decode cX0_init 78 = .ok (.aload_n 0, 1) := dc_42 (sg_at zd_dX0_init_41 18 rfl rfl)
theorem dX0_init_79 : decode cX0_init 79 = .ok (.bipush 28, 2) := dc_16 (sg_at zd_dX0_init_41 19 rfl rfl) rfl
theorem zd_dX0_init_81 : sg (cX0_init.data.toList.drop 81) [[188, 10], [181, 0, 40], [177]] = true := by decide +kernel
theorem dX0_init_81 : decode cX0_init 81 = .ok (.newarray .int, 2) := dc_188_10 (sg_at zd_dX0_init_81 0 rfl rfl)
theorem dX0_init_83 : decode cX0_init 83 = .ok (.putfield 40, 3) := dc_181 (sg_at zd_dX0_init_81 1 rfl rfl) rfl
theorem dX0_init_86 : decode cX0_init 86 = .ok (.return_, 1) := dc_177 (sg_at zd_dX0_init_81 2 rfl rfl)
theorem zd_dX11_init_0 : sg (cX11_init.data.toList.drop 0) [[42], [183, 0, 3], [42], [17, 2, 188], [188, 8], [181, 0, 11], [42], [187, 0, 15], [89], [183, 0, 17], [181, 0, 18], [42], [187, 0, 15], [89], [183, 0, 17], [181, 0, 22], [42], [187, 0, 25], [89], [42]] = true := by decide +kernel
theorem dX11_init_0 : decode cX11_init 0 = .ok (.aload_n 0, 1) := dc_42 (sg_at zd_dX11_init_0 0 rfl rfl)
theorem dX11_init_1 : decode cX11_init 1 = .ok (.invokespecial 3, 3) := dc_183 (sg_at zd_dX11_init_0 1 rfl rfl) rfl
theorem dX11_init_4 : decode cX11_init 4 = .ok (.aload_n 0, 1) := dc_42 (sg_at zd_dX11_init_0 2 rfl rfl)
theorem dX11_init_5 : decode cX11_init 5 = .ok (.sipush 700, 3) := dc_17 (sg_at zd_dX11_init_0 3 rfl rfl) rfl
theorem dX11_init_8 : decode cX11_init 8 = .ok (.newarray .byte, 2) := dc_188_8 (sg_at zd_dX11_init_0 4 rfl rfl)
theorem dX11_init_10 : decode cX11_init 10 = .ok (.putfield 11, 3) := dc_181 (sg_at zd_dX11_init_0 5 rfl rfl) rfl
theorem dX11_init_13 : decode cX11_init 13 = .ok (.aload_n 0, 1) := dc_42 (sg_at zd_dX11_init_0 6 rfl rfl)
theorem dX11_init_14 : decode cX11_init 14 = .ok (.new 15, 3) := dc_187 (sg_at zd_dX11_init_0 7 rfl rfl) rfl
theorem dX11_init_17 : decode cX11_init 17 = .ok (.dup, 1) := dc_89 (sg_at zd_dX11_init_0 8 rfl rfl)
theorem dX11_init_18 : decode cX11_init 18 = .ok (.invokespecial 17, 3) := dc_183 (sg_at zd_dX11_init_0 9 rfl rfl) rfl
theorem dX11_init_21 : decode cX11_init 21 = .ok (.putfield 18, 3) := dc_181 (sg_at zd_dX11_init_0 10 rfl rfl) rfl
theorem dX11_init_24 : decode cX11_init 24 = .ok (.aload_n 0, 1) := dc_42 (sg_at zd_dX11_init_0 11 rfl rfl)
theorem dX11_init_25 : decode cX11_init 25 = .ok (.new 15, 3) := dc_187 (sg_at zd_dX11_init_0 12 rfl rfl) rfl
theorem dX11_init_28 : decode cX11_init 28 = .ok (.dup, 1) := dc_89 (sg_at zd_dX11_init_0 13 rfl rfl)
theorem dX11_init_29 : decode cX11_init 29 = .ok (.invokespecial 17, 3) := dc_183 (sg_at zd_dX11_init_0 14 rfl rfl) rfl
theorem dX11_init_32 : decode cX11_init 32 = .ok (.putfield 22, 3) := dc_181 (sg_at zd_dX11_init_0 15 rfl rfl) rfl
theorem dX11_init_35 : decode cX11_init 35 = .ok (.aload_n 0, 1) := dc_42 (sg_at zd_dX11_init_0 16 rfl rfl)
theorem dX11_init_36 : decode cX11_init 36 = .ok (.new 25, 3) := dc_187 (sg_at zd_dX11_init_0 17 rfl rfl) rfl
theorem dX11_init_39 : decode cX11_init 39 = .ok (.dup, 1) := dc_89 (sg_at zd_dX11_init_0 18 rfl rfl)
theorem dX11_init_40 : decode cX11_init 40 = .ok (.aload_n 0, 1) := dc_42 (sg_at zd_dX11_init_0 19 rfl rfl)
theorem zd_dX11_init_41 : sg (cX11_init.data.toList.drop 41) [[180, 0, 22], [183, 0, 27], [181, 0, 30], [42], [187, 0, 34], [89], [42], [180, 0, 18], [183, 0, 36], [181, 0, 37], [42], [187, 0, 34], [89], [42], [180, 0, 18], [183, 0, 36], [181, 0, 41], [42], [187, 0, 44], [89]] = true := by decide +kernel
theorem dX11_init_41 : decode cX11_init 41 = .ok (.getfield 22, 3) := dc_180 (sg_at zd_dX11_init_41 0 rfl rfl) rfl
theorem dX11_init_44 : decode cX11_init 44 = .ok (.invokespecial 27, 3) := dc_183 (sg_at zd_dX11_init_41 1 rfl rfl) rfl
theorem dX11_init_47 : decode cX11_init 47 = .ok (.putfield 30, 3) := dc_181 (sg_at zd_dX11_init_41 2 rfl rfl) rfl
theorem dX11_init_50 : decode cX11_init 50 = .ok (.aload_n 0, 1) := dc_42 (sg_at zd_dX11_init_41 3 rfl rfl)
theorem dX11_init_51 : decode cX11_init 51 = .ok (.new 34, 3) := dc_187 (sg_at zd_dX11_init_41 4 rfl rfl) rfl
theorem dX11_init_54 : decode cX11_init 54 = .ok (.dup, 1) := dc_89 (sg_at zd_dX11_init_41 5 rfl rfl)
theorem dX11_init_55 : decode cX11_init 55 = .ok (.aload_n 0, 1) := dc_42 (sg_at zd_dX11_init_41 6 rfl rfl)
theorem dX11_init_56 : decode cX11_init 56 = .ok (.getfield 18, 3) := dc_180 (sg_at zd_dX11_init_41 7 rfl rfl) rfl
theorem dX11_init_59 : decode cX11_init 59 = .ok (.invokespecial 36, 3) := dc_183 (sg_at zd_dX11_init_41 8 rfl rfl) rfl
theorem dX11_init_62 : decode cX11_init 62 = .ok (.putfield 37, 3) := dc_181 (sg_at zd_dX11_init_41 9 rfl rfl) rfl
theorem dX11_init_65 : decode cX11_init 65 = .ok (.aload_n 0, 1) := dc_42 (sg_at zd_dX11_init_41 10 rfl rfl)
theorem dX11_init_66 : decode cX11_init 66 = .ok (.new 34, 3) := dc_187 (sg_at zd_dX11_init_41 11 rfl rfl) rfl
theorem dX11_init_69 : decode cX11_init 69 = .ok (.dup, 1) := dc_89 (sg_at zd_dX11_init_41 12 rfl rfl)
theorem dX11_init_70 : decode cX11_init 70 = .ok (.aload_n 0, 1) := dc_42 (sg_at zd_dX11_init_41 13 rfl rfl)
theorem dX11_init_71 : decode cX11_init 71 = .ok (.getfield 18, 3) := dc_180 (sg_at zd_dX11_init_41 14 rfl rfl) rfl
theorem dX11_init_74 : decode cX11_init 74 = .ok (.invokespecial 36, 3) := dc_183 (sg_at zd_dX11_init_41 15 rfl rfl) rfl
theorem dX11_init_77 : decode cX11_init 77 = .ok (.putfield 41, 3) := dc_181 (sg_at zd_dX11_init_41 16 rfl rfl) rfl
theorem dX11_init_80 : decode cX11_init 80 = .ok (.aload_n 0, 1) := dc_42 (sg_at zd_dX11_init_41 17 rfl rfl)
theorem dX11_init_81 : decode cX11_init 81 = .ok (.new 44, 3) := dc_187 (sg_at zd_dX11_init_41 18 rfl rfl) rfl
theorem dX11_init_84 : decode cX11_init 84 = .ok (.dup, 1) := dc_89 (sg_at zd_dX11_init_41 19 rfl rfl)
theorem zd_dX11_init_85 : sg (cX11_init.data.toList.drop 85) [[183, 0, 46], [181, 0, 47], [42], [187, 0, 44], [89], [183, 0, 46], [181, 0, 51], [42], [187, 0, 44], [89], [183, 0, 46], [181, 0, 54], [42], [187, 0, 57], [89], [183, 0, 59], [181, 0, 60], [42], [187, 0, 64], [89]] = true := by decide +kernel
theorem dX11_init_85 : decode cX11_init 85 = .ok (.invokespecial 46, 3) := dc_183 (sg_at zd_dX11_init_85 0 rfl rfl) rfl
theorem dX11_init_88 : decode cX11_init 88 = .ok (.putfield 47, 3) := dc_181 (sg_at zd_dX11_init_85 1 rfl rfl) rfl
theorem dX11_init_91 : decode cX11_init 91 = .ok (.aload_n 0, 1) := dc_42 (sg_at zd_dX11_init_85 2 rfl rfl)
theorem dX11_init_92 : decode cX11_init 92 = .ok (.new 44, 3) := dc_187 (sg_at zd_dX11_init_85 3 rfl rfl) rfl
theorem dX11_init_95 : decode cX11_init 95 = .ok (.dup, 1) := dc_89 (sg_at zd_dX11_init_85 4 rfl rfl)
theorem dX11_init_96 : decode cX11_init 96 = .ok (.invokespecial 46, 3) := dc_183 (sg_at zd_dX11_init_85 5 rfl rfl) rfl
theorem dX11_init_99 : decode cX11_init 99 = .ok (.putfield 51, 3) := dc_181 (sg_at zd_dX11_init_85 6 rfl rfl) rfl
theorem dX11_init_102 : decode cX11_init 102 = .ok (.aload_n 0, 1) := dc_42 (sg_at zd_dX11_init_85 7 rfl rfl)
theorem dX11_init_103 : decode cX11_init 103 = .ok (.new 44, 3) := dc_187 (sg_at zd_dX11_init_85 8 rfl rfl) rfl
theorem dX11_init_106 : decode cX11_init 106 = .ok (.dup, 1) := dc_89 (sg_at zd_dX11_init_85 9 rfl rfl)
theorem dX11_init_107 : decode cX11_init 107 = .ok (.invokespecial 46, 3) := dc_183 (sg_at zd_dX11_init_85 10 rfl rfl) rfl
theorem dX11_init_110 : decode cX11_init 110 = .ok (.putfield 54, 3) := dc_181 (sg_at zd_dX11_init_85 11 rfl rfl) rfl
theorem dX11_init_113 : decode cX11_init 113 = .ok (.aload_n 0, 1) := dc_42 (sg_at zd_dX11_init_85 12 rfl rfl)
theorem dX11_init_114 : decode cX11_init 114 = .ok (.new 57, 3) := dc_187 (sg_at zd_dX11_init_85 13 rfl rfl) rfl
theorem dX11_init_117 : decode cX11_init 117 = .ok (.dup, 1) := dc_89 (sg_at zd_dX11_init_85 14 rfl rfl)
theorem dX11_init_118 : decode cX11_init 118 = .ok (.invokespecial 59, 3) := dc_183 (sg_at zd_dX11_init_85 15 rfl rfl) rfl
theorem dX11_init_121 : decode cX11_init 121 = .ok (.putfield 60, 3) := dc_181 (sg_at zd_dX11_init_85 16 rfl rfl) rfl
theorem dX11_init_124 : decode cX11_init 124 = .ok (.aload_n 0, 1) := dc_42 (sg_at zd_dX11_init_85 17 rfl rfl)
theorem dX11_init_125 : decode cX11_init 125 = .ok (.new 64, 3) := dc_187 (sg_at zd_dX11_init_85 18 rfl rfl) rfl
theorem dX11_init_128 : decode cX11_init 128 = .ok (.dup, 1) := dc_89 (sg_at zd_dX11_init_85 19 rfl rfl)
theorem zd_dX11_init_129 : sg (cX11_init.data.toList.drop 129) [[183, 0, 66], [181, 0, 67], [42], [187, 0, 71], [89], [183, 0, 73], [181, 0, 74], [177]] = true := by decide +kernel
theorem dX11_init_129 : decode cX11_init 129 = .ok (.invokespecial 66, 3) := dc_183 (sg_at zd_dX11_init_129 0 rfl rfl) rfl
theorem dX11_init_132 : decode cX11_init 132 = .ok (.putfield 67, 3) := dc_181 (sg_at zd_dX11_init_129 1 rfl rfl) rfl
theorem dX11_init_135 : decode cX11_init 135 = .ok (.aload_n 0, 1) := dc_42 (sg_at zd_dX11_init_129 2 rfl rfl)
theorem dX11_init_136 : decode cX11_init 136 = .ok (.new 71, 3) := dc_187 (sg_at zd_dX11_init_129 3 rfl rfl) rfl
theorem dX11_init_139 : decode cX11_init 139 = .ok (.dup, 1) := dc_89 (sg_at zd_dX11_init_129 4 rfl rfl)
theorem dX11_init_140 : decode cX11_init 140 = .ok (.invokespecial 73, 3) := dc_183 (sg_at zd_dX11_init_129 5 rfl rfl) rfl
theorem dX11_init_143 : decode cX11_init 143 = .ok (.putfield 74, 3) := dc_181 (sg_at zd_dX11_init_129 6 rfl rfl) rfl
theorem dX11_init_146 : decode cX11_init 146 = .ok (.return_, 1) := dc_177 (sg_at zd_dX11_init_129 7 rfl rfl)
section
variable {p : Program} {l : Launch} {e : Env} {s : State} {m : MethodId} {args : Array Value} {below : List Frame} {meth : Method} {c : Code} {D : va_G} {cy : Nat → ClassId} {b : Nat} {A : Nat → Prop} {fl : Bool}
def vX1_init : List Cond := .code yX1_init cX1_init 1 none :: TB
theorem lp1_init_9 : PlF vX1_init RX1 9 1 1 (.array .int) := ⟨RX1, TX1, 7, tyX1, rfl, by decide, (fun w h9 => List.mem_cons_of_mem _ (wC_wsX10 w h9)), (List.mem_cons_of_mem _ wT_3_22), tyX1_ok, nmX1, rfl, rfl, rfl⟩
theorem lp1_init_15 : PlF vX1_init RX1 15 1 2 (.array .int) := ⟨RX1, TX1, 7, tyX1, rfl, by decide, (fun w h9 => List.mem_cons_of_mem _ (wC_wsX10 w h9)), (List.mem_cons_of_mem _ wT_3_23), tyX1_ok, nmX1, rfl, rfl, rfl⟩
theorem lp1_init_18 : PlF vX1_init RX1 18 1 3 (.array .int) := ⟨RX1, TX1, 7, tyX1, rfl, by decide, (fun w h9 => List.mem_cons_of_mem _ (wC_wsX10 w h9)), (List.mem_cons_of_mem _ wT_4_0), tyX1_ok, nmX1, rfl, rfl, rfl⟩
theorem lp1_init_21 : PlF vX1_init RX1 21 1 4 (.array .int) := ⟨RX1, TX1, 7, tyX1, rfl, by decide, (fun w h9 => List.mem_cons_of_mem _ (wC_wsX10 w h9)), (List.mem_cons_of_mem _ wT_4_1), tyX1_ok, nmX1, rfl, rfl, rfl⟩
theorem lp1_init_24 : PlF vX1_init RX1 24 1 5 (.array .int) := ⟨RX1, TX1, 7, tyX1, rfl, by decide, (fun w h9 => List.mem_cons_of_mem _ (wC_wsX10 w h9)), (List.mem_cons_of_mem _ wT_4_2), tyX1_ok, nmX1, rfl, rfl, rfl⟩
theorem lp1_init_27 : PlF vX1_init RX1 27 1 6 (.array .int) := ⟨RX1, TX1, 7, tyX1, rfl, by decide, (fun w h9 => List.mem_cons_of_mem _ (wC_wsX10 w h9)), (List.mem_cons_of_mem _ wT_4_3), tyX1_ok, nmX1, rfl, rfl, rfl⟩
theorem cd1_init : Cd yX1_init 0 := ⟨by decide, by decide, by decide +kernel⟩
set_option maxHeartbeats 4000000 in
set_option maxRecDepth 100000 in
theorem T1_init_0 (S : CallFix p m c cX1_init 1 s args vX1_init RX1) (hr : meth.sig.returnType = none) (hlo : meth.locks = false) (hin2 : meth.name = "<init>") (hAn : ∀ q, b ≤ q → A q) {out : PH} {h : PH} {a0 : Nat} (f : F1_init_0  h a0 = some out) {H : Heap} {locs : List Loc} (I : ph_I D cy b A true h s H locs) {ls : Array Slot} (hl : lv_has ls 1 [(0, .ref (b + a0))]) : W p l e ({ frames := 1, cells := 6, slots := 30, locals := 20 } : Room) s m args below meth c H locs 0 0 (MQ below (va_Qv (fun (u : PH) => u = out) (ph_B D cy b A true) A) args s 6 30 A) (F0 m 0 ls []) := by
  unfold F1_init_0 at f
  refine lv_aload_n S.1 S.2.1 dX1_init_0 rfl (lv_at hl 0 rfl) ?_
  refine o_objI S (List.mem_cons_of_mem _ wT_3_20) (List.mem_cons_of_mem _ wT_1_11) (List.mem_cons_of_mem _ wT_1_12) hl.1 dX1_init_1 (Nat.le_of_ble_eq_true rfl) (Nat.le_of_ble_eq_true rfl) ?_
  refine lv_aload_n S.1 S.2.1 dX1_init_4 rfl (lv_at hl 0 rfl) ?_
  refine lv_iconst (v := 5) S.1 S.2.1 dX1_init_5 (by decide) ?_
  obtain ⟨h1, e2, f⟩ := ob f
  refine o_newI S (List.mem_cons_of_mem _ wT_3_21) I hAn (N := 5) e2 (by decide) (by decide) (Nat.le_of_ble_eq_true rfl) (Nat.le_of_ble_eq_true rfl) (Nat.le_of_ble_eq_true rfl) dX1_init_6 (fun H I => ?_)
  obtain ⟨h3, e4, f⟩ := ob f
  refine o_pRF S hin2 lp1_init_9 (Or.inr ⟨_, rfl⟩) I e4 dX1_init_8 (fun H locs I => ?_)
  refine lv_aload_n S.1 S.2.1 dX1_init_11 rfl (lv_at hl 0 rfl) ?_
  refine lv_iconst (v := 5) S.1 S.2.1 dX1_init_12 (by decide) ?_
  obtain ⟨h5, e6, f⟩ := ob f
  refine o_newI S (List.mem_cons_of_mem _ wT_3_21) I hAn (N := 5) e6 (by decide) (by decide) (Nat.le_of_ble_eq_true rfl) (Nat.le_of_ble_eq_true rfl) (Nat.le_of_ble_eq_true rfl) dX1_init_13 (fun H I => ?_)
  obtain ⟨h7, e8, f⟩ := ob f
  refine o_pRF S hin2 lp1_init_15 (Or.inr ⟨_, rfl⟩) I e8 dX1_init_15 (fun H locs I => ?_)
  refine lv_aload_n S.1 S.2.1 dX1_init_18 rfl (lv_at hl 0 rfl) ?_
  refine lv_iconst (v := 5) S.1 S.2.1 dX1_init_19 (by decide) ?_
  obtain ⟨h9, e10, f⟩ := ob f
  refine o_newI S (List.mem_cons_of_mem _ wT_3_21) I hAn (N := 5) e10 (by decide) (by decide) (Nat.le_of_ble_eq_true rfl) (Nat.le_of_ble_eq_true rfl) (Nat.le_of_ble_eq_true rfl) dX1_init_20 (fun H I => ?_)
  obtain ⟨h11, e12, f⟩ := ob f
  refine o_pRF S hin2 lp1_init_18 (Or.inr ⟨_, rfl⟩) I e12 dX1_init_22 (fun H locs I => ?_)
  refine lv_aload_n S.1 S.2.1 dX1_init_25 rfl (lv_at hl 0 rfl) ?_
  refine lv_iconst (v := 5) S.1 S.2.1 dX1_init_26 (by decide) ?_
  obtain ⟨h13, e14, f⟩ := ob f
  refine o_newI S (List.mem_cons_of_mem _ wT_3_21) I hAn (N := 5) e14 (by decide) (by decide) (Nat.le_of_ble_eq_true rfl) (Nat.le_of_ble_eq_true rfl) (Nat.le_of_ble_eq_true rfl) dX1_init_27 (fun H I => ?_)
  obtain ⟨h15, e16, f⟩ := ob f
  refine o_pRF S hin2 lp1_init_21 (Or.inr ⟨_, rfl⟩) I e16 dX1_init_29 (fun H locs I => ?_)
  refine lv_aload_n S.1 S.2.1 dX1_init_32 rfl (lv_at hl 0 rfl) ?_
  refine lv_iconst (v := 5) S.1 S.2.1 dX1_init_33 (by decide) ?_
  obtain ⟨h17, e18, f⟩ := ob f
  refine o_newI S (List.mem_cons_of_mem _ wT_3_21) I hAn (N := 5) e18 (by decide) (by decide) (Nat.le_of_ble_eq_true rfl) (Nat.le_of_ble_eq_true rfl) (Nat.le_of_ble_eq_true rfl) dX1_init_34 (fun H I => ?_)
  obtain ⟨h19, e20, f⟩ := ob f
  refine o_pRF S hin2 lp1_init_24 (Or.inr ⟨_, rfl⟩) I e20 dX1_init_36 (fun H locs I => ?_)
  refine lv_aload_n S.1 S.2.1 dX1_init_39 rfl (lv_at hl 0 rfl) ?_
  refine lv_iconst (v := 5) S.1 S.2.1 dX1_init_40 (by decide) ?_
  obtain ⟨h21, e22, f⟩ := ob f
  refine o_newI S (List.mem_cons_of_mem _ wT_3_21) I hAn (N := 5) e22 (by decide) (by decide) (Nat.le_of_ble_eq_true rfl) (Nat.le_of_ble_eq_true rfl) (Nat.le_of_ble_eq_true rfl) dX1_init_41 (fun H I => ?_)
  obtain ⟨h23, e24, f⟩ := ob f
  refine o_pRF S hin2 lp1_init_27 (Or.inr ⟨_, rfl⟩) I e24 dX1_init_43 (fun H locs I => ?_)
  exact o_vret S hr hlo I f dX1_init_46
theorem M1_init (l : Launch) (D : va_G) (cy : Nat → ClassId) (b : Nat) (A : Nat → Prop) (hAn : ∀ q, b ≤ q → A q) {h : PH} {a0 : Nat} {out : PH} (f : F1_init h a0 = some out) : Met l yX1_init vX1_init ({ frames := 1, cells := 6, slots := 30, locals := 20 } : Room) (va_Pc [.ref (b + a0)] (ph_B D cy b A true h)) (va_Qv (fun (u : PH) => u = out) (ph_B D cy b A true) A) 6 30 A :=
  o_met (by decide) rfl (Nat.le_of_ble_eq_true rfl) rfl (fun p e s m below meth c S hr hlo hnm ls hl I => T1_init_0 S hr hlo hnm hAn ((gd f).2) I (lv_sub hl [0] rfl))
def vX2_init : List Cond := .code yX2_init cX2_init 1 none :: TB
theorem lp2_init_9 : PlF vX2_init RX2 9 2 0 (.array .int) := ⟨RX2, TX2, 3, tyX2, rfl, by decide, (fun w h9 => List.mem_cons_of_mem _ (wC_wsX20 w h9)), (List.mem_cons_of_mem _ wT_4_18), tyX2_ok, nmX2, rfl, rfl, rfl⟩
theorem cd2_init : Cd yX2_init 0 := ⟨by decide, by decide, by decide +kernel⟩
set_option maxHeartbeats 4000000 in
set_option maxRecDepth 100000 in
theorem T2_init_0 (S : CallFix p m c cX2_init 1 s args vX2_init RX2) (hr : meth.sig.returnType = none) (hlo : meth.locks = false) (hin2 : meth.name = "<init>") (hAn : ∀ q, b ≤ q → A q) {out : PH} {h : PH} {a0 : Nat} (f : F2_init_0  h a0 = some out) {H : Heap} {locs : List Loc} (I : ph_I D cy b A true h s H locs) {ls : Array Slot} (hl : lv_has ls 1 [(0, .ref (b + a0))]) : W p l e ({ frames := 1, cells := 1, slots := 64, locals := 20 } : Room) s m args below meth c H locs 0 0 (MQ below (va_Qv (fun (u : PH) => u = out) (ph_B D cy b A true) A) args s 1 64 A) (F0 m 0 ls []) := by
  unfold F2_init_0 at f
  refine lv_aload_n S.1 S.2.1 dX2_init_0 rfl (lv_at hl 0 rfl) ?_
  refine o_objI S (List.mem_cons_of_mem _ wT_4_17) (List.mem_cons_of_mem _ wT_1_11) (List.mem_cons_of_mem _ wT_1_12) hl.1 dX2_init_1 (Nat.le_of_ble_eq_true rfl) (Nat.le_of_ble_eq_true rfl) ?_
  refine lv_aload_n S.1 S.2.1 dX2_init_4 rfl (lv_at hl 0 rfl) ?_
  refine lv_bipush (v := 64) S.1 S.2.1 dX2_init_5 (by decide) ?_
  obtain ⟨h1, e2, f⟩ := ob f
  refine o_newI S (List.mem_cons_of_mem _ wT_3_21) I hAn (N := 64) e2 (by decide) (by decide) (Nat.le_of_ble_eq_true rfl) (Nat.le_of_ble_eq_true rfl) (Nat.le_of_ble_eq_true rfl) dX2_init_7 (fun H I => ?_)
  obtain ⟨h3, e4, f⟩ := ob f
  refine o_pRF S hin2 lp2_init_9 (Or.inr ⟨_, rfl⟩) I e4 dX2_init_9 (fun H locs I => ?_)
  exact o_vret S hr hlo I f dX2_init_12
theorem M2_init (l : Launch) (D : va_G) (cy : Nat → ClassId) (b : Nat) (A : Nat → Prop) (hAn : ∀ q, b ≤ q → A q) {h : PH} {a0 : Nat} {out : PH} (f : F2_init h a0 = some out) : Met l yX2_init vX2_init ({ frames := 1, cells := 1, slots := 64, locals := 20 } : Room) (va_Pc [.ref (b + a0)] (ph_B D cy b A true h)) (va_Qv (fun (u : PH) => u = out) (ph_B D cy b A true) A) 1 64 A :=
  o_met (by decide) rfl (Nat.le_of_ble_eq_true rfl) rfl (fun p e s m below meth c S hr hlo hnm ls hl I => T2_init_0 S hr hlo hnm hAn ((gd f).2) I (lv_sub hl [0] rfl))
def vX3_init : List Cond := .code yX3_init cX3_init 1 none :: TB
theorem lp3_init_9 : Pl vX3_init RX3 9 3 1 .int := ⟨RX3, TX3, 7, tyX3, rfl, by decide, (fun w h9 => List.mem_cons_of_mem _ (wC_wsX30 w h9)), (List.mem_cons_of_mem _ wT_8_14), tyX3_ok, nmX3, rfl, rfl⟩
theorem lp3_init_15 : PlF vX3_init RX3 15 3 2 (.array .int) := ⟨RX3, TX3, 7, tyX3, rfl, by decide, (fun w h9 => List.mem_cons_of_mem _ (wC_wsX30 w h9)), (List.mem_cons_of_mem _ wT_8_15), tyX3_ok, nmX3, rfl, rfl, rfl⟩
theorem lp3_init_19 : PlF vX3_init RX3 19 3 3 (.array .int) := ⟨RX3, TX3, 7, tyX3, rfl, by decide, (fun w h9 => List.mem_cons_of_mem _ (wC_wsX30 w h9)), (List.mem_cons_of_mem _ wT_8_16), tyX3_ok, nmX3, rfl, rfl, rfl⟩
theorem lp3_init_22 : PlF vX3_init RX3 22 3 4 (.array .int) := ⟨RX3, TX3, 7, tyX3, rfl, by decide, (fun w h9 => List.mem_cons_of_mem _ (wC_wsX30 w h9)), (List.mem_cons_of_mem _ wT_8_17), tyX3_ok, nmX3, rfl, rfl, rfl⟩
theorem lp3_init_25 : PlF vX3_init RX3 25 3 5 (.array .int) := ⟨RX3, TX3, 7, tyX3, rfl, by decide, (fun w h9 => List.mem_cons_of_mem _ (wC_wsX30 w h9)), (List.mem_cons_of_mem _ wT_8_18), tyX3_ok, nmX3, rfl, rfl, rfl⟩
theorem lp3_init_28 : PlF vX3_init RX3 28 3 6 (.array .boolean) := ⟨RX3, TX3, 7, tyX3, rfl, by decide, (fun w h9 => List.mem_cons_of_mem _ (wC_wsX30 w h9)), (List.mem_cons_of_mem _ wT_8_20), tyX3_ok, nmX3, rfl, rfl, rfl⟩
theorem cd3_init : Cd yX3_init 0 := ⟨by decide, by decide, by decide +kernel⟩
set_option maxHeartbeats 4000000 in
set_option maxRecDepth 100000 in
theorem T3_init_0 (S : CallFix p m c cX3_init 1 s args vX3_init RX3) (hr : meth.sig.returnType = none) (hlo : meth.locks = false) (hin2 : meth.name = "<init>") (hAn : ∀ q, b ≤ q → A q) {out : PH} {h : PH} {a0 : Nat} (f : F3_init_0  h a0 = some out) {H : Heap} {locs : List Loc} (I : ph_I D cy b A true h s H locs) {ls : Array Slot} (hl : lv_has ls 1 [(0, .ref (b + a0))]) : W p l e ({ frames := 1, cells := 5, slots := 120, locals := 20 } : Room) s m args below meth c H locs 0 0 (MQ below (va_Qv (fun (u : PH) => u = out) (ph_B D cy b A true) A) args s 5 120 A) (F0 m 0 ls []) := by
  unfold F3_init_0 at f
  refine lv_aload_n S.1 S.2.1 dX3_init_0 rfl (lv_at hl 0 rfl) ?_
  refine o_objI S (List.mem_cons_of_mem _ wT_8_13) (List.mem_cons_of_mem _ wT_1_11) (List.mem_cons_of_mem _ wT_1_12) hl.1 dX3_init_1 (Nat.le_of_ble_eq_true rfl) (Nat.le_of_ble_eq_true rfl) ?_
  refine lv_aload_n S.1 S.2.1 dX3_init_4 rfl (lv_at hl 0 rfl) ?_
  refine lv_iconst (v := (-1)) S.1 S.2.1 dX3_init_5 (by decide) ?_
  obtain ⟨h1, e2, f⟩ := ob f
  refine o_pI S lp3_init_9 I e2 dX3_init_6 (fun H locs I => ?_)
  refine lv_aload_n S.1 S.2.1 dX3_init_9 rfl (lv_at hl 0 rfl) ?_
  refine lv_bipush (v := 24) S.1 S.2.1 dX3_init_10 (by decide) ?_
  obtain ⟨h3, e4, f⟩ := ob f
  refine o_newI S (List.mem_cons_of_mem _ wT_3_21) I hAn (N := 24) e4 (by decide) (by decide) (Nat.le_of_ble_eq_true rfl) (Nat.le_of_ble_eq_true rfl) (Nat.le_of_ble_eq_true rfl) dX3_init_12 (fun H I => ?_)
  obtain ⟨h5, e6, f⟩ := ob f
  refine o_pRF S hin2 lp3_init_15 (Or.inr ⟨_, rfl⟩) I e6 dX3_init_14 (fun H locs I => ?_)
  refine lv_aload_n S.1 S.2.1 dX3_init_17 rfl (lv_at hl 0 rfl) ?_
  refine lv_bipush (v := 24) S.1 S.2.1 dX3_init_18 (by decide) ?_
  obtain ⟨h7, e8, f⟩ := ob f
  refine o_newI S (List.mem_cons_of_mem _ wT_3_21) I hAn (N := 24) e8 (by decide) (by decide) (Nat.le_of_ble_eq_true rfl) (Nat.le_of_ble_eq_true rfl) (Nat.le_of_ble_eq_true rfl) dX3_init_20 (fun H I => ?_)
  obtain ⟨h9, e10, f⟩ := ob f
  refine o_pRF S hin2 lp3_init_19 (Or.inr ⟨_, rfl⟩) I e10 dX3_init_22 (fun H locs I => ?_)
  refine lv_aload_n S.1 S.2.1 dX3_init_25 rfl (lv_at hl 0 rfl) ?_
  refine lv_bipush (v := 24) S.1 S.2.1 dX3_init_26 (by decide) ?_
  obtain ⟨h11, e12, f⟩ := ob f
  refine o_newI S (List.mem_cons_of_mem _ wT_3_21) I hAn (N := 24) e12 (by decide) (by decide) (Nat.le_of_ble_eq_true rfl) (Nat.le_of_ble_eq_true rfl) (Nat.le_of_ble_eq_true rfl) dX3_init_28 (fun H I => ?_)
  obtain ⟨h13, e14, f⟩ := ob f
  refine o_pRF S hin2 lp3_init_22 (Or.inr ⟨_, rfl⟩) I e14 dX3_init_30 (fun H locs I => ?_)
  refine lv_aload_n S.1 S.2.1 dX3_init_33 rfl (lv_at hl 0 rfl) ?_
  refine lv_bipush (v := 24) S.1 S.2.1 dX3_init_34 (by decide) ?_
  obtain ⟨h15, e16, f⟩ := ob f
  refine o_newI S (List.mem_cons_of_mem _ wT_3_21) I hAn (N := 24) e16 (by decide) (by decide) (Nat.le_of_ble_eq_true rfl) (Nat.le_of_ble_eq_true rfl) (Nat.le_of_ble_eq_true rfl) dX3_init_36 (fun H I => ?_)
  obtain ⟨h17, e18, f⟩ := ob f
  refine o_pRF S hin2 lp3_init_25 (Or.inr ⟨_, rfl⟩) I e18 dX3_init_38 (fun H locs I => ?_)
  refine lv_aload_n S.1 S.2.1 dX3_init_41 rfl (lv_at hl 0 rfl) ?_
  refine lv_bipush (v := 24) S.1 S.2.1 dX3_init_42 (by decide) ?_
  obtain ⟨h19, e20, f⟩ := ob f
  refine o_newZ S (List.mem_cons_of_mem _ wT_8_19) I hAn (N := 24) e20 (by decide) (by decide) (Nat.le_of_ble_eq_true rfl) (Nat.le_of_ble_eq_true rfl) (Nat.le_of_ble_eq_true rfl) dX3_init_44 (fun H I => ?_)
  obtain ⟨h21, e22, f⟩ := ob f
  refine o_pRF S hin2 lp3_init_28 (Or.inr ⟨_, rfl⟩) I e22 dX3_init_46 (fun H locs I => ?_)
  exact o_vret S hr hlo I f dX3_init_49
theorem M3_init (l : Launch) (D : va_G) (cy : Nat → ClassId) (b : Nat) (A : Nat → Prop) (hAn : ∀ q, b ≤ q → A q) {h : PH} {a0 : Nat} {out : PH} (f : F3_init h a0 = some out) : Met l yX3_init vX3_init ({ frames := 1, cells := 5, slots := 120, locals := 20 } : Room) (va_Pc [.ref (b + a0)] (ph_B D cy b A true h)) (va_Qv (fun (u : PH) => u = out) (ph_B D cy b A true) A) 5 120 A :=
  o_met (by decide) rfl (Nat.le_of_ble_eq_true rfl) rfl (fun p e s m below meth c S hr hlo hnm ls hl I => T3_init_0 S hr hlo hnm hAn ((gd f).2) I (lv_sub hl [0] rfl))
def vX4_init : List Cond := .code yX4_init cX4_init 1 none :: TB
theorem lp4_init_9 : PlF vX4_init RX4 9 4 5 (.array .int) := ⟨RX4, TX4, 11, tyX4, rfl, by decide, (fun w h9 => List.mem_cons_of_mem _ (wC_wsX40 w h9)), (List.mem_cons_of_mem _ wT_8_4), tyX4_ok, nmX4, rfl, rfl, rfl⟩
theorem lp4_init_15 : PlF vX4_init RX4 15 4 6 (.array .int) := ⟨RX4, TX4, 11, tyX4, rfl, by decide, (fun w h9 => List.mem_cons_of_mem _ (wC_wsX40 w h9)), (List.mem_cons_of_mem _ wT_8_5), tyX4_ok, nmX4, rfl, rfl, rfl⟩
theorem lp4_init_18 : PlF vX4_init RX4 18 4 7 (.array .int) := ⟨RX4, TX4, 11, tyX4, rfl, by decide, (fun w h9 => List.mem_cons_of_mem _ (wC_wsX40 w h9)), (List.mem_cons_of_mem _ wT_8_6), tyX4_ok, nmX4, rfl, rfl, rfl⟩
theorem lp4_init_21 : PlF vX4_init RX4 21 4 8 (.array .int) := ⟨RX4, TX4, 11, tyX4, rfl, by decide, (fun w h9 => List.mem_cons_of_mem _ (wC_wsX40 w h9)), (List.mem_cons_of_mem _ wT_8_7), tyX4_ok, nmX4, rfl, rfl, rfl⟩
theorem lp4_init_24 : PlF vX4_init RX4 24 4 9 (.array .int) := ⟨RX4, TX4, 11, tyX4, rfl, by decide, (fun w h9 => List.mem_cons_of_mem _ (wC_wsX40 w h9)), (List.mem_cons_of_mem _ wT_8_8), tyX4_ok, nmX4, rfl, rfl, rfl⟩
theorem lp4_init_27 : PlF vX4_init RX4 27 4 10 (.array .int) := ⟨RX4, TX4, 11, tyX4, rfl, by decide, (fun w h9 => List.mem_cons_of_mem _ (wC_wsX40 w h9)), (List.mem_cons_of_mem _ wT_8_9), tyX4_ok, nmX4, rfl, rfl, rfl⟩
theorem cd4_init : Cd yX4_init 0 := ⟨by decide, by decide, by decide +kernel⟩
set_option maxHeartbeats 4000000 in
set_option maxRecDepth 100000 in
theorem T4_init_0 (S : CallFix p m c cX4_init 1 s args vX4_init RX4) (hr : meth.sig.returnType = none) (hlo : meth.locks = false) (hin2 : meth.name = "<init>") (hAn : ∀ q, b ≤ q → A q) {out : PH} {h : PH} {a0 : Nat} (f : F4_init_0  h a0 = some out) {H : Heap} {locs : List Loc} (I : ph_I D cy b A true h s H locs) {ls : Array Slot} (hl : lv_has ls 1 [(0, .ref (b + a0))]) : W p l e ({ frames := 1, cells := 6, slots := 53, locals := 20 } : Room) s m args below meth c H locs 0 0 (MQ below (va_Qv (fun (u : PH) => u = out) (ph_B D cy b A true) A) args s 6 53 A) (F0 m 0 ls []) := by
  unfold F4_init_0 at f
  refine lv_aload_n S.1 S.2.1 dX4_init_0 rfl (lv_at hl 0 rfl) ?_
  refine o_objI S (List.mem_cons_of_mem _ wT_8_3) (List.mem_cons_of_mem _ wT_1_11) (List.mem_cons_of_mem _ wT_1_12) hl.1 dX4_init_1 (Nat.le_of_ble_eq_true rfl) (Nat.le_of_ble_eq_true rfl) ?_
  refine lv_aload_n S.1 S.2.1 dX4_init_4 rfl (lv_at hl 0 rfl) ?_
  refine lv_iconst (v := 5) S.1 S.2.1 dX4_init_5 (by decide) ?_
  obtain ⟨h1, e2, f⟩ := ob f
  refine o_newI S (List.mem_cons_of_mem _ wT_3_21) I hAn (N := 5) e2 (by decide) (by decide) (Nat.le_of_ble_eq_true rfl) (Nat.le_of_ble_eq_true rfl) (Nat.le_of_ble_eq_true rfl) dX4_init_6 (fun H I => ?_)
  obtain ⟨h3, e4, f⟩ := ob f
  refine o_pRF S hin2 lp4_init_9 (Or.inr ⟨_, rfl⟩) I e4 dX4_init_8 (fun H locs I => ?_)
  refine lv_aload_n S.1 S.2.1 dX4_init_11 rfl (lv_at hl 0 rfl) ?_
  refine lv_iconst (v := 5) S.1 S.2.1 dX4_init_12 (by decide) ?_
  obtain ⟨h5, e6, f⟩ := ob f
  refine o_newI S (List.mem_cons_of_mem _ wT_3_21) I hAn (N := 5) e6 (by decide) (by decide) (Nat.le_of_ble_eq_true rfl) (Nat.le_of_ble_eq_true rfl) (Nat.le_of_ble_eq_true rfl) dX4_init_13 (fun H I => ?_)
  obtain ⟨h7, e8, f⟩ := ob f
  refine o_pRF S hin2 lp4_init_15 (Or.inr ⟨_, rfl⟩) I e8 dX4_init_15 (fun H locs I => ?_)
  refine lv_aload_n S.1 S.2.1 dX4_init_18 rfl (lv_at hl 0 rfl) ?_
  refine lv_iconst (v := 5) S.1 S.2.1 dX4_init_19 (by decide) ?_
  obtain ⟨h9, e10, f⟩ := ob f
  refine o_newI S (List.mem_cons_of_mem _ wT_3_21) I hAn (N := 5) e10 (by decide) (by decide) (Nat.le_of_ble_eq_true rfl) (Nat.le_of_ble_eq_true rfl) (Nat.le_of_ble_eq_true rfl) dX4_init_20 (fun H I => ?_)
  obtain ⟨h11, e12, f⟩ := ob f
  refine o_pRF S hin2 lp4_init_18 (Or.inr ⟨_, rfl⟩) I e12 dX4_init_22 (fun H locs I => ?_)
  refine lv_aload_n S.1 S.2.1 dX4_init_25 rfl (lv_at hl 0 rfl) ?_
  refine lv_iconst (v := 5) S.1 S.2.1 dX4_init_26 (by decide) ?_
  obtain ⟨h13, e14, f⟩ := ob f
  refine o_newI S (List.mem_cons_of_mem _ wT_3_21) I hAn (N := 5) e14 (by decide) (by decide) (Nat.le_of_ble_eq_true rfl) (Nat.le_of_ble_eq_true rfl) (Nat.le_of_ble_eq_true rfl) dX4_init_27 (fun H I => ?_)
  obtain ⟨h15, e16, f⟩ := ob f
  refine o_pRF S hin2 lp4_init_21 (Or.inr ⟨_, rfl⟩) I e16 dX4_init_29 (fun H locs I => ?_)
  refine lv_aload_n S.1 S.2.1 dX4_init_32 rfl (lv_at hl 0 rfl) ?_
  refine lv_iconst (v := 5) S.1 S.2.1 dX4_init_33 (by decide) ?_
  obtain ⟨h17, e18, f⟩ := ob f
  refine o_newI S (List.mem_cons_of_mem _ wT_3_21) I hAn (N := 5) e18 (by decide) (by decide) (Nat.le_of_ble_eq_true rfl) (Nat.le_of_ble_eq_true rfl) (Nat.le_of_ble_eq_true rfl) dX4_init_34 (fun H I => ?_)
  obtain ⟨h19, e20, f⟩ := ob f
  refine o_pRF S hin2 lp4_init_24 (Or.inr ⟨_, rfl⟩) I e20 dX4_init_36 (fun H locs I => ?_)
  refine lv_aload_n S.1 S.2.1 dX4_init_39 rfl (lv_at hl 0 rfl) ?_
  refine lv_bipush (v := 28) S.1 S.2.1 dX4_init_40 (by decide) ?_
  obtain ⟨h21, e22, f⟩ := ob f
  refine o_newI S (List.mem_cons_of_mem _ wT_3_21) I hAn (N := 28) e22 (by decide) (by decide) (Nat.le_of_ble_eq_true rfl) (Nat.le_of_ble_eq_true rfl) (Nat.le_of_ble_eq_true rfl) dX4_init_42 (fun H I => ?_)
  obtain ⟨h23, e24, f⟩ := ob f
  refine o_pRF S hin2 lp4_init_27 (Or.inr ⟨_, rfl⟩) I e24 dX4_init_44 (fun H locs I => ?_)
  exact o_vret S hr hlo I f dX4_init_47
theorem M4_init (l : Launch) (D : va_G) (cy : Nat → ClassId) (b : Nat) (A : Nat → Prop) (hAn : ∀ q, b ≤ q → A q) {h : PH} {a0 : Nat} {out : PH} (f : F4_init h a0 = some out) : Met l yX4_init vX4_init ({ frames := 1, cells := 6, slots := 53, locals := 20 } : Room) (va_Pc [.ref (b + a0)] (ph_B D cy b A true h)) (va_Qv (fun (u : PH) => u = out) (ph_B D cy b A true) A) 6 53 A :=
  o_met (by decide) rfl (Nat.le_of_ble_eq_true rfl) rfl (fun p e s m below meth c S hr hlo hnm ls hl I => T4_init_0 S hr hlo hnm hAn ((gd f).2) I (lv_sub hl [0] rfl))
def vX7_init : List Cond := .code yX7_init cX7_init 4 none :: TB
theorem lf7_init_9 : Fl vX7_init RX7 9 7 0 := ⟨RX7, TX7, 7, rfl, by decide, (fun w h9 => List.mem_cons_of_mem _ (wC_wsX70 w h9)), (List.mem_cons_of_mem _ wT_5_10)⟩
theorem gX7_init_X7_isLetter : GoodIn vX7_init (va_wsS RX7 27 yX7_isLetter vX7_isLetter) := gS_of wT_7_5 wT_7_6 wT_5_2 wT_7_7
theorem gX7_init_X7_letterBits : GoodIn vX7_init (va_wsS RX7 31 yX7_letterBits vX7_letterBits) := gS_of wT_7_8 wT_7_9 wT_5_2 wT_7_10
theorem lp7_init_9 : PlF vX7_init RX7 9 7 0 (.array .int) := ⟨RX7, TX7, 7, tyX7, rfl, by decide, (fun w h9 => List.mem_cons_of_mem _ (wC_wsX70 w h9)), (List.mem_cons_of_mem _ wT_5_10), tyX7_ok, nmX7, rfl, rfl, rfl⟩
theorem lp7_init_15 : Pl vX7_init RX7 15 7 1 (.array .byte) := ⟨RX7, TX7, 7, tyX7, rfl, by decide, (fun w h9 => List.mem_cons_of_mem _ (wC_wsX70 w h9)), (List.mem_cons_of_mem _ wT_5_11), tyX7_ok, nmX7, rfl, rfl⟩
theorem cd7_init : Cd yX7_init 0 := ⟨by decide, by decide, by decide +kernel⟩
set_option maxHeartbeats 4000000 in
set_option maxRecDepth 100000 in
theorem T7_init_70 (S : CallFix p m c cX7_init 4 s args vX7_init RX7) (hr : meth.sig.returnType = none) (hlo : meth.locks = false) (hin2 : meth.name = "<init>") (hAn : ∀ q, b ≤ q → A q) {out : PH} {k21 : PH → Nat → Int32 → Option (PH)} (hk21 : ∀ {h : PH} {a0 : Nat} {x1 : Int32}, k21 h a0 x1 = some out → ∀ (H : Heap) (locs : List Loc), ph_I D cy b A true h s H locs → ∀ (ls : Array Slot), lv_has ls 4 [(0, .ref (b + a0)), (1, .int x1)] → W p l e ({ frames := 4, cells := 2, slots := 24, locals := 100 } : Room) s m args below meth c H locs 2 24 (MQ below (va_Qv (fun (u : PH) => u = out) (ph_B D cy b A true) A) args s 2 24 A) (F0 m 21 ls [])) {k29 : PH → Nat → Int32 → Int32 → Option (PH)} (hk29 : ∀ {h : PH} {a0 : Nat} {x1 : Int32} {x2 : Int32}, k29 h a0 x1 x2 = some out → ∀ (H : Heap) (locs : List Loc), ph_I D cy b A true h s H locs → ∀ (ls : Array Slot), lv_has ls 4 [(0, .ref (b + a0)), (1, .int x1), (2, .int x2)] → W p l e ({ frames := 4, cells := 2, slots := 24, locals := 100 } : Room) s m args below meth c H locs 2 24 (MQ below (va_Qv (fun (u : PH) => u = out) (ph_B D cy b A true) A) args s 2 24 A) (F0 m 29 ls [])) {h : PH} {a0 : Nat} {x1 : Int32} {x2 : Int32} {s0 : Int32} {s1 : Int32} {s2 : Int32} {u3 : Nat} (f : F7_init_70 k21 k29 h a0 x1 x2 s0 s1 s2 u3 = some out) {H : Heap} {locs : List Loc} (I : ph_I D cy b A true h s H locs) {ls : Array Slot} (hl : lv_has ls 4 [(0, .ref (b + a0)), (1, .int x1), (2, .int x2)]) : W p l e ({ frames := 4, cells := 2, slots := 24, locals := 100 } : Room) s m args below meth c H locs 2 24 (MQ below (va_Qv (fun (u : PH) => u = out) (ph_B D cy b A true) A) args s 2 24 A) (F0 m 70 ls [.int s0, .int s1, .int s2, .ref (b + u3)]) := by
  unfold F7_init_70 at f
  refine lv_ior S.1 S.2.1 dX7_init_70 ?_
  obtain ⟨h2, e1, f⟩ := ob f
  refine o_iast S I e1 dX7_init_71 (fun H locs I => ?_)
  refine lv_iinc (v := (x2 + 1)) (lv' := [(2, .int (x2 + 1)), (0, .ref (b + a0)), (1, .int x1)]) S.1 S.2.1 dX7_init_72 hl (k := 2) rfl (congrArg (fun z => x2 + z) (by decide)) (by decide) rfl (fun ls hl => ?_)
  refine lv_goto (tgt := 29) S.1 S.2.1 dX7_init_75 (by decide) ?_
  exact hk29 f _ _ I _ (lv_sub hl [1, 2, 0] rfl)
set_option maxHeartbeats 4000000 in
set_option maxRecDepth 100000 in
theorem T7_init_29 (S : CallFix p m c cX7_init 4 s args vX7_init RX7) (hr : meth.sig.returnType = none) (hlo : meth.locks = false) (hin2 : meth.name = "<init>") (hAn : ∀ q, b ≤ q → A q) {out : PH} {k21 : PH → Nat → Int32 → Option (PH)} (hk21 : ∀ {h : PH} {a0 : Nat} {x1 : Int32}, k21 h a0 x1 = some out → ∀ (H : Heap) (locs : List Loc), ph_I D cy b A true h s H locs → ∀ (ls : Array Slot), lv_has ls 4 [(0, .ref (b + a0)), (1, .int x1)] → W p l e ({ frames := 4, cells := 2, slots := 24, locals := 100 } : Room) s m args below meth c H locs 2 24 (MQ below (va_Qv (fun (u : PH) => u = out) (ph_B D cy b A true) A) args s 2 24 A) (F0 m 21 ls [])) : ∀ (n : Nat) {h : PH} {a0 : Nat} {x1 : Int32} {x2 : Int32} (f : F7_init_29 k21 n h a0 x1 x2 = some out) {H : Heap} {locs : List Loc} (I : ph_I D cy b A true h s H locs) {ls : Array Slot} (hl : lv_has ls 4 [(0, .ref (b + a0)), (1, .int x1), (2, .int x2)]), W p l e ({ frames := 4, cells := 2, slots := 24, locals := 100 } : Room) s m args below meth c H locs 2 24 (MQ below (va_Qv (fun (u : PH) => u = out) (ph_B D cy b A true) A) args s 2 24 A) (F0 m 29 ls []) := by
  intro n
  induction n with
  | zero => intro h a0 x1 x2 f; rw [F7_init_29] at f; cases f
  | succ n ih =>
    intro h a0 x1 x2 f H locs I ls hl
    rw [F7_init_29] at f
    refine lv_iload_n S.1 S.2.1 dX7_init_29 rfl (lv_at hl 2 rfl) ?_
    refine lv_bipush (v := 6) S.1 S.2.1 dX7_init_30 (by decide) ?_
    refine lv_icmp_ge (tgt := 78) S.1 S.2.1 dX7_init_32 (by decide) (fun q1 => ?_) (fun q1 => ?_)
    · have f := (if_pos q1).symm.trans f
      refine lv_iinc (v := (x1 + 1)) (lv' := [(1, .int (x1 + 1)), (0, .ref (b + a0)), (2, .int x2)]) S.1 S.2.1 dX7_init_78 hl (k := 1) rfl (congrArg (fun z => x1 + z) (by decide)) (by decide) rfl (fun ls hl => ?_)
      refine lv_goto (tgt := 21) S.1 S.2.1 dX7_init_81 (by decide) ?_
      exact hk21 f _ _ I _ (lv_sub hl [1, 0] rfl)
    · have f := (if_neg q1).symm.trans f
      refine o_ldcL S I dX7_init_35 ?_
      refine lv_iload_n S.1 S.2.1 dX7_init_37 rfl (lv_at hl 1 rfl) ?_
      refine lv_bipush (v := 6) S.1 S.2.1 dX7_init_38 (by decide) ?_
      refine lv_imul S.1 S.2.1 dX7_init_40 ?_
      refine lv_iload_n S.1 S.2.1 dX7_init_41 rfl (lv_at hl 2 rfl) ?_
      refine lv_iadd S.1 S.2.1 dX7_init_42 ?_
      obtain ⟨v2, e3, f⟩ := ob f
      refine o_chA S I e3 hl.1 ⟨Nat.le_of_ble_eq_true rfl, Nat.le_of_ble_eq_true rfl⟩ (Nat.le_of_ble_eq_true rfl) ⟨Nat.le_of_ble_eq_true rfl, Nat.le_of_ble_eq_true rfl⟩ dX7_init_43 (fun H locs I => ?_)
      refine lv_istore_n (lv' := [(3, .int v2), (0, .ref (b + a0)), (1, .int x1), (2, .int x2)]) S.1 S.2.1 dX7_init_46 rfl hl (by decide) rfl (fun ls hl => ?_)
      refine lv_aload_n S.1 S.2.1 dX7_init_47 rfl (lv_at hl 1 rfl) ?_
      obtain ⟨r4, e5, f⟩ := ob f
      refine o_gR S lf7_init_9 I e5 dX7_init_48 ?_
      refine lv_iload_n S.1 S.2.1 dX7_init_51 rfl (lv_at hl 2 rfl) ?_
      refine lv_dup2_11 S.1 S.2.1 dX7_init_52 rfl rfl ?_
      obtain ⟨v7, e6, f⟩ := ob f
      refine o_iald S I e6 dX7_init_53 ?_
      refine lv_iload_n S.1 S.2.1 dX7_init_54 rfl (lv_at hl 0 rfl) ?_
      obtain ⟨o8, e9, f⟩ := ob f
      refine o_Si S (As := [.int v2]) (rest := [.int v7, .int x1, .ref (b + r4)]) (M7_isLetter l D cy b A true e9) gX7_init_X7_isLetter rfl rfl rfl cd7_isLetter ⟨Nat.le_of_ble_eq_true rfl, Nat.le_of_ble_eq_true rfl⟩ I rfl hl.1 rfl (Nat.le_of_ble_eq_true rfl) dX7_init_55 ⟨Nat.le_of_ble_eq_true rfl, Nat.le_of_ble_eq_true rfl⟩ (fun H locs I => ?_)
      refine lv_if_eq (tgt := 69) S.1 S.2.1 dX7_init_58 (by decide) (fun q10 => ?_) (fun q10 => ?_)
      · have f := (if_pos q10).symm.trans f
        refine lv_iconst (v := 0) S.1 S.2.1 dX7_init_69 (by decide) ?_
        exact T7_init_70 S hr hlo hin2 hAn (fun f _ _ I _ hl => hk21 f _ _ I _ hl) (fun f _ _ I _ hl => ih f I hl) f I (lv_sub hl [1, 2, 3] rfl)
      · have f := (if_neg q10).symm.trans f
        refine lv_iload_n S.1 S.2.1 dX7_init_61 rfl (lv_at hl 0 rfl) ?_
        refine lv_iload_n S.1 S.2.1 dX7_init_62 rfl (lv_at hl 3 rfl) ?_
        obtain ⟨o11, e12, f⟩ := ob f
        refine o_Si S (As := [.int v2, .int x2]) (rest := [.int v7, .int x1, .ref (b + r4)]) (M7_letterBits l D cy b A true e12) gX7_init_X7_letterBits rfl rfl rfl cd7_letterBits ⟨Nat.le_of_ble_eq_true rfl, Nat.le_of_ble_eq_true rfl⟩ I rfl hl.1 rfl (Nat.le_of_ble_eq_true rfl) dX7_init_63 ⟨Nat.le_of_ble_eq_true rfl, Nat.le_of_ble_eq_true rfl⟩ (fun H locs I => ?_)
        refine lv_goto (tgt := 70) S.1 S.2.1 dX7_init_66 (by decide) ?_
        exact T7_init_70 S hr hlo hin2 hAn (fun f _ _ I _ hl => hk21 f _ _ I _ hl) (fun f _ _ I _ hl => ih f I hl) f I (lv_sub hl [1, 2, 3] rfl)
set_option maxHeartbeats 4000000 in
set_option maxRecDepth 100000 in
theorem T7_init_21 (S : CallFix p m c cX7_init 4 s args vX7_init RX7) (hr : meth.sig.returnType = none) (hlo : meth.locks = false) (hin2 : meth.name = "<init>") (hAn : ∀ q, b ≤ q → A q) {out : PH} : ∀ (n : Nat) {h : PH} {a0 : Nat} {x1 : Int32} (f : F7_init_21  n h a0 x1 = some out) {H : Heap} {locs : List Loc} (I : ph_I D cy b A true h s H locs) {ls : Array Slot} (hl : lv_has ls 4 [(0, .ref (b + a0)), (1, .int x1)]), W p l e ({ frames := 4, cells := 2, slots := 24, locals := 100 } : Room) s m args below meth c H locs 2 24 (MQ below (va_Qv (fun (u : PH) => u = out) (ph_B D cy b A true) A) args s 2 24 A) (F0 m 21 ls []) := by
  intro n
  induction n with
  | zero => intro h a0 x1 f; rw [F7_init_21] at f; cases f
  | succ n ih =>
    intro h a0 x1 f H locs I ls hl
    rw [F7_init_21] at f
    refine lv_iload_n S.1 S.2.1 dX7_init_21 rfl (lv_at hl 1 rfl) ?_
    refine lv_bipush (v := 24) S.1 S.2.1 dX7_init_22 (by decide) ?_
    refine lv_icmp_ge (tgt := 84) S.1 S.2.1 dX7_init_24 (by decide) (fun q1 => ?_) (fun q1 => ?_)
    · have f := (if_pos q1).symm.trans f
      exact o_vret S hr hlo I f dX7_init_84
    · have f := (if_neg q1).symm.trans f
      refine lv_iconst (v := 0) S.1 S.2.1 dX7_init_27 (by decide) ?_
      refine lv_istore_n (lv' := [(2, .int 0), (0, .ref (b + a0)), (1, .int x1)]) S.1 S.2.1 dX7_init_28 rfl hl (by decide) rfl (fun ls hl => ?_)
      exact T7_init_29 S hr hlo hin2 hAn (fun f _ _ I _ hl => ih f I hl) 1024 f I (lv_sub hl [1, 2, 0] rfl)
set_option maxHeartbeats 4000000 in
set_option maxRecDepth 100000 in
theorem T7_init_0 (S : CallFix p m c cX7_init 4 s args vX7_init RX7) (hr : meth.sig.returnType = none) (hlo : meth.locks = false) (hin2 : meth.name = "<init>") (hAn : ∀ q, b ≤ q → A q) {out : PH} {h : PH} {a0 : Nat} (f : F7_init_0  h a0 = some out) {H : Heap} {locs : List Loc} (I : ph_I D cy b A true h s H locs) {ls : Array Slot} (hl : lv_has ls 4 [(0, .ref (b + a0))]) : W p l e ({ frames := 4, cells := 2, slots := 24, locals := 100 } : Room) s m args below meth c H locs 0 0 (MQ below (va_Qv (fun (u : PH) => u = out) (ph_B D cy b A true) A) args s 2 24 A) (F0 m 0 ls []) := by
  unfold F7_init_0 at f
  refine lv_aload_n S.1 S.2.1 dX7_init_0 rfl (lv_at hl 0 rfl) ?_
  refine o_objI S (List.mem_cons_of_mem _ wT_5_9) (List.mem_cons_of_mem _ wT_1_11) (List.mem_cons_of_mem _ wT_1_12) hl.1 dX7_init_1 (Nat.le_of_ble_eq_true rfl) (Nat.le_of_ble_eq_true rfl) ?_
  refine lv_aload_n S.1 S.2.1 dX7_init_4 rfl (lv_at hl 0 rfl) ?_
  refine lv_bipush (v := 24) S.1 S.2.1 dX7_init_5 (by decide) ?_
  obtain ⟨h1, e2, f⟩ := ob f
  refine o_newI S (List.mem_cons_of_mem _ wT_3_21) I hAn (N := 24) e2 (by decide) (by decide) (Nat.le_of_ble_eq_true rfl) (Nat.le_of_ble_eq_true rfl) (Nat.le_of_ble_eq_true rfl) dX7_init_7 (fun H I => ?_)
  obtain ⟨h3, e4, f⟩ := ob f
  refine o_pRF S hin2 lp7_init_9 (Or.inr ⟨_, rfl⟩) I e4 dX7_init_9 (fun H locs I => ?_)
  refine lv_aload_n S.1 S.2.1 dX7_init_12 rfl (lv_at hl 0 rfl) ?_
  refine lv_iconst (v := 0) S.1 S.2.1 dX7_init_13 (by decide) ?_
  obtain ⟨h5, e6, f⟩ := ob f
  refine o_newB S (List.mem_cons_of_mem _ wT_1_13) I hAn (N := 0) e6 (by decide) (by decide) (Nat.le_of_ble_eq_true rfl) (Nat.le_of_ble_eq_true rfl) (Nat.le_of_ble_eq_true rfl) dX7_init_14 (fun H I => ?_)
  obtain ⟨h7, e8, f⟩ := ob f
  refine o_pR S lp7_init_15 (Or.inr ⟨_, rfl⟩) I e8 dX7_init_16 (fun H locs I => ?_)
  refine lv_iconst (v := 0) S.1 S.2.1 dX7_init_19 (by decide) ?_
  refine lv_istore_n (lv' := [(1, .int 0), (0, .ref (b + a0))]) S.1 S.2.1 dX7_init_20 rfl hl (by decide) rfl (fun ls hl => ?_)
  exact T7_init_21 S hr hlo hin2 hAn  1024 f I (lv_sub hl [1, 0] rfl)
theorem M7_init (l : Launch) (D : va_G) (cy : Nat → ClassId) (b : Nat) (A : Nat → Prop) (hAn : ∀ q, b ≤ q → A q) {h : PH} {a0 : Nat} {out : PH} (f : F7_init h a0 = some out) : Met l yX7_init vX7_init ({ frames := 4, cells := 2, slots := 24, locals := 100 } : Room) (va_Pc [.ref (b + a0)] (ph_B D cy b A true h)) (va_Qv (fun (u : PH) => u = out) (ph_B D cy b A true) A) 2 24 A :=
  o_met (by decide) rfl (Nat.le_of_ble_eq_true rfl) rfl (fun p e s m below meth c S hr hlo hnm ls hl I => T7_init_0 S hr hlo hnm hAn ((gd f).2) I (lv_sub hl [0] rfl))
def vX9_init : List Cond := .code yX9_init cX9_init 1 none :: TB
theorem lp9_init_9 : PlF vX9_init RX9 9 9 1 (.array .int) := ⟨RX9, TX9, 3, tyX9, rfl, by decide, (fun w h9 => List.mem_cons_of_mem _ (wC_wsX90 w h9)), (List.mem_cons_of_mem _ wT_9_1), tyX9_ok, nmX9, rfl, rfl, rfl⟩
theorem lp9_init_15 : PlF vX9_init RX9 15 9 2 (.array .int) := ⟨RX9, TX9, 3, tyX9, rfl, by decide, (fun w h9 => List.mem_cons_of_mem _ (wC_wsX90 w h9)), (List.mem_cons_of_mem _ wT_9_2), tyX9_ok, nmX9, rfl, rfl, rfl⟩
theorem cd9_init : Cd yX9_init 0 := ⟨by decide, by decide, by decide +kernel⟩
set_option maxHeartbeats 4000000 in
set_option maxRecDepth 100000 in
theorem T9_init_0 (S : CallFix p m c cX9_init 1 s args vX9_init RX9) (hr : meth.sig.returnType = none) (hlo : meth.locks = false) (hin2 : meth.name = "<init>") (hAn : ∀ q, b ≤ q → A q) {out : PH} {h : PH} {a0 : Nat} (f : F9_init_0  h a0 = some out) {H : Heap} {locs : List Loc} (I : ph_I D cy b A true h s H locs) {ls : Array Slot} (hl : lv_has ls 1 [(0, .ref (b + a0))]) : W p l e ({ frames := 1, cells := 2, slots := 40, locals := 20 } : Room) s m args below meth c H locs 0 0 (MQ below (va_Qv (fun (u : PH) => u = out) (ph_B D cy b A true) A) args s 2 40 A) (F0 m 0 ls []) := by
  unfold F9_init_0 at f
  refine lv_aload_n S.1 S.2.1 dX9_init_0 rfl (lv_at hl 0 rfl) ?_
  refine o_objI S (List.mem_cons_of_mem _ wT_9_0) (List.mem_cons_of_mem _ wT_1_11) (List.mem_cons_of_mem _ wT_1_12) hl.1 dX9_init_1 (Nat.le_of_ble_eq_true rfl) (Nat.le_of_ble_eq_true rfl) ?_
  refine lv_aload_n S.1 S.2.1 dX9_init_4 rfl (lv_at hl 0 rfl) ?_
  refine lv_bipush (v := 20) S.1 S.2.1 dX9_init_5 (by decide) ?_
  obtain ⟨h1, e2, f⟩ := ob f
  refine o_newI S (List.mem_cons_of_mem _ wT_3_21) I hAn (N := 20) e2 (by decide) (by decide) (Nat.le_of_ble_eq_true rfl) (Nat.le_of_ble_eq_true rfl) (Nat.le_of_ble_eq_true rfl) dX9_init_7 (fun H I => ?_)
  obtain ⟨h3, e4, f⟩ := ob f
  refine o_pRF S hin2 lp9_init_9 (Or.inr ⟨_, rfl⟩) I e4 dX9_init_9 (fun H locs I => ?_)
  refine lv_aload_n S.1 S.2.1 dX9_init_12 rfl (lv_at hl 0 rfl) ?_
  refine lv_bipush (v := 20) S.1 S.2.1 dX9_init_13 (by decide) ?_
  obtain ⟨h5, e6, f⟩ := ob f
  refine o_newI S (List.mem_cons_of_mem _ wT_3_21) I hAn (N := 20) e6 (by decide) (by decide) (Nat.le_of_ble_eq_true rfl) (Nat.le_of_ble_eq_true rfl) (Nat.le_of_ble_eq_true rfl) dX9_init_15 (fun H I => ?_)
  obtain ⟨h7, e8, f⟩ := ob f
  refine o_pRF S hin2 lp9_init_15 (Or.inr ⟨_, rfl⟩) I e8 dX9_init_17 (fun H locs I => ?_)
  exact o_vret S hr hlo I f dX9_init_20
theorem M9_init (l : Launch) (D : va_G) (cy : Nat → ClassId) (b : Nat) (A : Nat → Prop) (hAn : ∀ q, b ≤ q → A q) {h : PH} {a0 : Nat} {out : PH} (f : F9_init h a0 = some out) : Met l yX9_init vX9_init ({ frames := 1, cells := 2, slots := 40, locals := 20 } : Room) (va_Pc [.ref (b + a0)] (ph_B D cy b A true h)) (va_Qv (fun (u : PH) => u = out) (ph_B D cy b A true) A) 2 40 A :=
  o_met (by decide) rfl (Nat.le_of_ble_eq_true rfl) rfl (fun p e s m below meth c S hr hlo hnm ls hl I => T9_init_0 S hr hlo hnm hAn ((gd f).2) I (lv_sub hl [0] rfl))
def vX10_init : List Cond := .code yX10_init cX10_init 1 none :: TB
theorem lp10_init_9 : PlF vX10_init RX10 9 10 2 (.array .int) := ⟨RX10, TX10, 8, tyX10, rfl, by decide, (fun w h9 => List.mem_cons_of_mem _ (wC_wsX100 w h9)), (List.mem_cons_of_mem _ wT_4_8), tyX10_ok, nmX10, rfl, rfl, rfl⟩
theorem lp10_init_15 : PlF vX10_init RX10 15 10 3 (.array .int) := ⟨RX10, TX10, 8, tyX10, rfl, by decide, (fun w h9 => List.mem_cons_of_mem _ (wC_wsX100 w h9)), (List.mem_cons_of_mem _ wT_4_9), tyX10_ok, nmX10, rfl, rfl, rfl⟩
theorem lp10_init_18 : PlF vX10_init RX10 18 10 4 (.array .int) := ⟨RX10, TX10, 8, tyX10, rfl, by decide, (fun w h9 => List.mem_cons_of_mem _ (wC_wsX100 w h9)), (List.mem_cons_of_mem _ wT_4_10), tyX10_ok, nmX10, rfl, rfl, rfl⟩
theorem lp10_init_21 : PlF vX10_init RX10 21 10 5 (.array .int) := ⟨RX10, TX10, 8, tyX10, rfl, by decide, (fun w h9 => List.mem_cons_of_mem _ (wC_wsX100 w h9)), (List.mem_cons_of_mem _ wT_4_11), tyX10_ok, nmX10, rfl, rfl, rfl⟩
theorem lp10_init_24 : PlF vX10_init RX10 24 10 6 (.array .int) := ⟨RX10, TX10, 8, tyX10, rfl, by decide, (fun w h9 => List.mem_cons_of_mem _ (wC_wsX100 w h9)), (List.mem_cons_of_mem _ wT_4_12), tyX10_ok, nmX10, rfl, rfl, rfl⟩
theorem lp10_init_27 : PlF vX10_init RX10 27 10 7 (.array .int) := ⟨RX10, TX10, 8, tyX10, rfl, by decide, (fun w h9 => List.mem_cons_of_mem _ (wC_wsX100 w h9)), (List.mem_cons_of_mem _ wT_4_13), tyX10_ok, nmX10, rfl, rfl, rfl⟩
theorem cd10_init : Cd yX10_init 0 := ⟨by decide, by decide, by decide +kernel⟩
set_option maxHeartbeats 4000000 in
set_option maxRecDepth 100000 in
theorem T10_init_0 (S : CallFix p m c cX10_init 1 s args vX10_init RX10) (hr : meth.sig.returnType = none) (hlo : meth.locks = false) (hin2 : meth.name = "<init>") (hAn : ∀ q, b ≤ q → A q) {out : PH} {h : PH} {a0 : Nat} (f : F10_init_0  h a0 = some out) {H : Heap} {locs : List Loc} (I : ph_I D cy b A true h s H locs) {ls : Array Slot} (hl : lv_has ls 1 [(0, .ref (b + a0))]) : W p l e ({ frames := 1, cells := 6, slots := 120, locals := 20 } : Room) s m args below meth c H locs 0 0 (MQ below (va_Qv (fun (u : PH) => u = out) (ph_B D cy b A true) A) args s 6 120 A) (F0 m 0 ls []) := by
  unfold F10_init_0 at f
  refine lv_aload_n S.1 S.2.1 dX10_init_0 rfl (lv_at hl 0 rfl) ?_
  refine o_objI S (List.mem_cons_of_mem _ wT_4_7) (List.mem_cons_of_mem _ wT_1_11) (List.mem_cons_of_mem _ wT_1_12) hl.1 dX10_init_1 (Nat.le_of_ble_eq_true rfl) (Nat.le_of_ble_eq_true rfl) ?_
  refine lv_aload_n S.1 S.2.1 dX10_init_4 rfl (lv_at hl 0 rfl) ?_
  refine lv_iconst (v := 4) S.1 S.2.1 dX10_init_5 (by decide) ?_
  obtain ⟨h1, e2, f⟩ := ob f
  refine o_newI S (List.mem_cons_of_mem _ wT_3_21) I hAn (N := 4) e2 (by decide) (by decide) (Nat.le_of_ble_eq_true rfl) (Nat.le_of_ble_eq_true rfl) (Nat.le_of_ble_eq_true rfl) dX10_init_6 (fun H I => ?_)
  obtain ⟨h3, e4, f⟩ := ob f
  refine o_pRF S hin2 lp10_init_9 (Or.inr ⟨_, rfl⟩) I e4 dX10_init_8 (fun H locs I => ?_)
  refine lv_aload_n S.1 S.2.1 dX10_init_11 rfl (lv_at hl 0 rfl) ?_
  refine lv_iconst (v := 4) S.1 S.2.1 dX10_init_12 (by decide) ?_
  obtain ⟨h5, e6, f⟩ := ob f
  refine o_newI S (List.mem_cons_of_mem _ wT_3_21) I hAn (N := 4) e6 (by decide) (by decide) (Nat.le_of_ble_eq_true rfl) (Nat.le_of_ble_eq_true rfl) (Nat.le_of_ble_eq_true rfl) dX10_init_13 (fun H I => ?_)
  obtain ⟨h7, e8, f⟩ := ob f
  refine o_pRF S hin2 lp10_init_15 (Or.inr ⟨_, rfl⟩) I e8 dX10_init_15 (fun H locs I => ?_)
  refine lv_aload_n S.1 S.2.1 dX10_init_18 rfl (lv_at hl 0 rfl) ?_
  refine lv_bipush (v := 28) S.1 S.2.1 dX10_init_19 (by decide) ?_
  obtain ⟨h9, e10, f⟩ := ob f
  refine o_newI S (List.mem_cons_of_mem _ wT_3_21) I hAn (N := 28) e10 (by decide) (by decide) (Nat.le_of_ble_eq_true rfl) (Nat.le_of_ble_eq_true rfl) (Nat.le_of_ble_eq_true rfl) dX10_init_21 (fun H I => ?_)
  obtain ⟨h11, e12, f⟩ := ob f
  refine o_pRF S hin2 lp10_init_18 (Or.inr ⟨_, rfl⟩) I e12 dX10_init_23 (fun H locs I => ?_)
  refine lv_aload_n S.1 S.2.1 dX10_init_26 rfl (lv_at hl 0 rfl) ?_
  refine lv_bipush (v := 28) S.1 S.2.1 dX10_init_27 (by decide) ?_
  obtain ⟨h13, e14, f⟩ := ob f
  refine o_newI S (List.mem_cons_of_mem _ wT_3_21) I hAn (N := 28) e14 (by decide) (by decide) (Nat.le_of_ble_eq_true rfl) (Nat.le_of_ble_eq_true rfl) (Nat.le_of_ble_eq_true rfl) dX10_init_29 (fun H I => ?_)
  obtain ⟨h15, e16, f⟩ := ob f
  refine o_pRF S hin2 lp10_init_21 (Or.inr ⟨_, rfl⟩) I e16 dX10_init_31 (fun H locs I => ?_)
  refine lv_aload_n S.1 S.2.1 dX10_init_34 rfl (lv_at hl 0 rfl) ?_
  refine lv_bipush (v := 28) S.1 S.2.1 dX10_init_35 (by decide) ?_
  obtain ⟨h17, e18, f⟩ := ob f
  refine o_newI S (List.mem_cons_of_mem _ wT_3_21) I hAn (N := 28) e18 (by decide) (by decide) (Nat.le_of_ble_eq_true rfl) (Nat.le_of_ble_eq_true rfl) (Nat.le_of_ble_eq_true rfl) dX10_init_37 (fun H I => ?_)
  obtain ⟨h19, e20, f⟩ := ob f
  refine o_pRF S hin2 lp10_init_24 (Or.inr ⟨_, rfl⟩) I e20 dX10_init_39 (fun H locs I => ?_)
  refine lv_aload_n S.1 S.2.1 dX10_init_42 rfl (lv_at hl 0 rfl) ?_
  refine lv_bipush (v := 28) S.1 S.2.1 dX10_init_43 (by decide) ?_
  obtain ⟨h21, e22, f⟩ := ob f
  refine o_newI S (List.mem_cons_of_mem _ wT_3_21) I hAn (N := 28) e22 (by decide) (by decide) (Nat.le_of_ble_eq_true rfl) (Nat.le_of_ble_eq_true rfl) (Nat.le_of_ble_eq_true rfl) dX10_init_45 (fun H I => ?_)
  obtain ⟨h23, e24, f⟩ := ob f
  refine o_pRF S hin2 lp10_init_27 (Or.inr ⟨_, rfl⟩) I e24 dX10_init_47 (fun H locs I => ?_)
  exact o_vret S hr hlo I f dX10_init_50
theorem M10_init (l : Launch) (D : va_G) (cy : Nat → ClassId) (b : Nat) (A : Nat → Prop) (hAn : ∀ q, b ≤ q → A q) {h : PH} {a0 : Nat} {out : PH} (f : F10_init h a0 = some out) : Met l yX10_init vX10_init ({ frames := 1, cells := 6, slots := 120, locals := 20 } : Room) (va_Pc [.ref (b + a0)] (ph_B D cy b A true h)) (va_Qv (fun (u : PH) => u = out) (ph_B D cy b A true) A) 6 120 A :=
  o_met (by decide) rfl (Nat.le_of_ble_eq_true rfl) rfl (fun p e s m below meth c S hr hlo hnm ls hl I => T10_init_0 S hr hlo hnm hAn ((gd f).2) I (lv_sub hl [0] rfl))
def vX8_init : List Cond := .code yX8_init cX8_init 2 none :: TB
theorem ln8_init_9 : Nl vX8_init RX8 9 1 7 zF1 := ⟨RX1, TX1, tyX1, rfl, (fun w h9 => List.mem_cons_of_mem _ (wC_wsX10 w h9)), tyX1_ok, (List.mem_cons_of_mem _ wT_3_3), (List.mem_cons_of_mem _ wT_3_4), (List.mem_cons_of_mem _ wT_3_5), zF1_ok⟩
theorem gX8_init_X1_init : GoodIn vX8_init vX1_init := gI_of wT_3_19
theorem lp8_init_12 : PlF vX8_init RX8 12 8 4 (.object "WhoseWave$Crowd") := ⟨RX8, TX8, 14, tyX8, rfl, by decide, (fun w h9 => List.mem_cons_of_mem _ (wC_wsX80 w h9)), (List.mem_cons_of_mem _ wT_3_6), tyX8_ok, nmX8, rfl, rfl, rfl⟩
theorem ln8_init_18 : Nl vX8_init RX8 18 10 8 zF10 := ⟨RX10, TX10, tyX10, rfl, (fun w h9 => List.mem_cons_of_mem _ (wC_wsX100 w h9)), tyX10_ok, (List.mem_cons_of_mem _ wT_3_7), (List.mem_cons_of_mem _ wT_3_8), (List.mem_cons_of_mem _ wT_3_9), zF10_ok⟩
theorem gX8_init_X10_init : GoodIn vX8_init vX10_init := gI_of wT_4_6
theorem lp8_init_21 : PlF vX8_init RX8 21 8 5 (.object "WhoseWave$Waves") := ⟨RX8, TX8, 14, tyX8, rfl, by decide, (fun w h9 => List.mem_cons_of_mem _ (wC_wsX80 w h9)), (List.mem_cons_of_mem _ wT_3_10), tyX8_ok, nmX8, rfl, rfl, rfl⟩
theorem lp8_init_27 : PlF vX8_init RX8 27 8 11 (.array (.object "WhoseWave$Law")) := ⟨RX8, TX8, 14, tyX8, rfl, by decide, (fun w h9 => List.mem_cons_of_mem _ (wC_wsX80 w h9)), (List.mem_cons_of_mem _ wT_3_12), tyX8_ok, nmX8, rfl, rfl, rfl⟩
theorem lf8_init_27 : Fl vX8_init RX8 27 8 11 := ⟨RX8, TX8, 14, rfl, by decide, (fun w h9 => List.mem_cons_of_mem _ (wC_wsX80 w h9)), (List.mem_cons_of_mem _ wT_3_12)⟩
theorem ln8_init_25 : Nl vX8_init RX8 25 2 3 zF2 := ⟨RX2, TX2, tyX2, rfl, (fun w h9 => List.mem_cons_of_mem _ (wC_wsX20 w h9)), tyX2_ok, (List.mem_cons_of_mem _ wT_3_11), (List.mem_cons_of_mem _ wT_3_13), (List.mem_cons_of_mem _ wT_3_14), zF2_ok⟩
theorem gX8_init_X2_init : GoodIn vX8_init vX2_init := gI_of wT_4_16
theorem lp8_init_32 : Pl vX8_init RX8 32 8 0 .int := ⟨RX8, TX8, 14, tyX8, rfl, by decide, (fun w h9 => List.mem_cons_of_mem _ (wC_wsX80 w h9)), (List.mem_cons_of_mem _ wT_3_15), tyX8_ok, nmX8, rfl, rfl⟩
theorem lp8_init_36 : Pl vX8_init RX8 36 8 1 .int := ⟨RX8, TX8, 14, tyX8, rfl, by decide, (fun w h9 => List.mem_cons_of_mem _ (wC_wsX80 w h9)), (List.mem_cons_of_mem _ wT_3_16), tyX8_ok, nmX8, rfl, rfl⟩
theorem cd8_init : Cd yX8_init 0 := ⟨by decide, by decide, by decide +kernel⟩
set_option maxHeartbeats 4000000 in
set_option maxRecDepth 100000 in
theorem T8_init_0 (S : CallFix p m c cX8_init 2 s args vX8_init RX8) (hr : meth.sig.returnType = none) (hlo : meth.locks = false) (hin2 : meth.name = "<init>") (hAn : ∀ q, b ≤ q → A q) {out : PH} {h : PH} {a0 : Nat} (f : F8_init_0  h a0 = some out) {H : Heap} {locs : List Loc} (I : ph_I D cy b A true h s H locs) {ls : Array Slot} (hl : lv_has ls 2 [(0, .ref (b + a0))]) : W p l e ({ frames := 2, cells := 21, slots := 369, locals := 40 } : Room) s m args below meth c H locs 0 0 (MQ below (va_Qv (fun (u : PH) => u = out) (ph_B D cy b A true) A) args s 21 369 A) (F0 m 0 ls []) := by
  unfold F8_init_0 at f
  refine lv_aload_n S.1 S.2.1 dX8_init_0 rfl (lv_at hl 0 rfl) ?_
  refine o_objI S (List.mem_cons_of_mem _ wT_3_2) (List.mem_cons_of_mem _ wT_1_11) (List.mem_cons_of_mem _ wT_1_12) hl.1 dX8_init_1 (Nat.le_of_ble_eq_true rfl) (Nat.le_of_ble_eq_true rfl) ?_
  refine lv_aload_n S.1 S.2.1 dX8_init_4 rfl (lv_at hl 0 rfl) ?_
  obtain ⟨h1, e2, f⟩ := ob f
  refine o_new S ln8_init_9 I hAn e2 (Nat.le_of_ble_eq_true rfl) (Nat.le_of_ble_eq_true rfl) dX8_init_5 (fun H I => ?_)
  refine lv_dup S.1 S.2.1 dX8_init_8 rfl ?_
  obtain ⟨o3, e4, f⟩ := ob f
  refine o_Iv S (As := []) (rest := [.ref (b + h.length), .ref (b + a0)]) (M1_init l D cy b A hAn e4) gX8_init_X1_init ⟨(List.mem_cons_of_mem _ wT_3_5), (List.mem_cons_of_mem _ wT_3_17), (List.mem_cons_of_mem _ wT_3_18)⟩ rfl rfl rfl rfl cd1_init ⟨Nat.le_of_ble_eq_true rfl, Nat.le_of_ble_eq_true rfl⟩ I rfl hl.1 rfl (Nat.le_of_ble_eq_true rfl) dX8_init_9 ⟨Nat.le_of_ble_eq_true rfl, Nat.le_of_ble_eq_true rfl⟩ (fun H locs I => ?_)
  obtain ⟨h5, e6, f⟩ := ob f
  refine o_pRF S hin2 lp8_init_12 (Or.inl ⟨_, rfl⟩) I e6 dX8_init_12 (fun H locs I => ?_)
  refine lv_aload_n S.1 S.2.1 dX8_init_15 rfl (lv_at hl 0 rfl) ?_
  obtain ⟨h7, e8, f⟩ := ob f
  refine o_new S ln8_init_18 I hAn e8 (Nat.le_of_ble_eq_true rfl) (Nat.le_of_ble_eq_true rfl) dX8_init_16 (fun H I => ?_)
  refine lv_dup S.1 S.2.1 dX8_init_19 rfl ?_
  obtain ⟨o9, e10, f⟩ := ob f
  refine o_Iv S (As := []) (rest := [.ref (b + h5.length), .ref (b + a0)]) (M10_init l D cy b A hAn e10) gX8_init_X10_init ⟨(List.mem_cons_of_mem _ wT_3_9), (List.mem_cons_of_mem _ wT_4_4), (List.mem_cons_of_mem _ wT_4_5)⟩ rfl rfl rfl rfl cd10_init ⟨Nat.le_of_ble_eq_true rfl, Nat.le_of_ble_eq_true rfl⟩ I rfl hl.1 rfl (Nat.le_of_ble_eq_true rfl) dX8_init_20 ⟨Nat.le_of_ble_eq_true rfl, Nat.le_of_ble_eq_true rfl⟩ (fun H locs I => ?_)
  obtain ⟨h11, e12, f⟩ := ob f
  refine o_pRF S hin2 lp8_init_21 (Or.inl ⟨_, rfl⟩) I e12 dX8_init_23 (fun H locs I => ?_)
  refine lv_aload_n S.1 S.2.1 dX8_init_26 rfl (lv_at hl 0 rfl) ?_
  refine lv_iconst (v := 3) S.1 S.2.1 dX8_init_27 (by decide) ?_
  obtain ⟨h13, e14, f⟩ := ob f
  refine o_newR S (List.mem_cons_of_mem _ wT_3_11) I hAn (N := 3) e14 (by decide) (by decide) (Nat.le_of_ble_eq_true rfl) (Nat.le_of_ble_eq_true rfl) (Nat.le_of_ble_eq_true rfl) dX8_init_28 (fun H I => ?_)
  obtain ⟨h15, e16, f⟩ := ob f
  refine o_pRF S hin2 lp8_init_27 (Or.inr ⟨_, rfl⟩) I e16 dX8_init_31 (fun H locs I => ?_)
  refine lv_iconst (v := 0) S.1 S.2.1 dX8_init_34 (by decide) ?_
  refine lv_istore_n (lv' := [(1, .int 0), (0, .ref (b + a0))]) S.1 S.2.1 dX8_init_35 rfl hl (by decide) rfl (fun ls hl => ?_)
  refine lv_iload_n S.1 S.2.1 dX8_init_36 rfl (lv_at hl 0 rfl) ?_
  refine lv_iconst (v := 3) S.1 S.2.1 dX8_init_37 (by decide) ?_
  refine lv_icmp_ge (tgt := 60) S.1 S.2.1 dX8_init_38 (by decide) (fun q17 => ?_) (fun q17 => ?_)
  · exact absurd q17 (by decide)
  · refine lv_aload_n S.1 S.2.1 dX8_init_41 rfl (lv_at hl 1 rfl) ?_
    obtain ⟨r18, e19, f⟩ := ob f
    refine o_gR S lf8_init_27 I e19 dX8_init_42 ?_
    refine lv_iload_n S.1 S.2.1 dX8_init_45 rfl (lv_at hl 0 rfl) ?_
    obtain ⟨h20, e21, f⟩ := ob f
    refine o_new S ln8_init_25 I hAn e21 (Nat.le_of_ble_eq_true rfl) (Nat.le_of_ble_eq_true rfl) dX8_init_46 (fun H I => ?_)
    refine lv_dup S.1 S.2.1 dX8_init_49 rfl ?_
    obtain ⟨o22, e23, f⟩ := ob f
    refine o_Iv S (As := []) (rest := [.ref (b + h15.length), .int 0, .ref (b + r18)]) (M2_init l D cy b A hAn e23) gX8_init_X2_init ⟨(List.mem_cons_of_mem _ wT_3_14), (List.mem_cons_of_mem _ wT_4_14), (List.mem_cons_of_mem _ wT_4_15)⟩ rfl rfl rfl rfl cd2_init ⟨Nat.le_of_ble_eq_true rfl, Nat.le_of_ble_eq_true rfl⟩ I rfl hl.1 rfl (Nat.le_of_ble_eq_true rfl) dX8_init_50 ⟨Nat.le_of_ble_eq_true rfl, Nat.le_of_ble_eq_true rfl⟩ (fun H locs I => ?_)
    obtain ⟨h25, e24, f⟩ := ob f
    refine o_aast S I e24 dX8_init_53 (fun H locs I => ?_)
    refine lv_iinc (v := 1) (lv' := [(1, .int 1), (0, .ref (b + a0))]) S.1 S.2.1 dX8_init_54 hl (k := 0) rfl (by decide) (by decide) rfl (fun ls hl => ?_)
    refine lv_goto (tgt := 36) S.1 S.2.1 dX8_init_57 (by decide) ?_
    refine lv_iload_n S.1 S.2.1 dX8_init_36 rfl (lv_at hl 0 rfl) ?_
    refine lv_iconst (v := 3) S.1 S.2.1 dX8_init_37 (by decide) ?_
    refine lv_icmp_ge (tgt := 60) S.1 S.2.1 dX8_init_38 (by decide) (fun q26 => ?_) (fun q26 => ?_)
    · exact absurd q26 (by decide)
    · refine lv_aload_n S.1 S.2.1 dX8_init_41 rfl (lv_at hl 1 rfl) ?_
      obtain ⟨r27, e28, f⟩ := ob f
      refine o_gR S lf8_init_27 I e28 dX8_init_42 ?_
      refine lv_iload_n S.1 S.2.1 dX8_init_45 rfl (lv_at hl 0 rfl) ?_
      obtain ⟨h29, e30, f⟩ := ob f
      refine o_new S ln8_init_25 I hAn e30 (Nat.le_of_ble_eq_true rfl) (Nat.le_of_ble_eq_true rfl) dX8_init_46 (fun H I => ?_)
      refine lv_dup S.1 S.2.1 dX8_init_49 rfl ?_
      obtain ⟨o31, e32, f⟩ := ob f
      refine o_Iv S (As := []) (rest := [.ref (b + h25.length), .int 1, .ref (b + r27)]) (M2_init l D cy b A hAn e32) gX8_init_X2_init ⟨(List.mem_cons_of_mem _ wT_3_14), (List.mem_cons_of_mem _ wT_4_14), (List.mem_cons_of_mem _ wT_4_15)⟩ rfl rfl rfl rfl cd2_init ⟨Nat.le_of_ble_eq_true rfl, Nat.le_of_ble_eq_true rfl⟩ I rfl hl.1 rfl (Nat.le_of_ble_eq_true rfl) dX8_init_50 ⟨Nat.le_of_ble_eq_true rfl, Nat.le_of_ble_eq_true rfl⟩ (fun H locs I => ?_)
      obtain ⟨h34, e33, f⟩ := ob f
      refine o_aast S I e33 dX8_init_53 (fun H locs I => ?_)
      refine lv_iinc (v := 2) (lv' := [(1, .int 2), (0, .ref (b + a0))]) S.1 S.2.1 dX8_init_54 hl (k := 0) rfl (by decide) (by decide) rfl (fun ls hl => ?_)
      refine lv_goto (tgt := 36) S.1 S.2.1 dX8_init_57 (by decide) ?_
      refine lv_iload_n S.1 S.2.1 dX8_init_36 rfl (lv_at hl 0 rfl) ?_
      refine lv_iconst (v := 3) S.1 S.2.1 dX8_init_37 (by decide) ?_
      refine lv_icmp_ge (tgt := 60) S.1 S.2.1 dX8_init_38 (by decide) (fun q35 => ?_) (fun q35 => ?_)
      · exact absurd q35 (by decide)
      · refine lv_aload_n S.1 S.2.1 dX8_init_41 rfl (lv_at hl 1 rfl) ?_
        obtain ⟨r36, e37, f⟩ := ob f
        refine o_gR S lf8_init_27 I e37 dX8_init_42 ?_
        refine lv_iload_n S.1 S.2.1 dX8_init_45 rfl (lv_at hl 0 rfl) ?_
        obtain ⟨h38, e39, f⟩ := ob f
        refine o_new S ln8_init_25 I hAn e39 (Nat.le_of_ble_eq_true rfl) (Nat.le_of_ble_eq_true rfl) dX8_init_46 (fun H I => ?_)
        refine lv_dup S.1 S.2.1 dX8_init_49 rfl ?_
        obtain ⟨o40, e41, f⟩ := ob f
        refine o_Iv S (As := []) (rest := [.ref (b + h34.length), .int 2, .ref (b + r36)]) (M2_init l D cy b A hAn e41) gX8_init_X2_init ⟨(List.mem_cons_of_mem _ wT_3_14), (List.mem_cons_of_mem _ wT_4_14), (List.mem_cons_of_mem _ wT_4_15)⟩ rfl rfl rfl rfl cd2_init ⟨Nat.le_of_ble_eq_true rfl, Nat.le_of_ble_eq_true rfl⟩ I rfl hl.1 rfl (Nat.le_of_ble_eq_true rfl) dX8_init_50 ⟨Nat.le_of_ble_eq_true rfl, Nat.le_of_ble_eq_true rfl⟩ (fun H locs I => ?_)
        obtain ⟨h43, e42, f⟩ := ob f
        refine o_aast S I e42 dX8_init_53 (fun H locs I => ?_)
        refine lv_iinc (v := 3) (lv' := [(1, .int 3), (0, .ref (b + a0))]) S.1 S.2.1 dX8_init_54 hl (k := 0) rfl (by decide) (by decide) rfl (fun ls hl => ?_)
        refine lv_goto (tgt := 36) S.1 S.2.1 dX8_init_57 (by decide) ?_
        refine lv_iload_n S.1 S.2.1 dX8_init_36 rfl (lv_at hl 0 rfl) ?_
        refine lv_iconst (v := 3) S.1 S.2.1 dX8_init_37 (by decide) ?_
        refine lv_icmp_ge (tgt := 60) S.1 S.2.1 dX8_init_38 (by decide) (fun q44 => ?_) (fun q44 => ?_)
        · refine lv_aload_n S.1 S.2.1 dX8_init_60 rfl (lv_at hl 1 rfl) ?_
          refine lv_bipush (v := 6) S.1 S.2.1 dX8_init_61 (by decide) ?_
          obtain ⟨h45, e46, f⟩ := ob f
          refine o_pI S lp8_init_32 I e46 dX8_init_63 (fun H locs I => ?_)
          refine lv_aload_n S.1 S.2.1 dX8_init_66 rfl (lv_at hl 1 rfl) ?_
          refine lv_iconst (v := 4) S.1 S.2.1 dX8_init_67 (by decide) ?_
          obtain ⟨h47, e48, f⟩ := ob f
          refine o_pI S lp8_init_36 I e48 dX8_init_68 (fun H locs I => ?_)
          exact o_vret S hr hlo I f dX8_init_71
        · exact absurd q44 (by decide)
theorem M8_init (l : Launch) (D : va_G) (cy : Nat → ClassId) (b : Nat) (A : Nat → Prop) (hAn : ∀ q, b ≤ q → A q) {h : PH} {a0 : Nat} {out : PH} (f : F8_init h a0 = some out) : Met l yX8_init vX8_init ({ frames := 2, cells := 21, slots := 369, locals := 40 } : Room) (va_Pc [.ref (b + a0)] (ph_B D cy b A true h)) (va_Qv (fun (u : PH) => u = out) (ph_B D cy b A true) A) 21 369 A :=
  o_met (by decide) rfl (Nat.le_of_ble_eq_true rfl) rfl (fun p e s m below meth c S hr hlo hnm ls hl I => T8_init_0 S hr hlo hnm hAn ((gd f).2) I (lv_sub hl [0] rfl))
def vX5_init : List Cond := .code yX5_init cX5_init 2 none :: TB
theorem lp5_init_9 : Pl vX5_init RX5 9 5 10 (.object "WhoseWave$Told") := ⟨RX5, TX5, 11, tyX5, rfl, by decide, (fun w h9 => List.mem_cons_of_mem _ (wC_wsX50 w h9)), (List.mem_cons_of_mem _ wT_4_23), tyX5_ok, nmX5, rfl, rfl⟩
theorem ln5_init_15 : Nl vX5_init RX5 15 7 7 zF7 := ⟨RX7, TX7, tyX7, rfl, (fun w h9 => List.mem_cons_of_mem _ (wC_wsX70 w h9)), tyX7_ok, (List.mem_cons_of_mem _ wT_5_0), (List.mem_cons_of_mem _ wT_5_1), (List.mem_cons_of_mem _ wT_5_2), zF7_ok⟩
theorem gX5_init_X7_init : GoodIn vX5_init vX7_init := gI_of wT_5_8
theorem lp5_init_18 : PlF vX5_init RX5 18 5 0 (.object "WhoseWave$Tokens") := ⟨RX5, TX5, 11, tyX5, rfl, by decide, (fun w h9 => List.mem_cons_of_mem _ (wC_wsX50 w h9)), (List.mem_cons_of_mem _ wT_5_3), tyX5_ok, nmX5, rfl, rfl, rfl⟩
theorem lp5_init_22 : PlF vX5_init RX5 22 5 1 (.array .int) := ⟨RX5, TX5, 11, tyX5, rfl, by decide, (fun w h9 => List.mem_cons_of_mem _ (wC_wsX50 w h9)), (List.mem_cons_of_mem _ wT_5_4), tyX5_ok, nmX5, rfl, rfl, rfl⟩
theorem lp5_init_26 : Pl vX5_init RX5 26 5 9 .int := ⟨RX5, TX5, 11, tyX5, rfl, by decide, (fun w h9 => List.mem_cons_of_mem _ (wC_wsX50 w h9)), (List.mem_cons_of_mem _ wT_5_5), tyX5_ok, nmX5, rfl, rfl⟩
theorem cd5_init : Cd yX5_init 1 := ⟨by decide, by decide, by decide +kernel⟩
set_option maxHeartbeats 4000000 in
set_option maxRecDepth 100000 in
theorem T5_init_0 (S : CallFix p m c cX5_init 2 s args vX5_init RX5) (hr : meth.sig.returnType = none) (hlo : meth.locks = false) (hin2 : meth.name = "<init>") (hAn : ∀ q, b ≤ q → A q) {out : PH} {h : PH} {a0 : Nat} {a1 : Nat} (f : F5_init_0  h a0 a1 = some out) {H : Heap} {locs : List Loc} (I : ph_I D cy b A true h s H locs) {ls : Array Slot} (hl : lv_has ls 2 [(0, .ref (b + a0)), (1, .ref (b + a1))]) : W p l e ({ frames := 5, cells := 4, slots := 103, locals := 123 } : Room) s m args below meth c H locs 0 0 (MQ below (va_Qv (fun (u : PH) => u = out) (ph_B D cy b A true) A) args s 4 103 A) (F0 m 0 ls []) := by
  unfold F5_init_0 at f
  refine lv_aload_n S.1 S.2.1 dX5_init_0 rfl (lv_at hl 0 rfl) ?_
  refine o_objI S (List.mem_cons_of_mem _ wT_4_22) (List.mem_cons_of_mem _ wT_1_11) (List.mem_cons_of_mem _ wT_1_12) hl.1 dX5_init_1 (Nat.le_of_ble_eq_true rfl) (Nat.le_of_ble_eq_true rfl) ?_
  refine lv_aload_n S.1 S.2.1 dX5_init_4 rfl (lv_at hl 0 rfl) ?_
  refine lv_aload_n S.1 S.2.1 dX5_init_5 rfl (lv_at hl 1 rfl) ?_
  obtain ⟨h1, e2, f⟩ := ob f
  refine o_pR S lp5_init_9 (Or.inl ⟨_, rfl⟩) I e2 dX5_init_6 (fun H locs I => ?_)
  refine lv_aload_n S.1 S.2.1 dX5_init_9 rfl (lv_at hl 0 rfl) ?_
  obtain ⟨h3, e4, f⟩ := ob f
  refine o_new S ln5_init_15 I hAn e4 (Nat.le_of_ble_eq_true rfl) (Nat.le_of_ble_eq_true rfl) dX5_init_10 (fun H I => ?_)
  refine lv_dup S.1 S.2.1 dX5_init_13 rfl ?_
  obtain ⟨o5, e6, f⟩ := ob f
  refine o_Iv S (As := []) (rest := [.ref (b + h1.length), .ref (b + a0)]) (M7_init l D cy b A hAn e6) gX5_init_X7_init ⟨(List.mem_cons_of_mem _ wT_5_2), (List.mem_cons_of_mem _ wT_5_6), (List.mem_cons_of_mem _ wT_5_7)⟩ rfl rfl rfl rfl cd7_init ⟨Nat.le_of_ble_eq_true rfl, Nat.le_of_ble_eq_true rfl⟩ I rfl hl.1 rfl (Nat.le_of_ble_eq_true rfl) dX5_init_14 ⟨Nat.le_of_ble_eq_true rfl, Nat.le_of_ble_eq_true rfl⟩ (fun H locs I => ?_)
  obtain ⟨h7, e8, f⟩ := ob f
  refine o_pRF S hin2 lp5_init_18 (Or.inl ⟨_, rfl⟩) I e8 dX5_init_17 (fun H locs I => ?_)
  refine lv_aload_n S.1 S.2.1 dX5_init_20 rfl (lv_at hl 0 rfl) ?_
  refine lv_bipush (v := 72) S.1 S.2.1 dX5_init_21 (by decide) ?_
  obtain ⟨h9, e10, f⟩ := ob f
  refine o_newI S (List.mem_cons_of_mem _ wT_3_21) I hAn (N := 72) e10 (by decide) (by decide) (Nat.le_of_ble_eq_true rfl) (Nat.le_of_ble_eq_true rfl) (Nat.le_of_ble_eq_true rfl) dX5_init_23 (fun H I => ?_)
  obtain ⟨h11, e12, f⟩ := ob f
  refine o_pRF S hin2 lp5_init_22 (Or.inr ⟨_, rfl⟩) I e12 dX5_init_25 (fun H locs I => ?_)
  refine lv_aload_n S.1 S.2.1 dX5_init_28 rfl (lv_at hl 0 rfl) ?_
  refine lv_iconst (v := (-1)) S.1 S.2.1 dX5_init_29 (by decide) ?_
  obtain ⟨h13, e14, f⟩ := ob f
  refine o_pI S lp5_init_26 I e14 dX5_init_30 (fun H locs I => ?_)
  exact o_vret S hr hlo I f dX5_init_33
theorem M5_init (l : Launch) (D : va_G) (cy : Nat → ClassId) (b : Nat) (A : Nat → Prop) (hAn : ∀ q, b ≤ q → A q) {h : PH} {a0 : Nat} {a1 : Nat} {out : PH} (f : F5_init h a0 a1 = some out) : Met l yX5_init vX5_init ({ frames := 5, cells := 4, slots := 103, locals := 123 } : Room) (va_Pc [.ref (b + a0), .ref (b + a1)] (ph_B D cy b A true h)) (va_Qv (fun (u : PH) => u = out) (ph_B D cy b A true) A) 4 103 A :=
  o_met (by decide) rfl (Nat.le_of_ble_eq_true rfl) rfl (fun p e s m below meth c S hr hlo hnm ls hl I => T5_init_0 S hr hlo hnm hAn ((gd f).2) I (lv_sub hl [0, 1] rfl))
def vX6_init : List Cond := .code yX6_init cX6_init 2 none :: TB
theorem lp6_init_9 : Pl vX6_init RX6 9 6 0 (.object "WhoseWave$Told") := ⟨RX6, TX6, 9, tyX6, rfl, by decide, (fun w h9 => List.mem_cons_of_mem _ (wC_wsX60 w h9)), (List.mem_cons_of_mem _ wT_7_15), tyX6_ok, nmX6, rfl, rfl⟩
theorem lp6_init_15 : PlF vX6_init RX6 15 6 1 (.array .int) := ⟨RX6, TX6, 9, tyX6, rfl, by decide, (fun w h9 => List.mem_cons_of_mem _ (wC_wsX60 w h9)), (List.mem_cons_of_mem _ wT_7_16), tyX6_ok, nmX6, rfl, rfl, rfl⟩
theorem lp6_init_19 : PlF vX6_init RX6 19 6 2 (.array .int) := ⟨RX6, TX6, 9, tyX6, rfl, by decide, (fun w h9 => List.mem_cons_of_mem _ (wC_wsX60 w h9)), (List.mem_cons_of_mem _ wT_7_17), tyX6_ok, nmX6, rfl, rfl, rfl⟩
theorem lp6_init_22 : PlF vX6_init RX6 22 6 3 (.array .int) := ⟨RX6, TX6, 9, tyX6, rfl, by decide, (fun w h9 => List.mem_cons_of_mem _ (wC_wsX60 w h9)), (List.mem_cons_of_mem _ wT_7_18), tyX6_ok, nmX6, rfl, rfl, rfl⟩
theorem lp6_init_25 : PlF vX6_init RX6 25 6 4 (.array .long) := ⟨RX6, TX6, 9, tyX6, rfl, by decide, (fun w h9 => List.mem_cons_of_mem _ (wC_wsX60 w h9)), (List.mem_cons_of_mem _ wT_7_19), tyX6_ok, nmX6, rfl, rfl, rfl⟩
theorem lp6_init_29 : PlF vX6_init RX6 29 6 5 (.array .long) := ⟨RX6, TX6, 9, tyX6, rfl, by decide, (fun w h9 => List.mem_cons_of_mem _ (wC_wsX60 w h9)), (List.mem_cons_of_mem _ wT_7_20), tyX6_ok, nmX6, rfl, rfl, rfl⟩
theorem lp6_init_32 : PlF vX6_init RX6 32 6 6 (.array .int) := ⟨RX6, TX6, 9, tyX6, rfl, by decide, (fun w h9 => List.mem_cons_of_mem _ (wC_wsX60 w h9)), (List.mem_cons_of_mem _ wT_7_21), tyX6_ok, nmX6, rfl, rfl, rfl⟩
theorem lp6_init_35 : PlF vX6_init RX6 35 6 7 (.array .int) := ⟨RX6, TX6, 9, tyX6, rfl, by decide, (fun w h9 => List.mem_cons_of_mem _ (wC_wsX60 w h9)), (List.mem_cons_of_mem _ wT_7_22), tyX6_ok, nmX6, rfl, rfl, rfl⟩
theorem lp6_init_38 : PlF vX6_init RX6 38 6 8 (.array .int) := ⟨RX6, TX6, 9, tyX6, rfl, by decide, (fun w h9 => List.mem_cons_of_mem _ (wC_wsX60 w h9)), (List.mem_cons_of_mem _ wT_7_23), tyX6_ok, nmX6, rfl, rfl, rfl⟩
theorem cd6_init : Cd yX6_init 1 := ⟨by decide, by decide, by decide +kernel⟩
set_option maxHeartbeats 4000000 in
set_option maxRecDepth 100000 in
theorem T6_init_0 (S : CallFix p m c cX6_init 2 s args vX6_init RX6) (hr : meth.sig.returnType = none) (hlo : meth.locks = false) (hin2 : meth.name = "<init>") (hAn : ∀ q, b ≤ q → A q) {out : PH} {h : PH} {a0 : Nat} {a1 : Nat} (f : F6_init_0  h a0 a1 = some out) {H : Heap} {locs : List Loc} (I : ph_I D cy b A true h s H locs) {ls : Array Slot} (hl : lv_has ls 2 [(0, .ref (b + a0)), (1, .ref (b + a1))]) : W p l e ({ frames := 1, cells := 8, slots := 123, locals := 20 } : Room) s m args below meth c H locs 0 0 (MQ below (va_Qv (fun (u : PH) => u = out) (ph_B D cy b A true) A) args s 8 123 A) (F0 m 0 ls []) := by
  unfold F6_init_0 at f
  refine lv_aload_n S.1 S.2.1 dX6_init_0 rfl (lv_at hl 0 rfl) ?_
  refine o_objI S (List.mem_cons_of_mem _ wT_7_14) (List.mem_cons_of_mem _ wT_1_11) (List.mem_cons_of_mem _ wT_1_12) hl.1 dX6_init_1 (Nat.le_of_ble_eq_true rfl) (Nat.le_of_ble_eq_true rfl) ?_
  refine lv_aload_n S.1 S.2.1 dX6_init_4 rfl (lv_at hl 0 rfl) ?_
  refine lv_aload_n S.1 S.2.1 dX6_init_5 rfl (lv_at hl 1 rfl) ?_
  obtain ⟨h1, e2, f⟩ := ob f
  refine o_pR S lp6_init_9 (Or.inl ⟨_, rfl⟩) I e2 dX6_init_6 (fun H locs I => ?_)
  refine lv_aload_n S.1 S.2.1 dX6_init_9 rfl (lv_at hl 0 rfl) ?_
  refine lv_iconst (v := 5) S.1 S.2.1 dX6_init_10 (by decide) ?_
  obtain ⟨h3, e4, f⟩ := ob f
  refine o_newI S (List.mem_cons_of_mem _ wT_3_21) I hAn (N := 5) e4 (by decide) (by decide) (Nat.le_of_ble_eq_true rfl) (Nat.le_of_ble_eq_true rfl) (Nat.le_of_ble_eq_true rfl) dX6_init_11 (fun H I => ?_)
  obtain ⟨h5, e6, f⟩ := ob f
  refine o_pRF S hin2 lp6_init_15 (Or.inr ⟨_, rfl⟩) I e6 dX6_init_13 (fun H locs I => ?_)
  refine lv_aload_n S.1 S.2.1 dX6_init_16 rfl (lv_at hl 0 rfl) ?_
  refine lv_iconst (v := 5) S.1 S.2.1 dX6_init_17 (by decide) ?_
  obtain ⟨h7, e8, f⟩ := ob f
  refine o_newI S (List.mem_cons_of_mem _ wT_3_21) I hAn (N := 5) e8 (by decide) (by decide) (Nat.le_of_ble_eq_true rfl) (Nat.le_of_ble_eq_true rfl) (Nat.le_of_ble_eq_true rfl) dX6_init_18 (fun H I => ?_)
  obtain ⟨h9, e10, f⟩ := ob f
  refine o_pRF S hin2 lp6_init_19 (Or.inr ⟨_, rfl⟩) I e10 dX6_init_20 (fun H locs I => ?_)
  refine lv_aload_n S.1 S.2.1 dX6_init_23 rfl (lv_at hl 0 rfl) ?_
  refine lv_bipush (v := 28) S.1 S.2.1 dX6_init_24 (by decide) ?_
  obtain ⟨h11, e12, f⟩ := ob f
  refine o_newI S (List.mem_cons_of_mem _ wT_3_21) I hAn (N := 28) e12 (by decide) (by decide) (Nat.le_of_ble_eq_true rfl) (Nat.le_of_ble_eq_true rfl) (Nat.le_of_ble_eq_true rfl) dX6_init_26 (fun H I => ?_)
  obtain ⟨h13, e14, f⟩ := ob f
  refine o_pRF S hin2 lp6_init_22 (Or.inr ⟨_, rfl⟩) I e14 dX6_init_28 (fun H locs I => ?_)
  refine lv_aload_n S.1 S.2.1 dX6_init_31 rfl (lv_at hl 0 rfl) ?_
  refine lv_bipush (v := 6) S.1 S.2.1 dX6_init_32 (by decide) ?_
  obtain ⟨h15, e16, f⟩ := ob f
  refine o_newJ S (List.mem_cons_of_mem _ wT_1_6) I hAn (N := 6) e16 (by decide) (by decide) (Nat.le_of_ble_eq_true rfl) (Nat.le_of_ble_eq_true rfl) (Nat.le_of_ble_eq_true rfl) dX6_init_34 (fun H I => ?_)
  obtain ⟨h17, e18, f⟩ := ob f
  refine o_pRF S hin2 lp6_init_25 (Or.inr ⟨_, rfl⟩) I e18 dX6_init_36 (fun H locs I => ?_)
  refine lv_aload_n S.1 S.2.1 dX6_init_39 rfl (lv_at hl 0 rfl) ?_
  refine lv_bipush (v := 64) S.1 S.2.1 dX6_init_40 (by decide) ?_
  obtain ⟨h19, e20, f⟩ := ob f
  refine o_newJ S (List.mem_cons_of_mem _ wT_1_6) I hAn (N := 64) e20 (by decide) (by decide) (Nat.le_of_ble_eq_true rfl) (Nat.le_of_ble_eq_true rfl) (Nat.le_of_ble_eq_true rfl) dX6_init_42 (fun H I => ?_)
  obtain ⟨h21, e22, f⟩ := ob f
  refine o_pRF S hin2 lp6_init_29 (Or.inr ⟨_, rfl⟩) I e22 dX6_init_44 (fun H locs I => ?_)
  refine lv_aload_n S.1 S.2.1 dX6_init_47 rfl (lv_at hl 0 rfl) ?_
  refine lv_iconst (v := 5) S.1 S.2.1 dX6_init_48 (by decide) ?_
  obtain ⟨h23, e24, f⟩ := ob f
  refine o_newI S (List.mem_cons_of_mem _ wT_3_21) I hAn (N := 5) e24 (by decide) (by decide) (Nat.le_of_ble_eq_true rfl) (Nat.le_of_ble_eq_true rfl) (Nat.le_of_ble_eq_true rfl) dX6_init_49 (fun H I => ?_)
  obtain ⟨h25, e26, f⟩ := ob f
  refine o_pRF S hin2 lp6_init_32 (Or.inr ⟨_, rfl⟩) I e26 dX6_init_51 (fun H locs I => ?_)
  refine lv_aload_n S.1 S.2.1 dX6_init_54 rfl (lv_at hl 0 rfl) ?_
  refine lv_iconst (v := 5) S.1 S.2.1 dX6_init_55 (by decide) ?_
  obtain ⟨h27, e28, f⟩ := ob f
  refine o_newI S (List.mem_cons_of_mem _ wT_3_21) I hAn (N := 5) e28 (by decide) (by decide) (Nat.le_of_ble_eq_true rfl) (Nat.le_of_ble_eq_true rfl) (Nat.le_of_ble_eq_true rfl) dX6_init_56 (fun H I => ?_)
  obtain ⟨h29, e30, f⟩ := ob f
  refine o_pRF S hin2 lp6_init_35 (Or.inr ⟨_, rfl⟩) I e30 dX6_init_58 (fun H locs I => ?_)
  refine lv_aload_n S.1 S.2.1 dX6_init_61 rfl (lv_at hl 0 rfl) ?_
  refine lv_iconst (v := 5) S.1 S.2.1 dX6_init_62 (by decide) ?_
  obtain ⟨h31, e32, f⟩ := ob f
  refine o_newI S (List.mem_cons_of_mem _ wT_3_21) I hAn (N := 5) e32 (by decide) (by decide) (Nat.le_of_ble_eq_true rfl) (Nat.le_of_ble_eq_true rfl) (Nat.le_of_ble_eq_true rfl) dX6_init_63 (fun H I => ?_)
  obtain ⟨h33, e34, f⟩ := ob f
  refine o_pRF S hin2 lp6_init_38 (Or.inr ⟨_, rfl⟩) I e34 dX6_init_65 (fun H locs I => ?_)
  exact o_vret S hr hlo I f dX6_init_68
theorem M6_init (l : Launch) (D : va_G) (cy : Nat → ClassId) (b : Nat) (A : Nat → Prop) (hAn : ∀ q, b ≤ q → A q) {h : PH} {a0 : Nat} {a1 : Nat} {out : PH} (f : F6_init h a0 a1 = some out) : Met l yX6_init vX6_init ({ frames := 1, cells := 8, slots := 123, locals := 20 } : Room) (va_Pc [.ref (b + a0), .ref (b + a1)] (ph_B D cy b A true h)) (va_Qv (fun (u : PH) => u = out) (ph_B D cy b A true) A) 8 123 A :=
  o_met (by decide) rfl (Nat.le_of_ble_eq_true rfl) rfl (fun p e s m below meth c S hr hlo hnm ls hl I => T6_init_0 S hr hlo hnm hAn ((gd f).2) I (lv_sub hl [0, 1] rfl))
def vX0_init : List Cond := .code yX0_init cX0_init 1 none :: TB
theorem lp0_init_9 : PlF vX0_init RX0 9 0 0 (.array .int) := ⟨RX0, TX0, 13, tyX0, rfl, by decide, (fun w h9 => List.mem_cons_of_mem _ (wC_wsX00 w h9)), (List.mem_cons_of_mem _ wT_9_7), tyX0_ok, nmX0, rfl, rfl, rfl⟩
theorem lp0_init_15 : PlF vX0_init RX0 15 0 1 (.array .int) := ⟨RX0, TX0, 13, tyX0, rfl, by decide, (fun w h9 => List.mem_cons_of_mem _ (wC_wsX00 w h9)), (List.mem_cons_of_mem _ wT_9_8), tyX0_ok, nmX0, rfl, rfl, rfl⟩
theorem lp0_init_18 : PlF vX0_init RX0 18 0 2 (.array .int) := ⟨RX0, TX0, 13, tyX0, rfl, by decide, (fun w h9 => List.mem_cons_of_mem _ (wC_wsX00 w h9)), (List.mem_cons_of_mem _ wT_9_9), tyX0_ok, nmX0, rfl, rfl, rfl⟩
theorem lp0_init_21 : PlF vX0_init RX0 21 0 3 (.array .int) := ⟨RX0, TX0, 13, tyX0, rfl, by decide, (fun w h9 => List.mem_cons_of_mem _ (wC_wsX00 w h9)), (List.mem_cons_of_mem _ wT_9_10), tyX0_ok, nmX0, rfl, rfl, rfl⟩
theorem lp0_init_24 : PlF vX0_init RX0 24 0 4 (.array .int) := ⟨RX0, TX0, 13, tyX0, rfl, by decide, (fun w h9 => List.mem_cons_of_mem _ (wC_wsX00 w h9)), (List.mem_cons_of_mem _ wT_9_11), tyX0_ok, nmX0, rfl, rfl, rfl⟩
theorem lp0_init_27 : PlF vX0_init RX0 27 0 5 (.array .int) := ⟨RX0, TX0, 13, tyX0, rfl, by decide, (fun w h9 => List.mem_cons_of_mem _ (wC_wsX00 w h9)), (List.mem_cons_of_mem _ wT_9_12), tyX0_ok, nmX0, rfl, rfl, rfl⟩
theorem lp0_init_30 : PlF vX0_init RX0 30 0 7 (.array .int) := ⟨RX0, TX0, 13, tyX0, rfl, by decide, (fun w h9 => List.mem_cons_of_mem _ (wC_wsX00 w h9)), (List.mem_cons_of_mem _ wT_9_13), tyX0_ok, nmX0, rfl, rfl, rfl⟩
theorem lp0_init_33 : PlF vX0_init RX0 33 0 8 (.array .int) := ⟨RX0, TX0, 13, tyX0, rfl, by decide, (fun w h9 => List.mem_cons_of_mem _ (wC_wsX00 w h9)), (List.mem_cons_of_mem _ wT_9_14), tyX0_ok, nmX0, rfl, rfl, rfl⟩
theorem lp0_init_36 : PlF vX0_init RX0 36 0 9 (.array .boolean) := ⟨RX0, TX0, 13, tyX0, rfl, by decide, (fun w h9 => List.mem_cons_of_mem _ (wC_wsX00 w h9)), (List.mem_cons_of_mem _ wT_9_15), tyX0_ok, nmX0, rfl, rfl, rfl⟩
theorem lp0_init_40 : PlF vX0_init RX0 40 0 10 (.array .int) := ⟨RX0, TX0, 13, tyX0, rfl, by decide, (fun w h9 => List.mem_cons_of_mem _ (wC_wsX00 w h9)), (List.mem_cons_of_mem _ wT_9_16), tyX0_ok, nmX0, rfl, rfl, rfl⟩
theorem cd0_init : Cd yX0_init 0 := ⟨by decide, by decide, by decide +kernel⟩
set_option maxHeartbeats 4000000 in
set_option maxRecDepth 100000 in
theorem T0_init_0 (S : CallFix p m c cX0_init 1 s args vX0_init RX0) (hr : meth.sig.returnType = none) (hlo : meth.locks = false) (hin2 : meth.name = "<init>") (hAn : ∀ q, b ≤ q → A q) {out : PH} {h : PH} {a0 : Nat} (f : F0_init_0  h a0 = some out) {H : Heap} {locs : List Loc} (I : ph_I D cy b A true h s H locs) {ls : Array Slot} (hl : lv_has ls 1 [(0, .ref (b + a0))]) : W p l e ({ frames := 1, cells := 10, slots := 758, locals := 20 } : Room) s m args below meth c H locs 0 0 (MQ below (va_Qv (fun (u : PH) => u = out) (ph_B D cy b A true) A) args s 10 758 A) (F0 m 0 ls []) := by
  unfold F0_init_0 at f
  refine lv_aload_n S.1 S.2.1 dX0_init_0 rfl (lv_at hl 0 rfl) ?_
  refine o_objI S (List.mem_cons_of_mem _ wT_9_6) (List.mem_cons_of_mem _ wT_1_11) (List.mem_cons_of_mem _ wT_1_12) hl.1 dX0_init_1 (Nat.le_of_ble_eq_true rfl) (Nat.le_of_ble_eq_true rfl) ?_
  refine lv_aload_n S.1 S.2.1 dX0_init_4 rfl (lv_at hl 0 rfl) ?_
  refine lv_bipush (v := 10) S.1 S.2.1 dX0_init_5 (by decide) ?_
  obtain ⟨h1, e2, f⟩ := ob f
  refine o_newI S (List.mem_cons_of_mem _ wT_3_21) I hAn (N := 10) e2 (by decide) (by decide) (Nat.le_of_ble_eq_true rfl) (Nat.le_of_ble_eq_true rfl) (Nat.le_of_ble_eq_true rfl) dX0_init_7 (fun H I => ?_)
  obtain ⟨h3, e4, f⟩ := ob f
  refine o_pRF S hin2 lp0_init_9 (Or.inr ⟨_, rfl⟩) I e4 dX0_init_9 (fun H locs I => ?_)
  refine lv_aload_n S.1 S.2.1 dX0_init_12 rfl (lv_at hl 0 rfl) ?_
  refine lv_sipush (v := 280) S.1 S.2.1 dX0_init_13 (by decide) ?_
  obtain ⟨h5, e6, f⟩ := ob f
  refine o_newI S (List.mem_cons_of_mem _ wT_3_21) I hAn (N := 280) e6 (by decide) (by decide) (Nat.le_of_ble_eq_true rfl) (Nat.le_of_ble_eq_true rfl) (Nat.le_of_ble_eq_true rfl) dX0_init_16 (fun H I => ?_)
  obtain ⟨h7, e8, f⟩ := ob f
  refine o_pRF S hin2 lp0_init_15 (Or.inr ⟨_, rfl⟩) I e8 dX0_init_18 (fun H locs I => ?_)
  refine lv_aload_n S.1 S.2.1 dX0_init_21 rfl (lv_at hl 0 rfl) ?_
  refine lv_sipush (v := 280) S.1 S.2.1 dX0_init_22 (by decide) ?_
  obtain ⟨h9, e10, f⟩ := ob f
  refine o_newI S (List.mem_cons_of_mem _ wT_3_21) I hAn (N := 280) e10 (by decide) (by decide) (Nat.le_of_ble_eq_true rfl) (Nat.le_of_ble_eq_true rfl) (Nat.le_of_ble_eq_true rfl) dX0_init_25 (fun H I => ?_)
  obtain ⟨h11, e12, f⟩ := ob f
  refine o_pRF S hin2 lp0_init_18 (Or.inr ⟨_, rfl⟩) I e12 dX0_init_27 (fun H locs I => ?_)
  refine lv_aload_n S.1 S.2.1 dX0_init_30 rfl (lv_at hl 0 rfl) ?_
  refine lv_bipush (v := 25) S.1 S.2.1 dX0_init_31 (by decide) ?_
  obtain ⟨h13, e14, f⟩ := ob f
  refine o_newI S (List.mem_cons_of_mem _ wT_3_21) I hAn (N := 25) e14 (by decide) (by decide) (Nat.le_of_ble_eq_true rfl) (Nat.le_of_ble_eq_true rfl) (Nat.le_of_ble_eq_true rfl) dX0_init_33 (fun H I => ?_)
  obtain ⟨h15, e16, f⟩ := ob f
  refine o_pRF S hin2 lp0_init_21 (Or.inr ⟨_, rfl⟩) I e16 dX0_init_35 (fun H locs I => ?_)
  refine lv_aload_n S.1 S.2.1 dX0_init_38 rfl (lv_at hl 0 rfl) ?_
  refine lv_bipush (v := 25) S.1 S.2.1 dX0_init_39 (by decide) ?_
  obtain ⟨h17, e18, f⟩ := ob f
  refine o_newI S (List.mem_cons_of_mem _ wT_3_21) I hAn (N := 25) e18 (by decide) (by decide) (Nat.le_of_ble_eq_true rfl) (Nat.le_of_ble_eq_true rfl) (Nat.le_of_ble_eq_true rfl) dX0_init_41 (fun H I => ?_)
  obtain ⟨h19, e20, f⟩ := ob f
  refine o_pRF S hin2 lp0_init_24 (Or.inr ⟨_, rfl⟩) I e20 dX0_init_43 (fun H locs I => ?_)
  refine lv_aload_n S.1 S.2.1 dX0_init_46 rfl (lv_at hl 0 rfl) ?_
  refine lv_bipush (v := 25) S.1 S.2.1 dX0_init_47 (by decide) ?_
  obtain ⟨h21, e22, f⟩ := ob f
  refine o_newI S (List.mem_cons_of_mem _ wT_3_21) I hAn (N := 25) e22 (by decide) (by decide) (Nat.le_of_ble_eq_true rfl) (Nat.le_of_ble_eq_true rfl) (Nat.le_of_ble_eq_true rfl) dX0_init_49 (fun H I => ?_)
  obtain ⟨h23, e24, f⟩ := ob f
  refine o_pRF S hin2 lp0_init_27 (Or.inr ⟨_, rfl⟩) I e24 dX0_init_51 (fun H locs I => ?_)
  refine lv_aload_n S.1 S.2.1 dX0_init_54 rfl (lv_at hl 0 rfl) ?_
  refine lv_bipush (v := 29) S.1 S.2.1 dX0_init_55 (by decide) ?_
  obtain ⟨h25, e26, f⟩ := ob f
  refine o_newI S (List.mem_cons_of_mem _ wT_3_21) I hAn (N := 29) e26 (by decide) (by decide) (Nat.le_of_ble_eq_true rfl) (Nat.le_of_ble_eq_true rfl) (Nat.le_of_ble_eq_true rfl) dX0_init_57 (fun H I => ?_)
  obtain ⟨h27, e28, f⟩ := ob f
  refine o_pRF S hin2 lp0_init_30 (Or.inr ⟨_, rfl⟩) I e28 dX0_init_59 (fun H locs I => ?_)
  refine lv_aload_n S.1 S.2.1 dX0_init_62 rfl (lv_at hl 0 rfl) ?_
  refine lv_bipush (v := 28) S.1 S.2.1 dX0_init_63 (by decide) ?_
  obtain ⟨h29, e30, f⟩ := ob f
  refine o_newI S (List.mem_cons_of_mem _ wT_3_21) I hAn (N := 28) e30 (by decide) (by decide) (Nat.le_of_ble_eq_true rfl) (Nat.le_of_ble_eq_true rfl) (Nat.le_of_ble_eq_true rfl) dX0_init_65 (fun H I => ?_)
  obtain ⟨h31, e32, f⟩ := ob f
  refine o_pRF S hin2 lp0_init_33 (Or.inr ⟨_, rfl⟩) I e32 dX0_init_67 (fun H locs I => ?_)
  refine lv_aload_n S.1 S.2.1 dX0_init_70 rfl (lv_at hl 0 rfl) ?_
  refine lv_bipush (v := 28) S.1 S.2.1 dX0_init_71 (by decide) ?_
  obtain ⟨h33, e34, f⟩ := ob f
  refine o_newZ S (List.mem_cons_of_mem _ wT_8_19) I hAn (N := 28) e34 (by decide) (by decide) (Nat.le_of_ble_eq_true rfl) (Nat.le_of_ble_eq_true rfl) (Nat.le_of_ble_eq_true rfl) dX0_init_73 (fun H I => ?_)
  obtain ⟨h35, e36, f⟩ := ob f
  refine o_pRF S hin2 lp0_init_36 (Or.inr ⟨_, rfl⟩) I e36 dX0_init_75 (fun H locs I => ?_)
  refine lv_aload_n S.1 S.2.1 dX0_init_78 rfl (lv_at hl 0 rfl) ?_
  refine lv_bipush (v := 28) S.1 S.2.1 dX0_init_79 (by decide) ?_
  obtain ⟨h37, e38, f⟩ := ob f
  refine o_newI S (List.mem_cons_of_mem _ wT_3_21) I hAn (N := 28) e38 (by decide) (by decide) (Nat.le_of_ble_eq_true rfl) (Nat.le_of_ble_eq_true rfl) (Nat.le_of_ble_eq_true rfl) dX0_init_81 (fun H I => ?_)
  obtain ⟨h39, e40, f⟩ := ob f
  refine o_pRF S hin2 lp0_init_40 (Or.inr ⟨_, rfl⟩) I e40 dX0_init_83 (fun H locs I => ?_)
  exact o_vret S hr hlo I f dX0_init_86
theorem M0_init (l : Launch) (D : va_G) (cy : Nat → ClassId) (b : Nat) (A : Nat → Prop) (hAn : ∀ q, b ≤ q → A q) {h : PH} {a0 : Nat} {out : PH} (f : F0_init h a0 = some out) : Met l yX0_init vX0_init ({ frames := 1, cells := 10, slots := 758, locals := 20 } : Room) (va_Pc [.ref (b + a0)] (ph_B D cy b A true h)) (va_Qv (fun (u : PH) => u = out) (ph_B D cy b A true) A) 10 758 A :=
  o_met (by decide) rfl (Nat.le_of_ble_eq_true rfl) rfl (fun p e s m below meth c S hr hlo hnm ls hl I => T0_init_0 S hr hlo hnm hAn ((gd f).2) I (lv_sub hl [0] rfl))
def vX11_init : List Cond := .code yX11_init cX11_init 1 none :: TB
theorem lp11_init_11 : PlF vX11_init RX11 11 11 0 (.array .byte) := ⟨RX11, TX11, 14, tyX11, rfl, by decide, (fun w h9 => List.mem_cons_of_mem _ (wC_wsX110 w h9)), (List.mem_cons_of_mem _ wT_1_14), tyX11_ok, nmX11, rfl, rfl, rfl⟩
theorem ln11_init_15 : Nl vX11_init RX11 15 8 14 zF8 := ⟨RX8, TX8, tyX8, rfl, (fun w h9 => List.mem_cons_of_mem _ (wC_wsX80 w h9)), tyX8_ok, (List.mem_cons_of_mem _ wT_1_15), (List.mem_cons_of_mem _ wT_1_16), (List.mem_cons_of_mem _ wT_1_17), zF8_ok⟩
theorem gX11_init_X8_init : GoodIn vX11_init vX8_init := gI_of wT_3_1
theorem lp11_init_18 : Pl vX11_init RX11 18 11 3 (.object "WhoseWave$Told") := ⟨RX11, TX11, 14, tyX11, rfl, by decide, (fun w h9 => List.mem_cons_of_mem _ (wC_wsX110 w h9)), (List.mem_cons_of_mem _ wT_1_18), tyX11_ok, nmX11, rfl, rfl⟩
theorem lp11_init_22 : Pl vX11_init RX11 22 11 4 (.object "WhoseWave$Told") := ⟨RX11, TX11, 14, tyX11, rfl, by decide, (fun w h9 => List.mem_cons_of_mem _ (wC_wsX110 w h9)), (List.mem_cons_of_mem _ wT_1_19), tyX11_ok, nmX11, rfl, rfl⟩
theorem ln11_init_25 : Nl vX11_init RX11 25 5 11 zF5 := ⟨RX5, TX5, tyX5, rfl, (fun w h9 => List.mem_cons_of_mem _ (wC_wsX50 w h9)), tyX5_ok, (List.mem_cons_of_mem _ wT_1_20), (List.mem_cons_of_mem _ wT_1_21), (List.mem_cons_of_mem _ wT_1_22), zF5_ok⟩
theorem lf11_init_22 : Fl vX11_init RX11 22 11 4 := ⟨RX11, TX11, 14, rfl, by decide, (fun w h9 => List.mem_cons_of_mem _ (wC_wsX110 w h9)), (List.mem_cons_of_mem _ wT_1_19)⟩
theorem gX11_init_X5_init : GoodIn vX11_init vX5_init := gI_of wT_4_21
theorem lp11_init_30 : PlF vX11_init RX11 30 11 2 (.object "WhoseWave$Reader") := ⟨RX11, TX11, 14, tyX11, rfl, by decide, (fun w h9 => List.mem_cons_of_mem _ (wC_wsX110 w h9)), (List.mem_cons_of_mem _ wT_1_23), tyX11_ok, nmX11, rfl, rfl, rfl⟩
theorem ln11_init_34 : Nl vX11_init RX11 34 6 9 zF6 := ⟨RX6, TX6, tyX6, rfl, (fun w h9 => List.mem_cons_of_mem _ (wC_wsX60 w h9)), tyX6_ok, (List.mem_cons_of_mem _ wT_2_0), (List.mem_cons_of_mem _ wT_2_1), (List.mem_cons_of_mem _ wT_2_2), zF6_ok⟩
theorem lf11_init_18 : Fl vX11_init RX11 18 11 3 := ⟨RX11, TX11, 14, rfl, by decide, (fun w h9 => List.mem_cons_of_mem _ (wC_wsX110 w h9)), (List.mem_cons_of_mem _ wT_1_18)⟩
theorem gX11_init_X6_init : GoodIn vX11_init vX6_init := gI_of wT_7_13
theorem lp11_init_37 : PlF vX11_init RX11 37 11 5 (.object "WhoseWave$Surf") := ⟨RX11, TX11, 14, tyX11, rfl, by decide, (fun w h9 => List.mem_cons_of_mem _ (wC_wsX110 w h9)), (List.mem_cons_of_mem _ wT_2_3), tyX11_ok, nmX11, rfl, rfl, rfl⟩
theorem lp11_init_41 : PlF vX11_init RX11 41 11 6 (.object "WhoseWave$Surf") := ⟨RX11, TX11, 14, tyX11, rfl, by decide, (fun w h9 => List.mem_cons_of_mem _ (wC_wsX110 w h9)), (List.mem_cons_of_mem _ wT_2_4), tyX11_ok, nmX11, rfl, rfl, rfl⟩
theorem ln11_init_44 : Nl vX11_init RX11 44 4 11 zF4 := ⟨RX4, TX4, tyX4, rfl, (fun w h9 => List.mem_cons_of_mem _ (wC_wsX40 w h9)), tyX4_ok, (List.mem_cons_of_mem _ wT_2_5), (List.mem_cons_of_mem _ wT_2_6), (List.mem_cons_of_mem _ wT_2_7), zF4_ok⟩
theorem gX11_init_X4_init : GoodIn vX11_init vX4_init := gI_of wT_8_2
theorem lp11_init_47 : PlF vX11_init RX11 47 11 7 (.object "WhoseWave$Now") := ⟨RX11, TX11, 14, tyX11, rfl, by decide, (fun w h9 => List.mem_cons_of_mem _ (wC_wsX110 w h9)), (List.mem_cons_of_mem _ wT_2_8), tyX11_ok, nmX11, rfl, rfl, rfl⟩
theorem lp11_init_51 : PlF vX11_init RX11 51 11 8 (.object "WhoseWave$Now") := ⟨RX11, TX11, 14, tyX11, rfl, by decide, (fun w h9 => List.mem_cons_of_mem _ (wC_wsX110 w h9)), (List.mem_cons_of_mem _ wT_2_9), tyX11_ok, nmX11, rfl, rfl, rfl⟩
theorem lp11_init_54 : PlF vX11_init RX11 54 11 9 (.object "WhoseWave$Now") := ⟨RX11, TX11, 14, tyX11, rfl, by decide, (fun w h9 => List.mem_cons_of_mem _ (wC_wsX110 w h9)), (List.mem_cons_of_mem _ wT_2_10), tyX11_ok, nmX11, rfl, rfl, rfl⟩
theorem ln11_init_57 : Nl vX11_init RX11 57 3 7 zF3 := ⟨RX3, TX3, tyX3, rfl, (fun w h9 => List.mem_cons_of_mem _ (wC_wsX30 w h9)), tyX3_ok, (List.mem_cons_of_mem _ wT_2_11), (List.mem_cons_of_mem _ wT_2_12), (List.mem_cons_of_mem _ wT_2_13), zF3_ok⟩
theorem gX11_init_X3_init : GoodIn vX11_init vX3_init := gI_of wT_8_12
theorem lp11_init_60 : PlF vX11_init RX11 60 11 11 (.object "WhoseWave$Notes") := ⟨RX11, TX11, 14, tyX11, rfl, by decide, (fun w h9 => List.mem_cons_of_mem _ (wC_wsX110 w h9)), (List.mem_cons_of_mem _ wT_2_14), tyX11_ok, nmX11, rfl, rfl, rfl⟩
theorem ln11_init_64 : Nl vX11_init RX11 64 9 3 zF9 := ⟨RX9, TX9, tyX9, rfl, (fun w h9 => List.mem_cons_of_mem _ (wC_wsX90 w h9)), tyX9_ok, (List.mem_cons_of_mem _ wT_2_15), (List.mem_cons_of_mem _ wT_2_16), (List.mem_cons_of_mem _ wT_2_17), zF9_ok⟩
theorem gX11_init_X9_init : GoodIn vX11_init vX9_init := gI_of wT_8_23
theorem lp11_init_67 : PlF vX11_init RX11 67 11 12 (.object "WhoseWave$Undos") := ⟨RX11, TX11, 14, tyX11, rfl, by decide, (fun w h9 => List.mem_cons_of_mem _ (wC_wsX110 w h9)), (List.mem_cons_of_mem _ wT_2_18), tyX11_ok, nmX11, rfl, rfl, rfl⟩
theorem ln11_init_71 : Nl vX11_init RX11 71 0 13 zF0 := ⟨RX0, TX0, tyX0, rfl, (fun w h9 => List.mem_cons_of_mem _ (wC_wsX00 w h9)), tyX0_ok, (List.mem_cons_of_mem _ wT_2_19), (List.mem_cons_of_mem _ wT_2_20), (List.mem_cons_of_mem _ wT_2_21), zF0_ok⟩
theorem gX11_init_X0_init : GoodIn vX11_init vX0_init := gI_of wT_9_5
theorem lp11_init_74 : PlF vX11_init RX11 74 11 13 (.object "WhoseWave$Choices") := ⟨RX11, TX11, 14, tyX11, rfl, by decide, (fun w h9 => List.mem_cons_of_mem _ (wC_wsX110 w h9)), (List.mem_cons_of_mem _ wT_2_22), tyX11_ok, nmX11, rfl, rfl, rfl⟩
set_option maxHeartbeats 4000000 in
set_option maxRecDepth 100000 in
theorem T11_init_0 (S : CallFix p m c cX11_init 1 s args vX11_init RX11) (hr : meth.sig.returnType = none) (hlo : meth.locks = false) (hin2 : meth.name = "<init>") (hAn : ∀ q, b ≤ q → A q) {out : PH} {h : PH} {a0 : Nat} (f : F11_init_0  h a0 = some out) {H : Heap} {locs : List Loc} (I : ph_I D cy b A true h s H locs) {ls : Array Slot} (hl : lv_has ls 1 [(0, .ref (b + a0))]) : W p l e ({ frames := 6, cells := 109, slots := 2977, locals := 144 } : Room) s m args below meth c H locs 0 0 (MQ below (va_Qv (fun (u : PH) => u = out) (ph_B D cy b A true) A) args s 109 2977 A) (F0 m 0 ls []) := by
  unfold F11_init_0 at f
  refine lv_aload_n S.1 S.2.1 dX11_init_0 rfl (lv_at hl 0 rfl) ?_
  refine o_objI S (List.mem_cons_of_mem _ wT_1_10) (List.mem_cons_of_mem _ wT_1_11) (List.mem_cons_of_mem _ wT_1_12) hl.1 dX11_init_1 (Nat.le_of_ble_eq_true rfl) (Nat.le_of_ble_eq_true rfl) ?_
  refine lv_aload_n S.1 S.2.1 dX11_init_4 rfl (lv_at hl 0 rfl) ?_
  refine lv_sipush (v := 700) S.1 S.2.1 dX11_init_5 (by decide) ?_
  obtain ⟨h1, e2, f⟩ := ob f
  refine o_newB S (List.mem_cons_of_mem _ wT_1_13) I hAn (N := 700) e2 (by decide) (by decide) (Nat.le_of_ble_eq_true rfl) (Nat.le_of_ble_eq_true rfl) (Nat.le_of_ble_eq_true rfl) dX11_init_8 (fun H I => ?_)
  obtain ⟨h3, e4, f⟩ := ob f
  refine o_pRF S hin2 lp11_init_11 (Or.inr ⟨_, rfl⟩) I e4 dX11_init_10 (fun H locs I => ?_)
  refine lv_aload_n S.1 S.2.1 dX11_init_13 rfl (lv_at hl 0 rfl) ?_
  obtain ⟨h5, e6, f⟩ := ob f
  refine o_new S ln11_init_15 I hAn e6 (Nat.le_of_ble_eq_true rfl) (Nat.le_of_ble_eq_true rfl) dX11_init_14 (fun H I => ?_)
  refine lv_dup S.1 S.2.1 dX11_init_17 rfl ?_
  obtain ⟨o7, e8, f⟩ := ob f
  refine o_Iv S (As := []) (rest := [.ref (b + h3.length), .ref (b + a0)]) (M8_init l D cy b A hAn e8) gX11_init_X8_init ⟨(List.mem_cons_of_mem _ wT_1_17), (List.mem_cons_of_mem _ wT_2_23), (List.mem_cons_of_mem _ wT_3_0)⟩ rfl rfl rfl rfl cd8_init ⟨Nat.le_of_ble_eq_true rfl, Nat.le_of_ble_eq_true rfl⟩ I rfl hl.1 rfl (Nat.le_of_ble_eq_true rfl) dX11_init_18 ⟨Nat.le_of_ble_eq_true rfl, Nat.le_of_ble_eq_true rfl⟩ (fun H locs I => ?_)
  obtain ⟨h9, e10, f⟩ := ob f
  refine o_pR S lp11_init_18 (Or.inl ⟨_, rfl⟩) I e10 dX11_init_21 (fun H locs I => ?_)
  refine lv_aload_n S.1 S.2.1 dX11_init_24 rfl (lv_at hl 0 rfl) ?_
  obtain ⟨h11, e12, f⟩ := ob f
  refine o_new S ln11_init_15 I hAn e12 (Nat.le_of_ble_eq_true rfl) (Nat.le_of_ble_eq_true rfl) dX11_init_25 (fun H I => ?_)
  refine lv_dup S.1 S.2.1 dX11_init_28 rfl ?_
  obtain ⟨o13, e14, f⟩ := ob f
  refine o_Iv S (As := []) (rest := [.ref (b + h9.length), .ref (b + a0)]) (M8_init l D cy b A hAn e14) gX11_init_X8_init ⟨(List.mem_cons_of_mem _ wT_1_17), (List.mem_cons_of_mem _ wT_2_23), (List.mem_cons_of_mem _ wT_3_0)⟩ rfl rfl rfl rfl cd8_init ⟨Nat.le_of_ble_eq_true rfl, Nat.le_of_ble_eq_true rfl⟩ I rfl hl.1 rfl (Nat.le_of_ble_eq_true rfl) dX11_init_29 ⟨Nat.le_of_ble_eq_true rfl, Nat.le_of_ble_eq_true rfl⟩ (fun H locs I => ?_)
  obtain ⟨h15, e16, f⟩ := ob f
  refine o_pR S lp11_init_22 (Or.inl ⟨_, rfl⟩) I e16 dX11_init_32 (fun H locs I => ?_)
  refine lv_aload_n S.1 S.2.1 dX11_init_35 rfl (lv_at hl 0 rfl) ?_
  obtain ⟨h17, e18, f⟩ := ob f
  refine o_new S ln11_init_25 I hAn e18 (Nat.le_of_ble_eq_true rfl) (Nat.le_of_ble_eq_true rfl) dX11_init_36 (fun H I => ?_)
  refine lv_dup S.1 S.2.1 dX11_init_39 rfl ?_
  refine lv_aload_n S.1 S.2.1 dX11_init_40 rfl (lv_at hl 0 rfl) ?_
  obtain ⟨r19, e20, f⟩ := ob f
  refine o_gR S lf11_init_22 I e20 dX11_init_41 ?_
  obtain ⟨o21, e22, f⟩ := ob f
  refine o_Iv S (As := [.ref (b + r19)]) (rest := [.ref (b + h15.length), .ref (b + a0)]) (M5_init l D cy b A hAn e22) gX11_init_X5_init ⟨(List.mem_cons_of_mem _ wT_1_22), (List.mem_cons_of_mem _ wT_4_19), (List.mem_cons_of_mem _ wT_4_20)⟩ rfl rfl rfl rfl cd5_init ⟨Nat.le_of_ble_eq_true rfl, Nat.le_of_ble_eq_true rfl⟩ I rfl hl.1 rfl (Nat.le_of_ble_eq_true rfl) dX11_init_44 ⟨Nat.le_of_ble_eq_true rfl, Nat.le_of_ble_eq_true rfl⟩ (fun H locs I => ?_)
  obtain ⟨h23, e24, f⟩ := ob f
  refine o_pRF S hin2 lp11_init_30 (Or.inl ⟨_, rfl⟩) I e24 dX11_init_47 (fun H locs I => ?_)
  refine lv_aload_n S.1 S.2.1 dX11_init_50 rfl (lv_at hl 0 rfl) ?_
  obtain ⟨h25, e26, f⟩ := ob f
  refine o_new S ln11_init_34 I hAn e26 (Nat.le_of_ble_eq_true rfl) (Nat.le_of_ble_eq_true rfl) dX11_init_51 (fun H I => ?_)
  refine lv_dup S.1 S.2.1 dX11_init_54 rfl ?_
  refine lv_aload_n S.1 S.2.1 dX11_init_55 rfl (lv_at hl 0 rfl) ?_
  obtain ⟨r27, e28, f⟩ := ob f
  refine o_gR S lf11_init_18 I e28 dX11_init_56 ?_
  obtain ⟨o29, e30, f⟩ := ob f
  refine o_Iv S (As := [.ref (b + r27)]) (rest := [.ref (b + h23.length), .ref (b + a0)]) (M6_init l D cy b A hAn e30) gX11_init_X6_init ⟨(List.mem_cons_of_mem _ wT_2_2), (List.mem_cons_of_mem _ wT_7_11), (List.mem_cons_of_mem _ wT_7_12)⟩ rfl rfl rfl rfl cd6_init ⟨Nat.le_of_ble_eq_true rfl, Nat.le_of_ble_eq_true rfl⟩ I rfl hl.1 rfl (Nat.le_of_ble_eq_true rfl) dX11_init_59 ⟨Nat.le_of_ble_eq_true rfl, Nat.le_of_ble_eq_true rfl⟩ (fun H locs I => ?_)
  obtain ⟨h31, e32, f⟩ := ob f
  refine o_pRF S hin2 lp11_init_37 (Or.inl ⟨_, rfl⟩) I e32 dX11_init_62 (fun H locs I => ?_)
  refine lv_aload_n S.1 S.2.1 dX11_init_65 rfl (lv_at hl 0 rfl) ?_
  obtain ⟨h33, e34, f⟩ := ob f
  refine o_new S ln11_init_34 I hAn e34 (Nat.le_of_ble_eq_true rfl) (Nat.le_of_ble_eq_true rfl) dX11_init_66 (fun H I => ?_)
  refine lv_dup S.1 S.2.1 dX11_init_69 rfl ?_
  refine lv_aload_n S.1 S.2.1 dX11_init_70 rfl (lv_at hl 0 rfl) ?_
  obtain ⟨r35, e36, f⟩ := ob f
  refine o_gR S lf11_init_18 I e36 dX11_init_71 ?_
  obtain ⟨o37, e38, f⟩ := ob f
  refine o_Iv S (As := [.ref (b + r35)]) (rest := [.ref (b + h31.length), .ref (b + a0)]) (M6_init l D cy b A hAn e38) gX11_init_X6_init ⟨(List.mem_cons_of_mem _ wT_2_2), (List.mem_cons_of_mem _ wT_7_11), (List.mem_cons_of_mem _ wT_7_12)⟩ rfl rfl rfl rfl cd6_init ⟨Nat.le_of_ble_eq_true rfl, Nat.le_of_ble_eq_true rfl⟩ I rfl hl.1 rfl (Nat.le_of_ble_eq_true rfl) dX11_init_74 ⟨Nat.le_of_ble_eq_true rfl, Nat.le_of_ble_eq_true rfl⟩ (fun H locs I => ?_)
  obtain ⟨h39, e40, f⟩ := ob f
  refine o_pRF S hin2 lp11_init_41 (Or.inl ⟨_, rfl⟩) I e40 dX11_init_77 (fun H locs I => ?_)
  refine lv_aload_n S.1 S.2.1 dX11_init_80 rfl (lv_at hl 0 rfl) ?_
  obtain ⟨h41, e42, f⟩ := ob f
  refine o_new S ln11_init_44 I hAn e42 (Nat.le_of_ble_eq_true rfl) (Nat.le_of_ble_eq_true rfl) dX11_init_81 (fun H I => ?_)
  refine lv_dup S.1 S.2.1 dX11_init_84 rfl ?_
  obtain ⟨o43, e44, f⟩ := ob f
  refine o_Iv S (As := []) (rest := [.ref (b + h39.length), .ref (b + a0)]) (M4_init l D cy b A hAn e44) gX11_init_X4_init ⟨(List.mem_cons_of_mem _ wT_2_7), (List.mem_cons_of_mem _ wT_8_0), (List.mem_cons_of_mem _ wT_8_1)⟩ rfl rfl rfl rfl cd4_init ⟨Nat.le_of_ble_eq_true rfl, Nat.le_of_ble_eq_true rfl⟩ I rfl hl.1 rfl (Nat.le_of_ble_eq_true rfl) dX11_init_85 ⟨Nat.le_of_ble_eq_true rfl, Nat.le_of_ble_eq_true rfl⟩ (fun H locs I => ?_)
  obtain ⟨h45, e46, f⟩ := ob f
  refine o_pRF S hin2 lp11_init_47 (Or.inl ⟨_, rfl⟩) I e46 dX11_init_88 (fun H locs I => ?_)
  refine lv_aload_n S.1 S.2.1 dX11_init_91 rfl (lv_at hl 0 rfl) ?_
  obtain ⟨h47, e48, f⟩ := ob f
  refine o_new S ln11_init_44 I hAn e48 (Nat.le_of_ble_eq_true rfl) (Nat.le_of_ble_eq_true rfl) dX11_init_92 (fun H I => ?_)
  refine lv_dup S.1 S.2.1 dX11_init_95 rfl ?_
  obtain ⟨o49, e50, f⟩ := ob f
  refine o_Iv S (As := []) (rest := [.ref (b + h45.length), .ref (b + a0)]) (M4_init l D cy b A hAn e50) gX11_init_X4_init ⟨(List.mem_cons_of_mem _ wT_2_7), (List.mem_cons_of_mem _ wT_8_0), (List.mem_cons_of_mem _ wT_8_1)⟩ rfl rfl rfl rfl cd4_init ⟨Nat.le_of_ble_eq_true rfl, Nat.le_of_ble_eq_true rfl⟩ I rfl hl.1 rfl (Nat.le_of_ble_eq_true rfl) dX11_init_96 ⟨Nat.le_of_ble_eq_true rfl, Nat.le_of_ble_eq_true rfl⟩ (fun H locs I => ?_)
  obtain ⟨h51, e52, f⟩ := ob f
  refine o_pRF S hin2 lp11_init_51 (Or.inl ⟨_, rfl⟩) I e52 dX11_init_99 (fun H locs I => ?_)
  refine lv_aload_n S.1 S.2.1 dX11_init_102 rfl (lv_at hl 0 rfl) ?_
  obtain ⟨h53, e54, f⟩ := ob f
  refine o_new S ln11_init_44 I hAn e54 (Nat.le_of_ble_eq_true rfl) (Nat.le_of_ble_eq_true rfl) dX11_init_103 (fun H I => ?_)
  refine lv_dup S.1 S.2.1 dX11_init_106 rfl ?_
  obtain ⟨o55, e56, f⟩ := ob f
  refine o_Iv S (As := []) (rest := [.ref (b + h51.length), .ref (b + a0)]) (M4_init l D cy b A hAn e56) gX11_init_X4_init ⟨(List.mem_cons_of_mem _ wT_2_7), (List.mem_cons_of_mem _ wT_8_0), (List.mem_cons_of_mem _ wT_8_1)⟩ rfl rfl rfl rfl cd4_init ⟨Nat.le_of_ble_eq_true rfl, Nat.le_of_ble_eq_true rfl⟩ I rfl hl.1 rfl (Nat.le_of_ble_eq_true rfl) dX11_init_107 ⟨Nat.le_of_ble_eq_true rfl, Nat.le_of_ble_eq_true rfl⟩ (fun H locs I => ?_)
  obtain ⟨h57, e58, f⟩ := ob f
  refine o_pRF S hin2 lp11_init_54 (Or.inl ⟨_, rfl⟩) I e58 dX11_init_110 (fun H locs I => ?_)
  refine lv_aload_n S.1 S.2.1 dX11_init_113 rfl (lv_at hl 0 rfl) ?_
  obtain ⟨h59, e60, f⟩ := ob f
  refine o_new S ln11_init_57 I hAn e60 (Nat.le_of_ble_eq_true rfl) (Nat.le_of_ble_eq_true rfl) dX11_init_114 (fun H I => ?_)
  refine lv_dup S.1 S.2.1 dX11_init_117 rfl ?_
  obtain ⟨o61, e62, f⟩ := ob f
  refine o_Iv S (As := []) (rest := [.ref (b + h57.length), .ref (b + a0)]) (M3_init l D cy b A hAn e62) gX11_init_X3_init ⟨(List.mem_cons_of_mem _ wT_2_13), (List.mem_cons_of_mem _ wT_8_10), (List.mem_cons_of_mem _ wT_8_11)⟩ rfl rfl rfl rfl cd3_init ⟨Nat.le_of_ble_eq_true rfl, Nat.le_of_ble_eq_true rfl⟩ I rfl hl.1 rfl (Nat.le_of_ble_eq_true rfl) dX11_init_118 ⟨Nat.le_of_ble_eq_true rfl, Nat.le_of_ble_eq_true rfl⟩ (fun H locs I => ?_)
  obtain ⟨h63, e64, f⟩ := ob f
  refine o_pRF S hin2 lp11_init_60 (Or.inl ⟨_, rfl⟩) I e64 dX11_init_121 (fun H locs I => ?_)
  refine lv_aload_n S.1 S.2.1 dX11_init_124 rfl (lv_at hl 0 rfl) ?_
  obtain ⟨h65, e66, f⟩ := ob f
  refine o_new S ln11_init_64 I hAn e66 (Nat.le_of_ble_eq_true rfl) (Nat.le_of_ble_eq_true rfl) dX11_init_125 (fun H I => ?_)
  refine lv_dup S.1 S.2.1 dX11_init_128 rfl ?_
  obtain ⟨o67, e68, f⟩ := ob f
  refine o_Iv S (As := []) (rest := [.ref (b + h63.length), .ref (b + a0)]) (M9_init l D cy b A hAn e68) gX11_init_X9_init ⟨(List.mem_cons_of_mem _ wT_2_17), (List.mem_cons_of_mem _ wT_8_21), (List.mem_cons_of_mem _ wT_8_22)⟩ rfl rfl rfl rfl cd9_init ⟨Nat.le_of_ble_eq_true rfl, Nat.le_of_ble_eq_true rfl⟩ I rfl hl.1 rfl (Nat.le_of_ble_eq_true rfl) dX11_init_129 ⟨Nat.le_of_ble_eq_true rfl, Nat.le_of_ble_eq_true rfl⟩ (fun H locs I => ?_)
  obtain ⟨h69, e70, f⟩ := ob f
  refine o_pRF S hin2 lp11_init_67 (Or.inl ⟨_, rfl⟩) I e70 dX11_init_132 (fun H locs I => ?_)
  refine lv_aload_n S.1 S.2.1 dX11_init_135 rfl (lv_at hl 0 rfl) ?_
  obtain ⟨h71, e72, f⟩ := ob f
  refine o_new S ln11_init_71 I hAn e72 (Nat.le_of_ble_eq_true rfl) (Nat.le_of_ble_eq_true rfl) dX11_init_136 (fun H I => ?_)
  refine lv_dup S.1 S.2.1 dX11_init_139 rfl ?_
  obtain ⟨o73, e74, f⟩ := ob f
  refine o_Iv S (As := []) (rest := [.ref (b + h69.length), .ref (b + a0)]) (M0_init l D cy b A hAn e74) gX11_init_X0_init ⟨(List.mem_cons_of_mem _ wT_2_21), (List.mem_cons_of_mem _ wT_9_3), (List.mem_cons_of_mem _ wT_9_4)⟩ rfl rfl rfl rfl cd0_init ⟨Nat.le_of_ble_eq_true rfl, Nat.le_of_ble_eq_true rfl⟩ I rfl hl.1 rfl (Nat.le_of_ble_eq_true rfl) dX11_init_140 ⟨Nat.le_of_ble_eq_true rfl, Nat.le_of_ble_eq_true rfl⟩ (fun H locs I => ?_)
  obtain ⟨h75, e76, f⟩ := ob f
  refine o_pRF S hin2 lp11_init_74 (Or.inl ⟨_, rfl⟩) I e76 dX11_init_143 (fun H locs I => ?_)
  exact o_vret S hr hlo I f dX11_init_146
theorem M11_init (l : Launch) (D : va_G) (cy : Nat → ClassId) (b : Nat) (A : Nat → Prop) (hAn : ∀ q, b ≤ q → A q) {h : PH} {a0 : Nat} {out : PH} (f : F11_init h a0 = some out) : Met l yX11_init vX11_init ({ frames := 6, cells := 109, slots := 2977, locals := 144 } : Room) (va_Pc [.ref (b + a0)] (ph_B D cy b A true h)) (va_Qv (fun (u : PH) => u = out) (ph_B D cy b A true) A) 109 2977 A :=
  o_met (by decide) rfl (Nat.le_of_ble_eq_true rfl) rfl (fun p e s m below meth c S hr hlo hnm ls hl I => T11_init_0 S hr hlo hnm hAn ((gd f).2) I (lv_sub hl [0] rfl))
end
theorem zd_dX12_init_0 : sg (cX12_init.data.toList.drop 0) [[42], [183, 0, 1], [42], [17, 2, 188], [188, 10], [181, 0, 7], [42], [16, 120], [188, 10], [89], [3], [16, 115], [79], [89], [4], [16, 101], [79], [89], [5], [16, 97]] = true := by decide +kernel
theorem dX12_init_0 : decode cX12_init 0 = .ok (.aload_n 0, 1) := dc_42 (sg_at zd_dX12_init_0 0 rfl rfl)
theorem dX12_init_1 : decode cX12_init 1 = .ok (.invokespecial 1, 3) := dc_183 (sg_at zd_dX12_init_0 1 rfl rfl) rfl
theorem dX12_init_4 : decode cX12_init 4 = .ok (.aload_n 0, 1) := dc_42 (sg_at zd_dX12_init_0 2 rfl rfl)
theorem dX12_init_5 : decode cX12_init 5 = .ok (.sipush 700, 3) := dc_17 (sg_at zd_dX12_init_0 3 rfl rfl) rfl
theorem dX12_init_8 : decode cX12_init 8 = .ok (.newarray .int, 2) := dc_188_10 (sg_at zd_dX12_init_0 4 rfl rfl)
theorem dX12_init_10 : decode cX12_init 10 = .ok (.putfield 7, 3) := dc_181 (sg_at zd_dX12_init_0 5 rfl rfl) rfl
theorem dX12_init_13 : decode cX12_init 13 = .ok (.aload_n 0, 1) := dc_42 (sg_at zd_dX12_init_0 6 rfl rfl)
theorem dX12_init_14 : decode cX12_init 14 = .ok (.bipush 120, 2) := dc_16 (sg_at zd_dX12_init_0 7 rfl rfl) rfl
theorem dX12_init_16 : decode cX12_init 16 = .ok (.newarray .int, 2) := dc_188_10 (sg_at zd_dX12_init_0 8 rfl rfl)
theorem dX12_init_18 : decode cX12_init 18 = .ok (.dup, 1) := dc_89 (sg_at zd_dX12_init_0 9 rfl rfl)
theorem dX12_init_19 : decode cX12_init 19 = .ok (.iconst 0, 1) := dc_3 (sg_at zd_dX12_init_0 10 rfl rfl)
theorem dX12_init_20 : decode cX12_init 20 = .ok (.bipush 115, 2) := dc_16 (sg_at zd_dX12_init_0 11 rfl rfl) rfl
theorem dX12_init_22 : decode cX12_init 22 = .ok (.iastore, 1) := dc_79 (sg_at zd_dX12_init_0 12 rfl rfl)
theorem dX12_init_23 : decode cX12_init 23 = .ok (.dup, 1) := dc_89 (sg_at zd_dX12_init_0 13 rfl rfl)
theorem dX12_init_24 : decode cX12_init 24 = .ok (.iconst 1, 1) := dc_4 (sg_at zd_dX12_init_0 14 rfl rfl)
theorem dX12_init_25 : decode cX12_init 25 = .ok (.bipush 101, 2) := dc_16 (sg_at zd_dX12_init_0 15 rfl rfl) rfl
theorem dX12_init_27 : decode cX12_init 27 = .ok (.iastore, 1) := dc_79 (sg_at zd_dX12_init_0 16 rfl rfl)
theorem dX12_init_28 : decode cX12_init 28 = .ok (.dup, 1) := dc_89 (sg_at zd_dX12_init_0 17 rfl rfl)
theorem dX12_init_29 : decode cX12_init 29 = .ok (.iconst 2, 1) := dc_5 (sg_at zd_dX12_init_0 18 rfl rfl)
theorem dX12_init_30 : decode cX12_init 30 = .ok (.bipush 97, 2) := dc_16 (sg_at zd_dX12_init_0 19 rfl rfl) rfl
theorem zd_dX12_init_32 : sg (cX12_init.data.toList.drop 32) [[79], [89], [6], [16, 32], [79], [89], [7], [16, 112], [79], [89], [8], [16, 101], [79], [89], [16, 6], [16, 97], [79], [89], [16, 7], [16, 107]] = true := by decide +kernel
theorem dX12_init_32 : decode cX12_init 32 = .ok (.iastore, 1) := dc_79 (sg_at zd_dX12_init_32 0 rfl rfl)
theorem dX12_init_33 : decode cX12_init 33 = .ok (.dup, 1) := dc_89 (sg_at zd_dX12_init_32 1 rfl rfl)
theorem dX12_init_34 : decode cX12_init 34 = .ok (.iconst 3, 1) := dc_6 (sg_at zd_dX12_init_32 2 rfl rfl)
theorem dX12_init_35 : decode cX12_init 35 = .ok (.bipush 32, 2) := dc_16 (sg_at zd_dX12_init_32 3 rfl rfl) rfl
theorem dX12_init_37 : decode cX12_init 37 = .ok (.iastore, 1) := dc_79 (sg_at zd_dX12_init_32 4 rfl rfl)
theorem dX12_init_38 : decode cX12_init 38 = .ok (.dup, 1) := dc_89 (sg_at zd_dX12_init_32 5 rfl rfl)
theorem dX12_init_39 : decode cX12_init 39 = .ok (.iconst 4, 1) := dc_7 (sg_at zd_dX12_init_32 6 rfl rfl)
theorem dX12_init_40 : decode cX12_init 40 = .ok (.bipush 112, 2) := dc_16 (sg_at zd_dX12_init_32 7 rfl rfl) rfl
theorem dX12_init_42 : decode cX12_init 42 = .ok (.iastore, 1) := dc_79 (sg_at zd_dX12_init_32 8 rfl rfl)
theorem dX12_init_43 : decode cX12_init 43 = .ok (.dup, 1) := dc_89 (sg_at zd_dX12_init_32 9 rfl rfl)
theorem dX12_init_44 : decode cX12_init 44 = .ok (.iconst 5, 1) := dc_8 (sg_at zd_dX12_init_32 10 rfl rfl)
theorem dX12_init_45 : decode cX12_init 45 = .ok (.bipush 101, 2) := dc_16 (sg_at zd_dX12_init_32 11 rfl rfl) rfl
theorem dX12_init_47 : decode cX12_init 47 = .ok (.iastore, 1) := dc_79 (sg_at zd_dX12_init_32 12 rfl rfl)
theorem dX12_init_48 : decode cX12_init 48 = .ok (.dup, 1) := dc_89 (sg_at zd_dX12_init_32 13 rfl rfl)
theorem dX12_init_49 : decode cX12_init 49 = .ok (.bipush 6, 2) := dc_16 (sg_at zd_dX12_init_32 14 rfl rfl) rfl
theorem dX12_init_51 : decode cX12_init 51 = .ok (.bipush 97, 2) := dc_16 (sg_at zd_dX12_init_32 15 rfl rfl) rfl
theorem dX12_init_53 : decode cX12_init 53 = .ok (.iastore, 1) := dc_79 (sg_at zd_dX12_init_32 16 rfl rfl)
theorem dX12_init_54 : decode cX12_init 54 = .ok (.dup, 1) := dc_89 (sg_at zd_dX12_init_32 17 rfl rfl)
theorem dX12_init_55 : decode cX12_init 55 = .ok (.bipush 7, 2) := dc_16 (sg_at zd_dX12_init_32 18 rfl rfl) rfl
theorem dX12_init_57 : decode cX12_init 57 = .ok (.bipush 107, 2) := dc_16 (sg_at zd_dX12_init_32 19 rfl rfl) rfl
theorem zd_dX12_init_59 : sg (cX12_init.data.toList.drop 59) [[79], [89], [16, 8], [16, 32], [79], [89], [16, 9], [16, 115], [79], [89], [16, 10], [16, 117], [79], [89], [16, 11], [16, 114], [79], [89], [16, 12], [16, 102]] = true := by decide +kernel
theorem dX12_init_59 : decode cX12_init 59 = .ok (.iastore, 1) := dc_79 (sg_at zd_dX12_init_59 0 rfl rfl)
theorem dX12_init_60 : decode cX12_init 60 = .ok (.dup, 1) := dc_89 (sg_at zd_dX12_init_59 1 rfl rfl)
theorem dX12_init_61 : decode cX12_init 61 = .ok (.bipush 8, 2) := dc_16 (sg_at zd_dX12_init_59 2 rfl rfl) rfl
theorem dX12_init_63 : decode cX12_init 63 = .ok (.bipush 32, 2) := dc_16 (sg_at zd_dX12_init_59 3 rfl rfl) rfl
theorem dX12_init_65 : decode cX12_init 65 = .ok (.iastore, 1) := dc_79 (sg_at zd_dX12_init_59 4 rfl rfl)
theorem dX12_init_66 : decode cX12_init 66 = .ok (.dup, 1) := dc_89 (sg_at zd_dX12_init_59 5 rfl rfl)
theorem dX12_init_67 : decode cX12_init 67 = .ok (.bipush 9, 2) := dc_16 (sg_at zd_dX12_init_59 6 rfl rfl) rfl
theorem dX12_init_69 : decode cX12_init 69 = .ok (.bipush 115, 2) := dc_16 (sg_at zd_dX12_init_59 7 rfl rfl) rfl
theorem dX12_init_71 : decode cX12_init 71 = .ok (.iastore, 1) := dc_79 (sg_at zd_dX12_init_59 8 rfl rfl)
theorem dX12_init_72 : decode cX12_init 72 = .ok (.dup, 1) := dc_89 (sg_at zd_dX12_init_59 9 rfl rfl)
theorem dX12_init_73 : decode cX12_init 73 = .ok (.bipush 10, 2) := dc_16 (sg_at zd_dX12_init_59 10 rfl rfl) rfl
theorem dX12_init_75 : decode cX12_init 75 = .ok (.bipush 117, 2) := dc_16 (sg_at zd_dX12_init_59 11 rfl rfl) rfl
theorem dX12_init_77 : decode cX12_init 77 = .ok (.iastore, 1) := dc_79 (sg_at zd_dX12_init_59 12 rfl rfl)
theorem dX12_init_78 : decode cX12_init 78 = .ok (.dup, 1) := dc_89 (sg_at zd_dX12_init_59 13 rfl rfl)
theorem dX12_init_79 : decode cX12_init 79 = .ok (.bipush 11, 2) := dc_16 (sg_at zd_dX12_init_59 14 rfl rfl) rfl
theorem dX12_init_81 : decode cX12_init 81 = .ok (.bipush 114, 2) := dc_16 (sg_at zd_dX12_init_59 15 rfl rfl) rfl
theorem dX12_init_83 : decode cX12_init 83 = .ok (.iastore, 1) := dc_79 (sg_at zd_dX12_init_59 16 rfl rfl)
theorem dX12_init_84 : decode cX12_init 84 = .ok (.dup, 1) := dc_89 (sg_at zd_dX12_init_59 17 rfl rfl)
theorem dX12_init_85 : decode cX12_init 85 = .ok (.bipush 12, 2) := dc_16 (sg_at zd_dX12_init_59 18 rfl rfl) rfl
theorem dX12_init_87 : decode cX12_init 87 = .ok (.bipush 102, 2) := dc_16 (sg_at zd_dX12_init_59 19 rfl rfl) rfl
theorem zd_dX12_init_89 : sg (cX12_init.data.toList.drop 89) [[79], [89], [16, 13], [16, 101], [79], [89], [16, 14], [16, 114], [79], [89], [16, 15], [16, 32], [79], [89], [16, 16], [16, 115], [79], [89], [16, 17], [16, 101]] = true := by decide +kernel
theorem dX12_init_89 : decode cX12_init 89 = .ok (.iastore, 1) := dc_79 (sg_at zd_dX12_init_89 0 rfl rfl)
theorem dX12_init_90 : decode cX12_init 90 = .ok (.dup, 1) := dc_89 (sg_at zd_dX12_init_89 1 rfl rfl)
theorem dX12_init_91 : decode cX12_init 91 = .ok (.bipush 13, 2) := dc_16 (sg_at zd_dX12_init_89 2 rfl rfl) rfl
theorem dX12_init_93 : decode cX12_init 93 = .ok (.bipush 101, 2) := dc_16 (sg_at zd_dX12_init_89 3 rfl rfl) rfl
theorem dX12_init_95 : decode cX12_init 95 = .ok (.iastore, 1) := dc_79 (sg_at zd_dX12_init_89 4 rfl rfl)
theorem dX12_init_96 : decode cX12_init 96 = .ok (.dup, 1) := dc_89 (sg_at zd_dX12_init_89 5 rfl rfl)
theorem dX12_init_97 : decode cX12_init 97 = .ok (.bipush 14, 2) := dc_16 (sg_at zd_dX12_init_89 6 rfl rfl) rfl
theorem dX12_init_99 : decode cX12_init 99 = .ok (.bipush 114, 2) := dc_16 (sg_at zd_dX12_init_89 7 rfl rfl) rfl
theorem dX12_init_101 : decode cX12_init 101 = .ok (.iastore, 1) := dc_79 (sg_at zd_dX12_init_89 8 rfl rfl)
theorem dX12_init_102 : decode cX12_init 102 = .ok (.dup, 1) := dc_89 (sg_at zd_dX12_init_89 9 rfl rfl)
theorem dX12_init_103 : decode cX12_init 103 = .ok (.bipush 15, 2) := dc_16 (sg_at zd_dX12_init_89 10 rfl rfl) rfl
theorem dX12_init_105 : decode cX12_init 105 = .ok (.bipush 32, 2) := dc_16 (sg_at zd_dX12_init_89 11 rfl rfl) rfl
theorem dX12_init_107 : decode cX12_init 107 = .ok (.iastore, 1) := dc_79 (sg_at zd_dX12_init_89 12 rfl rfl)
theorem dX12_init_108 : decode cX12_init 108 = .ok (.dup, 1) := dc_89 (sg_at zd_dX12_init_89 13 rfl rfl)
theorem dX12_init_109 : decode cX12_init 109 = .ok (.bipush 16, 2) := dc_16 (sg_at zd_dX12_init_89 14 rfl rfl) rfl
theorem dX12_init_111 : decode cX12_init 111 = .ok (.bipush 115, 2) := dc_16 (sg_at zd_dX12_init_89 15 rfl rfl) rfl
theorem dX12_init_113 : decode cX12_init 113 = .ok (.iastore, 1) := dc_79 (sg_at zd_dX12_init_89 16 rfl rfl)
theorem dX12_init_114 : decode cX12_init 114 = .ok (.dup, 1) := dc_89 (sg_at zd_dX12_init_89 17 rfl rfl)
theorem dX12_init_115 : decode cX12_init 115 = .ok (.bipush 17, 2) := dc_16 (sg_at zd_dX12_init_89 18 rfl rfl) rfl
theorem dX12_init_117 : decode cX12_init 117 = .ok (.bipush 101, 2) := dc_16 (sg_at zd_dX12_init_89 19 rfl rfl) rfl
theorem zd_dX12_init_119 : sg (cX12_init.data.toList.drop 119) [[79], [89], [16, 18], [16, 116], [79], [89], [16, 19], [16, 32], [79], [89], [16, 20], [16, 98], [79], [89], [16, 21], [16, 97], [79], [89], [16, 22], [16, 110]] = true := by decide +kernel
theorem dX12_init_119 : decode cX12_init 119 = .ok (.iastore, 1) := dc_79 (sg_at zd_dX12_init_119 0 rfl rfl)
theorem dX12_init_120 : decode cX12_init 120 = .ok (.dup, 1) := dc_89 (sg_at zd_dX12_init_119 1 rfl rfl)
theorem dX12_init_121 : decode cX12_init 121 = .ok (.bipush 18, 2) := dc_16 (sg_at zd_dX12_init_119 2 rfl rfl) rfl
theorem dX12_init_123 : decode cX12_init 123 = .ok (.bipush 116, 2) := dc_16 (sg_at zd_dX12_init_119 3 rfl rfl) rfl
theorem dX12_init_125 : decode cX12_init 125 = .ok (.iastore, 1) := dc_79 (sg_at zd_dX12_init_119 4 rfl rfl)
theorem dX12_init_126 : decode cX12_init 126 = .ok (.dup, 1) := dc_89 (sg_at zd_dX12_init_119 5 rfl rfl)
theorem dX12_init_127 : decode cX12_init 127 = .ok (.bipush 19, 2) := dc_16 (sg_at zd_dX12_init_119 6 rfl rfl) rfl
theorem dX12_init_129 : decode cX12_init 129 = .ok (.bipush 32, 2) := dc_16 (sg_at zd_dX12_init_119 7 rfl rfl) rfl
theorem dX12_init_131 : decode cX12_init 131 = .ok (.iastore, 1) := dc_79 (sg_at zd_dX12_init_119 8 rfl rfl)
theorem dX12_init_132 : decode cX12_init 132 = .ok (.dup, 1) := dc_89 (sg_at zd_dX12_init_119 9 rfl rfl)
theorem dX12_init_133 : decode cX12_init 133 = .ok (.bipush 20, 2) := dc_16 (sg_at zd_dX12_init_119 10 rfl rfl) rfl
theorem dX12_init_135 : decode cX12_init 135 = .ok (.bipush 98, 2) := dc_16 (sg_at zd_dX12_init_119 11 rfl rfl) rfl
theorem dX12_init_137 : decode cX12_init 137 = .ok (.iastore, 1) := dc_79 (sg_at zd_dX12_init_119 12 rfl rfl)
theorem dX12_init_138 : decode cX12_init 138 = .ok (.dup, 1) := dc_89 (sg_at zd_dX12_init_119 13 rfl rfl)
theorem dX12_init_139 : decode cX12_init 139 = .ok (.bipush 21, 2) := dc_16 (sg_at zd_dX12_init_119 14 rfl rfl) rfl
theorem dX12_init_141 : decode cX12_init 141 = .ok (.bipush 97, 2) := dc_16 (sg_at zd_dX12_init_119 15 rfl rfl) rfl
theorem dX12_init_143 : decode cX12_init 143 = .ok (.iastore, 1) := dc_79 (sg_at zd_dX12_init_119 16 rfl rfl)
theorem dX12_init_144 : decode cX12_init 144 = .ok (.dup, 1) := dc_89 (sg_at zd_dX12_init_119 17 rfl rfl)
theorem dX12_init_145 : decode cX12_init 145 = .ok (.bipush 22, 2) := dc_16 (sg_at zd_dX12_init_119 18 rfl rfl) rfl
theorem dX12_init_147 : decode cX12_init 147 = .ok (.bipush 110, 2) := dc_16 (sg_at zd_dX12_init_119 19 rfl rfl) rfl
theorem zd_dX12_init_149 : sg (cX12_init.data.toList.drop 149) [[79], [89], [16, 23], [16, 107], [79], [89], [16, 24], [16, 32], [79], [89], [16, 25], [16, 114], [79], [89], [16, 26], [16, 117], [79], [89], [16, 27], [16, 108]] = true := by decide +kernel
theorem dX12_init_149 : decode cX12_init 149 = .ok (.iastore, 1) := dc_79 (sg_at zd_dX12_init_149 0 rfl rfl)
theorem dX12_init_150 : decode cX12_init 150 = .ok (.dup, 1) := dc_89 (sg_at zd_dX12_init_149 1 rfl rfl)
theorem dX12_init_151 : decode cX12_init 151 = .ok (.bipush 23, 2) := dc_16 (sg_at zd_dX12_init_149 2 rfl rfl) rfl
theorem dX12_init_153 : decode cX12_init 153 = .ok (.bipush 107, 2) := dc_16 (sg_at zd_dX12_init_149 3 rfl rfl) rfl
theorem dX12_init_155 : decode cX12_init 155 = .ok (.iastore, 1) := dc_79 (sg_at zd_dX12_init_149 4 rfl rfl)
theorem dX12_init_156 : decode cX12_init 156 = .ok (.dup, 1) := dc_89 (sg_at zd_dX12_init_149 5 rfl rfl)
theorem dX12_init_157 : decode cX12_init 157 = .ok (.bipush 24, 2) := dc_16 (sg_at zd_dX12_init_149 6 rfl rfl) rfl
theorem dX12_init_159 : decode cX12_init 159 = .ok (.bipush 32, 2) := dc_16 (sg_at zd_dX12_init_149 7 rfl rfl) rfl
theorem dX12_init_161 : decode cX12_init 161 = .ok (.iastore, 1) := dc_79 (sg_at zd_dX12_init_149 8 rfl rfl)
theorem dX12_init_162 : decode cX12_init 162 = .ok (.dup, 1) := dc_89 (sg_at zd_dX12_init_149 9 rfl rfl)
theorem dX12_init_163 : decode cX12_init 163 = .ok (.bipush 25, 2) := dc_16 (sg_at zd_dX12_init_149 10 rfl rfl) rfl
theorem dX12_init_165 : decode cX12_init 165 = .ok (.bipush 114, 2) := dc_16 (sg_at zd_dX12_init_149 11 rfl rfl) rfl
theorem dX12_init_167 : decode cX12_init 167 = .ok (.iastore, 1) := dc_79 (sg_at zd_dX12_init_149 12 rfl rfl)
theorem dX12_init_168 : decode cX12_init 168 = .ok (.dup, 1) := dc_89 (sg_at zd_dX12_init_149 13 rfl rfl)
theorem dX12_init_169 : decode cX12_init 169 = .ok (.bipush 26, 2) := dc_16 (sg_at zd_dX12_init_149 14 rfl rfl) rfl
theorem dX12_init_171 : decode cX12_init 171 = .ok (.bipush 117, 2) := dc_16 (sg_at zd_dX12_init_149 15 rfl rfl) rfl
theorem dX12_init_173 : decode cX12_init 173 = .ok (.iastore, 1) := dc_79 (sg_at zd_dX12_init_149 16 rfl rfl)
theorem dX12_init_174 : decode cX12_init 174 = .ok (.dup, 1) := dc_89 (sg_at zd_dX12_init_149 17 rfl rfl)
theorem dX12_init_175 : decode cX12_init 175 = .ok (.bipush 27, 2) := dc_16 (sg_at zd_dX12_init_149 18 rfl rfl) rfl
theorem dX12_init_177 : decode cX12_init 177 = .ok (.bipush 108, 2) := dc_16 (sg_at zd_dX12_init_149 19 rfl rfl) rfl
theorem zd_dX12_init_179 : sg (cX12_init.data.toList.drop 179) [[79], [89], [16, 28], [16, 101], [79], [89], [16, 29], [16, 32], [79], [89], [16, 30], [16, 115], [79], [89], [16, 31], [16, 101], [79], [89], [16, 32], [16, 101]] = true := by decide +kernel
theorem dX12_init_179 : decode cX12_init 179 = .ok (.iastore, 1) := dc_79 (sg_at zd_dX12_init_179 0 rfl rfl)
theorem dX12_init_180 : decode cX12_init 180 = .ok (.dup, 1) := dc_89 (sg_at zd_dX12_init_179 1 rfl rfl)
theorem dX12_init_181 : decode cX12_init 181 = .ok (.bipush 28, 2) := dc_16 (sg_at zd_dX12_init_179 2 rfl rfl) rfl
theorem dX12_init_183 : decode cX12_init 183 = .ok (.bipush 101, 2) := dc_16 (sg_at zd_dX12_init_179 3 rfl rfl) rfl
theorem dX12_init_185 : decode cX12_init 185 = .ok (.iastore, 1) := dc_79 (sg_at zd_dX12_init_179 4 rfl rfl)
theorem dX12_init_186 : decode cX12_init 186 = .ok (.dup, 1) := dc_89 (sg_at zd_dX12_init_179 5 rfl rfl)
theorem dX12_init_187 : decode cX12_init 187 = .ok (.bipush 29, 2) := dc_16 (sg_at zd_dX12_init_179 6 rfl rfl) rfl
theorem dX12_init_189 : decode cX12_init 189 = .ok (.bipush 32, 2) := dc_16 (sg_at zd_dX12_init_179 7 rfl rfl) rfl
theorem dX12_init_191 : decode cX12_init 191 = .ok (.iastore, 1) := dc_79 (sg_at zd_dX12_init_179 8 rfl rfl)
theorem dX12_init_192 : decode cX12_init 192 = .ok (.dup, 1) := dc_89 (sg_at zd_dX12_init_179 9 rfl rfl)
theorem dX12_init_193 : decode cX12_init 193 = .ok (.bipush 30, 2) := dc_16 (sg_at zd_dX12_init_179 10 rfl rfl) rfl
theorem dX12_init_195 : decode cX12_init 195 = .ok (.bipush 115, 2) := dc_16 (sg_at zd_dX12_init_179 11 rfl rfl) rfl
theorem dX12_init_197 : decode cX12_init 197 = .ok (.iastore, 1) := dc_79 (sg_at zd_dX12_init_179 12 rfl rfl)
theorem dX12_init_198 : decode cX12_init 198 = .ok (.dup, 1) := dc_89 (sg_at zd_dX12_init_179 13 rfl rfl)
theorem dX12_init_199 : decode cX12_init 199 = .ok (.bipush 31, 2) := dc_16 (sg_at zd_dX12_init_179 14 rfl rfl) rfl
theorem dX12_init_201 : decode cX12_init 201 = .ok (.bipush 101, 2) := dc_16 (sg_at zd_dX12_init_179 15 rfl rfl) rfl
theorem dX12_init_203 : decode cX12_init 203 = .ok (.iastore, 1) := dc_79 (sg_at zd_dX12_init_179 16 rfl rfl)
theorem dX12_init_204 : decode cX12_init 204 = .ok (.dup, 1) := dc_89 (sg_at zd_dX12_init_179 17 rfl rfl)
theorem dX12_init_205 : decode cX12_init 205 = .ok (.bipush 32, 2) := dc_16 (sg_at zd_dX12_init_179 18 rfl rfl) rfl
theorem dX12_init_207 : decode cX12_init 207 = .ok (.bipush 101, 2) := dc_16 (sg_at zd_dX12_init_179 19 rfl rfl) rfl
theorem zd_dX12_init_209 : sg (cX12_init.data.toList.drop 209) [[79], [89], [16, 33], [16, 100], [79], [89], [16, 34], [16, 32], [79], [89], [16, 35], [16, 108], [79], [89], [16, 36], [16, 97], [79], [89], [16, 37], [16, 119]] = true := by decide +kernel
theorem dX12_init_209 : decode cX12_init 209 = .ok (.iastore, 1) := dc_79 (sg_at zd_dX12_init_209 0 rfl rfl)
theorem dX12_init_210 : decode cX12_init 210 = .ok (.dup, 1) := dc_89 (sg_at zd_dX12_init_209 1 rfl rfl)
theorem dX12_init_211 : decode cX12_init 211 = .ok (.bipush 33, 2) := dc_16 (sg_at zd_dX12_init_209 2 rfl rfl) rfl
theorem dX12_init_213 : decode cX12_init 213 = .ok (.bipush 100, 2) := dc_16 (sg_at zd_dX12_init_209 3 rfl rfl) rfl
theorem dX12_init_215 : decode cX12_init 215 = .ok (.iastore, 1) := dc_79 (sg_at zd_dX12_init_209 4 rfl rfl)
theorem dX12_init_216 : decode cX12_init 216 = .ok (.dup, 1) := dc_89 (sg_at zd_dX12_init_209 5 rfl rfl)
theorem dX12_init_217 : decode cX12_init 217 = .ok (.bipush 34, 2) := dc_16 (sg_at zd_dX12_init_209 6 rfl rfl) rfl
theorem dX12_init_219 : decode cX12_init 219 = .ok (.bipush 32, 2) := dc_16 (sg_at zd_dX12_init_209 7 rfl rfl) rfl
theorem dX12_init_221 : decode cX12_init 221 = .ok (.iastore, 1) := dc_79 (sg_at zd_dX12_init_209 8 rfl rfl)
theorem dX12_init_222 : decode cX12_init 222 = .ok (.dup, 1) := dc_89 (sg_at zd_dX12_init_209 9 rfl rfl)
theorem dX12_init_223 : decode cX12_init 223 = .ok (.bipush 35, 2) := dc_16 (sg_at zd_dX12_init_209 10 rfl rfl) rfl
theorem dX12_init_225 : decode cX12_init 225 = .ok (.bipush 108, 2) := dc_16 (sg_at zd_dX12_init_209 11 rfl rfl) rfl
theorem dX12_init_227 : decode cX12_init 227 = .ok (.iastore, 1) := dc_79 (sg_at zd_dX12_init_209 12 rfl rfl)
theorem dX12_init_228 : decode cX12_init 228 = .ok (.dup, 1) := dc_89 (sg_at zd_dX12_init_209 13 rfl rfl)
theorem dX12_init_229 : decode cX12_init 229 = .ok (.bipush 36, 2) := dc_16 (sg_at zd_dX12_init_209 14 rfl rfl) rfl
theorem dX12_init_231 : decode cX12_init 231 = .ok (.bipush 97, 2) := dc_16 (sg_at zd_dX12_init_209 15 rfl rfl) rfl
theorem dX12_init_233 : decode cX12_init 233 = .ok (.iastore, 1) := dc_79 (sg_at zd_dX12_init_209 16 rfl rfl)
theorem dX12_init_234 : decode cX12_init 234 = .ok (.dup, 1) := dc_89 (sg_at zd_dX12_init_209 17 rfl rfl)
theorem dX12_init_235 : decode cX12_init 235 = .ok (.bipush 37, 2) := dc_16 (sg_at zd_dX12_init_209 18 rfl rfl) rfl
theorem dX12_init_237 : decode cX12_init 237 = .ok (.bipush 119, 2) := dc_16 (sg_at zd_dX12_init_209 19 rfl rfl) rfl
theorem zd_dX12_init_239 : sg (cX12_init.data.toList.drop 239) [[79], [89], [16, 38], [16, 32], [79], [89], [16, 39], [16, 100], [79], [89], [16, 40], [16, 101], [79], [89], [16, 41], [16, 101], [79], [89], [16, 42], [16, 112]] = true := by decide +kernel
theorem dX12_init_239 : decode cX12_init 239 = .ok (.iastore, 1) := dc_79 (sg_at zd_dX12_init_239 0 rfl rfl)
theorem dX12_init_240 : decode cX12_init 240 = .ok (.dup, 1) := dc_89 (sg_at zd_dX12_init_239 1 rfl rfl)
theorem dX12_init_241 : decode cX12_init 241 = .ok (.bipush 38, 2) := dc_16 (sg_at zd_dX12_init_239 2 rfl rfl) rfl
theorem dX12_init_243 : decode cX12_init 243 = .ok (.bipush 32, 2) := dc_16 (sg_at zd_dX12_init_239 3 rfl rfl) rfl
theorem dX12_init_245 : decode cX12_init 245 = .ok (.iastore, 1) := dc_79 (sg_at zd_dX12_init_239 4 rfl rfl)
theorem dX12_init_246 : decode cX12_init 246 = .ok (.dup, 1) := dc_89 (sg_at zd_dX12_init_239 5 rfl rfl)
theorem dX12_init_247 : decode cX12_init 247 = .ok (.bipush 39, 2) := dc_16 (sg_at zd_dX12_init_239 6 rfl rfl) rfl
theorem dX12_init_249 : decode cX12_init 249 = .ok (.bipush 100, 2) := dc_16 (sg_at zd_dX12_init_239 7 rfl rfl) rfl
theorem dX12_init_251 : decode cX12_init 251 = .ok (.iastore, 1) := dc_79 (sg_at zd_dX12_init_239 8 rfl rfl)
theorem dX12_init_252 : decode cX12_init 252 = .ok (.dup, 1) := dc_89 (sg_at zd_dX12_init_239 9 rfl rfl)
theorem dX12_init_253 : decode cX12_init 253 = .ok (.bipush 40, 2) := dc_16 (sg_at zd_dX12_init_239 10 rfl rfl) rfl
theorem dX12_init_255 : decode cX12_init 255 = .ok (.bipush 101, 2) := dc_16 (sg_at zd_dX12_init_239 11 rfl rfl) rfl
theorem dX12_init_257 : decode cX12_init 257 = .ok (.iastore, 1) := dc_79 (sg_at zd_dX12_init_239 12 rfl rfl)
theorem dX12_init_258 : decode cX12_init 258 = .ok (.dup, 1) := dc_89 (sg_at zd_dX12_init_239 13 rfl rfl)
theorem dX12_init_259 : decode cX12_init 259 = .ok (.bipush 41, 2) := dc_16 (sg_at zd_dX12_init_239 14 rfl rfl) rfl
theorem dX12_init_261 : decode cX12_init 261 = .ok (.bipush 101, 2) := dc_16 (sg_at zd_dX12_init_239 15 rfl rfl) rfl
theorem dX12_init_263 : decode cX12_init 263 = .ok (.iastore, 1) := dc_79 (sg_at zd_dX12_init_239 16 rfl rfl)
theorem dX12_init_264 : decode cX12_init 264 = .ok (.dup, 1) := dc_89 (sg_at zd_dX12_init_239 17 rfl rfl)
theorem dX12_init_265 : decode cX12_init 265 = .ok (.bipush 42, 2) := dc_16 (sg_at zd_dX12_init_239 18 rfl rfl) rfl
theorem dX12_init_267 : decode cX12_init 267 = .ok (.bipush 112, 2) := dc_16 (sg_at zd_dX12_init_239 19 rfl rfl) rfl
theorem zd_dX12_init_269 : sg (cX12_init.data.toList.drop 269) [[79], [89], [16, 43], [16, 32], [79], [89], [16, 44], [16, 116], [79], [89], [16, 45], [16, 117], [79], [89], [16, 46], [16, 114], [79], [89], [16, 47], [16, 110]] = true := by decide +kernel
theorem dX12_init_269 : decode cX12_init 269 = .ok (.iastore, 1) := dc_79 (sg_at zd_dX12_init_269 0 rfl rfl)
theorem dX12_init_270 : decode cX12_init 270 = .ok (.dup, 1) := dc_89 (sg_at zd_dX12_init_269 1 rfl rfl)
theorem dX12_init_271 : decode cX12_init 271 = .ok (.bipush 43, 2) := dc_16 (sg_at zd_dX12_init_269 2 rfl rfl) rfl
theorem dX12_init_273 : decode cX12_init 273 = .ok (.bipush 32, 2) := dc_16 (sg_at zd_dX12_init_269 3 rfl rfl) rfl
theorem dX12_init_275 : decode cX12_init 275 = .ok (.iastore, 1) := dc_79 (sg_at zd_dX12_init_269 4 rfl rfl)
theorem dX12_init_276 : decode cX12_init 276 = .ok (.dup, 1) := dc_89 (sg_at zd_dX12_init_269 5 rfl rfl)
theorem dX12_init_277 : decode cX12_init 277 = .ok (.bipush 44, 2) := dc_16 (sg_at zd_dX12_init_269 6 rfl rfl) rfl
theorem dX12_init_279 : decode cX12_init 279 = .ok (.bipush 116, 2) := dc_16 (sg_at zd_dX12_init_269 7 rfl rfl) rfl
theorem dX12_init_281 : decode cX12_init 281 = .ok (.iastore, 1) := dc_79 (sg_at zd_dX12_init_269 8 rfl rfl)
theorem dX12_init_282 : decode cX12_init 282 = .ok (.dup, 1) := dc_89 (sg_at zd_dX12_init_269 9 rfl rfl)
theorem dX12_init_283 : decode cX12_init 283 = .ok (.bipush 45, 2) := dc_16 (sg_at zd_dX12_init_269 10 rfl rfl) rfl
theorem dX12_init_285 : decode cX12_init 285 = .ok (.bipush 117, 2) := dc_16 (sg_at zd_dX12_init_269 11 rfl rfl) rfl
theorem dX12_init_287 : decode cX12_init 287 = .ok (.iastore, 1) := dc_79 (sg_at zd_dX12_init_269 12 rfl rfl)
theorem dX12_init_288 : decode cX12_init 288 = .ok (.dup, 1) := dc_89 (sg_at zd_dX12_init_269 13 rfl rfl)
theorem dX12_init_289 : decode cX12_init 289 = .ok (.bipush 46, 2) := dc_16 (sg_at zd_dX12_init_269 14 rfl rfl) rfl
theorem dX12_init_291 : decode cX12_init 291 = .ok (.bipush 114, 2) := dc_16 (sg_at zd_dX12_init_269 15 rfl rfl) rfl
theorem dX12_init_293 : decode cX12_init 293 = .ok (.iastore, 1) := dc_79 (sg_at zd_dX12_init_269 16 rfl rfl)
theorem dX12_init_294 : decode cX12_init 294 = .ok (.dup, 1) := dc_89 (sg_at zd_dX12_init_269 17 rfl rfl)
theorem dX12_init_295 : decode cX12_init 295 = .ok (.bipush 47, 2) := dc_16 (sg_at zd_dX12_init_269 18 rfl rfl) rfl
theorem dX12_init_297 : decode cX12_init 297 = .ok (.bipush 110, 2) := dc_16 (sg_at zd_dX12_init_269 19 rfl rfl) rfl
theorem zd_dX12_init_299 : sg (cX12_init.data.toList.drop 299) [[79], [89], [16, 48], [16, 115], [79], [89], [16, 49], [16, 32], [79], [89], [16, 50], [16, 101], [79], [89], [16, 51], [16, 97], [79], [89], [16, 52], [16, 99]] = true := by decide +kernel
theorem dX12_init_299 : decode cX12_init 299 = .ok (.iastore, 1) := dc_79 (sg_at zd_dX12_init_299 0 rfl rfl)
theorem dX12_init_300 : decode cX12_init 300 = .ok (.dup, 1) := dc_89 (sg_at zd_dX12_init_299 1 rfl rfl)
theorem dX12_init_301 : decode cX12_init 301 = .ok (.bipush 48, 2) := dc_16 (sg_at zd_dX12_init_299 2 rfl rfl) rfl
theorem dX12_init_303 : decode cX12_init 303 = .ok (.bipush 115, 2) := dc_16 (sg_at zd_dX12_init_299 3 rfl rfl) rfl
theorem dX12_init_305 : decode cX12_init 305 = .ok (.iastore, 1) := dc_79 (sg_at zd_dX12_init_299 4 rfl rfl)
theorem dX12_init_306 : decode cX12_init 306 = .ok (.dup, 1) := dc_89 (sg_at zd_dX12_init_299 5 rfl rfl)
theorem dX12_init_307 : decode cX12_init 307 = .ok (.bipush 49, 2) := dc_16 (sg_at zd_dX12_init_299 6 rfl rfl) rfl
theorem dX12_init_309 : decode cX12_init 309 = .ok (.bipush 32, 2) := dc_16 (sg_at zd_dX12_init_299 7 rfl rfl) rfl
theorem dX12_init_311 : decode cX12_init 311 = .ok (.iastore, 1) := dc_79 (sg_at zd_dX12_init_299 8 rfl rfl)
theorem dX12_init_312 : decode cX12_init 312 = .ok (.dup, 1) := dc_89 (sg_at zd_dX12_init_299 9 rfl rfl)
theorem dX12_init_313 : decode cX12_init 313 = .ok (.bipush 50, 2) := dc_16 (sg_at zd_dX12_init_299 10 rfl rfl) rfl
theorem dX12_init_315 : decode cX12_init 315 = .ok (.bipush 101, 2) := dc_16 (sg_at zd_dX12_init_299 11 rfl rfl) rfl
theorem dX12_init_317 : decode cX12_init 317 = .ok (.iastore, 1) := dc_79 (sg_at zd_dX12_init_299 12 rfl rfl)
theorem dX12_init_318 : decode cX12_init 318 = .ok (.dup, 1) := dc_89 (sg_at zd_dX12_init_299 13 rfl rfl)
theorem dX12_init_319 : decode cX12_init 319 = .ok (.bipush 51, 2) := dc_16 (sg_at zd_dX12_init_299 14 rfl rfl) rfl
theorem dX12_init_321 : decode cX12_init 321 = .ok (.bipush 97, 2) := dc_16 (sg_at zd_dX12_init_299 15 rfl rfl) rfl
theorem dX12_init_323 : decode cX12_init 323 = .ok (.iastore, 1) := dc_79 (sg_at zd_dX12_init_299 16 rfl rfl)
theorem dX12_init_324 : decode cX12_init 324 = .ok (.dup, 1) := dc_89 (sg_at zd_dX12_init_299 17 rfl rfl)
theorem dX12_init_325 : decode cX12_init 325 = .ok (.bipush 52, 2) := dc_16 (sg_at zd_dX12_init_299 18 rfl rfl) rfl
theorem dX12_init_327 : decode cX12_init 327 = .ok (.bipush 99, 2) := dc_16 (sg_at zd_dX12_init_299 19 rfl rfl) rfl
theorem zd_dX12_init_329 : sg (cX12_init.data.toList.drop 329) [[79], [89], [16, 53], [16, 104], [79], [89], [16, 54], [16, 32], [79], [89], [16, 55], [16, 111], [79], [89], [16, 56], [16, 117], [79], [89], [16, 57], [16, 116]] = true := by decide +kernel
theorem dX12_init_329 : decode cX12_init 329 = .ok (.iastore, 1) := dc_79 (sg_at zd_dX12_init_329 0 rfl rfl)
theorem dX12_init_330 : decode cX12_init 330 = .ok (.dup, 1) := dc_89 (sg_at zd_dX12_init_329 1 rfl rfl)
theorem dX12_init_331 : decode cX12_init 331 = .ok (.bipush 53, 2) := dc_16 (sg_at zd_dX12_init_329 2 rfl rfl) rfl
theorem dX12_init_333 : decode cX12_init 333 = .ok (.bipush 104, 2) := dc_16 (sg_at zd_dX12_init_329 3 rfl rfl) rfl
theorem dX12_init_335 : decode cX12_init 335 = .ok (.iastore, 1) := dc_79 (sg_at zd_dX12_init_329 4 rfl rfl)
theorem dX12_init_336 : decode cX12_init 336 = .ok (.dup, 1) := dc_89 (sg_at zd_dX12_init_329 5 rfl rfl)
theorem dX12_init_337 : decode cX12_init 337 = .ok (.bipush 54, 2) := dc_16 (sg_at zd_dX12_init_329 6 rfl rfl) rfl
theorem dX12_init_339 : decode cX12_init 339 = .ok (.bipush 32, 2) := dc_16 (sg_at zd_dX12_init_329 7 rfl rfl) rfl
theorem dX12_init_341 : decode cX12_init 341 = .ok (.iastore, 1) := dc_79 (sg_at zd_dX12_init_329 8 rfl rfl)
theorem dX12_init_342 : decode cX12_init 342 = .ok (.dup, 1) := dc_89 (sg_at zd_dX12_init_329 9 rfl rfl)
theorem dX12_init_343 : decode cX12_init 343 = .ok (.bipush 55, 2) := dc_16 (sg_at zd_dX12_init_329 10 rfl rfl) rfl
theorem dX12_init_345 : decode cX12_init 345 = .ok (.bipush 111, 2) := dc_16 (sg_at zd_dX12_init_329 11 rfl rfl) rfl
theorem dX12_init_347 : decode cX12_init 347 = .ok (.iastore, 1) := dc_79 (sg_at zd_dX12_init_329 12 rfl rfl)
theorem dX12_init_348 : decode cX12_init 348 = .ok (.dup, 1) := dc_89 (sg_at zd_dX12_init_329 13 rfl rfl)
theorem dX12_init_349 : decode cX12_init 349 = .ok (.bipush 56, 2) := dc_16 (sg_at zd_dX12_init_329 14 rfl rfl) rfl
theorem dX12_init_351 : decode cX12_init 351 = .ok (.bipush 117, 2) := dc_16 (sg_at zd_dX12_init_329 15 rfl rfl) rfl
theorem dX12_init_353 : decode cX12_init 353 = .ok (.iastore, 1) := dc_79 (sg_at zd_dX12_init_329 16 rfl rfl)
theorem dX12_init_354 : decode cX12_init 354 = .ok (.dup, 1) := dc_89 (sg_at zd_dX12_init_329 17 rfl rfl)
theorem dX12_init_355 : decode cX12_init 355 = .ok (.bipush 57, 2) := dc_16 (sg_at zd_dX12_init_329 18 rfl rfl) rfl
theorem dX12_init_357 : decode cX12_init 357 = .ok (.bipush 116, 2) := dc_16 (sg_at zd_dX12_init_329 19 rfl rfl) rfl
theorem zd_dX12_init_359 : sg (cX12_init.data.toList.drop 359) [[79], [89], [16, 58], [16, 32], [79], [89], [16, 59], [16, 99], [79], [89], [16, 60], [16, 97], [79], [89], [16, 61], [16, 116], [79], [89], [16, 62], [16, 99]] = true := by decide +kernel
theorem dX12_init_359 : decode cX12_init 359 = .ok (.iastore, 1) := dc_79 (sg_at zd_dX12_init_359 0 rfl rfl)
theorem dX12_init_360 : decode cX12_init 360 = .ok (.dup, 1) := dc_89 (sg_at zd_dX12_init_359 1 rfl rfl)
theorem dX12_init_361 : decode cX12_init 361 = .ok (.bipush 58, 2) := dc_16 (sg_at zd_dX12_init_359 2 rfl rfl) rfl
theorem dX12_init_363 : decode cX12_init 363 = .ok (.bipush 32, 2) := dc_16 (sg_at zd_dX12_init_359 3 rfl rfl) rfl
theorem dX12_init_365 : decode cX12_init 365 = .ok (.iastore, 1) := dc_79 (sg_at zd_dX12_init_359 4 rfl rfl)
theorem dX12_init_366 : decode cX12_init 366 = .ok (.dup, 1) := dc_89 (sg_at zd_dX12_init_359 5 rfl rfl)
theorem dX12_init_367 : decode cX12_init 367 = .ok (.bipush 59, 2) := dc_16 (sg_at zd_dX12_init_359 6 rfl rfl) rfl
theorem dX12_init_369 : decode cX12_init 369 = .ok (.bipush 99, 2) := dc_16 (sg_at zd_dX12_init_359 7 rfl rfl) rfl
theorem dX12_init_371 : decode cX12_init 371 = .ok (.iastore, 1) := dc_79 (sg_at zd_dX12_init_359 8 rfl rfl)
theorem dX12_init_372 : decode cX12_init 372 = .ok (.dup, 1) := dc_89 (sg_at zd_dX12_init_359 9 rfl rfl)
theorem dX12_init_373 : decode cX12_init 373 = .ok (.bipush 60, 2) := dc_16 (sg_at zd_dX12_init_359 10 rfl rfl) rfl
theorem dX12_init_375 : decode cX12_init 375 = .ok (.bipush 97, 2) := dc_16 (sg_at zd_dX12_init_359 11 rfl rfl) rfl
theorem dX12_init_377 : decode cX12_init 377 = .ok (.iastore, 1) := dc_79 (sg_at zd_dX12_init_359 12 rfl rfl)
theorem dX12_init_378 : decode cX12_init 378 = .ok (.dup, 1) := dc_89 (sg_at zd_dX12_init_359 13 rfl rfl)
theorem dX12_init_379 : decode cX12_init 379 = .ok (.bipush 61, 2) := dc_16 (sg_at zd_dX12_init_359 14 rfl rfl) rfl
theorem dX12_init_381 : decode cX12_init 381 = .ok (.bipush 116, 2) := dc_16 (sg_at zd_dX12_init_359 15 rfl rfl) rfl
theorem dX12_init_383 : decode cX12_init 383 = .ok (.iastore, 1) := dc_79 (sg_at zd_dX12_init_359 16 rfl rfl)
theorem dX12_init_384 : decode cX12_init 384 = .ok (.dup, 1) := dc_89 (sg_at zd_dX12_init_359 17 rfl rfl)
theorem dX12_init_385 : decode cX12_init 385 = .ok (.bipush 62, 2) := dc_16 (sg_at zd_dX12_init_359 18 rfl rfl) rfl
theorem dX12_init_387 : decode cX12_init 387 = .ok (.bipush 99, 2) := dc_16 (sg_at zd_dX12_init_359 19 rfl rfl) rfl
theorem zd_dX12_init_389 : sg (cX12_init.data.toList.drop 389) [[79], [89], [16, 63], [16, 104], [79], [89], [16, 64], [16, 32], [79], [89], [16, 65], [16, 100], [79], [89], [16, 66], [16, 114], [79], [89], [16, 67], [16, 105]] = true := by decide +kernel
theorem dX12_init_389 : decode cX12_init 389 = .ok (.iastore, 1) := dc_79 (sg_at zd_dX12_init_389 0 rfl rfl)
theorem dX12_init_390 : decode cX12_init 390 = .ok (.dup, 1) := dc_89 (sg_at zd_dX12_init_389 1 rfl rfl)
theorem dX12_init_391 : decode cX12_init 391 = .ok (.bipush 63, 2) := dc_16 (sg_at zd_dX12_init_389 2 rfl rfl) rfl
theorem dX12_init_393 : decode cX12_init 393 = .ok (.bipush 104, 2) := dc_16 (sg_at zd_dX12_init_389 3 rfl rfl) rfl
theorem dX12_init_395 : decode cX12_init 395 = .ok (.iastore, 1) := dc_79 (sg_at zd_dX12_init_389 4 rfl rfl)
theorem dX12_init_396 : decode cX12_init 396 = .ok (.dup, 1) := dc_89 (sg_at zd_dX12_init_389 5 rfl rfl)
theorem dX12_init_397 : decode cX12_init 397 = .ok (.bipush 64, 2) := dc_16 (sg_at zd_dX12_init_389 6 rfl rfl) rfl
theorem dX12_init_399 : decode cX12_init 399 = .ok (.bipush 32, 2) := dc_16 (sg_at zd_dX12_init_389 7 rfl rfl) rfl
theorem dX12_init_401 : decode cX12_init 401 = .ok (.iastore, 1) := dc_79 (sg_at zd_dX12_init_389 8 rfl rfl)
theorem dX12_init_402 : decode cX12_init 402 = .ok (.dup, 1) := dc_89 (sg_at zd_dX12_init_389 9 rfl rfl)
theorem dX12_init_403 : decode cX12_init 403 = .ok (.bipush 65, 2) := dc_16 (sg_at zd_dX12_init_389 10 rfl rfl) rfl
theorem dX12_init_405 : decode cX12_init 405 = .ok (.bipush 100, 2) := dc_16 (sg_at zd_dX12_init_389 11 rfl rfl) rfl
theorem dX12_init_407 : decode cX12_init 407 = .ok (.iastore, 1) := dc_79 (sg_at zd_dX12_init_389 12 rfl rfl)
theorem dX12_init_408 : decode cX12_init 408 = .ok (.dup, 1) := dc_89 (sg_at zd_dX12_init_389 13 rfl rfl)
theorem dX12_init_409 : decode cX12_init 409 = .ok (.bipush 66, 2) := dc_16 (sg_at zd_dX12_init_389 14 rfl rfl) rfl
theorem dX12_init_411 : decode cX12_init 411 = .ok (.bipush 114, 2) := dc_16 (sg_at zd_dX12_init_389 15 rfl rfl) rfl
theorem dX12_init_413 : decode cX12_init 413 = .ok (.iastore, 1) := dc_79 (sg_at zd_dX12_init_389 16 rfl rfl)
theorem dX12_init_414 : decode cX12_init 414 = .ok (.dup, 1) := dc_89 (sg_at zd_dX12_init_389 17 rfl rfl)
theorem dX12_init_415 : decode cX12_init 415 = .ok (.bipush 67, 2) := dc_16 (sg_at zd_dX12_init_389 18 rfl rfl) rfl
theorem dX12_init_417 : decode cX12_init 417 = .ok (.bipush 105, 2) := dc_16 (sg_at zd_dX12_init_389 19 rfl rfl) rfl
theorem zd_dX12_init_419 : sg (cX12_init.data.toList.drop 419) [[79], [89], [16, 68], [16, 102], [79], [89], [16, 69], [16, 116], [79], [89], [16, 70], [16, 32], [79], [89], [16, 71], [16, 97], [79], [89], [16, 72], [16, 119]] = true := by decide +kernel
theorem dX12_init_419 : decode cX12_init 419 = .ok (.iastore, 1) := dc_79 (sg_at zd_dX12_init_419 0 rfl rfl)
theorem dX12_init_420 : decode cX12_init 420 = .ok (.dup, 1) := dc_89 (sg_at zd_dX12_init_419 1 rfl rfl)
theorem dX12_init_421 : decode cX12_init 421 = .ok (.bipush 68, 2) := dc_16 (sg_at zd_dX12_init_419 2 rfl rfl) rfl
theorem dX12_init_423 : decode cX12_init 423 = .ok (.bipush 102, 2) := dc_16 (sg_at zd_dX12_init_419 3 rfl rfl) rfl
theorem dX12_init_425 : decode cX12_init 425 = .ok (.iastore, 1) := dc_79 (sg_at zd_dX12_init_419 4 rfl rfl)
theorem dX12_init_426 : decode cX12_init 426 = .ok (.dup, 1) := dc_89 (sg_at zd_dX12_init_419 5 rfl rfl)
theorem dX12_init_427 : decode cX12_init 427 = .ok (.bipush 69, 2) := dc_16 (sg_at zd_dX12_init_419 6 rfl rfl) rfl
theorem dX12_init_429 : decode cX12_init 429 = .ok (.bipush 116, 2) := dc_16 (sg_at zd_dX12_init_419 7 rfl rfl) rfl
theorem dX12_init_431 : decode cX12_init 431 = .ok (.iastore, 1) := dc_79 (sg_at zd_dX12_init_419 8 rfl rfl)
theorem dX12_init_432 : decode cX12_init 432 = .ok (.dup, 1) := dc_89 (sg_at zd_dX12_init_419 9 rfl rfl)
theorem dX12_init_433 : decode cX12_init 433 = .ok (.bipush 70, 2) := dc_16 (sg_at zd_dX12_init_419 10 rfl rfl) rfl
theorem dX12_init_435 : decode cX12_init 435 = .ok (.bipush 32, 2) := dc_16 (sg_at zd_dX12_init_419 11 rfl rfl) rfl
theorem dX12_init_437 : decode cX12_init 437 = .ok (.iastore, 1) := dc_79 (sg_at zd_dX12_init_419 12 rfl rfl)
theorem dX12_init_438 : decode cX12_init 438 = .ok (.dup, 1) := dc_89 (sg_at zd_dX12_init_419 13 rfl rfl)
theorem dX12_init_439 : decode cX12_init 439 = .ok (.bipush 71, 2) := dc_16 (sg_at zd_dX12_init_419 14 rfl rfl) rfl
theorem dX12_init_441 : decode cX12_init 441 = .ok (.bipush 97, 2) := dc_16 (sg_at zd_dX12_init_419 15 rfl rfl) rfl
theorem dX12_init_443 : decode cX12_init 443 = .ok (.iastore, 1) := dc_79 (sg_at zd_dX12_init_419 16 rfl rfl)
theorem dX12_init_444 : decode cX12_init 444 = .ok (.dup, 1) := dc_89 (sg_at zd_dX12_init_419 17 rfl rfl)
theorem dX12_init_445 : decode cX12_init 445 = .ok (.bipush 72, 2) := dc_16 (sg_at zd_dX12_init_419 18 rfl rfl) rfl
theorem dX12_init_447 : decode cX12_init 447 = .ok (.bipush 119, 2) := dc_16 (sg_at zd_dX12_init_419 19 rfl rfl) rfl
theorem zd_dX12_init_449 : sg (cX12_init.data.toList.drop 449) [[79], [89], [16, 73], [16, 97], [79], [89], [16, 74], [16, 121], [79], [89], [16, 75], [16, 32], [79], [89], [16, 76], [16, 97], [79], [89], [16, 77], [16, 110]] = true := by decide +kernel
theorem dX12_init_449 : decode cX12_init 449 = .ok (.iastore, 1) := dc_79 (sg_at zd_dX12_init_449 0 rfl rfl)
theorem dX12_init_450 : decode cX12_init 450 = .ok (.dup, 1) := dc_89 (sg_at zd_dX12_init_449 1 rfl rfl)
theorem dX12_init_451 : decode cX12_init 451 = .ok (.bipush 73, 2) := dc_16 (sg_at zd_dX12_init_449 2 rfl rfl) rfl
theorem dX12_init_453 : decode cX12_init 453 = .ok (.bipush 97, 2) := dc_16 (sg_at zd_dX12_init_449 3 rfl rfl) rfl
theorem dX12_init_455 : decode cX12_init 455 = .ok (.iastore, 1) := dc_79 (sg_at zd_dX12_init_449 4 rfl rfl)
theorem dX12_init_456 : decode cX12_init 456 = .ok (.dup, 1) := dc_89 (sg_at zd_dX12_init_449 5 rfl rfl)
theorem dX12_init_457 : decode cX12_init 457 = .ok (.bipush 74, 2) := dc_16 (sg_at zd_dX12_init_449 6 rfl rfl) rfl
theorem dX12_init_459 : decode cX12_init 459 = .ok (.bipush 121, 2) := dc_16 (sg_at zd_dX12_init_449 7 rfl rfl) rfl
theorem dX12_init_461 : decode cX12_init 461 = .ok (.iastore, 1) := dc_79 (sg_at zd_dX12_init_449 8 rfl rfl)
theorem dX12_init_462 : decode cX12_init 462 = .ok (.dup, 1) := dc_89 (sg_at zd_dX12_init_449 9 rfl rfl)
theorem dX12_init_463 : decode cX12_init 463 = .ok (.bipush 75, 2) := dc_16 (sg_at zd_dX12_init_449 10 rfl rfl) rfl
theorem dX12_init_465 : decode cX12_init 465 = .ok (.bipush 32, 2) := dc_16 (sg_at zd_dX12_init_449 11 rfl rfl) rfl
theorem dX12_init_467 : decode cX12_init 467 = .ok (.iastore, 1) := dc_79 (sg_at zd_dX12_init_449 12 rfl rfl)
theorem dX12_init_468 : decode cX12_init 468 = .ok (.dup, 1) := dc_89 (sg_at zd_dX12_init_449 13 rfl rfl)
theorem dX12_init_469 : decode cX12_init 469 = .ok (.bipush 76, 2) := dc_16 (sg_at zd_dX12_init_449 14 rfl rfl) rfl
theorem dX12_init_471 : decode cX12_init 471 = .ok (.bipush 97, 2) := dc_16 (sg_at zd_dX12_init_449 15 rfl rfl) rfl
theorem dX12_init_473 : decode cX12_init 473 = .ok (.iastore, 1) := dc_79 (sg_at zd_dX12_init_449 16 rfl rfl)
theorem dX12_init_474 : decode cX12_init 474 = .ok (.dup, 1) := dc_89 (sg_at zd_dX12_init_449 17 rfl rfl)
theorem dX12_init_475 : decode cX12_init 475 = .ok (.bipush 77, 2) := dc_16 (sg_at zd_dX12_init_449 18 rfl rfl) rfl
theorem dX12_init_477 : decode cX12_init 477 = .ok (.bipush 110, 2) := dc_16 (sg_at zd_dX12_init_449 19 rfl rfl) rfl
theorem zd_dX12_init_479 : sg (cX12_init.data.toList.drop 479) [[79], [89], [16, 78], [16, 100], [79], [89], [16, 79], [16, 32], [79], [89], [16, 80], [16, 111], [79], [89], [16, 81], [16, 114], [79], [89], [16, 82], [16, 32]] = true := by decide +kernel
theorem dX12_init_479 : decode cX12_init 479 = .ok (.iastore, 1) := dc_79 (sg_at zd_dX12_init_479 0 rfl rfl)
theorem dX12_init_480 : decode cX12_init 480 = .ok (.dup, 1) := dc_89 (sg_at zd_dX12_init_479 1 rfl rfl)
theorem dX12_init_481 : decode cX12_init 481 = .ok (.bipush 78, 2) := dc_16 (sg_at zd_dX12_init_479 2 rfl rfl) rfl
theorem dX12_init_483 : decode cX12_init 483 = .ok (.bipush 100, 2) := dc_16 (sg_at zd_dX12_init_479 3 rfl rfl) rfl
theorem dX12_init_485 : decode cX12_init 485 = .ok (.iastore, 1) := dc_79 (sg_at zd_dX12_init_479 4 rfl rfl)
theorem dX12_init_486 : decode cX12_init 486 = .ok (.dup, 1) := dc_89 (sg_at zd_dX12_init_479 5 rfl rfl)
theorem dX12_init_487 : decode cX12_init 487 = .ok (.bipush 79, 2) := dc_16 (sg_at zd_dX12_init_479 6 rfl rfl) rfl
theorem dX12_init_489 : decode cX12_init 489 = .ok (.bipush 32, 2) := dc_16 (sg_at zd_dX12_init_479 7 rfl rfl) rfl
theorem dX12_init_491 : decode cX12_init 491 = .ok (.iastore, 1) := dc_79 (sg_at zd_dX12_init_479 8 rfl rfl)
theorem dX12_init_492 : decode cX12_init 492 = .ok (.dup, 1) := dc_89 (sg_at zd_dX12_init_479 9 rfl rfl)
theorem dX12_init_493 : decode cX12_init 493 = .ok (.bipush 80, 2) := dc_16 (sg_at zd_dX12_init_479 10 rfl rfl) rfl
theorem dX12_init_495 : decode cX12_init 495 = .ok (.bipush 111, 2) := dc_16 (sg_at zd_dX12_init_479 11 rfl rfl) rfl
theorem dX12_init_497 : decode cX12_init 497 = .ok (.iastore, 1) := dc_79 (sg_at zd_dX12_init_479 12 rfl rfl)
theorem dX12_init_498 : decode cX12_init 498 = .ok (.dup, 1) := dc_89 (sg_at zd_dX12_init_479 13 rfl rfl)
theorem dX12_init_499 : decode cX12_init 499 = .ok (.bipush 81, 2) := dc_16 (sg_at zd_dX12_init_479 14 rfl rfl) rfl
theorem dX12_init_501 : decode cX12_init 501 = .ok (.bipush 114, 2) := dc_16 (sg_at zd_dX12_init_479 15 rfl rfl) rfl
theorem dX12_init_503 : decode cX12_init 503 = .ok (.iastore, 1) := dc_79 (sg_at zd_dX12_init_479 16 rfl rfl)
theorem dX12_init_504 : decode cX12_init 504 = .ok (.dup, 1) := dc_89 (sg_at zd_dX12_init_479 17 rfl rfl)
theorem dX12_init_505 : decode cX12_init 505 = .ok (.bipush 82, 2) := dc_16 (sg_at zd_dX12_init_479 18 rfl rfl) rfl
theorem dX12_init_507 : decode cX12_init 507 = .ok (.bipush 32, 2) := dc_16 (sg_at zd_dX12_init_479 19 rfl rfl) rfl
theorem zd_dX12_init_509 : sg (cX12_init.data.toList.drop 509) [[79], [89], [16, 83], [16, 110], [79], [89], [16, 84], [16, 111], [79], [89], [16, 85], [16, 116], [79], [89], [16, 86], [16, 32], [79], [89], [16, 87], [16, 102]] = true := by decide +kernel
theorem dX12_init_509 : decode cX12_init 509 = .ok (.iastore, 1) := dc_79 (sg_at zd_dX12_init_509 0 rfl rfl)
theorem dX12_init_510 : decode cX12_init 510 = .ok (.dup, 1) := dc_89 (sg_at zd_dX12_init_509 1 rfl rfl)
theorem dX12_init_511 : decode cX12_init 511 = .ok (.bipush 83, 2) := dc_16 (sg_at zd_dX12_init_509 2 rfl rfl) rfl
theorem dX12_init_513 : decode cX12_init 513 = .ok (.bipush 110, 2) := dc_16 (sg_at zd_dX12_init_509 3 rfl rfl) rfl
theorem dX12_init_515 : decode cX12_init 515 = .ok (.iastore, 1) := dc_79 (sg_at zd_dX12_init_509 4 rfl rfl)
theorem dX12_init_516 : decode cX12_init 516 = .ok (.dup, 1) := dc_89 (sg_at zd_dX12_init_509 5 rfl rfl)
theorem dX12_init_517 : decode cX12_init 517 = .ok (.bipush 84, 2) := dc_16 (sg_at zd_dX12_init_509 6 rfl rfl) rfl
theorem dX12_init_519 : decode cX12_init 519 = .ok (.bipush 111, 2) := dc_16 (sg_at zd_dX12_init_509 7 rfl rfl) rfl
theorem dX12_init_521 : decode cX12_init 521 = .ok (.iastore, 1) := dc_79 (sg_at zd_dX12_init_509 8 rfl rfl)
theorem dX12_init_522 : decode cX12_init 522 = .ok (.dup, 1) := dc_89 (sg_at zd_dX12_init_509 9 rfl rfl)
theorem dX12_init_523 : decode cX12_init 523 = .ok (.bipush 85, 2) := dc_16 (sg_at zd_dX12_init_509 10 rfl rfl) rfl
theorem dX12_init_525 : decode cX12_init 525 = .ok (.bipush 116, 2) := dc_16 (sg_at zd_dX12_init_509 11 rfl rfl) rfl
theorem dX12_init_527 : decode cX12_init 527 = .ok (.iastore, 1) := dc_79 (sg_at zd_dX12_init_509 12 rfl rfl)
theorem dX12_init_528 : decode cX12_init 528 = .ok (.dup, 1) := dc_89 (sg_at zd_dX12_init_509 13 rfl rfl)
theorem dX12_init_529 : decode cX12_init 529 = .ok (.bipush 86, 2) := dc_16 (sg_at zd_dX12_init_509 14 rfl rfl) rfl
theorem dX12_init_531 : decode cX12_init 531 = .ok (.bipush 32, 2) := dc_16 (sg_at zd_dX12_init_509 15 rfl rfl) rfl
theorem dX12_init_533 : decode cX12_init 533 = .ok (.iastore, 1) := dc_79 (sg_at zd_dX12_init_509 16 rfl rfl)
theorem dX12_init_534 : decode cX12_init 534 = .ok (.dup, 1) := dc_89 (sg_at zd_dX12_init_509 17 rfl rfl)
theorem dX12_init_535 : decode cX12_init 535 = .ok (.bipush 87, 2) := dc_16 (sg_at zd_dX12_init_509 18 rfl rfl) rfl
theorem dX12_init_537 : decode cX12_init 537 = .ok (.bipush 102, 2) := dc_16 (sg_at zd_dX12_init_509 19 rfl rfl) rfl
theorem zd_dX12_init_539 : sg (cX12_init.data.toList.drop 539) [[79], [89], [16, 88], [16, 97], [79], [89], [16, 89], [16, 114], [79], [89], [16, 90], [16, 32], [79], [89], [16, 91], [16, 115], [79], [89], [16, 92], [16, 105]] = true := by decide +kernel
theorem dX12_init_539 : decode cX12_init 539 = .ok (.iastore, 1) := dc_79 (sg_at zd_dX12_init_539 0 rfl rfl)
theorem dX12_init_540 : decode cX12_init 540 = .ok (.dup, 1) := dc_89 (sg_at zd_dX12_init_539 1 rfl rfl)
theorem dX12_init_541 : decode cX12_init 541 = .ok (.bipush 88, 2) := dc_16 (sg_at zd_dX12_init_539 2 rfl rfl) rfl
theorem dX12_init_543 : decode cX12_init 543 = .ok (.bipush 97, 2) := dc_16 (sg_at zd_dX12_init_539 3 rfl rfl) rfl
theorem dX12_init_545 : decode cX12_init 545 = .ok (.iastore, 1) := dc_79 (sg_at zd_dX12_init_539 4 rfl rfl)
theorem dX12_init_546 : decode cX12_init 546 = .ok (.dup, 1) := dc_89 (sg_at zd_dX12_init_539 5 rfl rfl)
theorem dX12_init_547 : decode cX12_init 547 = .ok (.bipush 89, 2) := dc_16 (sg_at zd_dX12_init_539 6 rfl rfl) rfl
theorem dX12_init_549 : decode cX12_init 549 = .ok (.bipush 114, 2) := dc_16 (sg_at zd_dX12_init_539 7 rfl rfl) rfl
theorem dX12_init_551 : decode cX12_init 551 = .ok (.iastore, 1) := dc_79 (sg_at zd_dX12_init_539 8 rfl rfl)
theorem dX12_init_552 : decode cX12_init 552 = .ok (.dup, 1) := dc_89 (sg_at zd_dX12_init_539 9 rfl rfl)
theorem dX12_init_553 : decode cX12_init 553 = .ok (.bipush 90, 2) := dc_16 (sg_at zd_dX12_init_539 10 rfl rfl) rfl
theorem dX12_init_555 : decode cX12_init 555 = .ok (.bipush 32, 2) := dc_16 (sg_at zd_dX12_init_539 11 rfl rfl) rfl
theorem dX12_init_557 : decode cX12_init 557 = .ok (.iastore, 1) := dc_79 (sg_at zd_dX12_init_539 12 rfl rfl)
theorem dX12_init_558 : decode cX12_init 558 = .ok (.dup, 1) := dc_89 (sg_at zd_dX12_init_539 13 rfl rfl)
theorem dX12_init_559 : decode cX12_init 559 = .ok (.bipush 91, 2) := dc_16 (sg_at zd_dX12_init_539 14 rfl rfl) rfl
theorem dX12_init_561 : decode cX12_init 561 = .ok (.bipush 115, 2) := dc_16 (sg_at zd_dX12_init_539 15 rfl rfl) rfl
theorem dX12_init_563 : decode cX12_init 563 = .ok (.iastore, 1) := dc_79 (sg_at zd_dX12_init_539 16 rfl rfl)
theorem dX12_init_564 : decode cX12_init 564 = .ok (.dup, 1) := dc_89 (sg_at zd_dX12_init_539 17 rfl rfl)
theorem dX12_init_565 : decode cX12_init 565 = .ok (.bipush 92, 2) := dc_16 (sg_at zd_dX12_init_539 18 rfl rfl) rfl
theorem dX12_init_567 : decode cX12_init 567 = .ok (.bipush 105, 2) := dc_16 (sg_at zd_dX12_init_539 19 rfl rfl) rfl
theorem zd_dX12_init_569 : sg (cX12_init.data.toList.drop 569) [[79], [89], [16, 93], [16, 100], [79], [89], [16, 94], [16, 101], [79], [89], [16, 95], [16, 32], [79], [89], [16, 96], [16, 98], [79], [89], [16, 97], [16, 111]] = true := by decide +kernel
theorem dX12_init_569 : decode cX12_init 569 = .ok (.iastore, 1) := dc_79 (sg_at zd_dX12_init_569 0 rfl rfl)
theorem dX12_init_570 : decode cX12_init 570 = .ok (.dup, 1) := dc_89 (sg_at zd_dX12_init_569 1 rfl rfl)
theorem dX12_init_571 : decode cX12_init 571 = .ok (.bipush 93, 2) := dc_16 (sg_at zd_dX12_init_569 2 rfl rfl) rfl
theorem dX12_init_573 : decode cX12_init 573 = .ok (.bipush 100, 2) := dc_16 (sg_at zd_dX12_init_569 3 rfl rfl) rfl
theorem dX12_init_575 : decode cX12_init 575 = .ok (.iastore, 1) := dc_79 (sg_at zd_dX12_init_569 4 rfl rfl)
theorem dX12_init_576 : decode cX12_init 576 = .ok (.dup, 1) := dc_89 (sg_at zd_dX12_init_569 5 rfl rfl)
theorem dX12_init_577 : decode cX12_init 577 = .ok (.bipush 94, 2) := dc_16 (sg_at zd_dX12_init_569 6 rfl rfl) rfl
theorem dX12_init_579 : decode cX12_init 579 = .ok (.bipush 101, 2) := dc_16 (sg_at zd_dX12_init_569 7 rfl rfl) rfl
theorem dX12_init_581 : decode cX12_init 581 = .ok (.iastore, 1) := dc_79 (sg_at zd_dX12_init_569 8 rfl rfl)
theorem dX12_init_582 : decode cX12_init 582 = .ok (.dup, 1) := dc_89 (sg_at zd_dX12_init_569 9 rfl rfl)
theorem dX12_init_583 : decode cX12_init 583 = .ok (.bipush 95, 2) := dc_16 (sg_at zd_dX12_init_569 10 rfl rfl) rfl
theorem dX12_init_585 : decode cX12_init 585 = .ok (.bipush 32, 2) := dc_16 (sg_at zd_dX12_init_569 11 rfl rfl) rfl
theorem dX12_init_587 : decode cX12_init 587 = .ok (.iastore, 1) := dc_79 (sg_at zd_dX12_init_569 12 rfl rfl)
theorem dX12_init_588 : decode cX12_init 588 = .ok (.dup, 1) := dc_89 (sg_at zd_dX12_init_569 13 rfl rfl)
theorem dX12_init_589 : decode cX12_init 589 = .ok (.bipush 96, 2) := dc_16 (sg_at zd_dX12_init_569 14 rfl rfl) rfl
theorem dX12_init_591 : decode cX12_init 591 = .ok (.bipush 98, 2) := dc_16 (sg_at zd_dX12_init_569 15 rfl rfl) rfl
theorem dX12_init_593 : decode cX12_init 593 = .ok (.iastore, 1) := dc_79 (sg_at zd_dX12_init_569 16 rfl rfl)
theorem dX12_init_594 : decode cX12_init 594 = .ok (.dup, 1) := dc_89 (sg_at zd_dX12_init_569 17 rfl rfl)
theorem dX12_init_595 : decode cX12_init 595 = .ok (.bipush 97, 2) := dc_16 (sg_at zd_dX12_init_569 18 rfl rfl) rfl
theorem dX12_init_597 : decode cX12_init 597 = .ok (.bipush 111, 2) := dc_16 (sg_at zd_dX12_init_569 19 rfl rfl) rfl
theorem zd_dX12_init_599 : sg (cX12_init.data.toList.drop 599) [[79], [89], [16, 98], [16, 97], [79], [89], [16, 99], [16, 114], [79], [89], [16, 100], [16, 100], [79], [89], [16, 101], [16, 32], [79], [89], [16, 102], [16, 115]] = true := by decide +kernel
theorem dX12_init_599 : decode cX12_init 599 = .ok (.iastore, 1) := dc_79 (sg_at zd_dX12_init_599 0 rfl rfl)
theorem dX12_init_600 : decode cX12_init 600 = .ok (.dup, 1) := dc_89 (sg_at zd_dX12_init_599 1 rfl rfl)
theorem dX12_init_601 : decode cX12_init 601 = .ok (.bipush 98, 2) := dc_16 (sg_at zd_dX12_init_599 2 rfl rfl) rfl
theorem dX12_init_603 : decode cX12_init 603 = .ok (.bipush 97, 2) := dc_16 (sg_at zd_dX12_init_599 3 rfl rfl) rfl
theorem dX12_init_605 : decode cX12_init 605 = .ok (.iastore, 1) := dc_79 (sg_at zd_dX12_init_599 4 rfl rfl)
theorem dX12_init_606 : decode cX12_init 606 = .ok (.dup, 1) := dc_89 (sg_at zd_dX12_init_599 5 rfl rfl)
theorem dX12_init_607 : decode cX12_init 607 = .ok (.bipush 99, 2) := dc_16 (sg_at zd_dX12_init_599 6 rfl rfl) rfl
theorem dX12_init_609 : decode cX12_init 609 = .ok (.bipush 114, 2) := dc_16 (sg_at zd_dX12_init_599 7 rfl rfl) rfl
theorem dX12_init_611 : decode cX12_init 611 = .ok (.iastore, 1) := dc_79 (sg_at zd_dX12_init_599 8 rfl rfl)
theorem dX12_init_612 : decode cX12_init 612 = .ok (.dup, 1) := dc_89 (sg_at zd_dX12_init_599 9 rfl rfl)
theorem dX12_init_613 : decode cX12_init 613 = .ok (.bipush 100, 2) := dc_16 (sg_at zd_dX12_init_599 10 rfl rfl) rfl
theorem dX12_init_615 : decode cX12_init 615 = .ok (.bipush 100, 2) := dc_16 (sg_at zd_dX12_init_599 11 rfl rfl) rfl
theorem dX12_init_617 : decode cX12_init 617 = .ok (.iastore, 1) := dc_79 (sg_at zd_dX12_init_599 12 rfl rfl)
theorem dX12_init_618 : decode cX12_init 618 = .ok (.dup, 1) := dc_89 (sg_at zd_dX12_init_599 13 rfl rfl)
theorem dX12_init_619 : decode cX12_init 619 = .ok (.bipush 101, 2) := dc_16 (sg_at zd_dX12_init_599 14 rfl rfl) rfl
theorem dX12_init_621 : decode cX12_init 621 = .ok (.bipush 32, 2) := dc_16 (sg_at zd_dX12_init_599 15 rfl rfl) rfl
theorem dX12_init_623 : decode cX12_init 623 = .ok (.iastore, 1) := dc_79 (sg_at zd_dX12_init_599 16 rfl rfl)
theorem dX12_init_624 : decode cX12_init 624 = .ok (.dup, 1) := dc_89 (sg_at zd_dX12_init_599 17 rfl rfl)
theorem dX12_init_625 : decode cX12_init 625 = .ok (.bipush 102, 2) := dc_16 (sg_at zd_dX12_init_599 18 rfl rfl) rfl
theorem dX12_init_627 : decode cX12_init 627 = .ok (.bipush 115, 2) := dc_16 (sg_at zd_dX12_init_599 19 rfl rfl) rfl
theorem zd_dX12_init_629 : sg (cX12_init.data.toList.drop 629) [[79], [89], [16, 103], [16, 105], [79], [89], [16, 104], [16, 122], [79], [89], [16, 105], [16, 101], [79], [89], [16, 106], [16, 32], [79], [89], [16, 107], [16, 109]] = true := by decide +kernel
theorem dX12_init_629 : decode cX12_init 629 = .ok (.iastore, 1) := dc_79 (sg_at zd_dX12_init_629 0 rfl rfl)
theorem dX12_init_630 : decode cX12_init 630 = .ok (.dup, 1) := dc_89 (sg_at zd_dX12_init_629 1 rfl rfl)
theorem dX12_init_631 : decode cX12_init 631 = .ok (.bipush 103, 2) := dc_16 (sg_at zd_dX12_init_629 2 rfl rfl) rfl
theorem dX12_init_633 : decode cX12_init 633 = .ok (.bipush 105, 2) := dc_16 (sg_at zd_dX12_init_629 3 rfl rfl) rfl
theorem dX12_init_635 : decode cX12_init 635 = .ok (.iastore, 1) := dc_79 (sg_at zd_dX12_init_629 4 rfl rfl)
theorem dX12_init_636 : decode cX12_init 636 = .ok (.dup, 1) := dc_89 (sg_at zd_dX12_init_629 5 rfl rfl)
theorem dX12_init_637 : decode cX12_init 637 = .ok (.bipush 104, 2) := dc_16 (sg_at zd_dX12_init_629 6 rfl rfl) rfl
theorem dX12_init_639 : decode cX12_init 639 = .ok (.bipush 122, 2) := dc_16 (sg_at zd_dX12_init_629 7 rfl rfl) rfl
theorem dX12_init_641 : decode cX12_init 641 = .ok (.iastore, 1) := dc_79 (sg_at zd_dX12_init_629 8 rfl rfl)
theorem dX12_init_642 : decode cX12_init 642 = .ok (.dup, 1) := dc_89 (sg_at zd_dX12_init_629 9 rfl rfl)
theorem dX12_init_643 : decode cX12_init 643 = .ok (.bipush 105, 2) := dc_16 (sg_at zd_dX12_init_629 10 rfl rfl) rfl
theorem dX12_init_645 : decode cX12_init 645 = .ok (.bipush 101, 2) := dc_16 (sg_at zd_dX12_init_629 11 rfl rfl) rfl
theorem dX12_init_647 : decode cX12_init 647 = .ok (.iastore, 1) := dc_79 (sg_at zd_dX12_init_629 12 rfl rfl)
theorem dX12_init_648 : decode cX12_init 648 = .ok (.dup, 1) := dc_89 (sg_at zd_dX12_init_629 13 rfl rfl)
theorem dX12_init_649 : decode cX12_init 649 = .ok (.bipush 106, 2) := dc_16 (sg_at zd_dX12_init_629 14 rfl rfl) rfl
theorem dX12_init_651 : decode cX12_init 651 = .ok (.bipush 32, 2) := dc_16 (sg_at zd_dX12_init_629 15 rfl rfl) rfl
theorem dX12_init_653 : decode cX12_init 653 = .ok (.iastore, 1) := dc_79 (sg_at zd_dX12_init_629 16 rfl rfl)
theorem dX12_init_654 : decode cX12_init 654 = .ok (.dup, 1) := dc_89 (sg_at zd_dX12_init_629 17 rfl rfl)
theorem dX12_init_655 : decode cX12_init 655 = .ok (.bipush 107, 2) := dc_16 (sg_at zd_dX12_init_629 18 rfl rfl) rfl
theorem dX12_init_657 : decode cX12_init 657 = .ok (.bipush 109, 2) := dc_16 (sg_at zd_dX12_init_629 19 rfl rfl) rfl
theorem zd_dX12_init_659 : sg (cX12_init.data.toList.drop 659) [[79], [89], [16, 108], [16, 105], [79], [89], [16, 109], [16, 110], [79], [89], [16, 110], [16, 117], [79], [89], [16, 111], [16, 116], [79], [89], [16, 112], [16, 101]] = true := by decide +kernel
theorem dX12_init_659 : decode cX12_init 659 = .ok (.iastore, 1) := dc_79 (sg_at zd_dX12_init_659 0 rfl rfl)
theorem dX12_init_660 : decode cX12_init 660 = .ok (.dup, 1) := dc_89 (sg_at zd_dX12_init_659 1 rfl rfl)
theorem dX12_init_661 : decode cX12_init 661 = .ok (.bipush 108, 2) := dc_16 (sg_at zd_dX12_init_659 2 rfl rfl) rfl
theorem dX12_init_663 : decode cX12_init 663 = .ok (.bipush 105, 2) := dc_16 (sg_at zd_dX12_init_659 3 rfl rfl) rfl
theorem dX12_init_665 : decode cX12_init 665 = .ok (.iastore, 1) := dc_79 (sg_at zd_dX12_init_659 4 rfl rfl)
theorem dX12_init_666 : decode cX12_init 666 = .ok (.dup, 1) := dc_89 (sg_at zd_dX12_init_659 5 rfl rfl)
theorem dX12_init_667 : decode cX12_init 667 = .ok (.bipush 109, 2) := dc_16 (sg_at zd_dX12_init_659 6 rfl rfl) rfl
theorem dX12_init_669 : decode cX12_init 669 = .ok (.bipush 110, 2) := dc_16 (sg_at zd_dX12_init_659 7 rfl rfl) rfl
theorem dX12_init_671 : decode cX12_init 671 = .ok (.iastore, 1) := dc_79 (sg_at zd_dX12_init_659 8 rfl rfl)
theorem dX12_init_672 : decode cX12_init 672 = .ok (.dup, 1) := dc_89 (sg_at zd_dX12_init_659 9 rfl rfl)
theorem dX12_init_673 : decode cX12_init 673 = .ok (.bipush 110, 2) := dc_16 (sg_at zd_dX12_init_659 10 rfl rfl) rfl
theorem dX12_init_675 : decode cX12_init 675 = .ok (.bipush 117, 2) := dc_16 (sg_at zd_dX12_init_659 11 rfl rfl) rfl
theorem dX12_init_677 : decode cX12_init 677 = .ok (.iastore, 1) := dc_79 (sg_at zd_dX12_init_659 12 rfl rfl)
theorem dX12_init_678 : decode cX12_init 678 = .ok (.dup, 1) := dc_89 (sg_at zd_dX12_init_659 13 rfl rfl)
theorem dX12_init_679 : decode cX12_init 679 = .ok (.bipush 111, 2) := dc_16 (sg_at zd_dX12_init_659 14 rfl rfl) rfl
theorem dX12_init_681 : decode cX12_init 681 = .ok (.bipush 116, 2) := dc_16 (sg_at zd_dX12_init_659 15 rfl rfl) rfl
theorem dX12_init_683 : decode cX12_init 683 = .ok (.iastore, 1) := dc_79 (sg_at zd_dX12_init_659 16 rfl rfl)
theorem dX12_init_684 : decode cX12_init 684 = .ok (.dup, 1) := dc_89 (sg_at zd_dX12_init_659 17 rfl rfl)
theorem dX12_init_685 : decode cX12_init 685 = .ok (.bipush 112, 2) := dc_16 (sg_at zd_dX12_init_659 18 rfl rfl) rfl
theorem dX12_init_687 : decode cX12_init 687 = .ok (.bipush 101, 2) := dc_16 (sg_at zd_dX12_init_659 19 rfl rfl) rfl
theorem zd_dX12_init_689 : sg (cX12_init.data.toList.drop 689) [[79], [89], [16, 113], [16, 32], [79], [89], [16, 114], [16, 119], [79], [89], [16, 115], [16, 104], [79], [89], [16, 116], [16, 105], [79], [89], [16, 117], [16, 99]] = true := by decide +kernel
theorem dX12_init_689 : decode cX12_init 689 = .ok (.iastore, 1) := dc_79 (sg_at zd_dX12_init_689 0 rfl rfl)
theorem dX12_init_690 : decode cX12_init 690 = .ok (.dup, 1) := dc_89 (sg_at zd_dX12_init_689 1 rfl rfl)
theorem dX12_init_691 : decode cX12_init 691 = .ok (.bipush 113, 2) := dc_16 (sg_at zd_dX12_init_689 2 rfl rfl) rfl
theorem dX12_init_693 : decode cX12_init 693 = .ok (.bipush 32, 2) := dc_16 (sg_at zd_dX12_init_689 3 rfl rfl) rfl
theorem dX12_init_695 : decode cX12_init 695 = .ok (.iastore, 1) := dc_79 (sg_at zd_dX12_init_689 4 rfl rfl)
theorem dX12_init_696 : decode cX12_init 696 = .ok (.dup, 1) := dc_89 (sg_at zd_dX12_init_689 5 rfl rfl)
theorem dX12_init_697 : decode cX12_init 697 = .ok (.bipush 114, 2) := dc_16 (sg_at zd_dX12_init_689 6 rfl rfl) rfl
theorem dX12_init_699 : decode cX12_init 699 = .ok (.bipush 119, 2) := dc_16 (sg_at zd_dX12_init_689 7 rfl rfl) rfl
theorem dX12_init_701 : decode cX12_init 701 = .ok (.iastore, 1) := dc_79 (sg_at zd_dX12_init_689 8 rfl rfl)
theorem dX12_init_702 : decode cX12_init 702 = .ok (.dup, 1) := dc_89 (sg_at zd_dX12_init_689 9 rfl rfl)
theorem dX12_init_703 : decode cX12_init 703 = .ok (.bipush 115, 2) := dc_16 (sg_at zd_dX12_init_689 10 rfl rfl) rfl
theorem dX12_init_705 : decode cX12_init 705 = .ok (.bipush 104, 2) := dc_16 (sg_at zd_dX12_init_689 11 rfl rfl) rfl
theorem dX12_init_707 : decode cX12_init 707 = .ok (.iastore, 1) := dc_79 (sg_at zd_dX12_init_689 12 rfl rfl)
theorem dX12_init_708 : decode cX12_init 708 = .ok (.dup, 1) := dc_89 (sg_at zd_dX12_init_689 13 rfl rfl)
theorem dX12_init_709 : decode cX12_init 709 = .ok (.bipush 116, 2) := dc_16 (sg_at zd_dX12_init_689 14 rfl rfl) rfl
theorem dX12_init_711 : decode cX12_init 711 = .ok (.bipush 105, 2) := dc_16 (sg_at zd_dX12_init_689 15 rfl rfl) rfl
theorem dX12_init_713 : decode cX12_init 713 = .ok (.iastore, 1) := dc_79 (sg_at zd_dX12_init_689 16 rfl rfl)
theorem dX12_init_714 : decode cX12_init 714 = .ok (.dup, 1) := dc_89 (sg_at zd_dX12_init_689 17 rfl rfl)
theorem dX12_init_715 : decode cX12_init 715 = .ok (.bipush 117, 2) := dc_16 (sg_at zd_dX12_init_689 18 rfl rfl) rfl
theorem dX12_init_717 : decode cX12_init 717 = .ok (.bipush 99, 2) := dc_16 (sg_at zd_dX12_init_689 19 rfl rfl) rfl
theorem zd_dX12_init_719 : sg (cX12_init.data.toList.drop 719) [[79], [89], [16, 118], [16, 104], [79], [89], [16, 119], [16, 32], [79], [181, 0, 13], [42], [2], [181, 0, 16], [42], [8], [188, 4], [181, 0, 20], [42], [16, 14], [188, 10]] = true := by decide +kernel
theorem dX12_init_719 : decode cX12_init 719 = .ok (.iastore, 1) := dc_79 (sg_at zd_dX12_init_719 0 rfl rfl)
theorem dX12_init_720 : decode cX12_init 720 = .ok (.dup, 1) := dc_89 (sg_at zd_dX12_init_719 1 rfl rfl)
theorem dX12_init_721 : decode cX12_init 721 = .ok (.bipush 118, 2) := dc_16 (sg_at zd_dX12_init_719 2 rfl rfl) rfl
theorem dX12_init_723 : decode cX12_init 723 = .ok (.bipush 104, 2) := dc_16 (sg_at zd_dX12_init_719 3 rfl rfl) rfl
theorem dX12_init_725 : decode cX12_init 725 = .ok (.iastore, 1) := dc_79 (sg_at zd_dX12_init_719 4 rfl rfl)
theorem dX12_init_726 : decode cX12_init 726 = .ok (.dup, 1) := dc_89 (sg_at zd_dX12_init_719 5 rfl rfl)
theorem dX12_init_727 : decode cX12_init 727 = .ok (.bipush 119, 2) := dc_16 (sg_at zd_dX12_init_719 6 rfl rfl) rfl
theorem dX12_init_729 : decode cX12_init 729 = .ok (.bipush 32, 2) := dc_16 (sg_at zd_dX12_init_719 7 rfl rfl) rfl
theorem dX12_init_731 : decode cX12_init 731 = .ok (.iastore, 1) := dc_79 (sg_at zd_dX12_init_719 8 rfl rfl)
theorem dX12_init_732 : decode cX12_init 732 = .ok (.putfield 13, 3) := dc_181 (sg_at zd_dX12_init_719 9 rfl rfl) rfl
theorem dX12_init_735 : decode cX12_init 735 = .ok (.aload_n 0, 1) := dc_42 (sg_at zd_dX12_init_719 10 rfl rfl)
theorem dX12_init_736 : decode cX12_init 736 = .ok (.iconst (-1), 1) := dc_2 (sg_at zd_dX12_init_719 11 rfl rfl)
theorem dX12_init_737 : decode cX12_init 737 = .ok (.putfield 16, 3) := dc_181 (sg_at zd_dX12_init_719 12 rfl rfl) rfl
theorem dX12_init_740 : decode cX12_init 740 = .ok (.aload_n 0, 1) := dc_42 (sg_at zd_dX12_init_719 13 rfl rfl)
theorem dX12_init_741 : decode cX12_init 741 = .ok (.iconst 5, 1) := dc_8 (sg_at zd_dX12_init_719 14 rfl rfl)
theorem dX12_init_742 : decode cX12_init 742 = .ok (.newarray .boolean, 2) := dc_188_4 (sg_at zd_dX12_init_719 15 rfl rfl)
theorem dX12_init_744 : decode cX12_init 744 = .ok (.putfield 20, 3) := dc_181 (sg_at zd_dX12_init_719 16 rfl rfl) rfl
theorem dX12_init_747 : decode cX12_init 747 = .ok (.aload_n 0, 1) := dc_42 (sg_at zd_dX12_init_719 17 rfl rfl)
theorem dX12_init_748 : decode cX12_init 748 = .ok (.bipush 14, 2) := dc_16 (sg_at zd_dX12_init_719 18 rfl rfl) rfl
theorem dX12_init_750 : decode cX12_init 750 = .ok (.newarray .int, 2) := dc_188_10 (sg_at zd_dX12_init_719 19 rfl rfl)
theorem zd_dX12_init_752 : sg (cX12_init.data.toList.drop 752) [[181, 0, 24], [42], [16, 10], [188, 10], [181, 0, 27], [42], [16, 10], [188, 10], [181, 0, 30], [42], [16, 10], [188, 10], [181, 0, 33], [42], [16, 10], [188, 10], [181, 0, 36], [42], [16, 10], [188, 10]] = true := by decide +kernel
theorem dX12_init_752 : decode cX12_init 752 = .ok (.putfield 24, 3) := dc_181 (sg_at zd_dX12_init_752 0 rfl rfl) rfl
theorem dX12_init_755 : decode cX12_init 755 = .ok (.aload_n 0, 1) := dc_42 (sg_at zd_dX12_init_752 1 rfl rfl)
theorem dX12_init_756 : decode cX12_init 756 = .ok (.bipush 10, 2) := dc_16 (sg_at zd_dX12_init_752 2 rfl rfl) rfl
theorem dX12_init_758 : decode cX12_init 758 = .ok (.newarray .int, 2) := dc_188_10 (sg_at zd_dX12_init_752 3 rfl rfl)
theorem dX12_init_760 : decode cX12_init 760 = .ok (.putfield 27, 3) := dc_181 (sg_at zd_dX12_init_752 4 rfl rfl) rfl
theorem dX12_init_763 : decode cX12_init 763 = .ok (.aload_n 0, 1) := dc_42 (sg_at zd_dX12_init_752 5 rfl rfl)
theorem dX12_init_764 : decode cX12_init 764 = .ok (.bipush 10, 2) := dc_16 (sg_at zd_dX12_init_752 6 rfl rfl) rfl
theorem dX12_init_766 : decode cX12_init 766 = .ok (.newarray .int, 2) := dc_188_10 (sg_at zd_dX12_init_752 7 rfl rfl)
theorem dX12_init_768 : decode cX12_init 768 = .ok (.putfield 30, 3) := dc_181 (sg_at zd_dX12_init_752 8 rfl rfl) rfl
theorem dX12_init_771 : decode cX12_init 771 = .ok (.aload_n 0, 1) := dc_42 (sg_at zd_dX12_init_752 9 rfl rfl)
theorem dX12_init_772 : decode cX12_init 772 = .ok (.bipush 10, 2) := dc_16 (sg_at zd_dX12_init_752 10 rfl rfl) rfl
theorem dX12_init_774 : decode cX12_init 774 = .ok (.newarray .int, 2) := dc_188_10 (sg_at zd_dX12_init_752 11 rfl rfl)
theorem dX12_init_776 : decode cX12_init 776 = .ok (.putfield 33, 3) := dc_181 (sg_at zd_dX12_init_752 12 rfl rfl) rfl
theorem dX12_init_779 : decode cX12_init 779 = .ok (.aload_n 0, 1) := dc_42 (sg_at zd_dX12_init_752 13 rfl rfl)
theorem dX12_init_780 : decode cX12_init 780 = .ok (.bipush 10, 2) := dc_16 (sg_at zd_dX12_init_752 14 rfl rfl) rfl
theorem dX12_init_782 : decode cX12_init 782 = .ok (.newarray .int, 2) := dc_188_10 (sg_at zd_dX12_init_752 15 rfl rfl)
theorem dX12_init_784 : decode cX12_init 784 = .ok (.putfield 36, 3) := dc_181 (sg_at zd_dX12_init_752 16 rfl rfl) rfl
theorem dX12_init_787 : decode cX12_init 787 = .ok (.aload_n 0, 1) := dc_42 (sg_at zd_dX12_init_752 17 rfl rfl)
theorem dX12_init_788 : decode cX12_init 788 = .ok (.bipush 10, 2) := dc_16 (sg_at zd_dX12_init_752 18 rfl rfl) rfl
theorem dX12_init_790 : decode cX12_init 790 = .ok (.newarray .int, 2) := dc_188_10 (sg_at zd_dX12_init_752 19 rfl rfl)
theorem zd_dX12_init_792 : sg (cX12_init.data.toList.drop 792) [[181, 0, 39], [42], [16, 10], [188, 10], [181, 0, 42], [42], [16, 8], [188, 10], [181, 0, 45], [42], [16, 56], [188, 10], [181, 0, 48], [42], [16, 56], [188, 10], [181, 0, 51], [42], [16, 56], [188, 10]] = true := by decide +kernel
theorem dX12_init_792 : decode cX12_init 792 = .ok (.putfield 39, 3) := dc_181 (sg_at zd_dX12_init_792 0 rfl rfl) rfl
theorem dX12_init_795 : decode cX12_init 795 = .ok (.aload_n 0, 1) := dc_42 (sg_at zd_dX12_init_792 1 rfl rfl)
theorem dX12_init_796 : decode cX12_init 796 = .ok (.bipush 10, 2) := dc_16 (sg_at zd_dX12_init_792 2 rfl rfl) rfl
theorem dX12_init_798 : decode cX12_init 798 = .ok (.newarray .int, 2) := dc_188_10 (sg_at zd_dX12_init_792 3 rfl rfl)
theorem dX12_init_800 : decode cX12_init 800 = .ok (.putfield 42, 3) := dc_181 (sg_at zd_dX12_init_792 4 rfl rfl) rfl
theorem dX12_init_803 : decode cX12_init 803 = .ok (.aload_n 0, 1) := dc_42 (sg_at zd_dX12_init_792 5 rfl rfl)
theorem dX12_init_804 : decode cX12_init 804 = .ok (.bipush 8, 2) := dc_16 (sg_at zd_dX12_init_792 6 rfl rfl) rfl
theorem dX12_init_806 : decode cX12_init 806 = .ok (.newarray .int, 2) := dc_188_10 (sg_at zd_dX12_init_792 7 rfl rfl)
theorem dX12_init_808 : decode cX12_init 808 = .ok (.putfield 45, 3) := dc_181 (sg_at zd_dX12_init_792 8 rfl rfl) rfl
theorem dX12_init_811 : decode cX12_init 811 = .ok (.aload_n 0, 1) := dc_42 (sg_at zd_dX12_init_792 9 rfl rfl)
theorem dX12_init_812 : decode cX12_init 812 = .ok (.bipush 56, 2) := dc_16 (sg_at zd_dX12_init_792 10 rfl rfl) rfl
theorem dX12_init_814 : decode cX12_init 814 = .ok (.newarray .int, 2) := dc_188_10 (sg_at zd_dX12_init_792 11 rfl rfl)
theorem dX12_init_816 : decode cX12_init 816 = .ok (.putfield 48, 3) := dc_181 (sg_at zd_dX12_init_792 12 rfl rfl) rfl
theorem dX12_init_819 : decode cX12_init 819 = .ok (.aload_n 0, 1) := dc_42 (sg_at zd_dX12_init_792 13 rfl rfl)
theorem dX12_init_820 : decode cX12_init 820 = .ok (.bipush 56, 2) := dc_16 (sg_at zd_dX12_init_792 14 rfl rfl) rfl
theorem dX12_init_822 : decode cX12_init 822 = .ok (.newarray .int, 2) := dc_188_10 (sg_at zd_dX12_init_792 15 rfl rfl)
theorem dX12_init_824 : decode cX12_init 824 = .ok (.putfield 51, 3) := dc_181 (sg_at zd_dX12_init_792 16 rfl rfl) rfl
theorem dX12_init_827 : decode cX12_init 827 = .ok (.aload_n 0, 1) := dc_42 (sg_at zd_dX12_init_792 17 rfl rfl)
theorem dX12_init_828 : decode cX12_init 828 = .ok (.bipush 56, 2) := dc_16 (sg_at zd_dX12_init_792 18 rfl rfl) rfl
theorem dX12_init_830 : decode cX12_init 830 = .ok (.newarray .int, 2) := dc_188_10 (sg_at zd_dX12_init_792 19 rfl rfl)
theorem zd_dX12_init_832 : sg (cX12_init.data.toList.drop 832) [[181, 0, 54], [42], [16, 6], [188, 4], [181, 0, 57], [42], [16, 6], [188, 10], [181, 0, 60], [42], [16, 6], [188, 10], [181, 0, 63], [42], [17, 0, 128], [188, 10], [181, 0, 66], [42], [17, 0, 128], [188, 10]] = true := by decide +kernel
theorem dX12_init_832 : decode cX12_init 832 = .ok (.putfield 54, 3) := dc_181 (sg_at zd_dX12_init_832 0 rfl rfl) rfl
theorem dX12_init_835 : decode cX12_init 835 = .ok (.aload_n 0, 1) := dc_42 (sg_at zd_dX12_init_832 1 rfl rfl)
theorem dX12_init_836 : decode cX12_init 836 = .ok (.bipush 6, 2) := dc_16 (sg_at zd_dX12_init_832 2 rfl rfl) rfl
theorem dX12_init_838 : decode cX12_init 838 = .ok (.newarray .boolean, 2) := dc_188_4 (sg_at zd_dX12_init_832 3 rfl rfl)
theorem dX12_init_840 : decode cX12_init 840 = .ok (.putfield 57, 3) := dc_181 (sg_at zd_dX12_init_832 4 rfl rfl) rfl
theorem dX12_init_843 : decode cX12_init 843 = .ok (.aload_n 0, 1) := dc_42 (sg_at zd_dX12_init_832 5 rfl rfl)
theorem dX12_init_844 : decode cX12_init 844 = .ok (.bipush 6, 2) := dc_16 (sg_at zd_dX12_init_832 6 rfl rfl) rfl
theorem dX12_init_846 : decode cX12_init 846 = .ok (.newarray .int, 2) := dc_188_10 (sg_at zd_dX12_init_832 7 rfl rfl)
theorem dX12_init_848 : decode cX12_init 848 = .ok (.putfield 60, 3) := dc_181 (sg_at zd_dX12_init_832 8 rfl rfl) rfl
theorem dX12_init_851 : decode cX12_init 851 = .ok (.aload_n 0, 1) := dc_42 (sg_at zd_dX12_init_832 9 rfl rfl)
theorem dX12_init_852 : decode cX12_init 852 = .ok (.bipush 6, 2) := dc_16 (sg_at zd_dX12_init_832 10 rfl rfl) rfl
theorem dX12_init_854 : decode cX12_init 854 = .ok (.newarray .int, 2) := dc_188_10 (sg_at zd_dX12_init_832 11 rfl rfl)
theorem dX12_init_856 : decode cX12_init 856 = .ok (.putfield 63, 3) := dc_181 (sg_at zd_dX12_init_832 12 rfl rfl) rfl
theorem dX12_init_859 : decode cX12_init 859 = .ok (.aload_n 0, 1) := dc_42 (sg_at zd_dX12_init_832 13 rfl rfl)
theorem dX12_init_860 : decode cX12_init 860 = .ok (.sipush 128, 3) := dc_17 (sg_at zd_dX12_init_832 14 rfl rfl) rfl
theorem dX12_init_863 : decode cX12_init 863 = .ok (.newarray .int, 2) := dc_188_10 (sg_at zd_dX12_init_832 15 rfl rfl)
theorem dX12_init_865 : decode cX12_init 865 = .ok (.putfield 66, 3) := dc_181 (sg_at zd_dX12_init_832 16 rfl rfl) rfl
theorem dX12_init_868 : decode cX12_init 868 = .ok (.aload_n 0, 1) := dc_42 (sg_at zd_dX12_init_832 17 rfl rfl)
theorem dX12_init_869 : decode cX12_init 869 = .ok (.sipush 128, 3) := dc_17 (sg_at zd_dX12_init_832 18 rfl rfl) rfl
theorem dX12_init_872 : decode cX12_init 872 = .ok (.newarray .int, 2) := dc_188_10 (sg_at zd_dX12_init_832 19 rfl rfl)
theorem zd_dX12_init_874 : sg (cX12_init.data.toList.drop 874) [[181, 0, 69], [42], [17, 0, 128], [188, 10], [181, 0, 72], [42], [16, 96], [188, 10], [181, 0, 75], [42], [16, 96], [188, 10], [181, 0, 78], [42], [16, 6], [188, 11], [181, 0, 81], [42], [16, 64], [188, 11]] = true := by decide +kernel
theorem dX12_init_874 : decode cX12_init 874 = .ok (.putfield 69, 3) := dc_181 (sg_at zd_dX12_init_874 0 rfl rfl) rfl
theorem dX12_init_877 : decode cX12_init 877 = .ok (.aload_n 0, 1) := dc_42 (sg_at zd_dX12_init_874 1 rfl rfl)
theorem dX12_init_878 : decode cX12_init 878 = .ok (.sipush 128, 3) := dc_17 (sg_at zd_dX12_init_874 2 rfl rfl) rfl
theorem dX12_init_881 : decode cX12_init 881 = .ok (.newarray .int, 2) := dc_188_10 (sg_at zd_dX12_init_874 3 rfl rfl)
theorem dX12_init_883 : decode cX12_init 883 = .ok (.putfield 72, 3) := dc_181 (sg_at zd_dX12_init_874 4 rfl rfl) rfl
theorem dX12_init_886 : decode cX12_init 886 = .ok (.aload_n 0, 1) := dc_42 (sg_at zd_dX12_init_874 5 rfl rfl)
theorem dX12_init_887 : decode cX12_init 887 = .ok (.bipush 96, 2) := dc_16 (sg_at zd_dX12_init_874 6 rfl rfl) rfl
theorem dX12_init_889 : decode cX12_init 889 = .ok (.newarray .int, 2) := dc_188_10 (sg_at zd_dX12_init_874 7 rfl rfl)
theorem dX12_init_891 : decode cX12_init 891 = .ok (.putfield 75, 3) := dc_181 (sg_at zd_dX12_init_874 8 rfl rfl) rfl
theorem dX12_init_894 : decode cX12_init 894 = .ok (.aload_n 0, 1) := dc_42 (sg_at zd_dX12_init_874 9 rfl rfl)
theorem dX12_init_895 : decode cX12_init 895 = .ok (.bipush 96, 2) := dc_16 (sg_at zd_dX12_init_874 10 rfl rfl) rfl
theorem dX12_init_897 : decode cX12_init 897 = .ok (.newarray .int, 2) := dc_188_10 (sg_at zd_dX12_init_874 11 rfl rfl)
theorem dX12_init_899 : decode cX12_init 899 = .ok (.putfield 78, 3) := dc_181 (sg_at zd_dX12_init_874 12 rfl rfl) rfl
theorem dX12_init_902 : decode cX12_init 902 = .ok (.aload_n 0, 1) := dc_42 (sg_at zd_dX12_init_874 13 rfl rfl)
theorem dX12_init_903 : decode cX12_init 903 = .ok (.bipush 6, 2) := dc_16 (sg_at zd_dX12_init_874 14 rfl rfl) rfl
theorem dX12_init_905 : decode cX12_init 905 = .ok (.newarray .long, 2) := dc_188_11 (sg_at zd_dX12_init_874 15 rfl rfl)
theorem dX12_init_907 : decode cX12_init 907 = .ok (.putfield 81, 3) := dc_181 (sg_at zd_dX12_init_874 16 rfl rfl) rfl
theorem dX12_init_910 : decode cX12_init 910 = .ok (.aload_n 0, 1) := dc_42 (sg_at zd_dX12_init_874 17 rfl rfl)
theorem dX12_init_911 : decode cX12_init 911 = .ok (.bipush 64, 2) := dc_16 (sg_at zd_dX12_init_874 18 rfl rfl) rfl
theorem dX12_init_913 : decode cX12_init 913 = .ok (.newarray .long, 2) := dc_188_11 (sg_at zd_dX12_init_874 19 rfl rfl)
theorem zd_dX12_init_915 : sg (cX12_init.data.toList.drop 915) [[181, 0, 85], [42], [16, 10], [188, 10], [181, 0, 88], [42], [16, 10], [188, 10], [181, 0, 91], [42], [16, 10], [188, 10], [181, 0, 94], [42], [16, 10], [188, 10], [181, 0, 97], [42], [8], [188, 10]] = true := by decide +kernel
theorem dX12_init_915 : decode cX12_init 915 = .ok (.putfield 85, 3) := dc_181 (sg_at zd_dX12_init_915 0 rfl rfl) rfl
theorem dX12_init_918 : decode cX12_init 918 = .ok (.aload_n 0, 1) := dc_42 (sg_at zd_dX12_init_915 1 rfl rfl)
theorem dX12_init_919 : decode cX12_init 919 = .ok (.bipush 10, 2) := dc_16 (sg_at zd_dX12_init_915 2 rfl rfl) rfl
theorem dX12_init_921 : decode cX12_init 921 = .ok (.newarray .int, 2) := dc_188_10 (sg_at zd_dX12_init_915 3 rfl rfl)
theorem dX12_init_923 : decode cX12_init 923 = .ok (.putfield 88, 3) := dc_181 (sg_at zd_dX12_init_915 4 rfl rfl) rfl
theorem dX12_init_926 : decode cX12_init 926 = .ok (.aload_n 0, 1) := dc_42 (sg_at zd_dX12_init_915 5 rfl rfl)
theorem dX12_init_927 : decode cX12_init 927 = .ok (.bipush 10, 2) := dc_16 (sg_at zd_dX12_init_915 6 rfl rfl) rfl
theorem dX12_init_929 : decode cX12_init 929 = .ok (.newarray .int, 2) := dc_188_10 (sg_at zd_dX12_init_915 7 rfl rfl)
theorem dX12_init_931 : decode cX12_init 931 = .ok (.putfield 91, 3) := dc_181 (sg_at zd_dX12_init_915 8 rfl rfl) rfl
theorem dX12_init_934 : decode cX12_init 934 = .ok (.aload_n 0, 1) := dc_42 (sg_at zd_dX12_init_915 9 rfl rfl)
theorem dX12_init_935 : decode cX12_init 935 = .ok (.bipush 10, 2) := dc_16 (sg_at zd_dX12_init_915 10 rfl rfl) rfl
theorem dX12_init_937 : decode cX12_init 937 = .ok (.newarray .int, 2) := dc_188_10 (sg_at zd_dX12_init_915 11 rfl rfl)
theorem dX12_init_939 : decode cX12_init 939 = .ok (.putfield 94, 3) := dc_181 (sg_at zd_dX12_init_915 12 rfl rfl) rfl
theorem dX12_init_942 : decode cX12_init 942 = .ok (.aload_n 0, 1) := dc_42 (sg_at zd_dX12_init_915 13 rfl rfl)
theorem dX12_init_943 : decode cX12_init 943 = .ok (.bipush 10, 2) := dc_16 (sg_at zd_dX12_init_915 14 rfl rfl) rfl
theorem dX12_init_945 : decode cX12_init 945 = .ok (.newarray .int, 2) := dc_188_10 (sg_at zd_dX12_init_915 15 rfl rfl)
theorem dX12_init_947 : decode cX12_init 947 = .ok (.putfield 97, 3) := dc_181 (sg_at zd_dX12_init_915 16 rfl rfl) rfl
theorem dX12_init_950 : decode cX12_init 950 = .ok (.aload_n 0, 1) := dc_42 (sg_at zd_dX12_init_915 17 rfl rfl)
theorem dX12_init_951 : decode cX12_init 951 = .ok (.iconst 5, 1) := dc_8 (sg_at zd_dX12_init_915 18 rfl rfl)
theorem dX12_init_952 : decode cX12_init 952 = .ok (.newarray .int, 2) := dc_188_10 (sg_at zd_dX12_init_915 19 rfl rfl)
theorem zd_dX12_init_954 : sg (cX12_init.data.toList.drop 954) [[181, 0, 100], [42], [16, 56], [188, 10], [181, 0, 103], [42], [5], [188, 10], [181, 0, 106], [42], [5], [188, 10], [181, 0, 109], [42], [5], [188, 10], [181, 0, 112], [42], [2], [181, 0, 115]] = true := by decide +kernel
theorem dX12_init_954 : decode cX12_init 954 = .ok (.putfield 100, 3) := dc_181 (sg_at zd_dX12_init_954 0 rfl rfl) rfl
theorem dX12_init_957 : decode cX12_init 957 = .ok (.aload_n 0, 1) := dc_42 (sg_at zd_dX12_init_954 1 rfl rfl)
theorem dX12_init_958 : decode cX12_init 958 = .ok (.bipush 56, 2) := dc_16 (sg_at zd_dX12_init_954 2 rfl rfl) rfl
theorem dX12_init_960 : decode cX12_init 960 = .ok (.newarray .int, 2) := dc_188_10 (sg_at zd_dX12_init_954 3 rfl rfl)
theorem dX12_init_962 : decode cX12_init 962 = .ok (.putfield 103, 3) := dc_181 (sg_at zd_dX12_init_954 4 rfl rfl) rfl
theorem dX12_init_965 : decode cX12_init 965 = .ok (.aload_n 0, 1) := dc_42 (sg_at zd_dX12_init_954 5 rfl rfl)
theorem dX12_init_966 : decode cX12_init 966 = .ok (.iconst 2, 1) := dc_5 (sg_at zd_dX12_init_954 6 rfl rfl)
theorem dX12_init_967 : decode cX12_init 967 = .ok (.newarray .int, 2) := dc_188_10 (sg_at zd_dX12_init_954 7 rfl rfl)
theorem dX12_init_969 : decode cX12_init 969 = .ok (.putfield 106, 3) := dc_181 (sg_at zd_dX12_init_954 8 rfl rfl) rfl
theorem dX12_init_972 : decode cX12_init 972 = .ok (.aload_n 0, 1) := dc_42 (sg_at zd_dX12_init_954 9 rfl rfl)
theorem dX12_init_973 : decode cX12_init 973 = .ok (.iconst 2, 1) := dc_5 (sg_at zd_dX12_init_954 10 rfl rfl)
theorem dX12_init_974 : decode cX12_init 974 = .ok (.newarray .int, 2) := dc_188_10 (sg_at zd_dX12_init_954 11 rfl rfl)
theorem dX12_init_976 : decode cX12_init 976 = .ok (.putfield 109, 3) := dc_181 (sg_at zd_dX12_init_954 12 rfl rfl) rfl
theorem dX12_init_979 : decode cX12_init 979 = .ok (.aload_n 0, 1) := dc_42 (sg_at zd_dX12_init_954 13 rfl rfl)
theorem dX12_init_980 : decode cX12_init 980 = .ok (.iconst 2, 1) := dc_5 (sg_at zd_dX12_init_954 14 rfl rfl)
theorem dX12_init_981 : decode cX12_init 981 = .ok (.newarray .int, 2) := dc_188_10 (sg_at zd_dX12_init_954 15 rfl rfl)
theorem dX12_init_983 : decode cX12_init 983 = .ok (.putfield 112, 3) := dc_181 (sg_at zd_dX12_init_954 16 rfl rfl) rfl
theorem dX12_init_986 : decode cX12_init 986 = .ok (.aload_n 0, 1) := dc_42 (sg_at zd_dX12_init_954 17 rfl rfl)
theorem dX12_init_987 : decode cX12_init 987 = .ok (.iconst (-1), 1) := dc_2 (sg_at zd_dX12_init_954 18 rfl rfl)
theorem dX12_init_988 : decode cX12_init 988 = .ok (.putfield 115, 3) := dc_181 (sg_at zd_dX12_init_954 19 rfl rfl) rfl
theorem zd_dX12_init_991 : sg (cX12_init.data.toList.drop 991) [[42], [8], [188, 10], [181, 0, 118], [42], [16, 25], [188, 10], [181, 0, 121], [42], [16, 25], [188, 10], [181, 0, 124], [42], [16, 29], [188, 10], [181, 0, 127], [42], [16, 28], [188, 10], [181, 0, 130]] = true := by decide +kernel
theorem dX12_init_991 : decode cX12_init 991 = .ok (.aload_n 0, 1) := dc_42 (sg_at zd_dX12_init_991 0 rfl rfl)
theorem dX12_init_992 : decode cX12_init 992 = .ok (.iconst 5, 1) := dc_8 (sg_at zd_dX12_init_991 1 rfl rfl)
theorem dX12_init_993 : decode cX12_init 993 = .ok (.newarray .int, 2) := dc_188_10 (sg_at zd_dX12_init_991 2 rfl rfl)
theorem dX12_init_995 : decode cX12_init 995 = .ok (.putfield 118, 3) := dc_181 (sg_at zd_dX12_init_991 3 rfl rfl) rfl
theorem dX12_init_998 : decode cX12_init 998 = .ok (.aload_n 0, 1) := dc_42 (sg_at zd_dX12_init_991 4 rfl rfl)
theorem dX12_init_999 : decode cX12_init 999 = .ok (.bipush 25, 2) := dc_16 (sg_at zd_dX12_init_991 5 rfl rfl) rfl
theorem dX12_init_1001 : decode cX12_init 1001 = .ok (.newarray .int, 2) := dc_188_10 (sg_at zd_dX12_init_991 6 rfl rfl)
theorem dX12_init_1003 : decode cX12_init 1003 = .ok (.putfield 121, 3) := dc_181 (sg_at zd_dX12_init_991 7 rfl rfl) rfl
theorem dX12_init_1006 : decode cX12_init 1006 = .ok (.aload_n 0, 1) := dc_42 (sg_at zd_dX12_init_991 8 rfl rfl)
theorem dX12_init_1007 : decode cX12_init 1007 = .ok (.bipush 25, 2) := dc_16 (sg_at zd_dX12_init_991 9 rfl rfl) rfl
theorem dX12_init_1009 : decode cX12_init 1009 = .ok (.newarray .int, 2) := dc_188_10 (sg_at zd_dX12_init_991 10 rfl rfl)
theorem dX12_init_1011 : decode cX12_init 1011 = .ok (.putfield 124, 3) := dc_181 (sg_at zd_dX12_init_991 11 rfl rfl) rfl
theorem dX12_init_1014 : decode cX12_init 1014 = .ok (.aload_n 0, 1) := dc_42 (sg_at zd_dX12_init_991 12 rfl rfl)
theorem dX12_init_1015 : decode cX12_init 1015 = .ok (.bipush 29, 2) := dc_16 (sg_at zd_dX12_init_991 13 rfl rfl) rfl
theorem dX12_init_1017 : decode cX12_init 1017 = .ok (.newarray .int, 2) := dc_188_10 (sg_at zd_dX12_init_991 14 rfl rfl)
theorem dX12_init_1019 : decode cX12_init 1019 = .ok (.putfield 127, 3) := dc_181 (sg_at zd_dX12_init_991 15 rfl rfl) rfl
theorem dX12_init_1022 : decode cX12_init 1022 = .ok (.aload_n 0, 1) := dc_42 (sg_at zd_dX12_init_991 16 rfl rfl)
theorem dX12_init_1023 : decode cX12_init 1023 = .ok (.bipush 28, 2) := dc_16 (sg_at zd_dX12_init_991 17 rfl rfl) rfl
theorem dX12_init_1025 : decode cX12_init 1025 = .ok (.newarray .int, 2) := dc_188_10 (sg_at zd_dX12_init_991 18 rfl rfl)
theorem dX12_init_1027 : decode cX12_init 1027 = .ok (.putfield 130, 3) := dc_181 (sg_at zd_dX12_init_991 19 rfl rfl) rfl
theorem zd_dX12_init_1030 : sg (cX12_init.data.toList.drop 1030) [[42], [2], [181, 0, 133], [42], [16, 72], [188, 10], [181, 0, 136], [42], [16, 24], [188, 4], [181, 0, 139], [42], [17, 0, 220], [188, 10], [181, 0, 142], [42], [16, 53], [188, 10], [181, 0, 145], [42]] = true := by decide +kernel
theorem dX12_init_1030 : decode cX12_init 1030 = .ok (.aload_n 0, 1) := dc_42 (sg_at zd_dX12_init_1030 0 rfl rfl)
theorem dX12_init_1031 : decode cX12_init 1031 = .ok (.iconst (-1), 1) := dc_2 (sg_at zd_dX12_init_1030 1 rfl rfl)
theorem dX12_init_1032 : decode cX12_init 1032 = .ok (.putfield 133, 3) := dc_181 (sg_at zd_dX12_init_1030 2 rfl rfl) rfl
theorem dX12_init_1035 : decode cX12_init 1035 = .ok (.aload_n 0, 1) := dc_42 (sg_at zd_dX12_init_1030 3 rfl rfl)
theorem dX12_init_1036 : decode cX12_init 1036 = .ok (.bipush 72, 2) := dc_16 (sg_at zd_dX12_init_1030 4 rfl rfl) rfl
theorem dX12_init_1038 : decode cX12_init 1038 = .ok (.newarray .int, 2) := dc_188_10 (sg_at zd_dX12_init_1030 5 rfl rfl)
theorem dX12_init_1040 : decode cX12_init 1040 = .ok (.putfield 136, 3) := dc_181 (sg_at zd_dX12_init_1030 6 rfl rfl) rfl
theorem dX12_init_1043 : decode cX12_init 1043 = .ok (.aload_n 0, 1) := dc_42 (sg_at zd_dX12_init_1030 7 rfl rfl)
theorem dX12_init_1044 : decode cX12_init 1044 = .ok (.bipush 24, 2) := dc_16 (sg_at zd_dX12_init_1030 8 rfl rfl) rfl
theorem dX12_init_1046 : decode cX12_init 1046 = .ok (.newarray .boolean, 2) := dc_188_4 (sg_at zd_dX12_init_1030 9 rfl rfl)
theorem dX12_init_1048 : decode cX12_init 1048 = .ok (.putfield 139, 3) := dc_181 (sg_at zd_dX12_init_1030 10 rfl rfl) rfl
theorem dX12_init_1051 : decode cX12_init 1051 = .ok (.aload_n 0, 1) := dc_42 (sg_at zd_dX12_init_1030 11 rfl rfl)
theorem dX12_init_1052 : decode cX12_init 1052 = .ok (.sipush 220, 3) := dc_17 (sg_at zd_dX12_init_1030 12 rfl rfl) rfl
theorem dX12_init_1055 : decode cX12_init 1055 = .ok (.newarray .int, 2) := dc_188_10 (sg_at zd_dX12_init_1030 13 rfl rfl)
theorem dX12_init_1057 : decode cX12_init 1057 = .ok (.putfield 142, 3) := dc_181 (sg_at zd_dX12_init_1030 14 rfl rfl) rfl
theorem dX12_init_1060 : decode cX12_init 1060 = .ok (.aload_n 0, 1) := dc_42 (sg_at zd_dX12_init_1030 15 rfl rfl)
theorem dX12_init_1061 : decode cX12_init 1061 = .ok (.bipush 53, 2) := dc_16 (sg_at zd_dX12_init_1030 16 rfl rfl) rfl
theorem dX12_init_1063 : decode cX12_init 1063 = .ok (.newarray .int, 2) := dc_188_10 (sg_at zd_dX12_init_1030 17 rfl rfl)
theorem dX12_init_1065 : decode cX12_init 1065 = .ok (.putfield 145, 3) := dc_181 (sg_at zd_dX12_init_1030 18 rfl rfl) rfl
theorem dX12_init_1068 : decode cX12_init 1068 = .ok (.aload_n 0, 1) := dc_42 (sg_at zd_dX12_init_1030 19 rfl rfl)
theorem zd_dX12_init_1069 : sg (cX12_init.data.toList.drop 1069) [[182, 0, 148], [42], [182, 0, 151], [177]] = true := by decide +kernel
theorem dX12_init_1069 : decode cX12_init 1069 = .ok (.invokevirtual 148, 3) := dc_182 (sg_at zd_dX12_init_1069 0 rfl rfl) rfl
theorem dX12_init_1072 : decode cX12_init 1072 = .ok (.aload_n 0, 1) := dc_42 (sg_at zd_dX12_init_1069 1 rfl rfl)
theorem dX12_init_1073 : decode cX12_init 1073 = .ok (.invokevirtual 151, 3) := dc_182 (sg_at zd_dX12_init_1069 2 rfl rfl) rfl
theorem dX12_init_1076 : decode cX12_init 1076 = .ok (.return_, 1) := dc_177 (sg_at zd_dX12_init_1069 3 rfl rfl)
section
variable {p : Program} {l : Launch} {e : Env} {s : State} {m : MethodId} {args : Array Value} {below : List Frame} {meth : Method} {c : Code} {D : va_G} {cy : Nat → ClassId} {b : Nat} {A : Nat → Prop} {fl : Bool}
def vX12_init : List Cond := .code yX12_init cX12_init 1 none :: TB
theorem lp12_init_7 : PlF vX12_init RX12 7 12 0 (.array .int) := ⟨RX12, TX12, 87, tyX12, rfl, by decide, (fun w h9 => List.mem_cons_of_mem _ (wC_wsX120 w h9)), (List.mem_cons_of_mem _ wT_9_21), tyX12_ok, nmX12, rfl, rfl, rfl⟩
theorem lp12_init_13 : PlF vX12_init RX12 13 12 3 (.array .int) := ⟨RX12, TX12, 87, tyX12, rfl, by decide, (fun w h9 => List.mem_cons_of_mem _ (wC_wsX120 w h9)), (List.mem_cons_of_mem _ wT_9_22), tyX12_ok, nmX12, rfl, rfl, rfl⟩
theorem lp12_init_16 : Pl vX12_init RX12 16 12 5 .int := ⟨RX12, TX12, 87, tyX12, rfl, by decide, (fun w h9 => List.mem_cons_of_mem _ (wC_wsX120 w h9)), (List.mem_cons_of_mem _ wT_9_23), tyX12_ok, nmX12, rfl, rfl⟩
theorem lp12_init_20 : PlF vX12_init RX12 20 12 25 (.array .boolean) := ⟨RX12, TX12, 87, tyX12, rfl, by decide, (fun w h9 => List.mem_cons_of_mem _ (wC_wsX120 w h9)), (List.mem_cons_of_mem _ wT_10_0), tyX12_ok, nmX12, rfl, rfl, rfl⟩
theorem lp12_init_24 : PlF vX12_init RX12 24 12 26 (.array .int) := ⟨RX12, TX12, 87, tyX12, rfl, by decide, (fun w h9 => List.mem_cons_of_mem _ (wC_wsX120 w h9)), (List.mem_cons_of_mem _ wT_10_1), tyX12_ok, nmX12, rfl, rfl, rfl⟩
theorem lp12_init_27 : PlF vX12_init RX12 27 12 27 (.array .int) := ⟨RX12, TX12, 87, tyX12, rfl, by decide, (fun w h9 => List.mem_cons_of_mem _ (wC_wsX120 w h9)), (List.mem_cons_of_mem _ wT_10_2), tyX12_ok, nmX12, rfl, rfl, rfl⟩
theorem lp12_init_30 : PlF vX12_init RX12 30 12 28 (.array .int) := ⟨RX12, TX12, 87, tyX12, rfl, by decide, (fun w h9 => List.mem_cons_of_mem _ (wC_wsX120 w h9)), (List.mem_cons_of_mem _ wT_10_3), tyX12_ok, nmX12, rfl, rfl, rfl⟩
theorem lp12_init_33 : PlF vX12_init RX12 33 12 29 (.array .int) := ⟨RX12, TX12, 87, tyX12, rfl, by decide, (fun w h9 => List.mem_cons_of_mem _ (wC_wsX120 w h9)), (List.mem_cons_of_mem _ wT_10_4), tyX12_ok, nmX12, rfl, rfl, rfl⟩
theorem lp12_init_36 : PlF vX12_init RX12 36 12 30 (.array .int) := ⟨RX12, TX12, 87, tyX12, rfl, by decide, (fun w h9 => List.mem_cons_of_mem _ (wC_wsX120 w h9)), (List.mem_cons_of_mem _ wT_10_5), tyX12_ok, nmX12, rfl, rfl, rfl⟩
theorem lp12_init_39 : PlF vX12_init RX12 39 12 31 (.array .int) := ⟨RX12, TX12, 87, tyX12, rfl, by decide, (fun w h9 => List.mem_cons_of_mem _ (wC_wsX120 w h9)), (List.mem_cons_of_mem _ wT_10_6), tyX12_ok, nmX12, rfl, rfl, rfl⟩
theorem lp12_init_42 : PlF vX12_init RX12 42 12 32 (.array .int) := ⟨RX12, TX12, 87, tyX12, rfl, by decide, (fun w h9 => List.mem_cons_of_mem _ (wC_wsX120 w h9)), (List.mem_cons_of_mem _ wT_10_7), tyX12_ok, nmX12, rfl, rfl, rfl⟩
theorem lp12_init_45 : PlF vX12_init RX12 45 12 33 (.array .int) := ⟨RX12, TX12, 87, tyX12, rfl, by decide, (fun w h9 => List.mem_cons_of_mem _ (wC_wsX120 w h9)), (List.mem_cons_of_mem _ wT_10_8), tyX12_ok, nmX12, rfl, rfl, rfl⟩
theorem lp12_init_48 : PlF vX12_init RX12 48 12 34 (.array .int) := ⟨RX12, TX12, 87, tyX12, rfl, by decide, (fun w h9 => List.mem_cons_of_mem _ (wC_wsX120 w h9)), (List.mem_cons_of_mem _ wT_10_9), tyX12_ok, nmX12, rfl, rfl, rfl⟩
theorem lp12_init_51 : PlF vX12_init RX12 51 12 35 (.array .int) := ⟨RX12, TX12, 87, tyX12, rfl, by decide, (fun w h9 => List.mem_cons_of_mem _ (wC_wsX120 w h9)), (List.mem_cons_of_mem _ wT_10_10), tyX12_ok, nmX12, rfl, rfl, rfl⟩
theorem lp12_init_54 : PlF vX12_init RX12 54 12 36 (.array .int) := ⟨RX12, TX12, 87, tyX12, rfl, by decide, (fun w h9 => List.mem_cons_of_mem _ (wC_wsX120 w h9)), (List.mem_cons_of_mem _ wT_10_11), tyX12_ok, nmX12, rfl, rfl, rfl⟩
theorem lp12_init_57 : PlF vX12_init RX12 57 12 37 (.array .boolean) := ⟨RX12, TX12, 87, tyX12, rfl, by decide, (fun w h9 => List.mem_cons_of_mem _ (wC_wsX120 w h9)), (List.mem_cons_of_mem _ wT_10_12), tyX12_ok, nmX12, rfl, rfl, rfl⟩
theorem lp12_init_60 : PlF vX12_init RX12 60 12 38 (.array .int) := ⟨RX12, TX12, 87, tyX12, rfl, by decide, (fun w h9 => List.mem_cons_of_mem _ (wC_wsX120 w h9)), (List.mem_cons_of_mem _ wT_10_13), tyX12_ok, nmX12, rfl, rfl, rfl⟩
theorem lp12_init_63 : PlF vX12_init RX12 63 12 39 (.array .int) := ⟨RX12, TX12, 87, tyX12, rfl, by decide, (fun w h9 => List.mem_cons_of_mem _ (wC_wsX120 w h9)), (List.mem_cons_of_mem _ wT_10_14), tyX12_ok, nmX12, rfl, rfl, rfl⟩
theorem lp12_init_66 : PlF vX12_init RX12 66 12 40 (.array .int) := ⟨RX12, TX12, 87, tyX12, rfl, by decide, (fun w h9 => List.mem_cons_of_mem _ (wC_wsX120 w h9)), (List.mem_cons_of_mem _ wT_10_15), tyX12_ok, nmX12, rfl, rfl, rfl⟩
theorem lp12_init_69 : PlF vX12_init RX12 69 12 41 (.array .int) := ⟨RX12, TX12, 87, tyX12, rfl, by decide, (fun w h9 => List.mem_cons_of_mem _ (wC_wsX120 w h9)), (List.mem_cons_of_mem _ wT_10_16), tyX12_ok, nmX12, rfl, rfl, rfl⟩
theorem lp12_init_72 : PlF vX12_init RX12 72 12 42 (.array .int) := ⟨RX12, TX12, 87, tyX12, rfl, by decide, (fun w h9 => List.mem_cons_of_mem _ (wC_wsX120 w h9)), (List.mem_cons_of_mem _ wT_10_17), tyX12_ok, nmX12, rfl, rfl, rfl⟩
theorem lp12_init_75 : PlF vX12_init RX12 75 12 44 (.array .int) := ⟨RX12, TX12, 87, tyX12, rfl, by decide, (fun w h9 => List.mem_cons_of_mem _ (wC_wsX120 w h9)), (List.mem_cons_of_mem _ wT_10_18), tyX12_ok, nmX12, rfl, rfl, rfl⟩
theorem lp12_init_78 : PlF vX12_init RX12 78 12 45 (.array .int) := ⟨RX12, TX12, 87, tyX12, rfl, by decide, (fun w h9 => List.mem_cons_of_mem _ (wC_wsX120 w h9)), (List.mem_cons_of_mem _ wT_10_19), tyX12_ok, nmX12, rfl, rfl, rfl⟩
theorem lp12_init_81 : PlF vX12_init RX12 81 12 52 (.array .long) := ⟨RX12, TX12, 87, tyX12, rfl, by decide, (fun w h9 => List.mem_cons_of_mem _ (wC_wsX120 w h9)), (List.mem_cons_of_mem _ wT_10_20), tyX12_ok, nmX12, rfl, rfl, rfl⟩
theorem lp12_init_85 : PlF vX12_init RX12 85 12 53 (.array .long) := ⟨RX12, TX12, 87, tyX12, rfl, by decide, (fun w h9 => List.mem_cons_of_mem _ (wC_wsX120 w h9)), (List.mem_cons_of_mem _ wT_10_21), tyX12_ok, nmX12, rfl, rfl, rfl⟩
theorem lp12_init_88 : PlF vX12_init RX12 88 12 55 (.array .int) := ⟨RX12, TX12, 87, tyX12, rfl, by decide, (fun w h9 => List.mem_cons_of_mem _ (wC_wsX120 w h9)), (List.mem_cons_of_mem _ wT_10_22), tyX12_ok, nmX12, rfl, rfl, rfl⟩
theorem lp12_init_91 : PlF vX12_init RX12 91 12 56 (.array .int) := ⟨RX12, TX12, 87, tyX12, rfl, by decide, (fun w h9 => List.mem_cons_of_mem _ (wC_wsX120 w h9)), (List.mem_cons_of_mem _ wT_10_23), tyX12_ok, nmX12, rfl, rfl, rfl⟩
theorem lp12_init_94 : PlF vX12_init RX12 94 12 57 (.array .int) := ⟨RX12, TX12, 87, tyX12, rfl, by decide, (fun w h9 => List.mem_cons_of_mem _ (wC_wsX120 w h9)), (List.mem_cons_of_mem _ wT_11_0), tyX12_ok, nmX12, rfl, rfl, rfl⟩
theorem lp12_init_97 : PlF vX12_init RX12 97 12 58 (.array .int) := ⟨RX12, TX12, 87, tyX12, rfl, by decide, (fun w h9 => List.mem_cons_of_mem _ (wC_wsX120 w h9)), (List.mem_cons_of_mem _ wT_11_1), tyX12_ok, nmX12, rfl, rfl, rfl⟩
theorem lp12_init_100 : PlF vX12_init RX12 100 12 59 (.array .int) := ⟨RX12, TX12, 87, tyX12, rfl, by decide, (fun w h9 => List.mem_cons_of_mem _ (wC_wsX120 w h9)), (List.mem_cons_of_mem _ wT_11_2), tyX12_ok, nmX12, rfl, rfl, rfl⟩
theorem lp12_init_103 : PlF vX12_init RX12 103 12 60 (.array .int) := ⟨RX12, TX12, 87, tyX12, rfl, by decide, (fun w h9 => List.mem_cons_of_mem _ (wC_wsX120 w h9)), (List.mem_cons_of_mem _ wT_11_3), tyX12_ok, nmX12, rfl, rfl, rfl⟩
theorem lp12_init_106 : PlF vX12_init RX12 106 12 61 (.array .int) := ⟨RX12, TX12, 87, tyX12, rfl, by decide, (fun w h9 => List.mem_cons_of_mem _ (wC_wsX120 w h9)), (List.mem_cons_of_mem _ wT_11_4), tyX12_ok, nmX12, rfl, rfl, rfl⟩
theorem lp12_init_109 : PlF vX12_init RX12 109 12 62 (.array .int) := ⟨RX12, TX12, 87, tyX12, rfl, by decide, (fun w h9 => List.mem_cons_of_mem _ (wC_wsX120 w h9)), (List.mem_cons_of_mem _ wT_11_5), tyX12_ok, nmX12, rfl, rfl, rfl⟩
theorem lp12_init_112 : PlF vX12_init RX12 112 12 63 (.array .int) := ⟨RX12, TX12, 87, tyX12, rfl, by decide, (fun w h9 => List.mem_cons_of_mem _ (wC_wsX120 w h9)), (List.mem_cons_of_mem _ wT_11_6), tyX12_ok, nmX12, rfl, rfl, rfl⟩
theorem lp12_init_115 : Pl vX12_init RX12 115 12 66 .int := ⟨RX12, TX12, 87, tyX12, rfl, by decide, (fun w h9 => List.mem_cons_of_mem _ (wC_wsX120 w h9)), (List.mem_cons_of_mem _ wT_11_7), tyX12_ok, nmX12, rfl, rfl⟩
theorem lp12_init_118 : PlF vX12_init RX12 118 12 68 (.array .int) := ⟨RX12, TX12, 87, tyX12, rfl, by decide, (fun w h9 => List.mem_cons_of_mem _ (wC_wsX120 w h9)), (List.mem_cons_of_mem _ wT_11_8), tyX12_ok, nmX12, rfl, rfl, rfl⟩
theorem lp12_init_121 : PlF vX12_init RX12 121 12 70 (.array .int) := ⟨RX12, TX12, 87, tyX12, rfl, by decide, (fun w h9 => List.mem_cons_of_mem _ (wC_wsX120 w h9)), (List.mem_cons_of_mem _ wT_11_9), tyX12_ok, nmX12, rfl, rfl, rfl⟩
theorem lp12_init_124 : PlF vX12_init RX12 124 12 71 (.array .int) := ⟨RX12, TX12, 87, tyX12, rfl, by decide, (fun w h9 => List.mem_cons_of_mem _ (wC_wsX120 w h9)), (List.mem_cons_of_mem _ wT_11_10), tyX12_ok, nmX12, rfl, rfl, rfl⟩
theorem lp12_init_127 : PlF vX12_init RX12 127 12 72 (.array .int) := ⟨RX12, TX12, 87, tyX12, rfl, by decide, (fun w h9 => List.mem_cons_of_mem _ (wC_wsX120 w h9)), (List.mem_cons_of_mem _ wT_11_11), tyX12_ok, nmX12, rfl, rfl, rfl⟩
theorem lp12_init_130 : PlF vX12_init RX12 130 12 73 (.array .int) := ⟨RX12, TX12, 87, tyX12, rfl, by decide, (fun w h9 => List.mem_cons_of_mem _ (wC_wsX120 w h9)), (List.mem_cons_of_mem _ wT_11_12), tyX12_ok, nmX12, rfl, rfl, rfl⟩
theorem lp12_init_133 : Pl vX12_init RX12 133 12 75 .int := ⟨RX12, TX12, 87, tyX12, rfl, by decide, (fun w h9 => List.mem_cons_of_mem _ (wC_wsX120 w h9)), (List.mem_cons_of_mem _ wT_11_13), tyX12_ok, nmX12, rfl, rfl⟩
theorem lp12_init_136 : PlF vX12_init RX12 136 12 76 (.array .int) := ⟨RX12, TX12, 87, tyX12, rfl, by decide, (fun w h9 => List.mem_cons_of_mem _ (wC_wsX120 w h9)), (List.mem_cons_of_mem _ wT_11_14), tyX12_ok, nmX12, rfl, rfl, rfl⟩
theorem lp12_init_139 : PlF vX12_init RX12 139 12 77 (.array .boolean) := ⟨RX12, TX12, 87, tyX12, rfl, by decide, (fun w h9 => List.mem_cons_of_mem _ (wC_wsX120 w h9)), (List.mem_cons_of_mem _ wT_11_15), tyX12_ok, nmX12, rfl, rfl, rfl⟩
theorem lp12_init_142 : PlF vX12_init RX12 142 12 79 (.array .int) := ⟨RX12, TX12, 87, tyX12, rfl, by decide, (fun w h9 => List.mem_cons_of_mem _ (wC_wsX120 w h9)), (List.mem_cons_of_mem _ wT_11_16), tyX12_ok, nmX12, rfl, rfl, rfl⟩
theorem lp12_init_145 : PlF vX12_init RX12 145 12 81 (.array .int) := ⟨RX12, TX12, 87, tyX12, rfl, by decide, (fun w h9 => List.mem_cons_of_mem _ (wC_wsX120 w h9)), (List.mem_cons_of_mem _ wT_11_17), tyX12_ok, nmX12, rfl, rfl, rfl⟩
theorem gX12_init_X12_plain : GoodIn vX12_init (wsV RX12 148 RX12 yX12_plain vX12_plain) := gV_of wT_11_18 wT_11_19 wT_11_20 wT_1_5 wT_11_21
theorem gX12_init_X12_keepText : GoodIn vX12_init (wsV RX12 151 RX12 yX12_keepText vX12_keepText) := gV_of wT_12_6 wT_12_7 wT_12_8 wT_1_5 wT_12_9
set_option maxHeartbeats 4000000 in
set_option maxRecDepth 100000 in
theorem T12_init_0 (S : CallFix p m c cX12_init 1 s args vX12_init RX12) (hr : meth.sig.returnType = none) (hlo : meth.locks = false) (hin2 : meth.name = "<init>") (hAn : ∀ q, b ≤ q → A q) {out : PH} {h : PH} {a0 : Nat} (f : F12_init_0  h a0 = some out) {H : Heap} {locs : List Loc} (I : ph_I D cy b A true h s H locs) {ls : Array Slot} (hl : lv_has ls 1 [(0, .ref (b + a0))]) : W p l e ({ frames := 2, cells := 42, slots := 2327, locals := 43 } : Room) s m args below meth c H locs 0 0 (MQ below (va_Qv (fun (u : PH) => u = out) (ph_B D cy b A true) A) args s 42 2327 A) (F0 m 0 ls []) := by
  unfold F12_init_0 at f
  refine lv_aload_n S.1 S.2.1 dX12_init_0 rfl (lv_at hl 0 rfl) ?_
  refine o_objI S (List.mem_cons_of_mem _ wT_9_20) (List.mem_cons_of_mem _ wT_1_11) (List.mem_cons_of_mem _ wT_1_12) hl.1 dX12_init_1 (Nat.le_of_ble_eq_true rfl) (Nat.le_of_ble_eq_true rfl) ?_
  refine lv_aload_n S.1 S.2.1 dX12_init_4 rfl (lv_at hl 0 rfl) ?_
  refine lv_sipush (v := 700) S.1 S.2.1 dX12_init_5 (by decide) ?_
  obtain ⟨h1, e2, f⟩ := ob f
  refine o_newI S (List.mem_cons_of_mem _ wT_3_21) I hAn (N := 700) e2 (by decide) (by decide) (Nat.le_of_ble_eq_true rfl) (Nat.le_of_ble_eq_true rfl) (Nat.le_of_ble_eq_true rfl) dX12_init_8 (fun H I => ?_)
  obtain ⟨h3, e4, f⟩ := ob f
  refine o_pRF S hin2 lp12_init_7 (Or.inr ⟨_, rfl⟩) I e4 dX12_init_10 (fun H locs I => ?_)
  refine lv_aload_n S.1 S.2.1 dX12_init_13 rfl (lv_at hl 0 rfl) ?_
  refine lv_bipush (v := 120) S.1 S.2.1 dX12_init_14 (by decide) ?_
  obtain ⟨h5, e6, f⟩ := ob f
  refine o_newI S (List.mem_cons_of_mem _ wT_3_21) I hAn (N := 120) e6 (by decide) (by decide) (Nat.le_of_ble_eq_true rfl) (Nat.le_of_ble_eq_true rfl) (Nat.le_of_ble_eq_true rfl) dX12_init_16 (fun H I => ?_)
  refine lv_dup S.1 S.2.1 dX12_init_18 rfl ?_
  refine lv_iconst (v := 0) S.1 S.2.1 dX12_init_19 (by decide) ?_
  refine lv_bipush (v := 115) S.1 S.2.1 dX12_init_20 (by decide) ?_
  obtain ⟨h8, e7, f⟩ := ob f
  refine o_iast S I e7 dX12_init_22 (fun H locs I => ?_)
  refine lv_dup S.1 S.2.1 dX12_init_23 rfl ?_
  refine lv_iconst (v := 1) S.1 S.2.1 dX12_init_24 (by decide) ?_
  refine lv_bipush (v := 101) S.1 S.2.1 dX12_init_25 (by decide) ?_
  obtain ⟨h10, e9, f⟩ := ob f
  refine o_iast S I e9 dX12_init_27 (fun H locs I => ?_)
  refine lv_dup S.1 S.2.1 dX12_init_28 rfl ?_
  refine lv_iconst (v := 2) S.1 S.2.1 dX12_init_29 (by decide) ?_
  refine lv_bipush (v := 97) S.1 S.2.1 dX12_init_30 (by decide) ?_
  obtain ⟨h12, e11, f⟩ := ob f
  refine o_iast S I e11 dX12_init_32 (fun H locs I => ?_)
  refine lv_dup S.1 S.2.1 dX12_init_33 rfl ?_
  refine lv_iconst (v := 3) S.1 S.2.1 dX12_init_34 (by decide) ?_
  refine lv_bipush (v := 32) S.1 S.2.1 dX12_init_35 (by decide) ?_
  obtain ⟨h14, e13, f⟩ := ob f
  refine o_iast S I e13 dX12_init_37 (fun H locs I => ?_)
  refine lv_dup S.1 S.2.1 dX12_init_38 rfl ?_
  refine lv_iconst (v := 4) S.1 S.2.1 dX12_init_39 (by decide) ?_
  refine lv_bipush (v := 112) S.1 S.2.1 dX12_init_40 (by decide) ?_
  obtain ⟨h16, e15, f⟩ := ob f
  refine o_iast S I e15 dX12_init_42 (fun H locs I => ?_)
  refine lv_dup S.1 S.2.1 dX12_init_43 rfl ?_
  refine lv_iconst (v := 5) S.1 S.2.1 dX12_init_44 (by decide) ?_
  refine lv_bipush (v := 101) S.1 S.2.1 dX12_init_45 (by decide) ?_
  obtain ⟨h18, e17, f⟩ := ob f
  refine o_iast S I e17 dX12_init_47 (fun H locs I => ?_)
  refine lv_dup S.1 S.2.1 dX12_init_48 rfl ?_
  refine lv_bipush (v := 6) S.1 S.2.1 dX12_init_49 (by decide) ?_
  refine lv_bipush (v := 97) S.1 S.2.1 dX12_init_51 (by decide) ?_
  obtain ⟨h20, e19, f⟩ := ob f
  refine o_iast S I e19 dX12_init_53 (fun H locs I => ?_)
  refine lv_dup S.1 S.2.1 dX12_init_54 rfl ?_
  refine lv_bipush (v := 7) S.1 S.2.1 dX12_init_55 (by decide) ?_
  refine lv_bipush (v := 107) S.1 S.2.1 dX12_init_57 (by decide) ?_
  obtain ⟨h22, e21, f⟩ := ob f
  refine o_iast S I e21 dX12_init_59 (fun H locs I => ?_)
  refine lv_dup S.1 S.2.1 dX12_init_60 rfl ?_
  refine lv_bipush (v := 8) S.1 S.2.1 dX12_init_61 (by decide) ?_
  refine lv_bipush (v := 32) S.1 S.2.1 dX12_init_63 (by decide) ?_
  obtain ⟨h24, e23, f⟩ := ob f
  refine o_iast S I e23 dX12_init_65 (fun H locs I => ?_)
  refine lv_dup S.1 S.2.1 dX12_init_66 rfl ?_
  refine lv_bipush (v := 9) S.1 S.2.1 dX12_init_67 (by decide) ?_
  refine lv_bipush (v := 115) S.1 S.2.1 dX12_init_69 (by decide) ?_
  obtain ⟨h26, e25, f⟩ := ob f
  refine o_iast S I e25 dX12_init_71 (fun H locs I => ?_)
  refine lv_dup S.1 S.2.1 dX12_init_72 rfl ?_
  refine lv_bipush (v := 10) S.1 S.2.1 dX12_init_73 (by decide) ?_
  refine lv_bipush (v := 117) S.1 S.2.1 dX12_init_75 (by decide) ?_
  obtain ⟨h28, e27, f⟩ := ob f
  refine o_iast S I e27 dX12_init_77 (fun H locs I => ?_)
  refine lv_dup S.1 S.2.1 dX12_init_78 rfl ?_
  refine lv_bipush (v := 11) S.1 S.2.1 dX12_init_79 (by decide) ?_
  refine lv_bipush (v := 114) S.1 S.2.1 dX12_init_81 (by decide) ?_
  obtain ⟨h30, e29, f⟩ := ob f
  refine o_iast S I e29 dX12_init_83 (fun H locs I => ?_)
  refine lv_dup S.1 S.2.1 dX12_init_84 rfl ?_
  refine lv_bipush (v := 12) S.1 S.2.1 dX12_init_85 (by decide) ?_
  refine lv_bipush (v := 102) S.1 S.2.1 dX12_init_87 (by decide) ?_
  obtain ⟨h32, e31, f⟩ := ob f
  refine o_iast S I e31 dX12_init_89 (fun H locs I => ?_)
  refine lv_dup S.1 S.2.1 dX12_init_90 rfl ?_
  refine lv_bipush (v := 13) S.1 S.2.1 dX12_init_91 (by decide) ?_
  refine lv_bipush (v := 101) S.1 S.2.1 dX12_init_93 (by decide) ?_
  obtain ⟨h34, e33, f⟩ := ob f
  refine o_iast S I e33 dX12_init_95 (fun H locs I => ?_)
  refine lv_dup S.1 S.2.1 dX12_init_96 rfl ?_
  refine lv_bipush (v := 14) S.1 S.2.1 dX12_init_97 (by decide) ?_
  refine lv_bipush (v := 114) S.1 S.2.1 dX12_init_99 (by decide) ?_
  obtain ⟨h36, e35, f⟩ := ob f
  refine o_iast S I e35 dX12_init_101 (fun H locs I => ?_)
  refine lv_dup S.1 S.2.1 dX12_init_102 rfl ?_
  refine lv_bipush (v := 15) S.1 S.2.1 dX12_init_103 (by decide) ?_
  refine lv_bipush (v := 32) S.1 S.2.1 dX12_init_105 (by decide) ?_
  obtain ⟨h38, e37, f⟩ := ob f
  refine o_iast S I e37 dX12_init_107 (fun H locs I => ?_)
  refine lv_dup S.1 S.2.1 dX12_init_108 rfl ?_
  refine lv_bipush (v := 16) S.1 S.2.1 dX12_init_109 (by decide) ?_
  refine lv_bipush (v := 115) S.1 S.2.1 dX12_init_111 (by decide) ?_
  obtain ⟨h40, e39, f⟩ := ob f
  refine o_iast S I e39 dX12_init_113 (fun H locs I => ?_)
  refine lv_dup S.1 S.2.1 dX12_init_114 rfl ?_
  refine lv_bipush (v := 17) S.1 S.2.1 dX12_init_115 (by decide) ?_
  refine lv_bipush (v := 101) S.1 S.2.1 dX12_init_117 (by decide) ?_
  obtain ⟨h42, e41, f⟩ := ob f
  refine o_iast S I e41 dX12_init_119 (fun H locs I => ?_)
  refine lv_dup S.1 S.2.1 dX12_init_120 rfl ?_
  refine lv_bipush (v := 18) S.1 S.2.1 dX12_init_121 (by decide) ?_
  refine lv_bipush (v := 116) S.1 S.2.1 dX12_init_123 (by decide) ?_
  obtain ⟨h44, e43, f⟩ := ob f
  refine o_iast S I e43 dX12_init_125 (fun H locs I => ?_)
  refine lv_dup S.1 S.2.1 dX12_init_126 rfl ?_
  refine lv_bipush (v := 19) S.1 S.2.1 dX12_init_127 (by decide) ?_
  refine lv_bipush (v := 32) S.1 S.2.1 dX12_init_129 (by decide) ?_
  obtain ⟨h46, e45, f⟩ := ob f
  refine o_iast S I e45 dX12_init_131 (fun H locs I => ?_)
  refine lv_dup S.1 S.2.1 dX12_init_132 rfl ?_
  refine lv_bipush (v := 20) S.1 S.2.1 dX12_init_133 (by decide) ?_
  refine lv_bipush (v := 98) S.1 S.2.1 dX12_init_135 (by decide) ?_
  obtain ⟨h48, e47, f⟩ := ob f
  refine o_iast S I e47 dX12_init_137 (fun H locs I => ?_)
  refine lv_dup S.1 S.2.1 dX12_init_138 rfl ?_
  refine lv_bipush (v := 21) S.1 S.2.1 dX12_init_139 (by decide) ?_
  refine lv_bipush (v := 97) S.1 S.2.1 dX12_init_141 (by decide) ?_
  obtain ⟨h50, e49, f⟩ := ob f
  refine o_iast S I e49 dX12_init_143 (fun H locs I => ?_)
  refine lv_dup S.1 S.2.1 dX12_init_144 rfl ?_
  refine lv_bipush (v := 22) S.1 S.2.1 dX12_init_145 (by decide) ?_
  refine lv_bipush (v := 110) S.1 S.2.1 dX12_init_147 (by decide) ?_
  obtain ⟨h52, e51, f⟩ := ob f
  refine o_iast S I e51 dX12_init_149 (fun H locs I => ?_)
  refine lv_dup S.1 S.2.1 dX12_init_150 rfl ?_
  refine lv_bipush (v := 23) S.1 S.2.1 dX12_init_151 (by decide) ?_
  refine lv_bipush (v := 107) S.1 S.2.1 dX12_init_153 (by decide) ?_
  obtain ⟨h54, e53, f⟩ := ob f
  refine o_iast S I e53 dX12_init_155 (fun H locs I => ?_)
  refine lv_dup S.1 S.2.1 dX12_init_156 rfl ?_
  refine lv_bipush (v := 24) S.1 S.2.1 dX12_init_157 (by decide) ?_
  refine lv_bipush (v := 32) S.1 S.2.1 dX12_init_159 (by decide) ?_
  obtain ⟨h56, e55, f⟩ := ob f
  refine o_iast S I e55 dX12_init_161 (fun H locs I => ?_)
  refine lv_dup S.1 S.2.1 dX12_init_162 rfl ?_
  refine lv_bipush (v := 25) S.1 S.2.1 dX12_init_163 (by decide) ?_
  refine lv_bipush (v := 114) S.1 S.2.1 dX12_init_165 (by decide) ?_
  obtain ⟨h58, e57, f⟩ := ob f
  refine o_iast S I e57 dX12_init_167 (fun H locs I => ?_)
  refine lv_dup S.1 S.2.1 dX12_init_168 rfl ?_
  refine lv_bipush (v := 26) S.1 S.2.1 dX12_init_169 (by decide) ?_
  refine lv_bipush (v := 117) S.1 S.2.1 dX12_init_171 (by decide) ?_
  obtain ⟨h60, e59, f⟩ := ob f
  refine o_iast S I e59 dX12_init_173 (fun H locs I => ?_)
  refine lv_dup S.1 S.2.1 dX12_init_174 rfl ?_
  refine lv_bipush (v := 27) S.1 S.2.1 dX12_init_175 (by decide) ?_
  refine lv_bipush (v := 108) S.1 S.2.1 dX12_init_177 (by decide) ?_
  obtain ⟨h62, e61, f⟩ := ob f
  refine o_iast S I e61 dX12_init_179 (fun H locs I => ?_)
  refine lv_dup S.1 S.2.1 dX12_init_180 rfl ?_
  refine lv_bipush (v := 28) S.1 S.2.1 dX12_init_181 (by decide) ?_
  refine lv_bipush (v := 101) S.1 S.2.1 dX12_init_183 (by decide) ?_
  obtain ⟨h64, e63, f⟩ := ob f
  refine o_iast S I e63 dX12_init_185 (fun H locs I => ?_)
  refine lv_dup S.1 S.2.1 dX12_init_186 rfl ?_
  refine lv_bipush (v := 29) S.1 S.2.1 dX12_init_187 (by decide) ?_
  refine lv_bipush (v := 32) S.1 S.2.1 dX12_init_189 (by decide) ?_
  obtain ⟨h66, e65, f⟩ := ob f
  refine o_iast S I e65 dX12_init_191 (fun H locs I => ?_)
  refine lv_dup S.1 S.2.1 dX12_init_192 rfl ?_
  refine lv_bipush (v := 30) S.1 S.2.1 dX12_init_193 (by decide) ?_
  refine lv_bipush (v := 115) S.1 S.2.1 dX12_init_195 (by decide) ?_
  obtain ⟨h68, e67, f⟩ := ob f
  refine o_iast S I e67 dX12_init_197 (fun H locs I => ?_)
  refine lv_dup S.1 S.2.1 dX12_init_198 rfl ?_
  refine lv_bipush (v := 31) S.1 S.2.1 dX12_init_199 (by decide) ?_
  refine lv_bipush (v := 101) S.1 S.2.1 dX12_init_201 (by decide) ?_
  obtain ⟨h70, e69, f⟩ := ob f
  refine o_iast S I e69 dX12_init_203 (fun H locs I => ?_)
  refine lv_dup S.1 S.2.1 dX12_init_204 rfl ?_
  refine lv_bipush (v := 32) S.1 S.2.1 dX12_init_205 (by decide) ?_
  refine lv_bipush (v := 101) S.1 S.2.1 dX12_init_207 (by decide) ?_
  obtain ⟨h72, e71, f⟩ := ob f
  refine o_iast S I e71 dX12_init_209 (fun H locs I => ?_)
  refine lv_dup S.1 S.2.1 dX12_init_210 rfl ?_
  refine lv_bipush (v := 33) S.1 S.2.1 dX12_init_211 (by decide) ?_
  refine lv_bipush (v := 100) S.1 S.2.1 dX12_init_213 (by decide) ?_
  obtain ⟨h74, e73, f⟩ := ob f
  refine o_iast S I e73 dX12_init_215 (fun H locs I => ?_)
  refine lv_dup S.1 S.2.1 dX12_init_216 rfl ?_
  refine lv_bipush (v := 34) S.1 S.2.1 dX12_init_217 (by decide) ?_
  refine lv_bipush (v := 32) S.1 S.2.1 dX12_init_219 (by decide) ?_
  obtain ⟨h76, e75, f⟩ := ob f
  refine o_iast S I e75 dX12_init_221 (fun H locs I => ?_)
  refine lv_dup S.1 S.2.1 dX12_init_222 rfl ?_
  refine lv_bipush (v := 35) S.1 S.2.1 dX12_init_223 (by decide) ?_
  refine lv_bipush (v := 108) S.1 S.2.1 dX12_init_225 (by decide) ?_
  obtain ⟨h78, e77, f⟩ := ob f
  refine o_iast S I e77 dX12_init_227 (fun H locs I => ?_)
  refine lv_dup S.1 S.2.1 dX12_init_228 rfl ?_
  refine lv_bipush (v := 36) S.1 S.2.1 dX12_init_229 (by decide) ?_
  refine lv_bipush (v := 97) S.1 S.2.1 dX12_init_231 (by decide) ?_
  obtain ⟨h80, e79, f⟩ := ob f
  refine o_iast S I e79 dX12_init_233 (fun H locs I => ?_)
  refine lv_dup S.1 S.2.1 dX12_init_234 rfl ?_
  refine lv_bipush (v := 37) S.1 S.2.1 dX12_init_235 (by decide) ?_
  refine lv_bipush (v := 119) S.1 S.2.1 dX12_init_237 (by decide) ?_
  obtain ⟨h82, e81, f⟩ := ob f
  refine o_iast S I e81 dX12_init_239 (fun H locs I => ?_)
  refine lv_dup S.1 S.2.1 dX12_init_240 rfl ?_
  refine lv_bipush (v := 38) S.1 S.2.1 dX12_init_241 (by decide) ?_
  refine lv_bipush (v := 32) S.1 S.2.1 dX12_init_243 (by decide) ?_
  obtain ⟨h84, e83, f⟩ := ob f
  refine o_iast S I e83 dX12_init_245 (fun H locs I => ?_)
  refine lv_dup S.1 S.2.1 dX12_init_246 rfl ?_
  refine lv_bipush (v := 39) S.1 S.2.1 dX12_init_247 (by decide) ?_
  refine lv_bipush (v := 100) S.1 S.2.1 dX12_init_249 (by decide) ?_
  obtain ⟨h86, e85, f⟩ := ob f
  refine o_iast S I e85 dX12_init_251 (fun H locs I => ?_)
  refine lv_dup S.1 S.2.1 dX12_init_252 rfl ?_
  refine lv_bipush (v := 40) S.1 S.2.1 dX12_init_253 (by decide) ?_
  refine lv_bipush (v := 101) S.1 S.2.1 dX12_init_255 (by decide) ?_
  obtain ⟨h88, e87, f⟩ := ob f
  refine o_iast S I e87 dX12_init_257 (fun H locs I => ?_)
  refine lv_dup S.1 S.2.1 dX12_init_258 rfl ?_
  refine lv_bipush (v := 41) S.1 S.2.1 dX12_init_259 (by decide) ?_
  refine lv_bipush (v := 101) S.1 S.2.1 dX12_init_261 (by decide) ?_
  obtain ⟨h90, e89, f⟩ := ob f
  refine o_iast S I e89 dX12_init_263 (fun H locs I => ?_)
  refine lv_dup S.1 S.2.1 dX12_init_264 rfl ?_
  refine lv_bipush (v := 42) S.1 S.2.1 dX12_init_265 (by decide) ?_
  refine lv_bipush (v := 112) S.1 S.2.1 dX12_init_267 (by decide) ?_
  obtain ⟨h92, e91, f⟩ := ob f
  refine o_iast S I e91 dX12_init_269 (fun H locs I => ?_)
  refine lv_dup S.1 S.2.1 dX12_init_270 rfl ?_
  refine lv_bipush (v := 43) S.1 S.2.1 dX12_init_271 (by decide) ?_
  refine lv_bipush (v := 32) S.1 S.2.1 dX12_init_273 (by decide) ?_
  obtain ⟨h94, e93, f⟩ := ob f
  refine o_iast S I e93 dX12_init_275 (fun H locs I => ?_)
  refine lv_dup S.1 S.2.1 dX12_init_276 rfl ?_
  refine lv_bipush (v := 44) S.1 S.2.1 dX12_init_277 (by decide) ?_
  refine lv_bipush (v := 116) S.1 S.2.1 dX12_init_279 (by decide) ?_
  obtain ⟨h96, e95, f⟩ := ob f
  refine o_iast S I e95 dX12_init_281 (fun H locs I => ?_)
  refine lv_dup S.1 S.2.1 dX12_init_282 rfl ?_
  refine lv_bipush (v := 45) S.1 S.2.1 dX12_init_283 (by decide) ?_
  refine lv_bipush (v := 117) S.1 S.2.1 dX12_init_285 (by decide) ?_
  obtain ⟨h98, e97, f⟩ := ob f
  refine o_iast S I e97 dX12_init_287 (fun H locs I => ?_)
  refine lv_dup S.1 S.2.1 dX12_init_288 rfl ?_
  refine lv_bipush (v := 46) S.1 S.2.1 dX12_init_289 (by decide) ?_
  refine lv_bipush (v := 114) S.1 S.2.1 dX12_init_291 (by decide) ?_
  obtain ⟨h100, e99, f⟩ := ob f
  refine o_iast S I e99 dX12_init_293 (fun H locs I => ?_)
  refine lv_dup S.1 S.2.1 dX12_init_294 rfl ?_
  refine lv_bipush (v := 47) S.1 S.2.1 dX12_init_295 (by decide) ?_
  refine lv_bipush (v := 110) S.1 S.2.1 dX12_init_297 (by decide) ?_
  obtain ⟨h102, e101, f⟩ := ob f
  refine o_iast S I e101 dX12_init_299 (fun H locs I => ?_)
  refine lv_dup S.1 S.2.1 dX12_init_300 rfl ?_
  refine lv_bipush (v := 48) S.1 S.2.1 dX12_init_301 (by decide) ?_
  refine lv_bipush (v := 115) S.1 S.2.1 dX12_init_303 (by decide) ?_
  obtain ⟨h104, e103, f⟩ := ob f
  refine o_iast S I e103 dX12_init_305 (fun H locs I => ?_)
  refine lv_dup S.1 S.2.1 dX12_init_306 rfl ?_
  refine lv_bipush (v := 49) S.1 S.2.1 dX12_init_307 (by decide) ?_
  refine lv_bipush (v := 32) S.1 S.2.1 dX12_init_309 (by decide) ?_
  obtain ⟨h106, e105, f⟩ := ob f
  refine o_iast S I e105 dX12_init_311 (fun H locs I => ?_)
  refine lv_dup S.1 S.2.1 dX12_init_312 rfl ?_
  refine lv_bipush (v := 50) S.1 S.2.1 dX12_init_313 (by decide) ?_
  refine lv_bipush (v := 101) S.1 S.2.1 dX12_init_315 (by decide) ?_
  obtain ⟨h108, e107, f⟩ := ob f
  refine o_iast S I e107 dX12_init_317 (fun H locs I => ?_)
  refine lv_dup S.1 S.2.1 dX12_init_318 rfl ?_
  refine lv_bipush (v := 51) S.1 S.2.1 dX12_init_319 (by decide) ?_
  refine lv_bipush (v := 97) S.1 S.2.1 dX12_init_321 (by decide) ?_
  obtain ⟨h110, e109, f⟩ := ob f
  refine o_iast S I e109 dX12_init_323 (fun H locs I => ?_)
  refine lv_dup S.1 S.2.1 dX12_init_324 rfl ?_
  refine lv_bipush (v := 52) S.1 S.2.1 dX12_init_325 (by decide) ?_
  refine lv_bipush (v := 99) S.1 S.2.1 dX12_init_327 (by decide) ?_
  obtain ⟨h112, e111, f⟩ := ob f
  refine o_iast S I e111 dX12_init_329 (fun H locs I => ?_)
  refine lv_dup S.1 S.2.1 dX12_init_330 rfl ?_
  refine lv_bipush (v := 53) S.1 S.2.1 dX12_init_331 (by decide) ?_
  refine lv_bipush (v := 104) S.1 S.2.1 dX12_init_333 (by decide) ?_
  obtain ⟨h114, e113, f⟩ := ob f
  refine o_iast S I e113 dX12_init_335 (fun H locs I => ?_)
  refine lv_dup S.1 S.2.1 dX12_init_336 rfl ?_
  refine lv_bipush (v := 54) S.1 S.2.1 dX12_init_337 (by decide) ?_
  refine lv_bipush (v := 32) S.1 S.2.1 dX12_init_339 (by decide) ?_
  obtain ⟨h116, e115, f⟩ := ob f
  refine o_iast S I e115 dX12_init_341 (fun H locs I => ?_)
  refine lv_dup S.1 S.2.1 dX12_init_342 rfl ?_
  refine lv_bipush (v := 55) S.1 S.2.1 dX12_init_343 (by decide) ?_
  refine lv_bipush (v := 111) S.1 S.2.1 dX12_init_345 (by decide) ?_
  obtain ⟨h118, e117, f⟩ := ob f
  refine o_iast S I e117 dX12_init_347 (fun H locs I => ?_)
  refine lv_dup S.1 S.2.1 dX12_init_348 rfl ?_
  refine lv_bipush (v := 56) S.1 S.2.1 dX12_init_349 (by decide) ?_
  refine lv_bipush (v := 117) S.1 S.2.1 dX12_init_351 (by decide) ?_
  obtain ⟨h120, e119, f⟩ := ob f
  refine o_iast S I e119 dX12_init_353 (fun H locs I => ?_)
  refine lv_dup S.1 S.2.1 dX12_init_354 rfl ?_
  refine lv_bipush (v := 57) S.1 S.2.1 dX12_init_355 (by decide) ?_
  refine lv_bipush (v := 116) S.1 S.2.1 dX12_init_357 (by decide) ?_
  obtain ⟨h122, e121, f⟩ := ob f
  refine o_iast S I e121 dX12_init_359 (fun H locs I => ?_)
  refine lv_dup S.1 S.2.1 dX12_init_360 rfl ?_
  refine lv_bipush (v := 58) S.1 S.2.1 dX12_init_361 (by decide) ?_
  refine lv_bipush (v := 32) S.1 S.2.1 dX12_init_363 (by decide) ?_
  obtain ⟨h124, e123, f⟩ := ob f
  refine o_iast S I e123 dX12_init_365 (fun H locs I => ?_)
  refine lv_dup S.1 S.2.1 dX12_init_366 rfl ?_
  refine lv_bipush (v := 59) S.1 S.2.1 dX12_init_367 (by decide) ?_
  refine lv_bipush (v := 99) S.1 S.2.1 dX12_init_369 (by decide) ?_
  obtain ⟨h126, e125, f⟩ := ob f
  refine o_iast S I e125 dX12_init_371 (fun H locs I => ?_)
  refine lv_dup S.1 S.2.1 dX12_init_372 rfl ?_
  refine lv_bipush (v := 60) S.1 S.2.1 dX12_init_373 (by decide) ?_
  refine lv_bipush (v := 97) S.1 S.2.1 dX12_init_375 (by decide) ?_
  obtain ⟨h128, e127, f⟩ := ob f
  refine o_iast S I e127 dX12_init_377 (fun H locs I => ?_)
  refine lv_dup S.1 S.2.1 dX12_init_378 rfl ?_
  refine lv_bipush (v := 61) S.1 S.2.1 dX12_init_379 (by decide) ?_
  refine lv_bipush (v := 116) S.1 S.2.1 dX12_init_381 (by decide) ?_
  obtain ⟨h130, e129, f⟩ := ob f
  refine o_iast S I e129 dX12_init_383 (fun H locs I => ?_)
  refine lv_dup S.1 S.2.1 dX12_init_384 rfl ?_
  refine lv_bipush (v := 62) S.1 S.2.1 dX12_init_385 (by decide) ?_
  refine lv_bipush (v := 99) S.1 S.2.1 dX12_init_387 (by decide) ?_
  obtain ⟨h132, e131, f⟩ := ob f
  refine o_iast S I e131 dX12_init_389 (fun H locs I => ?_)
  refine lv_dup S.1 S.2.1 dX12_init_390 rfl ?_
  refine lv_bipush (v := 63) S.1 S.2.1 dX12_init_391 (by decide) ?_
  refine lv_bipush (v := 104) S.1 S.2.1 dX12_init_393 (by decide) ?_
  obtain ⟨h134, e133, f⟩ := ob f
  refine o_iast S I e133 dX12_init_395 (fun H locs I => ?_)
  refine lv_dup S.1 S.2.1 dX12_init_396 rfl ?_
  refine lv_bipush (v := 64) S.1 S.2.1 dX12_init_397 (by decide) ?_
  refine lv_bipush (v := 32) S.1 S.2.1 dX12_init_399 (by decide) ?_
  obtain ⟨h136, e135, f⟩ := ob f
  refine o_iast S I e135 dX12_init_401 (fun H locs I => ?_)
  refine lv_dup S.1 S.2.1 dX12_init_402 rfl ?_
  refine lv_bipush (v := 65) S.1 S.2.1 dX12_init_403 (by decide) ?_
  refine lv_bipush (v := 100) S.1 S.2.1 dX12_init_405 (by decide) ?_
  obtain ⟨h138, e137, f⟩ := ob f
  refine o_iast S I e137 dX12_init_407 (fun H locs I => ?_)
  refine lv_dup S.1 S.2.1 dX12_init_408 rfl ?_
  refine lv_bipush (v := 66) S.1 S.2.1 dX12_init_409 (by decide) ?_
  refine lv_bipush (v := 114) S.1 S.2.1 dX12_init_411 (by decide) ?_
  obtain ⟨h140, e139, f⟩ := ob f
  refine o_iast S I e139 dX12_init_413 (fun H locs I => ?_)
  refine lv_dup S.1 S.2.1 dX12_init_414 rfl ?_
  refine lv_bipush (v := 67) S.1 S.2.1 dX12_init_415 (by decide) ?_
  refine lv_bipush (v := 105) S.1 S.2.1 dX12_init_417 (by decide) ?_
  obtain ⟨h142, e141, f⟩ := ob f
  refine o_iast S I e141 dX12_init_419 (fun H locs I => ?_)
  refine lv_dup S.1 S.2.1 dX12_init_420 rfl ?_
  refine lv_bipush (v := 68) S.1 S.2.1 dX12_init_421 (by decide) ?_
  refine lv_bipush (v := 102) S.1 S.2.1 dX12_init_423 (by decide) ?_
  obtain ⟨h144, e143, f⟩ := ob f
  refine o_iast S I e143 dX12_init_425 (fun H locs I => ?_)
  refine lv_dup S.1 S.2.1 dX12_init_426 rfl ?_
  refine lv_bipush (v := 69) S.1 S.2.1 dX12_init_427 (by decide) ?_
  refine lv_bipush (v := 116) S.1 S.2.1 dX12_init_429 (by decide) ?_
  obtain ⟨h146, e145, f⟩ := ob f
  refine o_iast S I e145 dX12_init_431 (fun H locs I => ?_)
  refine lv_dup S.1 S.2.1 dX12_init_432 rfl ?_
  refine lv_bipush (v := 70) S.1 S.2.1 dX12_init_433 (by decide) ?_
  refine lv_bipush (v := 32) S.1 S.2.1 dX12_init_435 (by decide) ?_
  obtain ⟨h148, e147, f⟩ := ob f
  refine o_iast S I e147 dX12_init_437 (fun H locs I => ?_)
  refine lv_dup S.1 S.2.1 dX12_init_438 rfl ?_
  refine lv_bipush (v := 71) S.1 S.2.1 dX12_init_439 (by decide) ?_
  refine lv_bipush (v := 97) S.1 S.2.1 dX12_init_441 (by decide) ?_
  obtain ⟨h150, e149, f⟩ := ob f
  refine o_iast S I e149 dX12_init_443 (fun H locs I => ?_)
  refine lv_dup S.1 S.2.1 dX12_init_444 rfl ?_
  refine lv_bipush (v := 72) S.1 S.2.1 dX12_init_445 (by decide) ?_
  refine lv_bipush (v := 119) S.1 S.2.1 dX12_init_447 (by decide) ?_
  obtain ⟨h152, e151, f⟩ := ob f
  refine o_iast S I e151 dX12_init_449 (fun H locs I => ?_)
  refine lv_dup S.1 S.2.1 dX12_init_450 rfl ?_
  refine lv_bipush (v := 73) S.1 S.2.1 dX12_init_451 (by decide) ?_
  refine lv_bipush (v := 97) S.1 S.2.1 dX12_init_453 (by decide) ?_
  obtain ⟨h154, e153, f⟩ := ob f
  refine o_iast S I e153 dX12_init_455 (fun H locs I => ?_)
  refine lv_dup S.1 S.2.1 dX12_init_456 rfl ?_
  refine lv_bipush (v := 74) S.1 S.2.1 dX12_init_457 (by decide) ?_
  refine lv_bipush (v := 121) S.1 S.2.1 dX12_init_459 (by decide) ?_
  obtain ⟨h156, e155, f⟩ := ob f
  refine o_iast S I e155 dX12_init_461 (fun H locs I => ?_)
  refine lv_dup S.1 S.2.1 dX12_init_462 rfl ?_
  refine lv_bipush (v := 75) S.1 S.2.1 dX12_init_463 (by decide) ?_
  refine lv_bipush (v := 32) S.1 S.2.1 dX12_init_465 (by decide) ?_
  obtain ⟨h158, e157, f⟩ := ob f
  refine o_iast S I e157 dX12_init_467 (fun H locs I => ?_)
  refine lv_dup S.1 S.2.1 dX12_init_468 rfl ?_
  refine lv_bipush (v := 76) S.1 S.2.1 dX12_init_469 (by decide) ?_
  refine lv_bipush (v := 97) S.1 S.2.1 dX12_init_471 (by decide) ?_
  obtain ⟨h160, e159, f⟩ := ob f
  refine o_iast S I e159 dX12_init_473 (fun H locs I => ?_)
  refine lv_dup S.1 S.2.1 dX12_init_474 rfl ?_
  refine lv_bipush (v := 77) S.1 S.2.1 dX12_init_475 (by decide) ?_
  refine lv_bipush (v := 110) S.1 S.2.1 dX12_init_477 (by decide) ?_
  obtain ⟨h162, e161, f⟩ := ob f
  refine o_iast S I e161 dX12_init_479 (fun H locs I => ?_)
  refine lv_dup S.1 S.2.1 dX12_init_480 rfl ?_
  refine lv_bipush (v := 78) S.1 S.2.1 dX12_init_481 (by decide) ?_
  refine lv_bipush (v := 100) S.1 S.2.1 dX12_init_483 (by decide) ?_
  obtain ⟨h164, e163, f⟩ := ob f
  refine o_iast S I e163 dX12_init_485 (fun H locs I => ?_)
  refine lv_dup S.1 S.2.1 dX12_init_486 rfl ?_
  refine lv_bipush (v := 79) S.1 S.2.1 dX12_init_487 (by decide) ?_
  refine lv_bipush (v := 32) S.1 S.2.1 dX12_init_489 (by decide) ?_
  obtain ⟨h166, e165, f⟩ := ob f
  refine o_iast S I e165 dX12_init_491 (fun H locs I => ?_)
  refine lv_dup S.1 S.2.1 dX12_init_492 rfl ?_
  refine lv_bipush (v := 80) S.1 S.2.1 dX12_init_493 (by decide) ?_
  refine lv_bipush (v := 111) S.1 S.2.1 dX12_init_495 (by decide) ?_
  obtain ⟨h168, e167, f⟩ := ob f
  refine o_iast S I e167 dX12_init_497 (fun H locs I => ?_)
  refine lv_dup S.1 S.2.1 dX12_init_498 rfl ?_
  refine lv_bipush (v := 81) S.1 S.2.1 dX12_init_499 (by decide) ?_
  refine lv_bipush (v := 114) S.1 S.2.1 dX12_init_501 (by decide) ?_
  obtain ⟨h170, e169, f⟩ := ob f
  refine o_iast S I e169 dX12_init_503 (fun H locs I => ?_)
  refine lv_dup S.1 S.2.1 dX12_init_504 rfl ?_
  refine lv_bipush (v := 82) S.1 S.2.1 dX12_init_505 (by decide) ?_
  refine lv_bipush (v := 32) S.1 S.2.1 dX12_init_507 (by decide) ?_
  obtain ⟨h172, e171, f⟩ := ob f
  refine o_iast S I e171 dX12_init_509 (fun H locs I => ?_)
  refine lv_dup S.1 S.2.1 dX12_init_510 rfl ?_
  refine lv_bipush (v := 83) S.1 S.2.1 dX12_init_511 (by decide) ?_
  refine lv_bipush (v := 110) S.1 S.2.1 dX12_init_513 (by decide) ?_
  obtain ⟨h174, e173, f⟩ := ob f
  refine o_iast S I e173 dX12_init_515 (fun H locs I => ?_)
  refine lv_dup S.1 S.2.1 dX12_init_516 rfl ?_
  refine lv_bipush (v := 84) S.1 S.2.1 dX12_init_517 (by decide) ?_
  refine lv_bipush (v := 111) S.1 S.2.1 dX12_init_519 (by decide) ?_
  obtain ⟨h176, e175, f⟩ := ob f
  refine o_iast S I e175 dX12_init_521 (fun H locs I => ?_)
  refine lv_dup S.1 S.2.1 dX12_init_522 rfl ?_
  refine lv_bipush (v := 85) S.1 S.2.1 dX12_init_523 (by decide) ?_
  refine lv_bipush (v := 116) S.1 S.2.1 dX12_init_525 (by decide) ?_
  obtain ⟨h178, e177, f⟩ := ob f
  refine o_iast S I e177 dX12_init_527 (fun H locs I => ?_)
  refine lv_dup S.1 S.2.1 dX12_init_528 rfl ?_
  refine lv_bipush (v := 86) S.1 S.2.1 dX12_init_529 (by decide) ?_
  refine lv_bipush (v := 32) S.1 S.2.1 dX12_init_531 (by decide) ?_
  obtain ⟨h180, e179, f⟩ := ob f
  refine o_iast S I e179 dX12_init_533 (fun H locs I => ?_)
  refine lv_dup S.1 S.2.1 dX12_init_534 rfl ?_
  refine lv_bipush (v := 87) S.1 S.2.1 dX12_init_535 (by decide) ?_
  refine lv_bipush (v := 102) S.1 S.2.1 dX12_init_537 (by decide) ?_
  obtain ⟨h182, e181, f⟩ := ob f
  refine o_iast S I e181 dX12_init_539 (fun H locs I => ?_)
  refine lv_dup S.1 S.2.1 dX12_init_540 rfl ?_
  refine lv_bipush (v := 88) S.1 S.2.1 dX12_init_541 (by decide) ?_
  refine lv_bipush (v := 97) S.1 S.2.1 dX12_init_543 (by decide) ?_
  obtain ⟨h184, e183, f⟩ := ob f
  refine o_iast S I e183 dX12_init_545 (fun H locs I => ?_)
  refine lv_dup S.1 S.2.1 dX12_init_546 rfl ?_
  refine lv_bipush (v := 89) S.1 S.2.1 dX12_init_547 (by decide) ?_
  refine lv_bipush (v := 114) S.1 S.2.1 dX12_init_549 (by decide) ?_
  obtain ⟨h186, e185, f⟩ := ob f
  refine o_iast S I e185 dX12_init_551 (fun H locs I => ?_)
  refine lv_dup S.1 S.2.1 dX12_init_552 rfl ?_
  refine lv_bipush (v := 90) S.1 S.2.1 dX12_init_553 (by decide) ?_
  refine lv_bipush (v := 32) S.1 S.2.1 dX12_init_555 (by decide) ?_
  obtain ⟨h188, e187, f⟩ := ob f
  refine o_iast S I e187 dX12_init_557 (fun H locs I => ?_)
  refine lv_dup S.1 S.2.1 dX12_init_558 rfl ?_
  refine lv_bipush (v := 91) S.1 S.2.1 dX12_init_559 (by decide) ?_
  refine lv_bipush (v := 115) S.1 S.2.1 dX12_init_561 (by decide) ?_
  obtain ⟨h190, e189, f⟩ := ob f
  refine o_iast S I e189 dX12_init_563 (fun H locs I => ?_)
  refine lv_dup S.1 S.2.1 dX12_init_564 rfl ?_
  refine lv_bipush (v := 92) S.1 S.2.1 dX12_init_565 (by decide) ?_
  refine lv_bipush (v := 105) S.1 S.2.1 dX12_init_567 (by decide) ?_
  obtain ⟨h192, e191, f⟩ := ob f
  refine o_iast S I e191 dX12_init_569 (fun H locs I => ?_)
  refine lv_dup S.1 S.2.1 dX12_init_570 rfl ?_
  refine lv_bipush (v := 93) S.1 S.2.1 dX12_init_571 (by decide) ?_
  refine lv_bipush (v := 100) S.1 S.2.1 dX12_init_573 (by decide) ?_
  obtain ⟨h194, e193, f⟩ := ob f
  refine o_iast S I e193 dX12_init_575 (fun H locs I => ?_)
  refine lv_dup S.1 S.2.1 dX12_init_576 rfl ?_
  refine lv_bipush (v := 94) S.1 S.2.1 dX12_init_577 (by decide) ?_
  refine lv_bipush (v := 101) S.1 S.2.1 dX12_init_579 (by decide) ?_
  obtain ⟨h196, e195, f⟩ := ob f
  refine o_iast S I e195 dX12_init_581 (fun H locs I => ?_)
  refine lv_dup S.1 S.2.1 dX12_init_582 rfl ?_
  refine lv_bipush (v := 95) S.1 S.2.1 dX12_init_583 (by decide) ?_
  refine lv_bipush (v := 32) S.1 S.2.1 dX12_init_585 (by decide) ?_
  obtain ⟨h198, e197, f⟩ := ob f
  refine o_iast S I e197 dX12_init_587 (fun H locs I => ?_)
  refine lv_dup S.1 S.2.1 dX12_init_588 rfl ?_
  refine lv_bipush (v := 96) S.1 S.2.1 dX12_init_589 (by decide) ?_
  refine lv_bipush (v := 98) S.1 S.2.1 dX12_init_591 (by decide) ?_
  obtain ⟨h200, e199, f⟩ := ob f
  refine o_iast S I e199 dX12_init_593 (fun H locs I => ?_)
  refine lv_dup S.1 S.2.1 dX12_init_594 rfl ?_
  refine lv_bipush (v := 97) S.1 S.2.1 dX12_init_595 (by decide) ?_
  refine lv_bipush (v := 111) S.1 S.2.1 dX12_init_597 (by decide) ?_
  obtain ⟨h202, e201, f⟩ := ob f
  refine o_iast S I e201 dX12_init_599 (fun H locs I => ?_)
  refine lv_dup S.1 S.2.1 dX12_init_600 rfl ?_
  refine lv_bipush (v := 98) S.1 S.2.1 dX12_init_601 (by decide) ?_
  refine lv_bipush (v := 97) S.1 S.2.1 dX12_init_603 (by decide) ?_
  obtain ⟨h204, e203, f⟩ := ob f
  refine o_iast S I e203 dX12_init_605 (fun H locs I => ?_)
  refine lv_dup S.1 S.2.1 dX12_init_606 rfl ?_
  refine lv_bipush (v := 99) S.1 S.2.1 dX12_init_607 (by decide) ?_
  refine lv_bipush (v := 114) S.1 S.2.1 dX12_init_609 (by decide) ?_
  obtain ⟨h206, e205, f⟩ := ob f
  refine o_iast S I e205 dX12_init_611 (fun H locs I => ?_)
  refine lv_dup S.1 S.2.1 dX12_init_612 rfl ?_
  refine lv_bipush (v := 100) S.1 S.2.1 dX12_init_613 (by decide) ?_
  refine lv_bipush (v := 100) S.1 S.2.1 dX12_init_615 (by decide) ?_
  obtain ⟨h208, e207, f⟩ := ob f
  refine o_iast S I e207 dX12_init_617 (fun H locs I => ?_)
  refine lv_dup S.1 S.2.1 dX12_init_618 rfl ?_
  refine lv_bipush (v := 101) S.1 S.2.1 dX12_init_619 (by decide) ?_
  refine lv_bipush (v := 32) S.1 S.2.1 dX12_init_621 (by decide) ?_
  obtain ⟨h210, e209, f⟩ := ob f
  refine o_iast S I e209 dX12_init_623 (fun H locs I => ?_)
  refine lv_dup S.1 S.2.1 dX12_init_624 rfl ?_
  refine lv_bipush (v := 102) S.1 S.2.1 dX12_init_625 (by decide) ?_
  refine lv_bipush (v := 115) S.1 S.2.1 dX12_init_627 (by decide) ?_
  obtain ⟨h212, e211, f⟩ := ob f
  refine o_iast S I e211 dX12_init_629 (fun H locs I => ?_)
  refine lv_dup S.1 S.2.1 dX12_init_630 rfl ?_
  refine lv_bipush (v := 103) S.1 S.2.1 dX12_init_631 (by decide) ?_
  refine lv_bipush (v := 105) S.1 S.2.1 dX12_init_633 (by decide) ?_
  obtain ⟨h214, e213, f⟩ := ob f
  refine o_iast S I e213 dX12_init_635 (fun H locs I => ?_)
  refine lv_dup S.1 S.2.1 dX12_init_636 rfl ?_
  refine lv_bipush (v := 104) S.1 S.2.1 dX12_init_637 (by decide) ?_
  refine lv_bipush (v := 122) S.1 S.2.1 dX12_init_639 (by decide) ?_
  obtain ⟨h216, e215, f⟩ := ob f
  refine o_iast S I e215 dX12_init_641 (fun H locs I => ?_)
  refine lv_dup S.1 S.2.1 dX12_init_642 rfl ?_
  refine lv_bipush (v := 105) S.1 S.2.1 dX12_init_643 (by decide) ?_
  refine lv_bipush (v := 101) S.1 S.2.1 dX12_init_645 (by decide) ?_
  obtain ⟨h218, e217, f⟩ := ob f
  refine o_iast S I e217 dX12_init_647 (fun H locs I => ?_)
  refine lv_dup S.1 S.2.1 dX12_init_648 rfl ?_
  refine lv_bipush (v := 106) S.1 S.2.1 dX12_init_649 (by decide) ?_
  refine lv_bipush (v := 32) S.1 S.2.1 dX12_init_651 (by decide) ?_
  obtain ⟨h220, e219, f⟩ := ob f
  refine o_iast S I e219 dX12_init_653 (fun H locs I => ?_)
  refine lv_dup S.1 S.2.1 dX12_init_654 rfl ?_
  refine lv_bipush (v := 107) S.1 S.2.1 dX12_init_655 (by decide) ?_
  refine lv_bipush (v := 109) S.1 S.2.1 dX12_init_657 (by decide) ?_
  obtain ⟨h222, e221, f⟩ := ob f
  refine o_iast S I e221 dX12_init_659 (fun H locs I => ?_)
  refine lv_dup S.1 S.2.1 dX12_init_660 rfl ?_
  refine lv_bipush (v := 108) S.1 S.2.1 dX12_init_661 (by decide) ?_
  refine lv_bipush (v := 105) S.1 S.2.1 dX12_init_663 (by decide) ?_
  obtain ⟨h224, e223, f⟩ := ob f
  refine o_iast S I e223 dX12_init_665 (fun H locs I => ?_)
  refine lv_dup S.1 S.2.1 dX12_init_666 rfl ?_
  refine lv_bipush (v := 109) S.1 S.2.1 dX12_init_667 (by decide) ?_
  refine lv_bipush (v := 110) S.1 S.2.1 dX12_init_669 (by decide) ?_
  obtain ⟨h226, e225, f⟩ := ob f
  refine o_iast S I e225 dX12_init_671 (fun H locs I => ?_)
  refine lv_dup S.1 S.2.1 dX12_init_672 rfl ?_
  refine lv_bipush (v := 110) S.1 S.2.1 dX12_init_673 (by decide) ?_
  refine lv_bipush (v := 117) S.1 S.2.1 dX12_init_675 (by decide) ?_
  obtain ⟨h228, e227, f⟩ := ob f
  refine o_iast S I e227 dX12_init_677 (fun H locs I => ?_)
  refine lv_dup S.1 S.2.1 dX12_init_678 rfl ?_
  refine lv_bipush (v := 111) S.1 S.2.1 dX12_init_679 (by decide) ?_
  refine lv_bipush (v := 116) S.1 S.2.1 dX12_init_681 (by decide) ?_
  obtain ⟨h230, e229, f⟩ := ob f
  refine o_iast S I e229 dX12_init_683 (fun H locs I => ?_)
  refine lv_dup S.1 S.2.1 dX12_init_684 rfl ?_
  refine lv_bipush (v := 112) S.1 S.2.1 dX12_init_685 (by decide) ?_
  refine lv_bipush (v := 101) S.1 S.2.1 dX12_init_687 (by decide) ?_
  obtain ⟨h232, e231, f⟩ := ob f
  refine o_iast S I e231 dX12_init_689 (fun H locs I => ?_)
  refine lv_dup S.1 S.2.1 dX12_init_690 rfl ?_
  refine lv_bipush (v := 113) S.1 S.2.1 dX12_init_691 (by decide) ?_
  refine lv_bipush (v := 32) S.1 S.2.1 dX12_init_693 (by decide) ?_
  obtain ⟨h234, e233, f⟩ := ob f
  refine o_iast S I e233 dX12_init_695 (fun H locs I => ?_)
  refine lv_dup S.1 S.2.1 dX12_init_696 rfl ?_
  refine lv_bipush (v := 114) S.1 S.2.1 dX12_init_697 (by decide) ?_
  refine lv_bipush (v := 119) S.1 S.2.1 dX12_init_699 (by decide) ?_
  obtain ⟨h236, e235, f⟩ := ob f
  refine o_iast S I e235 dX12_init_701 (fun H locs I => ?_)
  refine lv_dup S.1 S.2.1 dX12_init_702 rfl ?_
  refine lv_bipush (v := 115) S.1 S.2.1 dX12_init_703 (by decide) ?_
  refine lv_bipush (v := 104) S.1 S.2.1 dX12_init_705 (by decide) ?_
  obtain ⟨h238, e237, f⟩ := ob f
  refine o_iast S I e237 dX12_init_707 (fun H locs I => ?_)
  refine lv_dup S.1 S.2.1 dX12_init_708 rfl ?_
  refine lv_bipush (v := 116) S.1 S.2.1 dX12_init_709 (by decide) ?_
  refine lv_bipush (v := 105) S.1 S.2.1 dX12_init_711 (by decide) ?_
  obtain ⟨h240, e239, f⟩ := ob f
  refine o_iast S I e239 dX12_init_713 (fun H locs I => ?_)
  refine lv_dup S.1 S.2.1 dX12_init_714 rfl ?_
  refine lv_bipush (v := 117) S.1 S.2.1 dX12_init_715 (by decide) ?_
  refine lv_bipush (v := 99) S.1 S.2.1 dX12_init_717 (by decide) ?_
  obtain ⟨h242, e241, f⟩ := ob f
  refine o_iast S I e241 dX12_init_719 (fun H locs I => ?_)
  refine lv_dup S.1 S.2.1 dX12_init_720 rfl ?_
  refine lv_bipush (v := 118) S.1 S.2.1 dX12_init_721 (by decide) ?_
  refine lv_bipush (v := 104) S.1 S.2.1 dX12_init_723 (by decide) ?_
  obtain ⟨h244, e243, f⟩ := ob f
  refine o_iast S I e243 dX12_init_725 (fun H locs I => ?_)
  refine lv_dup S.1 S.2.1 dX12_init_726 rfl ?_
  refine lv_bipush (v := 119) S.1 S.2.1 dX12_init_727 (by decide) ?_
  refine lv_bipush (v := 32) S.1 S.2.1 dX12_init_729 (by decide) ?_
  obtain ⟨h246, e245, f⟩ := ob f
  refine o_iast S I e245 dX12_init_731 (fun H locs I => ?_)
  obtain ⟨h247, e248, f⟩ := ob f
  refine o_pRF S hin2 lp12_init_13 (Or.inr ⟨_, rfl⟩) I e248 dX12_init_732 (fun H locs I => ?_)
  refine lv_aload_n S.1 S.2.1 dX12_init_735 rfl (lv_at hl 0 rfl) ?_
  refine lv_iconst (v := (-1)) S.1 S.2.1 dX12_init_736 (by decide) ?_
  obtain ⟨h249, e250, f⟩ := ob f
  refine o_pI S lp12_init_16 I e250 dX12_init_737 (fun H locs I => ?_)
  refine lv_aload_n S.1 S.2.1 dX12_init_740 rfl (lv_at hl 0 rfl) ?_
  refine lv_iconst (v := 5) S.1 S.2.1 dX12_init_741 (by decide) ?_
  obtain ⟨h251, e252, f⟩ := ob f
  refine o_newZ S (List.mem_cons_of_mem _ wT_8_19) I hAn (N := 5) e252 (by decide) (by decide) (Nat.le_of_ble_eq_true rfl) (Nat.le_of_ble_eq_true rfl) (Nat.le_of_ble_eq_true rfl) dX12_init_742 (fun H I => ?_)
  obtain ⟨h253, e254, f⟩ := ob f
  refine o_pRF S hin2 lp12_init_20 (Or.inr ⟨_, rfl⟩) I e254 dX12_init_744 (fun H locs I => ?_)
  refine lv_aload_n S.1 S.2.1 dX12_init_747 rfl (lv_at hl 0 rfl) ?_
  refine lv_bipush (v := 14) S.1 S.2.1 dX12_init_748 (by decide) ?_
  obtain ⟨h255, e256, f⟩ := ob f
  refine o_newI S (List.mem_cons_of_mem _ wT_3_21) I hAn (N := 14) e256 (by decide) (by decide) (Nat.le_of_ble_eq_true rfl) (Nat.le_of_ble_eq_true rfl) (Nat.le_of_ble_eq_true rfl) dX12_init_750 (fun H I => ?_)
  obtain ⟨h257, e258, f⟩ := ob f
  refine o_pRF S hin2 lp12_init_24 (Or.inr ⟨_, rfl⟩) I e258 dX12_init_752 (fun H locs I => ?_)
  refine lv_aload_n S.1 S.2.1 dX12_init_755 rfl (lv_at hl 0 rfl) ?_
  refine lv_bipush (v := 10) S.1 S.2.1 dX12_init_756 (by decide) ?_
  obtain ⟨h259, e260, f⟩ := ob f
  refine o_newI S (List.mem_cons_of_mem _ wT_3_21) I hAn (N := 10) e260 (by decide) (by decide) (Nat.le_of_ble_eq_true rfl) (Nat.le_of_ble_eq_true rfl) (Nat.le_of_ble_eq_true rfl) dX12_init_758 (fun H I => ?_)
  obtain ⟨h261, e262, f⟩ := ob f
  refine o_pRF S hin2 lp12_init_27 (Or.inr ⟨_, rfl⟩) I e262 dX12_init_760 (fun H locs I => ?_)
  refine lv_aload_n S.1 S.2.1 dX12_init_763 rfl (lv_at hl 0 rfl) ?_
  refine lv_bipush (v := 10) S.1 S.2.1 dX12_init_764 (by decide) ?_
  obtain ⟨h263, e264, f⟩ := ob f
  refine o_newI S (List.mem_cons_of_mem _ wT_3_21) I hAn (N := 10) e264 (by decide) (by decide) (Nat.le_of_ble_eq_true rfl) (Nat.le_of_ble_eq_true rfl) (Nat.le_of_ble_eq_true rfl) dX12_init_766 (fun H I => ?_)
  obtain ⟨h265, e266, f⟩ := ob f
  refine o_pRF S hin2 lp12_init_30 (Or.inr ⟨_, rfl⟩) I e266 dX12_init_768 (fun H locs I => ?_)
  refine lv_aload_n S.1 S.2.1 dX12_init_771 rfl (lv_at hl 0 rfl) ?_
  refine lv_bipush (v := 10) S.1 S.2.1 dX12_init_772 (by decide) ?_
  obtain ⟨h267, e268, f⟩ := ob f
  refine o_newI S (List.mem_cons_of_mem _ wT_3_21) I hAn (N := 10) e268 (by decide) (by decide) (Nat.le_of_ble_eq_true rfl) (Nat.le_of_ble_eq_true rfl) (Nat.le_of_ble_eq_true rfl) dX12_init_774 (fun H I => ?_)
  obtain ⟨h269, e270, f⟩ := ob f
  refine o_pRF S hin2 lp12_init_33 (Or.inr ⟨_, rfl⟩) I e270 dX12_init_776 (fun H locs I => ?_)
  refine lv_aload_n S.1 S.2.1 dX12_init_779 rfl (lv_at hl 0 rfl) ?_
  refine lv_bipush (v := 10) S.1 S.2.1 dX12_init_780 (by decide) ?_
  obtain ⟨h271, e272, f⟩ := ob f
  refine o_newI S (List.mem_cons_of_mem _ wT_3_21) I hAn (N := 10) e272 (by decide) (by decide) (Nat.le_of_ble_eq_true rfl) (Nat.le_of_ble_eq_true rfl) (Nat.le_of_ble_eq_true rfl) dX12_init_782 (fun H I => ?_)
  obtain ⟨h273, e274, f⟩ := ob f
  refine o_pRF S hin2 lp12_init_36 (Or.inr ⟨_, rfl⟩) I e274 dX12_init_784 (fun H locs I => ?_)
  refine lv_aload_n S.1 S.2.1 dX12_init_787 rfl (lv_at hl 0 rfl) ?_
  refine lv_bipush (v := 10) S.1 S.2.1 dX12_init_788 (by decide) ?_
  obtain ⟨h275, e276, f⟩ := ob f
  refine o_newI S (List.mem_cons_of_mem _ wT_3_21) I hAn (N := 10) e276 (by decide) (by decide) (Nat.le_of_ble_eq_true rfl) (Nat.le_of_ble_eq_true rfl) (Nat.le_of_ble_eq_true rfl) dX12_init_790 (fun H I => ?_)
  obtain ⟨h277, e278, f⟩ := ob f
  refine o_pRF S hin2 lp12_init_39 (Or.inr ⟨_, rfl⟩) I e278 dX12_init_792 (fun H locs I => ?_)
  refine lv_aload_n S.1 S.2.1 dX12_init_795 rfl (lv_at hl 0 rfl) ?_
  refine lv_bipush (v := 10) S.1 S.2.1 dX12_init_796 (by decide) ?_
  obtain ⟨h279, e280, f⟩ := ob f
  refine o_newI S (List.mem_cons_of_mem _ wT_3_21) I hAn (N := 10) e280 (by decide) (by decide) (Nat.le_of_ble_eq_true rfl) (Nat.le_of_ble_eq_true rfl) (Nat.le_of_ble_eq_true rfl) dX12_init_798 (fun H I => ?_)
  obtain ⟨h281, e282, f⟩ := ob f
  refine o_pRF S hin2 lp12_init_42 (Or.inr ⟨_, rfl⟩) I e282 dX12_init_800 (fun H locs I => ?_)
  refine lv_aload_n S.1 S.2.1 dX12_init_803 rfl (lv_at hl 0 rfl) ?_
  refine lv_bipush (v := 8) S.1 S.2.1 dX12_init_804 (by decide) ?_
  obtain ⟨h283, e284, f⟩ := ob f
  refine o_newI S (List.mem_cons_of_mem _ wT_3_21) I hAn (N := 8) e284 (by decide) (by decide) (Nat.le_of_ble_eq_true rfl) (Nat.le_of_ble_eq_true rfl) (Nat.le_of_ble_eq_true rfl) dX12_init_806 (fun H I => ?_)
  obtain ⟨h285, e286, f⟩ := ob f
  refine o_pRF S hin2 lp12_init_45 (Or.inr ⟨_, rfl⟩) I e286 dX12_init_808 (fun H locs I => ?_)
  refine lv_aload_n S.1 S.2.1 dX12_init_811 rfl (lv_at hl 0 rfl) ?_
  refine lv_bipush (v := 56) S.1 S.2.1 dX12_init_812 (by decide) ?_
  obtain ⟨h287, e288, f⟩ := ob f
  refine o_newI S (List.mem_cons_of_mem _ wT_3_21) I hAn (N := 56) e288 (by decide) (by decide) (Nat.le_of_ble_eq_true rfl) (Nat.le_of_ble_eq_true rfl) (Nat.le_of_ble_eq_true rfl) dX12_init_814 (fun H I => ?_)
  obtain ⟨h289, e290, f⟩ := ob f
  refine o_pRF S hin2 lp12_init_48 (Or.inr ⟨_, rfl⟩) I e290 dX12_init_816 (fun H locs I => ?_)
  refine lv_aload_n S.1 S.2.1 dX12_init_819 rfl (lv_at hl 0 rfl) ?_
  refine lv_bipush (v := 56) S.1 S.2.1 dX12_init_820 (by decide) ?_
  obtain ⟨h291, e292, f⟩ := ob f
  refine o_newI S (List.mem_cons_of_mem _ wT_3_21) I hAn (N := 56) e292 (by decide) (by decide) (Nat.le_of_ble_eq_true rfl) (Nat.le_of_ble_eq_true rfl) (Nat.le_of_ble_eq_true rfl) dX12_init_822 (fun H I => ?_)
  obtain ⟨h293, e294, f⟩ := ob f
  refine o_pRF S hin2 lp12_init_51 (Or.inr ⟨_, rfl⟩) I e294 dX12_init_824 (fun H locs I => ?_)
  refine lv_aload_n S.1 S.2.1 dX12_init_827 rfl (lv_at hl 0 rfl) ?_
  refine lv_bipush (v := 56) S.1 S.2.1 dX12_init_828 (by decide) ?_
  obtain ⟨h295, e296, f⟩ := ob f
  refine o_newI S (List.mem_cons_of_mem _ wT_3_21) I hAn (N := 56) e296 (by decide) (by decide) (Nat.le_of_ble_eq_true rfl) (Nat.le_of_ble_eq_true rfl) (Nat.le_of_ble_eq_true rfl) dX12_init_830 (fun H I => ?_)
  obtain ⟨h297, e298, f⟩ := ob f
  refine o_pRF S hin2 lp12_init_54 (Or.inr ⟨_, rfl⟩) I e298 dX12_init_832 (fun H locs I => ?_)
  refine lv_aload_n S.1 S.2.1 dX12_init_835 rfl (lv_at hl 0 rfl) ?_
  refine lv_bipush (v := 6) S.1 S.2.1 dX12_init_836 (by decide) ?_
  obtain ⟨h299, e300, f⟩ := ob f
  refine o_newZ S (List.mem_cons_of_mem _ wT_8_19) I hAn (N := 6) e300 (by decide) (by decide) (Nat.le_of_ble_eq_true rfl) (Nat.le_of_ble_eq_true rfl) (Nat.le_of_ble_eq_true rfl) dX12_init_838 (fun H I => ?_)
  obtain ⟨h301, e302, f⟩ := ob f
  refine o_pRF S hin2 lp12_init_57 (Or.inr ⟨_, rfl⟩) I e302 dX12_init_840 (fun H locs I => ?_)
  refine lv_aload_n S.1 S.2.1 dX12_init_843 rfl (lv_at hl 0 rfl) ?_
  refine lv_bipush (v := 6) S.1 S.2.1 dX12_init_844 (by decide) ?_
  obtain ⟨h303, e304, f⟩ := ob f
  refine o_newI S (List.mem_cons_of_mem _ wT_3_21) I hAn (N := 6) e304 (by decide) (by decide) (Nat.le_of_ble_eq_true rfl) (Nat.le_of_ble_eq_true rfl) (Nat.le_of_ble_eq_true rfl) dX12_init_846 (fun H I => ?_)
  obtain ⟨h305, e306, f⟩ := ob f
  refine o_pRF S hin2 lp12_init_60 (Or.inr ⟨_, rfl⟩) I e306 dX12_init_848 (fun H locs I => ?_)
  refine lv_aload_n S.1 S.2.1 dX12_init_851 rfl (lv_at hl 0 rfl) ?_
  refine lv_bipush (v := 6) S.1 S.2.1 dX12_init_852 (by decide) ?_
  obtain ⟨h307, e308, f⟩ := ob f
  refine o_newI S (List.mem_cons_of_mem _ wT_3_21) I hAn (N := 6) e308 (by decide) (by decide) (Nat.le_of_ble_eq_true rfl) (Nat.le_of_ble_eq_true rfl) (Nat.le_of_ble_eq_true rfl) dX12_init_854 (fun H I => ?_)
  obtain ⟨h309, e310, f⟩ := ob f
  refine o_pRF S hin2 lp12_init_63 (Or.inr ⟨_, rfl⟩) I e310 dX12_init_856 (fun H locs I => ?_)
  refine lv_aload_n S.1 S.2.1 dX12_init_859 rfl (lv_at hl 0 rfl) ?_
  refine lv_sipush (v := 128) S.1 S.2.1 dX12_init_860 (by decide) ?_
  obtain ⟨h311, e312, f⟩ := ob f
  refine o_newI S (List.mem_cons_of_mem _ wT_3_21) I hAn (N := 128) e312 (by decide) (by decide) (Nat.le_of_ble_eq_true rfl) (Nat.le_of_ble_eq_true rfl) (Nat.le_of_ble_eq_true rfl) dX12_init_863 (fun H I => ?_)
  obtain ⟨h313, e314, f⟩ := ob f
  refine o_pRF S hin2 lp12_init_66 (Or.inr ⟨_, rfl⟩) I e314 dX12_init_865 (fun H locs I => ?_)
  refine lv_aload_n S.1 S.2.1 dX12_init_868 rfl (lv_at hl 0 rfl) ?_
  refine lv_sipush (v := 128) S.1 S.2.1 dX12_init_869 (by decide) ?_
  obtain ⟨h315, e316, f⟩ := ob f
  refine o_newI S (List.mem_cons_of_mem _ wT_3_21) I hAn (N := 128) e316 (by decide) (by decide) (Nat.le_of_ble_eq_true rfl) (Nat.le_of_ble_eq_true rfl) (Nat.le_of_ble_eq_true rfl) dX12_init_872 (fun H I => ?_)
  obtain ⟨h317, e318, f⟩ := ob f
  refine o_pRF S hin2 lp12_init_69 (Or.inr ⟨_, rfl⟩) I e318 dX12_init_874 (fun H locs I => ?_)
  refine lv_aload_n S.1 S.2.1 dX12_init_877 rfl (lv_at hl 0 rfl) ?_
  refine lv_sipush (v := 128) S.1 S.2.1 dX12_init_878 (by decide) ?_
  obtain ⟨h319, e320, f⟩ := ob f
  refine o_newI S (List.mem_cons_of_mem _ wT_3_21) I hAn (N := 128) e320 (by decide) (by decide) (Nat.le_of_ble_eq_true rfl) (Nat.le_of_ble_eq_true rfl) (Nat.le_of_ble_eq_true rfl) dX12_init_881 (fun H I => ?_)
  obtain ⟨h321, e322, f⟩ := ob f
  refine o_pRF S hin2 lp12_init_72 (Or.inr ⟨_, rfl⟩) I e322 dX12_init_883 (fun H locs I => ?_)
  refine lv_aload_n S.1 S.2.1 dX12_init_886 rfl (lv_at hl 0 rfl) ?_
  refine lv_bipush (v := 96) S.1 S.2.1 dX12_init_887 (by decide) ?_
  obtain ⟨h323, e324, f⟩ := ob f
  refine o_newI S (List.mem_cons_of_mem _ wT_3_21) I hAn (N := 96) e324 (by decide) (by decide) (Nat.le_of_ble_eq_true rfl) (Nat.le_of_ble_eq_true rfl) (Nat.le_of_ble_eq_true rfl) dX12_init_889 (fun H I => ?_)
  obtain ⟨h325, e326, f⟩ := ob f
  refine o_pRF S hin2 lp12_init_75 (Or.inr ⟨_, rfl⟩) I e326 dX12_init_891 (fun H locs I => ?_)
  refine lv_aload_n S.1 S.2.1 dX12_init_894 rfl (lv_at hl 0 rfl) ?_
  refine lv_bipush (v := 96) S.1 S.2.1 dX12_init_895 (by decide) ?_
  obtain ⟨h327, e328, f⟩ := ob f
  refine o_newI S (List.mem_cons_of_mem _ wT_3_21) I hAn (N := 96) e328 (by decide) (by decide) (Nat.le_of_ble_eq_true rfl) (Nat.le_of_ble_eq_true rfl) (Nat.le_of_ble_eq_true rfl) dX12_init_897 (fun H I => ?_)
  obtain ⟨h329, e330, f⟩ := ob f
  refine o_pRF S hin2 lp12_init_78 (Or.inr ⟨_, rfl⟩) I e330 dX12_init_899 (fun H locs I => ?_)
  refine lv_aload_n S.1 S.2.1 dX12_init_902 rfl (lv_at hl 0 rfl) ?_
  refine lv_bipush (v := 6) S.1 S.2.1 dX12_init_903 (by decide) ?_
  obtain ⟨h331, e332, f⟩ := ob f
  refine o_newJ S (List.mem_cons_of_mem _ wT_1_6) I hAn (N := 6) e332 (by decide) (by decide) (Nat.le_of_ble_eq_true rfl) (Nat.le_of_ble_eq_true rfl) (Nat.le_of_ble_eq_true rfl) dX12_init_905 (fun H I => ?_)
  obtain ⟨h333, e334, f⟩ := ob f
  refine o_pRF S hin2 lp12_init_81 (Or.inr ⟨_, rfl⟩) I e334 dX12_init_907 (fun H locs I => ?_)
  refine lv_aload_n S.1 S.2.1 dX12_init_910 rfl (lv_at hl 0 rfl) ?_
  refine lv_bipush (v := 64) S.1 S.2.1 dX12_init_911 (by decide) ?_
  obtain ⟨h335, e336, f⟩ := ob f
  refine o_newJ S (List.mem_cons_of_mem _ wT_1_6) I hAn (N := 64) e336 (by decide) (by decide) (Nat.le_of_ble_eq_true rfl) (Nat.le_of_ble_eq_true rfl) (Nat.le_of_ble_eq_true rfl) dX12_init_913 (fun H I => ?_)
  obtain ⟨h337, e338, f⟩ := ob f
  refine o_pRF S hin2 lp12_init_85 (Or.inr ⟨_, rfl⟩) I e338 dX12_init_915 (fun H locs I => ?_)
  refine lv_aload_n S.1 S.2.1 dX12_init_918 rfl (lv_at hl 0 rfl) ?_
  refine lv_bipush (v := 10) S.1 S.2.1 dX12_init_919 (by decide) ?_
  obtain ⟨h339, e340, f⟩ := ob f
  refine o_newI S (List.mem_cons_of_mem _ wT_3_21) I hAn (N := 10) e340 (by decide) (by decide) (Nat.le_of_ble_eq_true rfl) (Nat.le_of_ble_eq_true rfl) (Nat.le_of_ble_eq_true rfl) dX12_init_921 (fun H I => ?_)
  obtain ⟨h341, e342, f⟩ := ob f
  refine o_pRF S hin2 lp12_init_88 (Or.inr ⟨_, rfl⟩) I e342 dX12_init_923 (fun H locs I => ?_)
  refine lv_aload_n S.1 S.2.1 dX12_init_926 rfl (lv_at hl 0 rfl) ?_
  refine lv_bipush (v := 10) S.1 S.2.1 dX12_init_927 (by decide) ?_
  obtain ⟨h343, e344, f⟩ := ob f
  refine o_newI S (List.mem_cons_of_mem _ wT_3_21) I hAn (N := 10) e344 (by decide) (by decide) (Nat.le_of_ble_eq_true rfl) (Nat.le_of_ble_eq_true rfl) (Nat.le_of_ble_eq_true rfl) dX12_init_929 (fun H I => ?_)
  obtain ⟨h345, e346, f⟩ := ob f
  refine o_pRF S hin2 lp12_init_91 (Or.inr ⟨_, rfl⟩) I e346 dX12_init_931 (fun H locs I => ?_)
  refine lv_aload_n S.1 S.2.1 dX12_init_934 rfl (lv_at hl 0 rfl) ?_
  refine lv_bipush (v := 10) S.1 S.2.1 dX12_init_935 (by decide) ?_
  obtain ⟨h347, e348, f⟩ := ob f
  refine o_newI S (List.mem_cons_of_mem _ wT_3_21) I hAn (N := 10) e348 (by decide) (by decide) (Nat.le_of_ble_eq_true rfl) (Nat.le_of_ble_eq_true rfl) (Nat.le_of_ble_eq_true rfl) dX12_init_937 (fun H I => ?_)
  obtain ⟨h349, e350, f⟩ := ob f
  refine o_pRF S hin2 lp12_init_94 (Or.inr ⟨_, rfl⟩) I e350 dX12_init_939 (fun H locs I => ?_)
  refine lv_aload_n S.1 S.2.1 dX12_init_942 rfl (lv_at hl 0 rfl) ?_
  refine lv_bipush (v := 10) S.1 S.2.1 dX12_init_943 (by decide) ?_
  obtain ⟨h351, e352, f⟩ := ob f
  refine o_newI S (List.mem_cons_of_mem _ wT_3_21) I hAn (N := 10) e352 (by decide) (by decide) (Nat.le_of_ble_eq_true rfl) (Nat.le_of_ble_eq_true rfl) (Nat.le_of_ble_eq_true rfl) dX12_init_945 (fun H I => ?_)
  obtain ⟨h353, e354, f⟩ := ob f
  refine o_pRF S hin2 lp12_init_97 (Or.inr ⟨_, rfl⟩) I e354 dX12_init_947 (fun H locs I => ?_)
  refine lv_aload_n S.1 S.2.1 dX12_init_950 rfl (lv_at hl 0 rfl) ?_
  refine lv_iconst (v := 5) S.1 S.2.1 dX12_init_951 (by decide) ?_
  obtain ⟨h355, e356, f⟩ := ob f
  refine o_newI S (List.mem_cons_of_mem _ wT_3_21) I hAn (N := 5) e356 (by decide) (by decide) (Nat.le_of_ble_eq_true rfl) (Nat.le_of_ble_eq_true rfl) (Nat.le_of_ble_eq_true rfl) dX12_init_952 (fun H I => ?_)
  obtain ⟨h357, e358, f⟩ := ob f
  refine o_pRF S hin2 lp12_init_100 (Or.inr ⟨_, rfl⟩) I e358 dX12_init_954 (fun H locs I => ?_)
  refine lv_aload_n S.1 S.2.1 dX12_init_957 rfl (lv_at hl 0 rfl) ?_
  refine lv_bipush (v := 56) S.1 S.2.1 dX12_init_958 (by decide) ?_
  obtain ⟨h359, e360, f⟩ := ob f
  refine o_newI S (List.mem_cons_of_mem _ wT_3_21) I hAn (N := 56) e360 (by decide) (by decide) (Nat.le_of_ble_eq_true rfl) (Nat.le_of_ble_eq_true rfl) (Nat.le_of_ble_eq_true rfl) dX12_init_960 (fun H I => ?_)
  obtain ⟨h361, e362, f⟩ := ob f
  refine o_pRF S hin2 lp12_init_103 (Or.inr ⟨_, rfl⟩) I e362 dX12_init_962 (fun H locs I => ?_)
  refine lv_aload_n S.1 S.2.1 dX12_init_965 rfl (lv_at hl 0 rfl) ?_
  refine lv_iconst (v := 2) S.1 S.2.1 dX12_init_966 (by decide) ?_
  obtain ⟨h363, e364, f⟩ := ob f
  refine o_newI S (List.mem_cons_of_mem _ wT_3_21) I hAn (N := 2) e364 (by decide) (by decide) (Nat.le_of_ble_eq_true rfl) (Nat.le_of_ble_eq_true rfl) (Nat.le_of_ble_eq_true rfl) dX12_init_967 (fun H I => ?_)
  obtain ⟨h365, e366, f⟩ := ob f
  refine o_pRF S hin2 lp12_init_106 (Or.inr ⟨_, rfl⟩) I e366 dX12_init_969 (fun H locs I => ?_)
  refine lv_aload_n S.1 S.2.1 dX12_init_972 rfl (lv_at hl 0 rfl) ?_
  refine lv_iconst (v := 2) S.1 S.2.1 dX12_init_973 (by decide) ?_
  obtain ⟨h367, e368, f⟩ := ob f
  refine o_newI S (List.mem_cons_of_mem _ wT_3_21) I hAn (N := 2) e368 (by decide) (by decide) (Nat.le_of_ble_eq_true rfl) (Nat.le_of_ble_eq_true rfl) (Nat.le_of_ble_eq_true rfl) dX12_init_974 (fun H I => ?_)
  obtain ⟨h369, e370, f⟩ := ob f
  refine o_pRF S hin2 lp12_init_109 (Or.inr ⟨_, rfl⟩) I e370 dX12_init_976 (fun H locs I => ?_)
  refine lv_aload_n S.1 S.2.1 dX12_init_979 rfl (lv_at hl 0 rfl) ?_
  refine lv_iconst (v := 2) S.1 S.2.1 dX12_init_980 (by decide) ?_
  obtain ⟨h371, e372, f⟩ := ob f
  refine o_newI S (List.mem_cons_of_mem _ wT_3_21) I hAn (N := 2) e372 (by decide) (by decide) (Nat.le_of_ble_eq_true rfl) (Nat.le_of_ble_eq_true rfl) (Nat.le_of_ble_eq_true rfl) dX12_init_981 (fun H I => ?_)
  obtain ⟨h373, e374, f⟩ := ob f
  refine o_pRF S hin2 lp12_init_112 (Or.inr ⟨_, rfl⟩) I e374 dX12_init_983 (fun H locs I => ?_)
  refine lv_aload_n S.1 S.2.1 dX12_init_986 rfl (lv_at hl 0 rfl) ?_
  refine lv_iconst (v := (-1)) S.1 S.2.1 dX12_init_987 (by decide) ?_
  obtain ⟨h375, e376, f⟩ := ob f
  refine o_pI S lp12_init_115 I e376 dX12_init_988 (fun H locs I => ?_)
  refine lv_aload_n S.1 S.2.1 dX12_init_991 rfl (lv_at hl 0 rfl) ?_
  refine lv_iconst (v := 5) S.1 S.2.1 dX12_init_992 (by decide) ?_
  obtain ⟨h377, e378, f⟩ := ob f
  refine o_newI S (List.mem_cons_of_mem _ wT_3_21) I hAn (N := 5) e378 (by decide) (by decide) (Nat.le_of_ble_eq_true rfl) (Nat.le_of_ble_eq_true rfl) (Nat.le_of_ble_eq_true rfl) dX12_init_993 (fun H I => ?_)
  obtain ⟨h379, e380, f⟩ := ob f
  refine o_pRF S hin2 lp12_init_118 (Or.inr ⟨_, rfl⟩) I e380 dX12_init_995 (fun H locs I => ?_)
  refine lv_aload_n S.1 S.2.1 dX12_init_998 rfl (lv_at hl 0 rfl) ?_
  refine lv_bipush (v := 25) S.1 S.2.1 dX12_init_999 (by decide) ?_
  obtain ⟨h381, e382, f⟩ := ob f
  refine o_newI S (List.mem_cons_of_mem _ wT_3_21) I hAn (N := 25) e382 (by decide) (by decide) (Nat.le_of_ble_eq_true rfl) (Nat.le_of_ble_eq_true rfl) (Nat.le_of_ble_eq_true rfl) dX12_init_1001 (fun H I => ?_)
  obtain ⟨h383, e384, f⟩ := ob f
  refine o_pRF S hin2 lp12_init_121 (Or.inr ⟨_, rfl⟩) I e384 dX12_init_1003 (fun H locs I => ?_)
  refine lv_aload_n S.1 S.2.1 dX12_init_1006 rfl (lv_at hl 0 rfl) ?_
  refine lv_bipush (v := 25) S.1 S.2.1 dX12_init_1007 (by decide) ?_
  obtain ⟨h385, e386, f⟩ := ob f
  refine o_newI S (List.mem_cons_of_mem _ wT_3_21) I hAn (N := 25) e386 (by decide) (by decide) (Nat.le_of_ble_eq_true rfl) (Nat.le_of_ble_eq_true rfl) (Nat.le_of_ble_eq_true rfl) dX12_init_1009 (fun H I => ?_)
  obtain ⟨h387, e388, f⟩ := ob f
  refine o_pRF S hin2 lp12_init_124 (Or.inr ⟨_, rfl⟩) I e388 dX12_init_1011 (fun H locs I => ?_)
  refine lv_aload_n S.1 S.2.1 dX12_init_1014 rfl (lv_at hl 0 rfl) ?_
  refine lv_bipush (v := 29) S.1 S.2.1 dX12_init_1015 (by decide) ?_
  obtain ⟨h389, e390, f⟩ := ob f
  refine o_newI S (List.mem_cons_of_mem _ wT_3_21) I hAn (N := 29) e390 (by decide) (by decide) (Nat.le_of_ble_eq_true rfl) (Nat.le_of_ble_eq_true rfl) (Nat.le_of_ble_eq_true rfl) dX12_init_1017 (fun H I => ?_)
  obtain ⟨h391, e392, f⟩ := ob f
  refine o_pRF S hin2 lp12_init_127 (Or.inr ⟨_, rfl⟩) I e392 dX12_init_1019 (fun H locs I => ?_)
  refine lv_aload_n S.1 S.2.1 dX12_init_1022 rfl (lv_at hl 0 rfl) ?_
  refine lv_bipush (v := 28) S.1 S.2.1 dX12_init_1023 (by decide) ?_
  obtain ⟨h393, e394, f⟩ := ob f
  refine o_newI S (List.mem_cons_of_mem _ wT_3_21) I hAn (N := 28) e394 (by decide) (by decide) (Nat.le_of_ble_eq_true rfl) (Nat.le_of_ble_eq_true rfl) (Nat.le_of_ble_eq_true rfl) dX12_init_1025 (fun H I => ?_)
  obtain ⟨h395, e396, f⟩ := ob f
  refine o_pRF S hin2 lp12_init_130 (Or.inr ⟨_, rfl⟩) I e396 dX12_init_1027 (fun H locs I => ?_)
  refine lv_aload_n S.1 S.2.1 dX12_init_1030 rfl (lv_at hl 0 rfl) ?_
  refine lv_iconst (v := (-1)) S.1 S.2.1 dX12_init_1031 (by decide) ?_
  obtain ⟨h397, e398, f⟩ := ob f
  refine o_pI S lp12_init_133 I e398 dX12_init_1032 (fun H locs I => ?_)
  refine lv_aload_n S.1 S.2.1 dX12_init_1035 rfl (lv_at hl 0 rfl) ?_
  refine lv_bipush (v := 72) S.1 S.2.1 dX12_init_1036 (by decide) ?_
  obtain ⟨h399, e400, f⟩ := ob f
  refine o_newI S (List.mem_cons_of_mem _ wT_3_21) I hAn (N := 72) e400 (by decide) (by decide) (Nat.le_of_ble_eq_true rfl) (Nat.le_of_ble_eq_true rfl) (Nat.le_of_ble_eq_true rfl) dX12_init_1038 (fun H I => ?_)
  obtain ⟨h401, e402, f⟩ := ob f
  refine o_pRF S hin2 lp12_init_136 (Or.inr ⟨_, rfl⟩) I e402 dX12_init_1040 (fun H locs I => ?_)
  refine lv_aload_n S.1 S.2.1 dX12_init_1043 rfl (lv_at hl 0 rfl) ?_
  refine lv_bipush (v := 24) S.1 S.2.1 dX12_init_1044 (by decide) ?_
  obtain ⟨h403, e404, f⟩ := ob f
  refine o_newZ S (List.mem_cons_of_mem _ wT_8_19) I hAn (N := 24) e404 (by decide) (by decide) (Nat.le_of_ble_eq_true rfl) (Nat.le_of_ble_eq_true rfl) (Nat.le_of_ble_eq_true rfl) dX12_init_1046 (fun H I => ?_)
  obtain ⟨h405, e406, f⟩ := ob f
  refine o_pRF S hin2 lp12_init_139 (Or.inr ⟨_, rfl⟩) I e406 dX12_init_1048 (fun H locs I => ?_)
  refine lv_aload_n S.1 S.2.1 dX12_init_1051 rfl (lv_at hl 0 rfl) ?_
  refine lv_sipush (v := 220) S.1 S.2.1 dX12_init_1052 (by decide) ?_
  obtain ⟨h407, e408, f⟩ := ob f
  refine o_newI S (List.mem_cons_of_mem _ wT_3_21) I hAn (N := 220) e408 (by decide) (by decide) (Nat.le_of_ble_eq_true rfl) (Nat.le_of_ble_eq_true rfl) (Nat.le_of_ble_eq_true rfl) dX12_init_1055 (fun H I => ?_)
  obtain ⟨h409, e410, f⟩ := ob f
  refine o_pRF S hin2 lp12_init_142 (Or.inr ⟨_, rfl⟩) I e410 dX12_init_1057 (fun H locs I => ?_)
  refine lv_aload_n S.1 S.2.1 dX12_init_1060 rfl (lv_at hl 0 rfl) ?_
  refine lv_bipush (v := 53) S.1 S.2.1 dX12_init_1061 (by decide) ?_
  obtain ⟨h411, e412, f⟩ := ob f
  refine o_newI S (List.mem_cons_of_mem _ wT_3_21) I hAn (N := 53) e412 (by decide) (by decide) (Nat.le_of_ble_eq_true rfl) (Nat.le_of_ble_eq_true rfl) (Nat.le_of_ble_eq_true rfl) dX12_init_1063 (fun H I => ?_)
  obtain ⟨h413, e414, f⟩ := ob f
  refine o_pRF S hin2 lp12_init_145 (Or.inr ⟨_, rfl⟩) I e414 dX12_init_1065 (fun H locs I => ?_)
  refine lv_aload_n S.1 S.2.1 dX12_init_1068 rfl (lv_at hl 0 rfl) ?_
  obtain ⟨o415, e416, f⟩ := ob f
  refine o_Vv S (As := []) (rest := []) (ci := 12) (M12_plain l D cy b A true e416) gX12_init_X12_plain rfl rfl rfl cd12_plain ⟨Nat.le_of_ble_eq_true rfl, Nat.le_of_ble_eq_true rfl⟩ I (gd e416).1 clX12 rfl rfl hl.1 rfl (Nat.le_of_ble_eq_true rfl) dX12_init_1069 ⟨Nat.le_of_ble_eq_true rfl, Nat.le_of_ble_eq_true rfl⟩ (fun H locs I => ?_)
  refine lv_aload_n S.1 S.2.1 dX12_init_1072 rfl (lv_at hl 0 rfl) ?_
  obtain ⟨o417, e418, f⟩ := ob f
  refine o_Vv S (As := []) (rest := []) (ci := 12) (M12_keepText l D cy b A true e418) gX12_init_X12_keepText rfl rfl rfl cd12_keepText ⟨Nat.le_of_ble_eq_true rfl, Nat.le_of_ble_eq_true rfl⟩ I (gd e418).1 clX12 rfl rfl hl.1 rfl (Nat.le_of_ble_eq_true rfl) dX12_init_1073 ⟨Nat.le_of_ble_eq_true rfl, Nat.le_of_ble_eq_true rfl⟩ (fun H locs I => ?_)
  exact o_vret S hr hlo I f dX12_init_1076
theorem M12_init (l : Launch) (D : va_G) (cy : Nat → ClassId) (b : Nat) (A : Nat → Prop) (hAn : ∀ q, b ≤ q → A q) {h : PH} {a0 : Nat} {out : PH} (f : F12_init h a0 = some out) : Met l yX12_init vX12_init ({ frames := 2, cells := 42, slots := 2327, locals := 43 } : Room) (va_Pc [.ref (b + a0)] (ph_B D cy b A true h)) (va_Qv (fun (u : PH) => u = out) (ph_B D cy b A true) A) 42 2327 A :=
  o_met (by decide) rfl (Nat.le_of_ble_eq_true rfl) rfl (fun p e s m below meth c S hr hlo hnm ls hl I => T12_init_0 S hr hlo hnm hAn ((gd f).2) I (lv_sub hl [0] rfl))
end
/-! What both sides say to each call but look, over the pure heaps. -/
def LRl (hx hm : PH) : Prop := OKX hx ∧ OKM hm ∧ Rel (rd hx) (rd hm)
theorem r3_le (v : Int32) : v.toInt ≤ 2147483647 := by have := (r3_of v).2; omega
theorem p_feed {hx hm : PH} (L : LRl hx hm) (x1 : Int32) (x2 : Int32) (x3 : Int32) (x4 : Int32) (x5 : Int32) : ∃ (a : Int32) (hx' hm' : PH), F11_feed hx 0 x1 x2 x3 x4 x5 = some (a, hx') ∧ F12_feed hm 0 x1 x2 x3 x4 x5 = some (a, hm') ∧ LRl hx' hm' := by
  obtain ⟨a, m', v', e1, e2, R⟩ := a_feed L.2.2 x1.toInt x2.toInt x3.toInt x4.toInt x5.toInt
  obtain ⟨hx', f1, o1, r1, _⟩ := S11_feed L.1 (z3_of x1) (r3_of x1) (z3_of x2) (r3_of x2) (z3_of x3) (r3_of x3) (z3_of x4) (r3_of x4) (z3_of x5) (r3_of x5) _ e1
  obtain ⟨hm', f2, o2, r2, _⟩ := S12_feed L.2.1 (z3_of x1) (r3_of x1) (z3_of x2) (r3_of x2) (z3_of x3) (r3_of x3) (z3_of x4) (r3_of x4) (z3_of x5) (r3_of x5) _ e2
  exact ⟨_, hx', hm', f1, f2, o1, o2, by rw [r1, r2]; exact R⟩
theorem p_text {hx hm : PH} (L : LRl hx hm) (x1 : Int32) : ∃ (a : Int32) (hx' hm' : PH), F11_text hx 0 x1 = some (a, hx') ∧ F12_text hm 0 x1 = some (a, hm') ∧ LRl hx' hm' := by
  obtain ⟨a, m', v', e1, e2, R⟩ := a_text L.2.2 x1.toInt
  obtain ⟨hx', f1, o1, r1, _⟩ := S11_text L.1 (z3_of x1) (r3_of x1) _ e1
  obtain ⟨hm', f2, o2, r2, _⟩ := S12_text L.2.1 (z3_of x1) (r3_of x1) _ e2
  exact ⟨_, hx', hm', f1, f2, o1, o2, by rw [r1, r2]; exact R⟩
theorem p_fault {hx hm : PH} (L : LRl hx hm) (x1 : Int32) : ∃ (a : Int32) (hx' hm' : PH), F11_fault hx 0 x1 = some (a, hx') ∧ F12_fault hm 0 x1 = some (a, hm') ∧ LRl hx' hm' := by
  obtain ⟨a, m', v', e1, e2, R⟩ := a_fault L.2.2 x1.toInt
  obtain ⟨hx', f1, o1, r1, _⟩ := S11_fault L.1 (z3_of x1) (r3_of x1) _ e1
  obtain ⟨hm', f2, o2, r2, _⟩ := S12_fault L.2.1 (z3_of x1) (r3_of x1) _ e2
  exact ⟨_, hx', hm', f1, f2, o1, o2, by rw [r1, r2]; exact R⟩
theorem p_named {hx hm : PH} (L : LRl hx hm) (x1 : Int32) : ∃ (a : Int32) (hx' hm' : PH), F11_named hx 0 x1 = some (a, hx') ∧ F12_named hm 0 x1 = some (a, hm') ∧ LRl hx' hm' := by
  obtain ⟨a, m', v', e1, e2, R⟩ := a_named L.2.2 x1.toInt
  obtain ⟨hx', f1, o1, r1, _⟩ := S11_named L.1 (z3_of x1) (r3_of x1) _ e1
  obtain ⟨hm', f2, o2, r2, _⟩ := S12_named L.2.1 (z3_of x1) (r3_of x1) _ e2
  exact ⟨_, hx', hm', f1, f2, o1, o2, by rw [r1, r2]; exact R⟩
theorem p_wave {hx hm : PH} (L : LRl hx hm) (x1 : Int32) (x2 : Int32) : ∃ (a : Int32) (hx' hm' : PH), F11_wave hx 0 x1 x2 = some (a, hx') ∧ F12_wave hm 0 x1 x2 = some (a, hm') ∧ LRl hx' hm' := by
  obtain ⟨a, m', v', e1, e2, R⟩ := a_wave L.2.2 x1.toInt x2.toInt
  obtain ⟨hx', f1, o1, r1, _⟩ := S11_wave L.1 (z3_of x1) (r3_of x1) (z3_of x2) (r3_of x2) _ e1
  obtain ⟨hm', f2, o2, r2, _⟩ := S12_wave L.2.1 (z3_of x1) (r3_of x1) (z3_of x2) (r3_of x2) _ e2
  exact ⟨_, hx', hm', f1, f2, o1, o2, by rw [r1, r2]; exact R⟩
theorem p_peak {hx hm : PH} (L : LRl hx hm) (x1 : Int32) : ∃ (a : Int32) (hx' hm' : PH), F11_peak hx 0 x1 = some (a, hx') ∧ F12_peak hm 0 x1 = some (a, hm') ∧ LRl hx' hm' := by
  obtain ⟨a, m', v', e1, e2, R⟩ := a_peak L.2.2 x1.toInt
  obtain ⟨hx', f1, o1, r1, _⟩ := S11_peak L.1 (z3_of x1) (r3_of x1) _ e1
  obtain ⟨hm', f2, o2, r2, _⟩ := S12_peak L.2.1 (z3_of x1) (r3_of x1) _ e2
  exact ⟨_, hx', hm', f1, f2, o1, o2, by rw [r1, r2]; exact R⟩
theorem p_odds {hx hm : PH} (L : LRl hx hm) (x1 : Int32) (x2 : Int32) (x3 : Int32) : ∃ (a : Int32) (hx' hm' : PH), F11_odds hx 0 x1 x2 x3 = some (a, hx') ∧ F12_odds hm 0 x1 x2 x3 = some (a, hm') ∧ LRl hx' hm' := by
  obtain ⟨a, m', v', e1, e2, R⟩ := a_odds L.2.2 x1.toInt x2.toInt x3.toInt
  obtain ⟨hx', f1, o1, r1, _⟩ := S11_odds L.1 (z3_of x1) (r3_of x1) (z3_of x2) (r3_of x2) (z3_of x3) (r3_of x3) _ e1
  obtain ⟨hm', f2, o2, r2, _⟩ := S12_odds L.2.1 (z3_of x1) (r3_of x1) (z3_of x2) (r3_of x2) (z3_of x3) (r3_of x3) _ e2
  exact ⟨_, hx', hm', f1, f2, o1, o2, by rw [r1, r2]; exact R⟩
theorem p_law {hx hm : PH} (L : LRl hx hm) (x1 : Int32) (x2 : Int32) (x3 : Int32) : ∃ (a : Int64) (hx' hm' : PH), F11_law hx 0 x1 x2 x3 = some (a, hx') ∧ F12_law hm 0 x1 x2 x3 = some (a, hm') ∧ LRl hx' hm' := by
  obtain ⟨a, m', v', e1, e2, R⟩ := a_law L.2.2 x1.toInt x2.toInt x3.toInt
  obtain ⟨hx', f1, o1, r1, _⟩ := S11_law L.1 (z3_of x1) (r3_of x1) (z3_of x2) (r3_of x2) (z3_of x3) (r3_of x3) _ e1
  obtain ⟨hm', f2, o2, r2, _⟩ := S12_law L.2.1 (z3_of x1) (r3_of x1) (z3_of x2) (r3_of x2) (z3_of x3) (r3_of x3) _ e2
  exact ⟨_, hx', hm', f1, f2, o1, o2, by rw [r1, r2]; exact R⟩
theorem p_stroke {hx hm : PH} (L : LRl hx hm) (x1 : Int32) (x2 : Int32) : ∃ (a : Int32) (hx' hm' : PH), F11_stroke hx 0 x1 x2 = some (a, hx') ∧ F12_stroke hm 0 x1 x2 = some (a, hm') ∧ LRl hx' hm' := by
  obtain ⟨a, m', v', e1, e2, R⟩ := a_stroke L.2.2 x1.toInt x2.toInt
  obtain ⟨hx', f1, o1, r1, _⟩ := S11_stroke L.1 (z3_of x1) (r3_of x1) (z3_of x2) (r3_of x2) _ e1
  obtain ⟨hm', f2, o2, r2, _⟩ := S12_stroke L.2.1 (z3_of x1) (r3_of x1) (z3_of x2) (r3_of x2) _ e2
  exact ⟨_, hx', hm', f1, f2, o1, o2, by rw [r1, r2]; exact R⟩
theorem p_rule {hx hm : PH} (L : LRl hx hm) (x1 : Int32) : ∃ (a : Int32) (hx' hm' : PH), F11_rule hx 0 x1 = some (a, hx') ∧ F12_rule hm 0 x1 = some (a, hm') ∧ LRl hx' hm' := by
  obtain ⟨a, m', v', e1, e2, R⟩ := a_rule L.2.2 x1.toInt
  obtain ⟨hx', f1, o1, r1, _⟩ := S11_rule L.1 (z3_of x1) (r3_of x1) _ e1
  obtain ⟨hm', f2, o2, r2, _⟩ := S12_rule L.2.1 (z3_of x1) (r3_of x1) _ e2
  exact ⟨_, hx', hm', f1, f2, o1, o2, by rw [r1, r2]; exact R⟩
theorem p_minutes {hx hm : PH} (L : LRl hx hm) (x1 : Int32) : ∃ (a : Int32) (hx' hm' : PH), F11_minutes hx 0 x1 = some (a, hx') ∧ F12_minutes hm 0 x1 = some (a, hm') ∧ LRl hx' hm' := by
  obtain ⟨a, m', v', e1, e2, R⟩ := a_minutes L.2.2 x1.toInt
  obtain ⟨hx', f1, o1, r1, _⟩ := S11_minutes L.1 (z3_of x1) (r3_of x1) _ e1
  obtain ⟨hm', f2, o2, r2, _⟩ := S12_minutes L.2.1 (z3_of x1) (r3_of x1) _ e2
  exact ⟨_, hx', hm', f1, f2, o1, o2, by rw [r1, r2]; exact R⟩
theorem p_order {hx hm : PH} (L : LRl hx hm) (x1 : Int32) (x2 : Int32) : ∃ (a : Int32) (hx' hm' : PH), F11_order hx 0 x1 x2 = some (a, hx') ∧ F12_order hm 0 x1 x2 = some (a, hm') ∧ LRl hx' hm' := by
  obtain ⟨a, m', v', e1, e2, R⟩ := a_order L.2.2 x1.toInt x2.toInt
  obtain ⟨hx', f1, o1, r1, _⟩ := S11_order L.1 (z3_of x1) (r3_of x1) (z3_of x2) (r3_of x2) _ e1
  obtain ⟨hm', f2, o2, r2, _⟩ := S12_order L.2.1 (z3_of x1) (r3_of x1) (z3_of x2) (r3_of x2) _ e2
  exact ⟨_, hx', hm', f1, f2, o1, o2, by rw [r1, r2]; exact R⟩
theorem p_deeper {hx hm : PH} (L : LRl hx hm) (x1 : Int32) (x2 : Int32) : ∃ (a : Int32) (hx' hm' : PH), F11_deeper hx 0 x1 x2 = some (a, hx') ∧ F12_deeper hm 0 x1 x2 = some (a, hm') ∧ LRl hx' hm' := by
  obtain ⟨a, m', v', e1, e2, R⟩ := a_deeper L.2.2 x1.toInt x2.toInt
  obtain ⟨hx', f1, o1, r1, _⟩ := S11_deeper L.1 (z3_of x1) (r3_of x1) (z3_of x2) (r3_of x2) _ e1
  obtain ⟨hm', f2, o2, r2, _⟩ := S12_deeper L.2.1 (z3_of x1) (r3_of x1) (z3_of x2) (r3_of x2) _ e2
  exact ⟨_, hx', hm', f1, f2, o1, o2, by rw [r1, r2]; exact R⟩
theorem p_seat {hx hm : PH} (L : LRl hx hm) (x1 : Int32) (x2 : Int32) : ∃ (a : Int32) (hx' hm' : PH), F11_seat hx 0 x1 x2 = some (a, hx') ∧ F12_seat hm 0 x1 x2 = some (a, hm') ∧ LRl hx' hm' := by
  obtain ⟨a, m', v', e1, e2, R⟩ := a_seat L.2.2 x1.toInt x2.toInt
  obtain ⟨hx', f1, o1, r1, _⟩ := S11_seat L.1 (z3_of x1) (r3_of x1) (z3_of x2) (r3_of x2) _ e1
  obtain ⟨hm', f2, o2, r2, _⟩ := S12_seat L.2.1 (z3_of x1) (r3_of x1) (z3_of x2) (r3_of x2) _ e2
  exact ⟨_, hx', hm', f1, f2, o1, o2, by rw [r1, r2]; exact R⟩
theorem p_best {hx hm : PH} (L : LRl hx hm) (x1 : Int32) : ∃ (a : Int32) (hx' hm' : PH), F11_best hx 0 x1 = some (a, hx') ∧ F12_best hm 0 x1 = some (a, hm') ∧ LRl hx' hm' := by
  obtain ⟨a, m', v', e1, e2, R⟩ := a_best L.2.2 x1.toInt
  obtain ⟨hx', f1, o1, r1, _⟩ := S11_best L.1 (z3_of x1) (r3_of x1) _ e1
  obtain ⟨hm', f2, o2, r2, _⟩ := S12_best L.2.1 (z3_of x1) (r3_of x1) _ e2
  exact ⟨_, hx', hm', f1, f2, o1, o2, by rw [r1, r2]; exact R⟩
theorem p_rests {hx hm : PH} (L : LRl hx hm) (x1 : Int32) (x2 : Int32) : ∃ (a : Int32) (hx' hm' : PH), F11_rests hx 0 x1 x2 = some (a, hx') ∧ F12_rests hm 0 x1 x2 = some (a, hm') ∧ LRl hx' hm' := by
  obtain ⟨a, m', v', e1, e2, R⟩ := a_rests L.2.2 x1.toInt x2.toInt
  obtain ⟨hx', f1, o1, r1, _⟩ := S11_rests L.1 (z3_of x1) (r3_of x1) (z3_of x2) (r3_of x2) _ e1
  obtain ⟨hm', f2, o2, r2, _⟩ := S12_rests L.2.1 (z3_of x1) (r3_of x1) (z3_of x2) (r3_of x2) _ e2
  exact ⟨_, hx', hm', f1, f2, o1, o2, by rw [r1, r2]; exact R⟩
theorem p_rest {hx hm : PH} (L : LRl hx hm) (x1 : Int32) (x2 : Int32) (x3 : Int32) : ∃ (a : Int32) (hx' hm' : PH), F11_rest hx 0 x1 x2 x3 = some (a, hx') ∧ F12_rest hm 0 x1 x2 x3 = some (a, hm') ∧ LRl hx' hm' := by
  obtain ⟨a, m', v', e1, e2, R⟩ := a_rest L.2.2 x1.toInt x2.toInt x3.toInt (r3_le x3)
  obtain ⟨hx', f1, o1, r1, _⟩ := S11_rest L.1 (z3_of x1) (r3_of x1) (z3_of x2) (r3_of x2) (z3_of x3) (r3_of x3) _ e1
  obtain ⟨hm', f2, o2, r2, _⟩ := S12_rest L.2.1 (z3_of x1) (r3_of x1) (z3_of x2) (r3_of x2) (z3_of x3) (r3_of x3) _ e2
  exact ⟨_, hx', hm', f1, f2, o1, o2, by rw [r1, r2]; exact R⟩
theorem p_rank {hx hm : PH} (L : LRl hx hm) (x1 : Int32) (x2 : Int32) : ∃ (a : Int32) (hx' hm' : PH), F11_rank hx 0 x1 x2 = some (a, hx') ∧ F12_rank_ hm 0 x1 x2 = some (a, hm') ∧ LRl hx' hm' := by
  obtain ⟨a, m', v', e1, e2, R⟩ := a_rank L.2.2 x1.toInt x2.toInt
  obtain ⟨hx', f1, o1, r1, _⟩ := S11_rank L.1 (z3_of x1) (r3_of x1) (z3_of x2) (r3_of x2) _ e1
  obtain ⟨hm', f2, o2, r2, _⟩ := S12_rank_ L.2.1 (z3_of x1) (r3_of x1) (z3_of x2) (r3_of x2) _ e2
  exact ⟨_, hx', hm', f1, f2, o1, o2, by rw [r1, r2]; exact R⟩
theorem p_plan {hx hm : PH} (L : LRl hx hm) (x1 : Int32) : ∃ (a : Int32) (hx' hm' : PH), F11_plan hx 0 x1 = some (a, hx') ∧ F12_plan hm 0 x1 = some (a, hm') ∧ LRl hx' hm' := by
  obtain ⟨a, m', v', e1, e2, R⟩ := a_plan L.2.2 x1.toInt
  obtain ⟨hx', f1, o1, r1, _⟩ := S11_plan L.1 (z3_of x1) (r3_of x1) _ e1
  obtain ⟨hm', f2, o2, r2, _⟩ := S12_plan L.2.1 (z3_of x1) (r3_of x1) _ e2
  exact ⟨_, hx', hm', f1, f2, o1, o2, by rw [r1, r2]; exact R⟩
theorem p_planned {hx hm : PH} (L : LRl hx hm) (x1 : Int32) (x2 : Int32) : ∃ (a : Int32) (hx' hm' : PH), F11_planned hx 0 x1 x2 = some (a, hx') ∧ F12_planned hm 0 x1 x2 = some (a, hm') ∧ LRl hx' hm' := by
  obtain ⟨a, m', v', e1, e2, R⟩ := a_planned L.2.2 x1.toInt x2.toInt (r3_le x2)
  obtain ⟨hx', f1, o1, r1, _⟩ := S11_planned L.1 (z3_of x1) (r3_of x1) (z3_of x2) (r3_of x2) _ e1
  obtain ⟨hm', f2, o2, r2, _⟩ := S12_planned L.2.1 (z3_of x1) (r3_of x1) (z3_of x2) (r3_of x2) _ e2
  exact ⟨_, hx', hm', f1, f2, o1, o2, by rw [r1, r2]; exact R⟩
theorem p_go {hx hm : PH} (L : LRl hx hm) (x1 : Int32) (x2 : Int32) (x3 : Int32) : ∃ (a b : Int32) (hx' hm' : PH), F11_go hx 0 x1 x2 x3 = some (a, hx') ∧ F12_go hm 0 x1 x2 x3 = some (b, hm') ∧ LRl hx' hm' := by
  obtain ⟨a, b, m', v', e1, e2, R⟩ := t_go L.2.2 x1.toInt x2.toInt x3.toInt
  obtain ⟨hx', f1, o1, r1, _⟩ := S11_go L.1 (z3_of x1) (r3_of x1) (z3_of x2) (r3_of x2) (z3_of x3) (r3_of x3) _ e1
  obtain ⟨hm', f2, o2, r2, _⟩ := S12_go L.2.1 (z3_of x1) (r3_of x1) (z3_of x2) (r3_of x2) (z3_of x3) (r3_of x3) _ e2
  exact ⟨_, _, hx', hm', f1, f2, o1, o2, by rw [r1, r2]; exact R⟩
theorem p_give {hx hm : PH} (L : LRl hx hm) (x1 : Int32) (x2 : Int32) (x3 : Int32) : ∃ (a : Int32) (hx' hm' : PH), F11_give hx 0 x1 x2 x3 = some (a, hx') ∧ F12_give hm 0 x1 x2 x3 = some (a, hm') ∧ LRl hx' hm' := by
  obtain ⟨a, m', v', e1, e2, R⟩ := a_give L.2.2 x1.toInt x2.toInt x3.toInt
  obtain ⟨hx', f1, o1, r1, _⟩ := S11_give L.1 (z3_of x1) (r3_of x1) (z3_of x2) (r3_of x2) (z3_of x3) (r3_of x3) _ e1
  obtain ⟨hm', f2, o2, r2, _⟩ := S12_give L.2.1 (z3_of x1) (r3_of x1) (z3_of x2) (r3_of x2) (z3_of x3) (r3_of x3) _ e2
  exact ⟨_, hx', hm', f1, f2, o1, o2, by rw [r1, r2]; exact R⟩
theorem p_table {hx hm : PH} (L : LRl hx hm) (x1 : Int32) (x2 : Int32) (x3 : Int32) : ∃ (a : Int32) (hx' hm' : PH), F11_table hx 0 x1 x2 x3 = some (a, hx') ∧ F12_table hm 0 x1 x2 x3 = some (a, hm') ∧ LRl hx' hm' := by
  obtain ⟨a, m', v', e1, e2, R⟩ := a_table L.2.2 x1.toInt x2.toInt x3.toInt (r3_le x2)
  obtain ⟨hx', f1, o1, r1, _⟩ := S11_table L.1 (z3_of x1) (r3_of x1) (z3_of x2) (r3_of x2) (z3_of x3) (r3_of x3) _ e1
  obtain ⟨hm', f2, o2, r2, _⟩ := S12_table L.2.1 (z3_of x1) (r3_of x1) (z3_of x2) (r3_of x2) (z3_of x3) (r3_of x3) _ e2
  exact ⟨_, hx', hm', f1, f2, o1, o2, by rw [r1, r2]; exact R⟩
theorem p_fairest {hx hm : PH} (L : LRl hx hm) (x1 : Int32) : ∃ (a : Int32) (hx' hm' : PH), F11_fairest hx 0 x1 = some (a, hx') ∧ F12_fairest hm 0 x1 = some (a, hm') ∧ LRl hx' hm' := by
  obtain ⟨a, m', v', e1, e2, R⟩ := a_fairest L.2.2 x1.toInt (r3_le x1)
  obtain ⟨hx', f1, o1, r1, _⟩ := S11_fairest L.1 (z3_of x1) (r3_of x1) _ e1
  obtain ⟨hm', f2, o2, r2, _⟩ := S12_fairest L.2.1 (z3_of x1) (r3_of x1) _ e2
  exact ⟨_, hx', hm', f1, f2, o1, o2, by rw [r1, r2]; exact R⟩
theorem p_over {hx hm : PH} (L : LRl hx hm) (x1 : Int32) : ∃ (a : Int32) (hx' hm' : PH), F11_over hx 0 x1 = some (a, hx') ∧ F12_over hm 0 x1 = some (a, hm') ∧ LRl hx' hm' := by
  obtain ⟨a, m', v', e1, e2, R⟩ := a_over L.2.2 x1.toInt
  obtain ⟨hx', f1, o1, r1, _⟩ := S11_over L.1 (z3_of x1) (r3_of x1) _ e1
  obtain ⟨hm', f2, o2, r2, _⟩ := S12_over L.2.1 (z3_of x1) (r3_of x1) _ e2
  exact ⟨_, hx', hm', f1, f2, o1, o2, by rw [r1, r2]; exact R⟩
theorem p_next {hx hm : PH} (L : LRl hx hm)  : ∃ (a : Int32) (hx' hm' : PH), F11_next hx 0 = some (a, hx') ∧ F12_next hm 0 = some (a, hm') ∧ LRl hx' hm' := by
  obtain ⟨a, m', v', e1, e2, R⟩ := a_next L.2.2 
  obtain ⟨hx', f1, o1, r1, _⟩ := S11_next L.1  _ e1
  obtain ⟨hm', f2, o2, r2, _⟩ := S12_next L.2.1  _ e2
  exact ⟨_, hx', hm', f1, f2, o1, o2, by rw [r1, r2]; exact R⟩
theorem p_gaps {hx hm : PH} (L : LRl hx hm) (x1 : Int32) (x2 : Int32) : ∃ (a : Int32) (hx' hm' : PH), F11_gaps hx 0 x1 x2 = some (a, hx') ∧ F12_gaps hm 0 x1 x2 = some (a, hm') ∧ LRl hx' hm' := by
  obtain ⟨a, m', v', e1, e2, R⟩ := a_gaps L.2.2 x1.toInt x2.toInt
  obtain ⟨hx', f1, o1, r1, _⟩ := S11_gaps L.1 (z3_of x1) (r3_of x1) (z3_of x2) (r3_of x2) _ e1
  obtain ⟨hm', f2, o2, r2, _⟩ := S12_gaps L.2.1 (z3_of x1) (r3_of x1) (z3_of x2) (r3_of x2) _ e2
  exact ⟨_, hx', hm', f1, f2, o1, o2, by rw [r1, r2]; exact R⟩
theorem p_shares {hx hm : PH} (L : LRl hx hm) (x1 : Int32) : ∃ (a : Int32) (hx' hm' : PH), F11_shares hx 0 x1 = some (a, hx') ∧ F12_shares hm 0 x1 = some (a, hm') ∧ LRl hx' hm' := by
  obtain ⟨a, m', v', e1, e2, R⟩ := a_shares L.2.2 x1.toInt
  obtain ⟨hx', f1, o1, r1, _⟩ := S11_shares L.1 (z3_of x1) (r3_of x1) _ e1
  obtain ⟨hm', f2, o2, r2, _⟩ := S12_shares L.2.1 (z3_of x1) (r3_of x1) _ e2
  exact ⟨_, hx', hm', f1, f2, o1, o2, by rw [r1, r2]; exact R⟩
theorem p_note {hx hm : PH} (L : LRl hx hm) (x1 : Int32) (x2 : Int32) (x3 : Int32) : ∃ (a : Int32) (hx' hm' : PH), F11_note hx 0 x1 x2 x3 = some (a, hx') ∧ F12_note hm 0 x1 x2 x3 = some (a, hm') ∧ LRl hx' hm' := by
  obtain ⟨a, m', v', e1, e2, R⟩ := a_note L.2.2 x1.toInt x2.toInt x3.toInt
  obtain ⟨hx', f1, o1, r1, _⟩ := S11_note L.1 (z3_of x1) (r3_of x1) (z3_of x2) (r3_of x2) (z3_of x3) (r3_of x3) _ e1
  obtain ⟨hm', f2, o2, r2, _⟩ := S12_note L.2.1 (z3_of x1) (r3_of x1) (z3_of x2) (r3_of x2) (z3_of x3) (r3_of x3) _ e2
  exact ⟨_, hx', hm', f1, f2, o1, o2, by rw [r1, r2]; exact R⟩
theorem p_strike {hx hm : PH} (L : LRl hx hm) (x1 : Int32) : ∃ (a : Int32) (hx' hm' : PH), F11_strike hx 0 x1 = some (a, hx') ∧ F12_strike hm 0 x1 = some (a, hm') ∧ LRl hx' hm' := by
  obtain ⟨a, m', v', e1, e2, R⟩ := a_strike L.2.2 x1.toInt
  obtain ⟨hx', f1, o1, r1, _⟩ := S11_strike L.1 (z3_of x1) (r3_of x1) _ e1
  obtain ⟨hm', f2, o2, r2, _⟩ := S12_strike L.2.1 (z3_of x1) (r3_of x1) _ e2
  exact ⟨_, hx', hm', f1, f2, o1, o2, by rw [r1, r2]; exact R⟩
theorem p_known {hx hm : PH} (L : LRl hx hm) (x1 : Int32) : ∃ (a : Int32) (hx' hm' : PH), F11_known hx 0 x1 = some (a, hx') ∧ F12_known hm 0 x1 = some (a, hm') ∧ LRl hx' hm' := by
  obtain ⟨a, m', v', e1, e2, R⟩ := a_known L.2.2 x1.toInt
  obtain ⟨hx', f1, o1, r1, _⟩ := S11_known L.1 (z3_of x1) (r3_of x1) _ e1
  obtain ⟨hm', f2, o2, r2, _⟩ := S12_known L.2.1 (z3_of x1) (r3_of x1) _ e2
  exact ⟨_, hx', hm', f1, f2, o1, o2, by rw [r1, r2]; exact R⟩
theorem p_locals {hx hm : PH} (L : LRl hx hm) (x1 : Int32) : ∃ (a : Int32) (hx' hm' : PH), F11_locals hx 0 x1 = some (a, hx') ∧ F12_locals hm 0 x1 = some (a, hm') ∧ LRl hx' hm' := by
  obtain ⟨a, m', v', e1, e2, R⟩ := a_locals L.2.2 x1.toInt
  obtain ⟨hx', f1, o1, r1, _⟩ := S11_locals L.1 (z3_of x1) (r3_of x1) _ e1
  obtain ⟨hm', f2, o2, r2, _⟩ := S12_locals L.2.1 (z3_of x1) (r3_of x1) _ e2
  exact ⟨_, hx', hm', f1, f2, o1, o2, by rw [r1, r2]; exact R⟩
theorem p_chance {hx hm : PH} (L : LRl hx hm) (x1 : Int32) (x2 : Int32) (x3 : Int32) : ∃ (a : Int32) (hx' hm' : PH), F11_chance hx 0 x1 x2 x3 = some (a, hx') ∧ F12_chance hm 0 x1 x2 x3 = some (a, hm') ∧ LRl hx' hm' := by
  obtain ⟨a, m', v', e1, e2, R⟩ := a_chance L.2.2 x1.toInt x2.toInt x3.toInt (r3_le x1)
  obtain ⟨hx', f1, o1, r1, _⟩ := S11_chance L.1 (z3_of x1) (r3_of x1) (z3_of x2) (r3_of x2) (z3_of x3) (r3_of x3) _ e1
  obtain ⟨hm', f2, o2, r2, _⟩ := S12_chance L.2.1 (z3_of x1) (r3_of x1) (z3_of x2) (r3_of x2) (z3_of x3) (r3_of x3) _ e2
  exact ⟨_, hx', hm', f1, f2, o1, o2, by rw [r1, r2]; exact R⟩
theorem p_tried {hx hm : PH} (L : LRl hx hm) (x1 : Int32) (x2 : Int32) (x3 : Int32) : ∃ (a : Int32) (hx' hm' : PH), F11_tried hx 0 x1 x2 x3 = some (a, hx') ∧ F12_tried hm 0 x1 x2 x3 = some (a, hm') ∧ LRl hx' hm' := by
  obtain ⟨a, m', v', e1, e2, R⟩ := a_tried L.2.2 x1.toInt x2.toInt x3.toInt (r3_le x3)
  obtain ⟨hx', f1, o1, r1, _⟩ := S11_tried L.1 (z3_of x1) (r3_of x1) (z3_of x2) (r3_of x2) (z3_of x3) (r3_of x3) _ e1
  obtain ⟨hm', f2, o2, r2, _⟩ := S12_tried L.2.1 (z3_of x1) (r3_of x1) (z3_of x2) (r3_of x2) (z3_of x3) (r3_of x3) _ e2
  exact ⟨_, hx', hm', f1, f2, o1, o2, by rw [r1, r2]; exact R⟩
theorem p_undo {hx hm : PH} (L : LRl hx hm)  : ∃ (a : Int32) (hx' hm' : PH), F11_undo hx 0 = some (a, hx') ∧ F12_undo hm 0 = some (a, hm') ∧ LRl hx' hm' := by
  obtain ⟨a, m', v', e1, e2, R⟩ := a_undo L.2.2 
  obtain ⟨hx', f1, o1, r1, _⟩ := S11_undo L.1  _ e1
  obtain ⟨hm', f2, o2, r2, _⟩ := S12_undo L.2.1  _ e2
  exact ⟨_, hx', hm', f1, f2, o1, o2, by rw [r1, r2]; exact R⟩
theorem p_keep {hx hm : PH} (L : LRl hx hm)  : ∃ (a : Int32) (hx' hm' : PH), F11_keep hx 0 = some (a, hx') ∧ F12_keep hm 0 = some (a, hm') ∧ LRl hx' hm' := by
  obtain ⟨a, m', v', e1, e2, R⟩ := a_keep L.2.2 
  obtain ⟨hx', f1, o1, r1, _⟩ := S11_keep L.1  _ e1
  obtain ⟨hm', f2, o2, r2, _⟩ := S12_keep L.2.1  _ e2
  exact ⟨_, hx', hm', f1, f2, o1, o2, by rw [r1, r2]; exact R⟩
theorem p_back {hx hm : PH} (L : LRl hx hm)  : ∃ (a : Int32) (hx' hm' : PH), F11_back hx 0 = some (a, hx') ∧ F12_back hm 0 = some (a, hm') ∧ LRl hx' hm' := by
  obtain ⟨a, m', v', e1, e2, R⟩ := a_back L.2.2 
  obtain ⟨hx', f1, o1, r1, _⟩ := S11_back L.1  _ e1
  obtain ⟨hm', f2, o2, r2, _⟩ := S12_back L.2.1  _ e2
  exact ⟨_, hx', hm', f1, f2, o1, o2, by rw [r1, r2]; exact R⟩
theorem p_count {hx hm : PH} (L : LRl hx hm) (x1 : Int32) : ∃ (a : Int32) (hx' hm' : PH), F11_count hx 0 x1 = some (a, hx') ∧ F12_count hm 0 x1 = some (a, hm') ∧ LRl hx' hm' := by
  obtain ⟨a, m', v', e1, e2, R⟩ := a_count L.2.2 x1.toInt
  obtain ⟨hx', f1, o1, r1, _⟩ := S11_count L.1 (z3_of x1) (r3_of x1) _ e1
  obtain ⟨hm', f2, o2, r2, _⟩ := S12_count L.2.1 (z3_of x1) (r3_of x1) _ e2
  exact ⟨_, hx', hm', f1, f2, o1, o2, by rw [r1, r2]; exact R⟩
theorem lr0 : LRl hxF hmF := ⟨okx0, okm0, rel0⟩
theorem sk_len (h : PH) : (Sk h).length = h.length := by simp [Sk]
theorem x_ok {h : PH} (H : OKX h) : okO h 0 11 = true ∧ h.length = 110 := ⟨by rw [okO_Sk, H.1]; rfl, by rw [← sk_len, H.1]; rfl⟩
theorem m_ok {h : PH} (H : OKM h) : okO h 0 12 = true ∧ h.length = 43 := by
  have e : Sk h = SM := H
  exact ⟨by rw [okO_Sk, e]; rfl, by rw [← sk_len, e]; rfl⟩
/-! look over the pure heaps. -/
/-- the class's look answers r -/
def LN (h : PH) (x1 x2 r : Int32) (h' : PH) : Prop := (h' = h ∧ x2.toInt = 0 ∧ ∃ n q, gR h 0 11 7 = some n ∧ gR h n 4 5 = some q ∧ aI h q 0 x1 = some r) ∨ (h' = h ∧ x2.toInt = 1 ∧ ∃ n q, gR h 0 11 7 = some n ∧ gR h n 4 6 = some q ∧ aI h q 0 x1 = some r) ∨ (h' = h ∧ x2.toInt = 2 ∧ ∃ n q, gR h 0 11 7 = some n ∧ gR h n 4 7 = some q ∧ aI h q 0 x1 = some r) ∨ (h' = h ∧ x2.toInt = 3 ∧ ∃ n q, gR h 0 11 7 = some n ∧ gR h n 4 8 = some q ∧ aI h q 0 x1 = some r) ∨ (h' = h ∧ x2.toInt = 4 ∧ ∃ t cr pc n st v1 v2, gR h 0 11 3 = some t ∧ gR h t 8 4 = some cr ∧ gR h cr 1 4 = some pc ∧ aI h pc 0 x1 = some v1 ∧ gR h 0 11 7 = some n ∧ gR h n 4 9 = some st ∧ aI h st 0 x1 = some v2 ∧ r = v1 - v2) ∨ (x2.toInt = 5 ∧ F11_farNow h 0 x1 = some (r, h'))
theorem p_look {hx hm : PH} (L : LRl hx hm) (x1 x2 : Int32) : ∃ (om : Int32) (hm' : PH) (sf : Int32) (h1 : PH), F12_look hm 0 x1 x2 = some (om, hm') ∧ F11_isSurfer hx 0 x1 = some (sf, h1) ∧ OKX h1 ∧ ((sf = 0 ∧ LRl h1 hm' ∧ rd hm' 0 2 = 1) ∨ (sf = 1 ∧ ¬ (0 ≤ x2.toInt ∧ x2.toInt ≤ 5) ∧ LRl h1 hm' ∧ rd hm' 0 2 = 2) ∨ (sf = 1 ∧ ∃ hx', LN h1 x1 x2 om hx' ∧ LRl hx' hm' ∧ rd hm' 0 2 = 0)) := by
  obtain ⟨T, hT, e3, hs, k⟩ := a_look L.2.2 x1.toInt x2.toInt
  have hS := c_isS (T := T) (w := sl 21 (rd hx) T) e3 (TX_sl hT) x1.toInt
  have ew : sl 21 (rd hx) T 1 0 = rd hx (T + 1) 0 := sl_e (by omega) _
  rw [ew] at hS
  obtain ⟨h1, f1, o1, r1, _⟩ := S11_isSurfer L.1 (z3_of x1) (r3_of x1) _ hS
  have r1 : rd h1 = rd hx := r1
  have tT : (rd h1 0 3).toNat = T := by rw [r1, e3]; exact Int.toNat_natCast _
  rcases k with ⟨c, v', g1, g2, R⟩ | ⟨c, k⟩
  · obtain ⟨hm', f2, o2, r2, _⟩ := S12_look L.2.1 (z3_of x1) (r3_of x1) (z3_of x2) (r3_of x2) _ g1
    rw [if_neg c] at f1
    exact ⟨_, hm', _, h1, f2, f1, o1, Or.inl ⟨rfl, ⟨o1, o2, by rw [r1, r2]; exact R⟩, by rw [r2]; exact g2⟩⟩
  · rw [if_pos c] at f1
    have hx5 : 0 ≤ x1.toInt ∧ x1.toInt < 5 := by omega
    rcases k with ⟨c2, v', g1, g2, R⟩ | ⟨c2, v', g1, g2, R⟩ | ⟨c2, c3, v', g1, g2, R⟩ | ⟨c2, a, m', v', g0, g1, g2, R⟩
    · obtain ⟨hm', f2, o2, r2, _⟩ := S12_look L.2.1 (z3_of x1) (r3_of x1) (z3_of x2) (r3_of x2) _ g1
      exact ⟨_, hm', _, h1, f2, f1, o1, Or.inr (Or.inl ⟨rfl, c2, ⟨o1, o2, by rw [r1, r2]; exact R⟩, by rw [r2]; exact g2⟩)⟩
    · obtain ⟨hm', f2, o2, r2, _⟩ := S12_look L.2.1 (z3_of x1) (r3_of x1) (z3_of x2) (r3_of x2) _ g1
      refine ⟨_, hm', _, h1, f2, f1, o1, Or.inr (Or.inr ⟨rfl, h1, ?_, ⟨o1, o2, by rw [r1, r2]; exact R⟩, by rw [r2]; exact g2⟩)⟩
      rcases (show x2.toInt = 0 ∨ x2.toInt = 1 ∨ x2.toInt = 2 ∨ x2.toInt = 3 by omega) with e | e | e | e
      · refine Or.inl ⟨rfl, e, 69, 70, x_gR_11_7 o1, x_gR_4_5 o1 p4_69, ?_⟩
        rw [(x_aI_4_5 o1 (ao_4_5 p4_69) (z3_of x1) hx5).1, r1, e]; rfl
      · refine Or.inr (Or.inl ⟨rfl, e, 69, 71, x_gR_11_7 o1, x_gR_4_6 o1 p4_69, ?_⟩)
        rw [(x_aI_4_6 o1 (ao_4_6 p4_69) (z3_of x1) hx5).1, r1, e]; rfl
      · refine Or.inr (Or.inr (Or.inl ⟨rfl, e, 69, 72, x_gR_11_7 o1, x_gR_4_7 o1 p4_69, ?_⟩))
        rw [(x_aI_4_7 o1 (ao_4_7 p4_69) (z3_of x1) hx5).1, r1, e]; rfl
      · refine Or.inr (Or.inr (Or.inr (Or.inl ⟨rfl, e, 69, 73, x_gR_11_7 o1, x_gR_4_8 o1 p4_69, ?_⟩)))
        rw [(x_aI_4_8 o1 (ao_4_8 p4_69) (z3_of x1) hx5).1, r1, e]; rfl
    · obtain ⟨hm', f2, o2, r2, _⟩ := S12_look L.2.1 (z3_of x1) (r3_of x1) (z3_of x2) (r3_of x2) _ g1
      refine ⟨_, hm', _, h1, f2, f1, o1, Or.inr (Or.inr ⟨rfl, h1, ?_, ⟨o1, o2, by rw [r1, r2]; exact R⟩, by rw [r2]; exact g2⟩)⟩
      have a8 : A8 T := hT
      have a1 : A1 (T + 1) := by rcases hT with e | e <;> subst e <;> simp [A1]
      refine Or.inr (Or.inr (Or.inr (Or.inr (Or.inl ⟨rfl, c2, T, T + 1, T + 1 + 4, 69, 74, _, _, ?_, x_gR_8_4 o1 a8, x_gR_1_4 o1 a1, (x_aI_1_4 o1 (ao_1_4 a1) (z3_of x1) hx5).1, x_gR_11_7 o1, x_gR_4_9 o1 p4_69, (x_aI_4_9 o1 (ao_4_9 p4_69) (z3_of x1) hx5).1, ?_⟩))))
      · rw [x_gR_11_3 o1, tT]
      · rw [z3_sub rfl rfl, r1]
    · obtain ⟨hm', f2, o2, r2, _⟩ := S12_look L.2.1 (z3_of x1) (r3_of x1) (z3_of x2) (r3_of x2) _ g1
      obtain ⟨hx', f3, o3, r3, _⟩ := S11_farNow o1 (z3_of x1) (r3_of x1) (a, m') (by rw [r1]; exact g0)
      exact ⟨_, hm', _, h1, f2, f1, o1, Or.inr (Or.inr ⟨rfl, hx', Or.inr (Or.inr (Or.inr (Or.inr (Or.inr ⟨c2, f3⟩)))), ⟨o3, o2, by rw [r3, r2]; exact R⟩, by rw [r2]; exact g2⟩)⟩
