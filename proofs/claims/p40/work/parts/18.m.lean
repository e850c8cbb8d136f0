theorem zd_dX12_beginsFrom_0 : sg (cX12_beginsFrom.data.toList.drop 0) [[3], [61], [28], [42], [180, 0, 250], [162, 0, 36], [42], [180, 0, 48], [42], [180, 0, 45], [28], [46], [46], [27], [161, 0, 15], [42], [180, 0, 48], [42], [180, 0, 45], [28]] = true := by decide +kernel
theorem dX12_beginsFrom_0 : decode cX12_beginsFrom 0 = .ok (.iconst 0, 1) := dc_3 (sg_at zd_dX12_beginsFrom_0 0 rfl rfl)
theorem dX12_beginsFrom_1 : decode cX12_beginsFrom 1 = .ok (.istore_n 2, 1) := dc_61 (sg_at zd_dX12_beginsFrom_0 1 rfl rfl)
theorem dX12_beginsFrom_2 : decode cX12_beginsFrom 2 = .ok (.iload_n 2, 1) := dc_28 (sg_at zd_dX12_beginsFrom_0 2 rfl rfl)
theorem dX12_beginsFrom_3 : decode cX12_beginsFrom 3 = .ok (.aload_n 0, 1) := dc_42 (sg_at zd_dX12_beginsFrom_0 3 rfl rfl)
theorem dX12_beginsFrom_4 : decode cX12_beginsFrom 4 = .ok (.getfield 250, 3) := dc_180 (sg_at zd_dX12_beginsFrom_0 4 rfl rfl) rfl
theorem dX12_beginsFrom_7 : decode cX12_beginsFrom 7 = .ok (.if_icmp .ge 36, 3) := dc_162 (sg_at zd_dX12_beginsFrom_0 5 rfl rfl) rfl
theorem dX12_beginsFrom_10 : decode cX12_beginsFrom 10 = .ok (.aload_n 0, 1) := dc_42 (sg_at zd_dX12_beginsFrom_0 6 rfl rfl)
theorem dX12_beginsFrom_11 : decode cX12_beginsFrom 11 = .ok (.getfield 48, 3) := dc_180 (sg_at zd_dX12_beginsFrom_0 7 rfl rfl) rfl
theorem dX12_beginsFrom_14 : decode cX12_beginsFrom 14 = .ok (.aload_n 0, 1) := dc_42 (sg_at zd_dX12_beginsFrom_0 8 rfl rfl)
theorem dX12_beginsFrom_15 : decode cX12_beginsFrom 15 = .ok (.getfield 45, 3) := dc_180 (sg_at zd_dX12_beginsFrom_0 9 rfl rfl) rfl
theorem dX12_beginsFrom_18 : decode cX12_beginsFrom 18 = .ok (.iload_n 2, 1) := dc_28 (sg_at zd_dX12_beginsFrom_0 10 rfl rfl)
theorem dX12_beginsFrom_19 : decode cX12_beginsFrom 19 = .ok (.iaload, 1) := dc_46 (sg_at zd_dX12_beginsFrom_0 11 rfl rfl)
theorem dX12_beginsFrom_20 : decode cX12_beginsFrom 20 = .ok (.iaload, 1) := dc_46 (sg_at zd_dX12_beginsFrom_0 12 rfl rfl)
theorem dX12_beginsFrom_21 : decode cX12_beginsFrom 21 = .ok (.iload_n 1, 1) := dc_27 (sg_at zd_dX12_beginsFrom_0 13 rfl rfl)
theorem dX12_beginsFrom_22 : decode cX12_beginsFrom 22 = .ok (.if_icmp .lt 15, 3) := dc_161 (sg_at zd_dX12_beginsFrom_0 14 rfl rfl) rfl
theorem dX12_beginsFrom_25 : decode cX12_beginsFrom 25 = .ok (.aload_n 0, 1) := dc_42 (sg_at zd_dX12_beginsFrom_0 15 rfl rfl)
theorem dX12_beginsFrom_26 : decode cX12_beginsFrom 26 = .ok (.getfield 48, 3) := dc_180 (sg_at zd_dX12_beginsFrom_0 16 rfl rfl) rfl
theorem dX12_beginsFrom_29 : decode cX12_beginsFrom 29 = .ok (.aload_n 0, 1) := dc_42 (sg_at zd_dX12_beginsFrom_0 17 rfl rfl)
theorem dX12_beginsFrom_30 : decode cX12_beginsFrom 30 = .ok (.getfield 45, 3) := dc_180 (sg_at zd_dX12_beginsFrom_0 18 rfl rfl) rfl
theorem dX12_beginsFrom_33 : decode cX12_beginsFrom 33 = .ok (.iload_n 2, 1) := dc_28 (sg_at zd_dX12_beginsFrom_0 19 rfl rfl)
theorem zd_dX12_beginsFrom_34 : sg (cX12_beginsFrom.data.toList.drop 34) [[46], [46], [172], [132, 2, 1], [167, 255, 218], [2], [172]] = true := by decide +kernel
theorem dX12_beginsFrom_34 : decode cX12_beginsFrom 34 = .ok (.iaload, 1) := dc_46 (sg_at zd_dX12_beginsFrom_34 0 rfl rfl)
theorem dX12_beginsFrom_35 : decode cX12_beginsFrom 35 = .ok (.iaload, 1) := dc_46 (sg_at zd_dX12_beginsFrom_34 1 rfl rfl)
theorem dX12_beginsFrom_36 : decode cX12_beginsFrom 36 = .ok (.ireturn, 1) := dc_172 (sg_at zd_dX12_beginsFrom_34 2 rfl rfl)
theorem dX12_beginsFrom_37 : decode cX12_beginsFrom 37 = .ok (.iinc 2 1, 3) := dc_132 (sg_at zd_dX12_beginsFrom_34 3 rfl rfl) rfl
theorem dX12_beginsFrom_40 : decode cX12_beginsFrom 40 = .ok (.goto (-38), 3) := dc_167 (sg_at zd_dX12_beginsFrom_34 4 rfl rfl) rfl
theorem dX12_beginsFrom_43 : decode cX12_beginsFrom 43 = .ok (.iconst (-1), 1) := dc_2 (sg_at zd_dX12_beginsFrom_34 5 rfl rfl)
theorem dX12_beginsFrom_44 : decode cX12_beginsFrom 44 = .ok (.ireturn, 1) := dc_172 (sg_at zd_dX12_beginsFrom_34 6 rfl rfl)
theorem zd_dX12_beside_0 : sg (cX12_beside.data.toList.drop 0) [[27], [42], [180, 0, 241], [112], [28], [4], [160, 0, 7], [4], [167, 0, 13], [28], [6], [160, 0, 7], [2], [167, 0, 4], [3], [96], [62], [27], [42], [180, 0, 241]] = true := by decide +kernel
theorem dX12_beside_0 : decode cX12_beside 0 = .ok (.iload_n 1, 1) := dc_27 (sg_at zd_dX12_beside_0 0 rfl rfl)
theorem dX12_beside_1 : decode cX12_beside 1 = .ok (.aload_n 0, 1) := dc_42 (sg_at zd_dX12_beside_0 1 rfl rfl)
theorem dX12_beside_2 : decode cX12_beside 2 = .ok (.getfield 241, 3) := dc_180 (sg_at zd_dX12_beside_0 2 rfl rfl) rfl
theorem dX12_beside_5 : decode cX12_beside 5 = .ok (.irem, 1) := dc_112 (sg_at zd_dX12_beside_0 3 rfl rfl)
theorem dX12_beside_6 : decode cX12_beside 6 = .ok (.iload_n 2, 1) := dc_28 (sg_at zd_dX12_beside_0 4 rfl rfl)
theorem dX12_beside_7 : decode cX12_beside 7 = .ok (.iconst 1, 1) := dc_4 (sg_at zd_dX12_beside_0 5 rfl rfl)
theorem dX12_beside_8 : decode cX12_beside 8 = .ok (.if_icmp .ne 7, 3) := dc_160 (sg_at zd_dX12_beside_0 6 rfl rfl) rfl
theorem dX12_beside_11 : decode cX12_beside 11 = .ok (.iconst 1, 1) := dc_4 (sg_at zd_dX12_beside_0 7 rfl rfl)
theorem dX12_beside_12 : decode cX12_beside 12 = .ok (.goto 13, 3) := dc_167 (sg_at zd_dX12_beside_0 8 rfl rfl) rfl
theorem dX12_beside_15 : decode cX12_beside 15 = .ok (.iload_n 2, 1) := dc_28 (sg_at zd_dX12_beside_0 9 rfl rfl)
theorem dX12_beside_16 : decode cX12_beside 16 = .ok (.iconst 3, 1) := dc_6 (sg_at zd_dX12_beside_0 10 rfl rfl)
theorem dX12_beside_17 : decode cX12_beside 17 = .ok (.if_icmp .ne 7, 3) := dc_160 (sg_at zd_dX12_beside_0 11 rfl rfl) rfl
theorem dX12_beside_20 : decode cX12_beside 20 = .ok (.iconst (-1), 1) := dc_2 (sg_at zd_dX12_beside_0 12 rfl rfl)
theorem dX12_beside_21 : decode cX12_beside 21 = .ok (.goto 4, 3) := dc_167 (sg_at zd_dX12_beside_0 13 rfl rfl) rfl
theorem dX12_beside_24 : decode cX12_beside 24 = .ok (.iconst 0, 1) := dc_3 (sg_at zd_dX12_beside_0 14 rfl rfl)
theorem dX12_beside_25 : decode cX12_beside 25 = .ok (.iadd, 1) := dc_96 (sg_at zd_dX12_beside_0 15 rfl rfl)
theorem dX12_beside_26 : decode cX12_beside 26 = .ok (.istore_n 3, 1) := dc_62 (sg_at zd_dX12_beside_0 16 rfl rfl)
theorem dX12_beside_27 : decode cX12_beside 27 = .ok (.iload_n 1, 1) := dc_27 (sg_at zd_dX12_beside_0 17 rfl rfl)
theorem dX12_beside_28 : decode cX12_beside 28 = .ok (.aload_n 0, 1) := dc_42 (sg_at zd_dX12_beside_0 18 rfl rfl)
theorem dX12_beside_29 : decode cX12_beside 29 = .ok (.getfield 241, 3) := dc_180 (sg_at zd_dX12_beside_0 19 rfl rfl) rfl
theorem zd_dX12_beside_32 : sg (cX12_beside.data.toList.drop 32) [[108], [28], [5], [160, 0, 7], [4], [167, 0, 12], [28], [154, 0, 7], [2], [167, 0, 4], [3], [96], [54, 4], [29], [3], [42], [180, 0, 241], [4], [100], [184, 0, 199]] = true := by decide +kernel
theorem dX12_beside_32 : decode cX12_beside 32 = .ok (.idiv, 1) := dc_108 (sg_at zd_dX12_beside_32 0 rfl rfl)
theorem dX12_beside_33 : decode cX12_beside 33 = .ok (.iload_n 2, 1) := dc_28 (sg_at zd_dX12_beside_32 1 rfl rfl)
theorem dX12_beside_34 : decode cX12_beside 34 = .ok (.iconst 2, 1) := dc_5 (sg_at zd_dX12_beside_32 2 rfl rfl)
theorem dX12_beside_35 : decode cX12_beside 35 = .ok (.if_icmp .ne 7, 3) := dc_160 (sg_at zd_dX12_beside_32 3 rfl rfl) rfl
theorem dX12_beside_38 : decode cX12_beside 38 = .ok (.iconst 1, 1) := dc_4 (sg_at zd_dX12_beside_32 4 rfl rfl)
theorem dX12_beside_39 : decode cX12_beside 39 = .ok (.goto 12, 3) := dc_167 (sg_at zd_dX12_beside_32 5 rfl rfl) rfl
theorem dX12_beside_42 : decode cX12_beside 42 = .ok (.iload_n 2, 1) := dc_28 (sg_at zd_dX12_beside_32 6 rfl rfl)
theorem dX12_beside_43 : decode cX12_beside 43 = .ok (.ifCond .ne 7, 3) := dc_154 (sg_at zd_dX12_beside_32 7 rfl rfl) rfl
theorem dX12_beside_46 : decode cX12_beside 46 = .ok (.iconst (-1), 1) := dc_2 (sg_at zd_dX12_beside_32 8 rfl rfl)
theorem dX12_beside_47 : decode cX12_beside 47 = .ok (.goto 4, 3) := dc_167 (sg_at zd_dX12_beside_32 9 rfl rfl) rfl
theorem dX12_beside_50 : decode cX12_beside 50 = .ok (.iconst 0, 1) := dc_3 (sg_at zd_dX12_beside_32 10 rfl rfl)
theorem dX12_beside_51 : decode cX12_beside 51 = .ok (.iadd, 1) := dc_96 (sg_at zd_dX12_beside_32 11 rfl rfl)
theorem dX12_beside_52 : decode cX12_beside 52 = .ok (.istore 4, 2) := dc_54 (sg_at zd_dX12_beside_32 12 rfl rfl)
theorem dX12_beside_54 : decode cX12_beside 54 = .ok (.iload_n 3, 1) := dc_29 (sg_at zd_dX12_beside_32 13 rfl rfl)
theorem dX12_beside_55 : decode cX12_beside 55 = .ok (.iconst 0, 1) := dc_3 (sg_at zd_dX12_beside_32 14 rfl rfl)
theorem dX12_beside_56 : decode cX12_beside 56 = .ok (.aload_n 0, 1) := dc_42 (sg_at zd_dX12_beside_32 15 rfl rfl)
theorem dX12_beside_57 : decode cX12_beside 57 = .ok (.getfield 241, 3) := dc_180 (sg_at zd_dX12_beside_32 16 rfl rfl) rfl
theorem dX12_beside_60 : decode cX12_beside 60 = .ok (.iconst 1, 1) := dc_4 (sg_at zd_dX12_beside_32 17 rfl rfl)
theorem dX12_beside_61 : decode cX12_beside 61 = .ok (.isub, 1) := dc_100 (sg_at zd_dX12_beside_32 18 rfl rfl)
theorem dX12_beside_62 : decode cX12_beside 62 = .ok (.invokestatic 199, 3) := dc_184 (sg_at zd_dX12_beside_32 19 rfl rfl) rfl
theorem zd_dX12_beside_65 : sg (cX12_beside.data.toList.drop 65) [[153, 0, 30], [21, 4], [3], [42], [180, 0, 244], [4], [100], [184, 0, 199], [153, 0, 15], [42], [180, 0, 241], [21, 4], [104], [29], [96], [167, 0, 4], [2], [172]] = true := by decide +kernel
theorem dX12_beside_65 : decode cX12_beside 65 = .ok (.ifCond .eq 30, 3) := dc_153 (sg_at zd_dX12_beside_65 0 rfl rfl) rfl
theorem dX12_beside_68 : decode cX12_beside 68 = .ok (.iload 4, 2) := dc_21 (sg_at zd_dX12_beside_65 1 rfl rfl)
theorem dX12_beside_70 : decode cX12_beside 70 = .ok (.iconst 0, 1) := dc_3 (sg_at zd_dX12_beside_65 2 rfl rfl)
theorem dX12_beside_71 : decode cX12_beside 71 = .ok (.aload_n 0, 1) := dc_42 (sg_at zd_dX12_beside_65 3 rfl rfl)
theorem dX12_beside_72 : decode cX12_beside 72 = .ok (.getfield 244, 3) := dc_180 (sg_at zd_dX12_beside_65 4 rfl rfl) rfl
theorem dX12_beside_75 : decode cX12_beside 75 = .ok (.iconst 1, 1) := dc_4 (sg_at zd_dX12_beside_65 5 rfl rfl)
theorem dX12_beside_76 : decode cX12_beside 76 = .ok (.isub, 1) := dc_100 (sg_at zd_dX12_beside_65 6 rfl rfl)
theorem dX12_beside_77 : decode cX12_beside 77 = .ok (.invokestatic 199, 3) := dc_184 (sg_at zd_dX12_beside_65 7 rfl rfl) rfl
theorem dX12_beside_80 : decode cX12_beside 80 = .ok (.ifCond .eq 15, 3) := dc_153 (sg_at zd_dX12_beside_65 8 rfl rfl) rfl
theorem dX12_beside_83 : decode cX12_beside 83 = .ok (.aload_n 0, 1) := dc_42 (sg_at zd_dX12_beside_65 9 rfl rfl)
theorem dX12_beside_84 : decode cX12_beside 84 = .ok (.getfield 241, 3) := dc_180 (sg_at zd_dX12_beside_65 10 rfl rfl) rfl
theorem dX12_beside_87 : decode cX12_beside 87 = .ok (.iload 4, 2) := dc_21 (sg_at zd_dX12_beside_65 11 rfl rfl)
theorem dX12_beside_89 : decode cX12_beside 89 = .ok (.imul, 1) := dc_104 (sg_at zd_dX12_beside_65 12 rfl rfl)
theorem dX12_beside_90 : decode cX12_beside 90 = .ok (.iload_n 3, 1) := dc_29 (sg_at zd_dX12_beside_65 13 rfl rfl)
theorem dX12_beside_91 : decode cX12_beside 91 = .ok (.iadd, 1) := dc_96 (sg_at zd_dX12_beside_65 14 rfl rfl)
theorem dX12_beside_92 : decode cX12_beside 92 = .ok (.goto 4, 3) := dc_167 (sg_at zd_dX12_beside_65 15 rfl rfl) rfl
theorem dX12_beside_95 : decode cX12_beside 95 = .ok (.iconst (-1), 1) := dc_2 (sg_at zd_dX12_beside_65 16 rfl rfl)
theorem dX12_beside_96 : decode cX12_beside 96 = .ok (.ireturn, 1) := dc_172 (sg_at zd_dX12_beside_65 17 rfl rfl)
theorem zd_dX12_isSurfer_0 : sg (cX12_isSurfer.data.toList.drop 0) [[27], [155, 0, 15], [27], [42], [180, 0, 247], [162, 0, 7], [4], [167, 0, 4], [3], [172]] = true := by decide +kernel
theorem dX12_isSurfer_0 : decode cX12_isSurfer 0 = .ok (.iload_n 1, 1) := dc_27 (sg_at zd_dX12_isSurfer_0 0 rfl rfl)
theorem dX12_isSurfer_1 : decode cX12_isSurfer 1 = .ok (.ifCond .lt 15, 3) := dc_155 (sg_at zd_dX12_isSurfer_0 1 rfl rfl) rfl
theorem dX12_isSurfer_4 : decode cX12_isSurfer 4 = .ok (.iload_n 1, 1) := dc_27 (sg_at zd_dX12_isSurfer_0 2 rfl rfl)
theorem dX12_isSurfer_5 : decode cX12_isSurfer 5 = .ok (.aload_n 0, 1) := dc_42 (sg_at zd_dX12_isSurfer_0 3 rfl rfl)
theorem dX12_isSurfer_6 : decode cX12_isSurfer 6 = .ok (.getfield 247, 3) := dc_180 (sg_at zd_dX12_isSurfer_0 4 rfl rfl) rfl
theorem dX12_isSurfer_9 : decode cX12_isSurfer 9 = .ok (.if_icmp .ge 7, 3) := dc_162 (sg_at zd_dX12_isSurfer_0 5 rfl rfl) rfl
theorem dX12_isSurfer_12 : decode cX12_isSurfer 12 = .ok (.iconst 1, 1) := dc_4 (sg_at zd_dX12_isSurfer_0 6 rfl rfl)
theorem dX12_isSurfer_13 : decode cX12_isSurfer 13 = .ok (.goto 4, 3) := dc_167 (sg_at zd_dX12_isSurfer_0 7 rfl rfl) rfl
theorem dX12_isSurfer_16 : decode cX12_isSurfer 16 = .ok (.iconst 0, 1) := dc_3 (sg_at zd_dX12_isSurfer_0 8 rfl rfl)
theorem dX12_isSurfer_17 : decode cX12_isSurfer 17 = .ok (.ireturn, 1) := dc_172 (sg_at zd_dX12_isSurfer_0 9 rfl rfl)
theorem zd_dX12_cells_0 : sg (cX12_cells.data.toList.drop 0) [[42], [180, 0, 241], [42], [180, 0, 244], [104], [172]] = true := by decide +kernel
theorem dX12_cells_0 : decode cX12_cells 0 = .ok (.aload_n 0, 1) := dc_42 (sg_at zd_dX12_cells_0 0 rfl rfl)
theorem dX12_cells_1 : decode cX12_cells 1 = .ok (.getfield 241, 3) := dc_180 (sg_at zd_dX12_cells_0 1 rfl rfl) rfl
theorem dX12_cells_4 : decode cX12_cells 4 = .ok (.aload_n 0, 1) := dc_42 (sg_at zd_dX12_cells_0 2 rfl rfl)
theorem dX12_cells_5 : decode cX12_cells 5 = .ok (.getfield 244, 3) := dc_180 (sg_at zd_dX12_cells_0 3 rfl rfl) rfl
theorem dX12_cells_8 : decode cX12_cells 8 = .ok (.imul, 1) := dc_104 (sg_at zd_dX12_cells_0 4 rfl rfl)
theorem dX12_cells_9 : decode cX12_cells 9 = .ok (.ireturn, 1) := dc_172 (sg_at zd_dX12_cells_0 5 rfl rfl)
theorem zd_dX12_gainOf_0 : sg (cX12_gainOf.data.toList.drop 0) [[42], [27], [28], [29], [182, 1, 169], [42], [180, 0, 51], [28], [46], [104], [172]] = true := by decide +kernel
theorem dX12_gainOf_0 : decode cX12_gainOf 0 = .ok (.aload_n 0, 1) := dc_42 (sg_at zd_dX12_gainOf_0 0 rfl rfl)
theorem dX12_gainOf_1 : decode cX12_gainOf 1 = .ok (.iload_n 1, 1) := dc_27 (sg_at zd_dX12_gainOf_0 1 rfl rfl)
theorem dX12_gainOf_2 : decode cX12_gainOf 2 = .ok (.iload_n 2, 1) := dc_28 (sg_at zd_dX12_gainOf_0 2 rfl rfl)
theorem dX12_gainOf_3 : decode cX12_gainOf 3 = .ok (.iload_n 3, 1) := dc_29 (sg_at zd_dX12_gainOf_0 3 rfl rfl)
theorem dX12_gainOf_4 : decode cX12_gainOf 4 = .ok (.invokevirtual 425, 3) := dc_182 (sg_at zd_dX12_gainOf_0 4 rfl rfl) rfl
theorem dX12_gainOf_7 : decode cX12_gainOf 7 = .ok (.aload_n 0, 1) := dc_42 (sg_at zd_dX12_gainOf_0 5 rfl rfl)
theorem dX12_gainOf_8 : decode cX12_gainOf 8 = .ok (.getfield 51, 3) := dc_180 (sg_at zd_dX12_gainOf_0 6 rfl rfl) rfl
theorem dX12_gainOf_11 : decode cX12_gainOf 11 = .ok (.iload_n 2, 1) := dc_28 (sg_at zd_dX12_gainOf_0 7 rfl rfl)
theorem dX12_gainOf_12 : decode cX12_gainOf 12 = .ok (.iaload, 1) := dc_46 (sg_at zd_dX12_gainOf_0 8 rfl rfl)
theorem dX12_gainOf_13 : decode cX12_gainOf 13 = .ok (.imul, 1) := dc_104 (sg_at zd_dX12_gainOf_0 9 rfl rfl)
theorem dX12_gainOf_14 : decode cX12_gainOf 14 = .ok (.ireturn, 1) := dc_172 (sg_at zd_dX12_gainOf_0 10 rfl rfl)
theorem zd_dX12_seatFrom_0 : sg (cX12_seatFrom.data.toList.drop 0) [[3], [54, 4], [3], [54, 5], [21, 5], [42], [180, 0, 253], [162, 0, 37], [21, 4], [42], [180, 0, 48], [21, 5], [46], [29], [161, 0, 14], [42], [27], [21, 5], [28], [182, 1, 223]] = true := by decide +kernel
theorem dX12_seatFrom_0 : decode cX12_seatFrom 0 = .ok (.iconst 0, 1) := dc_3 (sg_at zd_dX12_seatFrom_0 0 rfl rfl)
theorem dX12_seatFrom_1 : decode cX12_seatFrom 1 = .ok (.istore 4, 2) := dc_54 (sg_at zd_dX12_seatFrom_0 1 rfl rfl)
theorem dX12_seatFrom_3 : decode cX12_seatFrom 3 = .ok (.iconst 0, 1) := dc_3 (sg_at zd_dX12_seatFrom_0 2 rfl rfl)
theorem dX12_seatFrom_4 : decode cX12_seatFrom 4 = .ok (.istore 5, 2) := dc_54 (sg_at zd_dX12_seatFrom_0 3 rfl rfl)
theorem dX12_seatFrom_6 : decode cX12_seatFrom 6 = .ok (.iload 5, 2) := dc_21 (sg_at zd_dX12_seatFrom_0 4 rfl rfl)
theorem dX12_seatFrom_8 : decode cX12_seatFrom 8 = .ok (.aload_n 0, 1) := dc_42 (sg_at zd_dX12_seatFrom_0 5 rfl rfl)
theorem dX12_seatFrom_9 : decode cX12_seatFrom 9 = .ok (.getfield 253, 3) := dc_180 (sg_at zd_dX12_seatFrom_0 6 rfl rfl) rfl
theorem dX12_seatFrom_12 : decode cX12_seatFrom 12 = .ok (.if_icmp .ge 37, 3) := dc_162 (sg_at zd_dX12_seatFrom_0 7 rfl rfl) rfl
theorem dX12_seatFrom_15 : decode cX12_seatFrom 15 = .ok (.iload 4, 2) := dc_21 (sg_at zd_dX12_seatFrom_0 8 rfl rfl)
theorem dX12_seatFrom_17 : decode cX12_seatFrom 17 = .ok (.aload_n 0, 1) := dc_42 (sg_at zd_dX12_seatFrom_0 9 rfl rfl)
theorem dX12_seatFrom_18 : decode cX12_seatFrom 18 = .ok (.getfield 48, 3) := dc_180 (sg_at zd_dX12_seatFrom_0 10 rfl rfl) rfl
theorem dX12_seatFrom_21 : decode cX12_seatFrom 21 = .ok (.iload 5, 2) := dc_21 (sg_at zd_dX12_seatFrom_0 11 rfl rfl)
theorem dX12_seatFrom_23 : decode cX12_seatFrom 23 = .ok (.iaload, 1) := dc_46 (sg_at zd_dX12_seatFrom_0 12 rfl rfl)
theorem dX12_seatFrom_24 : decode cX12_seatFrom 24 = .ok (.iload_n 3, 1) := dc_29 (sg_at zd_dX12_seatFrom_0 13 rfl rfl)
theorem dX12_seatFrom_25 : decode cX12_seatFrom 25 = .ok (.if_icmp .lt 14, 3) := dc_161 (sg_at zd_dX12_seatFrom_0 14 rfl rfl) rfl
theorem dX12_seatFrom_28 : decode cX12_seatFrom 28 = .ok (.aload_n 0, 1) := dc_42 (sg_at zd_dX12_seatFrom_0 15 rfl rfl)
theorem dX12_seatFrom_29 : decode cX12_seatFrom 29 = .ok (.iload_n 1, 1) := dc_27 (sg_at zd_dX12_seatFrom_0 16 rfl rfl)
theorem dX12_seatFrom_30 : decode cX12_seatFrom 30 = .ok (.iload 5, 2) := dc_21 (sg_at zd_dX12_seatFrom_0 17 rfl rfl)
theorem dX12_seatFrom_32 : decode cX12_seatFrom 32 = .ok (.iload_n 2, 1) := dc_28 (sg_at zd_dX12_seatFrom_0 18 rfl rfl)
theorem dX12_seatFrom_33 : decode cX12_seatFrom 33 = .ok (.invokevirtual 479, 3) := dc_182 (sg_at zd_dX12_seatFrom_0 19 rfl rfl) rfl
theorem zd_dX12_seatFrom_36 : sg (cX12_seatFrom.data.toList.drop 36) [[167, 0, 4], [3], [96], [54, 4], [132, 5, 1], [167, 255, 216], [21, 4], [172]] = true := by decide +kernel
theorem dX12_seatFrom_36 : decode cX12_seatFrom 36 = .ok (.goto 4, 3) := dc_167 (sg_at zd_dX12_seatFrom_36 0 rfl rfl) rfl
theorem dX12_seatFrom_39 : decode cX12_seatFrom 39 = .ok (.iconst 0, 1) := dc_3 (sg_at zd_dX12_seatFrom_36 1 rfl rfl)
theorem dX12_seatFrom_40 : decode cX12_seatFrom 40 = .ok (.iadd, 1) := dc_96 (sg_at zd_dX12_seatFrom_36 2 rfl rfl)
theorem dX12_seatFrom_41 : decode cX12_seatFrom 41 = .ok (.istore 4, 2) := dc_54 (sg_at zd_dX12_seatFrom_36 3 rfl rfl)
theorem dX12_seatFrom_43 : decode cX12_seatFrom 43 = .ok (.iinc 5 1, 3) := dc_132 (sg_at zd_dX12_seatFrom_36 4 rfl rfl) rfl
theorem dX12_seatFrom_46 : decode cX12_seatFrom 46 = .ok (.goto (-40), 3) := dc_167 (sg_at zd_dX12_seatFrom_36 5 rfl rfl) rfl
theorem dX12_seatFrom_49 : decode cX12_seatFrom 49 = .ok (.iload 4, 2) := dc_21 (sg_at zd_dX12_seatFrom_36 6 rfl rfl)
theorem dX12_seatFrom_51 : decode cX12_seatFrom 51 = .ok (.ireturn, 1) := dc_172 (sg_at zd_dX12_seatFrom_36 7 rfl rfl)
theorem zd_dX12_best_0 : sg (cX12_best.data.toList.drop 0) [[42], [3], [181, 0, 154], [42], [27], [182, 1, 157], [154, 0, 5], [2], [172], [3], [61], [2], [62], [3], [54, 4], [21, 4], [42], [182, 1, 110], [162, 0, 39], [42]] = true := by decide +kernel
theorem dX12_best_0 : decode cX12_best 0 = .ok (.aload_n 0, 1) := dc_42 (sg_at zd_dX12_best_0 0 rfl rfl)
theorem dX12_best_1 : decode cX12_best 1 = .ok (.iconst 0, 1) := dc_3 (sg_at zd_dX12_best_0 1 rfl rfl)
theorem dX12_best_2 : decode cX12_best 2 = .ok (.putfield 154, 3) := dc_181 (sg_at zd_dX12_best_0 2 rfl rfl) rfl
theorem dX12_best_5 : decode cX12_best 5 = .ok (.aload_n 0, 1) := dc_42 (sg_at zd_dX12_best_0 3 rfl rfl)
theorem dX12_best_6 : decode cX12_best 6 = .ok (.iload_n 1, 1) := dc_27 (sg_at zd_dX12_best_0 4 rfl rfl)
theorem dX12_best_7 : decode cX12_best 7 = .ok (.invokevirtual 413, 3) := dc_182 (sg_at zd_dX12_best_0 5 rfl rfl) rfl
theorem dX12_best_10 : decode cX12_best 10 = .ok (.ifCond .ne 5, 3) := dc_154 (sg_at zd_dX12_best_0 6 rfl rfl) rfl
theorem dX12_best_13 : decode cX12_best 13 = .ok (.iconst (-1), 1) := dc_2 (sg_at zd_dX12_best_0 7 rfl rfl)
theorem dX12_best_14 : decode cX12_best 14 = .ok (.ireturn, 1) := dc_172 (sg_at zd_dX12_best_0 8 rfl rfl)
theorem dX12_best_15 : decode cX12_best 15 = .ok (.iconst 0, 1) := dc_3 (sg_at zd_dX12_best_0 9 rfl rfl)
theorem dX12_best_16 : decode cX12_best 16 = .ok (.istore_n 2, 1) := dc_61 (sg_at zd_dX12_best_0 10 rfl rfl)
theorem dX12_best_17 : decode cX12_best 17 = .ok (.iconst (-1), 1) := dc_2 (sg_at zd_dX12_best_0 11 rfl rfl)
theorem dX12_best_18 : decode cX12_best 18 = .ok (.istore_n 3, 1) := dc_62 (sg_at zd_dX12_best_0 12 rfl rfl)
theorem dX12_best_19 : decode cX12_best 19 = .ok (.iconst 0, 1) := dc_3 (sg_at zd_dX12_best_0 13 rfl rfl)
theorem dX12_best_20 : decode cX12_best 20 = .ok (.istore 4, 2) := dc_54 (sg_at zd_dX12_best_0 14 rfl rfl)
theorem dX12_best_22 : decode cX12_best 22 = .ok (.iload 4, 2) := dc_21 (sg_at zd_dX12_best_0 15 rfl rfl)
theorem dX12_best_24 : decode cX12_best 24 = .ok (.aload_n 0, 1) := dc_42 (sg_at zd_dX12_best_0 16 rfl rfl)
theorem dX12_best_25 : decode cX12_best 25 = .ok (.invokevirtual 366, 3) := dc_182 (sg_at zd_dX12_best_0 17 rfl rfl) rfl
theorem dX12_best_28 : decode cX12_best 28 = .ok (.if_icmp .ge 39, 3) := dc_162 (sg_at zd_dX12_best_0 18 rfl rfl) rfl
theorem dX12_best_31 : decode cX12_best 31 = .ok (.aload_n 0, 1) := dc_42 (sg_at zd_dX12_best_0 19 rfl rfl)
theorem zd_dX12_best_32 : sg (cX12_best.data.toList.drop 32) [[27], [21, 4], [42], [180, 0, 106], [3], [46], [182, 1, 226], [54, 5], [21, 5], [29], [163, 0, 6], [167, 0, 9], [21, 4], [61], [21, 5], [62], [132, 4, 1], [167, 255, 214], [28], [172]] = true := by decide +kernel
theorem dX12_best_32 : decode cX12_best 32 = .ok (.iload_n 1, 1) := dc_27 (sg_at zd_dX12_best_32 0 rfl rfl)
theorem dX12_best_33 : decode cX12_best 33 = .ok (.iload 4, 2) := dc_21 (sg_at zd_dX12_best_32 1 rfl rfl)
theorem dX12_best_35 : decode cX12_best 35 = .ok (.aload_n 0, 1) := dc_42 (sg_at zd_dX12_best_32 2 rfl rfl)
theorem dX12_best_36 : decode cX12_best 36 = .ok (.getfield 106, 3) := dc_180 (sg_at zd_dX12_best_32 3 rfl rfl) rfl
theorem dX12_best_39 : decode cX12_best 39 = .ok (.iconst 0, 1) := dc_3 (sg_at zd_dX12_best_32 4 rfl rfl)
theorem dX12_best_40 : decode cX12_best 40 = .ok (.iaload, 1) := dc_46 (sg_at zd_dX12_best_32 5 rfl rfl)
theorem dX12_best_41 : decode cX12_best 41 = .ok (.invokevirtual 482, 3) := dc_182 (sg_at zd_dX12_best_32 6 rfl rfl) rfl
theorem dX12_best_44 : decode cX12_best 44 = .ok (.istore 5, 2) := dc_54 (sg_at zd_dX12_best_32 7 rfl rfl)
theorem dX12_best_46 : decode cX12_best 46 = .ok (.iload 5, 2) := dc_21 (sg_at zd_dX12_best_32 8 rfl rfl)
theorem dX12_best_48 : decode cX12_best 48 = .ok (.iload_n 3, 1) := dc_29 (sg_at zd_dX12_best_32 9 rfl rfl)
theorem dX12_best_49 : decode cX12_best 49 = .ok (.if_icmp .gt 6, 3) := dc_163 (sg_at zd_dX12_best_32 10 rfl rfl) rfl
theorem dX12_best_52 : decode cX12_best 52 = .ok (.goto 9, 3) := dc_167 (sg_at zd_dX12_best_32 11 rfl rfl) rfl
theorem dX12_best_55 : decode cX12_best 55 = .ok (.iload 4, 2) := dc_21 (sg_at zd_dX12_best_32 12 rfl rfl)
theorem dX12_best_57 : decode cX12_best 57 = .ok (.istore_n 2, 1) := dc_61 (sg_at zd_dX12_best_32 13 rfl rfl)
theorem dX12_best_58 : decode cX12_best 58 = .ok (.iload 5, 2) := dc_21 (sg_at zd_dX12_best_32 14 rfl rfl)
theorem dX12_best_60 : decode cX12_best 60 = .ok (.istore_n 3, 1) := dc_62 (sg_at zd_dX12_best_32 15 rfl rfl)
theorem dX12_best_61 : decode cX12_best 61 = .ok (.iinc 4 1, 3) := dc_132 (sg_at zd_dX12_best_32 16 rfl rfl) rfl
theorem dX12_best_64 : decode cX12_best 64 = .ok (.goto (-42), 3) := dc_167 (sg_at zd_dX12_best_32 17 rfl rfl) rfl
theorem dX12_best_67 : decode cX12_best 67 = .ok (.iload_n 2, 1) := dc_28 (sg_at zd_dX12_best_32 18 rfl rfl)
theorem dX12_best_68 : decode cX12_best 68 = .ok (.ireturn, 1) := dc_172 (sg_at zd_dX12_best_32 19 rfl rfl)
theorem zd_dX12_rank_0 : sg (cX12_rank.data.toList.drop 0) [[26], [16, 13], [161, 0, 8], [16, 6], [167, 0, 50], [26], [16, 11], [161, 0, 7], [8], [167, 0, 40], [26], [8], [161, 0, 7], [7], [167, 0, 31], [26], [5], [160, 0, 7], [6], [167, 0, 22]] = true := by decide +kernel
theorem dX12_rank_0 : decode cX12_rank 0 = .ok (.iload_n 0, 1) := dc_26 (sg_at zd_dX12_rank_0 0 rfl rfl)
theorem dX12_rank_1 : decode cX12_rank 1 = .ok (.bipush 13, 2) := dc_16 (sg_at zd_dX12_rank_0 1 rfl rfl) rfl
theorem dX12_rank_3 : decode cX12_rank 3 = .ok (.if_icmp .lt 8, 3) := dc_161 (sg_at zd_dX12_rank_0 2 rfl rfl) rfl
theorem dX12_rank_6 : decode cX12_rank 6 = .ok (.bipush 6, 2) := dc_16 (sg_at zd_dX12_rank_0 3 rfl rfl) rfl
theorem dX12_rank_8 : decode cX12_rank 8 = .ok (.goto 50, 3) := dc_167 (sg_at zd_dX12_rank_0 4 rfl rfl) rfl
theorem dX12_rank_11 : decode cX12_rank 11 = .ok (.iload_n 0, 1) := dc_26 (sg_at zd_dX12_rank_0 5 rfl rfl)
theorem dX12_rank_12 : decode cX12_rank 12 = .ok (.bipush 11, 2) := dc_16 (sg_at zd_dX12_rank_0 6 rfl rfl) rfl
theorem dX12_rank_14 : decode cX12_rank 14 = .ok (.if_icmp .lt 7, 3) := dc_161 (sg_at zd_dX12_rank_0 7 rfl rfl) rfl
theorem dX12_rank_17 : decode cX12_rank 17 = .ok (.iconst 5, 1) := dc_8 (sg_at zd_dX12_rank_0 8 rfl rfl)
theorem dX12_rank_18 : decode cX12_rank 18 = .ok (.goto 40, 3) := dc_167 (sg_at zd_dX12_rank_0 9 rfl rfl) rfl
theorem dX12_rank_21 : decode cX12_rank 21 = .ok (.iload_n 0, 1) := dc_26 (sg_at zd_dX12_rank_0 10 rfl rfl)
theorem dX12_rank_22 : decode cX12_rank 22 = .ok (.iconst 5, 1) := dc_8 (sg_at zd_dX12_rank_0 11 rfl rfl)
theorem dX12_rank_23 : decode cX12_rank 23 = .ok (.if_icmp .lt 7, 3) := dc_161 (sg_at zd_dX12_rank_0 12 rfl rfl) rfl
theorem dX12_rank_26 : decode cX12_rank 26 = .ok (.iconst 4, 1) := dc_7 (sg_at zd_dX12_rank_0 13 rfl rfl)
theorem dX12_rank_27 : decode cX12_rank 27 = .ok (.goto 31, 3) := dc_167 (sg_at zd_dX12_rank_0 14 rfl rfl) rfl
theorem dX12_rank_30 : decode cX12_rank 30 = .ok (.iload_n 0, 1) := dc_26 (sg_at zd_dX12_rank_0 15 rfl rfl)
theorem dX12_rank_31 : decode cX12_rank 31 = .ok (.iconst 2, 1) := dc_5 (sg_at zd_dX12_rank_0 16 rfl rfl)
theorem dX12_rank_32 : decode cX12_rank 32 = .ok (.if_icmp .ne 7, 3) := dc_160 (sg_at zd_dX12_rank_0 17 rfl rfl) rfl
theorem dX12_rank_35 : decode cX12_rank 35 = .ok (.iconst 3, 1) := dc_6 (sg_at zd_dX12_rank_0 18 rfl rfl)
theorem dX12_rank_36 : decode cX12_rank 36 = .ok (.goto 22, 3) := dc_167 (sg_at zd_dX12_rank_0 19 rfl rfl) rfl
theorem zd_dX12_rank_39 : sg (cX12_rank.data.toList.drop 39) [[26], [6], [160, 0, 7], [5], [167, 0, 13], [26], [7], [160, 0, 7], [4], [167, 0, 4], [3], [172]] = true := by decide +kernel
theorem dX12_rank_39 : decode cX12_rank 39 = .ok (.iload_n 0, 1) := dc_26 (sg_at zd_dX12_rank_39 0 rfl rfl)
theorem dX12_rank_40 : decode cX12_rank 40 = .ok (.iconst 3, 1) := dc_6 (sg_at zd_dX12_rank_39 1 rfl rfl)
theorem dX12_rank_41 : decode cX12_rank 41 = .ok (.if_icmp .ne 7, 3) := dc_160 (sg_at zd_dX12_rank_39 2 rfl rfl) rfl
theorem dX12_rank_44 : decode cX12_rank 44 = .ok (.iconst 2, 1) := dc_5 (sg_at zd_dX12_rank_39 3 rfl rfl)
theorem dX12_rank_45 : decode cX12_rank 45 = .ok (.goto 13, 3) := dc_167 (sg_at zd_dX12_rank_39 4 rfl rfl) rfl
theorem dX12_rank_48 : decode cX12_rank 48 = .ok (.iload_n 0, 1) := dc_26 (sg_at zd_dX12_rank_39 5 rfl rfl)
theorem dX12_rank_49 : decode cX12_rank 49 = .ok (.iconst 4, 1) := dc_7 (sg_at zd_dX12_rank_39 6 rfl rfl)
theorem dX12_rank_50 : decode cX12_rank 50 = .ok (.if_icmp .ne 7, 3) := dc_160 (sg_at zd_dX12_rank_39 7 rfl rfl) rfl
theorem dX12_rank_53 : decode cX12_rank 53 = .ok (.iconst 1, 1) := dc_4 (sg_at zd_dX12_rank_39 8 rfl rfl)
theorem dX12_rank_54 : decode cX12_rank 54 = .ok (.goto 4, 3) := dc_167 (sg_at zd_dX12_rank_39 9 rfl rfl) rfl
theorem dX12_rank_57 : decode cX12_rank 57 = .ok (.iconst 0, 1) := dc_3 (sg_at zd_dX12_rank_39 10 rfl rfl)
theorem dX12_rank_58 : decode cX12_rank 58 = .ok (.ireturn, 1) := dc_172 (sg_at zd_dX12_rank_39 11 rfl rfl)
theorem zd_dX12_dropHeld_0 : sg (cX12_dropHeld.data.toList.drop 0) [[42], [89], [180, 1, 42], [4], [100], [181, 1, 42], [42], [180, 0, 78], [42], [180, 1, 42], [46], [172]] = true := by decide +kernel
theorem dX12_dropHeld_0 : decode cX12_dropHeld 0 = .ok (.aload_n 0, 1) := dc_42 (sg_at zd_dX12_dropHeld_0 0 rfl rfl)
theorem dX12_dropHeld_1 : decode cX12_dropHeld 1 = .ok (.dup, 1) := dc_89 (sg_at zd_dX12_dropHeld_0 1 rfl rfl)
theorem dX12_dropHeld_2 : decode cX12_dropHeld 2 = .ok (.getfield 298, 3) := dc_180 (sg_at zd_dX12_dropHeld_0 2 rfl rfl) rfl
theorem dX12_dropHeld_5 : decode cX12_dropHeld 5 = .ok (.iconst 1, 1) := dc_4 (sg_at zd_dX12_dropHeld_0 3 rfl rfl)
theorem dX12_dropHeld_6 : decode cX12_dropHeld 6 = .ok (.isub, 1) := dc_100 (sg_at zd_dX12_dropHeld_0 4 rfl rfl)
theorem dX12_dropHeld_7 : decode cX12_dropHeld 7 = .ok (.putfield 298, 3) := dc_181 (sg_at zd_dX12_dropHeld_0 5 rfl rfl) rfl
theorem dX12_dropHeld_10 : decode cX12_dropHeld 10 = .ok (.aload_n 0, 1) := dc_42 (sg_at zd_dX12_dropHeld_0 6 rfl rfl)
theorem dX12_dropHeld_11 : decode cX12_dropHeld 11 = .ok (.getfield 78, 3) := dc_180 (sg_at zd_dX12_dropHeld_0 7 rfl rfl) rfl
theorem dX12_dropHeld_14 : decode cX12_dropHeld 14 = .ok (.aload_n 0, 1) := dc_42 (sg_at zd_dX12_dropHeld_0 8 rfl rfl)
theorem dX12_dropHeld_15 : decode cX12_dropHeld 15 = .ok (.getfield 298, 3) := dc_180 (sg_at zd_dX12_dropHeld_0 9 rfl rfl) rfl
theorem dX12_dropHeld_18 : decode cX12_dropHeld 18 = .ok (.iaload, 1) := dc_46 (sg_at zd_dX12_dropHeld_0 10 rfl rfl)
theorem dX12_dropHeld_19 : decode cX12_dropHeld 19 = .ok (.ireturn, 1) := dc_172 (sg_at zd_dX12_dropHeld_0 11 rfl rfl)
theorem zd_dX12_grown_0 : sg (cX12_grown.data.toList.drop 0) [[42], [180, 0, 66], [16, 64], [42], [180, 0, 231], [96], [27], [79], [42], [180, 0, 69], [16, 64], [42], [180, 0, 231], [96], [28], [79], [42], [180, 0, 72], [16, 64], [42]] = true := by decide +kernel
theorem dX12_grown_0 : decode cX12_grown 0 = .ok (.aload_n 0, 1) := dc_42 (sg_at zd_dX12_grown_0 0 rfl rfl)
theorem dX12_grown_1 : decode cX12_grown 1 = .ok (.getfield 66, 3) := dc_180 (sg_at zd_dX12_grown_0 1 rfl rfl) rfl
theorem dX12_grown_4 : decode cX12_grown 4 = .ok (.bipush 64, 2) := dc_16 (sg_at zd_dX12_grown_0 2 rfl rfl) rfl
theorem dX12_grown_6 : decode cX12_grown 6 = .ok (.aload_n 0, 1) := dc_42 (sg_at zd_dX12_grown_0 3 rfl rfl)
theorem dX12_grown_7 : decode cX12_grown 7 = .ok (.getfield 231, 3) := dc_180 (sg_at zd_dX12_grown_0 4 rfl rfl) rfl
theorem dX12_grown_10 : decode cX12_grown 10 = .ok (.iadd, 1) := dc_96 (sg_at zd_dX12_grown_0 5 rfl rfl)
theorem dX12_grown_11 : decode cX12_grown 11 = .ok (.iload_n 1, 1) := dc_27 (sg_at zd_dX12_grown_0 6 rfl rfl)
theorem dX12_grown_12 : decode cX12_grown 12 = .ok (.iastore, 1) := dc_79 (sg_at zd_dX12_grown_0 7 rfl rfl)
theorem dX12_grown_13 : decode cX12_grown 13 = .ok (.aload_n 0, 1) := dc_42 (sg_at zd_dX12_grown_0 8 rfl rfl)
theorem dX12_grown_14 : decode cX12_grown 14 = .ok (.getfield 69, 3) := dc_180 (sg_at zd_dX12_grown_0 9 rfl rfl) rfl
theorem dX12_grown_17 : decode cX12_grown 17 = .ok (.bipush 64, 2) := dc_16 (sg_at zd_dX12_grown_0 10 rfl rfl) rfl
theorem dX12_grown_19 : decode cX12_grown 19 = .ok (.aload_n 0, 1) := dc_42 (sg_at zd_dX12_grown_0 11 rfl rfl)
theorem dX12_grown_20 : decode cX12_grown 20 = .ok (.getfield 231, 3) := dc_180 (sg_at zd_dX12_grown_0 12 rfl rfl) rfl
theorem dX12_grown_23 : decode cX12_grown 23 = .ok (.iadd, 1) := dc_96 (sg_at zd_dX12_grown_0 13 rfl rfl)
theorem dX12_grown_24 : decode cX12_grown 24 = .ok (.iload_n 2, 1) := dc_28 (sg_at zd_dX12_grown_0 14 rfl rfl)
theorem dX12_grown_25 : decode cX12_grown 25 = .ok (.iastore, 1) := dc_79 (sg_at zd_dX12_grown_0 15 rfl rfl)
theorem dX12_grown_26 : decode cX12_grown 26 = .ok (.aload_n 0, 1) := dc_42 (sg_at zd_dX12_grown_0 16 rfl rfl)
theorem dX12_grown_27 : decode cX12_grown 27 = .ok (.getfield 72, 3) := dc_180 (sg_at zd_dX12_grown_0 17 rfl rfl) rfl
theorem dX12_grown_30 : decode cX12_grown 30 = .ok (.bipush 64, 2) := dc_16 (sg_at zd_dX12_grown_0 18 rfl rfl) rfl
theorem dX12_grown_32 : decode cX12_grown 32 = .ok (.aload_n 0, 1) := dc_42 (sg_at zd_dX12_grown_0 19 rfl rfl)
theorem zd_dX12_grown_33 : sg (cX12_grown.data.toList.drop 33) [[180, 0, 231], [96], [29], [79], [42], [180, 0, 78], [42], [180, 1, 42], [42], [180, 0, 231], [79], [42], [89], [180, 1, 42], [4], [96], [181, 1, 42], [42], [89], [180, 0, 231]] = true := by decide +kernel
theorem dX12_grown_33 : decode cX12_grown 33 = .ok (.getfield 231, 3) := dc_180 (sg_at zd_dX12_grown_33 0 rfl rfl) rfl
theorem dX12_grown_36 : decode cX12_grown 36 = .ok (.iadd, 1) := dc_96 (sg_at zd_dX12_grown_33 1 rfl rfl)
theorem dX12_grown_37 : decode cX12_grown 37 = .ok (.iload_n 3, 1) := dc_29 (sg_at zd_dX12_grown_33 2 rfl rfl)
theorem dX12_grown_38 : decode cX12_grown 38 = .ok (.iastore, 1) := dc_79 (sg_at zd_dX12_grown_33 3 rfl rfl)
theorem dX12_grown_39 : decode cX12_grown 39 = .ok (.aload_n 0, 1) := dc_42 (sg_at zd_dX12_grown_33 4 rfl rfl)
theorem dX12_grown_40 : decode cX12_grown 40 = .ok (.getfield 78, 3) := dc_180 (sg_at zd_dX12_grown_33 5 rfl rfl) rfl
theorem dX12_grown_43 : decode cX12_grown 43 = .ok (.aload_n 0, 1) := dc_42 (sg_at zd_dX12_grown_33 6 rfl rfl)
theorem dX12_grown_44 : decode cX12_grown 44 = .ok (.getfield 298, 3) := dc_180 (sg_at zd_dX12_grown_33 7 rfl rfl) rfl
theorem dX12_grown_47 : decode cX12_grown 47 = .ok (.aload_n 0, 1) := dc_42 (sg_at zd_dX12_grown_33 8 rfl rfl)
theorem dX12_grown_48 : decode cX12_grown 48 = .ok (.getfield 231, 3) := dc_180 (sg_at zd_dX12_grown_33 9 rfl rfl) rfl
theorem dX12_grown_51 : decode cX12_grown 51 = .ok (.iastore, 1) := dc_79 (sg_at zd_dX12_grown_33 10 rfl rfl)
theorem dX12_grown_52 : decode cX12_grown 52 = .ok (.aload_n 0, 1) := dc_42 (sg_at zd_dX12_grown_33 11 rfl rfl)
theorem dX12_grown_53 : decode cX12_grown 53 = .ok (.dup, 1) := dc_89 (sg_at zd_dX12_grown_33 12 rfl rfl)
theorem dX12_grown_54 : decode cX12_grown 54 = .ok (.getfield 298, 3) := dc_180 (sg_at zd_dX12_grown_33 13 rfl rfl) rfl
theorem dX12_grown_57 : decode cX12_grown 57 = .ok (.iconst 1, 1) := dc_4 (sg_at zd_dX12_grown_33 14 rfl rfl)
theorem dX12_grown_58 : decode cX12_grown 58 = .ok (.iadd, 1) := dc_96 (sg_at zd_dX12_grown_33 15 rfl rfl)
theorem dX12_grown_59 : decode cX12_grown 59 = .ok (.putfield 298, 3) := dc_181 (sg_at zd_dX12_grown_33 16 rfl rfl) rfl
theorem dX12_grown_62 : decode cX12_grown 62 = .ok (.aload_n 0, 1) := dc_42 (sg_at zd_dX12_grown_33 17 rfl rfl)
theorem dX12_grown_63 : decode cX12_grown 63 = .ok (.dup, 1) := dc_89 (sg_at zd_dX12_grown_33 18 rfl rfl)
theorem dX12_grown_64 : decode cX12_grown 64 = .ok (.getfield 231, 3) := dc_180 (sg_at zd_dX12_grown_33 19 rfl rfl) rfl
theorem zd_dX12_grown_67 : sg (cX12_grown.data.toList.drop 67) [[4], [96], [181, 0, 231], [177]] = true := by decide +kernel
theorem dX12_grown_67 : decode cX12_grown 67 = .ok (.iconst 1, 1) := dc_4 (sg_at zd_dX12_grown_67 0 rfl rfl)
theorem dX12_grown_68 : decode cX12_grown 68 = .ok (.iadd, 1) := dc_96 (sg_at zd_dX12_grown_67 1 rfl rfl)
theorem dX12_grown_69 : decode cX12_grown 69 = .ok (.putfield 231, 3) := dc_181 (sg_at zd_dX12_grown_67 2 rfl rfl) rfl
theorem dX12_grown_72 : decode cX12_grown 72 = .ok (.return_, 1) := dc_177 (sg_at zd_dX12_grown_67 3 rfl rfl)
theorem zd_dX12_bind_0 : sg (cX12_bind.data.toList.drop 0) [[42], [180, 1, 45], [158, 0, 72], [42], [180, 0, 75], [42], [180, 1, 45], [4], [100], [46], [184, 1, 48], [27], [161, 0, 54], [42], [89], [180, 1, 45], [4], [100], [181, 1, 45], [42]] = true := by decide +kernel
theorem dX12_bind_0 : decode cX12_bind 0 = .ok (.aload_n 0, 1) := dc_42 (sg_at zd_dX12_bind_0 0 rfl rfl)
theorem dX12_bind_1 : decode cX12_bind 1 = .ok (.getfield 301, 3) := dc_180 (sg_at zd_dX12_bind_0 1 rfl rfl) rfl
theorem dX12_bind_4 : decode cX12_bind 4 = .ok (.ifCond .le 72, 3) := dc_158 (sg_at zd_dX12_bind_0 2 rfl rfl) rfl
theorem dX12_bind_7 : decode cX12_bind 7 = .ok (.aload_n 0, 1) := dc_42 (sg_at zd_dX12_bind_0 3 rfl rfl)
theorem dX12_bind_8 : decode cX12_bind 8 = .ok (.getfield 75, 3) := dc_180 (sg_at zd_dX12_bind_0 4 rfl rfl) rfl
theorem dX12_bind_11 : decode cX12_bind 11 = .ok (.aload_n 0, 1) := dc_42 (sg_at zd_dX12_bind_0 5 rfl rfl)
theorem dX12_bind_12 : decode cX12_bind 12 = .ok (.getfield 301, 3) := dc_180 (sg_at zd_dX12_bind_0 6 rfl rfl) rfl
theorem dX12_bind_15 : decode cX12_bind 15 = .ok (.iconst 1, 1) := dc_4 (sg_at zd_dX12_bind_0 7 rfl rfl)
theorem dX12_bind_16 : decode cX12_bind 16 = .ok (.isub, 1) := dc_100 (sg_at zd_dX12_bind_0 8 rfl rfl)
theorem dX12_bind_17 : decode cX12_bind 17 = .ok (.iaload, 1) := dc_46 (sg_at zd_dX12_bind_0 9 rfl rfl)
theorem dX12_bind_18 : decode cX12_bind 18 = .ok (.invokestatic 304, 3) := dc_184 (sg_at zd_dX12_bind_0 10 rfl rfl) rfl
theorem dX12_bind_21 : decode cX12_bind 21 = .ok (.iload_n 1, 1) := dc_27 (sg_at zd_dX12_bind_0 11 rfl rfl)
theorem dX12_bind_22 : decode cX12_bind 22 = .ok (.if_icmp .lt 54, 3) := dc_161 (sg_at zd_dX12_bind_0 12 rfl rfl) rfl
theorem dX12_bind_25 : decode cX12_bind 25 = .ok (.aload_n 0, 1) := dc_42 (sg_at zd_dX12_bind_0 13 rfl rfl)
theorem dX12_bind_26 : decode cX12_bind 26 = .ok (.dup, 1) := dc_89 (sg_at zd_dX12_bind_0 14 rfl rfl)
theorem dX12_bind_27 : decode cX12_bind 27 = .ok (.getfield 301, 3) := dc_180 (sg_at zd_dX12_bind_0 15 rfl rfl) rfl
theorem dX12_bind_30 : decode cX12_bind 30 = .ok (.iconst 1, 1) := dc_4 (sg_at zd_dX12_bind_0 16 rfl rfl)
theorem dX12_bind_31 : decode cX12_bind 31 = .ok (.isub, 1) := dc_100 (sg_at zd_dX12_bind_0 17 rfl rfl)
theorem dX12_bind_32 : decode cX12_bind 32 = .ok (.putfield 301, 3) := dc_181 (sg_at zd_dX12_bind_0 18 rfl rfl) rfl
theorem dX12_bind_35 : decode cX12_bind 35 = .ok (.aload_n 0, 1) := dc_42 (sg_at zd_dX12_bind_0 19 rfl rfl)
theorem zd_dX12_bind_36 : sg (cX12_bind.data.toList.drop 36) [[180, 0, 75], [42], [180, 1, 45], [46], [61], [28], [5], [160, 0, 7], [2], [167, 0, 7], [42], [182, 1, 52], [62], [42], [182, 1, 52], [54, 4], [42], [28], [21, 4], [29]] = true := by decide +kernel
theorem dX12_bind_36 : decode cX12_bind 36 = .ok (.getfield 75, 3) := dc_180 (sg_at zd_dX12_bind_36 0 rfl rfl) rfl
theorem dX12_bind_39 : decode cX12_bind 39 = .ok (.aload_n 0, 1) := dc_42 (sg_at zd_dX12_bind_36 1 rfl rfl)
theorem dX12_bind_40 : decode cX12_bind 40 = .ok (.getfield 301, 3) := dc_180 (sg_at zd_dX12_bind_36 2 rfl rfl) rfl
theorem dX12_bind_43 : decode cX12_bind 43 = .ok (.iaload, 1) := dc_46 (sg_at zd_dX12_bind_36 3 rfl rfl)
theorem dX12_bind_44 : decode cX12_bind 44 = .ok (.istore_n 2, 1) := dc_61 (sg_at zd_dX12_bind_36 4 rfl rfl)
theorem dX12_bind_45 : decode cX12_bind 45 = .ok (.iload_n 2, 1) := dc_28 (sg_at zd_dX12_bind_36 5 rfl rfl)
theorem dX12_bind_46 : decode cX12_bind 46 = .ok (.iconst 2, 1) := dc_5 (sg_at zd_dX12_bind_36 6 rfl rfl)
theorem dX12_bind_47 : decode cX12_bind 47 = .ok (.if_icmp .ne 7, 3) := dc_160 (sg_at zd_dX12_bind_36 7 rfl rfl) rfl
theorem dX12_bind_50 : decode cX12_bind 50 = .ok (.iconst (-1), 1) := dc_2 (sg_at zd_dX12_bind_36 8 rfl rfl)
theorem dX12_bind_51 : decode cX12_bind 51 = .ok (.goto 7, 3) := dc_167 (sg_at zd_dX12_bind_36 9 rfl rfl) rfl
theorem dX12_bind_54 : decode cX12_bind 54 = .ok (.aload_n 0, 1) := dc_42 (sg_at zd_dX12_bind_36 10 rfl rfl)
theorem dX12_bind_55 : decode cX12_bind 55 = .ok (.invokevirtual 308, 3) := dc_182 (sg_at zd_dX12_bind_36 11 rfl rfl) rfl
theorem dX12_bind_58 : decode cX12_bind 58 = .ok (.istore_n 3, 1) := dc_62 (sg_at zd_dX12_bind_36 12 rfl rfl)
theorem dX12_bind_59 : decode cX12_bind 59 = .ok (.aload_n 0, 1) := dc_42 (sg_at zd_dX12_bind_36 13 rfl rfl)
theorem dX12_bind_60 : decode cX12_bind 60 = .ok (.invokevirtual 308, 3) := dc_182 (sg_at zd_dX12_bind_36 14 rfl rfl) rfl
theorem dX12_bind_63 : decode cX12_bind 63 = .ok (.istore 4, 2) := dc_54 (sg_at zd_dX12_bind_36 15 rfl rfl)
theorem dX12_bind_65 : decode cX12_bind 65 = .ok (.aload_n 0, 1) := dc_42 (sg_at zd_dX12_bind_36 16 rfl rfl)
theorem dX12_bind_66 : decode cX12_bind 66 = .ok (.iload_n 2, 1) := dc_28 (sg_at zd_dX12_bind_36 17 rfl rfl)
theorem dX12_bind_67 : decode cX12_bind 67 = .ok (.iload 4, 2) := dc_21 (sg_at zd_dX12_bind_36 18 rfl rfl)
theorem dX12_bind_69 : decode cX12_bind 69 = .ok (.iload_n 3, 1) := dc_29 (sg_at zd_dX12_bind_36 19 rfl rfl)
theorem zd_dX12_bind_70 : sg (cX12_bind.data.toList.drop 70) [[182, 1, 56], [167, 255, 183], [177]] = true := by decide +kernel
theorem dX12_bind_70 : decode cX12_bind 70 = .ok (.invokevirtual 312, 3) := dc_182 (sg_at zd_dX12_bind_70 0 rfl rfl) rfl
theorem dX12_bind_73 : decode cX12_bind 73 = .ok (.goto (-73), 3) := dc_167 (sg_at zd_dX12_bind_70 1 rfl rfl) rfl
theorem dX12_bind_76 : decode cX12_bind 76 = .ok (.return_, 1) := dc_177 (sg_at zd_dX12_bind_70 2 rfl rfl)
theorem zd_dX12_cellRead_0 : sg (cX12_cellRead.data.toList.drop 0) [[42], [4], [181, 0, 237], [42], [3], [42], [180, 0, 216], [4], [100], [182, 0, 212], [154, 0, 5], [3], [172], [42], [42], [180, 0, 203], [181, 1, 10], [42], [3], [42]] = true := by decide +kernel
theorem dX12_cellRead_0 : decode cX12_cellRead 0 = .ok (.aload_n 0, 1) := dc_42 (sg_at zd_dX12_cellRead_0 0 rfl rfl)
theorem dX12_cellRead_1 : decode cX12_cellRead 1 = .ok (.iconst 1, 1) := dc_4 (sg_at zd_dX12_cellRead_0 1 rfl rfl)
theorem dX12_cellRead_2 : decode cX12_cellRead 2 = .ok (.putfield 237, 3) := dc_181 (sg_at zd_dX12_cellRead_0 2 rfl rfl) rfl
theorem dX12_cellRead_5 : decode cX12_cellRead 5 = .ok (.aload_n 0, 1) := dc_42 (sg_at zd_dX12_cellRead_0 3 rfl rfl)
theorem dX12_cellRead_6 : decode cX12_cellRead 6 = .ok (.iconst 0, 1) := dc_3 (sg_at zd_dX12_cellRead_0 4 rfl rfl)
theorem dX12_cellRead_7 : decode cX12_cellRead 7 = .ok (.aload_n 0, 1) := dc_42 (sg_at zd_dX12_cellRead_0 5 rfl rfl)
theorem dX12_cellRead_8 : decode cX12_cellRead 8 = .ok (.getfield 216, 3) := dc_180 (sg_at zd_dX12_cellRead_0 6 rfl rfl) rfl
theorem dX12_cellRead_11 : decode cX12_cellRead 11 = .ok (.iconst 1, 1) := dc_4 (sg_at zd_dX12_cellRead_0 7 rfl rfl)
theorem dX12_cellRead_12 : decode cX12_cellRead 12 = .ok (.isub, 1) := dc_100 (sg_at zd_dX12_cellRead_0 8 rfl rfl)
theorem dX12_cellRead_13 : decode cX12_cellRead 13 = .ok (.invokevirtual 212, 3) := dc_182 (sg_at zd_dX12_cellRead_0 9 rfl rfl) rfl
theorem dX12_cellRead_16 : decode cX12_cellRead 16 = .ok (.ifCond .ne 5, 3) := dc_154 (sg_at zd_dX12_cellRead_0 10 rfl rfl) rfl
theorem dX12_cellRead_19 : decode cX12_cellRead 19 = .ok (.iconst 0, 1) := dc_3 (sg_at zd_dX12_cellRead_0 11 rfl rfl)
theorem dX12_cellRead_20 : decode cX12_cellRead 20 = .ok (.ireturn, 1) := dc_172 (sg_at zd_dX12_cellRead_0 12 rfl rfl)
theorem dX12_cellRead_21 : decode cX12_cellRead 21 = .ok (.aload_n 0, 1) := dc_42 (sg_at zd_dX12_cellRead_0 13 rfl rfl)
theorem dX12_cellRead_22 : decode cX12_cellRead 22 = .ok (.aload_n 0, 1) := dc_42 (sg_at zd_dX12_cellRead_0 14 rfl rfl)
theorem dX12_cellRead_23 : decode cX12_cellRead 23 = .ok (.getfield 203, 3) := dc_180 (sg_at zd_dX12_cellRead_0 15 rfl rfl) rfl
theorem dX12_cellRead_26 : decode cX12_cellRead 26 = .ok (.putfield 266, 3) := dc_181 (sg_at zd_dX12_cellRead_0 16 rfl rfl) rfl
theorem dX12_cellRead_29 : decode cX12_cellRead 29 = .ok (.aload_n 0, 1) := dc_42 (sg_at zd_dX12_cellRead_0 17 rfl rfl)
theorem dX12_cellRead_30 : decode cX12_cellRead 30 = .ok (.iconst 0, 1) := dc_3 (sg_at zd_dX12_cellRead_0 18 rfl rfl)
theorem dX12_cellRead_31 : decode cX12_cellRead 31 = .ok (.aload_n 0, 1) := dc_42 (sg_at zd_dX12_cellRead_0 19 rfl rfl)
theorem zd_dX12_cellRead_32 : sg (cX12_cellRead.data.toList.drop 32) [[180, 0, 219], [4], [100], [182, 0, 212], [154, 0, 5], [3], [172], [4], [172]] = true := by decide +kernel
theorem dX12_cellRead_32 : decode cX12_cellRead 32 = .ok (.getfield 219, 3) := dc_180 (sg_at zd_dX12_cellRead_32 0 rfl rfl) rfl
theorem dX12_cellRead_35 : decode cX12_cellRead 35 = .ok (.iconst 1, 1) := dc_4 (sg_at zd_dX12_cellRead_32 1 rfl rfl)
theorem dX12_cellRead_36 : decode cX12_cellRead 36 = .ok (.isub, 1) := dc_100 (sg_at zd_dX12_cellRead_32 2 rfl rfl)
theorem dX12_cellRead_37 : decode cX12_cellRead 37 = .ok (.invokevirtual 212, 3) := dc_182 (sg_at zd_dX12_cellRead_32 3 rfl rfl) rfl
theorem dX12_cellRead_40 : decode cX12_cellRead 40 = .ok (.ifCond .ne 5, 3) := dc_154 (sg_at zd_dX12_cellRead_32 4 rfl rfl) rfl
theorem dX12_cellRead_43 : decode cX12_cellRead 43 = .ok (.iconst 0, 1) := dc_3 (sg_at zd_dX12_cellRead_32 5 rfl rfl)
theorem dX12_cellRead_44 : decode cX12_cellRead 44 = .ok (.ireturn, 1) := dc_172 (sg_at zd_dX12_cellRead_32 6 rfl rfl)
theorem dX12_cellRead_45 : decode cX12_cellRead 45 = .ok (.iconst 1, 1) := dc_4 (sg_at zd_dX12_cellRead_32 7 rfl rfl)
theorem dX12_cellRead_46 : decode cX12_cellRead 46 = .ok (.ireturn, 1) := dc_172 (sg_at zd_dX12_cellRead_32 8 rfl rfl)
theorem zd_dX12_layTried_0 : sg (cX12_layTried.data.toList.drop 0) [[3], [60], [27], [8], [162, 0, 65], [42], [180, 0, 88], [8], [27], [96], [42], [180, 0, 88], [27], [46], [79], [42], [180, 0, 91], [8], [27], [96]] = true := by decide +kernel
theorem dX12_layTried_0 : decode cX12_layTried 0 = .ok (.iconst 0, 1) := dc_3 (sg_at zd_dX12_layTried_0 0 rfl rfl)
theorem dX12_layTried_1 : decode cX12_layTried 1 = .ok (.istore_n 1, 1) := dc_60 (sg_at zd_dX12_layTried_0 1 rfl rfl)
theorem dX12_layTried_2 : decode cX12_layTried 2 = .ok (.iload_n 1, 1) := dc_27 (sg_at zd_dX12_layTried_0 2 rfl rfl)
theorem dX12_layTried_3 : decode cX12_layTried 3 = .ok (.iconst 5, 1) := dc_8 (sg_at zd_dX12_layTried_0 3 rfl rfl)
theorem dX12_layTried_4 : decode cX12_layTried 4 = .ok (.if_icmp .ge 65, 3) := dc_162 (sg_at zd_dX12_layTried_0 4 rfl rfl) rfl
theorem dX12_layTried_7 : decode cX12_layTried 7 = .ok (.aload_n 0, 1) := dc_42 (sg_at zd_dX12_layTried_0 5 rfl rfl)
theorem dX12_layTried_8 : decode cX12_layTried 8 = .ok (.getfield 88, 3) := dc_180 (sg_at zd_dX12_layTried_0 6 rfl rfl) rfl
theorem dX12_layTried_11 : decode cX12_layTried 11 = .ok (.iconst 5, 1) := dc_8 (sg_at zd_dX12_layTried_0 7 rfl rfl)
theorem dX12_layTried_12 : decode cX12_layTried 12 = .ok (.iload_n 1, 1) := dc_27 (sg_at zd_dX12_layTried_0 8 rfl rfl)
theorem dX12_layTried_13 : decode cX12_layTried 13 = .ok (.iadd, 1) := dc_96 (sg_at zd_dX12_layTried_0 9 rfl rfl)
theorem dX12_layTried_14 : decode cX12_layTried 14 = .ok (.aload_n 0, 1) := dc_42 (sg_at zd_dX12_layTried_0 10 rfl rfl)
theorem dX12_layTried_15 : decode cX12_layTried 15 = .ok (.getfield 88, 3) := dc_180 (sg_at zd_dX12_layTried_0 11 rfl rfl) rfl
theorem dX12_layTried_18 : decode cX12_layTried 18 = .ok (.iload_n 1, 1) := dc_27 (sg_at zd_dX12_layTried_0 12 rfl rfl)
theorem dX12_layTried_19 : decode cX12_layTried 19 = .ok (.iaload, 1) := dc_46 (sg_at zd_dX12_layTried_0 13 rfl rfl)
theorem dX12_layTried_20 : decode cX12_layTried 20 = .ok (.iastore, 1) := dc_79 (sg_at zd_dX12_layTried_0 14 rfl rfl)
theorem dX12_layTried_21 : decode cX12_layTried 21 = .ok (.aload_n 0, 1) := dc_42 (sg_at zd_dX12_layTried_0 15 rfl rfl)
theorem dX12_layTried_22 : decode cX12_layTried 22 = .ok (.getfield 91, 3) := dc_180 (sg_at zd_dX12_layTried_0 16 rfl rfl) rfl
theorem dX12_layTried_25 : decode cX12_layTried 25 = .ok (.iconst 5, 1) := dc_8 (sg_at zd_dX12_layTried_0 17 rfl rfl)
theorem dX12_layTried_26 : decode cX12_layTried 26 = .ok (.iload_n 1, 1) := dc_27 (sg_at zd_dX12_layTried_0 18 rfl rfl)
theorem dX12_layTried_27 : decode cX12_layTried 27 = .ok (.iadd, 1) := dc_96 (sg_at zd_dX12_layTried_0 19 rfl rfl)
theorem zd_dX12_layTried_28 : sg (cX12_layTried.data.toList.drop 28) [[42], [180, 0, 91], [27], [46], [79], [42], [180, 0, 94], [8], [27], [96], [42], [180, 0, 94], [27], [46], [79], [42], [180, 0, 97], [8], [27], [96]] = true := by decide +kernel
theorem dX12_layTried_28 : decode cX12_layTried 28 = .ok (.aload_n 0, 1) := dc_42 (sg_at zd_dX12_layTried_28 0 rfl rfl)
theorem dX12_layTried_29 : decode cX12_layTried 29 = .ok (.getfield 91, 3) := dc_180 (sg_at zd_dX12_layTried_28 1 rfl rfl) rfl
theorem dX12_layTried_32 : decode cX12_layTried 32 = .ok (.iload_n 1, 1) := dc_27 (sg_at zd_dX12_layTried_28 2 rfl rfl)
theorem dX12_layTried_33 : decode cX12_layTried 33 = .ok (.iaload, 1) := dc_46 (sg_at zd_dX12_layTried_28 3 rfl rfl)
theorem dX12_layTried_34 : decode cX12_layTried 34 = .ok (.iastore, 1) := dc_79 (sg_at zd_dX12_layTried_28 4 rfl rfl)
theorem dX12_layTried_35 : decode cX12_layTried 35 = .ok (.aload_n 0, 1) := dc_42 (sg_at zd_dX12_layTried_28 5 rfl rfl)
theorem dX12_layTried_36 : decode cX12_layTried 36 = .ok (.getfield 94, 3) := dc_180 (sg_at zd_dX12_layTried_28 6 rfl rfl) rfl
theorem dX12_layTried_39 : decode cX12_layTried 39 = .ok (.iconst 5, 1) := dc_8 (sg_at zd_dX12_layTried_28 7 rfl rfl)
theorem dX12_layTried_40 : decode cX12_layTried 40 = .ok (.iload_n 1, 1) := dc_27 (sg_at zd_dX12_layTried_28 8 rfl rfl)
theorem dX12_layTried_41 : decode cX12_layTried 41 = .ok (.iadd, 1) := dc_96 (sg_at zd_dX12_layTried_28 9 rfl rfl)
theorem dX12_layTried_42 : decode cX12_layTried 42 = .ok (.aload_n 0, 1) := dc_42 (sg_at zd_dX12_layTried_28 10 rfl rfl)
theorem dX12_layTried_43 : decode cX12_layTried 43 = .ok (.getfield 94, 3) := dc_180 (sg_at zd_dX12_layTried_28 11 rfl rfl) rfl
theorem dX12_layTried_46 : decode cX12_layTried 46 = .ok (.iload_n 1, 1) := dc_27 (sg_at zd_dX12_layTried_28 12 rfl rfl)
theorem dX12_layTried_47 : decode cX12_layTried 47 = .ok (.iaload, 1) := dc_46 (sg_at zd_dX12_layTried_28 13 rfl rfl)
theorem dX12_layTried_48 : decode cX12_layTried 48 = .ok (.iastore, 1) := dc_79 (sg_at zd_dX12_layTried_28 14 rfl rfl)
theorem dX12_layTried_49 : decode cX12_layTried 49 = .ok (.aload_n 0, 1) := dc_42 (sg_at zd_dX12_layTried_28 15 rfl rfl)
theorem dX12_layTried_50 : decode cX12_layTried 50 = .ok (.getfield 97, 3) := dc_180 (sg_at zd_dX12_layTried_28 16 rfl rfl) rfl
theorem dX12_layTried_53 : decode cX12_layTried 53 = .ok (.iconst 5, 1) := dc_8 (sg_at zd_dX12_layTried_28 17 rfl rfl)
theorem dX12_layTried_54 : decode cX12_layTried 54 = .ok (.iload_n 1, 1) := dc_27 (sg_at zd_dX12_layTried_28 18 rfl rfl)
theorem dX12_layTried_55 : decode cX12_layTried 55 = .ok (.iadd, 1) := dc_96 (sg_at zd_dX12_layTried_28 19 rfl rfl)
theorem zd_dX12_layTried_56 : sg (cX12_layTried.data.toList.drop 56) [[42], [180, 0, 97], [27], [46], [79], [132, 1, 1], [167, 255, 192], [3], [60], [27], [16, 28], [162, 0, 24], [42], [180, 0, 103], [16, 28], [27], [96], [42], [180, 0, 103], [27]] = true := by decide +kernel
theorem dX12_layTried_56 : decode cX12_layTried 56 = .ok (.aload_n 0, 1) := dc_42 (sg_at zd_dX12_layTried_56 0 rfl rfl)
theorem dX12_layTried_57 : decode cX12_layTried 57 = .ok (.getfield 97, 3) := dc_180 (sg_at zd_dX12_layTried_56 1 rfl rfl) rfl
theorem dX12_layTried_60 : decode cX12_layTried 60 = .ok (.iload_n 1, 1) := dc_27 (sg_at zd_dX12_layTried_56 2 rfl rfl)
theorem dX12_layTried_61 : decode cX12_layTried 61 = .ok (.iaload, 1) := dc_46 (sg_at zd_dX12_layTried_56 3 rfl rfl)
theorem dX12_layTried_62 : decode cX12_layTried 62 = .ok (.iastore, 1) := dc_79 (sg_at zd_dX12_layTried_56 4 rfl rfl)
theorem dX12_layTried_63 : decode cX12_layTried 63 = .ok (.iinc 1 1, 3) := dc_132 (sg_at zd_dX12_layTried_56 5 rfl rfl) rfl
theorem dX12_layTried_66 : decode cX12_layTried 66 = .ok (.goto (-64), 3) := dc_167 (sg_at zd_dX12_layTried_56 6 rfl rfl) rfl
theorem dX12_layTried_69 : decode cX12_layTried 69 = .ok (.iconst 0, 1) := dc_3 (sg_at zd_dX12_layTried_56 7 rfl rfl)
theorem dX12_layTried_70 : decode cX12_layTried 70 = .ok (.istore_n 1, 1) := dc_60 (sg_at zd_dX12_layTried_56 8 rfl rfl)
theorem dX12_layTried_71 : decode cX12_layTried 71 = .ok (.iload_n 1, 1) := dc_27 (sg_at zd_dX12_layTried_56 9 rfl rfl)
theorem dX12_layTried_72 : decode cX12_layTried 72 = .ok (.bipush 28, 2) := dc_16 (sg_at zd_dX12_layTried_56 10 rfl rfl) rfl
theorem dX12_layTried_74 : decode cX12_layTried 74 = .ok (.if_icmp .ge 24, 3) := dc_162 (sg_at zd_dX12_layTried_56 11 rfl rfl) rfl
theorem dX12_layTried_77 : decode cX12_layTried 77 = .ok (.aload_n 0, 1) := dc_42 (sg_at zd_dX12_layTried_56 12 rfl rfl)
theorem dX12_layTried_78 : decode cX12_layTried 78 = .ok (.getfield 103, 3) := dc_180 (sg_at zd_dX12_layTried_56 13 rfl rfl) rfl
theorem dX12_layTried_81 : decode cX12_layTried 81 = .ok (.bipush 28, 2) := dc_16 (sg_at zd_dX12_layTried_56 14 rfl rfl) rfl
theorem dX12_layTried_83 : decode cX12_layTried 83 = .ok (.iload_n 1, 1) := dc_27 (sg_at zd_dX12_layTried_56 15 rfl rfl)
theorem dX12_layTried_84 : decode cX12_layTried 84 = .ok (.iadd, 1) := dc_96 (sg_at zd_dX12_layTried_56 16 rfl rfl)
theorem dX12_layTried_85 : decode cX12_layTried 85 = .ok (.aload_n 0, 1) := dc_42 (sg_at zd_dX12_layTried_56 17 rfl rfl)
theorem dX12_layTried_86 : decode cX12_layTried 86 = .ok (.getfield 103, 3) := dc_180 (sg_at zd_dX12_layTried_56 18 rfl rfl) rfl
theorem dX12_layTried_89 : decode cX12_layTried 89 = .ok (.iload_n 1, 1) := dc_27 (sg_at zd_dX12_layTried_56 19 rfl rfl)
theorem zd_dX12_layTried_90 : sg (cX12_layTried.data.toList.drop 90) [[46], [79], [132, 1, 1], [167, 255, 232], [42], [180, 0, 106], [4], [42], [180, 0, 106], [3], [46], [79], [42], [180, 0, 109], [4], [3], [79], [42], [180, 0, 112], [4]] = true := by decide +kernel
theorem dX12_layTried_90 : decode cX12_layTried 90 = .ok (.iaload, 1) := dc_46 (sg_at zd_dX12_layTried_90 0 rfl rfl)
theorem dX12_layTried_91 : decode cX12_layTried 91 = .ok (.iastore, 1) := dc_79 (sg_at zd_dX12_layTried_90 1 rfl rfl)
theorem dX12_layTried_92 : decode cX12_layTried 92 = .ok (.iinc 1 1, 3) := dc_132 (sg_at zd_dX12_layTried_90 2 rfl rfl) rfl
theorem dX12_layTried_95 : decode cX12_layTried 95 = .ok (.goto (-24), 3) := dc_167 (sg_at zd_dX12_layTried_90 3 rfl rfl) rfl
theorem dX12_layTried_98 : decode cX12_layTried 98 = .ok (.aload_n 0, 1) := dc_42 (sg_at zd_dX12_layTried_90 4 rfl rfl)
theorem dX12_layTried_99 : decode cX12_layTried 99 = .ok (.getfield 106, 3) := dc_180 (sg_at zd_dX12_layTried_90 5 rfl rfl) rfl
theorem dX12_layTried_102 : decode cX12_layTried 102 = .ok (.iconst 1, 1) := dc_4 (sg_at zd_dX12_layTried_90 6 rfl rfl)
theorem dX12_layTried_103 : decode cX12_layTried 103 = .ok (.aload_n 0, 1) := dc_42 (sg_at zd_dX12_layTried_90 7 rfl rfl)
theorem dX12_layTried_104 : decode cX12_layTried 104 = .ok (.getfield 106, 3) := dc_180 (sg_at zd_dX12_layTried_90 8 rfl rfl) rfl
theorem dX12_layTried_107 : decode cX12_layTried 107 = .ok (.iconst 0, 1) := dc_3 (sg_at zd_dX12_layTried_90 9 rfl rfl)
theorem dX12_layTried_108 : decode cX12_layTried 108 = .ok (.iaload, 1) := dc_46 (sg_at zd_dX12_layTried_90 10 rfl rfl)
theorem dX12_layTried_109 : decode cX12_layTried 109 = .ok (.iastore, 1) := dc_79 (sg_at zd_dX12_layTried_90 11 rfl rfl)
theorem dX12_layTried_110 : decode cX12_layTried 110 = .ok (.aload_n 0, 1) := dc_42 (sg_at zd_dX12_layTried_90 12 rfl rfl)
theorem dX12_layTried_111 : decode cX12_layTried 111 = .ok (.getfield 109, 3) := dc_180 (sg_at zd_dX12_layTried_90 13 rfl rfl) rfl
theorem dX12_layTried_114 : decode cX12_layTried 114 = .ok (.iconst 1, 1) := dc_4 (sg_at zd_dX12_layTried_90 14 rfl rfl)
theorem dX12_layTried_115 : decode cX12_layTried 115 = .ok (.iconst 0, 1) := dc_3 (sg_at zd_dX12_layTried_90 15 rfl rfl)
theorem dX12_layTried_116 : decode cX12_layTried 116 = .ok (.iastore, 1) := dc_79 (sg_at zd_dX12_layTried_90 16 rfl rfl)
theorem dX12_layTried_117 : decode cX12_layTried 117 = .ok (.aload_n 0, 1) := dc_42 (sg_at zd_dX12_layTried_90 17 rfl rfl)
theorem dX12_layTried_118 : decode cX12_layTried 118 = .ok (.getfield 112, 3) := dc_180 (sg_at zd_dX12_layTried_90 18 rfl rfl) rfl
theorem dX12_layTried_121 : decode cX12_layTried 121 = .ok (.iconst 1, 1) := dc_4 (sg_at zd_dX12_layTried_90 19 rfl rfl)
theorem zd_dX12_layTried_122 : sg (cX12_layTried.data.toList.drop 122) [[3], [79], [177]] = true := by decide +kernel
theorem dX12_layTried_122 : decode cX12_layTried 122 = .ok (.iconst 0, 1) := dc_3 (sg_at zd_dX12_layTried_122 0 rfl rfl)
theorem dX12_layTried_123 : decode cX12_layTried 123 = .ok (.iastore, 1) := dc_79 (sg_at zd_dX12_layTried_122 1 rfl rfl)
theorem dX12_layTried_124 : decode cX12_layTried 124 = .ok (.return_, 1) := dc_177 (sg_at zd_dX12_layTried_122 2 rfl rfl)
theorem zd_dX12_goesOn_0 : sg (cX12_goesOn.data.toList.drop 0) [[42], [180, 0, 253], [158, 0, 32], [42], [180, 0, 106], [4], [46], [42], [180, 0, 48], [42], [180, 0, 253], [4], [100], [46], [163, 0, 12], [42], [4], [27], [182, 1, 216], [167, 255, 223]] = true := by decide +kernel
theorem dX12_goesOn_0 : decode cX12_goesOn 0 = .ok (.aload_n 0, 1) := dc_42 (sg_at zd_dX12_goesOn_0 0 rfl rfl)
theorem dX12_goesOn_1 : decode cX12_goesOn 1 = .ok (.getfield 253, 3) := dc_180 (sg_at zd_dX12_goesOn_0 1 rfl rfl) rfl
theorem dX12_goesOn_4 : decode cX12_goesOn 4 = .ok (.ifCond .le 32, 3) := dc_158 (sg_at zd_dX12_goesOn_0 2 rfl rfl) rfl
theorem dX12_goesOn_7 : decode cX12_goesOn 7 = .ok (.aload_n 0, 1) := dc_42 (sg_at zd_dX12_goesOn_0 3 rfl rfl)
theorem dX12_goesOn_8 : decode cX12_goesOn 8 = .ok (.getfield 106, 3) := dc_180 (sg_at zd_dX12_goesOn_0 4 rfl rfl) rfl
theorem dX12_goesOn_11 : decode cX12_goesOn 11 = .ok (.iconst 1, 1) := dc_4 (sg_at zd_dX12_goesOn_0 5 rfl rfl)
theorem dX12_goesOn_12 : decode cX12_goesOn 12 = .ok (.iaload, 1) := dc_46 (sg_at zd_dX12_goesOn_0 6 rfl rfl)
theorem dX12_goesOn_13 : decode cX12_goesOn 13 = .ok (.aload_n 0, 1) := dc_42 (sg_at zd_dX12_goesOn_0 7 rfl rfl)
theorem dX12_goesOn_14 : decode cX12_goesOn 14 = .ok (.getfield 48, 3) := dc_180 (sg_at zd_dX12_goesOn_0 8 rfl rfl) rfl
theorem dX12_goesOn_17 : decode cX12_goesOn 17 = .ok (.aload_n 0, 1) := dc_42 (sg_at zd_dX12_goesOn_0 9 rfl rfl)
theorem dX12_goesOn_18 : decode cX12_goesOn 18 = .ok (.getfield 253, 3) := dc_180 (sg_at zd_dX12_goesOn_0 10 rfl rfl) rfl
theorem dX12_goesOn_21 : decode cX12_goesOn 21 = .ok (.iconst 1, 1) := dc_4 (sg_at zd_dX12_goesOn_0 11 rfl rfl)
theorem dX12_goesOn_22 : decode cX12_goesOn 22 = .ok (.isub, 1) := dc_100 (sg_at zd_dX12_goesOn_0 12 rfl rfl)
theorem dX12_goesOn_23 : decode cX12_goesOn 23 = .ok (.iaload, 1) := dc_46 (sg_at zd_dX12_goesOn_0 13 rfl rfl)
theorem dX12_goesOn_24 : decode cX12_goesOn 24 = .ok (.if_icmp .gt 12, 3) := dc_163 (sg_at zd_dX12_goesOn_0 14 rfl rfl) rfl
theorem dX12_goesOn_27 : decode cX12_goesOn 27 = .ok (.aload_n 0, 1) := dc_42 (sg_at zd_dX12_goesOn_0 15 rfl rfl)
theorem dX12_goesOn_28 : decode cX12_goesOn 28 = .ok (.iconst 1, 1) := dc_4 (sg_at zd_dX12_goesOn_0 16 rfl rfl)
theorem dX12_goesOn_29 : decode cX12_goesOn 29 = .ok (.iload_n 1, 1) := dc_27 (sg_at zd_dX12_goesOn_0 17 rfl rfl)
theorem dX12_goesOn_30 : decode cX12_goesOn 30 = .ok (.invokevirtual 472, 3) := dc_182 (sg_at zd_dX12_goesOn_0 18 rfl rfl) rfl
theorem dX12_goesOn_33 : decode cX12_goesOn 33 = .ok (.goto (-33), 3) := dc_167 (sg_at zd_dX12_goesOn_0 19 rfl rfl) rfl
theorem zd_dX12_goesOn_36 : sg (cX12_goesOn.data.toList.drop 36) [[177]] = true := by decide +kernel
theorem dX12_goesOn_36 : decode cX12_goesOn 36 = .ok (.return_, 1) := dc_177 (sg_at zd_dX12_goesOn_36 0 rfl rfl)
theorem zd_dX12_chance_0 : sg (cX12_chance.data.toList.drop 0) [[42], [3], [181, 0, 154], [27], [155, 0, 21], [42], [28], [182, 1, 157], [153, 0, 13], [29], [3], [16, 28], [184, 0, 199], [154, 0, 5], [2], [172], [42], [180, 1, 116], [55, 4], [42]] = true := by decide +kernel
theorem dX12_chance_0 : decode cX12_chance 0 = .ok (.aload_n 0, 1) := dc_42 (sg_at zd_dX12_chance_0 0 rfl rfl)
theorem dX12_chance_1 : decode cX12_chance 1 = .ok (.iconst 0, 1) := dc_3 (sg_at zd_dX12_chance_0 1 rfl rfl)
theorem dX12_chance_2 : decode cX12_chance 2 = .ok (.putfield 154, 3) := dc_181 (sg_at zd_dX12_chance_0 2 rfl rfl) rfl
theorem dX12_chance_5 : decode cX12_chance 5 = .ok (.iload_n 1, 1) := dc_27 (sg_at zd_dX12_chance_0 3 rfl rfl)
theorem dX12_chance_6 : decode cX12_chance 6 = .ok (.ifCond .lt 21, 3) := dc_155 (sg_at zd_dX12_chance_0 4 rfl rfl) rfl
theorem dX12_chance_9 : decode cX12_chance 9 = .ok (.aload_n 0, 1) := dc_42 (sg_at zd_dX12_chance_0 5 rfl rfl)
theorem dX12_chance_10 : decode cX12_chance 10 = .ok (.iload_n 2, 1) := dc_28 (sg_at zd_dX12_chance_0 6 rfl rfl)
theorem dX12_chance_11 : decode cX12_chance 11 = .ok (.invokevirtual 413, 3) := dc_182 (sg_at zd_dX12_chance_0 7 rfl rfl) rfl
theorem dX12_chance_14 : decode cX12_chance 14 = .ok (.ifCond .eq 13, 3) := dc_153 (sg_at zd_dX12_chance_0 8 rfl rfl) rfl
theorem dX12_chance_17 : decode cX12_chance 17 = .ok (.iload_n 3, 1) := dc_29 (sg_at zd_dX12_chance_0 9 rfl rfl)
theorem dX12_chance_18 : decode cX12_chance 18 = .ok (.iconst 0, 1) := dc_3 (sg_at zd_dX12_chance_0 10 rfl rfl)
theorem dX12_chance_19 : decode cX12_chance 19 = .ok (.bipush 28, 2) := dc_16 (sg_at zd_dX12_chance_0 11 rfl rfl) rfl
theorem dX12_chance_21 : decode cX12_chance 21 = .ok (.invokestatic 199, 3) := dc_184 (sg_at zd_dX12_chance_0 12 rfl rfl) rfl
theorem dX12_chance_24 : decode cX12_chance 24 = .ok (.ifCond .ne 5, 3) := dc_154 (sg_at zd_dX12_chance_0 13 rfl rfl) rfl
theorem dX12_chance_27 : decode cX12_chance 27 = .ok (.iconst (-1), 1) := dc_2 (sg_at zd_dX12_chance_0 14 rfl rfl)
theorem dX12_chance_28 : decode cX12_chance 28 = .ok (.ireturn, 1) := dc_172 (sg_at zd_dX12_chance_0 15 rfl rfl)
theorem dX12_chance_29 : decode cX12_chance 29 = .ok (.aload_n 0, 1) := dc_42 (sg_at zd_dX12_chance_0 16 rfl rfl)
theorem dX12_chance_30 : decode cX12_chance 30 = .ok (.getfield 372, 3) := dc_180 (sg_at zd_dX12_chance_0 17 rfl rfl) rfl
theorem dX12_chance_33 : decode cX12_chance 33 = .ok (.lstore 4, 2) := dc_55 (sg_at zd_dX12_chance_0 18 rfl rfl)
theorem dX12_chance_35 : decode cX12_chance 35 = .ok (.aload_n 0, 1) := dc_42 (sg_at zd_dX12_chance_0 19 rfl rfl)
theorem zd_dX12_chance_36 : sg (cX12_chance.data.toList.drop 36) [[27], [133], [181, 1, 116], [3], [54, 6], [3], [54, 7], [21, 7], [16, 10], [162, 0, 43], [42], [182, 1, 253], [42], [42], [180, 1, 113], [182, 2, 0], [21, 6], [42], [180, 0, 91], [8]] = true := by decide +kernel
theorem dX12_chance_36 : decode cX12_chance 36 = .ok (.iload_n 1, 1) := dc_27 (sg_at zd_dX12_chance_36 0 rfl rfl)
theorem dX12_chance_37 : decode cX12_chance 37 = .ok (.i2l, 1) := dc_133 (sg_at zd_dX12_chance_36 1 rfl rfl)
theorem dX12_chance_38 : decode cX12_chance 38 = .ok (.putfield 372, 3) := dc_181 (sg_at zd_dX12_chance_36 2 rfl rfl) rfl
theorem dX12_chance_41 : decode cX12_chance 41 = .ok (.iconst 0, 1) := dc_3 (sg_at zd_dX12_chance_36 3 rfl rfl)
theorem dX12_chance_42 : decode cX12_chance 42 = .ok (.istore 6, 2) := dc_54 (sg_at zd_dX12_chance_36 4 rfl rfl)
theorem dX12_chance_44 : decode cX12_chance 44 = .ok (.iconst 0, 1) := dc_3 (sg_at zd_dX12_chance_36 5 rfl rfl)
theorem dX12_chance_45 : decode cX12_chance 45 = .ok (.istore 7, 2) := dc_54 (sg_at zd_dX12_chance_36 6 rfl rfl)
theorem dX12_chance_47 : decode cX12_chance 47 = .ok (.iload 7, 2) := dc_21 (sg_at zd_dX12_chance_36 7 rfl rfl)
theorem dX12_chance_49 : decode cX12_chance 49 = .ok (.bipush 10, 2) := dc_16 (sg_at zd_dX12_chance_36 8 rfl rfl) rfl
theorem dX12_chance_51 : decode cX12_chance 51 = .ok (.if_icmp .ge 43, 3) := dc_162 (sg_at zd_dX12_chance_36 9 rfl rfl) rfl
theorem dX12_chance_54 : decode cX12_chance 54 = .ok (.aload_n 0, 1) := dc_42 (sg_at zd_dX12_chance_36 10 rfl rfl)
theorem dX12_chance_55 : decode cX12_chance 55 = .ok (.invokevirtual 509, 3) := dc_182 (sg_at zd_dX12_chance_36 11 rfl rfl) rfl
theorem dX12_chance_58 : decode cX12_chance 58 = .ok (.aload_n 0, 1) := dc_42 (sg_at zd_dX12_chance_36 12 rfl rfl)
theorem dX12_chance_59 : decode cX12_chance 59 = .ok (.aload_n 0, 1) := dc_42 (sg_at zd_dX12_chance_36 13 rfl rfl)
theorem dX12_chance_60 : decode cX12_chance 60 = .ok (.getfield 369, 3) := dc_180 (sg_at zd_dX12_chance_36 14 rfl rfl) rfl
theorem dX12_chance_63 : decode cX12_chance 63 = .ok (.invokevirtual 512, 3) := dc_182 (sg_at zd_dX12_chance_36 15 rfl rfl) rfl
theorem dX12_chance_66 : decode cX12_chance 66 = .ok (.iload 6, 2) := dc_21 (sg_at zd_dX12_chance_36 16 rfl rfl)
theorem dX12_chance_68 : decode cX12_chance 68 = .ok (.aload_n 0, 1) := dc_42 (sg_at zd_dX12_chance_36 17 rfl rfl)
theorem dX12_chance_69 : decode cX12_chance 69 = .ok (.getfield 91, 3) := dc_180 (sg_at zd_dX12_chance_36 18 rfl rfl) rfl
theorem dX12_chance_72 : decode cX12_chance 72 = .ok (.iconst 5, 1) := dc_8 (sg_at zd_dX12_chance_36 19 rfl rfl)
theorem zd_dX12_chance_73 : sg (cX12_chance.data.toList.drop 73) [[28], [96], [46], [29], [161, 0, 7], [4], [167, 0, 4], [3], [96], [54, 6], [132, 7, 1], [167, 255, 212], [42], [22, 4], [181, 1, 116], [21, 6], [172]] = true := by decide +kernel
theorem dX12_chance_73 : decode cX12_chance 73 = .ok (.iload_n 2, 1) := dc_28 (sg_at zd_dX12_chance_73 0 rfl rfl)
theorem dX12_chance_74 : decode cX12_chance 74 = .ok (.iadd, 1) := dc_96 (sg_at zd_dX12_chance_73 1 rfl rfl)
theorem dX12_chance_75 : decode cX12_chance 75 = .ok (.iaload, 1) := dc_46 (sg_at zd_dX12_chance_73 2 rfl rfl)
theorem dX12_chance_76 : decode cX12_chance 76 = .ok (.iload_n 3, 1) := dc_29 (sg_at zd_dX12_chance_73 3 rfl rfl)
theorem dX12_chance_77 : decode cX12_chance 77 = .ok (.if_icmp .lt 7, 3) := dc_161 (sg_at zd_dX12_chance_73 4 rfl rfl) rfl
theorem dX12_chance_80 : decode cX12_chance 80 = .ok (.iconst 1, 1) := dc_4 (sg_at zd_dX12_chance_73 5 rfl rfl)
theorem dX12_chance_81 : decode cX12_chance 81 = .ok (.goto 4, 3) := dc_167 (sg_at zd_dX12_chance_73 6 rfl rfl) rfl
theorem dX12_chance_84 : decode cX12_chance 84 = .ok (.iconst 0, 1) := dc_3 (sg_at zd_dX12_chance_73 7 rfl rfl)
theorem dX12_chance_85 : decode cX12_chance 85 = .ok (.iadd, 1) := dc_96 (sg_at zd_dX12_chance_73 8 rfl rfl)
theorem dX12_chance_86 : decode cX12_chance 86 = .ok (.istore 6, 2) := dc_54 (sg_at zd_dX12_chance_73 9 rfl rfl)
theorem dX12_chance_88 : decode cX12_chance 88 = .ok (.iinc 7 1, 3) := dc_132 (sg_at zd_dX12_chance_73 10 rfl rfl) rfl
theorem dX12_chance_91 : decode cX12_chance 91 = .ok (.goto (-44), 3) := dc_167 (sg_at zd_dX12_chance_73 11 rfl rfl) rfl
theorem dX12_chance_94 : decode cX12_chance 94 = .ok (.aload_n 0, 1) := dc_42 (sg_at zd_dX12_chance_73 12 rfl rfl)
theorem dX12_chance_95 : decode cX12_chance 95 = .ok (.lload 4, 2) := dc_22 (sg_at zd_dX12_chance_73 13 rfl rfl)
theorem dX12_chance_97 : decode cX12_chance 97 = .ok (.putfield 372, 3) := dc_181 (sg_at zd_dX12_chance_73 14 rfl rfl) rfl
theorem dX12_chance_100 : decode cX12_chance 100 = .ok (.iload 6, 2) := dc_21 (sg_at zd_dX12_chance_73 15 rfl rfl)
theorem dX12_chance_102 : decode cX12_chance 102 = .ok (.ireturn, 1) := dc_172 (sg_at zd_dX12_chance_73 16 rfl rfl)
theorem zd_dX12_comesTo_0 : sg (cX12_comesTo.data.toList.drop 0) [[28], [7], [160, 0, 12], [42], [180, 0, 88], [27], [46], [167, 0, 14], [42], [42], [180, 0, 88], [27], [46], [28], [182, 1, 210], [172]] = true := by decide +kernel
theorem dX12_comesTo_0 : decode cX12_comesTo 0 = .ok (.iload_n 2, 1) := dc_28 (sg_at zd_dX12_comesTo_0 0 rfl rfl)
theorem dX12_comesTo_1 : decode cX12_comesTo 1 = .ok (.iconst 4, 1) := dc_7 (sg_at zd_dX12_comesTo_0 1 rfl rfl)
theorem dX12_comesTo_2 : decode cX12_comesTo 2 = .ok (.if_icmp .ne 12, 3) := dc_160 (sg_at zd_dX12_comesTo_0 2 rfl rfl) rfl
theorem dX12_comesTo_5 : decode cX12_comesTo 5 = .ok (.aload_n 0, 1) := dc_42 (sg_at zd_dX12_comesTo_0 3 rfl rfl)
theorem dX12_comesTo_6 : decode cX12_comesTo 6 = .ok (.getfield 88, 3) := dc_180 (sg_at zd_dX12_comesTo_0 4 rfl rfl) rfl
theorem dX12_comesTo_9 : decode cX12_comesTo 9 = .ok (.iload_n 1, 1) := dc_27 (sg_at zd_dX12_comesTo_0 5 rfl rfl)
theorem dX12_comesTo_10 : decode cX12_comesTo 10 = .ok (.iaload, 1) := dc_46 (sg_at zd_dX12_comesTo_0 6 rfl rfl)
theorem dX12_comesTo_11 : decode cX12_comesTo 11 = .ok (.goto 14, 3) := dc_167 (sg_at zd_dX12_comesTo_0 7 rfl rfl) rfl
theorem dX12_comesTo_14 : decode cX12_comesTo 14 = .ok (.aload_n 0, 1) := dc_42 (sg_at zd_dX12_comesTo_0 8 rfl rfl)
theorem dX12_comesTo_15 : decode cX12_comesTo 15 = .ok (.aload_n 0, 1) := dc_42 (sg_at zd_dX12_comesTo_0 9 rfl rfl)
theorem dX12_comesTo_16 : decode cX12_comesTo 16 = .ok (.getfield 88, 3) := dc_180 (sg_at zd_dX12_comesTo_0 10 rfl rfl) rfl
theorem dX12_comesTo_19 : decode cX12_comesTo 19 = .ok (.iload_n 1, 1) := dc_27 (sg_at zd_dX12_comesTo_0 11 rfl rfl)
theorem dX12_comesTo_20 : decode cX12_comesTo 20 = .ok (.iaload, 1) := dc_46 (sg_at zd_dX12_comesTo_0 12 rfl rfl)
theorem dX12_comesTo_21 : decode cX12_comesTo 21 = .ok (.iload_n 2, 1) := dc_28 (sg_at zd_dX12_comesTo_0 13 rfl rfl)
theorem dX12_comesTo_22 : decode cX12_comesTo 22 = .ok (.invokevirtual 466, 3) := dc_182 (sg_at zd_dX12_comesTo_0 14 rfl rfl) rfl
theorem dX12_comesTo_25 : decode cX12_comesTo 25 = .ok (.ireturn, 1) := dc_172 (sg_at zd_dX12_comesTo_0 15 rfl rfl)
theorem zd_dX12_copies_0 : sg (cX12_copies.data.toList.drop 0) [[3], [61], [28], [27], [162, 0, 17], [42], [28], [42], [27], [28], [96], [46], [79], [132, 2, 1], [167, 255, 240], [177]] = true := by decide +kernel
theorem dX12_copies_0 : decode cX12_copies 0 = .ok (.iconst 0, 1) := dc_3 (sg_at zd_dX12_copies_0 0 rfl rfl)
theorem dX12_copies_1 : decode cX12_copies 1 = .ok (.istore_n 2, 1) := dc_61 (sg_at zd_dX12_copies_0 1 rfl rfl)
theorem dX12_copies_2 : decode cX12_copies 2 = .ok (.iload_n 2, 1) := dc_28 (sg_at zd_dX12_copies_0 2 rfl rfl)
theorem dX12_copies_3 : decode cX12_copies 3 = .ok (.iload_n 1, 1) := dc_27 (sg_at zd_dX12_copies_0 3 rfl rfl)
theorem dX12_copies_4 : decode cX12_copies 4 = .ok (.if_icmp .ge 17, 3) := dc_162 (sg_at zd_dX12_copies_0 4 rfl rfl) rfl
theorem dX12_copies_7 : decode cX12_copies 7 = .ok (.aload_n 0, 1) := dc_42 (sg_at zd_dX12_copies_0 5 rfl rfl)
theorem dX12_copies_8 : decode cX12_copies 8 = .ok (.iload_n 2, 1) := dc_28 (sg_at zd_dX12_copies_0 6 rfl rfl)
theorem dX12_copies_9 : decode cX12_copies 9 = .ok (.aload_n 0, 1) := dc_42 (sg_at zd_dX12_copies_0 7 rfl rfl)
theorem dX12_copies_10 : decode cX12_copies 10 = .ok (.iload_n 1, 1) := dc_27 (sg_at zd_dX12_copies_0 8 rfl rfl)
theorem dX12_copies_11 : decode cX12_copies 11 = .ok (.iload_n 2, 1) := dc_28 (sg_at zd_dX12_copies_0 9 rfl rfl)
theorem dX12_copies_12 : decode cX12_copies 12 = .ok (.iadd, 1) := dc_96 (sg_at zd_dX12_copies_0 10 rfl rfl)
theorem dX12_copies_13 : decode cX12_copies 13 = .ok (.iaload, 1) := dc_46 (sg_at zd_dX12_copies_0 11 rfl rfl)
theorem dX12_copies_14 : decode cX12_copies 14 = .ok (.iastore, 1) := dc_79 (sg_at zd_dX12_copies_0 12 rfl rfl)
theorem dX12_copies_15 : decode cX12_copies 15 = .ok (.iinc 2 1, 3) := dc_132 (sg_at zd_dX12_copies_0 13 rfl rfl) rfl
theorem dX12_copies_18 : decode cX12_copies 18 = .ok (.goto (-16), 3) := dc_167 (sg_at zd_dX12_copies_0 14 rfl rfl) rfl
theorem dX12_copies_21 : decode cX12_copies 21 = .ok (.return_, 1) := dc_177 (sg_at zd_dX12_copies_0 15 rfl rfl)
theorem zd_dX12_firstToCome_0 : sg (cX12_firstToCome.data.toList.drop 0) [[3], [60], [27], [42], [180, 0, 253], [162, 0, 20], [42], [180, 0, 103], [27], [46], [16, 254], [159, 0, 9], [132, 1, 1], [167, 255, 234], [27], [172]] = true := by decide +kernel
theorem dX12_firstToCome_0 : decode cX12_firstToCome 0 = .ok (.iconst 0, 1) := dc_3 (sg_at zd_dX12_firstToCome_0 0 rfl rfl)
theorem dX12_firstToCome_1 : decode cX12_firstToCome 1 = .ok (.istore_n 1, 1) := dc_60 (sg_at zd_dX12_firstToCome_0 1 rfl rfl)
theorem dX12_firstToCome_2 : decode cX12_firstToCome 2 = .ok (.iload_n 1, 1) := dc_27 (sg_at zd_dX12_firstToCome_0 2 rfl rfl)
theorem dX12_firstToCome_3 : decode cX12_firstToCome 3 = .ok (.aload_n 0, 1) := dc_42 (sg_at zd_dX12_firstToCome_0 3 rfl rfl)
theorem dX12_firstToCome_4 : decode cX12_firstToCome 4 = .ok (.getfield 253, 3) := dc_180 (sg_at zd_dX12_firstToCome_0 4 rfl rfl) rfl
theorem dX12_firstToCome_7 : decode cX12_firstToCome 7 = .ok (.if_icmp .ge 20, 3) := dc_162 (sg_at zd_dX12_firstToCome_0 5 rfl rfl) rfl
theorem dX12_firstToCome_10 : decode cX12_firstToCome 10 = .ok (.aload_n 0, 1) := dc_42 (sg_at zd_dX12_firstToCome_0 6 rfl rfl)
theorem dX12_firstToCome_11 : decode cX12_firstToCome 11 = .ok (.getfield 103, 3) := dc_180 (sg_at zd_dX12_firstToCome_0 7 rfl rfl) rfl
theorem dX12_firstToCome_14 : decode cX12_firstToCome 14 = .ok (.iload_n 1, 1) := dc_27 (sg_at zd_dX12_firstToCome_0 8 rfl rfl)
theorem dX12_firstToCome_15 : decode cX12_firstToCome 15 = .ok (.iaload, 1) := dc_46 (sg_at zd_dX12_firstToCome_0 9 rfl rfl)
theorem dX12_firstToCome_16 : decode cX12_firstToCome 16 = .ok (.bipush (-2), 2) := dc_16 (sg_at zd_dX12_firstToCome_0 10 rfl rfl) rfl
theorem dX12_firstToCome_18 : decode cX12_firstToCome 18 = .ok (.if_icmp .eq 9, 3) := dc_159 (sg_at zd_dX12_firstToCome_0 11 rfl rfl) rfl
theorem dX12_firstToCome_21 : decode cX12_firstToCome 21 = .ok (.iinc 1 1, 3) := dc_132 (sg_at zd_dX12_firstToCome_0 12 rfl rfl) rfl
theorem dX12_firstToCome_24 : decode cX12_firstToCome 24 = .ok (.goto (-22), 3) := dc_167 (sg_at zd_dX12_firstToCome_0 13 rfl rfl) rfl
theorem dX12_firstToCome_27 : decode cX12_firstToCome 27 = .ok (.iload_n 1, 1) := dc_27 (sg_at zd_dX12_firstToCome_0 14 rfl rfl)
theorem dX12_firstToCome_28 : decode cX12_firstToCome 28 = .ok (.ireturn, 1) := dc_172 (sg_at zd_dX12_firstToCome_0 15 rfl rfl)
theorem zd_dX12_knownBy_0 : sg (cX12_knownBy.data.toList.drop 0) [[42], [180, 0, 133], [156, 0, 10], [42], [180, 1, 120], [167, 0, 7], [42], [180, 0, 133], [172]] = true := by decide +kernel
theorem dX12_knownBy_0 : decode cX12_knownBy 0 = .ok (.aload_n 0, 1) := dc_42 (sg_at zd_dX12_knownBy_0 0 rfl rfl)
theorem dX12_knownBy_1 : decode cX12_knownBy 1 = .ok (.getfield 133, 3) := dc_180 (sg_at zd_dX12_knownBy_0 1 rfl rfl) rfl
theorem dX12_knownBy_4 : decode cX12_knownBy 4 = .ok (.ifCond .ge 10, 3) := dc_156 (sg_at zd_dX12_knownBy_0 2 rfl rfl) rfl
theorem dX12_knownBy_7 : decode cX12_knownBy 7 = .ok (.aload_n 0, 1) := dc_42 (sg_at zd_dX12_knownBy_0 3 rfl rfl)
theorem dX12_knownBy_8 : decode cX12_knownBy 8 = .ok (.getfield 376, 3) := dc_180 (sg_at zd_dX12_knownBy_0 4 rfl rfl) rfl
theorem dX12_knownBy_11 : decode cX12_knownBy 11 = .ok (.goto 7, 3) := dc_167 (sg_at zd_dX12_knownBy_0 5 rfl rfl) rfl
theorem dX12_knownBy_14 : decode cX12_knownBy 14 = .ok (.aload_n 0, 1) := dc_42 (sg_at zd_dX12_knownBy_0 6 rfl rfl)
theorem dX12_knownBy_15 : decode cX12_knownBy 15 = .ok (.getfield 133, 3) := dc_180 (sg_at zd_dX12_knownBy_0 7 rfl rfl) rfl
theorem dX12_knownBy_18 : decode cX12_knownBy 18 = .ok (.ireturn, 1) := dc_172 (sg_at zd_dX12_knownBy_0 8 rfl rfl)
theorem zd_dX12_count_0 : sg (cX12_count.data.toList.drop 0) [[42], [3], [181, 0, 154], [27]] = true := by decide +kernel
theorem dX12_count_0 : decode cX12_count 0 = .ok (.aload_n 0, 1) := dc_42 (sg_at zd_dX12_count_0 0 rfl rfl)
theorem dX12_count_1 : decode cX12_count 1 = .ok (.iconst 0, 1) := dc_3 (sg_at zd_dX12_count_0 1 rfl rfl)
theorem dX12_count_2 : decode cX12_count 2 = .ok (.putfield 154, 3) := dc_181 (sg_at zd_dX12_count_0 2 rfl rfl) rfl
theorem dX12_count_5 : decode cX12_count 5 = .ok (.iload_n 1, 1) := dc_27 (sg_at zd_dX12_count_0 3 rfl rfl)
theorem dX12_count_6 : decode cX12_count 6 = .ok (.tableswitch 151 0 13 #[70, 75, 80, 85, 90, 95, 100, 107, 112, 119, 126, 136, 141, 146], 70) := by decide +kernel
theorem zd_dX12_count_76 : sg (cX12_count.data.toList.drop 76) [[42], [180, 0, 241], [172], [42], [180, 0, 244], [172], [42], [180, 0, 247], [172], [42], [180, 0, 250], [172], [42], [180, 0, 253], [172], [42], [180, 1, 0], [172], [42], [180, 0, 106]] = true := by decide +kernel
theorem dX12_count_76 : decode cX12_count 76 = .ok (.aload_n 0, 1) := dc_42 (sg_at zd_dX12_count_76 0 rfl rfl)
theorem dX12_count_77 : decode cX12_count 77 = .ok (.getfield 241, 3) := dc_180 (sg_at zd_dX12_count_76 1 rfl rfl) rfl
theorem dX12_count_80 : decode cX12_count 80 = .ok (.ireturn, 1) := dc_172 (sg_at zd_dX12_count_76 2 rfl rfl)
theorem dX12_count_81 : decode cX12_count 81 = .ok (.aload_n 0, 1) := dc_42 (sg_at zd_dX12_count_76 3 rfl rfl)
theorem dX12_count_82 : decode cX12_count 82 = .ok (.getfield 244, 3) := dc_180 (sg_at zd_dX12_count_76 4 rfl rfl) rfl
theorem dX12_count_85 : decode cX12_count 85 = .ok (.ireturn, 1) := dc_172 (sg_at zd_dX12_count_76 5 rfl rfl)
theorem dX12_count_86 : decode cX12_count 86 = .ok (.aload_n 0, 1) := dc_42 (sg_at zd_dX12_count_76 6 rfl rfl)
theorem dX12_count_87 : decode cX12_count 87 = .ok (.getfield 247, 3) := dc_180 (sg_at zd_dX12_count_76 7 rfl rfl) rfl
theorem dX12_count_90 : decode cX12_count 90 = .ok (.ireturn, 1) := dc_172 (sg_at zd_dX12_count_76 8 rfl rfl)
theorem dX12_count_91 : decode cX12_count 91 = .ok (.aload_n 0, 1) := dc_42 (sg_at zd_dX12_count_76 9 rfl rfl)
theorem dX12_count_92 : decode cX12_count 92 = .ok (.getfield 250, 3) := dc_180 (sg_at zd_dX12_count_76 10 rfl rfl) rfl
theorem dX12_count_95 : decode cX12_count 95 = .ok (.ireturn, 1) := dc_172 (sg_at zd_dX12_count_76 11 rfl rfl)
theorem dX12_count_96 : decode cX12_count 96 = .ok (.aload_n 0, 1) := dc_42 (sg_at zd_dX12_count_76 12 rfl rfl)
theorem dX12_count_97 : decode cX12_count 97 = .ok (.getfield 253, 3) := dc_180 (sg_at zd_dX12_count_76 13 rfl rfl) rfl
theorem dX12_count_100 : decode cX12_count 100 = .ok (.ireturn, 1) := dc_172 (sg_at zd_dX12_count_76 14 rfl rfl)
theorem dX12_count_101 : decode cX12_count 101 = .ok (.aload_n 0, 1) := dc_42 (sg_at zd_dX12_count_76 15 rfl rfl)
theorem dX12_count_102 : decode cX12_count 102 = .ok (.getfield 256, 3) := dc_180 (sg_at zd_dX12_count_76 16 rfl rfl) rfl
theorem dX12_count_105 : decode cX12_count 105 = .ok (.ireturn, 1) := dc_172 (sg_at zd_dX12_count_76 17 rfl rfl)
theorem dX12_count_106 : decode cX12_count 106 = .ok (.aload_n 0, 1) := dc_42 (sg_at zd_dX12_count_76 18 rfl rfl)
theorem dX12_count_107 : decode cX12_count 107 = .ok (.getfield 106, 3) := dc_180 (sg_at zd_dX12_count_76 19 rfl rfl) rfl
theorem zd_dX12_count_110 : sg (cX12_count.data.toList.drop 110) [[3], [46], [172], [42], [180, 1, 113], [172], [42], [180, 0, 109], [3], [46], [172], [42], [180, 0, 112], [3], [46], [172], [42], [180, 0, 253], [42], [182, 1, 250]] = true := by decide +kernel
theorem dX12_count_110 : decode cX12_count 110 = .ok (.iconst 0, 1) := dc_3 (sg_at zd_dX12_count_110 0 rfl rfl)
theorem dX12_count_111 : decode cX12_count 111 = .ok (.iaload, 1) := dc_46 (sg_at zd_dX12_count_110 1 rfl rfl)
theorem dX12_count_112 : decode cX12_count 112 = .ok (.ireturn, 1) := dc_172 (sg_at zd_dX12_count_110 2 rfl rfl)
theorem dX12_count_113 : decode cX12_count 113 = .ok (.aload_n 0, 1) := dc_42 (sg_at zd_dX12_count_110 3 rfl rfl)
theorem dX12_count_114 : decode cX12_count 114 = .ok (.getfield 369, 3) := dc_180 (sg_at zd_dX12_count_110 4 rfl rfl) rfl
theorem dX12_count_117 : decode cX12_count 117 = .ok (.ireturn, 1) := dc_172 (sg_at zd_dX12_count_110 5 rfl rfl)
theorem dX12_count_118 : decode cX12_count 118 = .ok (.aload_n 0, 1) := dc_42 (sg_at zd_dX12_count_110 6 rfl rfl)
theorem dX12_count_119 : decode cX12_count 119 = .ok (.getfield 109, 3) := dc_180 (sg_at zd_dX12_count_110 7 rfl rfl) rfl
theorem dX12_count_122 : decode cX12_count 122 = .ok (.iconst 0, 1) := dc_3 (sg_at zd_dX12_count_110 8 rfl rfl)
theorem dX12_count_123 : decode cX12_count 123 = .ok (.iaload, 1) := dc_46 (sg_at zd_dX12_count_110 9 rfl rfl)
theorem dX12_count_124 : decode cX12_count 124 = .ok (.ireturn, 1) := dc_172 (sg_at zd_dX12_count_110 10 rfl rfl)
theorem dX12_count_125 : decode cX12_count 125 = .ok (.aload_n 0, 1) := dc_42 (sg_at zd_dX12_count_110 11 rfl rfl)
theorem dX12_count_126 : decode cX12_count 126 = .ok (.getfield 112, 3) := dc_180 (sg_at zd_dX12_count_110 12 rfl rfl) rfl
theorem dX12_count_129 : decode cX12_count 129 = .ok (.iconst 0, 1) := dc_3 (sg_at zd_dX12_count_110 13 rfl rfl)
theorem dX12_count_130 : decode cX12_count 130 = .ok (.iaload, 1) := dc_46 (sg_at zd_dX12_count_110 14 rfl rfl)
theorem dX12_count_131 : decode cX12_count 131 = .ok (.ireturn, 1) := dc_172 (sg_at zd_dX12_count_110 15 rfl rfl)
theorem dX12_count_132 : decode cX12_count 132 = .ok (.aload_n 0, 1) := dc_42 (sg_at zd_dX12_count_110 16 rfl rfl)
theorem dX12_count_133 : decode cX12_count 133 = .ok (.getfield 253, 3) := dc_180 (sg_at zd_dX12_count_110 17 rfl rfl) rfl
theorem dX12_count_136 : decode cX12_count 136 = .ok (.aload_n 0, 1) := dc_42 (sg_at zd_dX12_count_110 18 rfl rfl)
theorem dX12_count_137 : decode cX12_count 137 = .ok (.invokevirtual 506, 3) := dc_182 (sg_at zd_dX12_count_110 19 rfl rfl) rfl
theorem zd_dX12_count_140 : sg (cX12_count.data.toList.drop 140) [[100], [172], [42], [180, 1, 120], [172], [42], [182, 2, 15], [172], [42], [180, 1, 123], [172], [2], [172]] = true := by decide +kernel
theorem dX12_count_140 : decode cX12_count 140 = .ok (.isub, 1) := dc_100 (sg_at zd_dX12_count_140 0 rfl rfl)
theorem dX12_count_141 : decode cX12_count 141 = .ok (.ireturn, 1) := dc_172 (sg_at zd_dX12_count_140 1 rfl rfl)
theorem dX12_count_142 : decode cX12_count 142 = .ok (.aload_n 0, 1) := dc_42 (sg_at zd_dX12_count_140 2 rfl rfl)
theorem dX12_count_143 : decode cX12_count 143 = .ok (.getfield 376, 3) := dc_180 (sg_at zd_dX12_count_140 3 rfl rfl) rfl
theorem dX12_count_146 : decode cX12_count 146 = .ok (.ireturn, 1) := dc_172 (sg_at zd_dX12_count_140 4 rfl rfl)
theorem dX12_count_147 : decode cX12_count 147 = .ok (.aload_n 0, 1) := dc_42 (sg_at zd_dX12_count_140 5 rfl rfl)
theorem dX12_count_148 : decode cX12_count 148 = .ok (.invokevirtual 527, 3) := dc_182 (sg_at zd_dX12_count_140 6 rfl rfl) rfl
theorem dX12_count_151 : decode cX12_count 151 = .ok (.ireturn, 1) := dc_172 (sg_at zd_dX12_count_140 7 rfl rfl)
theorem dX12_count_152 : decode cX12_count 152 = .ok (.aload_n 0, 1) := dc_42 (sg_at zd_dX12_count_140 8 rfl rfl)
theorem dX12_count_153 : decode cX12_count 153 = .ok (.getfield 379, 3) := dc_180 (sg_at zd_dX12_count_140 9 rfl rfl) rfl
theorem dX12_count_156 : decode cX12_count 156 = .ok (.ireturn, 1) := dc_172 (sg_at zd_dX12_count_140 10 rfl rfl)
theorem dX12_count_157 : decode cX12_count 157 = .ok (.iconst (-1), 1) := dc_2 (sg_at zd_dX12_count_140 11 rfl rfl)
theorem dX12_count_158 : decode cX12_count 158 = .ok (.ireturn, 1) := dc_172 (sg_at zd_dX12_count_140 12 rfl rfl)
theorem zd_dX12_deeper_0 : sg (cX12_deeper.data.toList.drop 0) [[42], [3], [181, 0, 154], [42], [27], [182, 1, 157], [153, 0, 11], [42], [28], [182, 1, 157], [154, 0, 5], [2], [172], [42], [42], [180, 0, 106], [3], [46], [182, 1, 144], [62]] = true := by decide +kernel
theorem dX12_deeper_0 : decode cX12_deeper 0 = .ok (.aload_n 0, 1) := dc_42 (sg_at zd_dX12_deeper_0 0 rfl rfl)
theorem dX12_deeper_1 : decode cX12_deeper 1 = .ok (.iconst 0, 1) := dc_3 (sg_at zd_dX12_deeper_0 1 rfl rfl)
theorem dX12_deeper_2 : decode cX12_deeper 2 = .ok (.putfield 154, 3) := dc_181 (sg_at zd_dX12_deeper_0 2 rfl rfl) rfl
theorem dX12_deeper_5 : decode cX12_deeper 5 = .ok (.aload_n 0, 1) := dc_42 (sg_at zd_dX12_deeper_0 3 rfl rfl)
theorem dX12_deeper_6 : decode cX12_deeper 6 = .ok (.iload_n 1, 1) := dc_27 (sg_at zd_dX12_deeper_0 4 rfl rfl)
theorem dX12_deeper_7 : decode cX12_deeper 7 = .ok (.invokevirtual 413, 3) := dc_182 (sg_at zd_dX12_deeper_0 5 rfl rfl) rfl
theorem dX12_deeper_10 : decode cX12_deeper 10 = .ok (.ifCond .eq 11, 3) := dc_153 (sg_at zd_dX12_deeper_0 6 rfl rfl) rfl
theorem dX12_deeper_13 : decode cX12_deeper 13 = .ok (.aload_n 0, 1) := dc_42 (sg_at zd_dX12_deeper_0 7 rfl rfl)
theorem dX12_deeper_14 : decode cX12_deeper 14 = .ok (.iload_n 2, 1) := dc_28 (sg_at zd_dX12_deeper_0 8 rfl rfl)
theorem dX12_deeper_15 : decode cX12_deeper 15 = .ok (.invokevirtual 413, 3) := dc_182 (sg_at zd_dX12_deeper_0 9 rfl rfl) rfl
theorem dX12_deeper_18 : decode cX12_deeper 18 = .ok (.ifCond .ne 5, 3) := dc_154 (sg_at zd_dX12_deeper_0 10 rfl rfl) rfl
theorem dX12_deeper_21 : decode cX12_deeper 21 = .ok (.iconst (-1), 1) := dc_2 (sg_at zd_dX12_deeper_0 11 rfl rfl)
theorem dX12_deeper_22 : decode cX12_deeper 22 = .ok (.ireturn, 1) := dc_172 (sg_at zd_dX12_deeper_0 12 rfl rfl)
theorem dX12_deeper_23 : decode cX12_deeper 23 = .ok (.aload_n 0, 1) := dc_42 (sg_at zd_dX12_deeper_0 13 rfl rfl)
theorem dX12_deeper_24 : decode cX12_deeper 24 = .ok (.aload_n 0, 1) := dc_42 (sg_at zd_dX12_deeper_0 14 rfl rfl)
theorem dX12_deeper_25 : decode cX12_deeper 25 = .ok (.getfield 106, 3) := dc_180 (sg_at zd_dX12_deeper_0 15 rfl rfl) rfl
theorem dX12_deeper_28 : decode cX12_deeper 28 = .ok (.iconst 0, 1) := dc_3 (sg_at zd_dX12_deeper_0 16 rfl rfl)
theorem dX12_deeper_29 : decode cX12_deeper 29 = .ok (.iaload, 1) := dc_46 (sg_at zd_dX12_deeper_0 17 rfl rfl)
theorem dX12_deeper_30 : decode cX12_deeper 30 = .ok (.invokevirtual 400, 3) := dc_182 (sg_at zd_dX12_deeper_0 18 rfl rfl) rfl
theorem dX12_deeper_33 : decode cX12_deeper 33 = .ok (.istore_n 3, 1) := dc_62 (sg_at zd_dX12_deeper_0 19 rfl rfl)
theorem zd_dX12_deeper_34 : sg (cX12_deeper.data.toList.drop 34) [[42], [42], [180, 0, 88], [27], [46], [29], [182, 1, 147], [54, 4], [42], [42], [180, 0, 88], [28], [46], [29], [182, 1, 147], [54, 5], [21, 4], [21, 5], [162, 0, 7], [4]] = true := by decide +kernel
theorem dX12_deeper_34 : decode cX12_deeper 34 = .ok (.aload_n 0, 1) := dc_42 (sg_at zd_dX12_deeper_34 0 rfl rfl)
theorem dX12_deeper_35 : decode cX12_deeper 35 = .ok (.aload_n 0, 1) := dc_42 (sg_at zd_dX12_deeper_34 1 rfl rfl)
theorem dX12_deeper_36 : decode cX12_deeper 36 = .ok (.getfield 88, 3) := dc_180 (sg_at zd_dX12_deeper_34 2 rfl rfl) rfl
theorem dX12_deeper_39 : decode cX12_deeper 39 = .ok (.iload_n 1, 1) := dc_27 (sg_at zd_dX12_deeper_34 3 rfl rfl)
theorem dX12_deeper_40 : decode cX12_deeper 40 = .ok (.iaload, 1) := dc_46 (sg_at zd_dX12_deeper_34 4 rfl rfl)
theorem dX12_deeper_41 : decode cX12_deeper 41 = .ok (.iload_n 3, 1) := dc_29 (sg_at zd_dX12_deeper_34 5 rfl rfl)
theorem dX12_deeper_42 : decode cX12_deeper 42 = .ok (.invokevirtual 403, 3) := dc_182 (sg_at zd_dX12_deeper_34 6 rfl rfl) rfl
theorem dX12_deeper_45 : decode cX12_deeper 45 = .ok (.istore 4, 2) := dc_54 (sg_at zd_dX12_deeper_34 7 rfl rfl)
theorem dX12_deeper_47 : decode cX12_deeper 47 = .ok (.aload_n 0, 1) := dc_42 (sg_at zd_dX12_deeper_34 8 rfl rfl)
theorem dX12_deeper_48 : decode cX12_deeper 48 = .ok (.aload_n 0, 1) := dc_42 (sg_at zd_dX12_deeper_34 9 rfl rfl)
theorem dX12_deeper_49 : decode cX12_deeper 49 = .ok (.getfield 88, 3) := dc_180 (sg_at zd_dX12_deeper_34 10 rfl rfl) rfl
theorem dX12_deeper_52 : decode cX12_deeper 52 = .ok (.iload_n 2, 1) := dc_28 (sg_at zd_dX12_deeper_34 11 rfl rfl)
theorem dX12_deeper_53 : decode cX12_deeper 53 = .ok (.iaload, 1) := dc_46 (sg_at zd_dX12_deeper_34 12 rfl rfl)
theorem dX12_deeper_54 : decode cX12_deeper 54 = .ok (.iload_n 3, 1) := dc_29 (sg_at zd_dX12_deeper_34 13 rfl rfl)
theorem dX12_deeper_55 : decode cX12_deeper 55 = .ok (.invokevirtual 403, 3) := dc_182 (sg_at zd_dX12_deeper_34 14 rfl rfl) rfl
theorem dX12_deeper_58 : decode cX12_deeper 58 = .ok (.istore 5, 2) := dc_54 (sg_at zd_dX12_deeper_34 15 rfl rfl)
theorem dX12_deeper_60 : decode cX12_deeper 60 = .ok (.iload 4, 2) := dc_21 (sg_at zd_dX12_deeper_34 16 rfl rfl)
theorem dX12_deeper_62 : decode cX12_deeper 62 = .ok (.iload 5, 2) := dc_21 (sg_at zd_dX12_deeper_34 17 rfl rfl)
theorem dX12_deeper_64 : decode cX12_deeper 64 = .ok (.if_icmp .ge 7, 3) := dc_162 (sg_at zd_dX12_deeper_34 18 rfl rfl) rfl
theorem dX12_deeper_67 : decode cX12_deeper 67 = .ok (.iconst 1, 1) := dc_4 (sg_at zd_dX12_deeper_34 19 rfl rfl)
theorem zd_dX12_deeper_68 : sg (cX12_deeper.data.toList.drop 68) [[167, 0, 15], [21, 5], [21, 4], [162, 0, 7], [5], [167, 0, 4], [3], [172]] = true := by decide +kernel
theorem dX12_deeper_68 : decode cX12_deeper 68 = .ok (.goto 15, 3) := dc_167 (sg_at zd_dX12_deeper_68 0 rfl rfl) rfl
theorem dX12_deeper_71 : decode cX12_deeper 71 = .ok (.iload 5, 2) := dc_21 (sg_at zd_dX12_deeper_68 1 rfl rfl)
theorem dX12_deeper_73 : decode cX12_deeper 73 = .ok (.iload 4, 2) := dc_21 (sg_at zd_dX12_deeper_68 2 rfl rfl)
theorem dX12_deeper_75 : decode cX12_deeper 75 = .ok (.if_icmp .ge 7, 3) := dc_162 (sg_at zd_dX12_deeper_68 3 rfl rfl) rfl
theorem dX12_deeper_78 : decode cX12_deeper 78 = .ok (.iconst 2, 1) := dc_5 (sg_at zd_dX12_deeper_68 4 rfl rfl)
theorem dX12_deeper_79 : decode cX12_deeper 79 = .ok (.goto 4, 3) := dc_167 (sg_at zd_dX12_deeper_68 5 rfl rfl) rfl
theorem dX12_deeper_82 : decode cX12_deeper 82 = .ok (.iconst 0, 1) := dc_3 (sg_at zd_dX12_deeper_68 6 rfl rfl)
theorem dX12_deeper_83 : decode cX12_deeper 83 = .ok (.ireturn, 1) := dc_172 (sg_at zd_dX12_deeper_68 7 rfl rfl)
theorem zd_dX12_fails_0 : sg (cX12_fails.data.toList.drop 0) [[42], [27], [181, 0, 154], [3], [172]] = true := by decide +kernel
theorem dX12_fails_0 : decode cX12_fails 0 = .ok (.aload_n 0, 1) := dc_42 (sg_at zd_dX12_fails_0 0 rfl rfl)
theorem dX12_fails_1 : decode cX12_fails 1 = .ok (.iload_n 1, 1) := dc_27 (sg_at zd_dX12_fails_0 1 rfl rfl)
theorem dX12_fails_2 : decode cX12_fails 2 = .ok (.putfield 154, 3) := dc_181 (sg_at zd_dX12_fails_0 2 rfl rfl) rfl
theorem dX12_fails_5 : decode cX12_fails 5 = .ok (.iconst 0, 1) := dc_3 (sg_at zd_dX12_fails_0 3 rfl rfl)
theorem dX12_fails_6 : decode cX12_fails 6 = .ok (.ireturn, 1) := dc_172 (sg_at zd_dX12_fails_0 4 rfl rfl)
theorem zd_dX12_run_0 : sg (cX12_run.data.toList.drop 0) [[42], [180, 1, 116], [66], [42], [28], [133], [181, 1, 116], [42], [182, 1, 253], [42], [27], [182, 2, 0], [42], [33], [181, 1, 116], [177]] = true := by decide +kernel
theorem dX12_run_0 : decode cX12_run 0 = .ok (.aload_n 0, 1) := dc_42 (sg_at zd_dX12_run_0 0 rfl rfl)
theorem dX12_run_1 : decode cX12_run 1 = .ok (.getfield 372, 3) := dc_180 (sg_at zd_dX12_run_0 1 rfl rfl) rfl
theorem dX12_run_4 : decode cX12_run 4 = .ok (.lstore_n 3, 1) := dc_66 (sg_at zd_dX12_run_0 2 rfl rfl)
theorem dX12_run_5 : decode cX12_run 5 = .ok (.aload_n 0, 1) := dc_42 (sg_at zd_dX12_run_0 3 rfl rfl)
theorem dX12_run_6 : decode cX12_run 6 = .ok (.iload_n 2, 1) := dc_28 (sg_at zd_dX12_run_0 4 rfl rfl)
theorem dX12_run_7 : decode cX12_run 7 = .ok (.i2l, 1) := dc_133 (sg_at zd_dX12_run_0 5 rfl rfl)
theorem dX12_run_8 : decode cX12_run 8 = .ok (.putfield 372, 3) := dc_181 (sg_at zd_dX12_run_0 6 rfl rfl) rfl
theorem dX12_run_11 : decode cX12_run 11 = .ok (.aload_n 0, 1) := dc_42 (sg_at zd_dX12_run_0 7 rfl rfl)
theorem dX12_run_12 : decode cX12_run 12 = .ok (.invokevirtual 509, 3) := dc_182 (sg_at zd_dX12_run_0 8 rfl rfl) rfl
theorem dX12_run_15 : decode cX12_run 15 = .ok (.aload_n 0, 1) := dc_42 (sg_at zd_dX12_run_0 9 rfl rfl)
theorem dX12_run_16 : decode cX12_run 16 = .ok (.iload_n 1, 1) := dc_27 (sg_at zd_dX12_run_0 10 rfl rfl)
theorem dX12_run_17 : decode cX12_run 17 = .ok (.invokevirtual 512, 3) := dc_182 (sg_at zd_dX12_run_0 11 rfl rfl) rfl
theorem dX12_run_20 : decode cX12_run 20 = .ok (.aload_n 0, 1) := dc_42 (sg_at zd_dX12_run_0 12 rfl rfl)
theorem dX12_run_21 : decode cX12_run 21 = .ok (.lload_n 3, 1) := dc_33 (sg_at zd_dX12_run_0 13 rfl rfl)
theorem dX12_run_22 : decode cX12_run 22 = .ok (.putfield 372, 3) := dc_181 (sg_at zd_dX12_run_0 14 rfl rfl) rfl
theorem dX12_run_25 : decode cX12_run 25 = .ok (.return_, 1) := dc_177 (sg_at zd_dX12_run_0 15 rfl rfl)
theorem zd_dX12_unlike_0 : sg (cX12_unlike.data.toList.drop 0) [[3], [61], [16, 99], [62], [3], [54, 4], [21, 4], [42], [180, 0, 247], [162, 0, 71], [42], [180, 0, 91], [8], [27], [104], [21, 4], [96], [46], [28], [164, 0, 17]] = true := by decide +kernel
theorem dX12_unlike_0 : decode cX12_unlike 0 = .ok (.iconst 0, 1) := dc_3 (sg_at zd_dX12_unlike_0 0 rfl rfl)
theorem dX12_unlike_1 : decode cX12_unlike 1 = .ok (.istore_n 2, 1) := dc_61 (sg_at zd_dX12_unlike_0 1 rfl rfl)
theorem dX12_unlike_2 : decode cX12_unlike 2 = .ok (.bipush 99, 2) := dc_16 (sg_at zd_dX12_unlike_0 2 rfl rfl) rfl
theorem dX12_unlike_4 : decode cX12_unlike 4 = .ok (.istore_n 3, 1) := dc_62 (sg_at zd_dX12_unlike_0 3 rfl rfl)
theorem dX12_unlike_5 : decode cX12_unlike 5 = .ok (.iconst 0, 1) := dc_3 (sg_at zd_dX12_unlike_0 4 rfl rfl)
theorem dX12_unlike_6 : decode cX12_unlike 6 = .ok (.istore 4, 2) := dc_54 (sg_at zd_dX12_unlike_0 5 rfl rfl)
theorem dX12_unlike_8 : decode cX12_unlike 8 = .ok (.iload 4, 2) := dc_21 (sg_at zd_dX12_unlike_0 6 rfl rfl)
theorem dX12_unlike_10 : decode cX12_unlike 10 = .ok (.aload_n 0, 1) := dc_42 (sg_at zd_dX12_unlike_0 7 rfl rfl)
theorem dX12_unlike_11 : decode cX12_unlike 11 = .ok (.getfield 247, 3) := dc_180 (sg_at zd_dX12_unlike_0 8 rfl rfl) rfl
theorem dX12_unlike_14 : decode cX12_unlike 14 = .ok (.if_icmp .ge 71, 3) := dc_162 (sg_at zd_dX12_unlike_0 9 rfl rfl) rfl
theorem dX12_unlike_17 : decode cX12_unlike 17 = .ok (.aload_n 0, 1) := dc_42 (sg_at zd_dX12_unlike_0 10 rfl rfl)
theorem dX12_unlike_18 : decode cX12_unlike 18 = .ok (.getfield 91, 3) := dc_180 (sg_at zd_dX12_unlike_0 11 rfl rfl) rfl
theorem dX12_unlike_21 : decode cX12_unlike 21 = .ok (.iconst 5, 1) := dc_8 (sg_at zd_dX12_unlike_0 12 rfl rfl)
theorem dX12_unlike_22 : decode cX12_unlike 22 = .ok (.iload_n 1, 1) := dc_27 (sg_at zd_dX12_unlike_0 13 rfl rfl)
theorem dX12_unlike_23 : decode cX12_unlike 23 = .ok (.imul, 1) := dc_104 (sg_at zd_dX12_unlike_0 14 rfl rfl)
theorem dX12_unlike_24 : decode cX12_unlike 24 = .ok (.iload 4, 2) := dc_21 (sg_at zd_dX12_unlike_0 15 rfl rfl)
theorem dX12_unlike_26 : decode cX12_unlike 26 = .ok (.iadd, 1) := dc_96 (sg_at zd_dX12_unlike_0 16 rfl rfl)
theorem dX12_unlike_27 : decode cX12_unlike 27 = .ok (.iaload, 1) := dc_46 (sg_at zd_dX12_unlike_0 17 rfl rfl)
theorem dX12_unlike_28 : decode cX12_unlike 28 = .ok (.iload_n 2, 1) := dc_28 (sg_at zd_dX12_unlike_0 18 rfl rfl)
theorem dX12_unlike_29 : decode cX12_unlike 29 = .ok (.if_icmp .le 17, 3) := dc_164 (sg_at zd_dX12_unlike_0 19 rfl rfl) rfl
theorem zd_dX12_unlike_32 : sg (cX12_unlike.data.toList.drop 32) [[42], [180, 0, 91], [8], [27], [104], [21, 4], [96], [46], [167, 0, 4], [28], [61], [42], [180, 0, 91], [8], [27], [104], [21, 4], [96], [46], [29]] = true := by decide +kernel
theorem dX12_unlike_32 : decode cX12_unlike 32 = .ok (.aload_n 0, 1) := dc_42 (sg_at zd_dX12_unlike_32 0 rfl rfl)
theorem dX12_unlike_33 : decode cX12_unlike 33 = .ok (.getfield 91, 3) := dc_180 (sg_at zd_dX12_unlike_32 1 rfl rfl) rfl
theorem dX12_unlike_36 : decode cX12_unlike 36 = .ok (.iconst 5, 1) := dc_8 (sg_at zd_dX12_unlike_32 2 rfl rfl)
theorem dX12_unlike_37 : decode cX12_unlike 37 = .ok (.iload_n 1, 1) := dc_27 (sg_at zd_dX12_unlike_32 3 rfl rfl)
theorem dX12_unlike_38 : decode cX12_unlike 38 = .ok (.imul, 1) := dc_104 (sg_at zd_dX12_unlike_32 4 rfl rfl)
theorem dX12_unlike_39 : decode cX12_unlike 39 = .ok (.iload 4, 2) := dc_21 (sg_at zd_dX12_unlike_32 5 rfl rfl)
theorem dX12_unlike_41 : decode cX12_unlike 41 = .ok (.iadd, 1) := dc_96 (sg_at zd_dX12_unlike_32 6 rfl rfl)
theorem dX12_unlike_42 : decode cX12_unlike 42 = .ok (.iaload, 1) := dc_46 (sg_at zd_dX12_unlike_32 7 rfl rfl)
theorem dX12_unlike_43 : decode cX12_unlike 43 = .ok (.goto 4, 3) := dc_167 (sg_at zd_dX12_unlike_32 8 rfl rfl) rfl
theorem dX12_unlike_46 : decode cX12_unlike 46 = .ok (.iload_n 2, 1) := dc_28 (sg_at zd_dX12_unlike_32 9 rfl rfl)
theorem dX12_unlike_47 : decode cX12_unlike 47 = .ok (.istore_n 2, 1) := dc_61 (sg_at zd_dX12_unlike_32 10 rfl rfl)
theorem dX12_unlike_48 : decode cX12_unlike 48 = .ok (.aload_n 0, 1) := dc_42 (sg_at zd_dX12_unlike_32 11 rfl rfl)
theorem dX12_unlike_49 : decode cX12_unlike 49 = .ok (.getfield 91, 3) := dc_180 (sg_at zd_dX12_unlike_32 12 rfl rfl) rfl
theorem dX12_unlike_52 : decode cX12_unlike 52 = .ok (.iconst 5, 1) := dc_8 (sg_at zd_dX12_unlike_32 13 rfl rfl)
theorem dX12_unlike_53 : decode cX12_unlike 53 = .ok (.iload_n 1, 1) := dc_27 (sg_at zd_dX12_unlike_32 14 rfl rfl)
theorem dX12_unlike_54 : decode cX12_unlike 54 = .ok (.imul, 1) := dc_104 (sg_at zd_dX12_unlike_32 15 rfl rfl)
theorem dX12_unlike_55 : decode cX12_unlike 55 = .ok (.iload 4, 2) := dc_21 (sg_at zd_dX12_unlike_32 16 rfl rfl)
theorem dX12_unlike_57 : decode cX12_unlike 57 = .ok (.iadd, 1) := dc_96 (sg_at zd_dX12_unlike_32 17 rfl rfl)
theorem dX12_unlike_58 : decode cX12_unlike 58 = .ok (.iaload, 1) := dc_46 (sg_at zd_dX12_unlike_32 18 rfl rfl)
theorem dX12_unlike_59 : decode cX12_unlike 59 = .ok (.iload_n 3, 1) := dc_29 (sg_at zd_dX12_unlike_32 19 rfl rfl)
theorem zd_dX12_unlike_60 : sg (cX12_unlike.data.toList.drop 60) [[162, 0, 17], [42], [180, 0, 91], [8], [27], [104], [21, 4], [96], [46], [167, 0, 4], [29], [62], [132, 4, 1], [167, 255, 182], [42], [180, 0, 247], [154, 0, 7], [3], [167, 0, 6], [28]] = true := by decide +kernel
theorem dX12_unlike_60 : decode cX12_unlike 60 = .ok (.if_icmp .ge 17, 3) := dc_162 (sg_at zd_dX12_unlike_60 0 rfl rfl) rfl
theorem dX12_unlike_63 : decode cX12_unlike 63 = .ok (.aload_n 0, 1) := dc_42 (sg_at zd_dX12_unlike_60 1 rfl rfl)
theorem dX12_unlike_64 : decode cX12_unlike 64 = .ok (.getfield 91, 3) := dc_180 (sg_at zd_dX12_unlike_60 2 rfl rfl) rfl
theorem dX12_unlike_67 : decode cX12_unlike 67 = .ok (.iconst 5, 1) := dc_8 (sg_at zd_dX12_unlike_60 3 rfl rfl)
theorem dX12_unlike_68 : decode cX12_unlike 68 = .ok (.iload_n 1, 1) := dc_27 (sg_at zd_dX12_unlike_60 4 rfl rfl)
theorem dX12_unlike_69 : decode cX12_unlike 69 = .ok (.imul, 1) := dc_104 (sg_at zd_dX12_unlike_60 5 rfl rfl)
theorem dX12_unlike_70 : decode cX12_unlike 70 = .ok (.iload 4, 2) := dc_21 (sg_at zd_dX12_unlike_60 6 rfl rfl)
theorem dX12_unlike_72 : decode cX12_unlike 72 = .ok (.iadd, 1) := dc_96 (sg_at zd_dX12_unlike_60 7 rfl rfl)
theorem dX12_unlike_73 : decode cX12_unlike 73 = .ok (.iaload, 1) := dc_46 (sg_at zd_dX12_unlike_60 8 rfl rfl)
theorem dX12_unlike_74 : decode cX12_unlike 74 = .ok (.goto 4, 3) := dc_167 (sg_at zd_dX12_unlike_60 9 rfl rfl) rfl
theorem dX12_unlike_77 : decode cX12_unlike 77 = .ok (.iload_n 3, 1) := dc_29 (sg_at zd_dX12_unlike_60 10 rfl rfl)
theorem dX12_unlike_78 : decode cX12_unlike 78 = .ok (.istore_n 3, 1) := dc_62 (sg_at zd_dX12_unlike_60 11 rfl rfl)
theorem dX12_unlike_79 : decode cX12_unlike 79 = .ok (.iinc 4 1, 3) := dc_132 (sg_at zd_dX12_unlike_60 12 rfl rfl) rfl
theorem dX12_unlike_82 : decode cX12_unlike 82 = .ok (.goto (-74), 3) := dc_167 (sg_at zd_dX12_unlike_60 13 rfl rfl) rfl
theorem dX12_unlike_85 : decode cX12_unlike 85 = .ok (.aload_n 0, 1) := dc_42 (sg_at zd_dX12_unlike_60 14 rfl rfl)
theorem dX12_unlike_86 : decode cX12_unlike 86 = .ok (.getfield 247, 3) := dc_180 (sg_at zd_dX12_unlike_60 15 rfl rfl) rfl
theorem dX12_unlike_89 : decode cX12_unlike 89 = .ok (.ifCond .ne 7, 3) := dc_154 (sg_at zd_dX12_unlike_60 16 rfl rfl) rfl
theorem dX12_unlike_92 : decode cX12_unlike 92 = .ok (.iconst 0, 1) := dc_3 (sg_at zd_dX12_unlike_60 17 rfl rfl)
theorem dX12_unlike_93 : decode cX12_unlike 93 = .ok (.goto 6, 3) := dc_167 (sg_at zd_dX12_unlike_60 18 rfl rfl) rfl
theorem dX12_unlike_96 : decode cX12_unlike 96 = .ok (.iload_n 2, 1) := dc_28 (sg_at zd_dX12_unlike_60 19 rfl rfl)
theorem zd_dX12_unlike_97 : sg (cX12_unlike.data.toList.drop 97) [[29], [100], [172]] = true := by decide +kernel
theorem dX12_unlike_97 : decode cX12_unlike 97 = .ok (.iload_n 3, 1) := dc_29 (sg_at zd_dX12_unlike_97 0 rfl rfl)
theorem dX12_unlike_98 : decode cX12_unlike 98 = .ok (.isub, 1) := dc_100 (sg_at zd_dX12_unlike_97 1 rfl rfl)
theorem dX12_unlike_99 : decode cX12_unlike 99 = .ok (.ireturn, 1) := dc_172 (sg_at zd_dX12_unlike_97 2 rfl rfl)
section
variable {p : Program} {l : Launch} {e : Env} {s : State} {m : MethodId} {args : Array Value} {below : List Frame} {meth : Method} {c : Code} {D : va_G} {cy : Nat → ClassId} {b : Nat} {A : Nat → Prop} {fl : Bool}
def vX12_beginsFrom : List Cond := .code yX12_beginsFrom cX12_beginsFrom 3 (some .int) :: TB
theorem lf12_beginsFrom_250 : Fl vX12_beginsFrom RX12 250 12 15 := ⟨RX12, TX12, 87, rfl, by decide, (fun w h9 => List.mem_cons_of_mem _ (wC_wsX120 w h9)), (List.mem_cons_of_mem _ wT_12_13)⟩
theorem lf12_beginsFrom_48 : Fl vX12_beginsFrom RX12 48 12 34 := ⟨RX12, TX12, 87, rfl, by decide, (fun w h9 => List.mem_cons_of_mem _ (wC_wsX120 w h9)), (List.mem_cons_of_mem _ wT_10_9)⟩
theorem lf12_beginsFrom_45 : Fl vX12_beginsFrom RX12 45 12 33 := ⟨RX12, TX12, 87, rfl, by decide, (fun w h9 => List.mem_cons_of_mem _ (wC_wsX120 w h9)), (List.mem_cons_of_mem _ wT_10_8)⟩
theorem cd12_beginsFrom : Cd yX12_beginsFrom 1 := ⟨by decide, by decide, by decide +kernel⟩
set_option maxHeartbeats 4000000 in
set_option maxRecDepth 100000 in
theorem T12_beginsFrom_2 (S : CallFix p m c cX12_beginsFrom 3 s args vX12_beginsFrom RX12) (hr : meth.sig.returnType = (some .int)) (hlo : meth.locks = false) {out : Int32 × PH} : ∀ (n : Nat) {h : PH} {a0 : Nat} {x1 : Int32} {x2 : Int32} (f : F12_beginsFrom_2  n h a0 x1 x2 = some out) {H : Heap} {locs : List Loc} (I : ph_I D cy b A fl h s H locs) {ls : Array Slot} (hl : lv_has ls 3 [(0, .ref (b + a0)), (1, .int x1), (2, .int x2)]), W p l e ({ frames := 0, cells := 0, slots := 0, locals := 0 } : Room) s m args below meth c H locs 0 0 (MQ below (va_Qi (fun (r : Int32) (u : PH) => (r, u) = out) (ph_B D cy b A fl) A) args s 0 0 A) (F0 m 2 ls []) := by
  intro n
  induction n with
  | zero => intro h a0 x1 x2 f; rw [F12_beginsFrom_2] at f; cases f
  | succ n ih =>
    intro h a0 x1 x2 f H locs I ls hl
    rw [F12_beginsFrom_2] at f
    refine lv_iload_n S.1 S.2.1 dX12_beginsFrom_2 rfl (lv_at hl 2 rfl) ?_
    refine lv_aload_n S.1 S.2.1 dX12_beginsFrom_3 rfl (lv_at hl 0 rfl) ?_
    obtain ⟨v1, e2, f⟩ := ob f
    refine o_gI S lf12_beginsFrom_250 I e2 dX12_beginsFrom_4 ?_
    refine lv_icmp_ge (tgt := 43) S.1 S.2.1 dX12_beginsFrom_7 (by decide) (fun q3 => ?_) (fun q3 => ?_)
    · have f := (if_pos q3).symm.trans f
      refine lv_iconst (v := (-1)) S.1 S.2.1 dX12_beginsFrom_43 (by decide) ?_
      exact o_iret S hr hlo I f dX12_beginsFrom_44
    · have f := (if_neg q3).symm.trans f
      refine lv_aload_n S.1 S.2.1 dX12_beginsFrom_10 rfl (lv_at hl 0 rfl) ?_
      obtain ⟨r4, e5, f⟩ := ob f
      refine o_gR S lf12_beginsFrom_48 I e5 dX12_beginsFrom_11 ?_
      refine lv_aload_n S.1 S.2.1 dX12_beginsFrom_14 rfl (lv_at hl 0 rfl) ?_
      obtain ⟨r6, e7, f⟩ := ob f
      refine o_gR S lf12_beginsFrom_45 I e7 dX12_beginsFrom_15 ?_
      refine lv_iload_n S.1 S.2.1 dX12_beginsFrom_18 rfl (lv_at hl 2 rfl) ?_
      obtain ⟨v9, e8, f⟩ := ob f
      refine o_iald S I e8 dX12_beginsFrom_19 ?_
      obtain ⟨v11, e10, f⟩ := ob f
      refine o_iald S I e10 dX12_beginsFrom_20 ?_
      refine lv_iload_n S.1 S.2.1 dX12_beginsFrom_21 rfl (lv_at hl 1 rfl) ?_
      refine lv_icmp_lt (tgt := 37) S.1 S.2.1 dX12_beginsFrom_22 (by decide) (fun q12 => ?_) (fun q12 => ?_)
      · have f := (if_pos q12).symm.trans f
        refine lv_iinc (v := (x2 + 1)) (lv' := [(2, .int (x2 + 1)), (0, .ref (b + a0)), (1, .int x1)]) S.1 S.2.1 dX12_beginsFrom_37 hl (k := 2) rfl (congrArg (fun z => x2 + z) (by decide)) (by decide) rfl (fun ls hl => ?_)
        refine lv_goto (tgt := 2) S.1 S.2.1 dX12_beginsFrom_40 (by decide) ?_
        exact ih f I (lv_sub hl [1, 2, 0] rfl)
      · have f := (if_neg q12).symm.trans f
        refine lv_aload_n S.1 S.2.1 dX12_beginsFrom_25 rfl (lv_at hl 0 rfl) ?_
        obtain ⟨r13, e14, f⟩ := ob f
        refine o_gR S lf12_beginsFrom_48 I e14 dX12_beginsFrom_26 ?_
        refine lv_aload_n S.1 S.2.1 dX12_beginsFrom_29 rfl (lv_at hl 0 rfl) ?_
        obtain ⟨r15, e16, f⟩ := ob f
        refine o_gR S lf12_beginsFrom_45 I e16 dX12_beginsFrom_30 ?_
        refine lv_iload_n S.1 S.2.1 dX12_beginsFrom_33 rfl (lv_at hl 2 rfl) ?_
        obtain ⟨v18, e17, f⟩ := ob f
        refine o_iald S I e17 dX12_beginsFrom_34 ?_
        obtain ⟨v20, e19, f⟩ := ob f
        refine o_iald S I e19 dX12_beginsFrom_35 ?_
        exact o_iret S hr hlo I f dX12_beginsFrom_36
set_option maxHeartbeats 4000000 in
set_option maxRecDepth 100000 in
theorem T12_beginsFrom_0 (S : CallFix p m c cX12_beginsFrom 3 s args vX12_beginsFrom RX12) (hr : meth.sig.returnType = (some .int)) (hlo : meth.locks = false) {out : Int32 × PH} {h : PH} {a0 : Nat} {x1 : Int32} (f : F12_beginsFrom_0  h a0 x1 = some out) {H : Heap} {locs : List Loc} (I : ph_I D cy b A fl h s H locs) {ls : Array Slot} (hl : lv_has ls 3 [(0, .ref (b + a0)), (1, .int x1)]) : W p l e ({ frames := 0, cells := 0, slots := 0, locals := 0 } : Room) s m args below meth c H locs 0 0 (MQ below (va_Qi (fun (r : Int32) (u : PH) => (r, u) = out) (ph_B D cy b A fl) A) args s 0 0 A) (F0 m 0 ls []) := by
  unfold F12_beginsFrom_0 at f
  refine lv_iconst (v := 0) S.1 S.2.1 dX12_beginsFrom_0 (by decide) ?_
  refine lv_istore_n (lv' := [(2, .int 0), (0, .ref (b + a0)), (1, .int x1)]) S.1 S.2.1 dX12_beginsFrom_1 rfl hl (by decide) rfl (fun ls hl => ?_)
  exact T12_beginsFrom_2 S hr hlo  1024 f I (lv_sub hl [1, 2, 0] rfl)
theorem M12_beginsFrom (l : Launch) (D : va_G) (cy : Nat → ClassId) (b : Nat) (A : Nat → Prop) (fl : Bool) {h : PH} {a0 : Nat} {x1 : Int32} {out : Int32 × PH} (f : F12_beginsFrom h a0 x1 = some out) : Met l yX12_beginsFrom vX12_beginsFrom ({ frames := 0, cells := 0, slots := 0, locals := 0 } : Room) (va_Pc [.ref (b + a0), .int x1] (ph_B D cy b A fl h)) (va_Qi (fun (r : Int32) (u : PH) => (r, u) = out) (ph_B D cy b A fl) A) 0 0 A :=
  o_met (by decide) rfl (Nat.le_of_ble_eq_true rfl) rfl (fun p e s m below meth c S hr hlo hnm ls hl I => T12_beginsFrom_0 S hr hlo ((gd f).2) I (lv_sub hl [0, 1] rfl))
def vX12_beside : List Cond := .code yX12_beside cX12_beside 5 (some .int) :: TB
theorem lf12_beside_241 : Fl vX12_beside RX12 241 12 12 := ⟨RX12, TX12, 87, rfl, by decide, (fun w h9 => List.mem_cons_of_mem _ (wC_wsX120 w h9)), (List.mem_cons_of_mem _ wT_12_10)⟩
theorem gX12_beside_X12_isIn : GoodIn vX12_beside (va_wsS RX12 199 yX12_isIn vX12_isIn) := gS_of wT_28_17 wT_28_18 wT_1_5 wT_28_19
theorem lf12_beside_244 : Fl vX12_beside RX12 244 12 13 := ⟨RX12, TX12, 87, rfl, by decide, (fun w h9 => List.mem_cons_of_mem _ (wC_wsX120 w h9)), (List.mem_cons_of_mem _ wT_12_11)⟩
theorem cd12_beside : Cd yX12_beside 2 := ⟨by decide, by decide, by decide +kernel⟩
set_option maxHeartbeats 4000000 in
set_option maxRecDepth 100000 in
theorem T12_beside_51 (S : CallFix p m c cX12_beside 5 s args vX12_beside RX12) (hr : meth.sig.returnType = (some .int)) (hlo : meth.locks = false) {out : Int32 × PH} {h : PH} {a0 : Nat} {x3 : Int32} {s0 : Int32} {s1 : Int32} (f : F12_beside_51  h a0 x3 s0 s1 = some out) {H : Heap} {locs : List Loc} (I : ph_I D cy b A fl h s H locs) {ls : Array Slot} (hl : lv_has ls 5 [(0, .ref (b + a0)), (3, .int x3)]) : W p l e ({ frames := 1, cells := 0, slots := 0, locals := 22 } : Room) s m args below meth c H locs 0 0 (MQ below (va_Qi (fun (r : Int32) (u : PH) => (r, u) = out) (ph_B D cy b A fl) A) args s 0 0 A) (F0 m 51 ls [.int s0, .int s1]) := by
  unfold F12_beside_51 at f
  refine lv_iadd S.1 S.2.1 dX12_beside_51 ?_
  refine lv_istore (lv' := [(4, .int (s1 + s0)), (0, .ref (b + a0)), (3, .int x3)]) S.1 S.2.1 dX12_beside_52 hl (by decide) rfl (fun ls hl => ?_)
  refine lv_iload_n S.1 S.2.1 dX12_beside_54 rfl (lv_at hl 2 rfl) ?_
  refine lv_iconst (v := 0) S.1 S.2.1 dX12_beside_55 (by decide) ?_
  refine lv_aload_n S.1 S.2.1 dX12_beside_56 rfl (lv_at hl 1 rfl) ?_
  obtain ⟨v1, e2, f⟩ := ob f
  refine o_gI S lf12_beside_241 I e2 dX12_beside_57 ?_
  refine lv_iconst (v := 1) S.1 S.2.1 dX12_beside_60 (by decide) ?_
  refine lv_isub S.1 S.2.1 dX12_beside_61 ?_
  obtain ⟨o3, e4, f⟩ := ob f
  refine o_Si S (As := [.int x3, .int 0, .int (v1 - 1)]) (rest := []) (M12_isIn l D cy b A fl e4) gX12_beside_X12_isIn rfl rfl rfl cd12_isIn ⟨Nat.le_of_ble_eq_true rfl, Nat.le_of_ble_eq_true rfl⟩ I rfl hl.1 rfl (Nat.le_of_ble_eq_true rfl) dX12_beside_62 ⟨Nat.le_of_ble_eq_true rfl, Nat.le_of_ble_eq_true rfl⟩ (fun H locs I => ?_)
  refine lv_if_eq (tgt := 95) S.1 S.2.1 dX12_beside_65 (by decide) (fun q5 => ?_) (fun q5 => ?_)
  · have f := (if_pos q5).symm.trans f
    refine lv_iconst (v := (-1)) S.1 S.2.1 dX12_beside_95 (by decide) ?_
    exact o_iret S hr hlo I f dX12_beside_96
  · have f := (if_neg q5).symm.trans f
    refine lv_iload S.1 S.2.1 dX12_beside_68 (lv_at hl 0 rfl) ?_
    refine lv_iconst (v := 0) S.1 S.2.1 dX12_beside_70 (by decide) ?_
    refine lv_aload_n S.1 S.2.1 dX12_beside_71 rfl (lv_at hl 1 rfl) ?_
    obtain ⟨v6, e7, f⟩ := ob f
    refine o_gI S lf12_beside_244 I e7 dX12_beside_72 ?_
    refine lv_iconst (v := 1) S.1 S.2.1 dX12_beside_75 (by decide) ?_
    refine lv_isub S.1 S.2.1 dX12_beside_76 ?_
    obtain ⟨o8, e9, f⟩ := ob f
    refine o_Si S (As := [.int (s1 + s0), .int 0, .int (v6 - 1)]) (rest := []) (M12_isIn l D cy b A fl e9) gX12_beside_X12_isIn rfl rfl rfl cd12_isIn ⟨Nat.le_of_ble_eq_true rfl, Nat.le_of_ble_eq_true rfl⟩ I rfl hl.1 rfl (Nat.le_of_ble_eq_true rfl) dX12_beside_77 ⟨Nat.le_of_ble_eq_true rfl, Nat.le_of_ble_eq_true rfl⟩ (fun H locs I => ?_)
    refine lv_if_eq (tgt := 95) S.1 S.2.1 dX12_beside_80 (by decide) (fun q10 => ?_) (fun q10 => ?_)
    · have f := (if_pos q10).symm.trans f
      refine lv_iconst (v := (-1)) S.1 S.2.1 dX12_beside_95 (by decide) ?_
      exact o_iret S hr hlo I f dX12_beside_96
    · have f := (if_neg q10).symm.trans f
      refine lv_aload_n S.1 S.2.1 dX12_beside_83 rfl (lv_at hl 1 rfl) ?_
      obtain ⟨v11, e12, f⟩ := ob f
      refine o_gI S lf12_beside_241 I e12 dX12_beside_84 ?_
      refine lv_iload S.1 S.2.1 dX12_beside_87 (lv_at hl 0 rfl) ?_
      refine lv_imul S.1 S.2.1 dX12_beside_89 ?_
      refine lv_iload_n S.1 S.2.1 dX12_beside_90 rfl (lv_at hl 2 rfl) ?_
      refine lv_iadd S.1 S.2.1 dX12_beside_91 ?_
      refine lv_goto (tgt := 96) S.1 S.2.1 dX12_beside_92 (by decide) ?_
      exact o_iret S hr hlo I f dX12_beside_96
set_option maxHeartbeats 4000000 in
set_option maxRecDepth 100000 in
theorem T12_beside_25 (S : CallFix p m c cX12_beside 5 s args vX12_beside RX12) (hr : meth.sig.returnType = (some .int)) (hlo : meth.locks = false) {out : Int32 × PH} {h : PH} {a0 : Nat} {x1 : Int32} {x2 : Int32} {s0 : Int32} {s1 : Int32} (f : F12_beside_25  h a0 x1 x2 s0 s1 = some out) {H : Heap} {locs : List Loc} (I : ph_I D cy b A fl h s H locs) {ls : Array Slot} (hl : lv_has ls 5 [(0, .ref (b + a0)), (1, .int x1), (2, .int x2)]) : W p l e ({ frames := 1, cells := 0, slots := 0, locals := 22 } : Room) s m args below meth c H locs 0 0 (MQ below (va_Qi (fun (r : Int32) (u : PH) => (r, u) = out) (ph_B D cy b A fl) A) args s 0 0 A) (F0 m 25 ls [.int s0, .int s1]) := by
  unfold F12_beside_25 at f
  refine lv_iadd S.1 S.2.1 dX12_beside_25 ?_
  refine lv_istore_n (lv' := [(3, .int (s1 + s0)), (0, .ref (b + a0)), (1, .int x1), (2, .int x2)]) S.1 S.2.1 dX12_beside_26 rfl hl (by decide) rfl (fun ls hl => ?_)
  refine lv_iload_n S.1 S.2.1 dX12_beside_27 rfl (lv_at hl 2 rfl) ?_
  refine lv_aload_n S.1 S.2.1 dX12_beside_28 rfl (lv_at hl 1 rfl) ?_
  obtain ⟨v1, e2, f⟩ := ob f
  refine o_gI S lf12_beside_241 I e2 dX12_beside_29 ?_
  have q3 : ¬ v1 = 0 := fun q => by rw [if_pos q] at f; cases f
  have f := (if_neg q3).symm.trans f
  refine lv_idiv S.1 S.2.1 dX12_beside_32 q3 ?_
  refine lv_iload_n S.1 S.2.1 dX12_beside_33 rfl (lv_at hl 3 rfl) ?_
  refine lv_iconst (v := 2) S.1 S.2.1 dX12_beside_34 (by decide) ?_
  refine lv_icmp_ne (tgt := 42) S.1 S.2.1 dX12_beside_35 (by decide) (fun q4 => ?_) (fun q4 => ?_)
  · have f := (if_neg q4).symm.trans f
    refine lv_iload_n S.1 S.2.1 dX12_beside_42 rfl (lv_at hl 3 rfl) ?_
    refine lv_if_ne (tgt := 50) S.1 S.2.1 dX12_beside_43 (by decide) (fun q5 => ?_) (fun q5 => ?_)
    · have f := (if_neg q5).symm.trans f
      refine lv_iconst (v := 0) S.1 S.2.1 dX12_beside_50 (by decide) ?_
      exact T12_beside_51 S hr hlo  f I (lv_sub hl [1, 0] rfl)
    · have f := (if_pos q5).symm.trans f
      refine lv_iconst (v := (-1)) S.1 S.2.1 dX12_beside_46 (by decide) ?_
      refine lv_goto (tgt := 51) S.1 S.2.1 dX12_beside_47 (by decide) ?_
      exact T12_beside_51 S hr hlo  f I (lv_sub hl [1, 0] rfl)
  · have f := (if_pos q4).symm.trans f
    refine lv_iconst (v := 1) S.1 S.2.1 dX12_beside_38 (by decide) ?_
    refine lv_goto (tgt := 51) S.1 S.2.1 dX12_beside_39 (by decide) ?_
    exact T12_beside_51 S hr hlo  f I (lv_sub hl [1, 0] rfl)
set_option maxHeartbeats 4000000 in
set_option maxRecDepth 100000 in
theorem T12_beside_0 (S : CallFix p m c cX12_beside 5 s args vX12_beside RX12) (hr : meth.sig.returnType = (some .int)) (hlo : meth.locks = false) {out : Int32 × PH} {h : PH} {a0 : Nat} {x1 : Int32} {x2 : Int32} (f : F12_beside_0  h a0 x1 x2 = some out) {H : Heap} {locs : List Loc} (I : ph_I D cy b A fl h s H locs) {ls : Array Slot} (hl : lv_has ls 5 [(0, .ref (b + a0)), (1, .int x1), (2, .int x2)]) : W p l e ({ frames := 1, cells := 0, slots := 0, locals := 22 } : Room) s m args below meth c H locs 0 0 (MQ below (va_Qi (fun (r : Int32) (u : PH) => (r, u) = out) (ph_B D cy b A fl) A) args s 0 0 A) (F0 m 0 ls []) := by
  unfold F12_beside_0 at f
  refine lv_iload_n S.1 S.2.1 dX12_beside_0 rfl (lv_at hl 1 rfl) ?_
  refine lv_aload_n S.1 S.2.1 dX12_beside_1 rfl (lv_at hl 0 rfl) ?_
  obtain ⟨v1, e2, f⟩ := ob f
  refine o_gI S lf12_beside_241 I e2 dX12_beside_2 ?_
  have q3 : ¬ v1 = 0 := fun q => by rw [if_pos q] at f; cases f
  have f := (if_neg q3).symm.trans f
  refine lv_irem S.1 S.2.1 dX12_beside_5 q3 ?_
  refine lv_iload_n S.1 S.2.1 dX12_beside_6 rfl (lv_at hl 2 rfl) ?_
  refine lv_iconst (v := 1) S.1 S.2.1 dX12_beside_7 (by decide) ?_
  refine lv_icmp_ne (tgt := 15) S.1 S.2.1 dX12_beside_8 (by decide) (fun q4 => ?_) (fun q4 => ?_)
  · have f := (if_neg q4).symm.trans f
    refine lv_iload_n S.1 S.2.1 dX12_beside_15 rfl (lv_at hl 2 rfl) ?_
    refine lv_iconst (v := 3) S.1 S.2.1 dX12_beside_16 (by decide) ?_
    refine lv_icmp_ne (tgt := 24) S.1 S.2.1 dX12_beside_17 (by decide) (fun q5 => ?_) (fun q5 => ?_)
    · have f := (if_neg q5).symm.trans f
      refine lv_iconst (v := 0) S.1 S.2.1 dX12_beside_24 (by decide) ?_
      exact T12_beside_25 S hr hlo  f I (lv_sub hl [0, 1, 2] rfl)
    · have f := (if_pos q5).symm.trans f
      refine lv_iconst (v := (-1)) S.1 S.2.1 dX12_beside_20 (by decide) ?_
      refine lv_goto (tgt := 25) S.1 S.2.1 dX12_beside_21 (by decide) ?_
      exact T12_beside_25 S hr hlo  f I (lv_sub hl [0, 1, 2] rfl)
  · have f := (if_pos q4).symm.trans f
    refine lv_iconst (v := 1) S.1 S.2.1 dX12_beside_11 (by decide) ?_
    refine lv_goto (tgt := 25) S.1 S.2.1 dX12_beside_12 (by decide) ?_
    exact T12_beside_25 S hr hlo  f I (lv_sub hl [0, 1, 2] rfl)
theorem M12_beside (l : Launch) (D : va_G) (cy : Nat → ClassId) (b : Nat) (A : Nat → Prop) (fl : Bool) {h : PH} {a0 : Nat} {x1 : Int32} {x2 : Int32} {out : Int32 × PH} (f : F12_beside h a0 x1 x2 = some out) : Met l yX12_beside vX12_beside ({ frames := 1, cells := 0, slots := 0, locals := 22 } : Room) (va_Pc [.ref (b + a0), .int x1, .int x2] (ph_B D cy b A fl h)) (va_Qi (fun (r : Int32) (u : PH) => (r, u) = out) (ph_B D cy b A fl) A) 0 0 A :=
  o_met (by decide) rfl (Nat.le_of_ble_eq_true rfl) rfl (fun p e s m below meth c S hr hlo hnm ls hl I => T12_beside_0 S hr hlo ((gd f).2) I (lv_sub hl [0, 1, 2] rfl))
def vX12_isSurfer : List Cond := .code yX12_isSurfer cX12_isSurfer 2 (some .boolean) :: TB
theorem lf12_isSurfer_247 : Fl vX12_isSurfer RX12 247 12 14 := ⟨RX12, TX12, 87, rfl, by decide, (fun w h9 => List.mem_cons_of_mem _ (wC_wsX120 w h9)), (List.mem_cons_of_mem _ wT_12_12)⟩
theorem cd12_isSurfer : Cd yX12_isSurfer 1 := ⟨by decide, by decide, by decide +kernel⟩
set_option maxHeartbeats 4000000 in
set_option maxRecDepth 100000 in
theorem T12_isSurfer_0 (S : CallFix p m c cX12_isSurfer 2 s args vX12_isSurfer RX12) (hr : meth.sig.returnType = (some .boolean)) (hlo : meth.locks = false) {out : Int32 × PH} {h : PH} {a0 : Nat} {x1 : Int32} (f : F12_isSurfer_0  h a0 x1 = some out) {H : Heap} {locs : List Loc} (I : ph_I D cy b A fl h s H locs) {ls : Array Slot} (hl : lv_has ls 2 [(0, .ref (b + a0)), (1, .int x1)]) : W p l e ({ frames := 0, cells := 0, slots := 0, locals := 0 } : Room) s m args below meth c H locs 0 0 (MQ below (va_Qi (fun (r : Int32) (u : PH) => (r, u) = out) (ph_B D cy b A fl) A) args s 0 0 A) (F0 m 0 ls []) := by
  unfold F12_isSurfer_0 at f
  refine lv_iload_n S.1 S.2.1 dX12_isSurfer_0 rfl (lv_at hl 1 rfl) ?_
  refine lv_if_lt (tgt := 16) S.1 S.2.1 dX12_isSurfer_1 (by decide) (fun q1 => ?_) (fun q1 => ?_)
  · have f := (if_pos q1).symm.trans f
    refine lv_iconst (v := 0) S.1 S.2.1 dX12_isSurfer_16 (by decide) ?_
    exact o_zret S hr hlo I f dX12_isSurfer_17
  · have f := (if_neg q1).symm.trans f
    refine lv_iload_n S.1 S.2.1 dX12_isSurfer_4 rfl (lv_at hl 1 rfl) ?_
    refine lv_aload_n S.1 S.2.1 dX12_isSurfer_5 rfl (lv_at hl 0 rfl) ?_
    obtain ⟨v2, e3, f⟩ := ob f
    refine o_gI S lf12_isSurfer_247 I e3 dX12_isSurfer_6 ?_
    refine lv_icmp_ge (tgt := 16) S.1 S.2.1 dX12_isSurfer_9 (by decide) (fun q4 => ?_) (fun q4 => ?_)
    · have f := (if_pos q4).symm.trans f
      refine lv_iconst (v := 0) S.1 S.2.1 dX12_isSurfer_16 (by decide) ?_
      exact o_zret S hr hlo I f dX12_isSurfer_17
    · have f := (if_neg q4).symm.trans f
      refine lv_iconst (v := 1) S.1 S.2.1 dX12_isSurfer_12 (by decide) ?_
      refine lv_goto (tgt := 17) S.1 S.2.1 dX12_isSurfer_13 (by decide) ?_
      exact o_zret S hr hlo I f dX12_isSurfer_17
theorem M12_isSurfer (l : Launch) (D : va_G) (cy : Nat → ClassId) (b : Nat) (A : Nat → Prop) (fl : Bool) {h : PH} {a0 : Nat} {x1 : Int32} {out : Int32 × PH} (f : F12_isSurfer h a0 x1 = some out) : Met l yX12_isSurfer vX12_isSurfer ({ frames := 0, cells := 0, slots := 0, locals := 0 } : Room) (va_Pc [.ref (b + a0), .int x1] (ph_B D cy b A fl h)) (va_Qi (fun (r : Int32) (u : PH) => (r, u) = out) (ph_B D cy b A fl) A) 0 0 A :=
  o_met (by decide) rfl (Nat.le_of_ble_eq_true rfl) rfl (fun p e s m below meth c S hr hlo hnm ls hl I => T12_isSurfer_0 S hr hlo ((gd f).2) I (lv_sub hl [0, 1] rfl))
def vX12_cells : List Cond := .code yX12_cells cX12_cells 1 (some .int) :: TB
theorem lf12_cells_241 : Fl vX12_cells RX12 241 12 12 := ⟨RX12, TX12, 87, rfl, by decide, (fun w h9 => List.mem_cons_of_mem _ (wC_wsX120 w h9)), (List.mem_cons_of_mem _ wT_12_10)⟩
theorem lf12_cells_244 : Fl vX12_cells RX12 244 12 13 := ⟨RX12, TX12, 87, rfl, by decide, (fun w h9 => List.mem_cons_of_mem _ (wC_wsX120 w h9)), (List.mem_cons_of_mem _ wT_12_11)⟩
theorem cd12_cells : Cd yX12_cells 0 := ⟨by decide, by decide, by decide +kernel⟩
set_option maxHeartbeats 4000000 in
set_option maxRecDepth 100000 in
theorem T12_cells_0 (S : CallFix p m c cX12_cells 1 s args vX12_cells RX12) (hr : meth.sig.returnType = (some .int)) (hlo : meth.locks = false) {out : Int32 × PH} {h : PH} {a0 : Nat} (f : F12_cells_0  h a0 = some out) {H : Heap} {locs : List Loc} (I : ph_I D cy b A fl h s H locs) {ls : Array Slot} (hl : lv_has ls 1 [(0, .ref (b + a0))]) : W p l e ({ frames := 0, cells := 0, slots := 0, locals := 0 } : Room) s m args below meth c H locs 0 0 (MQ below (va_Qi (fun (r : Int32) (u : PH) => (r, u) = out) (ph_B D cy b A fl) A) args s 0 0 A) (F0 m 0 ls []) := by
  unfold F12_cells_0 at f
  refine lv_aload_n S.1 S.2.1 dX12_cells_0 rfl (lv_at hl 0 rfl) ?_
  obtain ⟨v1, e2, f⟩ := ob f
  refine o_gI S lf12_cells_241 I e2 dX12_cells_1 ?_
  refine lv_aload_n S.1 S.2.1 dX12_cells_4 rfl (lv_at hl 0 rfl) ?_
  obtain ⟨v3, e4, f⟩ := ob f
  refine o_gI S lf12_cells_244 I e4 dX12_cells_5 ?_
  refine lv_imul S.1 S.2.1 dX12_cells_8 ?_
  exact o_iret S hr hlo I f dX12_cells_9
theorem M12_cells (l : Launch) (D : va_G) (cy : Nat → ClassId) (b : Nat) (A : Nat → Prop) (fl : Bool) {h : PH} {a0 : Nat} {out : Int32 × PH} (f : F12_cells h a0 = some out) : Met l yX12_cells vX12_cells ({ frames := 0, cells := 0, slots := 0, locals := 0 } : Room) (va_Pc [.ref (b + a0)] (ph_B D cy b A fl h)) (va_Qi (fun (r : Int32) (u : PH) => (r, u) = out) (ph_B D cy b A fl) A) 0 0 A :=
  o_met (by decide) rfl (Nat.le_of_ble_eq_true rfl) rfl (fun p e s m below meth c S hr hlo hnm ls hl I => T12_cells_0 S hr hlo ((gd f).2) I (lv_sub hl [0] rfl))
def vX12_gainOf : List Cond := .code yX12_gainOf cX12_gainOf 4 (some .int) :: TB
theorem gX12_gainOf_X12_oddsOf : GoodIn vX12_gainOf (wsV RX12 425 RX12 yX12_oddsOf vX12_oddsOf) := gV_of wT_40_1 wT_40_2 wT_40_3 wT_1_5 wT_40_4
theorem lf12_gainOf_51 : Fl vX12_gainOf RX12 51 12 35 := ⟨RX12, TX12, 87, rfl, by decide, (fun w h9 => List.mem_cons_of_mem _ (wC_wsX120 w h9)), (List.mem_cons_of_mem _ wT_10_10)⟩
theorem cd12_gainOf : Cd yX12_gainOf 3 := ⟨by decide, by decide, by decide +kernel⟩
set_option maxHeartbeats 4000000 in
set_option maxRecDepth 100000 in
theorem T12_gainOf_0 (S : CallFix p m c cX12_gainOf 4 s args vX12_gainOf RX12) (hr : meth.sig.returnType = (some .int)) (hlo : meth.locks = false) {out : Int32 × PH} {h : PH} {a0 : Nat} {x1 : Int32} {x2 : Int32} {x3 : Int32} (f : F12_gainOf_0  h a0 x1 x2 x3 = some out) {H : Heap} {locs : List Loc} (I : ph_I D cy b A fl h s H locs) {ls : Array Slot} (hl : lv_has ls 4 [(0, .ref (b + a0)), (1, .int x1), (2, .int x2), (3, .int x3)]) : W p l e ({ frames := 7, cells := 0, slots := 0, locals := 169 } : Room) s m args below meth c H locs 0 0 (MQ below (va_Qi (fun (r : Int32) (u : PH) => (r, u) = out) (ph_B D cy b A fl) A) args s 0 0 A) (F0 m 0 ls []) := by
  unfold F12_gainOf_0 at f
  refine lv_aload_n S.1 S.2.1 dX12_gainOf_0 rfl (lv_at hl 0 rfl) ?_
  refine lv_iload_n S.1 S.2.1 dX12_gainOf_1 rfl (lv_at hl 1 rfl) ?_
  refine lv_iload_n S.1 S.2.1 dX12_gainOf_2 rfl (lv_at hl 2 rfl) ?_
  refine lv_iload_n S.1 S.2.1 dX12_gainOf_3 rfl (lv_at hl 3 rfl) ?_
  obtain ⟨o1, e2, f⟩ := ob f
  refine o_Vi S (As := [.int x1, .int x2, .int x3]) (rest := []) (ci := 12) (M12_oddsOf l D cy b A fl e2) gX12_gainOf_X12_oddsOf rfl rfl rfl cd12_oddsOf ⟨Nat.le_of_ble_eq_true rfl, Nat.le_of_ble_eq_true rfl⟩ I (gd e2).1 clX12 rfl rfl hl.1 rfl (Nat.le_of_ble_eq_true rfl) dX12_gainOf_4 ⟨Nat.le_of_ble_eq_true rfl, Nat.le_of_ble_eq_true rfl⟩ (fun H locs I => ?_)
  refine lv_aload_n S.1 S.2.1 dX12_gainOf_7 rfl (lv_at hl 0 rfl) ?_
  obtain ⟨r3, e4, f⟩ := ob f
  refine o_gR S lf12_gainOf_51 I e4 dX12_gainOf_8 ?_
  refine lv_iload_n S.1 S.2.1 dX12_gainOf_11 rfl (lv_at hl 2 rfl) ?_
  obtain ⟨v6, e5, f⟩ := ob f
  refine o_iald S I e5 dX12_gainOf_12 ?_
  refine lv_imul S.1 S.2.1 dX12_gainOf_13 ?_
  exact o_iret S hr hlo I f dX12_gainOf_14
theorem M12_gainOf (l : Launch) (D : va_G) (cy : Nat → ClassId) (b : Nat) (A : Nat → Prop) (fl : Bool) {h : PH} {a0 : Nat} {x1 : Int32} {x2 : Int32} {x3 : Int32} {out : Int32 × PH} (f : F12_gainOf h a0 x1 x2 x3 = some out) : Met l yX12_gainOf vX12_gainOf ({ frames := 7, cells := 0, slots := 0, locals := 169 } : Room) (va_Pc [.ref (b + a0), .int x1, .int x2, .int x3] (ph_B D cy b A fl h)) (va_Qi (fun (r : Int32) (u : PH) => (r, u) = out) (ph_B D cy b A fl) A) 0 0 A :=
  o_met (by decide) rfl (Nat.le_of_ble_eq_true rfl) rfl (fun p e s m below meth c S hr hlo hnm ls hl I => T12_gainOf_0 S hr hlo ((gd f).2) I (lv_sub hl [0, 1, 2, 3] rfl))
def vX12_seatFrom : List Cond := .code yX12_seatFrom cX12_seatFrom 6 (some .int) :: TB
theorem lf12_seatFrom_253 : Fl vX12_seatFrom RX12 253 12 16 := ⟨RX12, TX12, 87, rfl, by decide, (fun w h9 => List.mem_cons_of_mem _ (wC_wsX120 w h9)), (List.mem_cons_of_mem _ wT_12_14)⟩
theorem lf12_seatFrom_48 : Fl vX12_seatFrom RX12 48 12 34 := ⟨RX12, TX12, 87, rfl, by decide, (fun w h9 => List.mem_cons_of_mem _ (wC_wsX120 w h9)), (List.mem_cons_of_mem _ wT_10_9)⟩
theorem gX12_seatFrom_X12_gainOf : GoodIn vX12_seatFrom (wsV RX12 479 RX12 yX12_gainOf vX12_gainOf) := gV_of wT_50_5 wT_50_6 wT_50_7 wT_1_5 wT_50_8
theorem cd12_seatFrom : Cd yX12_seatFrom 3 := ⟨by decide, by decide, by decide +kernel⟩
set_option maxHeartbeats 4000000 in
set_option maxRecDepth 100000 in
theorem T12_seatFrom_6 (S : CallFix p m c cX12_seatFrom 6 s args vX12_seatFrom RX12) (hr : meth.sig.returnType = (some .int)) (hlo : meth.locks = false) {out : Int32 × PH} : ∀ (n : Nat) {h : PH} {a0 : Nat} {x1 : Int32} {x2 : Int32} {x3 : Int32} {x4 : Int32} {x5 : Int32} (f : F12_seatFrom_6  n h a0 x1 x2 x3 x4 x5 = some out) {H : Heap} {locs : List Loc} (I : ph_I D cy b A fl h s H locs) {ls : Array Slot} (hl : lv_has ls 6 [(0, .ref (b + a0)), (1, .int x1), (2, .int x2), (3, .int x3), (4, .int x4), (5, .int x5)]), W p l e ({ frames := 8, cells := 0, slots := 0, locals := 192 } : Room) s m args below meth c H locs 0 0 (MQ below (va_Qi (fun (r : Int32) (u : PH) => (r, u) = out) (ph_B D cy b A fl) A) args s 0 0 A) (F0 m 6 ls []) := by
  intro n
  induction n with
  | zero => intro h a0 x1 x2 x3 x4 x5 f; rw [F12_seatFrom_6] at f; cases f
  | succ n ih =>
    intro h a0 x1 x2 x3 x4 x5 f H locs I ls hl
    rw [F12_seatFrom_6] at f
    refine lv_iload S.1 S.2.1 dX12_seatFrom_6 (lv_at hl 5 rfl) ?_
    refine lv_aload_n S.1 S.2.1 dX12_seatFrom_8 rfl (lv_at hl 0 rfl) ?_
    obtain ⟨v1, e2, f⟩ := ob f
    refine o_gI S lf12_seatFrom_253 I e2 dX12_seatFrom_9 ?_
    refine lv_icmp_ge (tgt := 49) S.1 S.2.1 dX12_seatFrom_12 (by decide) (fun q3 => ?_) (fun q3 => ?_)
    · have f := (if_pos q3).symm.trans f
      refine lv_iload S.1 S.2.1 dX12_seatFrom_49 (lv_at hl 4 rfl) ?_
      exact o_iret S hr hlo I f dX12_seatFrom_51
    · have f := (if_neg q3).symm.trans f
      refine lv_iload S.1 S.2.1 dX12_seatFrom_15 (lv_at hl 4 rfl) ?_
      refine lv_aload_n S.1 S.2.1 dX12_seatFrom_17 rfl (lv_at hl 0 rfl) ?_
      obtain ⟨r4, e5, f⟩ := ob f
      refine o_gR S lf12_seatFrom_48 I e5 dX12_seatFrom_18 ?_
      refine lv_iload S.1 S.2.1 dX12_seatFrom_21 (lv_at hl 5 rfl) ?_
      obtain ⟨v7, e6, f⟩ := ob f
      refine o_iald S I e6 dX12_seatFrom_23 ?_
      refine lv_iload_n S.1 S.2.1 dX12_seatFrom_24 rfl (lv_at hl 3 rfl) ?_
      refine lv_icmp_lt (tgt := 39) S.1 S.2.1 dX12_seatFrom_25 (by decide) (fun q8 => ?_) (fun q8 => ?_)
      · have f := (if_pos q8).symm.trans f
        refine lv_iconst (v := 0) S.1 S.2.1 dX12_seatFrom_39 (by decide) ?_
        refine lv_iadd S.1 S.2.1 dX12_seatFrom_40 ?_
        refine lv_istore (lv' := [(4, .int (x4 + 0)), (0, .ref (b + a0)), (1, .int x1), (2, .int x2), (3, .int x3), (5, .int x5)]) S.1 S.2.1 dX12_seatFrom_41 hl (by decide) rfl (fun ls hl => ?_)
        refine lv_iinc (v := (x5 + 1)) (lv' := [(5, .int (x5 + 1)), (4, .int (x4 + 0)), (0, .ref (b + a0)), (1, .int x1), (2, .int x2), (3, .int x3)]) S.1 S.2.1 dX12_seatFrom_43 hl (k := 5) rfl (congrArg (fun z => x5 + z) (by decide)) (by decide) rfl (fun ls hl => ?_)
        refine lv_goto (tgt := 6) S.1 S.2.1 dX12_seatFrom_46 (by decide) ?_
        exact ih f I (lv_sub hl [2, 3, 4, 5, 1, 0] rfl)
      · have f := (if_neg q8).symm.trans f
        refine lv_aload_n S.1 S.2.1 dX12_seatFrom_28 rfl (lv_at hl 0 rfl) ?_
        refine lv_iload_n S.1 S.2.1 dX12_seatFrom_29 rfl (lv_at hl 1 rfl) ?_
        refine lv_iload S.1 S.2.1 dX12_seatFrom_30 (lv_at hl 5 rfl) ?_
        refine lv_iload_n S.1 S.2.1 dX12_seatFrom_32 rfl (lv_at hl 2 rfl) ?_
        obtain ⟨o9, e10, f⟩ := ob f
        refine o_Vi S (As := [.int x1, .int x5, .int x2]) (rest := [.int x4]) (ci := 12) (M12_gainOf l D cy b A fl e10) gX12_seatFrom_X12_gainOf rfl rfl rfl cd12_gainOf ⟨Nat.le_of_ble_eq_true rfl, Nat.le_of_ble_eq_true rfl⟩ I (gd e10).1 clX12 rfl rfl hl.1 rfl (Nat.le_of_ble_eq_true rfl) dX12_seatFrom_33 ⟨Nat.le_of_ble_eq_true rfl, Nat.le_of_ble_eq_true rfl⟩ (fun H locs I => ?_)
        refine lv_goto (tgt := 40) S.1 S.2.1 dX12_seatFrom_36 (by decide) ?_
        refine lv_iadd S.1 S.2.1 dX12_seatFrom_40 ?_
        refine lv_istore (lv' := [(4, .int (x4 + o9.1)), (0, .ref (b + a0)), (1, .int x1), (2, .int x2), (3, .int x3), (5, .int x5)]) S.1 S.2.1 dX12_seatFrom_41 hl (by decide) rfl (fun ls hl => ?_)
        refine lv_iinc (v := (x5 + 1)) (lv' := [(5, .int (x5 + 1)), (4, .int (x4 + o9.1)), (0, .ref (b + a0)), (1, .int x1), (2, .int x2), (3, .int x3)]) S.1 S.2.1 dX12_seatFrom_43 hl (k := 5) rfl (congrArg (fun z => x5 + z) (by decide)) (by decide) rfl (fun ls hl => ?_)
        refine lv_goto (tgt := 6) S.1 S.2.1 dX12_seatFrom_46 (by decide) ?_
        exact ih f I (lv_sub hl [2, 3, 4, 5, 1, 0] rfl)
set_option maxHeartbeats 4000000 in
set_option maxRecDepth 100000 in
theorem T12_seatFrom_0 (S : CallFix p m c cX12_seatFrom 6 s args vX12_seatFrom RX12) (hr : meth.sig.returnType = (some .int)) (hlo : meth.locks = false) {out : Int32 × PH} {h : PH} {a0 : Nat} {x1 : Int32} {x2 : Int32} {x3 : Int32} (f : F12_seatFrom_0  h a0 x1 x2 x3 = some out) {H : Heap} {locs : List Loc} (I : ph_I D cy b A fl h s H locs) {ls : Array Slot} (hl : lv_has ls 6 [(0, .ref (b + a0)), (1, .int x1), (2, .int x2), (3, .int x3)]) : W p l e ({ frames := 8, cells := 0, slots := 0, locals := 192 } : Room) s m args below meth c H locs 0 0 (MQ below (va_Qi (fun (r : Int32) (u : PH) => (r, u) = out) (ph_B D cy b A fl) A) args s 0 0 A) (F0 m 0 ls []) := by
  unfold F12_seatFrom_0 at f
  refine lv_iconst (v := 0) S.1 S.2.1 dX12_seatFrom_0 (by decide) ?_
  refine lv_istore (lv' := [(4, .int 0), (0, .ref (b + a0)), (1, .int x1), (2, .int x2), (3, .int x3)]) S.1 S.2.1 dX12_seatFrom_1 hl (by decide) rfl (fun ls hl => ?_)
  refine lv_iconst (v := 0) S.1 S.2.1 dX12_seatFrom_3 (by decide) ?_
  refine lv_istore (lv' := [(5, .int 0), (4, .int 0), (0, .ref (b + a0)), (1, .int x1), (2, .int x2), (3, .int x3)]) S.1 S.2.1 dX12_seatFrom_4 hl (by decide) rfl (fun ls hl => ?_)
  exact T12_seatFrom_6 S hr hlo  1024 f I (lv_sub hl [2, 3, 4, 5, 1, 0] rfl)
theorem M12_seatFrom (l : Launch) (D : va_G) (cy : Nat → ClassId) (b : Nat) (A : Nat → Prop) (fl : Bool) {h : PH} {a0 : Nat} {x1 : Int32} {x2 : Int32} {x3 : Int32} {out : Int32 × PH} (f : F12_seatFrom h a0 x1 x2 x3 = some out) : Met l yX12_seatFrom vX12_seatFrom ({ frames := 8, cells := 0, slots := 0, locals := 192 } : Room) (va_Pc [.ref (b + a0), .int x1, .int x2, .int x3] (ph_B D cy b A fl h)) (va_Qi (fun (r : Int32) (u : PH) => (r, u) = out) (ph_B D cy b A fl) A) 0 0 A :=
  o_met (by decide) rfl (Nat.le_of_ble_eq_true rfl) rfl (fun p e s m below meth c S hr hlo hnm ls hl I => T12_seatFrom_0 S hr hlo ((gd f).2) I (lv_sub hl [0, 1, 2, 3] rfl))
def vX12_best : List Cond := .code yX12_best cX12_best 6 (some .int) :: TB
theorem gX12_best_X12_cells : GoodIn vX12_best (wsV RX12 366 RX12 yX12_cells vX12_cells) := gV_of wT_39_21 wT_39_22 wT_39_23 wT_1_5 wT_40_0
theorem lf12_best_106 : Fl vX12_best RX12 106 12 61 := ⟨RX12, TX12, 87, rfl, by decide, (fun w h9 => List.mem_cons_of_mem _ (wC_wsX120 w h9)), (List.mem_cons_of_mem _ wT_11_4)⟩
theorem gX12_best_X12_seatFrom : GoodIn vX12_best (wsV RX12 482 RX12 yX12_seatFrom vX12_seatFrom) := gV_of wT_50_1 wT_50_2 wT_50_3 wT_1_5 wT_50_4
theorem lp12_best_154 : Pl vX12_best RX12 154 12 2 .int := ⟨RX12, TX12, 87, tyX12, rfl, by decide, (fun w h9 => List.mem_cons_of_mem _ (wC_wsX120 w h9)), (List.mem_cons_of_mem _ wT_13_17), tyX12_ok, nmX12, rfl, rfl⟩
theorem gX12_best_X12_isSurfer : GoodIn vX12_best (wsV RX12 413 RX12 yX12_isSurfer vX12_isSurfer) := gV_of wT_34_14 wT_34_15 wT_34_16 wT_1_5 wT_34_17
set_option maxHeartbeats 4000000 in
set_option maxRecDepth 100000 in
theorem T12_best_22 (S : CallFix p m c cX12_best 6 s args vX12_best RX12) (hr : meth.sig.returnType = (some .int)) (hlo : meth.locks = false) {out : Int32 × PH} : ∀ (n : Nat) {h : PH} {a0 : Nat} {x1 : Int32} {x2 : Int32} {x3 : Int32} {x4 : Int32} (f : F12_best_22  n h a0 x1 x2 x3 x4 = some out) {H : Heap} {locs : List Loc} (I : ph_I D cy b A fl h s H locs) {ls : Array Slot} (hl : lv_has ls 6 [(0, .ref (b + a0)), (1, .int x1), (2, .int x2), (3, .int x3), (4, .int x4)]), W p l e ({ frames := 9, cells := 0, slots := 0, locals := 217 } : Room) s m args below meth c H locs 0 0 (MQ below (va_Qi (fun (r : Int32) (u : PH) => (r, u) = out) (ph_B D cy b A fl) A) args s 0 0 A) (F0 m 22 ls []) := by
  intro n
  induction n with
  | zero => intro h a0 x1 x2 x3 x4 f; rw [F12_best_22] at f; cases f
  | succ n ih =>
    intro h a0 x1 x2 x3 x4 f H locs I ls hl
    rw [F12_best_22] at f
    refine lv_iload S.1 S.2.1 dX12_best_22 (lv_at hl 4 rfl) ?_
    refine lv_aload_n S.1 S.2.1 dX12_best_24 rfl (lv_at hl 0 rfl) ?_
    obtain ⟨o1, e2, f⟩ := ob f
    refine o_Vi S (As := []) (rest := [.int x4]) (ci := 12) (M12_cells l D cy b A fl e2) gX12_best_X12_cells rfl rfl rfl cd12_cells ⟨Nat.le_of_ble_eq_true rfl, Nat.le_of_ble_eq_true rfl⟩ I (gd e2).1 clX12 rfl rfl hl.1 rfl (Nat.le_of_ble_eq_true rfl) dX12_best_25 ⟨Nat.le_of_ble_eq_true rfl, Nat.le_of_ble_eq_true rfl⟩ (fun H locs I => ?_)
    refine lv_icmp_ge (tgt := 67) S.1 S.2.1 dX12_best_28 (by decide) (fun q3 => ?_) (fun q3 => ?_)
    · have f := (if_pos q3).symm.trans f
      refine lv_iload_n S.1 S.2.1 dX12_best_67 rfl (lv_at hl 2 rfl) ?_
      exact o_iret S hr hlo I f dX12_best_68
    · have f := (if_neg q3).symm.trans f
      refine lv_aload_n S.1 S.2.1 dX12_best_31 rfl (lv_at hl 0 rfl) ?_
      refine lv_iload_n S.1 S.2.1 dX12_best_32 rfl (lv_at hl 1 rfl) ?_
      refine lv_iload S.1 S.2.1 dX12_best_33 (lv_at hl 4 rfl) ?_
      refine lv_aload_n S.1 S.2.1 dX12_best_35 rfl (lv_at hl 0 rfl) ?_
      obtain ⟨r4, e5, f⟩ := ob f
      refine o_gR S lf12_best_106 I e5 dX12_best_36 ?_
      refine lv_iconst (v := 0) S.1 S.2.1 dX12_best_39 (by decide) ?_
      obtain ⟨v7, e6, f⟩ := ob f
      refine o_iald S I e6 dX12_best_40 ?_
      obtain ⟨o8, e9, f⟩ := ob f
      refine o_Vi S (As := [.int x1, .int x4, .int v7]) (rest := []) (ci := 12) (M12_seatFrom l D cy b A fl e9) gX12_best_X12_seatFrom rfl rfl rfl cd12_seatFrom ⟨Nat.le_of_ble_eq_true rfl, Nat.le_of_ble_eq_true rfl⟩ I (gd e9).1 clX12 rfl rfl hl.1 rfl (Nat.le_of_ble_eq_true rfl) dX12_best_41 ⟨Nat.le_of_ble_eq_true rfl, Nat.le_of_ble_eq_true rfl⟩ (fun H locs I => ?_)
      refine lv_istore (lv' := [(5, .int o8.1), (0, .ref (b + a0)), (1, .int x1), (2, .int x2), (3, .int x3), (4, .int x4)]) S.1 S.2.1 dX12_best_44 hl (by decide) rfl (fun ls hl => ?_)
      refine lv_iload S.1 S.2.1 dX12_best_46 (lv_at hl 0 rfl) ?_
      refine lv_iload_n S.1 S.2.1 dX12_best_48 rfl (lv_at hl 4 rfl) ?_
      refine lv_icmp_gt (tgt := 55) S.1 S.2.1 dX12_best_49 (by decide) (fun q10 => ?_) (fun q10 => ?_)
      · have f := (if_pos q10).symm.trans f
        refine lv_iload S.1 S.2.1 dX12_best_55 (lv_at hl 5 rfl) ?_
        refine lv_istore_n (lv' := [(2, .int x4), (5, .int o8.1), (0, .ref (b + a0)), (1, .int x1), (3, .int x3), (4, .int x4)]) S.1 S.2.1 dX12_best_57 rfl hl (by decide) rfl (fun ls hl => ?_)
        refine lv_iload S.1 S.2.1 dX12_best_58 (lv_at hl 1 rfl) ?_
        refine lv_istore_n (lv' := [(3, .int o8.1), (2, .int x4), (5, .int o8.1), (0, .ref (b + a0)), (1, .int x1), (4, .int x4)]) S.1 S.2.1 dX12_best_60 rfl hl (by decide) rfl (fun ls hl => ?_)
        refine lv_iinc (v := (x4 + 1)) (lv' := [(4, .int (x4 + 1)), (3, .int o8.1), (2, .int x4), (5, .int o8.1), (0, .ref (b + a0)), (1, .int x1)]) S.1 S.2.1 dX12_best_61 hl (k := 5) rfl (congrArg (fun z => x4 + z) (by decide)) (by decide) rfl (fun ls hl => ?_)
        refine lv_goto (tgt := 22) S.1 S.2.1 dX12_best_64 (by decide) ?_
        exact ih f I (lv_sub hl [4, 5, 2, 1, 0] rfl)
      · have f := (if_neg q10).symm.trans f
        refine lv_goto (tgt := 61) S.1 S.2.1 dX12_best_52 (by decide) ?_
        refine lv_iinc (v := (x4 + 1)) (lv' := [(4, .int (x4 + 1)), (5, .int o8.1), (0, .ref (b + a0)), (1, .int x1), (2, .int x2), (3, .int x3)]) S.1 S.2.1 dX12_best_61 hl (k := 5) rfl (congrArg (fun z => x4 + z) (by decide)) (by decide) rfl (fun ls hl => ?_)
        refine lv_goto (tgt := 22) S.1 S.2.1 dX12_best_64 (by decide) ?_
        exact ih f I (lv_sub hl [2, 3, 4, 5, 0] rfl)
set_option maxHeartbeats 4000000 in
set_option maxRecDepth 100000 in
theorem T12_best_0 (S : CallFix p m c cX12_best 6 s args vX12_best RX12) (hr : meth.sig.returnType = (some .int)) (hlo : meth.locks = false) {out : Int32 × PH} {h : PH} {a0 : Nat} {x1 : Int32} (f : F12_best_0  h a0 x1 = some out) {H : Heap} {locs : List Loc} (I : ph_I D cy b A fl h s H locs) {ls : Array Slot} (hl : lv_has ls 6 [(0, .ref (b + a0)), (1, .int x1)]) : W p l e ({ frames := 9, cells := 0, slots := 0, locals := 217 } : Room) s m args below meth c H locs 0 0 (MQ below (va_Qi (fun (r : Int32) (u : PH) => (r, u) = out) (ph_B D cy b A fl) A) args s 0 0 A) (F0 m 0 ls []) := by
  unfold F12_best_0 at f
  refine lv_aload_n S.1 S.2.1 dX12_best_0 rfl (lv_at hl 0 rfl) ?_
  refine lv_iconst (v := 0) S.1 S.2.1 dX12_best_1 (by decide) ?_
  obtain ⟨h1, e2, f⟩ := ob f
  refine o_pI S lp12_best_154 I e2 dX12_best_2 (fun H locs I => ?_)
  refine lv_aload_n S.1 S.2.1 dX12_best_5 rfl (lv_at hl 0 rfl) ?_
  refine lv_iload_n S.1 S.2.1 dX12_best_6 rfl (lv_at hl 1 rfl) ?_
  obtain ⟨o3, e4, f⟩ := ob f
  refine o_Vi S (As := [.int x1]) (rest := []) (ci := 12) (M12_isSurfer l D cy b A fl e4) gX12_best_X12_isSurfer rfl rfl rfl cd12_isSurfer ⟨Nat.le_of_ble_eq_true rfl, Nat.le_of_ble_eq_true rfl⟩ I (gd e4).1 clX12 rfl rfl hl.1 rfl (Nat.le_of_ble_eq_true rfl) dX12_best_7 ⟨Nat.le_of_ble_eq_true rfl, Nat.le_of_ble_eq_true rfl⟩ (fun H locs I => ?_)
  refine lv_if_ne (tgt := 15) S.1 S.2.1 dX12_best_10 (by decide) (fun q5 => ?_) (fun q5 => ?_)
  · have f := (if_neg q5).symm.trans f
    refine lv_iconst (v := 0) S.1 S.2.1 dX12_best_15 (by decide) ?_
    refine lv_istore_n (lv' := [(2, .int 0), (0, .ref (b + a0)), (1, .int x1)]) S.1 S.2.1 dX12_best_16 rfl hl (by decide) rfl (fun ls hl => ?_)
    refine lv_iconst (v := (-1)) S.1 S.2.1 dX12_best_17 (by decide) ?_
    refine lv_istore_n (lv' := [(3, .int (-1)), (2, .int 0), (0, .ref (b + a0)), (1, .int x1)]) S.1 S.2.1 dX12_best_18 rfl hl (by decide) rfl (fun ls hl => ?_)
    refine lv_iconst (v := 0) S.1 S.2.1 dX12_best_19 (by decide) ?_
    refine lv_istore (lv' := [(4, .int 0), (3, .int (-1)), (2, .int 0), (0, .ref (b + a0)), (1, .int x1)]) S.1 S.2.1 dX12_best_20 hl (by decide) rfl (fun ls hl => ?_)
    exact T12_best_22 S hr hlo  1024 f I (lv_sub hl [3, 4, 2, 1, 0] rfl)
  · have f := (if_pos q5).symm.trans f
    refine lv_iconst (v := (-1)) S.1 S.2.1 dX12_best_13 (by decide) ?_
    exact o_iret S hr hlo I f dX12_best_14
theorem M12_best (l : Launch) (D : va_G) (cy : Nat → ClassId) (b : Nat) (A : Nat → Prop) (fl : Bool) {h : PH} {a0 : Nat} {x1 : Int32} {out : Int32 × PH} (f : F12_best h a0 x1 = some out) : Met l yX12_best vX12_best ({ frames := 9, cells := 0, slots := 0, locals := 217 } : Room) (va_Pc [.ref (b + a0), .int x1] (ph_B D cy b A fl h)) (va_Qi (fun (r : Int32) (u : PH) => (r, u) = out) (ph_B D cy b A fl) A) 0 0 A :=
  o_met (by decide) rfl (Nat.le_of_ble_eq_true rfl) rfl (fun p e s m below meth c S hr hlo hnm ls hl I => T12_best_0 S hr hlo ((gd f).2) I (lv_sub hl [0, 1] rfl))
def vX12_rank : List Cond := .code yX12_rank cX12_rank 1 (some .int) :: TB
theorem cd12_rank : Cd yX12_rank 1 := ⟨by decide, by decide, by decide +kernel⟩
set_option maxHeartbeats 4000000 in
set_option maxRecDepth 100000 in
theorem T12_rank_0 (S : CallFix p m c cX12_rank 1 s args vX12_rank RX12) (hr : meth.sig.returnType = (some .int)) (hlo : meth.locks = false) {out : Int32 × PH} {h : PH} {x0 : Int32} (f : F12_rank_0  h x0 = some out) {H : Heap} {locs : List Loc} (I : ph_I D cy b A fl h s H locs) {ls : Array Slot} (hl : lv_has ls 1 [(0, .int x0)]) : W p l e ({ frames := 0, cells := 0, slots := 0, locals := 0 } : Room) s m args below meth c H locs 0 0 (MQ below (va_Qi (fun (r : Int32) (u : PH) => (r, u) = out) (ph_B D cy b A fl) A) args s 0 0 A) (F0 m 0 ls []) := by
  unfold F12_rank_0 at f
  refine lv_iload_n S.1 S.2.1 dX12_rank_0 rfl (lv_at hl 0 rfl) ?_
  refine lv_bipush (v := 13) S.1 S.2.1 dX12_rank_1 (by decide) ?_
  refine lv_icmp_lt (tgt := 11) S.1 S.2.1 dX12_rank_3 (by decide) (fun q1 => ?_) (fun q1 => ?_)
  · have f := (if_pos q1).symm.trans f
    refine lv_iload_n S.1 S.2.1 dX12_rank_11 rfl (lv_at hl 0 rfl) ?_
    refine lv_bipush (v := 11) S.1 S.2.1 dX12_rank_12 (by decide) ?_
    refine lv_icmp_lt (tgt := 21) S.1 S.2.1 dX12_rank_14 (by decide) (fun q2 => ?_) (fun q2 => ?_)
    · have f := (if_pos q2).symm.trans f
      refine lv_iload_n S.1 S.2.1 dX12_rank_21 rfl (lv_at hl 0 rfl) ?_
      refine lv_iconst (v := 5) S.1 S.2.1 dX12_rank_22 (by decide) ?_
      refine lv_icmp_lt (tgt := 30) S.1 S.2.1 dX12_rank_23 (by decide) (fun q3 => ?_) (fun q3 => ?_)
      · have f := (if_pos q3).symm.trans f
        refine lv_iload_n S.1 S.2.1 dX12_rank_30 rfl (lv_at hl 0 rfl) ?_
        refine lv_iconst (v := 2) S.1 S.2.1 dX12_rank_31 (by decide) ?_
        refine lv_icmp_ne (tgt := 39) S.1 S.2.1 dX12_rank_32 (by decide) (fun q4 => ?_) (fun q4 => ?_)
        · have f := (if_neg q4).symm.trans f
          refine lv_iload_n S.1 S.2.1 dX12_rank_39 rfl (lv_at hl 0 rfl) ?_
          refine lv_iconst (v := 3) S.1 S.2.1 dX12_rank_40 (by decide) ?_
          refine lv_icmp_ne (tgt := 48) S.1 S.2.1 dX12_rank_41 (by decide) (fun q5 => ?_) (fun q5 => ?_)
          · have f := (if_neg q5).symm.trans f
            refine lv_iload_n S.1 S.2.1 dX12_rank_48 rfl (lv_at hl 0 rfl) ?_
            refine lv_iconst (v := 4) S.1 S.2.1 dX12_rank_49 (by decide) ?_
            refine lv_icmp_ne (tgt := 57) S.1 S.2.1 dX12_rank_50 (by decide) (fun q6 => ?_) (fun q6 => ?_)
            · have f := (if_neg q6).symm.trans f
              refine lv_iconst (v := 0) S.1 S.2.1 dX12_rank_57 (by decide) ?_
              exact o_iret S hr hlo I f dX12_rank_58
            · have f := (if_pos q6).symm.trans f
              refine lv_iconst (v := 1) S.1 S.2.1 dX12_rank_53 (by decide) ?_
              refine lv_goto (tgt := 58) S.1 S.2.1 dX12_rank_54 (by decide) ?_
              exact o_iret S hr hlo I f dX12_rank_58
          · have f := (if_pos q5).symm.trans f
            refine lv_iconst (v := 2) S.1 S.2.1 dX12_rank_44 (by decide) ?_
            refine lv_goto (tgt := 58) S.1 S.2.1 dX12_rank_45 (by decide) ?_
            exact o_iret S hr hlo I f dX12_rank_58
        · have f := (if_pos q4).symm.trans f
          refine lv_iconst (v := 3) S.1 S.2.1 dX12_rank_35 (by decide) ?_
          refine lv_goto (tgt := 58) S.1 S.2.1 dX12_rank_36 (by decide) ?_
          exact o_iret S hr hlo I f dX12_rank_58
      · have f := (if_neg q3).symm.trans f
        refine lv_iconst (v := 4) S.1 S.2.1 dX12_rank_26 (by decide) ?_
        refine lv_goto (tgt := 58) S.1 S.2.1 dX12_rank_27 (by decide) ?_
        exact o_iret S hr hlo I f dX12_rank_58
    · have f := (if_neg q2).symm.trans f
      refine lv_iconst (v := 5) S.1 S.2.1 dX12_rank_17 (by decide) ?_
      refine lv_goto (tgt := 58) S.1 S.2.1 dX12_rank_18 (by decide) ?_
      exact o_iret S hr hlo I f dX12_rank_58
  · have f := (if_neg q1).symm.trans f
    refine lv_bipush (v := 6) S.1 S.2.1 dX12_rank_6 (by decide) ?_
    refine lv_goto (tgt := 58) S.1 S.2.1 dX12_rank_8 (by decide) ?_
    exact o_iret S hr hlo I f dX12_rank_58
theorem M12_rank (l : Launch) (D : va_G) (cy : Nat → ClassId) (b : Nat) (A : Nat → Prop) (fl : Bool) {h : PH} {x0 : Int32} {out : Int32 × PH} (f : F12_rank h x0 = some out) : Met l yX12_rank vX12_rank ({ frames := 0, cells := 0, slots := 0, locals := 0 } : Room) (va_Pc [.int x0] (ph_B D cy b A fl h)) (va_Qi (fun (r : Int32) (u : PH) => (r, u) = out) (ph_B D cy b A fl) A) 0 0 A :=
  o_met (by decide) rfl (Nat.le_of_ble_eq_true rfl) rfl (fun p e s m below meth c S hr hlo hnm ls hl I => T12_rank_0 S hr hlo (f) I (lv_sub hl [0] rfl))
def vX12_dropHeld : List Cond := .code yX12_dropHeld cX12_dropHeld 1 (some .int) :: TB
theorem lf12_dropHeld_298 : Fl vX12_dropHeld RX12 298 12 47 := ⟨RX12, TX12, 87, rfl, by decide, (fun w h9 => List.mem_cons_of_mem _ (wC_wsX120 w h9)), (List.mem_cons_of_mem _ wT_30_1)⟩
theorem lp12_dropHeld_298 : Pl vX12_dropHeld RX12 298 12 47 .int := ⟨RX12, TX12, 87, tyX12, rfl, by decide, (fun w h9 => List.mem_cons_of_mem _ (wC_wsX120 w h9)), (List.mem_cons_of_mem _ wT_30_1), tyX12_ok, nmX12, rfl, rfl⟩
theorem lf12_dropHeld_78 : Fl vX12_dropHeld RX12 78 12 45 := ⟨RX12, TX12, 87, rfl, by decide, (fun w h9 => List.mem_cons_of_mem _ (wC_wsX120 w h9)), (List.mem_cons_of_mem _ wT_10_19)⟩
theorem cd12_dropHeld : Cd yX12_dropHeld 0 := ⟨by decide, by decide, by decide +kernel⟩
set_option maxHeartbeats 4000000 in
set_option maxRecDepth 100000 in
theorem T12_dropHeld_0 (S : CallFix p m c cX12_dropHeld 1 s args vX12_dropHeld RX12) (hr : meth.sig.returnType = (some .int)) (hlo : meth.locks = false) {out : Int32 × PH} {h : PH} {a0 : Nat} (f : F12_dropHeld_0  h a0 = some out) {H : Heap} {locs : List Loc} (I : ph_I D cy b A fl h s H locs) {ls : Array Slot} (hl : lv_has ls 1 [(0, .ref (b + a0))]) : W p l e ({ frames := 0, cells := 0, slots := 0, locals := 0 } : Room) s m args below meth c H locs 0 0 (MQ below (va_Qi (fun (r : Int32) (u : PH) => (r, u) = out) (ph_B D cy b A fl) A) args s 0 0 A) (F0 m 0 ls []) := by
  unfold F12_dropHeld_0 at f
  refine lv_aload_n S.1 S.2.1 dX12_dropHeld_0 rfl (lv_at hl 0 rfl) ?_
  refine lv_dup S.1 S.2.1 dX12_dropHeld_1 rfl ?_
  obtain ⟨v1, e2, f⟩ := ob f
  refine o_gI S lf12_dropHeld_298 I e2 dX12_dropHeld_2 ?_
  refine lv_iconst (v := 1) S.1 S.2.1 dX12_dropHeld_5 (by decide) ?_
  refine lv_isub S.1 S.2.1 dX12_dropHeld_6 ?_
  obtain ⟨h3, e4, f⟩ := ob f
  refine o_pI S lp12_dropHeld_298 I e4 dX12_dropHeld_7 (fun H locs I => ?_)
  refine lv_aload_n S.1 S.2.1 dX12_dropHeld_10 rfl (lv_at hl 0 rfl) ?_
  obtain ⟨r5, e6, f⟩ := ob f
  refine o_gR S lf12_dropHeld_78 I e6 dX12_dropHeld_11 ?_
  refine lv_aload_n S.1 S.2.1 dX12_dropHeld_14 rfl (lv_at hl 0 rfl) ?_
  obtain ⟨v7, e8, f⟩ := ob f
  refine o_gI S lf12_dropHeld_298 I e8 dX12_dropHeld_15 ?_
  obtain ⟨v10, e9, f⟩ := ob f
  refine o_iald S I e9 dX12_dropHeld_18 ?_
  exact o_iret S hr hlo I f dX12_dropHeld_19
theorem M12_dropHeld (l : Launch) (D : va_G) (cy : Nat → ClassId) (b : Nat) (A : Nat → Prop) (fl : Bool) {h : PH} {a0 : Nat} {out : Int32 × PH} (f : F12_dropHeld h a0 = some out) : Met l yX12_dropHeld vX12_dropHeld ({ frames := 0, cells := 0, slots := 0, locals := 0 } : Room) (va_Pc [.ref (b + a0)] (ph_B D cy b A fl h)) (va_Qi (fun (r : Int32) (u : PH) => (r, u) = out) (ph_B D cy b A fl) A) 0 0 A :=
  o_met (by decide) rfl (Nat.le_of_ble_eq_true rfl) rfl (fun p e s m below meth c S hr hlo hnm ls hl I => T12_dropHeld_0 S hr hlo ((gd f).2) I (lv_sub hl [0] rfl))
def vX12_grown : List Cond := .code yX12_grown cX12_grown 4 none :: TB
theorem lf12_grown_66 : Fl vX12_grown RX12 66 12 40 := ⟨RX12, TX12, 87, rfl, by decide, (fun w h9 => List.mem_cons_of_mem _ (wC_wsX120 w h9)), (List.mem_cons_of_mem _ wT_10_15)⟩
theorem lf12_grown_231 : Fl vX12_grown RX12 231 12 23 := ⟨RX12, TX12, 87, rfl, by decide, (fun w h9 => List.mem_cons_of_mem _ (wC_wsX120 w h9)), (List.mem_cons_of_mem _ wT_12_3)⟩
theorem lf12_grown_69 : Fl vX12_grown RX12 69 12 41 := ⟨RX12, TX12, 87, rfl, by decide, (fun w h9 => List.mem_cons_of_mem _ (wC_wsX120 w h9)), (List.mem_cons_of_mem _ wT_10_16)⟩
theorem lf12_grown_72 : Fl vX12_grown RX12 72 12 42 := ⟨RX12, TX12, 87, rfl, by decide, (fun w h9 => List.mem_cons_of_mem _ (wC_wsX120 w h9)), (List.mem_cons_of_mem _ wT_10_17)⟩
theorem lf12_grown_78 : Fl vX12_grown RX12 78 12 45 := ⟨RX12, TX12, 87, rfl, by decide, (fun w h9 => List.mem_cons_of_mem _ (wC_wsX120 w h9)), (List.mem_cons_of_mem _ wT_10_19)⟩
theorem lf12_grown_298 : Fl vX12_grown RX12 298 12 47 := ⟨RX12, TX12, 87, rfl, by decide, (fun w h9 => List.mem_cons_of_mem _ (wC_wsX120 w h9)), (List.mem_cons_of_mem _ wT_30_1)⟩
theorem lp12_grown_298 : Pl vX12_grown RX12 298 12 47 .int := ⟨RX12, TX12, 87, tyX12, rfl, by decide, (fun w h9 => List.mem_cons_of_mem _ (wC_wsX120 w h9)), (List.mem_cons_of_mem _ wT_30_1), tyX12_ok, nmX12, rfl, rfl⟩
theorem lp12_grown_231 : Pl vX12_grown RX12 231 12 23 .int := ⟨RX12, TX12, 87, tyX12, rfl, by decide, (fun w h9 => List.mem_cons_of_mem _ (wC_wsX120 w h9)), (List.mem_cons_of_mem _ wT_12_3), tyX12_ok, nmX12, rfl, rfl⟩
theorem cd12_grown : Cd yX12_grown 3 := ⟨by decide, by decide, by decide +kernel⟩
set_option maxHeartbeats 4000000 in
set_option maxRecDepth 100000 in
theorem T12_grown_0 (S : CallFix p m c cX12_grown 4 s args vX12_grown RX12) (hr : meth.sig.returnType = none) (hlo : meth.locks = false) {out : PH} {h : PH} {a0 : Nat} {x1 : Int32} {x2 : Int32} {x3 : Int32} (f : F12_grown_0  h a0 x1 x2 x3 = some out) {H : Heap} {locs : List Loc} (I : ph_I D cy b A fl h s H locs) {ls : Array Slot} (hl : lv_has ls 4 [(0, .ref (b + a0)), (1, .int x1), (2, .int x2), (3, .int x3)]) : W p l e ({ frames := 0, cells := 0, slots := 0, locals := 0 } : Room) s m args below meth c H locs 0 0 (MQ below (va_Qv (fun (u : PH) => u = out) (ph_B D cy b A fl) A) args s 0 0 A) (F0 m 0 ls []) := by
  unfold F12_grown_0 at f
  refine lv_aload_n S.1 S.2.1 dX12_grown_0 rfl (lv_at hl 0 rfl) ?_
  obtain ⟨r1, e2, f⟩ := ob f
  refine o_gR S lf12_grown_66 I e2 dX12_grown_1 ?_
  refine lv_bipush (v := 64) S.1 S.2.1 dX12_grown_4 (by decide) ?_
  refine lv_aload_n S.1 S.2.1 dX12_grown_6 rfl (lv_at hl 0 rfl) ?_
  obtain ⟨v3, e4, f⟩ := ob f
  refine o_gI S lf12_grown_231 I e4 dX12_grown_7 ?_
  refine lv_iadd S.1 S.2.1 dX12_grown_10 ?_
  refine lv_iload_n S.1 S.2.1 dX12_grown_11 rfl (lv_at hl 1 rfl) ?_
  obtain ⟨h6, e5, f⟩ := ob f
  refine o_iast S I e5 dX12_grown_12 (fun H locs I => ?_)
  refine lv_aload_n S.1 S.2.1 dX12_grown_13 rfl (lv_at hl 0 rfl) ?_
  obtain ⟨r7, e8, f⟩ := ob f
  refine o_gR S lf12_grown_69 I e8 dX12_grown_14 ?_
  refine lv_bipush (v := 64) S.1 S.2.1 dX12_grown_17 (by decide) ?_
  refine lv_aload_n S.1 S.2.1 dX12_grown_19 rfl (lv_at hl 0 rfl) ?_
  obtain ⟨v9, e10, f⟩ := ob f
  refine o_gI S lf12_grown_231 I e10 dX12_grown_20 ?_
  refine lv_iadd S.1 S.2.1 dX12_grown_23 ?_
  refine lv_iload_n S.1 S.2.1 dX12_grown_24 rfl (lv_at hl 2 rfl) ?_
  obtain ⟨h12, e11, f⟩ := ob f
  refine o_iast S I e11 dX12_grown_25 (fun H locs I => ?_)
  refine lv_aload_n S.1 S.2.1 dX12_grown_26 rfl (lv_at hl 0 rfl) ?_
  obtain ⟨r13, e14, f⟩ := ob f
  refine o_gR S lf12_grown_72 I e14 dX12_grown_27 ?_
  refine lv_bipush (v := 64) S.1 S.2.1 dX12_grown_30 (by decide) ?_
  refine lv_aload_n S.1 S.2.1 dX12_grown_32 rfl (lv_at hl 0 rfl) ?_
  obtain ⟨v15, e16, f⟩ := ob f
  refine o_gI S lf12_grown_231 I e16 dX12_grown_33 ?_
  refine lv_iadd S.1 S.2.1 dX12_grown_36 ?_
  refine lv_iload_n S.1 S.2.1 dX12_grown_37 rfl (lv_at hl 3 rfl) ?_
  obtain ⟨h18, e17, f⟩ := ob f
  refine o_iast S I e17 dX12_grown_38 (fun H locs I => ?_)
  refine lv_aload_n S.1 S.2.1 dX12_grown_39 rfl (lv_at hl 0 rfl) ?_
  obtain ⟨r19, e20, f⟩ := ob f
  refine o_gR S lf12_grown_78 I e20 dX12_grown_40 ?_
  refine lv_aload_n S.1 S.2.1 dX12_grown_43 rfl (lv_at hl 0 rfl) ?_
  obtain ⟨v21, e22, f⟩ := ob f
  refine o_gI S lf12_grown_298 I e22 dX12_grown_44 ?_
  refine lv_aload_n S.1 S.2.1 dX12_grown_47 rfl (lv_at hl 0 rfl) ?_
  obtain ⟨v23, e24, f⟩ := ob f
  refine o_gI S lf12_grown_231 I e24 dX12_grown_48 ?_
  obtain ⟨h26, e25, f⟩ := ob f
  refine o_iast S I e25 dX12_grown_51 (fun H locs I => ?_)
  refine lv_aload_n S.1 S.2.1 dX12_grown_52 rfl (lv_at hl 0 rfl) ?_
  refine lv_dup S.1 S.2.1 dX12_grown_53 rfl ?_
  obtain ⟨v27, e28, f⟩ := ob f
  refine o_gI S lf12_grown_298 I e28 dX12_grown_54 ?_
  refine lv_iconst (v := 1) S.1 S.2.1 dX12_grown_57 (by decide) ?_
  refine lv_iadd S.1 S.2.1 dX12_grown_58 ?_
  obtain ⟨h29, e30, f⟩ := ob f
  refine o_pI S lp12_grown_298 I e30 dX12_grown_59 (fun H locs I => ?_)
  refine lv_aload_n S.1 S.2.1 dX12_grown_62 rfl (lv_at hl 0 rfl) ?_
  refine lv_dup S.1 S.2.1 dX12_grown_63 rfl ?_
  obtain ⟨v31, e32, f⟩ := ob f
  refine o_gI S lf12_grown_231 I e32 dX12_grown_64 ?_
  refine lv_iconst (v := 1) S.1 S.2.1 dX12_grown_67 (by decide) ?_
  refine lv_iadd S.1 S.2.1 dX12_grown_68 ?_
  obtain ⟨h33, e34, f⟩ := ob f
  refine o_pI S lp12_grown_231 I e34 dX12_grown_69 (fun H locs I => ?_)
  exact o_vret S hr hlo I f dX12_grown_72
theorem M12_grown (l : Launch) (D : va_G) (cy : Nat → ClassId) (b : Nat) (A : Nat → Prop) (fl : Bool) {h : PH} {a0 : Nat} {x1 : Int32} {x2 : Int32} {x3 : Int32} {out : PH} (f : F12_grown h a0 x1 x2 x3 = some out) : Met l yX12_grown vX12_grown ({ frames := 0, cells := 0, slots := 0, locals := 0 } : Room) (va_Pc [.ref (b + a0), .int x1, .int x2, .int x3] (ph_B D cy b A fl h)) (va_Qv (fun (u : PH) => u = out) (ph_B D cy b A fl) A) 0 0 A :=
  o_met (by decide) rfl (Nat.le_of_ble_eq_true rfl) rfl (fun p e s m below meth c S hr hlo hnm ls hl I => T12_grown_0 S hr hlo ((gd f).2) I (lv_sub hl [0, 1, 2, 3] rfl))
def vX12_bind : List Cond := .code yX12_bind cX12_bind 5 none :: TB
theorem gX12_bind_X12_dropHeld : GoodIn vX12_bind (wsV RX12 308 RX12 yX12_dropHeld vX12_dropHeld) := gV_of wT_31_20 wT_31_21 wT_31_22 wT_1_5 wT_31_23
theorem gX12_bind_X12_grown : GoodIn vX12_bind (wsV RX12 312 RX12 yX12_grown vX12_grown) := gV_of wT_31_5 wT_31_6 wT_31_7 wT_1_5 wT_31_8
theorem lf12_bind_301 : Fl vX12_bind RX12 301 12 46 := ⟨RX12, TX12, 87, rfl, by decide, (fun w h9 => List.mem_cons_of_mem _ (wC_wsX120 w h9)), (List.mem_cons_of_mem _ wT_30_0)⟩
theorem lf12_bind_75 : Fl vX12_bind RX12 75 12 44 := ⟨RX12, TX12, 87, rfl, by decide, (fun w h9 => List.mem_cons_of_mem _ (wC_wsX120 w h9)), (List.mem_cons_of_mem _ wT_10_18)⟩
theorem gX12_bind_X12_rank : GoodIn vX12_bind (va_wsS RX12 304 yX12_rank vX12_rank) := gS_of wT_31_17 wT_31_18 wT_1_5 wT_31_19
theorem lp12_bind_301 : Pl vX12_bind RX12 301 12 46 .int := ⟨RX12, TX12, 87, tyX12, rfl, by decide, (fun w h9 => List.mem_cons_of_mem _ (wC_wsX120 w h9)), (List.mem_cons_of_mem _ wT_30_0), tyX12_ok, nmX12, rfl, rfl⟩
theorem cd12_bind : Cd yX12_bind 1 := ⟨by decide, by decide, by decide +kernel⟩
set_option maxHeartbeats 4000000 in
set_option maxRecDepth 100000 in
theorem T12_bind_58 (S : CallFix p m c cX12_bind 5 s args vX12_bind RX12) (hr : meth.sig.returnType = none) (hlo : meth.locks = false) {out : PH} {k0 : PH → Nat → Int32 → Option (PH)} (hk0 : ∀ {h : PH} {a0 : Nat} {x1 : Int32}, k0 h a0 x1 = some out → ∀ (H : Heap) (locs : List Loc), ph_I D cy b A fl h s H locs → ∀ (ls : Array Slot), lv_has ls 5 [(0, .ref (b + a0)), (1, .int x1)] → W p l e ({ frames := 1, cells := 0, slots := 0, locals := 23 } : Room) s m args below meth c H locs 0 0 (MQ below (va_Qv (fun (u : PH) => u = out) (ph_B D cy b A fl) A) args s 0 0 A) (F0 m 0 ls [])) {h : PH} {a0 : Nat} {x1 : Int32} {x2 : Int32} {s0 : Int32} (f : F12_bind_58 k0 h a0 x1 x2 s0 = some out) {H : Heap} {locs : List Loc} (I : ph_I D cy b A fl h s H locs) {ls : Array Slot} (hl : lv_has ls 5 [(0, .ref (b + a0)), (1, .int x1), (2, .int x2)]) : W p l e ({ frames := 1, cells := 0, slots := 0, locals := 23 } : Room) s m args below meth c H locs 0 0 (MQ below (va_Qv (fun (u : PH) => u = out) (ph_B D cy b A fl) A) args s 0 0 A) (F0 m 58 ls [.int s0]) := by
  unfold F12_bind_58 at f
  refine lv_istore_n (lv' := [(3, .int s0), (0, .ref (b + a0)), (1, .int x1), (2, .int x2)]) S.1 S.2.1 dX12_bind_58 rfl hl (by decide) rfl (fun ls hl => ?_)
  refine lv_aload_n S.1 S.2.1 dX12_bind_59 rfl (lv_at hl 1 rfl) ?_
  obtain ⟨o1, e2, f⟩ := ob f
  refine o_Vi S (As := []) (rest := []) (ci := 12) (M12_dropHeld l D cy b A fl e2) gX12_bind_X12_dropHeld rfl rfl rfl cd12_dropHeld ⟨Nat.le_of_ble_eq_true rfl, Nat.le_of_ble_eq_true rfl⟩ I (gd e2).1 clX12 rfl rfl hl.1 rfl (Nat.le_of_ble_eq_true rfl) dX12_bind_60 ⟨Nat.le_of_ble_eq_true rfl, Nat.le_of_ble_eq_true rfl⟩ (fun H locs I => ?_)
  refine lv_istore (lv' := [(4, .int o1.1), (3, .int s0), (0, .ref (b + a0)), (1, .int x1), (2, .int x2)]) S.1 S.2.1 dX12_bind_63 hl (by decide) rfl (fun ls hl => ?_)
  refine lv_aload_n S.1 S.2.1 dX12_bind_65 rfl (lv_at hl 2 rfl) ?_
  refine lv_iload_n S.1 S.2.1 dX12_bind_66 rfl (lv_at hl 4 rfl) ?_
  refine lv_iload S.1 S.2.1 dX12_bind_67 (lv_at hl 0 rfl) ?_
  refine lv_iload_n S.1 S.2.1 dX12_bind_69 rfl (lv_at hl 1 rfl) ?_
  obtain ⟨o3, e4, f⟩ := ob f
  refine o_Vv S (As := [.int x2, .int o1.1, .int s0]) (rest := []) (ci := 12) (M12_grown l D cy b A fl e4) gX12_bind_X12_grown rfl rfl rfl cd12_grown ⟨Nat.le_of_ble_eq_true rfl, Nat.le_of_ble_eq_true rfl⟩ I (gd e4).1 clX12 rfl rfl hl.1 rfl (Nat.le_of_ble_eq_true rfl) dX12_bind_70 ⟨Nat.le_of_ble_eq_true rfl, Nat.le_of_ble_eq_true rfl⟩ (fun H locs I => ?_)
  refine lv_goto (tgt := 0) S.1 S.2.1 dX12_bind_73 (by decide) ?_
  exact hk0 f _ _ I _ (lv_sub hl [2, 3] rfl)
set_option maxHeartbeats 4000000 in
set_option maxRecDepth 100000 in
theorem T12_bind_0 (S : CallFix p m c cX12_bind 5 s args vX12_bind RX12) (hr : meth.sig.returnType = none) (hlo : meth.locks = false) {out : PH} : ∀ (n : Nat) {h : PH} {a0 : Nat} {x1 : Int32} (f : F12_bind_0  n h a0 x1 = some out) {H : Heap} {locs : List Loc} (I : ph_I D cy b A fl h s H locs) {ls : Array Slot} (hl : lv_has ls 5 [(0, .ref (b + a0)), (1, .int x1)]), W p l e ({ frames := 1, cells := 0, slots := 0, locals := 23 } : Room) s m args below meth c H locs 0 0 (MQ below (va_Qv (fun (u : PH) => u = out) (ph_B D cy b A fl) A) args s 0 0 A) (F0 m 0 ls []) := by
  intro n
  induction n with
  | zero => intro h a0 x1 f; rw [F12_bind_0] at f; cases f
  | succ n ih =>
    intro h a0 x1 f H locs I ls hl
    rw [F12_bind_0] at f
    refine lv_aload_n S.1 S.2.1 dX12_bind_0 rfl (lv_at hl 0 rfl) ?_
    obtain ⟨v1, e2, f⟩ := ob f
    refine o_gI S lf12_bind_301 I e2 dX12_bind_1 ?_
    refine lv_if_le (tgt := 76) S.1 S.2.1 dX12_bind_4 (by decide) (fun q3 => ?_) (fun q3 => ?_)
    · have f := (if_pos q3).symm.trans f
      exact o_vret S hr hlo I f dX12_bind_76
    · have f := (if_neg q3).symm.trans f
      refine lv_aload_n S.1 S.2.1 dX12_bind_7 rfl (lv_at hl 0 rfl) ?_
      obtain ⟨r4, e5, f⟩ := ob f
      refine o_gR S lf12_bind_75 I e5 dX12_bind_8 ?_
      refine lv_aload_n S.1 S.2.1 dX12_bind_11 rfl (lv_at hl 0 rfl) ?_
      obtain ⟨v6, e7, f⟩ := ob f
      refine o_gI S lf12_bind_301 I e7 dX12_bind_12 ?_
      refine lv_iconst (v := 1) S.1 S.2.1 dX12_bind_15 (by decide) ?_
      refine lv_isub S.1 S.2.1 dX12_bind_16 ?_
      obtain ⟨v9, e8, f⟩ := ob f
      refine o_iald S I e8 dX12_bind_17 ?_
      obtain ⟨o10, e11, f⟩ := ob f
      refine o_Si S (As := [.int v9]) (rest := []) (M12_rank l D cy b A fl e11) gX12_bind_X12_rank rfl rfl rfl cd12_rank ⟨Nat.le_of_ble_eq_true rfl, Nat.le_of_ble_eq_true rfl⟩ I rfl hl.1 rfl (Nat.le_of_ble_eq_true rfl) dX12_bind_18 ⟨Nat.le_of_ble_eq_true rfl, Nat.le_of_ble_eq_true rfl⟩ (fun H locs I => ?_)
      refine lv_iload_n S.1 S.2.1 dX12_bind_21 rfl (lv_at hl 1 rfl) ?_
      refine lv_icmp_lt (tgt := 76) S.1 S.2.1 dX12_bind_22 (by decide) (fun q12 => ?_) (fun q12 => ?_)
      · have f := (if_pos q12).symm.trans f
        exact o_vret S hr hlo I f dX12_bind_76
      · have f := (if_neg q12).symm.trans f
        refine lv_aload_n S.1 S.2.1 dX12_bind_25 rfl (lv_at hl 0 rfl) ?_
        refine lv_dup S.1 S.2.1 dX12_bind_26 rfl ?_
        obtain ⟨v13, e14, f⟩ := ob f
        refine o_gI S lf12_bind_301 I e14 dX12_bind_27 ?_
        refine lv_iconst (v := 1) S.1 S.2.1 dX12_bind_30 (by decide) ?_
        refine lv_isub S.1 S.2.1 dX12_bind_31 ?_
        obtain ⟨h15, e16, f⟩ := ob f
        refine o_pI S lp12_bind_301 I e16 dX12_bind_32 (fun H locs I => ?_)
        refine lv_aload_n S.1 S.2.1 dX12_bind_35 rfl (lv_at hl 0 rfl) ?_
        obtain ⟨r17, e18, f⟩ := ob f
        refine o_gR S lf12_bind_75 I e18 dX12_bind_36 ?_
        refine lv_aload_n S.1 S.2.1 dX12_bind_39 rfl (lv_at hl 0 rfl) ?_
        obtain ⟨v19, e20, f⟩ := ob f
        refine o_gI S lf12_bind_301 I e20 dX12_bind_40 ?_
        obtain ⟨v22, e21, f⟩ := ob f
        refine o_iald S I e21 dX12_bind_43 ?_
        refine lv_istore_n (lv' := [(2, .int v22), (0, .ref (b + a0)), (1, .int x1)]) S.1 S.2.1 dX12_bind_44 rfl hl (by decide) rfl (fun ls hl => ?_)
        refine lv_iload_n S.1 S.2.1 dX12_bind_45 rfl (lv_at hl 0 rfl) ?_
        refine lv_iconst (v := 2) S.1 S.2.1 dX12_bind_46 (by decide) ?_
        refine lv_icmp_ne (tgt := 54) S.1 S.2.1 dX12_bind_47 (by decide) (fun q23 => ?_) (fun q23 => ?_)
        · have f := (if_neg q23).symm.trans f
          refine lv_aload_n S.1 S.2.1 dX12_bind_54 rfl (lv_at hl 1 rfl) ?_
          obtain ⟨o24, e25, f⟩ := ob f
          refine o_Vi S (As := []) (rest := []) (ci := 12) (M12_dropHeld l D cy b A fl e25) gX12_bind_X12_dropHeld rfl rfl rfl cd12_dropHeld ⟨Nat.le_of_ble_eq_true rfl, Nat.le_of_ble_eq_true rfl⟩ I (gd e25).1 clX12 rfl rfl hl.1 rfl (Nat.le_of_ble_eq_true rfl) dX12_bind_55 ⟨Nat.le_of_ble_eq_true rfl, Nat.le_of_ble_eq_true rfl⟩ (fun H locs I => ?_)
          exact T12_bind_58 S hr hlo (fun f _ _ I _ hl => ih f I hl) f I (lv_sub hl [1, 2, 0] rfl)
        · have f := (if_pos q23).symm.trans f
          refine lv_iconst (v := (-1)) S.1 S.2.1 dX12_bind_50 (by decide) ?_
          refine lv_goto (tgt := 58) S.1 S.2.1 dX12_bind_51 (by decide) ?_
          exact T12_bind_58 S hr hlo (fun f _ _ I _ hl => ih f I hl) f I (lv_sub hl [1, 2, 0] rfl)
theorem M12_bind (l : Launch) (D : va_G) (cy : Nat → ClassId) (b : Nat) (A : Nat → Prop) (fl : Bool) {h : PH} {a0 : Nat} {x1 : Int32} {out : PH} (f : F12_bind h a0 x1 = some out) : Met l yX12_bind vX12_bind ({ frames := 1, cells := 0, slots := 0, locals := 23 } : Room) (va_Pc [.ref (b + a0), .int x1] (ph_B D cy b A fl h)) (va_Qv (fun (u : PH) => u = out) (ph_B D cy b A fl) A) 0 0 A :=
  o_met (by decide) rfl (Nat.le_of_ble_eq_true rfl) rfl (fun p e s m below meth c S hr hlo hnm ls hl I => T12_bind_0 S hr hlo 1024 ((gd f).2) I (lv_sub hl [0, 1] rfl))
def vX12_cellRead : List Cond := .code yX12_cellRead cX12_cellRead 1 (some .boolean) :: TB
theorem lp12_cellRead_237 : Pl vX12_cellRead RX12 237 12 24 .boolean := ⟨RX12, TX12, 87, tyX12, rfl, by decide, (fun w h9 => List.mem_cons_of_mem _ (wC_wsX120 w h9)), (List.mem_cons_of_mem _ wT_12_5), tyX12_ok, nmX12, rfl, rfl⟩
theorem lf12_cellRead_216 : Fl vX12_cellRead RX12 216 12 18 := ⟨RX12, TX12, 87, rfl, by decide, (fun w h9 => List.mem_cons_of_mem _ (wC_wsX120 w h9)), (List.mem_cons_of_mem _ wT_11_22)⟩
theorem gX12_cellRead_X12_number : GoodIn vX12_cellRead (wsV RX12 212 RX12 yX12_number vX12_number) := gV_of wT_28_13 wT_28_14 wT_28_15 wT_1_5 wT_28_16
theorem lf12_cellRead_203 : Fl vX12_cellRead RX12 203 12 11 := ⟨RX12, TX12, 87, rfl, by decide, (fun w h9 => List.mem_cons_of_mem _ (wC_wsX120 w h9)), (List.mem_cons_of_mem _ wT_28_12)⟩
theorem lp12_cellRead_266 : Pl vX12_cellRead RX12 266 12 43 .int := ⟨RX12, TX12, 87, tyX12, rfl, by decide, (fun w h9 => List.mem_cons_of_mem _ (wC_wsX120 w h9)), (List.mem_cons_of_mem _ wT_29_0), tyX12_ok, nmX12, rfl, rfl⟩
theorem lf12_cellRead_219 : Fl vX12_cellRead RX12 219 12 19 := ⟨RX12, TX12, 87, rfl, by decide, (fun w h9 => List.mem_cons_of_mem _ (wC_wsX120 w h9)), (List.mem_cons_of_mem _ wT_11_23)⟩
theorem cd12_cellRead : Cd yX12_cellRead 0 := ⟨by decide, by decide, by decide +kernel⟩
set_option maxHeartbeats 4000000 in
set_option maxRecDepth 100000 in
theorem T12_cellRead_0 (S : CallFix p m c cX12_cellRead 1 s args vX12_cellRead RX12) (hr : meth.sig.returnType = (some .boolean)) (hlo : meth.locks = false) {out : Int32 × PH} {h : PH} {a0 : Nat} (f : F12_cellRead_0  h a0 = some out) {H : Heap} {locs : List Loc} (I : ph_I D cy b A fl h s H locs) {ls : Array Slot} (hl : lv_has ls 1 [(0, .ref (b + a0))]) : W p l e ({ frames := 3, cells := 0, slots := 0, locals := 69 } : Room) s m args below meth c H locs 0 0 (MQ below (va_Qi (fun (r : Int32) (u : PH) => (r, u) = out) (ph_B D cy b A fl) A) args s 0 0 A) (F0 m 0 ls []) := by
  unfold F12_cellRead_0 at f
  refine lv_aload_n S.1 S.2.1 dX12_cellRead_0 rfl (lv_at hl 0 rfl) ?_
  refine lv_iconst (v := 1) S.1 S.2.1 dX12_cellRead_1 (by decide) ?_
  obtain ⟨h1, e2, f⟩ := ob f
  refine o_pZ S lp12_cellRead_237 I e2 dX12_cellRead_2 (fun H locs I => ?_)
  refine lv_aload_n S.1 S.2.1 dX12_cellRead_5 rfl (lv_at hl 0 rfl) ?_
  refine lv_iconst (v := 0) S.1 S.2.1 dX12_cellRead_6 (by decide) ?_
  refine lv_aload_n S.1 S.2.1 dX12_cellRead_7 rfl (lv_at hl 0 rfl) ?_
  obtain ⟨v3, e4, f⟩ := ob f
  refine o_gI S lf12_cellRead_216 I e4 dX12_cellRead_8 ?_
  refine lv_iconst (v := 1) S.1 S.2.1 dX12_cellRead_11 (by decide) ?_
  refine lv_isub S.1 S.2.1 dX12_cellRead_12 ?_
  obtain ⟨o5, e6, f⟩ := ob f
  refine o_Vi S (As := [.int 0, .int (v3 - 1)]) (rest := []) (ci := 12) (M12_number l D cy b A fl e6) gX12_cellRead_X12_number rfl rfl rfl cd12_number ⟨Nat.le_of_ble_eq_true rfl, Nat.le_of_ble_eq_true rfl⟩ I (gd e6).1 clX12 rfl rfl hl.1 rfl (Nat.le_of_ble_eq_true rfl) dX12_cellRead_13 ⟨Nat.le_of_ble_eq_true rfl, Nat.le_of_ble_eq_true rfl⟩ (fun H locs I => ?_)
  refine lv_if_ne (tgt := 21) S.1 S.2.1 dX12_cellRead_16 (by decide) (fun q7 => ?_) (fun q7 => ?_)
  · have f := (if_neg q7).symm.trans f
    refine lv_aload_n S.1 S.2.1 dX12_cellRead_21 rfl (lv_at hl 0 rfl) ?_
    refine lv_aload_n S.1 S.2.1 dX12_cellRead_22 rfl (lv_at hl 0 rfl) ?_
    obtain ⟨v8, e9, f⟩ := ob f
    refine o_gI S lf12_cellRead_203 I e9 dX12_cellRead_23 ?_
    obtain ⟨h10, e11, f⟩ := ob f
    refine o_pI S lp12_cellRead_266 I e11 dX12_cellRead_26 (fun H locs I => ?_)
    refine lv_aload_n S.1 S.2.1 dX12_cellRead_29 rfl (lv_at hl 0 rfl) ?_
    refine lv_iconst (v := 0) S.1 S.2.1 dX12_cellRead_30 (by decide) ?_
    refine lv_aload_n S.1 S.2.1 dX12_cellRead_31 rfl (lv_at hl 0 rfl) ?_
    obtain ⟨v12, e13, f⟩ := ob f
    refine o_gI S lf12_cellRead_219 I e13 dX12_cellRead_32 ?_
    refine lv_iconst (v := 1) S.1 S.2.1 dX12_cellRead_35 (by decide) ?_
    refine lv_isub S.1 S.2.1 dX12_cellRead_36 ?_
    obtain ⟨o14, e15, f⟩ := ob f
    refine o_Vi S (As := [.int 0, .int (v12 - 1)]) (rest := []) (ci := 12) (M12_number l D cy b A fl e15) gX12_cellRead_X12_number rfl rfl rfl cd12_number ⟨Nat.le_of_ble_eq_true rfl, Nat.le_of_ble_eq_true rfl⟩ I (gd e15).1 clX12 rfl rfl hl.1 rfl (Nat.le_of_ble_eq_true rfl) dX12_cellRead_37 ⟨Nat.le_of_ble_eq_true rfl, Nat.le_of_ble_eq_true rfl⟩ (fun H locs I => ?_)
    refine lv_if_ne (tgt := 45) S.1 S.2.1 dX12_cellRead_40 (by decide) (fun q16 => ?_) (fun q16 => ?_)
    · have f := (if_neg q16).symm.trans f
      refine lv_iconst (v := 1) S.1 S.2.1 dX12_cellRead_45 (by decide) ?_
      exact o_zret S hr hlo I f dX12_cellRead_46
    · have f := (if_pos q16).symm.trans f
      refine lv_iconst (v := 0) S.1 S.2.1 dX12_cellRead_43 (by decide) ?_
      exact o_zret S hr hlo I f dX12_cellRead_44
  · have f := (if_pos q7).symm.trans f
    refine lv_iconst (v := 0) S.1 S.2.1 dX12_cellRead_19 (by decide) ?_
    exact o_zret S hr hlo I f dX12_cellRead_20
theorem M12_cellRead (l : Launch) (D : va_G) (cy : Nat → ClassId) (b : Nat) (A : Nat → Prop) (fl : Bool) {h : PH} {a0 : Nat} {out : Int32 × PH} (f : F12_cellRead h a0 = some out) : Met l yX12_cellRead vX12_cellRead ({ frames := 3, cells := 0, slots := 0, locals := 69 } : Room) (va_Pc [.ref (b + a0)] (ph_B D cy b A fl h)) (va_Qi (fun (r : Int32) (u : PH) => (r, u) = out) (ph_B D cy b A fl) A) 0 0 A :=
  o_met (by decide) rfl (Nat.le_of_ble_eq_true rfl) rfl (fun p e s m below meth c S hr hlo hnm ls hl I => T12_cellRead_0 S hr hlo ((gd f).2) I (lv_sub hl [0] rfl))
def vX12_layTried : List Cond := .code yX12_layTried cX12_layTried 2 none :: TB
theorem lf12_layTried_106 : Fl vX12_layTried RX12 106 12 61 := ⟨RX12, TX12, 87, rfl, by decide, (fun w h9 => List.mem_cons_of_mem _ (wC_wsX120 w h9)), (List.mem_cons_of_mem _ wT_11_4)⟩
theorem lf12_layTried_109 : Fl vX12_layTried RX12 109 12 62 := ⟨RX12, TX12, 87, rfl, by decide, (fun w h9 => List.mem_cons_of_mem _ (wC_wsX120 w h9)), (List.mem_cons_of_mem _ wT_11_5)⟩
theorem lf12_layTried_112 : Fl vX12_layTried RX12 112 12 63 := ⟨RX12, TX12, 87, rfl, by decide, (fun w h9 => List.mem_cons_of_mem _ (wC_wsX120 w h9)), (List.mem_cons_of_mem _ wT_11_6)⟩
theorem lf12_layTried_103 : Fl vX12_layTried RX12 103 12 60 := ⟨RX12, TX12, 87, rfl, by decide, (fun w h9 => List.mem_cons_of_mem _ (wC_wsX120 w h9)), (List.mem_cons_of_mem _ wT_11_3)⟩
theorem lf12_layTried_88 : Fl vX12_layTried RX12 88 12 55 := ⟨RX12, TX12, 87, rfl, by decide, (fun w h9 => List.mem_cons_of_mem _ (wC_wsX120 w h9)), (List.mem_cons_of_mem _ wT_10_22)⟩
theorem lf12_layTried_91 : Fl vX12_layTried RX12 91 12 56 := ⟨RX12, TX12, 87, rfl, by decide, (fun w h9 => List.mem_cons_of_mem _ (wC_wsX120 w h9)), (List.mem_cons_of_mem _ wT_10_23)⟩
theorem lf12_layTried_94 : Fl vX12_layTried RX12 94 12 57 := ⟨RX12, TX12, 87, rfl, by decide, (fun w h9 => List.mem_cons_of_mem _ (wC_wsX120 w h9)), (List.mem_cons_of_mem _ wT_11_0)⟩
theorem lf12_layTried_97 : Fl vX12_layTried RX12 97 12 58 := ⟨RX12, TX12, 87, rfl, by decide, (fun w h9 => List.mem_cons_of_mem _ (wC_wsX120 w h9)), (List.mem_cons_of_mem _ wT_11_1)⟩
theorem cd12_layTried : Cd yX12_layTried 0 := ⟨by decide, by decide, by decide +kernel⟩
set_option maxHeartbeats 4000000 in
set_option maxRecDepth 100000 in
theorem T12_layTried_71 (S : CallFix p m c cX12_layTried 2 s args vX12_layTried RX12) (hr : meth.sig.returnType = none) (hlo : meth.locks = false) {out : PH} : ∀ (n : Nat) {h : PH} {a0 : Nat} {x1 : Int32} (f : F12_layTried_71  n h a0 x1 = some out) {H : Heap} {locs : List Loc} (I : ph_I D cy b A fl h s H locs) {ls : Array Slot} (hl : lv_has ls 2 [(0, .ref (b + a0)), (1, .int x1)]), W p l e ({ frames := 0, cells := 0, slots := 0, locals := 0 } : Room) s m args below meth c H locs 0 0 (MQ below (va_Qv (fun (u : PH) => u = out) (ph_B D cy b A fl) A) args s 0 0 A) (F0 m 71 ls []) := by
  intro n
  induction n with
  | zero => intro h a0 x1 f; rw [F12_layTried_71] at f; cases f
  | succ n ih =>
    intro h a0 x1 f H locs I ls hl
    rw [F12_layTried_71] at f
    refine lv_iload_n S.1 S.2.1 dX12_layTried_71 rfl (lv_at hl 1 rfl) ?_
    refine lv_bipush (v := 28) S.1 S.2.1 dX12_layTried_72 (by decide) ?_
    refine lv_icmp_ge (tgt := 98) S.1 S.2.1 dX12_layTried_74 (by decide) (fun q1 => ?_) (fun q1 => ?_)
    · have f := (if_pos q1).symm.trans f
      refine lv_aload_n S.1 S.2.1 dX12_layTried_98 rfl (lv_at hl 0 rfl) ?_
      obtain ⟨r2, e3, f⟩ := ob f
      refine o_gR S lf12_layTried_106 I e3 dX12_layTried_99 ?_
      refine lv_iconst (v := 1) S.1 S.2.1 dX12_layTried_102 (by decide) ?_
      refine lv_aload_n S.1 S.2.1 dX12_layTried_103 rfl (lv_at hl 0 rfl) ?_
      obtain ⟨r4, e5, f⟩ := ob f
      refine o_gR S lf12_layTried_106 I e5 dX12_layTried_104 ?_
      refine lv_iconst (v := 0) S.1 S.2.1 dX12_layTried_107 (by decide) ?_
      obtain ⟨v7, e6, f⟩ := ob f
      refine o_iald S I e6 dX12_layTried_108 ?_
      obtain ⟨h9, e8, f⟩ := ob f
      refine o_iast S I e8 dX12_layTried_109 (fun H locs I => ?_)
      refine lv_aload_n S.1 S.2.1 dX12_layTried_110 rfl (lv_at hl 0 rfl) ?_
      obtain ⟨r10, e11, f⟩ := ob f
      refine o_gR S lf12_layTried_109 I e11 dX12_layTried_111 ?_
      refine lv_iconst (v := 1) S.1 S.2.1 dX12_layTried_114 (by decide) ?_
      refine lv_iconst (v := 0) S.1 S.2.1 dX12_layTried_115 (by decide) ?_
      obtain ⟨h13, e12, f⟩ := ob f
      refine o_iast S I e12 dX12_layTried_116 (fun H locs I => ?_)
      refine lv_aload_n S.1 S.2.1 dX12_layTried_117 rfl (lv_at hl 0 rfl) ?_
      obtain ⟨r14, e15, f⟩ := ob f
      refine o_gR S lf12_layTried_112 I e15 dX12_layTried_118 ?_
      refine lv_iconst (v := 1) S.1 S.2.1 dX12_layTried_121 (by decide) ?_
      refine lv_iconst (v := 0) S.1 S.2.1 dX12_layTried_122 (by decide) ?_
      obtain ⟨h17, e16, f⟩ := ob f
      refine o_iast S I e16 dX12_layTried_123 (fun H locs I => ?_)
      exact o_vret S hr hlo I f dX12_layTried_124
    · have f := (if_neg q1).symm.trans f
      refine lv_aload_n S.1 S.2.1 dX12_layTried_77 rfl (lv_at hl 0 rfl) ?_
      obtain ⟨r18, e19, f⟩ := ob f
      refine o_gR S lf12_layTried_103 I e19 dX12_layTried_78 ?_
      refine lv_bipush (v := 28) S.1 S.2.1 dX12_layTried_81 (by decide) ?_
      refine lv_iload_n S.1 S.2.1 dX12_layTried_83 rfl (lv_at hl 1 rfl) ?_
      refine lv_iadd S.1 S.2.1 dX12_layTried_84 ?_
      refine lv_aload_n S.1 S.2.1 dX12_layTried_85 rfl (lv_at hl 0 rfl) ?_
      obtain ⟨r20, e21, f⟩ := ob f
      refine o_gR S lf12_layTried_103 I e21 dX12_layTried_86 ?_
      refine lv_iload_n S.1 S.2.1 dX12_layTried_89 rfl (lv_at hl 1 rfl) ?_
      obtain ⟨v23, e22, f⟩ := ob f
      refine o_iald S I e22 dX12_layTried_90 ?_
      obtain ⟨h25, e24, f⟩ := ob f
      refine o_iast S I e24 dX12_layTried_91 (fun H locs I => ?_)
      refine lv_iinc (v := (x1 + 1)) (lv' := [(1, .int (x1 + 1)), (0, .ref (b + a0))]) S.1 S.2.1 dX12_layTried_92 hl (k := 1) rfl (congrArg (fun z => x1 + z) (by decide)) (by decide) rfl (fun ls hl => ?_)
      refine lv_goto (tgt := 71) S.1 S.2.1 dX12_layTried_95 (by decide) ?_
      exact ih f I (lv_sub hl [1, 0] rfl)
set_option maxHeartbeats 4000000 in
set_option maxRecDepth 100000 in
theorem T12_layTried_2 (S : CallFix p m c cX12_layTried 2 s args vX12_layTried RX12) (hr : meth.sig.returnType = none) (hlo : meth.locks = false) {out : PH} : ∀ (n : Nat) {h : PH} {a0 : Nat} {x1 : Int32} (f : F12_layTried_2  n h a0 x1 = some out) {H : Heap} {locs : List Loc} (I : ph_I D cy b A fl h s H locs) {ls : Array Slot} (hl : lv_has ls 2 [(0, .ref (b + a0)), (1, .int x1)]), W p l e ({ frames := 0, cells := 0, slots := 0, locals := 0 } : Room) s m args below meth c H locs 0 0 (MQ below (va_Qv (fun (u : PH) => u = out) (ph_B D cy b A fl) A) args s 0 0 A) (F0 m 2 ls []) := by
  intro n
  induction n with
  | zero => intro h a0 x1 f; rw [F12_layTried_2] at f; cases f
  | succ n ih =>
    intro h a0 x1 f H locs I ls hl
    rw [F12_layTried_2] at f
    refine lv_iload_n S.1 S.2.1 dX12_layTried_2 rfl (lv_at hl 1 rfl) ?_
    refine lv_iconst (v := 5) S.1 S.2.1 dX12_layTried_3 (by decide) ?_
    refine lv_icmp_ge (tgt := 69) S.1 S.2.1 dX12_layTried_4 (by decide) (fun q1 => ?_) (fun q1 => ?_)
    · have f := (if_pos q1).symm.trans f
      refine lv_iconst (v := 0) S.1 S.2.1 dX12_layTried_69 (by decide) ?_
      refine lv_istore_n (lv' := [(1, .int 0), (0, .ref (b + a0))]) S.1 S.2.1 dX12_layTried_70 rfl hl (by decide) rfl (fun ls hl => ?_)
      exact T12_layTried_71 S hr hlo  1024 f I (lv_sub hl [1, 0] rfl)
    · have f := (if_neg q1).symm.trans f
      refine lv_aload_n S.1 S.2.1 dX12_layTried_7 rfl (lv_at hl 0 rfl) ?_
      obtain ⟨r2, e3, f⟩ := ob f
      refine o_gR S lf12_layTried_88 I e3 dX12_layTried_8 ?_
      refine lv_iconst (v := 5) S.1 S.2.1 dX12_layTried_11 (by decide) ?_
      refine lv_iload_n S.1 S.2.1 dX12_layTried_12 rfl (lv_at hl 1 rfl) ?_
      refine lv_iadd S.1 S.2.1 dX12_layTried_13 ?_
      refine lv_aload_n S.1 S.2.1 dX12_layTried_14 rfl (lv_at hl 0 rfl) ?_
      obtain ⟨r4, e5, f⟩ := ob f
      refine o_gR S lf12_layTried_88 I e5 dX12_layTried_15 ?_
      refine lv_iload_n S.1 S.2.1 dX12_layTried_18 rfl (lv_at hl 1 rfl) ?_
      obtain ⟨v7, e6, f⟩ := ob f
      refine o_iald S I e6 dX12_layTried_19 ?_
      obtain ⟨h9, e8, f⟩ := ob f
      refine o_iast S I e8 dX12_layTried_20 (fun H locs I => ?_)
      refine lv_aload_n S.1 S.2.1 dX12_layTried_21 rfl (lv_at hl 0 rfl) ?_
      obtain ⟨r10, e11, f⟩ := ob f
      refine o_gR S lf12_layTried_91 I e11 dX12_layTried_22 ?_
      refine lv_iconst (v := 5) S.1 S.2.1 dX12_layTried_25 (by decide) ?_
      refine lv_iload_n S.1 S.2.1 dX12_layTried_26 rfl (lv_at hl 1 rfl) ?_
      refine lv_iadd S.1 S.2.1 dX12_layTried_27 ?_
      refine lv_aload_n S.1 S.2.1 dX12_layTried_28 rfl (lv_at hl 0 rfl) ?_
      obtain ⟨r12, e13, f⟩ := ob f
      refine o_gR S lf12_layTried_91 I e13 dX12_layTried_29 ?_
      refine lv_iload_n S.1 S.2.1 dX12_layTried_32 rfl (lv_at hl 1 rfl) ?_
      obtain ⟨v15, e14, f⟩ := ob f
      refine o_iald S I e14 dX12_layTried_33 ?_
      obtain ⟨h17, e16, f⟩ := ob f
      refine o_iast S I e16 dX12_layTried_34 (fun H locs I => ?_)
      refine lv_aload_n S.1 S.2.1 dX12_layTried_35 rfl (lv_at hl 0 rfl) ?_
      obtain ⟨r18, e19, f⟩ := ob f
      refine o_gR S lf12_layTried_94 I e19 dX12_layTried_36 ?_
      refine lv_iconst (v := 5) S.1 S.2.1 dX12_layTried_39 (by decide) ?_
      refine lv_iload_n S.1 S.2.1 dX12_layTried_40 rfl (lv_at hl 1 rfl) ?_
      refine lv_iadd S.1 S.2.1 dX12_layTried_41 ?_
      refine lv_aload_n S.1 S.2.1 dX12_layTried_42 rfl (lv_at hl 0 rfl) ?_
      obtain ⟨r20, e21, f⟩ := ob f
      refine o_gR S lf12_layTried_94 I e21 dX12_layTried_43 ?_
      refine lv_iload_n S.1 S.2.1 dX12_layTried_46 rfl (lv_at hl 1 rfl) ?_
      obtain ⟨v23, e22, f⟩ := ob f
      refine o_iald S I e22 dX12_layTried_47 ?_
      obtain ⟨h25, e24, f⟩ := ob f
      refine o_iast S I e24 dX12_layTried_48 (fun H locs I => ?_)
      refine lv_aload_n S.1 S.2.1 dX12_layTried_49 rfl (lv_at hl 0 rfl) ?_
      obtain ⟨r26, e27, f⟩ := ob f
      refine o_gR S lf12_layTried_97 I e27 dX12_layTried_50 ?_
      refine lv_iconst (v := 5) S.1 S.2.1 dX12_layTried_53 (by decide) ?_
      refine lv_iload_n S.1 S.2.1 dX12_layTried_54 rfl (lv_at hl 1 rfl) ?_
      refine lv_iadd S.1 S.2.1 dX12_layTried_55 ?_
      refine lv_aload_n S.1 S.2.1 dX12_layTried_56 rfl (lv_at hl 0 rfl) ?_
      obtain ⟨r28, e29, f⟩ := ob f
      refine o_gR S lf12_layTried_97 I e29 dX12_layTried_57 ?_
      refine lv_iload_n S.1 S.2.1 dX12_layTried_60 rfl (lv_at hl 1 rfl) ?_
      obtain ⟨v31, e30, f⟩ := ob f
      refine o_iald S I e30 dX12_layTried_61 ?_
      obtain ⟨h33, e32, f⟩ := ob f
      refine o_iast S I e32 dX12_layTried_62 (fun H locs I => ?_)
      refine lv_iinc (v := (x1 + 1)) (lv' := [(1, .int (x1 + 1)), (0, .ref (b + a0))]) S.1 S.2.1 dX12_layTried_63 hl (k := 1) rfl (congrArg (fun z => x1 + z) (by decide)) (by decide) rfl (fun ls hl => ?_)
      refine lv_goto (tgt := 2) S.1 S.2.1 dX12_layTried_66 (by decide) ?_
      exact ih f I (lv_sub hl [1, 0] rfl)
set_option maxHeartbeats 4000000 in
set_option maxRecDepth 100000 in
theorem T12_layTried_0 (S : CallFix p m c cX12_layTried 2 s args vX12_layTried RX12) (hr : meth.sig.returnType = none) (hlo : meth.locks = false) {out : PH} {h : PH} {a0 : Nat} (f : F12_layTried_0  h a0 = some out) {H : Heap} {locs : List Loc} (I : ph_I D cy b A fl h s H locs) {ls : Array Slot} (hl : lv_has ls 2 [(0, .ref (b + a0))]) : W p l e ({ frames := 0, cells := 0, slots := 0, locals := 0 } : Room) s m args below meth c H locs 0 0 (MQ below (va_Qv (fun (u : PH) => u = out) (ph_B D cy b A fl) A) args s 0 0 A) (F0 m 0 ls []) := by
  unfold F12_layTried_0 at f
  refine lv_iconst (v := 0) S.1 S.2.1 dX12_layTried_0 (by decide) ?_
  refine lv_istore_n (lv' := [(1, .int 0), (0, .ref (b + a0))]) S.1 S.2.1 dX12_layTried_1 rfl hl (by decide) rfl (fun ls hl => ?_)
  exact T12_layTried_2 S hr hlo  1024 f I (lv_sub hl [1, 0] rfl)
theorem M12_layTried (l : Launch) (D : va_G) (cy : Nat → ClassId) (b : Nat) (A : Nat → Prop) (fl : Bool) {h : PH} {a0 : Nat} {out : PH} (f : F12_layTried h a0 = some out) : Met l yX12_layTried vX12_layTried ({ frames := 0, cells := 0, slots := 0, locals := 0 } : Room) (va_Pc [.ref (b + a0)] (ph_B D cy b A fl h)) (va_Qv (fun (u : PH) => u = out) (ph_B D cy b A fl) A) 0 0 A :=
  o_met (by decide) rfl (Nat.le_of_ble_eq_true rfl) rfl (fun p e s m below meth c S hr hlo hnm ls hl I => T12_layTried_0 S hr hlo ((gd f).2) I (lv_sub hl [0] rfl))
def vX12_goesOn : List Cond := .code yX12_goesOn cX12_goesOn 2 none :: TB
theorem lf12_goesOn_253 : Fl vX12_goesOn RX12 253 12 16 := ⟨RX12, TX12, 87, rfl, by decide, (fun w h9 => List.mem_cons_of_mem _ (wC_wsX120 w h9)), (List.mem_cons_of_mem _ wT_12_14)⟩
theorem lf12_goesOn_106 : Fl vX12_goesOn RX12 106 12 61 := ⟨RX12, TX12, 87, rfl, by decide, (fun w h9 => List.mem_cons_of_mem _ (wC_wsX120 w h9)), (List.mem_cons_of_mem _ wT_11_4)⟩
theorem lf12_goesOn_48 : Fl vX12_goesOn RX12 48 12 34 := ⟨RX12, TX12, 87, rfl, by decide, (fun w h9 => List.mem_cons_of_mem _ (wC_wsX120 w h9)), (List.mem_cons_of_mem _ wT_10_9)⟩
theorem gX12_goesOn_X12_aMinute : GoodIn vX12_goesOn (wsV RX12 472 RX12 yX12_aMinute vX12_aMinute) := gV_of wT_46_13 wT_46_14 wT_46_15 wT_1_5 wT_46_16
theorem cd12_goesOn : Cd yX12_goesOn 1 := ⟨by decide, by decide, by decide +kernel⟩
set_option maxHeartbeats 4000000 in
set_option maxRecDepth 100000 in
theorem T12_goesOn_0 (S : CallFix p m c cX12_goesOn 2 s args vX12_goesOn RX12) (hr : meth.sig.returnType = none) (hlo : meth.locks = false) {out : PH} : ∀ (n : Nat) {h : PH} {a0 : Nat} {x1 : Int32} (f : F12_goesOn_0  n h a0 x1 = some out) {H : Heap} {locs : List Loc} (I : ph_I D cy b A fl h s H locs) {ls : Array Slot} (hl : lv_has ls 2 [(0, .ref (b + a0)), (1, .int x1)]), W p l e ({ frames := 11, cells := 0, slots := 0, locals := 268 } : Room) s m args below meth c H locs 0 0 (MQ below (va_Qv (fun (u : PH) => u = out) (ph_B D cy b A fl) A) args s 0 0 A) (F0 m 0 ls []) := by
  intro n
  induction n with
  | zero => intro h a0 x1 f; rw [F12_goesOn_0] at f; cases f
  | succ n ih =>
    intro h a0 x1 f H locs I ls hl
    rw [F12_goesOn_0] at f
    refine lv_aload_n S.1 S.2.1 dX12_goesOn_0 rfl (lv_at hl 0 rfl) ?_
    obtain ⟨v1, e2, f⟩ := ob f
    refine o_gI S lf12_goesOn_253 I e2 dX12_goesOn_1 ?_
    refine lv_if_le (tgt := 36) S.1 S.2.1 dX12_goesOn_4 (by decide) (fun q3 => ?_) (fun q3 => ?_)
    · have f := (if_pos q3).symm.trans f
      exact o_vret S hr hlo I f dX12_goesOn_36
    · have f := (if_neg q3).symm.trans f
      refine lv_aload_n S.1 S.2.1 dX12_goesOn_7 rfl (lv_at hl 0 rfl) ?_
      obtain ⟨r4, e5, f⟩ := ob f
      refine o_gR S lf12_goesOn_106 I e5 dX12_goesOn_8 ?_
      refine lv_iconst (v := 1) S.1 S.2.1 dX12_goesOn_11 (by decide) ?_
      obtain ⟨v7, e6, f⟩ := ob f
      refine o_iald S I e6 dX12_goesOn_12 ?_
      refine lv_aload_n S.1 S.2.1 dX12_goesOn_13 rfl (lv_at hl 0 rfl) ?_
      obtain ⟨r8, e9, f⟩ := ob f
      refine o_gR S lf12_goesOn_48 I e9 dX12_goesOn_14 ?_
      refine lv_aload_n S.1 S.2.1 dX12_goesOn_17 rfl (lv_at hl 0 rfl) ?_
      obtain ⟨v10, e11, f⟩ := ob f
      refine o_gI S lf12_goesOn_253 I e11 dX12_goesOn_18 ?_
      refine lv_iconst (v := 1) S.1 S.2.1 dX12_goesOn_21 (by decide) ?_
      refine lv_isub S.1 S.2.1 dX12_goesOn_22 ?_
      obtain ⟨v13, e12, f⟩ := ob f
      refine o_iald S I e12 dX12_goesOn_23 ?_
      refine lv_icmp_gt (tgt := 36) S.1 S.2.1 dX12_goesOn_24 (by decide) (fun q14 => ?_) (fun q14 => ?_)
      · have f := (if_pos q14).symm.trans f
        exact o_vret S hr hlo I f dX12_goesOn_36
      · have f := (if_neg q14).symm.trans f
        refine lv_aload_n S.1 S.2.1 dX12_goesOn_27 rfl (lv_at hl 0 rfl) ?_
        refine lv_iconst (v := 1) S.1 S.2.1 dX12_goesOn_28 (by decide) ?_
        refine lv_iload_n S.1 S.2.1 dX12_goesOn_29 rfl (lv_at hl 1 rfl) ?_
        obtain ⟨o15, e16, f⟩ := ob f
        refine o_Vv S (As := [.int 1, .int x1]) (rest := []) (ci := 12) (M12_aMinute l D cy b A fl e16) gX12_goesOn_X12_aMinute rfl rfl rfl cd12_aMinute ⟨Nat.le_of_ble_eq_true rfl, Nat.le_of_ble_eq_true rfl⟩ I (gd e16).1 clX12 rfl rfl hl.1 rfl (Nat.le_of_ble_eq_true rfl) dX12_goesOn_30 ⟨Nat.le_of_ble_eq_true rfl, Nat.le_of_ble_eq_true rfl⟩ (fun H locs I => ?_)
        refine lv_goto (tgt := 0) S.1 S.2.1 dX12_goesOn_33 (by decide) ?_
        exact ih f I (lv_sub hl [0, 1] rfl)
theorem M12_goesOn (l : Launch) (D : va_G) (cy : Nat → ClassId) (b : Nat) (A : Nat → Prop) (fl : Bool) {h : PH} {a0 : Nat} {x1 : Int32} {out : PH} (f : F12_goesOn h a0 x1 = some out) : Met l yX12_goesOn vX12_goesOn ({ frames := 11, cells := 0, slots := 0, locals := 268 } : Room) (va_Pc [.ref (b + a0), .int x1] (ph_B D cy b A fl h)) (va_Qv (fun (u : PH) => u = out) (ph_B D cy b A fl) A) 0 0 A :=
  o_met (by decide) rfl (Nat.le_of_ble_eq_true rfl) rfl (fun p e s m below meth c S hr hlo hnm ls hl I => T12_goesOn_0 S hr hlo 1024 ((gd f).2) I (lv_sub hl [0, 1] rfl))
def vX12_chance : List Cond := .code yX12_chance cX12_chance 8 (some .int) :: TB
theorem lp12_chance_372 : Pl vX12_chance RX12 372 12 65 .long := ⟨RX12, TX12, 87, tyX12, rfl, by decide, (fun w h9 => List.mem_cons_of_mem _ (wC_wsX120 w h9)), (List.mem_cons_of_mem _ wT_13_0), tyX12_ok, nmX12, rfl, rfl⟩
theorem gX12_chance_X12_layTried : GoodIn vX12_chance (wsV RX12 509 RX12 yX12_layTried vX12_layTried) := gV_of wT_58_9 wT_58_10 wT_58_11 wT_1_5 wT_58_12
theorem lf12_chance_369 : Fl vX12_chance RX12 369 12 64 := ⟨RX12, TX12, 87, rfl, by decide, (fun w h9 => List.mem_cons_of_mem _ (wC_wsX120 w h9)), (List.mem_cons_of_mem _ wT_12_23)⟩
theorem gX12_chance_X12_goesOn : GoodIn vX12_chance (wsV RX12 512 RX12 yX12_goesOn vX12_goesOn) := gV_of wT_58_13 wT_58_14 wT_58_15 wT_1_5 wT_58_16
theorem lf12_chance_91 : Fl vX12_chance RX12 91 12 56 := ⟨RX12, TX12, 87, rfl, by decide, (fun w h9 => List.mem_cons_of_mem _ (wC_wsX120 w h9)), (List.mem_cons_of_mem _ wT_10_23)⟩
theorem lp12_chance_154 : Pl vX12_chance RX12 154 12 2 .int := ⟨RX12, TX12, 87, tyX12, rfl, by decide, (fun w h9 => List.mem_cons_of_mem _ (wC_wsX120 w h9)), (List.mem_cons_of_mem _ wT_13_17), tyX12_ok, nmX12, rfl, rfl⟩
theorem gX12_chance_X12_isSurfer : GoodIn vX12_chance (wsV RX12 413 RX12 yX12_isSurfer vX12_isSurfer) := gV_of wT_34_14 wT_34_15 wT_34_16 wT_1_5 wT_34_17
theorem gX12_chance_X12_isIn : GoodIn vX12_chance (va_wsS RX12 199 yX12_isIn vX12_isIn) := gS_of wT_28_17 wT_28_18 wT_1_5 wT_28_19
theorem lf12_chance_372 : Fl vX12_chance RX12 372 12 65 := ⟨RX12, TX12, 87, rfl, by decide, (fun w h9 => List.mem_cons_of_mem _ (wC_wsX120 w h9)), (List.mem_cons_of_mem _ wT_13_0)⟩
set_option maxHeartbeats 4000000 in
set_option maxRecDepth 100000 in
theorem T12_chance_47 (S : CallFix p m c cX12_chance 8 s args vX12_chance RX12) (hr : meth.sig.returnType = (some .int)) (hlo : meth.locks = false) {out : Int32 × PH} : ∀ (n : Nat) {h : PH} {a0 : Nat} {x2 : Int32} {x3 : Int32} {j4 : Int64} {x6 : Int32} {x7 : Int32} (f : F12_chance_47  n h a0 x2 x3 j4 x6 x7 = some out) {H : Heap} {locs : List Loc} (I : ph_I D cy b A fl h s H locs) {ls : Array Slot} (hl : lv_has ls 8 [(0, .ref (b + a0)), (2, .int x2), (3, .int x3), (4, .long j4), (6, .int x6), (7, .int x7)]), W p l e ({ frames := 12, cells := 0, slots := 0, locals := 289 } : Room) s m args below meth c H locs 0 0 (MQ below (va_Qi (fun (r : Int32) (u : PH) => (r, u) = out) (ph_B D cy b A fl) A) args s 0 0 A) (F0 m 47 ls []) := by
  intro n
  induction n with
  | zero => intro h a0 x2 x3 j4 x6 x7 f; rw [F12_chance_47] at f; cases f
  | succ n ih =>
    intro h a0 x2 x3 j4 x6 x7 f H locs I ls hl
    rw [F12_chance_47] at f
    refine lv_iload S.1 S.2.1 dX12_chance_47 (lv_at hl 5 rfl) ?_
    refine lv_bipush (v := 10) S.1 S.2.1 dX12_chance_49 (by decide) ?_
    refine lv_icmp_ge (tgt := 94) S.1 S.2.1 dX12_chance_51 (by decide) (fun q1 => ?_) (fun q1 => ?_)
    · have f := (if_pos q1).symm.trans f
      refine lv_aload_n S.1 S.2.1 dX12_chance_94 rfl (lv_at hl 0 rfl) ?_
      refine lv_lload S.1 S.2.1 dX12_chance_95 (lv_at hl 3 rfl) ?_
      obtain ⟨h2, e3, f⟩ := ob f
      refine o_pJ S lp12_chance_372 I e3 dX12_chance_97 (fun H locs I => ?_)
      refine lv_iload S.1 S.2.1 dX12_chance_100 (lv_at hl 4 rfl) ?_
      exact o_iret S hr hlo I f dX12_chance_102
    · have f := (if_neg q1).symm.trans f
      refine lv_aload_n S.1 S.2.1 dX12_chance_54 rfl (lv_at hl 0 rfl) ?_
      obtain ⟨o4, e5, f⟩ := ob f
      refine o_Vv S (As := []) (rest := []) (ci := 12) (M12_layTried l D cy b A fl e5) gX12_chance_X12_layTried rfl rfl rfl cd12_layTried ⟨Nat.le_of_ble_eq_true rfl, Nat.le_of_ble_eq_true rfl⟩ I (gd e5).1 clX12 rfl rfl hl.1 rfl (Nat.le_of_ble_eq_true rfl) dX12_chance_55 ⟨Nat.le_of_ble_eq_true rfl, Nat.le_of_ble_eq_true rfl⟩ (fun H locs I => ?_)
      refine lv_aload_n S.1 S.2.1 dX12_chance_58 rfl (lv_at hl 0 rfl) ?_
      refine lv_aload_n S.1 S.2.1 dX12_chance_59 rfl (lv_at hl 0 rfl) ?_
      obtain ⟨v6, e7, f⟩ := ob f
      refine o_gI S lf12_chance_369 I e7 dX12_chance_60 ?_
      obtain ⟨o8, e9, f⟩ := ob f
      refine o_Vv S (As := [.int v6]) (rest := []) (ci := 12) (M12_goesOn l D cy b A fl e9) gX12_chance_X12_goesOn rfl rfl rfl cd12_goesOn ⟨Nat.le_of_ble_eq_true rfl, Nat.le_of_ble_eq_true rfl⟩ I (gd e9).1 clX12 rfl rfl hl.1 rfl (Nat.le_of_ble_eq_true rfl) dX12_chance_63 ⟨Nat.le_of_ble_eq_true rfl, Nat.le_of_ble_eq_true rfl⟩ (fun H locs I => ?_)
      refine lv_iload S.1 S.2.1 dX12_chance_66 (lv_at hl 4 rfl) ?_
      refine lv_aload_n S.1 S.2.1 dX12_chance_68 rfl (lv_at hl 0 rfl) ?_
      obtain ⟨r10, e11, f⟩ := ob f
      refine o_gR S lf12_chance_91 I e11 dX12_chance_69 ?_
      refine lv_iconst (v := 5) S.1 S.2.1 dX12_chance_72 (by decide) ?_
      refine lv_iload_n S.1 S.2.1 dX12_chance_73 rfl (lv_at hl 1 rfl) ?_
      refine lv_iadd S.1 S.2.1 dX12_chance_74 ?_
      obtain ⟨v13, e12, f⟩ := ob f
      refine o_iald S I e12 dX12_chance_75 ?_
      refine lv_iload_n S.1 S.2.1 dX12_chance_76 rfl (lv_at hl 2 rfl) ?_
      refine lv_icmp_lt (tgt := 84) S.1 S.2.1 dX12_chance_77 (by decide) (fun q14 => ?_) (fun q14 => ?_)
      · have f := (if_pos q14).symm.trans f
        refine lv_iconst (v := 0) S.1 S.2.1 dX12_chance_84 (by decide) ?_
        refine lv_iadd S.1 S.2.1 dX12_chance_85 ?_
        refine lv_istore (lv' := [(6, .int (x6 + 0)), (0, .ref (b + a0)), (2, .int x2), (3, .int x3), (4, .long j4), (7, .int x7)]) S.1 S.2.1 dX12_chance_86 hl (by decide) rfl (fun ls hl => ?_)
        refine lv_iinc (v := (x7 + 1)) (lv' := [(7, .int (x7 + 1)), (6, .int (x6 + 0)), (0, .ref (b + a0)), (2, .int x2), (3, .int x3), (4, .long j4)]) S.1 S.2.1 dX12_chance_88 hl (k := 5) rfl (congrArg (fun z => x7 + z) (by decide)) (by decide) rfl (fun ls hl => ?_)
        refine lv_goto (tgt := 47) S.1 S.2.1 dX12_chance_91 (by decide) ?_
        exact ih f I (lv_sub hl [2, 3, 4, 5, 1, 0] rfl)
      · have f := (if_neg q14).symm.trans f
        refine lv_iconst (v := 1) S.1 S.2.1 dX12_chance_80 (by decide) ?_
        refine lv_goto (tgt := 85) S.1 S.2.1 dX12_chance_81 (by decide) ?_
        refine lv_iadd S.1 S.2.1 dX12_chance_85 ?_
        refine lv_istore (lv' := [(6, .int (x6 + 1)), (0, .ref (b + a0)), (2, .int x2), (3, .int x3), (4, .long j4), (7, .int x7)]) S.1 S.2.1 dX12_chance_86 hl (by decide) rfl (fun ls hl => ?_)
        refine lv_iinc (v := (x7 + 1)) (lv' := [(7, .int (x7 + 1)), (6, .int (x6 + 1)), (0, .ref (b + a0)), (2, .int x2), (3, .int x3), (4, .long j4)]) S.1 S.2.1 dX12_chance_88 hl (k := 5) rfl (congrArg (fun z => x7 + z) (by decide)) (by decide) rfl (fun ls hl => ?_)
        refine lv_goto (tgt := 47) S.1 S.2.1 dX12_chance_91 (by decide) ?_
        exact ih f I (lv_sub hl [2, 3, 4, 5, 1, 0] rfl)
set_option maxHeartbeats 4000000 in
set_option maxRecDepth 100000 in
theorem T12_chance_0 (S : CallFix p m c cX12_chance 8 s args vX12_chance RX12) (hr : meth.sig.returnType = (some .int)) (hlo : meth.locks = false) {out : Int32 × PH} {h : PH} {a0 : Nat} {x1 : Int32} {x2 : Int32} {x3 : Int32} (f : F12_chance_0  h a0 x1 x2 x3 = some out) {H : Heap} {locs : List Loc} (I : ph_I D cy b A fl h s H locs) {ls : Array Slot} (hl : lv_has ls 8 [(0, .ref (b + a0)), (1, .int x1), (2, .int x2), (3, .int x3)]) : W p l e ({ frames := 12, cells := 0, slots := 0, locals := 289 } : Room) s m args below meth c H locs 0 0 (MQ below (va_Qi (fun (r : Int32) (u : PH) => (r, u) = out) (ph_B D cy b A fl) A) args s 0 0 A) (F0 m 0 ls []) := by
  unfold F12_chance_0 at f
  refine lv_aload_n S.1 S.2.1 dX12_chance_0 rfl (lv_at hl 0 rfl) ?_
  refine lv_iconst (v := 0) S.1 S.2.1 dX12_chance_1 (by decide) ?_
  obtain ⟨h1, e2, f⟩ := ob f
  refine o_pI S lp12_chance_154 I e2 dX12_chance_2 (fun H locs I => ?_)
  refine lv_iload_n S.1 S.2.1 dX12_chance_5 rfl (lv_at hl 1 rfl) ?_
  refine lv_if_lt (tgt := 27) S.1 S.2.1 dX12_chance_6 (by decide) (fun q3 => ?_) (fun q3 => ?_)
  · have f := (if_pos q3).symm.trans f
    refine lv_iconst (v := (-1)) S.1 S.2.1 dX12_chance_27 (by decide) ?_
    exact o_iret S hr hlo I f dX12_chance_28
  · have f := (if_neg q3).symm.trans f
    refine lv_aload_n S.1 S.2.1 dX12_chance_9 rfl (lv_at hl 0 rfl) ?_
    refine lv_iload_n S.1 S.2.1 dX12_chance_10 rfl (lv_at hl 2 rfl) ?_
    obtain ⟨o4, e5, f⟩ := ob f
    refine o_Vi S (As := [.int x2]) (rest := []) (ci := 12) (M12_isSurfer l D cy b A fl e5) gX12_chance_X12_isSurfer rfl rfl rfl cd12_isSurfer ⟨Nat.le_of_ble_eq_true rfl, Nat.le_of_ble_eq_true rfl⟩ I (gd e5).1 clX12 rfl rfl hl.1 rfl (Nat.le_of_ble_eq_true rfl) dX12_chance_11 ⟨Nat.le_of_ble_eq_true rfl, Nat.le_of_ble_eq_true rfl⟩ (fun H locs I => ?_)
    refine lv_if_eq (tgt := 27) S.1 S.2.1 dX12_chance_14 (by decide) (fun q6 => ?_) (fun q6 => ?_)
    · have f := (if_pos q6).symm.trans f
      refine lv_iconst (v := (-1)) S.1 S.2.1 dX12_chance_27 (by decide) ?_
      exact o_iret S hr hlo I f dX12_chance_28
    · have f := (if_neg q6).symm.trans f
      refine lv_iload_n S.1 S.2.1 dX12_chance_17 rfl (lv_at hl 3 rfl) ?_
      refine lv_iconst (v := 0) S.1 S.2.1 dX12_chance_18 (by decide) ?_
      refine lv_bipush (v := 28) S.1 S.2.1 dX12_chance_19 (by decide) ?_
      obtain ⟨o7, e8, f⟩ := ob f
      refine o_Si S (As := [.int x3, .int 0, .int 28]) (rest := []) (M12_isIn l D cy b A fl e8) gX12_chance_X12_isIn rfl rfl rfl cd12_isIn ⟨Nat.le_of_ble_eq_true rfl, Nat.le_of_ble_eq_true rfl⟩ I rfl hl.1 rfl (Nat.le_of_ble_eq_true rfl) dX12_chance_21 ⟨Nat.le_of_ble_eq_true rfl, Nat.le_of_ble_eq_true rfl⟩ (fun H locs I => ?_)
      refine lv_if_ne (tgt := 29) S.1 S.2.1 dX12_chance_24 (by decide) (fun q9 => ?_) (fun q9 => ?_)
      · have f := (if_neg q9).symm.trans f
        refine lv_aload_n S.1 S.2.1 dX12_chance_29 rfl (lv_at hl 0 rfl) ?_
        obtain ⟨w10, e11, f⟩ := ob f
        refine o_gJ S lf12_chance_372 I e11 dX12_chance_30 ?_
        refine lv_lstore (lv' := [(4, .long w10), (0, .ref (b + a0)), (1, .int x1), (2, .int x2), (3, .int x3)]) S.1 S.2.1 dX12_chance_33 hl (by decide) rfl (fun ls hl => ?_)
        refine lv_aload_n S.1 S.2.1 dX12_chance_35 rfl (lv_at hl 1 rfl) ?_
        refine lv_iload_n S.1 S.2.1 dX12_chance_36 rfl (lv_at hl 2 rfl) ?_
        refine lv_i2l (v := Int32.toInt64 x1) S.1 S.2.1 dX12_chance_37 rfl ?_
        obtain ⟨h12, e13, f⟩ := ob f
        refine o_pJ S lp12_chance_372 I e13 dX12_chance_38 (fun H locs I => ?_)
        refine lv_iconst (v := 0) S.1 S.2.1 dX12_chance_41 (by decide) ?_
        refine lv_istore (lv' := [(6, .int 0), (4, .long w10), (0, .ref (b + a0)), (1, .int x1), (2, .int x2), (3, .int x3)]) S.1 S.2.1 dX12_chance_42 hl (by decide) rfl (fun ls hl => ?_)
        refine lv_iconst (v := 0) S.1 S.2.1 dX12_chance_44 (by decide) ?_
        refine lv_istore (lv' := [(7, .int 0), (6, .int 0), (4, .long w10), (0, .ref (b + a0)), (1, .int x1), (2, .int x2), (3, .int x3)]) S.1 S.2.1 dX12_chance_45 hl (by decide) rfl (fun ls hl => ?_)
        exact T12_chance_47 S hr hlo  1024 f I (lv_sub hl [3, 5, 6, 2, 1, 0] rfl)
      · have f := (if_pos q9).symm.trans f
        refine lv_iconst (v := (-1)) S.1 S.2.1 dX12_chance_27 (by decide) ?_
        exact o_iret S hr hlo I f dX12_chance_28
theorem M12_chance (l : Launch) (D : va_G) (cy : Nat → ClassId) (b : Nat) (A : Nat → Prop) (fl : Bool) {h : PH} {a0 : Nat} {x1 : Int32} {x2 : Int32} {x3 : Int32} {out : Int32 × PH} (f : F12_chance h a0 x1 x2 x3 = some out) : Met l yX12_chance vX12_chance ({ frames := 12, cells := 0, slots := 0, locals := 289 } : Room) (va_Pc [.ref (b + a0), .int x1, .int x2, .int x3] (ph_B D cy b A fl h)) (va_Qi (fun (r : Int32) (u : PH) => (r, u) = out) (ph_B D cy b A fl) A) 0 0 A :=
  o_met (by decide) rfl (Nat.le_of_ble_eq_true rfl) rfl (fun p e s m below meth c S hr hlo hnm ls hl I => T12_chance_0 S hr hlo ((gd f).2) I (lv_sub hl [0, 1, 2, 3] rfl))
def vX12_comesTo : List Cond := .code yX12_comesTo cX12_comesTo 3 (some .int) :: TB
theorem lf12_comesTo_88 : Fl vX12_comesTo RX12 88 12 55 := ⟨RX12, TX12, 87, rfl, by decide, (fun w h9 => List.mem_cons_of_mem _ (wC_wsX120 w h9)), (List.mem_cons_of_mem _ wT_10_22)⟩
theorem gX12_comesTo_X12_beside : GoodIn vX12_comesTo (wsV RX12 466 RX12 yX12_beside vX12_beside) := gV_of wT_42_11 wT_42_12 wT_42_13 wT_1_5 wT_42_14
theorem cd12_comesTo : Cd yX12_comesTo 2 := ⟨by decide, by decide, by decide +kernel⟩
set_option maxHeartbeats 4000000 in
set_option maxRecDepth 100000 in
theorem T12_comesTo_0 (S : CallFix p m c cX12_comesTo 3 s args vX12_comesTo RX12) (hr : meth.sig.returnType = (some .int)) (hlo : meth.locks = false) {out : Int32 × PH} {h : PH} {a0 : Nat} {x1 : Int32} {x2 : Int32} (f : F12_comesTo_0  h a0 x1 x2 = some out) {H : Heap} {locs : List Loc} (I : ph_I D cy b A fl h s H locs) {ls : Array Slot} (hl : lv_has ls 3 [(0, .ref (b + a0)), (1, .int x1), (2, .int x2)]) : W p l e ({ frames := 2, cells := 0, slots := 0, locals := 46 } : Room) s m args below meth c H locs 0 0 (MQ below (va_Qi (fun (r : Int32) (u : PH) => (r, u) = out) (ph_B D cy b A fl) A) args s 0 0 A) (F0 m 0 ls []) := by
  unfold F12_comesTo_0 at f
  refine lv_iload_n S.1 S.2.1 dX12_comesTo_0 rfl (lv_at hl 2 rfl) ?_
  refine lv_iconst (v := 4) S.1 S.2.1 dX12_comesTo_1 (by decide) ?_
  refine lv_icmp_ne (tgt := 14) S.1 S.2.1 dX12_comesTo_2 (by decide) (fun q1 => ?_) (fun q1 => ?_)
  · have f := (if_neg q1).symm.trans f
    refine lv_aload_n S.1 S.2.1 dX12_comesTo_14 rfl (lv_at hl 0 rfl) ?_
    refine lv_aload_n S.1 S.2.1 dX12_comesTo_15 rfl (lv_at hl 0 rfl) ?_
    obtain ⟨r2, e3, f⟩ := ob f
    refine o_gR S lf12_comesTo_88 I e3 dX12_comesTo_16 ?_
    refine lv_iload_n S.1 S.2.1 dX12_comesTo_19 rfl (lv_at hl 1 rfl) ?_
    obtain ⟨v5, e4, f⟩ := ob f
    refine o_iald S I e4 dX12_comesTo_20 ?_
    refine lv_iload_n S.1 S.2.1 dX12_comesTo_21 rfl (lv_at hl 2 rfl) ?_
    obtain ⟨o6, e7, f⟩ := ob f
    refine o_Vi S (As := [.int v5, .int x2]) (rest := []) (ci := 12) (M12_beside l D cy b A fl e7) gX12_comesTo_X12_beside rfl rfl rfl cd12_beside ⟨Nat.le_of_ble_eq_true rfl, Nat.le_of_ble_eq_true rfl⟩ I (gd e7).1 clX12 rfl rfl hl.1 rfl (Nat.le_of_ble_eq_true rfl) dX12_comesTo_22 ⟨Nat.le_of_ble_eq_true rfl, Nat.le_of_ble_eq_true rfl⟩ (fun H locs I => ?_)
    exact o_iret S hr hlo I f dX12_comesTo_25
  · have f := (if_pos q1).symm.trans f
    refine lv_aload_n S.1 S.2.1 dX12_comesTo_5 rfl (lv_at hl 0 rfl) ?_
    obtain ⟨r8, e9, f⟩ := ob f
    refine o_gR S lf12_comesTo_88 I e9 dX12_comesTo_6 ?_
    refine lv_iload_n S.1 S.2.1 dX12_comesTo_9 rfl (lv_at hl 1 rfl) ?_
    obtain ⟨v11, e10, f⟩ := ob f
    refine o_iald S I e10 dX12_comesTo_10 ?_
    refine lv_goto (tgt := 25) S.1 S.2.1 dX12_comesTo_11 (by decide) ?_
    exact o_iret S hr hlo I f dX12_comesTo_25
theorem M12_comesTo (l : Launch) (D : va_G) (cy : Nat → ClassId) (b : Nat) (A : Nat → Prop) (fl : Bool) {h : PH} {a0 : Nat} {x1 : Int32} {x2 : Int32} {out : Int32 × PH} (f : F12_comesTo h a0 x1 x2 = some out) : Met l yX12_comesTo vX12_comesTo ({ frames := 2, cells := 0, slots := 0, locals := 46 } : Room) (va_Pc [.ref (b + a0), .int x1, .int x2] (ph_B D cy b A fl h)) (va_Qi (fun (r : Int32) (u : PH) => (r, u) = out) (ph_B D cy b A fl) A) 0 0 A :=
  o_met (by decide) rfl (Nat.le_of_ble_eq_true rfl) rfl (fun p e s m below meth c S hr hlo hnm ls hl I => T12_comesTo_0 S hr hlo ((gd f).2) I (lv_sub hl [0, 1, 2] rfl))
def vX12_copies : List Cond := .code yX12_copies cX12_copies 3 none :: TB
theorem cd12_copies : Cd yX12_copies 2 := ⟨by decide, by decide, by decide +kernel⟩
set_option maxHeartbeats 4000000 in
set_option maxRecDepth 100000 in
theorem T12_copies_2 (S : CallFix p m c cX12_copies 3 s args vX12_copies RX12) (hr : meth.sig.returnType = none) (hlo : meth.locks = false) {out : PH} : ∀ (n : Nat) {h : PH} {a0 : Nat} {x1 : Int32} {x2 : Int32} (f : F12_copies_2  n h a0 x1 x2 = some out) {H : Heap} {locs : List Loc} (I : ph_I D cy b A fl h s H locs) {ls : Array Slot} (hl : lv_has ls 3 [(0, .ref (b + a0)), (1, .int x1), (2, .int x2)]), W p l e ({ frames := 0, cells := 0, slots := 0, locals := 0 } : Room) s m args below meth c H locs 0 0 (MQ below (va_Qv (fun (u : PH) => u = out) (ph_B D cy b A fl) A) args s 0 0 A) (F0 m 2 ls []) := by
  intro n
  induction n with
  | zero => intro h a0 x1 x2 f; rw [F12_copies_2] at f; cases f
  | succ n ih =>
    intro h a0 x1 x2 f H locs I ls hl
    rw [F12_copies_2] at f
    refine lv_iload_n S.1 S.2.1 dX12_copies_2 rfl (lv_at hl 2 rfl) ?_
    refine lv_iload_n S.1 S.2.1 dX12_copies_3 rfl (lv_at hl 1 rfl) ?_
    refine lv_icmp_ge (tgt := 21) S.1 S.2.1 dX12_copies_4 (by decide) (fun q1 => ?_) (fun q1 => ?_)
    · have f := (if_pos q1).symm.trans f
      exact o_vret S hr hlo I f dX12_copies_21
    · have f := (if_neg q1).symm.trans f
      refine lv_aload_n S.1 S.2.1 dX12_copies_7 rfl (lv_at hl 0 rfl) ?_
      refine lv_iload_n S.1 S.2.1 dX12_copies_8 rfl (lv_at hl 2 rfl) ?_
      refine lv_aload_n S.1 S.2.1 dX12_copies_9 rfl (lv_at hl 0 rfl) ?_
      refine lv_iload_n S.1 S.2.1 dX12_copies_10 rfl (lv_at hl 1 rfl) ?_
      refine lv_iload_n S.1 S.2.1 dX12_copies_11 rfl (lv_at hl 2 rfl) ?_
      refine lv_iadd S.1 S.2.1 dX12_copies_12 ?_
      obtain ⟨v3, e2, f⟩ := ob f
      refine o_iald S I e2 dX12_copies_13 ?_
      obtain ⟨h5, e4, f⟩ := ob f
      refine o_iast S I e4 dX12_copies_14 (fun H locs I => ?_)
      refine lv_iinc (v := (x2 + 1)) (lv' := [(2, .int (x2 + 1)), (0, .ref (b + a0)), (1, .int x1)]) S.1 S.2.1 dX12_copies_15 hl (k := 2) rfl (congrArg (fun z => x2 + z) (by decide)) (by decide) rfl (fun ls hl => ?_)
      refine lv_goto (tgt := 2) S.1 S.2.1 dX12_copies_18 (by decide) ?_
      exact ih f I (lv_sub hl [1, 2, 0] rfl)
set_option maxHeartbeats 4000000 in
set_option maxRecDepth 100000 in
theorem T12_copies_0 (S : CallFix p m c cX12_copies 3 s args vX12_copies RX12) (hr : meth.sig.returnType = none) (hlo : meth.locks = false) {out : PH} {h : PH} {a0 : Nat} {x1 : Int32} (f : F12_copies_0  h a0 x1 = some out) {H : Heap} {locs : List Loc} (I : ph_I D cy b A fl h s H locs) {ls : Array Slot} (hl : lv_has ls 3 [(0, .ref (b + a0)), (1, .int x1)]) : W p l e ({ frames := 0, cells := 0, slots := 0, locals := 0 } : Room) s m args below meth c H locs 0 0 (MQ below (va_Qv (fun (u : PH) => u = out) (ph_B D cy b A fl) A) args s 0 0 A) (F0 m 0 ls []) := by
  unfold F12_copies_0 at f
  refine lv_iconst (v := 0) S.1 S.2.1 dX12_copies_0 (by decide) ?_
  refine lv_istore_n (lv' := [(2, .int 0), (0, .ref (b + a0)), (1, .int x1)]) S.1 S.2.1 dX12_copies_1 rfl hl (by decide) rfl (fun ls hl => ?_)
  exact T12_copies_2 S hr hlo  1024 f I (lv_sub hl [1, 2, 0] rfl)
theorem M12_copies (l : Launch) (D : va_G) (cy : Nat → ClassId) (b : Nat) (A : Nat → Prop) (fl : Bool) {h : PH} {a0 : Nat} {x1 : Int32} {out : PH} (f : F12_copies h a0 x1 = some out) : Met l yX12_copies vX12_copies ({ frames := 0, cells := 0, slots := 0, locals := 0 } : Room) (va_Pc [.ref (b + a0), .int x1] (ph_B D cy b A fl h)) (va_Qv (fun (u : PH) => u = out) (ph_B D cy b A fl) A) 0 0 A :=
  o_met (by decide) rfl (Nat.le_of_ble_eq_true rfl) rfl (fun p e s m below meth c S hr hlo hnm ls hl I => T12_copies_0 S hr hlo (f) I (lv_sub hl [0, 1] rfl))
def vX12_firstToCome : List Cond := .code yX12_firstToCome cX12_firstToCome 2 (some .int) :: TB
theorem lf12_firstToCome_253 : Fl vX12_firstToCome RX12 253 12 16 := ⟨RX12, TX12, 87, rfl, by decide, (fun w h9 => List.mem_cons_of_mem _ (wC_wsX120 w h9)), (List.mem_cons_of_mem _ wT_12_14)⟩
theorem lf12_firstToCome_103 : Fl vX12_firstToCome RX12 103 12 60 := ⟨RX12, TX12, 87, rfl, by decide, (fun w h9 => List.mem_cons_of_mem _ (wC_wsX120 w h9)), (List.mem_cons_of_mem _ wT_11_3)⟩
theorem cd12_firstToCome : Cd yX12_firstToCome 0 := ⟨by decide, by decide, by decide +kernel⟩
set_option maxHeartbeats 4000000 in
set_option maxRecDepth 100000 in
theorem T12_firstToCome_2 (S : CallFix p m c cX12_firstToCome 2 s args vX12_firstToCome RX12) (hr : meth.sig.returnType = (some .int)) (hlo : meth.locks = false) {out : Int32 × PH} : ∀ (n : Nat) {h : PH} {a0 : Nat} {x1 : Int32} (f : F12_firstToCome_2  n h a0 x1 = some out) {H : Heap} {locs : List Loc} (I : ph_I D cy b A fl h s H locs) {ls : Array Slot} (hl : lv_has ls 2 [(0, .ref (b + a0)), (1, .int x1)]), W p l e ({ frames := 0, cells := 0, slots := 0, locals := 0 } : Room) s m args below meth c H locs 0 0 (MQ below (va_Qi (fun (r : Int32) (u : PH) => (r, u) = out) (ph_B D cy b A fl) A) args s 0 0 A) (F0 m 2 ls []) := by
  intro n
  induction n with
  | zero => intro h a0 x1 f; rw [F12_firstToCome_2] at f; cases f
  | succ n ih =>
    intro h a0 x1 f H locs I ls hl
    rw [F12_firstToCome_2] at f
    refine lv_iload_n S.1 S.2.1 dX12_firstToCome_2 rfl (lv_at hl 1 rfl) ?_
    refine lv_aload_n S.1 S.2.1 dX12_firstToCome_3 rfl (lv_at hl 0 rfl) ?_
    obtain ⟨v1, e2, f⟩ := ob f
    refine o_gI S lf12_firstToCome_253 I e2 dX12_firstToCome_4 ?_
    refine lv_icmp_ge (tgt := 27) S.1 S.2.1 dX12_firstToCome_7 (by decide) (fun q3 => ?_) (fun q3 => ?_)
    · have f := (if_pos q3).symm.trans f
      refine lv_iload_n S.1 S.2.1 dX12_firstToCome_27 rfl (lv_at hl 1 rfl) ?_
      exact o_iret S hr hlo I f dX12_firstToCome_28
    · have f := (if_neg q3).symm.trans f
      refine lv_aload_n S.1 S.2.1 dX12_firstToCome_10 rfl (lv_at hl 0 rfl) ?_
      obtain ⟨r4, e5, f⟩ := ob f
      refine o_gR S lf12_firstToCome_103 I e5 dX12_firstToCome_11 ?_
      refine lv_iload_n S.1 S.2.1 dX12_firstToCome_14 rfl (lv_at hl 1 rfl) ?_
      obtain ⟨v7, e6, f⟩ := ob f
      refine o_iald S I e6 dX12_firstToCome_15 ?_
      refine lv_bipush (v := (-2)) S.1 S.2.1 dX12_firstToCome_16 (by decide) ?_
      refine lv_icmp_eq (tgt := 27) S.1 S.2.1 dX12_firstToCome_18 (by decide) (fun q8 => ?_) (fun q8 => ?_)
      · have f := (if_pos q8).symm.trans f
        refine lv_iload_n S.1 S.2.1 dX12_firstToCome_27 rfl (lv_at hl 1 rfl) ?_
        exact o_iret S hr hlo I f dX12_firstToCome_28
      · have f := (if_neg q8).symm.trans f
        refine lv_iinc (v := (x1 + 1)) (lv' := [(1, .int (x1 + 1)), (0, .ref (b + a0))]) S.1 S.2.1 dX12_firstToCome_21 hl (k := 1) rfl (congrArg (fun z => x1 + z) (by decide)) (by decide) rfl (fun ls hl => ?_)
        refine lv_goto (tgt := 2) S.1 S.2.1 dX12_firstToCome_24 (by decide) ?_
        exact ih f I (lv_sub hl [1, 0] rfl)
set_option maxHeartbeats 4000000 in
set_option maxRecDepth 100000 in
theorem T12_firstToCome_0 (S : CallFix p m c cX12_firstToCome 2 s args vX12_firstToCome RX12) (hr : meth.sig.returnType = (some .int)) (hlo : meth.locks = false) {out : Int32 × PH} {h : PH} {a0 : Nat} (f : F12_firstToCome_0  h a0 = some out) {H : Heap} {locs : List Loc} (I : ph_I D cy b A fl h s H locs) {ls : Array Slot} (hl : lv_has ls 2 [(0, .ref (b + a0))]) : W p l e ({ frames := 0, cells := 0, slots := 0, locals := 0 } : Room) s m args below meth c H locs 0 0 (MQ below (va_Qi (fun (r : Int32) (u : PH) => (r, u) = out) (ph_B D cy b A fl) A) args s 0 0 A) (F0 m 0 ls []) := by
  unfold F12_firstToCome_0 at f
  refine lv_iconst (v := 0) S.1 S.2.1 dX12_firstToCome_0 (by decide) ?_
  refine lv_istore_n (lv' := [(1, .int 0), (0, .ref (b + a0))]) S.1 S.2.1 dX12_firstToCome_1 rfl hl (by decide) rfl (fun ls hl => ?_)
  exact T12_firstToCome_2 S hr hlo  1024 f I (lv_sub hl [1, 0] rfl)
theorem M12_firstToCome (l : Launch) (D : va_G) (cy : Nat → ClassId) (b : Nat) (A : Nat → Prop) (fl : Bool) {h : PH} {a0 : Nat} {out : Int32 × PH} (f : F12_firstToCome h a0 = some out) : Met l yX12_firstToCome vX12_firstToCome ({ frames := 0, cells := 0, slots := 0, locals := 0 } : Room) (va_Pc [.ref (b + a0)] (ph_B D cy b A fl h)) (va_Qi (fun (r : Int32) (u : PH) => (r, u) = out) (ph_B D cy b A fl) A) 0 0 A :=
  o_met (by decide) rfl (Nat.le_of_ble_eq_true rfl) rfl (fun p e s m below meth c S hr hlo hnm ls hl I => T12_firstToCome_0 S hr hlo ((gd f).2) I (lv_sub hl [0] rfl))
def vX12_knownBy : List Cond := .code yX12_knownBy cX12_knownBy 1 (some .int) :: TB
theorem lf12_knownBy_133 : Fl vX12_knownBy RX12 133 12 75 := ⟨RX12, TX12, 87, rfl, by decide, (fun w h9 => List.mem_cons_of_mem _ (wC_wsX120 w h9)), (List.mem_cons_of_mem _ wT_11_13)⟩
theorem lf12_knownBy_376 : Fl vX12_knownBy RX12 376 12 74 := ⟨RX12, TX12, 87, rfl, by decide, (fun w h9 => List.mem_cons_of_mem _ (wC_wsX120 w h9)), (List.mem_cons_of_mem _ wT_13_1)⟩
theorem cd12_knownBy : Cd yX12_knownBy 0 := ⟨by decide, by decide, by decide +kernel⟩
set_option maxHeartbeats 4000000 in
set_option maxRecDepth 100000 in
theorem T12_knownBy_0 (S : CallFix p m c cX12_knownBy 1 s args vX12_knownBy RX12) (hr : meth.sig.returnType = (some .int)) (hlo : meth.locks = false) {out : Int32 × PH} {h : PH} {a0 : Nat} (f : F12_knownBy_0  h a0 = some out) {H : Heap} {locs : List Loc} (I : ph_I D cy b A fl h s H locs) {ls : Array Slot} (hl : lv_has ls 1 [(0, .ref (b + a0))]) : W p l e ({ frames := 0, cells := 0, slots := 0, locals := 0 } : Room) s m args below meth c H locs 0 0 (MQ below (va_Qi (fun (r : Int32) (u : PH) => (r, u) = out) (ph_B D cy b A fl) A) args s 0 0 A) (F0 m 0 ls []) := by
  unfold F12_knownBy_0 at f
  refine lv_aload_n S.1 S.2.1 dX12_knownBy_0 rfl (lv_at hl 0 rfl) ?_
  obtain ⟨v1, e2, f⟩ := ob f
  refine o_gI S lf12_knownBy_133 I e2 dX12_knownBy_1 ?_
  refine lv_if_ge (tgt := 14) S.1 S.2.1 dX12_knownBy_4 (by decide) (fun q3 => ?_) (fun q3 => ?_)
  · have f := (if_pos q3).symm.trans f
    refine lv_aload_n S.1 S.2.1 dX12_knownBy_14 rfl (lv_at hl 0 rfl) ?_
    obtain ⟨v4, e5, f⟩ := ob f
    refine o_gI S lf12_knownBy_133 I e5 dX12_knownBy_15 ?_
    exact o_iret S hr hlo I f dX12_knownBy_18
  · have f := (if_neg q3).symm.trans f
    refine lv_aload_n S.1 S.2.1 dX12_knownBy_7 rfl (lv_at hl 0 rfl) ?_
    obtain ⟨v6, e7, f⟩ := ob f
    refine o_gI S lf12_knownBy_376 I e7 dX12_knownBy_8 ?_
    refine lv_goto (tgt := 18) S.1 S.2.1 dX12_knownBy_11 (by decide) ?_
    exact o_iret S hr hlo I f dX12_knownBy_18
theorem M12_knownBy (l : Launch) (D : va_G) (cy : Nat → ClassId) (b : Nat) (A : Nat → Prop) (fl : Bool) {h : PH} {a0 : Nat} {out : Int32 × PH} (f : F12_knownBy h a0 = some out) : Met l yX12_knownBy vX12_knownBy ({ frames := 0, cells := 0, slots := 0, locals := 0 } : Room) (va_Pc [.ref (b + a0)] (ph_B D cy b A fl h)) (va_Qi (fun (r : Int32) (u : PH) => (r, u) = out) (ph_B D cy b A fl) A) 0 0 A :=
  o_met (by decide) rfl (Nat.le_of_ble_eq_true rfl) rfl (fun p e s m below meth c S hr hlo hnm ls hl I => T12_knownBy_0 S hr hlo ((gd f).2) I (lv_sub hl [0] rfl))
def vX12_count : List Cond := .code yX12_count cX12_count 2 (some .int) :: TB
theorem lp12_count_154 : Pl vX12_count RX12 154 12 2 .int := ⟨RX12, TX12, 87, tyX12, rfl, by decide, (fun w h9 => List.mem_cons_of_mem _ (wC_wsX120 w h9)), (List.mem_cons_of_mem _ wT_13_17), tyX12_ok, nmX12, rfl, rfl⟩
theorem lf12_count_241 : Fl vX12_count RX12 241 12 12 := ⟨RX12, TX12, 87, rfl, by decide, (fun w h9 => List.mem_cons_of_mem _ (wC_wsX120 w h9)), (List.mem_cons_of_mem _ wT_12_10)⟩
theorem lf12_count_244 : Fl vX12_count RX12 244 12 13 := ⟨RX12, TX12, 87, rfl, by decide, (fun w h9 => List.mem_cons_of_mem _ (wC_wsX120 w h9)), (List.mem_cons_of_mem _ wT_12_11)⟩
theorem lf12_count_247 : Fl vX12_count RX12 247 12 14 := ⟨RX12, TX12, 87, rfl, by decide, (fun w h9 => List.mem_cons_of_mem _ (wC_wsX120 w h9)), (List.mem_cons_of_mem _ wT_12_12)⟩
theorem lf12_count_250 : Fl vX12_count RX12 250 12 15 := ⟨RX12, TX12, 87, rfl, by decide, (fun w h9 => List.mem_cons_of_mem _ (wC_wsX120 w h9)), (List.mem_cons_of_mem _ wT_12_13)⟩
theorem lf12_count_253 : Fl vX12_count RX12 253 12 16 := ⟨RX12, TX12, 87, rfl, by decide, (fun w h9 => List.mem_cons_of_mem _ (wC_wsX120 w h9)), (List.mem_cons_of_mem _ wT_12_14)⟩
theorem lf12_count_256 : Fl vX12_count RX12 256 12 17 := ⟨RX12, TX12, 87, rfl, by decide, (fun w h9 => List.mem_cons_of_mem _ (wC_wsX120 w h9)), (List.mem_cons_of_mem _ wT_12_15)⟩
theorem lf12_count_106 : Fl vX12_count RX12 106 12 61 := ⟨RX12, TX12, 87, rfl, by decide, (fun w h9 => List.mem_cons_of_mem _ (wC_wsX120 w h9)), (List.mem_cons_of_mem _ wT_11_4)⟩
theorem lf12_count_369 : Fl vX12_count RX12 369 12 64 := ⟨RX12, TX12, 87, rfl, by decide, (fun w h9 => List.mem_cons_of_mem _ (wC_wsX120 w h9)), (List.mem_cons_of_mem _ wT_12_23)⟩
theorem lf12_count_109 : Fl vX12_count RX12 109 12 62 := ⟨RX12, TX12, 87, rfl, by decide, (fun w h9 => List.mem_cons_of_mem _ (wC_wsX120 w h9)), (List.mem_cons_of_mem _ wT_11_5)⟩
theorem lf12_count_112 : Fl vX12_count RX12 112 12 63 := ⟨RX12, TX12, 87, rfl, by decide, (fun w h9 => List.mem_cons_of_mem _ (wC_wsX120 w h9)), (List.mem_cons_of_mem _ wT_11_6)⟩
theorem gX12_count_X12_firstToCome : GoodIn vX12_count (wsV RX12 506 RX12 yX12_firstToCome vX12_firstToCome) := gV_of wT_55_11 wT_55_12 wT_55_13 wT_1_5 wT_55_14
theorem lf12_count_376 : Fl vX12_count RX12 376 12 74 := ⟨RX12, TX12, 87, rfl, by decide, (fun w h9 => List.mem_cons_of_mem _ (wC_wsX120 w h9)), (List.mem_cons_of_mem _ wT_13_1)⟩
theorem gX12_count_X12_knownBy : GoodIn vX12_count (wsV RX12 527 RX12 yX12_knownBy vX12_knownBy) := gV_of wT_64_0 wT_64_1 wT_64_2 wT_1_5 wT_64_3
theorem lf12_count_379 : Fl vX12_count RX12 379 12 78 := ⟨RX12, TX12, 87, rfl, by decide, (fun w h9 => List.mem_cons_of_mem _ (wC_wsX120 w h9)), (List.mem_cons_of_mem _ wT_13_2)⟩
set_option maxHeartbeats 4000000 in
set_option maxRecDepth 100000 in
theorem T12_count_0 (S : CallFix p m c cX12_count 2 s args vX12_count RX12) (hr : meth.sig.returnType = (some .int)) (hlo : meth.locks = false) {out : Int32 × PH} {h : PH} {a0 : Nat} {x1 : Int32} (f : F12_count_0  h a0 x1 = some out) {H : Heap} {locs : List Loc} (I : ph_I D cy b A fl h s H locs) {ls : Array Slot} (hl : lv_has ls 2 [(0, .ref (b + a0)), (1, .int x1)]) : W p l e ({ frames := 1, cells := 0, slots := 0, locals := 21 } : Room) s m args below meth c H locs 0 0 (MQ below (va_Qi (fun (r : Int32) (u : PH) => (r, u) = out) (ph_B D cy b A fl) A) args s 0 0 A) (F0 m 0 ls []) := by
  unfold F12_count_0 at f
  refine lv_aload_n S.1 S.2.1 dX12_count_0 rfl (lv_at hl 0 rfl) ?_
  refine lv_iconst (v := 0) S.1 S.2.1 dX12_count_1 (by decide) ?_
  obtain ⟨h1, e2, f⟩ := ob f
  refine o_pI S lp12_count_154 I e2 dX12_count_2 (fun H locs I => ?_)
  refine lv_iload_n S.1 S.2.1 dX12_count_5 rfl (lv_at hl 1 rfl) ?_
  rcases Decidable.em (x1 = 0) with q3 | q3
  · have f := (if_pos q3).symm.trans f
    refine lv_tableIn (off := 70) (tgt := 76) S.1 S.2.1 dX12_count_6 (by rw [q3]; decide) (by rw [q3]; decide) (by rw [q3]; rfl) (by decide) ?_
    refine lv_aload_n S.1 S.2.1 dX12_count_76 rfl (lv_at hl 0 rfl) ?_
    obtain ⟨v4, e5, f⟩ := ob f
    refine o_gI S lf12_count_241 I e5 dX12_count_77 ?_
    exact o_iret S hr hlo I f dX12_count_80
  have f := (if_neg q3).symm.trans f
  rcases Decidable.em (x1 = 1) with q6 | q6
  · have f := (if_pos q6).symm.trans f
    refine lv_tableIn (off := 75) (tgt := 81) S.1 S.2.1 dX12_count_6 (by rw [q6]; decide) (by rw [q6]; decide) (by rw [q6]; rfl) (by decide) ?_
    refine lv_aload_n S.1 S.2.1 dX12_count_81 rfl (lv_at hl 0 rfl) ?_
    obtain ⟨v7, e8, f⟩ := ob f
    refine o_gI S lf12_count_244 I e8 dX12_count_82 ?_
    exact o_iret S hr hlo I f dX12_count_85
  have f := (if_neg q6).symm.trans f
  rcases Decidable.em (x1 = 2) with q9 | q9
  · have f := (if_pos q9).symm.trans f
    refine lv_tableIn (off := 80) (tgt := 86) S.1 S.2.1 dX12_count_6 (by rw [q9]; decide) (by rw [q9]; decide) (by rw [q9]; rfl) (by decide) ?_
    refine lv_aload_n S.1 S.2.1 dX12_count_86 rfl (lv_at hl 0 rfl) ?_
    obtain ⟨v10, e11, f⟩ := ob f
    refine o_gI S lf12_count_247 I e11 dX12_count_87 ?_
    exact o_iret S hr hlo I f dX12_count_90
  have f := (if_neg q9).symm.trans f
  rcases Decidable.em (x1 = 3) with q12 | q12
  · have f := (if_pos q12).symm.trans f
    refine lv_tableIn (off := 85) (tgt := 91) S.1 S.2.1 dX12_count_6 (by rw [q12]; decide) (by rw [q12]; decide) (by rw [q12]; rfl) (by decide) ?_
    refine lv_aload_n S.1 S.2.1 dX12_count_91 rfl (lv_at hl 0 rfl) ?_
    obtain ⟨v13, e14, f⟩ := ob f
    refine o_gI S lf12_count_250 I e14 dX12_count_92 ?_
    exact o_iret S hr hlo I f dX12_count_95
  have f := (if_neg q12).symm.trans f
  rcases Decidable.em (x1 = 4) with q15 | q15
  · have f := (if_pos q15).symm.trans f
    refine lv_tableIn (off := 90) (tgt := 96) S.1 S.2.1 dX12_count_6 (by rw [q15]; decide) (by rw [q15]; decide) (by rw [q15]; rfl) (by decide) ?_
    refine lv_aload_n S.1 S.2.1 dX12_count_96 rfl (lv_at hl 0 rfl) ?_
    obtain ⟨v16, e17, f⟩ := ob f
    refine o_gI S lf12_count_253 I e17 dX12_count_97 ?_
    exact o_iret S hr hlo I f dX12_count_100
  have f := (if_neg q15).symm.trans f
  rcases Decidable.em (x1 = 5) with q18 | q18
  · have f := (if_pos q18).symm.trans f
    refine lv_tableIn (off := 95) (tgt := 101) S.1 S.2.1 dX12_count_6 (by rw [q18]; decide) (by rw [q18]; decide) (by rw [q18]; rfl) (by decide) ?_
    refine lv_aload_n S.1 S.2.1 dX12_count_101 rfl (lv_at hl 0 rfl) ?_
    obtain ⟨v19, e20, f⟩ := ob f
    refine o_gI S lf12_count_256 I e20 dX12_count_102 ?_
    exact o_iret S hr hlo I f dX12_count_105
  have f := (if_neg q18).symm.trans f
  rcases Decidable.em (x1 = 6) with q21 | q21
  · have f := (if_pos q21).symm.trans f
    refine lv_tableIn (off := 100) (tgt := 106) S.1 S.2.1 dX12_count_6 (by rw [q21]; decide) (by rw [q21]; decide) (by rw [q21]; rfl) (by decide) ?_
    refine lv_aload_n S.1 S.2.1 dX12_count_106 rfl (lv_at hl 0 rfl) ?_
    obtain ⟨r22, e23, f⟩ := ob f
    refine o_gR S lf12_count_106 I e23 dX12_count_107 ?_
    refine lv_iconst (v := 0) S.1 S.2.1 dX12_count_110 (by decide) ?_
    obtain ⟨v25, e24, f⟩ := ob f
    refine o_iald S I e24 dX12_count_111 ?_
    exact o_iret S hr hlo I f dX12_count_112
  have f := (if_neg q21).symm.trans f
  rcases Decidable.em (x1 = 7) with q26 | q26
  · have f := (if_pos q26).symm.trans f
    refine lv_tableIn (off := 107) (tgt := 113) S.1 S.2.1 dX12_count_6 (by rw [q26]; decide) (by rw [q26]; decide) (by rw [q26]; rfl) (by decide) ?_
    refine lv_aload_n S.1 S.2.1 dX12_count_113 rfl (lv_at hl 0 rfl) ?_
    obtain ⟨v27, e28, f⟩ := ob f
    refine o_gI S lf12_count_369 I e28 dX12_count_114 ?_
    exact o_iret S hr hlo I f dX12_count_117
  have f := (if_neg q26).symm.trans f
  rcases Decidable.em (x1 = 8) with q29 | q29
  · have f := (if_pos q29).symm.trans f
    refine lv_tableIn (off := 112) (tgt := 118) S.1 S.2.1 dX12_count_6 (by rw [q29]; decide) (by rw [q29]; decide) (by rw [q29]; rfl) (by decide) ?_
    refine lv_aload_n S.1 S.2.1 dX12_count_118 rfl (lv_at hl 0 rfl) ?_
    obtain ⟨r30, e31, f⟩ := ob f
    refine o_gR S lf12_count_109 I e31 dX12_count_119 ?_
    refine lv_iconst (v := 0) S.1 S.2.1 dX12_count_122 (by decide) ?_
    obtain ⟨v33, e32, f⟩ := ob f
    refine o_iald S I e32 dX12_count_123 ?_
    exact o_iret S hr hlo I f dX12_count_124
  have f := (if_neg q29).symm.trans f
  rcases Decidable.em (x1 = 9) with q34 | q34
  · have f := (if_pos q34).symm.trans f
    refine lv_tableIn (off := 119) (tgt := 125) S.1 S.2.1 dX12_count_6 (by rw [q34]; decide) (by rw [q34]; decide) (by rw [q34]; rfl) (by decide) ?_
    refine lv_aload_n S.1 S.2.1 dX12_count_125 rfl (lv_at hl 0 rfl) ?_
    obtain ⟨r35, e36, f⟩ := ob f
    refine o_gR S lf12_count_112 I e36 dX12_count_126 ?_
    refine lv_iconst (v := 0) S.1 S.2.1 dX12_count_129 (by decide) ?_
    obtain ⟨v38, e37, f⟩ := ob f
    refine o_iald S I e37 dX12_count_130 ?_
    exact o_iret S hr hlo I f dX12_count_131
  have f := (if_neg q34).symm.trans f
  rcases Decidable.em (x1 = 10) with q39 | q39
  · have f := (if_pos q39).symm.trans f
    refine lv_tableIn (off := 126) (tgt := 132) S.1 S.2.1 dX12_count_6 (by rw [q39]; decide) (by rw [q39]; decide) (by rw [q39]; rfl) (by decide) ?_
    refine lv_aload_n S.1 S.2.1 dX12_count_132 rfl (lv_at hl 0 rfl) ?_
    obtain ⟨v40, e41, f⟩ := ob f
    refine o_gI S lf12_count_253 I e41 dX12_count_133 ?_
    refine lv_aload_n S.1 S.2.1 dX12_count_136 rfl (lv_at hl 0 rfl) ?_
    obtain ⟨o42, e43, f⟩ := ob f
    refine o_Vi S (As := []) (rest := [.int v40]) (ci := 12) (M12_firstToCome l D cy b A fl e43) gX12_count_X12_firstToCome rfl rfl rfl cd12_firstToCome ⟨Nat.le_of_ble_eq_true rfl, Nat.le_of_ble_eq_true rfl⟩ I (gd e43).1 clX12 rfl rfl hl.1 rfl (Nat.le_of_ble_eq_true rfl) dX12_count_137 ⟨Nat.le_of_ble_eq_true rfl, Nat.le_of_ble_eq_true rfl⟩ (fun H locs I => ?_)
    refine lv_isub S.1 S.2.1 dX12_count_140 ?_
    exact o_iret S hr hlo I f dX12_count_141
  have f := (if_neg q39).symm.trans f
  rcases Decidable.em (x1 = 11) with q44 | q44
  · have f := (if_pos q44).symm.trans f
    refine lv_tableIn (off := 136) (tgt := 142) S.1 S.2.1 dX12_count_6 (by rw [q44]; decide) (by rw [q44]; decide) (by rw [q44]; rfl) (by decide) ?_
    refine lv_aload_n S.1 S.2.1 dX12_count_142 rfl (lv_at hl 0 rfl) ?_
    obtain ⟨v45, e46, f⟩ := ob f
    refine o_gI S lf12_count_376 I e46 dX12_count_143 ?_
    exact o_iret S hr hlo I f dX12_count_146
  have f := (if_neg q44).symm.trans f
  rcases Decidable.em (x1 = 12) with q47 | q47
  · have f := (if_pos q47).symm.trans f
    refine lv_tableIn (off := 141) (tgt := 147) S.1 S.2.1 dX12_count_6 (by rw [q47]; decide) (by rw [q47]; decide) (by rw [q47]; rfl) (by decide) ?_
    refine lv_aload_n S.1 S.2.1 dX12_count_147 rfl (lv_at hl 0 rfl) ?_
    obtain ⟨o48, e49, f⟩ := ob f
    refine o_Vi S (As := []) (rest := []) (ci := 12) (M12_knownBy l D cy b A fl e49) gX12_count_X12_knownBy rfl rfl rfl cd12_knownBy ⟨Nat.le_of_ble_eq_true rfl, Nat.le_of_ble_eq_true rfl⟩ I (gd e49).1 clX12 rfl rfl hl.1 rfl (Nat.le_of_ble_eq_true rfl) dX12_count_148 ⟨Nat.le_of_ble_eq_true rfl, Nat.le_of_ble_eq_true rfl⟩ (fun H locs I => ?_)
    exact o_iret S hr hlo I f dX12_count_151
  have f := (if_neg q47).symm.trans f
  rcases Decidable.em (x1 = 13) with q50 | q50
  · have f := (if_pos q50).symm.trans f
    refine lv_tableIn (off := 146) (tgt := 152) S.1 S.2.1 dX12_count_6 (by rw [q50]; decide) (by rw [q50]; decide) (by rw [q50]; rfl) (by decide) ?_
    refine lv_aload_n S.1 S.2.1 dX12_count_152 rfl (lv_at hl 0 rfl) ?_
    obtain ⟨v51, e52, f⟩ := ob f
    refine o_gI S lf12_count_379 I e52 dX12_count_153 ?_
    exact o_iret S hr hlo I f dX12_count_156
  have f := (if_neg q50).symm.trans f
  refine lv_tableOut (tgt := 157) S.1 S.2.1 dX12_count_6 (by have := lv_neT q3 (a := 0) (by decide); have := lv_neT q6 (a := 1) (by decide); have := lv_neT q9 (a := 2) (by decide); have := lv_neT q12 (a := 3) (by decide); have := lv_neT q15 (a := 4) (by decide); have := lv_neT q18 (a := 5) (by decide); have := lv_neT q21 (a := 6) (by decide); have := lv_neT q26 (a := 7) (by decide); have := lv_neT q29 (a := 8) (by decide); have := lv_neT q34 (a := 9) (by decide); have := lv_neT q39 (a := 10) (by decide); have := lv_neT q44 (a := 11) (by decide); have := lv_neT q47 (a := 12) (by decide); have := lv_neT q50 (a := 13) (by decide); omega) (by decide) ?_
  refine lv_iconst (v := (-1)) S.1 S.2.1 dX12_count_157 (by decide) ?_
  exact o_iret S hr hlo I f dX12_count_158
theorem M12_count (l : Launch) (D : va_G) (cy : Nat → ClassId) (b : Nat) (A : Nat → Prop) (fl : Bool) {h : PH} {a0 : Nat} {x1 : Int32} {out : Int32 × PH} (f : F12_count h a0 x1 = some out) : Met l yX12_count vX12_count ({ frames := 1, cells := 0, slots := 0, locals := 21 } : Room) (va_Pc [.ref (b + a0), .int x1] (ph_B D cy b A fl h)) (va_Qi (fun (r : Int32) (u : PH) => (r, u) = out) (ph_B D cy b A fl) A) 0 0 A :=
  o_met (by decide) rfl (Nat.le_of_ble_eq_true rfl) rfl (fun p e s m below meth c S hr hlo hnm ls hl I => T12_count_0 S hr hlo ((gd f).2) I (lv_sub hl [0, 1] rfl))
def vX12_deeper : List Cond := .code yX12_deeper cX12_deeper 6 (some .int) :: TB
theorem lp12_deeper_154 : Pl vX12_deeper RX12 154 12 2 .int := ⟨RX12, TX12, 87, tyX12, rfl, by decide, (fun w h9 => List.mem_cons_of_mem _ (wC_wsX120 w h9)), (List.mem_cons_of_mem _ wT_13_17), tyX12_ok, nmX12, rfl, rfl⟩
theorem gX12_deeper_X12_isSurfer : GoodIn vX12_deeper (wsV RX12 413 RX12 yX12_isSurfer vX12_isSurfer) := gV_of wT_34_14 wT_34_15 wT_34_16 wT_1_5 wT_34_17
theorem lf12_deeper_106 : Fl vX12_deeper RX12 106 12 61 := ⟨RX12, TX12, 87, rfl, by decide, (fun w h9 => List.mem_cons_of_mem _ (wC_wsX120 w h9)), (List.mem_cons_of_mem _ wT_11_4)⟩
theorem gX12_deeper_X12_peakAt : GoodIn vX12_deeper (wsV RX12 400 RX12 yX12_peakAt vX12_peakAt) := gV_of wT_34_22 wT_34_23 wT_35_0 wT_1_5 wT_35_1
theorem lf12_deeper_88 : Fl vX12_deeper RX12 88 12 55 := ⟨RX12, TX12, 87, rfl, by decide, (fun w h9 => List.mem_cons_of_mem _ (wC_wsX120 w h9)), (List.mem_cons_of_mem _ wT_10_22)⟩
theorem gX12_deeper_X12_far : GoodIn vX12_deeper (wsV RX12 403 RX12 yX12_far vX12_far) := gV_of wT_36_8 wT_36_9 wT_36_10 wT_1_5 wT_36_11
set_option maxHeartbeats 4000000 in
set_option maxRecDepth 100000 in
theorem T12_deeper_0 (S : CallFix p m c cX12_deeper 6 s args vX12_deeper RX12) (hr : meth.sig.returnType = (some .int)) (hlo : meth.locks = false) {out : Int32 × PH} {h : PH} {a0 : Nat} {x1 : Int32} {x2 : Int32} (f : F12_deeper_0  h a0 x1 x2 = some out) {H : Heap} {locs : List Loc} (I : ph_I D cy b A fl h s H locs) {ls : Array Slot} (hl : lv_has ls 6 [(0, .ref (b + a0)), (1, .int x1), (2, .int x2)]) : W p l e ({ frames := 5, cells := 0, slots := 0, locals := 120 } : Room) s m args below meth c H locs 0 0 (MQ below (va_Qi (fun (r : Int32) (u : PH) => (r, u) = out) (ph_B D cy b A fl) A) args s 0 0 A) (F0 m 0 ls []) := by
  unfold F12_deeper_0 at f
  refine lv_aload_n S.1 S.2.1 dX12_deeper_0 rfl (lv_at hl 0 rfl) ?_
  refine lv_iconst (v := 0) S.1 S.2.1 dX12_deeper_1 (by decide) ?_
  obtain ⟨h1, e2, f⟩ := ob f
  refine o_pI S lp12_deeper_154 I e2 dX12_deeper_2 (fun H locs I => ?_)
  refine lv_aload_n S.1 S.2.1 dX12_deeper_5 rfl (lv_at hl 0 rfl) ?_
  refine lv_iload_n S.1 S.2.1 dX12_deeper_6 rfl (lv_at hl 1 rfl) ?_
  obtain ⟨o3, e4, f⟩ := ob f
  refine o_Vi S (As := [.int x1]) (rest := []) (ci := 12) (M12_isSurfer l D cy b A fl e4) gX12_deeper_X12_isSurfer rfl rfl rfl cd12_isSurfer ⟨Nat.le_of_ble_eq_true rfl, Nat.le_of_ble_eq_true rfl⟩ I (gd e4).1 clX12 rfl rfl hl.1 rfl (Nat.le_of_ble_eq_true rfl) dX12_deeper_7 ⟨Nat.le_of_ble_eq_true rfl, Nat.le_of_ble_eq_true rfl⟩ (fun H locs I => ?_)
  refine lv_if_eq (tgt := 21) S.1 S.2.1 dX12_deeper_10 (by decide) (fun q5 => ?_) (fun q5 => ?_)
  · have f := (if_pos q5).symm.trans f
    refine lv_iconst (v := (-1)) S.1 S.2.1 dX12_deeper_21 (by decide) ?_
    exact o_iret S hr hlo I f dX12_deeper_22
  · have f := (if_neg q5).symm.trans f
    refine lv_aload_n S.1 S.2.1 dX12_deeper_13 rfl (lv_at hl 0 rfl) ?_
    refine lv_iload_n S.1 S.2.1 dX12_deeper_14 rfl (lv_at hl 2 rfl) ?_
    obtain ⟨o6, e7, f⟩ := ob f
    refine o_Vi S (As := [.int x2]) (rest := []) (ci := 12) (M12_isSurfer l D cy b A fl e7) gX12_deeper_X12_isSurfer rfl rfl rfl cd12_isSurfer ⟨Nat.le_of_ble_eq_true rfl, Nat.le_of_ble_eq_true rfl⟩ I (gd e7).1 clX12 rfl rfl hl.1 rfl (Nat.le_of_ble_eq_true rfl) dX12_deeper_15 ⟨Nat.le_of_ble_eq_true rfl, Nat.le_of_ble_eq_true rfl⟩ (fun H locs I => ?_)
    refine lv_if_ne (tgt := 23) S.1 S.2.1 dX12_deeper_18 (by decide) (fun q8 => ?_) (fun q8 => ?_)
    · have f := (if_neg q8).symm.trans f
      refine lv_aload_n S.1 S.2.1 dX12_deeper_23 rfl (lv_at hl 0 rfl) ?_
      refine lv_aload_n S.1 S.2.1 dX12_deeper_24 rfl (lv_at hl 0 rfl) ?_
      obtain ⟨r9, e10, f⟩ := ob f
      refine o_gR S lf12_deeper_106 I e10 dX12_deeper_25 ?_
      refine lv_iconst (v := 0) S.1 S.2.1 dX12_deeper_28 (by decide) ?_
      obtain ⟨v12, e11, f⟩ := ob f
      refine o_iald S I e11 dX12_deeper_29 ?_
      obtain ⟨o13, e14, f⟩ := ob f
      refine o_Vi S (As := [.int v12]) (rest := []) (ci := 12) (M12_peakAt l D cy b A fl e14) gX12_deeper_X12_peakAt rfl rfl rfl cd12_peakAt ⟨Nat.le_of_ble_eq_true rfl, Nat.le_of_ble_eq_true rfl⟩ I (gd e14).1 clX12 rfl rfl hl.1 rfl (Nat.le_of_ble_eq_true rfl) dX12_deeper_30 ⟨Nat.le_of_ble_eq_true rfl, Nat.le_of_ble_eq_true rfl⟩ (fun H locs I => ?_)
      refine lv_istore_n (lv' := [(3, .int o13.1), (0, .ref (b + a0)), (1, .int x1), (2, .int x2)]) S.1 S.2.1 dX12_deeper_33 rfl hl (by decide) rfl (fun ls hl => ?_)
      refine lv_aload_n S.1 S.2.1 dX12_deeper_34 rfl (lv_at hl 1 rfl) ?_
      refine lv_aload_n S.1 S.2.1 dX12_deeper_35 rfl (lv_at hl 1 rfl) ?_
      obtain ⟨r15, e16, f⟩ := ob f
      refine o_gR S lf12_deeper_88 I e16 dX12_deeper_36 ?_
      refine lv_iload_n S.1 S.2.1 dX12_deeper_39 rfl (lv_at hl 2 rfl) ?_
      obtain ⟨v18, e17, f⟩ := ob f
      refine o_iald S I e17 dX12_deeper_40 ?_
      refine lv_iload_n S.1 S.2.1 dX12_deeper_41 rfl (lv_at hl 0 rfl) ?_
      obtain ⟨o19, e20, f⟩ := ob f
      refine o_Vi S (As := [.int v18, .int o13.1]) (rest := []) (ci := 12) (M12_far l D cy b A fl e20) gX12_deeper_X12_far rfl rfl rfl cd12_far ⟨Nat.le_of_ble_eq_true rfl, Nat.le_of_ble_eq_true rfl⟩ I (gd e20).1 clX12 rfl rfl hl.1 rfl (Nat.le_of_ble_eq_true rfl) dX12_deeper_42 ⟨Nat.le_of_ble_eq_true rfl, Nat.le_of_ble_eq_true rfl⟩ (fun H locs I => ?_)
      refine lv_istore (lv' := [(4, .int o19.1), (3, .int o13.1), (0, .ref (b + a0)), (1, .int x1), (2, .int x2)]) S.1 S.2.1 dX12_deeper_45 hl (by decide) rfl (fun ls hl => ?_)
      refine lv_aload_n S.1 S.2.1 dX12_deeper_47 rfl (lv_at hl 2 rfl) ?_
      refine lv_aload_n S.1 S.2.1 dX12_deeper_48 rfl (lv_at hl 2 rfl) ?_
      obtain ⟨r21, e22, f⟩ := ob f
      refine o_gR S lf12_deeper_88 I e22 dX12_deeper_49 ?_
      refine lv_iload_n S.1 S.2.1 dX12_deeper_52 rfl (lv_at hl 4 rfl) ?_
      obtain ⟨v24, e23, f⟩ := ob f
      refine o_iald S I e23 dX12_deeper_53 ?_
      refine lv_iload_n S.1 S.2.1 dX12_deeper_54 rfl (lv_at hl 1 rfl) ?_
      obtain ⟨o25, e26, f⟩ := ob f
      refine o_Vi S (As := [.int v24, .int o13.1]) (rest := []) (ci := 12) (M12_far l D cy b A fl e26) gX12_deeper_X12_far rfl rfl rfl cd12_far ⟨Nat.le_of_ble_eq_true rfl, Nat.le_of_ble_eq_true rfl⟩ I (gd e26).1 clX12 rfl rfl hl.1 rfl (Nat.le_of_ble_eq_true rfl) dX12_deeper_55 ⟨Nat.le_of_ble_eq_true rfl, Nat.le_of_ble_eq_true rfl⟩ (fun H locs I => ?_)
      refine lv_istore (lv' := [(5, .int o25.1), (4, .int o19.1), (3, .int o13.1), (0, .ref (b + a0)), (1, .int x1), (2, .int x2)]) S.1 S.2.1 dX12_deeper_58 hl (by decide) rfl (fun ls hl => ?_)
      refine lv_iload S.1 S.2.1 dX12_deeper_60 (lv_at hl 1 rfl) ?_
      refine lv_iload S.1 S.2.1 dX12_deeper_62 (lv_at hl 0 rfl) ?_
      refine lv_icmp_ge (tgt := 71) S.1 S.2.1 dX12_deeper_64 (by decide) (fun q27 => ?_) (fun q27 => ?_)
      · have f := (if_pos q27).symm.trans f
        refine lv_iload S.1 S.2.1 dX12_deeper_71 (lv_at hl 0 rfl) ?_
        refine lv_iload S.1 S.2.1 dX12_deeper_73 (lv_at hl 1 rfl) ?_
        refine lv_icmp_ge (tgt := 82) S.1 S.2.1 dX12_deeper_75 (by decide) (fun q28 => ?_) (fun q28 => ?_)
        · have f := (if_pos q28).symm.trans f
          refine lv_iconst (v := 0) S.1 S.2.1 dX12_deeper_82 (by decide) ?_
          exact o_iret S hr hlo I f dX12_deeper_83
        · have f := (if_neg q28).symm.trans f
          refine lv_iconst (v := 2) S.1 S.2.1 dX12_deeper_78 (by decide) ?_
          refine lv_goto (tgt := 83) S.1 S.2.1 dX12_deeper_79 (by decide) ?_
          exact o_iret S hr hlo I f dX12_deeper_83
      · have f := (if_neg q27).symm.trans f
        refine lv_iconst (v := 1) S.1 S.2.1 dX12_deeper_67 (by decide) ?_
        refine lv_goto (tgt := 83) S.1 S.2.1 dX12_deeper_68 (by decide) ?_
        exact o_iret S hr hlo I f dX12_deeper_83
    · have f := (if_pos q8).symm.trans f
      refine lv_iconst (v := (-1)) S.1 S.2.1 dX12_deeper_21 (by decide) ?_
      exact o_iret S hr hlo I f dX12_deeper_22
theorem M12_deeper (l : Launch) (D : va_G) (cy : Nat → ClassId) (b : Nat) (A : Nat → Prop) (fl : Bool) {h : PH} {a0 : Nat} {x1 : Int32} {x2 : Int32} {out : Int32 × PH} (f : F12_deeper h a0 x1 x2 = some out) : Met l yX12_deeper vX12_deeper ({ frames := 5, cells := 0, slots := 0, locals := 120 } : Room) (va_Pc [.ref (b + a0), .int x1, .int x2] (ph_B D cy b A fl h)) (va_Qi (fun (r : Int32) (u : PH) => (r, u) = out) (ph_B D cy b A fl) A) 0 0 A :=
  o_met (by decide) rfl (Nat.le_of_ble_eq_true rfl) rfl (fun p e s m below meth c S hr hlo hnm ls hl I => T12_deeper_0 S hr hlo ((gd f).2) I (lv_sub hl [0, 1, 2] rfl))
def vX12_fails : List Cond := .code yX12_fails cX12_fails 2 (some .int) :: TB
theorem lp12_fails_154 : Pl vX12_fails RX12 154 12 2 .int := ⟨RX12, TX12, 87, tyX12, rfl, by decide, (fun w h9 => List.mem_cons_of_mem _ (wC_wsX120 w h9)), (List.mem_cons_of_mem _ wT_13_17), tyX12_ok, nmX12, rfl, rfl⟩
theorem cd12_fails : Cd yX12_fails 1 := ⟨by decide, by decide, by decide +kernel⟩
set_option maxHeartbeats 4000000 in
set_option maxRecDepth 100000 in
theorem T12_fails_0 (S : CallFix p m c cX12_fails 2 s args vX12_fails RX12) (hr : meth.sig.returnType = (some .int)) (hlo : meth.locks = false) {out : Int32 × PH} {h : PH} {a0 : Nat} {x1 : Int32} (f : F12_fails_0  h a0 x1 = some out) {H : Heap} {locs : List Loc} (I : ph_I D cy b A fl h s H locs) {ls : Array Slot} (hl : lv_has ls 2 [(0, .ref (b + a0)), (1, .int x1)]) : W p l e ({ frames := 0, cells := 0, slots := 0, locals := 0 } : Room) s m args below meth c H locs 0 0 (MQ below (va_Qi (fun (r : Int32) (u : PH) => (r, u) = out) (ph_B D cy b A fl) A) args s 0 0 A) (F0 m 0 ls []) := by
  unfold F12_fails_0 at f
  refine lv_aload_n S.1 S.2.1 dX12_fails_0 rfl (lv_at hl 0 rfl) ?_
  refine lv_iload_n S.1 S.2.1 dX12_fails_1 rfl (lv_at hl 1 rfl) ?_
  obtain ⟨h1, e2, f⟩ := ob f
  refine o_pI S lp12_fails_154 I e2 dX12_fails_2 (fun H locs I => ?_)
  refine lv_iconst (v := 0) S.1 S.2.1 dX12_fails_5 (by decide) ?_
  exact o_iret S hr hlo I f dX12_fails_6
theorem M12_fails (l : Launch) (D : va_G) (cy : Nat → ClassId) (b : Nat) (A : Nat → Prop) (fl : Bool) {h : PH} {a0 : Nat} {x1 : Int32} {out : Int32 × PH} (f : F12_fails h a0 x1 = some out) : Met l yX12_fails vX12_fails ({ frames := 0, cells := 0, slots := 0, locals := 0 } : Room) (va_Pc [.ref (b + a0), .int x1] (ph_B D cy b A fl h)) (va_Qi (fun (r : Int32) (u : PH) => (r, u) = out) (ph_B D cy b A fl) A) 0 0 A :=
  o_met (by decide) rfl (Nat.le_of_ble_eq_true rfl) rfl (fun p e s m below meth c S hr hlo hnm ls hl I => T12_fails_0 S hr hlo ((gd f).2) I (lv_sub hl [0, 1] rfl))
def vX12_run : List Cond := .code yX12_run cX12_run 5 none :: TB
theorem lf12_run_372 : Fl vX12_run RX12 372 12 65 := ⟨RX12, TX12, 87, rfl, by decide, (fun w h9 => List.mem_cons_of_mem _ (wC_wsX120 w h9)), (List.mem_cons_of_mem _ wT_13_0)⟩
theorem lp12_run_372 : Pl vX12_run RX12 372 12 65 .long := ⟨RX12, TX12, 87, tyX12, rfl, by decide, (fun w h9 => List.mem_cons_of_mem _ (wC_wsX120 w h9)), (List.mem_cons_of_mem _ wT_13_0), tyX12_ok, nmX12, rfl, rfl⟩
theorem gX12_run_X12_layTried : GoodIn vX12_run (wsV RX12 509 RX12 yX12_layTried vX12_layTried) := gV_of wT_58_9 wT_58_10 wT_58_11 wT_1_5 wT_58_12
theorem gX12_run_X12_goesOn : GoodIn vX12_run (wsV RX12 512 RX12 yX12_goesOn vX12_goesOn) := gV_of wT_58_13 wT_58_14 wT_58_15 wT_1_5 wT_58_16
theorem cd12_run : Cd yX12_run 2 := ⟨by decide, by decide, by decide +kernel⟩
set_option maxHeartbeats 4000000 in
set_option maxRecDepth 100000 in
theorem T12_run_0 (S : CallFix p m c cX12_run 5 s args vX12_run RX12) (hr : meth.sig.returnType = none) (hlo : meth.locks = false) {out : PH} {h : PH} {a0 : Nat} {x1 : Int32} {x2 : Int32} (f : F12_run_0  h a0 x1 x2 = some out) {H : Heap} {locs : List Loc} (I : ph_I D cy b A fl h s H locs) {ls : Array Slot} (hl : lv_has ls 5 [(0, .ref (b + a0)), (1, .int x1), (2, .int x2)]) : W p l e ({ frames := 12, cells := 0, slots := 0, locals := 289 } : Room) s m args below meth c H locs 0 0 (MQ below (va_Qv (fun (u : PH) => u = out) (ph_B D cy b A fl) A) args s 0 0 A) (F0 m 0 ls []) := by
  unfold F12_run_0 at f
  refine lv_aload_n S.1 S.2.1 dX12_run_0 rfl (lv_at hl 0 rfl) ?_
  obtain ⟨w1, e2, f⟩ := ob f
  refine o_gJ S lf12_run_372 I e2 dX12_run_1 ?_
  refine lv_lstore_n (lv' := [(3, .long w1), (0, .ref (b + a0)), (1, .int x1), (2, .int x2)]) S.1 S.2.1 dX12_run_4 rfl hl (by decide) rfl (fun ls hl => ?_)
  refine lv_aload_n S.1 S.2.1 dX12_run_5 rfl (lv_at hl 1 rfl) ?_
  refine lv_iload_n S.1 S.2.1 dX12_run_6 rfl (lv_at hl 3 rfl) ?_
  refine lv_i2l (v := Int32.toInt64 x2) S.1 S.2.1 dX12_run_7 rfl ?_
  obtain ⟨h3, e4, f⟩ := ob f
  refine o_pJ S lp12_run_372 I e4 dX12_run_8 (fun H locs I => ?_)
  refine lv_aload_n S.1 S.2.1 dX12_run_11 rfl (lv_at hl 1 rfl) ?_
  obtain ⟨o5, e6, f⟩ := ob f
  refine o_Vv S (As := []) (rest := []) (ci := 12) (M12_layTried l D cy b A fl e6) gX12_run_X12_layTried rfl rfl rfl cd12_layTried ⟨Nat.le_of_ble_eq_true rfl, Nat.le_of_ble_eq_true rfl⟩ I (gd e6).1 clX12 rfl rfl hl.1 rfl (Nat.le_of_ble_eq_true rfl) dX12_run_12 ⟨Nat.le_of_ble_eq_true rfl, Nat.le_of_ble_eq_true rfl⟩ (fun H locs I => ?_)
  refine lv_aload_n S.1 S.2.1 dX12_run_15 rfl (lv_at hl 1 rfl) ?_
  refine lv_iload_n S.1 S.2.1 dX12_run_16 rfl (lv_at hl 2 rfl) ?_
  obtain ⟨o7, e8, f⟩ := ob f
  refine o_Vv S (As := [.int x1]) (rest := []) (ci := 12) (M12_goesOn l D cy b A fl e8) gX12_run_X12_goesOn rfl rfl rfl cd12_goesOn ⟨Nat.le_of_ble_eq_true rfl, Nat.le_of_ble_eq_true rfl⟩ I (gd e8).1 clX12 rfl rfl hl.1 rfl (Nat.le_of_ble_eq_true rfl) dX12_run_17 ⟨Nat.le_of_ble_eq_true rfl, Nat.le_of_ble_eq_true rfl⟩ (fun H locs I => ?_)
  refine lv_aload_n S.1 S.2.1 dX12_run_20 rfl (lv_at hl 1 rfl) ?_
  refine lv_lload_n S.1 S.2.1 dX12_run_21 rfl (lv_at hl 0 rfl) ?_
  obtain ⟨h9, e10, f⟩ := ob f
  refine o_pJ S lp12_run_372 I e10 dX12_run_22 (fun H locs I => ?_)
  exact o_vret S hr hlo I f dX12_run_25
theorem M12_run (l : Launch) (D : va_G) (cy : Nat → ClassId) (b : Nat) (A : Nat → Prop) (fl : Bool) {h : PH} {a0 : Nat} {x1 : Int32} {x2 : Int32} {out : PH} (f : F12_run h a0 x1 x2 = some out) : Met l yX12_run vX12_run ({ frames := 12, cells := 0, slots := 0, locals := 289 } : Room) (va_Pc [.ref (b + a0), .int x1, .int x2] (ph_B D cy b A fl h)) (va_Qv (fun (u : PH) => u = out) (ph_B D cy b A fl) A) 0 0 A :=
  o_met (by decide) rfl (Nat.le_of_ble_eq_true rfl) rfl (fun p e s m below meth c S hr hlo hnm ls hl I => T12_run_0 S hr hlo ((gd f).2) I (lv_sub hl [0, 1, 2] rfl))
def vX12_unlike : List Cond := .code yX12_unlike cX12_unlike 5 (some .int) :: TB
theorem lf12_unlike_91 : Fl vX12_unlike RX12 91 12 56 := ⟨RX12, TX12, 87, rfl, by decide, (fun w h9 => List.mem_cons_of_mem _ (wC_wsX120 w h9)), (List.mem_cons_of_mem _ wT_10_23)⟩
theorem lf12_unlike_247 : Fl vX12_unlike RX12 247 12 14 := ⟨RX12, TX12, 87, rfl, by decide, (fun w h9 => List.mem_cons_of_mem _ (wC_wsX120 w h9)), (List.mem_cons_of_mem _ wT_12_12)⟩
theorem cd12_unlike : Cd yX12_unlike 1 := ⟨by decide, by decide, by decide +kernel⟩
set_option maxHeartbeats 4000000 in
set_option maxRecDepth 100000 in
theorem T12_unlike_47 (S : CallFix p m c cX12_unlike 5 s args vX12_unlike RX12) (hr : meth.sig.returnType = (some .int)) (hlo : meth.locks = false) {out : Int32 × PH} {k8 : PH → Nat → Int32 → Int32 → Int32 → Int32 → Option (Int32 × PH)} (hk8 : ∀ {h : PH} {a0 : Nat} {x1 : Int32} {x2 : Int32} {x3 : Int32} {x4 : Int32}, k8 h a0 x1 x2 x3 x4 = some out → ∀ (H : Heap) (locs : List Loc), ph_I D cy b A fl h s H locs → ∀ (ls : Array Slot), lv_has ls 5 [(0, .ref (b + a0)), (1, .int x1), (2, .int x2), (3, .int x3), (4, .int x4)] → W p l e ({ frames := 0, cells := 0, slots := 0, locals := 0 } : Room) s m args below meth c H locs 0 0 (MQ below (va_Qi (fun (r : Int32) (u : PH) => (r, u) = out) (ph_B D cy b A fl) A) args s 0 0 A) (F0 m 8 ls [])) {h : PH} {a0 : Nat} {x1 : Int32} {x3 : Int32} {x4 : Int32} {s0 : Int32} (f : F12_unlike_47 k8 h a0 x1 x3 x4 s0 = some out) {H : Heap} {locs : List Loc} (I : ph_I D cy b A fl h s H locs) {ls : Array Slot} (hl : lv_has ls 5 [(0, .ref (b + a0)), (1, .int x1), (3, .int x3), (4, .int x4)]) : W p l e ({ frames := 0, cells := 0, slots := 0, locals := 0 } : Room) s m args below meth c H locs 0 0 (MQ below (va_Qi (fun (r : Int32) (u : PH) => (r, u) = out) (ph_B D cy b A fl) A) args s 0 0 A) (F0 m 47 ls [.int s0]) := by
  unfold F12_unlike_47 at f
  refine lv_istore_n (lv' := [(2, .int s0), (0, .ref (b + a0)), (1, .int x1), (3, .int x3), (4, .int x4)]) S.1 S.2.1 dX12_unlike_47 rfl hl (by decide) rfl (fun ls hl => ?_)
  refine lv_aload_n S.1 S.2.1 dX12_unlike_48 rfl (lv_at hl 1 rfl) ?_
  obtain ⟨r1, e2, f⟩ := ob f
  refine o_gR S lf12_unlike_91 I e2 dX12_unlike_49 ?_
  refine lv_iconst (v := 5) S.1 S.2.1 dX12_unlike_52 (by decide) ?_
  refine lv_iload_n S.1 S.2.1 dX12_unlike_53 rfl (lv_at hl 2 rfl) ?_
  refine lv_imul S.1 S.2.1 dX12_unlike_54 ?_
  refine lv_iload S.1 S.2.1 dX12_unlike_55 (lv_at hl 4 rfl) ?_
  refine lv_iadd S.1 S.2.1 dX12_unlike_57 ?_
  obtain ⟨v4, e3, f⟩ := ob f
  refine o_iald S I e3 dX12_unlike_58 ?_
  refine lv_iload_n S.1 S.2.1 dX12_unlike_59 rfl (lv_at hl 3 rfl) ?_
  refine lv_icmp_ge (tgt := 77) S.1 S.2.1 dX12_unlike_60 (by decide) (fun q5 => ?_) (fun q5 => ?_)
  · have f := (if_pos q5).symm.trans f
    refine lv_iload_n S.1 S.2.1 dX12_unlike_77 rfl (lv_at hl 3 rfl) ?_
    refine lv_istore_n (lv' := [(3, .int x3), (2, .int s0), (0, .ref (b + a0)), (1, .int x1), (4, .int x4)]) S.1 S.2.1 dX12_unlike_78 rfl hl (by decide) rfl (fun ls hl => ?_)
    refine lv_iinc (v := (x4 + 1)) (lv' := [(4, .int (x4 + 1)), (3, .int x3), (2, .int s0), (0, .ref (b + a0)), (1, .int x1)]) S.1 S.2.1 dX12_unlike_79 hl (k := 4) rfl (congrArg (fun z => x4 + z) (by decide)) (by decide) rfl (fun ls hl => ?_)
    refine lv_goto (tgt := 8) S.1 S.2.1 dX12_unlike_82 (by decide) ?_
    exact hk8 f _ _ I _ (lv_sub hl [3, 4, 2, 1, 0] rfl)
  · have f := (if_neg q5).symm.trans f
    refine lv_aload_n S.1 S.2.1 dX12_unlike_63 rfl (lv_at hl 1 rfl) ?_
    obtain ⟨r6, e7, f⟩ := ob f
    refine o_gR S lf12_unlike_91 I e7 dX12_unlike_64 ?_
    refine lv_iconst (v := 5) S.1 S.2.1 dX12_unlike_67 (by decide) ?_
    refine lv_iload_n S.1 S.2.1 dX12_unlike_68 rfl (lv_at hl 2 rfl) ?_
    refine lv_imul S.1 S.2.1 dX12_unlike_69 ?_
    refine lv_iload S.1 S.2.1 dX12_unlike_70 (lv_at hl 4 rfl) ?_
    refine lv_iadd S.1 S.2.1 dX12_unlike_72 ?_
    obtain ⟨v9, e8, f⟩ := ob f
    refine o_iald S I e8 dX12_unlike_73 ?_
    refine lv_goto (tgt := 78) S.1 S.2.1 dX12_unlike_74 (by decide) ?_
    refine lv_istore_n (lv' := [(3, .int v9), (2, .int s0), (0, .ref (b + a0)), (1, .int x1), (4, .int x4)]) S.1 S.2.1 dX12_unlike_78 rfl hl (by decide) rfl (fun ls hl => ?_)
    refine lv_iinc (v := (x4 + 1)) (lv' := [(4, .int (x4 + 1)), (3, .int v9), (2, .int s0), (0, .ref (b + a0)), (1, .int x1)]) S.1 S.2.1 dX12_unlike_79 hl (k := 4) rfl (congrArg (fun z => x4 + z) (by decide)) (by decide) rfl (fun ls hl => ?_)
    refine lv_goto (tgt := 8) S.1 S.2.1 dX12_unlike_82 (by decide) ?_
    exact hk8 f _ _ I _ (lv_sub hl [3, 4, 2, 1, 0] rfl)
set_option maxHeartbeats 4000000 in
set_option maxRecDepth 100000 in
theorem T12_unlike_8 (S : CallFix p m c cX12_unlike 5 s args vX12_unlike RX12) (hr : meth.sig.returnType = (some .int)) (hlo : meth.locks = false) {out : Int32 × PH} : ∀ (n : Nat) {h : PH} {a0 : Nat} {x1 : Int32} {x2 : Int32} {x3 : Int32} {x4 : Int32} (f : F12_unlike_8  n h a0 x1 x2 x3 x4 = some out) {H : Heap} {locs : List Loc} (I : ph_I D cy b A fl h s H locs) {ls : Array Slot} (hl : lv_has ls 5 [(0, .ref (b + a0)), (1, .int x1), (2, .int x2), (3, .int x3), (4, .int x4)]), W p l e ({ frames := 0, cells := 0, slots := 0, locals := 0 } : Room) s m args below meth c H locs 0 0 (MQ below (va_Qi (fun (r : Int32) (u : PH) => (r, u) = out) (ph_B D cy b A fl) A) args s 0 0 A) (F0 m 8 ls []) := by
  intro n
  induction n with
  | zero => intro h a0 x1 x2 x3 x4 f; rw [F12_unlike_8] at f; cases f
  | succ n ih =>
    intro h a0 x1 x2 x3 x4 f H locs I ls hl
    rw [F12_unlike_8] at f
    refine lv_iload S.1 S.2.1 dX12_unlike_8 (lv_at hl 4 rfl) ?_
    refine lv_aload_n S.1 S.2.1 dX12_unlike_10 rfl (lv_at hl 0 rfl) ?_
    obtain ⟨v1, e2, f⟩ := ob f
    refine o_gI S lf12_unlike_247 I e2 dX12_unlike_11 ?_
    refine lv_icmp_ge (tgt := 85) S.1 S.2.1 dX12_unlike_14 (by decide) (fun q3 => ?_) (fun q3 => ?_)
    · have f := (if_pos q3).symm.trans f
      refine lv_aload_n S.1 S.2.1 dX12_unlike_85 rfl (lv_at hl 0 rfl) ?_
      obtain ⟨v4, e5, f⟩ := ob f
      refine o_gI S lf12_unlike_247 I e5 dX12_unlike_86 ?_
      refine lv_if_ne (tgt := 96) S.1 S.2.1 dX12_unlike_89 (by decide) (fun q6 => ?_) (fun q6 => ?_)
      · have f := (if_neg q6).symm.trans f
        refine lv_iload_n S.1 S.2.1 dX12_unlike_96 rfl (lv_at hl 2 rfl) ?_
        refine lv_iload_n S.1 S.2.1 dX12_unlike_97 rfl (lv_at hl 3 rfl) ?_
        refine lv_isub S.1 S.2.1 dX12_unlike_98 ?_
        exact o_iret S hr hlo I f dX12_unlike_99
      · have f := (if_pos q6).symm.trans f
        refine lv_iconst (v := 0) S.1 S.2.1 dX12_unlike_92 (by decide) ?_
        refine lv_goto (tgt := 99) S.1 S.2.1 dX12_unlike_93 (by decide) ?_
        exact o_iret S hr hlo I f dX12_unlike_99
    · have f := (if_neg q3).symm.trans f
      refine lv_aload_n S.1 S.2.1 dX12_unlike_17 rfl (lv_at hl 0 rfl) ?_
      obtain ⟨r7, e8, f⟩ := ob f
      refine o_gR S lf12_unlike_91 I e8 dX12_unlike_18 ?_
      refine lv_iconst (v := 5) S.1 S.2.1 dX12_unlike_21 (by decide) ?_
      refine lv_iload_n S.1 S.2.1 dX12_unlike_22 rfl (lv_at hl 1 rfl) ?_
      refine lv_imul S.1 S.2.1 dX12_unlike_23 ?_
      refine lv_iload S.1 S.2.1 dX12_unlike_24 (lv_at hl 4 rfl) ?_
      refine lv_iadd S.1 S.2.1 dX12_unlike_26 ?_
      obtain ⟨v10, e9, f⟩ := ob f
      refine o_iald S I e9 dX12_unlike_27 ?_
      refine lv_iload_n S.1 S.2.1 dX12_unlike_28 rfl (lv_at hl 2 rfl) ?_
      refine lv_icmp_le (tgt := 46) S.1 S.2.1 dX12_unlike_29 (by decide) (fun q11 => ?_) (fun q11 => ?_)
      · have f := (if_pos q11).symm.trans f
        refine lv_iload_n S.1 S.2.1 dX12_unlike_46 rfl (lv_at hl 2 rfl) ?_
        exact T12_unlike_47 S hr hlo (fun f _ _ I _ hl => ih f I hl) f I (lv_sub hl [0, 1, 3, 4] rfl)
      · have f := (if_neg q11).symm.trans f
        refine lv_aload_n S.1 S.2.1 dX12_unlike_32 rfl (lv_at hl 0 rfl) ?_
        obtain ⟨r12, e13, f⟩ := ob f
        refine o_gR S lf12_unlike_91 I e13 dX12_unlike_33 ?_
        refine lv_iconst (v := 5) S.1 S.2.1 dX12_unlike_36 (by decide) ?_
        refine lv_iload_n S.1 S.2.1 dX12_unlike_37 rfl (lv_at hl 1 rfl) ?_
        refine lv_imul S.1 S.2.1 dX12_unlike_38 ?_
        refine lv_iload S.1 S.2.1 dX12_unlike_39 (lv_at hl 4 rfl) ?_
        refine lv_iadd S.1 S.2.1 dX12_unlike_41 ?_
        obtain ⟨v15, e14, f⟩ := ob f
        refine o_iald S I e14 dX12_unlike_42 ?_
        refine lv_goto (tgt := 47) S.1 S.2.1 dX12_unlike_43 (by decide) ?_
        exact T12_unlike_47 S hr hlo (fun f _ _ I _ hl => ih f I hl) f I (lv_sub hl [0, 1, 3, 4] rfl)
set_option maxHeartbeats 4000000 in
set_option maxRecDepth 100000 in
theorem T12_unlike_0 (S : CallFix p m c cX12_unlike 5 s args vX12_unlike RX12) (hr : meth.sig.returnType = (some .int)) (hlo : meth.locks = false) {out : Int32 × PH} {h : PH} {a0 : Nat} {x1 : Int32} (f : F12_unlike_0  h a0 x1 = some out) {H : Heap} {locs : List Loc} (I : ph_I D cy b A fl h s H locs) {ls : Array Slot} (hl : lv_has ls 5 [(0, .ref (b + a0)), (1, .int x1)]) : W p l e ({ frames := 0, cells := 0, slots := 0, locals := 0 } : Room) s m args below meth c H locs 0 0 (MQ below (va_Qi (fun (r : Int32) (u : PH) => (r, u) = out) (ph_B D cy b A fl) A) args s 0 0 A) (F0 m 0 ls []) := by
  unfold F12_unlike_0 at f
  refine lv_iconst (v := 0) S.1 S.2.1 dX12_unlike_0 (by decide) ?_
  refine lv_istore_n (lv' := [(2, .int 0), (0, .ref (b + a0)), (1, .int x1)]) S.1 S.2.1 dX12_unlike_1 rfl hl (by decide) rfl (fun ls hl => ?_)
  refine lv_bipush (v := 99) S.1 S.2.1 dX12_unlike_2 (by decide) ?_
  refine lv_istore_n (lv' := [(3, .int 99), (2, .int 0), (0, .ref (b + a0)), (1, .int x1)]) S.1 S.2.1 dX12_unlike_4 rfl hl (by decide) rfl (fun ls hl => ?_)
  refine lv_iconst (v := 0) S.1 S.2.1 dX12_unlike_5 (by decide) ?_
  refine lv_istore (lv' := [(4, .int 0), (3, .int 99), (2, .int 0), (0, .ref (b + a0)), (1, .int x1)]) S.1 S.2.1 dX12_unlike_6 hl (by decide) rfl (fun ls hl => ?_)
  exact T12_unlike_8 S hr hlo  1024 f I (lv_sub hl [3, 4, 2, 1, 0] rfl)
theorem M12_unlike (l : Launch) (D : va_G) (cy : Nat → ClassId) (b : Nat) (A : Nat → Prop) (fl : Bool) {h : PH} {a0 : Nat} {x1 : Int32} {out : Int32 × PH} (f : F12_unlike h a0 x1 = some out) : Met l yX12_unlike vX12_unlike ({ frames := 0, cells := 0, slots := 0, locals := 0 } : Room) (va_Pc [.ref (b + a0), .int x1] (ph_B D cy b A fl h)) (va_Qi (fun (r : Int32) (u : PH) => (r, u) = out) (ph_B D cy b A fl) A) 0 0 A :=
  o_met (by decide) rfl (Nat.le_of_ble_eq_true rfl) rfl (fun p e s m below meth c S hr hlo hnm ls hl I => T12_unlike_0 S hr hlo ((gd f).2) I (lv_sub hl [0, 1] rfl))
end
theorem zd_dX12_fairest_0 : sg (cX12_fairest.data.toList.drop 0) [[42], [3], [181, 0, 154], [27], [156, 0, 5], [2], [172], [2], [61], [3], [62], [3], [54, 4], [21, 4], [7], [162, 0, 60], [42], [21, 4], [27], [182, 2, 3]] = true := by decide +kernel
theorem dX12_fairest_0 : decode cX12_fairest 0 = .ok (.aload_n 0, 1) := dc_42 (sg_at zd_dX12_fairest_0 0 rfl rfl)
theorem dX12_fairest_1 : decode cX12_fairest 1 = .ok (.iconst 0, 1) := dc_3 (sg_at zd_dX12_fairest_0 1 rfl rfl)
theorem dX12_fairest_2 : decode cX12_fairest 2 = .ok (.putfield 154, 3) := dc_181 (sg_at zd_dX12_fairest_0 2 rfl rfl) rfl
theorem dX12_fairest_5 : decode cX12_fairest 5 = .ok (.iload_n 1, 1) := dc_27 (sg_at zd_dX12_fairest_0 3 rfl rfl)
theorem dX12_fairest_6 : decode cX12_fairest 6 = .ok (.ifCond .ge 5, 3) := dc_156 (sg_at zd_dX12_fairest_0 4 rfl rfl) rfl
theorem dX12_fairest_9 : decode cX12_fairest 9 = .ok (.iconst (-1), 1) := dc_2 (sg_at zd_dX12_fairest_0 5 rfl rfl)
theorem dX12_fairest_10 : decode cX12_fairest 10 = .ok (.ireturn, 1) := dc_172 (sg_at zd_dX12_fairest_0 6 rfl rfl)
theorem dX12_fairest_11 : decode cX12_fairest 11 = .ok (.iconst (-1), 1) := dc_2 (sg_at zd_dX12_fairest_0 7 rfl rfl)
theorem dX12_fairest_12 : decode cX12_fairest 12 = .ok (.istore_n 2, 1) := dc_61 (sg_at zd_dX12_fairest_0 8 rfl rfl)
theorem dX12_fairest_13 : decode cX12_fairest 13 = .ok (.iconst 0, 1) := dc_3 (sg_at zd_dX12_fairest_0 9 rfl rfl)
theorem dX12_fairest_14 : decode cX12_fairest 14 = .ok (.istore_n 3, 1) := dc_62 (sg_at zd_dX12_fairest_0 10 rfl rfl)
theorem dX12_fairest_15 : decode cX12_fairest 15 = .ok (.iconst 0, 1) := dc_3 (sg_at zd_dX12_fairest_0 11 rfl rfl)
theorem dX12_fairest_16 : decode cX12_fairest 16 = .ok (.istore 4, 2) := dc_54 (sg_at zd_dX12_fairest_0 12 rfl rfl)
theorem dX12_fairest_18 : decode cX12_fairest 18 = .ok (.iload 4, 2) := dc_21 (sg_at zd_dX12_fairest_0 13 rfl rfl)
theorem dX12_fairest_20 : decode cX12_fairest 20 = .ok (.iconst 4, 1) := dc_7 (sg_at zd_dX12_fairest_0 14 rfl rfl)
theorem dX12_fairest_21 : decode cX12_fairest 21 = .ok (.if_icmp .ge 60, 3) := dc_162 (sg_at zd_dX12_fairest_0 15 rfl rfl) rfl
theorem dX12_fairest_24 : decode cX12_fairest 24 = .ok (.aload_n 0, 1) := dc_42 (sg_at zd_dX12_fairest_0 16 rfl rfl)
theorem dX12_fairest_25 : decode cX12_fairest 25 = .ok (.iload 4, 2) := dc_21 (sg_at zd_dX12_fairest_0 17 rfl rfl)
theorem dX12_fairest_27 : decode cX12_fairest 27 = .ok (.iload_n 1, 1) := dc_27 (sg_at zd_dX12_fairest_0 18 rfl rfl)
theorem dX12_fairest_28 : decode cX12_fairest 28 = .ok (.invokevirtual 515, 3) := dc_182 (sg_at zd_dX12_fairest_0 19 rfl rfl) rfl
theorem zd_dX12_fairest_31 : sg (cX12_fairest.data.toList.drop 31) [[17, 3, 232], [42], [4], [182, 2, 6], [104], [42], [180, 0, 109], [4], [46], [96], [42], [180, 0, 112], [4], [46], [96], [54, 5], [28], [155, 0, 12], [21, 5], [29]] = true := by decide +kernel
theorem dX12_fairest_31 : decode cX12_fairest 31 = .ok (.sipush 1000, 3) := dc_17 (sg_at zd_dX12_fairest_31 0 rfl rfl) rfl
theorem dX12_fairest_34 : decode cX12_fairest 34 = .ok (.aload_n 0, 1) := dc_42 (sg_at zd_dX12_fairest_31 1 rfl rfl)
theorem dX12_fairest_35 : decode cX12_fairest 35 = .ok (.iconst 1, 1) := dc_4 (sg_at zd_dX12_fairest_31 2 rfl rfl)
theorem dX12_fairest_36 : decode cX12_fairest 36 = .ok (.invokevirtual 518, 3) := dc_182 (sg_at zd_dX12_fairest_31 3 rfl rfl) rfl
theorem dX12_fairest_39 : decode cX12_fairest 39 = .ok (.imul, 1) := dc_104 (sg_at zd_dX12_fairest_31 4 rfl rfl)
theorem dX12_fairest_40 : decode cX12_fairest 40 = .ok (.aload_n 0, 1) := dc_42 (sg_at zd_dX12_fairest_31 5 rfl rfl)
theorem dX12_fairest_41 : decode cX12_fairest 41 = .ok (.getfield 109, 3) := dc_180 (sg_at zd_dX12_fairest_31 6 rfl rfl) rfl
theorem dX12_fairest_44 : decode cX12_fairest 44 = .ok (.iconst 1, 1) := dc_4 (sg_at zd_dX12_fairest_31 7 rfl rfl)
theorem dX12_fairest_45 : decode cX12_fairest 45 = .ok (.iaload, 1) := dc_46 (sg_at zd_dX12_fairest_31 8 rfl rfl)
theorem dX12_fairest_46 : decode cX12_fairest 46 = .ok (.iadd, 1) := dc_96 (sg_at zd_dX12_fairest_31 9 rfl rfl)
theorem dX12_fairest_47 : decode cX12_fairest 47 = .ok (.aload_n 0, 1) := dc_42 (sg_at zd_dX12_fairest_31 10 rfl rfl)
theorem dX12_fairest_48 : decode cX12_fairest 48 = .ok (.getfield 112, 3) := dc_180 (sg_at zd_dX12_fairest_31 11 rfl rfl) rfl
theorem dX12_fairest_51 : decode cX12_fairest 51 = .ok (.iconst 1, 1) := dc_4 (sg_at zd_dX12_fairest_31 12 rfl rfl)
theorem dX12_fairest_52 : decode cX12_fairest 52 = .ok (.iaload, 1) := dc_46 (sg_at zd_dX12_fairest_31 13 rfl rfl)
theorem dX12_fairest_53 : decode cX12_fairest 53 = .ok (.iadd, 1) := dc_96 (sg_at zd_dX12_fairest_31 14 rfl rfl)
theorem dX12_fairest_54 : decode cX12_fairest 54 = .ok (.istore 5, 2) := dc_54 (sg_at zd_dX12_fairest_31 15 rfl rfl)
theorem dX12_fairest_56 : decode cX12_fairest 56 = .ok (.iload_n 2, 1) := dc_28 (sg_at zd_dX12_fairest_31 16 rfl rfl)
theorem dX12_fairest_57 : decode cX12_fairest 57 = .ok (.ifCond .lt 12, 3) := dc_155 (sg_at zd_dX12_fairest_31 17 rfl rfl) rfl
theorem dX12_fairest_60 : decode cX12_fairest 60 = .ok (.iload 5, 2) := dc_21 (sg_at zd_dX12_fairest_31 18 rfl rfl)
theorem dX12_fairest_62 : decode cX12_fairest 62 = .ok (.iload_n 3, 1) := dc_29 (sg_at zd_dX12_fairest_31 19 rfl rfl)
theorem zd_dX12_fairest_63 : sg (cX12_fairest.data.toList.drop 63) [[161, 0, 6], [167, 0, 9], [21, 4], [61], [21, 5], [62], [132, 4, 1], [167, 255, 196], [28], [172]] = true := by decide +kernel
theorem dX12_fairest_63 : decode cX12_fairest 63 = .ok (.if_icmp .lt 6, 3) := dc_161 (sg_at zd_dX12_fairest_63 0 rfl rfl) rfl
theorem dX12_fairest_66 : decode cX12_fairest 66 = .ok (.goto 9, 3) := dc_167 (sg_at zd_dX12_fairest_63 1 rfl rfl) rfl
theorem dX12_fairest_69 : decode cX12_fairest 69 = .ok (.iload 4, 2) := dc_21 (sg_at zd_dX12_fairest_63 2 rfl rfl)
theorem dX12_fairest_71 : decode cX12_fairest 71 = .ok (.istore_n 2, 1) := dc_61 (sg_at zd_dX12_fairest_63 3 rfl rfl)
theorem dX12_fairest_72 : decode cX12_fairest 72 = .ok (.iload 5, 2) := dc_21 (sg_at zd_dX12_fairest_63 4 rfl rfl)
theorem dX12_fairest_74 : decode cX12_fairest 74 = .ok (.istore_n 3, 1) := dc_62 (sg_at zd_dX12_fairest_63 5 rfl rfl)
theorem dX12_fairest_75 : decode cX12_fairest 75 = .ok (.iinc 4 1, 3) := dc_132 (sg_at zd_dX12_fairest_63 6 rfl rfl) rfl
theorem dX12_fairest_78 : decode cX12_fairest 78 = .ok (.goto (-60), 3) := dc_167 (sg_at zd_dX12_fairest_63 7 rfl rfl) rfl
theorem dX12_fairest_81 : decode cX12_fairest 81 = .ok (.iload_n 2, 1) := dc_28 (sg_at zd_dX12_fairest_63 8 rfl rfl)
theorem dX12_fairest_82 : decode cX12_fairest 82 = .ok (.ireturn, 1) := dc_172 (sg_at zd_dX12_fairest_63 9 rfl rfl)
theorem zd_dX12_fault_0 : sg (cX12_fault.data.toList.drop 0) [[42], [3], [181, 0, 154], [27], [154, 0, 10], [42], [180, 0, 160], [167, 0, 16], [27], [4], [160, 0, 10], [42], [180, 0, 16], [167, 0, 4], [2], [172]] = true := by decide +kernel
theorem dX12_fault_0 : decode cX12_fault 0 = .ok (.aload_n 0, 1) := dc_42 (sg_at zd_dX12_fault_0 0 rfl rfl)
theorem dX12_fault_1 : decode cX12_fault 1 = .ok (.iconst 0, 1) := dc_3 (sg_at zd_dX12_fault_0 1 rfl rfl)
theorem dX12_fault_2 : decode cX12_fault 2 = .ok (.putfield 154, 3) := dc_181 (sg_at zd_dX12_fault_0 2 rfl rfl) rfl
theorem dX12_fault_5 : decode cX12_fault 5 = .ok (.iload_n 1, 1) := dc_27 (sg_at zd_dX12_fault_0 3 rfl rfl)
theorem dX12_fault_6 : decode cX12_fault 6 = .ok (.ifCond .ne 10, 3) := dc_154 (sg_at zd_dX12_fault_0 4 rfl rfl) rfl
theorem dX12_fault_9 : decode cX12_fault 9 = .ok (.aload_n 0, 1) := dc_42 (sg_at zd_dX12_fault_0 5 rfl rfl)
theorem dX12_fault_10 : decode cX12_fault 10 = .ok (.getfield 160, 3) := dc_180 (sg_at zd_dX12_fault_0 6 rfl rfl) rfl
theorem dX12_fault_13 : decode cX12_fault 13 = .ok (.goto 16, 3) := dc_167 (sg_at zd_dX12_fault_0 7 rfl rfl) rfl
theorem dX12_fault_16 : decode cX12_fault 16 = .ok (.iload_n 1, 1) := dc_27 (sg_at zd_dX12_fault_0 8 rfl rfl)
theorem dX12_fault_17 : decode cX12_fault 17 = .ok (.iconst 1, 1) := dc_4 (sg_at zd_dX12_fault_0 9 rfl rfl)
theorem dX12_fault_18 : decode cX12_fault 18 = .ok (.if_icmp .ne 10, 3) := dc_160 (sg_at zd_dX12_fault_0 10 rfl rfl) rfl
theorem dX12_fault_21 : decode cX12_fault 21 = .ok (.aload_n 0, 1) := dc_42 (sg_at zd_dX12_fault_0 11 rfl rfl)
theorem dX12_fault_22 : decode cX12_fault 22 = .ok (.getfield 16, 3) := dc_180 (sg_at zd_dX12_fault_0 12 rfl rfl) rfl
theorem dX12_fault_25 : decode cX12_fault 25 = .ok (.goto 4, 3) := dc_167 (sg_at zd_dX12_fault_0 13 rfl rfl) rfl
theorem dX12_fault_28 : decode cX12_fault 28 = .ok (.iconst (-1), 1) := dc_2 (sg_at zd_dX12_fault_0 14 rfl rfl)
theorem dX12_fault_29 : decode cX12_fault 29 = .ok (.ireturn, 1) := dc_172 (sg_at zd_dX12_fault_0 15 rfl rfl)
theorem zd_dX12_feed_0 : sg (cX12_feed.data.toList.drop 0) [[42], [3], [181, 0, 154], [42], [180, 0, 157], [16, 20], [96], [17, 2, 188], [164, 0, 5], [2], [172], [3], [54, 6], [21, 6], [16, 20], [162, 0, 86], [21, 6], [7], [162, 0, 7], [27]] = true := by decide +kernel
theorem dX12_feed_0 : decode cX12_feed 0 = .ok (.aload_n 0, 1) := dc_42 (sg_at zd_dX12_feed_0 0 rfl rfl)
theorem dX12_feed_1 : decode cX12_feed 1 = .ok (.iconst 0, 1) := dc_3 (sg_at zd_dX12_feed_0 1 rfl rfl)
theorem dX12_feed_2 : decode cX12_feed 2 = .ok (.putfield 154, 3) := dc_181 (sg_at zd_dX12_feed_0 2 rfl rfl) rfl
theorem dX12_feed_5 : decode cX12_feed 5 = .ok (.aload_n 0, 1) := dc_42 (sg_at zd_dX12_feed_0 3 rfl rfl)
theorem dX12_feed_6 : decode cX12_feed 6 = .ok (.getfield 157, 3) := dc_180 (sg_at zd_dX12_feed_0 4 rfl rfl) rfl
theorem dX12_feed_9 : decode cX12_feed 9 = .ok (.bipush 20, 2) := dc_16 (sg_at zd_dX12_feed_0 5 rfl rfl) rfl
theorem dX12_feed_11 : decode cX12_feed 11 = .ok (.iadd, 1) := dc_96 (sg_at zd_dX12_feed_0 6 rfl rfl)
theorem dX12_feed_12 : decode cX12_feed 12 = .ok (.sipush 700, 3) := dc_17 (sg_at zd_dX12_feed_0 7 rfl rfl) rfl
theorem dX12_feed_15 : decode cX12_feed 15 = .ok (.if_icmp .le 5, 3) := dc_164 (sg_at zd_dX12_feed_0 8 rfl rfl) rfl
theorem dX12_feed_18 : decode cX12_feed 18 = .ok (.iconst (-1), 1) := dc_2 (sg_at zd_dX12_feed_0 9 rfl rfl)
theorem dX12_feed_19 : decode cX12_feed 19 = .ok (.ireturn, 1) := dc_172 (sg_at zd_dX12_feed_0 10 rfl rfl)
theorem dX12_feed_20 : decode cX12_feed 20 = .ok (.iconst 0, 1) := dc_3 (sg_at zd_dX12_feed_0 11 rfl rfl)
theorem dX12_feed_21 : decode cX12_feed 21 = .ok (.istore 6, 2) := dc_54 (sg_at zd_dX12_feed_0 12 rfl rfl)
theorem dX12_feed_23 : decode cX12_feed 23 = .ok (.iload 6, 2) := dc_21 (sg_at zd_dX12_feed_0 13 rfl rfl)
theorem dX12_feed_25 : decode cX12_feed 25 = .ok (.bipush 20, 2) := dc_16 (sg_at zd_dX12_feed_0 14 rfl rfl) rfl
theorem dX12_feed_27 : decode cX12_feed 27 = .ok (.if_icmp .ge 86, 3) := dc_162 (sg_at zd_dX12_feed_0 15 rfl rfl) rfl
theorem dX12_feed_30 : decode cX12_feed 30 = .ok (.iload 6, 2) := dc_21 (sg_at zd_dX12_feed_0 16 rfl rfl)
theorem dX12_feed_32 : decode cX12_feed 32 = .ok (.iconst 4, 1) := dc_7 (sg_at zd_dX12_feed_0 17 rfl rfl)
theorem dX12_feed_33 : decode cX12_feed 33 = .ok (.if_icmp .ge 7, 3) := dc_162 (sg_at zd_dX12_feed_0 18 rfl rfl) rfl
theorem dX12_feed_36 : decode cX12_feed 36 = .ok (.iload_n 1, 1) := dc_27 (sg_at zd_dX12_feed_0 19 rfl rfl)
theorem zd_dX12_feed_37 : sg (cX12_feed.data.toList.drop 37) [[167, 0, 39], [21, 6], [16, 8], [162, 0, 7], [28], [167, 0, 28], [21, 6], [16, 12], [162, 0, 7], [29], [167, 0, 17], [21, 6], [16, 16], [162, 0, 8], [21, 4], [167, 0, 5], [21, 5], [54, 7], [42], [180, 0, 7]] = true := by decide +kernel
theorem dX12_feed_37 : decode cX12_feed 37 = .ok (.goto 39, 3) := dc_167 (sg_at zd_dX12_feed_37 0 rfl rfl) rfl
theorem dX12_feed_40 : decode cX12_feed 40 = .ok (.iload 6, 2) := dc_21 (sg_at zd_dX12_feed_37 1 rfl rfl)
theorem dX12_feed_42 : decode cX12_feed 42 = .ok (.bipush 8, 2) := dc_16 (sg_at zd_dX12_feed_37 2 rfl rfl) rfl
theorem dX12_feed_44 : decode cX12_feed 44 = .ok (.if_icmp .ge 7, 3) := dc_162 (sg_at zd_dX12_feed_37 3 rfl rfl) rfl
theorem dX12_feed_47 : decode cX12_feed 47 = .ok (.iload_n 2, 1) := dc_28 (sg_at zd_dX12_feed_37 4 rfl rfl)
theorem dX12_feed_48 : decode cX12_feed 48 = .ok (.goto 28, 3) := dc_167 (sg_at zd_dX12_feed_37 5 rfl rfl) rfl
theorem dX12_feed_51 : decode cX12_feed 51 = .ok (.iload 6, 2) := dc_21 (sg_at zd_dX12_feed_37 6 rfl rfl)
theorem dX12_feed_53 : decode cX12_feed 53 = .ok (.bipush 12, 2) := dc_16 (sg_at zd_dX12_feed_37 7 rfl rfl) rfl
theorem dX12_feed_55 : decode cX12_feed 55 = .ok (.if_icmp .ge 7, 3) := dc_162 (sg_at zd_dX12_feed_37 8 rfl rfl) rfl
theorem dX12_feed_58 : decode cX12_feed 58 = .ok (.iload_n 3, 1) := dc_29 (sg_at zd_dX12_feed_37 9 rfl rfl)
theorem dX12_feed_59 : decode cX12_feed 59 = .ok (.goto 17, 3) := dc_167 (sg_at zd_dX12_feed_37 10 rfl rfl) rfl
theorem dX12_feed_62 : decode cX12_feed 62 = .ok (.iload 6, 2) := dc_21 (sg_at zd_dX12_feed_37 11 rfl rfl)
theorem dX12_feed_64 : decode cX12_feed 64 = .ok (.bipush 16, 2) := dc_16 (sg_at zd_dX12_feed_37 12 rfl rfl) rfl
theorem dX12_feed_66 : decode cX12_feed 66 = .ok (.if_icmp .ge 8, 3) := dc_162 (sg_at zd_dX12_feed_37 13 rfl rfl) rfl
theorem dX12_feed_69 : decode cX12_feed 69 = .ok (.iload 4, 2) := dc_21 (sg_at zd_dX12_feed_37 14 rfl rfl)
theorem dX12_feed_71 : decode cX12_feed 71 = .ok (.goto 5, 3) := dc_167 (sg_at zd_dX12_feed_37 15 rfl rfl) rfl
theorem dX12_feed_74 : decode cX12_feed 74 = .ok (.iload 5, 2) := dc_21 (sg_at zd_dX12_feed_37 16 rfl rfl)
theorem dX12_feed_76 : decode cX12_feed 76 = .ok (.istore 7, 2) := dc_54 (sg_at zd_dX12_feed_37 17 rfl rfl)
theorem dX12_feed_78 : decode cX12_feed 78 = .ok (.aload_n 0, 1) := dc_42 (sg_at zd_dX12_feed_37 18 rfl rfl)
theorem dX12_feed_79 : decode cX12_feed 79 = .ok (.getfield 7, 3) := dc_180 (sg_at zd_dX12_feed_37 19 rfl rfl) rfl
theorem zd_dX12_feed_82 : sg (cX12_feed.data.toList.drop 82) [[42], [180, 0, 157], [21, 6], [96], [21, 7], [16, 24], [16, 8], [21, 6], [7], [112], [104], [100], [122], [17, 0, 255], [126], [79], [132, 6, 1], [167, 255, 169], [42], [89]] = true := by decide +kernel
theorem dX12_feed_82 : decode cX12_feed 82 = .ok (.aload_n 0, 1) := dc_42 (sg_at zd_dX12_feed_82 0 rfl rfl)
theorem dX12_feed_83 : decode cX12_feed 83 = .ok (.getfield 157, 3) := dc_180 (sg_at zd_dX12_feed_82 1 rfl rfl) rfl
theorem dX12_feed_86 : decode cX12_feed 86 = .ok (.iload 6, 2) := dc_21 (sg_at zd_dX12_feed_82 2 rfl rfl)
theorem dX12_feed_88 : decode cX12_feed 88 = .ok (.iadd, 1) := dc_96 (sg_at zd_dX12_feed_82 3 rfl rfl)
theorem dX12_feed_89 : decode cX12_feed 89 = .ok (.iload 7, 2) := dc_21 (sg_at zd_dX12_feed_82 4 rfl rfl)
theorem dX12_feed_91 : decode cX12_feed 91 = .ok (.bipush 24, 2) := dc_16 (sg_at zd_dX12_feed_82 5 rfl rfl) rfl
theorem dX12_feed_93 : decode cX12_feed 93 = .ok (.bipush 8, 2) := dc_16 (sg_at zd_dX12_feed_82 6 rfl rfl) rfl
theorem dX12_feed_95 : decode cX12_feed 95 = .ok (.iload 6, 2) := dc_21 (sg_at zd_dX12_feed_82 7 rfl rfl)
theorem dX12_feed_97 : decode cX12_feed 97 = .ok (.iconst 4, 1) := dc_7 (sg_at zd_dX12_feed_82 8 rfl rfl)
theorem dX12_feed_98 : decode cX12_feed 98 = .ok (.irem, 1) := dc_112 (sg_at zd_dX12_feed_82 9 rfl rfl)
theorem dX12_feed_99 : decode cX12_feed 99 = .ok (.imul, 1) := dc_104 (sg_at zd_dX12_feed_82 10 rfl rfl)
theorem dX12_feed_100 : decode cX12_feed 100 = .ok (.isub, 1) := dc_100 (sg_at zd_dX12_feed_82 11 rfl rfl)
theorem dX12_feed_101 : decode cX12_feed 101 = .ok (.ishr, 1) := dc_122 (sg_at zd_dX12_feed_82 12 rfl rfl)
theorem dX12_feed_102 : decode cX12_feed 102 = .ok (.sipush 255, 3) := dc_17 (sg_at zd_dX12_feed_82 13 rfl rfl) rfl
theorem dX12_feed_105 : decode cX12_feed 105 = .ok (.iand, 1) := dc_126 (sg_at zd_dX12_feed_82 14 rfl rfl)
theorem dX12_feed_106 : decode cX12_feed 106 = .ok (.iastore, 1) := dc_79 (sg_at zd_dX12_feed_82 15 rfl rfl)
theorem dX12_feed_107 : decode cX12_feed 107 = .ok (.iinc 6 1, 3) := dc_132 (sg_at zd_dX12_feed_82 16 rfl rfl) rfl
theorem dX12_feed_110 : decode cX12_feed 110 = .ok (.goto (-87), 3) := dc_167 (sg_at zd_dX12_feed_82 17 rfl rfl) rfl
theorem dX12_feed_113 : decode cX12_feed 113 = .ok (.aload_n 0, 1) := dc_42 (sg_at zd_dX12_feed_82 18 rfl rfl)
theorem dX12_feed_114 : decode cX12_feed 114 = .ok (.dup, 1) := dc_89 (sg_at zd_dX12_feed_82 19 rfl rfl)
theorem zd_dX12_feed_115 : sg (cX12_feed.data.toList.drop 115) [[180, 0, 157], [16, 20], [96], [181, 0, 157], [42], [180, 0, 157], [172]] = true := by decide +kernel
theorem dX12_feed_115 : decode cX12_feed 115 = .ok (.getfield 157, 3) := dc_180 (sg_at zd_dX12_feed_115 0 rfl rfl) rfl
theorem dX12_feed_118 : decode cX12_feed 118 = .ok (.bipush 20, 2) := dc_16 (sg_at zd_dX12_feed_115 1 rfl rfl) rfl
theorem dX12_feed_120 : decode cX12_feed 120 = .ok (.iadd, 1) := dc_96 (sg_at zd_dX12_feed_115 2 rfl rfl)
theorem dX12_feed_121 : decode cX12_feed 121 = .ok (.putfield 157, 3) := dc_181 (sg_at zd_dX12_feed_115 3 rfl rfl) rfl
theorem dX12_feed_124 : decode cX12_feed 124 = .ok (.aload_n 0, 1) := dc_42 (sg_at zd_dX12_feed_115 4 rfl rfl)
theorem dX12_feed_125 : decode cX12_feed 125 = .ok (.getfield 157, 3) := dc_180 (sg_at zd_dX12_feed_115 5 rfl rfl) rfl
theorem dX12_feed_128 : decode cX12_feed 128 = .ok (.ireturn, 1) := dc_172 (sg_at zd_dX12_feed_115 6 rfl rfl)
theorem zd_dX12_find_0 : sg (cX12_find.data.toList.drop 0) [[3], [54, 4], [21, 4], [28], [162, 0, 22], [42], [27], [21, 4], [96], [46], [29], [160, 0, 6], [21, 4], [172], [132, 4, 1], [167, 255, 234], [2], [172]] = true := by decide +kernel
theorem dX12_find_0 : decode cX12_find 0 = .ok (.iconst 0, 1) := dc_3 (sg_at zd_dX12_find_0 0 rfl rfl)
theorem dX12_find_1 : decode cX12_find 1 = .ok (.istore 4, 2) := dc_54 (sg_at zd_dX12_find_0 1 rfl rfl)
theorem dX12_find_3 : decode cX12_find 3 = .ok (.iload 4, 2) := dc_21 (sg_at zd_dX12_find_0 2 rfl rfl)
theorem dX12_find_5 : decode cX12_find 5 = .ok (.iload_n 2, 1) := dc_28 (sg_at zd_dX12_find_0 3 rfl rfl)
theorem dX12_find_6 : decode cX12_find 6 = .ok (.if_icmp .ge 22, 3) := dc_162 (sg_at zd_dX12_find_0 4 rfl rfl) rfl
theorem dX12_find_9 : decode cX12_find 9 = .ok (.aload_n 0, 1) := dc_42 (sg_at zd_dX12_find_0 5 rfl rfl)
theorem dX12_find_10 : decode cX12_find 10 = .ok (.iload_n 1, 1) := dc_27 (sg_at zd_dX12_find_0 6 rfl rfl)
theorem dX12_find_11 : decode cX12_find 11 = .ok (.iload 4, 2) := dc_21 (sg_at zd_dX12_find_0 7 rfl rfl)
theorem dX12_find_13 : decode cX12_find 13 = .ok (.iadd, 1) := dc_96 (sg_at zd_dX12_find_0 8 rfl rfl)
theorem dX12_find_14 : decode cX12_find 14 = .ok (.iaload, 1) := dc_46 (sg_at zd_dX12_find_0 9 rfl rfl)
theorem dX12_find_15 : decode cX12_find 15 = .ok (.iload_n 3, 1) := dc_29 (sg_at zd_dX12_find_0 10 rfl rfl)
theorem dX12_find_16 : decode cX12_find 16 = .ok (.if_icmp .ne 6, 3) := dc_160 (sg_at zd_dX12_find_0 11 rfl rfl) rfl
theorem dX12_find_19 : decode cX12_find 19 = .ok (.iload 4, 2) := dc_21 (sg_at zd_dX12_find_0 12 rfl rfl)
theorem dX12_find_21 : decode cX12_find 21 = .ok (.ireturn, 1) := dc_172 (sg_at zd_dX12_find_0 13 rfl rfl)
theorem dX12_find_22 : decode cX12_find 22 = .ok (.iinc 4 1, 3) := dc_132 (sg_at zd_dX12_find_0 14 rfl rfl) rfl
theorem dX12_find_25 : decode cX12_find 25 = .ok (.goto (-22), 3) := dc_167 (sg_at zd_dX12_find_0 15 rfl rfl) rfl
theorem dX12_find_28 : decode cX12_find 28 = .ok (.iconst (-1), 1) := dc_2 (sg_at zd_dX12_find_0 16 rfl rfl)
theorem dX12_find_29 : decode cX12_find 29 = .ok (.ireturn, 1) := dc_172 (sg_at zd_dX12_find_0 17 rfl rfl)
theorem zd_dX12_gaps_0 : sg (cX12_gaps.data.toList.drop 0) [[42], [3], [181, 0, 154], [27], [3], [16, 99], [184, 0, 199], [153, 0, 12], [28], [3], [4], [184, 0, 199], [154, 0, 5], [2], [172], [3], [62], [4], [54, 4], [21, 4]] = true := by decide +kernel
theorem dX12_gaps_0 : decode cX12_gaps 0 = .ok (.aload_n 0, 1) := dc_42 (sg_at zd_dX12_gaps_0 0 rfl rfl)
theorem dX12_gaps_1 : decode cX12_gaps 1 = .ok (.iconst 0, 1) := dc_3 (sg_at zd_dX12_gaps_0 1 rfl rfl)
theorem dX12_gaps_2 : decode cX12_gaps 2 = .ok (.putfield 154, 3) := dc_181 (sg_at zd_dX12_gaps_0 2 rfl rfl) rfl
theorem dX12_gaps_5 : decode cX12_gaps 5 = .ok (.iload_n 1, 1) := dc_27 (sg_at zd_dX12_gaps_0 3 rfl rfl)
theorem dX12_gaps_6 : decode cX12_gaps 6 = .ok (.iconst 0, 1) := dc_3 (sg_at zd_dX12_gaps_0 4 rfl rfl)
theorem dX12_gaps_7 : decode cX12_gaps 7 = .ok (.bipush 99, 2) := dc_16 (sg_at zd_dX12_gaps_0 5 rfl rfl) rfl
theorem dX12_gaps_9 : decode cX12_gaps 9 = .ok (.invokestatic 199, 3) := dc_184 (sg_at zd_dX12_gaps_0 6 rfl rfl) rfl
theorem dX12_gaps_12 : decode cX12_gaps 12 = .ok (.ifCond .eq 12, 3) := dc_153 (sg_at zd_dX12_gaps_0 7 rfl rfl) rfl
theorem dX12_gaps_15 : decode cX12_gaps 15 = .ok (.iload_n 2, 1) := dc_28 (sg_at zd_dX12_gaps_0 8 rfl rfl)
theorem dX12_gaps_16 : decode cX12_gaps 16 = .ok (.iconst 0, 1) := dc_3 (sg_at zd_dX12_gaps_0 9 rfl rfl)
theorem dX12_gaps_17 : decode cX12_gaps 17 = .ok (.iconst 1, 1) := dc_4 (sg_at zd_dX12_gaps_0 10 rfl rfl)
theorem dX12_gaps_18 : decode cX12_gaps 18 = .ok (.invokestatic 199, 3) := dc_184 (sg_at zd_dX12_gaps_0 11 rfl rfl) rfl
theorem dX12_gaps_21 : decode cX12_gaps 21 = .ok (.ifCond .ne 5, 3) := dc_154 (sg_at zd_dX12_gaps_0 12 rfl rfl) rfl
theorem dX12_gaps_24 : decode cX12_gaps 24 = .ok (.iconst (-1), 1) := dc_2 (sg_at zd_dX12_gaps_0 13 rfl rfl)
theorem dX12_gaps_25 : decode cX12_gaps 25 = .ok (.ireturn, 1) := dc_172 (sg_at zd_dX12_gaps_0 14 rfl rfl)
theorem dX12_gaps_26 : decode cX12_gaps 26 = .ok (.iconst 0, 1) := dc_3 (sg_at zd_dX12_gaps_0 15 rfl rfl)
theorem dX12_gaps_27 : decode cX12_gaps 27 = .ok (.istore_n 3, 1) := dc_62 (sg_at zd_dX12_gaps_0 16 rfl rfl)
theorem dX12_gaps_28 : decode cX12_gaps 28 = .ok (.iconst 1, 1) := dc_4 (sg_at zd_dX12_gaps_0 17 rfl rfl)
theorem dX12_gaps_29 : decode cX12_gaps 29 = .ok (.istore 4, 2) := dc_54 (sg_at zd_dX12_gaps_0 18 rfl rfl)
theorem dX12_gaps_31 : decode cX12_gaps 31 = .ok (.iload 4, 2) := dc_21 (sg_at zd_dX12_gaps_0 19 rfl rfl)
theorem zd_dX12_gaps_33 : sg (cX12_gaps.data.toList.drop 33) [[42], [180, 0, 250], [162, 0, 48], [29], [42], [180, 0, 48], [42], [180, 0, 45], [21, 4], [46], [46], [42], [180, 0, 48], [42], [180, 0, 45], [21, 4], [46], [4], [100], [46]] = true := by decide +kernel
theorem dX12_gaps_33 : decode cX12_gaps 33 = .ok (.aload_n 0, 1) := dc_42 (sg_at zd_dX12_gaps_33 0 rfl rfl)
theorem dX12_gaps_34 : decode cX12_gaps 34 = .ok (.getfield 250, 3) := dc_180 (sg_at zd_dX12_gaps_33 1 rfl rfl) rfl
theorem dX12_gaps_37 : decode cX12_gaps 37 = .ok (.if_icmp .ge 48, 3) := dc_162 (sg_at zd_dX12_gaps_33 2 rfl rfl) rfl
theorem dX12_gaps_40 : decode cX12_gaps 40 = .ok (.iload_n 3, 1) := dc_29 (sg_at zd_dX12_gaps_33 3 rfl rfl)
theorem dX12_gaps_41 : decode cX12_gaps 41 = .ok (.aload_n 0, 1) := dc_42 (sg_at zd_dX12_gaps_33 4 rfl rfl)
theorem dX12_gaps_42 : decode cX12_gaps 42 = .ok (.getfield 48, 3) := dc_180 (sg_at zd_dX12_gaps_33 5 rfl rfl) rfl
theorem dX12_gaps_45 : decode cX12_gaps 45 = .ok (.aload_n 0, 1) := dc_42 (sg_at zd_dX12_gaps_33 6 rfl rfl)
theorem dX12_gaps_46 : decode cX12_gaps 46 = .ok (.getfield 45, 3) := dc_180 (sg_at zd_dX12_gaps_33 7 rfl rfl) rfl
theorem dX12_gaps_49 : decode cX12_gaps 49 = .ok (.iload 4, 2) := dc_21 (sg_at zd_dX12_gaps_33 8 rfl rfl)
theorem dX12_gaps_51 : decode cX12_gaps 51 = .ok (.iaload, 1) := dc_46 (sg_at zd_dX12_gaps_33 9 rfl rfl)
theorem dX12_gaps_52 : decode cX12_gaps 52 = .ok (.iaload, 1) := dc_46 (sg_at zd_dX12_gaps_33 10 rfl rfl)
theorem dX12_gaps_53 : decode cX12_gaps 53 = .ok (.aload_n 0, 1) := dc_42 (sg_at zd_dX12_gaps_33 11 rfl rfl)
theorem dX12_gaps_54 : decode cX12_gaps 54 = .ok (.getfield 48, 3) := dc_180 (sg_at zd_dX12_gaps_33 12 rfl rfl) rfl
theorem dX12_gaps_57 : decode cX12_gaps 57 = .ok (.aload_n 0, 1) := dc_42 (sg_at zd_dX12_gaps_33 13 rfl rfl)
theorem dX12_gaps_58 : decode cX12_gaps 58 = .ok (.getfield 45, 3) := dc_180 (sg_at zd_dX12_gaps_33 14 rfl rfl) rfl
theorem dX12_gaps_61 : decode cX12_gaps 61 = .ok (.iload 4, 2) := dc_21 (sg_at zd_dX12_gaps_33 15 rfl rfl)
theorem dX12_gaps_63 : decode cX12_gaps 63 = .ok (.iaload, 1) := dc_46 (sg_at zd_dX12_gaps_33 16 rfl rfl)
theorem dX12_gaps_64 : decode cX12_gaps 64 = .ok (.iconst 1, 1) := dc_4 (sg_at zd_dX12_gaps_33 17 rfl rfl)
theorem dX12_gaps_65 : decode cX12_gaps 65 = .ok (.isub, 1) := dc_100 (sg_at zd_dX12_gaps_33 18 rfl rfl)
theorem dX12_gaps_66 : decode cX12_gaps 66 = .ok (.iaload, 1) := dc_46 (sg_at zd_dX12_gaps_33 19 rfl rfl)
theorem zd_dX12_gaps_67 : sg (cX12_gaps.data.toList.drop 67) [[100], [27], [163, 0, 7], [4], [167, 0, 4], [3], [96], [62], [132, 4, 1], [167, 255, 205], [28], [154, 0, 7], [29], [167, 0, 21], [42], [180, 0, 250], [5], [162, 0, 7], [3], [167, 0, 9]] = true := by decide +kernel
theorem dX12_gaps_67 : decode cX12_gaps 67 = .ok (.isub, 1) := dc_100 (sg_at zd_dX12_gaps_67 0 rfl rfl)
theorem dX12_gaps_68 : decode cX12_gaps 68 = .ok (.iload_n 1, 1) := dc_27 (sg_at zd_dX12_gaps_67 1 rfl rfl)
theorem dX12_gaps_69 : decode cX12_gaps 69 = .ok (.if_icmp .gt 7, 3) := dc_163 (sg_at zd_dX12_gaps_67 2 rfl rfl) rfl
theorem dX12_gaps_72 : decode cX12_gaps 72 = .ok (.iconst 1, 1) := dc_4 (sg_at zd_dX12_gaps_67 3 rfl rfl)
theorem dX12_gaps_73 : decode cX12_gaps 73 = .ok (.goto 4, 3) := dc_167 (sg_at zd_dX12_gaps_67 4 rfl rfl) rfl
theorem dX12_gaps_76 : decode cX12_gaps 76 = .ok (.iconst 0, 1) := dc_3 (sg_at zd_dX12_gaps_67 5 rfl rfl)
theorem dX12_gaps_77 : decode cX12_gaps 77 = .ok (.iadd, 1) := dc_96 (sg_at zd_dX12_gaps_67 6 rfl rfl)
theorem dX12_gaps_78 : decode cX12_gaps 78 = .ok (.istore_n 3, 1) := dc_62 (sg_at zd_dX12_gaps_67 7 rfl rfl)
theorem dX12_gaps_79 : decode cX12_gaps 79 = .ok (.iinc 4 1, 3) := dc_132 (sg_at zd_dX12_gaps_67 8 rfl rfl) rfl
theorem dX12_gaps_82 : decode cX12_gaps 82 = .ok (.goto (-51), 3) := dc_167 (sg_at zd_dX12_gaps_67 9 rfl rfl) rfl
theorem dX12_gaps_85 : decode cX12_gaps 85 = .ok (.iload_n 2, 1) := dc_28 (sg_at zd_dX12_gaps_67 10 rfl rfl)
theorem dX12_gaps_86 : decode cX12_gaps 86 = .ok (.ifCond .ne 7, 3) := dc_154 (sg_at zd_dX12_gaps_67 11 rfl rfl) rfl
theorem dX12_gaps_89 : decode cX12_gaps 89 = .ok (.iload_n 3, 1) := dc_29 (sg_at zd_dX12_gaps_67 12 rfl rfl)
theorem dX12_gaps_90 : decode cX12_gaps 90 = .ok (.goto 21, 3) := dc_167 (sg_at zd_dX12_gaps_67 13 rfl rfl) rfl
theorem dX12_gaps_93 : decode cX12_gaps 93 = .ok (.aload_n 0, 1) := dc_42 (sg_at zd_dX12_gaps_67 14 rfl rfl)
theorem dX12_gaps_94 : decode cX12_gaps 94 = .ok (.getfield 250, 3) := dc_180 (sg_at zd_dX12_gaps_67 15 rfl rfl) rfl
theorem dX12_gaps_97 : decode cX12_gaps 97 = .ok (.iconst 2, 1) := dc_5 (sg_at zd_dX12_gaps_67 16 rfl rfl)
theorem dX12_gaps_98 : decode cX12_gaps 98 = .ok (.if_icmp .ge 7, 3) := dc_162 (sg_at zd_dX12_gaps_67 17 rfl rfl) rfl
theorem dX12_gaps_101 : decode cX12_gaps 101 = .ok (.iconst 0, 1) := dc_3 (sg_at zd_dX12_gaps_67 18 rfl rfl)
theorem dX12_gaps_102 : decode cX12_gaps 102 = .ok (.goto 9, 3) := dc_167 (sg_at zd_dX12_gaps_67 19 rfl rfl) rfl
theorem zd_dX12_gaps_105 : sg (cX12_gaps.data.toList.drop 105) [[42], [180, 0, 250], [4], [100], [172]] = true := by decide +kernel
theorem dX12_gaps_105 : decode cX12_gaps 105 = .ok (.aload_n 0, 1) := dc_42 (sg_at zd_dX12_gaps_105 0 rfl rfl)
theorem dX12_gaps_106 : decode cX12_gaps 106 = .ok (.getfield 250, 3) := dc_180 (sg_at zd_dX12_gaps_105 1 rfl rfl) rfl
theorem dX12_gaps_109 : decode cX12_gaps 109 = .ok (.iconst 1, 1) := dc_4 (sg_at zd_dX12_gaps_105 2 rfl rfl)
theorem dX12_gaps_110 : decode cX12_gaps 110 = .ok (.isub, 1) := dc_100 (sg_at zd_dX12_gaps_105 3 rfl rfl)
theorem dX12_gaps_111 : decode cX12_gaps 111 = .ok (.ireturn, 1) := dc_172 (sg_at zd_dX12_gaps_105 4 rfl rfl)
theorem zd_dX12_give_0 : sg (cX12_give.data.toList.drop 0) [[42], [3], [181, 0, 154], [42], [27], [182, 1, 157], [153, 0, 26], [42], [28], [182, 1, 157], [153, 0, 18], [27], [28], [159, 0, 13], [29], [3], [16, 99], [184, 0, 199], [154, 0, 5], [2]] = true := by decide +kernel
theorem dX12_give_0 : decode cX12_give 0 = .ok (.aload_n 0, 1) := dc_42 (sg_at zd_dX12_give_0 0 rfl rfl)
theorem dX12_give_1 : decode cX12_give 1 = .ok (.iconst 0, 1) := dc_3 (sg_at zd_dX12_give_0 1 rfl rfl)
theorem dX12_give_2 : decode cX12_give 2 = .ok (.putfield 154, 3) := dc_181 (sg_at zd_dX12_give_0 2 rfl rfl) rfl
theorem dX12_give_5 : decode cX12_give 5 = .ok (.aload_n 0, 1) := dc_42 (sg_at zd_dX12_give_0 3 rfl rfl)
theorem dX12_give_6 : decode cX12_give 6 = .ok (.iload_n 1, 1) := dc_27 (sg_at zd_dX12_give_0 4 rfl rfl)
theorem dX12_give_7 : decode cX12_give 7 = .ok (.invokevirtual 413, 3) := dc_182 (sg_at zd_dX12_give_0 5 rfl rfl) rfl
theorem dX12_give_10 : decode cX12_give 10 = .ok (.ifCond .eq 26, 3) := dc_153 (sg_at zd_dX12_give_0 6 rfl rfl) rfl
theorem dX12_give_13 : decode cX12_give 13 = .ok (.aload_n 0, 1) := dc_42 (sg_at zd_dX12_give_0 7 rfl rfl)
theorem dX12_give_14 : decode cX12_give 14 = .ok (.iload_n 2, 1) := dc_28 (sg_at zd_dX12_give_0 8 rfl rfl)
theorem dX12_give_15 : decode cX12_give 15 = .ok (.invokevirtual 413, 3) := dc_182 (sg_at zd_dX12_give_0 9 rfl rfl) rfl
theorem dX12_give_18 : decode cX12_give 18 = .ok (.ifCond .eq 18, 3) := dc_153 (sg_at zd_dX12_give_0 10 rfl rfl) rfl
theorem dX12_give_21 : decode cX12_give 21 = .ok (.iload_n 1, 1) := dc_27 (sg_at zd_dX12_give_0 11 rfl rfl)
theorem dX12_give_22 : decode cX12_give 22 = .ok (.iload_n 2, 1) := dc_28 (sg_at zd_dX12_give_0 12 rfl rfl)
theorem dX12_give_23 : decode cX12_give 23 = .ok (.if_icmp .eq 13, 3) := dc_159 (sg_at zd_dX12_give_0 13 rfl rfl) rfl
theorem dX12_give_26 : decode cX12_give 26 = .ok (.iload_n 3, 1) := dc_29 (sg_at zd_dX12_give_0 14 rfl rfl)
theorem dX12_give_27 : decode cX12_give 27 = .ok (.iconst 0, 1) := dc_3 (sg_at zd_dX12_give_0 15 rfl rfl)
theorem dX12_give_28 : decode cX12_give 28 = .ok (.bipush 99, 2) := dc_16 (sg_at zd_dX12_give_0 16 rfl rfl) rfl
theorem dX12_give_30 : decode cX12_give 30 = .ok (.invokestatic 199, 3) := dc_184 (sg_at zd_dX12_give_0 17 rfl rfl) rfl
theorem dX12_give_33 : decode cX12_give 33 = .ok (.ifCond .ne 5, 3) := dc_154 (sg_at zd_dX12_give_0 18 rfl rfl) rfl
theorem dX12_give_36 : decode cX12_give 36 = .ok (.iconst (-1), 1) := dc_2 (sg_at zd_dX12_give_0 19 rfl rfl)
theorem zd_dX12_give_37 : sg (cX12_give.data.toList.drop 37) [[172], [42], [180, 0, 42], [28], [46], [29], [104], [16, 100], [164, 0, 7], [4], [167, 0, 4], [3], [172]] = true := by decide +kernel
theorem dX12_give_37 : decode cX12_give 37 = .ok (.ireturn, 1) := dc_172 (sg_at zd_dX12_give_37 0 rfl rfl)
theorem dX12_give_38 : decode cX12_give 38 = .ok (.aload_n 0, 1) := dc_42 (sg_at zd_dX12_give_37 1 rfl rfl)
theorem dX12_give_39 : decode cX12_give 39 = .ok (.getfield 42, 3) := dc_180 (sg_at zd_dX12_give_37 2 rfl rfl) rfl
theorem dX12_give_42 : decode cX12_give 42 = .ok (.iload_n 2, 1) := dc_28 (sg_at zd_dX12_give_37 3 rfl rfl)
theorem dX12_give_43 : decode cX12_give 43 = .ok (.iaload, 1) := dc_46 (sg_at zd_dX12_give_37 4 rfl rfl)
theorem dX12_give_44 : decode cX12_give 44 = .ok (.iload_n 3, 1) := dc_29 (sg_at zd_dX12_give_37 5 rfl rfl)
theorem dX12_give_45 : decode cX12_give 45 = .ok (.imul, 1) := dc_104 (sg_at zd_dX12_give_37 6 rfl rfl)
theorem dX12_give_46 : decode cX12_give 46 = .ok (.bipush 100, 2) := dc_16 (sg_at zd_dX12_give_37 7 rfl rfl) rfl
theorem dX12_give_48 : decode cX12_give 48 = .ok (.if_icmp .le 7, 3) := dc_164 (sg_at zd_dX12_give_37 8 rfl rfl) rfl
theorem dX12_give_51 : decode cX12_give 51 = .ok (.iconst 1, 1) := dc_4 (sg_at zd_dX12_give_37 9 rfl rfl)
theorem dX12_give_52 : decode cX12_give 52 = .ok (.goto 4, 3) := dc_167 (sg_at zd_dX12_give_37 10 rfl rfl) rfl
theorem dX12_give_55 : decode cX12_give 55 = .ok (.iconst 0, 1) := dc_3 (sg_at zd_dX12_give_37 11 rfl rfl)
theorem dX12_give_56 : decode cX12_give 56 = .ok (.ireturn, 1) := dc_172 (sg_at zd_dX12_give_37 12 rfl rfl)
theorem zd_dX12_isWave_0 : sg (cX12_isWave.data.toList.drop 0) [[27], [155, 0, 15], [27], [42], [180, 0, 253], [162, 0, 7], [4], [167, 0, 4], [3], [172]] = true := by decide +kernel
theorem dX12_isWave_0 : decode cX12_isWave 0 = .ok (.iload_n 1, 1) := dc_27 (sg_at zd_dX12_isWave_0 0 rfl rfl)
theorem dX12_isWave_1 : decode cX12_isWave 1 = .ok (.ifCond .lt 15, 3) := dc_155 (sg_at zd_dX12_isWave_0 1 rfl rfl) rfl
theorem dX12_isWave_4 : decode cX12_isWave 4 = .ok (.iload_n 1, 1) := dc_27 (sg_at zd_dX12_isWave_0 2 rfl rfl)
theorem dX12_isWave_5 : decode cX12_isWave 5 = .ok (.aload_n 0, 1) := dc_42 (sg_at zd_dX12_isWave_0 3 rfl rfl)
theorem dX12_isWave_6 : decode cX12_isWave 6 = .ok (.getfield 253, 3) := dc_180 (sg_at zd_dX12_isWave_0 4 rfl rfl) rfl
theorem dX12_isWave_9 : decode cX12_isWave 9 = .ok (.if_icmp .ge 7, 3) := dc_162 (sg_at zd_dX12_isWave_0 5 rfl rfl) rfl
theorem dX12_isWave_12 : decode cX12_isWave 12 = .ok (.iconst 1, 1) := dc_4 (sg_at zd_dX12_isWave_0 6 rfl rfl)
theorem dX12_isWave_13 : decode cX12_isWave 13 = .ok (.goto 4, 3) := dc_167 (sg_at zd_dX12_isWave_0 7 rfl rfl) rfl
theorem dX12_isWave_16 : decode cX12_isWave 16 = .ok (.iconst 0, 1) := dc_3 (sg_at zd_dX12_isWave_0 8 rfl rfl)
theorem dX12_isWave_17 : decode cX12_isWave 17 = .ok (.ireturn, 1) := dc_172 (sg_at zd_dX12_isWave_0 9 rfl rfl)
theorem zd_dX12_isToCome_0 : sg (cX12_isToCome.data.toList.drop 0) [[42], [27], [182, 1, 163], [153, 0, 18], [42], [180, 0, 103], [27], [46], [16, 254], [160, 0, 7], [4], [167, 0, 4], [3], [172]] = true := by decide +kernel
theorem dX12_isToCome_0 : decode cX12_isToCome 0 = .ok (.aload_n 0, 1) := dc_42 (sg_at zd_dX12_isToCome_0 0 rfl rfl)
theorem dX12_isToCome_1 : decode cX12_isToCome 1 = .ok (.iload_n 1, 1) := dc_27 (sg_at zd_dX12_isToCome_0 1 rfl rfl)
theorem dX12_isToCome_2 : decode cX12_isToCome 2 = .ok (.invokevirtual 419, 3) := dc_182 (sg_at zd_dX12_isToCome_0 2 rfl rfl) rfl
theorem dX12_isToCome_5 : decode cX12_isToCome 5 = .ok (.ifCond .eq 18, 3) := dc_153 (sg_at zd_dX12_isToCome_0 3 rfl rfl) rfl
theorem dX12_isToCome_8 : decode cX12_isToCome 8 = .ok (.aload_n 0, 1) := dc_42 (sg_at zd_dX12_isToCome_0 4 rfl rfl)
theorem dX12_isToCome_9 : decode cX12_isToCome 9 = .ok (.getfield 103, 3) := dc_180 (sg_at zd_dX12_isToCome_0 5 rfl rfl) rfl
theorem dX12_isToCome_12 : decode cX12_isToCome 12 = .ok (.iload_n 1, 1) := dc_27 (sg_at zd_dX12_isToCome_0 6 rfl rfl)
theorem dX12_isToCome_13 : decode cX12_isToCome 13 = .ok (.iaload, 1) := dc_46 (sg_at zd_dX12_isToCome_0 7 rfl rfl)
theorem dX12_isToCome_14 : decode cX12_isToCome 14 = .ok (.bipush (-2), 2) := dc_16 (sg_at zd_dX12_isToCome_0 8 rfl rfl) rfl
theorem dX12_isToCome_16 : decode cX12_isToCome 16 = .ok (.if_icmp .ne 7, 3) := dc_160 (sg_at zd_dX12_isToCome_0 9 rfl rfl) rfl
theorem dX12_isToCome_19 : decode cX12_isToCome 19 = .ok (.iconst 1, 1) := dc_4 (sg_at zd_dX12_isToCome_0 10 rfl rfl)
theorem dX12_isToCome_20 : decode cX12_isToCome 20 = .ok (.goto 4, 3) := dc_167 (sg_at zd_dX12_isToCome_0 11 rfl rfl) rfl
theorem dX12_isToCome_23 : decode cX12_isToCome 23 = .ok (.iconst 0, 1) := dc_3 (sg_at zd_dX12_isToCome_0 12 rfl rfl)
theorem dX12_isToCome_24 : decode cX12_isToCome 24 = .ok (.ireturn, 1) := dc_172 (sg_at zd_dX12_isToCome_0 13 rfl rfl)
theorem zd_dX12_go_0 : sg (cX12_go.data.toList.drop 0) [[42], [3], [181, 0, 154], [42], [27], [182, 1, 157], [153, 0, 22], [42], [28], [182, 1, 220], [153, 0, 14], [29], [3], [17, 3, 231], [184, 0, 199], [154, 0, 5], [2], [172], [42], [3]] = true := by decide +kernel
theorem dX12_go_0 : decode cX12_go 0 = .ok (.aload_n 0, 1) := dc_42 (sg_at zd_dX12_go_0 0 rfl rfl)
theorem dX12_go_1 : decode cX12_go 1 = .ok (.iconst 0, 1) := dc_3 (sg_at zd_dX12_go_0 1 rfl rfl)
theorem dX12_go_2 : decode cX12_go 2 = .ok (.putfield 154, 3) := dc_181 (sg_at zd_dX12_go_0 2 rfl rfl) rfl
theorem dX12_go_5 : decode cX12_go 5 = .ok (.aload_n 0, 1) := dc_42 (sg_at zd_dX12_go_0 3 rfl rfl)
theorem dX12_go_6 : decode cX12_go 6 = .ok (.iload_n 1, 1) := dc_27 (sg_at zd_dX12_go_0 4 rfl rfl)
theorem dX12_go_7 : decode cX12_go 7 = .ok (.invokevirtual 413, 3) := dc_182 (sg_at zd_dX12_go_0 5 rfl rfl) rfl
theorem dX12_go_10 : decode cX12_go 10 = .ok (.ifCond .eq 22, 3) := dc_153 (sg_at zd_dX12_go_0 6 rfl rfl) rfl
theorem dX12_go_13 : decode cX12_go 13 = .ok (.aload_n 0, 1) := dc_42 (sg_at zd_dX12_go_0 7 rfl rfl)
theorem dX12_go_14 : decode cX12_go 14 = .ok (.iload_n 2, 1) := dc_28 (sg_at zd_dX12_go_0 8 rfl rfl)
theorem dX12_go_15 : decode cX12_go 15 = .ok (.invokevirtual 476, 3) := dc_182 (sg_at zd_dX12_go_0 9 rfl rfl) rfl
theorem dX12_go_18 : decode cX12_go 18 = .ok (.ifCond .eq 14, 3) := dc_153 (sg_at zd_dX12_go_0 10 rfl rfl) rfl
theorem dX12_go_21 : decode cX12_go 21 = .ok (.iload_n 3, 1) := dc_29 (sg_at zd_dX12_go_0 11 rfl rfl)
theorem dX12_go_22 : decode cX12_go 22 = .ok (.iconst 0, 1) := dc_3 (sg_at zd_dX12_go_0 12 rfl rfl)
theorem dX12_go_23 : decode cX12_go 23 = .ok (.sipush 999, 3) := dc_17 (sg_at zd_dX12_go_0 13 rfl rfl) rfl
theorem dX12_go_26 : decode cX12_go 26 = .ok (.invokestatic 199, 3) := dc_184 (sg_at zd_dX12_go_0 14 rfl rfl) rfl
theorem dX12_go_29 : decode cX12_go 29 = .ok (.ifCond .ne 5, 3) := dc_154 (sg_at zd_dX12_go_0 15 rfl rfl) rfl
theorem dX12_go_32 : decode cX12_go 32 = .ok (.iconst (-1), 1) := dc_2 (sg_at zd_dX12_go_0 16 rfl rfl)
theorem dX12_go_33 : decode cX12_go 33 = .ok (.ireturn, 1) := dc_172 (sg_at zd_dX12_go_0 17 rfl rfl)
theorem dX12_go_34 : decode cX12_go 34 = .ok (.aload_n 0, 1) := dc_42 (sg_at zd_dX12_go_0 18 rfl rfl)
theorem dX12_go_35 : decode cX12_go 35 = .ok (.iconst 0, 1) := dc_3 (sg_at zd_dX12_go_0 19 rfl rfl)
theorem zd_dX12_go_36 : sg (cX12_go.data.toList.drop 36) [[28], [42], [180, 1, 113], [182, 1, 197], [16, 100], [54, 4], [3], [54, 5], [3], [54, 6], [21, 6], [42], [180, 1, 177], [162, 0, 60], [21, 5], [153, 0, 26], [21, 4], [16, 100], [42], [180, 0, 39]] = true := by decide +kernel
theorem dX12_go_36 : decode cX12_go 36 = .ok (.iload_n 2, 1) := dc_28 (sg_at zd_dX12_go_36 0 rfl rfl)
theorem dX12_go_37 : decode cX12_go 37 = .ok (.aload_n 0, 1) := dc_42 (sg_at zd_dX12_go_36 1 rfl rfl)
theorem dX12_go_38 : decode cX12_go 38 = .ok (.getfield 369, 3) := dc_180 (sg_at zd_dX12_go_36 2 rfl rfl) rfl
theorem dX12_go_41 : decode cX12_go 41 = .ok (.invokevirtual 453, 3) := dc_182 (sg_at zd_dX12_go_36 3 rfl rfl) rfl
theorem dX12_go_44 : decode cX12_go 44 = .ok (.bipush 100, 2) := dc_16 (sg_at zd_dX12_go_36 4 rfl rfl) rfl
theorem dX12_go_46 : decode cX12_go 46 = .ok (.istore 4, 2) := dc_54 (sg_at zd_dX12_go_36 5 rfl rfl)
theorem dX12_go_48 : decode cX12_go 48 = .ok (.iconst 0, 1) := dc_3 (sg_at zd_dX12_go_36 6 rfl rfl)
theorem dX12_go_49 : decode cX12_go 49 = .ok (.istore 5, 2) := dc_54 (sg_at zd_dX12_go_36 7 rfl rfl)
theorem dX12_go_51 : decode cX12_go 51 = .ok (.iconst 0, 1) := dc_3 (sg_at zd_dX12_go_36 8 rfl rfl)
theorem dX12_go_52 : decode cX12_go 52 = .ok (.istore 6, 2) := dc_54 (sg_at zd_dX12_go_36 9 rfl rfl)
theorem dX12_go_54 : decode cX12_go 54 = .ok (.iload 6, 2) := dc_21 (sg_at zd_dX12_go_36 10 rfl rfl)
theorem dX12_go_56 : decode cX12_go 56 = .ok (.aload_n 0, 1) := dc_42 (sg_at zd_dX12_go_36 11 rfl rfl)
theorem dX12_go_57 : decode cX12_go 57 = .ok (.getfield 433, 3) := dc_180 (sg_at zd_dX12_go_36 12 rfl rfl) rfl
theorem dX12_go_60 : decode cX12_go 60 = .ok (.if_icmp .ge 60, 3) := dc_162 (sg_at zd_dX12_go_36 13 rfl rfl) rfl
theorem dX12_go_63 : decode cX12_go 63 = .ok (.iload 5, 2) := dc_21 (sg_at zd_dX12_go_36 14 rfl rfl)
theorem dX12_go_65 : decode cX12_go 65 = .ok (.ifCond .eq 26, 3) := dc_153 (sg_at zd_dX12_go_36 15 rfl rfl) rfl
theorem dX12_go_68 : decode cX12_go 68 = .ok (.iload 4, 2) := dc_21 (sg_at zd_dX12_go_36 16 rfl rfl)
theorem dX12_go_70 : decode cX12_go 70 = .ok (.bipush 100, 2) := dc_16 (sg_at zd_dX12_go_36 17 rfl rfl) rfl
theorem dX12_go_72 : decode cX12_go 72 = .ok (.aload_n 0, 1) := dc_42 (sg_at zd_dX12_go_36 18 rfl rfl)
theorem dX12_go_73 : decode cX12_go 73 = .ok (.getfield 39, 3) := dc_180 (sg_at zd_dX12_go_36 19 rfl rfl) rfl
theorem zd_dX12_go_76 : sg (cX12_go.data.toList.drop 76) [[42], [180, 0, 118], [21, 6], [46], [46], [100], [104], [16, 100], [108], [54, 4], [21, 5], [154, 0, 14], [42], [180, 0, 118], [21, 6], [46], [27], [160, 0, 7], [4], [167, 0, 4]] = true := by decide +kernel
theorem dX12_go_76 : decode cX12_go 76 = .ok (.aload_n 0, 1) := dc_42 (sg_at zd_dX12_go_76 0 rfl rfl)
theorem dX12_go_77 : decode cX12_go 77 = .ok (.getfield 118, 3) := dc_180 (sg_at zd_dX12_go_76 1 rfl rfl) rfl
theorem dX12_go_80 : decode cX12_go 80 = .ok (.iload 6, 2) := dc_21 (sg_at zd_dX12_go_76 2 rfl rfl)
theorem dX12_go_82 : decode cX12_go 82 = .ok (.iaload, 1) := dc_46 (sg_at zd_dX12_go_76 3 rfl rfl)
theorem dX12_go_83 : decode cX12_go 83 = .ok (.iaload, 1) := dc_46 (sg_at zd_dX12_go_76 4 rfl rfl)
theorem dX12_go_84 : decode cX12_go 84 = .ok (.isub, 1) := dc_100 (sg_at zd_dX12_go_76 5 rfl rfl)
theorem dX12_go_85 : decode cX12_go 85 = .ok (.imul, 1) := dc_104 (sg_at zd_dX12_go_76 6 rfl rfl)
theorem dX12_go_86 : decode cX12_go 86 = .ok (.bipush 100, 2) := dc_16 (sg_at zd_dX12_go_76 7 rfl rfl) rfl
theorem dX12_go_88 : decode cX12_go 88 = .ok (.idiv, 1) := dc_108 (sg_at zd_dX12_go_76 8 rfl rfl)
theorem dX12_go_89 : decode cX12_go 89 = .ok (.istore 4, 2) := dc_54 (sg_at zd_dX12_go_76 9 rfl rfl)
theorem dX12_go_91 : decode cX12_go 91 = .ok (.iload 5, 2) := dc_21 (sg_at zd_dX12_go_76 10 rfl rfl)
theorem dX12_go_93 : decode cX12_go 93 = .ok (.ifCond .ne 14, 3) := dc_154 (sg_at zd_dX12_go_76 11 rfl rfl) rfl
theorem dX12_go_96 : decode cX12_go 96 = .ok (.aload_n 0, 1) := dc_42 (sg_at zd_dX12_go_76 12 rfl rfl)
theorem dX12_go_97 : decode cX12_go 97 = .ok (.getfield 118, 3) := dc_180 (sg_at zd_dX12_go_76 13 rfl rfl) rfl
theorem dX12_go_100 : decode cX12_go 100 = .ok (.iload 6, 2) := dc_21 (sg_at zd_dX12_go_76 14 rfl rfl)
theorem dX12_go_102 : decode cX12_go 102 = .ok (.iaload, 1) := dc_46 (sg_at zd_dX12_go_76 15 rfl rfl)
theorem dX12_go_103 : decode cX12_go 103 = .ok (.iload_n 1, 1) := dc_27 (sg_at zd_dX12_go_76 16 rfl rfl)
theorem dX12_go_104 : decode cX12_go 104 = .ok (.if_icmp .ne 7, 3) := dc_160 (sg_at zd_dX12_go_76 17 rfl rfl) rfl
theorem dX12_go_107 : decode cX12_go 107 = .ok (.iconst 1, 1) := dc_4 (sg_at zd_dX12_go_76 18 rfl rfl)
theorem dX12_go_108 : decode cX12_go 108 = .ok (.goto 4, 3) := dc_167 (sg_at zd_dX12_go_76 19 rfl rfl) rfl
theorem zd_dX12_go_111 : sg (cX12_go.data.toList.drop 111) [[3], [54, 5], [132, 6, 1], [167, 255, 193], [42], [27], [28], [42], [180, 0, 88], [27], [46], [182, 1, 223], [29], [16, 100], [21, 4], [100], [104], [164, 0, 7], [4], [167, 0, 4]] = true := by decide +kernel
theorem dX12_go_111 : decode cX12_go 111 = .ok (.iconst 0, 1) := dc_3 (sg_at zd_dX12_go_111 0 rfl rfl)
theorem dX12_go_112 : decode cX12_go 112 = .ok (.istore 5, 2) := dc_54 (sg_at zd_dX12_go_111 1 rfl rfl)
theorem dX12_go_114 : decode cX12_go 114 = .ok (.iinc 6 1, 3) := dc_132 (sg_at zd_dX12_go_111 2 rfl rfl) rfl
theorem dX12_go_117 : decode cX12_go 117 = .ok (.goto (-63), 3) := dc_167 (sg_at zd_dX12_go_111 3 rfl rfl) rfl
theorem dX12_go_120 : decode cX12_go 120 = .ok (.aload_n 0, 1) := dc_42 (sg_at zd_dX12_go_111 4 rfl rfl)
theorem dX12_go_121 : decode cX12_go 121 = .ok (.iload_n 1, 1) := dc_27 (sg_at zd_dX12_go_111 5 rfl rfl)
theorem dX12_go_122 : decode cX12_go 122 = .ok (.iload_n 2, 1) := dc_28 (sg_at zd_dX12_go_111 6 rfl rfl)
theorem dX12_go_123 : decode cX12_go 123 = .ok (.aload_n 0, 1) := dc_42 (sg_at zd_dX12_go_111 7 rfl rfl)
theorem dX12_go_124 : decode cX12_go 124 = .ok (.getfield 88, 3) := dc_180 (sg_at zd_dX12_go_111 8 rfl rfl) rfl
theorem dX12_go_127 : decode cX12_go 127 = .ok (.iload_n 1, 1) := dc_27 (sg_at zd_dX12_go_111 9 rfl rfl)
theorem dX12_go_128 : decode cX12_go 128 = .ok (.iaload, 1) := dc_46 (sg_at zd_dX12_go_111 10 rfl rfl)
theorem dX12_go_129 : decode cX12_go 129 = .ok (.invokevirtual 479, 3) := dc_182 (sg_at zd_dX12_go_111 11 rfl rfl) rfl
theorem dX12_go_132 : decode cX12_go 132 = .ok (.iload_n 3, 1) := dc_29 (sg_at zd_dX12_go_111 12 rfl rfl)
theorem dX12_go_133 : decode cX12_go 133 = .ok (.bipush 100, 2) := dc_16 (sg_at zd_dX12_go_111 13 rfl rfl) rfl
theorem dX12_go_135 : decode cX12_go 135 = .ok (.iload 4, 2) := dc_21 (sg_at zd_dX12_go_111 14 rfl rfl)
theorem dX12_go_137 : decode cX12_go 137 = .ok (.isub, 1) := dc_100 (sg_at zd_dX12_go_111 15 rfl rfl)
theorem dX12_go_138 : decode cX12_go 138 = .ok (.imul, 1) := dc_104 (sg_at zd_dX12_go_111 16 rfl rfl)
theorem dX12_go_139 : decode cX12_go 139 = .ok (.if_icmp .le 7, 3) := dc_164 (sg_at zd_dX12_go_111 17 rfl rfl) rfl
theorem dX12_go_142 : decode cX12_go 142 = .ok (.iconst 1, 1) := dc_4 (sg_at zd_dX12_go_111 18 rfl rfl)
theorem dX12_go_143 : decode cX12_go 143 = .ok (.goto 4, 3) := dc_167 (sg_at zd_dX12_go_111 19 rfl rfl) rfl
theorem zd_dX12_go_146 : sg (cX12_go.data.toList.drop 146) [[3], [172]] = true := by decide +kernel
theorem dX12_go_146 : decode cX12_go 146 = .ok (.iconst 0, 1) := dc_3 (sg_at zd_dX12_go_146 0 rfl rfl)
theorem dX12_go_147 : decode cX12_go 147 = .ok (.ireturn, 1) := dc_172 (sg_at zd_dX12_go_146 1 rfl rfl)
theorem zd_dX12_plain_0 : sg (cX12_plain.data.toList.drop 0) [[42], [16, 6], [181, 0, 216], [42], [7], [181, 0, 219], [42], [3], [181, 0, 222], [42], [3], [181, 0, 225], [42], [3], [181, 0, 228], [42], [3], [181, 0, 231], [42], [3]] = true := by decide +kernel
theorem dX12_plain_0 : decode cX12_plain 0 = .ok (.aload_n 0, 1) := dc_42 (sg_at zd_dX12_plain_0 0 rfl rfl)
theorem dX12_plain_1 : decode cX12_plain 1 = .ok (.bipush 6, 2) := dc_16 (sg_at zd_dX12_plain_0 1 rfl rfl) rfl
theorem dX12_plain_3 : decode cX12_plain 3 = .ok (.putfield 216, 3) := dc_181 (sg_at zd_dX12_plain_0 2 rfl rfl) rfl
theorem dX12_plain_6 : decode cX12_plain 6 = .ok (.aload_n 0, 1) := dc_42 (sg_at zd_dX12_plain_0 3 rfl rfl)
theorem dX12_plain_7 : decode cX12_plain 7 = .ok (.iconst 4, 1) := dc_7 (sg_at zd_dX12_plain_0 4 rfl rfl)
theorem dX12_plain_8 : decode cX12_plain 8 = .ok (.putfield 219, 3) := dc_181 (sg_at zd_dX12_plain_0 5 rfl rfl) rfl
theorem dX12_plain_11 : decode cX12_plain 11 = .ok (.aload_n 0, 1) := dc_42 (sg_at zd_dX12_plain_0 6 rfl rfl)
theorem dX12_plain_12 : decode cX12_plain 12 = .ok (.iconst 0, 1) := dc_3 (sg_at zd_dX12_plain_0 7 rfl rfl)
theorem dX12_plain_13 : decode cX12_plain 13 = .ok (.putfield 222, 3) := dc_181 (sg_at zd_dX12_plain_0 8 rfl rfl) rfl
theorem dX12_plain_16 : decode cX12_plain 16 = .ok (.aload_n 0, 1) := dc_42 (sg_at zd_dX12_plain_0 9 rfl rfl)
theorem dX12_plain_17 : decode cX12_plain 17 = .ok (.iconst 0, 1) := dc_3 (sg_at zd_dX12_plain_0 10 rfl rfl)
theorem dX12_plain_18 : decode cX12_plain 18 = .ok (.putfield 225, 3) := dc_181 (sg_at zd_dX12_plain_0 11 rfl rfl) rfl
theorem dX12_plain_21 : decode cX12_plain 21 = .ok (.aload_n 0, 1) := dc_42 (sg_at zd_dX12_plain_0 12 rfl rfl)
theorem dX12_plain_22 : decode cX12_plain 22 = .ok (.iconst 0, 1) := dc_3 (sg_at zd_dX12_plain_0 13 rfl rfl)
theorem dX12_plain_23 : decode cX12_plain 23 = .ok (.putfield 228, 3) := dc_181 (sg_at zd_dX12_plain_0 14 rfl rfl) rfl
theorem dX12_plain_26 : decode cX12_plain 26 = .ok (.aload_n 0, 1) := dc_42 (sg_at zd_dX12_plain_0 15 rfl rfl)
theorem dX12_plain_27 : decode cX12_plain 27 = .ok (.iconst 0, 1) := dc_3 (sg_at zd_dX12_plain_0 16 rfl rfl)
theorem dX12_plain_28 : decode cX12_plain 28 = .ok (.putfield 231, 3) := dc_181 (sg_at zd_dX12_plain_0 17 rfl rfl) rfl
theorem dX12_plain_31 : decode cX12_plain 31 = .ok (.aload_n 0, 1) := dc_42 (sg_at zd_dX12_plain_0 18 rfl rfl)
theorem dX12_plain_32 : decode cX12_plain 32 = .ok (.iconst 0, 1) := dc_3 (sg_at zd_dX12_plain_0 19 rfl rfl)
theorem zd_dX12_plain_33 : sg (cX12_plain.data.toList.drop 33) [[181, 0, 234], [42], [3], [181, 0, 237], [3], [60], [27], [8], [162, 0, 16], [42], [180, 0, 20], [27], [3], [84], [132, 1, 1], [167, 255, 241], [16, 7], [60], [27], [16, 14]] = true := by decide +kernel
theorem dX12_plain_33 : decode cX12_plain 33 = .ok (.putfield 234, 3) := dc_181 (sg_at zd_dX12_plain_33 0 rfl rfl) rfl
theorem dX12_plain_36 : decode cX12_plain 36 = .ok (.aload_n 0, 1) := dc_42 (sg_at zd_dX12_plain_33 1 rfl rfl)
theorem dX12_plain_37 : decode cX12_plain 37 = .ok (.iconst 0, 1) := dc_3 (sg_at zd_dX12_plain_33 2 rfl rfl)
theorem dX12_plain_38 : decode cX12_plain 38 = .ok (.putfield 237, 3) := dc_181 (sg_at zd_dX12_plain_33 3 rfl rfl) rfl
theorem dX12_plain_41 : decode cX12_plain 41 = .ok (.iconst 0, 1) := dc_3 (sg_at zd_dX12_plain_33 4 rfl rfl)
theorem dX12_plain_42 : decode cX12_plain 42 = .ok (.istore_n 1, 1) := dc_60 (sg_at zd_dX12_plain_33 5 rfl rfl)
theorem dX12_plain_43 : decode cX12_plain 43 = .ok (.iload_n 1, 1) := dc_27 (sg_at zd_dX12_plain_33 6 rfl rfl)
theorem dX12_plain_44 : decode cX12_plain 44 = .ok (.iconst 5, 1) := dc_8 (sg_at zd_dX12_plain_33 7 rfl rfl)
theorem dX12_plain_45 : decode cX12_plain 45 = .ok (.if_icmp .ge 16, 3) := dc_162 (sg_at zd_dX12_plain_33 8 rfl rfl) rfl
theorem dX12_plain_48 : decode cX12_plain 48 = .ok (.aload_n 0, 1) := dc_42 (sg_at zd_dX12_plain_33 9 rfl rfl)
theorem dX12_plain_49 : decode cX12_plain 49 = .ok (.getfield 20, 3) := dc_180 (sg_at zd_dX12_plain_33 10 rfl rfl) rfl
theorem dX12_plain_52 : decode cX12_plain 52 = .ok (.iload_n 1, 1) := dc_27 (sg_at zd_dX12_plain_33 11 rfl rfl)
theorem dX12_plain_53 : decode cX12_plain 53 = .ok (.iconst 0, 1) := dc_3 (sg_at zd_dX12_plain_33 12 rfl rfl)
theorem dX12_plain_54 : decode cX12_plain 54 = .ok (.bastore, 1) := dc_84 (sg_at zd_dX12_plain_33 13 rfl rfl)
theorem dX12_plain_55 : decode cX12_plain 55 = .ok (.iinc 1 1, 3) := dc_132 (sg_at zd_dX12_plain_33 14 rfl rfl) rfl
theorem dX12_plain_58 : decode cX12_plain 58 = .ok (.goto (-15), 3) := dc_167 (sg_at zd_dX12_plain_33 15 rfl rfl) rfl
theorem dX12_plain_61 : decode cX12_plain 61 = .ok (.bipush 7, 2) := dc_16 (sg_at zd_dX12_plain_33 16 rfl rfl) rfl
theorem dX12_plain_63 : decode cX12_plain 63 = .ok (.istore_n 1, 1) := dc_60 (sg_at zd_dX12_plain_33 17 rfl rfl)
theorem dX12_plain_64 : decode cX12_plain 64 = .ok (.iload_n 1, 1) := dc_27 (sg_at zd_dX12_plain_33 18 rfl rfl)
theorem dX12_plain_65 : decode cX12_plain 65 = .ok (.bipush 14, 2) := dc_16 (sg_at zd_dX12_plain_33 19 rfl rfl) rfl
theorem zd_dX12_plain_67 : sg (cX12_plain.data.toList.drop 67) [[162, 0, 16], [42], [180, 0, 24], [27], [3], [79], [132, 1, 1], [167, 255, 240], [6], [60], [27], [16, 6], [162, 0, 16], [42], [180, 0, 57], [27], [3], [84], [132, 1, 1], [167, 255, 240]] = true := by decide +kernel
theorem dX12_plain_67 : decode cX12_plain 67 = .ok (.if_icmp .ge 16, 3) := dc_162 (sg_at zd_dX12_plain_67 0 rfl rfl) rfl
theorem dX12_plain_70 : decode cX12_plain 70 = .ok (.aload_n 0, 1) := dc_42 (sg_at zd_dX12_plain_67 1 rfl rfl)
theorem dX12_plain_71 : decode cX12_plain 71 = .ok (.getfield 24, 3) := dc_180 (sg_at zd_dX12_plain_67 2 rfl rfl) rfl
theorem dX12_plain_74 : decode cX12_plain 74 = .ok (.iload_n 1, 1) := dc_27 (sg_at zd_dX12_plain_67 3 rfl rfl)
theorem dX12_plain_75 : decode cX12_plain 75 = .ok (.iconst 0, 1) := dc_3 (sg_at zd_dX12_plain_67 4 rfl rfl)
theorem dX12_plain_76 : decode cX12_plain 76 = .ok (.iastore, 1) := dc_79 (sg_at zd_dX12_plain_67 5 rfl rfl)
theorem dX12_plain_77 : decode cX12_plain 77 = .ok (.iinc 1 1, 3) := dc_132 (sg_at zd_dX12_plain_67 6 rfl rfl) rfl
theorem dX12_plain_80 : decode cX12_plain 80 = .ok (.goto (-16), 3) := dc_167 (sg_at zd_dX12_plain_67 7 rfl rfl) rfl
theorem dX12_plain_83 : decode cX12_plain 83 = .ok (.iconst 3, 1) := dc_6 (sg_at zd_dX12_plain_67 8 rfl rfl)
theorem dX12_plain_84 : decode cX12_plain 84 = .ok (.istore_n 1, 1) := dc_60 (sg_at zd_dX12_plain_67 9 rfl rfl)
theorem dX12_plain_85 : decode cX12_plain 85 = .ok (.iload_n 1, 1) := dc_27 (sg_at zd_dX12_plain_67 10 rfl rfl)
theorem dX12_plain_86 : decode cX12_plain 86 = .ok (.bipush 6, 2) := dc_16 (sg_at zd_dX12_plain_67 11 rfl rfl) rfl
theorem dX12_plain_88 : decode cX12_plain 88 = .ok (.if_icmp .ge 16, 3) := dc_162 (sg_at zd_dX12_plain_67 12 rfl rfl) rfl
theorem dX12_plain_91 : decode cX12_plain 91 = .ok (.aload_n 0, 1) := dc_42 (sg_at zd_dX12_plain_67 13 rfl rfl)
theorem dX12_plain_92 : decode cX12_plain 92 = .ok (.getfield 57, 3) := dc_180 (sg_at zd_dX12_plain_67 14 rfl rfl) rfl
theorem dX12_plain_95 : decode cX12_plain 95 = .ok (.iload_n 1, 1) := dc_27 (sg_at zd_dX12_plain_67 15 rfl rfl)
theorem dX12_plain_96 : decode cX12_plain 96 = .ok (.iconst 0, 1) := dc_3 (sg_at zd_dX12_plain_67 16 rfl rfl)
theorem dX12_plain_97 : decode cX12_plain 97 = .ok (.bastore, 1) := dc_84 (sg_at zd_dX12_plain_67 17 rfl rfl)
theorem dX12_plain_98 : decode cX12_plain 98 = .ok (.iinc 1 1, 3) := dc_132 (sg_at zd_dX12_plain_67 18 rfl rfl) rfl
theorem dX12_plain_101 : decode cX12_plain 101 = .ok (.goto (-16), 3) := dc_167 (sg_at zd_dX12_plain_67 19 rfl rfl) rfl
theorem zd_dX12_plain_104 : sg (cX12_plain.data.toList.drop 104) [[177]] = true := by decide +kernel
theorem dX12_plain_104 : decode cX12_plain 104 = .ok (.return_, 1) := dc_177 (sg_at zd_dX12_plain_104 0 rfl rfl)
theorem zd_dX12_keepText_0 : sg (cX12_keepText.data.toList.drop 0) [[42], [42], [180, 0, 216], [181, 0, 241], [42], [42], [180, 0, 219], [181, 0, 244], [42], [42], [180, 0, 222], [181, 0, 247], [42], [42], [180, 0, 225], [181, 0, 250], [42], [42], [180, 0, 228], [181, 0, 253]] = true := by decide +kernel
theorem dX12_keepText_0 : decode cX12_keepText 0 = .ok (.aload_n 0, 1) := dc_42 (sg_at zd_dX12_keepText_0 0 rfl rfl)
theorem dX12_keepText_1 : decode cX12_keepText 1 = .ok (.aload_n 0, 1) := dc_42 (sg_at zd_dX12_keepText_0 1 rfl rfl)
theorem dX12_keepText_2 : decode cX12_keepText 2 = .ok (.getfield 216, 3) := dc_180 (sg_at zd_dX12_keepText_0 2 rfl rfl) rfl
theorem dX12_keepText_5 : decode cX12_keepText 5 = .ok (.putfield 241, 3) := dc_181 (sg_at zd_dX12_keepText_0 3 rfl rfl) rfl
theorem dX12_keepText_8 : decode cX12_keepText 8 = .ok (.aload_n 0, 1) := dc_42 (sg_at zd_dX12_keepText_0 4 rfl rfl)
theorem dX12_keepText_9 : decode cX12_keepText 9 = .ok (.aload_n 0, 1) := dc_42 (sg_at zd_dX12_keepText_0 5 rfl rfl)
theorem dX12_keepText_10 : decode cX12_keepText 10 = .ok (.getfield 219, 3) := dc_180 (sg_at zd_dX12_keepText_0 6 rfl rfl) rfl
theorem dX12_keepText_13 : decode cX12_keepText 13 = .ok (.putfield 244, 3) := dc_181 (sg_at zd_dX12_keepText_0 7 rfl rfl) rfl
theorem dX12_keepText_16 : decode cX12_keepText 16 = .ok (.aload_n 0, 1) := dc_42 (sg_at zd_dX12_keepText_0 8 rfl rfl)
theorem dX12_keepText_17 : decode cX12_keepText 17 = .ok (.aload_n 0, 1) := dc_42 (sg_at zd_dX12_keepText_0 9 rfl rfl)
theorem dX12_keepText_18 : decode cX12_keepText 18 = .ok (.getfield 222, 3) := dc_180 (sg_at zd_dX12_keepText_0 10 rfl rfl) rfl
theorem dX12_keepText_21 : decode cX12_keepText 21 = .ok (.putfield 247, 3) := dc_181 (sg_at zd_dX12_keepText_0 11 rfl rfl) rfl
theorem dX12_keepText_24 : decode cX12_keepText 24 = .ok (.aload_n 0, 1) := dc_42 (sg_at zd_dX12_keepText_0 12 rfl rfl)
theorem dX12_keepText_25 : decode cX12_keepText 25 = .ok (.aload_n 0, 1) := dc_42 (sg_at zd_dX12_keepText_0 13 rfl rfl)
theorem dX12_keepText_26 : decode cX12_keepText 26 = .ok (.getfield 225, 3) := dc_180 (sg_at zd_dX12_keepText_0 14 rfl rfl) rfl
theorem dX12_keepText_29 : decode cX12_keepText 29 = .ok (.putfield 250, 3) := dc_181 (sg_at zd_dX12_keepText_0 15 rfl rfl) rfl
theorem dX12_keepText_32 : decode cX12_keepText 32 = .ok (.aload_n 0, 1) := dc_42 (sg_at zd_dX12_keepText_0 16 rfl rfl)
theorem dX12_keepText_33 : decode cX12_keepText 33 = .ok (.aload_n 0, 1) := dc_42 (sg_at zd_dX12_keepText_0 17 rfl rfl)
theorem dX12_keepText_34 : decode cX12_keepText 34 = .ok (.getfield 228, 3) := dc_180 (sg_at zd_dX12_keepText_0 18 rfl rfl) rfl
theorem dX12_keepText_37 : decode cX12_keepText 37 = .ok (.putfield 253, 3) := dc_181 (sg_at zd_dX12_keepText_0 19 rfl rfl) rfl
theorem zd_dX12_keepText_40 : sg (cX12_keepText.data.toList.drop 40) [[42], [42], [180, 0, 231], [181, 1, 0], [42], [180, 0, 24], [16, 7], [184, 1, 3], [42], [180, 0, 27], [8], [184, 1, 3], [42], [180, 0, 30], [8], [184, 1, 3], [42], [180, 0, 33], [8], [184, 1, 3]] = true := by decide +kernel
theorem dX12_keepText_40 : decode cX12_keepText 40 = .ok (.aload_n 0, 1) := dc_42 (sg_at zd_dX12_keepText_40 0 rfl rfl)
theorem dX12_keepText_41 : decode cX12_keepText 41 = .ok (.aload_n 0, 1) := dc_42 (sg_at zd_dX12_keepText_40 1 rfl rfl)
theorem dX12_keepText_42 : decode cX12_keepText 42 = .ok (.getfield 231, 3) := dc_180 (sg_at zd_dX12_keepText_40 2 rfl rfl) rfl
theorem dX12_keepText_45 : decode cX12_keepText 45 = .ok (.putfield 256, 3) := dc_181 (sg_at zd_dX12_keepText_40 3 rfl rfl) rfl
theorem dX12_keepText_48 : decode cX12_keepText 48 = .ok (.aload_n 0, 1) := dc_42 (sg_at zd_dX12_keepText_40 4 rfl rfl)
theorem dX12_keepText_49 : decode cX12_keepText 49 = .ok (.getfield 24, 3) := dc_180 (sg_at zd_dX12_keepText_40 5 rfl rfl) rfl
theorem dX12_keepText_52 : decode cX12_keepText 52 = .ok (.bipush 7, 2) := dc_16 (sg_at zd_dX12_keepText_40 6 rfl rfl) rfl
theorem dX12_keepText_54 : decode cX12_keepText 54 = .ok (.invokestatic 259, 3) := dc_184 (sg_at zd_dX12_keepText_40 7 rfl rfl) rfl
theorem dX12_keepText_57 : decode cX12_keepText 57 = .ok (.aload_n 0, 1) := dc_42 (sg_at zd_dX12_keepText_40 8 rfl rfl)
theorem dX12_keepText_58 : decode cX12_keepText 58 = .ok (.getfield 27, 3) := dc_180 (sg_at zd_dX12_keepText_40 9 rfl rfl) rfl
theorem dX12_keepText_61 : decode cX12_keepText 61 = .ok (.iconst 5, 1) := dc_8 (sg_at zd_dX12_keepText_40 10 rfl rfl)
theorem dX12_keepText_62 : decode cX12_keepText 62 = .ok (.invokestatic 259, 3) := dc_184 (sg_at zd_dX12_keepText_40 11 rfl rfl) rfl
theorem dX12_keepText_65 : decode cX12_keepText 65 = .ok (.aload_n 0, 1) := dc_42 (sg_at zd_dX12_keepText_40 12 rfl rfl)
theorem dX12_keepText_66 : decode cX12_keepText 66 = .ok (.getfield 30, 3) := dc_180 (sg_at zd_dX12_keepText_40 13 rfl rfl) rfl
theorem dX12_keepText_69 : decode cX12_keepText 69 = .ok (.iconst 5, 1) := dc_8 (sg_at zd_dX12_keepText_40 14 rfl rfl)
theorem dX12_keepText_70 : decode cX12_keepText 70 = .ok (.invokestatic 259, 3) := dc_184 (sg_at zd_dX12_keepText_40 15 rfl rfl) rfl
theorem dX12_keepText_73 : decode cX12_keepText 73 = .ok (.aload_n 0, 1) := dc_42 (sg_at zd_dX12_keepText_40 16 rfl rfl)
theorem dX12_keepText_74 : decode cX12_keepText 74 = .ok (.getfield 33, 3) := dc_180 (sg_at zd_dX12_keepText_40 17 rfl rfl) rfl
theorem dX12_keepText_77 : decode cX12_keepText 77 = .ok (.iconst 5, 1) := dc_8 (sg_at zd_dX12_keepText_40 18 rfl rfl)
theorem dX12_keepText_78 : decode cX12_keepText 78 = .ok (.invokestatic 259, 3) := dc_184 (sg_at zd_dX12_keepText_40 19 rfl rfl) rfl
theorem zd_dX12_keepText_81 : sg (cX12_keepText.data.toList.drop 81) [[42], [180, 0, 36], [8], [184, 1, 3], [42], [180, 0, 39], [8], [184, 1, 3], [42], [180, 0, 42], [8], [184, 1, 3], [42], [180, 0, 45], [7], [184, 1, 3], [42], [180, 0, 48], [16, 28], [184, 1, 3]] = true := by decide +kernel
theorem dX12_keepText_81 : decode cX12_keepText 81 = .ok (.aload_n 0, 1) := dc_42 (sg_at zd_dX12_keepText_81 0 rfl rfl)
theorem dX12_keepText_82 : decode cX12_keepText 82 = .ok (.getfield 36, 3) := dc_180 (sg_at zd_dX12_keepText_81 1 rfl rfl) rfl
theorem dX12_keepText_85 : decode cX12_keepText 85 = .ok (.iconst 5, 1) := dc_8 (sg_at zd_dX12_keepText_81 2 rfl rfl)
theorem dX12_keepText_86 : decode cX12_keepText 86 = .ok (.invokestatic 259, 3) := dc_184 (sg_at zd_dX12_keepText_81 3 rfl rfl) rfl
theorem dX12_keepText_89 : decode cX12_keepText 89 = .ok (.aload_n 0, 1) := dc_42 (sg_at zd_dX12_keepText_81 4 rfl rfl)
theorem dX12_keepText_90 : decode cX12_keepText 90 = .ok (.getfield 39, 3) := dc_180 (sg_at zd_dX12_keepText_81 5 rfl rfl) rfl
theorem dX12_keepText_93 : decode cX12_keepText 93 = .ok (.iconst 5, 1) := dc_8 (sg_at zd_dX12_keepText_81 6 rfl rfl)
theorem dX12_keepText_94 : decode cX12_keepText 94 = .ok (.invokestatic 259, 3) := dc_184 (sg_at zd_dX12_keepText_81 7 rfl rfl) rfl
theorem dX12_keepText_97 : decode cX12_keepText 97 = .ok (.aload_n 0, 1) := dc_42 (sg_at zd_dX12_keepText_81 8 rfl rfl)
theorem dX12_keepText_98 : decode cX12_keepText 98 = .ok (.getfield 42, 3) := dc_180 (sg_at zd_dX12_keepText_81 9 rfl rfl) rfl
theorem dX12_keepText_101 : decode cX12_keepText 101 = .ok (.iconst 5, 1) := dc_8 (sg_at zd_dX12_keepText_81 10 rfl rfl)
theorem dX12_keepText_102 : decode cX12_keepText 102 = .ok (.invokestatic 259, 3) := dc_184 (sg_at zd_dX12_keepText_81 11 rfl rfl) rfl
theorem dX12_keepText_105 : decode cX12_keepText 105 = .ok (.aload_n 0, 1) := dc_42 (sg_at zd_dX12_keepText_81 12 rfl rfl)
theorem dX12_keepText_106 : decode cX12_keepText 106 = .ok (.getfield 45, 3) := dc_180 (sg_at zd_dX12_keepText_81 13 rfl rfl) rfl
theorem dX12_keepText_109 : decode cX12_keepText 109 = .ok (.iconst 4, 1) := dc_7 (sg_at zd_dX12_keepText_81 14 rfl rfl)
theorem dX12_keepText_110 : decode cX12_keepText 110 = .ok (.invokestatic 259, 3) := dc_184 (sg_at zd_dX12_keepText_81 15 rfl rfl) rfl
theorem dX12_keepText_113 : decode cX12_keepText 113 = .ok (.aload_n 0, 1) := dc_42 (sg_at zd_dX12_keepText_81 16 rfl rfl)
theorem dX12_keepText_114 : decode cX12_keepText 114 = .ok (.getfield 48, 3) := dc_180 (sg_at zd_dX12_keepText_81 17 rfl rfl) rfl
theorem dX12_keepText_117 : decode cX12_keepText 117 = .ok (.bipush 28, 2) := dc_16 (sg_at zd_dX12_keepText_81 18 rfl rfl) rfl
theorem dX12_keepText_119 : decode cX12_keepText 119 = .ok (.invokestatic 259, 3) := dc_184 (sg_at zd_dX12_keepText_81 19 rfl rfl) rfl
theorem zd_dX12_keepText_122 : sg (cX12_keepText.data.toList.drop 122) [[42], [180, 0, 51], [16, 28], [184, 1, 3], [42], [180, 0, 54], [16, 28], [184, 1, 3], [3], [60], [27], [6], [162, 0, 23], [42], [180, 0, 57], [27], [42], [180, 0, 57], [6], [27]] = true := by decide +kernel
theorem dX12_keepText_122 : decode cX12_keepText 122 = .ok (.aload_n 0, 1) := dc_42 (sg_at zd_dX12_keepText_122 0 rfl rfl)
theorem dX12_keepText_123 : decode cX12_keepText 123 = .ok (.getfield 51, 3) := dc_180 (sg_at zd_dX12_keepText_122 1 rfl rfl) rfl
theorem dX12_keepText_126 : decode cX12_keepText 126 = .ok (.bipush 28, 2) := dc_16 (sg_at zd_dX12_keepText_122 2 rfl rfl) rfl
theorem dX12_keepText_128 : decode cX12_keepText 128 = .ok (.invokestatic 259, 3) := dc_184 (sg_at zd_dX12_keepText_122 3 rfl rfl) rfl
theorem dX12_keepText_131 : decode cX12_keepText 131 = .ok (.aload_n 0, 1) := dc_42 (sg_at zd_dX12_keepText_122 4 rfl rfl)
theorem dX12_keepText_132 : decode cX12_keepText 132 = .ok (.getfield 54, 3) := dc_180 (sg_at zd_dX12_keepText_122 5 rfl rfl) rfl
theorem dX12_keepText_135 : decode cX12_keepText 135 = .ok (.bipush 28, 2) := dc_16 (sg_at zd_dX12_keepText_122 6 rfl rfl) rfl
theorem dX12_keepText_137 : decode cX12_keepText 137 = .ok (.invokestatic 259, 3) := dc_184 (sg_at zd_dX12_keepText_122 7 rfl rfl) rfl
theorem dX12_keepText_140 : decode cX12_keepText 140 = .ok (.iconst 0, 1) := dc_3 (sg_at zd_dX12_keepText_122 8 rfl rfl)
theorem dX12_keepText_141 : decode cX12_keepText 141 = .ok (.istore_n 1, 1) := dc_60 (sg_at zd_dX12_keepText_122 9 rfl rfl)
theorem dX12_keepText_142 : decode cX12_keepText 142 = .ok (.iload_n 1, 1) := dc_27 (sg_at zd_dX12_keepText_122 10 rfl rfl)
theorem dX12_keepText_143 : decode cX12_keepText 143 = .ok (.iconst 3, 1) := dc_6 (sg_at zd_dX12_keepText_122 11 rfl rfl)
theorem dX12_keepText_144 : decode cX12_keepText 144 = .ok (.if_icmp .ge 23, 3) := dc_162 (sg_at zd_dX12_keepText_122 12 rfl rfl) rfl
theorem dX12_keepText_147 : decode cX12_keepText 147 = .ok (.aload_n 0, 1) := dc_42 (sg_at zd_dX12_keepText_122 13 rfl rfl)
theorem dX12_keepText_148 : decode cX12_keepText 148 = .ok (.getfield 57, 3) := dc_180 (sg_at zd_dX12_keepText_122 14 rfl rfl) rfl
theorem dX12_keepText_151 : decode cX12_keepText 151 = .ok (.iload_n 1, 1) := dc_27 (sg_at zd_dX12_keepText_122 15 rfl rfl)
theorem dX12_keepText_152 : decode cX12_keepText 152 = .ok (.aload_n 0, 1) := dc_42 (sg_at zd_dX12_keepText_122 16 rfl rfl)
theorem dX12_keepText_153 : decode cX12_keepText 153 = .ok (.getfield 57, 3) := dc_180 (sg_at zd_dX12_keepText_122 17 rfl rfl) rfl
theorem dX12_keepText_156 : decode cX12_keepText 156 = .ok (.iconst 3, 1) := dc_6 (sg_at zd_dX12_keepText_122 18 rfl rfl)
theorem dX12_keepText_157 : decode cX12_keepText 157 = .ok (.iload_n 1, 1) := dc_27 (sg_at zd_dX12_keepText_122 19 rfl rfl)
theorem zd_dX12_keepText_158 : sg (cX12_keepText.data.toList.drop 158) [[96], [51], [84], [132, 1, 1], [167, 255, 234], [42], [180, 0, 60], [6], [184, 1, 3], [42], [180, 0, 63], [6], [184, 1, 3], [42], [180, 0, 66], [16, 64], [184, 1, 3], [42], [180, 0, 69], [16, 64]] = true := by decide +kernel
theorem dX12_keepText_158 : decode cX12_keepText 158 = .ok (.iadd, 1) := dc_96 (sg_at zd_dX12_keepText_158 0 rfl rfl)
theorem dX12_keepText_159 : decode cX12_keepText 159 = .ok (.baload, 1) := dc_51 (sg_at zd_dX12_keepText_158 1 rfl rfl)
theorem dX12_keepText_160 : decode cX12_keepText 160 = .ok (.bastore, 1) := dc_84 (sg_at zd_dX12_keepText_158 2 rfl rfl)
theorem dX12_keepText_161 : decode cX12_keepText 161 = .ok (.iinc 1 1, 3) := dc_132 (sg_at zd_dX12_keepText_158 3 rfl rfl) rfl
theorem dX12_keepText_164 : decode cX12_keepText 164 = .ok (.goto (-22), 3) := dc_167 (sg_at zd_dX12_keepText_158 4 rfl rfl) rfl
theorem dX12_keepText_167 : decode cX12_keepText 167 = .ok (.aload_n 0, 1) := dc_42 (sg_at zd_dX12_keepText_158 5 rfl rfl)
theorem dX12_keepText_168 : decode cX12_keepText 168 = .ok (.getfield 60, 3) := dc_180 (sg_at zd_dX12_keepText_158 6 rfl rfl) rfl
theorem dX12_keepText_171 : decode cX12_keepText 171 = .ok (.iconst 3, 1) := dc_6 (sg_at zd_dX12_keepText_158 7 rfl rfl)
theorem dX12_keepText_172 : decode cX12_keepText 172 = .ok (.invokestatic 259, 3) := dc_184 (sg_at zd_dX12_keepText_158 8 rfl rfl) rfl
theorem dX12_keepText_175 : decode cX12_keepText 175 = .ok (.aload_n 0, 1) := dc_42 (sg_at zd_dX12_keepText_158 9 rfl rfl)
theorem dX12_keepText_176 : decode cX12_keepText 176 = .ok (.getfield 63, 3) := dc_180 (sg_at zd_dX12_keepText_158 10 rfl rfl) rfl
theorem dX12_keepText_179 : decode cX12_keepText 179 = .ok (.iconst 3, 1) := dc_6 (sg_at zd_dX12_keepText_158 11 rfl rfl)
theorem dX12_keepText_180 : decode cX12_keepText 180 = .ok (.invokestatic 259, 3) := dc_184 (sg_at zd_dX12_keepText_158 12 rfl rfl) rfl
theorem dX12_keepText_183 : decode cX12_keepText 183 = .ok (.aload_n 0, 1) := dc_42 (sg_at zd_dX12_keepText_158 13 rfl rfl)
theorem dX12_keepText_184 : decode cX12_keepText 184 = .ok (.getfield 66, 3) := dc_180 (sg_at zd_dX12_keepText_158 14 rfl rfl) rfl
theorem dX12_keepText_187 : decode cX12_keepText 187 = .ok (.bipush 64, 2) := dc_16 (sg_at zd_dX12_keepText_158 15 rfl rfl) rfl
theorem dX12_keepText_189 : decode cX12_keepText 189 = .ok (.invokestatic 259, 3) := dc_184 (sg_at zd_dX12_keepText_158 16 rfl rfl) rfl
theorem dX12_keepText_192 : decode cX12_keepText 192 = .ok (.aload_n 0, 1) := dc_42 (sg_at zd_dX12_keepText_158 17 rfl rfl)
theorem dX12_keepText_193 : decode cX12_keepText 193 = .ok (.getfield 69, 3) := dc_180 (sg_at zd_dX12_keepText_158 18 rfl rfl) rfl
theorem dX12_keepText_196 : decode cX12_keepText 196 = .ok (.bipush 64, 2) := dc_16 (sg_at zd_dX12_keepText_158 19 rfl rfl) rfl
theorem zd_dX12_keepText_198 : sg (cX12_keepText.data.toList.drop 198) [[184, 1, 3], [42], [180, 0, 72], [16, 64], [184, 1, 3], [42], [182, 1, 7], [177]] = true := by decide +kernel
theorem dX12_keepText_198 : decode cX12_keepText 198 = .ok (.invokestatic 259, 3) := dc_184 (sg_at zd_dX12_keepText_198 0 rfl rfl) rfl
theorem dX12_keepText_201 : decode cX12_keepText 201 = .ok (.aload_n 0, 1) := dc_42 (sg_at zd_dX12_keepText_198 1 rfl rfl)
theorem dX12_keepText_202 : decode cX12_keepText 202 = .ok (.getfield 72, 3) := dc_180 (sg_at zd_dX12_keepText_198 2 rfl rfl) rfl
theorem dX12_keepText_205 : decode cX12_keepText 205 = .ok (.bipush 64, 2) := dc_16 (sg_at zd_dX12_keepText_198 3 rfl rfl) rfl
theorem dX12_keepText_207 : decode cX12_keepText 207 = .ok (.invokestatic 259, 3) := dc_184 (sg_at zd_dX12_keepText_198 4 rfl rfl) rfl
theorem dX12_keepText_210 : decode cX12_keepText 210 = .ok (.aload_n 0, 1) := dc_42 (sg_at zd_dX12_keepText_198 5 rfl rfl)
theorem dX12_keepText_211 : decode cX12_keepText 211 = .ok (.invokevirtual 263, 3) := dc_182 (sg_at zd_dX12_keepText_198 6 rfl rfl) rfl
theorem dX12_keepText_214 : decode cX12_keepText 214 = .ok (.return_, 1) := dc_177 (sg_at zd_dX12_keepText_198 7 rfl rfl)
theorem zd_dX12_isCell_0 : sg (cX12_isCell.data.toList.drop 0) [[27], [155, 0, 15], [27], [42], [182, 1, 110], [162, 0, 7], [4], [167, 0, 4], [3], [172]] = true := by decide +kernel
theorem dX12_isCell_0 : decode cX12_isCell 0 = .ok (.iload_n 1, 1) := dc_27 (sg_at zd_dX12_isCell_0 0 rfl rfl)
theorem dX12_isCell_1 : decode cX12_isCell 1 = .ok (.ifCond .lt 15, 3) := dc_155 (sg_at zd_dX12_isCell_0 1 rfl rfl) rfl
theorem dX12_isCell_4 : decode cX12_isCell 4 = .ok (.iload_n 1, 1) := dc_27 (sg_at zd_dX12_isCell_0 2 rfl rfl)
theorem dX12_isCell_5 : decode cX12_isCell 5 = .ok (.aload_n 0, 1) := dc_42 (sg_at zd_dX12_isCell_0 3 rfl rfl)
theorem dX12_isCell_6 : decode cX12_isCell 6 = .ok (.invokevirtual 366, 3) := dc_182 (sg_at zd_dX12_isCell_0 4 rfl rfl) rfl
theorem dX12_isCell_9 : decode cX12_isCell 9 = .ok (.if_icmp .ge 7, 3) := dc_162 (sg_at zd_dX12_isCell_0 5 rfl rfl) rfl
theorem dX12_isCell_12 : decode cX12_isCell 12 = .ok (.iconst 1, 1) := dc_4 (sg_at zd_dX12_isCell_0 6 rfl rfl)
theorem dX12_isCell_13 : decode cX12_isCell 13 = .ok (.goto 4, 3) := dc_167 (sg_at zd_dX12_isCell_0 7 rfl rfl) rfl
theorem dX12_isCell_16 : decode cX12_isCell 16 = .ok (.iconst 0, 1) := dc_3 (sg_at zd_dX12_isCell_0 8 rfl rfl)
theorem dX12_isCell_17 : decode cX12_isCell 17 = .ok (.ireturn, 1) := dc_172 (sg_at zd_dX12_isCell_0 9 rfl rfl)
theorem zd_dX12_isCounted_0 : sg (cX12_isCounted.data.toList.drop 0) [[42], [180, 0, 234], [16, 64], [160, 0, 9], [42], [5], [182, 0, 196], [172], [42], [89], [180, 0, 234], [4], [96], [181, 0, 234], [4], [172]] = true := by decide +kernel
theorem dX12_isCounted_0 : decode cX12_isCounted 0 = .ok (.aload_n 0, 1) := dc_42 (sg_at zd_dX12_isCounted_0 0 rfl rfl)
theorem dX12_isCounted_1 : decode cX12_isCounted 1 = .ok (.getfield 234, 3) := dc_180 (sg_at zd_dX12_isCounted_0 1 rfl rfl) rfl
theorem dX12_isCounted_4 : decode cX12_isCounted 4 = .ok (.bipush 64, 2) := dc_16 (sg_at zd_dX12_isCounted_0 2 rfl rfl) rfl
theorem dX12_isCounted_6 : decode cX12_isCounted 6 = .ok (.if_icmp .ne 9, 3) := dc_160 (sg_at zd_dX12_isCounted_0 3 rfl rfl) rfl
theorem dX12_isCounted_9 : decode cX12_isCounted 9 = .ok (.aload_n 0, 1) := dc_42 (sg_at zd_dX12_isCounted_0 4 rfl rfl)
theorem dX12_isCounted_10 : decode cX12_isCounted 10 = .ok (.iconst 2, 1) := dc_5 (sg_at zd_dX12_isCounted_0 5 rfl rfl)
theorem dX12_isCounted_11 : decode cX12_isCounted 11 = .ok (.invokevirtual 196, 3) := dc_182 (sg_at zd_dX12_isCounted_0 6 rfl rfl) rfl
theorem dX12_isCounted_14 : decode cX12_isCounted 14 = .ok (.ireturn, 1) := dc_172 (sg_at zd_dX12_isCounted_0 7 rfl rfl)
theorem dX12_isCounted_15 : decode cX12_isCounted 15 = .ok (.aload_n 0, 1) := dc_42 (sg_at zd_dX12_isCounted_0 8 rfl rfl)
theorem dX12_isCounted_16 : decode cX12_isCounted 16 = .ok (.dup, 1) := dc_89 (sg_at zd_dX12_isCounted_0 9 rfl rfl)
theorem dX12_isCounted_17 : decode cX12_isCounted 17 = .ok (.getfield 234, 3) := dc_180 (sg_at zd_dX12_isCounted_0 10 rfl rfl) rfl
theorem dX12_isCounted_20 : decode cX12_isCounted 20 = .ok (.iconst 1, 1) := dc_4 (sg_at zd_dX12_isCounted_0 11 rfl rfl)
theorem dX12_isCounted_21 : decode cX12_isCounted 21 = .ok (.iadd, 1) := dc_96 (sg_at zd_dX12_isCounted_0 12 rfl rfl)
theorem dX12_isCounted_22 : decode cX12_isCounted 22 = .ok (.putfield 234, 3) := dc_181 (sg_at zd_dX12_isCounted_0 13 rfl rfl) rfl
theorem dX12_isCounted_25 : decode cX12_isCounted 25 = .ok (.iconst 1, 1) := dc_4 (sg_at zd_dX12_isCounted_0 14 rfl rfl)
theorem dX12_isCounted_26 : decode cX12_isCounted 26 = .ok (.ireturn, 1) := dc_172 (sg_at zd_dX12_isCounted_0 15 rfl rfl)
theorem zd_dX12_isKey_0 : sg (cX12_isKey.data.toList.drop 0) [[42], [180, 0, 172], [4], [160, 0, 15], [42], [180, 0, 183], [27], [160, 0, 7], [4], [167, 0, 4], [3], [172]] = true := by decide +kernel
theorem dX12_isKey_0 : decode cX12_isKey 0 = .ok (.aload_n 0, 1) := dc_42 (sg_at zd_dX12_isKey_0 0 rfl rfl)
theorem dX12_isKey_1 : decode cX12_isKey 1 = .ok (.getfield 172, 3) := dc_180 (sg_at zd_dX12_isKey_0 1 rfl rfl) rfl
theorem dX12_isKey_4 : decode cX12_isKey 4 = .ok (.iconst 1, 1) := dc_4 (sg_at zd_dX12_isKey_0 2 rfl rfl)
theorem dX12_isKey_5 : decode cX12_isKey 5 = .ok (.if_icmp .ne 15, 3) := dc_160 (sg_at zd_dX12_isKey_0 3 rfl rfl) rfl
theorem dX12_isKey_8 : decode cX12_isKey 8 = .ok (.aload_n 0, 1) := dc_42 (sg_at zd_dX12_isKey_0 4 rfl rfl)
theorem dX12_isKey_9 : decode cX12_isKey 9 = .ok (.getfield 183, 3) := dc_180 (sg_at zd_dX12_isKey_0 5 rfl rfl) rfl
theorem dX12_isKey_12 : decode cX12_isKey 12 = .ok (.iload_n 1, 1) := dc_27 (sg_at zd_dX12_isKey_0 6 rfl rfl)
theorem dX12_isKey_13 : decode cX12_isKey 13 = .ok (.if_icmp .ne 7, 3) := dc_160 (sg_at zd_dX12_isKey_0 7 rfl rfl) rfl
theorem dX12_isKey_16 : decode cX12_isKey 16 = .ok (.iconst 1, 1) := dc_4 (sg_at zd_dX12_isKey_0 8 rfl rfl)
theorem dX12_isKey_17 : decode cX12_isKey 17 = .ok (.goto 4, 3) := dc_167 (sg_at zd_dX12_isKey_0 9 rfl rfl) rfl
theorem dX12_isKey_20 : decode cX12_isKey 20 = .ok (.iconst 0, 1) := dc_3 (sg_at zd_dX12_isKey_0 10 rfl rfl)
theorem dX12_isKey_21 : decode cX12_isKey 21 = .ok (.ireturn, 1) := dc_172 (sg_at zd_dX12_isKey_0 11 rfl rfl)
theorem zd_dX12_isRest_0 : sg (cX12_isRest.data.toList.drop 0) [[42], [180, 0, 121], [27], [46], [156, 0, 5], [3], [172], [3], [61], [28], [8], [162, 0, 53], [42], [180, 0, 121], [8], [28], [104], [27], [8], [112]] = true := by decide +kernel
theorem dX12_isRest_0 : decode cX12_isRest 0 = .ok (.aload_n 0, 1) := dc_42 (sg_at zd_dX12_isRest_0 0 rfl rfl)
theorem dX12_isRest_1 : decode cX12_isRest 1 = .ok (.getfield 121, 3) := dc_180 (sg_at zd_dX12_isRest_0 1 rfl rfl) rfl
theorem dX12_isRest_4 : decode cX12_isRest 4 = .ok (.iload_n 1, 1) := dc_27 (sg_at zd_dX12_isRest_0 2 rfl rfl)
theorem dX12_isRest_5 : decode cX12_isRest 5 = .ok (.iaload, 1) := dc_46 (sg_at zd_dX12_isRest_0 3 rfl rfl)
theorem dX12_isRest_6 : decode cX12_isRest 6 = .ok (.ifCond .ge 5, 3) := dc_156 (sg_at zd_dX12_isRest_0 4 rfl rfl) rfl
theorem dX12_isRest_9 : decode cX12_isRest 9 = .ok (.iconst 0, 1) := dc_3 (sg_at zd_dX12_isRest_0 5 rfl rfl)
theorem dX12_isRest_10 : decode cX12_isRest 10 = .ok (.ireturn, 1) := dc_172 (sg_at zd_dX12_isRest_0 6 rfl rfl)
theorem dX12_isRest_11 : decode cX12_isRest 11 = .ok (.iconst 0, 1) := dc_3 (sg_at zd_dX12_isRest_0 7 rfl rfl)
theorem dX12_isRest_12 : decode cX12_isRest 12 = .ok (.istore_n 2, 1) := dc_61 (sg_at zd_dX12_isRest_0 8 rfl rfl)
theorem dX12_isRest_13 : decode cX12_isRest 13 = .ok (.iload_n 2, 1) := dc_28 (sg_at zd_dX12_isRest_0 9 rfl rfl)
theorem dX12_isRest_14 : decode cX12_isRest 14 = .ok (.iconst 5, 1) := dc_8 (sg_at zd_dX12_isRest_0 10 rfl rfl)
theorem dX12_isRest_15 : decode cX12_isRest 15 = .ok (.if_icmp .ge 53, 3) := dc_162 (sg_at zd_dX12_isRest_0 11 rfl rfl) rfl
theorem dX12_isRest_18 : decode cX12_isRest 18 = .ok (.aload_n 0, 1) := dc_42 (sg_at zd_dX12_isRest_0 12 rfl rfl)
theorem dX12_isRest_19 : decode cX12_isRest 19 = .ok (.getfield 121, 3) := dc_180 (sg_at zd_dX12_isRest_0 13 rfl rfl) rfl
theorem dX12_isRest_22 : decode cX12_isRest 22 = .ok (.iconst 5, 1) := dc_8 (sg_at zd_dX12_isRest_0 14 rfl rfl)
theorem dX12_isRest_23 : decode cX12_isRest 23 = .ok (.iload_n 2, 1) := dc_28 (sg_at zd_dX12_isRest_0 15 rfl rfl)
theorem dX12_isRest_24 : decode cX12_isRest 24 = .ok (.imul, 1) := dc_104 (sg_at zd_dX12_isRest_0 16 rfl rfl)
theorem dX12_isRest_25 : decode cX12_isRest 25 = .ok (.iload_n 1, 1) := dc_27 (sg_at zd_dX12_isRest_0 17 rfl rfl)
theorem dX12_isRest_26 : decode cX12_isRest 26 = .ok (.iconst 5, 1) := dc_8 (sg_at zd_dX12_isRest_0 18 rfl rfl)
theorem dX12_isRest_27 : decode cX12_isRest 27 = .ok (.irem, 1) := dc_112 (sg_at zd_dX12_isRest_0 19 rfl rfl)
theorem zd_dX12_isRest_28 : sg (cX12_isRest.data.toList.drop 28) [[96], [46], [42], [180, 0, 121], [27], [46], [163, 0, 24], [42], [180, 0, 124], [27], [8], [108], [8], [104], [28], [96], [46], [42], [180, 0, 124], [27]] = true := by decide +kernel
theorem dX12_isRest_28 : decode cX12_isRest 28 = .ok (.iadd, 1) := dc_96 (sg_at zd_dX12_isRest_28 0 rfl rfl)
theorem dX12_isRest_29 : decode cX12_isRest 29 = .ok (.iaload, 1) := dc_46 (sg_at zd_dX12_isRest_28 1 rfl rfl)
theorem dX12_isRest_30 : decode cX12_isRest 30 = .ok (.aload_n 0, 1) := dc_42 (sg_at zd_dX12_isRest_28 2 rfl rfl)
theorem dX12_isRest_31 : decode cX12_isRest 31 = .ok (.getfield 121, 3) := dc_180 (sg_at zd_dX12_isRest_28 3 rfl rfl) rfl
theorem dX12_isRest_34 : decode cX12_isRest 34 = .ok (.iload_n 1, 1) := dc_27 (sg_at zd_dX12_isRest_28 4 rfl rfl)
theorem dX12_isRest_35 : decode cX12_isRest 35 = .ok (.iaload, 1) := dc_46 (sg_at zd_dX12_isRest_28 5 rfl rfl)
theorem dX12_isRest_36 : decode cX12_isRest 36 = .ok (.if_icmp .gt 24, 3) := dc_163 (sg_at zd_dX12_isRest_28 6 rfl rfl) rfl
theorem dX12_isRest_39 : decode cX12_isRest 39 = .ok (.aload_n 0, 1) := dc_42 (sg_at zd_dX12_isRest_28 7 rfl rfl)
theorem dX12_isRest_40 : decode cX12_isRest 40 = .ok (.getfield 124, 3) := dc_180 (sg_at zd_dX12_isRest_28 8 rfl rfl) rfl
theorem dX12_isRest_43 : decode cX12_isRest 43 = .ok (.iload_n 1, 1) := dc_27 (sg_at zd_dX12_isRest_28 9 rfl rfl)
theorem dX12_isRest_44 : decode cX12_isRest 44 = .ok (.iconst 5, 1) := dc_8 (sg_at zd_dX12_isRest_28 10 rfl rfl)
theorem dX12_isRest_45 : decode cX12_isRest 45 = .ok (.idiv, 1) := dc_108 (sg_at zd_dX12_isRest_28 11 rfl rfl)
theorem dX12_isRest_46 : decode cX12_isRest 46 = .ok (.iconst 5, 1) := dc_8 (sg_at zd_dX12_isRest_28 12 rfl rfl)
theorem dX12_isRest_47 : decode cX12_isRest 47 = .ok (.imul, 1) := dc_104 (sg_at zd_dX12_isRest_28 13 rfl rfl)
theorem dX12_isRest_48 : decode cX12_isRest 48 = .ok (.iload_n 2, 1) := dc_28 (sg_at zd_dX12_isRest_28 14 rfl rfl)
theorem dX12_isRest_49 : decode cX12_isRest 49 = .ok (.iadd, 1) := dc_96 (sg_at zd_dX12_isRest_28 15 rfl rfl)
theorem dX12_isRest_50 : decode cX12_isRest 50 = .ok (.iaload, 1) := dc_46 (sg_at zd_dX12_isRest_28 16 rfl rfl)
theorem dX12_isRest_51 : decode cX12_isRest 51 = .ok (.aload_n 0, 1) := dc_42 (sg_at zd_dX12_isRest_28 17 rfl rfl)
theorem dX12_isRest_52 : decode cX12_isRest 52 = .ok (.getfield 124, 3) := dc_180 (sg_at zd_dX12_isRest_28 18 rfl rfl) rfl
theorem dX12_isRest_55 : decode cX12_isRest 55 = .ok (.iload_n 1, 1) := dc_27 (sg_at zd_dX12_isRest_28 19 rfl rfl)
theorem zd_dX12_isRest_56 : sg (cX12_isRest.data.toList.drop 56) [[46], [164, 0, 5], [3], [172], [132, 2, 1], [167, 255, 204], [4], [172]] = true := by decide +kernel
theorem dX12_isRest_56 : decode cX12_isRest 56 = .ok (.iaload, 1) := dc_46 (sg_at zd_dX12_isRest_56 0 rfl rfl)
theorem dX12_isRest_57 : decode cX12_isRest 57 = .ok (.if_icmp .le 5, 3) := dc_164 (sg_at zd_dX12_isRest_56 1 rfl rfl) rfl
theorem dX12_isRest_60 : decode cX12_isRest 60 = .ok (.iconst 0, 1) := dc_3 (sg_at zd_dX12_isRest_56 2 rfl rfl)
theorem dX12_isRest_61 : decode cX12_isRest 61 = .ok (.ireturn, 1) := dc_172 (sg_at zd_dX12_isRest_56 3 rfl rfl)
theorem dX12_isRest_62 : decode cX12_isRest 62 = .ok (.iinc 2 1, 3) := dc_132 (sg_at zd_dX12_isRest_56 4 rfl rfl) rfl
theorem dX12_isRest_65 : decode cX12_isRest 65 = .ok (.goto (-52), 3) := dc_167 (sg_at zd_dX12_isRest_56 5 rfl rfl) rfl
theorem dX12_isRest_68 : decode cX12_isRest 68 = .ok (.iconst 1, 1) := dc_4 (sg_at zd_dX12_isRest_56 6 rfl rfl)
theorem dX12_isRest_69 : decode cX12_isRest 69 = .ok (.ireturn, 1) := dc_172 (sg_at zd_dX12_isRest_56 7 rfl rfl)
theorem zd_dX12_isSign_0 : sg (cX12_isSign.data.toList.drop 0) [[42], [180, 0, 172], [7], [160, 0, 15], [42], [180, 0, 183], [27], [160, 0, 7], [4], [167, 0, 4], [3], [172]] = true := by decide +kernel
theorem dX12_isSign_0 : decode cX12_isSign 0 = .ok (.aload_n 0, 1) := dc_42 (sg_at zd_dX12_isSign_0 0 rfl rfl)
theorem dX12_isSign_1 : decode cX12_isSign 1 = .ok (.getfield 172, 3) := dc_180 (sg_at zd_dX12_isSign_0 1 rfl rfl) rfl
theorem dX12_isSign_4 : decode cX12_isSign 4 = .ok (.iconst 4, 1) := dc_7 (sg_at zd_dX12_isSign_0 2 rfl rfl)
theorem dX12_isSign_5 : decode cX12_isSign 5 = .ok (.if_icmp .ne 15, 3) := dc_160 (sg_at zd_dX12_isSign_0 3 rfl rfl) rfl
theorem dX12_isSign_8 : decode cX12_isSign 8 = .ok (.aload_n 0, 1) := dc_42 (sg_at zd_dX12_isSign_0 4 rfl rfl)
theorem dX12_isSign_9 : decode cX12_isSign 9 = .ok (.getfield 183, 3) := dc_180 (sg_at zd_dX12_isSign_0 5 rfl rfl) rfl
theorem dX12_isSign_12 : decode cX12_isSign 12 = .ok (.iload_n 1, 1) := dc_27 (sg_at zd_dX12_isSign_0 6 rfl rfl)
theorem dX12_isSign_13 : decode cX12_isSign 13 = .ok (.if_icmp .ne 7, 3) := dc_160 (sg_at zd_dX12_isSign_0 7 rfl rfl) rfl
theorem dX12_isSign_16 : decode cX12_isSign 16 = .ok (.iconst 1, 1) := dc_4 (sg_at zd_dX12_isSign_0 8 rfl rfl)
theorem dX12_isSign_17 : decode cX12_isSign 17 = .ok (.goto 4, 3) := dc_167 (sg_at zd_dX12_isSign_0 9 rfl rfl) rfl
theorem dX12_isSign_20 : decode cX12_isSign 20 = .ok (.iconst 0, 1) := dc_3 (sg_at zd_dX12_isSign_0 10 rfl rfl)
theorem dX12_isSign_21 : decode cX12_isSign 21 = .ok (.ireturn, 1) := dc_172 (sg_at zd_dX12_isSign_0 11 rfl rfl)
theorem zd_dX12_keep_0 : sg (cX12_keep.data.toList.drop 0) [[42], [3], [181, 0, 154], [42], [4], [181, 1, 126], [3], [60], [27], [8], [162, 0, 80], [42], [180, 0, 145], [27], [42], [180, 0, 88], [27], [46], [79], [42]] = true := by decide +kernel
theorem dX12_keep_0 : decode cX12_keep 0 = .ok (.aload_n 0, 1) := dc_42 (sg_at zd_dX12_keep_0 0 rfl rfl)
theorem dX12_keep_1 : decode cX12_keep 1 = .ok (.iconst 0, 1) := dc_3 (sg_at zd_dX12_keep_0 1 rfl rfl)
theorem dX12_keep_2 : decode cX12_keep 2 = .ok (.putfield 154, 3) := dc_181 (sg_at zd_dX12_keep_0 2 rfl rfl) rfl
theorem dX12_keep_5 : decode cX12_keep 5 = .ok (.aload_n 0, 1) := dc_42 (sg_at zd_dX12_keep_0 3 rfl rfl)
theorem dX12_keep_6 : decode cX12_keep 6 = .ok (.iconst 1, 1) := dc_4 (sg_at zd_dX12_keep_0 4 rfl rfl)
theorem dX12_keep_7 : decode cX12_keep 7 = .ok (.putfield 382, 3) := dc_181 (sg_at zd_dX12_keep_0 5 rfl rfl) rfl
theorem dX12_keep_10 : decode cX12_keep 10 = .ok (.iconst 0, 1) := dc_3 (sg_at zd_dX12_keep_0 6 rfl rfl)
theorem dX12_keep_11 : decode cX12_keep 11 = .ok (.istore_n 1, 1) := dc_60 (sg_at zd_dX12_keep_0 7 rfl rfl)
theorem dX12_keep_12 : decode cX12_keep 12 = .ok (.iload_n 1, 1) := dc_27 (sg_at zd_dX12_keep_0 8 rfl rfl)
theorem dX12_keep_13 : decode cX12_keep 13 = .ok (.iconst 5, 1) := dc_8 (sg_at zd_dX12_keep_0 9 rfl rfl)
theorem dX12_keep_14 : decode cX12_keep 14 = .ok (.if_icmp .ge 80, 3) := dc_162 (sg_at zd_dX12_keep_0 10 rfl rfl) rfl
theorem dX12_keep_17 : decode cX12_keep 17 = .ok (.aload_n 0, 1) := dc_42 (sg_at zd_dX12_keep_0 11 rfl rfl)
theorem dX12_keep_18 : decode cX12_keep 18 = .ok (.getfield 145, 3) := dc_180 (sg_at zd_dX12_keep_0 12 rfl rfl) rfl
theorem dX12_keep_21 : decode cX12_keep 21 = .ok (.iload_n 1, 1) := dc_27 (sg_at zd_dX12_keep_0 13 rfl rfl)
theorem dX12_keep_22 : decode cX12_keep 22 = .ok (.aload_n 0, 1) := dc_42 (sg_at zd_dX12_keep_0 14 rfl rfl)
theorem dX12_keep_23 : decode cX12_keep 23 = .ok (.getfield 88, 3) := dc_180 (sg_at zd_dX12_keep_0 15 rfl rfl) rfl
theorem dX12_keep_26 : decode cX12_keep 26 = .ok (.iload_n 1, 1) := dc_27 (sg_at zd_dX12_keep_0 16 rfl rfl)
theorem dX12_keep_27 : decode cX12_keep 27 = .ok (.iaload, 1) := dc_46 (sg_at zd_dX12_keep_0 17 rfl rfl)
theorem dX12_keep_28 : decode cX12_keep 28 = .ok (.iastore, 1) := dc_79 (sg_at zd_dX12_keep_0 18 rfl rfl)
theorem dX12_keep_29 : decode cX12_keep 29 = .ok (.aload_n 0, 1) := dc_42 (sg_at zd_dX12_keep_0 19 rfl rfl)
theorem zd_dX12_keep_30 : sg (cX12_keep.data.toList.drop 30) [[180, 0, 145], [8], [27], [96], [42], [180, 0, 91], [27], [46], [79], [42], [180, 0, 145], [16, 10], [27], [96], [42], [180, 0, 94], [27], [46], [79], [42]] = true := by decide +kernel
theorem dX12_keep_30 : decode cX12_keep 30 = .ok (.getfield 145, 3) := dc_180 (sg_at zd_dX12_keep_30 0 rfl rfl) rfl
theorem dX12_keep_33 : decode cX12_keep 33 = .ok (.iconst 5, 1) := dc_8 (sg_at zd_dX12_keep_30 1 rfl rfl)
theorem dX12_keep_34 : decode cX12_keep 34 = .ok (.iload_n 1, 1) := dc_27 (sg_at zd_dX12_keep_30 2 rfl rfl)
theorem dX12_keep_35 : decode cX12_keep 35 = .ok (.iadd, 1) := dc_96 (sg_at zd_dX12_keep_30 3 rfl rfl)
theorem dX12_keep_36 : decode cX12_keep 36 = .ok (.aload_n 0, 1) := dc_42 (sg_at zd_dX12_keep_30 4 rfl rfl)
theorem dX12_keep_37 : decode cX12_keep 37 = .ok (.getfield 91, 3) := dc_180 (sg_at zd_dX12_keep_30 5 rfl rfl) rfl
theorem dX12_keep_40 : decode cX12_keep 40 = .ok (.iload_n 1, 1) := dc_27 (sg_at zd_dX12_keep_30 6 rfl rfl)
theorem dX12_keep_41 : decode cX12_keep 41 = .ok (.iaload, 1) := dc_46 (sg_at zd_dX12_keep_30 7 rfl rfl)
theorem dX12_keep_42 : decode cX12_keep 42 = .ok (.iastore, 1) := dc_79 (sg_at zd_dX12_keep_30 8 rfl rfl)
theorem dX12_keep_43 : decode cX12_keep 43 = .ok (.aload_n 0, 1) := dc_42 (sg_at zd_dX12_keep_30 9 rfl rfl)
theorem dX12_keep_44 : decode cX12_keep 44 = .ok (.getfield 145, 3) := dc_180 (sg_at zd_dX12_keep_30 10 rfl rfl) rfl
theorem dX12_keep_47 : decode cX12_keep 47 = .ok (.bipush 10, 2) := dc_16 (sg_at zd_dX12_keep_30 11 rfl rfl) rfl
theorem dX12_keep_49 : decode cX12_keep 49 = .ok (.iload_n 1, 1) := dc_27 (sg_at zd_dX12_keep_30 12 rfl rfl)
theorem dX12_keep_50 : decode cX12_keep 50 = .ok (.iadd, 1) := dc_96 (sg_at zd_dX12_keep_30 13 rfl rfl)
theorem dX12_keep_51 : decode cX12_keep 51 = .ok (.aload_n 0, 1) := dc_42 (sg_at zd_dX12_keep_30 14 rfl rfl)
theorem dX12_keep_52 : decode cX12_keep 52 = .ok (.getfield 94, 3) := dc_180 (sg_at zd_dX12_keep_30 15 rfl rfl) rfl
theorem dX12_keep_55 : decode cX12_keep 55 = .ok (.iload_n 1, 1) := dc_27 (sg_at zd_dX12_keep_30 16 rfl rfl)
theorem dX12_keep_56 : decode cX12_keep 56 = .ok (.iaload, 1) := dc_46 (sg_at zd_dX12_keep_30 17 rfl rfl)
theorem dX12_keep_57 : decode cX12_keep 57 = .ok (.iastore, 1) := dc_79 (sg_at zd_dX12_keep_30 18 rfl rfl)
theorem dX12_keep_58 : decode cX12_keep 58 = .ok (.aload_n 0, 1) := dc_42 (sg_at zd_dX12_keep_30 19 rfl rfl)
theorem zd_dX12_keep_59 : sg (cX12_keep.data.toList.drop 59) [[180, 0, 145], [16, 15], [27], [96], [42], [180, 0, 97], [27], [46], [79], [42], [180, 0, 145], [16, 20], [27], [96], [42], [180, 0, 100], [27], [46], [79], [132, 1, 1]] = true := by decide +kernel
theorem dX12_keep_59 : decode cX12_keep 59 = .ok (.getfield 145, 3) := dc_180 (sg_at zd_dX12_keep_59 0 rfl rfl) rfl
theorem dX12_keep_62 : decode cX12_keep 62 = .ok (.bipush 15, 2) := dc_16 (sg_at zd_dX12_keep_59 1 rfl rfl) rfl
theorem dX12_keep_64 : decode cX12_keep 64 = .ok (.iload_n 1, 1) := dc_27 (sg_at zd_dX12_keep_59 2 rfl rfl)
theorem dX12_keep_65 : decode cX12_keep 65 = .ok (.iadd, 1) := dc_96 (sg_at zd_dX12_keep_59 3 rfl rfl)
theorem dX12_keep_66 : decode cX12_keep 66 = .ok (.aload_n 0, 1) := dc_42 (sg_at zd_dX12_keep_59 4 rfl rfl)
theorem dX12_keep_67 : decode cX12_keep 67 = .ok (.getfield 97, 3) := dc_180 (sg_at zd_dX12_keep_59 5 rfl rfl) rfl
theorem dX12_keep_70 : decode cX12_keep 70 = .ok (.iload_n 1, 1) := dc_27 (sg_at zd_dX12_keep_59 6 rfl rfl)
theorem dX12_keep_71 : decode cX12_keep 71 = .ok (.iaload, 1) := dc_46 (sg_at zd_dX12_keep_59 7 rfl rfl)
theorem dX12_keep_72 : decode cX12_keep 72 = .ok (.iastore, 1) := dc_79 (sg_at zd_dX12_keep_59 8 rfl rfl)
theorem dX12_keep_73 : decode cX12_keep 73 = .ok (.aload_n 0, 1) := dc_42 (sg_at zd_dX12_keep_59 9 rfl rfl)
theorem dX12_keep_74 : decode cX12_keep 74 = .ok (.getfield 145, 3) := dc_180 (sg_at zd_dX12_keep_59 10 rfl rfl) rfl
theorem dX12_keep_77 : decode cX12_keep 77 = .ok (.bipush 20, 2) := dc_16 (sg_at zd_dX12_keep_59 11 rfl rfl) rfl
theorem dX12_keep_79 : decode cX12_keep 79 = .ok (.iload_n 1, 1) := dc_27 (sg_at zd_dX12_keep_59 12 rfl rfl)
theorem dX12_keep_80 : decode cX12_keep 80 = .ok (.iadd, 1) := dc_96 (sg_at zd_dX12_keep_59 13 rfl rfl)
theorem dX12_keep_81 : decode cX12_keep 81 = .ok (.aload_n 0, 1) := dc_42 (sg_at zd_dX12_keep_59 14 rfl rfl)
theorem dX12_keep_82 : decode cX12_keep 82 = .ok (.getfield 100, 3) := dc_180 (sg_at zd_dX12_keep_59 15 rfl rfl) rfl
theorem dX12_keep_85 : decode cX12_keep 85 = .ok (.iload_n 1, 1) := dc_27 (sg_at zd_dX12_keep_59 16 rfl rfl)
theorem dX12_keep_86 : decode cX12_keep 86 = .ok (.iaload, 1) := dc_46 (sg_at zd_dX12_keep_59 17 rfl rfl)
theorem dX12_keep_87 : decode cX12_keep 87 = .ok (.iastore, 1) := dc_79 (sg_at zd_dX12_keep_59 18 rfl rfl)
theorem dX12_keep_88 : decode cX12_keep 88 = .ok (.iinc 1 1, 3) := dc_132 (sg_at zd_dX12_keep_59 19 rfl rfl) rfl
theorem zd_dX12_keep_91 : sg (cX12_keep.data.toList.drop 91) [[167, 255, 177], [3], [60], [27], [16, 28], [162, 0, 24], [42], [180, 0, 145], [16, 25], [27], [96], [42], [180, 0, 103], [27], [46], [79], [132, 1, 1], [167, 255, 232], [42], [42]] = true := by decide +kernel
theorem dX12_keep_91 : decode cX12_keep 91 = .ok (.goto (-79), 3) := dc_167 (sg_at zd_dX12_keep_91 0 rfl rfl) rfl
theorem dX12_keep_94 : decode cX12_keep 94 = .ok (.iconst 0, 1) := dc_3 (sg_at zd_dX12_keep_91 1 rfl rfl)
theorem dX12_keep_95 : decode cX12_keep 95 = .ok (.istore_n 1, 1) := dc_60 (sg_at zd_dX12_keep_91 2 rfl rfl)
theorem dX12_keep_96 : decode cX12_keep 96 = .ok (.iload_n 1, 1) := dc_27 (sg_at zd_dX12_keep_91 3 rfl rfl)
theorem dX12_keep_97 : decode cX12_keep 97 = .ok (.bipush 28, 2) := dc_16 (sg_at zd_dX12_keep_91 4 rfl rfl) rfl
theorem dX12_keep_99 : decode cX12_keep 99 = .ok (.if_icmp .ge 24, 3) := dc_162 (sg_at zd_dX12_keep_91 5 rfl rfl) rfl
theorem dX12_keep_102 : decode cX12_keep 102 = .ok (.aload_n 0, 1) := dc_42 (sg_at zd_dX12_keep_91 6 rfl rfl)
theorem dX12_keep_103 : decode cX12_keep 103 = .ok (.getfield 145, 3) := dc_180 (sg_at zd_dX12_keep_91 7 rfl rfl) rfl
theorem dX12_keep_106 : decode cX12_keep 106 = .ok (.bipush 25, 2) := dc_16 (sg_at zd_dX12_keep_91 8 rfl rfl) rfl
theorem dX12_keep_108 : decode cX12_keep 108 = .ok (.iload_n 1, 1) := dc_27 (sg_at zd_dX12_keep_91 9 rfl rfl)
theorem dX12_keep_109 : decode cX12_keep 109 = .ok (.iadd, 1) := dc_96 (sg_at zd_dX12_keep_91 10 rfl rfl)
theorem dX12_keep_110 : decode cX12_keep 110 = .ok (.aload_n 0, 1) := dc_42 (sg_at zd_dX12_keep_91 11 rfl rfl)
theorem dX12_keep_111 : decode cX12_keep 111 = .ok (.getfield 103, 3) := dc_180 (sg_at zd_dX12_keep_91 12 rfl rfl) rfl
theorem dX12_keep_114 : decode cX12_keep 114 = .ok (.iload_n 1, 1) := dc_27 (sg_at zd_dX12_keep_91 13 rfl rfl)
theorem dX12_keep_115 : decode cX12_keep 115 = .ok (.iaload, 1) := dc_46 (sg_at zd_dX12_keep_91 14 rfl rfl)
theorem dX12_keep_116 : decode cX12_keep 116 = .ok (.iastore, 1) := dc_79 (sg_at zd_dX12_keep_91 15 rfl rfl)
theorem dX12_keep_117 : decode cX12_keep 117 = .ok (.iinc 1 1, 3) := dc_132 (sg_at zd_dX12_keep_91 16 rfl rfl) rfl
theorem dX12_keep_120 : decode cX12_keep 120 = .ok (.goto (-24), 3) := dc_167 (sg_at zd_dX12_keep_91 17 rfl rfl) rfl
theorem dX12_keep_123 : decode cX12_keep 123 = .ok (.aload_n 0, 1) := dc_42 (sg_at zd_dX12_keep_91 18 rfl rfl)
theorem dX12_keep_124 : decode cX12_keep 124 = .ok (.aload_n 0, 1) := dc_42 (sg_at zd_dX12_keep_91 19 rfl rfl)
theorem zd_dX12_keep_125 : sg (cX12_keep.data.toList.drop 125) [[180, 0, 106], [3], [46], [181, 2, 21], [42], [42], [180, 1, 113], [181, 2, 24], [42], [42], [180, 0, 109], [3], [46], [181, 2, 27], [42], [42], [180, 0, 112], [3], [46], [181, 2, 30]] = true := by decide +kernel
theorem dX12_keep_125 : decode cX12_keep 125 = .ok (.getfield 106, 3) := dc_180 (sg_at zd_dX12_keep_125 0 rfl rfl) rfl
theorem dX12_keep_128 : decode cX12_keep 128 = .ok (.iconst 0, 1) := dc_3 (sg_at zd_dX12_keep_125 1 rfl rfl)
theorem dX12_keep_129 : decode cX12_keep 129 = .ok (.iaload, 1) := dc_46 (sg_at zd_dX12_keep_125 2 rfl rfl)
theorem dX12_keep_130 : decode cX12_keep 130 = .ok (.putfield 533, 3) := dc_181 (sg_at zd_dX12_keep_125 3 rfl rfl) rfl
theorem dX12_keep_133 : decode cX12_keep 133 = .ok (.aload_n 0, 1) := dc_42 (sg_at zd_dX12_keep_125 4 rfl rfl)
theorem dX12_keep_134 : decode cX12_keep 134 = .ok (.aload_n 0, 1) := dc_42 (sg_at zd_dX12_keep_125 5 rfl rfl)
theorem dX12_keep_135 : decode cX12_keep 135 = .ok (.getfield 369, 3) := dc_180 (sg_at zd_dX12_keep_125 6 rfl rfl) rfl
theorem dX12_keep_138 : decode cX12_keep 138 = .ok (.putfield 536, 3) := dc_181 (sg_at zd_dX12_keep_125 7 rfl rfl) rfl
theorem dX12_keep_141 : decode cX12_keep 141 = .ok (.aload_n 0, 1) := dc_42 (sg_at zd_dX12_keep_125 8 rfl rfl)
theorem dX12_keep_142 : decode cX12_keep 142 = .ok (.aload_n 0, 1) := dc_42 (sg_at zd_dX12_keep_125 9 rfl rfl)
theorem dX12_keep_143 : decode cX12_keep 143 = .ok (.getfield 109, 3) := dc_180 (sg_at zd_dX12_keep_125 10 rfl rfl) rfl
theorem dX12_keep_146 : decode cX12_keep 146 = .ok (.iconst 0, 1) := dc_3 (sg_at zd_dX12_keep_125 11 rfl rfl)
theorem dX12_keep_147 : decode cX12_keep 147 = .ok (.iaload, 1) := dc_46 (sg_at zd_dX12_keep_125 12 rfl rfl)
theorem dX12_keep_148 : decode cX12_keep 148 = .ok (.putfield 539, 3) := dc_181 (sg_at zd_dX12_keep_125 13 rfl rfl) rfl
theorem dX12_keep_151 : decode cX12_keep 151 = .ok (.aload_n 0, 1) := dc_42 (sg_at zd_dX12_keep_125 14 rfl rfl)
theorem dX12_keep_152 : decode cX12_keep 152 = .ok (.aload_n 0, 1) := dc_42 (sg_at zd_dX12_keep_125 15 rfl rfl)
theorem dX12_keep_153 : decode cX12_keep 153 = .ok (.getfield 112, 3) := dc_180 (sg_at zd_dX12_keep_125 16 rfl rfl) rfl
theorem dX12_keep_156 : decode cX12_keep 156 = .ok (.iconst 0, 1) := dc_3 (sg_at zd_dX12_keep_125 17 rfl rfl)
theorem dX12_keep_157 : decode cX12_keep 157 = .ok (.iaload, 1) := dc_46 (sg_at zd_dX12_keep_125 18 rfl rfl)
theorem dX12_keep_158 : decode cX12_keep 158 = .ok (.putfield 542, 3) := dc_181 (sg_at zd_dX12_keep_125 19 rfl rfl) rfl
theorem zd_dX12_keep_161 : sg (cX12_keep.data.toList.drop 161) [[42], [42], [180, 1, 116], [181, 2, 33], [42], [180, 0, 106], [3], [46], [172]] = true := by decide +kernel
theorem dX12_keep_161 : decode cX12_keep 161 = .ok (.aload_n 0, 1) := dc_42 (sg_at zd_dX12_keep_161 0 rfl rfl)
theorem dX12_keep_162 : decode cX12_keep 162 = .ok (.aload_n 0, 1) := dc_42 (sg_at zd_dX12_keep_161 1 rfl rfl)
theorem dX12_keep_163 : decode cX12_keep 163 = .ok (.getfield 372, 3) := dc_180 (sg_at zd_dX12_keep_161 2 rfl rfl) rfl
theorem dX12_keep_166 : decode cX12_keep 166 = .ok (.putfield 545, 3) := dc_181 (sg_at zd_dX12_keep_161 3 rfl rfl) rfl
theorem dX12_keep_169 : decode cX12_keep 169 = .ok (.aload_n 0, 1) := dc_42 (sg_at zd_dX12_keep_161 4 rfl rfl)
theorem dX12_keep_170 : decode cX12_keep 170 = .ok (.getfield 106, 3) := dc_180 (sg_at zd_dX12_keep_161 5 rfl rfl) rfl
theorem dX12_keep_173 : decode cX12_keep 173 = .ok (.iconst 0, 1) := dc_3 (sg_at zd_dX12_keep_161 6 rfl rfl)
theorem dX12_keep_174 : decode cX12_keep 174 = .ok (.iaload, 1) := dc_46 (sg_at zd_dX12_keep_161 7 rfl rfl)
theorem dX12_keep_175 : decode cX12_keep 175 = .ok (.ireturn, 1) := dc_172 (sg_at zd_dX12_keep_161 8 rfl rfl)
theorem zd_dX12_known_0 : sg (cX12_known.data.toList.drop 0) [[42], [3], [181, 0, 154], [27], [2], [42], [180, 1, 120], [184, 0, 199], [154, 0, 5], [3], [172], [42], [27], [181, 0, 133], [4], [172]] = true := by decide +kernel
theorem dX12_known_0 : decode cX12_known 0 = .ok (.aload_n 0, 1) := dc_42 (sg_at zd_dX12_known_0 0 rfl rfl)
theorem dX12_known_1 : decode cX12_known 1 = .ok (.iconst 0, 1) := dc_3 (sg_at zd_dX12_known_0 1 rfl rfl)
theorem dX12_known_2 : decode cX12_known 2 = .ok (.putfield 154, 3) := dc_181 (sg_at zd_dX12_known_0 2 rfl rfl) rfl
theorem dX12_known_5 : decode cX12_known 5 = .ok (.iload_n 1, 1) := dc_27 (sg_at zd_dX12_known_0 3 rfl rfl)
theorem dX12_known_6 : decode cX12_known 6 = .ok (.iconst (-1), 1) := dc_2 (sg_at zd_dX12_known_0 4 rfl rfl)
theorem dX12_known_7 : decode cX12_known 7 = .ok (.aload_n 0, 1) := dc_42 (sg_at zd_dX12_known_0 5 rfl rfl)
theorem dX12_known_8 : decode cX12_known 8 = .ok (.getfield 376, 3) := dc_180 (sg_at zd_dX12_known_0 6 rfl rfl) rfl
theorem dX12_known_11 : decode cX12_known 11 = .ok (.invokestatic 199, 3) := dc_184 (sg_at zd_dX12_known_0 7 rfl rfl) rfl
theorem dX12_known_14 : decode cX12_known 14 = .ok (.ifCond .ne 5, 3) := dc_154 (sg_at zd_dX12_known_0 8 rfl rfl) rfl
theorem dX12_known_17 : decode cX12_known 17 = .ok (.iconst 0, 1) := dc_3 (sg_at zd_dX12_known_0 9 rfl rfl)
theorem dX12_known_18 : decode cX12_known 18 = .ok (.ireturn, 1) := dc_172 (sg_at zd_dX12_known_0 10 rfl rfl)
theorem dX12_known_19 : decode cX12_known 19 = .ok (.aload_n 0, 1) := dc_42 (sg_at zd_dX12_known_0 11 rfl rfl)
theorem dX12_known_20 : decode cX12_known 20 = .ok (.iload_n 1, 1) := dc_27 (sg_at zd_dX12_known_0 12 rfl rfl)
theorem dX12_known_21 : decode cX12_known 21 = .ok (.putfield 133, 3) := dc_181 (sg_at zd_dX12_known_0 13 rfl rfl) rfl
theorem dX12_known_24 : decode cX12_known 24 = .ok (.iconst 1, 1) := dc_4 (sg_at zd_dX12_known_0 14 rfl rfl)
theorem dX12_known_25 : decode cX12_known 25 = .ok (.ireturn, 1) := dc_172 (sg_at zd_dX12_known_0 15 rfl rfl)
theorem zd_dX12_law_0 : sg (cX12_law.data.toList.drop 0) [[42], [3], [181, 0, 154], [27], [3], [5], [184, 0, 199], [153, 0, 24], [27], [5], [162, 0, 23], [42], [28], [182, 1, 157], [153, 0, 11], [42], [29], [182, 1, 163], [154, 0, 7], [20, 1, 172]] = true := by decide +kernel
theorem dX12_law_0 : decode cX12_law 0 = .ok (.aload_n 0, 1) := dc_42 (sg_at zd_dX12_law_0 0 rfl rfl)
theorem dX12_law_1 : decode cX12_law 1 = .ok (.iconst 0, 1) := dc_3 (sg_at zd_dX12_law_0 1 rfl rfl)
theorem dX12_law_2 : decode cX12_law 2 = .ok (.putfield 154, 3) := dc_181 (sg_at zd_dX12_law_0 2 rfl rfl) rfl
theorem dX12_law_5 : decode cX12_law 5 = .ok (.iload_n 1, 1) := dc_27 (sg_at zd_dX12_law_0 3 rfl rfl)
theorem dX12_law_6 : decode cX12_law 6 = .ok (.iconst 0, 1) := dc_3 (sg_at zd_dX12_law_0 4 rfl rfl)
theorem dX12_law_7 : decode cX12_law 7 = .ok (.iconst 2, 1) := dc_5 (sg_at zd_dX12_law_0 5 rfl rfl)
theorem dX12_law_8 : decode cX12_law 8 = .ok (.invokestatic 199, 3) := dc_184 (sg_at zd_dX12_law_0 6 rfl rfl) rfl
theorem dX12_law_11 : decode cX12_law 11 = .ok (.ifCond .eq 24, 3) := dc_153 (sg_at zd_dX12_law_0 7 rfl rfl) rfl
theorem dX12_law_14 : decode cX12_law 14 = .ok (.iload_n 1, 1) := dc_27 (sg_at zd_dX12_law_0 8 rfl rfl)
theorem dX12_law_15 : decode cX12_law 15 = .ok (.iconst 2, 1) := dc_5 (sg_at zd_dX12_law_0 9 rfl rfl)
theorem dX12_law_16 : decode cX12_law 16 = .ok (.if_icmp .ge 23, 3) := dc_162 (sg_at zd_dX12_law_0 10 rfl rfl) rfl
theorem dX12_law_19 : decode cX12_law 19 = .ok (.aload_n 0, 1) := dc_42 (sg_at zd_dX12_law_0 11 rfl rfl)
theorem dX12_law_20 : decode cX12_law 20 = .ok (.iload_n 2, 1) := dc_28 (sg_at zd_dX12_law_0 12 rfl rfl)
theorem dX12_law_21 : decode cX12_law 21 = .ok (.invokevirtual 413, 3) := dc_182 (sg_at zd_dX12_law_0 13 rfl rfl) rfl
theorem dX12_law_24 : decode cX12_law 24 = .ok (.ifCond .eq 11, 3) := dc_153 (sg_at zd_dX12_law_0 14 rfl rfl) rfl
theorem dX12_law_27 : decode cX12_law 27 = .ok (.aload_n 0, 1) := dc_42 (sg_at zd_dX12_law_0 15 rfl rfl)
theorem dX12_law_28 : decode cX12_law 28 = .ok (.iload_n 3, 1) := dc_29 (sg_at zd_dX12_law_0 16 rfl rfl)
theorem dX12_law_29 : decode cX12_law 29 = .ok (.invokevirtual 419, 3) := dc_182 (sg_at zd_dX12_law_0 17 rfl rfl) rfl
theorem dX12_law_32 : decode cX12_law 32 = .ok (.ifCond .ne 7, 3) := dc_154 (sg_at zd_dX12_law_0 18 rfl rfl) rfl
theorem dX12_law_35 : decode cX12_law 35 = .ok (.ldc2_w 428, 3) := dc_20 (sg_at zd_dX12_law_0 19 rfl rfl) rfl
theorem zd_dX12_law_38 : sg (cX12_law.data.toList.drop 38) [[173], [27], [154, 0, 7], [3], [167, 0, 13], [27], [4], [160, 0, 7], [5], [167, 0, 4], [4], [54, 4], [42], [180, 0, 57], [21, 4], [51], [154, 0, 7], [20, 1, 172], [173], [27]] = true := by decide +kernel
theorem dX12_law_38 : decode cX12_law 38 = .ok (.lreturn, 1) := dc_173 (sg_at zd_dX12_law_38 0 rfl rfl)
theorem dX12_law_39 : decode cX12_law 39 = .ok (.iload_n 1, 1) := dc_27 (sg_at zd_dX12_law_38 1 rfl rfl)
theorem dX12_law_40 : decode cX12_law 40 = .ok (.ifCond .ne 7, 3) := dc_154 (sg_at zd_dX12_law_38 2 rfl rfl) rfl
theorem dX12_law_43 : decode cX12_law 43 = .ok (.iconst 0, 1) := dc_3 (sg_at zd_dX12_law_38 3 rfl rfl)
theorem dX12_law_44 : decode cX12_law 44 = .ok (.goto 13, 3) := dc_167 (sg_at zd_dX12_law_38 4 rfl rfl) rfl
theorem dX12_law_47 : decode cX12_law 47 = .ok (.iload_n 1, 1) := dc_27 (sg_at zd_dX12_law_38 5 rfl rfl)
theorem dX12_law_48 : decode cX12_law 48 = .ok (.iconst 1, 1) := dc_4 (sg_at zd_dX12_law_38 6 rfl rfl)
theorem dX12_law_49 : decode cX12_law 49 = .ok (.if_icmp .ne 7, 3) := dc_160 (sg_at zd_dX12_law_38 7 rfl rfl) rfl
theorem dX12_law_52 : decode cX12_law 52 = .ok (.iconst 2, 1) := dc_5 (sg_at zd_dX12_law_38 8 rfl rfl)
theorem dX12_law_53 : decode cX12_law 53 = .ok (.goto 4, 3) := dc_167 (sg_at zd_dX12_law_38 9 rfl rfl) rfl
theorem dX12_law_56 : decode cX12_law 56 = .ok (.iconst 1, 1) := dc_4 (sg_at zd_dX12_law_38 10 rfl rfl)
theorem dX12_law_57 : decode cX12_law 57 = .ok (.istore 4, 2) := dc_54 (sg_at zd_dX12_law_38 11 rfl rfl)
theorem dX12_law_59 : decode cX12_law 59 = .ok (.aload_n 0, 1) := dc_42 (sg_at zd_dX12_law_38 12 rfl rfl)
theorem dX12_law_60 : decode cX12_law 60 = .ok (.getfield 57, 3) := dc_180 (sg_at zd_dX12_law_38 13 rfl rfl) rfl
theorem dX12_law_63 : decode cX12_law 63 = .ok (.iload 4, 2) := dc_21 (sg_at zd_dX12_law_38 14 rfl rfl)
theorem dX12_law_65 : decode cX12_law 65 = .ok (.baload, 1) := dc_51 (sg_at zd_dX12_law_38 15 rfl rfl)
theorem dX12_law_66 : decode cX12_law 66 = .ok (.ifCond .ne 7, 3) := dc_154 (sg_at zd_dX12_law_38 16 rfl rfl) rfl
theorem dX12_law_69 : decode cX12_law 69 = .ok (.ldc2_w 428, 3) := dc_20 (sg_at zd_dX12_law_38 17 rfl rfl) rfl
theorem dX12_law_72 : decode cX12_law 72 = .ok (.lreturn, 1) := dc_173 (sg_at zd_dX12_law_38 18 rfl rfl)
theorem dX12_law_73 : decode cX12_law 73 = .ok (.iload_n 1, 1) := dc_27 (sg_at zd_dX12_law_38 19 rfl rfl)
theorem zd_dX12_law_74 : sg (cX12_law.data.toList.drop 74) [[154, 0, 19], [42], [28], [29], [42], [180, 0, 88], [28], [46], [182, 1, 153], [87], [167, 0, 44], [27], [4], [160, 0, 25], [42], [3], [3], [42], [180, 0, 33], [28]] = true := by decide +kernel
theorem dX12_law_74 : decode cX12_law 74 = .ok (.ifCond .ne 19, 3) := dc_154 (sg_at zd_dX12_law_74 0 rfl rfl) rfl
theorem dX12_law_77 : decode cX12_law 77 = .ok (.aload_n 0, 1) := dc_42 (sg_at zd_dX12_law_74 1 rfl rfl)
theorem dX12_law_78 : decode cX12_law 78 = .ok (.iload_n 2, 1) := dc_28 (sg_at zd_dX12_law_74 2 rfl rfl)
theorem dX12_law_79 : decode cX12_law 79 = .ok (.iload_n 3, 1) := dc_29 (sg_at zd_dX12_law_74 3 rfl rfl)
theorem dX12_law_80 : decode cX12_law 80 = .ok (.aload_n 0, 1) := dc_42 (sg_at zd_dX12_law_74 4 rfl rfl)
theorem dX12_law_81 : decode cX12_law 81 = .ok (.getfield 88, 3) := dc_180 (sg_at zd_dX12_law_74 5 rfl rfl) rfl
theorem dX12_law_84 : decode cX12_law 84 = .ok (.iload_n 2, 1) := dc_28 (sg_at zd_dX12_law_74 6 rfl rfl)
theorem dX12_law_85 : decode cX12_law 85 = .ok (.iaload, 1) := dc_46 (sg_at zd_dX12_law_74 7 rfl rfl)
theorem dX12_law_86 : decode cX12_law 86 = .ok (.invokevirtual 409, 3) := dc_182 (sg_at zd_dX12_law_74 8 rfl rfl) rfl
theorem dX12_law_89 : decode cX12_law 89 = .ok (.pop, 1) := dc_87 (sg_at zd_dX12_law_74 9 rfl rfl)
theorem dX12_law_90 : decode cX12_law 90 = .ok (.goto 44, 3) := dc_167 (sg_at zd_dX12_law_74 10 rfl rfl) rfl
theorem dX12_law_93 : decode cX12_law 93 = .ok (.iload_n 1, 1) := dc_27 (sg_at zd_dX12_law_74 11 rfl rfl)
theorem dX12_law_94 : decode cX12_law 94 = .ok (.iconst 1, 1) := dc_4 (sg_at zd_dX12_law_74 12 rfl rfl)
theorem dX12_law_95 : decode cX12_law 95 = .ok (.if_icmp .ne 25, 3) := dc_160 (sg_at zd_dX12_law_74 13 rfl rfl) rfl
theorem dX12_law_98 : decode cX12_law 98 = .ok (.aload_n 0, 1) := dc_42 (sg_at zd_dX12_law_74 14 rfl rfl)
theorem dX12_law_99 : decode cX12_law 99 = .ok (.iconst 0, 1) := dc_3 (sg_at zd_dX12_law_74 15 rfl rfl)
theorem dX12_law_100 : decode cX12_law 100 = .ok (.iconst 0, 1) := dc_3 (sg_at zd_dX12_law_74 16 rfl rfl)
theorem dX12_law_101 : decode cX12_law 101 = .ok (.aload_n 0, 1) := dc_42 (sg_at zd_dX12_law_74 17 rfl rfl)
theorem dX12_law_102 : decode cX12_law 102 = .ok (.getfield 33, 3) := dc_180 (sg_at zd_dX12_law_74 18 rfl rfl) rfl
theorem dX12_law_105 : decode cX12_law 105 = .ok (.iload_n 2, 1) := dc_28 (sg_at zd_dX12_law_74 19 rfl rfl)
theorem zd_dX12_law_106 : sg (cX12_law.data.toList.drop 106) [[46], [29], [42], [180, 0, 48], [29], [46], [182, 1, 136], [167, 0, 17], [42], [3], [3], [3], [2], [42], [180, 0, 106], [3], [46], [182, 1, 136], [42], [21, 4]] = true := by decide +kernel
theorem dX12_law_106 : decode cX12_law 106 = .ok (.iaload, 1) := dc_46 (sg_at zd_dX12_law_106 0 rfl rfl)
theorem dX12_law_107 : decode cX12_law 107 = .ok (.iload_n 3, 1) := dc_29 (sg_at zd_dX12_law_106 1 rfl rfl)
theorem dX12_law_108 : decode cX12_law 108 = .ok (.aload_n 0, 1) := dc_42 (sg_at zd_dX12_law_106 2 rfl rfl)
theorem dX12_law_109 : decode cX12_law 109 = .ok (.getfield 48, 3) := dc_180 (sg_at zd_dX12_law_106 3 rfl rfl) rfl
theorem dX12_law_112 : decode cX12_law 112 = .ok (.iload_n 3, 1) := dc_29 (sg_at zd_dX12_law_106 4 rfl rfl)
theorem dX12_law_113 : decode cX12_law 113 = .ok (.iaload, 1) := dc_46 (sg_at zd_dX12_law_106 5 rfl rfl)
theorem dX12_law_114 : decode cX12_law 114 = .ok (.invokevirtual 392, 3) := dc_182 (sg_at zd_dX12_law_106 6 rfl rfl) rfl
theorem dX12_law_117 : decode cX12_law 117 = .ok (.goto 17, 3) := dc_167 (sg_at zd_dX12_law_106 7 rfl rfl) rfl
theorem dX12_law_120 : decode cX12_law 120 = .ok (.aload_n 0, 1) := dc_42 (sg_at zd_dX12_law_106 8 rfl rfl)
theorem dX12_law_121 : decode cX12_law 121 = .ok (.iconst 0, 1) := dc_3 (sg_at zd_dX12_law_106 9 rfl rfl)
theorem dX12_law_122 : decode cX12_law 122 = .ok (.iconst 0, 1) := dc_3 (sg_at zd_dX12_law_106 10 rfl rfl)
theorem dX12_law_123 : decode cX12_law 123 = .ok (.iconst 0, 1) := dc_3 (sg_at zd_dX12_law_106 11 rfl rfl)
theorem dX12_law_124 : decode cX12_law 124 = .ok (.iconst (-1), 1) := dc_2 (sg_at zd_dX12_law_106 12 rfl rfl)
theorem dX12_law_125 : decode cX12_law 125 = .ok (.aload_n 0, 1) := dc_42 (sg_at zd_dX12_law_106 13 rfl rfl)
theorem dX12_law_126 : decode cX12_law 126 = .ok (.getfield 106, 3) := dc_180 (sg_at zd_dX12_law_106 14 rfl rfl) rfl
theorem dX12_law_129 : decode cX12_law 129 = .ok (.iconst 0, 1) := dc_3 (sg_at zd_dX12_law_106 15 rfl rfl)
theorem dX12_law_130 : decode cX12_law 130 = .ok (.iaload, 1) := dc_46 (sg_at zd_dX12_law_106 16 rfl rfl)
theorem dX12_law_131 : decode cX12_law 131 = .ok (.invokevirtual 392, 3) := dc_182 (sg_at zd_dX12_law_106 17 rfl rfl) rfl
theorem dX12_law_134 : decode cX12_law 134 = .ok (.aload_n 0, 1) := dc_42 (sg_at zd_dX12_law_106 18 rfl rfl)
theorem dX12_law_135 : decode cX12_law 135 = .ok (.iload 4, 2) := dc_21 (sg_at zd_dX12_law_106 19 rfl rfl)
theorem zd_dX12_law_137 : sg (cX12_law.data.toList.drop 137) [[182, 1, 133], [55, 5], [42], [180, 1, 91], [153, 0, 9], [20, 1, 172], [167, 0, 5], [22, 5], [173]] = true := by decide +kernel
theorem dX12_law_137 : decode cX12_law 137 = .ok (.invokevirtual 389, 3) := dc_182 (sg_at zd_dX12_law_137 0 rfl rfl) rfl
theorem dX12_law_140 : decode cX12_law 140 = .ok (.lstore 5, 2) := dc_55 (sg_at zd_dX12_law_137 1 rfl rfl)
theorem dX12_law_142 : decode cX12_law 142 = .ok (.aload_n 0, 1) := dc_42 (sg_at zd_dX12_law_137 2 rfl rfl)
theorem dX12_law_143 : decode cX12_law 143 = .ok (.getfield 347, 3) := dc_180 (sg_at zd_dX12_law_137 3 rfl rfl) rfl
theorem dX12_law_146 : decode cX12_law 146 = .ok (.ifCond .eq 9, 3) := dc_153 (sg_at zd_dX12_law_137 4 rfl rfl) rfl
theorem dX12_law_149 : decode cX12_law 149 = .ok (.ldc2_w 428, 3) := dc_20 (sg_at zd_dX12_law_137 5 rfl rfl) rfl
theorem dX12_law_152 : decode cX12_law 152 = .ok (.goto 5, 3) := dc_167 (sg_at zd_dX12_law_137 6 rfl rfl) rfl
theorem dX12_law_155 : decode cX12_law 155 = .ok (.lload 5, 2) := dc_22 (sg_at zd_dX12_law_137 7 rfl rfl)
theorem dX12_law_157 : decode cX12_law 157 = .ok (.lreturn, 1) := dc_173 (sg_at zd_dX12_law_137 8 rfl rfl)
theorem zd_dX12_wayAt_0 : sg (cX12_wayAt.data.toList.drop 0) [[26], [154, 0, 7], [7], [167, 0, 6], [26], [4], [100], [172]] = true := by decide +kernel
theorem dX12_wayAt_0 : decode cX12_wayAt 0 = .ok (.iload_n 0, 1) := dc_26 (sg_at zd_dX12_wayAt_0 0 rfl rfl)
theorem dX12_wayAt_1 : decode cX12_wayAt 1 = .ok (.ifCond .ne 7, 3) := dc_154 (sg_at zd_dX12_wayAt_0 1 rfl rfl) rfl
theorem dX12_wayAt_4 : decode cX12_wayAt 4 = .ok (.iconst 4, 1) := dc_7 (sg_at zd_dX12_wayAt_0 2 rfl rfl)
theorem dX12_wayAt_5 : decode cX12_wayAt 5 = .ok (.goto 6, 3) := dc_167 (sg_at zd_dX12_wayAt_0 3 rfl rfl) rfl
theorem dX12_wayAt_8 : decode cX12_wayAt 8 = .ok (.iload_n 0, 1) := dc_26 (sg_at zd_dX12_wayAt_0 4 rfl rfl)
theorem dX12_wayAt_9 : decode cX12_wayAt 9 = .ok (.iconst 1, 1) := dc_4 (sg_at zd_dX12_wayAt_0 5 rfl rfl)
theorem dX12_wayAt_10 : decode cX12_wayAt 10 = .ok (.isub, 1) := dc_100 (sg_at zd_dX12_wayAt_0 6 rfl rfl)
theorem dX12_wayAt_11 : decode cX12_wayAt 11 = .ok (.ireturn, 1) := dc_172 (sg_at zd_dX12_wayAt_0 7 rfl rfl)
theorem zd_dX12_layGame_0 : sg (cX12_layGame.data.toList.drop 0) [[3], [62], [29], [16, 25], [162, 0, 197], [42], [27], [29], [8], [108], [184, 1, 229], [182, 1, 232], [54, 4], [42], [28], [29], [8], [112], [184, 1, 229], [182, 1, 232]] = true := by decide +kernel
theorem dX12_layGame_0 : decode cX12_layGame 0 = .ok (.iconst 0, 1) := dc_3 (sg_at zd_dX12_layGame_0 0 rfl rfl)
theorem dX12_layGame_1 : decode cX12_layGame 1 = .ok (.istore_n 3, 1) := dc_62 (sg_at zd_dX12_layGame_0 1 rfl rfl)
theorem dX12_layGame_2 : decode cX12_layGame 2 = .ok (.iload_n 3, 1) := dc_29 (sg_at zd_dX12_layGame_0 2 rfl rfl)
theorem dX12_layGame_3 : decode cX12_layGame 3 = .ok (.bipush 25, 2) := dc_16 (sg_at zd_dX12_layGame_0 3 rfl rfl) rfl
theorem dX12_layGame_5 : decode cX12_layGame 5 = .ok (.if_icmp .ge 197, 3) := dc_162 (sg_at zd_dX12_layGame_0 4 rfl rfl) rfl
theorem dX12_layGame_8 : decode cX12_layGame 8 = .ok (.aload_n 0, 1) := dc_42 (sg_at zd_dX12_layGame_0 5 rfl rfl)
theorem dX12_layGame_9 : decode cX12_layGame 9 = .ok (.iload_n 1, 1) := dc_27 (sg_at zd_dX12_layGame_0 6 rfl rfl)
theorem dX12_layGame_10 : decode cX12_layGame 10 = .ok (.iload_n 3, 1) := dc_29 (sg_at zd_dX12_layGame_0 7 rfl rfl)
theorem dX12_layGame_11 : decode cX12_layGame 11 = .ok (.iconst 5, 1) := dc_8 (sg_at zd_dX12_layGame_0 8 rfl rfl)
theorem dX12_layGame_12 : decode cX12_layGame 12 = .ok (.idiv, 1) := dc_108 (sg_at zd_dX12_layGame_0 9 rfl rfl)
theorem dX12_layGame_13 : decode cX12_layGame 13 = .ok (.invokestatic 485, 3) := dc_184 (sg_at zd_dX12_layGame_0 10 rfl rfl) rfl
theorem dX12_layGame_16 : decode cX12_layGame 16 = .ok (.invokevirtual 488, 3) := dc_182 (sg_at zd_dX12_layGame_0 11 rfl rfl) rfl
theorem dX12_layGame_19 : decode cX12_layGame 19 = .ok (.istore 4, 2) := dc_54 (sg_at zd_dX12_layGame_0 12 rfl rfl)
theorem dX12_layGame_21 : decode cX12_layGame 21 = .ok (.aload_n 0, 1) := dc_42 (sg_at zd_dX12_layGame_0 13 rfl rfl)
theorem dX12_layGame_22 : decode cX12_layGame 22 = .ok (.iload_n 2, 1) := dc_28 (sg_at zd_dX12_layGame_0 14 rfl rfl)
theorem dX12_layGame_23 : decode cX12_layGame 23 = .ok (.iload_n 3, 1) := dc_29 (sg_at zd_dX12_layGame_0 15 rfl rfl)
theorem dX12_layGame_24 : decode cX12_layGame 24 = .ok (.iconst 5, 1) := dc_8 (sg_at zd_dX12_layGame_0 16 rfl rfl)
theorem dX12_layGame_25 : decode cX12_layGame 25 = .ok (.irem, 1) := dc_112 (sg_at zd_dX12_layGame_0 17 rfl rfl)
theorem dX12_layGame_26 : decode cX12_layGame 26 = .ok (.invokestatic 485, 3) := dc_184 (sg_at zd_dX12_layGame_0 18 rfl rfl) rfl
theorem dX12_layGame_29 : decode cX12_layGame 29 = .ok (.invokevirtual 488, 3) := dc_182 (sg_at zd_dX12_layGame_0 19 rfl rfl) rfl
theorem zd_dX12_layGame_32 : sg (cX12_layGame.data.toList.drop 32) [[54, 5], [42], [180, 0, 121], [29], [2], [79], [42], [180, 0, 124], [29], [2], [79], [21, 4], [155, 0, 146], [21, 5], [156, 0, 6], [167, 0, 138], [42], [180, 0, 121], [29], [3]] = true := by decide +kernel
theorem dX12_layGame_32 : decode cX12_layGame 32 = .ok (.istore 5, 2) := dc_54 (sg_at zd_dX12_layGame_32 0 rfl rfl)
theorem dX12_layGame_34 : decode cX12_layGame 34 = .ok (.aload_n 0, 1) := dc_42 (sg_at zd_dX12_layGame_32 1 rfl rfl)
theorem dX12_layGame_35 : decode cX12_layGame 35 = .ok (.getfield 121, 3) := dc_180 (sg_at zd_dX12_layGame_32 2 rfl rfl) rfl
theorem dX12_layGame_38 : decode cX12_layGame 38 = .ok (.iload_n 3, 1) := dc_29 (sg_at zd_dX12_layGame_32 3 rfl rfl)
theorem dX12_layGame_39 : decode cX12_layGame 39 = .ok (.iconst (-1), 1) := dc_2 (sg_at zd_dX12_layGame_32 4 rfl rfl)
theorem dX12_layGame_40 : decode cX12_layGame 40 = .ok (.iastore, 1) := dc_79 (sg_at zd_dX12_layGame_32 5 rfl rfl)
theorem dX12_layGame_41 : decode cX12_layGame 41 = .ok (.aload_n 0, 1) := dc_42 (sg_at zd_dX12_layGame_32 6 rfl rfl)
theorem dX12_layGame_42 : decode cX12_layGame 42 = .ok (.getfield 124, 3) := dc_180 (sg_at zd_dX12_layGame_32 7 rfl rfl) rfl
theorem dX12_layGame_45 : decode cX12_layGame 45 = .ok (.iload_n 3, 1) := dc_29 (sg_at zd_dX12_layGame_32 8 rfl rfl)
theorem dX12_layGame_46 : decode cX12_layGame 46 = .ok (.iconst (-1), 1) := dc_2 (sg_at zd_dX12_layGame_32 9 rfl rfl)
theorem dX12_layGame_47 : decode cX12_layGame 47 = .ok (.iastore, 1) := dc_79 (sg_at zd_dX12_layGame_32 10 rfl rfl)
theorem dX12_layGame_48 : decode cX12_layGame 48 = .ok (.iload 4, 2) := dc_21 (sg_at zd_dX12_layGame_32 11 rfl rfl)
theorem dX12_layGame_50 : decode cX12_layGame 50 = .ok (.ifCond .lt 146, 3) := dc_155 (sg_at zd_dX12_layGame_32 12 rfl rfl) rfl
theorem dX12_layGame_53 : decode cX12_layGame 53 = .ok (.iload 5, 2) := dc_21 (sg_at zd_dX12_layGame_32 13 rfl rfl)
theorem dX12_layGame_55 : decode cX12_layGame 55 = .ok (.ifCond .ge 6, 3) := dc_156 (sg_at zd_dX12_layGame_32 14 rfl rfl) rfl
theorem dX12_layGame_58 : decode cX12_layGame 58 = .ok (.goto 138, 3) := dc_167 (sg_at zd_dX12_layGame_32 15 rfl rfl) rfl
theorem dX12_layGame_61 : decode cX12_layGame 61 = .ok (.aload_n 0, 1) := dc_42 (sg_at zd_dX12_layGame_32 16 rfl rfl)
theorem dX12_layGame_62 : decode cX12_layGame 62 = .ok (.getfield 121, 3) := dc_180 (sg_at zd_dX12_layGame_32 17 rfl rfl) rfl
theorem dX12_layGame_65 : decode cX12_layGame 65 = .ok (.iload_n 3, 1) := dc_29 (sg_at zd_dX12_layGame_32 18 rfl rfl)
theorem dX12_layGame_66 : decode cX12_layGame 66 = .ok (.iconst 0, 1) := dc_3 (sg_at zd_dX12_layGame_32 19 rfl rfl)
theorem zd_dX12_layGame_67 : sg (cX12_layGame.data.toList.drop 67) [[79], [42], [180, 0, 124], [29], [3], [79], [3], [54, 6], [21, 6], [42], [180, 0, 253], [162, 0, 112], [42], [21, 6], [182, 1, 220], [154, 0, 6], [167, 0, 94], [42], [42], [180, 0, 48]] = true := by decide +kernel
theorem dX12_layGame_67 : decode cX12_layGame 67 = .ok (.iastore, 1) := dc_79 (sg_at zd_dX12_layGame_67 0 rfl rfl)
theorem dX12_layGame_68 : decode cX12_layGame 68 = .ok (.aload_n 0, 1) := dc_42 (sg_at zd_dX12_layGame_67 1 rfl rfl)
theorem dX12_layGame_69 : decode cX12_layGame 69 = .ok (.getfield 124, 3) := dc_180 (sg_at zd_dX12_layGame_67 2 rfl rfl) rfl
theorem dX12_layGame_72 : decode cX12_layGame 72 = .ok (.iload_n 3, 1) := dc_29 (sg_at zd_dX12_layGame_67 3 rfl rfl)
theorem dX12_layGame_73 : decode cX12_layGame 73 = .ok (.iconst 0, 1) := dc_3 (sg_at zd_dX12_layGame_67 4 rfl rfl)
theorem dX12_layGame_74 : decode cX12_layGame 74 = .ok (.iastore, 1) := dc_79 (sg_at zd_dX12_layGame_67 5 rfl rfl)
theorem dX12_layGame_75 : decode cX12_layGame 75 = .ok (.iconst 0, 1) := dc_3 (sg_at zd_dX12_layGame_67 6 rfl rfl)
theorem dX12_layGame_76 : decode cX12_layGame 76 = .ok (.istore 6, 2) := dc_54 (sg_at zd_dX12_layGame_67 7 rfl rfl)
theorem dX12_layGame_78 : decode cX12_layGame 78 = .ok (.iload 6, 2) := dc_21 (sg_at zd_dX12_layGame_67 8 rfl rfl)
theorem dX12_layGame_80 : decode cX12_layGame 80 = .ok (.aload_n 0, 1) := dc_42 (sg_at zd_dX12_layGame_67 9 rfl rfl)
theorem dX12_layGame_81 : decode cX12_layGame 81 = .ok (.getfield 253, 3) := dc_180 (sg_at zd_dX12_layGame_67 10 rfl rfl) rfl
theorem dX12_layGame_84 : decode cX12_layGame 84 = .ok (.if_icmp .ge 112, 3) := dc_162 (sg_at zd_dX12_layGame_67 11 rfl rfl) rfl
theorem dX12_layGame_87 : decode cX12_layGame 87 = .ok (.aload_n 0, 1) := dc_42 (sg_at zd_dX12_layGame_67 12 rfl rfl)
theorem dX12_layGame_88 : decode cX12_layGame 88 = .ok (.iload 6, 2) := dc_21 (sg_at zd_dX12_layGame_67 13 rfl rfl)
theorem dX12_layGame_90 : decode cX12_layGame 90 = .ok (.invokevirtual 476, 3) := dc_182 (sg_at zd_dX12_layGame_67 14 rfl rfl) rfl
theorem dX12_layGame_93 : decode cX12_layGame 93 = .ok (.ifCond .ne 6, 3) := dc_154 (sg_at zd_dX12_layGame_67 15 rfl rfl) rfl
theorem dX12_layGame_96 : decode cX12_layGame 96 = .ok (.goto 94, 3) := dc_167 (sg_at zd_dX12_layGame_67 16 rfl rfl) rfl
theorem dX12_layGame_99 : decode cX12_layGame 99 = .ok (.aload_n 0, 1) := dc_42 (sg_at zd_dX12_layGame_67 17 rfl rfl)
theorem dX12_layGame_100 : decode cX12_layGame 100 = .ok (.aload_n 0, 1) := dc_42 (sg_at zd_dX12_layGame_67 18 rfl rfl)
theorem dX12_layGame_101 : decode cX12_layGame 101 = .ok (.getfield 48, 3) := dc_180 (sg_at zd_dX12_layGame_67 19 rfl rfl) rfl
theorem zd_dX12_layGame_104 : sg (cX12_layGame.data.toList.drop 104) [[21, 6], [46], [182, 1, 144], [54, 7], [42], [21, 4], [21, 7], [182, 1, 147], [54, 8], [42], [21, 5], [21, 7], [182, 1, 147], [54, 9], [21, 8], [21, 9], [161, 0, 15], [21, 8], [21, 9], [160, 0, 29]] = true := by decide +kernel
theorem dX12_layGame_104 : decode cX12_layGame 104 = .ok (.iload 6, 2) := dc_21 (sg_at zd_dX12_layGame_104 0 rfl rfl)
theorem dX12_layGame_106 : decode cX12_layGame 106 = .ok (.iaload, 1) := dc_46 (sg_at zd_dX12_layGame_104 1 rfl rfl)
theorem dX12_layGame_107 : decode cX12_layGame 107 = .ok (.invokevirtual 400, 3) := dc_182 (sg_at zd_dX12_layGame_104 2 rfl rfl) rfl
theorem dX12_layGame_110 : decode cX12_layGame 110 = .ok (.istore 7, 2) := dc_54 (sg_at zd_dX12_layGame_104 3 rfl rfl)
theorem dX12_layGame_112 : decode cX12_layGame 112 = .ok (.aload_n 0, 1) := dc_42 (sg_at zd_dX12_layGame_104 4 rfl rfl)
theorem dX12_layGame_113 : decode cX12_layGame 113 = .ok (.iload 4, 2) := dc_21 (sg_at zd_dX12_layGame_104 5 rfl rfl)
theorem dX12_layGame_115 : decode cX12_layGame 115 = .ok (.iload 7, 2) := dc_21 (sg_at zd_dX12_layGame_104 6 rfl rfl)
theorem dX12_layGame_117 : decode cX12_layGame 117 = .ok (.invokevirtual 403, 3) := dc_182 (sg_at zd_dX12_layGame_104 7 rfl rfl) rfl
theorem dX12_layGame_120 : decode cX12_layGame 120 = .ok (.istore 8, 2) := dc_54 (sg_at zd_dX12_layGame_104 8 rfl rfl)
theorem dX12_layGame_122 : decode cX12_layGame 122 = .ok (.aload_n 0, 1) := dc_42 (sg_at zd_dX12_layGame_104 9 rfl rfl)
theorem dX12_layGame_123 : decode cX12_layGame 123 = .ok (.iload 5, 2) := dc_21 (sg_at zd_dX12_layGame_104 10 rfl rfl)
theorem dX12_layGame_125 : decode cX12_layGame 125 = .ok (.iload 7, 2) := dc_21 (sg_at zd_dX12_layGame_104 11 rfl rfl)
theorem dX12_layGame_127 : decode cX12_layGame 127 = .ok (.invokevirtual 403, 3) := dc_182 (sg_at zd_dX12_layGame_104 12 rfl rfl) rfl
theorem dX12_layGame_130 : decode cX12_layGame 130 = .ok (.istore 9, 2) := dc_54 (sg_at zd_dX12_layGame_104 13 rfl rfl)
theorem dX12_layGame_132 : decode cX12_layGame 132 = .ok (.iload 8, 2) := dc_21 (sg_at zd_dX12_layGame_104 14 rfl rfl)
theorem dX12_layGame_134 : decode cX12_layGame 134 = .ok (.iload 9, 2) := dc_21 (sg_at zd_dX12_layGame_104 15 rfl rfl)
theorem dX12_layGame_136 : decode cX12_layGame 136 = .ok (.if_icmp .lt 15, 3) := dc_161 (sg_at zd_dX12_layGame_104 16 rfl rfl) rfl
theorem dX12_layGame_139 : decode cX12_layGame 139 = .ok (.iload 8, 2) := dc_21 (sg_at zd_dX12_layGame_104 17 rfl rfl)
theorem dX12_layGame_141 : decode cX12_layGame 141 = .ok (.iload 9, 2) := dc_21 (sg_at zd_dX12_layGame_104 18 rfl rfl)
theorem dX12_layGame_143 : decode cX12_layGame 143 = .ok (.if_icmp .ne 29, 3) := dc_160 (sg_at zd_dX12_layGame_104 19 rfl rfl) rfl
theorem zd_dX12_layGame_146 : sg (cX12_layGame.data.toList.drop 146) [[27], [28], [162, 0, 24], [42], [180, 0, 121], [29], [92], [46], [42], [27], [21, 6], [21, 4], [182, 1, 223], [96], [79], [167, 0, 21], [42], [180, 0, 124], [29], [92]] = true := by decide +kernel
theorem dX12_layGame_146 : decode cX12_layGame 146 = .ok (.iload_n 1, 1) := dc_27 (sg_at zd_dX12_layGame_146 0 rfl rfl)
theorem dX12_layGame_147 : decode cX12_layGame 147 = .ok (.iload_n 2, 1) := dc_28 (sg_at zd_dX12_layGame_146 1 rfl rfl)
theorem dX12_layGame_148 : decode cX12_layGame 148 = .ok (.if_icmp .ge 24, 3) := dc_162 (sg_at zd_dX12_layGame_146 2 rfl rfl) rfl
theorem dX12_layGame_151 : decode cX12_layGame 151 = .ok (.aload_n 0, 1) := dc_42 (sg_at zd_dX12_layGame_146 3 rfl rfl)
theorem dX12_layGame_152 : decode cX12_layGame 152 = .ok (.getfield 121, 3) := dc_180 (sg_at zd_dX12_layGame_146 4 rfl rfl) rfl
theorem dX12_layGame_155 : decode cX12_layGame 155 = .ok (.iload_n 3, 1) := dc_29 (sg_at zd_dX12_layGame_146 5 rfl rfl)
theorem dX12_layGame_156 : decode cX12_layGame 156 = .ok (.dup2, 1) := dc_92 (sg_at zd_dX12_layGame_146 6 rfl rfl)
theorem dX12_layGame_157 : decode cX12_layGame 157 = .ok (.iaload, 1) := dc_46 (sg_at zd_dX12_layGame_146 7 rfl rfl)
theorem dX12_layGame_158 : decode cX12_layGame 158 = .ok (.aload_n 0, 1) := dc_42 (sg_at zd_dX12_layGame_146 8 rfl rfl)
theorem dX12_layGame_159 : decode cX12_layGame 159 = .ok (.iload_n 1, 1) := dc_27 (sg_at zd_dX12_layGame_146 9 rfl rfl)
theorem dX12_layGame_160 : decode cX12_layGame 160 = .ok (.iload 6, 2) := dc_21 (sg_at zd_dX12_layGame_146 10 rfl rfl)
theorem dX12_layGame_162 : decode cX12_layGame 162 = .ok (.iload 4, 2) := dc_21 (sg_at zd_dX12_layGame_146 11 rfl rfl)
theorem dX12_layGame_164 : decode cX12_layGame 164 = .ok (.invokevirtual 479, 3) := dc_182 (sg_at zd_dX12_layGame_146 12 rfl rfl) rfl
theorem dX12_layGame_167 : decode cX12_layGame 167 = .ok (.iadd, 1) := dc_96 (sg_at zd_dX12_layGame_146 13 rfl rfl)
theorem dX12_layGame_168 : decode cX12_layGame 168 = .ok (.iastore, 1) := dc_79 (sg_at zd_dX12_layGame_146 14 rfl rfl)
theorem dX12_layGame_169 : decode cX12_layGame 169 = .ok (.goto 21, 3) := dc_167 (sg_at zd_dX12_layGame_146 15 rfl rfl) rfl
theorem dX12_layGame_172 : decode cX12_layGame 172 = .ok (.aload_n 0, 1) := dc_42 (sg_at zd_dX12_layGame_146 16 rfl rfl)
theorem dX12_layGame_173 : decode cX12_layGame 173 = .ok (.getfield 124, 3) := dc_180 (sg_at zd_dX12_layGame_146 17 rfl rfl) rfl
theorem dX12_layGame_176 : decode cX12_layGame 176 = .ok (.iload_n 3, 1) := dc_29 (sg_at zd_dX12_layGame_146 18 rfl rfl)
theorem dX12_layGame_177 : decode cX12_layGame 177 = .ok (.dup2, 1) := dc_92 (sg_at zd_dX12_layGame_146 19 rfl rfl)
theorem zd_dX12_layGame_178 : sg (cX12_layGame.data.toList.drop 178) [[46], [42], [28], [21, 6], [21, 5], [182, 1, 223], [96], [79], [132, 6, 1], [167, 255, 141], [132, 3, 1], [167, 255, 59], [177]] = true := by decide +kernel
theorem dX12_layGame_178 : decode cX12_layGame 178 = .ok (.iaload, 1) := dc_46 (sg_at zd_dX12_layGame_178 0 rfl rfl)
theorem dX12_layGame_179 : decode cX12_layGame 179 = .ok (.aload_n 0, 1) := dc_42 (sg_at zd_dX12_layGame_178 1 rfl rfl)
theorem dX12_layGame_180 : decode cX12_layGame 180 = .ok (.iload_n 2, 1) := dc_28 (sg_at zd_dX12_layGame_178 2 rfl rfl)
theorem dX12_layGame_181 : decode cX12_layGame 181 = .ok (.iload 6, 2) := dc_21 (sg_at zd_dX12_layGame_178 3 rfl rfl)
theorem dX12_layGame_183 : decode cX12_layGame 183 = .ok (.iload 5, 2) := dc_21 (sg_at zd_dX12_layGame_178 4 rfl rfl)
theorem dX12_layGame_185 : decode cX12_layGame 185 = .ok (.invokevirtual 479, 3) := dc_182 (sg_at zd_dX12_layGame_178 5 rfl rfl) rfl
theorem dX12_layGame_188 : decode cX12_layGame 188 = .ok (.iadd, 1) := dc_96 (sg_at zd_dX12_layGame_178 6 rfl rfl)
theorem dX12_layGame_189 : decode cX12_layGame 189 = .ok (.iastore, 1) := dc_79 (sg_at zd_dX12_layGame_178 7 rfl rfl)
theorem dX12_layGame_190 : decode cX12_layGame 190 = .ok (.iinc 6 1, 3) := dc_132 (sg_at zd_dX12_layGame_178 8 rfl rfl) rfl
theorem dX12_layGame_193 : decode cX12_layGame 193 = .ok (.goto (-115), 3) := dc_167 (sg_at zd_dX12_layGame_178 9 rfl rfl) rfl
theorem dX12_layGame_196 : decode cX12_layGame 196 = .ok (.iinc 3 1, 3) := dc_132 (sg_at zd_dX12_layGame_178 10 rfl rfl) rfl
theorem dX12_layGame_199 : decode cX12_layGame 199 = .ok (.goto (-197), 3) := dc_167 (sg_at zd_dX12_layGame_178 11 rfl rfl) rfl
theorem dX12_layGame_202 : decode cX12_layGame 202 = .ok (.return_, 1) := dc_177 (sg_at zd_dX12_layGame_178 12 rfl rfl)
theorem zd_dX12_layPlan_0 : sg (cX12_layPlan.data.toList.drop 0) [[42], [180, 0, 127], [42], [180, 0, 253], [3], [79], [42], [180, 0, 253], [4], [100], [61], [28], [155, 0, 113], [28], [4], [96], [62], [42], [27], [28]] = true := by decide +kernel
theorem dX12_layPlan_0 : decode cX12_layPlan 0 = .ok (.aload_n 0, 1) := dc_42 (sg_at zd_dX12_layPlan_0 0 rfl rfl)
theorem dX12_layPlan_1 : decode cX12_layPlan 1 = .ok (.getfield 127, 3) := dc_180 (sg_at zd_dX12_layPlan_0 1 rfl rfl) rfl
theorem dX12_layPlan_4 : decode cX12_layPlan 4 = .ok (.aload_n 0, 1) := dc_42 (sg_at zd_dX12_layPlan_0 2 rfl rfl)
theorem dX12_layPlan_5 : decode cX12_layPlan 5 = .ok (.getfield 253, 3) := dc_180 (sg_at zd_dX12_layPlan_0 3 rfl rfl) rfl
theorem dX12_layPlan_8 : decode cX12_layPlan 8 = .ok (.iconst 0, 1) := dc_3 (sg_at zd_dX12_layPlan_0 4 rfl rfl)
theorem dX12_layPlan_9 : decode cX12_layPlan 9 = .ok (.iastore, 1) := dc_79 (sg_at zd_dX12_layPlan_0 5 rfl rfl)
theorem dX12_layPlan_10 : decode cX12_layPlan 10 = .ok (.aload_n 0, 1) := dc_42 (sg_at zd_dX12_layPlan_0 6 rfl rfl)
theorem dX12_layPlan_11 : decode cX12_layPlan 11 = .ok (.getfield 253, 3) := dc_180 (sg_at zd_dX12_layPlan_0 7 rfl rfl) rfl
theorem dX12_layPlan_14 : decode cX12_layPlan 14 = .ok (.iconst 1, 1) := dc_4 (sg_at zd_dX12_layPlan_0 8 rfl rfl)
theorem dX12_layPlan_15 : decode cX12_layPlan 15 = .ok (.isub, 1) := dc_100 (sg_at zd_dX12_layPlan_0 9 rfl rfl)
theorem dX12_layPlan_16 : decode cX12_layPlan 16 = .ok (.istore_n 2, 1) := dc_61 (sg_at zd_dX12_layPlan_0 10 rfl rfl)
theorem dX12_layPlan_17 : decode cX12_layPlan 17 = .ok (.iload_n 2, 1) := dc_28 (sg_at zd_dX12_layPlan_0 11 rfl rfl)
theorem dX12_layPlan_18 : decode cX12_layPlan 18 = .ok (.ifCond .lt 113, 3) := dc_155 (sg_at zd_dX12_layPlan_0 12 rfl rfl) rfl
theorem dX12_layPlan_21 : decode cX12_layPlan 21 = .ok (.iload_n 2, 1) := dc_28 (sg_at zd_dX12_layPlan_0 13 rfl rfl)
theorem dX12_layPlan_22 : decode cX12_layPlan 22 = .ok (.iconst 1, 1) := dc_4 (sg_at zd_dX12_layPlan_0 14 rfl rfl)
theorem dX12_layPlan_23 : decode cX12_layPlan 23 = .ok (.iadd, 1) := dc_96 (sg_at zd_dX12_layPlan_0 15 rfl rfl)
theorem dX12_layPlan_24 : decode cX12_layPlan 24 = .ok (.istore_n 3, 1) := dc_62 (sg_at zd_dX12_layPlan_0 16 rfl rfl)
theorem dX12_layPlan_25 : decode cX12_layPlan 25 = .ok (.aload_n 0, 1) := dc_42 (sg_at zd_dX12_layPlan_0 17 rfl rfl)
theorem dX12_layPlan_26 : decode cX12_layPlan 26 = .ok (.iload_n 1, 1) := dc_27 (sg_at zd_dX12_layPlan_0 18 rfl rfl)
theorem dX12_layPlan_27 : decode cX12_layPlan 27 = .ok (.iload_n 2, 1) := dc_28 (sg_at zd_dX12_layPlan_0 19 rfl rfl)
theorem zd_dX12_layPlan_28 : sg (cX12_layPlan.data.toList.drop 28) [[182, 1, 194], [54, 4], [29], [42], [180, 0, 253], [162, 0, 27], [42], [180, 0, 48], [29], [46], [42], [180, 0, 48], [28], [46], [21, 4], [96], [162, 0, 9], [132, 3, 1], [167, 255, 227], [42]] = true := by decide +kernel
theorem dX12_layPlan_28 : decode cX12_layPlan 28 = .ok (.invokevirtual 450, 3) := dc_182 (sg_at zd_dX12_layPlan_28 0 rfl rfl) rfl
theorem dX12_layPlan_31 : decode cX12_layPlan 31 = .ok (.istore 4, 2) := dc_54 (sg_at zd_dX12_layPlan_28 1 rfl rfl)
theorem dX12_layPlan_33 : decode cX12_layPlan 33 = .ok (.iload_n 3, 1) := dc_29 (sg_at zd_dX12_layPlan_28 2 rfl rfl)
theorem dX12_layPlan_34 : decode cX12_layPlan 34 = .ok (.aload_n 0, 1) := dc_42 (sg_at zd_dX12_layPlan_28 3 rfl rfl)
theorem dX12_layPlan_35 : decode cX12_layPlan 35 = .ok (.getfield 253, 3) := dc_180 (sg_at zd_dX12_layPlan_28 4 rfl rfl) rfl
theorem dX12_layPlan_38 : decode cX12_layPlan 38 = .ok (.if_icmp .ge 27, 3) := dc_162 (sg_at zd_dX12_layPlan_28 5 rfl rfl) rfl
theorem dX12_layPlan_41 : decode cX12_layPlan 41 = .ok (.aload_n 0, 1) := dc_42 (sg_at zd_dX12_layPlan_28 6 rfl rfl)
theorem dX12_layPlan_42 : decode cX12_layPlan 42 = .ok (.getfield 48, 3) := dc_180 (sg_at zd_dX12_layPlan_28 7 rfl rfl) rfl
theorem dX12_layPlan_45 : decode cX12_layPlan 45 = .ok (.iload_n 3, 1) := dc_29 (sg_at zd_dX12_layPlan_28 8 rfl rfl)
theorem dX12_layPlan_46 : decode cX12_layPlan 46 = .ok (.iaload, 1) := dc_46 (sg_at zd_dX12_layPlan_28 9 rfl rfl)
theorem dX12_layPlan_47 : decode cX12_layPlan 47 = .ok (.aload_n 0, 1) := dc_42 (sg_at zd_dX12_layPlan_28 10 rfl rfl)
theorem dX12_layPlan_48 : decode cX12_layPlan 48 = .ok (.getfield 48, 3) := dc_180 (sg_at zd_dX12_layPlan_28 11 rfl rfl) rfl
theorem dX12_layPlan_51 : decode cX12_layPlan 51 = .ok (.iload_n 2, 1) := dc_28 (sg_at zd_dX12_layPlan_28 12 rfl rfl)
theorem dX12_layPlan_52 : decode cX12_layPlan 52 = .ok (.iaload, 1) := dc_46 (sg_at zd_dX12_layPlan_28 13 rfl rfl)
theorem dX12_layPlan_53 : decode cX12_layPlan 53 = .ok (.iload 4, 2) := dc_21 (sg_at zd_dX12_layPlan_28 14 rfl rfl)
theorem dX12_layPlan_55 : decode cX12_layPlan 55 = .ok (.iadd, 1) := dc_96 (sg_at zd_dX12_layPlan_28 15 rfl rfl)
theorem dX12_layPlan_56 : decode cX12_layPlan 56 = .ok (.if_icmp .ge 9, 3) := dc_162 (sg_at zd_dX12_layPlan_28 16 rfl rfl) rfl
theorem dX12_layPlan_59 : decode cX12_layPlan 59 = .ok (.iinc 3 1, 3) := dc_132 (sg_at zd_dX12_layPlan_28 17 rfl rfl) rfl
theorem dX12_layPlan_62 : decode cX12_layPlan 62 = .ok (.goto (-29), 3) := dc_167 (sg_at zd_dX12_layPlan_28 18 rfl rfl) rfl
theorem dX12_layPlan_65 : decode cX12_layPlan 65 = .ok (.aload_n 0, 1) := dc_42 (sg_at zd_dX12_layPlan_28 19 rfl rfl)
theorem zd_dX12_layPlan_66 : sg (cX12_layPlan.data.toList.drop 66) [[180, 0, 130], [28], [29], [79], [42], [27], [28], [42], [180, 0, 88], [27], [46], [182, 1, 223], [42], [180, 0, 127], [29], [46], [96], [54, 5], [42], [180, 0, 127]] = true := by decide +kernel
theorem dX12_layPlan_66 : decode cX12_layPlan 66 = .ok (.getfield 130, 3) := dc_180 (sg_at zd_dX12_layPlan_66 0 rfl rfl) rfl
theorem dX12_layPlan_69 : decode cX12_layPlan 69 = .ok (.iload_n 2, 1) := dc_28 (sg_at zd_dX12_layPlan_66 1 rfl rfl)
theorem dX12_layPlan_70 : decode cX12_layPlan 70 = .ok (.iload_n 3, 1) := dc_29 (sg_at zd_dX12_layPlan_66 2 rfl rfl)
theorem dX12_layPlan_71 : decode cX12_layPlan 71 = .ok (.iastore, 1) := dc_79 (sg_at zd_dX12_layPlan_66 3 rfl rfl)
theorem dX12_layPlan_72 : decode cX12_layPlan 72 = .ok (.aload_n 0, 1) := dc_42 (sg_at zd_dX12_layPlan_66 4 rfl rfl)
theorem dX12_layPlan_73 : decode cX12_layPlan 73 = .ok (.iload_n 1, 1) := dc_27 (sg_at zd_dX12_layPlan_66 5 rfl rfl)
theorem dX12_layPlan_74 : decode cX12_layPlan 74 = .ok (.iload_n 2, 1) := dc_28 (sg_at zd_dX12_layPlan_66 6 rfl rfl)
theorem dX12_layPlan_75 : decode cX12_layPlan 75 = .ok (.aload_n 0, 1) := dc_42 (sg_at zd_dX12_layPlan_66 7 rfl rfl)
theorem dX12_layPlan_76 : decode cX12_layPlan 76 = .ok (.getfield 88, 3) := dc_180 (sg_at zd_dX12_layPlan_66 8 rfl rfl) rfl
theorem dX12_layPlan_79 : decode cX12_layPlan 79 = .ok (.iload_n 1, 1) := dc_27 (sg_at zd_dX12_layPlan_66 9 rfl rfl)
theorem dX12_layPlan_80 : decode cX12_layPlan 80 = .ok (.iaload, 1) := dc_46 (sg_at zd_dX12_layPlan_66 10 rfl rfl)
theorem dX12_layPlan_81 : decode cX12_layPlan 81 = .ok (.invokevirtual 479, 3) := dc_182 (sg_at zd_dX12_layPlan_66 11 rfl rfl) rfl
theorem dX12_layPlan_84 : decode cX12_layPlan 84 = .ok (.aload_n 0, 1) := dc_42 (sg_at zd_dX12_layPlan_66 12 rfl rfl)
theorem dX12_layPlan_85 : decode cX12_layPlan 85 = .ok (.getfield 127, 3) := dc_180 (sg_at zd_dX12_layPlan_66 13 rfl rfl) rfl
theorem dX12_layPlan_88 : decode cX12_layPlan 88 = .ok (.iload_n 3, 1) := dc_29 (sg_at zd_dX12_layPlan_66 14 rfl rfl)
theorem dX12_layPlan_89 : decode cX12_layPlan 89 = .ok (.iaload, 1) := dc_46 (sg_at zd_dX12_layPlan_66 15 rfl rfl)
theorem dX12_layPlan_90 : decode cX12_layPlan 90 = .ok (.iadd, 1) := dc_96 (sg_at zd_dX12_layPlan_66 16 rfl rfl)
theorem dX12_layPlan_91 : decode cX12_layPlan 91 = .ok (.istore 5, 2) := dc_54 (sg_at zd_dX12_layPlan_66 17 rfl rfl)
theorem dX12_layPlan_93 : decode cX12_layPlan 93 = .ok (.aload_n 0, 1) := dc_42 (sg_at zd_dX12_layPlan_66 18 rfl rfl)
theorem dX12_layPlan_94 : decode cX12_layPlan 94 = .ok (.getfield 127, 3) := dc_180 (sg_at zd_dX12_layPlan_66 19 rfl rfl) rfl
theorem zd_dX12_layPlan_97 : sg (cX12_layPlan.data.toList.drop 97) [[28], [21, 5], [42], [180, 0, 127], [28], [4], [96], [46], [161, 0, 8], [21, 5], [167, 0, 11], [42], [180, 0, 127], [28], [4], [96], [46], [79], [132, 2, 255], [167, 255, 145]] = true := by decide +kernel
theorem dX12_layPlan_97 : decode cX12_layPlan 97 = .ok (.iload_n 2, 1) := dc_28 (sg_at zd_dX12_layPlan_97 0 rfl rfl)
theorem dX12_layPlan_98 : decode cX12_layPlan 98 = .ok (.iload 5, 2) := dc_21 (sg_at zd_dX12_layPlan_97 1 rfl rfl)
theorem dX12_layPlan_100 : decode cX12_layPlan 100 = .ok (.aload_n 0, 1) := dc_42 (sg_at zd_dX12_layPlan_97 2 rfl rfl)
theorem dX12_layPlan_101 : decode cX12_layPlan 101 = .ok (.getfield 127, 3) := dc_180 (sg_at zd_dX12_layPlan_97 3 rfl rfl) rfl
theorem dX12_layPlan_104 : decode cX12_layPlan 104 = .ok (.iload_n 2, 1) := dc_28 (sg_at zd_dX12_layPlan_97 4 rfl rfl)
theorem dX12_layPlan_105 : decode cX12_layPlan 105 = .ok (.iconst 1, 1) := dc_4 (sg_at zd_dX12_layPlan_97 5 rfl rfl)
theorem dX12_layPlan_106 : decode cX12_layPlan 106 = .ok (.iadd, 1) := dc_96 (sg_at zd_dX12_layPlan_97 6 rfl rfl)
theorem dX12_layPlan_107 : decode cX12_layPlan 107 = .ok (.iaload, 1) := dc_46 (sg_at zd_dX12_layPlan_97 7 rfl rfl)
theorem dX12_layPlan_108 : decode cX12_layPlan 108 = .ok (.if_icmp .lt 8, 3) := dc_161 (sg_at zd_dX12_layPlan_97 8 rfl rfl) rfl
theorem dX12_layPlan_111 : decode cX12_layPlan 111 = .ok (.iload 5, 2) := dc_21 (sg_at zd_dX12_layPlan_97 9 rfl rfl)
theorem dX12_layPlan_113 : decode cX12_layPlan 113 = .ok (.goto 11, 3) := dc_167 (sg_at zd_dX12_layPlan_97 10 rfl rfl) rfl
theorem dX12_layPlan_116 : decode cX12_layPlan 116 = .ok (.aload_n 0, 1) := dc_42 (sg_at zd_dX12_layPlan_97 11 rfl rfl)
theorem dX12_layPlan_117 : decode cX12_layPlan 117 = .ok (.getfield 127, 3) := dc_180 (sg_at zd_dX12_layPlan_97 12 rfl rfl) rfl
theorem dX12_layPlan_120 : decode cX12_layPlan 120 = .ok (.iload_n 2, 1) := dc_28 (sg_at zd_dX12_layPlan_97 13 rfl rfl)
theorem dX12_layPlan_121 : decode cX12_layPlan 121 = .ok (.iconst 1, 1) := dc_4 (sg_at zd_dX12_layPlan_97 14 rfl rfl)
theorem dX12_layPlan_122 : decode cX12_layPlan 122 = .ok (.iadd, 1) := dc_96 (sg_at zd_dX12_layPlan_97 15 rfl rfl)
theorem dX12_layPlan_123 : decode cX12_layPlan 123 = .ok (.iaload, 1) := dc_46 (sg_at zd_dX12_layPlan_97 16 rfl rfl)
theorem dX12_layPlan_124 : decode cX12_layPlan 124 = .ok (.iastore, 1) := dc_79 (sg_at zd_dX12_layPlan_97 17 rfl rfl)
theorem dX12_layPlan_125 : decode cX12_layPlan 125 = .ok (.iinc 2 (-1), 3) := dc_132 (sg_at zd_dX12_layPlan_97 18 rfl rfl) rfl
theorem dX12_layPlan_128 : decode cX12_layPlan 128 = .ok (.goto (-111), 3) := dc_167 (sg_at zd_dX12_layPlan_97 19 rfl rfl) rfl
theorem zd_dX12_layPlan_131 : sg (cX12_layPlan.data.toList.drop 131) [[177]] = true := by decide +kernel
theorem dX12_layPlan_131 : decode cX12_layPlan 131 = .ok (.return_, 1) := dc_177 (sg_at zd_dX12_layPlan_131 0 rfl rfl)
theorem zd_dX12_waitsFor_0 : sg (cX12_waitsFor.data.toList.drop 0) [[42], [180, 0, 75], [42], [180, 1, 45], [27], [79], [42], [89], [180, 1, 45], [4], [96], [181, 1, 45], [177]] = true := by decide +kernel
theorem dX12_waitsFor_0 : decode cX12_waitsFor 0 = .ok (.aload_n 0, 1) := dc_42 (sg_at zd_dX12_waitsFor_0 0 rfl rfl)
theorem dX12_waitsFor_1 : decode cX12_waitsFor 1 = .ok (.getfield 75, 3) := dc_180 (sg_at zd_dX12_waitsFor_0 1 rfl rfl) rfl
theorem dX12_waitsFor_4 : decode cX12_waitsFor 4 = .ok (.aload_n 0, 1) := dc_42 (sg_at zd_dX12_waitsFor_0 2 rfl rfl)
theorem dX12_waitsFor_5 : decode cX12_waitsFor 5 = .ok (.getfield 301, 3) := dc_180 (sg_at zd_dX12_waitsFor_0 3 rfl rfl) rfl
theorem dX12_waitsFor_8 : decode cX12_waitsFor 8 = .ok (.iload_n 1, 1) := dc_27 (sg_at zd_dX12_waitsFor_0 4 rfl rfl)
theorem dX12_waitsFor_9 : decode cX12_waitsFor 9 = .ok (.iastore, 1) := dc_79 (sg_at zd_dX12_waitsFor_0 5 rfl rfl)
theorem dX12_waitsFor_10 : decode cX12_waitsFor 10 = .ok (.aload_n 0, 1) := dc_42 (sg_at zd_dX12_waitsFor_0 6 rfl rfl)
theorem dX12_waitsFor_11 : decode cX12_waitsFor 11 = .ok (.dup, 1) := dc_89 (sg_at zd_dX12_waitsFor_0 7 rfl rfl)
theorem dX12_waitsFor_12 : decode cX12_waitsFor 12 = .ok (.getfield 301, 3) := dc_180 (sg_at zd_dX12_waitsFor_0 8 rfl rfl) rfl
theorem dX12_waitsFor_15 : decode cX12_waitsFor 15 = .ok (.iconst 1, 1) := dc_4 (sg_at zd_dX12_waitsFor_0 9 rfl rfl)
theorem dX12_waitsFor_16 : decode cX12_waitsFor 16 = .ok (.iadd, 1) := dc_96 (sg_at zd_dX12_waitsFor_0 10 rfl rfl)
theorem dX12_waitsFor_17 : decode cX12_waitsFor 17 = .ok (.putfield 301, 3) := dc_181 (sg_at zd_dX12_waitsFor_0 11 rfl rfl) rfl
theorem dX12_waitsFor_20 : decode cX12_waitsFor 20 = .ok (.return_, 1) := dc_177 (sg_at zd_dX12_waitsFor_0 12 rfl rfl)
theorem zd_dX12_nameMet_0 : sg (cX12_nameMet.data.toList.drop 0) [[42], [180, 0, 172], [4], [160, 0, 22], [42], [180, 0, 183], [16, 18], [161, 0, 13], [42], [180, 0, 183], [16, 18], [100], [167, 0, 4], [2], [172]] = true := by decide +kernel
theorem dX12_nameMet_0 : decode cX12_nameMet 0 = .ok (.aload_n 0, 1) := dc_42 (sg_at zd_dX12_nameMet_0 0 rfl rfl)
theorem dX12_nameMet_1 : decode cX12_nameMet 1 = .ok (.getfield 172, 3) := dc_180 (sg_at zd_dX12_nameMet_0 1 rfl rfl) rfl
theorem dX12_nameMet_4 : decode cX12_nameMet 4 = .ok (.iconst 1, 1) := dc_4 (sg_at zd_dX12_nameMet_0 2 rfl rfl)
theorem dX12_nameMet_5 : decode cX12_nameMet 5 = .ok (.if_icmp .ne 22, 3) := dc_160 (sg_at zd_dX12_nameMet_0 3 rfl rfl) rfl
theorem dX12_nameMet_8 : decode cX12_nameMet 8 = .ok (.aload_n 0, 1) := dc_42 (sg_at zd_dX12_nameMet_0 4 rfl rfl)
theorem dX12_nameMet_9 : decode cX12_nameMet 9 = .ok (.getfield 183, 3) := dc_180 (sg_at zd_dX12_nameMet_0 5 rfl rfl) rfl
theorem dX12_nameMet_12 : decode cX12_nameMet 12 = .ok (.bipush 18, 2) := dc_16 (sg_at zd_dX12_nameMet_0 6 rfl rfl) rfl
theorem dX12_nameMet_14 : decode cX12_nameMet 14 = .ok (.if_icmp .lt 13, 3) := dc_161 (sg_at zd_dX12_nameMet_0 7 rfl rfl) rfl
theorem dX12_nameMet_17 : decode cX12_nameMet 17 = .ok (.aload_n 0, 1) := dc_42 (sg_at zd_dX12_nameMet_0 8 rfl rfl)
theorem dX12_nameMet_18 : decode cX12_nameMet 18 = .ok (.getfield 183, 3) := dc_180 (sg_at zd_dX12_nameMet_0 9 rfl rfl) rfl
theorem dX12_nameMet_21 : decode cX12_nameMet 21 = .ok (.bipush 18, 2) := dc_16 (sg_at zd_dX12_nameMet_0 10 rfl rfl) rfl
theorem dX12_nameMet_23 : decode cX12_nameMet 23 = .ok (.isub, 1) := dc_100 (sg_at zd_dX12_nameMet_0 11 rfl rfl)
theorem dX12_nameMet_24 : decode cX12_nameMet 24 = .ok (.goto 4, 3) := dc_167 (sg_at zd_dX12_nameMet_0 12 rfl rfl) rfl
theorem dX12_nameMet_27 : decode cX12_nameMet 27 = .ok (.iconst (-1), 1) := dc_2 (sg_at zd_dX12_nameMet_0 13 rfl rfl)
theorem dX12_nameMet_28 : decode cX12_nameMet 28 = .ok (.ireturn, 1) := dc_172 (sg_at zd_dX12_nameMet_0 14 rfl rfl)
section
variable {p : Program} {l : Launch} {e : Env} {s : State} {m : MethodId} {args : Array Value} {below : List Frame} {meth : Method} {c : Code} {D : va_G} {cy : Nat → ClassId} {b : Nat} {A : Nat → Prop} {fl : Bool}
def vX12_fairest : List Cond := .code yX12_fairest cX12_fairest 6 (some .int) :: TB
theorem gX12_fairest_X12_run : GoodIn vX12_fairest (wsV RX12 515 RX12 yX12_run vX12_run) := gV_of wT_58_5 wT_58_6 wT_58_7 wT_1_5 wT_58_8
theorem gX12_fairest_X12_unlike : GoodIn vX12_fairest (wsV RX12 518 RX12 yX12_unlike vX12_unlike) := gV_of wT_58_17 wT_58_18 wT_58_19 wT_1_5 wT_58_20
theorem lf12_fairest_109 : Fl vX12_fairest RX12 109 12 62 := ⟨RX12, TX12, 87, rfl, by decide, (fun w h9 => List.mem_cons_of_mem _ (wC_wsX120 w h9)), (List.mem_cons_of_mem _ wT_11_5)⟩
theorem lf12_fairest_112 : Fl vX12_fairest RX12 112 12 63 := ⟨RX12, TX12, 87, rfl, by decide, (fun w h9 => List.mem_cons_of_mem _ (wC_wsX120 w h9)), (List.mem_cons_of_mem _ wT_11_6)⟩
theorem lp12_fairest_154 : Pl vX12_fairest RX12 154 12 2 .int := ⟨RX12, TX12, 87, tyX12, rfl, by decide, (fun w h9 => List.mem_cons_of_mem _ (wC_wsX120 w h9)), (List.mem_cons_of_mem _ wT_13_17), tyX12_ok, nmX12, rfl, rfl⟩
set_option maxHeartbeats 4000000 in
set_option maxRecDepth 100000 in
theorem T12_fairest_69 (S : CallFix p m c cX12_fairest 6 s args vX12_fairest RX12) (hr : meth.sig.returnType = (some .int)) (hlo : meth.locks = false) {out : Int32 × PH} {k18 : PH → Nat → Int32 → Int32 → Int32 → Int32 → Option (Int32 × PH)} (hk18 : ∀ {h : PH} {a0 : Nat} {x1 : Int32} {x2 : Int32} {x3 : Int32} {x4 : Int32}, k18 h a0 x1 x2 x3 x4 = some out → ∀ (H : Heap) (locs : List Loc), ph_I D cy b A fl h s H locs → ∀ (ls : Array Slot), lv_has ls 6 [(0, .ref (b + a0)), (1, .int x1), (2, .int x2), (3, .int x3), (4, .int x4)] → W p l e ({ frames := 13, cells := 0, slots := 0, locals := 313 } : Room) s m args below meth c H locs 0 0 (MQ below (va_Qi (fun (r : Int32) (u : PH) => (r, u) = out) (ph_B D cy b A fl) A) args s 0 0 A) (F0 m 18 ls [])) {h : PH} {a0 : Nat} {x1 : Int32} {x4 : Int32} {x5 : Int32} (f : F12_fairest_69 k18 h a0 x1 x4 x5 = some out) {H : Heap} {locs : List Loc} (I : ph_I D cy b A fl h s H locs) {ls : Array Slot} (hl : lv_has ls 6 [(0, .ref (b + a0)), (1, .int x1), (4, .int x4), (5, .int x5)]) : W p l e ({ frames := 13, cells := 0, slots := 0, locals := 313 } : Room) s m args below meth c H locs 0 0 (MQ below (va_Qi (fun (r : Int32) (u : PH) => (r, u) = out) (ph_B D cy b A fl) A) args s 0 0 A) (F0 m 69 ls []) := by
  unfold F12_fairest_69 at f
  refine lv_iload S.1 S.2.1 dX12_fairest_69 (lv_at hl 2 rfl) ?_
  refine lv_istore_n (lv' := [(2, .int x4), (0, .ref (b + a0)), (1, .int x1), (4, .int x4), (5, .int x5)]) S.1 S.2.1 dX12_fairest_71 rfl hl (by decide) rfl (fun ls hl => ?_)
  refine lv_iload S.1 S.2.1 dX12_fairest_72 (lv_at hl 4 rfl) ?_
  refine lv_istore_n (lv' := [(3, .int x5), (2, .int x4), (0, .ref (b + a0)), (1, .int x1), (4, .int x4), (5, .int x5)]) S.1 S.2.1 dX12_fairest_74 rfl hl (by decide) rfl (fun ls hl => ?_)
  refine lv_iinc (v := (x4 + 1)) (lv' := [(4, .int (x4 + 1)), (3, .int x5), (2, .int x4), (0, .ref (b + a0)), (1, .int x1), (5, .int x5)]) S.1 S.2.1 dX12_fairest_75 hl (k := 4) rfl (congrArg (fun z => x4 + z) (by decide)) (by decide) rfl (fun ls hl => ?_)
  refine lv_goto (tgt := 18) S.1 S.2.1 dX12_fairest_78 (by decide) ?_
  exact hk18 f _ _ I _ (lv_sub hl [3, 4, 2, 1, 0] rfl)
set_option maxHeartbeats 4000000 in
set_option maxRecDepth 100000 in
theorem T12_fairest_18 (S : CallFix p m c cX12_fairest 6 s args vX12_fairest RX12) (hr : meth.sig.returnType = (some .int)) (hlo : meth.locks = false) {out : Int32 × PH} : ∀ (n : Nat) {h : PH} {a0 : Nat} {x1 : Int32} {x2 : Int32} {x3 : Int32} {x4 : Int32} (f : F12_fairest_18  n h a0 x1 x2 x3 x4 = some out) {H : Heap} {locs : List Loc} (I : ph_I D cy b A fl h s H locs) {ls : Array Slot} (hl : lv_has ls 6 [(0, .ref (b + a0)), (1, .int x1), (2, .int x2), (3, .int x3), (4, .int x4)]), W p l e ({ frames := 13, cells := 0, slots := 0, locals := 313 } : Room) s m args below meth c H locs 0 0 (MQ below (va_Qi (fun (r : Int32) (u : PH) => (r, u) = out) (ph_B D cy b A fl) A) args s 0 0 A) (F0 m 18 ls []) := by
  intro n
  induction n with
  | zero => intro h a0 x1 x2 x3 x4 f; rw [F12_fairest_18] at f; cases f
  | succ n ih =>
    intro h a0 x1 x2 x3 x4 f H locs I ls hl
    rw [F12_fairest_18] at f
    refine lv_iload S.1 S.2.1 dX12_fairest_18 (lv_at hl 4 rfl) ?_
    refine lv_iconst (v := 4) S.1 S.2.1 dX12_fairest_20 (by decide) ?_
    refine lv_icmp_ge (tgt := 81) S.1 S.2.1 dX12_fairest_21 (by decide) (fun q1 => ?_) (fun q1 => ?_)
    · have f := (if_pos q1).symm.trans f
      refine lv_iload_n S.1 S.2.1 dX12_fairest_81 rfl (lv_at hl 2 rfl) ?_
      exact o_iret S hr hlo I f dX12_fairest_82
    · have f := (if_neg q1).symm.trans f
      refine lv_aload_n S.1 S.2.1 dX12_fairest_24 rfl (lv_at hl 0 rfl) ?_
      refine lv_iload S.1 S.2.1 dX12_fairest_25 (lv_at hl 4 rfl) ?_
      refine lv_iload_n S.1 S.2.1 dX12_fairest_27 rfl (lv_at hl 1 rfl) ?_
      obtain ⟨o2, e3, f⟩ := ob f
      refine o_Vv S (As := [.int x4, .int x1]) (rest := []) (ci := 12) (M12_run l D cy b A fl e3) gX12_fairest_X12_run rfl rfl rfl cd12_run ⟨Nat.le_of_ble_eq_true rfl, Nat.le_of_ble_eq_true rfl⟩ I (gd e3).1 clX12 rfl rfl hl.1 rfl (Nat.le_of_ble_eq_true rfl) dX12_fairest_28 ⟨Nat.le_of_ble_eq_true rfl, Nat.le_of_ble_eq_true rfl⟩ (fun H locs I => ?_)
      refine lv_sipush (v := 1000) S.1 S.2.1 dX12_fairest_31 (by decide) ?_
      refine lv_aload_n S.1 S.2.1 dX12_fairest_34 rfl (lv_at hl 0 rfl) ?_
      refine lv_iconst (v := 1) S.1 S.2.1 dX12_fairest_35 (by decide) ?_
      obtain ⟨o4, e5, f⟩ := ob f
      refine o_Vi S (As := [.int 1]) (rest := [.int 1000]) (ci := 12) (M12_unlike l D cy b A fl e5) gX12_fairest_X12_unlike rfl rfl rfl cd12_unlike ⟨Nat.le_of_ble_eq_true rfl, Nat.le_of_ble_eq_true rfl⟩ I (gd e5).1 clX12 rfl rfl hl.1 rfl (Nat.le_of_ble_eq_true rfl) dX12_fairest_36 ⟨Nat.le_of_ble_eq_true rfl, Nat.le_of_ble_eq_true rfl⟩ (fun H locs I => ?_)
      refine lv_imul S.1 S.2.1 dX12_fairest_39 ?_
      refine lv_aload_n S.1 S.2.1 dX12_fairest_40 rfl (lv_at hl 0 rfl) ?_
      obtain ⟨r6, e7, f⟩ := ob f
      refine o_gR S lf12_fairest_109 I e7 dX12_fairest_41 ?_
      refine lv_iconst (v := 1) S.1 S.2.1 dX12_fairest_44 (by decide) ?_
      obtain ⟨v9, e8, f⟩ := ob f
      refine o_iald S I e8 dX12_fairest_45 ?_
      refine lv_iadd S.1 S.2.1 dX12_fairest_46 ?_
      refine lv_aload_n S.1 S.2.1 dX12_fairest_47 rfl (lv_at hl 0 rfl) ?_
      obtain ⟨r10, e11, f⟩ := ob f
      refine o_gR S lf12_fairest_112 I e11 dX12_fairest_48 ?_
      refine lv_iconst (v := 1) S.1 S.2.1 dX12_fairest_51 (by decide) ?_
      obtain ⟨v13, e12, f⟩ := ob f
      refine o_iald S I e12 dX12_fairest_52 ?_
      refine lv_iadd S.1 S.2.1 dX12_fairest_53 ?_
      refine lv_istore (lv' := [(5, .int (((1000 * o4.1) + v9) + v13)), (0, .ref (b + a0)), (1, .int x1), (2, .int x2), (3, .int x3), (4, .int x4)]) S.1 S.2.1 dX12_fairest_54 hl (by decide) rfl (fun ls hl => ?_)
      refine lv_iload_n S.1 S.2.1 dX12_fairest_56 rfl (lv_at hl 3 rfl) ?_
      refine lv_if_lt (tgt := 69) S.1 S.2.1 dX12_fairest_57 (by decide) (fun q14 => ?_) (fun q14 => ?_)
      · have f := (if_pos q14).symm.trans f
        exact T12_fairest_69 S hr hlo (fun f _ _ I _ hl => ih f I hl) f I (lv_sub hl [1, 2, 5, 0] rfl)
      · have f := (if_neg q14).symm.trans f
        refine lv_iload S.1 S.2.1 dX12_fairest_60 (lv_at hl 0 rfl) ?_
        refine lv_iload_n S.1 S.2.1 dX12_fairest_62 rfl (lv_at hl 4 rfl) ?_
        refine lv_icmp_lt (tgt := 69) S.1 S.2.1 dX12_fairest_63 (by decide) (fun q15 => ?_) (fun q15 => ?_)
        · have f := (if_pos q15).symm.trans f
          exact T12_fairest_69 S hr hlo (fun f _ _ I _ hl => ih f I hl) f I (lv_sub hl [1, 2, 5, 0] rfl)
        · have f := (if_neg q15).symm.trans f
          refine lv_goto (tgt := 75) S.1 S.2.1 dX12_fairest_66 (by decide) ?_
          refine lv_iinc (v := (x4 + 1)) (lv' := [(4, .int (x4 + 1)), (5, .int (((1000 * o4.1) + v9) + v13)), (0, .ref (b + a0)), (1, .int x1), (2, .int x2), (3, .int x3)]) S.1 S.2.1 dX12_fairest_75 hl (k := 5) rfl (congrArg (fun z => x4 + z) (by decide)) (by decide) rfl (fun ls hl => ?_)
          refine lv_goto (tgt := 18) S.1 S.2.1 dX12_fairest_78 (by decide) ?_
          exact ih f I (lv_sub hl [2, 3, 4, 5, 0] rfl)
set_option maxHeartbeats 4000000 in
set_option maxRecDepth 100000 in
theorem T12_fairest_0 (S : CallFix p m c cX12_fairest 6 s args vX12_fairest RX12) (hr : meth.sig.returnType = (some .int)) (hlo : meth.locks = false) {out : Int32 × PH} {h : PH} {a0 : Nat} {x1 : Int32} (f : F12_fairest_0  h a0 x1 = some out) {H : Heap} {locs : List Loc} (I : ph_I D cy b A fl h s H locs) {ls : Array Slot} (hl : lv_has ls 6 [(0, .ref (b + a0)), (1, .int x1)]) : W p l e ({ frames := 13, cells := 0, slots := 0, locals := 313 } : Room) s m args below meth c H locs 0 0 (MQ below (va_Qi (fun (r : Int32) (u : PH) => (r, u) = out) (ph_B D cy b A fl) A) args s 0 0 A) (F0 m 0 ls []) := by
  unfold F12_fairest_0 at f
  refine lv_aload_n S.1 S.2.1 dX12_fairest_0 rfl (lv_at hl 0 rfl) ?_
  refine lv_iconst (v := 0) S.1 S.2.1 dX12_fairest_1 (by decide) ?_
  obtain ⟨h1, e2, f⟩ := ob f
  refine o_pI S lp12_fairest_154 I e2 dX12_fairest_2 (fun H locs I => ?_)
  refine lv_iload_n S.1 S.2.1 dX12_fairest_5 rfl (lv_at hl 1 rfl) ?_
  refine lv_if_ge (tgt := 11) S.1 S.2.1 dX12_fairest_6 (by decide) (fun q3 => ?_) (fun q3 => ?_)
  · have f := (if_pos q3).symm.trans f
    refine lv_iconst (v := (-1)) S.1 S.2.1 dX12_fairest_11 (by decide) ?_
    refine lv_istore_n (lv' := [(2, .int (-1)), (0, .ref (b + a0)), (1, .int x1)]) S.1 S.2.1 dX12_fairest_12 rfl hl (by decide) rfl (fun ls hl => ?_)
    refine lv_iconst (v := 0) S.1 S.2.1 dX12_fairest_13 (by decide) ?_
    refine lv_istore_n (lv' := [(3, .int 0), (2, .int (-1)), (0, .ref (b + a0)), (1, .int x1)]) S.1 S.2.1 dX12_fairest_14 rfl hl (by decide) rfl (fun ls hl => ?_)
    refine lv_iconst (v := 0) S.1 S.2.1 dX12_fairest_15 (by decide) ?_
    refine lv_istore (lv' := [(4, .int 0), (3, .int 0), (2, .int (-1)), (0, .ref (b + a0)), (1, .int x1)]) S.1 S.2.1 dX12_fairest_16 hl (by decide) rfl (fun ls hl => ?_)
    exact T12_fairest_18 S hr hlo  1024 f I (lv_sub hl [3, 4, 2, 1, 0] rfl)
  · have f := (if_neg q3).symm.trans f
    refine lv_iconst (v := (-1)) S.1 S.2.1 dX12_fairest_9 (by decide) ?_
    exact o_iret S hr hlo I f dX12_fairest_10
theorem M12_fairest (l : Launch) (D : va_G) (cy : Nat → ClassId) (b : Nat) (A : Nat → Prop) (fl : Bool) {h : PH} {a0 : Nat} {x1 : Int32} {out : Int32 × PH} (f : F12_fairest h a0 x1 = some out) : Met l yX12_fairest vX12_fairest ({ frames := 13, cells := 0, slots := 0, locals := 313 } : Room) (va_Pc [.ref (b + a0), .int x1] (ph_B D cy b A fl h)) (va_Qi (fun (r : Int32) (u : PH) => (r, u) = out) (ph_B D cy b A fl) A) 0 0 A :=
  o_met (by decide) rfl (Nat.le_of_ble_eq_true rfl) rfl (fun p e s m below meth c S hr hlo hnm ls hl I => T12_fairest_0 S hr hlo ((gd f).2) I (lv_sub hl [0, 1] rfl))
def vX12_fault : List Cond := .code yX12_fault cX12_fault 2 (some .int) :: TB
theorem lp12_fault_154 : Pl vX12_fault RX12 154 12 2 .int := ⟨RX12, TX12, 87, tyX12, rfl, by decide, (fun w h9 => List.mem_cons_of_mem _ (wC_wsX120 w h9)), (List.mem_cons_of_mem _ wT_13_17), tyX12_ok, nmX12, rfl, rfl⟩
theorem lf12_fault_16 : Fl vX12_fault RX12 16 12 5 := ⟨RX12, TX12, 87, rfl, by decide, (fun w h9 => List.mem_cons_of_mem _ (wC_wsX120 w h9)), (List.mem_cons_of_mem _ wT_9_23)⟩
theorem lf12_fault_160 : Fl vX12_fault RX12 160 12 4 := ⟨RX12, TX12, 87, rfl, by decide, (fun w h9 => List.mem_cons_of_mem _ (wC_wsX120 w h9)), (List.mem_cons_of_mem _ wT_26_18)⟩
set_option maxHeartbeats 4000000 in
set_option maxRecDepth 100000 in
theorem T12_fault_0 (S : CallFix p m c cX12_fault 2 s args vX12_fault RX12) (hr : meth.sig.returnType = (some .int)) (hlo : meth.locks = false) {out : Int32 × PH} {h : PH} {a0 : Nat} {x1 : Int32} (f : F12_fault_0  h a0 x1 = some out) {H : Heap} {locs : List Loc} (I : ph_I D cy b A fl h s H locs) {ls : Array Slot} (hl : lv_has ls 2 [(0, .ref (b + a0)), (1, .int x1)]) : W p l e ({ frames := 0, cells := 0, slots := 0, locals := 0 } : Room) s m args below meth c H locs 0 0 (MQ below (va_Qi (fun (r : Int32) (u : PH) => (r, u) = out) (ph_B D cy b A fl) A) args s 0 0 A) (F0 m 0 ls []) := by
  unfold F12_fault_0 at f
  refine lv_aload_n S.1 S.2.1 dX12_fault_0 rfl (lv_at hl 0 rfl) ?_
  refine lv_iconst (v := 0) S.1 S.2.1 dX12_fault_1 (by decide) ?_
  obtain ⟨h1, e2, f⟩ := ob f
  refine o_pI S lp12_fault_154 I e2 dX12_fault_2 (fun H locs I => ?_)
  refine lv_iload_n S.1 S.2.1 dX12_fault_5 rfl (lv_at hl 1 rfl) ?_
  refine lv_if_ne (tgt := 16) S.1 S.2.1 dX12_fault_6 (by decide) (fun q3 => ?_) (fun q3 => ?_)
  · have f := (if_neg q3).symm.trans f
    refine lv_iload_n S.1 S.2.1 dX12_fault_16 rfl (lv_at hl 1 rfl) ?_
    refine lv_iconst (v := 1) S.1 S.2.1 dX12_fault_17 (by decide) ?_
    refine lv_icmp_ne (tgt := 28) S.1 S.2.1 dX12_fault_18 (by decide) (fun q4 => ?_) (fun q4 => ?_)
    · have f := (if_neg q4).symm.trans f
      refine lv_iconst (v := (-1)) S.1 S.2.1 dX12_fault_28 (by decide) ?_
      exact o_iret S hr hlo I f dX12_fault_29
    · have f := (if_pos q4).symm.trans f
      refine lv_aload_n S.1 S.2.1 dX12_fault_21 rfl (lv_at hl 0 rfl) ?_
      obtain ⟨v5, e6, f⟩ := ob f
      refine o_gI S lf12_fault_16 I e6 dX12_fault_22 ?_
      refine lv_goto (tgt := 29) S.1 S.2.1 dX12_fault_25 (by decide) ?_
      exact o_iret S hr hlo I f dX12_fault_29
  · have f := (if_pos q3).symm.trans f
    refine lv_aload_n S.1 S.2.1 dX12_fault_9 rfl (lv_at hl 0 rfl) ?_
    obtain ⟨v7, e8, f⟩ := ob f
    refine o_gI S lf12_fault_160 I e8 dX12_fault_10 ?_
    refine lv_goto (tgt := 29) S.1 S.2.1 dX12_fault_13 (by decide) ?_
    exact o_iret S hr hlo I f dX12_fault_29
theorem M12_fault (l : Launch) (D : va_G) (cy : Nat → ClassId) (b : Nat) (A : Nat → Prop) (fl : Bool) {h : PH} {a0 : Nat} {x1 : Int32} {out : Int32 × PH} (f : F12_fault h a0 x1 = some out) : Met l yX12_fault vX12_fault ({ frames := 0, cells := 0, slots := 0, locals := 0 } : Room) (va_Pc [.ref (b + a0), .int x1] (ph_B D cy b A fl h)) (va_Qi (fun (r : Int32) (u : PH) => (r, u) = out) (ph_B D cy b A fl) A) 0 0 A :=
  o_met (by decide) rfl (Nat.le_of_ble_eq_true rfl) rfl (fun p e s m below meth c S hr hlo hnm ls hl I => T12_fault_0 S hr hlo ((gd f).2) I (lv_sub hl [0, 1] rfl))
def vX12_feed : List Cond := .code yX12_feed cX12_feed 8 (some .int) :: TB
theorem lf12_feed_7 : Fl vX12_feed RX12 7 12 0 := ⟨RX12, TX12, 87, rfl, by decide, (fun w h9 => List.mem_cons_of_mem _ (wC_wsX120 w h9)), (List.mem_cons_of_mem _ wT_9_21)⟩
theorem lf12_feed_157 : Fl vX12_feed RX12 157 12 1 := ⟨RX12, TX12, 87, rfl, by decide, (fun w h9 => List.mem_cons_of_mem _ (wC_wsX120 w h9)), (List.mem_cons_of_mem _ wT_13_18)⟩
theorem lp12_feed_157 : Pl vX12_feed RX12 157 12 1 .int := ⟨RX12, TX12, 87, tyX12, rfl, by decide, (fun w h9 => List.mem_cons_of_mem _ (wC_wsX120 w h9)), (List.mem_cons_of_mem _ wT_13_18), tyX12_ok, nmX12, rfl, rfl⟩
theorem lp12_feed_154 : Pl vX12_feed RX12 154 12 2 .int := ⟨RX12, TX12, 87, tyX12, rfl, by decide, (fun w h9 => List.mem_cons_of_mem _ (wC_wsX120 w h9)), (List.mem_cons_of_mem _ wT_13_17), tyX12_ok, nmX12, rfl, rfl⟩
set_option maxHeartbeats 4000000 in
set_option maxRecDepth 100000 in
theorem T12_feed_76 (S : CallFix p m c cX12_feed 8 s args vX12_feed RX12) (hr : meth.sig.returnType = (some .int)) (hlo : meth.locks = false) {out : Int32 × PH} {k23 : PH → Nat → Int32 → Int32 → Int32 → Int32 → Int32 → Int32 → Option (Int32 × PH)} (hk23 : ∀ {h : PH} {a0 : Nat} {x1 : Int32} {x2 : Int32} {x3 : Int32} {x4 : Int32} {x5 : Int32} {x6 : Int32}, k23 h a0 x1 x2 x3 x4 x5 x6 = some out → ∀ (H : Heap) (locs : List Loc), ph_I D cy b A fl h s H locs → ∀ (ls : Array Slot), lv_has ls 8 [(0, .ref (b + a0)), (1, .int x1), (2, .int x2), (3, .int x3), (4, .int x4), (5, .int x5), (6, .int x6)] → W p l e ({ frames := 0, cells := 0, slots := 0, locals := 0 } : Room) s m args below meth c H locs 0 0 (MQ below (va_Qi (fun (r : Int32) (u : PH) => (r, u) = out) (ph_B D cy b A fl) A) args s 0 0 A) (F0 m 23 ls [])) {h : PH} {a0 : Nat} {x1 : Int32} {x2 : Int32} {x3 : Int32} {x4 : Int32} {x5 : Int32} {x6 : Int32} {s0 : Int32} (f : F12_feed_76 k23 h a0 x1 x2 x3 x4 x5 x6 s0 = some out) {H : Heap} {locs : List Loc} (I : ph_I D cy b A fl h s H locs) {ls : Array Slot} (hl : lv_has ls 8 [(0, .ref (b + a0)), (1, .int x1), (2, .int x2), (3, .int x3), (4, .int x4), (5, .int x5), (6, .int x6)]) : W p l e ({ frames := 0, cells := 0, slots := 0, locals := 0 } : Room) s m args below meth c H locs 0 0 (MQ below (va_Qi (fun (r : Int32) (u : PH) => (r, u) = out) (ph_B D cy b A fl) A) args s 0 0 A) (F0 m 76 ls [.int s0]) := by
  unfold F12_feed_76 at f
  refine lv_istore (lv' := [(7, .int s0), (0, .ref (b + a0)), (1, .int x1), (2, .int x2), (3, .int x3), (4, .int x4), (5, .int x5), (6, .int x6)]) S.1 S.2.1 dX12_feed_76 hl (by decide) rfl (fun ls hl => ?_)
  refine lv_aload_n S.1 S.2.1 dX12_feed_78 rfl (lv_at hl 1 rfl) ?_
  obtain ⟨r1, e2, f⟩ := ob f
  refine o_gR S lf12_feed_7 I e2 dX12_feed_79 ?_
  refine lv_aload_n S.1 S.2.1 dX12_feed_82 rfl (lv_at hl 1 rfl) ?_
  obtain ⟨v3, e4, f⟩ := ob f
  refine o_gI S lf12_feed_157 I e4 dX12_feed_83 ?_
  refine lv_iload S.1 S.2.1 dX12_feed_86 (lv_at hl 7 rfl) ?_
  refine lv_iadd S.1 S.2.1 dX12_feed_88 ?_
  refine lv_iload S.1 S.2.1 dX12_feed_89 (lv_at hl 0 rfl) ?_
  refine lv_bipush (v := 24) S.1 S.2.1 dX12_feed_91 (by decide) ?_
  refine lv_bipush (v := 8) S.1 S.2.1 dX12_feed_93 (by decide) ?_
  refine lv_iload S.1 S.2.1 dX12_feed_95 (lv_at hl 7 rfl) ?_
  refine lv_iconst (v := 4) S.1 S.2.1 dX12_feed_97 (by decide) ?_
  refine lv_irem S.1 S.2.1 dX12_feed_98 (by decide) ?_
  refine lv_imul S.1 S.2.1 dX12_feed_99 ?_
  refine lv_isub S.1 S.2.1 dX12_feed_100 ?_
  refine lv_ishr S.1 S.2.1 dX12_feed_101 ?_
  refine lv_sipush (v := 255) S.1 S.2.1 dX12_feed_102 (by decide) ?_
  refine lv_iand S.1 S.2.1 dX12_feed_105 ?_
  obtain ⟨h6, e5, f⟩ := ob f
  refine o_iast S I e5 dX12_feed_106 (fun H locs I => ?_)
  refine lv_iinc (v := (x6 + 1)) (lv' := [(6, .int (x6 + 1)), (7, .int s0), (0, .ref (b + a0)), (1, .int x1), (2, .int x2), (3, .int x3), (4, .int x4), (5, .int x5)]) S.1 S.2.1 dX12_feed_107 hl (k := 7) rfl (congrArg (fun z => x6 + z) (by decide)) (by decide) rfl (fun ls hl => ?_)
  refine lv_goto (tgt := 23) S.1 S.2.1 dX12_feed_110 (by decide) ?_
  exact hk23 f _ _ I _ (lv_sub hl [2, 3, 4, 5, 6, 7, 0] rfl)
set_option maxHeartbeats 4000000 in
set_option maxRecDepth 100000 in
theorem T12_feed_23 (S : CallFix p m c cX12_feed 8 s args vX12_feed RX12) (hr : meth.sig.returnType = (some .int)) (hlo : meth.locks = false) {out : Int32 × PH} : ∀ (n : Nat) {h : PH} {a0 : Nat} {x1 : Int32} {x2 : Int32} {x3 : Int32} {x4 : Int32} {x5 : Int32} {x6 : Int32} (f : F12_feed_23  n h a0 x1 x2 x3 x4 x5 x6 = some out) {H : Heap} {locs : List Loc} (I : ph_I D cy b A fl h s H locs) {ls : Array Slot} (hl : lv_has ls 8 [(0, .ref (b + a0)), (1, .int x1), (2, .int x2), (3, .int x3), (4, .int x4), (5, .int x5), (6, .int x6)]), W p l e ({ frames := 0, cells := 0, slots := 0, locals := 0 } : Room) s m args below meth c H locs 0 0 (MQ below (va_Qi (fun (r : Int32) (u : PH) => (r, u) = out) (ph_B D cy b A fl) A) args s 0 0 A) (F0 m 23 ls []) := by
  intro n
  induction n with
  | zero => intro h a0 x1 x2 x3 x4 x5 x6 f; rw [F12_feed_23] at f; cases f
  | succ n ih =>
    intro h a0 x1 x2 x3 x4 x5 x6 f H locs I ls hl
    rw [F12_feed_23] at f
    refine lv_iload S.1 S.2.1 dX12_feed_23 (lv_at hl 6 rfl) ?_
    refine lv_bipush (v := 20) S.1 S.2.1 dX12_feed_25 (by decide) ?_
    refine lv_icmp_ge (tgt := 113) S.1 S.2.1 dX12_feed_27 (by decide) (fun q1 => ?_) (fun q1 => ?_)
    · have f := (if_pos q1).symm.trans f
      refine lv_aload_n S.1 S.2.1 dX12_feed_113 rfl (lv_at hl 0 rfl) ?_
      refine lv_dup S.1 S.2.1 dX12_feed_114 rfl ?_
      obtain ⟨v2, e3, f⟩ := ob f
      refine o_gI S lf12_feed_157 I e3 dX12_feed_115 ?_
      refine lv_bipush (v := 20) S.1 S.2.1 dX12_feed_118 (by decide) ?_
      refine lv_iadd S.1 S.2.1 dX12_feed_120 ?_
      obtain ⟨h4, e5, f⟩ := ob f
      refine o_pI S lp12_feed_157 I e5 dX12_feed_121 (fun H locs I => ?_)
      refine lv_aload_n S.1 S.2.1 dX12_feed_124 rfl (lv_at hl 0 rfl) ?_
      obtain ⟨v6, e7, f⟩ := ob f
      refine o_gI S lf12_feed_157 I e7 dX12_feed_125 ?_
      exact o_iret S hr hlo I f dX12_feed_128
    · have f := (if_neg q1).symm.trans f
      refine lv_iload S.1 S.2.1 dX12_feed_30 (lv_at hl 6 rfl) ?_
      refine lv_iconst (v := 4) S.1 S.2.1 dX12_feed_32 (by decide) ?_
      refine lv_icmp_ge (tgt := 40) S.1 S.2.1 dX12_feed_33 (by decide) (fun q8 => ?_) (fun q8 => ?_)
      · have f := (if_pos q8).symm.trans f
        refine lv_iload S.1 S.2.1 dX12_feed_40 (lv_at hl 6 rfl) ?_
        refine lv_bipush (v := 8) S.1 S.2.1 dX12_feed_42 (by decide) ?_
        refine lv_icmp_ge (tgt := 51) S.1 S.2.1 dX12_feed_44 (by decide) (fun q9 => ?_) (fun q9 => ?_)
        · have f := (if_pos q9).symm.trans f
          refine lv_iload S.1 S.2.1 dX12_feed_51 (lv_at hl 6 rfl) ?_
          refine lv_bipush (v := 12) S.1 S.2.1 dX12_feed_53 (by decide) ?_
          refine lv_icmp_ge (tgt := 62) S.1 S.2.1 dX12_feed_55 (by decide) (fun q10 => ?_) (fun q10 => ?_)
          · have f := (if_pos q10).symm.trans f
            refine lv_iload S.1 S.2.1 dX12_feed_62 (lv_at hl 6 rfl) ?_
            refine lv_bipush (v := 16) S.1 S.2.1 dX12_feed_64 (by decide) ?_
            refine lv_icmp_ge (tgt := 74) S.1 S.2.1 dX12_feed_66 (by decide) (fun q11 => ?_) (fun q11 => ?_)
            · have f := (if_pos q11).symm.trans f
              refine lv_iload S.1 S.2.1 dX12_feed_74 (lv_at hl 5 rfl) ?_
              exact T12_feed_76 S hr hlo (fun f _ _ I _ hl => ih f I hl) f I (lv_sub hl [0, 1, 2, 3, 4, 5, 6] rfl)
            · have f := (if_neg q11).symm.trans f
              refine lv_iload S.1 S.2.1 dX12_feed_69 (lv_at hl 4 rfl) ?_
              refine lv_goto (tgt := 76) S.1 S.2.1 dX12_feed_71 (by decide) ?_
              exact T12_feed_76 S hr hlo (fun f _ _ I _ hl => ih f I hl) f I (lv_sub hl [0, 1, 2, 3, 4, 5, 6] rfl)
          · have f := (if_neg q10).symm.trans f
            refine lv_iload_n S.1 S.2.1 dX12_feed_58 rfl (lv_at hl 3 rfl) ?_
            refine lv_goto (tgt := 76) S.1 S.2.1 dX12_feed_59 (by decide) ?_
            exact T12_feed_76 S hr hlo (fun f _ _ I _ hl => ih f I hl) f I (lv_sub hl [0, 1, 2, 3, 4, 5, 6] rfl)
        · have f := (if_neg q9).symm.trans f
          refine lv_iload_n S.1 S.2.1 dX12_feed_47 rfl (lv_at hl 2 rfl) ?_
          refine lv_goto (tgt := 76) S.1 S.2.1 dX12_feed_48 (by decide) ?_
          exact T12_feed_76 S hr hlo (fun f _ _ I _ hl => ih f I hl) f I (lv_sub hl [0, 1, 2, 3, 4, 5, 6] rfl)
      · have f := (if_neg q8).symm.trans f
        refine lv_iload_n S.1 S.2.1 dX12_feed_36 rfl (lv_at hl 1 rfl) ?_
        refine lv_goto (tgt := 76) S.1 S.2.1 dX12_feed_37 (by decide) ?_
        exact T12_feed_76 S hr hlo (fun f _ _ I _ hl => ih f I hl) f I (lv_sub hl [0, 1, 2, 3, 4, 5, 6] rfl)
set_option maxHeartbeats 4000000 in
set_option maxRecDepth 100000 in
theorem T12_feed_0 (S : CallFix p m c cX12_feed 8 s args vX12_feed RX12) (hr : meth.sig.returnType = (some .int)) (hlo : meth.locks = false) {out : Int32 × PH} {h : PH} {a0 : Nat} {x1 : Int32} {x2 : Int32} {x3 : Int32} {x4 : Int32} {x5 : Int32} (f : F12_feed_0  h a0 x1 x2 x3 x4 x5 = some out) {H : Heap} {locs : List Loc} (I : ph_I D cy b A fl h s H locs) {ls : Array Slot} (hl : lv_has ls 8 [(0, .ref (b + a0)), (1, .int x1), (2, .int x2), (3, .int x3), (4, .int x4), (5, .int x5)]) : W p l e ({ frames := 0, cells := 0, slots := 0, locals := 0 } : Room) s m args below meth c H locs 0 0 (MQ below (va_Qi (fun (r : Int32) (u : PH) => (r, u) = out) (ph_B D cy b A fl) A) args s 0 0 A) (F0 m 0 ls []) := by
  unfold F12_feed_0 at f
  refine lv_aload_n S.1 S.2.1 dX12_feed_0 rfl (lv_at hl 0 rfl) ?_
  refine lv_iconst (v := 0) S.1 S.2.1 dX12_feed_1 (by decide) ?_
  obtain ⟨h1, e2, f⟩ := ob f
  refine o_pI S lp12_feed_154 I e2 dX12_feed_2 (fun H locs I => ?_)
  refine lv_aload_n S.1 S.2.1 dX12_feed_5 rfl (lv_at hl 0 rfl) ?_
  obtain ⟨v3, e4, f⟩ := ob f
  refine o_gI S lf12_feed_157 I e4 dX12_feed_6 ?_
  refine lv_bipush (v := 20) S.1 S.2.1 dX12_feed_9 (by decide) ?_
  refine lv_iadd S.1 S.2.1 dX12_feed_11 ?_
  refine lv_sipush (v := 700) S.1 S.2.1 dX12_feed_12 (by decide) ?_
  refine lv_icmp_le (tgt := 20) S.1 S.2.1 dX12_feed_15 (by decide) (fun q5 => ?_) (fun q5 => ?_)
  · have f := (if_pos q5).symm.trans f
    refine lv_iconst (v := 0) S.1 S.2.1 dX12_feed_20 (by decide) ?_
    refine lv_istore (lv' := [(6, .int 0), (0, .ref (b + a0)), (1, .int x1), (2, .int x2), (3, .int x3), (4, .int x4), (5, .int x5)]) S.1 S.2.1 dX12_feed_21 hl (by decide) rfl (fun ls hl => ?_)
    exact T12_feed_23 S hr hlo  1024 f I (lv_sub hl [1, 2, 3, 4, 5, 6, 0] rfl)
  · have f := (if_neg q5).symm.trans f
    refine lv_iconst (v := (-1)) S.1 S.2.1 dX12_feed_18 (by decide) ?_
    exact o_iret S hr hlo I f dX12_feed_19
theorem M12_feed (l : Launch) (D : va_G) (cy : Nat → ClassId) (b : Nat) (A : Nat → Prop) (fl : Bool) {h : PH} {a0 : Nat} {x1 : Int32} {x2 : Int32} {x3 : Int32} {x4 : Int32} {x5 : Int32} {out : Int32 × PH} (f : F12_feed h a0 x1 x2 x3 x4 x5 = some out) : Met l yX12_feed vX12_feed ({ frames := 0, cells := 0, slots := 0, locals := 0 } : Room) (va_Pc [.ref (b + a0), .int x1, .int x2, .int x3, .int x4, .int x5] (ph_B D cy b A fl h)) (va_Qi (fun (r : Int32) (u : PH) => (r, u) = out) (ph_B D cy b A fl) A) 0 0 A :=
  o_met (by decide) rfl (Nat.le_of_ble_eq_true rfl) rfl (fun p e s m below meth c S hr hlo hnm ls hl I => T12_feed_0 S hr hlo ((gd f).2) I (lv_sub hl [0, 1, 2, 3, 4, 5] rfl))
def vX12_find : List Cond := .code yX12_find cX12_find 5 (some .int) :: TB
theorem cd12_find : Cd yX12_find 4 := ⟨by decide, by decide, by decide +kernel⟩
set_option maxHeartbeats 4000000 in
set_option maxRecDepth 100000 in
theorem T12_find_3 (S : CallFix p m c cX12_find 5 s args vX12_find RX12) (hr : meth.sig.returnType = (some .int)) (hlo : meth.locks = false) {out : Int32 × PH} : ∀ (n : Nat) {h : PH} {a0 : Nat} {x1 : Int32} {x2 : Int32} {x3 : Int32} {x4 : Int32} (f : F12_find_3  n h a0 x1 x2 x3 x4 = some out) {H : Heap} {locs : List Loc} (I : ph_I D cy b A fl h s H locs) {ls : Array Slot} (hl : lv_has ls 5 [(0, .ref (b + a0)), (1, .int x1), (2, .int x2), (3, .int x3), (4, .int x4)]), W p l e ({ frames := 0, cells := 0, slots := 0, locals := 0 } : Room) s m args below meth c H locs 0 0 (MQ below (va_Qi (fun (r : Int32) (u : PH) => (r, u) = out) (ph_B D cy b A fl) A) args s 0 0 A) (F0 m 3 ls []) := by
  intro n
  induction n with
  | zero => intro h a0 x1 x2 x3 x4 f; rw [F12_find_3] at f; cases f
  | succ n ih =>
    intro h a0 x1 x2 x3 x4 f H locs I ls hl
    rw [F12_find_3] at f
    refine lv_iload S.1 S.2.1 dX12_find_3 (lv_at hl 4 rfl) ?_
    refine lv_iload_n S.1 S.2.1 dX12_find_5 rfl (lv_at hl 2 rfl) ?_
    refine lv_icmp_ge (tgt := 28) S.1 S.2.1 dX12_find_6 (by decide) (fun q1 => ?_) (fun q1 => ?_)
    · have f := (if_pos q1).symm.trans f
      refine lv_iconst (v := (-1)) S.1 S.2.1 dX12_find_28 (by decide) ?_
      exact o_iret S hr hlo I f dX12_find_29
    · have f := (if_neg q1).symm.trans f
      refine lv_aload_n S.1 S.2.1 dX12_find_9 rfl (lv_at hl 0 rfl) ?_
      refine lv_iload_n S.1 S.2.1 dX12_find_10 rfl (lv_at hl 1 rfl) ?_
      refine lv_iload S.1 S.2.1 dX12_find_11 (lv_at hl 4 rfl) ?_
      refine lv_iadd S.1 S.2.1 dX12_find_13 ?_
      obtain ⟨v3, e2, f⟩ := ob f
      refine o_iald S I e2 dX12_find_14 ?_
      refine lv_iload_n S.1 S.2.1 dX12_find_15 rfl (lv_at hl 3 rfl) ?_
      refine lv_icmp_ne (tgt := 22) S.1 S.2.1 dX12_find_16 (by decide) (fun q4 => ?_) (fun q4 => ?_)
      · have f := (if_neg q4).symm.trans f
        refine lv_iinc (v := (x4 + 1)) (lv' := [(4, .int (x4 + 1)), (0, .ref (b + a0)), (1, .int x1), (2, .int x2), (3, .int x3)]) S.1 S.2.1 dX12_find_22 hl (k := 4) rfl (congrArg (fun z => x4 + z) (by decide)) (by decide) rfl (fun ls hl => ?_)
        refine lv_goto (tgt := 3) S.1 S.2.1 dX12_find_25 (by decide) ?_
        exact ih f I (lv_sub hl [1, 2, 3, 4, 0] rfl)
      · have f := (if_pos q4).symm.trans f
        refine lv_iload S.1 S.2.1 dX12_find_19 (lv_at hl 4 rfl) ?_
        exact o_iret S hr hlo I f dX12_find_21
set_option maxHeartbeats 4000000 in
set_option maxRecDepth 100000 in
theorem T12_find_0 (S : CallFix p m c cX12_find 5 s args vX12_find RX12) (hr : meth.sig.returnType = (some .int)) (hlo : meth.locks = false) {out : Int32 × PH} {h : PH} {a0 : Nat} {x1 : Int32} {x2 : Int32} {x3 : Int32} (f : F12_find_0  h a0 x1 x2 x3 = some out) {H : Heap} {locs : List Loc} (I : ph_I D cy b A fl h s H locs) {ls : Array Slot} (hl : lv_has ls 5 [(0, .ref (b + a0)), (1, .int x1), (2, .int x2), (3, .int x3)]) : W p l e ({ frames := 0, cells := 0, slots := 0, locals := 0 } : Room) s m args below meth c H locs 0 0 (MQ below (va_Qi (fun (r : Int32) (u : PH) => (r, u) = out) (ph_B D cy b A fl) A) args s 0 0 A) (F0 m 0 ls []) := by
  unfold F12_find_0 at f
  refine lv_iconst (v := 0) S.1 S.2.1 dX12_find_0 (by decide) ?_
  refine lv_istore (lv' := [(4, .int 0), (0, .ref (b + a0)), (1, .int x1), (2, .int x2), (3, .int x3)]) S.1 S.2.1 dX12_find_1 hl (by decide) rfl (fun ls hl => ?_)
  exact T12_find_3 S hr hlo  1024 f I (lv_sub hl [1, 2, 3, 4, 0] rfl)
theorem M12_find (l : Launch) (D : va_G) (cy : Nat → ClassId) (b : Nat) (A : Nat → Prop) (fl : Bool) {h : PH} {a0 : Nat} {x1 : Int32} {x2 : Int32} {x3 : Int32} {out : Int32 × PH} (f : F12_find h a0 x1 x2 x3 = some out) : Met l yX12_find vX12_find ({ frames := 0, cells := 0, slots := 0, locals := 0 } : Room) (va_Pc [.ref (b + a0), .int x1, .int x2, .int x3] (ph_B D cy b A fl h)) (va_Qi (fun (r : Int32) (u : PH) => (r, u) = out) (ph_B D cy b A fl) A) 0 0 A :=
  o_met (by decide) rfl (Nat.le_of_ble_eq_true rfl) rfl (fun p e s m below meth c S hr hlo hnm ls hl I => T12_find_0 S hr hlo (f) I (lv_sub hl [0, 1, 2, 3] rfl))
def vX12_gaps : List Cond := .code yX12_gaps cX12_gaps 5 (some .int) :: TB
theorem lf12_gaps_250 : Fl vX12_gaps RX12 250 12 15 := ⟨RX12, TX12, 87, rfl, by decide, (fun w h9 => List.mem_cons_of_mem _ (wC_wsX120 w h9)), (List.mem_cons_of_mem _ wT_12_13)⟩
theorem lf12_gaps_48 : Fl vX12_gaps RX12 48 12 34 := ⟨RX12, TX12, 87, rfl, by decide, (fun w h9 => List.mem_cons_of_mem _ (wC_wsX120 w h9)), (List.mem_cons_of_mem _ wT_10_9)⟩
theorem lf12_gaps_45 : Fl vX12_gaps RX12 45 12 33 := ⟨RX12, TX12, 87, rfl, by decide, (fun w h9 => List.mem_cons_of_mem _ (wC_wsX120 w h9)), (List.mem_cons_of_mem _ wT_10_8)⟩
theorem lp12_gaps_154 : Pl vX12_gaps RX12 154 12 2 .int := ⟨RX12, TX12, 87, tyX12, rfl, by decide, (fun w h9 => List.mem_cons_of_mem _ (wC_wsX120 w h9)), (List.mem_cons_of_mem _ wT_13_17), tyX12_ok, nmX12, rfl, rfl⟩
theorem gX12_gaps_X12_isIn : GoodIn vX12_gaps (va_wsS RX12 199 yX12_isIn vX12_isIn) := gS_of wT_28_17 wT_28_18 wT_1_5 wT_28_19
set_option maxHeartbeats 4000000 in
set_option maxRecDepth 100000 in
theorem T12_gaps_31 (S : CallFix p m c cX12_gaps 5 s args vX12_gaps RX12) (hr : meth.sig.returnType = (some .int)) (hlo : meth.locks = false) {out : Int32 × PH} : ∀ (n : Nat) {h : PH} {a0 : Nat} {x1 : Int32} {x2 : Int32} {x3 : Int32} {x4 : Int32} (f : F12_gaps_31  n h a0 x1 x2 x3 x4 = some out) {H : Heap} {locs : List Loc} (I : ph_I D cy b A fl h s H locs) {ls : Array Slot} (hl : lv_has ls 5 [(0, .ref (b + a0)), (1, .int x1), (2, .int x2), (3, .int x3), (4, .int x4)]), W p l e ({ frames := 1, cells := 0, slots := 0, locals := 22 } : Room) s m args below meth c H locs 0 0 (MQ below (va_Qi (fun (r : Int32) (u : PH) => (r, u) = out) (ph_B D cy b A fl) A) args s 0 0 A) (F0 m 31 ls []) := by
  intro n
  induction n with
  | zero => intro h a0 x1 x2 x3 x4 f; rw [F12_gaps_31] at f; cases f
  | succ n ih =>
    intro h a0 x1 x2 x3 x4 f H locs I ls hl
    rw [F12_gaps_31] at f
    refine lv_iload S.1 S.2.1 dX12_gaps_31 (lv_at hl 4 rfl) ?_
    refine lv_aload_n S.1 S.2.1 dX12_gaps_33 rfl (lv_at hl 0 rfl) ?_
    obtain ⟨v1, e2, f⟩ := ob f
    refine o_gI S lf12_gaps_250 I e2 dX12_gaps_34 ?_
    refine lv_icmp_ge (tgt := 85) S.1 S.2.1 dX12_gaps_37 (by decide) (fun q3 => ?_) (fun q3 => ?_)
    · have f := (if_pos q3).symm.trans f
      refine lv_iload_n S.1 S.2.1 dX12_gaps_85 rfl (lv_at hl 2 rfl) ?_
      refine lv_if_ne (tgt := 93) S.1 S.2.1 dX12_gaps_86 (by decide) (fun q4 => ?_) (fun q4 => ?_)
      · have f := (if_neg q4).symm.trans f
        refine lv_aload_n S.1 S.2.1 dX12_gaps_93 rfl (lv_at hl 0 rfl) ?_
        obtain ⟨v5, e6, f⟩ := ob f
        refine o_gI S lf12_gaps_250 I e6 dX12_gaps_94 ?_
        refine lv_iconst (v := 2) S.1 S.2.1 dX12_gaps_97 (by decide) ?_
        refine lv_icmp_ge (tgt := 105) S.1 S.2.1 dX12_gaps_98 (by decide) (fun q7 => ?_) (fun q7 => ?_)
        · have f := (if_pos q7).symm.trans f
          refine lv_aload_n S.1 S.2.1 dX12_gaps_105 rfl (lv_at hl 0 rfl) ?_
          obtain ⟨v8, e9, f⟩ := ob f
          refine o_gI S lf12_gaps_250 I e9 dX12_gaps_106 ?_
          refine lv_iconst (v := 1) S.1 S.2.1 dX12_gaps_109 (by decide) ?_
          refine lv_isub S.1 S.2.1 dX12_gaps_110 ?_
          exact o_iret S hr hlo I f dX12_gaps_111
        · have f := (if_neg q7).symm.trans f
          refine lv_iconst (v := 0) S.1 S.2.1 dX12_gaps_101 (by decide) ?_
          refine lv_goto (tgt := 111) S.1 S.2.1 dX12_gaps_102 (by decide) ?_
          exact o_iret S hr hlo I f dX12_gaps_111
      · have f := (if_pos q4).symm.trans f
        refine lv_iload_n S.1 S.2.1 dX12_gaps_89 rfl (lv_at hl 3 rfl) ?_
        refine lv_goto (tgt := 111) S.1 S.2.1 dX12_gaps_90 (by decide) ?_
        exact o_iret S hr hlo I f dX12_gaps_111
    · have f := (if_neg q3).symm.trans f
      refine lv_iload_n S.1 S.2.1 dX12_gaps_40 rfl (lv_at hl 3 rfl) ?_
      refine lv_aload_n S.1 S.2.1 dX12_gaps_41 rfl (lv_at hl 0 rfl) ?_
      obtain ⟨r10, e11, f⟩ := ob f
      refine o_gR S lf12_gaps_48 I e11 dX12_gaps_42 ?_
      refine lv_aload_n S.1 S.2.1 dX12_gaps_45 rfl (lv_at hl 0 rfl) ?_
      obtain ⟨r12, e13, f⟩ := ob f
      refine o_gR S lf12_gaps_45 I e13 dX12_gaps_46 ?_
      refine lv_iload S.1 S.2.1 dX12_gaps_49 (lv_at hl 4 rfl) ?_
      obtain ⟨v15, e14, f⟩ := ob f
      refine o_iald S I e14 dX12_gaps_51 ?_
      obtain ⟨v17, e16, f⟩ := ob f
      refine o_iald S I e16 dX12_gaps_52 ?_
      refine lv_aload_n S.1 S.2.1 dX12_gaps_53 rfl (lv_at hl 0 rfl) ?_
      obtain ⟨r18, e19, f⟩ := ob f
      refine o_gR S lf12_gaps_48 I e19 dX12_gaps_54 ?_
      refine lv_aload_n S.1 S.2.1 dX12_gaps_57 rfl (lv_at hl 0 rfl) ?_
      obtain ⟨r20, e21, f⟩ := ob f
      refine o_gR S lf12_gaps_45 I e21 dX12_gaps_58 ?_
      refine lv_iload S.1 S.2.1 dX12_gaps_61 (lv_at hl 4 rfl) ?_
      obtain ⟨v23, e22, f⟩ := ob f
      refine o_iald S I e22 dX12_gaps_63 ?_
      refine lv_iconst (v := 1) S.1 S.2.1 dX12_gaps_64 (by decide) ?_
      refine lv_isub S.1 S.2.1 dX12_gaps_65 ?_
      obtain ⟨v25, e24, f⟩ := ob f
      refine o_iald S I e24 dX12_gaps_66 ?_
      refine lv_isub S.1 S.2.1 dX12_gaps_67 ?_
      refine lv_iload_n S.1 S.2.1 dX12_gaps_68 rfl (lv_at hl 1 rfl) ?_
      refine lv_icmp_gt (tgt := 76) S.1 S.2.1 dX12_gaps_69 (by decide) (fun q26 => ?_) (fun q26 => ?_)
      · have f := (if_pos q26).symm.trans f
        refine lv_iconst (v := 0) S.1 S.2.1 dX12_gaps_76 (by decide) ?_
        refine lv_iadd S.1 S.2.1 dX12_gaps_77 ?_
        refine lv_istore_n (lv' := [(3, .int (x3 + 0)), (0, .ref (b + a0)), (1, .int x1), (2, .int x2), (4, .int x4)]) S.1 S.2.1 dX12_gaps_78 rfl hl (by decide) rfl (fun ls hl => ?_)
        refine lv_iinc (v := (x4 + 1)) (lv' := [(4, .int (x4 + 1)), (3, .int (x3 + 0)), (0, .ref (b + a0)), (1, .int x1), (2, .int x2)]) S.1 S.2.1 dX12_gaps_79 hl (k := 4) rfl (congrArg (fun z => x4 + z) (by decide)) (by decide) rfl (fun ls hl => ?_)
        refine lv_goto (tgt := 31) S.1 S.2.1 dX12_gaps_82 (by decide) ?_
        exact ih f I (lv_sub hl [2, 3, 4, 1, 0] rfl)
      · have f := (if_neg q26).symm.trans f
        refine lv_iconst (v := 1) S.1 S.2.1 dX12_gaps_72 (by decide) ?_
        refine lv_goto (tgt := 77) S.1 S.2.1 dX12_gaps_73 (by decide) ?_
        refine lv_iadd S.1 S.2.1 dX12_gaps_77 ?_
        refine lv_istore_n (lv' := [(3, .int (x3 + 1)), (0, .ref (b + a0)), (1, .int x1), (2, .int x2), (4, .int x4)]) S.1 S.2.1 dX12_gaps_78 rfl hl (by decide) rfl (fun ls hl => ?_)
        refine lv_iinc (v := (x4 + 1)) (lv' := [(4, .int (x4 + 1)), (3, .int (x3 + 1)), (0, .ref (b + a0)), (1, .int x1), (2, .int x2)]) S.1 S.2.1 dX12_gaps_79 hl (k := 4) rfl (congrArg (fun z => x4 + z) (by decide)) (by decide) rfl (fun ls hl => ?_)
        refine lv_goto (tgt := 31) S.1 S.2.1 dX12_gaps_82 (by decide) ?_
        exact ih f I (lv_sub hl [2, 3, 4, 1, 0] rfl)
set_option maxHeartbeats 4000000 in
set_option maxRecDepth 100000 in
theorem T12_gaps_0 (S : CallFix p m c cX12_gaps 5 s args vX12_gaps RX12) (hr : meth.sig.returnType = (some .int)) (hlo : meth.locks = false) {out : Int32 × PH} {h : PH} {a0 : Nat} {x1 : Int32} {x2 : Int32} (f : F12_gaps_0  h a0 x1 x2 = some out) {H : Heap} {locs : List Loc} (I : ph_I D cy b A fl h s H locs) {ls : Array Slot} (hl : lv_has ls 5 [(0, .ref (b + a0)), (1, .int x1), (2, .int x2)]) : W p l e ({ frames := 1, cells := 0, slots := 0, locals := 22 } : Room) s m args below meth c H locs 0 0 (MQ below (va_Qi (fun (r : Int32) (u : PH) => (r, u) = out) (ph_B D cy b A fl) A) args s 0 0 A) (F0 m 0 ls []) := by
  unfold F12_gaps_0 at f
  refine lv_aload_n S.1 S.2.1 dX12_gaps_0 rfl (lv_at hl 0 rfl) ?_
  refine lv_iconst (v := 0) S.1 S.2.1 dX12_gaps_1 (by decide) ?_
  obtain ⟨h1, e2, f⟩ := ob f
  refine o_pI S lp12_gaps_154 I e2 dX12_gaps_2 (fun H locs I => ?_)
  refine lv_iload_n S.1 S.2.1 dX12_gaps_5 rfl (lv_at hl 1 rfl) ?_
  refine lv_iconst (v := 0) S.1 S.2.1 dX12_gaps_6 (by decide) ?_
  refine lv_bipush (v := 99) S.1 S.2.1 dX12_gaps_7 (by decide) ?_
  obtain ⟨o3, e4, f⟩ := ob f
  refine o_Si S (As := [.int x1, .int 0, .int 99]) (rest := []) (M12_isIn l D cy b A fl e4) gX12_gaps_X12_isIn rfl rfl rfl cd12_isIn ⟨Nat.le_of_ble_eq_true rfl, Nat.le_of_ble_eq_true rfl⟩ I rfl hl.1 rfl (Nat.le_of_ble_eq_true rfl) dX12_gaps_9 ⟨Nat.le_of_ble_eq_true rfl, Nat.le_of_ble_eq_true rfl⟩ (fun H locs I => ?_)
  refine lv_if_eq (tgt := 24) S.1 S.2.1 dX12_gaps_12 (by decide) (fun q5 => ?_) (fun q5 => ?_)
  · have f := (if_pos q5).symm.trans f
    refine lv_iconst (v := (-1)) S.1 S.2.1 dX12_gaps_24 (by decide) ?_
    exact o_iret S hr hlo I f dX12_gaps_25
  · have f := (if_neg q5).symm.trans f
    refine lv_iload_n S.1 S.2.1 dX12_gaps_15 rfl (lv_at hl 2 rfl) ?_
    refine lv_iconst (v := 0) S.1 S.2.1 dX12_gaps_16 (by decide) ?_
    refine lv_iconst (v := 1) S.1 S.2.1 dX12_gaps_17 (by decide) ?_
    obtain ⟨o6, e7, f⟩ := ob f
    refine o_Si S (As := [.int x2, .int 0, .int 1]) (rest := []) (M12_isIn l D cy b A fl e7) gX12_gaps_X12_isIn rfl rfl rfl cd12_isIn ⟨Nat.le_of_ble_eq_true rfl, Nat.le_of_ble_eq_true rfl⟩ I rfl hl.1 rfl (Nat.le_of_ble_eq_true rfl) dX12_gaps_18 ⟨Nat.le_of_ble_eq_true rfl, Nat.le_of_ble_eq_true rfl⟩ (fun H locs I => ?_)
    refine lv_if_ne (tgt := 26) S.1 S.2.1 dX12_gaps_21 (by decide) (fun q8 => ?_) (fun q8 => ?_)
    · have f := (if_neg q8).symm.trans f
      refine lv_iconst (v := 0) S.1 S.2.1 dX12_gaps_26 (by decide) ?_
      refine lv_istore_n (lv' := [(3, .int 0), (0, .ref (b + a0)), (1, .int x1), (2, .int x2)]) S.1 S.2.1 dX12_gaps_27 rfl hl (by decide) rfl (fun ls hl => ?_)
      refine lv_iconst (v := 1) S.1 S.2.1 dX12_gaps_28 (by decide) ?_
      refine lv_istore (lv' := [(4, .int 1), (3, .int 0), (0, .ref (b + a0)), (1, .int x1), (2, .int x2)]) S.1 S.2.1 dX12_gaps_29 hl (by decide) rfl (fun ls hl => ?_)
      exact T12_gaps_31 S hr hlo  1024 f I (lv_sub hl [2, 3, 4, 1, 0] rfl)
    · have f := (if_pos q8).symm.trans f
      refine lv_iconst (v := (-1)) S.1 S.2.1 dX12_gaps_24 (by decide) ?_
      exact o_iret S hr hlo I f dX12_gaps_25
theorem M12_gaps (l : Launch) (D : va_G) (cy : Nat → ClassId) (b : Nat) (A : Nat → Prop) (fl : Bool) {h : PH} {a0 : Nat} {x1 : Int32} {x2 : Int32} {out : Int32 × PH} (f : F12_gaps h a0 x1 x2 = some out) : Met l yX12_gaps vX12_gaps ({ frames := 1, cells := 0, slots := 0, locals := 22 } : Room) (va_Pc [.ref (b + a0), .int x1, .int x2] (ph_B D cy b A fl h)) (va_Qi (fun (r : Int32) (u : PH) => (r, u) = out) (ph_B D cy b A fl) A) 0 0 A :=
  o_met (by decide) rfl (Nat.le_of_ble_eq_true rfl) rfl (fun p e s m below meth c S hr hlo hnm ls hl I => T12_gaps_0 S hr hlo ((gd f).2) I (lv_sub hl [0, 1, 2] rfl))
def vX12_give : List Cond := .code yX12_give cX12_give 4 (some .int) :: TB
theorem lp12_give_154 : Pl vX12_give RX12 154 12 2 .int := ⟨RX12, TX12, 87, tyX12, rfl, by decide, (fun w h9 => List.mem_cons_of_mem _ (wC_wsX120 w h9)), (List.mem_cons_of_mem _ wT_13_17), tyX12_ok, nmX12, rfl, rfl⟩
theorem gX12_give_X12_isSurfer : GoodIn vX12_give (wsV RX12 413 RX12 yX12_isSurfer vX12_isSurfer) := gV_of wT_34_14 wT_34_15 wT_34_16 wT_1_5 wT_34_17
theorem gX12_give_X12_isIn : GoodIn vX12_give (va_wsS RX12 199 yX12_isIn vX12_isIn) := gS_of wT_28_17 wT_28_18 wT_1_5 wT_28_19
theorem lf12_give_42 : Fl vX12_give RX12 42 12 32 := ⟨RX12, TX12, 87, rfl, by decide, (fun w h9 => List.mem_cons_of_mem _ (wC_wsX120 w h9)), (List.mem_cons_of_mem _ wT_10_7)⟩
set_option maxHeartbeats 4000000 in
set_option maxRecDepth 100000 in
theorem T12_give_0 (S : CallFix p m c cX12_give 4 s args vX12_give RX12) (hr : meth.sig.returnType = (some .int)) (hlo : meth.locks = false) {out : Int32 × PH} {h : PH} {a0 : Nat} {x1 : Int32} {x2 : Int32} {x3 : Int32} (f : F12_give_0  h a0 x1 x2 x3 = some out) {H : Heap} {locs : List Loc} (I : ph_I D cy b A fl h s H locs) {ls : Array Slot} (hl : lv_has ls 4 [(0, .ref (b + a0)), (1, .int x1), (2, .int x2), (3, .int x3)]) : W p l e ({ frames := 1, cells := 0, slots := 0, locals := 22 } : Room) s m args below meth c H locs 0 0 (MQ below (va_Qi (fun (r : Int32) (u : PH) => (r, u) = out) (ph_B D cy b A fl) A) args s 0 0 A) (F0 m 0 ls []) := by
  unfold F12_give_0 at f
  refine lv_aload_n S.1 S.2.1 dX12_give_0 rfl (lv_at hl 0 rfl) ?_
  refine lv_iconst (v := 0) S.1 S.2.1 dX12_give_1 (by decide) ?_
  obtain ⟨h1, e2, f⟩ := ob f
  refine o_pI S lp12_give_154 I e2 dX12_give_2 (fun H locs I => ?_)
  refine lv_aload_n S.1 S.2.1 dX12_give_5 rfl (lv_at hl 0 rfl) ?_
  refine lv_iload_n S.1 S.2.1 dX12_give_6 rfl (lv_at hl 1 rfl) ?_
  obtain ⟨o3, e4, f⟩ := ob f
  refine o_Vi S (As := [.int x1]) (rest := []) (ci := 12) (M12_isSurfer l D cy b A fl e4) gX12_give_X12_isSurfer rfl rfl rfl cd12_isSurfer ⟨Nat.le_of_ble_eq_true rfl, Nat.le_of_ble_eq_true rfl⟩ I (gd e4).1 clX12 rfl rfl hl.1 rfl (Nat.le_of_ble_eq_true rfl) dX12_give_7 ⟨Nat.le_of_ble_eq_true rfl, Nat.le_of_ble_eq_true rfl⟩ (fun H locs I => ?_)
  refine lv_if_eq (tgt := 36) S.1 S.2.1 dX12_give_10 (by decide) (fun q5 => ?_) (fun q5 => ?_)
  · have f := (if_pos q5).symm.trans f
    refine lv_iconst (v := (-1)) S.1 S.2.1 dX12_give_36 (by decide) ?_
    exact o_iret S hr hlo I f dX12_give_37
  · have f := (if_neg q5).symm.trans f
    refine lv_aload_n S.1 S.2.1 dX12_give_13 rfl (lv_at hl 0 rfl) ?_
    refine lv_iload_n S.1 S.2.1 dX12_give_14 rfl (lv_at hl 2 rfl) ?_
    obtain ⟨o6, e7, f⟩ := ob f
    refine o_Vi S (As := [.int x2]) (rest := []) (ci := 12) (M12_isSurfer l D cy b A fl e7) gX12_give_X12_isSurfer rfl rfl rfl cd12_isSurfer ⟨Nat.le_of_ble_eq_true rfl, Nat.le_of_ble_eq_true rfl⟩ I (gd e7).1 clX12 rfl rfl hl.1 rfl (Nat.le_of_ble_eq_true rfl) dX12_give_15 ⟨Nat.le_of_ble_eq_true rfl, Nat.le_of_ble_eq_true rfl⟩ (fun H locs I => ?_)
    refine lv_if_eq (tgt := 36) S.1 S.2.1 dX12_give_18 (by decide) (fun q8 => ?_) (fun q8 => ?_)
    · have f := (if_pos q8).symm.trans f
      refine lv_iconst (v := (-1)) S.1 S.2.1 dX12_give_36 (by decide) ?_
      exact o_iret S hr hlo I f dX12_give_37
    · have f := (if_neg q8).symm.trans f
      refine lv_iload_n S.1 S.2.1 dX12_give_21 rfl (lv_at hl 1 rfl) ?_
      refine lv_iload_n S.1 S.2.1 dX12_give_22 rfl (lv_at hl 2 rfl) ?_
      refine lv_icmp_eq (tgt := 36) S.1 S.2.1 dX12_give_23 (by decide) (fun q9 => ?_) (fun q9 => ?_)
      · have f := (if_pos q9).symm.trans f
        refine lv_iconst (v := (-1)) S.1 S.2.1 dX12_give_36 (by decide) ?_
        exact o_iret S hr hlo I f dX12_give_37
      · have f := (if_neg q9).symm.trans f
        refine lv_iload_n S.1 S.2.1 dX12_give_26 rfl (lv_at hl 3 rfl) ?_
        refine lv_iconst (v := 0) S.1 S.2.1 dX12_give_27 (by decide) ?_
        refine lv_bipush (v := 99) S.1 S.2.1 dX12_give_28 (by decide) ?_
        obtain ⟨o10, e11, f⟩ := ob f
        refine o_Si S (As := [.int x3, .int 0, .int 99]) (rest := []) (M12_isIn l D cy b A fl e11) gX12_give_X12_isIn rfl rfl rfl cd12_isIn ⟨Nat.le_of_ble_eq_true rfl, Nat.le_of_ble_eq_true rfl⟩ I rfl hl.1 rfl (Nat.le_of_ble_eq_true rfl) dX12_give_30 ⟨Nat.le_of_ble_eq_true rfl, Nat.le_of_ble_eq_true rfl⟩ (fun H locs I => ?_)
        refine lv_if_ne (tgt := 38) S.1 S.2.1 dX12_give_33 (by decide) (fun q12 => ?_) (fun q12 => ?_)
        · have f := (if_neg q12).symm.trans f
          refine lv_aload_n S.1 S.2.1 dX12_give_38 rfl (lv_at hl 0 rfl) ?_
          obtain ⟨r13, e14, f⟩ := ob f
          refine o_gR S lf12_give_42 I e14 dX12_give_39 ?_
          refine lv_iload_n S.1 S.2.1 dX12_give_42 rfl (lv_at hl 2 rfl) ?_
          obtain ⟨v16, e15, f⟩ := ob f
          refine o_iald S I e15 dX12_give_43 ?_
          refine lv_iload_n S.1 S.2.1 dX12_give_44 rfl (lv_at hl 3 rfl) ?_
          refine lv_imul S.1 S.2.1 dX12_give_45 ?_
          refine lv_bipush (v := 100) S.1 S.2.1 dX12_give_46 (by decide) ?_
          refine lv_icmp_le (tgt := 55) S.1 S.2.1 dX12_give_48 (by decide) (fun q17 => ?_) (fun q17 => ?_)
          · have f := (if_pos q17).symm.trans f
            refine lv_iconst (v := 0) S.1 S.2.1 dX12_give_55 (by decide) ?_
            exact o_iret S hr hlo I f dX12_give_56
          · have f := (if_neg q17).symm.trans f
            refine lv_iconst (v := 1) S.1 S.2.1 dX12_give_51 (by decide) ?_
            refine lv_goto (tgt := 56) S.1 S.2.1 dX12_give_52 (by decide) ?_
            exact o_iret S hr hlo I f dX12_give_56
        · have f := (if_pos q12).symm.trans f
          refine lv_iconst (v := (-1)) S.1 S.2.1 dX12_give_36 (by decide) ?_
          exact o_iret S hr hlo I f dX12_give_37
theorem M12_give (l : Launch) (D : va_G) (cy : Nat → ClassId) (b : Nat) (A : Nat → Prop) (fl : Bool) {h : PH} {a0 : Nat} {x1 : Int32} {x2 : Int32} {x3 : Int32} {out : Int32 × PH} (f : F12_give h a0 x1 x2 x3 = some out) : Met l yX12_give vX12_give ({ frames := 1, cells := 0, slots := 0, locals := 22 } : Room) (va_Pc [.ref (b + a0), .int x1, .int x2, .int x3] (ph_B D cy b A fl h)) (va_Qi (fun (r : Int32) (u : PH) => (r, u) = out) (ph_B D cy b A fl) A) 0 0 A :=
  o_met (by decide) rfl (Nat.le_of_ble_eq_true rfl) rfl (fun p e s m below meth c S hr hlo hnm ls hl I => T12_give_0 S hr hlo ((gd f).2) I (lv_sub hl [0, 1, 2, 3] rfl))
def vX12_isWave : List Cond := .code yX12_isWave cX12_isWave 2 (some .boolean) :: TB
theorem lf12_isWave_253 : Fl vX12_isWave RX12 253 12 16 := ⟨RX12, TX12, 87, rfl, by decide, (fun w h9 => List.mem_cons_of_mem _ (wC_wsX120 w h9)), (List.mem_cons_of_mem _ wT_12_14)⟩
theorem cd12_isWave : Cd yX12_isWave 1 := ⟨by decide, by decide, by decide +kernel⟩
set_option maxHeartbeats 4000000 in
set_option maxRecDepth 100000 in
theorem T12_isWave_0 (S : CallFix p m c cX12_isWave 2 s args vX12_isWave RX12) (hr : meth.sig.returnType = (some .boolean)) (hlo : meth.locks = false) {out : Int32 × PH} {h : PH} {a0 : Nat} {x1 : Int32} (f : F12_isWave_0  h a0 x1 = some out) {H : Heap} {locs : List Loc} (I : ph_I D cy b A fl h s H locs) {ls : Array Slot} (hl : lv_has ls 2 [(0, .ref (b + a0)), (1, .int x1)]) : W p l e ({ frames := 0, cells := 0, slots := 0, locals := 0 } : Room) s m args below meth c H locs 0 0 (MQ below (va_Qi (fun (r : Int32) (u : PH) => (r, u) = out) (ph_B D cy b A fl) A) args s 0 0 A) (F0 m 0 ls []) := by
  unfold F12_isWave_0 at f
  refine lv_iload_n S.1 S.2.1 dX12_isWave_0 rfl (lv_at hl 1 rfl) ?_
  refine lv_if_lt (tgt := 16) S.1 S.2.1 dX12_isWave_1 (by decide) (fun q1 => ?_) (fun q1 => ?_)
  · have f := (if_pos q1).symm.trans f
    refine lv_iconst (v := 0) S.1 S.2.1 dX12_isWave_16 (by decide) ?_
    exact o_zret S hr hlo I f dX12_isWave_17
  · have f := (if_neg q1).symm.trans f
    refine lv_iload_n S.1 S.2.1 dX12_isWave_4 rfl (lv_at hl 1 rfl) ?_
    refine lv_aload_n S.1 S.2.1 dX12_isWave_5 rfl (lv_at hl 0 rfl) ?_
    obtain ⟨v2, e3, f⟩ := ob f
    refine o_gI S lf12_isWave_253 I e3 dX12_isWave_6 ?_
    refine lv_icmp_ge (tgt := 16) S.1 S.2.1 dX12_isWave_9 (by decide) (fun q4 => ?_) (fun q4 => ?_)
    · have f := (if_pos q4).symm.trans f
      refine lv_iconst (v := 0) S.1 S.2.1 dX12_isWave_16 (by decide) ?_
      exact o_zret S hr hlo I f dX12_isWave_17
    · have f := (if_neg q4).symm.trans f
      refine lv_iconst (v := 1) S.1 S.2.1 dX12_isWave_12 (by decide) ?_
      refine lv_goto (tgt := 17) S.1 S.2.1 dX12_isWave_13 (by decide) ?_
      exact o_zret S hr hlo I f dX12_isWave_17
theorem M12_isWave (l : Launch) (D : va_G) (cy : Nat → ClassId) (b : Nat) (A : Nat → Prop) (fl : Bool) {h : PH} {a0 : Nat} {x1 : Int32} {out : Int32 × PH} (f : F12_isWave h a0 x1 = some out) : Met l yX12_isWave vX12_isWave ({ frames := 0, cells := 0, slots := 0, locals := 0 } : Room) (va_Pc [.ref (b + a0), .int x1] (ph_B D cy b A fl h)) (va_Qi (fun (r : Int32) (u : PH) => (r, u) = out) (ph_B D cy b A fl) A) 0 0 A :=
  o_met (by decide) rfl (Nat.le_of_ble_eq_true rfl) rfl (fun p e s m below meth c S hr hlo hnm ls hl I => T12_isWave_0 S hr hlo ((gd f).2) I (lv_sub hl [0, 1] rfl))
def vX12_isToCome : List Cond := .code yX12_isToCome cX12_isToCome 2 (some .boolean) :: TB
theorem gX12_isToCome_X12_isWave : GoodIn vX12_isToCome (wsV RX12 419 RX12 yX12_isWave vX12_isWave) := gV_of wT_37_7 wT_37_8 wT_37_9 wT_1_5 wT_37_10
theorem lf12_isToCome_103 : Fl vX12_isToCome RX12 103 12 60 := ⟨RX12, TX12, 87, rfl, by decide, (fun w h9 => List.mem_cons_of_mem _ (wC_wsX120 w h9)), (List.mem_cons_of_mem _ wT_11_3)⟩
theorem cd12_isToCome : Cd yX12_isToCome 1 := ⟨by decide, by decide, by decide +kernel⟩
set_option maxHeartbeats 4000000 in
set_option maxRecDepth 100000 in
theorem T12_isToCome_0 (S : CallFix p m c cX12_isToCome 2 s args vX12_isToCome RX12) (hr : meth.sig.returnType = (some .boolean)) (hlo : meth.locks = false) {out : Int32 × PH} {h : PH} {a0 : Nat} {x1 : Int32} (f : F12_isToCome_0  h a0 x1 = some out) {H : Heap} {locs : List Loc} (I : ph_I D cy b A fl h s H locs) {ls : Array Slot} (hl : lv_has ls 2 [(0, .ref (b + a0)), (1, .int x1)]) : W p l e ({ frames := 1, cells := 0, slots := 0, locals := 21 } : Room) s m args below meth c H locs 0 0 (MQ below (va_Qi (fun (r : Int32) (u : PH) => (r, u) = out) (ph_B D cy b A fl) A) args s 0 0 A) (F0 m 0 ls []) := by
  unfold F12_isToCome_0 at f
  refine lv_aload_n S.1 S.2.1 dX12_isToCome_0 rfl (lv_at hl 0 rfl) ?_
  refine lv_iload_n S.1 S.2.1 dX12_isToCome_1 rfl (lv_at hl 1 rfl) ?_
  obtain ⟨o1, e2, f⟩ := ob f
  refine o_Vi S (As := [.int x1]) (rest := []) (ci := 12) (M12_isWave l D cy b A fl e2) gX12_isToCome_X12_isWave rfl rfl rfl cd12_isWave ⟨Nat.le_of_ble_eq_true rfl, Nat.le_of_ble_eq_true rfl⟩ I (gd e2).1 clX12 rfl rfl hl.1 rfl (Nat.le_of_ble_eq_true rfl) dX12_isToCome_2 ⟨Nat.le_of_ble_eq_true rfl, Nat.le_of_ble_eq_true rfl⟩ (fun H locs I => ?_)
  refine lv_if_eq (tgt := 23) S.1 S.2.1 dX12_isToCome_5 (by decide) (fun q3 => ?_) (fun q3 => ?_)
  · have f := (if_pos q3).symm.trans f
    refine lv_iconst (v := 0) S.1 S.2.1 dX12_isToCome_23 (by decide) ?_
    exact o_zret S hr hlo I f dX12_isToCome_24
  · have f := (if_neg q3).symm.trans f
    refine lv_aload_n S.1 S.2.1 dX12_isToCome_8 rfl (lv_at hl 0 rfl) ?_
    obtain ⟨r4, e5, f⟩ := ob f
    refine o_gR S lf12_isToCome_103 I e5 dX12_isToCome_9 ?_
    refine lv_iload_n S.1 S.2.1 dX12_isToCome_12 rfl (lv_at hl 1 rfl) ?_
    obtain ⟨v7, e6, f⟩ := ob f
    refine o_iald S I e6 dX12_isToCome_13 ?_
    refine lv_bipush (v := (-2)) S.1 S.2.1 dX12_isToCome_14 (by decide) ?_
    refine lv_icmp_ne (tgt := 23) S.1 S.2.1 dX12_isToCome_16 (by decide) (fun q8 => ?_) (fun q8 => ?_)
    · have f := (if_neg q8).symm.trans f
      refine lv_iconst (v := 0) S.1 S.2.1 dX12_isToCome_23 (by decide) ?_
      exact o_zret S hr hlo I f dX12_isToCome_24
    · have f := (if_pos q8).symm.trans f
      refine lv_iconst (v := 1) S.1 S.2.1 dX12_isToCome_19 (by decide) ?_
      refine lv_goto (tgt := 24) S.1 S.2.1 dX12_isToCome_20 (by decide) ?_
      exact o_zret S hr hlo I f dX12_isToCome_24
theorem M12_isToCome (l : Launch) (D : va_G) (cy : Nat → ClassId) (b : Nat) (A : Nat → Prop) (fl : Bool) {h : PH} {a0 : Nat} {x1 : Int32} {out : Int32 × PH} (f : F12_isToCome h a0 x1 = some out) : Met l yX12_isToCome vX12_isToCome ({ frames := 1, cells := 0, slots := 0, locals := 21 } : Room) (va_Pc [.ref (b + a0), .int x1] (ph_B D cy b A fl h)) (va_Qi (fun (r : Int32) (u : PH) => (r, u) = out) (ph_B D cy b A fl) A) 0 0 A :=
  o_met (by decide) rfl (Nat.le_of_ble_eq_true rfl) rfl (fun p e s m below meth c S hr hlo hnm ls hl I => T12_isToCome_0 S hr hlo ((gd f).2) I (lv_sub hl [0, 1] rfl))
def vX12_go : List Cond := .code yX12_go cX12_go 7 (some .int) :: TB
theorem lf12_go_118 : Fl vX12_go RX12 118 12 68 := ⟨RX12, TX12, 87, rfl, by decide, (fun w h9 => List.mem_cons_of_mem _ (wC_wsX120 w h9)), (List.mem_cons_of_mem _ wT_11_8)⟩
theorem lf12_go_433 : Fl vX12_go RX12 433 12 69 := ⟨RX12, TX12, 87, rfl, by decide, (fun w h9 => List.mem_cons_of_mem _ (wC_wsX120 w h9)), (List.mem_cons_of_mem _ wT_46_21)⟩
theorem lf12_go_88 : Fl vX12_go RX12 88 12 55 := ⟨RX12, TX12, 87, rfl, by decide, (fun w h9 => List.mem_cons_of_mem _ (wC_wsX120 w h9)), (List.mem_cons_of_mem _ wT_10_22)⟩
theorem gX12_go_X12_gainOf : GoodIn vX12_go (wsV RX12 479 RX12 yX12_gainOf vX12_gainOf) := gV_of wT_50_5 wT_50_6 wT_50_7 wT_1_5 wT_50_8
theorem lf12_go_39 : Fl vX12_go RX12 39 12 31 := ⟨RX12, TX12, 87, rfl, by decide, (fun w h9 => List.mem_cons_of_mem _ (wC_wsX120 w h9)), (List.mem_cons_of_mem _ wT_10_6)⟩
theorem lp12_go_154 : Pl vX12_go RX12 154 12 2 .int := ⟨RX12, TX12, 87, tyX12, rfl, by decide, (fun w h9 => List.mem_cons_of_mem _ (wC_wsX120 w h9)), (List.mem_cons_of_mem _ wT_13_17), tyX12_ok, nmX12, rfl, rfl⟩
theorem gX12_go_X12_isSurfer : GoodIn vX12_go (wsV RX12 413 RX12 yX12_isSurfer vX12_isSurfer) := gV_of wT_34_14 wT_34_15 wT_34_16 wT_1_5 wT_34_17
theorem gX12_go_X12_isToCome : GoodIn vX12_go (wsV RX12 476 RX12 yX12_isToCome vX12_isToCome) := gV_of wT_48_17 wT_48_18 wT_48_19 wT_1_5 wT_48_20
theorem gX12_go_X12_isIn : GoodIn vX12_go (va_wsS RX12 199 yX12_isIn vX12_isIn) := gS_of wT_28_17 wT_28_18 wT_1_5 wT_28_19
theorem lf12_go_369 : Fl vX12_go RX12 369 12 64 := ⟨RX12, TX12, 87, rfl, by decide, (fun w h9 => List.mem_cons_of_mem _ (wC_wsX120 w h9)), (List.mem_cons_of_mem _ wT_12_23)⟩
theorem gX12_go_X12_layOrder : GoodIn vX12_go (wsV RX12 453 RX12 yX12_layOrder vX12_layOrder) := gV_of wT_46_22 wT_46_23 wT_47_0 wT_1_5 wT_47_1
set_option maxHeartbeats 4000000 in
set_option maxRecDepth 100000 in
theorem T12_go_107 (S : CallFix p m c cX12_go 7 s args vX12_go RX12) (hr : meth.sig.returnType = (some .int)) (hlo : meth.locks = false) {out : Int32 × PH} {k54 : PH → Nat → Int32 → Int32 → Int32 → Int32 → Int32 → Int32 → Option (Int32 × PH)} (hk54 : ∀ {h : PH} {a0 : Nat} {x1 : Int32} {x2 : Int32} {x3 : Int32} {x4 : Int32} {x5 : Int32} {x6 : Int32}, k54 h a0 x1 x2 x3 x4 x5 x6 = some out → ∀ (H : Heap) (locs : List Loc), ph_I D cy b A fl h s H locs → ∀ (ls : Array Slot), lv_has ls 7 [(0, .ref (b + a0)), (1, .int x1), (2, .int x2), (3, .int x3), (4, .int x4), (5, .int x5), (6, .int x6)] → W p l e ({ frames := 9, cells := 0, slots := 0, locals := 218 } : Room) s m args below meth c H locs 0 0 (MQ below (va_Qi (fun (r : Int32) (u : PH) => (r, u) = out) (ph_B D cy b A fl) A) args s 0 0 A) (F0 m 54 ls [])) {h : PH} {a0 : Nat} {x1 : Int32} {x2 : Int32} {x3 : Int32} {x4 : Int32} {x6 : Int32} (f : F12_go_107 k54 h a0 x1 x2 x3 x4 x6 = some out) {H : Heap} {locs : List Loc} (I : ph_I D cy b A fl h s H locs) {ls : Array Slot} (hl : lv_has ls 7 [(0, .ref (b + a0)), (1, .int x1), (2, .int x2), (3, .int x3), (4, .int x4), (6, .int x6)]) : W p l e ({ frames := 9, cells := 0, slots := 0, locals := 218 } : Room) s m args below meth c H locs 0 0 (MQ below (va_Qi (fun (r : Int32) (u : PH) => (r, u) = out) (ph_B D cy b A fl) A) args s 0 0 A) (F0 m 107 ls []) := by
  unfold F12_go_107 at f
  refine lv_iconst (v := 1) S.1 S.2.1 dX12_go_107 (by decide) ?_
  refine lv_goto (tgt := 112) S.1 S.2.1 dX12_go_108 (by decide) ?_
  refine lv_istore (lv' := [(5, .int 1), (0, .ref (b + a0)), (1, .int x1), (2, .int x2), (3, .int x3), (4, .int x4), (6, .int x6)]) S.1 S.2.1 dX12_go_112 hl (by decide) rfl (fun ls hl => ?_)
  refine lv_iinc (v := (x6 + 1)) (lv' := [(6, .int (x6 + 1)), (5, .int 1), (0, .ref (b + a0)), (1, .int x1), (2, .int x2), (3, .int x3), (4, .int x4)]) S.1 S.2.1 dX12_go_114 hl (k := 6) rfl (congrArg (fun z => x6 + z) (by decide)) (by decide) rfl (fun ls hl => ?_)
  refine lv_goto (tgt := 54) S.1 S.2.1 dX12_go_117 (by decide) ?_
  exact hk54 f _ _ I _ (lv_sub hl [2, 3, 4, 5, 6, 1, 0] rfl)
set_option maxHeartbeats 4000000 in
set_option maxRecDepth 100000 in
theorem T12_go_91 (S : CallFix p m c cX12_go 7 s args vX12_go RX12) (hr : meth.sig.returnType = (some .int)) (hlo : meth.locks = false) {out : Int32 × PH} {k54 : PH → Nat → Int32 → Int32 → Int32 → Int32 → Int32 → Int32 → Option (Int32 × PH)} (hk54 : ∀ {h : PH} {a0 : Nat} {x1 : Int32} {x2 : Int32} {x3 : Int32} {x4 : Int32} {x5 : Int32} {x6 : Int32}, k54 h a0 x1 x2 x3 x4 x5 x6 = some out → ∀ (H : Heap) (locs : List Loc), ph_I D cy b A fl h s H locs → ∀ (ls : Array Slot), lv_has ls 7 [(0, .ref (b + a0)), (1, .int x1), (2, .int x2), (3, .int x3), (4, .int x4), (5, .int x5), (6, .int x6)] → W p l e ({ frames := 9, cells := 0, slots := 0, locals := 218 } : Room) s m args below meth c H locs 0 0 (MQ below (va_Qi (fun (r : Int32) (u : PH) => (r, u) = out) (ph_B D cy b A fl) A) args s 0 0 A) (F0 m 54 ls [])) {h : PH} {a0 : Nat} {x1 : Int32} {x2 : Int32} {x3 : Int32} {x4 : Int32} {x5 : Int32} {x6 : Int32} (f : F12_go_91 k54 h a0 x1 x2 x3 x4 x5 x6 = some out) {H : Heap} {locs : List Loc} (I : ph_I D cy b A fl h s H locs) {ls : Array Slot} (hl : lv_has ls 7 [(0, .ref (b + a0)), (1, .int x1), (2, .int x2), (3, .int x3), (4, .int x4), (5, .int x5), (6, .int x6)]) : W p l e ({ frames := 9, cells := 0, slots := 0, locals := 218 } : Room) s m args below meth c H locs 0 0 (MQ below (va_Qi (fun (r : Int32) (u : PH) => (r, u) = out) (ph_B D cy b A fl) A) args s 0 0 A) (F0 m 91 ls []) := by
  unfold F12_go_91 at f
  refine lv_iload S.1 S.2.1 dX12_go_91 (lv_at hl 5 rfl) ?_
  refine lv_if_ne (tgt := 107) S.1 S.2.1 dX12_go_93 (by decide) (fun q1 => ?_) (fun q1 => ?_)
  · have f := (if_neg q1).symm.trans f
    exact T12_go_107 S hr hlo (fun f _ _ I _ hl => hk54 f _ _ I _ hl) f I (lv_sub hl [0, 1, 2, 3, 4, 6] rfl)
  · have f := (if_pos q1).symm.trans f
    refine lv_aload_n S.1 S.2.1 dX12_go_96 rfl (lv_at hl 0 rfl) ?_
    obtain ⟨r2, e3, f⟩ := ob f
    refine o_gR S lf12_go_118 I e3 dX12_go_97 ?_
    refine lv_iload S.1 S.2.1 dX12_go_100 (lv_at hl 6 rfl) ?_
    obtain ⟨v5, e4, f⟩ := ob f
    refine o_iald S I e4 dX12_go_102 ?_
    refine lv_iload_n S.1 S.2.1 dX12_go_103 rfl (lv_at hl 1 rfl) ?_
    refine lv_icmp_ne (tgt := 111) S.1 S.2.1 dX12_go_104 (by decide) (fun q6 => ?_) (fun q6 => ?_)
    · have f := (if_neg q6).symm.trans f
      refine lv_iconst (v := 0) S.1 S.2.1 dX12_go_111 (by decide) ?_
      refine lv_istore (lv' := [(5, .int 0), (0, .ref (b + a0)), (1, .int x1), (2, .int x2), (3, .int x3), (4, .int x4), (6, .int x6)]) S.1 S.2.1 dX12_go_112 hl (by decide) rfl (fun ls hl => ?_)
      refine lv_iinc (v := (x6 + 1)) (lv' := [(6, .int (x6 + 1)), (5, .int 0), (0, .ref (b + a0)), (1, .int x1), (2, .int x2), (3, .int x3), (4, .int x4)]) S.1 S.2.1 dX12_go_114 hl (k := 6) rfl (congrArg (fun z => x6 + z) (by decide)) (by decide) rfl (fun ls hl => ?_)
      refine lv_goto (tgt := 54) S.1 S.2.1 dX12_go_117 (by decide) ?_
      exact hk54 f _ _ I _ (lv_sub hl [2, 3, 4, 5, 6, 1, 0] rfl)
    · have f := (if_pos q6).symm.trans f
      exact T12_go_107 S hr hlo (fun f _ _ I _ hl => hk54 f _ _ I _ hl) f I (lv_sub hl [0, 1, 2, 3, 4, 6] rfl)
set_option maxHeartbeats 4000000 in
set_option maxRecDepth 100000 in
theorem T12_go_54 (S : CallFix p m c cX12_go 7 s args vX12_go RX12) (hr : meth.sig.returnType = (some .int)) (hlo : meth.locks = false) {out : Int32 × PH} : ∀ (n : Nat) {h : PH} {a0 : Nat} {x1 : Int32} {x2 : Int32} {x3 : Int32} {x4 : Int32} {x5 : Int32} {x6 : Int32} (f : F12_go_54  n h a0 x1 x2 x3 x4 x5 x6 = some out) {H : Heap} {locs : List Loc} (I : ph_I D cy b A fl h s H locs) {ls : Array Slot} (hl : lv_has ls 7 [(0, .ref (b + a0)), (1, .int x1), (2, .int x2), (3, .int x3), (4, .int x4), (5, .int x5), (6, .int x6)]), W p l e ({ frames := 9, cells := 0, slots := 0, locals := 218 } : Room) s m args below meth c H locs 0 0 (MQ below (va_Qi (fun (r : Int32) (u : PH) => (r, u) = out) (ph_B D cy b A fl) A) args s 0 0 A) (F0 m 54 ls []) := by
  intro n
  induction n with
  | zero => intro h a0 x1 x2 x3 x4 x5 x6 f; rw [F12_go_54] at f; cases f
  | succ n ih =>
    intro h a0 x1 x2 x3 x4 x5 x6 f H locs I ls hl
    rw [F12_go_54] at f
    refine lv_iload S.1 S.2.1 dX12_go_54 (lv_at hl 6 rfl) ?_
    refine lv_aload_n S.1 S.2.1 dX12_go_56 rfl (lv_at hl 0 rfl) ?_
    obtain ⟨v1, e2, f⟩ := ob f
    refine o_gI S lf12_go_433 I e2 dX12_go_57 ?_
    refine lv_icmp_ge (tgt := 120) S.1 S.2.1 dX12_go_60 (by decide) (fun q3 => ?_) (fun q3 => ?_)
    · have f := (if_pos q3).symm.trans f
      refine lv_aload_n S.1 S.2.1 dX12_go_120 rfl (lv_at hl 0 rfl) ?_
      refine lv_iload_n S.1 S.2.1 dX12_go_121 rfl (lv_at hl 1 rfl) ?_
      refine lv_iload_n S.1 S.2.1 dX12_go_122 rfl (lv_at hl 2 rfl) ?_
      refine lv_aload_n S.1 S.2.1 dX12_go_123 rfl (lv_at hl 0 rfl) ?_
      obtain ⟨r4, e5, f⟩ := ob f
      refine o_gR S lf12_go_88 I e5 dX12_go_124 ?_
      refine lv_iload_n S.1 S.2.1 dX12_go_127 rfl (lv_at hl 1 rfl) ?_
      obtain ⟨v7, e6, f⟩ := ob f
      refine o_iald S I e6 dX12_go_128 ?_
      obtain ⟨o8, e9, f⟩ := ob f
      refine o_Vi S (As := [.int x1, .int x2, .int v7]) (rest := []) (ci := 12) (M12_gainOf l D cy b A fl e9) gX12_go_X12_gainOf rfl rfl rfl cd12_gainOf ⟨Nat.le_of_ble_eq_true rfl, Nat.le_of_ble_eq_true rfl⟩ I (gd e9).1 clX12 rfl rfl hl.1 rfl (Nat.le_of_ble_eq_true rfl) dX12_go_129 ⟨Nat.le_of_ble_eq_true rfl, Nat.le_of_ble_eq_true rfl⟩ (fun H locs I => ?_)
      refine lv_iload_n S.1 S.2.1 dX12_go_132 rfl (lv_at hl 3 rfl) ?_
      refine lv_bipush (v := 100) S.1 S.2.1 dX12_go_133 (by decide) ?_
      refine lv_iload S.1 S.2.1 dX12_go_135 (lv_at hl 4 rfl) ?_
      refine lv_isub S.1 S.2.1 dX12_go_137 ?_
      refine lv_imul S.1 S.2.1 dX12_go_138 ?_
      refine lv_icmp_le (tgt := 146) S.1 S.2.1 dX12_go_139 (by decide) (fun q10 => ?_) (fun q10 => ?_)
      · have f := (if_pos q10).symm.trans f
        refine lv_iconst (v := 0) S.1 S.2.1 dX12_go_146 (by decide) ?_
        exact o_iret S hr hlo I f dX12_go_147
      · have f := (if_neg q10).symm.trans f
        refine lv_iconst (v := 1) S.1 S.2.1 dX12_go_142 (by decide) ?_
        refine lv_goto (tgt := 147) S.1 S.2.1 dX12_go_143 (by decide) ?_
        exact o_iret S hr hlo I f dX12_go_147
    · have f := (if_neg q3).symm.trans f
      refine lv_iload S.1 S.2.1 dX12_go_63 (lv_at hl 5 rfl) ?_
      refine lv_if_eq (tgt := 91) S.1 S.2.1 dX12_go_65 (by decide) (fun q11 => ?_) (fun q11 => ?_)
      · have f := (if_pos q11).symm.trans f
        exact T12_go_91 S hr hlo (fun f _ _ I _ hl => ih f I hl) f I (lv_sub hl [0, 1, 2, 3, 4, 5, 6] rfl)
      · have f := (if_neg q11).symm.trans f
        refine lv_iload S.1 S.2.1 dX12_go_68 (lv_at hl 4 rfl) ?_
        refine lv_bipush (v := 100) S.1 S.2.1 dX12_go_70 (by decide) ?_
        refine lv_aload_n S.1 S.2.1 dX12_go_72 rfl (lv_at hl 0 rfl) ?_
        obtain ⟨r12, e13, f⟩ := ob f
        refine o_gR S lf12_go_39 I e13 dX12_go_73 ?_
        refine lv_aload_n S.1 S.2.1 dX12_go_76 rfl (lv_at hl 0 rfl) ?_
        obtain ⟨r14, e15, f⟩ := ob f
        refine o_gR S lf12_go_118 I e15 dX12_go_77 ?_
        refine lv_iload S.1 S.2.1 dX12_go_80 (lv_at hl 6 rfl) ?_
        obtain ⟨v17, e16, f⟩ := ob f
        refine o_iald S I e16 dX12_go_82 ?_
        obtain ⟨v19, e18, f⟩ := ob f
        refine o_iald S I e18 dX12_go_83 ?_
        refine lv_isub S.1 S.2.1 dX12_go_84 ?_
        refine lv_imul S.1 S.2.1 dX12_go_85 ?_
        refine lv_bipush (v := 100) S.1 S.2.1 dX12_go_86 (by decide) ?_
        refine lv_idiv S.1 S.2.1 dX12_go_88 (by decide) ?_
        refine lv_istore (lv' := [(4, .int ((x4 * (100 - v19)) / 100)), (0, .ref (b + a0)), (1, .int x1), (2, .int x2), (3, .int x3), (5, .int x5), (6, .int x6)]) S.1 S.2.1 dX12_go_89 hl (by decide) rfl (fun ls hl => ?_)
        exact T12_go_91 S hr hlo (fun f _ _ I _ hl => ih f I hl) f I (lv_sub hl [1, 2, 3, 4, 0, 5, 6] rfl)
set_option maxHeartbeats 4000000 in
set_option maxRecDepth 100000 in
theorem T12_go_0 (S : CallFix p m c cX12_go 7 s args vX12_go RX12) (hr : meth.sig.returnType = (some .int)) (hlo : meth.locks = false) {out : Int32 × PH} {h : PH} {a0 : Nat} {x1 : Int32} {x2 : Int32} {x3 : Int32} (f : F12_go_0  h a0 x1 x2 x3 = some out) {H : Heap} {locs : List Loc} (I : ph_I D cy b A fl h s H locs) {ls : Array Slot} (hl : lv_has ls 7 [(0, .ref (b + a0)), (1, .int x1), (2, .int x2), (3, .int x3)]) : W p l e ({ frames := 9, cells := 0, slots := 0, locals := 218 } : Room) s m args below meth c H locs 0 0 (MQ below (va_Qi (fun (r : Int32) (u : PH) => (r, u) = out) (ph_B D cy b A fl) A) args s 0 0 A) (F0 m 0 ls []) := by
  unfold F12_go_0 at f
  refine lv_aload_n S.1 S.2.1 dX12_go_0 rfl (lv_at hl 0 rfl) ?_
  refine lv_iconst (v := 0) S.1 S.2.1 dX12_go_1 (by decide) ?_
  obtain ⟨h1, e2, f⟩ := ob f
  refine o_pI S lp12_go_154 I e2 dX12_go_2 (fun H locs I => ?_)
  refine lv_aload_n S.1 S.2.1 dX12_go_5 rfl (lv_at hl 0 rfl) ?_
  refine lv_iload_n S.1 S.2.1 dX12_go_6 rfl (lv_at hl 1 rfl) ?_
  obtain ⟨o3, e4, f⟩ := ob f
  refine o_Vi S (As := [.int x1]) (rest := []) (ci := 12) (M12_isSurfer l D cy b A fl e4) gX12_go_X12_isSurfer rfl rfl rfl cd12_isSurfer ⟨Nat.le_of_ble_eq_true rfl, Nat.le_of_ble_eq_true rfl⟩ I (gd e4).1 clX12 rfl rfl hl.1 rfl (Nat.le_of_ble_eq_true rfl) dX12_go_7 ⟨Nat.le_of_ble_eq_true rfl, Nat.le_of_ble_eq_true rfl⟩ (fun H locs I => ?_)
  refine lv_if_eq (tgt := 32) S.1 S.2.1 dX12_go_10 (by decide) (fun q5 => ?_) (fun q5 => ?_)
  · have f := (if_pos q5).symm.trans f
    refine lv_iconst (v := (-1)) S.1 S.2.1 dX12_go_32 (by decide) ?_
    exact o_iret S hr hlo I f dX12_go_33
  · have f := (if_neg q5).symm.trans f
    refine lv_aload_n S.1 S.2.1 dX12_go_13 rfl (lv_at hl 0 rfl) ?_
    refine lv_iload_n S.1 S.2.1 dX12_go_14 rfl (lv_at hl 2 rfl) ?_
    obtain ⟨o6, e7, f⟩ := ob f
    refine o_Vi S (As := [.int x2]) (rest := []) (ci := 12) (M12_isToCome l D cy b A fl e7) gX12_go_X12_isToCome rfl rfl rfl cd12_isToCome ⟨Nat.le_of_ble_eq_true rfl, Nat.le_of_ble_eq_true rfl⟩ I (gd e7).1 clX12 rfl rfl hl.1 rfl (Nat.le_of_ble_eq_true rfl) dX12_go_15 ⟨Nat.le_of_ble_eq_true rfl, Nat.le_of_ble_eq_true rfl⟩ (fun H locs I => ?_)
    refine lv_if_eq (tgt := 32) S.1 S.2.1 dX12_go_18 (by decide) (fun q8 => ?_) (fun q8 => ?_)
    · have f := (if_pos q8).symm.trans f
      refine lv_iconst (v := (-1)) S.1 S.2.1 dX12_go_32 (by decide) ?_
      exact o_iret S hr hlo I f dX12_go_33
    · have f := (if_neg q8).symm.trans f
      refine lv_iload_n S.1 S.2.1 dX12_go_21 rfl (lv_at hl 3 rfl) ?_
      refine lv_iconst (v := 0) S.1 S.2.1 dX12_go_22 (by decide) ?_
      refine lv_sipush (v := 999) S.1 S.2.1 dX12_go_23 (by decide) ?_
      obtain ⟨o9, e10, f⟩ := ob f
      refine o_Si S (As := [.int x3, .int 0, .int 999]) (rest := []) (M12_isIn l D cy b A fl e10) gX12_go_X12_isIn rfl rfl rfl cd12_isIn ⟨Nat.le_of_ble_eq_true rfl, Nat.le_of_ble_eq_true rfl⟩ I rfl hl.1 rfl (Nat.le_of_ble_eq_true rfl) dX12_go_26 ⟨Nat.le_of_ble_eq_true rfl, Nat.le_of_ble_eq_true rfl⟩ (fun H locs I => ?_)
      refine lv_if_ne (tgt := 34) S.1 S.2.1 dX12_go_29 (by decide) (fun q11 => ?_) (fun q11 => ?_)
      · have f := (if_neg q11).symm.trans f
        refine lv_aload_n S.1 S.2.1 dX12_go_34 rfl (lv_at hl 0 rfl) ?_
        refine lv_iconst (v := 0) S.1 S.2.1 dX12_go_35 (by decide) ?_
        refine lv_iload_n S.1 S.2.1 dX12_go_36 rfl (lv_at hl 2 rfl) ?_
        refine lv_aload_n S.1 S.2.1 dX12_go_37 rfl (lv_at hl 0 rfl) ?_
        obtain ⟨v12, e13, f⟩ := ob f
        refine o_gI S lf12_go_369 I e13 dX12_go_38 ?_
        obtain ⟨o14, e15, f⟩ := ob f
        refine o_Vv S (As := [.int 0, .int x2, .int v12]) (rest := []) (ci := 12) (M12_layOrder l D cy b A fl e15) gX12_go_X12_layOrder rfl rfl rfl cd12_layOrder ⟨Nat.le_of_ble_eq_true rfl, Nat.le_of_ble_eq_true rfl⟩ I (gd e15).1 clX12 rfl rfl hl.1 rfl (Nat.le_of_ble_eq_true rfl) dX12_go_41 ⟨Nat.le_of_ble_eq_true rfl, Nat.le_of_ble_eq_true rfl⟩ (fun H locs I => ?_)
        refine lv_bipush (v := 100) S.1 S.2.1 dX12_go_44 (by decide) ?_
        refine lv_istore (lv' := [(4, .int 100), (0, .ref (b + a0)), (1, .int x1), (2, .int x2), (3, .int x3)]) S.1 S.2.1 dX12_go_46 hl (by decide) rfl (fun ls hl => ?_)
        refine lv_iconst (v := 0) S.1 S.2.1 dX12_go_48 (by decide) ?_
        refine lv_istore (lv' := [(5, .int 0), (4, .int 100), (0, .ref (b + a0)), (1, .int x1), (2, .int x2), (3, .int x3)]) S.1 S.2.1 dX12_go_49 hl (by decide) rfl (fun ls hl => ?_)
        refine lv_iconst (v := 0) S.1 S.2.1 dX12_go_51 (by decide) ?_
        refine lv_istore (lv' := [(6, .int 0), (5, .int 0), (4, .int 100), (0, .ref (b + a0)), (1, .int x1), (2, .int x2), (3, .int x3)]) S.1 S.2.1 dX12_go_52 hl (by decide) rfl (fun ls hl => ?_)
        exact T12_go_54 S hr hlo  1024 f I (lv_sub hl [3, 4, 5, 6, 2, 1, 0] rfl)
      · have f := (if_pos q11).symm.trans f
        refine lv_iconst (v := (-1)) S.1 S.2.1 dX12_go_32 (by decide) ?_
        exact o_iret S hr hlo I f dX12_go_33
theorem M12_go (l : Launch) (D : va_G) (cy : Nat → ClassId) (b : Nat) (A : Nat → Prop) (fl : Bool) {h : PH} {a0 : Nat} {x1 : Int32} {x2 : Int32} {x3 : Int32} {out : Int32 × PH} (f : F12_go h a0 x1 x2 x3 = some out) : Met l yX12_go vX12_go ({ frames := 9, cells := 0, slots := 0, locals := 218 } : Room) (va_Pc [.ref (b + a0), .int x1, .int x2, .int x3] (ph_B D cy b A fl h)) (va_Qi (fun (r : Int32) (u : PH) => (r, u) = out) (ph_B D cy b A fl) A) 0 0 A :=
  o_met (by decide) rfl (Nat.le_of_ble_eq_true rfl) rfl (fun p e s m below meth c S hr hlo hnm ls hl I => T12_go_0 S hr hlo ((gd f).2) I (lv_sub hl [0, 1, 2, 3] rfl))
def vX12_plain : List Cond := .code yX12_plain cX12_plain 2 none :: TB
theorem lf12_plain_57 : Fl vX12_plain RX12 57 12 37 := ⟨RX12, TX12, 87, rfl, by decide, (fun w h9 => List.mem_cons_of_mem _ (wC_wsX120 w h9)), (List.mem_cons_of_mem _ wT_10_12)⟩
theorem lf12_plain_24 : Fl vX12_plain RX12 24 12 26 := ⟨RX12, TX12, 87, rfl, by decide, (fun w h9 => List.mem_cons_of_mem _ (wC_wsX120 w h9)), (List.mem_cons_of_mem _ wT_10_1)⟩
theorem lf12_plain_20 : Fl vX12_plain RX12 20 12 25 := ⟨RX12, TX12, 87, rfl, by decide, (fun w h9 => List.mem_cons_of_mem _ (wC_wsX120 w h9)), (List.mem_cons_of_mem _ wT_10_0)⟩
theorem lp12_plain_216 : Pl vX12_plain RX12 216 12 18 .int := ⟨RX12, TX12, 87, tyX12, rfl, by decide, (fun w h9 => List.mem_cons_of_mem _ (wC_wsX120 w h9)), (List.mem_cons_of_mem _ wT_11_22), tyX12_ok, nmX12, rfl, rfl⟩
theorem lp12_plain_219 : Pl vX12_plain RX12 219 12 19 .int := ⟨RX12, TX12, 87, tyX12, rfl, by decide, (fun w h9 => List.mem_cons_of_mem _ (wC_wsX120 w h9)), (List.mem_cons_of_mem _ wT_11_23), tyX12_ok, nmX12, rfl, rfl⟩
theorem lp12_plain_222 : Pl vX12_plain RX12 222 12 20 .int := ⟨RX12, TX12, 87, tyX12, rfl, by decide, (fun w h9 => List.mem_cons_of_mem _ (wC_wsX120 w h9)), (List.mem_cons_of_mem _ wT_12_0), tyX12_ok, nmX12, rfl, rfl⟩
theorem lp12_plain_225 : Pl vX12_plain RX12 225 12 21 .int := ⟨RX12, TX12, 87, tyX12, rfl, by decide, (fun w h9 => List.mem_cons_of_mem _ (wC_wsX120 w h9)), (List.mem_cons_of_mem _ wT_12_1), tyX12_ok, nmX12, rfl, rfl⟩
theorem lp12_plain_228 : Pl vX12_plain RX12 228 12 22 .int := ⟨RX12, TX12, 87, tyX12, rfl, by decide, (fun w h9 => List.mem_cons_of_mem _ (wC_wsX120 w h9)), (List.mem_cons_of_mem _ wT_12_2), tyX12_ok, nmX12, rfl, rfl⟩
theorem lp12_plain_231 : Pl vX12_plain RX12 231 12 23 .int := ⟨RX12, TX12, 87, tyX12, rfl, by decide, (fun w h9 => List.mem_cons_of_mem _ (wC_wsX120 w h9)), (List.mem_cons_of_mem _ wT_12_3), tyX12_ok, nmX12, rfl, rfl⟩
theorem lp12_plain_234 : Pl vX12_plain RX12 234 12 49 .int := ⟨RX12, TX12, 87, tyX12, rfl, by decide, (fun w h9 => List.mem_cons_of_mem _ (wC_wsX120 w h9)), (List.mem_cons_of_mem _ wT_12_4), tyX12_ok, nmX12, rfl, rfl⟩
theorem lp12_plain_237 : Pl vX12_plain RX12 237 12 24 .boolean := ⟨RX12, TX12, 87, tyX12, rfl, by decide, (fun w h9 => List.mem_cons_of_mem _ (wC_wsX120 w h9)), (List.mem_cons_of_mem _ wT_12_5), tyX12_ok, nmX12, rfl, rfl⟩
theorem cd12_plain : Cd yX12_plain 0 := ⟨by decide, by decide, by decide +kernel⟩
set_option maxHeartbeats 4000000 in
set_option maxRecDepth 100000 in
theorem T12_plain_85 (S : CallFix p m c cX12_plain 2 s args vX12_plain RX12) (hr : meth.sig.returnType = none) (hlo : meth.locks = false) {out : PH} : ∀ (n : Nat) {h : PH} {a0 : Nat} {x1 : Int32} (f : F12_plain_85  n h a0 x1 = some out) {H : Heap} {locs : List Loc} (I : ph_I D cy b A fl h s H locs) {ls : Array Slot} (hl : lv_has ls 2 [(0, .ref (b + a0)), (1, .int x1)]), W p l e ({ frames := 0, cells := 0, slots := 0, locals := 0 } : Room) s m args below meth c H locs 0 0 (MQ below (va_Qv (fun (u : PH) => u = out) (ph_B D cy b A fl) A) args s 0 0 A) (F0 m 85 ls []) := by
  intro n
  induction n with
  | zero => intro h a0 x1 f; rw [F12_plain_85] at f; cases f
  | succ n ih =>
    intro h a0 x1 f H locs I ls hl
    rw [F12_plain_85] at f
    refine lv_iload_n S.1 S.2.1 dX12_plain_85 rfl (lv_at hl 1 rfl) ?_
    refine lv_bipush (v := 6) S.1 S.2.1 dX12_plain_86 (by decide) ?_
    refine lv_icmp_ge (tgt := 104) S.1 S.2.1 dX12_plain_88 (by decide) (fun q1 => ?_) (fun q1 => ?_)
    · have f := (if_pos q1).symm.trans f
      exact o_vret S hr hlo I f dX12_plain_104
    · have f := (if_neg q1).symm.trans f
      refine lv_aload_n S.1 S.2.1 dX12_plain_91 rfl (lv_at hl 0 rfl) ?_
      obtain ⟨r2, e3, f⟩ := ob f
      refine o_gR S lf12_plain_57 I e3 dX12_plain_92 ?_
      refine lv_iload_n S.1 S.2.1 dX12_plain_95 rfl (lv_at hl 1 rfl) ?_
      refine lv_iconst (v := 0) S.1 S.2.1 dX12_plain_96 (by decide) ?_
      obtain ⟨h5, e4, f⟩ := ob f
      refine o_zast S I e4 dX12_plain_97 (fun H locs I => ?_)
      refine lv_iinc (v := (x1 + 1)) (lv' := [(1, .int (x1 + 1)), (0, .ref (b + a0))]) S.1 S.2.1 dX12_plain_98 hl (k := 1) rfl (congrArg (fun z => x1 + z) (by decide)) (by decide) rfl (fun ls hl => ?_)
      refine lv_goto (tgt := 85) S.1 S.2.1 dX12_plain_101 (by decide) ?_
      exact ih f I (lv_sub hl [1, 0] rfl)
set_option maxHeartbeats 4000000 in
set_option maxRecDepth 100000 in
theorem T12_plain_64 (S : CallFix p m c cX12_plain 2 s args vX12_plain RX12) (hr : meth.sig.returnType = none) (hlo : meth.locks = false) {out : PH} : ∀ (n : Nat) {h : PH} {a0 : Nat} {x1 : Int32} (f : F12_plain_64  n h a0 x1 = some out) {H : Heap} {locs : List Loc} (I : ph_I D cy b A fl h s H locs) {ls : Array Slot} (hl : lv_has ls 2 [(0, .ref (b + a0)), (1, .int x1)]), W p l e ({ frames := 0, cells := 0, slots := 0, locals := 0 } : Room) s m args below meth c H locs 0 0 (MQ below (va_Qv (fun (u : PH) => u = out) (ph_B D cy b A fl) A) args s 0 0 A) (F0 m 64 ls []) := by
  intro n
  induction n with
  | zero => intro h a0 x1 f; rw [F12_plain_64] at f; cases f
  | succ n ih =>
    intro h a0 x1 f H locs I ls hl
    rw [F12_plain_64] at f
    refine lv_iload_n S.1 S.2.1 dX12_plain_64 rfl (lv_at hl 1 rfl) ?_
    refine lv_bipush (v := 14) S.1 S.2.1 dX12_plain_65 (by decide) ?_
    refine lv_icmp_ge (tgt := 83) S.1 S.2.1 dX12_plain_67 (by decide) (fun q1 => ?_) (fun q1 => ?_)
    · have f := (if_pos q1).symm.trans f
      refine lv_iconst (v := 3) S.1 S.2.1 dX12_plain_83 (by decide) ?_
      refine lv_istore_n (lv' := [(1, .int 3), (0, .ref (b + a0))]) S.1 S.2.1 dX12_plain_84 rfl hl (by decide) rfl (fun ls hl => ?_)
      exact T12_plain_85 S hr hlo  1024 f I (lv_sub hl [1, 0] rfl)
    · have f := (if_neg q1).symm.trans f
      refine lv_aload_n S.1 S.2.1 dX12_plain_70 rfl (lv_at hl 0 rfl) ?_
      obtain ⟨r2, e3, f⟩ := ob f
      refine o_gR S lf12_plain_24 I e3 dX12_plain_71 ?_
      refine lv_iload_n S.1 S.2.1 dX12_plain_74 rfl (lv_at hl 1 rfl) ?_
      refine lv_iconst (v := 0) S.1 S.2.1 dX12_plain_75 (by decide) ?_
      obtain ⟨h5, e4, f⟩ := ob f
      refine o_iast S I e4 dX12_plain_76 (fun H locs I => ?_)
      refine lv_iinc (v := (x1 + 1)) (lv' := [(1, .int (x1 + 1)), (0, .ref (b + a0))]) S.1 S.2.1 dX12_plain_77 hl (k := 1) rfl (congrArg (fun z => x1 + z) (by decide)) (by decide) rfl (fun ls hl => ?_)
      refine lv_goto (tgt := 64) S.1 S.2.1 dX12_plain_80 (by decide) ?_
      exact ih f I (lv_sub hl [1, 0] rfl)
set_option maxHeartbeats 4000000 in
set_option maxRecDepth 100000 in
theorem T12_plain_43 (S : CallFix p m c cX12_plain 2 s args vX12_plain RX12) (hr : meth.sig.returnType = none) (hlo : meth.locks = false) {out : PH} : ∀ (n : Nat) {h : PH} {a0 : Nat} {x1 : Int32} (f : F12_plain_43  n h a0 x1 = some out) {H : Heap} {locs : List Loc} (I : ph_I D cy b A fl h s H locs) {ls : Array Slot} (hl : lv_has ls 2 [(0, .ref (b + a0)), (1, .int x1)]), W p l e ({ frames := 0, cells := 0, slots := 0, locals := 0 } : Room) s m args below meth c H locs 0 0 (MQ below (va_Qv (fun (u : PH) => u = out) (ph_B D cy b A fl) A) args s 0 0 A) (F0 m 43 ls []) := by
  intro n
  induction n with
  | zero => intro h a0 x1 f; rw [F12_plain_43] at f; cases f
  | succ n ih =>
    intro h a0 x1 f H locs I ls hl
    rw [F12_plain_43] at f
    refine lv_iload_n S.1 S.2.1 dX12_plain_43 rfl (lv_at hl 1 rfl) ?_
    refine lv_iconst (v := 5) S.1 S.2.1 dX12_plain_44 (by decide) ?_
    refine lv_icmp_ge (tgt := 61) S.1 S.2.1 dX12_plain_45 (by decide) (fun q1 => ?_) (fun q1 => ?_)
    · have f := (if_pos q1).symm.trans f
      refine lv_bipush (v := 7) S.1 S.2.1 dX12_plain_61 (by decide) ?_
      refine lv_istore_n (lv' := [(1, .int 7), (0, .ref (b + a0))]) S.1 S.2.1 dX12_plain_63 rfl hl (by decide) rfl (fun ls hl => ?_)
      exact T12_plain_64 S hr hlo  1024 f I (lv_sub hl [1, 0] rfl)
    · have f := (if_neg q1).symm.trans f
      refine lv_aload_n S.1 S.2.1 dX12_plain_48 rfl (lv_at hl 0 rfl) ?_
      obtain ⟨r2, e3, f⟩ := ob f
      refine o_gR S lf12_plain_20 I e3 dX12_plain_49 ?_
      refine lv_iload_n S.1 S.2.1 dX12_plain_52 rfl (lv_at hl 1 rfl) ?_
      refine lv_iconst (v := 0) S.1 S.2.1 dX12_plain_53 (by decide) ?_
      obtain ⟨h5, e4, f⟩ := ob f
      refine o_zast S I e4 dX12_plain_54 (fun H locs I => ?_)
      refine lv_iinc (v := (x1 + 1)) (lv' := [(1, .int (x1 + 1)), (0, .ref (b + a0))]) S.1 S.2.1 dX12_plain_55 hl (k := 1) rfl (congrArg (fun z => x1 + z) (by decide)) (by decide) rfl (fun ls hl => ?_)
      refine lv_goto (tgt := 43) S.1 S.2.1 dX12_plain_58 (by decide) ?_
      exact ih f I (lv_sub hl [1, 0] rfl)
set_option maxHeartbeats 4000000 in
set_option maxRecDepth 100000 in
theorem T12_plain_0 (S : CallFix p m c cX12_plain 2 s args vX12_plain RX12) (hr : meth.sig.returnType = none) (hlo : meth.locks = false) {out : PH} {h : PH} {a0 : Nat} (f : F12_plain_0  h a0 = some out) {H : Heap} {locs : List Loc} (I : ph_I D cy b A fl h s H locs) {ls : Array Slot} (hl : lv_has ls 2 [(0, .ref (b + a0))]) : W p l e ({ frames := 0, cells := 0, slots := 0, locals := 0 } : Room) s m args below meth c H locs 0 0 (MQ below (va_Qv (fun (u : PH) => u = out) (ph_B D cy b A fl) A) args s 0 0 A) (F0 m 0 ls []) := by
  unfold F12_plain_0 at f
  refine lv_aload_n S.1 S.2.1 dX12_plain_0 rfl (lv_at hl 0 rfl) ?_
  refine lv_bipush (v := 6) S.1 S.2.1 dX12_plain_1 (by decide) ?_
  obtain ⟨h1, e2, f⟩ := ob f
  refine o_pI S lp12_plain_216 I e2 dX12_plain_3 (fun H locs I => ?_)
  refine lv_aload_n S.1 S.2.1 dX12_plain_6 rfl (lv_at hl 0 rfl) ?_
  refine lv_iconst (v := 4) S.1 S.2.1 dX12_plain_7 (by decide) ?_
  obtain ⟨h3, e4, f⟩ := ob f
  refine o_pI S lp12_plain_219 I e4 dX12_plain_8 (fun H locs I => ?_)
  refine lv_aload_n S.1 S.2.1 dX12_plain_11 rfl (lv_at hl 0 rfl) ?_
  refine lv_iconst (v := 0) S.1 S.2.1 dX12_plain_12 (by decide) ?_
  obtain ⟨h5, e6, f⟩ := ob f
  refine o_pI S lp12_plain_222 I e6 dX12_plain_13 (fun H locs I => ?_)
  refine lv_aload_n S.1 S.2.1 dX12_plain_16 rfl (lv_at hl 0 rfl) ?_
  refine lv_iconst (v := 0) S.1 S.2.1 dX12_plain_17 (by decide) ?_
  obtain ⟨h7, e8, f⟩ := ob f
  refine o_pI S lp12_plain_225 I e8 dX12_plain_18 (fun H locs I => ?_)
  refine lv_aload_n S.1 S.2.1 dX12_plain_21 rfl (lv_at hl 0 rfl) ?_
  refine lv_iconst (v := 0) S.1 S.2.1 dX12_plain_22 (by decide) ?_
  obtain ⟨h9, e10, f⟩ := ob f
  refine o_pI S lp12_plain_228 I e10 dX12_plain_23 (fun H locs I => ?_)
  refine lv_aload_n S.1 S.2.1 dX12_plain_26 rfl (lv_at hl 0 rfl) ?_
  refine lv_iconst (v := 0) S.1 S.2.1 dX12_plain_27 (by decide) ?_
  obtain ⟨h11, e12, f⟩ := ob f
  refine o_pI S lp12_plain_231 I e12 dX12_plain_28 (fun H locs I => ?_)
  refine lv_aload_n S.1 S.2.1 dX12_plain_31 rfl (lv_at hl 0 rfl) ?_
  refine lv_iconst (v := 0) S.1 S.2.1 dX12_plain_32 (by decide) ?_
  obtain ⟨h13, e14, f⟩ := ob f
  refine o_pI S lp12_plain_234 I e14 dX12_plain_33 (fun H locs I => ?_)
  refine lv_aload_n S.1 S.2.1 dX12_plain_36 rfl (lv_at hl 0 rfl) ?_
  refine lv_iconst (v := 0) S.1 S.2.1 dX12_plain_37 (by decide) ?_
  obtain ⟨h15, e16, f⟩ := ob f
  refine o_pZ S lp12_plain_237 I e16 dX12_plain_38 (fun H locs I => ?_)
  refine lv_iconst (v := 0) S.1 S.2.1 dX12_plain_41 (by decide) ?_
  refine lv_istore_n (lv' := [(1, .int 0), (0, .ref (b + a0))]) S.1 S.2.1 dX12_plain_42 rfl hl (by decide) rfl (fun ls hl => ?_)
  exact T12_plain_43 S hr hlo  1024 f I (lv_sub hl [1, 0] rfl)
theorem M12_plain (l : Launch) (D : va_G) (cy : Nat → ClassId) (b : Nat) (A : Nat → Prop) (fl : Bool) {h : PH} {a0 : Nat} {out : PH} (f : F12_plain h a0 = some out) : Met l yX12_plain vX12_plain ({ frames := 0, cells := 0, slots := 0, locals := 0 } : Room) (va_Pc [.ref (b + a0)] (ph_B D cy b A fl h)) (va_Qv (fun (u : PH) => u = out) (ph_B D cy b A fl) A) 0 0 A :=
  o_met (by decide) rfl (Nat.le_of_ble_eq_true rfl) rfl (fun p e s m below meth c S hr hlo hnm ls hl I => T12_plain_0 S hr hlo ((gd f).2) I (lv_sub hl [0] rfl))
def vX12_keepText : List Cond := .code yX12_keepText cX12_keepText 2 none :: TB
theorem lf12_keepText_60 : Fl vX12_keepText RX12 60 12 38 := ⟨RX12, TX12, 87, rfl, by decide, (fun w h9 => List.mem_cons_of_mem _ (wC_wsX120 w h9)), (List.mem_cons_of_mem _ wT_10_13)⟩
theorem gX12_keepText_X12_copies : GoodIn vX12_keepText (va_wsS RX12 259 yX12_copies vX12_copies) := gS_of wT_12_16 wT_12_17 wT_1_5 wT_12_18
theorem lf12_keepText_63 : Fl vX12_keepText RX12 63 12 39 := ⟨RX12, TX12, 87, rfl, by decide, (fun w h9 => List.mem_cons_of_mem _ (wC_wsX120 w h9)), (List.mem_cons_of_mem _ wT_10_14)⟩
theorem lf12_keepText_66 : Fl vX12_keepText RX12 66 12 40 := ⟨RX12, TX12, 87, rfl, by decide, (fun w h9 => List.mem_cons_of_mem _ (wC_wsX120 w h9)), (List.mem_cons_of_mem _ wT_10_15)⟩
theorem lf12_keepText_69 : Fl vX12_keepText RX12 69 12 41 := ⟨RX12, TX12, 87, rfl, by decide, (fun w h9 => List.mem_cons_of_mem _ (wC_wsX120 w h9)), (List.mem_cons_of_mem _ wT_10_16)⟩
theorem lf12_keepText_72 : Fl vX12_keepText RX12 72 12 42 := ⟨RX12, TX12, 87, rfl, by decide, (fun w h9 => List.mem_cons_of_mem _ (wC_wsX120 w h9)), (List.mem_cons_of_mem _ wT_10_17)⟩
theorem gX12_keepText_X12_begin : GoodIn vX12_keepText (wsV RX12 263 RX12 yX12_begin vX12_begin) := gV_of wT_12_19 wT_12_20 wT_12_21 wT_1_5 wT_12_22
theorem lf12_keepText_57 : Fl vX12_keepText RX12 57 12 37 := ⟨RX12, TX12, 87, rfl, by decide, (fun w h9 => List.mem_cons_of_mem _ (wC_wsX120 w h9)), (List.mem_cons_of_mem _ wT_10_12)⟩
theorem lf12_keepText_216 : Fl vX12_keepText RX12 216 12 18 := ⟨RX12, TX12, 87, rfl, by decide, (fun w h9 => List.mem_cons_of_mem _ (wC_wsX120 w h9)), (List.mem_cons_of_mem _ wT_11_22)⟩
theorem lp12_keepText_241 : Pl vX12_keepText RX12 241 12 12 .int := ⟨RX12, TX12, 87, tyX12, rfl, by decide, (fun w h9 => List.mem_cons_of_mem _ (wC_wsX120 w h9)), (List.mem_cons_of_mem _ wT_12_10), tyX12_ok, nmX12, rfl, rfl⟩
theorem lf12_keepText_219 : Fl vX12_keepText RX12 219 12 19 := ⟨RX12, TX12, 87, rfl, by decide, (fun w h9 => List.mem_cons_of_mem _ (wC_wsX120 w h9)), (List.mem_cons_of_mem _ wT_11_23)⟩
theorem lp12_keepText_244 : Pl vX12_keepText RX12 244 12 13 .int := ⟨RX12, TX12, 87, tyX12, rfl, by decide, (fun w h9 => List.mem_cons_of_mem _ (wC_wsX120 w h9)), (List.mem_cons_of_mem _ wT_12_11), tyX12_ok, nmX12, rfl, rfl⟩
theorem lf12_keepText_222 : Fl vX12_keepText RX12 222 12 20 := ⟨RX12, TX12, 87, rfl, by decide, (fun w h9 => List.mem_cons_of_mem _ (wC_wsX120 w h9)), (List.mem_cons_of_mem _ wT_12_0)⟩
theorem lp12_keepText_247 : Pl vX12_keepText RX12 247 12 14 .int := ⟨RX12, TX12, 87, tyX12, rfl, by decide, (fun w h9 => List.mem_cons_of_mem _ (wC_wsX120 w h9)), (List.mem_cons_of_mem _ wT_12_12), tyX12_ok, nmX12, rfl, rfl⟩
theorem lf12_keepText_225 : Fl vX12_keepText RX12 225 12 21 := ⟨RX12, TX12, 87, rfl, by decide, (fun w h9 => List.mem_cons_of_mem _ (wC_wsX120 w h9)), (List.mem_cons_of_mem _ wT_12_1)⟩
theorem lp12_keepText_250 : Pl vX12_keepText RX12 250 12 15 .int := ⟨RX12, TX12, 87, tyX12, rfl, by decide, (fun w h9 => List.mem_cons_of_mem _ (wC_wsX120 w h9)), (List.mem_cons_of_mem _ wT_12_13), tyX12_ok, nmX12, rfl, rfl⟩
theorem lf12_keepText_228 : Fl vX12_keepText RX12 228 12 22 := ⟨RX12, TX12, 87, rfl, by decide, (fun w h9 => List.mem_cons_of_mem _ (wC_wsX120 w h9)), (List.mem_cons_of_mem _ wT_12_2)⟩
theorem lp12_keepText_253 : Pl vX12_keepText RX12 253 12 16 .int := ⟨RX12, TX12, 87, tyX12, rfl, by decide, (fun w h9 => List.mem_cons_of_mem _ (wC_wsX120 w h9)), (List.mem_cons_of_mem _ wT_12_14), tyX12_ok, nmX12, rfl, rfl⟩
theorem lf12_keepText_231 : Fl vX12_keepText RX12 231 12 23 := ⟨RX12, TX12, 87, rfl, by decide, (fun w h9 => List.mem_cons_of_mem _ (wC_wsX120 w h9)), (List.mem_cons_of_mem _ wT_12_3)⟩
theorem lp12_keepText_256 : Pl vX12_keepText RX12 256 12 17 .int := ⟨RX12, TX12, 87, tyX12, rfl, by decide, (fun w h9 => List.mem_cons_of_mem _ (wC_wsX120 w h9)), (List.mem_cons_of_mem _ wT_12_15), tyX12_ok, nmX12, rfl, rfl⟩
theorem lf12_keepText_24 : Fl vX12_keepText RX12 24 12 26 := ⟨RX12, TX12, 87, rfl, by decide, (fun w h9 => List.mem_cons_of_mem _ (wC_wsX120 w h9)), (List.mem_cons_of_mem _ wT_10_1)⟩
theorem lf12_keepText_27 : Fl vX12_keepText RX12 27 12 27 := ⟨RX12, TX12, 87, rfl, by decide, (fun w h9 => List.mem_cons_of_mem _ (wC_wsX120 w h9)), (List.mem_cons_of_mem _ wT_10_2)⟩
theorem lf12_keepText_30 : Fl vX12_keepText RX12 30 12 28 := ⟨RX12, TX12, 87, rfl, by decide, (fun w h9 => List.mem_cons_of_mem _ (wC_wsX120 w h9)), (List.mem_cons_of_mem _ wT_10_3)⟩
theorem lf12_keepText_33 : Fl vX12_keepText RX12 33 12 29 := ⟨RX12, TX12, 87, rfl, by decide, (fun w h9 => List.mem_cons_of_mem _ (wC_wsX120 w h9)), (List.mem_cons_of_mem _ wT_10_4)⟩
theorem lf12_keepText_36 : Fl vX12_keepText RX12 36 12 30 := ⟨RX12, TX12, 87, rfl, by decide, (fun w h9 => List.mem_cons_of_mem _ (wC_wsX120 w h9)), (List.mem_cons_of_mem _ wT_10_5)⟩
theorem lf12_keepText_39 : Fl vX12_keepText RX12 39 12 31 := ⟨RX12, TX12, 87, rfl, by decide, (fun w h9 => List.mem_cons_of_mem _ (wC_wsX120 w h9)), (List.mem_cons_of_mem _ wT_10_6)⟩
theorem lf12_keepText_42 : Fl vX12_keepText RX12 42 12 32 := ⟨RX12, TX12, 87, rfl, by decide, (fun w h9 => List.mem_cons_of_mem _ (wC_wsX120 w h9)), (List.mem_cons_of_mem _ wT_10_7)⟩
theorem lf12_keepText_45 : Fl vX12_keepText RX12 45 12 33 := ⟨RX12, TX12, 87, rfl, by decide, (fun w h9 => List.mem_cons_of_mem _ (wC_wsX120 w h9)), (List.mem_cons_of_mem _ wT_10_8)⟩
theorem lf12_keepText_48 : Fl vX12_keepText RX12 48 12 34 := ⟨RX12, TX12, 87, rfl, by decide, (fun w h9 => List.mem_cons_of_mem _ (wC_wsX120 w h9)), (List.mem_cons_of_mem _ wT_10_9)⟩
theorem lf12_keepText_51 : Fl vX12_keepText RX12 51 12 35 := ⟨RX12, TX12, 87, rfl, by decide, (fun w h9 => List.mem_cons_of_mem _ (wC_wsX120 w h9)), (List.mem_cons_of_mem _ wT_10_10)⟩
theorem lf12_keepText_54 : Fl vX12_keepText RX12 54 12 36 := ⟨RX12, TX12, 87, rfl, by decide, (fun w h9 => List.mem_cons_of_mem _ (wC_wsX120 w h9)), (List.mem_cons_of_mem _ wT_10_11)⟩
theorem cd12_keepText : Cd yX12_keepText 0 := ⟨by decide, by decide, by decide +kernel⟩
set_option maxHeartbeats 4000000 in
set_option maxRecDepth 100000 in
theorem T12_keepText_142 (S : CallFix p m c cX12_keepText 2 s args vX12_keepText RX12) (hr : meth.sig.returnType = none) (hlo : meth.locks = false) {out : PH} : ∀ (n : Nat) {h : PH} {a0 : Nat} {x1 : Int32} (f : F12_keepText_142  n h a0 x1 = some out) {H : Heap} {locs : List Loc} (I : ph_I D cy b A fl h s H locs) {ls : Array Slot} (hl : lv_has ls 2 [(0, .ref (b + a0)), (1, .int x1)]), W p l e ({ frames := 1, cells := 0, slots := 0, locals := 22 } : Room) s m args below meth c H locs 0 0 (MQ below (va_Qv (fun (u : PH) => u = out) (ph_B D cy b A fl) A) args s 0 0 A) (F0 m 142 ls []) := by
  intro n
  induction n with
  | zero => intro h a0 x1 f; rw [F12_keepText_142] at f; cases f
  | succ n ih =>
    intro h a0 x1 f H locs I ls hl
    rw [F12_keepText_142] at f
    refine lv_iload_n S.1 S.2.1 dX12_keepText_142 rfl (lv_at hl 1 rfl) ?_
    refine lv_iconst (v := 3) S.1 S.2.1 dX12_keepText_143 (by decide) ?_
    refine lv_icmp_ge (tgt := 167) S.1 S.2.1 dX12_keepText_144 (by decide) (fun q1 => ?_) (fun q1 => ?_)
    · have f := (if_pos q1).symm.trans f
      refine lv_aload_n S.1 S.2.1 dX12_keepText_167 rfl (lv_at hl 0 rfl) ?_
      obtain ⟨r2, e3, f⟩ := ob f
      refine o_gR S lf12_keepText_60 I e3 dX12_keepText_168 ?_
      refine lv_iconst (v := 3) S.1 S.2.1 dX12_keepText_171 (by decide) ?_
      obtain ⟨o4, e5, f⟩ := ob f
      refine o_Sv S (As := [.ref (b + r2), .int 3]) (rest := []) (M12_copies l D cy b A fl e5) gX12_keepText_X12_copies rfl rfl rfl cd12_copies ⟨Nat.le_of_ble_eq_true rfl, Nat.le_of_ble_eq_true rfl⟩ I rfl hl.1 rfl (Nat.le_of_ble_eq_true rfl) dX12_keepText_172 ⟨Nat.le_of_ble_eq_true rfl, Nat.le_of_ble_eq_true rfl⟩ (fun H locs I => ?_)
      refine lv_aload_n S.1 S.2.1 dX12_keepText_175 rfl (lv_at hl 0 rfl) ?_
      obtain ⟨r6, e7, f⟩ := ob f
      refine o_gR S lf12_keepText_63 I e7 dX12_keepText_176 ?_
      refine lv_iconst (v := 3) S.1 S.2.1 dX12_keepText_179 (by decide) ?_
      obtain ⟨o8, e9, f⟩ := ob f
      refine o_Sv S (As := [.ref (b + r6), .int 3]) (rest := []) (M12_copies l D cy b A fl e9) gX12_keepText_X12_copies rfl rfl rfl cd12_copies ⟨Nat.le_of_ble_eq_true rfl, Nat.le_of_ble_eq_true rfl⟩ I rfl hl.1 rfl (Nat.le_of_ble_eq_true rfl) dX12_keepText_180 ⟨Nat.le_of_ble_eq_true rfl, Nat.le_of_ble_eq_true rfl⟩ (fun H locs I => ?_)
      refine lv_aload_n S.1 S.2.1 dX12_keepText_183 rfl (lv_at hl 0 rfl) ?_
      obtain ⟨r10, e11, f⟩ := ob f
      refine o_gR S lf12_keepText_66 I e11 dX12_keepText_184 ?_
      refine lv_bipush (v := 64) S.1 S.2.1 dX12_keepText_187 (by decide) ?_
      obtain ⟨o12, e13, f⟩ := ob f
      refine o_Sv S (As := [.ref (b + r10), .int 64]) (rest := []) (M12_copies l D cy b A fl e13) gX12_keepText_X12_copies rfl rfl rfl cd12_copies ⟨Nat.le_of_ble_eq_true rfl, Nat.le_of_ble_eq_true rfl⟩ I rfl hl.1 rfl (Nat.le_of_ble_eq_true rfl) dX12_keepText_189 ⟨Nat.le_of_ble_eq_true rfl, Nat.le_of_ble_eq_true rfl⟩ (fun H locs I => ?_)
      refine lv_aload_n S.1 S.2.1 dX12_keepText_192 rfl (lv_at hl 0 rfl) ?_
      obtain ⟨r14, e15, f⟩ := ob f
      refine o_gR S lf12_keepText_69 I e15 dX12_keepText_193 ?_
      refine lv_bipush (v := 64) S.1 S.2.1 dX12_keepText_196 (by decide) ?_
      obtain ⟨o16, e17, f⟩ := ob f
      refine o_Sv S (As := [.ref (b + r14), .int 64]) (rest := []) (M12_copies l D cy b A fl e17) gX12_keepText_X12_copies rfl rfl rfl cd12_copies ⟨Nat.le_of_ble_eq_true rfl, Nat.le_of_ble_eq_true rfl⟩ I rfl hl.1 rfl (Nat.le_of_ble_eq_true rfl) dX12_keepText_198 ⟨Nat.le_of_ble_eq_true rfl, Nat.le_of_ble_eq_true rfl⟩ (fun H locs I => ?_)
      refine lv_aload_n S.1 S.2.1 dX12_keepText_201 rfl (lv_at hl 0 rfl) ?_
      obtain ⟨r18, e19, f⟩ := ob f
      refine o_gR S lf12_keepText_72 I e19 dX12_keepText_202 ?_
      refine lv_bipush (v := 64) S.1 S.2.1 dX12_keepText_205 (by decide) ?_
      obtain ⟨o20, e21, f⟩ := ob f
      refine o_Sv S (As := [.ref (b + r18), .int 64]) (rest := []) (M12_copies l D cy b A fl e21) gX12_keepText_X12_copies rfl rfl rfl cd12_copies ⟨Nat.le_of_ble_eq_true rfl, Nat.le_of_ble_eq_true rfl⟩ I rfl hl.1 rfl (Nat.le_of_ble_eq_true rfl) dX12_keepText_207 ⟨Nat.le_of_ble_eq_true rfl, Nat.le_of_ble_eq_true rfl⟩ (fun H locs I => ?_)
      refine lv_aload_n S.1 S.2.1 dX12_keepText_210 rfl (lv_at hl 0 rfl) ?_
      obtain ⟨o22, e23, f⟩ := ob f
      refine o_Vv S (As := []) (rest := []) (ci := 12) (M12_begin l D cy b A fl e23) gX12_keepText_X12_begin rfl rfl rfl cd12_begin ⟨Nat.le_of_ble_eq_true rfl, Nat.le_of_ble_eq_true rfl⟩ I (gd e23).1 clX12 rfl rfl hl.1 rfl (Nat.le_of_ble_eq_true rfl) dX12_keepText_211 ⟨Nat.le_of_ble_eq_true rfl, Nat.le_of_ble_eq_true rfl⟩ (fun H locs I => ?_)
      exact o_vret S hr hlo I f dX12_keepText_214
    · have f := (if_neg q1).symm.trans f
      refine lv_aload_n S.1 S.2.1 dX12_keepText_147 rfl (lv_at hl 0 rfl) ?_
      obtain ⟨r24, e25, f⟩ := ob f
      refine o_gR S lf12_keepText_57 I e25 dX12_keepText_148 ?_
      refine lv_iload_n S.1 S.2.1 dX12_keepText_151 rfl (lv_at hl 1 rfl) ?_
      refine lv_aload_n S.1 S.2.1 dX12_keepText_152 rfl (lv_at hl 0 rfl) ?_
      obtain ⟨r26, e27, f⟩ := ob f
      refine o_gR S lf12_keepText_57 I e27 dX12_keepText_153 ?_
      refine lv_iconst (v := 3) S.1 S.2.1 dX12_keepText_156 (by decide) ?_
      refine lv_iload_n S.1 S.2.1 dX12_keepText_157 rfl (lv_at hl 1 rfl) ?_
      refine lv_iadd S.1 S.2.1 dX12_keepText_158 ?_
      obtain ⟨v29, e28, f⟩ := ob f
      refine o_zald S I e28 dX12_keepText_159 ?_
      obtain ⟨h31, e30, f⟩ := ob f
      refine o_zast S I e30 dX12_keepText_160 (fun H locs I => ?_)
      refine lv_iinc (v := (x1 + 1)) (lv' := [(1, .int (x1 + 1)), (0, .ref (b + a0))]) S.1 S.2.1 dX12_keepText_161 hl (k := 1) rfl (congrArg (fun z => x1 + z) (by decide)) (by decide) rfl (fun ls hl => ?_)
      refine lv_goto (tgt := 142) S.1 S.2.1 dX12_keepText_164 (by decide) ?_
      exact ih f I (lv_sub hl [1, 0] rfl)
set_option maxHeartbeats 4000000 in
set_option maxRecDepth 100000 in
theorem T12_keepText_0 (S : CallFix p m c cX12_keepText 2 s args vX12_keepText RX12) (hr : meth.sig.returnType = none) (hlo : meth.locks = false) {out : PH} {h : PH} {a0 : Nat} (f : F12_keepText_0  h a0 = some out) {H : Heap} {locs : List Loc} (I : ph_I D cy b A fl h s H locs) {ls : Array Slot} (hl : lv_has ls 2 [(0, .ref (b + a0))]) : W p l e ({ frames := 1, cells := 0, slots := 0, locals := 22 } : Room) s m args below meth c H locs 0 0 (MQ below (va_Qv (fun (u : PH) => u = out) (ph_B D cy b A fl) A) args s 0 0 A) (F0 m 0 ls []) := by
  unfold F12_keepText_0 at f
  refine lv_aload_n S.1 S.2.1 dX12_keepText_0 rfl (lv_at hl 0 rfl) ?_
  refine lv_aload_n S.1 S.2.1 dX12_keepText_1 rfl (lv_at hl 0 rfl) ?_
  obtain ⟨v1, e2, f⟩ := ob f
  refine o_gI S lf12_keepText_216 I e2 dX12_keepText_2 ?_
  obtain ⟨h3, e4, f⟩ := ob f
  refine o_pI S lp12_keepText_241 I e4 dX12_keepText_5 (fun H locs I => ?_)
  refine lv_aload_n S.1 S.2.1 dX12_keepText_8 rfl (lv_at hl 0 rfl) ?_
  refine lv_aload_n S.1 S.2.1 dX12_keepText_9 rfl (lv_at hl 0 rfl) ?_
  obtain ⟨v5, e6, f⟩ := ob f
  refine o_gI S lf12_keepText_219 I e6 dX12_keepText_10 ?_
  obtain ⟨h7, e8, f⟩ := ob f
  refine o_pI S lp12_keepText_244 I e8 dX12_keepText_13 (fun H locs I => ?_)
  refine lv_aload_n S.1 S.2.1 dX12_keepText_16 rfl (lv_at hl 0 rfl) ?_
  refine lv_aload_n S.1 S.2.1 dX12_keepText_17 rfl (lv_at hl 0 rfl) ?_
  obtain ⟨v9, e10, f⟩ := ob f
  refine o_gI S lf12_keepText_222 I e10 dX12_keepText_18 ?_
  obtain ⟨h11, e12, f⟩ := ob f
  refine o_pI S lp12_keepText_247 I e12 dX12_keepText_21 (fun H locs I => ?_)
  refine lv_aload_n S.1 S.2.1 dX12_keepText_24 rfl (lv_at hl 0 rfl) ?_
  refine lv_aload_n S.1 S.2.1 dX12_keepText_25 rfl (lv_at hl 0 rfl) ?_
  obtain ⟨v13, e14, f⟩ := ob f
  refine o_gI S lf12_keepText_225 I e14 dX12_keepText_26 ?_
  obtain ⟨h15, e16, f⟩ := ob f
  refine o_pI S lp12_keepText_250 I e16 dX12_keepText_29 (fun H locs I => ?_)
  refine lv_aload_n S.1 S.2.1 dX12_keepText_32 rfl (lv_at hl 0 rfl) ?_
  refine lv_aload_n S.1 S.2.1 dX12_keepText_33 rfl (lv_at hl 0 rfl) ?_
  obtain ⟨v17, e18, f⟩ := ob f
  refine o_gI S lf12_keepText_228 I e18 dX12_keepText_34 ?_
  obtain ⟨h19, e20, f⟩ := ob f
  refine o_pI S lp12_keepText_253 I e20 dX12_keepText_37 (fun H locs I => ?_)
  refine lv_aload_n S.1 S.2.1 dX12_keepText_40 rfl (lv_at hl 0 rfl) ?_
  refine lv_aload_n S.1 S.2.1 dX12_keepText_41 rfl (lv_at hl 0 rfl) ?_
  obtain ⟨v21, e22, f⟩ := ob f
  refine o_gI S lf12_keepText_231 I e22 dX12_keepText_42 ?_
  obtain ⟨h23, e24, f⟩ := ob f
  refine o_pI S lp12_keepText_256 I e24 dX12_keepText_45 (fun H locs I => ?_)
  refine lv_aload_n S.1 S.2.1 dX12_keepText_48 rfl (lv_at hl 0 rfl) ?_
  obtain ⟨r25, e26, f⟩ := ob f
  refine o_gR S lf12_keepText_24 I e26 dX12_keepText_49 ?_
  refine lv_bipush (v := 7) S.1 S.2.1 dX12_keepText_52 (by decide) ?_
  obtain ⟨o27, e28, f⟩ := ob f
  refine o_Sv S (As := [.ref (b + r25), .int 7]) (rest := []) (M12_copies l D cy b A fl e28) gX12_keepText_X12_copies rfl rfl rfl cd12_copies ⟨Nat.le_of_ble_eq_true rfl, Nat.le_of_ble_eq_true rfl⟩ I rfl hl.1 rfl (Nat.le_of_ble_eq_true rfl) dX12_keepText_54 ⟨Nat.le_of_ble_eq_true rfl, Nat.le_of_ble_eq_true rfl⟩ (fun H locs I => ?_)
  refine lv_aload_n S.1 S.2.1 dX12_keepText_57 rfl (lv_at hl 0 rfl) ?_
  obtain ⟨r29, e30, f⟩ := ob f
  refine o_gR S lf12_keepText_27 I e30 dX12_keepText_58 ?_
  refine lv_iconst (v := 5) S.1 S.2.1 dX12_keepText_61 (by decide) ?_
  obtain ⟨o31, e32, f⟩ := ob f
  refine o_Sv S (As := [.ref (b + r29), .int 5]) (rest := []) (M12_copies l D cy b A fl e32) gX12_keepText_X12_copies rfl rfl rfl cd12_copies ⟨Nat.le_of_ble_eq_true rfl, Nat.le_of_ble_eq_true rfl⟩ I rfl hl.1 rfl (Nat.le_of_ble_eq_true rfl) dX12_keepText_62 ⟨Nat.le_of_ble_eq_true rfl, Nat.le_of_ble_eq_true rfl⟩ (fun H locs I => ?_)
  refine lv_aload_n S.1 S.2.1 dX12_keepText_65 rfl (lv_at hl 0 rfl) ?_
  obtain ⟨r33, e34, f⟩ := ob f
  refine o_gR S lf12_keepText_30 I e34 dX12_keepText_66 ?_
  refine lv_iconst (v := 5) S.1 S.2.1 dX12_keepText_69 (by decide) ?_
  obtain ⟨o35, e36, f⟩ := ob f
  refine o_Sv S (As := [.ref (b + r33), .int 5]) (rest := []) (M12_copies l D cy b A fl e36) gX12_keepText_X12_copies rfl rfl rfl cd12_copies ⟨Nat.le_of_ble_eq_true rfl, Nat.le_of_ble_eq_true rfl⟩ I rfl hl.1 rfl (Nat.le_of_ble_eq_true rfl) dX12_keepText_70 ⟨Nat.le_of_ble_eq_true rfl, Nat.le_of_ble_eq_true rfl⟩ (fun H locs I => ?_)
  refine lv_aload_n S.1 S.2.1 dX12_keepText_73 rfl (lv_at hl 0 rfl) ?_
  obtain ⟨r37, e38, f⟩ := ob f
  refine o_gR S lf12_keepText_33 I e38 dX12_keepText_74 ?_
  refine lv_iconst (v := 5) S.1 S.2.1 dX12_keepText_77 (by decide) ?_
  obtain ⟨o39, e40, f⟩ := ob f
  refine o_Sv S (As := [.ref (b + r37), .int 5]) (rest := []) (M12_copies l D cy b A fl e40) gX12_keepText_X12_copies rfl rfl rfl cd12_copies ⟨Nat.le_of_ble_eq_true rfl, Nat.le_of_ble_eq_true rfl⟩ I rfl hl.1 rfl (Nat.le_of_ble_eq_true rfl) dX12_keepText_78 ⟨Nat.le_of_ble_eq_true rfl, Nat.le_of_ble_eq_true rfl⟩ (fun H locs I => ?_)
  refine lv_aload_n S.1 S.2.1 dX12_keepText_81 rfl (lv_at hl 0 rfl) ?_
  obtain ⟨r41, e42, f⟩ := ob f
  refine o_gR S lf12_keepText_36 I e42 dX12_keepText_82 ?_
  refine lv_iconst (v := 5) S.1 S.2.1 dX12_keepText_85 (by decide) ?_
  obtain ⟨o43, e44, f⟩ := ob f
  refine o_Sv S (As := [.ref (b + r41), .int 5]) (rest := []) (M12_copies l D cy b A fl e44) gX12_keepText_X12_copies rfl rfl rfl cd12_copies ⟨Nat.le_of_ble_eq_true rfl, Nat.le_of_ble_eq_true rfl⟩ I rfl hl.1 rfl (Nat.le_of_ble_eq_true rfl) dX12_keepText_86 ⟨Nat.le_of_ble_eq_true rfl, Nat.le_of_ble_eq_true rfl⟩ (fun H locs I => ?_)
  refine lv_aload_n S.1 S.2.1 dX12_keepText_89 rfl (lv_at hl 0 rfl) ?_
  obtain ⟨r45, e46, f⟩ := ob f
  refine o_gR S lf12_keepText_39 I e46 dX12_keepText_90 ?_
  refine lv_iconst (v := 5) S.1 S.2.1 dX12_keepText_93 (by decide) ?_
  obtain ⟨o47, e48, f⟩ := ob f
  refine o_Sv S (As := [.ref (b + r45), .int 5]) (rest := []) (M12_copies l D cy b A fl e48) gX12_keepText_X12_copies rfl rfl rfl cd12_copies ⟨Nat.le_of_ble_eq_true rfl, Nat.le_of_ble_eq_true rfl⟩ I rfl hl.1 rfl (Nat.le_of_ble_eq_true rfl) dX12_keepText_94 ⟨Nat.le_of_ble_eq_true rfl, Nat.le_of_ble_eq_true rfl⟩ (fun H locs I => ?_)
  refine lv_aload_n S.1 S.2.1 dX12_keepText_97 rfl (lv_at hl 0 rfl) ?_
  obtain ⟨r49, e50, f⟩ := ob f
  refine o_gR S lf12_keepText_42 I e50 dX12_keepText_98 ?_
  refine lv_iconst (v := 5) S.1 S.2.1 dX12_keepText_101 (by decide) ?_
  obtain ⟨o51, e52, f⟩ := ob f
  refine o_Sv S (As := [.ref (b + r49), .int 5]) (rest := []) (M12_copies l D cy b A fl e52) gX12_keepText_X12_copies rfl rfl rfl cd12_copies ⟨Nat.le_of_ble_eq_true rfl, Nat.le_of_ble_eq_true rfl⟩ I rfl hl.1 rfl (Nat.le_of_ble_eq_true rfl) dX12_keepText_102 ⟨Nat.le_of_ble_eq_true rfl, Nat.le_of_ble_eq_true rfl⟩ (fun H locs I => ?_)
  refine lv_aload_n S.1 S.2.1 dX12_keepText_105 rfl (lv_at hl 0 rfl) ?_
  obtain ⟨r53, e54, f⟩ := ob f
  refine o_gR S lf12_keepText_45 I e54 dX12_keepText_106 ?_
  refine lv_iconst (v := 4) S.1 S.2.1 dX12_keepText_109 (by decide) ?_
  obtain ⟨o55, e56, f⟩ := ob f
  refine o_Sv S (As := [.ref (b + r53), .int 4]) (rest := []) (M12_copies l D cy b A fl e56) gX12_keepText_X12_copies rfl rfl rfl cd12_copies ⟨Nat.le_of_ble_eq_true rfl, Nat.le_of_ble_eq_true rfl⟩ I rfl hl.1 rfl (Nat.le_of_ble_eq_true rfl) dX12_keepText_110 ⟨Nat.le_of_ble_eq_true rfl, Nat.le_of_ble_eq_true rfl⟩ (fun H locs I => ?_)
  refine lv_aload_n S.1 S.2.1 dX12_keepText_113 rfl (lv_at hl 0 rfl) ?_
  obtain ⟨r57, e58, f⟩ := ob f
  refine o_gR S lf12_keepText_48 I e58 dX12_keepText_114 ?_
  refine lv_bipush (v := 28) S.1 S.2.1 dX12_keepText_117 (by decide) ?_
  obtain ⟨o59, e60, f⟩ := ob f
  refine o_Sv S (As := [.ref (b + r57), .int 28]) (rest := []) (M12_copies l D cy b A fl e60) gX12_keepText_X12_copies rfl rfl rfl cd12_copies ⟨Nat.le_of_ble_eq_true rfl, Nat.le_of_ble_eq_true rfl⟩ I rfl hl.1 rfl (Nat.le_of_ble_eq_true rfl) dX12_keepText_119 ⟨Nat.le_of_ble_eq_true rfl, Nat.le_of_ble_eq_true rfl⟩ (fun H locs I => ?_)
  refine lv_aload_n S.1 S.2.1 dX12_keepText_122 rfl (lv_at hl 0 rfl) ?_
  obtain ⟨r61, e62, f⟩ := ob f
  refine o_gR S lf12_keepText_51 I e62 dX12_keepText_123 ?_
  refine lv_bipush (v := 28) S.1 S.2.1 dX12_keepText_126 (by decide) ?_
  obtain ⟨o63, e64, f⟩ := ob f
  refine o_Sv S (As := [.ref (b + r61), .int 28]) (rest := []) (M12_copies l D cy b A fl e64) gX12_keepText_X12_copies rfl rfl rfl cd12_copies ⟨Nat.le_of_ble_eq_true rfl, Nat.le_of_ble_eq_true rfl⟩ I rfl hl.1 rfl (Nat.le_of_ble_eq_true rfl) dX12_keepText_128 ⟨Nat.le_of_ble_eq_true rfl, Nat.le_of_ble_eq_true rfl⟩ (fun H locs I => ?_)
  refine lv_aload_n S.1 S.2.1 dX12_keepText_131 rfl (lv_at hl 0 rfl) ?_
  obtain ⟨r65, e66, f⟩ := ob f
  refine o_gR S lf12_keepText_54 I e66 dX12_keepText_132 ?_
  refine lv_bipush (v := 28) S.1 S.2.1 dX12_keepText_135 (by decide) ?_
  obtain ⟨o67, e68, f⟩ := ob f
  refine o_Sv S (As := [.ref (b + r65), .int 28]) (rest := []) (M12_copies l D cy b A fl e68) gX12_keepText_X12_copies rfl rfl rfl cd12_copies ⟨Nat.le_of_ble_eq_true rfl, Nat.le_of_ble_eq_true rfl⟩ I rfl hl.1 rfl (Nat.le_of_ble_eq_true rfl) dX12_keepText_137 ⟨Nat.le_of_ble_eq_true rfl, Nat.le_of_ble_eq_true rfl⟩ (fun H locs I => ?_)
  refine lv_iconst (v := 0) S.1 S.2.1 dX12_keepText_140 (by decide) ?_
  refine lv_istore_n (lv' := [(1, .int 0), (0, .ref (b + a0))]) S.1 S.2.1 dX12_keepText_141 rfl hl (by decide) rfl (fun ls hl => ?_)
  exact T12_keepText_142 S hr hlo  1024 f I (lv_sub hl [1, 0] rfl)
theorem M12_keepText (l : Launch) (D : va_G) (cy : Nat → ClassId) (b : Nat) (A : Nat → Prop) (fl : Bool) {h : PH} {a0 : Nat} {out : PH} (f : F12_keepText h a0 = some out) : Met l yX12_keepText vX12_keepText ({ frames := 1, cells := 0, slots := 0, locals := 22 } : Room) (va_Pc [.ref (b + a0)] (ph_B D cy b A fl h)) (va_Qv (fun (u : PH) => u = out) (ph_B D cy b A fl) A) 0 0 A :=
  o_met (by decide) rfl (Nat.le_of_ble_eq_true rfl) rfl (fun p e s m below meth c S hr hlo hnm ls hl I => T12_keepText_0 S hr hlo ((gd f).2) I (lv_sub hl [0] rfl))
def vX12_isCell : List Cond := .code yX12_isCell cX12_isCell 2 (some .boolean) :: TB
theorem gX12_isCell_X12_cells : GoodIn vX12_isCell (wsV RX12 366 RX12 yX12_cells vX12_cells) := gV_of wT_39_21 wT_39_22 wT_39_23 wT_1_5 wT_40_0
theorem cd12_isCell : Cd yX12_isCell 1 := ⟨by decide, by decide, by decide +kernel⟩
set_option maxHeartbeats 4000000 in
set_option maxRecDepth 100000 in
theorem T12_isCell_0 (S : CallFix p m c cX12_isCell 2 s args vX12_isCell RX12) (hr : meth.sig.returnType = (some .boolean)) (hlo : meth.locks = false) {out : Int32 × PH} {h : PH} {a0 : Nat} {x1 : Int32} (f : F12_isCell_0  h a0 x1 = some out) {H : Heap} {locs : List Loc} (I : ph_I D cy b A fl h s H locs) {ls : Array Slot} (hl : lv_has ls 2 [(0, .ref (b + a0)), (1, .int x1)]) : W p l e ({ frames := 1, cells := 0, slots := 0, locals := 20 } : Room) s m args below meth c H locs 0 0 (MQ below (va_Qi (fun (r : Int32) (u : PH) => (r, u) = out) (ph_B D cy b A fl) A) args s 0 0 A) (F0 m 0 ls []) := by
  unfold F12_isCell_0 at f
  refine lv_iload_n S.1 S.2.1 dX12_isCell_0 rfl (lv_at hl 1 rfl) ?_
  refine lv_if_lt (tgt := 16) S.1 S.2.1 dX12_isCell_1 (by decide) (fun q1 => ?_) (fun q1 => ?_)
  · have f := (if_pos q1).symm.trans f
    refine lv_iconst (v := 0) S.1 S.2.1 dX12_isCell_16 (by decide) ?_
    exact o_zret S hr hlo I f dX12_isCell_17
  · have f := (if_neg q1).symm.trans f
    refine lv_iload_n S.1 S.2.1 dX12_isCell_4 rfl (lv_at hl 1 rfl) ?_
    refine lv_aload_n S.1 S.2.1 dX12_isCell_5 rfl (lv_at hl 0 rfl) ?_
    obtain ⟨o2, e3, f⟩ := ob f
    refine o_Vi S (As := []) (rest := [.int x1]) (ci := 12) (M12_cells l D cy b A fl e3) gX12_isCell_X12_cells rfl rfl rfl cd12_cells ⟨Nat.le_of_ble_eq_true rfl, Nat.le_of_ble_eq_true rfl⟩ I (gd e3).1 clX12 rfl rfl hl.1 rfl (Nat.le_of_ble_eq_true rfl) dX12_isCell_6 ⟨Nat.le_of_ble_eq_true rfl, Nat.le_of_ble_eq_true rfl⟩ (fun H locs I => ?_)
    refine lv_icmp_ge (tgt := 16) S.1 S.2.1 dX12_isCell_9 (by decide) (fun q4 => ?_) (fun q4 => ?_)
    · have f := (if_pos q4).symm.trans f
      refine lv_iconst (v := 0) S.1 S.2.1 dX12_isCell_16 (by decide) ?_
      exact o_zret S hr hlo I f dX12_isCell_17
    · have f := (if_neg q4).symm.trans f
      refine lv_iconst (v := 1) S.1 S.2.1 dX12_isCell_12 (by decide) ?_
      refine lv_goto (tgt := 17) S.1 S.2.1 dX12_isCell_13 (by decide) ?_
      exact o_zret S hr hlo I f dX12_isCell_17
theorem M12_isCell (l : Launch) (D : va_G) (cy : Nat → ClassId) (b : Nat) (A : Nat → Prop) (fl : Bool) {h : PH} {a0 : Nat} {x1 : Int32} {out : Int32 × PH} (f : F12_isCell h a0 x1 = some out) : Met l yX12_isCell vX12_isCell ({ frames := 1, cells := 0, slots := 0, locals := 20 } : Room) (va_Pc [.ref (b + a0), .int x1] (ph_B D cy b A fl h)) (va_Qi (fun (r : Int32) (u : PH) => (r, u) = out) (ph_B D cy b A fl) A) 0 0 A :=
  o_met (by decide) rfl (Nat.le_of_ble_eq_true rfl) rfl (fun p e s m below meth c S hr hlo hnm ls hl I => T12_isCell_0 S hr hlo ((gd f).2) I (lv_sub hl [0, 1] rfl))
def vX12_isCounted : List Cond := .code yX12_isCounted cX12_isCounted 1 (some .boolean) :: TB
theorem lf12_isCounted_234 : Fl vX12_isCounted RX12 234 12 49 := ⟨RX12, TX12, 87, rfl, by decide, (fun w h9 => List.mem_cons_of_mem _ (wC_wsX120 w h9)), (List.mem_cons_of_mem _ wT_12_4)⟩
theorem lp12_isCounted_234 : Pl vX12_isCounted RX12 234 12 49 .int := ⟨RX12, TX12, 87, tyX12, rfl, by decide, (fun w h9 => List.mem_cons_of_mem _ (wC_wsX120 w h9)), (List.mem_cons_of_mem _ wT_12_4), tyX12_ok, nmX12, rfl, rfl⟩
theorem gX12_isCounted_X12_wrong : GoodIn vX12_isCounted (wsV RX12 196 RX12 yX12_wrong vX12_wrong) := gV_of wT_28_4 wT_28_5 wT_28_6 wT_1_5 wT_28_7
theorem cd12_isCounted : Cd yX12_isCounted 0 := ⟨by decide, by decide, by decide +kernel⟩
set_option maxHeartbeats 4000000 in
set_option maxRecDepth 100000 in
theorem T12_isCounted_0 (S : CallFix p m c cX12_isCounted 1 s args vX12_isCounted RX12) (hr : meth.sig.returnType = (some .boolean)) (hlo : meth.locks = false) {out : Int32 × PH} {h : PH} {a0 : Nat} (f : F12_isCounted_0  h a0 = some out) {H : Heap} {locs : List Loc} (I : ph_I D cy b A fl h s H locs) {ls : Array Slot} (hl : lv_has ls 1 [(0, .ref (b + a0))]) : W p l e ({ frames := 1, cells := 0, slots := 0, locals := 21 } : Room) s m args below meth c H locs 0 0 (MQ below (va_Qi (fun (r : Int32) (u : PH) => (r, u) = out) (ph_B D cy b A fl) A) args s 0 0 A) (F0 m 0 ls []) := by
  unfold F12_isCounted_0 at f
  refine lv_aload_n S.1 S.2.1 dX12_isCounted_0 rfl (lv_at hl 0 rfl) ?_
  obtain ⟨v1, e2, f⟩ := ob f
  refine o_gI S lf12_isCounted_234 I e2 dX12_isCounted_1 ?_
  refine lv_bipush (v := 64) S.1 S.2.1 dX12_isCounted_4 (by decide) ?_
  refine lv_icmp_ne (tgt := 15) S.1 S.2.1 dX12_isCounted_6 (by decide) (fun q3 => ?_) (fun q3 => ?_)
  · have f := (if_neg q3).symm.trans f
    refine lv_aload_n S.1 S.2.1 dX12_isCounted_15 rfl (lv_at hl 0 rfl) ?_
    refine lv_dup S.1 S.2.1 dX12_isCounted_16 rfl ?_
    obtain ⟨v4, e5, f⟩ := ob f
    refine o_gI S lf12_isCounted_234 I e5 dX12_isCounted_17 ?_
    refine lv_iconst (v := 1) S.1 S.2.1 dX12_isCounted_20 (by decide) ?_
    refine lv_iadd S.1 S.2.1 dX12_isCounted_21 ?_
    obtain ⟨h6, e7, f⟩ := ob f
    refine o_pI S lp12_isCounted_234 I e7 dX12_isCounted_22 (fun H locs I => ?_)
    refine lv_iconst (v := 1) S.1 S.2.1 dX12_isCounted_25 (by decide) ?_
    exact o_zret S hr hlo I f dX12_isCounted_26
  · have f := (if_pos q3).symm.trans f
    refine lv_aload_n S.1 S.2.1 dX12_isCounted_9 rfl (lv_at hl 0 rfl) ?_
    refine lv_iconst (v := 2) S.1 S.2.1 dX12_isCounted_10 (by decide) ?_
    obtain ⟨o8, e9, f⟩ := ob f
    refine o_Vi S (As := [.int 2]) (rest := []) (ci := 12) (M12_wrong l D cy b A fl e9) gX12_isCounted_X12_wrong rfl rfl rfl cd12_wrong ⟨Nat.le_of_ble_eq_true rfl, Nat.le_of_ble_eq_true rfl⟩ I (gd e9).1 clX12 rfl rfl hl.1 rfl (Nat.le_of_ble_eq_true rfl) dX12_isCounted_11 ⟨Nat.le_of_ble_eq_true rfl, Nat.le_of_ble_eq_true rfl⟩ (fun H locs I => ?_)
    exact o_zret S hr hlo I f dX12_isCounted_14
theorem M12_isCounted (l : Launch) (D : va_G) (cy : Nat → ClassId) (b : Nat) (A : Nat → Prop) (fl : Bool) {h : PH} {a0 : Nat} {out : Int32 × PH} (f : F12_isCounted h a0 = some out) : Met l yX12_isCounted vX12_isCounted ({ frames := 1, cells := 0, slots := 0, locals := 21 } : Room) (va_Pc [.ref (b + a0)] (ph_B D cy b A fl h)) (va_Qi (fun (r : Int32) (u : PH) => (r, u) = out) (ph_B D cy b A fl) A) 0 0 A :=
  o_met (by decide) rfl (Nat.le_of_ble_eq_true rfl) rfl (fun p e s m below meth c S hr hlo hnm ls hl I => T12_isCounted_0 S hr hlo ((gd f).2) I (lv_sub hl [0] rfl))
def vX12_isKey : List Cond := .code yX12_isKey cX12_isKey 2 (some .boolean) :: TB
theorem lf12_isKey_172 : Fl vX12_isKey RX12 172 12 8 := ⟨RX12, TX12, 87, rfl, by decide, (fun w h9 => List.mem_cons_of_mem _ (wC_wsX120 w h9)), (List.mem_cons_of_mem _ wT_26_20)⟩
theorem lf12_isKey_183 : Fl vX12_isKey RX12 183 12 9 := ⟨RX12, TX12, 87, rfl, by decide, (fun w h9 => List.mem_cons_of_mem _ (wC_wsX120 w h9)), (List.mem_cons_of_mem _ wT_27_2)⟩
theorem cd12_isKey : Cd yX12_isKey 1 := ⟨by decide, by decide, by decide +kernel⟩
set_option maxHeartbeats 4000000 in
set_option maxRecDepth 100000 in
theorem T12_isKey_0 (S : CallFix p m c cX12_isKey 2 s args vX12_isKey RX12) (hr : meth.sig.returnType = (some .boolean)) (hlo : meth.locks = false) {out : Int32 × PH} {h : PH} {a0 : Nat} {x1 : Int32} (f : F12_isKey_0  h a0 x1 = some out) {H : Heap} {locs : List Loc} (I : ph_I D cy b A fl h s H locs) {ls : Array Slot} (hl : lv_has ls 2 [(0, .ref (b + a0)), (1, .int x1)]) : W p l e ({ frames := 0, cells := 0, slots := 0, locals := 0 } : Room) s m args below meth c H locs 0 0 (MQ below (va_Qi (fun (r : Int32) (u : PH) => (r, u) = out) (ph_B D cy b A fl) A) args s 0 0 A) (F0 m 0 ls []) := by
  unfold F12_isKey_0 at f
  refine lv_aload_n S.1 S.2.1 dX12_isKey_0 rfl (lv_at hl 0 rfl) ?_
  obtain ⟨v1, e2, f⟩ := ob f
  refine o_gI S lf12_isKey_172 I e2 dX12_isKey_1 ?_
  refine lv_iconst (v := 1) S.1 S.2.1 dX12_isKey_4 (by decide) ?_
  refine lv_icmp_ne (tgt := 20) S.1 S.2.1 dX12_isKey_5 (by decide) (fun q3 => ?_) (fun q3 => ?_)
  · have f := (if_neg q3).symm.trans f
    refine lv_iconst (v := 0) S.1 S.2.1 dX12_isKey_20 (by decide) ?_
    exact o_zret S hr hlo I f dX12_isKey_21
  · have f := (if_pos q3).symm.trans f
    refine lv_aload_n S.1 S.2.1 dX12_isKey_8 rfl (lv_at hl 0 rfl) ?_
    obtain ⟨v4, e5, f⟩ := ob f
    refine o_gI S lf12_isKey_183 I e5 dX12_isKey_9 ?_
    refine lv_iload_n S.1 S.2.1 dX12_isKey_12 rfl (lv_at hl 1 rfl) ?_
    refine lv_icmp_ne (tgt := 20) S.1 S.2.1 dX12_isKey_13 (by decide) (fun q6 => ?_) (fun q6 => ?_)
    · have f := (if_neg q6).symm.trans f
      refine lv_iconst (v := 0) S.1 S.2.1 dX12_isKey_20 (by decide) ?_
      exact o_zret S hr hlo I f dX12_isKey_21
    · have f := (if_pos q6).symm.trans f
      refine lv_iconst (v := 1) S.1 S.2.1 dX12_isKey_16 (by decide) ?_
      refine lv_goto (tgt := 21) S.1 S.2.1 dX12_isKey_17 (by decide) ?_
      exact o_zret S hr hlo I f dX12_isKey_21
theorem M12_isKey (l : Launch) (D : va_G) (cy : Nat → ClassId) (b : Nat) (A : Nat → Prop) (fl : Bool) {h : PH} {a0 : Nat} {x1 : Int32} {out : Int32 × PH} (f : F12_isKey h a0 x1 = some out) : Met l yX12_isKey vX12_isKey ({ frames := 0, cells := 0, slots := 0, locals := 0 } : Room) (va_Pc [.ref (b + a0), .int x1] (ph_B D cy b A fl h)) (va_Qi (fun (r : Int32) (u : PH) => (r, u) = out) (ph_B D cy b A fl) A) 0 0 A :=
  o_met (by decide) rfl (Nat.le_of_ble_eq_true rfl) rfl (fun p e s m below meth c S hr hlo hnm ls hl I => T12_isKey_0 S hr hlo ((gd f).2) I (lv_sub hl [0, 1] rfl))
def vX12_isRest : List Cond := .code yX12_isRest cX12_isRest 3 (some .boolean) :: TB
theorem lf12_isRest_121 : Fl vX12_isRest RX12 121 12 70 := ⟨RX12, TX12, 87, rfl, by decide, (fun w h9 => List.mem_cons_of_mem _ (wC_wsX120 w h9)), (List.mem_cons_of_mem _ wT_11_9)⟩
theorem lf12_isRest_124 : Fl vX12_isRest RX12 124 12 71 := ⟨RX12, TX12, 87, rfl, by decide, (fun w h9 => List.mem_cons_of_mem _ (wC_wsX120 w h9)), (List.mem_cons_of_mem _ wT_11_10)⟩
theorem cd12_isRest : Cd yX12_isRest 1 := ⟨by decide, by decide, by decide +kernel⟩
set_option maxHeartbeats 4000000 in
set_option maxRecDepth 100000 in
theorem T12_isRest_13 (S : CallFix p m c cX12_isRest 3 s args vX12_isRest RX12) (hr : meth.sig.returnType = (some .boolean)) (hlo : meth.locks = false) {out : Int32 × PH} : ∀ (n : Nat) {h : PH} {a0 : Nat} {x1 : Int32} {x2 : Int32} (f : F12_isRest_13  n h a0 x1 x2 = some out) {H : Heap} {locs : List Loc} (I : ph_I D cy b A fl h s H locs) {ls : Array Slot} (hl : lv_has ls 3 [(0, .ref (b + a0)), (1, .int x1), (2, .int x2)]), W p l e ({ frames := 0, cells := 0, slots := 0, locals := 0 } : Room) s m args below meth c H locs 0 0 (MQ below (va_Qi (fun (r : Int32) (u : PH) => (r, u) = out) (ph_B D cy b A fl) A) args s 0 0 A) (F0 m 13 ls []) := by
  intro n
  induction n with
  | zero => intro h a0 x1 x2 f; rw [F12_isRest_13] at f; cases f
  | succ n ih =>
    intro h a0 x1 x2 f H locs I ls hl
    rw [F12_isRest_13] at f
    refine lv_iload_n S.1 S.2.1 dX12_isRest_13 rfl (lv_at hl 2 rfl) ?_
    refine lv_iconst (v := 5) S.1 S.2.1 dX12_isRest_14 (by decide) ?_
    refine lv_icmp_ge (tgt := 68) S.1 S.2.1 dX12_isRest_15 (by decide) (fun q1 => ?_) (fun q1 => ?_)
    · have f := (if_pos q1).symm.trans f
      refine lv_iconst (v := 1) S.1 S.2.1 dX12_isRest_68 (by decide) ?_
      exact o_zret S hr hlo I f dX12_isRest_69
    · have f := (if_neg q1).symm.trans f
      refine lv_aload_n S.1 S.2.1 dX12_isRest_18 rfl (lv_at hl 0 rfl) ?_
      obtain ⟨r2, e3, f⟩ := ob f
      refine o_gR S lf12_isRest_121 I e3 dX12_isRest_19 ?_
      refine lv_iconst (v := 5) S.1 S.2.1 dX12_isRest_22 (by decide) ?_
      refine lv_iload_n S.1 S.2.1 dX12_isRest_23 rfl (lv_at hl 2 rfl) ?_
      refine lv_imul S.1 S.2.1 dX12_isRest_24 ?_
      refine lv_iload_n S.1 S.2.1 dX12_isRest_25 rfl (lv_at hl 1 rfl) ?_
      refine lv_iconst (v := 5) S.1 S.2.1 dX12_isRest_26 (by decide) ?_
      refine lv_irem S.1 S.2.1 dX12_isRest_27 (by decide) ?_
      refine lv_iadd S.1 S.2.1 dX12_isRest_28 ?_
      obtain ⟨v5, e4, f⟩ := ob f
      refine o_iald S I e4 dX12_isRest_29 ?_
      refine lv_aload_n S.1 S.2.1 dX12_isRest_30 rfl (lv_at hl 0 rfl) ?_
      obtain ⟨r6, e7, f⟩ := ob f
      refine o_gR S lf12_isRest_121 I e7 dX12_isRest_31 ?_
      refine lv_iload_n S.1 S.2.1 dX12_isRest_34 rfl (lv_at hl 1 rfl) ?_
      obtain ⟨v9, e8, f⟩ := ob f
      refine o_iald S I e8 dX12_isRest_35 ?_
      refine lv_icmp_gt (tgt := 60) S.1 S.2.1 dX12_isRest_36 (by decide) (fun q10 => ?_) (fun q10 => ?_)
      · have f := (if_pos q10).symm.trans f
        refine lv_iconst (v := 0) S.1 S.2.1 dX12_isRest_60 (by decide) ?_
        exact o_zret S hr hlo I f dX12_isRest_61
      · have f := (if_neg q10).symm.trans f
        refine lv_aload_n S.1 S.2.1 dX12_isRest_39 rfl (lv_at hl 0 rfl) ?_
        obtain ⟨r11, e12, f⟩ := ob f
        refine o_gR S lf12_isRest_124 I e12 dX12_isRest_40 ?_
        refine lv_iload_n S.1 S.2.1 dX12_isRest_43 rfl (lv_at hl 1 rfl) ?_
        refine lv_iconst (v := 5) S.1 S.2.1 dX12_isRest_44 (by decide) ?_
        refine lv_idiv S.1 S.2.1 dX12_isRest_45 (by decide) ?_
        refine lv_iconst (v := 5) S.1 S.2.1 dX12_isRest_46 (by decide) ?_
        refine lv_imul S.1 S.2.1 dX12_isRest_47 ?_
        refine lv_iload_n S.1 S.2.1 dX12_isRest_48 rfl (lv_at hl 2 rfl) ?_
        refine lv_iadd S.1 S.2.1 dX12_isRest_49 ?_
        obtain ⟨v14, e13, f⟩ := ob f
        refine o_iald S I e13 dX12_isRest_50 ?_
        refine lv_aload_n S.1 S.2.1 dX12_isRest_51 rfl (lv_at hl 0 rfl) ?_
        obtain ⟨r15, e16, f⟩ := ob f
        refine o_gR S lf12_isRest_124 I e16 dX12_isRest_52 ?_
        refine lv_iload_n S.1 S.2.1 dX12_isRest_55 rfl (lv_at hl 1 rfl) ?_
        obtain ⟨v18, e17, f⟩ := ob f
        refine o_iald S I e17 dX12_isRest_56 ?_
        refine lv_icmp_le (tgt := 62) S.1 S.2.1 dX12_isRest_57 (by decide) (fun q19 => ?_) (fun q19 => ?_)
        · have f := (if_pos q19).symm.trans f
          refine lv_iinc (v := (x2 + 1)) (lv' := [(2, .int (x2 + 1)), (0, .ref (b + a0)), (1, .int x1)]) S.1 S.2.1 dX12_isRest_62 hl (k := 2) rfl (congrArg (fun z => x2 + z) (by decide)) (by decide) rfl (fun ls hl => ?_)
          refine lv_goto (tgt := 13) S.1 S.2.1 dX12_isRest_65 (by decide) ?_
          exact ih f I (lv_sub hl [1, 2, 0] rfl)
        · have f := (if_neg q19).symm.trans f
          refine lv_iconst (v := 0) S.1 S.2.1 dX12_isRest_60 (by decide) ?_
          exact o_zret S hr hlo I f dX12_isRest_61
set_option maxHeartbeats 4000000 in
set_option maxRecDepth 100000 in
theorem T12_isRest_0 (S : CallFix p m c cX12_isRest 3 s args vX12_isRest RX12) (hr : meth.sig.returnType = (some .boolean)) (hlo : meth.locks = false) {out : Int32 × PH} {h : PH} {a0 : Nat} {x1 : Int32} (f : F12_isRest_0  h a0 x1 = some out) {H : Heap} {locs : List Loc} (I : ph_I D cy b A fl h s H locs) {ls : Array Slot} (hl : lv_has ls 3 [(0, .ref (b + a0)), (1, .int x1)]) : W p l e ({ frames := 0, cells := 0, slots := 0, locals := 0 } : Room) s m args below meth c H locs 0 0 (MQ below (va_Qi (fun (r : Int32) (u : PH) => (r, u) = out) (ph_B D cy b A fl) A) args s 0 0 A) (F0 m 0 ls []) := by
  unfold F12_isRest_0 at f
  refine lv_aload_n S.1 S.2.1 dX12_isRest_0 rfl (lv_at hl 0 rfl) ?_
  obtain ⟨r1, e2, f⟩ := ob f
  refine o_gR S lf12_isRest_121 I e2 dX12_isRest_1 ?_
  refine lv_iload_n S.1 S.2.1 dX12_isRest_4 rfl (lv_at hl 1 rfl) ?_
  obtain ⟨v4, e3, f⟩ := ob f
  refine o_iald S I e3 dX12_isRest_5 ?_
  refine lv_if_ge (tgt := 11) S.1 S.2.1 dX12_isRest_6 (by decide) (fun q5 => ?_) (fun q5 => ?_)
  · have f := (if_pos q5).symm.trans f
    refine lv_iconst (v := 0) S.1 S.2.1 dX12_isRest_11 (by decide) ?_
    refine lv_istore_n (lv' := [(2, .int 0), (0, .ref (b + a0)), (1, .int x1)]) S.1 S.2.1 dX12_isRest_12 rfl hl (by decide) rfl (fun ls hl => ?_)
    exact T12_isRest_13 S hr hlo  1024 f I (lv_sub hl [1, 2, 0] rfl)
  · have f := (if_neg q5).symm.trans f
    refine lv_iconst (v := 0) S.1 S.2.1 dX12_isRest_9 (by decide) ?_
    exact o_zret S hr hlo I f dX12_isRest_10
theorem M12_isRest (l : Launch) (D : va_G) (cy : Nat → ClassId) (b : Nat) (A : Nat → Prop) (fl : Bool) {h : PH} {a0 : Nat} {x1 : Int32} {out : Int32 × PH} (f : F12_isRest h a0 x1 = some out) : Met l yX12_isRest vX12_isRest ({ frames := 0, cells := 0, slots := 0, locals := 0 } : Room) (va_Pc [.ref (b + a0), .int x1] (ph_B D cy b A fl h)) (va_Qi (fun (r : Int32) (u : PH) => (r, u) = out) (ph_B D cy b A fl) A) 0 0 A :=
  o_met (by decide) rfl (Nat.le_of_ble_eq_true rfl) rfl (fun p e s m below meth c S hr hlo hnm ls hl I => T12_isRest_0 S hr hlo ((gd f).2) I (lv_sub hl [0, 1] rfl))
def vX12_isSign : List Cond := .code yX12_isSign cX12_isSign 2 (some .boolean) :: TB
theorem lf12_isSign_172 : Fl vX12_isSign RX12 172 12 8 := ⟨RX12, TX12, 87, rfl, by decide, (fun w h9 => List.mem_cons_of_mem _ (wC_wsX120 w h9)), (List.mem_cons_of_mem _ wT_26_20)⟩
theorem lf12_isSign_183 : Fl vX12_isSign RX12 183 12 9 := ⟨RX12, TX12, 87, rfl, by decide, (fun w h9 => List.mem_cons_of_mem _ (wC_wsX120 w h9)), (List.mem_cons_of_mem _ wT_27_2)⟩
theorem cd12_isSign : Cd yX12_isSign 1 := ⟨by decide, by decide, by decide +kernel⟩
set_option maxHeartbeats 4000000 in
set_option maxRecDepth 100000 in
theorem T12_isSign_0 (S : CallFix p m c cX12_isSign 2 s args vX12_isSign RX12) (hr : meth.sig.returnType = (some .boolean)) (hlo : meth.locks = false) {out : Int32 × PH} {h : PH} {a0 : Nat} {x1 : Int32} (f : F12_isSign_0  h a0 x1 = some out) {H : Heap} {locs : List Loc} (I : ph_I D cy b A fl h s H locs) {ls : Array Slot} (hl : lv_has ls 2 [(0, .ref (b + a0)), (1, .int x1)]) : W p l e ({ frames := 0, cells := 0, slots := 0, locals := 0 } : Room) s m args below meth c H locs 0 0 (MQ below (va_Qi (fun (r : Int32) (u : PH) => (r, u) = out) (ph_B D cy b A fl) A) args s 0 0 A) (F0 m 0 ls []) := by
  unfold F12_isSign_0 at f
  refine lv_aload_n S.1 S.2.1 dX12_isSign_0 rfl (lv_at hl 0 rfl) ?_
  obtain ⟨v1, e2, f⟩ := ob f
  refine o_gI S lf12_isSign_172 I e2 dX12_isSign_1 ?_
  refine lv_iconst (v := 4) S.1 S.2.1 dX12_isSign_4 (by decide) ?_
  refine lv_icmp_ne (tgt := 20) S.1 S.2.1 dX12_isSign_5 (by decide) (fun q3 => ?_) (fun q3 => ?_)
  · have f := (if_neg q3).symm.trans f
    refine lv_iconst (v := 0) S.1 S.2.1 dX12_isSign_20 (by decide) ?_
    exact o_zret S hr hlo I f dX12_isSign_21
  · have f := (if_pos q3).symm.trans f
    refine lv_aload_n S.1 S.2.1 dX12_isSign_8 rfl (lv_at hl 0 rfl) ?_
    obtain ⟨v4, e5, f⟩ := ob f
    refine o_gI S lf12_isSign_183 I e5 dX12_isSign_9 ?_
    refine lv_iload_n S.1 S.2.1 dX12_isSign_12 rfl (lv_at hl 1 rfl) ?_
    refine lv_icmp_ne (tgt := 20) S.1 S.2.1 dX12_isSign_13 (by decide) (fun q6 => ?_) (fun q6 => ?_)
    · have f := (if_neg q6).symm.trans f
      refine lv_iconst (v := 0) S.1 S.2.1 dX12_isSign_20 (by decide) ?_
      exact o_zret S hr hlo I f dX12_isSign_21
    · have f := (if_pos q6).symm.trans f
      refine lv_iconst (v := 1) S.1 S.2.1 dX12_isSign_16 (by decide) ?_
      refine lv_goto (tgt := 21) S.1 S.2.1 dX12_isSign_17 (by decide) ?_
      exact o_zret S hr hlo I f dX12_isSign_21
theorem M12_isSign (l : Launch) (D : va_G) (cy : Nat → ClassId) (b : Nat) (A : Nat → Prop) (fl : Bool) {h : PH} {a0 : Nat} {x1 : Int32} {out : Int32 × PH} (f : F12_isSign h a0 x1 = some out) : Met l yX12_isSign vX12_isSign ({ frames := 0, cells := 0, slots := 0, locals := 0 } : Room) (va_Pc [.ref (b + a0), .int x1] (ph_B D cy b A fl h)) (va_Qi (fun (r : Int32) (u : PH) => (r, u) = out) (ph_B D cy b A fl) A) 0 0 A :=
  o_met (by decide) rfl (Nat.le_of_ble_eq_true rfl) rfl (fun p e s m below meth c S hr hlo hnm ls hl I => T12_isSign_0 S hr hlo ((gd f).2) I (lv_sub hl [0, 1] rfl))
def vX12_keep : List Cond := .code yX12_keep cX12_keep 2 (some .int) :: TB
theorem lf12_keep_106 : Fl vX12_keep RX12 106 12 61 := ⟨RX12, TX12, 87, rfl, by decide, (fun w h9 => List.mem_cons_of_mem _ (wC_wsX120 w h9)), (List.mem_cons_of_mem _ wT_11_4)⟩
theorem lp12_keep_533 : Pl vX12_keep RX12 533 12 82 .int := ⟨RX12, TX12, 87, tyX12, rfl, by decide, (fun w h9 => List.mem_cons_of_mem _ (wC_wsX120 w h9)), (List.mem_cons_of_mem _ wT_67_1), tyX12_ok, nmX12, rfl, rfl⟩
theorem lf12_keep_369 : Fl vX12_keep RX12 369 12 64 := ⟨RX12, TX12, 87, rfl, by decide, (fun w h9 => List.mem_cons_of_mem _ (wC_wsX120 w h9)), (List.mem_cons_of_mem _ wT_12_23)⟩
theorem lp12_keep_536 : Pl vX12_keep RX12 536 12 83 .int := ⟨RX12, TX12, 87, tyX12, rfl, by decide, (fun w h9 => List.mem_cons_of_mem _ (wC_wsX120 w h9)), (List.mem_cons_of_mem _ wT_67_2), tyX12_ok, nmX12, rfl, rfl⟩
theorem lf12_keep_109 : Fl vX12_keep RX12 109 12 62 := ⟨RX12, TX12, 87, rfl, by decide, (fun w h9 => List.mem_cons_of_mem _ (wC_wsX120 w h9)), (List.mem_cons_of_mem _ wT_11_5)⟩
theorem lp12_keep_539 : Pl vX12_keep RX12 539 12 84 .int := ⟨RX12, TX12, 87, tyX12, rfl, by decide, (fun w h9 => List.mem_cons_of_mem _ (wC_wsX120 w h9)), (List.mem_cons_of_mem _ wT_67_3), tyX12_ok, nmX12, rfl, rfl⟩
theorem lf12_keep_112 : Fl vX12_keep RX12 112 12 63 := ⟨RX12, TX12, 87, rfl, by decide, (fun w h9 => List.mem_cons_of_mem _ (wC_wsX120 w h9)), (List.mem_cons_of_mem _ wT_11_6)⟩
theorem lp12_keep_542 : Pl vX12_keep RX12 542 12 85 .int := ⟨RX12, TX12, 87, tyX12, rfl, by decide, (fun w h9 => List.mem_cons_of_mem _ (wC_wsX120 w h9)), (List.mem_cons_of_mem _ wT_67_4), tyX12_ok, nmX12, rfl, rfl⟩
theorem lf12_keep_372 : Fl vX12_keep RX12 372 12 65 := ⟨RX12, TX12, 87, rfl, by decide, (fun w h9 => List.mem_cons_of_mem _ (wC_wsX120 w h9)), (List.mem_cons_of_mem _ wT_13_0)⟩
theorem lp12_keep_545 : Pl vX12_keep RX12 545 12 86 .long := ⟨RX12, TX12, 87, tyX12, rfl, by decide, (fun w h9 => List.mem_cons_of_mem _ (wC_wsX120 w h9)), (List.mem_cons_of_mem _ wT_67_5), tyX12_ok, nmX12, rfl, rfl⟩
theorem lf12_keep_145 : Fl vX12_keep RX12 145 12 81 := ⟨RX12, TX12, 87, rfl, by decide, (fun w h9 => List.mem_cons_of_mem _ (wC_wsX120 w h9)), (List.mem_cons_of_mem _ wT_11_17)⟩
theorem lf12_keep_103 : Fl vX12_keep RX12 103 12 60 := ⟨RX12, TX12, 87, rfl, by decide, (fun w h9 => List.mem_cons_of_mem _ (wC_wsX120 w h9)), (List.mem_cons_of_mem _ wT_11_3)⟩
theorem lf12_keep_88 : Fl vX12_keep RX12 88 12 55 := ⟨RX12, TX12, 87, rfl, by decide, (fun w h9 => List.mem_cons_of_mem _ (wC_wsX120 w h9)), (List.mem_cons_of_mem _ wT_10_22)⟩
theorem lf12_keep_91 : Fl vX12_keep RX12 91 12 56 := ⟨RX12, TX12, 87, rfl, by decide, (fun w h9 => List.mem_cons_of_mem _ (wC_wsX120 w h9)), (List.mem_cons_of_mem _ wT_10_23)⟩
theorem lf12_keep_94 : Fl vX12_keep RX12 94 12 57 := ⟨RX12, TX12, 87, rfl, by decide, (fun w h9 => List.mem_cons_of_mem _ (wC_wsX120 w h9)), (List.mem_cons_of_mem _ wT_11_0)⟩
theorem lf12_keep_97 : Fl vX12_keep RX12 97 12 58 := ⟨RX12, TX12, 87, rfl, by decide, (fun w h9 => List.mem_cons_of_mem _ (wC_wsX120 w h9)), (List.mem_cons_of_mem _ wT_11_1)⟩
theorem lf12_keep_100 : Fl vX12_keep RX12 100 12 59 := ⟨RX12, TX12, 87, rfl, by decide, (fun w h9 => List.mem_cons_of_mem _ (wC_wsX120 w h9)), (List.mem_cons_of_mem _ wT_11_2)⟩
theorem lp12_keep_154 : Pl vX12_keep RX12 154 12 2 .int := ⟨RX12, TX12, 87, tyX12, rfl, by decide, (fun w h9 => List.mem_cons_of_mem _ (wC_wsX120 w h9)), (List.mem_cons_of_mem _ wT_13_17), tyX12_ok, nmX12, rfl, rfl⟩
theorem lp12_keep_382 : Pl vX12_keep RX12 382 12 80 .boolean := ⟨RX12, TX12, 87, tyX12, rfl, by decide, (fun w h9 => List.mem_cons_of_mem _ (wC_wsX120 w h9)), (List.mem_cons_of_mem _ wT_13_3), tyX12_ok, nmX12, rfl, rfl⟩
set_option maxHeartbeats 4000000 in
set_option maxRecDepth 100000 in
theorem T12_keep_96 (S : CallFix p m c cX12_keep 2 s args vX12_keep RX12) (hr : meth.sig.returnType = (some .int)) (hlo : meth.locks = false) {out : Int32 × PH} : ∀ (n : Nat) {h : PH} {a0 : Nat} {x1 : Int32} (f : F12_keep_96  n h a0 x1 = some out) {H : Heap} {locs : List Loc} (I : ph_I D cy b A fl h s H locs) {ls : Array Slot} (hl : lv_has ls 2 [(0, .ref (b + a0)), (1, .int x1)]), W p l e ({ frames := 0, cells := 0, slots := 0, locals := 0 } : Room) s m args below meth c H locs 0 0 (MQ below (va_Qi (fun (r : Int32) (u : PH) => (r, u) = out) (ph_B D cy b A fl) A) args s 0 0 A) (F0 m 96 ls []) := by
  intro n
  induction n with
  | zero => intro h a0 x1 f; rw [F12_keep_96] at f; cases f
  | succ n ih =>
    intro h a0 x1 f H locs I ls hl
    rw [F12_keep_96] at f
    refine lv_iload_n S.1 S.2.1 dX12_keep_96 rfl (lv_at hl 1 rfl) ?_
    refine lv_bipush (v := 28) S.1 S.2.1 dX12_keep_97 (by decide) ?_
    refine lv_icmp_ge (tgt := 123) S.1 S.2.1 dX12_keep_99 (by decide) (fun q1 => ?_) (fun q1 => ?_)
    · have f := (if_pos q1).symm.trans f
      refine lv_aload_n S.1 S.2.1 dX12_keep_123 rfl (lv_at hl 0 rfl) ?_
      refine lv_aload_n S.1 S.2.1 dX12_keep_124 rfl (lv_at hl 0 rfl) ?_
      obtain ⟨r2, e3, f⟩ := ob f
      refine o_gR S lf12_keep_106 I e3 dX12_keep_125 ?_
      refine lv_iconst (v := 0) S.1 S.2.1 dX12_keep_128 (by decide) ?_
      obtain ⟨v5, e4, f⟩ := ob f
      refine o_iald S I e4 dX12_keep_129 ?_
      obtain ⟨h6, e7, f⟩ := ob f
      refine o_pI S lp12_keep_533 I e7 dX12_keep_130 (fun H locs I => ?_)
      refine lv_aload_n S.1 S.2.1 dX12_keep_133 rfl (lv_at hl 0 rfl) ?_
      refine lv_aload_n S.1 S.2.1 dX12_keep_134 rfl (lv_at hl 0 rfl) ?_
      obtain ⟨v8, e9, f⟩ := ob f
      refine o_gI S lf12_keep_369 I e9 dX12_keep_135 ?_
      obtain ⟨h10, e11, f⟩ := ob f
      refine o_pI S lp12_keep_536 I e11 dX12_keep_138 (fun H locs I => ?_)
      refine lv_aload_n S.1 S.2.1 dX12_keep_141 rfl (lv_at hl 0 rfl) ?_
      refine lv_aload_n S.1 S.2.1 dX12_keep_142 rfl (lv_at hl 0 rfl) ?_
      obtain ⟨r12, e13, f⟩ := ob f
      refine o_gR S lf12_keep_109 I e13 dX12_keep_143 ?_
      refine lv_iconst (v := 0) S.1 S.2.1 dX12_keep_146 (by decide) ?_
      obtain ⟨v15, e14, f⟩ := ob f
      refine o_iald S I e14 dX12_keep_147 ?_
      obtain ⟨h16, e17, f⟩ := ob f
      refine o_pI S lp12_keep_539 I e17 dX12_keep_148 (fun H locs I => ?_)
      refine lv_aload_n S.1 S.2.1 dX12_keep_151 rfl (lv_at hl 0 rfl) ?_
      refine lv_aload_n S.1 S.2.1 dX12_keep_152 rfl (lv_at hl 0 rfl) ?_
      obtain ⟨r18, e19, f⟩ := ob f
      refine o_gR S lf12_keep_112 I e19 dX12_keep_153 ?_
      refine lv_iconst (v := 0) S.1 S.2.1 dX12_keep_156 (by decide) ?_
      obtain ⟨v21, e20, f⟩ := ob f
      refine o_iald S I e20 dX12_keep_157 ?_
      obtain ⟨h22, e23, f⟩ := ob f
      refine o_pI S lp12_keep_542 I e23 dX12_keep_158 (fun H locs I => ?_)
      refine lv_aload_n S.1 S.2.1 dX12_keep_161 rfl (lv_at hl 0 rfl) ?_
      refine lv_aload_n S.1 S.2.1 dX12_keep_162 rfl (lv_at hl 0 rfl) ?_
      obtain ⟨w24, e25, f⟩ := ob f
      refine o_gJ S lf12_keep_372 I e25 dX12_keep_163 ?_
      obtain ⟨h26, e27, f⟩ := ob f
      refine o_pJ S lp12_keep_545 I e27 dX12_keep_166 (fun H locs I => ?_)
      refine lv_aload_n S.1 S.2.1 dX12_keep_169 rfl (lv_at hl 0 rfl) ?_
      obtain ⟨r28, e29, f⟩ := ob f
      refine o_gR S lf12_keep_106 I e29 dX12_keep_170 ?_
      refine lv_iconst (v := 0) S.1 S.2.1 dX12_keep_173 (by decide) ?_
      obtain ⟨v31, e30, f⟩ := ob f
      refine o_iald S I e30 dX12_keep_174 ?_
      exact o_iret S hr hlo I f dX12_keep_175
    · have f := (if_neg q1).symm.trans f
      refine lv_aload_n S.1 S.2.1 dX12_keep_102 rfl (lv_at hl 0 rfl) ?_
      obtain ⟨r32, e33, f⟩ := ob f
      refine o_gR S lf12_keep_145 I e33 dX12_keep_103 ?_
      refine lv_bipush (v := 25) S.1 S.2.1 dX12_keep_106 (by decide) ?_
      refine lv_iload_n S.1 S.2.1 dX12_keep_108 rfl (lv_at hl 1 rfl) ?_
      refine lv_iadd S.1 S.2.1 dX12_keep_109 ?_
      refine lv_aload_n S.1 S.2.1 dX12_keep_110 rfl (lv_at hl 0 rfl) ?_
      obtain ⟨r34, e35, f⟩ := ob f
      refine o_gR S lf12_keep_103 I e35 dX12_keep_111 ?_
      refine lv_iload_n S.1 S.2.1 dX12_keep_114 rfl (lv_at hl 1 rfl) ?_
      obtain ⟨v37, e36, f⟩ := ob f
      refine o_iald S I e36 dX12_keep_115 ?_
      obtain ⟨h39, e38, f⟩ := ob f
      refine o_iast S I e38 dX12_keep_116 (fun H locs I => ?_)
      refine lv_iinc (v := (x1 + 1)) (lv' := [(1, .int (x1 + 1)), (0, .ref (b + a0))]) S.1 S.2.1 dX12_keep_117 hl (k := 1) rfl (congrArg (fun z => x1 + z) (by decide)) (by decide) rfl (fun ls hl => ?_)
      refine lv_goto (tgt := 96) S.1 S.2.1 dX12_keep_120 (by decide) ?_
      exact ih f I (lv_sub hl [1, 0] rfl)
set_option maxHeartbeats 4000000 in
set_option maxRecDepth 100000 in
theorem T12_keep_12 (S : CallFix p m c cX12_keep 2 s args vX12_keep RX12) (hr : meth.sig.returnType = (some .int)) (hlo : meth.locks = false) {out : Int32 × PH} : ∀ (n : Nat) {h : PH} {a0 : Nat} {x1 : Int32} (f : F12_keep_12  n h a0 x1 = some out) {H : Heap} {locs : List Loc} (I : ph_I D cy b A fl h s H locs) {ls : Array Slot} (hl : lv_has ls 2 [(0, .ref (b + a0)), (1, .int x1)]), W p l e ({ frames := 0, cells := 0, slots := 0, locals := 0 } : Room) s m args below meth c H locs 0 0 (MQ below (va_Qi (fun (r : Int32) (u : PH) => (r, u) = out) (ph_B D cy b A fl) A) args s 0 0 A) (F0 m 12 ls []) := by
  intro n
  induction n with
  | zero => intro h a0 x1 f; rw [F12_keep_12] at f; cases f
  | succ n ih =>
    intro h a0 x1 f H locs I ls hl
    rw [F12_keep_12] at f
    refine lv_iload_n S.1 S.2.1 dX12_keep_12 rfl (lv_at hl 1 rfl) ?_
    refine lv_iconst (v := 5) S.1 S.2.1 dX12_keep_13 (by decide) ?_
    refine lv_icmp_ge (tgt := 94) S.1 S.2.1 dX12_keep_14 (by decide) (fun q1 => ?_) (fun q1 => ?_)
    · have f := (if_pos q1).symm.trans f
      refine lv_iconst (v := 0) S.1 S.2.1 dX12_keep_94 (by decide) ?_
      refine lv_istore_n (lv' := [(1, .int 0), (0, .ref (b + a0))]) S.1 S.2.1 dX12_keep_95 rfl hl (by decide) rfl (fun ls hl => ?_)
      exact T12_keep_96 S hr hlo  1024 f I (lv_sub hl [1, 0] rfl)
    · have f := (if_neg q1).symm.trans f
      refine lv_aload_n S.1 S.2.1 dX12_keep_17 rfl (lv_at hl 0 rfl) ?_
      obtain ⟨r2, e3, f⟩ := ob f
      refine o_gR S lf12_keep_145 I e3 dX12_keep_18 ?_
      refine lv_iload_n S.1 S.2.1 dX12_keep_21 rfl (lv_at hl 1 rfl) ?_
      refine lv_aload_n S.1 S.2.1 dX12_keep_22 rfl (lv_at hl 0 rfl) ?_
      obtain ⟨r4, e5, f⟩ := ob f
      refine o_gR S lf12_keep_88 I e5 dX12_keep_23 ?_
      refine lv_iload_n S.1 S.2.1 dX12_keep_26 rfl (lv_at hl 1 rfl) ?_
      obtain ⟨v7, e6, f⟩ := ob f
      refine o_iald S I e6 dX12_keep_27 ?_
      obtain ⟨h9, e8, f⟩ := ob f
      refine o_iast S I e8 dX12_keep_28 (fun H locs I => ?_)
      refine lv_aload_n S.1 S.2.1 dX12_keep_29 rfl (lv_at hl 0 rfl) ?_
      obtain ⟨r10, e11, f⟩ := ob f
      refine o_gR S lf12_keep_145 I e11 dX12_keep_30 ?_
      refine lv_iconst (v := 5) S.1 S.2.1 dX12_keep_33 (by decide) ?_
      refine lv_iload_n S.1 S.2.1 dX12_keep_34 rfl (lv_at hl 1 rfl) ?_
      refine lv_iadd S.1 S.2.1 dX12_keep_35 ?_
      refine lv_aload_n S.1 S.2.1 dX12_keep_36 rfl (lv_at hl 0 rfl) ?_
      obtain ⟨r12, e13, f⟩ := ob f
      refine o_gR S lf12_keep_91 I e13 dX12_keep_37 ?_
      refine lv_iload_n S.1 S.2.1 dX12_keep_40 rfl (lv_at hl 1 rfl) ?_
      obtain ⟨v15, e14, f⟩ := ob f
      refine o_iald S I e14 dX12_keep_41 ?_
      obtain ⟨h17, e16, f⟩ := ob f
      refine o_iast S I e16 dX12_keep_42 (fun H locs I => ?_)
      refine lv_aload_n S.1 S.2.1 dX12_keep_43 rfl (lv_at hl 0 rfl) ?_
      obtain ⟨r18, e19, f⟩ := ob f
      refine o_gR S lf12_keep_145 I e19 dX12_keep_44 ?_
      refine lv_bipush (v := 10) S.1 S.2.1 dX12_keep_47 (by decide) ?_
      refine lv_iload_n S.1 S.2.1 dX12_keep_49 rfl (lv_at hl 1 rfl) ?_
      refine lv_iadd S.1 S.2.1 dX12_keep_50 ?_
      refine lv_aload_n S.1 S.2.1 dX12_keep_51 rfl (lv_at hl 0 rfl) ?_
      obtain ⟨r20, e21, f⟩ := ob f
      refine o_gR S lf12_keep_94 I e21 dX12_keep_52 ?_
      refine lv_iload_n S.1 S.2.1 dX12_keep_55 rfl (lv_at hl 1 rfl) ?_
      obtain ⟨v23, e22, f⟩ := ob f
      refine o_iald S I e22 dX12_keep_56 ?_
      obtain ⟨h25, e24, f⟩ := ob f
      refine o_iast S I e24 dX12_keep_57 (fun H locs I => ?_)
      refine lv_aload_n S.1 S.2.1 dX12_keep_58 rfl (lv_at hl 0 rfl) ?_
      obtain ⟨r26, e27, f⟩ := ob f
      refine o_gR S lf12_keep_145 I e27 dX12_keep_59 ?_
      refine lv_bipush (v := 15) S.1 S.2.1 dX12_keep_62 (by decide) ?_
      refine lv_iload_n S.1 S.2.1 dX12_keep_64 rfl (lv_at hl 1 rfl) ?_
      refine lv_iadd S.1 S.2.1 dX12_keep_65 ?_
      refine lv_aload_n S.1 S.2.1 dX12_keep_66 rfl (lv_at hl 0 rfl) ?_
      obtain ⟨r28, e29, f⟩ := ob f
      refine o_gR S lf12_keep_97 I e29 dX12_keep_67 ?_
      refine lv_iload_n S.1 S.2.1 dX12_keep_70 rfl (lv_at hl 1 rfl) ?_
      obtain ⟨v31, e30, f⟩ := ob f
      refine o_iald S I e30 dX12_keep_71 ?_
      obtain ⟨h33, e32, f⟩ := ob f
      refine o_iast S I e32 dX12_keep_72 (fun H locs I => ?_)
      refine lv_aload_n S.1 S.2.1 dX12_keep_73 rfl (lv_at hl 0 rfl) ?_
      obtain ⟨r34, e35, f⟩ := ob f
      refine o_gR S lf12_keep_145 I e35 dX12_keep_74 ?_
      refine lv_bipush (v := 20) S.1 S.2.1 dX12_keep_77 (by decide) ?_
      refine lv_iload_n S.1 S.2.1 dX12_keep_79 rfl (lv_at hl 1 rfl) ?_
      refine lv_iadd S.1 S.2.1 dX12_keep_80 ?_
      refine lv_aload_n S.1 S.2.1 dX12_keep_81 rfl (lv_at hl 0 rfl) ?_
      obtain ⟨r36, e37, f⟩ := ob f
      refine o_gR S lf12_keep_100 I e37 dX12_keep_82 ?_
      refine lv_iload_n S.1 S.2.1 dX12_keep_85 rfl (lv_at hl 1 rfl) ?_
      obtain ⟨v39, e38, f⟩ := ob f
      refine o_iald S I e38 dX12_keep_86 ?_
      obtain ⟨h41, e40, f⟩ := ob f
      refine o_iast S I e40 dX12_keep_87 (fun H locs I => ?_)
      refine lv_iinc (v := (x1 + 1)) (lv' := [(1, .int (x1 + 1)), (0, .ref (b + a0))]) S.1 S.2.1 dX12_keep_88 hl (k := 1) rfl (congrArg (fun z => x1 + z) (by decide)) (by decide) rfl (fun ls hl => ?_)
      refine lv_goto (tgt := 12) S.1 S.2.1 dX12_keep_91 (by decide) ?_
      exact ih f I (lv_sub hl [1, 0] rfl)
set_option maxHeartbeats 4000000 in
set_option maxRecDepth 100000 in
theorem T12_keep_0 (S : CallFix p m c cX12_keep 2 s args vX12_keep RX12) (hr : meth.sig.returnType = (some .int)) (hlo : meth.locks = false) {out : Int32 × PH} {h : PH} {a0 : Nat} (f : F12_keep_0  h a0 = some out) {H : Heap} {locs : List Loc} (I : ph_I D cy b A fl h s H locs) {ls : Array Slot} (hl : lv_has ls 2 [(0, .ref (b + a0))]) : W p l e ({ frames := 0, cells := 0, slots := 0, locals := 0 } : Room) s m args below meth c H locs 0 0 (MQ below (va_Qi (fun (r : Int32) (u : PH) => (r, u) = out) (ph_B D cy b A fl) A) args s 0 0 A) (F0 m 0 ls []) := by
  unfold F12_keep_0 at f
  refine lv_aload_n S.1 S.2.1 dX12_keep_0 rfl (lv_at hl 0 rfl) ?_
  refine lv_iconst (v := 0) S.1 S.2.1 dX12_keep_1 (by decide) ?_
  obtain ⟨h1, e2, f⟩ := ob f
  refine o_pI S lp12_keep_154 I e2 dX12_keep_2 (fun H locs I => ?_)
  refine lv_aload_n S.1 S.2.1 dX12_keep_5 rfl (lv_at hl 0 rfl) ?_
  refine lv_iconst (v := 1) S.1 S.2.1 dX12_keep_6 (by decide) ?_
  obtain ⟨h3, e4, f⟩ := ob f
  refine o_pZ S lp12_keep_382 I e4 dX12_keep_7 (fun H locs I => ?_)
  refine lv_iconst (v := 0) S.1 S.2.1 dX12_keep_10 (by decide) ?_
  refine lv_istore_n (lv' := [(1, .int 0), (0, .ref (b + a0))]) S.1 S.2.1 dX12_keep_11 rfl hl (by decide) rfl (fun ls hl => ?_)
  exact T12_keep_12 S hr hlo  1024 f I (lv_sub hl [1, 0] rfl)
theorem M12_keep (l : Launch) (D : va_G) (cy : Nat → ClassId) (b : Nat) (A : Nat → Prop) (fl : Bool) {h : PH} {a0 : Nat} {out : Int32 × PH} (f : F12_keep h a0 = some out) : Met l yX12_keep vX12_keep ({ frames := 0, cells := 0, slots := 0, locals := 0 } : Room) (va_Pc [.ref (b + a0)] (ph_B D cy b A fl h)) (va_Qi (fun (r : Int32) (u : PH) => (r, u) = out) (ph_B D cy b A fl) A) 0 0 A :=
  o_met (by decide) rfl (Nat.le_of_ble_eq_true rfl) rfl (fun p e s m below meth c S hr hlo hnm ls hl I => T12_keep_0 S hr hlo ((gd f).2) I (lv_sub hl [0] rfl))
def vX12_known : List Cond := .code yX12_known cX12_known 2 (some .boolean) :: TB
theorem lp12_known_154 : Pl vX12_known RX12 154 12 2 .int := ⟨RX12, TX12, 87, tyX12, rfl, by decide, (fun w h9 => List.mem_cons_of_mem _ (wC_wsX120 w h9)), (List.mem_cons_of_mem _ wT_13_17), tyX12_ok, nmX12, rfl, rfl⟩
theorem lf12_known_376 : Fl vX12_known RX12 376 12 74 := ⟨RX12, TX12, 87, rfl, by decide, (fun w h9 => List.mem_cons_of_mem _ (wC_wsX120 w h9)), (List.mem_cons_of_mem _ wT_13_1)⟩
theorem gX12_known_X12_isIn : GoodIn vX12_known (va_wsS RX12 199 yX12_isIn vX12_isIn) := gS_of wT_28_17 wT_28_18 wT_1_5 wT_28_19
theorem lp12_known_133 : Pl vX12_known RX12 133 12 75 .int := ⟨RX12, TX12, 87, tyX12, rfl, by decide, (fun w h9 => List.mem_cons_of_mem _ (wC_wsX120 w h9)), (List.mem_cons_of_mem _ wT_11_13), tyX12_ok, nmX12, rfl, rfl⟩
set_option maxHeartbeats 4000000 in
set_option maxRecDepth 100000 in
theorem T12_known_0 (S : CallFix p m c cX12_known 2 s args vX12_known RX12) (hr : meth.sig.returnType = (some .boolean)) (hlo : meth.locks = false) {out : Int32 × PH} {h : PH} {a0 : Nat} {x1 : Int32} (f : F12_known_0  h a0 x1 = some out) {H : Heap} {locs : List Loc} (I : ph_I D cy b A fl h s H locs) {ls : Array Slot} (hl : lv_has ls 2 [(0, .ref (b + a0)), (1, .int x1)]) : W p l e ({ frames := 1, cells := 0, slots := 0, locals := 22 } : Room) s m args below meth c H locs 0 0 (MQ below (va_Qi (fun (r : Int32) (u : PH) => (r, u) = out) (ph_B D cy b A fl) A) args s 0 0 A) (F0 m 0 ls []) := by
  unfold F12_known_0 at f
  refine lv_aload_n S.1 S.2.1 dX12_known_0 rfl (lv_at hl 0 rfl) ?_
  refine lv_iconst (v := 0) S.1 S.2.1 dX12_known_1 (by decide) ?_
  obtain ⟨h1, e2, f⟩ := ob f
  refine o_pI S lp12_known_154 I e2 dX12_known_2 (fun H locs I => ?_)
  refine lv_iload_n S.1 S.2.1 dX12_known_5 rfl (lv_at hl 1 rfl) ?_
  refine lv_iconst (v := (-1)) S.1 S.2.1 dX12_known_6 (by decide) ?_
  refine lv_aload_n S.1 S.2.1 dX12_known_7 rfl (lv_at hl 0 rfl) ?_
  obtain ⟨v3, e4, f⟩ := ob f
  refine o_gI S lf12_known_376 I e4 dX12_known_8 ?_
  obtain ⟨o5, e6, f⟩ := ob f
  refine o_Si S (As := [.int x1, .int (-1), .int v3]) (rest := []) (M12_isIn l D cy b A fl e6) gX12_known_X12_isIn rfl rfl rfl cd12_isIn ⟨Nat.le_of_ble_eq_true rfl, Nat.le_of_ble_eq_true rfl⟩ I rfl hl.1 rfl (Nat.le_of_ble_eq_true rfl) dX12_known_11 ⟨Nat.le_of_ble_eq_true rfl, Nat.le_of_ble_eq_true rfl⟩ (fun H locs I => ?_)
  refine lv_if_ne (tgt := 19) S.1 S.2.1 dX12_known_14 (by decide) (fun q7 => ?_) (fun q7 => ?_)
  · have f := (if_neg q7).symm.trans f
    refine lv_aload_n S.1 S.2.1 dX12_known_19 rfl (lv_at hl 0 rfl) ?_
    refine lv_iload_n S.1 S.2.1 dX12_known_20 rfl (lv_at hl 1 rfl) ?_
    obtain ⟨h8, e9, f⟩ := ob f
    refine o_pI S lp12_known_133 I e9 dX12_known_21 (fun H locs I => ?_)
    refine lv_iconst (v := 1) S.1 S.2.1 dX12_known_24 (by decide) ?_
    exact o_zret S hr hlo I f dX12_known_25
  · have f := (if_pos q7).symm.trans f
    refine lv_iconst (v := 0) S.1 S.2.1 dX12_known_17 (by decide) ?_
    exact o_zret S hr hlo I f dX12_known_18
theorem M12_known (l : Launch) (D : va_G) (cy : Nat → ClassId) (b : Nat) (A : Nat → Prop) (fl : Bool) {h : PH} {a0 : Nat} {x1 : Int32} {out : Int32 × PH} (f : F12_known h a0 x1 = some out) : Met l yX12_known vX12_known ({ frames := 1, cells := 0, slots := 0, locals := 22 } : Room) (va_Pc [.ref (b + a0), .int x1] (ph_B D cy b A fl h)) (va_Qi (fun (r : Int32) (u : PH) => (r, u) = out) (ph_B D cy b A fl) A) 0 0 A :=
  o_met (by decide) rfl (Nat.le_of_ble_eq_true rfl) rfl (fun p e s m below meth c S hr hlo hnm ls hl I => T12_known_0 S hr hlo ((gd f).2) I (lv_sub hl [0, 1] rfl))
def vX12_law : List Cond := .code yX12_law cX12_law 7 (some .long) :: TB
theorem gX12_law_X12_lawOf : GoodIn vX12_law (wsV RX12 389 RX12 yX12_lawOf vX12_lawOf) := gV_of wT_35_11 wT_35_12 wT_35_13 wT_1_5 wT_35_14
theorem lf12_law_347 : Fl vX12_law RX12 347 12 54 := ⟨RX12, TX12, 87, rfl, by decide, (fun w h9 => List.mem_cons_of_mem _ (wC_wsX120 w h9)), (List.mem_cons_of_mem _ wT_35_10)⟩
theorem lf12_law_57 : Fl vX12_law RX12 57 12 37 := ⟨RX12, TX12, 87, rfl, by decide, (fun w h9 => List.mem_cons_of_mem _ (wC_wsX120 w h9)), (List.mem_cons_of_mem _ wT_10_12)⟩
theorem lf12_law_106 : Fl vX12_law RX12 106 12 61 := ⟨RX12, TX12, 87, rfl, by decide, (fun w h9 => List.mem_cons_of_mem _ (wC_wsX120 w h9)), (List.mem_cons_of_mem _ wT_11_4)⟩
theorem gX12_law_X12_layNames : GoodIn vX12_law (wsV RX12 392 RX12 yX12_layNames vX12_layNames) := gV_of wT_35_2 wT_35_3 wT_35_4 wT_1_5 wT_35_5
theorem lf12_law_33 : Fl vX12_law RX12 33 12 29 := ⟨RX12, TX12, 87, rfl, by decide, (fun w h9 => List.mem_cons_of_mem _ (wC_wsX120 w h9)), (List.mem_cons_of_mem _ wT_10_4)⟩
theorem lf12_law_48 : Fl vX12_law RX12 48 12 34 := ⟨RX12, TX12, 87, rfl, by decide, (fun w h9 => List.mem_cons_of_mem _ (wC_wsX120 w h9)), (List.mem_cons_of_mem _ wT_10_9)⟩
theorem lf12_law_88 : Fl vX12_law RX12 88 12 55 := ⟨RX12, TX12, 87, rfl, by decide, (fun w h9 => List.mem_cons_of_mem _ (wC_wsX120 w h9)), (List.mem_cons_of_mem _ wT_10_22)⟩
theorem gX12_law_X12_layCatch : GoodIn vX12_law (wsV RX12 409 RX12 yX12_layCatch vX12_layCatch) := gV_of wT_40_5 wT_40_6 wT_40_7 wT_1_5 wT_40_8
theorem lp12_law_154 : Pl vX12_law RX12 154 12 2 .int := ⟨RX12, TX12, 87, tyX12, rfl, by decide, (fun w h9 => List.mem_cons_of_mem _ (wC_wsX120 w h9)), (List.mem_cons_of_mem _ wT_13_17), tyX12_ok, nmX12, rfl, rfl⟩
theorem gX12_law_X12_isIn : GoodIn vX12_law (va_wsS RX12 199 yX12_isIn vX12_isIn) := gS_of wT_28_17 wT_28_18 wT_1_5 wT_28_19
theorem gX12_law_X12_isSurfer : GoodIn vX12_law (wsV RX12 413 RX12 yX12_isSurfer vX12_isSurfer) := gV_of wT_34_14 wT_34_15 wT_34_16 wT_1_5 wT_34_17
theorem gX12_law_X12_isWave : GoodIn vX12_law (wsV RX12 419 RX12 yX12_isWave vX12_isWave) := gV_of wT_37_7 wT_37_8 wT_37_9 wT_1_5 wT_37_10
set_option maxHeartbeats 4000000 in
set_option maxRecDepth 100000 in
theorem T12_law_134 (S : CallFix p m c cX12_law 7 s args vX12_law RX12) (hr : meth.sig.returnType = (some .long)) (hlo : meth.locks = false) {out : Int64 × PH} {h : PH} {a0 : Nat} {x4 : Int32} (f : F12_law_134  h a0 x4 = some out) {H : Heap} {locs : List Loc} (I : ph_I D cy b A fl h s H locs) {ls : Array Slot} (hl : lv_has ls 7 [(0, .ref (b + a0)), (4, .int x4)]) : W p l e ({ frames := 6, cells := 0, slots := 0, locals := 145 } : Room) s m args below meth c H locs 0 0 (MQ below (va_Ql (fun (r : Int64) (u : PH) => (r, u) = out) (ph_B D cy b A fl) A) args s 0 0 A) (F0 m 134 ls []) := by
  unfold F12_law_134 at f
  refine lv_aload_n S.1 S.2.1 dX12_law_134 rfl (lv_at hl 0 rfl) ?_
  refine lv_iload S.1 S.2.1 dX12_law_135 (lv_at hl 1 rfl) ?_
  obtain ⟨o1, e2, f⟩ := ob f
  refine o_Vl S (As := [.int x4]) (rest := []) (ci := 12) (M12_lawOf l D cy b A fl e2) gX12_law_X12_lawOf rfl rfl rfl cd12_lawOf ⟨Nat.le_of_ble_eq_true rfl, Nat.le_of_ble_eq_true rfl⟩ I (gd e2).1 clX12 rfl rfl hl.1 rfl (Nat.le_of_ble_eq_true rfl) dX12_law_137 ⟨Nat.le_of_ble_eq_true rfl, Nat.le_of_ble_eq_true rfl⟩ (fun H locs I => ?_)
  refine lv_lstore (lv' := [(5, .long o1.1), (0, .ref (b + a0)), (4, .int x4)]) S.1 S.2.1 dX12_law_140 hl (by decide) rfl (fun ls hl => ?_)
  refine lv_aload_n S.1 S.2.1 dX12_law_142 rfl (lv_at hl 1 rfl) ?_
  obtain ⟨v3, e4, f⟩ := ob f
  refine o_gI S lf12_law_347 I e4 dX12_law_143 ?_
  refine lv_if_eq (tgt := 155) S.1 S.2.1 dX12_law_146 (by decide) (fun q5 => ?_) (fun q5 => ?_)
  · have f := (if_pos q5).symm.trans f
    refine lv_lload S.1 S.2.1 dX12_law_155 (lv_at hl 0 rfl) ?_
    exact o_lret S hr hlo I f dX12_law_157
  · have f := (if_neg q5).symm.trans f
    refine lv_ldc2 (v := (-9223372036854775808)) S.1 S.2.1 S.2.2.2.1 (S.2.2.2.2 _ (List.mem_cons_of_mem _ wT_41_7)) dX12_law_149 ?_
    refine lv_goto (tgt := 157) S.1 S.2.1 dX12_law_152 (by decide) ?_
    exact o_lret S hr hlo I f dX12_law_157
set_option maxHeartbeats 4000000 in
set_option maxRecDepth 100000 in
theorem T12_law_57 (S : CallFix p m c cX12_law 7 s args vX12_law RX12) (hr : meth.sig.returnType = (some .long)) (hlo : meth.locks = false) {out : Int64 × PH} {h : PH} {a0 : Nat} {x1 : Int32} {x2 : Int32} {x3 : Int32} {s0 : Int32} (f : F12_law_57  h a0 x1 x2 x3 s0 = some out) {H : Heap} {locs : List Loc} (I : ph_I D cy b A fl h s H locs) {ls : Array Slot} (hl : lv_has ls 7 [(0, .ref (b + a0)), (1, .int x1), (2, .int x2), (3, .int x3)]) : W p l e ({ frames := 6, cells := 0, slots := 0, locals := 145 } : Room) s m args below meth c H locs 0 0 (MQ below (va_Ql (fun (r : Int64) (u : PH) => (r, u) = out) (ph_B D cy b A fl) A) args s 0 0 A) (F0 m 57 ls [.int s0]) := by
  unfold F12_law_57 at f
  refine lv_istore (lv' := [(4, .int s0), (0, .ref (b + a0)), (1, .int x1), (2, .int x2), (3, .int x3)]) S.1 S.2.1 dX12_law_57 hl (by decide) rfl (fun ls hl => ?_)
  refine lv_aload_n S.1 S.2.1 dX12_law_59 rfl (lv_at hl 1 rfl) ?_
  obtain ⟨r1, e2, f⟩ := ob f
  refine o_gR S lf12_law_57 I e2 dX12_law_60 ?_
  refine lv_iload S.1 S.2.1 dX12_law_63 (lv_at hl 0 rfl) ?_
  obtain ⟨v4, e3, f⟩ := ob f
  refine o_zald S I e3 dX12_law_65 ?_
  refine lv_if_ne (tgt := 73) S.1 S.2.1 dX12_law_66 (by decide) (fun q5 => ?_) (fun q5 => ?_)
  · have f := (if_neg q5).symm.trans f
    refine lv_iload_n S.1 S.2.1 dX12_law_73 rfl (lv_at hl 2 rfl) ?_
    refine lv_if_ne (tgt := 93) S.1 S.2.1 dX12_law_74 (by decide) (fun q6 => ?_) (fun q6 => ?_)
    · have f := (if_neg q6).symm.trans f
      refine lv_iload_n S.1 S.2.1 dX12_law_93 rfl (lv_at hl 2 rfl) ?_
      refine lv_iconst (v := 1) S.1 S.2.1 dX12_law_94 (by decide) ?_
      refine lv_icmp_ne (tgt := 120) S.1 S.2.1 dX12_law_95 (by decide) (fun q7 => ?_) (fun q7 => ?_)
      · have f := (if_neg q7).symm.trans f
        refine lv_aload_n S.1 S.2.1 dX12_law_120 rfl (lv_at hl 1 rfl) ?_
        refine lv_iconst (v := 0) S.1 S.2.1 dX12_law_121 (by decide) ?_
        refine lv_iconst (v := 0) S.1 S.2.1 dX12_law_122 (by decide) ?_
        refine lv_iconst (v := 0) S.1 S.2.1 dX12_law_123 (by decide) ?_
        refine lv_iconst (v := (-1)) S.1 S.2.1 dX12_law_124 (by decide) ?_
        refine lv_aload_n S.1 S.2.1 dX12_law_125 rfl (lv_at hl 1 rfl) ?_
        obtain ⟨r8, e9, f⟩ := ob f
        refine o_gR S lf12_law_106 I e9 dX12_law_126 ?_
        refine lv_iconst (v := 0) S.1 S.2.1 dX12_law_129 (by decide) ?_
        obtain ⟨v11, e10, f⟩ := ob f
        refine o_iald S I e10 dX12_law_130 ?_
        obtain ⟨o12, e13, f⟩ := ob f
        refine o_Vv S (As := [.int 0, .int 0, .int 0, .int (-1), .int v11]) (rest := []) (ci := 12) (M12_layNames l D cy b A fl e13) gX12_law_X12_layNames rfl rfl rfl cd12_layNames ⟨Nat.le_of_ble_eq_true rfl, Nat.le_of_ble_eq_true rfl⟩ I (gd e13).1 clX12 rfl rfl hl.1 rfl (Nat.le_of_ble_eq_true rfl) dX12_law_131 ⟨Nat.le_of_ble_eq_true rfl, Nat.le_of_ble_eq_true rfl⟩ (fun H locs I => ?_)
        exact T12_law_134 S hr hlo  f I (lv_sub hl [1, 0] rfl)
      · have f := (if_pos q7).symm.trans f
        refine lv_aload_n S.1 S.2.1 dX12_law_98 rfl (lv_at hl 1 rfl) ?_
        refine lv_iconst (v := 0) S.1 S.2.1 dX12_law_99 (by decide) ?_
        refine lv_iconst (v := 0) S.1 S.2.1 dX12_law_100 (by decide) ?_
        refine lv_aload_n S.1 S.2.1 dX12_law_101 rfl (lv_at hl 1 rfl) ?_
        obtain ⟨r14, e15, f⟩ := ob f
        refine o_gR S lf12_law_33 I e15 dX12_law_102 ?_
        refine lv_iload_n S.1 S.2.1 dX12_law_105 rfl (lv_at hl 3 rfl) ?_
        obtain ⟨v17, e16, f⟩ := ob f
        refine o_iald S I e16 dX12_law_106 ?_
        refine lv_iload_n S.1 S.2.1 dX12_law_107 rfl (lv_at hl 4 rfl) ?_
        refine lv_aload_n S.1 S.2.1 dX12_law_108 rfl (lv_at hl 1 rfl) ?_
        obtain ⟨r18, e19, f⟩ := ob f
        refine o_gR S lf12_law_48 I e19 dX12_law_109 ?_
        refine lv_iload_n S.1 S.2.1 dX12_law_112 rfl (lv_at hl 4 rfl) ?_
        obtain ⟨v21, e20, f⟩ := ob f
        refine o_iald S I e20 dX12_law_113 ?_
        obtain ⟨o22, e23, f⟩ := ob f
        refine o_Vv S (As := [.int 0, .int 0, .int v17, .int x3, .int v21]) (rest := []) (ci := 12) (M12_layNames l D cy b A fl e23) gX12_law_X12_layNames rfl rfl rfl cd12_layNames ⟨Nat.le_of_ble_eq_true rfl, Nat.le_of_ble_eq_true rfl⟩ I (gd e23).1 clX12 rfl rfl hl.1 rfl (Nat.le_of_ble_eq_true rfl) dX12_law_114 ⟨Nat.le_of_ble_eq_true rfl, Nat.le_of_ble_eq_true rfl⟩ (fun H locs I => ?_)
        refine lv_goto (tgt := 134) S.1 S.2.1 dX12_law_117 (by decide) ?_
        exact T12_law_134 S hr hlo  f I (lv_sub hl [1, 0] rfl)
    · have f := (if_pos q6).symm.trans f
      refine lv_aload_n S.1 S.2.1 dX12_law_77 rfl (lv_at hl 1 rfl) ?_
      refine lv_iload_n S.1 S.2.1 dX12_law_78 rfl (lv_at hl 3 rfl) ?_
      refine lv_iload_n S.1 S.2.1 dX12_law_79 rfl (lv_at hl 4 rfl) ?_
      refine lv_aload_n S.1 S.2.1 dX12_law_80 rfl (lv_at hl 1 rfl) ?_
      obtain ⟨r24, e25, f⟩ := ob f
      refine o_gR S lf12_law_88 I e25 dX12_law_81 ?_
      refine lv_iload_n S.1 S.2.1 dX12_law_84 rfl (lv_at hl 3 rfl) ?_
      obtain ⟨v27, e26, f⟩ := ob f
      refine o_iald S I e26 dX12_law_85 ?_
      obtain ⟨o28, e29, f⟩ := ob f
      refine o_Vi S (As := [.int x2, .int x3, .int v27]) (rest := []) (ci := 12) (M12_layCatch l D cy b A fl e29) gX12_law_X12_layCatch rfl rfl rfl cd12_layCatch ⟨Nat.le_of_ble_eq_true rfl, Nat.le_of_ble_eq_true rfl⟩ I (gd e29).1 clX12 rfl rfl hl.1 rfl (Nat.le_of_ble_eq_true rfl) dX12_law_86 ⟨Nat.le_of_ble_eq_true rfl, Nat.le_of_ble_eq_true rfl⟩ (fun H locs I => ?_)
      refine lv_pop S.1 S.2.1 dX12_law_89 rfl ?_
      refine lv_goto (tgt := 134) S.1 S.2.1 dX12_law_90 (by decide) ?_
      exact T12_law_134 S hr hlo  f I (lv_sub hl [1, 0] rfl)
  · have f := (if_pos q5).symm.trans f
    refine lv_ldc2 (v := (-9223372036854775808)) S.1 S.2.1 S.2.2.2.1 (S.2.2.2.2 _ (List.mem_cons_of_mem _ wT_41_7)) dX12_law_69 ?_
    exact o_lret S hr hlo I f dX12_law_72
set_option maxHeartbeats 4000000 in
set_option maxRecDepth 100000 in
theorem T12_law_39 (S : CallFix p m c cX12_law 7 s args vX12_law RX12) (hr : meth.sig.returnType = (some .long)) (hlo : meth.locks = false) {out : Int64 × PH} {h : PH} {a0 : Nat} {x1 : Int32} {x2 : Int32} {x3 : Int32} (f : F12_law_39  h a0 x1 x2 x3 = some out) {H : Heap} {locs : List Loc} (I : ph_I D cy b A fl h s H locs) {ls : Array Slot} (hl : lv_has ls 7 [(0, .ref (b + a0)), (1, .int x1), (2, .int x2), (3, .int x3)]) : W p l e ({ frames := 6, cells := 0, slots := 0, locals := 145 } : Room) s m args below meth c H locs 0 0 (MQ below (va_Ql (fun (r : Int64) (u : PH) => (r, u) = out) (ph_B D cy b A fl) A) args s 0 0 A) (F0 m 39 ls []) := by
  unfold F12_law_39 at f
  refine lv_iload_n S.1 S.2.1 dX12_law_39 rfl (lv_at hl 1 rfl) ?_
  refine lv_if_ne (tgt := 47) S.1 S.2.1 dX12_law_40 (by decide) (fun q1 => ?_) (fun q1 => ?_)
  · have f := (if_neg q1).symm.trans f
    refine lv_iload_n S.1 S.2.1 dX12_law_47 rfl (lv_at hl 1 rfl) ?_
    refine lv_iconst (v := 1) S.1 S.2.1 dX12_law_48 (by decide) ?_
    refine lv_icmp_ne (tgt := 56) S.1 S.2.1 dX12_law_49 (by decide) (fun q2 => ?_) (fun q2 => ?_)
    · have f := (if_neg q2).symm.trans f
      refine lv_iconst (v := 1) S.1 S.2.1 dX12_law_56 (by decide) ?_
      exact T12_law_57 S hr hlo  f I (lv_sub hl [0, 1, 2, 3] rfl)
    · have f := (if_pos q2).symm.trans f
      refine lv_iconst (v := 2) S.1 S.2.1 dX12_law_52 (by decide) ?_
      refine lv_goto (tgt := 57) S.1 S.2.1 dX12_law_53 (by decide) ?_
      exact T12_law_57 S hr hlo  f I (lv_sub hl [0, 1, 2, 3] rfl)
  · have f := (if_pos q1).symm.trans f
    refine lv_iconst (v := 0) S.1 S.2.1 dX12_law_43 (by decide) ?_
    refine lv_goto (tgt := 57) S.1 S.2.1 dX12_law_44 (by decide) ?_
    exact T12_law_57 S hr hlo  f I (lv_sub hl [0, 1, 2, 3] rfl)
set_option maxHeartbeats 4000000 in
set_option maxRecDepth 100000 in
theorem T12_law_0 (S : CallFix p m c cX12_law 7 s args vX12_law RX12) (hr : meth.sig.returnType = (some .long)) (hlo : meth.locks = false) {out : Int64 × PH} {h : PH} {a0 : Nat} {x1 : Int32} {x2 : Int32} {x3 : Int32} (f : F12_law_0  h a0 x1 x2 x3 = some out) {H : Heap} {locs : List Loc} (I : ph_I D cy b A fl h s H locs) {ls : Array Slot} (hl : lv_has ls 7 [(0, .ref (b + a0)), (1, .int x1), (2, .int x2), (3, .int x3)]) : W p l e ({ frames := 6, cells := 0, slots := 0, locals := 145 } : Room) s m args below meth c H locs 0 0 (MQ below (va_Ql (fun (r : Int64) (u : PH) => (r, u) = out) (ph_B D cy b A fl) A) args s 0 0 A) (F0 m 0 ls []) := by
  unfold F12_law_0 at f
  refine lv_aload_n S.1 S.2.1 dX12_law_0 rfl (lv_at hl 0 rfl) ?_
  refine lv_iconst (v := 0) S.1 S.2.1 dX12_law_1 (by decide) ?_
  obtain ⟨h1, e2, f⟩ := ob f
  refine o_pI S lp12_law_154 I e2 dX12_law_2 (fun H locs I => ?_)
  refine lv_iload_n S.1 S.2.1 dX12_law_5 rfl (lv_at hl 1 rfl) ?_
  refine lv_iconst (v := 0) S.1 S.2.1 dX12_law_6 (by decide) ?_
  refine lv_iconst (v := 2) S.1 S.2.1 dX12_law_7 (by decide) ?_
  obtain ⟨o3, e4, f⟩ := ob f
  refine o_Si S (As := [.int x1, .int 0, .int 2]) (rest := []) (M12_isIn l D cy b A fl e4) gX12_law_X12_isIn rfl rfl rfl cd12_isIn ⟨Nat.le_of_ble_eq_true rfl, Nat.le_of_ble_eq_true rfl⟩ I rfl hl.1 rfl (Nat.le_of_ble_eq_true rfl) dX12_law_8 ⟨Nat.le_of_ble_eq_true rfl, Nat.le_of_ble_eq_true rfl⟩ (fun H locs I => ?_)
  refine lv_if_eq (tgt := 35) S.1 S.2.1 dX12_law_11 (by decide) (fun q5 => ?_) (fun q5 => ?_)
  · have f := (if_pos q5).symm.trans f
    refine lv_ldc2 (v := (-9223372036854775808)) S.1 S.2.1 S.2.2.2.1 (S.2.2.2.2 _ (List.mem_cons_of_mem _ wT_41_7)) dX12_law_35 ?_
    exact o_lret S hr hlo I f dX12_law_38
  · have f := (if_neg q5).symm.trans f
    refine lv_iload_n S.1 S.2.1 dX12_law_14 rfl (lv_at hl 1 rfl) ?_
    refine lv_iconst (v := 2) S.1 S.2.1 dX12_law_15 (by decide) ?_
    refine lv_icmp_ge (tgt := 39) S.1 S.2.1 dX12_law_16 (by decide) (fun q6 => ?_) (fun q6 => ?_)
    · have f := (if_pos q6).symm.trans f
      exact T12_law_39 S hr hlo  f I (lv_sub hl [0, 1, 2, 3] rfl)
    · have f := (if_neg q6).symm.trans f
      refine lv_aload_n S.1 S.2.1 dX12_law_19 rfl (lv_at hl 0 rfl) ?_
      refine lv_iload_n S.1 S.2.1 dX12_law_20 rfl (lv_at hl 2 rfl) ?_
      obtain ⟨o7, e8, f⟩ := ob f
      refine o_Vi S (As := [.int x2]) (rest := []) (ci := 12) (M12_isSurfer l D cy b A fl e8) gX12_law_X12_isSurfer rfl rfl rfl cd12_isSurfer ⟨Nat.le_of_ble_eq_true rfl, Nat.le_of_ble_eq_true rfl⟩ I (gd e8).1 clX12 rfl rfl hl.1 rfl (Nat.le_of_ble_eq_true rfl) dX12_law_21 ⟨Nat.le_of_ble_eq_true rfl, Nat.le_of_ble_eq_true rfl⟩ (fun H locs I => ?_)
      refine lv_if_eq (tgt := 35) S.1 S.2.1 dX12_law_24 (by decide) (fun q9 => ?_) (fun q9 => ?_)
      · have f := (if_pos q9).symm.trans f
        refine lv_ldc2 (v := (-9223372036854775808)) S.1 S.2.1 S.2.2.2.1 (S.2.2.2.2 _ (List.mem_cons_of_mem _ wT_41_7)) dX12_law_35 ?_
        exact o_lret S hr hlo I f dX12_law_38
      · have f := (if_neg q9).symm.trans f
        refine lv_aload_n S.1 S.2.1 dX12_law_27 rfl (lv_at hl 0 rfl) ?_
        refine lv_iload_n S.1 S.2.1 dX12_law_28 rfl (lv_at hl 3 rfl) ?_
        obtain ⟨o10, e11, f⟩ := ob f
        refine o_Vi S (As := [.int x3]) (rest := []) (ci := 12) (M12_isWave l D cy b A fl e11) gX12_law_X12_isWave rfl rfl rfl cd12_isWave ⟨Nat.le_of_ble_eq_true rfl, Nat.le_of_ble_eq_true rfl⟩ I (gd e11).1 clX12 rfl rfl hl.1 rfl (Nat.le_of_ble_eq_true rfl) dX12_law_29 ⟨Nat.le_of_ble_eq_true rfl, Nat.le_of_ble_eq_true rfl⟩ (fun H locs I => ?_)
        refine lv_if_ne (tgt := 39) S.1 S.2.1 dX12_law_32 (by decide) (fun q12 => ?_) (fun q12 => ?_)
        · have f := (if_neg q12).symm.trans f
          exact T12_law_39 S hr hlo  f I (lv_sub hl [0, 1, 2, 3] rfl)
        · have f := (if_pos q12).symm.trans f
          refine lv_ldc2 (v := (-9223372036854775808)) S.1 S.2.1 S.2.2.2.1 (S.2.2.2.2 _ (List.mem_cons_of_mem _ wT_41_7)) dX12_law_35 ?_
          exact o_lret S hr hlo I f dX12_law_38
theorem M12_law (l : Launch) (D : va_G) (cy : Nat → ClassId) (b : Nat) (A : Nat → Prop) (fl : Bool) {h : PH} {a0 : Nat} {x1 : Int32} {x2 : Int32} {x3 : Int32} {out : Int64 × PH} (f : F12_law h a0 x1 x2 x3 = some out) : Met l yX12_law vX12_law ({ frames := 6, cells := 0, slots := 0, locals := 145 } : Room) (va_Pc [.ref (b + a0), .int x1, .int x2, .int x3] (ph_B D cy b A fl h)) (va_Ql (fun (r : Int64) (u : PH) => (r, u) = out) (ph_B D cy b A fl) A) 0 0 A :=
  o_met (by decide) rfl (Nat.le_of_ble_eq_true rfl) rfl (fun p e s m below meth c S hr hlo hnm ls hl I => T12_law_0 S hr hlo ((gd f).2) I (lv_sub hl [0, 1, 2, 3] rfl))
def vX12_wayAt : List Cond := .code yX12_wayAt cX12_wayAt 1 (some .int) :: TB
theorem cd12_wayAt : Cd yX12_wayAt 1 := ⟨by decide, by decide, by decide +kernel⟩
set_option maxHeartbeats 4000000 in
set_option maxRecDepth 100000 in
theorem T12_wayAt_0 (S : CallFix p m c cX12_wayAt 1 s args vX12_wayAt RX12) (hr : meth.sig.returnType = (some .int)) (hlo : meth.locks = false) {out : Int32 × PH} {h : PH} {x0 : Int32} (f : F12_wayAt_0  h x0 = some out) {H : Heap} {locs : List Loc} (I : ph_I D cy b A fl h s H locs) {ls : Array Slot} (hl : lv_has ls 1 [(0, .int x0)]) : W p l e ({ frames := 0, cells := 0, slots := 0, locals := 0 } : Room) s m args below meth c H locs 0 0 (MQ below (va_Qi (fun (r : Int32) (u : PH) => (r, u) = out) (ph_B D cy b A fl) A) args s 0 0 A) (F0 m 0 ls []) := by
  unfold F12_wayAt_0 at f
  refine lv_iload_n S.1 S.2.1 dX12_wayAt_0 rfl (lv_at hl 0 rfl) ?_
  refine lv_if_ne (tgt := 8) S.1 S.2.1 dX12_wayAt_1 (by decide) (fun q1 => ?_) (fun q1 => ?_)
  · have f := (if_neg q1).symm.trans f
    refine lv_iload_n S.1 S.2.1 dX12_wayAt_8 rfl (lv_at hl 0 rfl) ?_
    refine lv_iconst (v := 1) S.1 S.2.1 dX12_wayAt_9 (by decide) ?_
    refine lv_isub S.1 S.2.1 dX12_wayAt_10 ?_
    exact o_iret S hr hlo I f dX12_wayAt_11
  · have f := (if_pos q1).symm.trans f
    refine lv_iconst (v := 4) S.1 S.2.1 dX12_wayAt_4 (by decide) ?_
    refine lv_goto (tgt := 11) S.1 S.2.1 dX12_wayAt_5 (by decide) ?_
    exact o_iret S hr hlo I f dX12_wayAt_11
theorem M12_wayAt (l : Launch) (D : va_G) (cy : Nat → ClassId) (b : Nat) (A : Nat → Prop) (fl : Bool) {h : PH} {x0 : Int32} {out : Int32 × PH} (f : F12_wayAt h x0 = some out) : Met l yX12_wayAt vX12_wayAt ({ frames := 0, cells := 0, slots := 0, locals := 0 } : Room) (va_Pc [.int x0] (ph_B D cy b A fl h)) (va_Qi (fun (r : Int32) (u : PH) => (r, u) = out) (ph_B D cy b A fl) A) 0 0 A :=
  o_met (by decide) rfl (Nat.le_of_ble_eq_true rfl) rfl (fun p e s m below meth c S hr hlo hnm ls hl I => T12_wayAt_0 S hr hlo (f) I (lv_sub hl [0] rfl))
def vX12_layGame : List Cond := .code yX12_layGame cX12_layGame 10 none :: TB
theorem lf12_layGame_121 : Fl vX12_layGame RX12 121 12 70 := ⟨RX12, TX12, 87, rfl, by decide, (fun w h9 => List.mem_cons_of_mem _ (wC_wsX120 w h9)), (List.mem_cons_of_mem _ wT_11_9)⟩
theorem gX12_layGame_X12_gainOf : GoodIn vX12_layGame (wsV RX12 479 RX12 yX12_gainOf vX12_gainOf) := gV_of wT_50_5 wT_50_6 wT_50_7 wT_1_5 wT_50_8
theorem lf12_layGame_124 : Fl vX12_layGame RX12 124 12 71 := ⟨RX12, TX12, 87, rfl, by decide, (fun w h9 => List.mem_cons_of_mem _ (wC_wsX120 w h9)), (List.mem_cons_of_mem _ wT_11_10)⟩
theorem lf12_layGame_253 : Fl vX12_layGame RX12 253 12 16 := ⟨RX12, TX12, 87, rfl, by decide, (fun w h9 => List.mem_cons_of_mem _ (wC_wsX120 w h9)), (List.mem_cons_of_mem _ wT_12_14)⟩
theorem gX12_layGame_X12_isToCome : GoodIn vX12_layGame (wsV RX12 476 RX12 yX12_isToCome vX12_isToCome) := gV_of wT_48_17 wT_48_18 wT_48_19 wT_1_5 wT_48_20
theorem lf12_layGame_48 : Fl vX12_layGame RX12 48 12 34 := ⟨RX12, TX12, 87, rfl, by decide, (fun w h9 => List.mem_cons_of_mem _ (wC_wsX120 w h9)), (List.mem_cons_of_mem _ wT_10_9)⟩
theorem gX12_layGame_X12_peakAt : GoodIn vX12_layGame (wsV RX12 400 RX12 yX12_peakAt vX12_peakAt) := gV_of wT_34_22 wT_34_23 wT_35_0 wT_1_5 wT_35_1
theorem gX12_layGame_X12_far : GoodIn vX12_layGame (wsV RX12 403 RX12 yX12_far vX12_far) := gV_of wT_36_8 wT_36_9 wT_36_10 wT_1_5 wT_36_11
theorem gX12_layGame_X12_wayAt : GoodIn vX12_layGame (va_wsS RX12 485 yX12_wayAt vX12_wayAt) := gS_of wT_52_16 wT_52_17 wT_1_5 wT_52_18
theorem gX12_layGame_X12_comesTo : GoodIn vX12_layGame (wsV RX12 488 RX12 yX12_comesTo vX12_comesTo) := gV_of wT_52_19 wT_52_20 wT_52_21 wT_1_5 wT_52_22
theorem cd12_layGame : Cd yX12_layGame 2 := ⟨by decide, by decide, by decide +kernel⟩
set_option maxHeartbeats 4000000 in
set_option maxRecDepth 100000 in
theorem T12_layGame_151 (S : CallFix p m c cX12_layGame 10 s args vX12_layGame RX12) (hr : meth.sig.returnType = none) (hlo : meth.locks = false) {out : PH} {k2 : PH → Nat → Int32 → Int32 → Int32 → Option (PH)} (hk2 : ∀ {h : PH} {a0 : Nat} {x1 : Int32} {x2 : Int32} {x3 : Int32}, k2 h a0 x1 x2 x3 = some out → ∀ (H : Heap) (locs : List Loc), ph_I D cy b A fl h s H locs → ∀ (ls : Array Slot), lv_has ls 10 [(0, .ref (b + a0)), (1, .int x1), (2, .int x2), (3, .int x3)] → W p l e ({ frames := 8, cells := 0, slots := 0, locals := 192 } : Room) s m args below meth c H locs 0 0 (MQ below (va_Qv (fun (u : PH) => u = out) (ph_B D cy b A fl) A) args s 0 0 A) (F0 m 2 ls [])) {k78 : PH → Nat → Int32 → Int32 → Int32 → Int32 → Int32 → Int32 → Option (PH)} (hk78 : ∀ {h : PH} {a0 : Nat} {x1 : Int32} {x2 : Int32} {x3 : Int32} {x4 : Int32} {x5 : Int32} {x6 : Int32}, k78 h a0 x1 x2 x3 x4 x5 x6 = some out → ∀ (H : Heap) (locs : List Loc), ph_I D cy b A fl h s H locs → ∀ (ls : Array Slot), lv_has ls 10 [(0, .ref (b + a0)), (1, .int x1), (2, .int x2), (3, .int x3), (4, .int x4), (5, .int x5), (6, .int x6)] → W p l e ({ frames := 8, cells := 0, slots := 0, locals := 192 } : Room) s m args below meth c H locs 0 0 (MQ below (va_Qv (fun (u : PH) => u = out) (ph_B D cy b A fl) A) args s 0 0 A) (F0 m 78 ls [])) {h : PH} {a0 : Nat} {x1 : Int32} {x2 : Int32} {x3 : Int32} {x4 : Int32} {x5 : Int32} {x6 : Int32} (f : F12_layGame_151 k2 k78 h a0 x1 x2 x3 x4 x5 x6 = some out) {H : Heap} {locs : List Loc} (I : ph_I D cy b A fl h s H locs) {ls : Array Slot} (hl : lv_has ls 10 [(0, .ref (b + a0)), (1, .int x1), (2, .int x2), (3, .int x3), (4, .int x4), (5, .int x5), (6, .int x6)]) : W p l e ({ frames := 8, cells := 0, slots := 0, locals := 192 } : Room) s m args below meth c H locs 0 0 (MQ below (va_Qv (fun (u : PH) => u = out) (ph_B D cy b A fl) A) args s 0 0 A) (F0 m 151 ls []) := by
  unfold F12_layGame_151 at f
  refine lv_aload_n S.1 S.2.1 dX12_layGame_151 rfl (lv_at hl 0 rfl) ?_
  obtain ⟨r1, e2, f⟩ := ob f
  refine o_gR S lf12_layGame_121 I e2 dX12_layGame_152 ?_
  refine lv_iload_n S.1 S.2.1 dX12_layGame_155 rfl (lv_at hl 3 rfl) ?_
  refine lv_dup2_11 S.1 S.2.1 dX12_layGame_156 rfl rfl ?_
  obtain ⟨v4, e3, f⟩ := ob f
  refine o_iald S I e3 dX12_layGame_157 ?_
  refine lv_aload_n S.1 S.2.1 dX12_layGame_158 rfl (lv_at hl 0 rfl) ?_
  refine lv_iload_n S.1 S.2.1 dX12_layGame_159 rfl (lv_at hl 1 rfl) ?_
  refine lv_iload S.1 S.2.1 dX12_layGame_160 (lv_at hl 6 rfl) ?_
  refine lv_iload S.1 S.2.1 dX12_layGame_162 (lv_at hl 4 rfl) ?_
  obtain ⟨o5, e6, f⟩ := ob f
  refine o_Vi S (As := [.int x1, .int x6, .int x4]) (rest := [.int v4, .int x3, .ref (b + r1)]) (ci := 12) (M12_gainOf l D cy b A fl e6) gX12_layGame_X12_gainOf rfl rfl rfl cd12_gainOf ⟨Nat.le_of_ble_eq_true rfl, Nat.le_of_ble_eq_true rfl⟩ I (gd e6).1 clX12 rfl rfl hl.1 rfl (Nat.le_of_ble_eq_true rfl) dX12_layGame_164 ⟨Nat.le_of_ble_eq_true rfl, Nat.le_of_ble_eq_true rfl⟩ (fun H locs I => ?_)
  refine lv_iadd S.1 S.2.1 dX12_layGame_167 ?_
  obtain ⟨h8, e7, f⟩ := ob f
  refine o_iast S I e7 dX12_layGame_168 (fun H locs I => ?_)
  refine lv_goto (tgt := 190) S.1 S.2.1 dX12_layGame_169 (by decide) ?_
  refine lv_iinc (v := (x6 + 1)) (lv' := [(6, .int (x6 + 1)), (0, .ref (b + a0)), (1, .int x1), (2, .int x2), (3, .int x3), (4, .int x4), (5, .int x5)]) S.1 S.2.1 dX12_layGame_190 hl (k := 6) rfl (congrArg (fun z => x6 + z) (by decide)) (by decide) rfl (fun ls hl => ?_)
  refine lv_goto (tgt := 78) S.1 S.2.1 dX12_layGame_193 (by decide) ?_
  exact hk78 f _ _ I _ (lv_sub hl [1, 2, 3, 4, 5, 6, 0] rfl)
set_option maxHeartbeats 4000000 in
set_option maxRecDepth 100000 in
theorem T12_layGame_172 (S : CallFix p m c cX12_layGame 10 s args vX12_layGame RX12) (hr : meth.sig.returnType = none) (hlo : meth.locks = false) {out : PH} {k2 : PH → Nat → Int32 → Int32 → Int32 → Option (PH)} (hk2 : ∀ {h : PH} {a0 : Nat} {x1 : Int32} {x2 : Int32} {x3 : Int32}, k2 h a0 x1 x2 x3 = some out → ∀ (H : Heap) (locs : List Loc), ph_I D cy b A fl h s H locs → ∀ (ls : Array Slot), lv_has ls 10 [(0, .ref (b + a0)), (1, .int x1), (2, .int x2), (3, .int x3)] → W p l e ({ frames := 8, cells := 0, slots := 0, locals := 192 } : Room) s m args below meth c H locs 0 0 (MQ below (va_Qv (fun (u : PH) => u = out) (ph_B D cy b A fl) A) args s 0 0 A) (F0 m 2 ls [])) {k78 : PH → Nat → Int32 → Int32 → Int32 → Int32 → Int32 → Int32 → Option (PH)} (hk78 : ∀ {h : PH} {a0 : Nat} {x1 : Int32} {x2 : Int32} {x3 : Int32} {x4 : Int32} {x5 : Int32} {x6 : Int32}, k78 h a0 x1 x2 x3 x4 x5 x6 = some out → ∀ (H : Heap) (locs : List Loc), ph_I D cy b A fl h s H locs → ∀ (ls : Array Slot), lv_has ls 10 [(0, .ref (b + a0)), (1, .int x1), (2, .int x2), (3, .int x3), (4, .int x4), (5, .int x5), (6, .int x6)] → W p l e ({ frames := 8, cells := 0, slots := 0, locals := 192 } : Room) s m args below meth c H locs 0 0 (MQ below (va_Qv (fun (u : PH) => u = out) (ph_B D cy b A fl) A) args s 0 0 A) (F0 m 78 ls [])) {h : PH} {a0 : Nat} {x1 : Int32} {x2 : Int32} {x3 : Int32} {x4 : Int32} {x5 : Int32} {x6 : Int32} (f : F12_layGame_172 k2 k78 h a0 x1 x2 x3 x4 x5 x6 = some out) {H : Heap} {locs : List Loc} (I : ph_I D cy b A fl h s H locs) {ls : Array Slot} (hl : lv_has ls 10 [(0, .ref (b + a0)), (1, .int x1), (2, .int x2), (3, .int x3), (4, .int x4), (5, .int x5), (6, .int x6)]) : W p l e ({ frames := 8, cells := 0, slots := 0, locals := 192 } : Room) s m args below meth c H locs 0 0 (MQ below (va_Qv (fun (u : PH) => u = out) (ph_B D cy b A fl) A) args s 0 0 A) (F0 m 172 ls []) := by
  unfold F12_layGame_172 at f
  refine lv_aload_n S.1 S.2.1 dX12_layGame_172 rfl (lv_at hl 0 rfl) ?_
  obtain ⟨r1, e2, f⟩ := ob f
  refine o_gR S lf12_layGame_124 I e2 dX12_layGame_173 ?_
  refine lv_iload_n S.1 S.2.1 dX12_layGame_176 rfl (lv_at hl 3 rfl) ?_
  refine lv_dup2_11 S.1 S.2.1 dX12_layGame_177 rfl rfl ?_
  obtain ⟨v4, e3, f⟩ := ob f
  refine o_iald S I e3 dX12_layGame_178 ?_
  refine lv_aload_n S.1 S.2.1 dX12_layGame_179 rfl (lv_at hl 0 rfl) ?_
  refine lv_iload_n S.1 S.2.1 dX12_layGame_180 rfl (lv_at hl 2 rfl) ?_
  refine lv_iload S.1 S.2.1 dX12_layGame_181 (lv_at hl 6 rfl) ?_
  refine lv_iload S.1 S.2.1 dX12_layGame_183 (lv_at hl 5 rfl) ?_
  obtain ⟨o5, e6, f⟩ := ob f
  refine o_Vi S (As := [.int x2, .int x6, .int x5]) (rest := [.int v4, .int x3, .ref (b + r1)]) (ci := 12) (M12_gainOf l D cy b A fl e6) gX12_layGame_X12_gainOf rfl rfl rfl cd12_gainOf ⟨Nat.le_of_ble_eq_true rfl, Nat.le_of_ble_eq_true rfl⟩ I (gd e6).1 clX12 rfl rfl hl.1 rfl (Nat.le_of_ble_eq_true rfl) dX12_layGame_185 ⟨Nat.le_of_ble_eq_true rfl, Nat.le_of_ble_eq_true rfl⟩ (fun H locs I => ?_)
  refine lv_iadd S.1 S.2.1 dX12_layGame_188 ?_
  obtain ⟨h8, e7, f⟩ := ob f
  refine o_iast S I e7 dX12_layGame_189 (fun H locs I => ?_)
  refine lv_iinc (v := (x6 + 1)) (lv' := [(6, .int (x6 + 1)), (0, .ref (b + a0)), (1, .int x1), (2, .int x2), (3, .int x3), (4, .int x4), (5, .int x5)]) S.1 S.2.1 dX12_layGame_190 hl (k := 6) rfl (congrArg (fun z => x6 + z) (by decide)) (by decide) rfl (fun ls hl => ?_)
  refine lv_goto (tgt := 78) S.1 S.2.1 dX12_layGame_193 (by decide) ?_
  exact hk78 f _ _ I _ (lv_sub hl [1, 2, 3, 4, 5, 6, 0] rfl)
set_option maxHeartbeats 4000000 in
set_option maxRecDepth 100000 in
theorem T12_layGame_78 (S : CallFix p m c cX12_layGame 10 s args vX12_layGame RX12) (hr : meth.sig.returnType = none) (hlo : meth.locks = false) {out : PH} {k2 : PH → Nat → Int32 → Int32 → Int32 → Option (PH)} (hk2 : ∀ {h : PH} {a0 : Nat} {x1 : Int32} {x2 : Int32} {x3 : Int32}, k2 h a0 x1 x2 x3 = some out → ∀ (H : Heap) (locs : List Loc), ph_I D cy b A fl h s H locs → ∀ (ls : Array Slot), lv_has ls 10 [(0, .ref (b + a0)), (1, .int x1), (2, .int x2), (3, .int x3)] → W p l e ({ frames := 8, cells := 0, slots := 0, locals := 192 } : Room) s m args below meth c H locs 0 0 (MQ below (va_Qv (fun (u : PH) => u = out) (ph_B D cy b A fl) A) args s 0 0 A) (F0 m 2 ls [])) : ∀ (n : Nat) {h : PH} {a0 : Nat} {x1 : Int32} {x2 : Int32} {x3 : Int32} {x4 : Int32} {x5 : Int32} {x6 : Int32} (f : F12_layGame_78 k2 n h a0 x1 x2 x3 x4 x5 x6 = some out) {H : Heap} {locs : List Loc} (I : ph_I D cy b A fl h s H locs) {ls : Array Slot} (hl : lv_has ls 10 [(0, .ref (b + a0)), (1, .int x1), (2, .int x2), (3, .int x3), (4, .int x4), (5, .int x5), (6, .int x6)]), W p l e ({ frames := 8, cells := 0, slots := 0, locals := 192 } : Room) s m args below meth c H locs 0 0 (MQ below (va_Qv (fun (u : PH) => u = out) (ph_B D cy b A fl) A) args s 0 0 A) (F0 m 78 ls []) := by
  intro n
  induction n with
  | zero => intro h a0 x1 x2 x3 x4 x5 x6 f; rw [F12_layGame_78] at f; cases f
  | succ n ih =>
    intro h a0 x1 x2 x3 x4 x5 x6 f H locs I ls hl
    rw [F12_layGame_78] at f
    refine lv_iload S.1 S.2.1 dX12_layGame_78 (lv_at hl 6 rfl) ?_
    refine lv_aload_n S.1 S.2.1 dX12_layGame_80 rfl (lv_at hl 0 rfl) ?_
    obtain ⟨v1, e2, f⟩ := ob f
    refine o_gI S lf12_layGame_253 I e2 dX12_layGame_81 ?_
    refine lv_icmp_ge (tgt := 196) S.1 S.2.1 dX12_layGame_84 (by decide) (fun q3 => ?_) (fun q3 => ?_)
    · have f := (if_pos q3).symm.trans f
      refine lv_iinc (v := (x3 + 1)) (lv' := [(3, .int (x3 + 1)), (0, .ref (b + a0)), (1, .int x1), (2, .int x2), (4, .int x4), (5, .int x5), (6, .int x6)]) S.1 S.2.1 dX12_layGame_196 hl (k := 3) rfl (congrArg (fun z => x3 + z) (by decide)) (by decide) rfl (fun ls hl => ?_)
      refine lv_goto (tgt := 2) S.1 S.2.1 dX12_layGame_199 (by decide) ?_
      exact hk2 f _ _ I _ (lv_sub hl [1, 2, 3, 0] rfl)
    · have f := (if_neg q3).symm.trans f
      refine lv_aload_n S.1 S.2.1 dX12_layGame_87 rfl (lv_at hl 0 rfl) ?_
      refine lv_iload S.1 S.2.1 dX12_layGame_88 (lv_at hl 6 rfl) ?_
      obtain ⟨o4, e5, f⟩ := ob f
      refine o_Vi S (As := [.int x6]) (rest := []) (ci := 12) (M12_isToCome l D cy b A fl e5) gX12_layGame_X12_isToCome rfl rfl rfl cd12_isToCome ⟨Nat.le_of_ble_eq_true rfl, Nat.le_of_ble_eq_true rfl⟩ I (gd e5).1 clX12 rfl rfl hl.1 rfl (Nat.le_of_ble_eq_true rfl) dX12_layGame_90 ⟨Nat.le_of_ble_eq_true rfl, Nat.le_of_ble_eq_true rfl⟩ (fun H locs I => ?_)
      refine lv_if_ne (tgt := 99) S.1 S.2.1 dX12_layGame_93 (by decide) (fun q6 => ?_) (fun q6 => ?_)
      · have f := (if_neg q6).symm.trans f
        refine lv_aload_n S.1 S.2.1 dX12_layGame_99 rfl (lv_at hl 0 rfl) ?_
        refine lv_aload_n S.1 S.2.1 dX12_layGame_100 rfl (lv_at hl 0 rfl) ?_
        obtain ⟨r7, e8, f⟩ := ob f
        refine o_gR S lf12_layGame_48 I e8 dX12_layGame_101 ?_
        refine lv_iload S.1 S.2.1 dX12_layGame_104 (lv_at hl 6 rfl) ?_
        obtain ⟨v10, e9, f⟩ := ob f
        refine o_iald S I e9 dX12_layGame_106 ?_
        obtain ⟨o11, e12, f⟩ := ob f
        refine o_Vi S (As := [.int v10]) (rest := []) (ci := 12) (M12_peakAt l D cy b A fl e12) gX12_layGame_X12_peakAt rfl rfl rfl cd12_peakAt ⟨Nat.le_of_ble_eq_true rfl, Nat.le_of_ble_eq_true rfl⟩ I (gd e12).1 clX12 rfl rfl hl.1 rfl (Nat.le_of_ble_eq_true rfl) dX12_layGame_107 ⟨Nat.le_of_ble_eq_true rfl, Nat.le_of_ble_eq_true rfl⟩ (fun H locs I => ?_)
        refine lv_istore (lv' := [(7, .int o11.1), (0, .ref (b + a0)), (1, .int x1), (2, .int x2), (3, .int x3), (4, .int x4), (5, .int x5), (6, .int x6)]) S.1 S.2.1 dX12_layGame_110 hl (by decide) rfl (fun ls hl => ?_)
        refine lv_aload_n S.1 S.2.1 dX12_layGame_112 rfl (lv_at hl 1 rfl) ?_
        refine lv_iload S.1 S.2.1 dX12_layGame_113 (lv_at hl 5 rfl) ?_
        refine lv_iload S.1 S.2.1 dX12_layGame_115 (lv_at hl 0 rfl) ?_
        obtain ⟨o13, e14, f⟩ := ob f
        refine o_Vi S (As := [.int x4, .int o11.1]) (rest := []) (ci := 12) (M12_far l D cy b A fl e14) gX12_layGame_X12_far rfl rfl rfl cd12_far ⟨Nat.le_of_ble_eq_true rfl, Nat.le_of_ble_eq_true rfl⟩ I (gd e14).1 clX12 rfl rfl hl.1 rfl (Nat.le_of_ble_eq_true rfl) dX12_layGame_117 ⟨Nat.le_of_ble_eq_true rfl, Nat.le_of_ble_eq_true rfl⟩ (fun H locs I => ?_)
        refine lv_istore (lv' := [(8, .int o13.1), (7, .int o11.1), (0, .ref (b + a0)), (1, .int x1), (2, .int x2), (3, .int x3), (4, .int x4), (5, .int x5), (6, .int x6)]) S.1 S.2.1 dX12_layGame_120 hl (by decide) rfl (fun ls hl => ?_)
        refine lv_aload_n S.1 S.2.1 dX12_layGame_122 rfl (lv_at hl 2 rfl) ?_
        refine lv_iload S.1 S.2.1 dX12_layGame_123 (lv_at hl 7 rfl) ?_
        refine lv_iload S.1 S.2.1 dX12_layGame_125 (lv_at hl 1 rfl) ?_
        obtain ⟨o15, e16, f⟩ := ob f
        refine o_Vi S (As := [.int x5, .int o11.1]) (rest := []) (ci := 12) (M12_far l D cy b A fl e16) gX12_layGame_X12_far rfl rfl rfl cd12_far ⟨Nat.le_of_ble_eq_true rfl, Nat.le_of_ble_eq_true rfl⟩ I (gd e16).1 clX12 rfl rfl hl.1 rfl (Nat.le_of_ble_eq_true rfl) dX12_layGame_127 ⟨Nat.le_of_ble_eq_true rfl, Nat.le_of_ble_eq_true rfl⟩ (fun H locs I => ?_)
        refine lv_istore (lv' := [(9, .int o15.1), (8, .int o13.1), (7, .int o11.1), (0, .ref (b + a0)), (1, .int x1), (2, .int x2), (3, .int x3), (4, .int x4), (5, .int x5), (6, .int x6)]) S.1 S.2.1 dX12_layGame_130 hl (by decide) rfl (fun ls hl => ?_)
        refine lv_iload S.1 S.2.1 dX12_layGame_132 (lv_at hl 1 rfl) ?_
        refine lv_iload S.1 S.2.1 dX12_layGame_134 (lv_at hl 0 rfl) ?_
        refine lv_icmp_lt (tgt := 151) S.1 S.2.1 dX12_layGame_136 (by decide) (fun q17 => ?_) (fun q17 => ?_)
        · have f := (if_pos q17).symm.trans f
          exact T12_layGame_151 S hr hlo (fun f _ _ I _ hl => hk2 f _ _ I _ hl) (fun f _ _ I _ hl => ih f I hl) f I (lv_sub hl [3, 4, 5, 6, 7, 8, 9] rfl)
        · have f := (if_neg q17).symm.trans f
          refine lv_iload S.1 S.2.1 dX12_layGame_139 (lv_at hl 1 rfl) ?_
          refine lv_iload S.1 S.2.1 dX12_layGame_141 (lv_at hl 0 rfl) ?_
          refine lv_icmp_ne (tgt := 172) S.1 S.2.1 dX12_layGame_143 (by decide) (fun q18 => ?_) (fun q18 => ?_)
          · have f := (if_neg q18).symm.trans f
            exact T12_layGame_172 S hr hlo (fun f _ _ I _ hl => hk2 f _ _ I _ hl) (fun f _ _ I _ hl => ih f I hl) f I (lv_sub hl [3, 4, 5, 6, 7, 8, 9] rfl)
          · have f := (if_pos q18).symm.trans f
            refine lv_iload_n S.1 S.2.1 dX12_layGame_146 rfl (lv_at hl 4 rfl) ?_
            refine lv_iload_n S.1 S.2.1 dX12_layGame_147 rfl (lv_at hl 5 rfl) ?_
            refine lv_icmp_ge (tgt := 172) S.1 S.2.1 dX12_layGame_148 (by decide) (fun q19 => ?_) (fun q19 => ?_)
            · have f := (if_pos q19).symm.trans f
              exact T12_layGame_172 S hr hlo (fun f _ _ I _ hl => hk2 f _ _ I _ hl) (fun f _ _ I _ hl => ih f I hl) f I (lv_sub hl [3, 4, 5, 6, 7, 8, 9] rfl)
            · have f := (if_neg q19).symm.trans f
              exact T12_layGame_151 S hr hlo (fun f _ _ I _ hl => hk2 f _ _ I _ hl) (fun f _ _ I _ hl => ih f I hl) f I (lv_sub hl [3, 4, 5, 6, 7, 8, 9] rfl)
      · have f := (if_pos q6).symm.trans f
        refine lv_goto (tgt := 190) S.1 S.2.1 dX12_layGame_96 (by decide) ?_
        refine lv_iinc (v := (x6 + 1)) (lv' := [(6, .int (x6 + 1)), (0, .ref (b + a0)), (1, .int x1), (2, .int x2), (3, .int x3), (4, .int x4), (5, .int x5)]) S.1 S.2.1 dX12_layGame_190 hl (k := 6) rfl (congrArg (fun z => x6 + z) (by decide)) (by decide) rfl (fun ls hl => ?_)
        refine lv_goto (tgt := 78) S.1 S.2.1 dX12_layGame_193 (by decide) ?_
        exact ih f I (lv_sub hl [1, 2, 3, 4, 5, 6, 0] rfl)
set_option maxHeartbeats 4000000 in
set_option maxRecDepth 100000 in
theorem T12_layGame_2 (S : CallFix p m c cX12_layGame 10 s args vX12_layGame RX12) (hr : meth.sig.returnType = none) (hlo : meth.locks = false) {out : PH} : ∀ (n : Nat) {h : PH} {a0 : Nat} {x1 : Int32} {x2 : Int32} {x3 : Int32} (f : F12_layGame_2  n h a0 x1 x2 x3 = some out) {H : Heap} {locs : List Loc} (I : ph_I D cy b A fl h s H locs) {ls : Array Slot} (hl : lv_has ls 10 [(0, .ref (b + a0)), (1, .int x1), (2, .int x2), (3, .int x3)]), W p l e ({ frames := 8, cells := 0, slots := 0, locals := 192 } : Room) s m args below meth c H locs 0 0 (MQ below (va_Qv (fun (u : PH) => u = out) (ph_B D cy b A fl) A) args s 0 0 A) (F0 m 2 ls []) := by
  intro n
  induction n with
  | zero => intro h a0 x1 x2 x3 f; rw [F12_layGame_2] at f; cases f
  | succ n ih =>
    intro h a0 x1 x2 x3 f H locs I ls hl
    rw [F12_layGame_2] at f
    refine lv_iload_n S.1 S.2.1 dX12_layGame_2 rfl (lv_at hl 3 rfl) ?_
    refine lv_bipush (v := 25) S.1 S.2.1 dX12_layGame_3 (by decide) ?_
    refine lv_icmp_ge (tgt := 202) S.1 S.2.1 dX12_layGame_5 (by decide) (fun q1 => ?_) (fun q1 => ?_)
    · have f := (if_pos q1).symm.trans f
      exact o_vret S hr hlo I f dX12_layGame_202
    · have f := (if_neg q1).symm.trans f
      refine lv_aload_n S.1 S.2.1 dX12_layGame_8 rfl (lv_at hl 0 rfl) ?_
      refine lv_iload_n S.1 S.2.1 dX12_layGame_9 rfl (lv_at hl 1 rfl) ?_
      refine lv_iload_n S.1 S.2.1 dX12_layGame_10 rfl (lv_at hl 3 rfl) ?_
      refine lv_iconst (v := 5) S.1 S.2.1 dX12_layGame_11 (by decide) ?_
      refine lv_idiv S.1 S.2.1 dX12_layGame_12 (by decide) ?_
      obtain ⟨o2, e3, f⟩ := ob f
      refine o_Si S (As := [.int (x3 / 5)]) (rest := [.int x1, .ref (b + a0)]) (M12_wayAt l D cy b A fl e3) gX12_layGame_X12_wayAt rfl rfl rfl cd12_wayAt ⟨Nat.le_of_ble_eq_true rfl, Nat.le_of_ble_eq_true rfl⟩ I rfl hl.1 rfl (Nat.le_of_ble_eq_true rfl) dX12_layGame_13 ⟨Nat.le_of_ble_eq_true rfl, Nat.le_of_ble_eq_true rfl⟩ (fun H locs I => ?_)
      obtain ⟨o4, e5, f⟩ := ob f
      refine o_Vi S (As := [.int x1, .int o2.1]) (rest := []) (ci := 12) (M12_comesTo l D cy b A fl e5) gX12_layGame_X12_comesTo rfl rfl rfl cd12_comesTo ⟨Nat.le_of_ble_eq_true rfl, Nat.le_of_ble_eq_true rfl⟩ I (gd e5).1 clX12 rfl rfl hl.1 rfl (Nat.le_of_ble_eq_true rfl) dX12_layGame_16 ⟨Nat.le_of_ble_eq_true rfl, Nat.le_of_ble_eq_true rfl⟩ (fun H locs I => ?_)
      refine lv_istore (lv' := [(4, .int o4.1), (0, .ref (b + a0)), (1, .int x1), (2, .int x2), (3, .int x3)]) S.1 S.2.1 dX12_layGame_19 hl (by decide) rfl (fun ls hl => ?_)
      refine lv_aload_n S.1 S.2.1 dX12_layGame_21 rfl (lv_at hl 1 rfl) ?_
      refine lv_iload_n S.1 S.2.1 dX12_layGame_22 rfl (lv_at hl 3 rfl) ?_
      refine lv_iload_n S.1 S.2.1 dX12_layGame_23 rfl (lv_at hl 4 rfl) ?_
      refine lv_iconst (v := 5) S.1 S.2.1 dX12_layGame_24 (by decide) ?_
      refine lv_irem S.1 S.2.1 dX12_layGame_25 (by decide) ?_
      obtain ⟨o6, e7, f⟩ := ob f
      refine o_Si S (As := [.int (x3 - x3 / 5 * 5)]) (rest := [.int x2, .ref (b + a0)]) (M12_wayAt l D cy b A fl e7) gX12_layGame_X12_wayAt rfl rfl rfl cd12_wayAt ⟨Nat.le_of_ble_eq_true rfl, Nat.le_of_ble_eq_true rfl⟩ I rfl hl.1 rfl (Nat.le_of_ble_eq_true rfl) dX12_layGame_26 ⟨Nat.le_of_ble_eq_true rfl, Nat.le_of_ble_eq_true rfl⟩ (fun H locs I => ?_)
      obtain ⟨o8, e9, f⟩ := ob f
      refine o_Vi S (As := [.int x2, .int o6.1]) (rest := []) (ci := 12) (M12_comesTo l D cy b A fl e9) gX12_layGame_X12_comesTo rfl rfl rfl cd12_comesTo ⟨Nat.le_of_ble_eq_true rfl, Nat.le_of_ble_eq_true rfl⟩ I (gd e9).1 clX12 rfl rfl hl.1 rfl (Nat.le_of_ble_eq_true rfl) dX12_layGame_29 ⟨Nat.le_of_ble_eq_true rfl, Nat.le_of_ble_eq_true rfl⟩ (fun H locs I => ?_)
      refine lv_istore (lv' := [(5, .int o8.1), (4, .int o4.1), (0, .ref (b + a0)), (1, .int x1), (2, .int x2), (3, .int x3)]) S.1 S.2.1 dX12_layGame_32 hl (by decide) rfl (fun ls hl => ?_)
      refine lv_aload_n S.1 S.2.1 dX12_layGame_34 rfl (lv_at hl 2 rfl) ?_
      obtain ⟨r10, e11, f⟩ := ob f
      refine o_gR S lf12_layGame_121 I e11 dX12_layGame_35 ?_
      refine lv_iload_n S.1 S.2.1 dX12_layGame_38 rfl (lv_at hl 5 rfl) ?_
      refine lv_iconst (v := (-1)) S.1 S.2.1 dX12_layGame_39 (by decide) ?_
      obtain ⟨h13, e12, f⟩ := ob f
      refine o_iast S I e12 dX12_layGame_40 (fun H locs I => ?_)
      refine lv_aload_n S.1 S.2.1 dX12_layGame_41 rfl (lv_at hl 2 rfl) ?_
      obtain ⟨r14, e15, f⟩ := ob f
      refine o_gR S lf12_layGame_124 I e15 dX12_layGame_42 ?_
      refine lv_iload_n S.1 S.2.1 dX12_layGame_45 rfl (lv_at hl 5 rfl) ?_
      refine lv_iconst (v := (-1)) S.1 S.2.1 dX12_layGame_46 (by decide) ?_
      obtain ⟨h17, e16, f⟩ := ob f
      refine o_iast S I e16 dX12_layGame_47 (fun H locs I => ?_)
      refine lv_iload S.1 S.2.1 dX12_layGame_48 (lv_at hl 1 rfl) ?_
      refine lv_if_lt (tgt := 196) S.1 S.2.1 dX12_layGame_50 (by decide) (fun q18 => ?_) (fun q18 => ?_)
      · have f := (if_pos q18).symm.trans f
        refine lv_iinc (v := (x3 + 1)) (lv' := [(3, .int (x3 + 1)), (5, .int o8.1), (4, .int o4.1), (0, .ref (b + a0)), (1, .int x1), (2, .int x2)]) S.1 S.2.1 dX12_layGame_196 hl (k := 5) rfl (congrArg (fun z => x3 + z) (by decide)) (by decide) rfl (fun ls hl => ?_)
        refine lv_goto (tgt := 2) S.1 S.2.1 dX12_layGame_199 (by decide) ?_
        exact ih f I (lv_sub hl [3, 4, 5, 0] rfl)
      · have f := (if_neg q18).symm.trans f
        refine lv_iload S.1 S.2.1 dX12_layGame_53 (lv_at hl 0 rfl) ?_
        refine lv_if_ge (tgt := 61) S.1 S.2.1 dX12_layGame_55 (by decide) (fun q19 => ?_) (fun q19 => ?_)
        · have f := (if_pos q19).symm.trans f
          refine lv_aload_n S.1 S.2.1 dX12_layGame_61 rfl (lv_at hl 2 rfl) ?_
          obtain ⟨r20, e21, f⟩ := ob f
          refine o_gR S lf12_layGame_121 I e21 dX12_layGame_62 ?_
          refine lv_iload_n S.1 S.2.1 dX12_layGame_65 rfl (lv_at hl 5 rfl) ?_
          refine lv_iconst (v := 0) S.1 S.2.1 dX12_layGame_66 (by decide) ?_
          obtain ⟨h23, e22, f⟩ := ob f
          refine o_iast S I e22 dX12_layGame_67 (fun H locs I => ?_)
          refine lv_aload_n S.1 S.2.1 dX12_layGame_68 rfl (lv_at hl 2 rfl) ?_
          obtain ⟨r24, e25, f⟩ := ob f
          refine o_gR S lf12_layGame_124 I e25 dX12_layGame_69 ?_
          refine lv_iload_n S.1 S.2.1 dX12_layGame_72 rfl (lv_at hl 5 rfl) ?_
          refine lv_iconst (v := 0) S.1 S.2.1 dX12_layGame_73 (by decide) ?_
          obtain ⟨h27, e26, f⟩ := ob f
          refine o_iast S I e26 dX12_layGame_74 (fun H locs I => ?_)
          refine lv_iconst (v := 0) S.1 S.2.1 dX12_layGame_75 (by decide) ?_
          refine lv_istore (lv' := [(6, .int 0), (5, .int o8.1), (4, .int o4.1), (0, .ref (b + a0)), (1, .int x1), (2, .int x2), (3, .int x3)]) S.1 S.2.1 dX12_layGame_76 hl (by decide) rfl (fun ls hl => ?_)
          exact T12_layGame_78 S hr hlo (fun f _ _ I _ hl => ih f I hl) 1024 f I (lv_sub hl [3, 4, 5, 6, 2, 1, 0] rfl)
        · have f := (if_neg q19).symm.trans f
          refine lv_goto (tgt := 196) S.1 S.2.1 dX12_layGame_58 (by decide) ?_
          refine lv_iinc (v := (x3 + 1)) (lv' := [(3, .int (x3 + 1)), (5, .int o8.1), (4, .int o4.1), (0, .ref (b + a0)), (1, .int x1), (2, .int x2)]) S.1 S.2.1 dX12_layGame_196 hl (k := 5) rfl (congrArg (fun z => x3 + z) (by decide)) (by decide) rfl (fun ls hl => ?_)
          refine lv_goto (tgt := 2) S.1 S.2.1 dX12_layGame_199 (by decide) ?_
          exact ih f I (lv_sub hl [3, 4, 5, 0] rfl)
set_option maxHeartbeats 4000000 in
set_option maxRecDepth 100000 in
theorem T12_layGame_0 (S : CallFix p m c cX12_layGame 10 s args vX12_layGame RX12) (hr : meth.sig.returnType = none) (hlo : meth.locks = false) {out : PH} {h : PH} {a0 : Nat} {x1 : Int32} {x2 : Int32} (f : F12_layGame_0  h a0 x1 x2 = some out) {H : Heap} {locs : List Loc} (I : ph_I D cy b A fl h s H locs) {ls : Array Slot} (hl : lv_has ls 10 [(0, .ref (b + a0)), (1, .int x1), (2, .int x2)]) : W p l e ({ frames := 8, cells := 0, slots := 0, locals := 192 } : Room) s m args below meth c H locs 0 0 (MQ below (va_Qv (fun (u : PH) => u = out) (ph_B D cy b A fl) A) args s 0 0 A) (F0 m 0 ls []) := by
  unfold F12_layGame_0 at f
  refine lv_iconst (v := 0) S.1 S.2.1 dX12_layGame_0 (by decide) ?_
  refine lv_istore_n (lv' := [(3, .int 0), (0, .ref (b + a0)), (1, .int x1), (2, .int x2)]) S.1 S.2.1 dX12_layGame_1 rfl hl (by decide) rfl (fun ls hl => ?_)
  exact T12_layGame_2 S hr hlo  1024 f I (lv_sub hl [1, 2, 3, 0] rfl)
theorem M12_layGame (l : Launch) (D : va_G) (cy : Nat → ClassId) (b : Nat) (A : Nat → Prop) (fl : Bool) {h : PH} {a0 : Nat} {x1 : Int32} {x2 : Int32} {out : PH} (f : F12_layGame h a0 x1 x2 = some out) : Met l yX12_layGame vX12_layGame ({ frames := 8, cells := 0, slots := 0, locals := 192 } : Room) (va_Pc [.ref (b + a0), .int x1, .int x2] (ph_B D cy b A fl h)) (va_Qv (fun (u : PH) => u = out) (ph_B D cy b A fl) A) 0 0 A :=
  o_met (by decide) rfl (Nat.le_of_ble_eq_true rfl) rfl (fun p e s m below meth c S hr hlo hnm ls hl I => T12_layGame_0 S hr hlo ((gd f).2) I (lv_sub hl [0, 1, 2] rfl))
def vX12_layPlan : List Cond := .code yX12_layPlan cX12_layPlan 6 none :: TB
theorem lf12_layPlan_130 : Fl vX12_layPlan RX12 130 12 73 := ⟨RX12, TX12, 87, rfl, by decide, (fun w h9 => List.mem_cons_of_mem _ (wC_wsX120 w h9)), (List.mem_cons_of_mem _ wT_11_12)⟩
theorem lf12_layPlan_88 : Fl vX12_layPlan RX12 88 12 55 := ⟨RX12, TX12, 87, rfl, by decide, (fun w h9 => List.mem_cons_of_mem _ (wC_wsX120 w h9)), (List.mem_cons_of_mem _ wT_10_22)⟩
theorem gX12_layPlan_X12_gainOf : GoodIn vX12_layPlan (wsV RX12 479 RX12 yX12_gainOf vX12_gainOf) := gV_of wT_50_5 wT_50_6 wT_50_7 wT_1_5 wT_50_8
theorem lf12_layPlan_127 : Fl vX12_layPlan RX12 127 12 72 := ⟨RX12, TX12, 87, rfl, by decide, (fun w h9 => List.mem_cons_of_mem _ (wC_wsX120 w h9)), (List.mem_cons_of_mem _ wT_11_11)⟩
theorem lf12_layPlan_253 : Fl vX12_layPlan RX12 253 12 16 := ⟨RX12, TX12, 87, rfl, by decide, (fun w h9 => List.mem_cons_of_mem _ (wC_wsX120 w h9)), (List.mem_cons_of_mem _ wT_12_14)⟩
theorem lf12_layPlan_48 : Fl vX12_layPlan RX12 48 12 34 := ⟨RX12, TX12, 87, rfl, by decide, (fun w h9 => List.mem_cons_of_mem _ (wC_wsX120 w h9)), (List.mem_cons_of_mem _ wT_10_9)⟩
theorem gX12_layPlan_X12_awayOf : GoodIn vX12_layPlan (wsV RX12 450 RX12 yX12_awayOf vX12_awayOf) := gV_of wT_47_23 wT_48_0 wT_48_1 wT_1_5 wT_48_2
theorem cd12_layPlan : Cd yX12_layPlan 1 := ⟨by decide, by decide, by decide +kernel⟩
set_option maxHeartbeats 4000000 in
set_option maxRecDepth 100000 in
theorem T12_layPlan_124 (S : CallFix p m c cX12_layPlan 6 s args vX12_layPlan RX12) (hr : meth.sig.returnType = none) (hlo : meth.locks = false) {out : PH} {k17 : PH → Nat → Int32 → Int32 → Option (PH)} (hk17 : ∀ {h : PH} {a0 : Nat} {x1 : Int32} {x2 : Int32}, k17 h a0 x1 x2 = some out → ∀ (H : Heap) (locs : List Loc), ph_I D cy b A fl h s H locs → ∀ (ls : Array Slot), lv_has ls 6 [(0, .ref (b + a0)), (1, .int x1), (2, .int x2)] → W p l e ({ frames := 8, cells := 0, slots := 0, locals := 192 } : Room) s m args below meth c H locs 0 0 (MQ below (va_Qv (fun (u : PH) => u = out) (ph_B D cy b A fl) A) args s 0 0 A) (F0 m 17 ls [])) {h : PH} {a0 : Nat} {x1 : Int32} {x2 : Int32} {s0 : Int32} {s1 : Int32} {u2 : Nat} (f : F12_layPlan_124 k17 h a0 x1 x2 s0 s1 u2 = some out) {H : Heap} {locs : List Loc} (I : ph_I D cy b A fl h s H locs) {ls : Array Slot} (hl : lv_has ls 6 [(0, .ref (b + a0)), (1, .int x1), (2, .int x2)]) : W p l e ({ frames := 8, cells := 0, slots := 0, locals := 192 } : Room) s m args below meth c H locs 0 0 (MQ below (va_Qv (fun (u : PH) => u = out) (ph_B D cy b A fl) A) args s 0 0 A) (F0 m 124 ls [.int s0, .int s1, .ref (b + u2)]) := by
  unfold F12_layPlan_124 at f
  obtain ⟨h2, e1, f⟩ := ob f
  refine o_iast S I e1 dX12_layPlan_124 (fun H locs I => ?_)
  refine lv_iinc (v := (x2 + (-1))) (lv' := [(2, .int (x2 + (-1))), (0, .ref (b + a0)), (1, .int x1)]) S.1 S.2.1 dX12_layPlan_125 hl (k := 2) rfl (congrArg (fun z => x2 + z) (by decide)) (by decide) rfl (fun ls hl => ?_)
  refine lv_goto (tgt := 17) S.1 S.2.1 dX12_layPlan_128 (by decide) ?_
  exact hk17 f _ _ I _ (lv_sub hl [1, 2, 0] rfl)
set_option maxHeartbeats 4000000 in
set_option maxRecDepth 100000 in
theorem T12_layPlan_65 (S : CallFix p m c cX12_layPlan 6 s args vX12_layPlan RX12) (hr : meth.sig.returnType = none) (hlo : meth.locks = false) {out : PH} {k17 : PH → Nat → Int32 → Int32 → Option (PH)} (hk17 : ∀ {h : PH} {a0 : Nat} {x1 : Int32} {x2 : Int32}, k17 h a0 x1 x2 = some out → ∀ (H : Heap) (locs : List Loc), ph_I D cy b A fl h s H locs → ∀ (ls : Array Slot), lv_has ls 6 [(0, .ref (b + a0)), (1, .int x1), (2, .int x2)] → W p l e ({ frames := 8, cells := 0, slots := 0, locals := 192 } : Room) s m args below meth c H locs 0 0 (MQ below (va_Qv (fun (u : PH) => u = out) (ph_B D cy b A fl) A) args s 0 0 A) (F0 m 17 ls [])) {h : PH} {a0 : Nat} {x1 : Int32} {x2 : Int32} {x3 : Int32} (f : F12_layPlan_65 k17 h a0 x1 x2 x3 = some out) {H : Heap} {locs : List Loc} (I : ph_I D cy b A fl h s H locs) {ls : Array Slot} (hl : lv_has ls 6 [(0, .ref (b + a0)), (1, .int x1), (2, .int x2), (3, .int x3)]) : W p l e ({ frames := 8, cells := 0, slots := 0, locals := 192 } : Room) s m args below meth c H locs 0 0 (MQ below (va_Qv (fun (u : PH) => u = out) (ph_B D cy b A fl) A) args s 0 0 A) (F0 m 65 ls []) := by
  unfold F12_layPlan_65 at f
  refine lv_aload_n S.1 S.2.1 dX12_layPlan_65 rfl (lv_at hl 0 rfl) ?_
  obtain ⟨r1, e2, f⟩ := ob f
  refine o_gR S lf12_layPlan_130 I e2 dX12_layPlan_66 ?_
  refine lv_iload_n S.1 S.2.1 dX12_layPlan_69 rfl (lv_at hl 2 rfl) ?_
  refine lv_iload_n S.1 S.2.1 dX12_layPlan_70 rfl (lv_at hl 3 rfl) ?_
  obtain ⟨h4, e3, f⟩ := ob f
  refine o_iast S I e3 dX12_layPlan_71 (fun H locs I => ?_)
  refine lv_aload_n S.1 S.2.1 dX12_layPlan_72 rfl (lv_at hl 0 rfl) ?_
  refine lv_iload_n S.1 S.2.1 dX12_layPlan_73 rfl (lv_at hl 1 rfl) ?_
  refine lv_iload_n S.1 S.2.1 dX12_layPlan_74 rfl (lv_at hl 2 rfl) ?_
  refine lv_aload_n S.1 S.2.1 dX12_layPlan_75 rfl (lv_at hl 0 rfl) ?_
  obtain ⟨r5, e6, f⟩ := ob f
  refine o_gR S lf12_layPlan_88 I e6 dX12_layPlan_76 ?_
  refine lv_iload_n S.1 S.2.1 dX12_layPlan_79 rfl (lv_at hl 1 rfl) ?_
  obtain ⟨v8, e7, f⟩ := ob f
  refine o_iald S I e7 dX12_layPlan_80 ?_
  obtain ⟨o9, e10, f⟩ := ob f
  refine o_Vi S (As := [.int x1, .int x2, .int v8]) (rest := []) (ci := 12) (M12_gainOf l D cy b A fl e10) gX12_layPlan_X12_gainOf rfl rfl rfl cd12_gainOf ⟨Nat.le_of_ble_eq_true rfl, Nat.le_of_ble_eq_true rfl⟩ I (gd e10).1 clX12 rfl rfl hl.1 rfl (Nat.le_of_ble_eq_true rfl) dX12_layPlan_81 ⟨Nat.le_of_ble_eq_true rfl, Nat.le_of_ble_eq_true rfl⟩ (fun H locs I => ?_)
  refine lv_aload_n S.1 S.2.1 dX12_layPlan_84 rfl (lv_at hl 0 rfl) ?_
  obtain ⟨r11, e12, f⟩ := ob f
  refine o_gR S lf12_layPlan_127 I e12 dX12_layPlan_85 ?_
  refine lv_iload_n S.1 S.2.1 dX12_layPlan_88 rfl (lv_at hl 3 rfl) ?_
  obtain ⟨v14, e13, f⟩ := ob f
  refine o_iald S I e13 dX12_layPlan_89 ?_
  refine lv_iadd S.1 S.2.1 dX12_layPlan_90 ?_
  refine lv_istore (lv' := [(5, .int (o9.1 + v14)), (0, .ref (b + a0)), (1, .int x1), (2, .int x2), (3, .int x3)]) S.1 S.2.1 dX12_layPlan_91 hl (by decide) rfl (fun ls hl => ?_)
  refine lv_aload_n S.1 S.2.1 dX12_layPlan_93 rfl (lv_at hl 1 rfl) ?_
  obtain ⟨r15, e16, f⟩ := ob f
  refine o_gR S lf12_layPlan_127 I e16 dX12_layPlan_94 ?_
  refine lv_iload_n S.1 S.2.1 dX12_layPlan_97 rfl (lv_at hl 3 rfl) ?_
  refine lv_iload S.1 S.2.1 dX12_layPlan_98 (lv_at hl 0 rfl) ?_
  refine lv_aload_n S.1 S.2.1 dX12_layPlan_100 rfl (lv_at hl 1 rfl) ?_
  obtain ⟨r17, e18, f⟩ := ob f
  refine o_gR S lf12_layPlan_127 I e18 dX12_layPlan_101 ?_
  refine lv_iload_n S.1 S.2.1 dX12_layPlan_104 rfl (lv_at hl 3 rfl) ?_
  refine lv_iconst (v := 1) S.1 S.2.1 dX12_layPlan_105 (by decide) ?_
  refine lv_iadd S.1 S.2.1 dX12_layPlan_106 ?_
  obtain ⟨v20, e19, f⟩ := ob f
  refine o_iald S I e19 dX12_layPlan_107 ?_
  refine lv_icmp_lt (tgt := 116) S.1 S.2.1 dX12_layPlan_108 (by decide) (fun q21 => ?_) (fun q21 => ?_)
  · have f := (if_pos q21).symm.trans f
    refine lv_aload_n S.1 S.2.1 dX12_layPlan_116 rfl (lv_at hl 1 rfl) ?_
    obtain ⟨r22, e23, f⟩ := ob f
    refine o_gR S lf12_layPlan_127 I e23 dX12_layPlan_117 ?_
    refine lv_iload_n S.1 S.2.1 dX12_layPlan_120 rfl (lv_at hl 3 rfl) ?_
    refine lv_iconst (v := 1) S.1 S.2.1 dX12_layPlan_121 (by decide) ?_
    refine lv_iadd S.1 S.2.1 dX12_layPlan_122 ?_
    obtain ⟨v25, e24, f⟩ := ob f
    refine o_iald S I e24 dX12_layPlan_123 ?_
    exact T12_layPlan_124 S hr hlo (fun f _ _ I _ hl => hk17 f _ _ I _ hl) f I (lv_sub hl [1, 2, 3] rfl)
  · have f := (if_neg q21).symm.trans f
    refine lv_iload S.1 S.2.1 dX12_layPlan_111 (lv_at hl 0 rfl) ?_
    refine lv_goto (tgt := 124) S.1 S.2.1 dX12_layPlan_113 (by decide) ?_
    exact T12_layPlan_124 S hr hlo (fun f _ _ I _ hl => hk17 f _ _ I _ hl) f I (lv_sub hl [1, 2, 3] rfl)
set_option maxHeartbeats 4000000 in
set_option maxRecDepth 100000 in
theorem T12_layPlan_33 (S : CallFix p m c cX12_layPlan 6 s args vX12_layPlan RX12) (hr : meth.sig.returnType = none) (hlo : meth.locks = false) {out : PH} {k17 : PH → Nat → Int32 → Int32 → Option (PH)} (hk17 : ∀ {h : PH} {a0 : Nat} {x1 : Int32} {x2 : Int32}, k17 h a0 x1 x2 = some out → ∀ (H : Heap) (locs : List Loc), ph_I D cy b A fl h s H locs → ∀ (ls : Array Slot), lv_has ls 6 [(0, .ref (b + a0)), (1, .int x1), (2, .int x2)] → W p l e ({ frames := 8, cells := 0, slots := 0, locals := 192 } : Room) s m args below meth c H locs 0 0 (MQ below (va_Qv (fun (u : PH) => u = out) (ph_B D cy b A fl) A) args s 0 0 A) (F0 m 17 ls [])) : ∀ (n : Nat) {h : PH} {a0 : Nat} {x1 : Int32} {x2 : Int32} {x3 : Int32} {x4 : Int32} (f : F12_layPlan_33 k17 n h a0 x1 x2 x3 x4 = some out) {H : Heap} {locs : List Loc} (I : ph_I D cy b A fl h s H locs) {ls : Array Slot} (hl : lv_has ls 6 [(0, .ref (b + a0)), (1, .int x1), (2, .int x2), (3, .int x3), (4, .int x4)]), W p l e ({ frames := 8, cells := 0, slots := 0, locals := 192 } : Room) s m args below meth c H locs 0 0 (MQ below (va_Qv (fun (u : PH) => u = out) (ph_B D cy b A fl) A) args s 0 0 A) (F0 m 33 ls []) := by
  intro n
  induction n with
  | zero => intro h a0 x1 x2 x3 x4 f; rw [F12_layPlan_33] at f; cases f
  | succ n ih =>
    intro h a0 x1 x2 x3 x4 f H locs I ls hl
    rw [F12_layPlan_33] at f
    refine lv_iload_n S.1 S.2.1 dX12_layPlan_33 rfl (lv_at hl 3 rfl) ?_
    refine lv_aload_n S.1 S.2.1 dX12_layPlan_34 rfl (lv_at hl 0 rfl) ?_
    obtain ⟨v1, e2, f⟩ := ob f
    refine o_gI S lf12_layPlan_253 I e2 dX12_layPlan_35 ?_
    refine lv_icmp_ge (tgt := 65) S.1 S.2.1 dX12_layPlan_38 (by decide) (fun q3 => ?_) (fun q3 => ?_)
    · have f := (if_pos q3).symm.trans f
      exact T12_layPlan_65 S hr hlo (fun f _ _ I _ hl => hk17 f _ _ I _ hl) f I (lv_sub hl [0, 1, 2, 3] rfl)
    · have f := (if_neg q3).symm.trans f
      refine lv_aload_n S.1 S.2.1 dX12_layPlan_41 rfl (lv_at hl 0 rfl) ?_
      obtain ⟨r4, e5, f⟩ := ob f
      refine o_gR S lf12_layPlan_48 I e5 dX12_layPlan_42 ?_
      refine lv_iload_n S.1 S.2.1 dX12_layPlan_45 rfl (lv_at hl 3 rfl) ?_
      obtain ⟨v7, e6, f⟩ := ob f
      refine o_iald S I e6 dX12_layPlan_46 ?_
      refine lv_aload_n S.1 S.2.1 dX12_layPlan_47 rfl (lv_at hl 0 rfl) ?_
      obtain ⟨r8, e9, f⟩ := ob f
      refine o_gR S lf12_layPlan_48 I e9 dX12_layPlan_48 ?_
      refine lv_iload_n S.1 S.2.1 dX12_layPlan_51 rfl (lv_at hl 2 rfl) ?_
      obtain ⟨v11, e10, f⟩ := ob f
      refine o_iald S I e10 dX12_layPlan_52 ?_
      refine lv_iload S.1 S.2.1 dX12_layPlan_53 (lv_at hl 4 rfl) ?_
      refine lv_iadd S.1 S.2.1 dX12_layPlan_55 ?_
      refine lv_icmp_ge (tgt := 65) S.1 S.2.1 dX12_layPlan_56 (by decide) (fun q12 => ?_) (fun q12 => ?_)
      · have f := (if_pos q12).symm.trans f
        exact T12_layPlan_65 S hr hlo (fun f _ _ I _ hl => hk17 f _ _ I _ hl) f I (lv_sub hl [0, 1, 2, 3] rfl)
      · have f := (if_neg q12).symm.trans f
        refine lv_iinc (v := (x3 + 1)) (lv' := [(3, .int (x3 + 1)), (0, .ref (b + a0)), (1, .int x1), (2, .int x2), (4, .int x4)]) S.1 S.2.1 dX12_layPlan_59 hl (k := 3) rfl (congrArg (fun z => x3 + z) (by decide)) (by decide) rfl (fun ls hl => ?_)
        refine lv_goto (tgt := 33) S.1 S.2.1 dX12_layPlan_62 (by decide) ?_
        exact ih f I (lv_sub hl [1, 2, 3, 0, 4] rfl)
set_option maxHeartbeats 4000000 in
set_option maxRecDepth 100000 in
theorem T12_layPlan_17 (S : CallFix p m c cX12_layPlan 6 s args vX12_layPlan RX12) (hr : meth.sig.returnType = none) (hlo : meth.locks = false) {out : PH} : ∀ (n : Nat) {h : PH} {a0 : Nat} {x1 : Int32} {x2 : Int32} (f : F12_layPlan_17  n h a0 x1 x2 = some out) {H : Heap} {locs : List Loc} (I : ph_I D cy b A fl h s H locs) {ls : Array Slot} (hl : lv_has ls 6 [(0, .ref (b + a0)), (1, .int x1), (2, .int x2)]), W p l e ({ frames := 8, cells := 0, slots := 0, locals := 192 } : Room) s m args below meth c H locs 0 0 (MQ below (va_Qv (fun (u : PH) => u = out) (ph_B D cy b A fl) A) args s 0 0 A) (F0 m 17 ls []) := by
  intro n
  induction n with
  | zero => intro h a0 x1 x2 f; rw [F12_layPlan_17] at f; cases f
  | succ n ih =>
    intro h a0 x1 x2 f H locs I ls hl
    rw [F12_layPlan_17] at f
    refine lv_iload_n S.1 S.2.1 dX12_layPlan_17 rfl (lv_at hl 2 rfl) ?_
    refine lv_if_lt (tgt := 131) S.1 S.2.1 dX12_layPlan_18 (by decide) (fun q1 => ?_) (fun q1 => ?_)
    · have f := (if_pos q1).symm.trans f
      exact o_vret S hr hlo I f dX12_layPlan_131
    · have f := (if_neg q1).symm.trans f
      refine lv_iload_n S.1 S.2.1 dX12_layPlan_21 rfl (lv_at hl 2 rfl) ?_
      refine lv_iconst (v := 1) S.1 S.2.1 dX12_layPlan_22 (by decide) ?_
      refine lv_iadd S.1 S.2.1 dX12_layPlan_23 ?_
      refine lv_istore_n (lv' := [(3, .int (x2 + 1)), (0, .ref (b + a0)), (1, .int x1), (2, .int x2)]) S.1 S.2.1 dX12_layPlan_24 rfl hl (by decide) rfl (fun ls hl => ?_)
      refine lv_aload_n S.1 S.2.1 dX12_layPlan_25 rfl (lv_at hl 1 rfl) ?_
      refine lv_iload_n S.1 S.2.1 dX12_layPlan_26 rfl (lv_at hl 2 rfl) ?_
      refine lv_iload_n S.1 S.2.1 dX12_layPlan_27 rfl (lv_at hl 3 rfl) ?_
      obtain ⟨o2, e3, f⟩ := ob f
      refine o_Vi S (As := [.int x1, .int x2]) (rest := []) (ci := 12) (M12_awayOf l D cy b A fl e3) gX12_layPlan_X12_awayOf rfl rfl rfl cd12_awayOf ⟨Nat.le_of_ble_eq_true rfl, Nat.le_of_ble_eq_true rfl⟩ I (gd e3).1 clX12 rfl rfl hl.1 rfl (Nat.le_of_ble_eq_true rfl) dX12_layPlan_28 ⟨Nat.le_of_ble_eq_true rfl, Nat.le_of_ble_eq_true rfl⟩ (fun H locs I => ?_)
      refine lv_istore (lv' := [(4, .int o2.1), (3, .int (x2 + 1)), (0, .ref (b + a0)), (1, .int x1), (2, .int x2)]) S.1 S.2.1 dX12_layPlan_31 hl (by decide) rfl (fun ls hl => ?_)
      exact T12_layPlan_33 S hr hlo (fun f _ _ I _ hl => ih f I hl) 1024 f I (lv_sub hl [2, 3, 4, 1, 0] rfl)
set_option maxHeartbeats 4000000 in
set_option maxRecDepth 100000 in
theorem T12_layPlan_0 (S : CallFix p m c cX12_layPlan 6 s args vX12_layPlan RX12) (hr : meth.sig.returnType = none) (hlo : meth.locks = false) {out : PH} {h : PH} {a0 : Nat} {x1 : Int32} (f : F12_layPlan_0  h a0 x1 = some out) {H : Heap} {locs : List Loc} (I : ph_I D cy b A fl h s H locs) {ls : Array Slot} (hl : lv_has ls 6 [(0, .ref (b + a0)), (1, .int x1)]) : W p l e ({ frames := 8, cells := 0, slots := 0, locals := 192 } : Room) s m args below meth c H locs 0 0 (MQ below (va_Qv (fun (u : PH) => u = out) (ph_B D cy b A fl) A) args s 0 0 A) (F0 m 0 ls []) := by
  unfold F12_layPlan_0 at f
  refine lv_aload_n S.1 S.2.1 dX12_layPlan_0 rfl (lv_at hl 0 rfl) ?_
  obtain ⟨r1, e2, f⟩ := ob f
  refine o_gR S lf12_layPlan_127 I e2 dX12_layPlan_1 ?_
  refine lv_aload_n S.1 S.2.1 dX12_layPlan_4 rfl (lv_at hl 0 rfl) ?_
  obtain ⟨v3, e4, f⟩ := ob f
  refine o_gI S lf12_layPlan_253 I e4 dX12_layPlan_5 ?_
  refine lv_iconst (v := 0) S.1 S.2.1 dX12_layPlan_8 (by decide) ?_
  obtain ⟨h6, e5, f⟩ := ob f
  refine o_iast S I e5 dX12_layPlan_9 (fun H locs I => ?_)
  refine lv_aload_n S.1 S.2.1 dX12_layPlan_10 rfl (lv_at hl 0 rfl) ?_
  obtain ⟨v7, e8, f⟩ := ob f
  refine o_gI S lf12_layPlan_253 I e8 dX12_layPlan_11 ?_
  refine lv_iconst (v := 1) S.1 S.2.1 dX12_layPlan_14 (by decide) ?_
  refine lv_isub S.1 S.2.1 dX12_layPlan_15 ?_
  refine lv_istore_n (lv' := [(2, .int (v7 - 1)), (0, .ref (b + a0)), (1, .int x1)]) S.1 S.2.1 dX12_layPlan_16 rfl hl (by decide) rfl (fun ls hl => ?_)
  exact T12_layPlan_17 S hr hlo  1024 f I (lv_sub hl [1, 2, 0] rfl)
theorem M12_layPlan (l : Launch) (D : va_G) (cy : Nat → ClassId) (b : Nat) (A : Nat → Prop) (fl : Bool) {h : PH} {a0 : Nat} {x1 : Int32} {out : PH} (f : F12_layPlan h a0 x1 = some out) : Met l yX12_layPlan vX12_layPlan ({ frames := 8, cells := 0, slots := 0, locals := 192 } : Room) (va_Pc [.ref (b + a0), .int x1] (ph_B D cy b A fl h)) (va_Qv (fun (u : PH) => u = out) (ph_B D cy b A fl) A) 0 0 A :=
  o_met (by decide) rfl (Nat.le_of_ble_eq_true rfl) rfl (fun p e s m below meth c S hr hlo hnm ls hl I => T12_layPlan_0 S hr hlo ((gd f).2) I (lv_sub hl [0, 1] rfl))
def vX12_waitsFor : List Cond := .code yX12_waitsFor cX12_waitsFor 2 none :: TB
theorem lf12_waitsFor_75 : Fl vX12_waitsFor RX12 75 12 44 := ⟨RX12, TX12, 87, rfl, by decide, (fun w h9 => List.mem_cons_of_mem _ (wC_wsX120 w h9)), (List.mem_cons_of_mem _ wT_10_18)⟩
theorem lf12_waitsFor_301 : Fl vX12_waitsFor RX12 301 12 46 := ⟨RX12, TX12, 87, rfl, by decide, (fun w h9 => List.mem_cons_of_mem _ (wC_wsX120 w h9)), (List.mem_cons_of_mem _ wT_30_0)⟩
theorem lp12_waitsFor_301 : Pl vX12_waitsFor RX12 301 12 46 .int := ⟨RX12, TX12, 87, tyX12, rfl, by decide, (fun w h9 => List.mem_cons_of_mem _ (wC_wsX120 w h9)), (List.mem_cons_of_mem _ wT_30_0), tyX12_ok, nmX12, rfl, rfl⟩
theorem cd12_waitsFor : Cd yX12_waitsFor 1 := ⟨by decide, by decide, by decide +kernel⟩
set_option maxHeartbeats 4000000 in
set_option maxRecDepth 100000 in
theorem T12_waitsFor_0 (S : CallFix p m c cX12_waitsFor 2 s args vX12_waitsFor RX12) (hr : meth.sig.returnType = none) (hlo : meth.locks = false) {out : PH} {h : PH} {a0 : Nat} {x1 : Int32} (f : F12_waitsFor_0  h a0 x1 = some out) {H : Heap} {locs : List Loc} (I : ph_I D cy b A fl h s H locs) {ls : Array Slot} (hl : lv_has ls 2 [(0, .ref (b + a0)), (1, .int x1)]) : W p l e ({ frames := 0, cells := 0, slots := 0, locals := 0 } : Room) s m args below meth c H locs 0 0 (MQ below (va_Qv (fun (u : PH) => u = out) (ph_B D cy b A fl) A) args s 0 0 A) (F0 m 0 ls []) := by
  unfold F12_waitsFor_0 at f
  refine lv_aload_n S.1 S.2.1 dX12_waitsFor_0 rfl (lv_at hl 0 rfl) ?_
  obtain ⟨r1, e2, f⟩ := ob f
  refine o_gR S lf12_waitsFor_75 I e2 dX12_waitsFor_1 ?_
  refine lv_aload_n S.1 S.2.1 dX12_waitsFor_4 rfl (lv_at hl 0 rfl) ?_
  obtain ⟨v3, e4, f⟩ := ob f
  refine o_gI S lf12_waitsFor_301 I e4 dX12_waitsFor_5 ?_
  refine lv_iload_n S.1 S.2.1 dX12_waitsFor_8 rfl (lv_at hl 1 rfl) ?_
  obtain ⟨h6, e5, f⟩ := ob f
  refine o_iast S I e5 dX12_waitsFor_9 (fun H locs I => ?_)
  refine lv_aload_n S.1 S.2.1 dX12_waitsFor_10 rfl (lv_at hl 0 rfl) ?_
  refine lv_dup S.1 S.2.1 dX12_waitsFor_11 rfl ?_
  obtain ⟨v7, e8, f⟩ := ob f
  refine o_gI S lf12_waitsFor_301 I e8 dX12_waitsFor_12 ?_
  refine lv_iconst (v := 1) S.1 S.2.1 dX12_waitsFor_15 (by decide) ?_
  refine lv_iadd S.1 S.2.1 dX12_waitsFor_16 ?_
  obtain ⟨h9, e10, f⟩ := ob f
  refine o_pI S lp12_waitsFor_301 I e10 dX12_waitsFor_17 (fun H locs I => ?_)
  exact o_vret S hr hlo I f dX12_waitsFor_20
theorem M12_waitsFor (l : Launch) (D : va_G) (cy : Nat → ClassId) (b : Nat) (A : Nat → Prop) (fl : Bool) {h : PH} {a0 : Nat} {x1 : Int32} {out : PH} (f : F12_waitsFor h a0 x1 = some out) : Met l yX12_waitsFor vX12_waitsFor ({ frames := 0, cells := 0, slots := 0, locals := 0 } : Room) (va_Pc [.ref (b + a0), .int x1] (ph_B D cy b A fl h)) (va_Qv (fun (u : PH) => u = out) (ph_B D cy b A fl) A) 0 0 A :=
  o_met (by decide) rfl (Nat.le_of_ble_eq_true rfl) rfl (fun p e s m below meth c S hr hlo hnm ls hl I => T12_waitsFor_0 S hr hlo ((gd f).2) I (lv_sub hl [0, 1] rfl))
def vX12_nameMet : List Cond := .code yX12_nameMet cX12_nameMet 1 (some .int) :: TB
theorem lf12_nameMet_172 : Fl vX12_nameMet RX12 172 12 8 := ⟨RX12, TX12, 87, rfl, by decide, (fun w h9 => List.mem_cons_of_mem _ (wC_wsX120 w h9)), (List.mem_cons_of_mem _ wT_26_20)⟩
theorem lf12_nameMet_183 : Fl vX12_nameMet RX12 183 12 9 := ⟨RX12, TX12, 87, rfl, by decide, (fun w h9 => List.mem_cons_of_mem _ (wC_wsX120 w h9)), (List.mem_cons_of_mem _ wT_27_2)⟩
theorem cd12_nameMet : Cd yX12_nameMet 0 := ⟨by decide, by decide, by decide +kernel⟩
set_option maxHeartbeats 4000000 in
set_option maxRecDepth 100000 in
theorem T12_nameMet_0 (S : CallFix p m c cX12_nameMet 1 s args vX12_nameMet RX12) (hr : meth.sig.returnType = (some .int)) (hlo : meth.locks = false) {out : Int32 × PH} {h : PH} {a0 : Nat} (f : F12_nameMet_0  h a0 = some out) {H : Heap} {locs : List Loc} (I : ph_I D cy b A fl h s H locs) {ls : Array Slot} (hl : lv_has ls 1 [(0, .ref (b + a0))]) : W p l e ({ frames := 0, cells := 0, slots := 0, locals := 0 } : Room) s m args below meth c H locs 0 0 (MQ below (va_Qi (fun (r : Int32) (u : PH) => (r, u) = out) (ph_B D cy b A fl) A) args s 0 0 A) (F0 m 0 ls []) := by
  unfold F12_nameMet_0 at f
  refine lv_aload_n S.1 S.2.1 dX12_nameMet_0 rfl (lv_at hl 0 rfl) ?_
  obtain ⟨v1, e2, f⟩ := ob f
  refine o_gI S lf12_nameMet_172 I e2 dX12_nameMet_1 ?_
  refine lv_iconst (v := 1) S.1 S.2.1 dX12_nameMet_4 (by decide) ?_
  refine lv_icmp_ne (tgt := 27) S.1 S.2.1 dX12_nameMet_5 (by decide) (fun q3 => ?_) (fun q3 => ?_)
  · have f := (if_neg q3).symm.trans f
    refine lv_iconst (v := (-1)) S.1 S.2.1 dX12_nameMet_27 (by decide) ?_
    exact o_iret S hr hlo I f dX12_nameMet_28
  · have f := (if_pos q3).symm.trans f
    refine lv_aload_n S.1 S.2.1 dX12_nameMet_8 rfl (lv_at hl 0 rfl) ?_
    obtain ⟨v4, e5, f⟩ := ob f
    refine o_gI S lf12_nameMet_183 I e5 dX12_nameMet_9 ?_
    refine lv_bipush (v := 18) S.1 S.2.1 dX12_nameMet_12 (by decide) ?_
    refine lv_icmp_lt (tgt := 27) S.1 S.2.1 dX12_nameMet_14 (by decide) (fun q6 => ?_) (fun q6 => ?_)
    · have f := (if_pos q6).symm.trans f
      refine lv_iconst (v := (-1)) S.1 S.2.1 dX12_nameMet_27 (by decide) ?_
      exact o_iret S hr hlo I f dX12_nameMet_28
    · have f := (if_neg q6).symm.trans f
      refine lv_aload_n S.1 S.2.1 dX12_nameMet_17 rfl (lv_at hl 0 rfl) ?_
      obtain ⟨v7, e8, f⟩ := ob f
      refine o_gI S lf12_nameMet_183 I e8 dX12_nameMet_18 ?_
      refine lv_bipush (v := 18) S.1 S.2.1 dX12_nameMet_21 (by decide) ?_
      refine lv_isub S.1 S.2.1 dX12_nameMet_23 ?_
      refine lv_goto (tgt := 28) S.1 S.2.1 dX12_nameMet_24 (by decide) ?_
      exact o_iret S hr hlo I f dX12_nameMet_28
theorem M12_nameMet (l : Launch) (D : va_G) (cy : Nat → ClassId) (b : Nat) (A : Nat → Prop) (fl : Bool) {h : PH} {a0 : Nat} {out : Int32 × PH} (f : F12_nameMet h a0 = some out) : Met l yX12_nameMet vX12_nameMet ({ frames := 0, cells := 0, slots := 0, locals := 0 } : Room) (va_Pc [.ref (b + a0)] (ph_B D cy b A fl h)) (va_Qi (fun (r : Int32) (u : PH) => (r, u) = out) (ph_B D cy b A fl) A) 0 0 A :=
  o_met (by decide) rfl (Nat.le_of_ble_eq_true rfl) rfl (fun p e s m below meth c S hr hlo hnm ls hl I => T12_nameMet_0 S hr hlo ((gd f).2) I (lv_sub hl [0] rfl))
end
