theorem dX2_oneIf_0 : decode cX2_oneIf 0 = .ok (.iload_n 0, 1) := by decide +kernel
theorem dX2_oneIf_1 : decode cX2_oneIf 1 = .ok (.ifCond .eq 7, 3) := by decide +kernel
theorem dX2_oneIf_4 : decode cX2_oneIf 4 = .ok (.lconst 1, 1) := by decide +kernel
theorem dX2_oneIf_5 : decode cX2_oneIf 5 = .ok (.goto 4, 3) := by decide +kernel
theorem dX2_oneIf_8 : decode cX2_oneIf 8 = .ok (.lconst 0, 1) := by decide +kernel
theorem dX2_oneIf_9 : decode cX2_oneIf 9 = .ok (.lreturn, 1) := by decide +kernel
theorem dX2_product_0 : decode cX2_product 0 = .ok (.lload_n 0, 1) := by decide +kernel
theorem dX2_product_1 : decode cX2_product 1 = .ok (.lconst 0, 1) := by decide +kernel
theorem dX2_product_2 : decode cX2_product 2 = .ok (.lcmp, 1) := by decide +kernel
theorem dX2_product_3 : decode cX2_product 3 = .ok (.ifCond .ge 8, 3) := by decide +kernel
theorem dX2_product_6 : decode cX2_product 6 = .ok (.lload_n 0, 1) := by decide +kernel
theorem dX2_product_7 : decode cX2_product 7 = .ok (.lneg, 1) := by decide +kernel
theorem dX2_product_8 : decode cX2_product 8 = .ok (.goto 4, 3) := by decide +kernel
theorem dX2_product_11 : decode cX2_product 11 = .ok (.lload_n 0, 1) := by decide +kernel
theorem dX2_product_12 : decode cX2_product 12 = .ok (.lstore 4, 2) := by decide +kernel
theorem dX2_product_14 : decode cX2_product 14 = .ok (.lload_n 2, 1) := by decide +kernel
theorem dX2_product_15 : decode cX2_product 15 = .ok (.lconst 0, 1) := by decide +kernel
theorem dX2_product_16 : decode cX2_product 16 = .ok (.lcmp, 1) := by decide +kernel
theorem dX2_product_17 : decode cX2_product 17 = .ok (.ifCond .ge 8, 3) := by decide +kernel
theorem dX2_product_20 : decode cX2_product 20 = .ok (.lload_n 2, 1) := by decide +kernel
theorem dX2_product_21 : decode cX2_product 21 = .ok (.lneg, 1) := by decide +kernel
theorem dX2_product_22 : decode cX2_product 22 = .ok (.goto 4, 3) := by decide +kernel
theorem dX2_product_25 : decode cX2_product 25 = .ok (.lload_n 2, 1) := by decide +kernel
theorem dX2_product_26 : decode cX2_product 26 = .ok (.lstore 6, 2) := by decide +kernel
theorem dX2_product_28 : decode cX2_product 28 = .ok (.lload 6, 2) := by decide +kernel
theorem dX2_product_30 : decode cX2_product 30 = .ok (.lconst 0, 1) := by decide +kernel
theorem dX2_product_31 : decode cX2_product 31 = .ok (.lcmp, 1) := by decide +kernel
theorem dX2_product_32 : decode cX2_product 32 = .ok (.ifCond .le 19, 3) := by decide +kernel
theorem dX2_product_35 : decode cX2_product 35 = .ok (.lload 4, 2) := by decide +kernel
theorem dX2_product_37 : decode cX2_product 37 = .ok (.ldc2_w 27, 3) := by decide +kernel
theorem dX2_product_40 : decode cX2_product 40 = .ok (.lload 6, 2) := by decide +kernel
theorem dX2_product_42 : decode cX2_product 42 = .ok (.ldiv, 1) := by decide +kernel
theorem dX2_product_43 : decode cX2_product 43 = .ok (.lcmp, 1) := by decide +kernel
theorem dX2_product_44 : decode cX2_product 44 = .ok (.ifCond .le 7, 3) := by decide +kernel
theorem dX2_product_47 : decode cX2_product 47 = .ok (.ldc2_w 31, 3) := by decide +kernel
theorem dX2_product_50 : decode cX2_product 50 = .ok (.lreturn, 1) := by decide +kernel
theorem dX2_product_51 : decode cX2_product 51 = .ok (.lload_n 0, 1) := by decide +kernel
theorem dX2_product_52 : decode cX2_product 52 = .ok (.lload_n 2, 1) := by decide +kernel
theorem dX2_product_53 : decode cX2_product 53 = .ok (.lmul, 1) := by decide +kernel
theorem dX2_product_54 : decode cX2_product 54 = .ok (.lreturn, 1) := by decide +kernel
theorem dX2_forget_0 : decode cX2_forget 0 = .ok (.aload_n 0, 1) := by decide +kernel
theorem dX2_forget_1 : decode cX2_forget 1 = .ok (.iconst 0, 1) := by decide +kernel
theorem dX2_forget_2 : decode cX2_forget 2 = .ok (.putfield 15, 3) := by decide +kernel
theorem dX2_forget_5 : decode cX2_forget 5 = .ok (.aload_n 0, 1) := by decide +kernel
theorem dX2_forget_6 : decode cX2_forget 6 = .ok (.iconst 0, 1) := by decide +kernel
theorem dX2_forget_7 : decode cX2_forget 7 = .ok (.putfield 19, 3) := by decide +kernel
theorem dX2_forget_10 : decode cX2_forget 10 = .ok (.return_, 1) := by decide +kernel
theorem dX2_add_0 : decode cX2_add 0 = .ok (.aload_n 0, 1) := by decide +kernel
theorem dX2_add_1 : decode cX2_add 1 = .ok (.getfield 15, 3) := by decide +kernel
theorem dX2_add_4 : decode cX2_add 4 = .ok (.aload_n 0, 1) := by decide +kernel
theorem dX2_add_5 : decode cX2_add 5 = .ok (.getfield 9, 3) := by decide +kernel
theorem dX2_add_8 : decode cX2_add 8 = .ok (.arraylength, 1) := by decide +kernel
theorem dX2_add_9 : decode cX2_add 9 = .ok (.if_icmp .ge 23, 3) := by decide +kernel
theorem dX2_add_12 : decode cX2_add 12 = .ok (.aload_n 0, 1) := by decide +kernel
theorem dX2_add_13 : decode cX2_add 13 = .ok (.getfield 9, 3) := by decide +kernel
theorem dX2_add_16 : decode cX2_add 16 = .ok (.aload_n 0, 1) := by decide +kernel
theorem dX2_add_17 : decode cX2_add 17 = .ok (.getfield 15, 3) := by decide +kernel
theorem dX2_add_20 : decode cX2_add 20 = .ok (.iload_n 1, 1) := by decide +kernel
theorem dX2_add_21 : decode cX2_add 21 = .ok (.iastore, 1) := by decide +kernel
theorem dX2_add_22 : decode cX2_add 22 = .ok (.aload_n 0, 1) := by decide +kernel
theorem dX2_add_23 : decode cX2_add 23 = .ok (.dup, 1) := by decide +kernel
theorem dX2_add_24 : decode cX2_add 24 = .ok (.getfield 15, 3) := by decide +kernel
theorem dX2_add_27 : decode cX2_add 27 = .ok (.iconst 1, 1) := by decide +kernel
theorem dX2_add_28 : decode cX2_add 28 = .ok (.iadd, 1) := by decide +kernel
theorem dX2_add_29 : decode cX2_add 29 = .ok (.putfield 15, 3) := by decide +kernel
theorem dX2_add_32 : decode cX2_add 32 = .ok (.return_, 1) := by decide +kernel
theorem dX8_cells_0 : decode cX8_cells 0 = .ok (.aload_n 0, 1) := by decide +kernel
theorem dX8_cells_1 : decode cX8_cells 1 = .ok (.getfield 32, 3) := by decide +kernel
theorem dX8_cells_4 : decode cX8_cells 4 = .ok (.aload_n 0, 1) := by decide +kernel
theorem dX8_cells_5 : decode cX8_cells 5 = .ok (.getfield 36, 3) := by decide +kernel
theorem dX8_cells_8 : decode cX8_cells 8 = .ok (.imul, 1) := by decide +kernel
theorem dX8_cells_9 : decode cX8_cells 9 = .ok (.ireturn, 1) := by decide +kernel
theorem dX8_columnOf_0 : decode cX8_columnOf 0 = .ok (.aload_n 0, 1) := by decide +kernel
theorem dX8_columnOf_1 : decode cX8_columnOf 1 = .ok (.getfield 32, 3) := by decide +kernel
theorem dX8_columnOf_4 : decode cX8_columnOf 4 = .ok (.ifCond .le 12, 3) := by decide +kernel
theorem dX8_columnOf_7 : decode cX8_columnOf 7 = .ok (.iload_n 1, 1) := by decide +kernel
theorem dX8_columnOf_8 : decode cX8_columnOf 8 = .ok (.aload_n 0, 1) := by decide +kernel
theorem dX8_columnOf_9 : decode cX8_columnOf 9 = .ok (.getfield 32, 3) := by decide +kernel
theorem dX8_columnOf_12 : decode cX8_columnOf 12 = .ok (.irem, 1) := by decide +kernel
theorem dX8_columnOf_13 : decode cX8_columnOf 13 = .ok (.goto 4, 3) := by decide +kernel
theorem dX8_columnOf_16 : decode cX8_columnOf 16 = .ok (.iconst 0, 1) := by decide +kernel
theorem dX8_columnOf_17 : decode cX8_columnOf 17 = .ok (.ireturn, 1) := by decide +kernel
theorem dX8_rowOf_0 : decode cX8_rowOf 0 = .ok (.aload_n 0, 1) := by decide +kernel
theorem dX8_rowOf_1 : decode cX8_rowOf 1 = .ok (.getfield 32, 3) := by decide +kernel
theorem dX8_rowOf_4 : decode cX8_rowOf 4 = .ok (.ifCond .le 12, 3) := by decide +kernel
theorem dX8_rowOf_7 : decode cX8_rowOf 7 = .ok (.iload_n 1, 1) := by decide +kernel
theorem dX8_rowOf_8 : decode cX8_rowOf 8 = .ok (.aload_n 0, 1) := by decide +kernel
theorem dX8_rowOf_9 : decode cX8_rowOf 9 = .ok (.getfield 32, 3) := by decide +kernel
theorem dX8_rowOf_12 : decode cX8_rowOf 12 = .ok (.idiv, 1) := by decide +kernel
theorem dX8_rowOf_13 : decode cX8_rowOf 13 = .ok (.goto 4, 3) := by decide +kernel
theorem dX8_rowOf_16 : decode cX8_rowOf 16 = .ok (.iconst 0, 1) := by decide +kernel
theorem dX8_rowOf_17 : decode cX8_rowOf 17 = .ok (.ireturn, 1) := by decide +kernel
theorem dX8_farFrom_0 : decode cX8_farFrom 0 = .ok (.aload_n 0, 1) := by decide +kernel
theorem dX8_farFrom_1 : decode cX8_farFrom 1 = .ok (.getfield 32, 3) := by decide +kernel
theorem dX8_farFrom_4 : decode cX8_farFrom 4 = .ok (.iconst 1, 1) := by decide +kernel
theorem dX8_farFrom_5 : decode cX8_farFrom 5 = .ok (.if_icmp .ge 5, 3) := by decide +kernel
theorem dX8_farFrom_8 : decode cX8_farFrom 8 = .ok (.iconst 0, 1) := by decide +kernel
theorem dX8_farFrom_9 : decode cX8_farFrom 9 = .ok (.ireturn, 1) := by decide +kernel
theorem dX8_farFrom_10 : decode cX8_farFrom 10 = .ok (.iload_n 1, 1) := by decide +kernel
theorem dX8_farFrom_11 : decode cX8_farFrom 11 = .ok (.aload_n 0, 1) := by decide +kernel
theorem dX8_farFrom_12 : decode cX8_farFrom 12 = .ok (.getfield 32, 3) := by decide +kernel
theorem dX8_farFrom_15 : decode cX8_farFrom 15 = .ok (.irem, 1) := by decide +kernel
theorem dX8_farFrom_16 : decode cX8_farFrom 16 = .ok (.iload_n 2, 1) := by decide +kernel
theorem dX8_farFrom_17 : decode cX8_farFrom 17 = .ok (.isub, 1) := by decide +kernel
theorem dX8_farFrom_18 : decode cX8_farFrom 18 = .ok (.invokestatic 73, 3) := by decide +kernel
theorem dX8_farFrom_21 : decode cX8_farFrom 21 = .ok (.iload_n 1, 1) := by decide +kernel
theorem dX8_farFrom_22 : decode cX8_farFrom 22 = .ok (.aload_n 0, 1) := by decide +kernel
theorem dX8_farFrom_23 : decode cX8_farFrom 23 = .ok (.getfield 32, 3) := by decide +kernel
theorem dX8_farFrom_26 : decode cX8_farFrom 26 = .ok (.idiv, 1) := by decide +kernel
theorem dX8_farFrom_27 : decode cX8_farFrom 27 = .ok (.aload_n 0, 1) := by decide +kernel
theorem dX8_farFrom_28 : decode cX8_farFrom 28 = .ok (.getfield 42, 3) := by decide +kernel
theorem dX8_farFrom_31 : decode cX8_farFrom 31 = .ok (.isub, 1) := by decide +kernel
theorem dX8_farFrom_32 : decode cX8_farFrom 32 = .ok (.invokestatic 73, 3) := by decide +kernel
theorem dX8_farFrom_35 : decode cX8_farFrom 35 = .ok (.iadd, 1) := by decide +kernel
theorem dX8_farFrom_36 : decode cX8_farFrom 36 = .ok (.ireturn, 1) := by decide +kernel
theorem dX8_cellBeside_0 : decode cX8_cellBeside 0 = .ok (.aload_n 0, 1) := by decide +kernel
theorem dX8_cellBeside_1 : decode cX8_cellBeside 1 = .ok (.iload_n 1, 1) := by decide +kernel
theorem dX8_cellBeside_2 : decode cX8_cellBeside 2 = .ok (.invokevirtual 79, 3) := by decide +kernel
theorem dX8_cellBeside_5 : decode cX8_cellBeside 5 = .ok (.istore_n 3, 1) := by decide +kernel
theorem dX8_cellBeside_6 : decode cX8_cellBeside 6 = .ok (.aload_n 0, 1) := by decide +kernel
theorem dX8_cellBeside_7 : decode cX8_cellBeside 7 = .ok (.iload_n 1, 1) := by decide +kernel
theorem dX8_cellBeside_8 : decode cX8_cellBeside 8 = .ok (.invokevirtual 82, 3) := by decide +kernel
theorem dX8_cellBeside_11 : decode cX8_cellBeside 11 = .ok (.istore 4, 2) := by decide +kernel
theorem dX8_cellBeside_13 : decode cX8_cellBeside 13 = .ok (.iload_n 2, 1) := by decide +kernel
theorem dX8_cellBeside_14 : decode cX8_cellBeside 14 = .ok (.tableswitch 98 0 3 #[30, 46, 64, 86], 30) := by decide +kernel
theorem dX8_cellBeside_44 : decode cX8_cellBeside 44 = .ok (.iload 4, 2) := by decide +kernel
theorem dX8_cellBeside_46 : decode cX8_cellBeside 46 = .ok (.ifCond .le 12, 3) := by decide +kernel
theorem dX8_cellBeside_49 : decode cX8_cellBeside 49 = .ok (.iload_n 1, 1) := by decide +kernel
theorem dX8_cellBeside_50 : decode cX8_cellBeside 50 = .ok (.aload_n 0, 1) := by decide +kernel
theorem dX8_cellBeside_51 : decode cX8_cellBeside 51 = .ok (.getfield 32, 3) := by decide +kernel
theorem dX8_cellBeside_54 : decode cX8_cellBeside 54 = .ok (.isub, 1) := by decide +kernel
theorem dX8_cellBeside_55 : decode cX8_cellBeside 55 = .ok (.goto 4, 3) := by decide +kernel
theorem dX8_cellBeside_58 : decode cX8_cellBeside 58 = .ok (.iconst (-1), 1) := by decide +kernel
theorem dX8_cellBeside_59 : decode cX8_cellBeside 59 = .ok (.ireturn, 1) := by decide +kernel
theorem dX8_cellBeside_60 : decode cX8_cellBeside 60 = .ok (.iload_n 3, 1) := by decide +kernel
theorem dX8_cellBeside_61 : decode cX8_cellBeside 61 = .ok (.aload_n 0, 1) := by decide +kernel
theorem dX8_cellBeside_62 : decode cX8_cellBeside 62 = .ok (.getfield 32, 3) := by decide +kernel
theorem dX8_cellBeside_65 : decode cX8_cellBeside 65 = .ok (.iconst 1, 1) := by decide +kernel
theorem dX8_cellBeside_66 : decode cX8_cellBeside 66 = .ok (.isub, 1) := by decide +kernel
theorem dX8_cellBeside_67 : decode cX8_cellBeside 67 = .ok (.if_icmp .ge 9, 3) := by decide +kernel
theorem dX8_cellBeside_70 : decode cX8_cellBeside 70 = .ok (.iload_n 1, 1) := by decide +kernel
theorem dX8_cellBeside_71 : decode cX8_cellBeside 71 = .ok (.iconst 1, 1) := by decide +kernel
theorem dX8_cellBeside_72 : decode cX8_cellBeside 72 = .ok (.iadd, 1) := by decide +kernel
theorem dX8_cellBeside_73 : decode cX8_cellBeside 73 = .ok (.goto 4, 3) := by decide +kernel
theorem dX8_cellBeside_76 : decode cX8_cellBeside 76 = .ok (.iconst (-1), 1) := by decide +kernel
theorem dX8_cellBeside_77 : decode cX8_cellBeside 77 = .ok (.ireturn, 1) := by decide +kernel
theorem dX8_cellBeside_78 : decode cX8_cellBeside 78 = .ok (.iload 4, 2) := by decide +kernel
theorem dX8_cellBeside_80 : decode cX8_cellBeside 80 = .ok (.aload_n 0, 1) := by decide +kernel
theorem dX8_cellBeside_81 : decode cX8_cellBeside 81 = .ok (.getfield 36, 3) := by decide +kernel
theorem dX8_cellBeside_84 : decode cX8_cellBeside 84 = .ok (.iconst 1, 1) := by decide +kernel
theorem dX8_cellBeside_85 : decode cX8_cellBeside 85 = .ok (.isub, 1) := by decide +kernel
theorem dX8_cellBeside_86 : decode cX8_cellBeside 86 = .ok (.if_icmp .ge 12, 3) := by decide +kernel
theorem dX8_cellBeside_89 : decode cX8_cellBeside 89 = .ok (.iload_n 1, 1) := by decide +kernel
theorem dX8_cellBeside_90 : decode cX8_cellBeside 90 = .ok (.aload_n 0, 1) := by decide +kernel
theorem dX8_cellBeside_91 : decode cX8_cellBeside 91 = .ok (.getfield 32, 3) := by decide +kernel
theorem dX8_cellBeside_94 : decode cX8_cellBeside 94 = .ok (.iadd, 1) := by decide +kernel
theorem dX8_cellBeside_95 : decode cX8_cellBeside 95 = .ok (.goto 4, 3) := by decide +kernel
theorem dX8_cellBeside_98 : decode cX8_cellBeside 98 = .ok (.iconst (-1), 1) := by decide +kernel
theorem dX8_cellBeside_99 : decode cX8_cellBeside 99 = .ok (.ireturn, 1) := by decide +kernel
theorem dX8_cellBeside_100 : decode cX8_cellBeside 100 = .ok (.iload_n 3, 1) := by decide +kernel
theorem dX8_cellBeside_101 : decode cX8_cellBeside 101 = .ok (.ifCond .le 9, 3) := by decide +kernel
theorem dX8_cellBeside_104 : decode cX8_cellBeside 104 = .ok (.iload_n 1, 1) := by decide +kernel
theorem dX8_cellBeside_105 : decode cX8_cellBeside 105 = .ok (.iconst 1, 1) := by decide +kernel
theorem dX8_cellBeside_106 : decode cX8_cellBeside 106 = .ok (.isub, 1) := by decide +kernel
theorem dX8_cellBeside_107 : decode cX8_cellBeside 107 = .ok (.goto 4, 3) := by decide +kernel
theorem dX8_cellBeside_110 : decode cX8_cellBeside 110 = .ok (.iconst (-1), 1) := by decide +kernel
theorem dX8_cellBeside_111 : decode cX8_cellBeside 111 = .ok (.ireturn, 1) := by decide +kernel
theorem dX8_cellBeside_112 : decode cX8_cellBeside 112 = .ok (.iload_n 1, 1) := by decide +kernel
theorem dX8_cellBeside_113 : decode cX8_cellBeside 113 = .ok (.ireturn, 1) := by decide +kernel
set_option maxRecDepth 20000 in
theorem ggX8_cellBeside_X8_columnOf : GoodIn wsX8_cellBeside wsX8_columnOf := goodIn_r _ [7, 1, 12, 13, 14, 15, 16, 17, 18, 19, 20, 21, 22, 23, 24, 25] (by decide +kernel) (by decide +kernel)
set_option maxRecDepth 20000 in
theorem gX8_cellBeside_X8_columnOf : GoodIn wsX8_cellBeside (wsV RX8 79 RX8 yX8_columnOf wsX8_columnOf) := goodIn_app (goodIn_of _ (by decide +kernel)) ggX8_cellBeside_X8_columnOf
set_option maxRecDepth 20000 in
theorem ggX8_cellBeside_X8_rowOf : GoodIn wsX8_cellBeside wsX8_rowOf := goodIn_r _ [11, 1, 12, 13, 14, 15, 16, 17, 18, 19, 20, 21, 22, 23, 24, 25] (by decide +kernel) (by decide +kernel)
set_option maxRecDepth 20000 in
theorem gX8_cellBeside_X8_rowOf : GoodIn wsX8_cellBeside (wsV RX8 82 RX8 yX8_rowOf wsX8_rowOf) := goodIn_app (goodIn_of _ (by decide +kernel)) ggX8_cellBeside_X8_rowOf
theorem dX8_bankWaves_0 : decode cX8_bankWaves 0 = .ok (.iload_n 2, 1) := by decide +kernel
theorem dX8_bankWaves_1 : decode cX8_bankWaves 1 = .ok (.iload_n 1, 1) := by decide +kernel
theorem dX8_bankWaves_2 : decode cX8_bankWaves 2 = .ok (.isub, 1) := by decide +kernel
theorem dX8_bankWaves_3 : decode cX8_bankWaves 3 = .ok (.aload_n 0, 1) := by decide +kernel
theorem dX8_bankWaves_4 : decode cX8_bankWaves 4 = .ok (.getfield 51, 3) := by decide +kernel
theorem dX8_bankWaves_7 : decode cX8_bankWaves 7 = .ok (.isub, 1) := by decide +kernel
theorem dX8_bankWaves_8 : decode cX8_bankWaves 8 = .ok (.istore_n 3, 1) := by decide +kernel
theorem dX8_bankWaves_9 : decode cX8_bankWaves 9 = .ok (.iload_n 3, 1) := by decide +kernel
theorem dX8_bankWaves_10 : decode cX8_bankWaves 10 = .ok (.ifCond .lt 11, 3) := by decide +kernel
theorem dX8_bankWaves_13 : decode cX8_bankWaves 13 = .ok (.aload_n 0, 1) := by decide +kernel
theorem dX8_bankWaves_14 : decode cX8_bankWaves 14 = .ok (.getfield 54, 3) := by decide +kernel
theorem dX8_bankWaves_17 : decode cX8_bankWaves 17 = .ok (.iconst 1, 1) := by decide +kernel
theorem dX8_bankWaves_18 : decode cX8_bankWaves 18 = .ok (.if_icmp .ge 7, 3) := by decide +kernel
theorem dX8_bankWaves_21 : decode cX8_bankWaves 21 = .ok (.iconst 0, 1) := by decide +kernel
theorem dX8_bankWaves_22 : decode cX8_bankWaves 22 = .ok (.goto 11, 3) := by decide +kernel
theorem dX8_bankWaves_25 : decode cX8_bankWaves 25 = .ok (.iload_n 3, 1) := by decide +kernel
theorem dX8_bankWaves_26 : decode cX8_bankWaves 26 = .ok (.aload_n 0, 1) := by decide +kernel
theorem dX8_bankWaves_27 : decode cX8_bankWaves 27 = .ok (.getfield 54, 3) := by decide +kernel
theorem dX8_bankWaves_30 : decode cX8_bankWaves 30 = .ok (.idiv, 1) := by decide +kernel
theorem dX8_bankWaves_31 : decode cX8_bankWaves 31 = .ok (.iconst 1, 1) := by decide +kernel
theorem dX8_bankWaves_32 : decode cX8_bankWaves 32 = .ok (.iadd, 1) := by decide +kernel
theorem dX8_bankWaves_33 : decode cX8_bankWaves 33 = .ok (.ireturn, 1) := by decide +kernel
theorem dX10_firstFrom_0 : decode cX10_firstFrom 0 = .ok (.iconst 0, 1) := by decide +kernel
theorem dX10_firstFrom_1 : decode cX10_firstFrom 1 = .ok (.istore_n 2, 1) := by decide +kernel
theorem dX10_firstFrom_2 : decode cX10_firstFrom 2 = .ok (.iload_n 2, 1) := by decide +kernel
theorem dX10_firstFrom_3 : decode cX10_firstFrom 3 = .ok (.aload_n 0, 1) := by decide +kernel
theorem dX10_firstFrom_4 : decode cX10_firstFrom 4 = .ok (.getfield 34, 3) := by decide +kernel
theorem dX10_firstFrom_7 : decode cX10_firstFrom 7 = .ok (.if_icmp .ge 21, 3) := by decide +kernel
theorem dX10_firstFrom_10 : decode cX10_firstFrom 10 = .ok (.aload_n 0, 1) := by decide +kernel
theorem dX10_firstFrom_11 : decode cX10_firstFrom 11 = .ok (.getfield 18, 3) := by decide +kernel
theorem dX10_firstFrom_14 : decode cX10_firstFrom 14 = .ok (.iload_n 2, 1) := by decide +kernel
theorem dX10_firstFrom_15 : decode cX10_firstFrom 15 = .ok (.iaload, 1) := by decide +kernel
theorem dX10_firstFrom_16 : decode cX10_firstFrom 16 = .ok (.iload_n 1, 1) := by decide +kernel
theorem dX10_firstFrom_17 : decode cX10_firstFrom 17 = .ok (.if_icmp .lt 5, 3) := by decide +kernel
theorem dX10_firstFrom_20 : decode cX10_firstFrom 20 = .ok (.iload_n 2, 1) := by decide +kernel
theorem dX10_firstFrom_21 : decode cX10_firstFrom 21 = .ok (.ireturn, 1) := by decide +kernel
theorem dX10_firstFrom_22 : decode cX10_firstFrom 22 = .ok (.iinc 2 1, 3) := by decide +kernel
theorem dX10_firstFrom_25 : decode cX10_firstFrom 25 = .ok (.goto (-23), 3) := by decide +kernel
theorem dX10_firstFrom_28 : decode cX10_firstFrom 28 = .ok (.aload_n 0, 1) := by decide +kernel
theorem dX10_firstFrom_29 : decode cX10_firstFrom 29 = .ok (.getfield 34, 3) := by decide +kernel
theorem dX10_firstFrom_32 : decode cX10_firstFrom 32 = .ok (.ireturn, 1) := by decide +kernel
theorem dX10_firstMinute_0 : decode cX10_firstMinute 0 = .ok (.aload_n 0, 1) := by decide +kernel
theorem dX10_firstMinute_1 : decode cX10_firstMinute 1 = .ok (.getfield 18, 3) := by decide +kernel
theorem dX10_firstMinute_4 : decode cX10_firstMinute 4 = .ok (.aload_n 0, 1) := by decide +kernel
theorem dX10_firstMinute_5 : decode cX10_firstMinute 5 = .ok (.getfield 9, 3) := by decide +kernel
theorem dX10_firstMinute_8 : decode cX10_firstMinute 8 = .ok (.iload_n 1, 1) := by decide +kernel
theorem dX10_firstMinute_9 : decode cX10_firstMinute 9 = .ok (.iaload, 1) := by decide +kernel
theorem dX10_firstMinute_10 : decode cX10_firstMinute 10 = .ok (.iaload, 1) := by decide +kernel
theorem dX10_firstMinute_11 : decode cX10_firstMinute 11 = .ok (.ireturn, 1) := by decide +kernel
theorem dX10_setFrom_0 : decode cX10_setFrom 0 = .ok (.iconst 0, 1) := by decide +kernel
theorem dX10_setFrom_1 : decode cX10_setFrom 1 = .ok (.istore_n 2, 1) := by decide +kernel
theorem dX10_setFrom_2 : decode cX10_setFrom 2 = .ok (.iload_n 2, 1) := by decide +kernel
theorem dX10_setFrom_3 : decode cX10_setFrom 3 = .ok (.aload_n 0, 1) := by decide +kernel
theorem dX10_setFrom_4 : decode cX10_setFrom 4 = .ok (.getfield 30, 3) := by decide +kernel
theorem dX10_setFrom_7 : decode cX10_setFrom 7 = .ok (.if_icmp .ge 20, 3) := by decide +kernel
theorem dX10_setFrom_10 : decode cX10_setFrom 10 = .ok (.aload_n 0, 1) := by decide +kernel
theorem dX10_setFrom_11 : decode cX10_setFrom 11 = .ok (.iload_n 2, 1) := by decide +kernel
theorem dX10_setFrom_12 : decode cX10_setFrom 12 = .ok (.invokevirtual 37, 3) := by decide +kernel
theorem dX10_setFrom_15 : decode cX10_setFrom 15 = .ok (.iload_n 1, 1) := by decide +kernel
theorem dX10_setFrom_16 : decode cX10_setFrom 16 = .ok (.if_icmp .lt 5, 3) := by decide +kernel
theorem dX10_setFrom_19 : decode cX10_setFrom 19 = .ok (.iload_n 2, 1) := by decide +kernel
theorem dX10_setFrom_20 : decode cX10_setFrom 20 = .ok (.ireturn, 1) := by decide +kernel
theorem dX10_setFrom_21 : decode cX10_setFrom 21 = .ok (.iinc 2 1, 3) := by decide +kernel
theorem dX10_setFrom_24 : decode cX10_setFrom 24 = .ok (.goto (-22), 3) := by decide +kernel
theorem dX10_setFrom_27 : decode cX10_setFrom 27 = .ok (.iconst (-1), 1) := by decide +kernel
theorem dX10_setFrom_28 : decode cX10_setFrom 28 = .ok (.ireturn, 1) := by decide +kernel
set_option maxRecDepth 20000 in
theorem ggX10_setFrom_X10_firstMinute : GoodIn wsX10_setFrom wsX10_firstMinute := goodIn_r _ [6, 7, 8, 9, 10, 11, 12, 13, 14, 15, 16] (by decide +kernel) (by decide +kernel)
set_option maxRecDepth 20000 in
theorem gX10_setFrom_X10_firstMinute : GoodIn wsX10_setFrom (wsV RX10 37 RX10 yX10_firstMinute wsX10_firstMinute) := goodIn_app (goodIn_of _ (by decide +kernel)) ggX10_setFrom_X10_firstMinute
theorem dX4_isIn_0 : decode cX4_isIn 0 = .ok (.aload_n 0, 1) := by decide +kernel
theorem dX4_isIn_1 : decode cX4_isIn 1 = .ok (.getfield 21, 3) := by decide +kernel
theorem dX4_isIn_4 : decode cX4_isIn 4 = .ok (.iload_n 1, 1) := by decide +kernel
theorem dX4_isIn_5 : decode cX4_isIn 5 = .ok (.iaload, 1) := by decide +kernel
theorem dX4_isIn_6 : decode cX4_isIn 6 = .ok (.iload_n 2, 1) := by decide +kernel
theorem dX4_isIn_7 : decode cX4_isIn 7 = .ok (.if_icmp .gt 7, 3) := by decide +kernel
theorem dX4_isIn_10 : decode cX4_isIn 10 = .ok (.iconst 1, 1) := by decide +kernel
theorem dX4_isIn_11 : decode cX4_isIn 11 = .ok (.goto 4, 3) := by decide +kernel
theorem dX4_isIn_14 : decode cX4_isIn 14 = .ok (.iconst 0, 1) := by decide +kernel
theorem dX4_isIn_15 : decode cX4_isIn 15 = .ok (.ireturn, 1) := by decide +kernel
theorem dX4_beginMinute_0 : decode cX4_beginMinute 0 = .ok (.aload_n 0, 1) := by decide +kernel
theorem dX4_beginMinute_1 : decode cX4_beginMinute 1 = .ok (.dup, 1) := by decide +kernel
theorem dX4_beginMinute_2 : decode cX4_beginMinute 2 = .ok (.getfield 30, 3) := by decide +kernel
theorem dX4_beginMinute_5 : decode cX4_beginMinute 5 = .ok (.iconst 1, 1) := by decide +kernel
theorem dX4_beginMinute_6 : decode cX4_beginMinute 6 = .ok (.iadd, 1) := by decide +kernel
theorem dX4_beginMinute_7 : decode cX4_beginMinute 7 = .ok (.putfield 30, 3) := by decide +kernel
theorem dX4_beginMinute_10 : decode cX4_beginMinute 10 = .ok (.iconst 0, 1) := by decide +kernel
theorem dX4_beginMinute_11 : decode cX4_beginMinute 11 = .ok (.istore_n 2, 1) := by decide +kernel
theorem dX4_beginMinute_12 : decode cX4_beginMinute 12 = .ok (.iload_n 2, 1) := by decide +kernel
theorem dX4_beginMinute_13 : decode cX4_beginMinute 13 = .ok (.iload_n 1, 1) := by decide +kernel
theorem dX4_beginMinute_14 : decode cX4_beginMinute 14 = .ok (.if_icmp .ge 35, 3) := by decide +kernel
theorem dX4_beginMinute_17 : decode cX4_beginMinute 17 = .ok (.aload_n 0, 1) := by decide +kernel
theorem dX4_beginMinute_18 : decode cX4_beginMinute 18 = .ok (.iload_n 2, 1) := by decide +kernel
theorem dX4_beginMinute_19 : decode cX4_beginMinute 19 = .ok (.aload_n 0, 1) := by decide +kernel
theorem dX4_beginMinute_20 : decode cX4_beginMinute 20 = .ok (.getfield 30, 3) := by decide +kernel
theorem dX4_beginMinute_23 : decode cX4_beginMinute 23 = .ok (.invokevirtual 72, 3) := by decide +kernel
theorem dX4_beginMinute_26 : decode cX4_beginMinute 26 = .ok (.ifCond .eq 10, 3) := by decide +kernel
theorem dX4_beginMinute_29 : decode cX4_beginMinute 29 = .ok (.aload_n 0, 1) := by decide +kernel
theorem dX4_beginMinute_30 : decode cX4_beginMinute 30 = .ok (.getfield 21, 3) := by decide +kernel
theorem dX4_beginMinute_33 : decode cX4_beginMinute 33 = .ok (.iload_n 2, 1) := by decide +kernel
theorem dX4_beginMinute_34 : decode cX4_beginMinute 34 = .ok (.iconst 0, 1) := by decide +kernel
theorem dX4_beginMinute_35 : decode cX4_beginMinute 35 = .ok (.iastore, 1) := by decide +kernel
theorem dX4_beginMinute_36 : decode cX4_beginMinute 36 = .ok (.aload_n 0, 1) := by decide +kernel
theorem dX4_beginMinute_37 : decode cX4_beginMinute 37 = .ok (.getfield 24, 3) := by decide +kernel
theorem dX4_beginMinute_40 : decode cX4_beginMinute 40 = .ok (.iload_n 2, 1) := by decide +kernel
theorem dX4_beginMinute_41 : decode cX4_beginMinute 41 = .ok (.iconst 0, 1) := by decide +kernel
theorem dX4_beginMinute_42 : decode cX4_beginMinute 42 = .ok (.iastore, 1) := by decide +kernel
theorem dX4_beginMinute_43 : decode cX4_beginMinute 43 = .ok (.iinc 2 1, 3) := by decide +kernel
theorem dX4_beginMinute_46 : decode cX4_beginMinute 46 = .ok (.goto (-34), 3) := by decide +kernel
theorem dX4_beginMinute_49 : decode cX4_beginMinute 49 = .ok (.return_, 1) := by decide +kernel
set_option maxRecDepth 20000 in
theorem ggX4_beginMinute_X4_isIn : GoodIn wsX4_beginMinute wsX4_isIn := goodIn_r _ [8, 2, 9, 10, 11, 12, 13, 14, 15, 16, 17, 18, 19] (by decide +kernel) (by decide +kernel)
set_option maxRecDepth 20000 in
theorem gX4_beginMinute_X4_isIn : GoodIn wsX4_beginMinute (wsV RX4 72 RX4 yX4_isIn wsX4_isIn) := goodIn_app (goodIn_of _ (by decide +kernel)) ggX4_beginMinute_X4_isIn
theorem dX4_takeAll_0 : decode cX4_takeAll 0 = .ok (.aload_n 0, 1) := by decide +kernel
theorem dX4_takeAll_1 : decode cX4_takeAll 1 = .ok (.aload_n 1, 1) := by decide +kernel
theorem dX4_takeAll_2 : decode cX4_takeAll 2 = .ok (.getfield 30, 3) := by decide +kernel
theorem dX4_takeAll_5 : decode cX4_takeAll 5 = .ok (.putfield 30, 3) := by decide +kernel
theorem dX4_takeAll_8 : decode cX4_takeAll 8 = .ok (.aload_n 0, 1) := by decide +kernel
theorem dX4_takeAll_9 : decode cX4_takeAll 9 = .ok (.aload_n 1, 1) := by decide +kernel
theorem dX4_takeAll_10 : decode cX4_takeAll 10 = .ok (.getfield 39, 3) := by decide +kernel
theorem dX4_takeAll_13 : decode cX4_takeAll 13 = .ok (.putfield 39, 3) := by decide +kernel
theorem dX4_takeAll_16 : decode cX4_takeAll 16 = .ok (.aload_n 0, 1) := by decide +kernel
theorem dX4_takeAll_17 : decode cX4_takeAll 17 = .ok (.aload_n 1, 1) := by decide +kernel
theorem dX4_takeAll_18 : decode cX4_takeAll 18 = .ok (.getfield 43, 3) := by decide +kernel
theorem dX4_takeAll_21 : decode cX4_takeAll 21 = .ok (.putfield 43, 3) := by decide +kernel
theorem dX4_takeAll_24 : decode cX4_takeAll 24 = .ok (.aload_n 0, 1) := by decide +kernel
theorem dX4_takeAll_25 : decode cX4_takeAll 25 = .ok (.aload_n 1, 1) := by decide +kernel
theorem dX4_takeAll_26 : decode cX4_takeAll 26 = .ok (.getfield 46, 3) := by decide +kernel
theorem dX4_takeAll_29 : decode cX4_takeAll 29 = .ok (.putfield 46, 3) := by decide +kernel
theorem dX4_takeAll_32 : decode cX4_takeAll 32 = .ok (.aload_n 0, 1) := by decide +kernel
theorem dX4_takeAll_33 : decode cX4_takeAll 33 = .ok (.aload_n 1, 1) := by decide +kernel
theorem dX4_takeAll_34 : decode cX4_takeAll 34 = .ok (.getfield 49, 3) := by decide +kernel
theorem dX4_takeAll_37 : decode cX4_takeAll 37 = .ok (.putfield 49, 3) := by decide +kernel
theorem dX4_takeAll_40 : decode cX4_takeAll 40 = .ok (.aload_n 1, 1) := by decide +kernel
theorem dX4_takeAll_41 : decode cX4_takeAll 41 = .ok (.getfield 9, 3) := by decide +kernel
theorem dX4_takeAll_44 : decode cX4_takeAll 44 = .ok (.iconst 0, 1) := by decide +kernel
theorem dX4_takeAll_45 : decode cX4_takeAll 45 = .ok (.aload_n 0, 1) := by decide +kernel
theorem dX4_takeAll_46 : decode cX4_takeAll 46 = .ok (.getfield 9, 3) := by decide +kernel
theorem dX4_takeAll_49 : decode cX4_takeAll 49 = .ok (.iconst 0, 1) := by decide +kernel
theorem dX4_takeAll_50 : decode cX4_takeAll 50 = .ok (.iconst 5, 1) := by decide +kernel
theorem dX4_takeAll_51 : decode cX4_takeAll 51 = .ok (.invokestatic 59, 3) := by decide +kernel
theorem dX4_takeAll_54 : decode cX4_takeAll 54 = .ok (.aload_n 1, 1) := by decide +kernel
theorem dX4_takeAll_55 : decode cX4_takeAll 55 = .ok (.getfield 15, 3) := by decide +kernel
theorem dX4_takeAll_58 : decode cX4_takeAll 58 = .ok (.iconst 0, 1) := by decide +kernel
theorem dX4_takeAll_59 : decode cX4_takeAll 59 = .ok (.aload_n 0, 1) := by decide +kernel
theorem dX4_takeAll_60 : decode cX4_takeAll 60 = .ok (.getfield 15, 3) := by decide +kernel
theorem dX4_takeAll_63 : decode cX4_takeAll 63 = .ok (.iconst 0, 1) := by decide +kernel
theorem dX4_takeAll_64 : decode cX4_takeAll 64 = .ok (.iconst 5, 1) := by decide +kernel
theorem dX4_takeAll_65 : decode cX4_takeAll 65 = .ok (.invokestatic 59, 3) := by decide +kernel
theorem dX4_takeAll_68 : decode cX4_takeAll 68 = .ok (.aload_n 1, 1) := by decide +kernel
theorem dX4_takeAll_69 : decode cX4_takeAll 69 = .ok (.getfield 18, 3) := by decide +kernel
theorem dX4_takeAll_72 : decode cX4_takeAll 72 = .ok (.iconst 0, 1) := by decide +kernel
theorem dX4_takeAll_73 : decode cX4_takeAll 73 = .ok (.aload_n 0, 1) := by decide +kernel
theorem dX4_takeAll_74 : decode cX4_takeAll 74 = .ok (.getfield 18, 3) := by decide +kernel
theorem dX4_takeAll_77 : decode cX4_takeAll 77 = .ok (.iconst 0, 1) := by decide +kernel
theorem dX4_takeAll_78 : decode cX4_takeAll 78 = .ok (.iconst 5, 1) := by decide +kernel
theorem dX4_takeAll_79 : decode cX4_takeAll 79 = .ok (.invokestatic 59, 3) := by decide +kernel
theorem dX4_takeAll_82 : decode cX4_takeAll 82 = .ok (.aload_n 1, 1) := by decide +kernel
theorem dX4_takeAll_83 : decode cX4_takeAll 83 = .ok (.getfield 21, 3) := by decide +kernel
theorem dX4_takeAll_86 : decode cX4_takeAll 86 = .ok (.iconst 0, 1) := by decide +kernel
theorem dX4_takeAll_87 : decode cX4_takeAll 87 = .ok (.aload_n 0, 1) := by decide +kernel
theorem dX4_takeAll_88 : decode cX4_takeAll 88 = .ok (.getfield 21, 3) := by decide +kernel
theorem dX4_takeAll_91 : decode cX4_takeAll 91 = .ok (.iconst 0, 1) := by decide +kernel
theorem dX4_takeAll_92 : decode cX4_takeAll 92 = .ok (.iconst 5, 1) := by decide +kernel
theorem dX4_takeAll_93 : decode cX4_takeAll 93 = .ok (.invokestatic 59, 3) := by decide +kernel
theorem dX4_takeAll_96 : decode cX4_takeAll 96 = .ok (.aload_n 1, 1) := by decide +kernel
theorem dX4_takeAll_97 : decode cX4_takeAll 97 = .ok (.getfield 24, 3) := by decide +kernel
theorem dX4_takeAll_100 : decode cX4_takeAll 100 = .ok (.iconst 0, 1) := by decide +kernel
theorem dX4_takeAll_101 : decode cX4_takeAll 101 = .ok (.aload_n 0, 1) := by decide +kernel
theorem dX4_takeAll_102 : decode cX4_takeAll 102 = .ok (.getfield 24, 3) := by decide +kernel
theorem dX4_takeAll_105 : decode cX4_takeAll 105 = .ok (.iconst 0, 1) := by decide +kernel
theorem dX4_takeAll_106 : decode cX4_takeAll 106 = .ok (.iconst 5, 1) := by decide +kernel
theorem dX4_takeAll_107 : decode cX4_takeAll 107 = .ok (.invokestatic 59, 3) := by decide +kernel
theorem dX4_takeAll_110 : decode cX4_takeAll 110 = .ok (.aload_n 1, 1) := by decide +kernel
theorem dX4_takeAll_111 : decode cX4_takeAll 111 = .ok (.getfield 27, 3) := by decide +kernel
theorem dX4_takeAll_114 : decode cX4_takeAll 114 = .ok (.iconst 0, 1) := by decide +kernel
theorem dX4_takeAll_115 : decode cX4_takeAll 115 = .ok (.aload_n 0, 1) := by decide +kernel
theorem dX4_takeAll_116 : decode cX4_takeAll 116 = .ok (.getfield 27, 3) := by decide +kernel
theorem dX4_takeAll_119 : decode cX4_takeAll 119 = .ok (.iconst 0, 1) := by decide +kernel
theorem dX4_takeAll_120 : decode cX4_takeAll 120 = .ok (.bipush 28, 2) := by decide +kernel
theorem dX4_takeAll_122 : decode cX4_takeAll 122 = .ok (.invokestatic 59, 3) := by decide +kernel
theorem dX4_takeAll_125 : decode cX4_takeAll 125 = .ok (.return_, 1) := by decide +kernel
theorem dX11_isSurfer_0 : decode cX11_isSurfer 0 = .ok (.iload_n 1, 1) := by decide +kernel
theorem dX11_isSurfer_1 : decode cX11_isSurfer 1 = .ok (.ifCond .lt 21, 3) := by decide +kernel
theorem dX11_isSurfer_4 : decode cX11_isSurfer 4 = .ok (.iload_n 1, 1) := by decide +kernel
theorem dX11_isSurfer_5 : decode cX11_isSurfer 5 = .ok (.aload_n 0, 1) := by decide +kernel
theorem dX11_isSurfer_6 : decode cX11_isSurfer 6 = .ok (.getfield 18, 3) := by decide +kernel
theorem dX11_isSurfer_9 : decode cX11_isSurfer 9 = .ok (.getfield 102, 3) := by decide +kernel
theorem dX11_isSurfer_12 : decode cX11_isSurfer 12 = .ok (.getfield 106, 3) := by decide +kernel
theorem dX11_isSurfer_15 : decode cX11_isSurfer 15 = .ok (.if_icmp .ge 7, 3) := by decide +kernel
theorem dX11_isSurfer_18 : decode cX11_isSurfer 18 = .ok (.iconst 1, 1) := by decide +kernel
theorem dX11_isSurfer_19 : decode cX11_isSurfer 19 = .ok (.goto 4, 3) := by decide +kernel
theorem dX11_isSurfer_22 : decode cX11_isSurfer 22 = .ok (.iconst 0, 1) := by decide +kernel
theorem dX11_isSurfer_23 : decode cX11_isSurfer 23 = .ok (.ireturn, 1) := by decide +kernel
theorem dX11_count_0 : decode cX11_count 0 = .ok (.iload_n 1, 1) := by decide +kernel
theorem dX11_count_1 : decode cX11_count 1 = .ok (.tableswitch 200 0 13 #[71, 79, 87, 98, 109, 120, 128, 136, 144, 152, 160, 176, 184, 192], 71) := by decide +kernel
theorem dX11_count_72 : decode cX11_count 72 = .ok (.aload_n 0, 1) := by decide +kernel
theorem dX11_count_73 : decode cX11_count 73 = .ok (.getfield 18, 3) := by decide +kernel
theorem dX11_count_76 : decode cX11_count 76 = .ok (.getfield 173, 3) := by decide +kernel
theorem dX11_count_79 : decode cX11_count 79 = .ok (.ireturn, 1) := by decide +kernel
theorem dX11_count_80 : decode cX11_count 80 = .ok (.aload_n 0, 1) := by decide +kernel
theorem dX11_count_81 : decode cX11_count 81 = .ok (.getfield 18, 3) := by decide +kernel
theorem dX11_count_84 : decode cX11_count 84 = .ok (.getfield 381, 3) := by decide +kernel
theorem dX11_count_87 : decode cX11_count 87 = .ok (.ireturn, 1) := by decide +kernel
theorem dX11_count_88 : decode cX11_count 88 = .ok (.aload_n 0, 1) := by decide +kernel
theorem dX11_count_89 : decode cX11_count 89 = .ok (.getfield 18, 3) := by decide +kernel
theorem dX11_count_92 : decode cX11_count 92 = .ok (.getfield 102, 3) := by decide +kernel
theorem dX11_count_95 : decode cX11_count 95 = .ok (.getfield 106, 3) := by decide +kernel
theorem dX11_count_98 : decode cX11_count 98 = .ok (.ireturn, 1) := by decide +kernel
theorem dX11_count_99 : decode cX11_count 99 = .ok (.aload_n 0, 1) := by decide +kernel
theorem dX11_count_100 : decode cX11_count 100 = .ok (.getfield 18, 3) := by decide +kernel
theorem dX11_count_103 : decode cX11_count 103 = .ok (.getfield 150, 3) := by decide +kernel
theorem dX11_count_106 : decode cX11_count 106 = .ok (.getfield 253, 3) := by decide +kernel
theorem dX11_count_109 : decode cX11_count 109 = .ok (.ireturn, 1) := by decide +kernel
theorem dX11_count_110 : decode cX11_count 110 = .ok (.aload_n 0, 1) := by decide +kernel
theorem dX11_count_111 : decode cX11_count 111 = .ok (.getfield 18, 3) := by decide +kernel
theorem dX11_count_114 : decode cX11_count 114 = .ok (.getfield 150, 3) := by decide +kernel
theorem dX11_count_117 : decode cX11_count 117 = .ok (.getfield 299, 3) := by decide +kernel
theorem dX11_count_120 : decode cX11_count 120 = .ok (.ireturn, 1) := by decide +kernel
theorem dX11_count_121 : decode cX11_count 121 = .ok (.aload_n 0, 1) := by decide +kernel
theorem dX11_count_122 : decode cX11_count 122 = .ok (.getfield 18, 3) := by decide +kernel
theorem dX11_count_125 : decode cX11_count 125 = .ok (.getfield 384, 3) := by decide +kernel
theorem dX11_count_128 : decode cX11_count 128 = .ok (.ireturn, 1) := by decide +kernel
theorem dX11_count_129 : decode cX11_count 129 = .ok (.aload_n 0, 1) := by decide +kernel
theorem dX11_count_130 : decode cX11_count 130 = .ok (.getfield 47, 3) := by decide +kernel
theorem dX11_count_133 : decode cX11_count 133 = .ok (.getfield 186, 3) := by decide +kernel
theorem dX11_count_136 : decode cX11_count 136 = .ok (.ireturn, 1) := by decide +kernel
theorem dX11_count_137 : decode cX11_count 137 = .ok (.aload_n 0, 1) := by decide +kernel
theorem dX11_count_138 : decode cX11_count 138 = .ok (.getfield 47, 3) := by decide +kernel
theorem dX11_count_141 : decode cX11_count 141 = .ok (.getfield 217, 3) := by decide +kernel
theorem dX11_count_144 : decode cX11_count 144 = .ok (.ireturn, 1) := by decide +kernel
theorem dX11_count_145 : decode cX11_count 145 = .ok (.aload_n 0, 1) := by decide +kernel
theorem dX11_count_146 : decode cX11_count 146 = .ok (.getfield 47, 3) := by decide +kernel
theorem dX11_count_149 : decode cX11_count 149 = .ok (.getfield 287, 3) := by decide +kernel
theorem dX11_count_152 : decode cX11_count 152 = .ok (.ireturn, 1) := by decide +kernel
theorem dX11_count_153 : decode cX11_count 153 = .ok (.aload_n 0, 1) := by decide +kernel
theorem dX11_count_154 : decode cX11_count 154 = .ok (.getfield 47, 3) := by decide +kernel
theorem dX11_count_157 : decode cX11_count 157 = .ok (.getfield 290, 3) := by decide +kernel
theorem dX11_count_160 : decode cX11_count 160 = .ok (.ireturn, 1) := by decide +kernel
theorem dX11_count_161 : decode cX11_count 161 = .ok (.aload_n 0, 1) := by decide +kernel
theorem dX11_count_162 : decode cX11_count 162 = .ok (.getfield 18, 3) := by decide +kernel
theorem dX11_count_165 : decode cX11_count 165 = .ok (.getfield 150, 3) := by decide +kernel
theorem dX11_count_168 : decode cX11_count 168 = .ok (.getfield 299, 3) := by decide +kernel
theorem dX11_count_171 : decode cX11_count 171 = .ok (.aload_n 0, 1) := by decide +kernel
theorem dX11_count_172 : decode cX11_count 172 = .ok (.invokevirtual 233, 3) := by decide +kernel
theorem dX11_count_175 : decode cX11_count 175 = .ok (.isub, 1) := by decide +kernel
theorem dX11_count_176 : decode cX11_count 176 = .ok (.ireturn, 1) := by decide +kernel
theorem dX11_count_177 : decode cX11_count 177 = .ok (.aload_n 0, 1) := by decide +kernel
theorem dX11_count_178 : decode cX11_count 178 = .ok (.getfield 60, 3) := by decide +kernel
theorem dX11_count_181 : decode cX11_count 181 = .ok (.getfield 323, 3) := by decide +kernel
theorem dX11_count_184 : decode cX11_count 184 = .ok (.ireturn, 1) := by decide +kernel
theorem dX11_count_185 : decode cX11_count 185 = .ok (.aload_n 0, 1) := by decide +kernel
theorem dX11_count_186 : decode cX11_count 186 = .ok (.getfield 60, 3) := by decide +kernel
theorem dX11_count_189 : decode cX11_count 189 = .ok (.invokevirtual 333, 3) := by decide +kernel
theorem dX11_count_192 : decode cX11_count 192 = .ok (.ireturn, 1) := by decide +kernel
theorem dX11_count_193 : decode cX11_count 193 = .ok (.aload_n 0, 1) := by decide +kernel
theorem dX11_count_194 : decode cX11_count 194 = .ok (.getfield 67, 3) := by decide +kernel
theorem dX11_count_197 : decode cX11_count 197 = .ok (.getfield 368, 3) := by decide +kernel
theorem dX11_count_200 : decode cX11_count 200 = .ok (.ireturn, 1) := by decide +kernel
theorem dX11_count_201 : decode cX11_count 201 = .ok (.iconst (-1), 1) := by decide +kernel
theorem dX11_count_202 : decode cX11_count 202 = .ok (.ireturn, 1) := by decide +kernel
theorem dX4_begin_0 : decode cX4_begin 0 = .ok (.aload_n 0, 1) := by decide +kernel
theorem dX4_begin_1 : decode cX4_begin 1 = .ok (.iconst 0, 1) := by decide +kernel
theorem dX4_begin_2 : decode cX4_begin 2 = .ok (.putfield 30, 3) := by decide +kernel
theorem dX4_begin_5 : decode cX4_begin 5 = .ok (.aload_n 0, 1) := by decide +kernel
theorem dX4_begin_6 : decode cX4_begin 6 = .ok (.aload_n 1, 1) := by decide +kernel
theorem dX4_begin_7 : decode cX4_begin 7 = .ok (.getfield 34, 3) := by decide +kernel
theorem dX4_begin_10 : decode cX4_begin 10 = .ok (.putfield 39, 3) := by decide +kernel
theorem dX4_begin_13 : decode cX4_begin 13 = .ok (.aload_n 0, 1) := by decide +kernel
theorem dX4_begin_14 : decode cX4_begin 14 = .ok (.aload_n 1, 1) := by decide +kernel
theorem dX4_begin_15 : decode cX4_begin 15 = .ok (.getfield 40, 3) := by decide +kernel
theorem dX4_begin_18 : decode cX4_begin 18 = .ok (.putfield 43, 3) := by decide +kernel
theorem dX4_begin_21 : decode cX4_begin 21 = .ok (.aload_n 0, 1) := by decide +kernel
theorem dX4_begin_22 : decode cX4_begin 22 = .ok (.iconst 0, 1) := by decide +kernel
theorem dX4_begin_23 : decode cX4_begin 23 = .ok (.putfield 46, 3) := by decide +kernel
theorem dX4_begin_26 : decode cX4_begin 26 = .ok (.aload_n 0, 1) := by decide +kernel
theorem dX4_begin_27 : decode cX4_begin 27 = .ok (.iconst 0, 1) := by decide +kernel
theorem dX4_begin_28 : decode cX4_begin 28 = .ok (.putfield 49, 3) := by decide +kernel
theorem dX4_begin_31 : decode cX4_begin 31 = .ok (.iconst 0, 1) := by decide +kernel
theorem dX4_begin_32 : decode cX4_begin 32 = .ok (.istore_n 2, 1) := by decide +kernel
theorem dX4_begin_33 : decode cX4_begin 33 = .ok (.iload_n 2, 1) := by decide +kernel
theorem dX4_begin_34 : decode cX4_begin 34 = .ok (.iconst 5, 1) := by decide +kernel
theorem dX4_begin_35 : decode cX4_begin 35 = .ok (.if_icmp .ge 52, 3) := by decide +kernel
theorem dX4_begin_38 : decode cX4_begin 38 = .ok (.aload_n 0, 1) := by decide +kernel
theorem dX4_begin_39 : decode cX4_begin 39 = .ok (.getfield 9, 3) := by decide +kernel
theorem dX4_begin_42 : decode cX4_begin 42 = .ok (.iload_n 2, 1) := by decide +kernel
theorem dX4_begin_43 : decode cX4_begin 43 = .ok (.aload_n 1, 1) := by decide +kernel
theorem dX4_begin_44 : decode cX4_begin 44 = .ok (.getfield 52, 3) := by decide +kernel
theorem dX4_begin_47 : decode cX4_begin 47 = .ok (.getfield 56, 3) := by decide +kernel
theorem dX4_begin_50 : decode cX4_begin 50 = .ok (.iload_n 2, 1) := by decide +kernel
theorem dX4_begin_51 : decode cX4_begin 51 = .ok (.iaload, 1) := by decide +kernel
theorem dX4_begin_52 : decode cX4_begin 52 = .ok (.iastore, 1) := by decide +kernel
theorem dX4_begin_53 : decode cX4_begin 53 = .ok (.aload_n 0, 1) := by decide +kernel
theorem dX4_begin_54 : decode cX4_begin 54 = .ok (.getfield 15, 3) := by decide +kernel
theorem dX4_begin_57 : decode cX4_begin 57 = .ok (.iload_n 2, 1) := by decide +kernel
theorem dX4_begin_58 : decode cX4_begin 58 = .ok (.iconst 0, 1) := by decide +kernel
theorem dX4_begin_59 : decode cX4_begin 59 = .ok (.iastore, 1) := by decide +kernel
theorem dX4_begin_60 : decode cX4_begin 60 = .ok (.aload_n 0, 1) := by decide +kernel
theorem dX4_begin_61 : decode cX4_begin 61 = .ok (.getfield 18, 3) := by decide +kernel
theorem dX4_begin_64 : decode cX4_begin 64 = .ok (.iload_n 2, 1) := by decide +kernel
theorem dX4_begin_65 : decode cX4_begin 65 = .ok (.iconst 0, 1) := by decide +kernel
theorem dX4_begin_66 : decode cX4_begin 66 = .ok (.iastore, 1) := by decide +kernel
theorem dX4_begin_67 : decode cX4_begin 67 = .ok (.aload_n 0, 1) := by decide +kernel
theorem dX4_begin_68 : decode cX4_begin 68 = .ok (.getfield 21, 3) := by decide +kernel
theorem dX4_begin_71 : decode cX4_begin 71 = .ok (.iload_n 2, 1) := by decide +kernel
theorem dX4_begin_72 : decode cX4_begin 72 = .ok (.iconst 0, 1) := by decide +kernel
theorem dX4_begin_73 : decode cX4_begin 73 = .ok (.iastore, 1) := by decide +kernel
theorem dX4_begin_74 : decode cX4_begin 74 = .ok (.aload_n 0, 1) := by decide +kernel
theorem dX4_begin_75 : decode cX4_begin 75 = .ok (.getfield 24, 3) := by decide +kernel
theorem dX4_begin_78 : decode cX4_begin 78 = .ok (.iload_n 2, 1) := by decide +kernel
theorem dX4_begin_79 : decode cX4_begin 79 = .ok (.iconst 0, 1) := by decide +kernel
theorem dX4_begin_80 : decode cX4_begin 80 = .ok (.iastore, 1) := by decide +kernel
theorem dX4_begin_81 : decode cX4_begin 81 = .ok (.iinc 2 1, 3) := by decide +kernel
theorem dX4_begin_84 : decode cX4_begin 84 = .ok (.goto (-51), 3) := by decide +kernel
theorem dX4_begin_87 : decode cX4_begin 87 = .ok (.iconst 0, 1) := by decide +kernel
theorem dX4_begin_88 : decode cX4_begin 88 = .ok (.istore_n 2, 1) := by decide +kernel
theorem dX4_begin_89 : decode cX4_begin 89 = .ok (.iload_n 2, 1) := by decide +kernel
theorem dX4_begin_90 : decode cX4_begin 90 = .ok (.bipush 28, 2) := by decide +kernel
theorem dX4_begin_92 : decode cX4_begin 92 = .ok (.if_icmp .ge 17, 3) := by decide +kernel
theorem dX4_begin_95 : decode cX4_begin 95 = .ok (.aload_n 0, 1) := by decide +kernel
theorem dX4_begin_96 : decode cX4_begin 96 = .ok (.getfield 27, 3) := by decide +kernel
theorem dX4_begin_99 : decode cX4_begin 99 = .ok (.iload_n 2, 1) := by decide +kernel
theorem dX4_begin_100 : decode cX4_begin 100 = .ok (.bipush (-2), 2) := by decide +kernel
theorem dX4_begin_102 : decode cX4_begin 102 = .ok (.iastore, 1) := by decide +kernel
theorem dX4_begin_103 : decode cX4_begin 103 = .ok (.iinc 2 1, 3) := by decide +kernel
theorem dX4_begin_106 : decode cX4_begin 106 = .ok (.goto (-17), 3) := by decide +kernel
theorem dX4_begin_109 : decode cX4_begin 109 = .ok (.return_, 1) := by decide +kernel
theorem dX10_isLargest_0 : decode cX10_isLargest 0 = .ok (.aload_n 0, 1) := by decide +kernel
theorem dX10_isLargest_1 : decode cX10_isLargest 1 = .ok (.getfield 9, 3) := by decide +kernel
theorem dX10_isLargest_4 : decode cX10_isLargest 4 = .ok (.iload_n 1, 1) := by decide +kernel
theorem dX10_isLargest_5 : decode cX10_isLargest 5 = .ok (.iaload, 1) := by decide +kernel
theorem dX10_isLargest_6 : decode cX10_isLargest 6 = .ok (.iload_n 2, 1) := by decide +kernel
theorem dX10_isLargest_7 : decode cX10_isLargest 7 = .ok (.iadd, 1) := by decide +kernel
theorem dX10_isLargest_8 : decode cX10_isLargest 8 = .ok (.iconst 1, 1) := by decide +kernel
theorem dX10_isLargest_9 : decode cX10_isLargest 9 = .ok (.isub, 1) := by decide +kernel
theorem dX10_isLargest_10 : decode cX10_isLargest 10 = .ok (.istore_n 3, 1) := by decide +kernel
theorem dX10_isLargest_11 : decode cX10_isLargest 11 = .ok (.iconst 0, 1) := by decide +kernel
theorem dX10_isLargest_12 : decode cX10_isLargest 12 = .ok (.istore 4, 2) := by decide +kernel
theorem dX10_isLargest_14 : decode cX10_isLargest 14 = .ok (.iload 4, 2) := by decide +kernel
theorem dX10_isLargest_16 : decode cX10_isLargest 16 = .ok (.aload_n 0, 1) := by decide +kernel
theorem dX10_isLargest_17 : decode cX10_isLargest 17 = .ok (.getfield 15, 3) := by decide +kernel
theorem dX10_isLargest_20 : decode cX10_isLargest 20 = .ok (.iload_n 1, 1) := by decide +kernel
theorem dX10_isLargest_21 : decode cX10_isLargest 21 = .ok (.iaload, 1) := by decide +kernel
theorem dX10_isLargest_22 : decode cX10_isLargest 22 = .ok (.if_icmp .ge 34, 3) := by decide +kernel
theorem dX10_isLargest_25 : decode cX10_isLargest 25 = .ok (.aload_n 0, 1) := by decide +kernel
theorem dX10_isLargest_26 : decode cX10_isLargest 26 = .ok (.getfield 21, 3) := by decide +kernel
theorem dX10_isLargest_29 : decode cX10_isLargest 29 = .ok (.aload_n 0, 1) := by decide +kernel
theorem dX10_isLargest_30 : decode cX10_isLargest 30 = .ok (.getfield 9, 3) := by decide +kernel
theorem dX10_isLargest_33 : decode cX10_isLargest 33 = .ok (.iload_n 1, 1) := by decide +kernel
theorem dX10_isLargest_34 : decode cX10_isLargest 34 = .ok (.iaload, 1) := by decide +kernel
theorem dX10_isLargest_35 : decode cX10_isLargest 35 = .ok (.iload 4, 2) := by decide +kernel
theorem dX10_isLargest_37 : decode cX10_isLargest 37 = .ok (.iadd, 1) := by decide +kernel
theorem dX10_isLargest_38 : decode cX10_isLargest 38 = .ok (.iaload, 1) := by decide +kernel
theorem dX10_isLargest_39 : decode cX10_isLargest 39 = .ok (.aload_n 0, 1) := by decide +kernel
theorem dX10_isLargest_40 : decode cX10_isLargest 40 = .ok (.getfield 21, 3) := by decide +kernel
theorem dX10_isLargest_43 : decode cX10_isLargest 43 = .ok (.iload_n 3, 1) := by decide +kernel
theorem dX10_isLargest_44 : decode cX10_isLargest 44 = .ok (.iaload, 1) := by decide +kernel
theorem dX10_isLargest_45 : decode cX10_isLargest 45 = .ok (.if_icmp .le 5, 3) := by decide +kernel
theorem dX10_isLargest_48 : decode cX10_isLargest 48 = .ok (.iconst 0, 1) := by decide +kernel
theorem dX10_isLargest_49 : decode cX10_isLargest 49 = .ok (.ireturn, 1) := by decide +kernel
theorem dX10_isLargest_50 : decode cX10_isLargest 50 = .ok (.iinc 4 1, 3) := by decide +kernel
theorem dX10_isLargest_53 : decode cX10_isLargest 53 = .ok (.goto (-39), 3) := by decide +kernel
theorem dX10_isLargest_56 : decode cX10_isLargest 56 = .ok (.iconst 1, 1) := by decide +kernel
theorem dX10_isLargest_57 : decode cX10_isLargest 57 = .ok (.ireturn, 1) := by decide +kernel
theorem dX0_findRests_0 : decode cX0_findRests 0 = .ok (.aload_n 0, 1) := by decide +kernel
theorem dX0_findRests_1 : decode cX0_findRests 1 = .ok (.iconst 0, 1) := by decide +kernel
theorem dX0_findRests_2 : decode cX0_findRests 2 = .ok (.putfield 98, 3) := by decide +kernel
theorem dX0_findRests_5 : decode cX0_findRests 5 = .ok (.iconst 0, 1) := by decide +kernel
theorem dX0_findRests_6 : decode cX0_findRests 6 = .ok (.istore_n 1, 1) := by decide +kernel
theorem dX0_findRests_7 : decode cX0_findRests 7 = .ok (.iload_n 1, 1) := by decide +kernel
theorem dX0_findRests_8 : decode cX0_findRests 8 = .ok (.iconst 5, 1) := by decide +kernel
theorem dX0_findRests_9 : decode cX0_findRests 9 = .ok (.if_icmp .ge 64, 3) := by decide +kernel
theorem dX0_findRests_12 : decode cX0_findRests 12 = .ok (.iconst 0, 1) := by decide +kernel
theorem dX0_findRests_13 : decode cX0_findRests 13 = .ok (.istore_n 2, 1) := by decide +kernel
theorem dX0_findRests_14 : decode cX0_findRests 14 = .ok (.iload_n 2, 1) := by decide +kernel
theorem dX0_findRests_15 : decode cX0_findRests 15 = .ok (.iconst 5, 1) := by decide +kernel
theorem dX0_findRests_16 : decode cX0_findRests 16 = .ok (.if_icmp .ge 51, 3) := by decide +kernel
theorem dX0_findRests_19 : decode cX0_findRests 19 = .ok (.aload_n 0, 1) := by decide +kernel
theorem dX0_findRests_20 : decode cX0_findRests 20 = .ok (.iload_n 1, 1) := by decide +kernel
theorem dX0_findRests_21 : decode cX0_findRests 21 = .ok (.iload_n 2, 1) := by decide +kernel
theorem dX0_findRests_22 : decode cX0_findRests 22 = .ok (.invokevirtual 101, 3) := by decide +kernel
theorem dX0_findRests_25 : decode cX0_findRests 25 = .ok (.ifCond .eq 36, 3) := by decide +kernel
theorem dX0_findRests_28 : decode cX0_findRests 28 = .ok (.aload_n 0, 1) := by decide +kernel
theorem dX0_findRests_29 : decode cX0_findRests 29 = .ok (.getfield 27, 3) := by decide +kernel
theorem dX0_findRests_32 : decode cX0_findRests 32 = .ok (.aload_n 0, 1) := by decide +kernel
theorem dX0_findRests_33 : decode cX0_findRests 33 = .ok (.getfield 98, 3) := by decide +kernel
theorem dX0_findRests_36 : decode cX0_findRests 36 = .ok (.bipush 10, 2) := by decide +kernel
theorem dX0_findRests_38 : decode cX0_findRests 38 = .ok (.getstatic 84, 3) := by decide +kernel
theorem dX0_findRests_41 : decode cX0_findRests 41 = .ok (.iload_n 1, 1) := by decide +kernel
theorem dX0_findRests_42 : decode cX0_findRests 42 = .ok (.iaload, 1) := by decide +kernel
theorem dX0_findRests_43 : decode cX0_findRests 43 = .ok (.imul, 1) := by decide +kernel
theorem dX0_findRests_44 : decode cX0_findRests 44 = .ok (.getstatic 84, 3) := by decide +kernel
theorem dX0_findRests_47 : decode cX0_findRests 47 = .ok (.iload_n 2, 1) := by decide +kernel
theorem dX0_findRests_48 : decode cX0_findRests 48 = .ok (.iaload, 1) := by decide +kernel
theorem dX0_findRests_49 : decode cX0_findRests 49 = .ok (.iadd, 1) := by decide +kernel
theorem dX0_findRests_50 : decode cX0_findRests 50 = .ok (.iastore, 1) := by decide +kernel
theorem dX0_findRests_51 : decode cX0_findRests 51 = .ok (.aload_n 0, 1) := by decide +kernel
theorem dX0_findRests_52 : decode cX0_findRests 52 = .ok (.dup, 1) := by decide +kernel
theorem dX0_findRests_53 : decode cX0_findRests 53 = .ok (.getfield 98, 3) := by decide +kernel
theorem dX0_findRests_56 : decode cX0_findRests 56 = .ok (.iconst 1, 1) := by decide +kernel
theorem dX0_findRests_57 : decode cX0_findRests 57 = .ok (.iadd, 1) := by decide +kernel
theorem dX0_findRests_58 : decode cX0_findRests 58 = .ok (.putfield 98, 3) := by decide +kernel
theorem dX0_findRests_61 : decode cX0_findRests 61 = .ok (.iinc 2 1, 3) := by decide +kernel
theorem dX0_findRests_64 : decode cX0_findRests 64 = .ok (.goto (-50), 3) := by decide +kernel
theorem dX0_findRests_67 : decode cX0_findRests 67 = .ok (.iinc 1 1, 3) := by decide +kernel
theorem dX0_findRests_70 : decode cX0_findRests 70 = .ok (.goto (-63), 3) := by decide +kernel
theorem dX0_findRests_73 : decode cX0_findRests 73 = .ok (.return_, 1) := by decide +kernel
