theorem dX12_beginsFrom_0 : decode cX12_beginsFrom 0 = .ok (.iconst 0, 1) := by decide +kernel
theorem dX12_beginsFrom_1 : decode cX12_beginsFrom 1 = .ok (.istore_n 2, 1) := by decide +kernel
theorem dX12_beginsFrom_2 : decode cX12_beginsFrom 2 = .ok (.iload_n 2, 1) := by decide +kernel
theorem dX12_beginsFrom_3 : decode cX12_beginsFrom 3 = .ok (.aload_n 0, 1) := by decide +kernel
theorem dX12_beginsFrom_4 : decode cX12_beginsFrom 4 = .ok (.getfield 250, 3) := by decide +kernel
theorem dX12_beginsFrom_7 : decode cX12_beginsFrom 7 = .ok (.if_icmp .ge 36, 3) := by decide +kernel
theorem dX12_beginsFrom_10 : decode cX12_beginsFrom 10 = .ok (.aload_n 0, 1) := by decide +kernel
theorem dX12_beginsFrom_11 : decode cX12_beginsFrom 11 = .ok (.getfield 48, 3) := by decide +kernel
theorem dX12_beginsFrom_14 : decode cX12_beginsFrom 14 = .ok (.aload_n 0, 1) := by decide +kernel
theorem dX12_beginsFrom_15 : decode cX12_beginsFrom 15 = .ok (.getfield 45, 3) := by decide +kernel
theorem dX12_beginsFrom_18 : decode cX12_beginsFrom 18 = .ok (.iload_n 2, 1) := by decide +kernel
theorem dX12_beginsFrom_19 : decode cX12_beginsFrom 19 = .ok (.iaload, 1) := by decide +kernel
theorem dX12_beginsFrom_20 : decode cX12_beginsFrom 20 = .ok (.iaload, 1) := by decide +kernel
theorem dX12_beginsFrom_21 : decode cX12_beginsFrom 21 = .ok (.iload_n 1, 1) := by decide +kernel
theorem dX12_beginsFrom_22 : decode cX12_beginsFrom 22 = .ok (.if_icmp .lt 15, 3) := by decide +kernel
theorem dX12_beginsFrom_25 : decode cX12_beginsFrom 25 = .ok (.aload_n 0, 1) := by decide +kernel
theorem dX12_beginsFrom_26 : decode cX12_beginsFrom 26 = .ok (.getfield 48, 3) := by decide +kernel
theorem dX12_beginsFrom_29 : decode cX12_beginsFrom 29 = .ok (.aload_n 0, 1) := by decide +kernel
theorem dX12_beginsFrom_30 : decode cX12_beginsFrom 30 = .ok (.getfield 45, 3) := by decide +kernel
theorem dX12_beginsFrom_33 : decode cX12_beginsFrom 33 = .ok (.iload_n 2, 1) := by decide +kernel
theorem dX12_beginsFrom_34 : decode cX12_beginsFrom 34 = .ok (.iaload, 1) := by decide +kernel
theorem dX12_beginsFrom_35 : decode cX12_beginsFrom 35 = .ok (.iaload, 1) := by decide +kernel
theorem dX12_beginsFrom_36 : decode cX12_beginsFrom 36 = .ok (.ireturn, 1) := by decide +kernel
theorem dX12_beginsFrom_37 : decode cX12_beginsFrom 37 = .ok (.iinc 2 1, 3) := by decide +kernel
theorem dX12_beginsFrom_40 : decode cX12_beginsFrom 40 = .ok (.goto (-38), 3) := by decide +kernel
theorem dX12_beginsFrom_43 : decode cX12_beginsFrom 43 = .ok (.iconst (-1), 1) := by decide +kernel
theorem dX12_beginsFrom_44 : decode cX12_beginsFrom 44 = .ok (.ireturn, 1) := by decide +kernel
theorem dX12_beside_0 : decode cX12_beside 0 = .ok (.iload_n 1, 1) := by decide +kernel
theorem dX12_beside_1 : decode cX12_beside 1 = .ok (.aload_n 0, 1) := by decide +kernel
theorem dX12_beside_2 : decode cX12_beside 2 = .ok (.getfield 241, 3) := by decide +kernel
theorem dX12_beside_5 : decode cX12_beside 5 = .ok (.irem, 1) := by decide +kernel
theorem dX12_beside_6 : decode cX12_beside 6 = .ok (.iload_n 2, 1) := by decide +kernel
theorem dX12_beside_7 : decode cX12_beside 7 = .ok (.iconst 1, 1) := by decide +kernel
theorem dX12_beside_8 : decode cX12_beside 8 = .ok (.if_icmp .ne 7, 3) := by decide +kernel
theorem dX12_beside_11 : decode cX12_beside 11 = .ok (.iconst 1, 1) := by decide +kernel
theorem dX12_beside_12 : decode cX12_beside 12 = .ok (.goto 13, 3) := by decide +kernel
theorem dX12_beside_15 : decode cX12_beside 15 = .ok (.iload_n 2, 1) := by decide +kernel
theorem dX12_beside_16 : decode cX12_beside 16 = .ok (.iconst 3, 1) := by decide +kernel
theorem dX12_beside_17 : decode cX12_beside 17 = .ok (.if_icmp .ne 7, 3) := by decide +kernel
theorem dX12_beside_20 : decode cX12_beside 20 = .ok (.iconst (-1), 1) := by decide +kernel
theorem dX12_beside_21 : decode cX12_beside 21 = .ok (.goto 4, 3) := by decide +kernel
theorem dX12_beside_24 : decode cX12_beside 24 = .ok (.iconst 0, 1) := by decide +kernel
theorem dX12_beside_25 : decode cX12_beside 25 = .ok (.iadd, 1) := by decide +kernel
theorem dX12_beside_26 : decode cX12_beside 26 = .ok (.istore_n 3, 1) := by decide +kernel
theorem dX12_beside_27 : decode cX12_beside 27 = .ok (.iload_n 1, 1) := by decide +kernel
theorem dX12_beside_28 : decode cX12_beside 28 = .ok (.aload_n 0, 1) := by decide +kernel
theorem dX12_beside_29 : decode cX12_beside 29 = .ok (.getfield 241, 3) := by decide +kernel
theorem dX12_beside_32 : decode cX12_beside 32 = .ok (.idiv, 1) := by decide +kernel
theorem dX12_beside_33 : decode cX12_beside 33 = .ok (.iload_n 2, 1) := by decide +kernel
theorem dX12_beside_34 : decode cX12_beside 34 = .ok (.iconst 2, 1) := by decide +kernel
theorem dX12_beside_35 : decode cX12_beside 35 = .ok (.if_icmp .ne 7, 3) := by decide +kernel
theorem dX12_beside_38 : decode cX12_beside 38 = .ok (.iconst 1, 1) := by decide +kernel
theorem dX12_beside_39 : decode cX12_beside 39 = .ok (.goto 12, 3) := by decide +kernel
theorem dX12_beside_42 : decode cX12_beside 42 = .ok (.iload_n 2, 1) := by decide +kernel
theorem dX12_beside_43 : decode cX12_beside 43 = .ok (.ifCond .ne 7, 3) := by decide +kernel
theorem dX12_beside_46 : decode cX12_beside 46 = .ok (.iconst (-1), 1) := by decide +kernel
theorem dX12_beside_47 : decode cX12_beside 47 = .ok (.goto 4, 3) := by decide +kernel
theorem dX12_beside_50 : decode cX12_beside 50 = .ok (.iconst 0, 1) := by decide +kernel
theorem dX12_beside_51 : decode cX12_beside 51 = .ok (.iadd, 1) := by decide +kernel
theorem dX12_beside_52 : decode cX12_beside 52 = .ok (.istore 4, 2) := by decide +kernel
theorem dX12_beside_54 : decode cX12_beside 54 = .ok (.iload_n 3, 1) := by decide +kernel
theorem dX12_beside_55 : decode cX12_beside 55 = .ok (.iconst 0, 1) := by decide +kernel
theorem dX12_beside_56 : decode cX12_beside 56 = .ok (.aload_n 0, 1) := by decide +kernel
theorem dX12_beside_57 : decode cX12_beside 57 = .ok (.getfield 241, 3) := by decide +kernel
theorem dX12_beside_60 : decode cX12_beside 60 = .ok (.iconst 1, 1) := by decide +kernel
theorem dX12_beside_61 : decode cX12_beside 61 = .ok (.isub, 1) := by decide +kernel
theorem dX12_beside_62 : decode cX12_beside 62 = .ok (.invokestatic 199, 3) := by decide +kernel
theorem dX12_beside_65 : decode cX12_beside 65 = .ok (.ifCond .eq 30, 3) := by decide +kernel
theorem dX12_beside_68 : decode cX12_beside 68 = .ok (.iload 4, 2) := by decide +kernel
theorem dX12_beside_70 : decode cX12_beside 70 = .ok (.iconst 0, 1) := by decide +kernel
theorem dX12_beside_71 : decode cX12_beside 71 = .ok (.aload_n 0, 1) := by decide +kernel
theorem dX12_beside_72 : decode cX12_beside 72 = .ok (.getfield 244, 3) := by decide +kernel
theorem dX12_beside_75 : decode cX12_beside 75 = .ok (.iconst 1, 1) := by decide +kernel
theorem dX12_beside_76 : decode cX12_beside 76 = .ok (.isub, 1) := by decide +kernel
theorem dX12_beside_77 : decode cX12_beside 77 = .ok (.invokestatic 199, 3) := by decide +kernel
theorem dX12_beside_80 : decode cX12_beside 80 = .ok (.ifCond .eq 15, 3) := by decide +kernel
theorem dX12_beside_83 : decode cX12_beside 83 = .ok (.aload_n 0, 1) := by decide +kernel
theorem dX12_beside_84 : decode cX12_beside 84 = .ok (.getfield 241, 3) := by decide +kernel
theorem dX12_beside_87 : decode cX12_beside 87 = .ok (.iload 4, 2) := by decide +kernel
theorem dX12_beside_89 : decode cX12_beside 89 = .ok (.imul, 1) := by decide +kernel
theorem dX12_beside_90 : decode cX12_beside 90 = .ok (.iload_n 3, 1) := by decide +kernel
theorem dX12_beside_91 : decode cX12_beside 91 = .ok (.iadd, 1) := by decide +kernel
theorem dX12_beside_92 : decode cX12_beside 92 = .ok (.goto 4, 3) := by decide +kernel
theorem dX12_beside_95 : decode cX12_beside 95 = .ok (.iconst (-1), 1) := by decide +kernel
theorem dX12_beside_96 : decode cX12_beside 96 = .ok (.ireturn, 1) := by decide +kernel
theorem dX12_isSurfer_0 : decode cX12_isSurfer 0 = .ok (.iload_n 1, 1) := by decide +kernel
theorem dX12_isSurfer_1 : decode cX12_isSurfer 1 = .ok (.ifCond .lt 15, 3) := by decide +kernel
theorem dX12_isSurfer_4 : decode cX12_isSurfer 4 = .ok (.iload_n 1, 1) := by decide +kernel
theorem dX12_isSurfer_5 : decode cX12_isSurfer 5 = .ok (.aload_n 0, 1) := by decide +kernel
theorem dX12_isSurfer_6 : decode cX12_isSurfer 6 = .ok (.getfield 247, 3) := by decide +kernel
theorem dX12_isSurfer_9 : decode cX12_isSurfer 9 = .ok (.if_icmp .ge 7, 3) := by decide +kernel
theorem dX12_isSurfer_12 : decode cX12_isSurfer 12 = .ok (.iconst 1, 1) := by decide +kernel
theorem dX12_isSurfer_13 : decode cX12_isSurfer 13 = .ok (.goto 4, 3) := by decide +kernel
theorem dX12_isSurfer_16 : decode cX12_isSurfer 16 = .ok (.iconst 0, 1) := by decide +kernel
theorem dX12_isSurfer_17 : decode cX12_isSurfer 17 = .ok (.ireturn, 1) := by decide +kernel
theorem dX12_cells_0 : decode cX12_cells 0 = .ok (.aload_n 0, 1) := by decide +kernel
theorem dX12_cells_1 : decode cX12_cells 1 = .ok (.getfield 241, 3) := by decide +kernel
theorem dX12_cells_4 : decode cX12_cells 4 = .ok (.aload_n 0, 1) := by decide +kernel
theorem dX12_cells_5 : decode cX12_cells 5 = .ok (.getfield 244, 3) := by decide +kernel
theorem dX12_cells_8 : decode cX12_cells 8 = .ok (.imul, 1) := by decide +kernel
theorem dX12_cells_9 : decode cX12_cells 9 = .ok (.ireturn, 1) := by decide +kernel
theorem dX12_gainOf_0 : decode cX12_gainOf 0 = .ok (.aload_n 0, 1) := by decide +kernel
theorem dX12_gainOf_1 : decode cX12_gainOf 1 = .ok (.iload_n 1, 1) := by decide +kernel
theorem dX12_gainOf_2 : decode cX12_gainOf 2 = .ok (.iload_n 2, 1) := by decide +kernel
theorem dX12_gainOf_3 : decode cX12_gainOf 3 = .ok (.iload_n 3, 1) := by decide +kernel
theorem dX12_gainOf_4 : decode cX12_gainOf 4 = .ok (.invokevirtual 425, 3) := by decide +kernel
theorem dX12_gainOf_7 : decode cX12_gainOf 7 = .ok (.aload_n 0, 1) := by decide +kernel
theorem dX12_gainOf_8 : decode cX12_gainOf 8 = .ok (.getfield 51, 3) := by decide +kernel
theorem dX12_gainOf_11 : decode cX12_gainOf 11 = .ok (.iload_n 2, 1) := by decide +kernel
theorem dX12_gainOf_12 : decode cX12_gainOf 12 = .ok (.iaload, 1) := by decide +kernel
theorem dX12_gainOf_13 : decode cX12_gainOf 13 = .ok (.imul, 1) := by decide +kernel
theorem dX12_gainOf_14 : decode cX12_gainOf 14 = .ok (.ireturn, 1) := by decide +kernel
theorem dX12_seatFrom_0 : decode cX12_seatFrom 0 = .ok (.iconst 0, 1) := by decide +kernel
theorem dX12_seatFrom_1 : decode cX12_seatFrom 1 = .ok (.istore 4, 2) := by decide +kernel
theorem dX12_seatFrom_3 : decode cX12_seatFrom 3 = .ok (.iconst 0, 1) := by decide +kernel
theorem dX12_seatFrom_4 : decode cX12_seatFrom 4 = .ok (.istore 5, 2) := by decide +kernel
theorem dX12_seatFrom_6 : decode cX12_seatFrom 6 = .ok (.iload 5, 2) := by decide +kernel
theorem dX12_seatFrom_8 : decode cX12_seatFrom 8 = .ok (.aload_n 0, 1) := by decide +kernel
theorem dX12_seatFrom_9 : decode cX12_seatFrom 9 = .ok (.getfield 253, 3) := by decide +kernel
theorem dX12_seatFrom_12 : decode cX12_seatFrom 12 = .ok (.if_icmp .ge 37, 3) := by decide +kernel
theorem dX12_seatFrom_15 : decode cX12_seatFrom 15 = .ok (.iload 4, 2) := by decide +kernel
theorem dX12_seatFrom_17 : decode cX12_seatFrom 17 = .ok (.aload_n 0, 1) := by decide +kernel
theorem dX12_seatFrom_18 : decode cX12_seatFrom 18 = .ok (.getfield 48, 3) := by decide +kernel
theorem dX12_seatFrom_21 : decode cX12_seatFrom 21 = .ok (.iload 5, 2) := by decide +kernel
theorem dX12_seatFrom_23 : decode cX12_seatFrom 23 = .ok (.iaload, 1) := by decide +kernel
theorem dX12_seatFrom_24 : decode cX12_seatFrom 24 = .ok (.iload_n 3, 1) := by decide +kernel
theorem dX12_seatFrom_25 : decode cX12_seatFrom 25 = .ok (.if_icmp .lt 14, 3) := by decide +kernel
theorem dX12_seatFrom_28 : decode cX12_seatFrom 28 = .ok (.aload_n 0, 1) := by decide +kernel
theorem dX12_seatFrom_29 : decode cX12_seatFrom 29 = .ok (.iload_n 1, 1) := by decide +kernel
theorem dX12_seatFrom_30 : decode cX12_seatFrom 30 = .ok (.iload 5, 2) := by decide +kernel
theorem dX12_seatFrom_32 : decode cX12_seatFrom 32 = .ok (.iload_n 2, 1) := by decide +kernel
theorem dX12_seatFrom_33 : decode cX12_seatFrom 33 = .ok (.invokevirtual 479, 3) := by decide +kernel
theorem dX12_seatFrom_36 : decode cX12_seatFrom 36 = .ok (.goto 4, 3) := by decide +kernel
theorem dX12_seatFrom_39 : decode cX12_seatFrom 39 = .ok (.iconst 0, 1) := by decide +kernel
theorem dX12_seatFrom_40 : decode cX12_seatFrom 40 = .ok (.iadd, 1) := by decide +kernel
theorem dX12_seatFrom_41 : decode cX12_seatFrom 41 = .ok (.istore 4, 2) := by decide +kernel
theorem dX12_seatFrom_43 : decode cX12_seatFrom 43 = .ok (.iinc 5 1, 3) := by decide +kernel
theorem dX12_seatFrom_46 : decode cX12_seatFrom 46 = .ok (.goto (-40), 3) := by decide +kernel
theorem dX12_seatFrom_49 : decode cX12_seatFrom 49 = .ok (.iload 4, 2) := by decide +kernel
theorem dX12_seatFrom_51 : decode cX12_seatFrom 51 = .ok (.ireturn, 1) := by decide +kernel
theorem dX12_best_0 : decode cX12_best 0 = .ok (.aload_n 0, 1) := by decide +kernel
theorem dX12_best_1 : decode cX12_best 1 = .ok (.iconst 0, 1) := by decide +kernel
theorem dX12_best_2 : decode cX12_best 2 = .ok (.putfield 154, 3) := by decide +kernel
theorem dX12_best_5 : decode cX12_best 5 = .ok (.aload_n 0, 1) := by decide +kernel
theorem dX12_best_6 : decode cX12_best 6 = .ok (.iload_n 1, 1) := by decide +kernel
theorem dX12_best_7 : decode cX12_best 7 = .ok (.invokevirtual 413, 3) := by decide +kernel
theorem dX12_best_10 : decode cX12_best 10 = .ok (.ifCond .ne 5, 3) := by decide +kernel
theorem dX12_best_13 : decode cX12_best 13 = .ok (.iconst (-1), 1) := by decide +kernel
theorem dX12_best_14 : decode cX12_best 14 = .ok (.ireturn, 1) := by decide +kernel
theorem dX12_best_15 : decode cX12_best 15 = .ok (.iconst 0, 1) := by decide +kernel
theorem dX12_best_16 : decode cX12_best 16 = .ok (.istore_n 2, 1) := by decide +kernel
theorem dX12_best_17 : decode cX12_best 17 = .ok (.iconst (-1), 1) := by decide +kernel
theorem dX12_best_18 : decode cX12_best 18 = .ok (.istore_n 3, 1) := by decide +kernel
theorem dX12_best_19 : decode cX12_best 19 = .ok (.iconst 0, 1) := by decide +kernel
theorem dX12_best_20 : decode cX12_best 20 = .ok (.istore 4, 2) := by decide +kernel
theorem dX12_best_22 : decode cX12_best 22 = .ok (.iload 4, 2) := by decide +kernel
theorem dX12_best_24 : decode cX12_best 24 = .ok (.aload_n 0, 1) := by decide +kernel
theorem dX12_best_25 : decode cX12_best 25 = .ok (.invokevirtual 366, 3) := by decide +kernel
theorem dX12_best_28 : decode cX12_best 28 = .ok (.if_icmp .ge 39, 3) := by decide +kernel
theorem dX12_best_31 : decode cX12_best 31 = .ok (.aload_n 0, 1) := by decide +kernel
theorem dX12_best_32 : decode cX12_best 32 = .ok (.iload_n 1, 1) := by decide +kernel
theorem dX12_best_33 : decode cX12_best 33 = .ok (.iload 4, 2) := by decide +kernel
theorem dX12_best_35 : decode cX12_best 35 = .ok (.aload_n 0, 1) := by decide +kernel
theorem dX12_best_36 : decode cX12_best 36 = .ok (.getfield 106, 3) := by decide +kernel
theorem dX12_best_39 : decode cX12_best 39 = .ok (.iconst 0, 1) := by decide +kernel
theorem dX12_best_40 : decode cX12_best 40 = .ok (.iaload, 1) := by decide +kernel
theorem dX12_best_41 : decode cX12_best 41 = .ok (.invokevirtual 482, 3) := by decide +kernel
theorem dX12_best_44 : decode cX12_best 44 = .ok (.istore 5, 2) := by decide +kernel
theorem dX12_best_46 : decode cX12_best 46 = .ok (.iload 5, 2) := by decide +kernel
theorem dX12_best_48 : decode cX12_best 48 = .ok (.iload_n 3, 1) := by decide +kernel
theorem dX12_best_49 : decode cX12_best 49 = .ok (.if_icmp .gt 6, 3) := by decide +kernel
theorem dX12_best_52 : decode cX12_best 52 = .ok (.goto 9, 3) := by decide +kernel
theorem dX12_best_55 : decode cX12_best 55 = .ok (.iload 4, 2) := by decide +kernel
theorem dX12_best_57 : decode cX12_best 57 = .ok (.istore_n 2, 1) := by decide +kernel
theorem dX12_best_58 : decode cX12_best 58 = .ok (.iload 5, 2) := by decide +kernel
theorem dX12_best_60 : decode cX12_best 60 = .ok (.istore_n 3, 1) := by decide +kernel
theorem dX12_best_61 : decode cX12_best 61 = .ok (.iinc 4 1, 3) := by decide +kernel
theorem dX12_best_64 : decode cX12_best 64 = .ok (.goto (-42), 3) := by decide +kernel
theorem dX12_best_67 : decode cX12_best 67 = .ok (.iload_n 2, 1) := by decide +kernel
theorem dX12_best_68 : decode cX12_best 68 = .ok (.ireturn, 1) := by decide +kernel
theorem dX12_rank_0 : decode cX12_rank 0 = .ok (.iload_n 0, 1) := by decide +kernel
theorem dX12_rank_1 : decode cX12_rank 1 = .ok (.bipush 13, 2) := by decide +kernel
theorem dX12_rank_3 : decode cX12_rank 3 = .ok (.if_icmp .lt 8, 3) := by decide +kernel
theorem dX12_rank_6 : decode cX12_rank 6 = .ok (.bipush 6, 2) := by decide +kernel
theorem dX12_rank_8 : decode cX12_rank 8 = .ok (.goto 50, 3) := by decide +kernel
theorem dX12_rank_11 : decode cX12_rank 11 = .ok (.iload_n 0, 1) := by decide +kernel
theorem dX12_rank_12 : decode cX12_rank 12 = .ok (.bipush 11, 2) := by decide +kernel
theorem dX12_rank_14 : decode cX12_rank 14 = .ok (.if_icmp .lt 7, 3) := by decide +kernel
theorem dX12_rank_17 : decode cX12_rank 17 = .ok (.iconst 5, 1) := by decide +kernel
theorem dX12_rank_18 : decode cX12_rank 18 = .ok (.goto 40, 3) := by decide +kernel
theorem dX12_rank_21 : decode cX12_rank 21 = .ok (.iload_n 0, 1) := by decide +kernel
theorem dX12_rank_22 : decode cX12_rank 22 = .ok (.iconst 5, 1) := by decide +kernel
theorem dX12_rank_23 : decode cX12_rank 23 = .ok (.if_icmp .lt 7, 3) := by decide +kernel
theorem dX12_rank_26 : decode cX12_rank 26 = .ok (.iconst 4, 1) := by decide +kernel
theorem dX12_rank_27 : decode cX12_rank 27 = .ok (.goto 31, 3) := by decide +kernel
theorem dX12_rank_30 : decode cX12_rank 30 = .ok (.iload_n 0, 1) := by decide +kernel
theorem dX12_rank_31 : decode cX12_rank 31 = .ok (.iconst 2, 1) := by decide +kernel
theorem dX12_rank_32 : decode cX12_rank 32 = .ok (.if_icmp .ne 7, 3) := by decide +kernel
theorem dX12_rank_35 : decode cX12_rank 35 = .ok (.iconst 3, 1) := by decide +kernel
theorem dX12_rank_36 : decode cX12_rank 36 = .ok (.goto 22, 3) := by decide +kernel
theorem dX12_rank_39 : decode cX12_rank 39 = .ok (.iload_n 0, 1) := by decide +kernel
theorem dX12_rank_40 : decode cX12_rank 40 = .ok (.iconst 3, 1) := by decide +kernel
theorem dX12_rank_41 : decode cX12_rank 41 = .ok (.if_icmp .ne 7, 3) := by decide +kernel
theorem dX12_rank_44 : decode cX12_rank 44 = .ok (.iconst 2, 1) := by decide +kernel
theorem dX12_rank_45 : decode cX12_rank 45 = .ok (.goto 13, 3) := by decide +kernel
theorem dX12_rank_48 : decode cX12_rank 48 = .ok (.iload_n 0, 1) := by decide +kernel
theorem dX12_rank_49 : decode cX12_rank 49 = .ok (.iconst 4, 1) := by decide +kernel
theorem dX12_rank_50 : decode cX12_rank 50 = .ok (.if_icmp .ne 7, 3) := by decide +kernel
theorem dX12_rank_53 : decode cX12_rank 53 = .ok (.iconst 1, 1) := by decide +kernel
theorem dX12_rank_54 : decode cX12_rank 54 = .ok (.goto 4, 3) := by decide +kernel
theorem dX12_rank_57 : decode cX12_rank 57 = .ok (.iconst 0, 1) := by decide +kernel
theorem dX12_rank_58 : decode cX12_rank 58 = .ok (.ireturn, 1) := by decide +kernel
theorem dX12_dropHeld_0 : decode cX12_dropHeld 0 = .ok (.aload_n 0, 1) := by decide +kernel
theorem dX12_dropHeld_1 : decode cX12_dropHeld 1 = .ok (.dup, 1) := by decide +kernel
theorem dX12_dropHeld_2 : decode cX12_dropHeld 2 = .ok (.getfield 298, 3) := by decide +kernel
theorem dX12_dropHeld_5 : decode cX12_dropHeld 5 = .ok (.iconst 1, 1) := by decide +kernel
theorem dX12_dropHeld_6 : decode cX12_dropHeld 6 = .ok (.isub, 1) := by decide +kernel
theorem dX12_dropHeld_7 : decode cX12_dropHeld 7 = .ok (.putfield 298, 3) := by decide +kernel
theorem dX12_dropHeld_10 : decode cX12_dropHeld 10 = .ok (.aload_n 0, 1) := by decide +kernel
theorem dX12_dropHeld_11 : decode cX12_dropHeld 11 = .ok (.getfield 78, 3) := by decide +kernel
theorem dX12_dropHeld_14 : decode cX12_dropHeld 14 = .ok (.aload_n 0, 1) := by decide +kernel
theorem dX12_dropHeld_15 : decode cX12_dropHeld 15 = .ok (.getfield 298, 3) := by decide +kernel
theorem dX12_dropHeld_18 : decode cX12_dropHeld 18 = .ok (.iaload, 1) := by decide +kernel
theorem dX12_dropHeld_19 : decode cX12_dropHeld 19 = .ok (.ireturn, 1) := by decide +kernel
theorem dX12_grown_0 : decode cX12_grown 0 = .ok (.aload_n 0, 1) := by decide +kernel
theorem dX12_grown_1 : decode cX12_grown 1 = .ok (.getfield 66, 3) := by decide +kernel
theorem dX12_grown_4 : decode cX12_grown 4 = .ok (.bipush 64, 2) := by decide +kernel
theorem dX12_grown_6 : decode cX12_grown 6 = .ok (.aload_n 0, 1) := by decide +kernel
theorem dX12_grown_7 : decode cX12_grown 7 = .ok (.getfield 231, 3) := by decide +kernel
theorem dX12_grown_10 : decode cX12_grown 10 = .ok (.iadd, 1) := by decide +kernel
theorem dX12_grown_11 : decode cX12_grown 11 = .ok (.iload_n 1, 1) := by decide +kernel
theorem dX12_grown_12 : decode cX12_grown 12 = .ok (.iastore, 1) := by decide +kernel
theorem dX12_grown_13 : decode cX12_grown 13 = .ok (.aload_n 0, 1) := by decide +kernel
theorem dX12_grown_14 : decode cX12_grown 14 = .ok (.getfield 69, 3) := by decide +kernel
theorem dX12_grown_17 : decode cX12_grown 17 = .ok (.bipush 64, 2) := by decide +kernel
theorem dX12_grown_19 : decode cX12_grown 19 = .ok (.aload_n 0, 1) := by decide +kernel
theorem dX12_grown_20 : decode cX12_grown 20 = .ok (.getfield 231, 3) := by decide +kernel
theorem dX12_grown_23 : decode cX12_grown 23 = .ok (.iadd, 1) := by decide +kernel
theorem dX12_grown_24 : decode cX12_grown 24 = .ok (.iload_n 2, 1) := by decide +kernel
theorem dX12_grown_25 : decode cX12_grown 25 = .ok (.iastore, 1) := by decide +kernel
theorem dX12_grown_26 : decode cX12_grown 26 = .ok (.aload_n 0, 1) := by decide +kernel
theorem dX12_grown_27 : decode cX12_grown 27 = .ok (.getfield 72, 3) := by decide +kernel
theorem dX12_grown_30 : decode cX12_grown 30 = .ok (.bipush 64, 2) := by decide +kernel
theorem dX12_grown_32 : decode cX12_grown 32 = .ok (.aload_n 0, 1) := by decide +kernel
theorem dX12_grown_33 : decode cX12_grown 33 = .ok (.getfield 231, 3) := by decide +kernel
theorem dX12_grown_36 : decode cX12_grown 36 = .ok (.iadd, 1) := by decide +kernel
theorem dX12_grown_37 : decode cX12_grown 37 = .ok (.iload_n 3, 1) := by decide +kernel
theorem dX12_grown_38 : decode cX12_grown 38 = .ok (.iastore, 1) := by decide +kernel
theorem dX12_grown_39 : decode cX12_grown 39 = .ok (.aload_n 0, 1) := by decide +kernel
theorem dX12_grown_40 : decode cX12_grown 40 = .ok (.getfield 78, 3) := by decide +kernel
theorem dX12_grown_43 : decode cX12_grown 43 = .ok (.aload_n 0, 1) := by decide +kernel
theorem dX12_grown_44 : decode cX12_grown 44 = .ok (.getfield 298, 3) := by decide +kernel
theorem dX12_grown_47 : decode cX12_grown 47 = .ok (.aload_n 0, 1) := by decide +kernel
theorem dX12_grown_48 : decode cX12_grown 48 = .ok (.getfield 231, 3) := by decide +kernel
theorem dX12_grown_51 : decode cX12_grown 51 = .ok (.iastore, 1) := by decide +kernel
theorem dX12_grown_52 : decode cX12_grown 52 = .ok (.aload_n 0, 1) := by decide +kernel
theorem dX12_grown_53 : decode cX12_grown 53 = .ok (.dup, 1) := by decide +kernel
theorem dX12_grown_54 : decode cX12_grown 54 = .ok (.getfield 298, 3) := by decide +kernel
theorem dX12_grown_57 : decode cX12_grown 57 = .ok (.iconst 1, 1) := by decide +kernel
theorem dX12_grown_58 : decode cX12_grown 58 = .ok (.iadd, 1) := by decide +kernel
theorem dX12_grown_59 : decode cX12_grown 59 = .ok (.putfield 298, 3) := by decide +kernel
theorem dX12_grown_62 : decode cX12_grown 62 = .ok (.aload_n 0, 1) := by decide +kernel
theorem dX12_grown_63 : decode cX12_grown 63 = .ok (.dup, 1) := by decide +kernel
theorem dX12_grown_64 : decode cX12_grown 64 = .ok (.getfield 231, 3) := by decide +kernel
theorem dX12_grown_67 : decode cX12_grown 67 = .ok (.iconst 1, 1) := by decide +kernel
theorem dX12_grown_68 : decode cX12_grown 68 = .ok (.iadd, 1) := by decide +kernel
theorem dX12_grown_69 : decode cX12_grown 69 = .ok (.putfield 231, 3) := by decide +kernel
theorem dX12_grown_72 : decode cX12_grown 72 = .ok (.return_, 1) := by decide +kernel
theorem dX12_bind_0 : decode cX12_bind 0 = .ok (.aload_n 0, 1) := by decide +kernel
theorem dX12_bind_1 : decode cX12_bind 1 = .ok (.getfield 301, 3) := by decide +kernel
theorem dX12_bind_4 : decode cX12_bind 4 = .ok (.ifCond .le 72, 3) := by decide +kernel
theorem dX12_bind_7 : decode cX12_bind 7 = .ok (.aload_n 0, 1) := by decide +kernel
theorem dX12_bind_8 : decode cX12_bind 8 = .ok (.getfield 75, 3) := by decide +kernel
theorem dX12_bind_11 : decode cX12_bind 11 = .ok (.aload_n 0, 1) := by decide +kernel
theorem dX12_bind_12 : decode cX12_bind 12 = .ok (.getfield 301, 3) := by decide +kernel
theorem dX12_bind_15 : decode cX12_bind 15 = .ok (.iconst 1, 1) := by decide +kernel
theorem dX12_bind_16 : decode cX12_bind 16 = .ok (.isub, 1) := by decide +kernel
theorem dX12_bind_17 : decode cX12_bind 17 = .ok (.iaload, 1) := by decide +kernel
theorem dX12_bind_18 : decode cX12_bind 18 = .ok (.invokestatic 304, 3) := by decide +kernel
theorem dX12_bind_21 : decode cX12_bind 21 = .ok (.iload_n 1, 1) := by decide +kernel
theorem dX12_bind_22 : decode cX12_bind 22 = .ok (.if_icmp .lt 54, 3) := by decide +kernel
theorem dX12_bind_25 : decode cX12_bind 25 = .ok (.aload_n 0, 1) := by decide +kernel
theorem dX12_bind_26 : decode cX12_bind 26 = .ok (.dup, 1) := by decide +kernel
theorem dX12_bind_27 : decode cX12_bind 27 = .ok (.getfield 301, 3) := by decide +kernel
theorem dX12_bind_30 : decode cX12_bind 30 = .ok (.iconst 1, 1) := by decide +kernel
theorem dX12_bind_31 : decode cX12_bind 31 = .ok (.isub, 1) := by decide +kernel
theorem dX12_bind_32 : decode cX12_bind 32 = .ok (.putfield 301, 3) := by decide +kernel
theorem dX12_bind_35 : decode cX12_bind 35 = .ok (.aload_n 0, 1) := by decide +kernel
theorem dX12_bind_36 : decode cX12_bind 36 = .ok (.getfield 75, 3) := by decide +kernel
theorem dX12_bind_39 : decode cX12_bind 39 = .ok (.aload_n 0, 1) := by decide +kernel
theorem dX12_bind_40 : decode cX12_bind 40 = .ok (.getfield 301, 3) := by decide +kernel
theorem dX12_bind_43 : decode cX12_bind 43 = .ok (.iaload, 1) := by decide +kernel
theorem dX12_bind_44 : decode cX12_bind 44 = .ok (.istore_n 2, 1) := by decide +kernel
theorem dX12_bind_45 : decode cX12_bind 45 = .ok (.iload_n 2, 1) := by decide +kernel
theorem dX12_bind_46 : decode cX12_bind 46 = .ok (.iconst 2, 1) := by decide +kernel
theorem dX12_bind_47 : decode cX12_bind 47 = .ok (.if_icmp .ne 7, 3) := by decide +kernel
theorem dX12_bind_50 : decode cX12_bind 50 = .ok (.iconst (-1), 1) := by decide +kernel
theorem dX12_bind_51 : decode cX12_bind 51 = .ok (.goto 7, 3) := by decide +kernel
theorem dX12_bind_54 : decode cX12_bind 54 = .ok (.aload_n 0, 1) := by decide +kernel
theorem dX12_bind_55 : decode cX12_bind 55 = .ok (.invokevirtual 308, 3) := by decide +kernel
theorem dX12_bind_58 : decode cX12_bind 58 = .ok (.istore_n 3, 1) := by decide +kernel
theorem dX12_bind_59 : decode cX12_bind 59 = .ok (.aload_n 0, 1) := by decide +kernel
theorem dX12_bind_60 : decode cX12_bind 60 = .ok (.invokevirtual 308, 3) := by decide +kernel
theorem dX12_bind_63 : decode cX12_bind 63 = .ok (.istore 4, 2) := by decide +kernel
theorem dX12_bind_65 : decode cX12_bind 65 = .ok (.aload_n 0, 1) := by decide +kernel
theorem dX12_bind_66 : decode cX12_bind 66 = .ok (.iload_n 2, 1) := by decide +kernel
theorem dX12_bind_67 : decode cX12_bind 67 = .ok (.iload 4, 2) := by decide +kernel
theorem dX12_bind_69 : decode cX12_bind 69 = .ok (.iload_n 3, 1) := by decide +kernel
theorem dX12_bind_70 : decode cX12_bind 70 = .ok (.invokevirtual 312, 3) := by decide +kernel
theorem dX12_bind_73 : decode cX12_bind 73 = .ok (.goto (-73), 3) := by decide +kernel
theorem dX12_bind_76 : decode cX12_bind 76 = .ok (.return_, 1) := by decide +kernel
theorem dX12_cellRead_0 : decode cX12_cellRead 0 = .ok (.aload_n 0, 1) := by decide +kernel
theorem dX12_cellRead_1 : decode cX12_cellRead 1 = .ok (.iconst 1, 1) := by decide +kernel
theorem dX12_cellRead_2 : decode cX12_cellRead 2 = .ok (.putfield 237, 3) := by decide +kernel
theorem dX12_cellRead_5 : decode cX12_cellRead 5 = .ok (.aload_n 0, 1) := by decide +kernel
theorem dX12_cellRead_6 : decode cX12_cellRead 6 = .ok (.iconst 0, 1) := by decide +kernel
theorem dX12_cellRead_7 : decode cX12_cellRead 7 = .ok (.aload_n 0, 1) := by decide +kernel
theorem dX12_cellRead_8 : decode cX12_cellRead 8 = .ok (.getfield 216, 3) := by decide +kernel
theorem dX12_cellRead_11 : decode cX12_cellRead 11 = .ok (.iconst 1, 1) := by decide +kernel
theorem dX12_cellRead_12 : decode cX12_cellRead 12 = .ok (.isub, 1) := by decide +kernel
theorem dX12_cellRead_13 : decode cX12_cellRead 13 = .ok (.invokevirtual 212, 3) := by decide +kernel
theorem dX12_cellRead_16 : decode cX12_cellRead 16 = .ok (.ifCond .ne 5, 3) := by decide +kernel
theorem dX12_cellRead_19 : decode cX12_cellRead 19 = .ok (.iconst 0, 1) := by decide +kernel
theorem dX12_cellRead_20 : decode cX12_cellRead 20 = .ok (.ireturn, 1) := by decide +kernel
theorem dX12_cellRead_21 : decode cX12_cellRead 21 = .ok (.aload_n 0, 1) := by decide +kernel
theorem dX12_cellRead_22 : decode cX12_cellRead 22 = .ok (.aload_n 0, 1) := by decide +kernel
theorem dX12_cellRead_23 : decode cX12_cellRead 23 = .ok (.getfield 203, 3) := by decide +kernel
theorem dX12_cellRead_26 : decode cX12_cellRead 26 = .ok (.putfield 266, 3) := by decide +kernel
theorem dX12_cellRead_29 : decode cX12_cellRead 29 = .ok (.aload_n 0, 1) := by decide +kernel
theorem dX12_cellRead_30 : decode cX12_cellRead 30 = .ok (.iconst 0, 1) := by decide +kernel
theorem dX12_cellRead_31 : decode cX12_cellRead 31 = .ok (.aload_n 0, 1) := by decide +kernel
theorem dX12_cellRead_32 : decode cX12_cellRead 32 = .ok (.getfield 219, 3) := by decide +kernel
theorem dX12_cellRead_35 : decode cX12_cellRead 35 = .ok (.iconst 1, 1) := by decide +kernel
theorem dX12_cellRead_36 : decode cX12_cellRead 36 = .ok (.isub, 1) := by decide +kernel
theorem dX12_cellRead_37 : decode cX12_cellRead 37 = .ok (.invokevirtual 212, 3) := by decide +kernel
theorem dX12_cellRead_40 : decode cX12_cellRead 40 = .ok (.ifCond .ne 5, 3) := by decide +kernel
theorem dX12_cellRead_43 : decode cX12_cellRead 43 = .ok (.iconst 0, 1) := by decide +kernel
theorem dX12_cellRead_44 : decode cX12_cellRead 44 = .ok (.ireturn, 1) := by decide +kernel
theorem dX12_cellRead_45 : decode cX12_cellRead 45 = .ok (.iconst 1, 1) := by decide +kernel
theorem dX12_cellRead_46 : decode cX12_cellRead 46 = .ok (.ireturn, 1) := by decide +kernel
theorem dX12_layTried_0 : decode cX12_layTried 0 = .ok (.iconst 0, 1) := by decide +kernel
theorem dX12_layTried_1 : decode cX12_layTried 1 = .ok (.istore_n 1, 1) := by decide +kernel
theorem dX12_layTried_2 : decode cX12_layTried 2 = .ok (.iload_n 1, 1) := by decide +kernel
theorem dX12_layTried_3 : decode cX12_layTried 3 = .ok (.iconst 5, 1) := by decide +kernel
theorem dX12_layTried_4 : decode cX12_layTried 4 = .ok (.if_icmp .ge 65, 3) := by decide +kernel
theorem dX12_layTried_7 : decode cX12_layTried 7 = .ok (.aload_n 0, 1) := by decide +kernel
theorem dX12_layTried_8 : decode cX12_layTried 8 = .ok (.getfield 88, 3) := by decide +kernel
theorem dX12_layTried_11 : decode cX12_layTried 11 = .ok (.iconst 5, 1) := by decide +kernel
theorem dX12_layTried_12 : decode cX12_layTried 12 = .ok (.iload_n 1, 1) := by decide +kernel
theorem dX12_layTried_13 : decode cX12_layTried 13 = .ok (.iadd, 1) := by decide +kernel
theorem dX12_layTried_14 : decode cX12_layTried 14 = .ok (.aload_n 0, 1) := by decide +kernel
theorem dX12_layTried_15 : decode cX12_layTried 15 = .ok (.getfield 88, 3) := by decide +kernel
theorem dX12_layTried_18 : decode cX12_layTried 18 = .ok (.iload_n 1, 1) := by decide +kernel
theorem dX12_layTried_19 : decode cX12_layTried 19 = .ok (.iaload, 1) := by decide +kernel
theorem dX12_layTried_20 : decode cX12_layTried 20 = .ok (.iastore, 1) := by decide +kernel
theorem dX12_layTried_21 : decode cX12_layTried 21 = .ok (.aload_n 0, 1) := by decide +kernel
theorem dX12_layTried_22 : decode cX12_layTried 22 = .ok (.getfield 91, 3) := by decide +kernel
theorem dX12_layTried_25 : decode cX12_layTried 25 = .ok (.iconst 5, 1) := by decide +kernel
theorem dX12_layTried_26 : decode cX12_layTried 26 = .ok (.iload_n 1, 1) := by decide +kernel
theorem dX12_layTried_27 : decode cX12_layTried 27 = .ok (.iadd, 1) := by decide +kernel
theorem dX12_layTried_28 : decode cX12_layTried 28 = .ok (.aload_n 0, 1) := by decide +kernel
theorem dX12_layTried_29 : decode cX12_layTried 29 = .ok (.getfield 91, 3) := by decide +kernel
theorem dX12_layTried_32 : decode cX12_layTried 32 = .ok (.iload_n 1, 1) := by decide +kernel
theorem dX12_layTried_33 : decode cX12_layTried 33 = .ok (.iaload, 1) := by decide +kernel
theorem dX12_layTried_34 : decode cX12_layTried 34 = .ok (.iastore, 1) := by decide +kernel
theorem dX12_layTried_35 : decode cX12_layTried 35 = .ok (.aload_n 0, 1) := by decide +kernel
theorem dX12_layTried_36 : decode cX12_layTried 36 = .ok (.getfield 94, 3) := by decide +kernel
theorem dX12_layTried_39 : decode cX12_layTried 39 = .ok (.iconst 5, 1) := by decide +kernel
theorem dX12_layTried_40 : decode cX12_layTried 40 = .ok (.iload_n 1, 1) := by decide +kernel
theorem dX12_layTried_41 : decode cX12_layTried 41 = .ok (.iadd, 1) := by decide +kernel
theorem dX12_layTried_42 : decode cX12_layTried 42 = .ok (.aload_n 0, 1) := by decide +kernel
theorem dX12_layTried_43 : decode cX12_layTried 43 = .ok (.getfield 94, 3) := by decide +kernel
theorem dX12_layTried_46 : decode cX12_layTried 46 = .ok (.iload_n 1, 1) := by decide +kernel
theorem dX12_layTried_47 : decode cX12_layTried 47 = .ok (.iaload, 1) := by decide +kernel
theorem dX12_layTried_48 : decode cX12_layTried 48 = .ok (.iastore, 1) := by decide +kernel
theorem dX12_layTried_49 : decode cX12_layTried 49 = .ok (.aload_n 0, 1) := by decide +kernel
theorem dX12_layTried_50 : decode cX12_layTried 50 = .ok (.getfield 97, 3) := by decide +kernel
theorem dX12_layTried_53 : decode cX12_layTried 53 = .ok (.iconst 5, 1) := by decide +kernel
theorem dX12_layTried_54 : decode cX12_layTried 54 = .ok (.iload_n 1, 1) := by decide +kernel
theorem dX12_layTried_55 : decode cX12_layTried 55 = .ok (.iadd, 1) := by decide +kernel
theorem dX12_layTried_56 : decode cX12_layTried 56 = .ok (.aload_n 0, 1) := by decide +kernel
theorem dX12_layTried_57 : decode cX12_layTried 57 = .ok (.getfield 97, 3) := by decide +kernel
theorem dX12_layTried_60 : decode cX12_layTried 60 = .ok (.iload_n 1, 1) := by decide +kernel
theorem dX12_layTried_61 : decode cX12_layTried 61 = .ok (.iaload, 1) := by decide +kernel
theorem dX12_layTried_62 : decode cX12_layTried 62 = .ok (.iastore, 1) := by decide +kernel
theorem dX12_layTried_63 : decode cX12_layTried 63 = .ok (.iinc 1 1, 3) := by decide +kernel
theorem dX12_layTried_66 : decode cX12_layTried 66 = .ok (.goto (-64), 3) := by decide +kernel
theorem dX12_layTried_69 : decode cX12_layTried 69 = .ok (.iconst 0, 1) := by decide +kernel
theorem dX12_layTried_70 : decode cX12_layTried 70 = .ok (.istore_n 1, 1) := by decide +kernel
theorem dX12_layTried_71 : decode cX12_layTried 71 = .ok (.iload_n 1, 1) := by decide +kernel
theorem dX12_layTried_72 : decode cX12_layTried 72 = .ok (.bipush 28, 2) := by decide +kernel
theorem dX12_layTried_74 : decode cX12_layTried 74 = .ok (.if_icmp .ge 24, 3) := by decide +kernel
theorem dX12_layTried_77 : decode cX12_layTried 77 = .ok (.aload_n 0, 1) := by decide +kernel
theorem dX12_layTried_78 : decode cX12_layTried 78 = .ok (.getfield 103, 3) := by decide +kernel
theorem dX12_layTried_81 : decode cX12_layTried 81 = .ok (.bipush 28, 2) := by decide +kernel
theorem dX12_layTried_83 : decode cX12_layTried 83 = .ok (.iload_n 1, 1) := by decide +kernel
theorem dX12_layTried_84 : decode cX12_layTried 84 = .ok (.iadd, 1) := by decide +kernel
theorem dX12_layTried_85 : decode cX12_layTried 85 = .ok (.aload_n 0, 1) := by decide +kernel
theorem dX12_layTried_86 : decode cX12_layTried 86 = .ok (.getfield 103, 3) := by decide +kernel
theorem dX12_layTried_89 : decode cX12_layTried 89 = .ok (.iload_n 1, 1) := by decide +kernel
theorem dX12_layTried_90 : decode cX12_layTried 90 = .ok (.iaload, 1) := by decide +kernel
theorem dX12_layTried_91 : decode cX12_layTried 91 = .ok (.iastore, 1) := by decide +kernel
theorem dX12_layTried_92 : decode cX12_layTried 92 = .ok (.iinc 1 1, 3) := by decide +kernel
theorem dX12_layTried_95 : decode cX12_layTried 95 = .ok (.goto (-24), 3) := by decide +kernel
theorem dX12_layTried_98 : decode cX12_layTried 98 = .ok (.aload_n 0, 1) := by decide +kernel
theorem dX12_layTried_99 : decode cX12_layTried 99 = .ok (.getfield 106, 3) := by decide +kernel
theorem dX12_layTried_102 : decode cX12_layTried 102 = .ok (.iconst 1, 1) := by decide +kernel
theorem dX12_layTried_103 : decode cX12_layTried 103 = .ok (.aload_n 0, 1) := by decide +kernel
theorem dX12_layTried_104 : decode cX12_layTried 104 = .ok (.getfield 106, 3) := by decide +kernel
theorem dX12_layTried_107 : decode cX12_layTried 107 = .ok (.iconst 0, 1) := by decide +kernel
theorem dX12_layTried_108 : decode cX12_layTried 108 = .ok (.iaload, 1) := by decide +kernel
theorem dX12_layTried_109 : decode cX12_layTried 109 = .ok (.iastore, 1) := by decide +kernel
theorem dX12_layTried_110 : decode cX12_layTried 110 = .ok (.aload_n 0, 1) := by decide +kernel
theorem dX12_layTried_111 : decode cX12_layTried 111 = .ok (.getfield 109, 3) := by decide +kernel
theorem dX12_layTried_114 : decode cX12_layTried 114 = .ok (.iconst 1, 1) := by decide +kernel
theorem dX12_layTried_115 : decode cX12_layTried 115 = .ok (.iconst 0, 1) := by decide +kernel
theorem dX12_layTried_116 : decode cX12_layTried 116 = .ok (.iastore, 1) := by decide +kernel
theorem dX12_layTried_117 : decode cX12_layTried 117 = .ok (.aload_n 0, 1) := by decide +kernel
theorem dX12_layTried_118 : decode cX12_layTried 118 = .ok (.getfield 112, 3) := by decide +kernel
theorem dX12_layTried_121 : decode cX12_layTried 121 = .ok (.iconst 1, 1) := by decide +kernel
theorem dX12_layTried_122 : decode cX12_layTried 122 = .ok (.iconst 0, 1) := by decide +kernel
theorem dX12_layTried_123 : decode cX12_layTried 123 = .ok (.iastore, 1) := by decide +kernel
theorem dX12_layTried_124 : decode cX12_layTried 124 = .ok (.return_, 1) := by decide +kernel
theorem dX12_goesOn_0 : decode cX12_goesOn 0 = .ok (.aload_n 0, 1) := by decide +kernel
theorem dX12_goesOn_1 : decode cX12_goesOn 1 = .ok (.getfield 253, 3) := by decide +kernel
theorem dX12_goesOn_4 : decode cX12_goesOn 4 = .ok (.ifCond .le 32, 3) := by decide +kernel
theorem dX12_goesOn_7 : decode cX12_goesOn 7 = .ok (.aload_n 0, 1) := by decide +kernel
theorem dX12_goesOn_8 : decode cX12_goesOn 8 = .ok (.getfield 106, 3) := by decide +kernel
theorem dX12_goesOn_11 : decode cX12_goesOn 11 = .ok (.iconst 1, 1) := by decide +kernel
theorem dX12_goesOn_12 : decode cX12_goesOn 12 = .ok (.iaload, 1) := by decide +kernel
theorem dX12_goesOn_13 : decode cX12_goesOn 13 = .ok (.aload_n 0, 1) := by decide +kernel
theorem dX12_goesOn_14 : decode cX12_goesOn 14 = .ok (.getfield 48, 3) := by decide +kernel
theorem dX12_goesOn_17 : decode cX12_goesOn 17 = .ok (.aload_n 0, 1) := by decide +kernel
theorem dX12_goesOn_18 : decode cX12_goesOn 18 = .ok (.getfield 253, 3) := by decide +kernel
theorem dX12_goesOn_21 : decode cX12_goesOn 21 = .ok (.iconst 1, 1) := by decide +kernel
theorem dX12_goesOn_22 : decode cX12_goesOn 22 = .ok (.isub, 1) := by decide +kernel
theorem dX12_goesOn_23 : decode cX12_goesOn 23 = .ok (.iaload, 1) := by decide +kernel
theorem dX12_goesOn_24 : decode cX12_goesOn 24 = .ok (.if_icmp .gt 12, 3) := by decide +kernel
theorem dX12_goesOn_27 : decode cX12_goesOn 27 = .ok (.aload_n 0, 1) := by decide +kernel
theorem dX12_goesOn_28 : decode cX12_goesOn 28 = .ok (.iconst 1, 1) := by decide +kernel
theorem dX12_goesOn_29 : decode cX12_goesOn 29 = .ok (.iload_n 1, 1) := by decide +kernel
theorem dX12_goesOn_30 : decode cX12_goesOn 30 = .ok (.invokevirtual 472, 3) := by decide +kernel
theorem dX12_goesOn_33 : decode cX12_goesOn 33 = .ok (.goto (-33), 3) := by decide +kernel
theorem dX12_goesOn_36 : decode cX12_goesOn 36 = .ok (.return_, 1) := by decide +kernel
theorem dX12_chance_0 : decode cX12_chance 0 = .ok (.aload_n 0, 1) := by decide +kernel
theorem dX12_chance_1 : decode cX12_chance 1 = .ok (.iconst 0, 1) := by decide +kernel
theorem dX12_chance_2 : decode cX12_chance 2 = .ok (.putfield 154, 3) := by decide +kernel
theorem dX12_chance_5 : decode cX12_chance 5 = .ok (.iload_n 1, 1) := by decide +kernel
theorem dX12_chance_6 : decode cX12_chance 6 = .ok (.ifCond .lt 21, 3) := by decide +kernel
theorem dX12_chance_9 : decode cX12_chance 9 = .ok (.aload_n 0, 1) := by decide +kernel
theorem dX12_chance_10 : decode cX12_chance 10 = .ok (.iload_n 2, 1) := by decide +kernel
theorem dX12_chance_11 : decode cX12_chance 11 = .ok (.invokevirtual 413, 3) := by decide +kernel
theorem dX12_chance_14 : decode cX12_chance 14 = .ok (.ifCond .eq 13, 3) := by decide +kernel
theorem dX12_chance_17 : decode cX12_chance 17 = .ok (.iload_n 3, 1) := by decide +kernel
theorem dX12_chance_18 : decode cX12_chance 18 = .ok (.iconst 0, 1) := by decide +kernel
theorem dX12_chance_19 : decode cX12_chance 19 = .ok (.bipush 28, 2) := by decide +kernel
theorem dX12_chance_21 : decode cX12_chance 21 = .ok (.invokestatic 199, 3) := by decide +kernel
theorem dX12_chance_24 : decode cX12_chance 24 = .ok (.ifCond .ne 5, 3) := by decide +kernel
theorem dX12_chance_27 : decode cX12_chance 27 = .ok (.iconst (-1), 1) := by decide +kernel
theorem dX12_chance_28 : decode cX12_chance 28 = .ok (.ireturn, 1) := by decide +kernel
theorem dX12_chance_29 : decode cX12_chance 29 = .ok (.aload_n 0, 1) := by decide +kernel
theorem dX12_chance_30 : decode cX12_chance 30 = .ok (.getfield 372, 3) := by decide +kernel
theorem dX12_chance_33 : decode cX12_chance 33 = .ok (.lstore 4, 2) := by decide +kernel
theorem dX12_chance_35 : decode cX12_chance 35 = .ok (.aload_n 0, 1) := by decide +kernel
theorem dX12_chance_36 : decode cX12_chance 36 = .ok (.iload_n 1, 1) := by decide +kernel
theorem dX12_chance_37 : decode cX12_chance 37 = .ok (.i2l, 1) := by decide +kernel
theorem dX12_chance_38 : decode cX12_chance 38 = .ok (.putfield 372, 3) := by decide +kernel
theorem dX12_chance_41 : decode cX12_chance 41 = .ok (.iconst 0, 1) := by decide +kernel
theorem dX12_chance_42 : decode cX12_chance 42 = .ok (.istore 6, 2) := by decide +kernel
theorem dX12_chance_44 : decode cX12_chance 44 = .ok (.iconst 0, 1) := by decide +kernel
theorem dX12_chance_45 : decode cX12_chance 45 = .ok (.istore 7, 2) := by decide +kernel
theorem dX12_chance_47 : decode cX12_chance 47 = .ok (.iload 7, 2) := by decide +kernel
theorem dX12_chance_49 : decode cX12_chance 49 = .ok (.bipush 10, 2) := by decide +kernel
theorem dX12_chance_51 : decode cX12_chance 51 = .ok (.if_icmp .ge 43, 3) := by decide +kernel
theorem dX12_chance_54 : decode cX12_chance 54 = .ok (.aload_n 0, 1) := by decide +kernel
theorem dX12_chance_55 : decode cX12_chance 55 = .ok (.invokevirtual 509, 3) := by decide +kernel
theorem dX12_chance_58 : decode cX12_chance 58 = .ok (.aload_n 0, 1) := by decide +kernel
theorem dX12_chance_59 : decode cX12_chance 59 = .ok (.aload_n 0, 1) := by decide +kernel
theorem dX12_chance_60 : decode cX12_chance 60 = .ok (.getfield 369, 3) := by decide +kernel
theorem dX12_chance_63 : decode cX12_chance 63 = .ok (.invokevirtual 512, 3) := by decide +kernel
theorem dX12_chance_66 : decode cX12_chance 66 = .ok (.iload 6, 2) := by decide +kernel
theorem dX12_chance_68 : decode cX12_chance 68 = .ok (.aload_n 0, 1) := by decide +kernel
theorem dX12_chance_69 : decode cX12_chance 69 = .ok (.getfield 91, 3) := by decide +kernel
theorem dX12_chance_72 : decode cX12_chance 72 = .ok (.iconst 5, 1) := by decide +kernel
theorem dX12_chance_73 : decode cX12_chance 73 = .ok (.iload_n 2, 1) := by decide +kernel
theorem dX12_chance_74 : decode cX12_chance 74 = .ok (.iadd, 1) := by decide +kernel
theorem dX12_chance_75 : decode cX12_chance 75 = .ok (.iaload, 1) := by decide +kernel
theorem dX12_chance_76 : decode cX12_chance 76 = .ok (.iload_n 3, 1) := by decide +kernel
theorem dX12_chance_77 : decode cX12_chance 77 = .ok (.if_icmp .lt 7, 3) := by decide +kernel
theorem dX12_chance_80 : decode cX12_chance 80 = .ok (.iconst 1, 1) := by decide +kernel
theorem dX12_chance_81 : decode cX12_chance 81 = .ok (.goto 4, 3) := by decide +kernel
theorem dX12_chance_84 : decode cX12_chance 84 = .ok (.iconst 0, 1) := by decide +kernel
theorem dX12_chance_85 : decode cX12_chance 85 = .ok (.iadd, 1) := by decide +kernel
theorem dX12_chance_86 : decode cX12_chance 86 = .ok (.istore 6, 2) := by decide +kernel
theorem dX12_chance_88 : decode cX12_chance 88 = .ok (.iinc 7 1, 3) := by decide +kernel
theorem dX12_chance_91 : decode cX12_chance 91 = .ok (.goto (-44), 3) := by decide +kernel
theorem dX12_chance_94 : decode cX12_chance 94 = .ok (.aload_n 0, 1) := by decide +kernel
theorem dX12_chance_95 : decode cX12_chance 95 = .ok (.lload 4, 2) := by decide +kernel
theorem dX12_chance_97 : decode cX12_chance 97 = .ok (.putfield 372, 3) := by decide +kernel
theorem dX12_chance_100 : decode cX12_chance 100 = .ok (.iload 6, 2) := by decide +kernel
theorem dX12_chance_102 : decode cX12_chance 102 = .ok (.ireturn, 1) := by decide +kernel
theorem dX12_comesTo_0 : decode cX12_comesTo 0 = .ok (.iload_n 2, 1) := by decide +kernel
theorem dX12_comesTo_1 : decode cX12_comesTo 1 = .ok (.iconst 4, 1) := by decide +kernel
theorem dX12_comesTo_2 : decode cX12_comesTo 2 = .ok (.if_icmp .ne 12, 3) := by decide +kernel
theorem dX12_comesTo_5 : decode cX12_comesTo 5 = .ok (.aload_n 0, 1) := by decide +kernel
theorem dX12_comesTo_6 : decode cX12_comesTo 6 = .ok (.getfield 88, 3) := by decide +kernel
theorem dX12_comesTo_9 : decode cX12_comesTo 9 = .ok (.iload_n 1, 1) := by decide +kernel
theorem dX12_comesTo_10 : decode cX12_comesTo 10 = .ok (.iaload, 1) := by decide +kernel
theorem dX12_comesTo_11 : decode cX12_comesTo 11 = .ok (.goto 14, 3) := by decide +kernel
theorem dX12_comesTo_14 : decode cX12_comesTo 14 = .ok (.aload_n 0, 1) := by decide +kernel
theorem dX12_comesTo_15 : decode cX12_comesTo 15 = .ok (.aload_n 0, 1) := by decide +kernel
theorem dX12_comesTo_16 : decode cX12_comesTo 16 = .ok (.getfield 88, 3) := by decide +kernel
theorem dX12_comesTo_19 : decode cX12_comesTo 19 = .ok (.iload_n 1, 1) := by decide +kernel
theorem dX12_comesTo_20 : decode cX12_comesTo 20 = .ok (.iaload, 1) := by decide +kernel
theorem dX12_comesTo_21 : decode cX12_comesTo 21 = .ok (.iload_n 2, 1) := by decide +kernel
theorem dX12_comesTo_22 : decode cX12_comesTo 22 = .ok (.invokevirtual 466, 3) := by decide +kernel
theorem dX12_comesTo_25 : decode cX12_comesTo 25 = .ok (.ireturn, 1) := by decide +kernel
theorem dX12_copies_0 : decode cX12_copies 0 = .ok (.iconst 0, 1) := by decide +kernel
theorem dX12_copies_1 : decode cX12_copies 1 = .ok (.istore_n 2, 1) := by decide +kernel
theorem dX12_copies_2 : decode cX12_copies 2 = .ok (.iload_n 2, 1) := by decide +kernel
theorem dX12_copies_3 : decode cX12_copies 3 = .ok (.iload_n 1, 1) := by decide +kernel
theorem dX12_copies_4 : decode cX12_copies 4 = .ok (.if_icmp .ge 17, 3) := by decide +kernel
theorem dX12_copies_7 : decode cX12_copies 7 = .ok (.aload_n 0, 1) := by decide +kernel
theorem dX12_copies_8 : decode cX12_copies 8 = .ok (.iload_n 2, 1) := by decide +kernel
theorem dX12_copies_9 : decode cX12_copies 9 = .ok (.aload_n 0, 1) := by decide +kernel
theorem dX12_copies_10 : decode cX12_copies 10 = .ok (.iload_n 1, 1) := by decide +kernel
theorem dX12_copies_11 : decode cX12_copies 11 = .ok (.iload_n 2, 1) := by decide +kernel
theorem dX12_copies_12 : decode cX12_copies 12 = .ok (.iadd, 1) := by decide +kernel
theorem dX12_copies_13 : decode cX12_copies 13 = .ok (.iaload, 1) := by decide +kernel
theorem dX12_copies_14 : decode cX12_copies 14 = .ok (.iastore, 1) := by decide +kernel
theorem dX12_copies_15 : decode cX12_copies 15 = .ok (.iinc 2 1, 3) := by decide +kernel
theorem dX12_copies_18 : decode cX12_copies 18 = .ok (.goto (-16), 3) := by decide +kernel
theorem dX12_copies_21 : decode cX12_copies 21 = .ok (.return_, 1) := by decide +kernel
theorem dX12_firstToCome_0 : decode cX12_firstToCome 0 = .ok (.iconst 0, 1) := by decide +kernel
theorem dX12_firstToCome_1 : decode cX12_firstToCome 1 = .ok (.istore_n 1, 1) := by decide +kernel
theorem dX12_firstToCome_2 : decode cX12_firstToCome 2 = .ok (.iload_n 1, 1) := by decide +kernel
theorem dX12_firstToCome_3 : decode cX12_firstToCome 3 = .ok (.aload_n 0, 1) := by decide +kernel
theorem dX12_firstToCome_4 : decode cX12_firstToCome 4 = .ok (.getfield 253, 3) := by decide +kernel
theorem dX12_firstToCome_7 : decode cX12_firstToCome 7 = .ok (.if_icmp .ge 20, 3) := by decide +kernel
theorem dX12_firstToCome_10 : decode cX12_firstToCome 10 = .ok (.aload_n 0, 1) := by decide +kernel
theorem dX12_firstToCome_11 : decode cX12_firstToCome 11 = .ok (.getfield 103, 3) := by decide +kernel
theorem dX12_firstToCome_14 : decode cX12_firstToCome 14 = .ok (.iload_n 1, 1) := by decide +kernel
theorem dX12_firstToCome_15 : decode cX12_firstToCome 15 = .ok (.iaload, 1) := by decide +kernel
theorem dX12_firstToCome_16 : decode cX12_firstToCome 16 = .ok (.bipush (-2), 2) := by decide +kernel
theorem dX12_firstToCome_18 : decode cX12_firstToCome 18 = .ok (.if_icmp .eq 9, 3) := by decide +kernel
theorem dX12_firstToCome_21 : decode cX12_firstToCome 21 = .ok (.iinc 1 1, 3) := by decide +kernel
theorem dX12_firstToCome_24 : decode cX12_firstToCome 24 = .ok (.goto (-22), 3) := by decide +kernel
theorem dX12_firstToCome_27 : decode cX12_firstToCome 27 = .ok (.iload_n 1, 1) := by decide +kernel
theorem dX12_firstToCome_28 : decode cX12_firstToCome 28 = .ok (.ireturn, 1) := by decide +kernel
theorem dX12_knownBy_0 : decode cX12_knownBy 0 = .ok (.aload_n 0, 1) := by decide +kernel
theorem dX12_knownBy_1 : decode cX12_knownBy 1 = .ok (.getfield 133, 3) := by decide +kernel
theorem dX12_knownBy_4 : decode cX12_knownBy 4 = .ok (.ifCond .ge 10, 3) := by decide +kernel
theorem dX12_knownBy_7 : decode cX12_knownBy 7 = .ok (.aload_n 0, 1) := by decide +kernel
theorem dX12_knownBy_8 : decode cX12_knownBy 8 = .ok (.getfield 376, 3) := by decide +kernel
theorem dX12_knownBy_11 : decode cX12_knownBy 11 = .ok (.goto 7, 3) := by decide +kernel
theorem dX12_knownBy_14 : decode cX12_knownBy 14 = .ok (.aload_n 0, 1) := by decide +kernel
theorem dX12_knownBy_15 : decode cX12_knownBy 15 = .ok (.getfield 133, 3) := by decide +kernel
theorem dX12_knownBy_18 : decode cX12_knownBy 18 = .ok (.ireturn, 1) := by decide +kernel
theorem dX12_count_0 : decode cX12_count 0 = .ok (.aload_n 0, 1) := by decide +kernel
theorem dX12_count_1 : decode cX12_count 1 = .ok (.iconst 0, 1) := by decide +kernel
theorem dX12_count_2 : decode cX12_count 2 = .ok (.putfield 154, 3) := by decide +kernel
theorem dX12_count_5 : decode cX12_count 5 = .ok (.iload_n 1, 1) := by decide +kernel
theorem dX12_count_6 : decode cX12_count 6 = .ok (.tableswitch 151 0 13 #[70, 75, 80, 85, 90, 95, 100, 107, 112, 119, 126, 136, 141, 146], 70) := by decide +kernel
theorem dX12_count_76 : decode cX12_count 76 = .ok (.aload_n 0, 1) := by decide +kernel
theorem dX12_count_77 : decode cX12_count 77 = .ok (.getfield 241, 3) := by decide +kernel
theorem dX12_count_80 : decode cX12_count 80 = .ok (.ireturn, 1) := by decide +kernel
theorem dX12_count_81 : decode cX12_count 81 = .ok (.aload_n 0, 1) := by decide +kernel
theorem dX12_count_82 : decode cX12_count 82 = .ok (.getfield 244, 3) := by decide +kernel
theorem dX12_count_85 : decode cX12_count 85 = .ok (.ireturn, 1) := by decide +kernel
theorem dX12_count_86 : decode cX12_count 86 = .ok (.aload_n 0, 1) := by decide +kernel
theorem dX12_count_87 : decode cX12_count 87 = .ok (.getfield 247, 3) := by decide +kernel
theorem dX12_count_90 : decode cX12_count 90 = .ok (.ireturn, 1) := by decide +kernel
theorem dX12_count_91 : decode cX12_count 91 = .ok (.aload_n 0, 1) := by decide +kernel
theorem dX12_count_92 : decode cX12_count 92 = .ok (.getfield 250, 3) := by decide +kernel
theorem dX12_count_95 : decode cX12_count 95 = .ok (.ireturn, 1) := by decide +kernel
theorem dX12_count_96 : decode cX12_count 96 = .ok (.aload_n 0, 1) := by decide +kernel
theorem dX12_count_97 : decode cX12_count 97 = .ok (.getfield 253, 3) := by decide +kernel
theorem dX12_count_100 : decode cX12_count 100 = .ok (.ireturn, 1) := by decide +kernel
theorem dX12_count_101 : decode cX12_count 101 = .ok (.aload_n 0, 1) := by decide +kernel
theorem dX12_count_102 : decode cX12_count 102 = .ok (.getfield 256, 3) := by decide +kernel
theorem dX12_count_105 : decode cX12_count 105 = .ok (.ireturn, 1) := by decide +kernel
theorem dX12_count_106 : decode cX12_count 106 = .ok (.aload_n 0, 1) := by decide +kernel
theorem dX12_count_107 : decode cX12_count 107 = .ok (.getfield 106, 3) := by decide +kernel
theorem dX12_count_110 : decode cX12_count 110 = .ok (.iconst 0, 1) := by decide +kernel
theorem dX12_count_111 : decode cX12_count 111 = .ok (.iaload, 1) := by decide +kernel
theorem dX12_count_112 : decode cX12_count 112 = .ok (.ireturn, 1) := by decide +kernel
theorem dX12_count_113 : decode cX12_count 113 = .ok (.aload_n 0, 1) := by decide +kernel
theorem dX12_count_114 : decode cX12_count 114 = .ok (.getfield 369, 3) := by decide +kernel
theorem dX12_count_117 : decode cX12_count 117 = .ok (.ireturn, 1) := by decide +kernel
theorem dX12_count_118 : decode cX12_count 118 = .ok (.aload_n 0, 1) := by decide +kernel
theorem dX12_count_119 : decode cX12_count 119 = .ok (.getfield 109, 3) := by decide +kernel
theorem dX12_count_122 : decode cX12_count 122 = .ok (.iconst 0, 1) := by decide +kernel
theorem dX12_count_123 : decode cX12_count 123 = .ok (.iaload, 1) := by decide +kernel
theorem dX12_count_124 : decode cX12_count 124 = .ok (.ireturn, 1) := by decide +kernel
theorem dX12_count_125 : decode cX12_count 125 = .ok (.aload_n 0, 1) := by decide +kernel
theorem dX12_count_126 : decode cX12_count 126 = .ok (.getfield 112, 3) := by decide +kernel
theorem dX12_count_129 : decode cX12_count 129 = .ok (.iconst 0, 1) := by decide +kernel
theorem dX12_count_130 : decode cX12_count 130 = .ok (.iaload, 1) := by decide +kernel
theorem dX12_count_131 : decode cX12_count 131 = .ok (.ireturn, 1) := by decide +kernel
theorem dX12_count_132 : decode cX12_count 132 = .ok (.aload_n 0, 1) := by decide +kernel
theorem dX12_count_133 : decode cX12_count 133 = .ok (.getfield 253, 3) := by decide +kernel
theorem dX12_count_136 : decode cX12_count 136 = .ok (.aload_n 0, 1) := by decide +kernel
theorem dX12_count_137 : decode cX12_count 137 = .ok (.invokevirtual 506, 3) := by decide +kernel
theorem dX12_count_140 : decode cX12_count 140 = .ok (.isub, 1) := by decide +kernel
theorem dX12_count_141 : decode cX12_count 141 = .ok (.ireturn, 1) := by decide +kernel
theorem dX12_count_142 : decode cX12_count 142 = .ok (.aload_n 0, 1) := by decide +kernel
theorem dX12_count_143 : decode cX12_count 143 = .ok (.getfield 376, 3) := by decide +kernel
theorem dX12_count_146 : decode cX12_count 146 = .ok (.ireturn, 1) := by decide +kernel
theorem dX12_count_147 : decode cX12_count 147 = .ok (.aload_n 0, 1) := by decide +kernel
theorem dX12_count_148 : decode cX12_count 148 = .ok (.invokevirtual 527, 3) := by decide +kernel
theorem dX12_count_151 : decode cX12_count 151 = .ok (.ireturn, 1) := by decide +kernel
theorem dX12_count_152 : decode cX12_count 152 = .ok (.aload_n 0, 1) := by decide +kernel
theorem dX12_count_153 : decode cX12_count 153 = .ok (.getfield 379, 3) := by decide +kernel
theorem dX12_count_156 : decode cX12_count 156 = .ok (.ireturn, 1) := by decide +kernel
theorem dX12_count_157 : decode cX12_count 157 = .ok (.iconst (-1), 1) := by decide +kernel
theorem dX12_count_158 : decode cX12_count 158 = .ok (.ireturn, 1) := by decide +kernel
theorem dX12_deeper_0 : decode cX12_deeper 0 = .ok (.aload_n 0, 1) := by decide +kernel
theorem dX12_deeper_1 : decode cX12_deeper 1 = .ok (.iconst 0, 1) := by decide +kernel
theorem dX12_deeper_2 : decode cX12_deeper 2 = .ok (.putfield 154, 3) := by decide +kernel
theorem dX12_deeper_5 : decode cX12_deeper 5 = .ok (.aload_n 0, 1) := by decide +kernel
theorem dX12_deeper_6 : decode cX12_deeper 6 = .ok (.iload_n 1, 1) := by decide +kernel
theorem dX12_deeper_7 : decode cX12_deeper 7 = .ok (.invokevirtual 413, 3) := by decide +kernel
theorem dX12_deeper_10 : decode cX12_deeper 10 = .ok (.ifCond .eq 11, 3) := by decide +kernel
theorem dX12_deeper_13 : decode cX12_deeper 13 = .ok (.aload_n 0, 1) := by decide +kernel
theorem dX12_deeper_14 : decode cX12_deeper 14 = .ok (.iload_n 2, 1) := by decide +kernel
theorem dX12_deeper_15 : decode cX12_deeper 15 = .ok (.invokevirtual 413, 3) := by decide +kernel
theorem dX12_deeper_18 : decode cX12_deeper 18 = .ok (.ifCond .ne 5, 3) := by decide +kernel
theorem dX12_deeper_21 : decode cX12_deeper 21 = .ok (.iconst (-1), 1) := by decide +kernel
theorem dX12_deeper_22 : decode cX12_deeper 22 = .ok (.ireturn, 1) := by decide +kernel
theorem dX12_deeper_23 : decode cX12_deeper 23 = .ok (.aload_n 0, 1) := by decide +kernel
theorem dX12_deeper_24 : decode cX12_deeper 24 = .ok (.aload_n 0, 1) := by decide +kernel
theorem dX12_deeper_25 : decode cX12_deeper 25 = .ok (.getfield 106, 3) := by decide +kernel
theorem dX12_deeper_28 : decode cX12_deeper 28 = .ok (.iconst 0, 1) := by decide +kernel
theorem dX12_deeper_29 : decode cX12_deeper 29 = .ok (.iaload, 1) := by decide +kernel
theorem dX12_deeper_30 : decode cX12_deeper 30 = .ok (.invokevirtual 400, 3) := by decide +kernel
theorem dX12_deeper_33 : decode cX12_deeper 33 = .ok (.istore_n 3, 1) := by decide +kernel
theorem dX12_deeper_34 : decode cX12_deeper 34 = .ok (.aload_n 0, 1) := by decide +kernel
theorem dX12_deeper_35 : decode cX12_deeper 35 = .ok (.aload_n 0, 1) := by decide +kernel
theorem dX12_deeper_36 : decode cX12_deeper 36 = .ok (.getfield 88, 3) := by decide +kernel
theorem dX12_deeper_39 : decode cX12_deeper 39 = .ok (.iload_n 1, 1) := by decide +kernel
theorem dX12_deeper_40 : decode cX12_deeper 40 = .ok (.iaload, 1) := by decide +kernel
theorem dX12_deeper_41 : decode cX12_deeper 41 = .ok (.iload_n 3, 1) := by decide +kernel
theorem dX12_deeper_42 : decode cX12_deeper 42 = .ok (.invokevirtual 403, 3) := by decide +kernel
theorem dX12_deeper_45 : decode cX12_deeper 45 = .ok (.istore 4, 2) := by decide +kernel
theorem dX12_deeper_47 : decode cX12_deeper 47 = .ok (.aload_n 0, 1) := by decide +kernel
theorem dX12_deeper_48 : decode cX12_deeper 48 = .ok (.aload_n 0, 1) := by decide +kernel
theorem dX12_deeper_49 : decode cX12_deeper 49 = .ok (.getfield 88, 3) := by decide +kernel
theorem dX12_deeper_52 : decode cX12_deeper 52 = .ok (.iload_n 2, 1) := by decide +kernel
theorem dX12_deeper_53 : decode cX12_deeper 53 = .ok (.iaload, 1) := by decide +kernel
theorem dX12_deeper_54 : decode cX12_deeper 54 = .ok (.iload_n 3, 1) := by decide +kernel
theorem dX12_deeper_55 : decode cX12_deeper 55 = .ok (.invokevirtual 403, 3) := by decide +kernel
theorem dX12_deeper_58 : decode cX12_deeper 58 = .ok (.istore 5, 2) := by decide +kernel
theorem dX12_deeper_60 : decode cX12_deeper 60 = .ok (.iload 4, 2) := by decide +kernel
theorem dX12_deeper_62 : decode cX12_deeper 62 = .ok (.iload 5, 2) := by decide +kernel
theorem dX12_deeper_64 : decode cX12_deeper 64 = .ok (.if_icmp .ge 7, 3) := by decide +kernel
theorem dX12_deeper_67 : decode cX12_deeper 67 = .ok (.iconst 1, 1) := by decide +kernel
theorem dX12_deeper_68 : decode cX12_deeper 68 = .ok (.goto 15, 3) := by decide +kernel
theorem dX12_deeper_71 : decode cX12_deeper 71 = .ok (.iload 5, 2) := by decide +kernel
theorem dX12_deeper_73 : decode cX12_deeper 73 = .ok (.iload 4, 2) := by decide +kernel
theorem dX12_deeper_75 : decode cX12_deeper 75 = .ok (.if_icmp .ge 7, 3) := by decide +kernel
theorem dX12_deeper_78 : decode cX12_deeper 78 = .ok (.iconst 2, 1) := by decide +kernel
theorem dX12_deeper_79 : decode cX12_deeper 79 = .ok (.goto 4, 3) := by decide +kernel
theorem dX12_deeper_82 : decode cX12_deeper 82 = .ok (.iconst 0, 1) := by decide +kernel
theorem dX12_deeper_83 : decode cX12_deeper 83 = .ok (.ireturn, 1) := by decide +kernel
theorem dX12_fails_0 : decode cX12_fails 0 = .ok (.aload_n 0, 1) := by decide +kernel
theorem dX12_fails_1 : decode cX12_fails 1 = .ok (.iload_n 1, 1) := by decide +kernel
theorem dX12_fails_2 : decode cX12_fails 2 = .ok (.putfield 154, 3) := by decide +kernel
theorem dX12_fails_5 : decode cX12_fails 5 = .ok (.iconst 0, 1) := by decide +kernel
theorem dX12_fails_6 : decode cX12_fails 6 = .ok (.ireturn, 1) := by decide +kernel
theorem dX12_run_0 : decode cX12_run 0 = .ok (.aload_n 0, 1) := by decide +kernel
theorem dX12_run_1 : decode cX12_run 1 = .ok (.getfield 372, 3) := by decide +kernel
theorem dX12_run_4 : decode cX12_run 4 = .ok (.lstore_n 3, 1) := by decide +kernel
theorem dX12_run_5 : decode cX12_run 5 = .ok (.aload_n 0, 1) := by decide +kernel
theorem dX12_run_6 : decode cX12_run 6 = .ok (.iload_n 2, 1) := by decide +kernel
theorem dX12_run_7 : decode cX12_run 7 = .ok (.i2l, 1) := by decide +kernel
theorem dX12_run_8 : decode cX12_run 8 = .ok (.putfield 372, 3) := by decide +kernel
theorem dX12_run_11 : decode cX12_run 11 = .ok (.aload_n 0, 1) := by decide +kernel
theorem dX12_run_12 : decode cX12_run 12 = .ok (.invokevirtual 509, 3) := by decide +kernel
theorem dX12_run_15 : decode cX12_run 15 = .ok (.aload_n 0, 1) := by decide +kernel
theorem dX12_run_16 : decode cX12_run 16 = .ok (.iload_n 1, 1) := by decide +kernel
theorem dX12_run_17 : decode cX12_run 17 = .ok (.invokevirtual 512, 3) := by decide +kernel
theorem dX12_run_20 : decode cX12_run 20 = .ok (.aload_n 0, 1) := by decide +kernel
theorem dX12_run_21 : decode cX12_run 21 = .ok (.lload_n 3, 1) := by decide +kernel
theorem dX12_run_22 : decode cX12_run 22 = .ok (.putfield 372, 3) := by decide +kernel
theorem dX12_run_25 : decode cX12_run 25 = .ok (.return_, 1) := by decide +kernel
theorem dX12_unlike_0 : decode cX12_unlike 0 = .ok (.iconst 0, 1) := by decide +kernel
theorem dX12_unlike_1 : decode cX12_unlike 1 = .ok (.istore_n 2, 1) := by decide +kernel
theorem dX12_unlike_2 : decode cX12_unlike 2 = .ok (.bipush 99, 2) := by decide +kernel
theorem dX12_unlike_4 : decode cX12_unlike 4 = .ok (.istore_n 3, 1) := by decide +kernel
theorem dX12_unlike_5 : decode cX12_unlike 5 = .ok (.iconst 0, 1) := by decide +kernel
theorem dX12_unlike_6 : decode cX12_unlike 6 = .ok (.istore 4, 2) := by decide +kernel
theorem dX12_unlike_8 : decode cX12_unlike 8 = .ok (.iload 4, 2) := by decide +kernel
theorem dX12_unlike_10 : decode cX12_unlike 10 = .ok (.aload_n 0, 1) := by decide +kernel
theorem dX12_unlike_11 : decode cX12_unlike 11 = .ok (.getfield 247, 3) := by decide +kernel
theorem dX12_unlike_14 : decode cX12_unlike 14 = .ok (.if_icmp .ge 71, 3) := by decide +kernel
theorem dX12_unlike_17 : decode cX12_unlike 17 = .ok (.aload_n 0, 1) := by decide +kernel
theorem dX12_unlike_18 : decode cX12_unlike 18 = .ok (.getfield 91, 3) := by decide +kernel
theorem dX12_unlike_21 : decode cX12_unlike 21 = .ok (.iconst 5, 1) := by decide +kernel
theorem dX12_unlike_22 : decode cX12_unlike 22 = .ok (.iload_n 1, 1) := by decide +kernel
theorem dX12_unlike_23 : decode cX12_unlike 23 = .ok (.imul, 1) := by decide +kernel
theorem dX12_unlike_24 : decode cX12_unlike 24 = .ok (.iload 4, 2) := by decide +kernel
theorem dX12_unlike_26 : decode cX12_unlike 26 = .ok (.iadd, 1) := by decide +kernel
theorem dX12_unlike_27 : decode cX12_unlike 27 = .ok (.iaload, 1) := by decide +kernel
theorem dX12_unlike_28 : decode cX12_unlike 28 = .ok (.iload_n 2, 1) := by decide +kernel
theorem dX12_unlike_29 : decode cX12_unlike 29 = .ok (.if_icmp .le 17, 3) := by decide +kernel
theorem dX12_unlike_32 : decode cX12_unlike 32 = .ok (.aload_n 0, 1) := by decide +kernel
theorem dX12_unlike_33 : decode cX12_unlike 33 = .ok (.getfield 91, 3) := by decide +kernel
theorem dX12_unlike_36 : decode cX12_unlike 36 = .ok (.iconst 5, 1) := by decide +kernel
theorem dX12_unlike_37 : decode cX12_unlike 37 = .ok (.iload_n 1, 1) := by decide +kernel
theorem dX12_unlike_38 : decode cX12_unlike 38 = .ok (.imul, 1) := by decide +kernel
theorem dX12_unlike_39 : decode cX12_unlike 39 = .ok (.iload 4, 2) := by decide +kernel
theorem dX12_unlike_41 : decode cX12_unlike 41 = .ok (.iadd, 1) := by decide +kernel
theorem dX12_unlike_42 : decode cX12_unlike 42 = .ok (.iaload, 1) := by decide +kernel
theorem dX12_unlike_43 : decode cX12_unlike 43 = .ok (.goto 4, 3) := by decide +kernel
theorem dX12_unlike_46 : decode cX12_unlike 46 = .ok (.iload_n 2, 1) := by decide +kernel
theorem dX12_unlike_47 : decode cX12_unlike 47 = .ok (.istore_n 2, 1) := by decide +kernel
theorem dX12_unlike_48 : decode cX12_unlike 48 = .ok (.aload_n 0, 1) := by decide +kernel
theorem dX12_unlike_49 : decode cX12_unlike 49 = .ok (.getfield 91, 3) := by decide +kernel
theorem dX12_unlike_52 : decode cX12_unlike 52 = .ok (.iconst 5, 1) := by decide +kernel
theorem dX12_unlike_53 : decode cX12_unlike 53 = .ok (.iload_n 1, 1) := by decide +kernel
theorem dX12_unlike_54 : decode cX12_unlike 54 = .ok (.imul, 1) := by decide +kernel
theorem dX12_unlike_55 : decode cX12_unlike 55 = .ok (.iload 4, 2) := by decide +kernel
theorem dX12_unlike_57 : decode cX12_unlike 57 = .ok (.iadd, 1) := by decide +kernel
theorem dX12_unlike_58 : decode cX12_unlike 58 = .ok (.iaload, 1) := by decide +kernel
theorem dX12_unlike_59 : decode cX12_unlike 59 = .ok (.iload_n 3, 1) := by decide +kernel
theorem dX12_unlike_60 : decode cX12_unlike 60 = .ok (.if_icmp .ge 17, 3) := by decide +kernel
theorem dX12_unlike_63 : decode cX12_unlike 63 = .ok (.aload_n 0, 1) := by decide +kernel
theorem dX12_unlike_64 : decode cX12_unlike 64 = .ok (.getfield 91, 3) := by decide +kernel
theorem dX12_unlike_67 : decode cX12_unlike 67 = .ok (.iconst 5, 1) := by decide +kernel
theorem dX12_unlike_68 : decode cX12_unlike 68 = .ok (.iload_n 1, 1) := by decide +kernel
theorem dX12_unlike_69 : decode cX12_unlike 69 = .ok (.imul, 1) := by decide +kernel
theorem dX12_unlike_70 : decode cX12_unlike 70 = .ok (.iload 4, 2) := by decide +kernel
theorem dX12_unlike_72 : decode cX12_unlike 72 = .ok (.iadd, 1) := by decide +kernel
theorem dX12_unlike_73 : decode cX12_unlike 73 = .ok (.iaload, 1) := by decide +kernel
theorem dX12_unlike_74 : decode cX12_unlike 74 = .ok (.goto 4, 3) := by decide +kernel
theorem dX12_unlike_77 : decode cX12_unlike 77 = .ok (.iload_n 3, 1) := by decide +kernel
theorem dX12_unlike_78 : decode cX12_unlike 78 = .ok (.istore_n 3, 1) := by decide +kernel
theorem dX12_unlike_79 : decode cX12_unlike 79 = .ok (.iinc 4 1, 3) := by decide +kernel
theorem dX12_unlike_82 : decode cX12_unlike 82 = .ok (.goto (-74), 3) := by decide +kernel
theorem dX12_unlike_85 : decode cX12_unlike 85 = .ok (.aload_n 0, 1) := by decide +kernel
theorem dX12_unlike_86 : decode cX12_unlike 86 = .ok (.getfield 247, 3) := by decide +kernel
theorem dX12_unlike_89 : decode cX12_unlike 89 = .ok (.ifCond .ne 7, 3) := by decide +kernel
theorem dX12_unlike_92 : decode cX12_unlike 92 = .ok (.iconst 0, 1) := by decide +kernel
theorem dX12_unlike_93 : decode cX12_unlike 93 = .ok (.goto 6, 3) := by decide +kernel
theorem dX12_unlike_96 : decode cX12_unlike 96 = .ok (.iload_n 2, 1) := by decide +kernel
theorem dX12_unlike_97 : decode cX12_unlike 97 = .ok (.iload_n 3, 1) := by decide +kernel
theorem dX12_unlike_98 : decode cX12_unlike 98 = .ok (.isub, 1) := by decide +kernel
theorem dX12_unlike_99 : decode cX12_unlike 99 = .ok (.ireturn, 1) := by decide +kernel
