theorem dX5_readSeed_0 : decode cX5_readSeed 0 = .ok (.aload_n 0, 1) := by decide +kernel
theorem dX5_readSeed_1 : decode cX5_readSeed 1 = .ok (.bipush 6, 2) := by decide +kernel
theorem dX5_readSeed_3 : decode cX5_readSeed 3 = .ok (.invokevirtual 100, 3) := by decide +kernel
theorem dX5_readSeed_6 : decode cX5_readSeed 6 = .ok (.ifCond .ne 5, 3) := by decide +kernel
theorem dX5_readSeed_9 : decode cX5_readSeed 9 = .ok (.iconst 0, 1) := by decide +kernel
theorem dX5_readSeed_10 : decode cX5_readSeed 10 = .ok (.ireturn, 1) := by decide +kernel
theorem dX5_readSeed_11 : decode cX5_readSeed 11 = .ok (.aload_n 0, 1) := by decide +kernel
theorem dX5_readSeed_12 : decode cX5_readSeed 12 = .ok (.iconst 0, 1) := by decide +kernel
theorem dX5_readSeed_13 : decode cX5_readSeed 13 = .ok (.ldc 168, 2) := by decide +kernel
theorem dX5_readSeed_15 : decode cX5_readSeed 15 = .ok (.invokevirtual 103, 3) := by decide +kernel
theorem dX5_readSeed_18 : decode cX5_readSeed 18 = .ok (.istore_n 1, 1) := by decide +kernel
theorem dX5_readSeed_19 : decode cX5_readSeed 19 = .ok (.iload_n 1, 1) := by decide +kernel
theorem dX5_readSeed_20 : decode cX5_readSeed 20 = .ok (.iconst (-1), 1) := by decide +kernel
theorem dX5_readSeed_21 : decode cX5_readSeed 21 = .ok (.if_icmp .ne 5, 3) := by decide +kernel
theorem dX5_readSeed_24 : decode cX5_readSeed 24 = .ok (.iconst 0, 1) := by decide +kernel
theorem dX5_readSeed_25 : decode cX5_readSeed 25 = .ok (.ireturn, 1) := by decide +kernel
theorem dX5_readSeed_26 : decode cX5_readSeed 26 = .ok (.aload_n 0, 1) := by decide +kernel
theorem dX5_readSeed_27 : decode cX5_readSeed 27 = .ok (.getfield 9, 3) := by decide +kernel
theorem dX5_readSeed_30 : decode cX5_readSeed 30 = .ok (.iload_n 1, 1) := by decide +kernel
theorem dX5_readSeed_31 : decode cX5_readSeed 31 = .ok (.putfield 169, 3) := by decide +kernel
theorem dX5_readSeed_34 : decode cX5_readSeed 34 = .ok (.aload_n 0, 1) := by decide +kernel
theorem dX5_readSeed_35 : decode cX5_readSeed 35 = .ok (.invokevirtual 112, 3) := by decide +kernel
theorem dX5_readSeed_38 : decode cX5_readSeed 38 = .ok (.ireturn, 1) := by decide +kernel
theorem dX5_readKind_0 : decode cX5_readKind 0 = .ok (.aload_n 0, 1) := by decide +kernel
theorem dX5_readKind_1 : decode cX5_readKind 1 = .ok (.getfield 18, 3) := by decide +kernel
theorem dX5_readKind_4 : decode cX5_readKind 4 = .ok (.invokevirtual 49, 3) := by decide +kernel
theorem dX5_readKind_7 : decode cX5_readKind 7 = .ok (.aload_n 0, 1) := by decide +kernel
theorem dX5_readKind_8 : decode cX5_readKind 8 = .ok (.getfield 18, 3) := by decide +kernel
theorem dX5_readKind_11 : decode cX5_readKind 11 = .ok (.getfield 52, 3) := by decide +kernel
theorem dX5_readKind_14 : decode cX5_readKind 14 = .ok (.bipush 12, 2) := by decide +kernel
theorem dX5_readKind_16 : decode cX5_readKind 16 = .ok (.isub, 1) := by decide +kernel
theorem dX5_readKind_17 : decode cX5_readKind 17 = .ok (.istore_n 1, 1) := by decide +kernel
theorem dX5_readKind_18 : decode cX5_readKind 18 = .ok (.iload_n 1, 1) := by decide +kernel
theorem dX5_readKind_19 : decode cX5_readKind 19 = .ok (.ifCond .lt 8, 3) := by decide +kernel
theorem dX5_readKind_22 : decode cX5_readKind 22 = .ok (.iload_n 1, 1) := by decide +kernel
theorem dX5_readKind_23 : decode cX5_readKind 23 = .ok (.iconst 3, 1) := by decide +kernel
theorem dX5_readKind_24 : decode cX5_readKind 24 = .ok (.if_icmp .lt 11, 3) := by decide +kernel
theorem dX5_readKind_27 : decode cX5_readKind 27 = .ok (.aload_n 0, 1) := by decide +kernel
theorem dX5_readKind_28 : decode cX5_readKind 28 = .ok (.iconst 1, 1) := by decide +kernel
theorem dX5_readKind_29 : decode cX5_readKind 29 = .ok (.invokevirtual 89, 3) := by decide +kernel
theorem dX5_readKind_32 : decode cX5_readKind 32 = .ok (.pop, 1) := by decide +kernel
theorem dX5_readKind_33 : decode cX5_readKind 33 = .ok (.aconst_null, 1) := by decide +kernel
theorem dX5_readKind_34 : decode cX5_readKind 34 = .ok (.areturn, 1) := by decide +kernel
theorem dX5_readKind_35 : decode cX5_readKind 35 = .ok (.aload_n 0, 1) := by decide +kernel
theorem dX5_readKind_36 : decode cX5_readKind 36 = .ok (.getfield 9, 3) := by decide +kernel
theorem dX5_readKind_39 : decode cX5_readKind 39 = .ok (.getfield 172, 3) := by decide +kernel
theorem dX5_readKind_42 : decode cX5_readKind 42 = .ok (.iload_n 1, 1) := by decide +kernel
theorem dX5_readKind_43 : decode cX5_readKind 43 = .ok (.aaload, 1) := by decide +kernel
theorem dX5_readKind_44 : decode cX5_readKind 44 = .ok (.getfield 176, 3) := by decide +kernel
theorem dX5_readKind_47 : decode cX5_readKind 47 = .ok (.ifCond .eq 11, 3) := by decide +kernel
theorem dX5_readKind_50 : decode cX5_readKind 50 = .ok (.aload_n 0, 1) := by decide +kernel
theorem dX5_readKind_51 : decode cX5_readKind 51 = .ok (.iconst 3, 1) := by decide +kernel
theorem dX5_readKind_52 : decode cX5_readKind 52 = .ok (.invokevirtual 89, 3) := by decide +kernel
theorem dX5_readKind_55 : decode cX5_readKind 55 = .ok (.pop, 1) := by decide +kernel
theorem dX5_readKind_56 : decode cX5_readKind 56 = .ok (.aconst_null, 1) := by decide +kernel
theorem dX5_readKind_57 : decode cX5_readKind 57 = .ok (.areturn, 1) := by decide +kernel
theorem dX5_readKind_58 : decode cX5_readKind 58 = .ok (.aload_n 0, 1) := by decide +kernel
theorem dX5_readKind_59 : decode cX5_readKind 59 = .ok (.getfield 9, 3) := by decide +kernel
theorem dX5_readKind_62 : decode cX5_readKind 62 = .ok (.getfield 172, 3) := by decide +kernel
theorem dX5_readKind_65 : decode cX5_readKind 65 = .ok (.iload_n 1, 1) := by decide +kernel
theorem dX5_readKind_66 : decode cX5_readKind 66 = .ok (.aaload, 1) := by decide +kernel
theorem dX5_readKind_67 : decode cX5_readKind 67 = .ok (.iconst 1, 1) := by decide +kernel
theorem dX5_readKind_68 : decode cX5_readKind 68 = .ok (.putfield 176, 3) := by decide +kernel
theorem dX5_readKind_71 : decode cX5_readKind 71 = .ok (.aload_n 0, 1) := by decide +kernel
theorem dX5_readKind_72 : decode cX5_readKind 72 = .ok (.getfield 9, 3) := by decide +kernel
theorem dX5_readKind_75 : decode cX5_readKind 75 = .ok (.getfield 172, 3) := by decide +kernel
theorem dX5_readKind_78 : decode cX5_readKind 78 = .ok (.iload_n 1, 1) := by decide +kernel
theorem dX5_readKind_79 : decode cX5_readKind 79 = .ok (.aaload, 1) := by decide +kernel
theorem dX5_readKind_80 : decode cX5_readKind 80 = .ok (.areturn, 1) := by decide +kernel
theorem dX5_strengthOf_0 : decode cX5_strengthOf 0 = .ok (.iload_n 0, 1) := by decide +kernel
theorem dX5_strengthOf_1 : decode cX5_strengthOf 1 = .ok (.tableswitch 112 15 35 #[103, 101, 99, 112, 112, 112, 112, 112, 112, 112, 112, 105, 105, 105, 105, 105, 105, 107, 107, 109, 109], 99) := by decide +kernel
theorem dX5_strengthOf_100 : decode cX5_strengthOf 100 = .ok (.iconst 1, 1) := by decide +kernel
theorem dX5_strengthOf_101 : decode cX5_strengthOf 101 = .ok (.ireturn, 1) := by decide +kernel
theorem dX5_strengthOf_102 : decode cX5_strengthOf 102 = .ok (.iconst 2, 1) := by decide +kernel
theorem dX5_strengthOf_103 : decode cX5_strengthOf 103 = .ok (.ireturn, 1) := by decide +kernel
theorem dX5_strengthOf_104 : decode cX5_strengthOf 104 = .ok (.iconst 3, 1) := by decide +kernel
theorem dX5_strengthOf_105 : decode cX5_strengthOf 105 = .ok (.ireturn, 1) := by decide +kernel
theorem dX5_strengthOf_106 : decode cX5_strengthOf 106 = .ok (.iconst 4, 1) := by decide +kernel
theorem dX5_strengthOf_107 : decode cX5_strengthOf 107 = .ok (.ireturn, 1) := by decide +kernel
theorem dX5_strengthOf_108 : decode cX5_strengthOf 108 = .ok (.iconst 5, 1) := by decide +kernel
theorem dX5_strengthOf_109 : decode cX5_strengthOf 109 = .ok (.ireturn, 1) := by decide +kernel
theorem dX5_strengthOf_110 : decode cX5_strengthOf 110 = .ok (.bipush 6, 2) := by decide +kernel
theorem dX5_strengthOf_112 : decode cX5_strengthOf 112 = .ok (.ireturn, 1) := by decide +kernel
theorem dX5_strengthOf_113 : decode cX5_strengthOf 113 = .ok (.iconst 0, 1) := by decide +kernel
theorem dX5_strengthOf_114 : decode cX5_strengthOf 114 = .ok (.ireturn, 1) := by decide +kernel
theorem dX5_release_0 : decode cX5_release 0 = .ok (.aload_n 0, 1) := by decide +kernel
theorem dX5_release_1 : decode cX5_release 1 = .ok (.getfield 185, 3) := by decide +kernel
theorem dX5_release_4 : decode cX5_release 4 = .ok (.ifCond .le 46, 3) := by decide +kernel
theorem dX5_release_7 : decode cX5_release 7 = .ok (.aload_n 0, 1) := by decide +kernel
theorem dX5_release_8 : decode cX5_release 8 = .ok (.getfield 22, 3) := by decide +kernel
theorem dX5_release_11 : decode cX5_release 11 = .ok (.aload_n 0, 1) := by decide +kernel
theorem dX5_release_12 : decode cX5_release 12 = .ok (.getfield 185, 3) := by decide +kernel
theorem dX5_release_15 : decode cX5_release 15 = .ok (.iconst 1, 1) := by decide +kernel
theorem dX5_release_16 : decode cX5_release 16 = .ok (.isub, 1) := by decide +kernel
theorem dX5_release_17 : decode cX5_release 17 = .ok (.iaload, 1) := by decide +kernel
theorem dX5_release_18 : decode cX5_release 18 = .ok (.istore_n 3, 1) := by decide +kernel
theorem dX5_release_19 : decode cX5_release 19 = .ok (.iload_n 3, 1) := by decide +kernel
theorem dX5_release_20 : decode cX5_release 20 = .ok (.invokestatic 223, 3) := by decide +kernel
theorem dX5_release_23 : decode cX5_release 23 = .ok (.iload_n 2, 1) := by decide +kernel
theorem dX5_release_24 : decode cX5_release 24 = .ok (.if_icmp .ge 4, 3) := by decide +kernel
theorem dX5_release_27 : decode cX5_release 27 = .ok (.return_, 1) := by decide +kernel
theorem dX5_release_28 : decode cX5_release 28 = .ok (.aload_n 1, 1) := by decide +kernel
theorem dX5_release_29 : decode cX5_release 29 = .ok (.sipush 10000, 3) := by decide +kernel
theorem dX5_release_32 : decode cX5_release 32 = .ok (.iload_n 3, 1) := by decide +kernel
theorem dX5_release_33 : decode cX5_release 33 = .ok (.iadd, 1) := by decide +kernel
theorem dX5_release_34 : decode cX5_release 34 = .ok (.invokevirtual 217, 3) := by decide +kernel
theorem dX5_release_37 : decode cX5_release 37 = .ok (.aload_n 0, 1) := by decide +kernel
theorem dX5_release_38 : decode cX5_release 38 = .ok (.dup, 1) := by decide +kernel
theorem dX5_release_39 : decode cX5_release 39 = .ok (.getfield 185, 3) := by decide +kernel
theorem dX5_release_42 : decode cX5_release 42 = .ok (.iconst 1, 1) := by decide +kernel
theorem dX5_release_43 : decode cX5_release 43 = .ok (.isub, 1) := by decide +kernel
theorem dX5_release_44 : decode cX5_release 44 = .ok (.putfield 185, 3) := by decide +kernel
theorem dX5_release_47 : decode cX5_release 47 = .ok (.goto (-47), 3) := by decide +kernel
theorem dX5_release_50 : decode cX5_release 50 = .ok (.return_, 1) := by decide +kernel
theorem dX5_takeOpen_0 : decode cX5_takeOpen 0 = .ok (.aload_n 0, 1) := by decide +kernel
theorem dX5_takeOpen_1 : decode cX5_takeOpen 1 = .ok (.getfield 188, 3) := by decide +kernel
theorem dX5_takeOpen_4 : decode cX5_takeOpen 4 = .ok (.bipush 8, 2) := by decide +kernel
theorem dX5_takeOpen_6 : decode cX5_takeOpen 6 = .ok (.if_icmp .lt 9, 3) := by decide +kernel
theorem dX5_takeOpen_9 : decode cX5_takeOpen 9 = .ok (.aload_n 0, 1) := by decide +kernel
theorem dX5_takeOpen_10 : decode cX5_takeOpen 10 = .ok (.iconst 2, 1) := by decide +kernel
theorem dX5_takeOpen_11 : decode cX5_takeOpen 11 = .ok (.invokevirtual 89, 3) := by decide +kernel
theorem dX5_takeOpen_14 : decode cX5_takeOpen 14 = .ok (.ireturn, 1) := by decide +kernel
theorem dX5_takeOpen_15 : decode cX5_takeOpen 15 = .ok (.aload_n 0, 1) := by decide +kernel
theorem dX5_takeOpen_16 : decode cX5_takeOpen 16 = .ok (.dup, 1) := by decide +kernel
theorem dX5_takeOpen_17 : decode cX5_takeOpen 17 = .ok (.getfield 188, 3) := by decide +kernel
theorem dX5_takeOpen_20 : decode cX5_takeOpen 20 = .ok (.iconst 1, 1) := by decide +kernel
theorem dX5_takeOpen_21 : decode cX5_takeOpen 21 = .ok (.iadd, 1) := by decide +kernel
theorem dX5_takeOpen_22 : decode cX5_takeOpen 22 = .ok (.putfield 188, 3) := by decide +kernel
theorem dX5_takeOpen_25 : decode cX5_takeOpen 25 = .ok (.aload_n 0, 1) := by decide +kernel
theorem dX5_takeOpen_26 : decode cX5_takeOpen 26 = .ok (.iconst 1, 1) := by decide +kernel
theorem dX5_takeOpen_27 : decode cX5_takeOpen 27 = .ok (.putfield 194, 3) := by decide +kernel
theorem dX5_takeOpen_30 : decode cX5_takeOpen 30 = .ok (.aload_n 0, 1) := by decide +kernel
theorem dX5_takeOpen_31 : decode cX5_takeOpen 31 = .ok (.bipush 36, 2) := by decide +kernel
theorem dX5_takeOpen_33 : decode cX5_takeOpen 33 = .ok (.invokevirtual 214, 3) := by decide +kernel
theorem dX5_takeOpen_36 : decode cX5_takeOpen 36 = .ok (.ireturn, 1) := by decide +kernel
theorem dX5_takePart_0 : decode cX5_takePart 0 = .ok (.aload_n 0, 1) := by decide +kernel
theorem dX5_takePart_1 : decode cX5_takePart 1 = .ok (.getfield 18, 3) := by decide +kernel
theorem dX5_takePart_4 : decode cX5_takePart 4 = .ok (.getfield 52, 3) := by decide +kernel
theorem dX5_takePart_7 : decode cX5_takePart 7 = .ok (.istore_n 2, 1) := by decide +kernel
theorem dX5_takePart_8 : decode cX5_takePart 8 = .ok (.iload_n 2, 1) := by decide +kernel
theorem dX5_takePart_9 : decode cX5_takePart 9 = .ok (.bipush 36, 2) := by decide +kernel
theorem dX5_takePart_11 : decode cX5_takePart 11 = .ok (.if_icmp .ne 8, 3) := by decide +kernel
theorem dX5_takePart_14 : decode cX5_takePart 14 = .ok (.aload_n 0, 1) := by decide +kernel
theorem dX5_takePart_15 : decode cX5_takePart 15 = .ok (.invokevirtual 208, 3) := by decide +kernel
theorem dX5_takePart_18 : decode cX5_takePart 18 = .ok (.ireturn, 1) := by decide +kernel
theorem dX5_takePart_19 : decode cX5_takePart 19 = .ok (.iload_n 2, 1) := by decide +kernel
theorem dX5_takePart_20 : decode cX5_takePart 20 = .ok (.bipush 15, 2) := by decide +kernel
theorem dX5_takePart_22 : decode cX5_takePart 22 = .ok (.if_icmp .ne 31, 3) := by decide +kernel
theorem dX5_takePart_25 : decode cX5_takePart 25 = .ok (.aload_n 0, 1) := by decide +kernel
theorem dX5_takePart_26 : decode cX5_takePart 26 = .ok (.getfield 194, 3) := by decide +kernel
theorem dX5_takePart_29 : decode cX5_takePart 29 = .ok (.ifCond .eq 24, 3) := by decide +kernel
theorem dX5_takePart_32 : decode cX5_takePart 32 = .ok (.aload_n 0, 1) := by decide +kernel
theorem dX5_takePart_33 : decode cX5_takePart 33 = .ok (.invokevirtual 211, 3) := by decide +kernel
theorem dX5_takePart_36 : decode cX5_takePart 36 = .ok (.ifCond .eq 15, 3) := by decide +kernel
theorem dX5_takePart_39 : decode cX5_takePart 39 = .ok (.aload_n 0, 1) := by decide +kernel
theorem dX5_takePart_40 : decode cX5_takePart 40 = .ok (.iload_n 2, 1) := by decide +kernel
theorem dX5_takePart_41 : decode cX5_takePart 41 = .ok (.invokevirtual 214, 3) := by decide +kernel
theorem dX5_takePart_44 : decode cX5_takePart 44 = .ok (.ifCond .eq 7, 3) := by decide +kernel
theorem dX5_takePart_47 : decode cX5_takePart 47 = .ok (.iconst 1, 1) := by decide +kernel
theorem dX5_takePart_48 : decode cX5_takePart 48 = .ok (.goto 4, 3) := by decide +kernel
theorem dX5_takePart_51 : decode cX5_takePart 51 = .ok (.iconst 0, 1) := by decide +kernel
theorem dX5_takePart_52 : decode cX5_takePart 52 = .ok (.ireturn, 1) := by decide +kernel
theorem dX5_takePart_53 : decode cX5_takePart 53 = .ok (.iload_n 2, 1) := by decide +kernel
theorem dX5_takePart_54 : decode cX5_takePart 54 = .ok (.bipush 18, 2) := by decide +kernel
theorem dX5_takePart_56 : decode cX5_takePart 56 = .ok (.if_icmp .lt 13, 3) := by decide +kernel
theorem dX5_takePart_59 : decode cX5_takePart 59 = .ok (.iload_n 2, 1) := by decide +kernel
theorem dX5_takePart_60 : decode cX5_takePart 60 = .ok (.bipush 24, 2) := by decide +kernel
theorem dX5_takePart_62 : decode cX5_takePart 62 = .ok (.if_icmp .ge 7, 3) := by decide +kernel
theorem dX5_takePart_65 : decode cX5_takePart 65 = .ok (.iconst 1, 1) := by decide +kernel
theorem dX5_takePart_66 : decode cX5_takePart 66 = .ok (.goto 4, 3) := by decide +kernel
theorem dX5_takePart_69 : decode cX5_takePart 69 = .ok (.iconst 0, 1) := by decide +kernel
theorem dX5_takePart_70 : decode cX5_takePart 70 = .ok (.istore_n 3, 1) := by decide +kernel
theorem dX5_takePart_71 : decode cX5_takePart 71 = .ok (.iload_n 2, 1) := by decide +kernel
theorem dX5_takePart_72 : decode cX5_takePart 72 = .ok (.bipush 25, 2) := by decide +kernel
theorem dX5_takePart_74 : decode cX5_takePart 74 = .ok (.if_icmp .eq 13, 3) := by decide +kernel
theorem dX5_takePart_77 : decode cX5_takePart 77 = .ok (.iload_n 3, 1) := by decide +kernel
theorem dX5_takePart_78 : decode cX5_takePart 78 = .ok (.ifCond .ne 9, 3) := by decide +kernel
theorem dX5_takePart_81 : decode cX5_takePart 81 = .ok (.aload_n 0, 1) := by decide +kernel
theorem dX5_takePart_82 : decode cX5_takePart 82 = .ok (.iconst 1, 1) := by decide +kernel
theorem dX5_takePart_83 : decode cX5_takePart 83 = .ok (.invokevirtual 89, 3) := by decide +kernel
theorem dX5_takePart_86 : decode cX5_takePart 86 = .ok (.ireturn, 1) := by decide +kernel
theorem dX5_takePart_87 : decode cX5_takePart 87 = .ok (.aload_n 0, 1) := by decide +kernel
theorem dX5_takePart_88 : decode cX5_takePart 88 = .ok (.getfield 18, 3) := by decide +kernel
theorem dX5_takePart_91 : decode cX5_takePart 91 = .ok (.getfield 97, 3) := by decide +kernel
theorem dX5_takePart_94 : decode cX5_takePart 94 = .ok (.sipush 9999, 3) := by decide +kernel
theorem dX5_takePart_97 : decode cX5_takePart 97 = .ok (.if_icmp .le 13, 3) := by decide +kernel
theorem dX5_takePart_100 : decode cX5_takePart 100 = .ok (.iload_n 3, 1) := by decide +kernel
theorem dX5_takePart_101 : decode cX5_takePart 101 = .ok (.ifCond .ne 9, 3) := by decide +kernel
theorem dX5_takePart_104 : decode cX5_takePart 104 = .ok (.aload_n 0, 1) := by decide +kernel
theorem dX5_takePart_105 : decode cX5_takePart 105 = .ok (.iconst 2, 1) := by decide +kernel
theorem dX5_takePart_106 : decode cX5_takePart 106 = .ok (.invokevirtual 89, 3) := by decide +kernel
theorem dX5_takePart_109 : decode cX5_takePart 109 = .ok (.ireturn, 1) := by decide +kernel
theorem dX5_takePart_110 : decode cX5_takePart 110 = .ok (.aload_n 0, 1) := by decide +kernel
theorem dX5_takePart_111 : decode cX5_takePart 111 = .ok (.invokevirtual 211, 3) := by decide +kernel
theorem dX5_takePart_114 : decode cX5_takePart 114 = .ok (.ifCond .ne 5, 3) := by decide +kernel
theorem dX5_takePart_117 : decode cX5_takePart 117 = .ok (.iconst 0, 1) := by decide +kernel
theorem dX5_takePart_118 : decode cX5_takePart 118 = .ok (.ireturn, 1) := by decide +kernel
theorem dX5_takePart_119 : decode cX5_takePart 119 = .ok (.aload_n 1, 1) := by decide +kernel
theorem dX5_takePart_120 : decode cX5_takePart 120 = .ok (.iload_n 3, 1) := by decide +kernel
theorem dX5_takePart_121 : decode cX5_takePart 121 = .ok (.ifCond .eq 11, 3) := by decide +kernel
theorem dX5_takePart_124 : decode cX5_takePart 124 = .ok (.sipush 10000, 3) := by decide +kernel
theorem dX5_takePart_127 : decode cX5_takePart 127 = .ok (.iload_n 2, 1) := by decide +kernel
theorem dX5_takePart_128 : decode cX5_takePart 128 = .ok (.iadd, 1) := by decide +kernel
theorem dX5_takePart_129 : decode cX5_takePart 129 = .ok (.goto 10, 3) := by decide +kernel
theorem dX5_takePart_132 : decode cX5_takePart 132 = .ok (.aload_n 0, 1) := by decide +kernel
theorem dX5_takePart_133 : decode cX5_takePart 133 = .ok (.getfield 18, 3) := by decide +kernel
theorem dX5_takePart_136 : decode cX5_takePart 136 = .ok (.getfield 97, 3) := by decide +kernel
theorem dX5_takePart_139 : decode cX5_takePart 139 = .ok (.invokevirtual 217, 3) := by decide +kernel
theorem dX5_takePart_142 : decode cX5_takePart 142 = .ok (.aload_n 0, 1) := by decide +kernel
theorem dX5_takePart_143 : decode cX5_takePart 143 = .ok (.iconst 0, 1) := by decide +kernel
theorem dX5_takePart_144 : decode cX5_takePart 144 = .ok (.putfield 191, 3) := by decide +kernel
theorem dX5_takePart_147 : decode cX5_takePart 147 = .ok (.iconst 1, 1) := by decide +kernel
theorem dX5_takePart_148 : decode cX5_takePart 148 = .ok (.ireturn, 1) := by decide +kernel
theorem dX5_takeClose_0 : decode cX5_takeClose 0 = .ok (.aload_n 0, 1) := by decide +kernel
theorem dX5_takeClose_1 : decode cX5_takeClose 1 = .ok (.getfield 188, 3) := by decide +kernel
theorem dX5_takeClose_4 : decode cX5_takeClose 4 = .ok (.ifCond .ne 9, 3) := by decide +kernel
theorem dX5_takeClose_7 : decode cX5_takeClose 7 = .ok (.aload_n 0, 1) := by decide +kernel
theorem dX5_takeClose_8 : decode cX5_takeClose 8 = .ok (.iconst 1, 1) := by decide +kernel
theorem dX5_takeClose_9 : decode cX5_takeClose 9 = .ok (.invokevirtual 89, 3) := by decide +kernel
theorem dX5_takeClose_12 : decode cX5_takeClose 12 = .ok (.ireturn, 1) := by decide +kernel
theorem dX5_takeClose_13 : decode cX5_takeClose 13 = .ok (.aload_n 0, 1) := by decide +kernel
theorem dX5_takeClose_14 : decode cX5_takeClose 14 = .ok (.aload_n 1, 1) := by decide +kernel
theorem dX5_takeClose_15 : decode cX5_takeClose 15 = .ok (.iconst 1, 1) := by decide +kernel
theorem dX5_takeClose_16 : decode cX5_takeClose 16 = .ok (.invokevirtual 197, 3) := by decide +kernel
theorem dX5_takeClose_19 : decode cX5_takeClose 19 = .ok (.aload_n 0, 1) := by decide +kernel
theorem dX5_takeClose_20 : decode cX5_takeClose 20 = .ok (.dup, 1) := by decide +kernel
theorem dX5_takeClose_21 : decode cX5_takeClose 21 = .ok (.getfield 188, 3) := by decide +kernel
theorem dX5_takeClose_24 : decode cX5_takeClose 24 = .ok (.iconst 1, 1) := by decide +kernel
theorem dX5_takeClose_25 : decode cX5_takeClose 25 = .ok (.isub, 1) := by decide +kernel
theorem dX5_takeClose_26 : decode cX5_takeClose 26 = .ok (.putfield 188, 3) := by decide +kernel
theorem dX5_takeClose_29 : decode cX5_takeClose 29 = .ok (.aload_n 0, 1) := by decide +kernel
theorem dX5_takeClose_30 : decode cX5_takeClose 30 = .ok (.getfield 185, 3) := by decide +kernel
theorem dX5_takeClose_33 : decode cX5_takeClose 33 = .ok (.ifCond .le 13, 3) := by decide +kernel
theorem dX5_takeClose_36 : decode cX5_takeClose 36 = .ok (.aload_n 0, 1) := by decide +kernel
theorem dX5_takeClose_37 : decode cX5_takeClose 37 = .ok (.dup, 1) := by decide +kernel
theorem dX5_takeClose_38 : decode cX5_takeClose 38 = .ok (.getfield 185, 3) := by decide +kernel
theorem dX5_takeClose_41 : decode cX5_takeClose 41 = .ok (.iconst 1, 1) := by decide +kernel
theorem dX5_takeClose_42 : decode cX5_takeClose 42 = .ok (.isub, 1) := by decide +kernel
theorem dX5_takeClose_43 : decode cX5_takeClose 43 = .ok (.putfield 185, 3) := by decide +kernel
theorem dX5_takeClose_46 : decode cX5_takeClose 46 = .ok (.iconst 1, 1) := by decide +kernel
theorem dX5_takeClose_47 : decode cX5_takeClose 47 = .ok (.ireturn, 1) := by decide +kernel
theorem dX5_waitsForLike_0 : decode cX5_waitsForLike 0 = .ok (.aload_n 0, 1) := by decide +kernel
theorem dX5_waitsForLike_1 : decode cX5_waitsForLike 1 = .ok (.getfield 185, 3) := by decide +kernel
theorem dX5_waitsForLike_4 : decode cX5_waitsForLike 4 = .ok (.ifCond .le 29, 3) := by decide +kernel
theorem dX5_waitsForLike_7 : decode cX5_waitsForLike 7 = .ok (.aload_n 0, 1) := by decide +kernel
theorem dX5_waitsForLike_8 : decode cX5_waitsForLike 8 = .ok (.getfield 22, 3) := by decide +kernel
theorem dX5_waitsForLike_11 : decode cX5_waitsForLike 11 = .ok (.aload_n 0, 1) := by decide +kernel
theorem dX5_waitsForLike_12 : decode cX5_waitsForLike 12 = .ok (.getfield 185, 3) := by decide +kernel
theorem dX5_waitsForLike_15 : decode cX5_waitsForLike 15 = .ok (.iconst 1, 1) := by decide +kernel
theorem dX5_waitsForLike_16 : decode cX5_waitsForLike 16 = .ok (.isub, 1) := by decide +kernel
theorem dX5_waitsForLike_17 : decode cX5_waitsForLike 17 = .ok (.iaload, 1) := by decide +kernel
theorem dX5_waitsForLike_18 : decode cX5_waitsForLike 18 = .ok (.invokestatic 223, 3) := by decide +kernel
theorem dX5_waitsForLike_21 : decode cX5_waitsForLike 21 = .ok (.bipush 28, 2) := by decide +kernel
theorem dX5_waitsForLike_23 : decode cX5_waitsForLike 23 = .ok (.invokestatic 223, 3) := by decide +kernel
theorem dX5_waitsForLike_26 : decode cX5_waitsForLike 26 = .ok (.if_icmp .ne 7, 3) := by decide +kernel
theorem dX5_waitsForLike_29 : decode cX5_waitsForLike 29 = .ok (.iconst 1, 1) := by decide +kernel
theorem dX5_waitsForLike_30 : decode cX5_waitsForLike 30 = .ok (.goto 4, 3) := by decide +kernel
theorem dX5_waitsForLike_33 : decode cX5_waitsForLike 33 = .ok (.iconst 0, 1) := by decide +kernel
theorem dX5_waitsForLike_34 : decode cX5_waitsForLike 34 = .ok (.ireturn, 1) := by decide +kernel
theorem dX5_takeJoint_0 : decode cX5_takeJoint 0 = .ok (.aload_n 0, 1) := by decide +kernel
theorem dX5_takeJoint_1 : decode cX5_takeJoint 1 = .ok (.getfield 18, 3) := by decide +kernel
theorem dX5_takeJoint_4 : decode cX5_takeJoint 4 = .ok (.getfield 52, 3) := by decide +kernel
theorem dX5_takeJoint_7 : decode cX5_takeJoint 7 = .ok (.istore_n 2, 1) := by decide +kernel
theorem dX5_takeJoint_8 : decode cX5_takeJoint 8 = .ok (.iload_n 2, 1) := by decide +kernel
theorem dX5_takeJoint_9 : decode cX5_takeJoint 9 = .ok (.bipush 37, 2) := by decide +kernel
theorem dX5_takeJoint_11 : decode cX5_takeJoint 11 = .ok (.if_icmp .ne 9, 3) := by decide +kernel
theorem dX5_takeJoint_14 : decode cX5_takeJoint 14 = .ok (.aload_n 0, 1) := by decide +kernel
theorem dX5_takeJoint_15 : decode cX5_takeJoint 15 = .ok (.aload_n 1, 1) := by decide +kernel
theorem dX5_takeJoint_16 : decode cX5_takeJoint 16 = .ok (.invokevirtual 220, 3) := by decide +kernel
theorem dX5_takeJoint_19 : decode cX5_takeJoint 19 = .ok (.ireturn, 1) := by decide +kernel
theorem dX5_takeJoint_20 : decode cX5_takeJoint 20 = .ok (.iload_n 2, 1) := by decide +kernel
theorem dX5_takeJoint_21 : decode cX5_takeJoint 21 = .ok (.invokestatic 223, 3) := by decide +kernel
theorem dX5_takeJoint_24 : decode cX5_takeJoint 24 = .ok (.istore_n 3, 1) := by decide +kernel
theorem dX5_takeJoint_25 : decode cX5_takeJoint 25 = .ok (.iload_n 3, 1) := by decide +kernel
theorem dX5_takeJoint_26 : decode cX5_takeJoint 26 = .ok (.ifCond .eq 9, 3) := by decide +kernel
theorem dX5_takeJoint_29 : decode cX5_takeJoint 29 = .ok (.iload_n 2, 1) := by decide +kernel
theorem dX5_takeJoint_30 : decode cX5_takeJoint 30 = .ok (.bipush 15, 2) := by decide +kernel
theorem dX5_takeJoint_32 : decode cX5_takeJoint 32 = .ok (.if_icmp .ne 9, 3) := by decide +kernel
theorem dX5_takeJoint_35 : decode cX5_takeJoint 35 = .ok (.aload_n 0, 1) := by decide +kernel
theorem dX5_takeJoint_36 : decode cX5_takeJoint 36 = .ok (.iconst 1, 1) := by decide +kernel
theorem dX5_takeJoint_37 : decode cX5_takeJoint 37 = .ok (.invokevirtual 89, 3) := by decide +kernel
theorem dX5_takeJoint_40 : decode cX5_takeJoint 40 = .ok (.ireturn, 1) := by decide +kernel
theorem dX5_takeJoint_41 : decode cX5_takeJoint 41 = .ok (.iload_n 3, 1) := by decide +kernel
theorem dX5_takeJoint_42 : decode cX5_takeJoint 42 = .ok (.bipush 28, 2) := by decide +kernel
theorem dX5_takeJoint_44 : decode cX5_takeJoint 44 = .ok (.invokestatic 223, 3) := by decide +kernel
theorem dX5_takeJoint_47 : decode cX5_takeJoint 47 = .ok (.if_icmp .ne 7, 3) := by decide +kernel
theorem dX5_takeJoint_50 : decode cX5_takeJoint 50 = .ok (.iconst 1, 1) := by decide +kernel
theorem dX5_takeJoint_51 : decode cX5_takeJoint 51 = .ok (.goto 4, 3) := by decide +kernel
theorem dX5_takeJoint_54 : decode cX5_takeJoint 54 = .ok (.iconst 0, 1) := by decide +kernel
theorem dX5_takeJoint_55 : decode cX5_takeJoint 55 = .ok (.istore 4, 2) := by decide +kernel
theorem dX5_takeJoint_57 : decode cX5_takeJoint 57 = .ok (.aload_n 0, 1) := by decide +kernel
theorem dX5_takeJoint_58 : decode cX5_takeJoint 58 = .ok (.aload_n 1, 1) := by decide +kernel
theorem dX5_takeJoint_59 : decode cX5_takeJoint 59 = .ok (.iload 4, 2) := by decide +kernel
theorem dX5_takeJoint_61 : decode cX5_takeJoint 61 = .ok (.ifCond .eq 9, 3) := by decide +kernel
theorem dX5_takeJoint_64 : decode cX5_takeJoint 64 = .ok (.iload_n 3, 1) := by decide +kernel
theorem dX5_takeJoint_65 : decode cX5_takeJoint 65 = .ok (.iconst 1, 1) := by decide +kernel
theorem dX5_takeJoint_66 : decode cX5_takeJoint 66 = .ok (.iadd, 1) := by decide +kernel
theorem dX5_takeJoint_67 : decode cX5_takeJoint 67 = .ok (.goto 4, 3) := by decide +kernel
theorem dX5_takeJoint_70 : decode cX5_takeJoint 70 = .ok (.iload_n 3, 1) := by decide +kernel
theorem dX5_takeJoint_71 : decode cX5_takeJoint 71 = .ok (.invokevirtual 197, 3) := by decide +kernel
theorem dX5_takeJoint_74 : decode cX5_takeJoint 74 = .ok (.iload 4, 2) := by decide +kernel
theorem dX5_takeJoint_76 : decode cX5_takeJoint 76 = .ok (.ifCond .eq 16, 3) := by decide +kernel
theorem dX5_takeJoint_79 : decode cX5_takeJoint 79 = .ok (.aload_n 0, 1) := by decide +kernel
theorem dX5_takeJoint_80 : decode cX5_takeJoint 80 = .ok (.invokevirtual 226, 3) := by decide +kernel
theorem dX5_takeJoint_83 : decode cX5_takeJoint 83 = .ok (.ifCond .eq 9, 3) := by decide +kernel
theorem dX5_takeJoint_86 : decode cX5_takeJoint 86 = .ok (.aload_n 0, 1) := by decide +kernel
theorem dX5_takeJoint_87 : decode cX5_takeJoint 87 = .ok (.iconst 1, 1) := by decide +kernel
theorem dX5_takeJoint_88 : decode cX5_takeJoint 88 = .ok (.invokevirtual 89, 3) := by decide +kernel
theorem dX5_takeJoint_91 : decode cX5_takeJoint 91 = .ok (.ireturn, 1) := by decide +kernel
theorem dX5_takeJoint_92 : decode cX5_takeJoint 92 = .ok (.aload_n 0, 1) := by decide +kernel
theorem dX5_takeJoint_93 : decode cX5_takeJoint 93 = .ok (.iconst 1, 1) := by decide +kernel
theorem dX5_takeJoint_94 : decode cX5_takeJoint 94 = .ok (.putfield 191, 3) := by decide +kernel
theorem dX5_takeJoint_97 : decode cX5_takeJoint 97 = .ok (.aload_n 0, 1) := by decide +kernel
theorem dX5_takeJoint_98 : decode cX5_takeJoint 98 = .ok (.iload_n 2, 1) := by decide +kernel
theorem dX5_takeJoint_99 : decode cX5_takeJoint 99 = .ok (.bipush 16, 2) := by decide +kernel
theorem dX5_takeJoint_101 : decode cX5_takeJoint 101 = .ok (.if_icmp .eq 9, 3) := by decide +kernel
theorem dX5_takeJoint_104 : decode cX5_takeJoint 104 = .ok (.iload_n 2, 1) := by decide +kernel
theorem dX5_takeJoint_105 : decode cX5_takeJoint 105 = .ok (.bipush 17, 2) := by decide +kernel
theorem dX5_takeJoint_107 : decode cX5_takeJoint 107 = .ok (.if_icmp .ne 7, 3) := by decide +kernel
theorem dX5_takeJoint_110 : decode cX5_takeJoint 110 = .ok (.iconst 1, 1) := by decide +kernel
theorem dX5_takeJoint_111 : decode cX5_takeJoint 111 = .ok (.goto 4, 3) := by decide +kernel
theorem dX5_takeJoint_114 : decode cX5_takeJoint 114 = .ok (.iconst 0, 1) := by decide +kernel
theorem dX5_takeJoint_115 : decode cX5_takeJoint 115 = .ok (.putfield 194, 3) := by decide +kernel
theorem dX5_takeJoint_118 : decode cX5_takeJoint 118 = .ok (.aload_n 0, 1) := by decide +kernel
theorem dX5_takeJoint_119 : decode cX5_takeJoint 119 = .ok (.invokevirtual 211, 3) := by decide +kernel
theorem dX5_takeJoint_122 : decode cX5_takeJoint 122 = .ok (.ifCond .eq 15, 3) := by decide +kernel
theorem dX5_takeJoint_125 : decode cX5_takeJoint 125 = .ok (.aload_n 0, 1) := by decide +kernel
theorem dX5_takeJoint_126 : decode cX5_takeJoint 126 = .ok (.iload_n 2, 1) := by decide +kernel
theorem dX5_takeJoint_127 : decode cX5_takeJoint 127 = .ok (.invokevirtual 214, 3) := by decide +kernel
theorem dX5_takeJoint_130 : decode cX5_takeJoint 130 = .ok (.ifCond .eq 7, 3) := by decide +kernel
theorem dX5_takeJoint_133 : decode cX5_takeJoint 133 = .ok (.iconst 1, 1) := by decide +kernel
theorem dX5_takeJoint_134 : decode cX5_takeJoint 134 = .ok (.goto 4, 3) := by decide +kernel
theorem dX5_takeJoint_137 : decode cX5_takeJoint 137 = .ok (.iconst 0, 1) := by decide +kernel
theorem dX5_takeJoint_138 : decode cX5_takeJoint 138 = .ok (.ireturn, 1) := by decide +kernel
theorem dX5_readLaw_0 : decode cX5_readLaw 0 = .ok (.aload_n 0, 1) := by decide +kernel
theorem dX5_readLaw_1 : decode cX5_readLaw 1 = .ok (.invokevirtual 181, 3) := by decide +kernel
theorem dX5_readLaw_4 : decode cX5_readLaw 4 = .ok (.astore_n 1, 1) := by decide +kernel
theorem dX5_readLaw_5 : decode cX5_readLaw 5 = .ok (.aload_n 1, 1) := by decide +kernel
theorem dX5_readLaw_6 : decode cX5_readLaw 6 = .ok (.ifnonnull 5, 3) := by decide +kernel
theorem dX5_readLaw_9 : decode cX5_readLaw 9 = .ok (.iconst 0, 1) := by decide +kernel
theorem dX5_readLaw_10 : decode cX5_readLaw 10 = .ok (.ireturn, 1) := by decide +kernel
theorem dX5_readLaw_11 : decode cX5_readLaw 11 = .ok (.aload_n 0, 1) := by decide +kernel
theorem dX5_readLaw_12 : decode cX5_readLaw 12 = .ok (.iconst 0, 1) := by decide +kernel
theorem dX5_readLaw_13 : decode cX5_readLaw 13 = .ok (.putfield 185, 3) := by decide +kernel
theorem dX5_readLaw_16 : decode cX5_readLaw 16 = .ok (.aload_n 0, 1) := by decide +kernel
theorem dX5_readLaw_17 : decode cX5_readLaw 17 = .ok (.iconst 0, 1) := by decide +kernel
theorem dX5_readLaw_18 : decode cX5_readLaw 18 = .ok (.putfield 188, 3) := by decide +kernel
theorem dX5_readLaw_21 : decode cX5_readLaw 21 = .ok (.aload_n 0, 1) := by decide +kernel
theorem dX5_readLaw_22 : decode cX5_readLaw 22 = .ok (.iconst 1, 1) := by decide +kernel
theorem dX5_readLaw_23 : decode cX5_readLaw 23 = .ok (.putfield 191, 3) := by decide +kernel
theorem dX5_readLaw_26 : decode cX5_readLaw 26 = .ok (.aload_n 0, 1) := by decide +kernel
theorem dX5_readLaw_27 : decode cX5_readLaw 27 = .ok (.iconst 1, 1) := by decide +kernel
theorem dX5_readLaw_28 : decode cX5_readLaw 28 = .ok (.putfield 194, 3) := by decide +kernel
theorem dX5_readLaw_31 : decode cX5_readLaw 31 = .ok (.iconst 0, 1) := by decide +kernel
theorem dX5_readLaw_32 : decode cX5_readLaw 32 = .ok (.istore_n 2, 1) := by decide +kernel
theorem dX5_readLaw_33 : decode cX5_readLaw 33 = .ok (.iload_n 2, 1) := by decide +kernel
theorem dX5_readLaw_34 : decode cX5_readLaw 34 = .ok (.sipush 700, 3) := by decide +kernel
theorem dX5_readLaw_37 : decode cX5_readLaw 37 = .ok (.if_icmp .gt 78, 3) := by decide +kernel
theorem dX5_readLaw_40 : decode cX5_readLaw 40 = .ok (.aload_n 0, 1) := by decide +kernel
theorem dX5_readLaw_41 : decode cX5_readLaw 41 = .ok (.getfield 18, 3) := by decide +kernel
theorem dX5_readLaw_44 : decode cX5_readLaw 44 = .ok (.invokevirtual 49, 3) := by decide +kernel
theorem dX5_readLaw_47 : decode cX5_readLaw 47 = .ok (.aload_n 0, 1) := by decide +kernel
theorem dX5_readLaw_48 : decode cX5_readLaw 48 = .ok (.getfield 191, 3) := by decide +kernel
theorem dX5_readLaw_51 : decode cX5_readLaw 51 = .ok (.ifCond .ne 30, 3) := by decide +kernel
theorem dX5_readLaw_54 : decode cX5_readLaw 54 = .ok (.aload_n 0, 1) := by decide +kernel
theorem dX5_readLaw_55 : decode cX5_readLaw 55 = .ok (.getfield 188, 3) := by decide +kernel
theorem dX5_readLaw_58 : decode cX5_readLaw 58 = .ok (.ifCond .ne 23, 3) := by decide +kernel
theorem dX5_readLaw_61 : decode cX5_readLaw 61 = .ok (.aload_n 0, 1) := by decide +kernel
theorem dX5_readLaw_62 : decode cX5_readLaw 62 = .ok (.getfield 18, 3) := by decide +kernel
theorem dX5_readLaw_65 : decode cX5_readLaw 65 = .ok (.getfield 52, 3) := by decide +kernel
theorem dX5_readLaw_68 : decode cX5_readLaw 68 = .ok (.bipush 38, 2) := by decide +kernel
theorem dX5_readLaw_70 : decode cX5_readLaw 70 = .ok (.if_icmp .ne 11, 3) := by decide +kernel
theorem dX5_readLaw_73 : decode cX5_readLaw 73 = .ok (.aload_n 0, 1) := by decide +kernel
theorem dX5_readLaw_74 : decode cX5_readLaw 74 = .ok (.aload_n 1, 1) := by decide +kernel
theorem dX5_readLaw_75 : decode cX5_readLaw 75 = .ok (.iconst 1, 1) := by decide +kernel
theorem dX5_readLaw_76 : decode cX5_readLaw 76 = .ok (.invokevirtual 197, 3) := by decide +kernel
theorem dX5_readLaw_79 : decode cX5_readLaw 79 = .ok (.iconst 1, 1) := by decide +kernel
theorem dX5_readLaw_80 : decode cX5_readLaw 80 = .ok (.ireturn, 1) := by decide +kernel
theorem dX5_readLaw_81 : decode cX5_readLaw 81 = .ok (.aload_n 0, 1) := by decide +kernel
theorem dX5_readLaw_82 : decode cX5_readLaw 82 = .ok (.getfield 191, 3) := by decide +kernel
theorem dX5_readLaw_85 : decode cX5_readLaw 85 = .ok (.ifCond .eq 14, 3) := by decide +kernel
theorem dX5_readLaw_88 : decode cX5_readLaw 88 = .ok (.aload_n 0, 1) := by decide +kernel
theorem dX5_readLaw_89 : decode cX5_readLaw 89 = .ok (.aload_n 1, 1) := by decide +kernel
theorem dX5_readLaw_90 : decode cX5_readLaw 90 = .ok (.invokevirtual 201, 3) := by decide +kernel
theorem dX5_readLaw_93 : decode cX5_readLaw 93 = .ok (.ifCond .eq 14, 3) := by decide +kernel
theorem dX5_readLaw_96 : decode cX5_readLaw 96 = .ok (.goto 13, 3) := by decide +kernel
theorem dX5_readLaw_99 : decode cX5_readLaw 99 = .ok (.aload_n 0, 1) := by decide +kernel
theorem dX5_readLaw_100 : decode cX5_readLaw 100 = .ok (.aload_n 1, 1) := by decide +kernel
theorem dX5_readLaw_101 : decode cX5_readLaw 101 = .ok (.invokevirtual 205, 3) := by decide +kernel
theorem dX5_readLaw_104 : decode cX5_readLaw 104 = .ok (.ifCond .ne 5, 3) := by decide +kernel
theorem dX5_readLaw_107 : decode cX5_readLaw 107 = .ok (.iconst 0, 1) := by decide +kernel
theorem dX5_readLaw_108 : decode cX5_readLaw 108 = .ok (.ireturn, 1) := by decide +kernel
theorem dX5_readLaw_109 : decode cX5_readLaw 109 = .ok (.iinc 2 1, 3) := by decide +kernel
theorem dX5_readLaw_112 : decode cX5_readLaw 112 = .ok (.goto (-79), 3) := by decide +kernel
theorem dX5_readLaw_115 : decode cX5_readLaw 115 = .ok (.iconst 0, 1) := by decide +kernel
theorem dX5_readLaw_116 : decode cX5_readLaw 116 = .ok (.ireturn, 1) := by decide +kernel
theorem dX5_readLine_0 : decode cX5_readLine 0 = .ok (.aload_n 0, 1) := by decide +kernel
theorem dX5_readLine_1 : decode cX5_readLine 1 = .ok (.getfield 18, 3) := by decide +kernel
theorem dX5_readLine_4 : decode cX5_readLine 4 = .ok (.getfield 52, 3) := by decide +kernel
theorem dX5_readLine_7 : decode cX5_readLine 7 = .ok (.tableswitch 85 0 7 #[45, 50, 55, 60, 65, 70, 75, 80], 45) := by decide +kernel
theorem dX5_readLine_52 : decode cX5_readLine 52 = .ok (.aload_n 0, 1) := by decide +kernel
theorem dX5_readLine_53 : decode cX5_readLine 53 = .ok (.invokevirtual 65, 3) := by decide +kernel
theorem dX5_readLine_56 : decode cX5_readLine 56 = .ok (.ireturn, 1) := by decide +kernel
theorem dX5_readLine_57 : decode cX5_readLine 57 = .ok (.aload_n 0, 1) := by decide +kernel
theorem dX5_readLine_58 : decode cX5_readLine 58 = .ok (.invokevirtual 68, 3) := by decide +kernel
theorem dX5_readLine_61 : decode cX5_readLine 61 = .ok (.ireturn, 1) := by decide +kernel
theorem dX5_readLine_62 : decode cX5_readLine 62 = .ok (.aload_n 0, 1) := by decide +kernel
theorem dX5_readLine_63 : decode cX5_readLine 63 = .ok (.invokevirtual 71, 3) := by decide +kernel
theorem dX5_readLine_66 : decode cX5_readLine 66 = .ok (.ireturn, 1) := by decide +kernel
theorem dX5_readLine_67 : decode cX5_readLine 67 = .ok (.aload_n 0, 1) := by decide +kernel
theorem dX5_readLine_68 : decode cX5_readLine 68 = .ok (.invokevirtual 74, 3) := by decide +kernel
theorem dX5_readLine_71 : decode cX5_readLine 71 = .ok (.ireturn, 1) := by decide +kernel
theorem dX5_readLine_72 : decode cX5_readLine 72 = .ok (.aload_n 0, 1) := by decide +kernel
theorem dX5_readLine_73 : decode cX5_readLine 73 = .ok (.invokevirtual 77, 3) := by decide +kernel
theorem dX5_readLine_76 : decode cX5_readLine 76 = .ok (.ireturn, 1) := by decide +kernel
theorem dX5_readLine_77 : decode cX5_readLine 77 = .ok (.aload_n 0, 1) := by decide +kernel
theorem dX5_readLine_78 : decode cX5_readLine 78 = .ok (.invokevirtual 80, 3) := by decide +kernel
theorem dX5_readLine_81 : decode cX5_readLine 81 = .ok (.ireturn, 1) := by decide +kernel
theorem dX5_readLine_82 : decode cX5_readLine 82 = .ok (.aload_n 0, 1) := by decide +kernel
theorem dX5_readLine_83 : decode cX5_readLine 83 = .ok (.invokevirtual 83, 3) := by decide +kernel
theorem dX5_readLine_86 : decode cX5_readLine 86 = .ok (.ireturn, 1) := by decide +kernel
theorem dX5_readLine_87 : decode cX5_readLine 87 = .ok (.aload_n 0, 1) := by decide +kernel
theorem dX5_readLine_88 : decode cX5_readLine 88 = .ok (.invokevirtual 86, 3) := by decide +kernel
theorem dX5_readLine_91 : decode cX5_readLine 91 = .ok (.ireturn, 1) := by decide +kernel
theorem dX5_readLine_92 : decode cX5_readLine 92 = .ok (.aload_n 0, 1) := by decide +kernel
theorem dX5_readLine_93 : decode cX5_readLine 93 = .ok (.iconst 1, 1) := by decide +kernel
theorem dX5_readLine_94 : decode cX5_readLine 94 = .ok (.invokevirtual 89, 3) := by decide +kernel
theorem dX5_readLine_97 : decode cX5_readLine 97 = .ok (.ireturn, 1) := by decide +kernel
theorem dX5_readAll_0 : decode cX5_readAll 0 = .ok (.aload_n 0, 1) := by decide +kernel
theorem dX5_readAll_1 : decode cX5_readAll 1 = .ok (.aload_n 3, 1) := by decide +kernel
theorem dX5_readAll_2 : decode cX5_readAll 2 = .ok (.putfield 9, 3) := by decide +kernel
theorem dX5_readAll_5 : decode cX5_readAll 5 = .ok (.aload_n 0, 1) := by decide +kernel
theorem dX5_readAll_6 : decode cX5_readAll 6 = .ok (.getfield 9, 3) := by decide +kernel
theorem dX5_readAll_9 : decode cX5_readAll 9 = .ok (.invokevirtual 30, 3) := by decide +kernel
theorem dX5_readAll_12 : decode cX5_readAll 12 = .ok (.aload_n 0, 1) := by decide +kernel
theorem dX5_readAll_13 : decode cX5_readAll 13 = .ok (.iconst 0, 1) := by decide +kernel
theorem dX5_readAll_14 : decode cX5_readAll 14 = .ok (.putfield 35, 3) := by decide +kernel
theorem dX5_readAll_17 : decode cX5_readAll 17 = .ok (.aload_n 0, 1) := by decide +kernel
theorem dX5_readAll_18 : decode cX5_readAll 18 = .ok (.iconst (-1), 1) := by decide +kernel
theorem dX5_readAll_19 : decode cX5_readAll 19 = .ok (.putfield 26, 3) := by decide +kernel
theorem dX5_readAll_22 : decode cX5_readAll 22 = .ok (.aload_n 0, 1) := by decide +kernel
theorem dX5_readAll_23 : decode cX5_readAll 23 = .ok (.iconst 0, 1) := by decide +kernel
theorem dX5_readAll_24 : decode cX5_readAll 24 = .ok (.putfield 38, 3) := by decide +kernel
theorem dX5_readAll_27 : decode cX5_readAll 27 = .ok (.aload_n 0, 1) := by decide +kernel
theorem dX5_readAll_28 : decode cX5_readAll 28 = .ok (.iconst 0, 1) := by decide +kernel
theorem dX5_readAll_29 : decode cX5_readAll 29 = .ok (.putfield 41, 3) := by decide +kernel
theorem dX5_readAll_32 : decode cX5_readAll 32 = .ok (.aload_n 0, 1) := by decide +kernel
theorem dX5_readAll_33 : decode cX5_readAll 33 = .ok (.getfield 18, 3) := by decide +kernel
theorem dX5_readAll_36 : decode cX5_readAll 36 = .ok (.aload_n 1, 1) := by decide +kernel
theorem dX5_readAll_37 : decode cX5_readAll 37 = .ok (.iload_n 2, 1) := by decide +kernel
theorem dX5_readAll_38 : decode cX5_readAll 38 = .ok (.invokevirtual 45, 3) := by decide +kernel
theorem dX5_readAll_41 : decode cX5_readAll 41 = .ok (.iconst 0, 1) := by decide +kernel
theorem dX5_readAll_42 : decode cX5_readAll 42 = .ok (.istore 4, 2) := by decide +kernel
theorem dX5_readAll_44 : decode cX5_readAll 44 = .ok (.iload 4, 2) := by decide +kernel
theorem dX5_readAll_46 : decode cX5_readAll 46 = .ok (.sipush 700, 3) := by decide +kernel
theorem dX5_readAll_49 : decode cX5_readAll 49 = .ok (.if_icmp .gt 52, 3) := by decide +kernel
theorem dX5_readAll_52 : decode cX5_readAll 52 = .ok (.aload_n 0, 1) := by decide +kernel
theorem dX5_readAll_53 : decode cX5_readAll 53 = .ok (.getfield 18, 3) := by decide +kernel
theorem dX5_readAll_56 : decode cX5_readAll 56 = .ok (.invokevirtual 49, 3) := by decide +kernel
theorem dX5_readAll_59 : decode cX5_readAll 59 = .ok (.aload_n 0, 1) := by decide +kernel
theorem dX5_readAll_60 : decode cX5_readAll 60 = .ok (.getfield 18, 3) := by decide +kernel
theorem dX5_readAll_63 : decode cX5_readAll 63 = .ok (.getfield 52, 3) := by decide +kernel
theorem dX5_readAll_66 : decode cX5_readAll 66 = .ok (.bipush 39, 2) := by decide +kernel
theorem dX5_readAll_68 : decode cX5_readAll 68 = .ok (.if_icmp .ne 5, 3) := by decide +kernel
theorem dX5_readAll_71 : decode cX5_readAll 71 = .ok (.iconst 1, 1) := by decide +kernel
theorem dX5_readAll_72 : decode cX5_readAll 72 = .ok (.ireturn, 1) := by decide +kernel
theorem dX5_readAll_73 : decode cX5_readAll 73 = .ok (.aload_n 0, 1) := by decide +kernel
theorem dX5_readAll_74 : decode cX5_readAll 74 = .ok (.invokevirtual 55, 3) := by decide +kernel
theorem dX5_readAll_77 : decode cX5_readAll 77 = .ok (.ifCond .ne 5, 3) := by decide +kernel
theorem dX5_readAll_80 : decode cX5_readAll 80 = .ok (.iconst 0, 1) := by decide +kernel
theorem dX5_readAll_81 : decode cX5_readAll 81 = .ok (.ireturn, 1) := by decide +kernel
theorem dX5_readAll_82 : decode cX5_readAll 82 = .ok (.aload_n 0, 1) := by decide +kernel
theorem dX5_readAll_83 : decode cX5_readAll 83 = .ok (.getfield 9, 3) := by decide +kernel
theorem dX5_readAll_86 : decode cX5_readAll 86 = .ok (.dup, 1) := by decide +kernel
theorem dX5_readAll_87 : decode cX5_readAll 87 = .ok (.getfield 59, 3) := by decide +kernel
theorem dX5_readAll_90 : decode cX5_readAll 90 = .ok (.iconst 1, 1) := by decide +kernel
theorem dX5_readAll_91 : decode cX5_readAll 91 = .ok (.iadd, 1) := by decide +kernel
theorem dX5_readAll_92 : decode cX5_readAll 92 = .ok (.putfield 59, 3) := by decide +kernel
theorem dX5_readAll_95 : decode cX5_readAll 95 = .ok (.iinc 4 1, 3) := by decide +kernel
theorem dX5_readAll_98 : decode cX5_readAll 98 = .ok (.goto (-54), 3) := by decide +kernel
theorem dX5_readAll_101 : decode cX5_readAll 101 = .ok (.iconst 1, 1) := by decide +kernel
theorem dX5_readAll_102 : decode cX5_readAll 102 = .ok (.ireturn, 1) := by decide +kernel
theorem dX6_awayValue_0 : decode cX6_awayValue 0 = .ok (.aload_n 0, 1) := by decide +kernel
theorem dX6_awayValue_1 : decode cX6_awayValue 1 = .ok (.iload_n 1, 1) := by decide +kernel
theorem dX6_awayValue_2 : decode cX6_awayValue 2 = .ok (.iload_n 2, 1) := by decide +kernel
theorem dX6_awayValue_3 : decode cX6_awayValue 3 = .ok (.invokevirtual 118, 3) := by decide +kernel
theorem dX6_awayValue_6 : decode cX6_awayValue 6 = .ok (.aload_n 0, 1) := by decide +kernel
theorem dX6_awayValue_7 : decode cX6_awayValue 7 = .ok (.getfield 9, 3) := by decide +kernel
theorem dX6_awayValue_10 : decode cX6_awayValue 10 = .ok (.getfield 76, 3) := by decide +kernel
theorem dX6_awayValue_13 : decode cX6_awayValue 13 = .ok (.iconst 2, 1) := by decide +kernel
theorem dX6_awayValue_14 : decode cX6_awayValue 14 = .ok (.aaload, 1) := by decide +kernel
theorem dX6_awayValue_15 : decode cX6_awayValue 15 = .ok (.aload_n 0, 1) := by decide +kernel
theorem dX6_awayValue_16 : decode cX6_awayValue 16 = .ok (.getfield 25, 3) := by decide +kernel
theorem dX6_awayValue_19 : decode cX6_awayValue 19 = .ok (.aload_n 0, 1) := by decide +kernel
theorem dX6_awayValue_20 : decode cX6_awayValue 20 = .ok (.getfield 29, 3) := by decide +kernel
theorem dX6_awayValue_23 : decode cX6_awayValue 23 = .ok (.invokevirtual 80, 3) := by decide +kernel
theorem dX6_awayValue_26 : decode cX6_awayValue 26 = .ok (.lreturn, 1) := by decide +kernel
theorem dX6_hadOfSet_0 : decode cX6_hadOfSet 0 = .ok (.iconst 0, 1) := by decide +kernel
theorem dX6_hadOfSet_1 : decode cX6_hadOfSet 1 = .ok (.istore 4, 2) := by decide +kernel
theorem dX6_hadOfSet_3 : decode cX6_hadOfSet 3 = .ok (.iload 4, 2) := by decide +kernel
theorem dX6_hadOfSet_5 : decode cX6_hadOfSet 5 = .ok (.aload_n 0, 1) := by decide +kernel
theorem dX6_hadOfSet_6 : decode cX6_hadOfSet 6 = .ok (.getfield 9, 3) := by decide +kernel
theorem dX6_hadOfSet_9 : decode cX6_hadOfSet 9 = .ok (.getfield 57, 3) := by decide +kernel
theorem dX6_hadOfSet_12 : decode cX6_hadOfSet 12 = .ok (.getfield 61, 3) := by decide +kernel
theorem dX6_hadOfSet_15 : decode cX6_hadOfSet 15 = .ok (.if_icmp .ge 39, 3) := by decide +kernel
theorem dX6_hadOfSet_18 : decode cX6_hadOfSet 18 = .ok (.aload_n 0, 1) := by decide +kernel
theorem dX6_hadOfSet_19 : decode cX6_hadOfSet 19 = .ok (.getfield 9, 3) := by decide +kernel
theorem dX6_hadOfSet_22 : decode cX6_hadOfSet 22 = .ok (.getfield 57, 3) := by decide +kernel
theorem dX6_hadOfSet_25 : decode cX6_hadOfSet 25 = .ok (.getfield 159, 3) := by decide +kernel
theorem dX6_hadOfSet_28 : decode cX6_hadOfSet 28 = .ok (.iload 4, 2) := by decide +kernel
theorem dX6_hadOfSet_30 : decode cX6_hadOfSet 30 = .ok (.iaload, 1) := by decide +kernel
theorem dX6_hadOfSet_31 : decode cX6_hadOfSet 31 = .ok (.iload_n 3, 1) := by decide +kernel
theorem dX6_hadOfSet_32 : decode cX6_hadOfSet 32 = .ok (.if_icmp .ne 16, 3) := by decide +kernel
theorem dX6_hadOfSet_35 : decode cX6_hadOfSet 35 = .ok (.aload_n 1, 1) := by decide +kernel
theorem dX6_hadOfSet_36 : decode cX6_hadOfSet 36 = .ok (.getfield 166, 3) := by decide +kernel
theorem dX6_hadOfSet_39 : decode cX6_hadOfSet 39 = .ok (.iload 4, 2) := by decide +kernel
theorem dX6_hadOfSet_41 : decode cX6_hadOfSet 41 = .ok (.iaload, 1) := by decide +kernel
theorem dX6_hadOfSet_42 : decode cX6_hadOfSet 42 = .ok (.iload_n 2, 1) := by decide +kernel
theorem dX6_hadOfSet_43 : decode cX6_hadOfSet 43 = .ok (.if_icmp .ne 5, 3) := by decide +kernel
theorem dX6_hadOfSet_46 : decode cX6_hadOfSet 46 = .ok (.iconst 1, 1) := by decide +kernel
theorem dX6_hadOfSet_47 : decode cX6_hadOfSet 47 = .ok (.ireturn, 1) := by decide +kernel
theorem dX6_hadOfSet_48 : decode cX6_hadOfSet 48 = .ok (.iinc 4 1, 3) := by decide +kernel
theorem dX6_hadOfSet_51 : decode cX6_hadOfSet 51 = .ok (.goto (-48), 3) := by decide +kernel
theorem dX6_hadOfSet_54 : decode cX6_hadOfSet 54 = .ok (.iconst 0, 1) := by decide +kernel
theorem dX6_hadOfSet_55 : decode cX6_hadOfSet 55 = .ok (.ireturn, 1) := by decide +kernel
theorem dX6_keyFor_0 : decode cX6_keyFor 0 = .ok (.aload_n 0, 1) := by decide +kernel
theorem dX6_keyFor_1 : decode cX6_keyFor 1 = .ok (.aload_n 1, 1) := by decide +kernel
theorem dX6_keyFor_2 : decode cX6_keyFor 2 = .ok (.getfield 148, 3) := by decide +kernel
theorem dX6_keyFor_5 : decode cX6_keyFor 5 = .ok (.iload_n 2, 1) := by decide +kernel
theorem dX6_keyFor_6 : decode cX6_keyFor 6 = .ok (.iaload, 1) := by decide +kernel
theorem dX6_keyFor_7 : decode cX6_keyFor 7 = .ok (.iload_n 3, 1) := by decide +kernel
theorem dX6_keyFor_8 : decode cX6_keyFor 8 = .ok (.invokevirtual 132, 3) := by decide +kernel
theorem dX6_keyFor_11 : decode cX6_keyFor 11 = .ok (.istore 4, 2) := by decide +kernel
theorem dX6_keyFor_13 : decode cX6_keyFor 13 = .ok (.aload_n 1, 1) := by decide +kernel
theorem dX6_keyFor_14 : decode cX6_keyFor 14 = .ok (.getfield 153, 3) := by decide +kernel
theorem dX6_keyFor_17 : decode cX6_keyFor 17 = .ok (.tableswitch 81 1 3 #[27, 34, 66], 27) := by decide +kernel
theorem dX6_keyFor_44 : decode cX6_keyFor 44 = .ok (.aload_n 1, 1) := by decide +kernel
theorem dX6_keyFor_45 : decode cX6_keyFor 45 = .ok (.getfield 156, 3) := by decide +kernel
theorem dX6_keyFor_48 : decode cX6_keyFor 48 = .ok (.iload_n 2, 1) := by decide +kernel
theorem dX6_keyFor_49 : decode cX6_keyFor 49 = .ok (.iaload, 1) := by decide +kernel
theorem dX6_keyFor_50 : decode cX6_keyFor 50 = .ok (.ireturn, 1) := by decide +kernel
theorem dX6_keyFor_51 : decode cX6_keyFor 51 = .ok (.aload_n 0, 1) := by decide +kernel
theorem dX6_keyFor_52 : decode cX6_keyFor 52 = .ok (.aload_n 1, 1) := by decide +kernel
theorem dX6_keyFor_53 : decode cX6_keyFor 53 = .ok (.iload_n 2, 1) := by decide +kernel
theorem dX6_keyFor_54 : decode cX6_keyFor 54 = .ok (.aload_n 0, 1) := by decide +kernel
theorem dX6_keyFor_55 : decode cX6_keyFor 55 = .ok (.getfield 9, 3) := by decide +kernel
theorem dX6_keyFor_58 : decode cX6_keyFor 58 = .ok (.getfield 57, 3) := by decide +kernel
theorem dX6_keyFor_61 : decode cX6_keyFor 61 = .ok (.getfield 159, 3) := by decide +kernel
theorem dX6_keyFor_64 : decode cX6_keyFor 64 = .ok (.iload_n 3, 1) := by decide +kernel
theorem dX6_keyFor_65 : decode cX6_keyFor 65 = .ok (.iaload, 1) := by decide +kernel
theorem dX6_keyFor_66 : decode cX6_keyFor 66 = .ok (.invokevirtual 162, 3) := by decide +kernel
theorem dX6_keyFor_69 : decode cX6_keyFor 69 = .ok (.ifCond .eq 11, 3) := by decide +kernel
theorem dX6_keyFor_72 : decode cX6_keyFor 72 = .ok (.bipush 100, 2) := by decide +kernel
theorem dX6_keyFor_74 : decode cX6_keyFor 74 = .ok (.iload 4, 2) := by decide +kernel
theorem dX6_keyFor_76 : decode cX6_keyFor 76 = .ok (.iadd, 1) := by decide +kernel
theorem dX6_keyFor_77 : decode cX6_keyFor 77 = .ok (.goto 5, 3) := by decide +kernel
theorem dX6_keyFor_80 : decode cX6_keyFor 80 = .ok (.iload 4, 2) := by decide +kernel
theorem dX6_keyFor_82 : decode cX6_keyFor 82 = .ok (.ireturn, 1) := by decide +kernel
theorem dX6_keyFor_83 : decode cX6_keyFor 83 = .ok (.aload_n 0, 1) := by decide +kernel
theorem dX6_keyFor_84 : decode cX6_keyFor 84 = .ok (.getfield 9, 3) := by decide +kernel
theorem dX6_keyFor_87 : decode cX6_keyFor 87 = .ok (.aload_n 1, 1) := by decide +kernel
theorem dX6_keyFor_88 : decode cX6_keyFor 88 = .ok (.getfield 148, 3) := by decide +kernel
theorem dX6_keyFor_91 : decode cX6_keyFor 91 = .ok (.iload_n 2, 1) := by decide +kernel
theorem dX6_keyFor_92 : decode cX6_keyFor 92 = .ok (.iaload, 1) := by decide +kernel
theorem dX6_keyFor_93 : decode cX6_keyFor 93 = .ok (.invokevirtual 122, 3) := by decide +kernel
theorem dX6_keyFor_96 : decode cX6_keyFor 96 = .ok (.ineg, 1) := by decide +kernel
theorem dX6_keyFor_97 : decode cX6_keyFor 97 = .ok (.ireturn, 1) := by decide +kernel
theorem dX6_keyFor_98 : decode cX6_keyFor 98 = .ok (.iload 4, 2) := by decide +kernel
theorem dX6_keyFor_100 : decode cX6_keyFor 100 = .ok (.ireturn, 1) := by decide +kernel
theorem dX6_putInLine_0 : decode cX6_putInLine 0 = .ok (.iload_n 2, 1) := by decide +kernel
theorem dX6_putInLine_1 : decode cX6_putInLine 1 = .ok (.istore_n 3, 1) := by decide +kernel
theorem dX6_putInLine_2 : decode cX6_putInLine 2 = .ok (.iload_n 3, 1) := by decide +kernel
theorem dX6_putInLine_3 : decode cX6_putInLine 3 = .ok (.ifCond .le 45, 3) := by decide +kernel
theorem dX6_putInLine_6 : decode cX6_putInLine 6 = .ok (.aload_n 0, 1) := by decide +kernel
theorem dX6_putInLine_7 : decode cX6_putInLine 7 = .ok (.getfield 38, 3) := by decide +kernel
theorem dX6_putInLine_10 : decode cX6_putInLine 10 = .ok (.aload_n 0, 1) := by decide +kernel
theorem dX6_putInLine_11 : decode cX6_putInLine 11 = .ok (.getfield 32, 3) := by decide +kernel
theorem dX6_putInLine_14 : decode cX6_putInLine 14 = .ok (.iload_n 3, 1) := by decide +kernel
theorem dX6_putInLine_15 : decode cX6_putInLine 15 = .ok (.iconst 1, 1) := by decide +kernel
theorem dX6_putInLine_16 : decode cX6_putInLine 16 = .ok (.isub, 1) := by decide +kernel
theorem dX6_putInLine_17 : decode cX6_putInLine 17 = .ok (.iaload, 1) := by decide +kernel
theorem dX6_putInLine_18 : decode cX6_putInLine 18 = .ok (.iaload, 1) := by decide +kernel
theorem dX6_putInLine_19 : decode cX6_putInLine 19 = .ok (.aload_n 0, 1) := by decide +kernel
theorem dX6_putInLine_20 : decode cX6_putInLine 20 = .ok (.getfield 38, 3) := by decide +kernel
theorem dX6_putInLine_23 : decode cX6_putInLine 23 = .ok (.iload_n 1, 1) := by decide +kernel
theorem dX6_putInLine_24 : decode cX6_putInLine 24 = .ok (.iaload, 1) := by decide +kernel
theorem dX6_putInLine_25 : decode cX6_putInLine 25 = .ok (.if_icmp .le 23, 3) := by decide +kernel
theorem dX6_putInLine_28 : decode cX6_putInLine 28 = .ok (.aload_n 0, 1) := by decide +kernel
theorem dX6_putInLine_29 : decode cX6_putInLine 29 = .ok (.getfield 32, 3) := by decide +kernel
theorem dX6_putInLine_32 : decode cX6_putInLine 32 = .ok (.iload_n 3, 1) := by decide +kernel
theorem dX6_putInLine_33 : decode cX6_putInLine 33 = .ok (.aload_n 0, 1) := by decide +kernel
theorem dX6_putInLine_34 : decode cX6_putInLine 34 = .ok (.getfield 32, 3) := by decide +kernel
theorem dX6_putInLine_37 : decode cX6_putInLine 37 = .ok (.iload_n 3, 1) := by decide +kernel
theorem dX6_putInLine_38 : decode cX6_putInLine 38 = .ok (.iconst 1, 1) := by decide +kernel
theorem dX6_putInLine_39 : decode cX6_putInLine 39 = .ok (.isub, 1) := by decide +kernel
theorem dX6_putInLine_40 : decode cX6_putInLine 40 = .ok (.iaload, 1) := by decide +kernel
theorem dX6_putInLine_41 : decode cX6_putInLine 41 = .ok (.iastore, 1) := by decide +kernel
theorem dX6_putInLine_42 : decode cX6_putInLine 42 = .ok (.iinc 3 (-1), 3) := by decide +kernel
theorem dX6_putInLine_45 : decode cX6_putInLine 45 = .ok (.goto (-43), 3) := by decide +kernel
theorem dX6_putInLine_48 : decode cX6_putInLine 48 = .ok (.aload_n 0, 1) := by decide +kernel
theorem dX6_putInLine_49 : decode cX6_putInLine 49 = .ok (.getfield 32, 3) := by decide +kernel
theorem dX6_putInLine_52 : decode cX6_putInLine 52 = .ok (.iload_n 3, 1) := by decide +kernel
theorem dX6_putInLine_53 : decode cX6_putInLine 53 = .ok (.iload_n 1, 1) := by decide +kernel
theorem dX6_putInLine_54 : decode cX6_putInLine 54 = .ok (.iastore, 1) := by decide +kernel
theorem dX6_putInLine_55 : decode cX6_putInLine 55 = .ok (.return_, 1) := by decide +kernel
theorem dX6_lineUp_0 : decode cX6_lineUp 0 = .ok (.iconst 0, 1) := by decide +kernel
theorem dX6_lineUp_1 : decode cX6_lineUp 1 = .ok (.istore 4, 2) := by decide +kernel
theorem dX6_lineUp_3 : decode cX6_lineUp 3 = .ok (.iconst 0, 1) := by decide +kernel
theorem dX6_lineUp_4 : decode cX6_lineUp 4 = .ok (.istore 5, 2) := by decide +kernel
theorem dX6_lineUp_6 : decode cX6_lineUp 6 = .ok (.iload 5, 2) := by decide +kernel
theorem dX6_lineUp_8 : decode cX6_lineUp 8 = .ok (.aload_n 0, 1) := by decide +kernel
theorem dX6_lineUp_9 : decode cX6_lineUp 9 = .ok (.getfield 9, 3) := by decide +kernel
theorem dX6_lineUp_12 : decode cX6_lineUp 12 = .ok (.getfield 41, 3) := by decide +kernel
theorem dX6_lineUp_15 : decode cX6_lineUp 15 = .ok (.getfield 169, 3) := by decide +kernel
theorem dX6_lineUp_18 : decode cX6_lineUp 18 = .ok (.if_icmp .ge 76, 3) := by decide +kernel
theorem dX6_lineUp_21 : decode cX6_lineUp 21 = .ok (.aload_n 1, 1) := by decide +kernel
theorem dX6_lineUp_22 : decode cX6_lineUp 22 = .ok (.iload 5, 2) := by decide +kernel
theorem dX6_lineUp_24 : decode cX6_lineUp 24 = .ok (.iload_n 3, 1) := by decide +kernel
theorem dX6_lineUp_25 : decode cX6_lineUp 25 = .ok (.invokevirtual 171, 3) := by decide +kernel
theorem dX6_lineUp_28 : decode cX6_lineUp 28 = .ok (.ifCond .eq 60, 3) := by decide +kernel
theorem dX6_lineUp_31 : decode cX6_lineUp 31 = .ok (.aload_n 0, 1) := by decide +kernel
theorem dX6_lineUp_32 : decode cX6_lineUp 32 = .ok (.getfield 35, 3) := by decide +kernel
theorem dX6_lineUp_35 : decode cX6_lineUp 35 = .ok (.iload 5, 2) := by decide +kernel
theorem dX6_lineUp_37 : decode cX6_lineUp 37 = .ok (.aload_n 0, 1) := by decide +kernel
theorem dX6_lineUp_38 : decode cX6_lineUp 38 = .ok (.iload 5, 2) := by decide +kernel
theorem dX6_lineUp_40 : decode cX6_lineUp 40 = .ok (.iload_n 2, 1) := by decide +kernel
theorem dX6_lineUp_41 : decode cX6_lineUp 41 = .ok (.aload_n 1, 1) := by decide +kernel
theorem dX6_lineUp_42 : decode cX6_lineUp 42 = .ok (.getfield 148, 3) := by decide +kernel
theorem dX6_lineUp_45 : decode cX6_lineUp 45 = .ok (.iload 5, 2) := by decide +kernel
theorem dX6_lineUp_47 : decode cX6_lineUp 47 = .ok (.iaload, 1) := by decide +kernel
theorem dX6_lineUp_48 : decode cX6_lineUp 48 = .ok (.invokevirtual 141, 3) := by decide +kernel
theorem dX6_lineUp_51 : decode cX6_lineUp 51 = .ok (.iastore, 1) := by decide +kernel
theorem dX6_lineUp_52 : decode cX6_lineUp 52 = .ok (.aload_n 0, 1) := by decide +kernel
theorem dX6_lineUp_53 : decode cX6_lineUp 53 = .ok (.getfield 35, 3) := by decide +kernel
theorem dX6_lineUp_56 : decode cX6_lineUp 56 = .ok (.iload 5, 2) := by decide +kernel
theorem dX6_lineUp_58 : decode cX6_lineUp 58 = .ok (.iaload, 1) := by decide +kernel
theorem dX6_lineUp_59 : decode cX6_lineUp 59 = .ok (.ifCond .le 29, 3) := by decide +kernel
theorem dX6_lineUp_62 : decode cX6_lineUp 62 = .ok (.aload_n 0, 1) := by decide +kernel
theorem dX6_lineUp_63 : decode cX6_lineUp 63 = .ok (.getfield 38, 3) := by decide +kernel
theorem dX6_lineUp_66 : decode cX6_lineUp 66 = .ok (.iload 5, 2) := by decide +kernel
theorem dX6_lineUp_68 : decode cX6_lineUp 68 = .ok (.aload_n 0, 1) := by decide +kernel
theorem dX6_lineUp_69 : decode cX6_lineUp 69 = .ok (.aload_n 1, 1) := by decide +kernel
theorem dX6_lineUp_70 : decode cX6_lineUp 70 = .ok (.iload 5, 2) := by decide +kernel
theorem dX6_lineUp_72 : decode cX6_lineUp 72 = .ok (.iload_n 2, 1) := by decide +kernel
theorem dX6_lineUp_73 : decode cX6_lineUp 73 = .ok (.invokevirtual 175, 3) := by decide +kernel
theorem dX6_lineUp_76 : decode cX6_lineUp 76 = .ok (.iastore, 1) := by decide +kernel
theorem dX6_lineUp_77 : decode cX6_lineUp 77 = .ok (.aload_n 0, 1) := by decide +kernel
theorem dX6_lineUp_78 : decode cX6_lineUp 78 = .ok (.iload 5, 2) := by decide +kernel
theorem dX6_lineUp_80 : decode cX6_lineUp 80 = .ok (.iload 4, 2) := by decide +kernel
theorem dX6_lineUp_82 : decode cX6_lineUp 82 = .ok (.invokevirtual 179, 3) := by decide +kernel
theorem dX6_lineUp_85 : decode cX6_lineUp 85 = .ok (.iinc 4 1, 3) := by decide +kernel
theorem dX6_lineUp_88 : decode cX6_lineUp 88 = .ok (.iinc 5 1, 3) := by decide +kernel
theorem dX6_lineUp_91 : decode cX6_lineUp 91 = .ok (.goto (-85), 3) := by decide +kernel
theorem dX6_lineUp_94 : decode cX6_lineUp 94 = .ok (.iload 4, 2) := by decide +kernel
theorem dX6_lineUp_96 : decode cX6_lineUp 96 = .ok (.ireturn, 1) := by decide +kernel
theorem dX6_placeOfRider_0 : decode cX6_placeOfRider 0 = .ok (.iconst 0, 1) := by decide +kernel
theorem dX6_placeOfRider_1 : decode cX6_placeOfRider 1 = .ok (.istore_n 3, 1) := by decide +kernel
theorem dX6_placeOfRider_2 : decode cX6_placeOfRider 2 = .ok (.iload_n 3, 1) := by decide +kernel
theorem dX6_placeOfRider_3 : decode cX6_placeOfRider 3 = .ok (.iload_n 2, 1) := by decide +kernel
theorem dX6_placeOfRider_4 : decode cX6_placeOfRider 4 = .ok (.if_icmp .ge 29, 3) := by decide +kernel
theorem dX6_placeOfRider_7 : decode cX6_placeOfRider 7 = .ok (.aload_n 1, 1) := by decide +kernel
theorem dX6_placeOfRider_8 : decode cX6_placeOfRider 8 = .ok (.invokevirtual 205, 3) := by decide +kernel
theorem dX6_placeOfRider_11 : decode cX6_placeOfRider 11 = .ok (.aload_n 0, 1) := by decide +kernel
theorem dX6_placeOfRider_12 : decode cX6_placeOfRider 12 = .ok (.getfield 35, 3) := by decide +kernel
theorem dX6_placeOfRider_15 : decode cX6_placeOfRider 15 = .ok (.aload_n 0, 1) := by decide +kernel
theorem dX6_placeOfRider_16 : decode cX6_placeOfRider 16 = .ok (.getfield 32, 3) := by decide +kernel
theorem dX6_placeOfRider_19 : decode cX6_placeOfRider 19 = .ok (.iload_n 3, 1) := by decide +kernel
theorem dX6_placeOfRider_20 : decode cX6_placeOfRider 20 = .ok (.iaload, 1) := by decide +kernel
theorem dX6_placeOfRider_21 : decode cX6_placeOfRider 21 = .ok (.iaload, 1) := by decide +kernel
theorem dX6_placeOfRider_22 : decode cX6_placeOfRider 22 = .ok (.if_icmp .ge 5, 3) := by decide +kernel
theorem dX6_placeOfRider_25 : decode cX6_placeOfRider 25 = .ok (.iload_n 3, 1) := by decide +kernel
theorem dX6_placeOfRider_26 : decode cX6_placeOfRider 26 = .ok (.ireturn, 1) := by decide +kernel
theorem dX6_placeOfRider_27 : decode cX6_placeOfRider 27 = .ok (.iinc 3 1, 3) := by decide +kernel
theorem dX6_placeOfRider_30 : decode cX6_placeOfRider 30 = .ok (.goto (-28), 3) := by decide +kernel
theorem dX6_placeOfRider_33 : decode cX6_placeOfRider 33 = .ok (.iconst (-1), 1) := by decide +kernel
theorem dX6_placeOfRider_34 : decode cX6_placeOfRider 34 = .ok (.ireturn, 1) := by decide +kernel
theorem dX6_crosserBehind_0 : decode cX6_crosserBehind 0 = .ok (.iload_n 2, 1) := by decide +kernel
theorem dX6_crosserBehind_1 : decode cX6_crosserBehind 1 = .ok (.iconst 1, 1) := by decide +kernel
theorem dX6_crosserBehind_2 : decode cX6_crosserBehind 2 = .ok (.iadd, 1) := by decide +kernel
theorem dX6_crosserBehind_3 : decode cX6_crosserBehind 3 = .ok (.istore 4, 2) := by decide +kernel
theorem dX6_crosserBehind_5 : decode cX6_crosserBehind 5 = .ok (.iload 4, 2) := by decide +kernel
theorem dX6_crosserBehind_7 : decode cX6_crosserBehind 7 = .ok (.iload_n 3, 1) := by decide +kernel
theorem dX6_crosserBehind_8 : decode cX6_crosserBehind 8 = .ok (.if_icmp .ge 45, 3) := by decide +kernel
theorem dX6_crosserBehind_11 : decode cX6_crosserBehind 11 = .ok (.aload_n 0, 1) := by decide +kernel
theorem dX6_crosserBehind_12 : decode cX6_crosserBehind 12 = .ok (.getfield 19, 3) := by decide +kernel
theorem dX6_crosserBehind_15 : decode cX6_crosserBehind 15 = .ok (.aload_n 0, 1) := by decide +kernel
theorem dX6_crosserBehind_16 : decode cX6_crosserBehind 16 = .ok (.getfield 32, 3) := by decide +kernel
theorem dX6_crosserBehind_19 : decode cX6_crosserBehind 19 = .ok (.iload 4, 2) := by decide +kernel
theorem dX6_crosserBehind_21 : decode cX6_crosserBehind 21 = .ok (.iaload, 1) := by decide +kernel
theorem dX6_crosserBehind_22 : decode cX6_crosserBehind 22 = .ok (.iaload, 1) := by decide +kernel
theorem dX6_crosserBehind_23 : decode cX6_crosserBehind 23 = .ok (.istore 5, 2) := by decide +kernel
theorem dX6_crosserBehind_25 : decode cX6_crosserBehind 25 = .ok (.iload 5, 2) := by decide +kernel
theorem dX6_crosserBehind_27 : decode cX6_crosserBehind 27 = .ok (.ifCond .le 20, 3) := by decide +kernel
theorem dX6_crosserBehind_30 : decode cX6_crosserBehind 30 = .ok (.aload_n 1, 1) := by decide +kernel
theorem dX6_crosserBehind_31 : decode cX6_crosserBehind 31 = .ok (.invokevirtual 205, 3) := by decide +kernel
theorem dX6_crosserBehind_34 : decode cX6_crosserBehind 34 = .ok (.iload 5, 2) := by decide +kernel
theorem dX6_crosserBehind_36 : decode cX6_crosserBehind 36 = .ok (.if_icmp .ge 11, 3) := by decide +kernel
theorem dX6_crosserBehind_39 : decode cX6_crosserBehind 39 = .ok (.aload_n 0, 1) := by decide +kernel
theorem dX6_crosserBehind_40 : decode cX6_crosserBehind 40 = .ok (.getfield 32, 3) := by decide +kernel
theorem dX6_crosserBehind_43 : decode cX6_crosserBehind 43 = .ok (.iload 4, 2) := by decide +kernel
theorem dX6_crosserBehind_45 : decode cX6_crosserBehind 45 = .ok (.iaload, 1) := by decide +kernel
theorem dX6_crosserBehind_46 : decode cX6_crosserBehind 46 = .ok (.ireturn, 1) := by decide +kernel
theorem dX6_crosserBehind_47 : decode cX6_crosserBehind 47 = .ok (.iinc 4 1, 3) := by decide +kernel
theorem dX6_crosserBehind_50 : decode cX6_crosserBehind 50 = .ok (.goto (-45), 3) := by decide +kernel
theorem dX6_crosserBehind_53 : decode cX6_crosserBehind 53 = .ok (.iconst (-1), 1) := by decide +kernel
theorem dX6_crosserBehind_54 : decode cX6_crosserBehind 54 = .ok (.ireturn, 1) := by decide +kernel
theorem dX6_sendAway_0 : decode cX6_sendAway 0 = .ok (.aload_n 1, 1) := by decide +kernel
theorem dX6_sendAway_1 : decode cX6_sendAway 1 = .ok (.getfield 209, 3) := by decide +kernel
theorem dX6_sendAway_4 : decode cX6_sendAway 4 = .ok (.iload_n 2, 1) := by decide +kernel
theorem dX6_sendAway_5 : decode cX6_sendAway 5 = .ok (.aload_n 0, 1) := by decide +kernel
theorem dX6_sendAway_6 : decode cX6_sendAway 6 = .ok (.getfield 9, 3) := by decide +kernel
theorem dX6_sendAway_9 : decode cX6_sendAway 9 = .ok (.getfield 57, 3) := by decide +kernel
theorem dX6_sendAway_12 : decode cX6_sendAway 12 = .ok (.getfield 67, 3) := by decide +kernel
theorem dX6_sendAway_15 : decode cX6_sendAway 15 = .ok (.iload_n 3, 1) := by decide +kernel
theorem dX6_sendAway_16 : decode cX6_sendAway 16 = .ok (.iaload, 1) := by decide +kernel
theorem dX6_sendAway_17 : decode cX6_sendAway 17 = .ok (.iload 4, 2) := by decide +kernel
theorem dX6_sendAway_19 : decode cX6_sendAway 19 = .ok (.aload_n 0, 1) := by decide +kernel
theorem dX6_sendAway_20 : decode cX6_sendAway 20 = .ok (.iload_n 2, 1) := by decide +kernel
theorem dX6_sendAway_21 : decode cX6_sendAway 21 = .ok (.iload_n 3, 1) := by decide +kernel
theorem dX6_sendAway_22 : decode cX6_sendAway 22 = .ok (.invokevirtual 212, 3) := by decide +kernel
theorem dX6_sendAway_25 : decode cX6_sendAway 25 = .ok (.imul, 1) := by decide +kernel
theorem dX6_sendAway_26 : decode cX6_sendAway 26 = .ok (.iadd, 1) := by decide +kernel
theorem dX6_sendAway_27 : decode cX6_sendAway 27 = .ok (.iastore, 1) := by decide +kernel
theorem dX6_sendAway_28 : decode cX6_sendAway 28 = .ok (.return_, 1) := by decide +kernel
theorem dX6_bringWave_0 : decode cX6_bringWave 0 = .ok (.aload_n 0, 1) := by decide +kernel
theorem dX6_bringWave_1 : decode cX6_bringWave 1 = .ok (.aload_n 1, 1) := by decide +kernel
theorem dX6_bringWave_2 : decode cX6_bringWave 2 = .ok (.iload_n 2, 1) := by decide +kernel
theorem dX6_bringWave_3 : decode cX6_bringWave 3 = .ok (.aload_n 0, 1) := by decide +kernel
theorem dX6_bringWave_4 : decode cX6_bringWave 4 = .ok (.getfield 9, 3) := by decide +kernel
theorem dX6_bringWave_7 : decode cX6_bringWave 7 = .ok (.getfield 57, 3) := by decide +kernel
theorem dX6_bringWave_10 : decode cX6_bringWave 10 = .ok (.getfield 67, 3) := by decide +kernel
theorem dX6_bringWave_13 : decode cX6_bringWave 13 = .ok (.iload_n 2, 1) := by decide +kernel
theorem dX6_bringWave_14 : decode cX6_bringWave 14 = .ok (.iaload, 1) := by decide +kernel
theorem dX6_bringWave_15 : decode cX6_bringWave 15 = .ok (.invokevirtual 182, 3) := by decide +kernel
theorem dX6_bringWave_18 : decode cX6_bringWave 18 = .ok (.istore_n 3, 1) := by decide +kernel
theorem dX6_bringWave_19 : decode cX6_bringWave 19 = .ok (.aload_n 0, 1) := by decide +kernel
theorem dX6_bringWave_20 : decode cX6_bringWave 20 = .ok (.aload_n 1, 1) := by decide +kernel
theorem dX6_bringWave_21 : decode cX6_bringWave 21 = .ok (.iload_n 3, 1) := by decide +kernel
theorem dX6_bringWave_22 : decode cX6_bringWave 22 = .ok (.invokevirtual 185, 3) := by decide +kernel
theorem dX6_bringWave_25 : decode cX6_bringWave 25 = .ok (.istore 4, 2) := by decide +kernel
theorem dX6_bringWave_27 : decode cX6_bringWave 27 = .ok (.iload 4, 2) := by decide +kernel
theorem dX6_bringWave_29 : decode cX6_bringWave 29 = .ok (.iconst (-1), 1) := by decide +kernel
theorem dX6_bringWave_30 : decode cX6_bringWave 30 = .ok (.if_icmp .ne 21, 3) := by decide +kernel
theorem dX6_bringWave_33 : decode cX6_bringWave 33 = .ok (.aload_n 1, 1) := by decide +kernel
theorem dX6_bringWave_34 : decode cX6_bringWave 34 = .ok (.getfield 166, 3) := by decide +kernel
theorem dX6_bringWave_37 : decode cX6_bringWave 37 = .ok (.iload_n 2, 1) := by decide +kernel
theorem dX6_bringWave_38 : decode cX6_bringWave 38 = .ok (.iconst (-1), 1) := by decide +kernel
theorem dX6_bringWave_39 : decode cX6_bringWave 39 = .ok (.iastore, 1) := by decide +kernel
theorem dX6_bringWave_40 : decode cX6_bringWave 40 = .ok (.aload_n 1, 1) := by decide +kernel
theorem dX6_bringWave_41 : decode cX6_bringWave 41 = .ok (.dup, 1) := by decide +kernel
theorem dX6_bringWave_42 : decode cX6_bringWave 42 = .ok (.getfield 189, 3) := by decide +kernel
theorem dX6_bringWave_45 : decode cX6_bringWave 45 = .ok (.iconst 1, 1) := by decide +kernel
theorem dX6_bringWave_46 : decode cX6_bringWave 46 = .ok (.iadd, 1) := by decide +kernel
theorem dX6_bringWave_47 : decode cX6_bringWave 47 = .ok (.putfield 189, 3) := by decide +kernel
theorem dX6_bringWave_50 : decode cX6_bringWave 50 = .ok (.return_, 1) := by decide +kernel
theorem dX6_bringWave_51 : decode cX6_bringWave 51 = .ok (.aload_n 0, 1) := by decide +kernel
theorem dX6_bringWave_52 : decode cX6_bringWave 52 = .ok (.getfield 32, 3) := by decide +kernel
theorem dX6_bringWave_55 : decode cX6_bringWave 55 = .ok (.iload 4, 2) := by decide +kernel
theorem dX6_bringWave_57 : decode cX6_bringWave 57 = .ok (.iaload, 1) := by decide +kernel
theorem dX6_bringWave_58 : decode cX6_bringWave 58 = .ok (.istore 5, 2) := by decide +kernel
theorem dX6_bringWave_60 : decode cX6_bringWave 60 = .ok (.aload_n 0, 1) := by decide +kernel
theorem dX6_bringWave_61 : decode cX6_bringWave 61 = .ok (.aload_n 1, 1) := by decide +kernel
theorem dX6_bringWave_62 : decode cX6_bringWave 62 = .ok (.iload 4, 2) := by decide +kernel
theorem dX6_bringWave_64 : decode cX6_bringWave 64 = .ok (.iload_n 3, 1) := by decide +kernel
theorem dX6_bringWave_65 : decode cX6_bringWave 65 = .ok (.invokevirtual 192, 3) := by decide +kernel
theorem dX6_bringWave_68 : decode cX6_bringWave 68 = .ok (.istore 6, 2) := by decide +kernel
theorem dX6_bringWave_70 : decode cX6_bringWave 70 = .ok (.iload 6, 2) := by decide +kernel
theorem dX6_bringWave_72 : decode cX6_bringWave 72 = .ok (.iconst (-1), 1) := by decide +kernel
theorem dX6_bringWave_73 : decode cX6_bringWave 73 = .ok (.if_icmp .ne 32, 3) := by decide +kernel
theorem dX6_bringWave_76 : decode cX6_bringWave 76 = .ok (.aload_n 1, 1) := by decide +kernel
theorem dX6_bringWave_77 : decode cX6_bringWave 77 = .ok (.getfield 166, 3) := by decide +kernel
theorem dX6_bringWave_80 : decode cX6_bringWave 80 = .ok (.iload_n 2, 1) := by decide +kernel
theorem dX6_bringWave_81 : decode cX6_bringWave 81 = .ok (.iload 5, 2) := by decide +kernel
theorem dX6_bringWave_83 : decode cX6_bringWave 83 = .ok (.iastore, 1) := by decide +kernel
theorem dX6_bringWave_84 : decode cX6_bringWave 84 = .ok (.aload_n 1, 1) := by decide +kernel
theorem dX6_bringWave_85 : decode cX6_bringWave 85 = .ok (.getfield 156, 3) := by decide +kernel
theorem dX6_bringWave_88 : decode cX6_bringWave 88 = .ok (.iload 5, 2) := by decide +kernel
theorem dX6_bringWave_90 : decode cX6_bringWave 90 = .ok (.dup2, 1) := by decide +kernel
theorem dX6_bringWave_91 : decode cX6_bringWave 91 = .ok (.iaload, 1) := by decide +kernel
theorem dX6_bringWave_92 : decode cX6_bringWave 92 = .ok (.iconst 1, 1) := by decide +kernel
theorem dX6_bringWave_93 : decode cX6_bringWave 93 = .ok (.iadd, 1) := by decide +kernel
theorem dX6_bringWave_94 : decode cX6_bringWave 94 = .ok (.iastore, 1) := by decide +kernel
theorem dX6_bringWave_95 : decode cX6_bringWave 95 = .ok (.aload_n 0, 1) := by decide +kernel
theorem dX6_bringWave_96 : decode cX6_bringWave 96 = .ok (.aload_n 1, 1) := by decide +kernel
theorem dX6_bringWave_97 : decode cX6_bringWave 97 = .ok (.iload 5, 2) := by decide +kernel
theorem dX6_bringWave_99 : decode cX6_bringWave 99 = .ok (.iload_n 2, 1) := by decide +kernel
theorem dX6_bringWave_100 : decode cX6_bringWave 100 = .ok (.iconst 1, 1) := by decide +kernel
theorem dX6_bringWave_101 : decode cX6_bringWave 101 = .ok (.invokevirtual 195, 3) := by decide +kernel
theorem dX6_bringWave_104 : decode cX6_bringWave 104 = .ok (.return_, 1) := by decide +kernel
theorem dX6_bringWave_105 : decode cX6_bringWave 105 = .ok (.aload_n 1, 1) := by decide +kernel
theorem dX6_bringWave_106 : decode cX6_bringWave 106 = .ok (.getfield 166, 3) := by decide +kernel
theorem dX6_bringWave_109 : decode cX6_bringWave 109 = .ok (.iload_n 2, 1) := by decide +kernel
theorem dX6_bringWave_110 : decode cX6_bringWave 110 = .ok (.bipush (-3), 2) := by decide +kernel
theorem dX6_bringWave_112 : decode cX6_bringWave 112 = .ok (.iastore, 1) := by decide +kernel
theorem dX6_bringWave_113 : decode cX6_bringWave 113 = .ok (.aload_n 1, 1) := by decide +kernel
theorem dX6_bringWave_114 : decode cX6_bringWave 114 = .ok (.dup, 1) := by decide +kernel
theorem dX6_bringWave_115 : decode cX6_bringWave 115 = .ok (.getfield 199, 3) := by decide +kernel
theorem dX6_bringWave_118 : decode cX6_bringWave 118 = .ok (.iconst 1, 1) := by decide +kernel
theorem dX6_bringWave_119 : decode cX6_bringWave 119 = .ok (.iadd, 1) := by decide +kernel
theorem dX6_bringWave_120 : decode cX6_bringWave 120 = .ok (.putfield 199, 3) := by decide +kernel
theorem dX6_bringWave_123 : decode cX6_bringWave 123 = .ok (.aload_n 1, 1) := by decide +kernel
theorem dX6_bringWave_124 : decode cX6_bringWave 124 = .ok (.getfield 202, 3) := by decide +kernel
theorem dX6_bringWave_127 : decode cX6_bringWave 127 = .ok (.iload 5, 2) := by decide +kernel
theorem dX6_bringWave_129 : decode cX6_bringWave 129 = .ok (.dup2, 1) := by decide +kernel
theorem dX6_bringWave_130 : decode cX6_bringWave 130 = .ok (.iaload, 1) := by decide +kernel
theorem dX6_bringWave_131 : decode cX6_bringWave 131 = .ok (.iconst 1, 1) := by decide +kernel
theorem dX6_bringWave_132 : decode cX6_bringWave 132 = .ok (.iadd, 1) := by decide +kernel
theorem dX6_bringWave_133 : decode cX6_bringWave 133 = .ok (.iastore, 1) := by decide +kernel
theorem dX6_bringWave_134 : decode cX6_bringWave 134 = .ok (.aload_n 1, 1) := by decide +kernel
theorem dX6_bringWave_135 : decode cX6_bringWave 135 = .ok (.getfield 202, 3) := by decide +kernel
theorem dX6_bringWave_138 : decode cX6_bringWave 138 = .ok (.iload 6, 2) := by decide +kernel
theorem dX6_bringWave_140 : decode cX6_bringWave 140 = .ok (.dup2, 1) := by decide +kernel
theorem dX6_bringWave_141 : decode cX6_bringWave 141 = .ok (.iaload, 1) := by decide +kernel
theorem dX6_bringWave_142 : decode cX6_bringWave 142 = .ok (.iconst 1, 1) := by decide +kernel
theorem dX6_bringWave_143 : decode cX6_bringWave 143 = .ok (.iadd, 1) := by decide +kernel
theorem dX6_bringWave_144 : decode cX6_bringWave 144 = .ok (.iastore, 1) := by decide +kernel
theorem dX6_bringWave_145 : decode cX6_bringWave 145 = .ok (.aload_n 0, 1) := by decide +kernel
theorem dX6_bringWave_146 : decode cX6_bringWave 146 = .ok (.aload_n 1, 1) := by decide +kernel
theorem dX6_bringWave_147 : decode cX6_bringWave 147 = .ok (.iload 5, 2) := by decide +kernel
theorem dX6_bringWave_149 : decode cX6_bringWave 149 = .ok (.iload_n 2, 1) := by decide +kernel
theorem dX6_bringWave_150 : decode cX6_bringWave 150 = .ok (.iconst 2, 1) := by decide +kernel
theorem dX6_bringWave_151 : decode cX6_bringWave 151 = .ok (.invokevirtual 195, 3) := by decide +kernel
theorem dX6_bringWave_154 : decode cX6_bringWave 154 = .ok (.aload_n 0, 1) := by decide +kernel
theorem dX6_bringWave_155 : decode cX6_bringWave 155 = .ok (.aload_n 1, 1) := by decide +kernel
theorem dX6_bringWave_156 : decode cX6_bringWave 156 = .ok (.iload 6, 2) := by decide +kernel
theorem dX6_bringWave_158 : decode cX6_bringWave 158 = .ok (.iload_n 2, 1) := by decide +kernel
theorem dX6_bringWave_159 : decode cX6_bringWave 159 = .ok (.iconst 2, 1) := by decide +kernel
theorem dX6_bringWave_160 : decode cX6_bringWave 160 = .ok (.invokevirtual 195, 3) := by decide +kernel
theorem dX6_bringWave_163 : decode cX6_bringWave 163 = .ok (.return_, 1) := by decide +kernel
theorem dX6_catchValue_0 : decode cX6_catchValue 0 = .ok (.aload_n 0, 1) := by decide +kernel
theorem dX6_catchValue_1 : decode cX6_catchValue 1 = .ok (.iload_n 1, 1) := by decide +kernel
theorem dX6_catchValue_2 : decode cX6_catchValue 2 = .ok (.iload_n 2, 1) := by decide +kernel
theorem dX6_catchValue_3 : decode cX6_catchValue 3 = .ok (.iload_n 3, 1) := by decide +kernel
theorem dX6_catchValue_4 : decode cX6_catchValue 4 = .ok (.invokevirtual 128, 3) := by decide +kernel
theorem dX6_catchValue_7 : decode cX6_catchValue 7 = .ok (.aload_n 0, 1) := by decide +kernel
theorem dX6_catchValue_8 : decode cX6_catchValue 8 = .ok (.getfield 9, 3) := by decide +kernel
theorem dX6_catchValue_11 : decode cX6_catchValue 11 = .ok (.getfield 76, 3) := by decide +kernel
theorem dX6_catchValue_14 : decode cX6_catchValue 14 = .ok (.iconst 0, 1) := by decide +kernel
theorem dX6_catchValue_15 : decode cX6_catchValue 15 = .ok (.aaload, 1) := by decide +kernel
theorem dX6_catchValue_16 : decode cX6_catchValue 16 = .ok (.aload_n 0, 1) := by decide +kernel
theorem dX6_catchValue_17 : decode cX6_catchValue 17 = .ok (.getfield 25, 3) := by decide +kernel
theorem dX6_catchValue_20 : decode cX6_catchValue 20 = .ok (.aload_n 0, 1) := by decide +kernel
theorem dX6_catchValue_21 : decode cX6_catchValue 21 = .ok (.getfield 29, 3) := by decide +kernel
theorem dX6_catchValue_24 : decode cX6_catchValue 24 = .ok (.invokevirtual 80, 3) := by decide +kernel
theorem dX6_catchValue_27 : decode cX6_catchValue 27 = .ok (.lreturn, 1) := by decide +kernel
theorem dX6_crossingOdds_0 : decode cX6_crossingOdds 0 = .ok (.aload_n 0, 1) := by decide +kernel
theorem dX6_crossingOdds_1 : decode cX6_crossingOdds 1 = .ok (.aload_n 1, 1) := by decide +kernel
theorem dX6_crossingOdds_2 : decode cX6_crossingOdds 2 = .ok (.iload_n 3, 1) := by decide +kernel
theorem dX6_crossingOdds_3 : decode cX6_crossingOdds 3 = .ok (.aload_n 1, 1) := by decide +kernel
theorem dX6_crossingOdds_4 : decode cX6_crossingOdds 4 = .ok (.getfield 215, 3) := by decide +kernel
theorem dX6_crossingOdds_7 : decode cX6_crossingOdds 7 = .ok (.invokevirtual 182, 3) := by decide +kernel
theorem dX6_crossingOdds_10 : decode cX6_crossingOdds 10 = .ok (.istore 4, 2) := by decide +kernel
theorem dX6_crossingOdds_12 : decode cX6_crossingOdds 12 = .ok (.aload_n 0, 1) := by decide +kernel
theorem dX6_crossingOdds_13 : decode cX6_crossingOdds 13 = .ok (.aload_n 1, 1) := by decide +kernel
theorem dX6_crossingOdds_14 : decode cX6_crossingOdds 14 = .ok (.iload_n 2, 1) := by decide +kernel
theorem dX6_crossingOdds_15 : decode cX6_crossingOdds 15 = .ok (.iload_n 3, 1) := by decide +kernel
theorem dX6_crossingOdds_16 : decode cX6_crossingOdds 16 = .ok (.invokevirtual 175, 3) := by decide +kernel
theorem dX6_crossingOdds_19 : decode cX6_crossingOdds 19 = .ok (.istore 5, 2) := by decide +kernel
theorem dX6_crossingOdds_21 : decode cX6_crossingOdds 21 = .ok (.bipush 100, 2) := by decide +kernel
theorem dX6_crossingOdds_23 : decode cX6_crossingOdds 23 = .ok (.istore 6, 2) := by decide +kernel
theorem dX6_crossingOdds_25 : decode cX6_crossingOdds 25 = .ok (.iconst 0, 1) := by decide +kernel
theorem dX6_crossingOdds_26 : decode cX6_crossingOdds 26 = .ok (.istore 7, 2) := by decide +kernel
theorem dX6_crossingOdds_28 : decode cX6_crossingOdds 28 = .ok (.iload 7, 2) := by decide +kernel
theorem dX6_crossingOdds_30 : decode cX6_crossingOdds 30 = .ok (.iload 4, 2) := by decide +kernel
theorem dX6_crossingOdds_32 : decode cX6_crossingOdds 32 = .ok (.if_icmp .ge 66, 3) := by decide +kernel
theorem dX6_crossingOdds_35 : decode cX6_crossingOdds 35 = .ok (.aload_n 0, 1) := by decide +kernel
theorem dX6_crossingOdds_36 : decode cX6_crossingOdds 36 = .ok (.getfield 32, 3) := by decide +kernel
theorem dX6_crossingOdds_39 : decode cX6_crossingOdds 39 = .ok (.iload 7, 2) := by decide +kernel
theorem dX6_crossingOdds_41 : decode cX6_crossingOdds 41 = .ok (.iaload, 1) := by decide +kernel
theorem dX6_crossingOdds_42 : decode cX6_crossingOdds 42 = .ok (.istore 8, 2) := by decide +kernel
theorem dX6_crossingOdds_44 : decode cX6_crossingOdds 44 = .ok (.aload_n 0, 1) := by decide +kernel
theorem dX6_crossingOdds_45 : decode cX6_crossingOdds 45 = .ok (.getfield 38, 3) := by decide +kernel
theorem dX6_crossingOdds_48 : decode cX6_crossingOdds 48 = .ok (.iload 8, 2) := by decide +kernel
theorem dX6_crossingOdds_50 : decode cX6_crossingOdds 50 = .ok (.iaload, 1) := by decide +kernel
theorem dX6_crossingOdds_51 : decode cX6_crossingOdds 51 = .ok (.iload 5, 2) := by decide +kernel
theorem dX6_crossingOdds_53 : decode cX6_crossingOdds 53 = .ok (.if_icmp .gt 21, 3) := by decide +kernel
theorem dX6_crossingOdds_56 : decode cX6_crossingOdds 56 = .ok (.aload_n 0, 1) := by decide +kernel
theorem dX6_crossingOdds_57 : decode cX6_crossingOdds 57 = .ok (.getfield 38, 3) := by decide +kernel
theorem dX6_crossingOdds_60 : decode cX6_crossingOdds 60 = .ok (.iload 8, 2) := by decide +kernel
theorem dX6_crossingOdds_62 : decode cX6_crossingOdds 62 = .ok (.iaload, 1) := by decide +kernel
theorem dX6_crossingOdds_63 : decode cX6_crossingOdds 63 = .ok (.iload 5, 2) := by decide +kernel
theorem dX6_crossingOdds_65 : decode cX6_crossingOdds 65 = .ok (.if_icmp .ne 27, 3) := by decide +kernel
theorem dX6_crossingOdds_68 : decode cX6_crossingOdds 68 = .ok (.iload 8, 2) := by decide +kernel
theorem dX6_crossingOdds_70 : decode cX6_crossingOdds 70 = .ok (.iload_n 2, 1) := by decide +kernel
theorem dX6_crossingOdds_71 : decode cX6_crossingOdds 71 = .ok (.if_icmp .le 21, 3) := by decide +kernel
theorem dX6_crossingOdds_74 : decode cX6_crossingOdds 74 = .ok (.iload 6, 2) := by decide +kernel
theorem dX6_crossingOdds_76 : decode cX6_crossingOdds 76 = .ok (.bipush 100, 2) := by decide +kernel
theorem dX6_crossingOdds_78 : decode cX6_crossingOdds 78 = .ok (.aload_n 0, 1) := by decide +kernel
theorem dX6_crossingOdds_79 : decode cX6_crossingOdds 79 = .ok (.getfield 19, 3) := by decide +kernel
theorem dX6_crossingOdds_82 : decode cX6_crossingOdds 82 = .ok (.iload 8, 2) := by decide +kernel
theorem dX6_crossingOdds_84 : decode cX6_crossingOdds 84 = .ok (.iaload, 1) := by decide +kernel
theorem dX6_crossingOdds_85 : decode cX6_crossingOdds 85 = .ok (.isub, 1) := by decide +kernel
theorem dX6_crossingOdds_86 : decode cX6_crossingOdds 86 = .ok (.imul, 1) := by decide +kernel
theorem dX6_crossingOdds_87 : decode cX6_crossingOdds 87 = .ok (.bipush 100, 2) := by decide +kernel
theorem dX6_crossingOdds_89 : decode cX6_crossingOdds 89 = .ok (.idiv, 1) := by decide +kernel
theorem dX6_crossingOdds_90 : decode cX6_crossingOdds 90 = .ok (.istore 6, 2) := by decide +kernel
theorem dX6_crossingOdds_92 : decode cX6_crossingOdds 92 = .ok (.iinc 7 1, 3) := by decide +kernel
theorem dX6_crossingOdds_95 : decode cX6_crossingOdds 95 = .ok (.goto (-67), 3) := by decide +kernel
theorem dX6_crossingOdds_98 : decode cX6_crossingOdds 98 = .ok (.bipush 100, 2) := by decide +kernel
theorem dX6_crossingOdds_100 : decode cX6_crossingOdds 100 = .ok (.iload 6, 2) := by decide +kernel
theorem dX6_crossingOdds_102 : decode cX6_crossingOdds 102 = .ok (.isub, 1) := by decide +kernel
theorem dX6_crossingOdds_103 : decode cX6_crossingOdds 103 = .ok (.ireturn, 1) := by decide +kernel
theorem dX6_driftValue_0 : decode cX6_driftValue 0 = .ok (.iconst 0, 1) := by decide +kernel
theorem dX6_driftValue_1 : decode cX6_driftValue 1 = .ok (.istore_n 2, 1) := by decide +kernel
theorem dX6_driftValue_2 : decode cX6_driftValue 2 = .ok (.iload_n 2, 1) := by decide +kernel
theorem dX6_driftValue_3 : decode cX6_driftValue 3 = .ok (.bipush 6, 2) := by decide +kernel
theorem dX6_driftValue_5 : decode cX6_driftValue 5 = .ok (.if_icmp .ge 16, 3) := by decide +kernel
theorem dX6_driftValue_8 : decode cX6_driftValue 8 = .ok (.aload_n 0, 1) := by decide +kernel
theorem dX6_driftValue_9 : decode cX6_driftValue 9 = .ok (.getfield 25, 3) := by decide +kernel
theorem dX6_driftValue_12 : decode cX6_driftValue 12 = .ok (.iload_n 2, 1) := by decide +kernel
theorem dX6_driftValue_13 : decode cX6_driftValue 13 = .ok (.lconst 0, 1) := by decide +kernel
theorem dX6_driftValue_14 : decode cX6_driftValue 14 = .ok (.lastore, 1) := by decide +kernel
theorem dX6_driftValue_15 : decode cX6_driftValue 15 = .ok (.iinc 2 1, 3) := by decide +kernel
theorem dX6_driftValue_18 : decode cX6_driftValue 18 = .ok (.goto (-16), 3) := by decide +kernel
theorem dX6_driftValue_21 : decode cX6_driftValue 21 = .ok (.aload_n 0, 1) := by decide +kernel
theorem dX6_driftValue_22 : decode cX6_driftValue 22 = .ok (.getfield 25, 3) := by decide +kernel
theorem dX6_driftValue_25 : decode cX6_driftValue 25 = .ok (.iconst 4, 1) := by decide +kernel
theorem dX6_driftValue_26 : decode cX6_driftValue 26 = .ok (.iload_n 1, 1) := by decide +kernel
theorem dX6_driftValue_27 : decode cX6_driftValue 27 = .ok (.i2l, 1) := by decide +kernel
theorem dX6_driftValue_28 : decode cX6_driftValue 28 = .ok (.lastore, 1) := by decide +kernel
theorem dX6_driftValue_29 : decode cX6_driftValue 29 = .ok (.aload_n 0, 1) := by decide +kernel
theorem dX6_driftValue_30 : decode cX6_driftValue 30 = .ok (.getfield 9, 3) := by decide +kernel
theorem dX6_driftValue_33 : decode cX6_driftValue 33 = .ok (.getfield 76, 3) := by decide +kernel
theorem dX6_driftValue_36 : decode cX6_driftValue 36 = .ok (.iconst 1, 1) := by decide +kernel
theorem dX6_driftValue_37 : decode cX6_driftValue 37 = .ok (.aaload, 1) := by decide +kernel
theorem dX6_driftValue_38 : decode cX6_driftValue 38 = .ok (.aload_n 0, 1) := by decide +kernel
theorem dX6_driftValue_39 : decode cX6_driftValue 39 = .ok (.getfield 25, 3) := by decide +kernel
theorem dX6_driftValue_42 : decode cX6_driftValue 42 = .ok (.aload_n 0, 1) := by decide +kernel
theorem dX6_driftValue_43 : decode cX6_driftValue 43 = .ok (.getfield 29, 3) := by decide +kernel
theorem dX6_driftValue_46 : decode cX6_driftValue 46 = .ok (.invokevirtual 80, 3) := by decide +kernel
theorem dX6_driftValue_49 : decode cX6_driftValue 49 = .ok (.lreturn, 1) := by decide +kernel
