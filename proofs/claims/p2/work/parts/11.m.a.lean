theorem dX2_add_0 : decode cX2_add 0 = .ok (.aload_n 0, 1) := by decide +kernel
theorem dX2_add_1 : decode cX2_add 1 = .ok (.getfield 15, 3) := by decide +kernel
theorem dX2_add_4 : decode cX2_add 4 = .ok (.aload_n 0, 1) := by decide +kernel
theorem dX2_add_5 : decode cX2_add 5 = .ok (.getfield 9, 3) := by decide +kernel
theorem dX2_add_8 : decode cX2_add 8 = .ok (.arraylength, 1) := by decide +kernel
theorem dX2_add_9 : decode cX2_add 9 = .ok (.if_icmp .ge 23, 3) := by decide +kernel
theorem dX2_add_12 : decode cX2_add 12 = .ok (.aload_n 0, 1) := by decide +kernel
theorem dX2_add_13 : decode cX2_add 13 = .ok (.getfield 9, 3) := by decide +kernel
theorem dX2_add_16 : decode cX2_add 16 = .ok (.aload_n 0, 1) := by decide +kernel
theorem dX2_add_17 : decode cX2_add 17 = .ok (.getfield 15, 3) := by decide +kernel
theorem dX2_add_20 : decode cX2_add 20 = .ok (.iload_n 1, 1) := by decide +kernel
theorem dX2_add_21 : decode cX2_add 21 = .ok (.iastore, 1) := by decide +kernel
theorem dX2_add_22 : decode cX2_add 22 = .ok (.aload_n 0, 1) := by decide +kernel
theorem dX2_add_23 : decode cX2_add 23 = .ok (.dup, 1) := by decide +kernel
theorem dX2_add_24 : decode cX2_add 24 = .ok (.getfield 15, 3) := by decide +kernel
theorem dX2_add_27 : decode cX2_add 27 = .ok (.iconst 1, 1) := by decide +kernel
theorem dX2_add_28 : decode cX2_add 28 = .ok (.iadd, 1) := by decide +kernel
theorem dX2_add_29 : decode cX2_add 29 = .ok (.putfield 15, 3) := by decide +kernel
theorem dX2_add_32 : decode cX2_add 32 = .ok (.return_, 1) := by decide +kernel
theorem dX2_forget_0 : decode cX2_forget 0 = .ok (.aload_n 0, 1) := by decide +kernel
theorem dX2_forget_1 : decode cX2_forget 1 = .ok (.iconst 0, 1) := by decide +kernel
theorem dX2_forget_2 : decode cX2_forget 2 = .ok (.putfield 15, 3) := by decide +kernel
theorem dX2_forget_5 : decode cX2_forget 5 = .ok (.aload_n 0, 1) := by decide +kernel
theorem dX2_forget_6 : decode cX2_forget 6 = .ok (.iconst 0, 1) := by decide +kernel
theorem dX2_forget_7 : decode cX2_forget 7 = .ok (.putfield 19, 3) := by decide +kernel
theorem dX2_forget_10 : decode cX2_forget 10 = .ok (.return_, 1) := by decide +kernel
theorem dX3_addSeat_0 : decode cX3_addSeat 0 = .ok (.aload_n 0, 1) := by decide +kernel
theorem dX3_addSeat_1 : decode cX3_addSeat 1 = .ok (.getfield 32, 3) := by decide +kernel
theorem dX3_addSeat_4 : decode cX3_addSeat 4 = .ok (.bipush 24, 2) := by decide +kernel
theorem dX3_addSeat_6 : decode cX3_addSeat 6 = .ok (.if_icmp .lt 5, 3) := by decide +kernel
theorem dX3_addSeat_9 : decode cX3_addSeat 9 = .ok (.iconst (-1), 1) := by decide +kernel
theorem dX3_addSeat_10 : decode cX3_addSeat 10 = .ok (.ireturn, 1) := by decide +kernel
theorem dX3_addSeat_11 : decode cX3_addSeat 11 = .ok (.aload_n 0, 1) := by decide +kernel
theorem dX3_addSeat_12 : decode cX3_addSeat 12 = .ok (.getfield 15, 3) := by decide +kernel
theorem dX3_addSeat_15 : decode cX3_addSeat 15 = .ok (.aload_n 0, 1) := by decide +kernel
theorem dX3_addSeat_16 : decode cX3_addSeat 16 = .ok (.getfield 32, 3) := by decide +kernel
theorem dX3_addSeat_19 : decode cX3_addSeat 19 = .ok (.iload_n 1, 1) := by decide +kernel
theorem dX3_addSeat_20 : decode cX3_addSeat 20 = .ok (.iastore, 1) := by decide +kernel
theorem dX3_addSeat_21 : decode cX3_addSeat 21 = .ok (.aload_n 0, 1) := by decide +kernel
theorem dX3_addSeat_22 : decode cX3_addSeat 22 = .ok (.getfield 19, 3) := by decide +kernel
theorem dX3_addSeat_25 : decode cX3_addSeat 25 = .ok (.aload_n 0, 1) := by decide +kernel
theorem dX3_addSeat_26 : decode cX3_addSeat 26 = .ok (.getfield 32, 3) := by decide +kernel
theorem dX3_addSeat_29 : decode cX3_addSeat 29 = .ok (.iload_n 2, 1) := by decide +kernel
theorem dX3_addSeat_30 : decode cX3_addSeat 30 = .ok (.iastore, 1) := by decide +kernel
theorem dX3_addSeat_31 : decode cX3_addSeat 31 = .ok (.aload_n 0, 1) := by decide +kernel
theorem dX3_addSeat_32 : decode cX3_addSeat 32 = .ok (.getfield 22, 3) := by decide +kernel
theorem dX3_addSeat_35 : decode cX3_addSeat 35 = .ok (.aload_n 0, 1) := by decide +kernel
theorem dX3_addSeat_36 : decode cX3_addSeat 36 = .ok (.getfield 32, 3) := by decide +kernel
theorem dX3_addSeat_39 : decode cX3_addSeat 39 = .ok (.iload_n 3, 1) := by decide +kernel
theorem dX3_addSeat_40 : decode cX3_addSeat 40 = .ok (.iastore, 1) := by decide +kernel
theorem dX3_addSeat_41 : decode cX3_addSeat 41 = .ok (.aload_n 0, 1) := by decide +kernel
theorem dX3_addSeat_42 : decode cX3_addSeat 42 = .ok (.getfield 25, 3) := by decide +kernel
theorem dX3_addSeat_45 : decode cX3_addSeat 45 = .ok (.aload_n 0, 1) := by decide +kernel
theorem dX3_addSeat_46 : decode cX3_addSeat 46 = .ok (.getfield 32, 3) := by decide +kernel
theorem dX3_addSeat_49 : decode cX3_addSeat 49 = .ok (.iconst (-1), 1) := by decide +kernel
theorem dX3_addSeat_50 : decode cX3_addSeat 50 = .ok (.iastore, 1) := by decide +kernel
theorem dX3_addSeat_51 : decode cX3_addSeat 51 = .ok (.aload_n 0, 1) := by decide +kernel
theorem dX3_addSeat_52 : decode cX3_addSeat 52 = .ok (.dup, 1) := by decide +kernel
theorem dX3_addSeat_53 : decode cX3_addSeat 53 = .ok (.getfield 32, 3) := by decide +kernel
theorem dX3_addSeat_56 : decode cX3_addSeat 56 = .ok (.iconst 1, 1) := by decide +kernel
theorem dX3_addSeat_57 : decode cX3_addSeat 57 = .ok (.iadd, 1) := by decide +kernel
theorem dX3_addSeat_58 : decode cX3_addSeat 58 = .ok (.putfield 32, 3) := by decide +kernel
theorem dX3_addSeat_61 : decode cX3_addSeat 61 = .ok (.aload_n 0, 1) := by decide +kernel
theorem dX3_addSeat_62 : decode cX3_addSeat 62 = .ok (.getfield 32, 3) := by decide +kernel
theorem dX3_addSeat_65 : decode cX3_addSeat 65 = .ok (.iconst 1, 1) := by decide +kernel
theorem dX3_addSeat_66 : decode cX3_addSeat 66 = .ok (.isub, 1) := by decide +kernel
theorem dX3_addSeat_67 : decode cX3_addSeat 67 = .ok (.ireturn, 1) := by decide +kernel
theorem dX3_addStrike_0 : decode cX3_addStrike 0 = .ok (.aload_n 0, 1) := by decide +kernel
theorem dX3_addStrike_1 : decode cX3_addStrike 1 = .ok (.getfield 32, 3) := by decide +kernel
theorem dX3_addStrike_4 : decode cX3_addStrike 4 = .ok (.bipush 24, 2) := by decide +kernel
theorem dX3_addStrike_6 : decode cX3_addStrike 6 = .ok (.if_icmp .lt 5, 3) := by decide +kernel
theorem dX3_addStrike_9 : decode cX3_addStrike 9 = .ok (.iconst (-1), 1) := by decide +kernel
theorem dX3_addStrike_10 : decode cX3_addStrike 10 = .ok (.ireturn, 1) := by decide +kernel
theorem dX3_addStrike_11 : decode cX3_addStrike 11 = .ok (.aload_n 0, 1) := by decide +kernel
theorem dX3_addStrike_12 : decode cX3_addStrike 12 = .ok (.getfield 19, 3) := by decide +kernel
theorem dX3_addStrike_15 : decode cX3_addStrike 15 = .ok (.aload_n 0, 1) := by decide +kernel
theorem dX3_addStrike_16 : decode cX3_addStrike 16 = .ok (.getfield 32, 3) := by decide +kernel
theorem dX3_addStrike_19 : decode cX3_addStrike 19 = .ok (.iconst (-1), 1) := by decide +kernel
theorem dX3_addStrike_20 : decode cX3_addStrike 20 = .ok (.iastore, 1) := by decide +kernel
theorem dX3_addStrike_21 : decode cX3_addStrike 21 = .ok (.aload_n 0, 1) := by decide +kernel
theorem dX3_addStrike_22 : decode cX3_addStrike 22 = .ok (.getfield 25, 3) := by decide +kernel
theorem dX3_addStrike_25 : decode cX3_addStrike 25 = .ok (.aload_n 0, 1) := by decide +kernel
theorem dX3_addStrike_26 : decode cX3_addStrike 26 = .ok (.getfield 32, 3) := by decide +kernel
theorem dX3_addStrike_29 : decode cX3_addStrike 29 = .ok (.iload_n 1, 1) := by decide +kernel
theorem dX3_addStrike_30 : decode cX3_addStrike 30 = .ok (.iastore, 1) := by decide +kernel
theorem dX3_addStrike_31 : decode cX3_addStrike 31 = .ok (.aload_n 0, 1) := by decide +kernel
theorem dX3_addStrike_32 : decode cX3_addStrike 32 = .ok (.dup, 1) := by decide +kernel
theorem dX3_addStrike_33 : decode cX3_addStrike 33 = .ok (.getfield 32, 3) := by decide +kernel
theorem dX3_addStrike_36 : decode cX3_addStrike 36 = .ok (.iconst 1, 1) := by decide +kernel
theorem dX3_addStrike_37 : decode cX3_addStrike 37 = .ok (.iadd, 1) := by decide +kernel
theorem dX3_addStrike_38 : decode cX3_addStrike 38 = .ok (.putfield 32, 3) := by decide +kernel
theorem dX3_addStrike_41 : decode cX3_addStrike 41 = .ok (.aload_n 0, 1) := by decide +kernel
theorem dX3_addStrike_42 : decode cX3_addStrike 42 = .ok (.getfield 32, 3) := by decide +kernel
theorem dX3_addStrike_45 : decode cX3_addStrike 45 = .ok (.iconst 1, 1) := by decide +kernel
theorem dX3_addStrike_46 : decode cX3_addStrike 46 = .ok (.isub, 1) := by decide +kernel
theorem dX3_addStrike_47 : decode cX3_addStrike 47 = .ok (.ireturn, 1) := by decide +kernel
theorem dX3_howManyKnown_0 : decode cX3_howManyKnown 0 = .ok (.aload_n 0, 1) := by decide +kernel
theorem dX3_howManyKnown_1 : decode cX3_howManyKnown 1 = .ok (.getfield 9, 3) := by decide +kernel
theorem dX3_howManyKnown_4 : decode cX3_howManyKnown 4 = .ok (.iconst (-1), 1) := by decide +kernel
theorem dX3_howManyKnown_5 : decode cX3_howManyKnown 5 = .ok (.if_icmp .ne 10, 3) := by decide +kernel
theorem dX3_howManyKnown_8 : decode cX3_howManyKnown 8 = .ok (.aload_n 0, 1) := by decide +kernel
theorem dX3_howManyKnown_9 : decode cX3_howManyKnown 9 = .ok (.getfield 32, 3) := by decide +kernel
theorem dX3_howManyKnown_12 : decode cX3_howManyKnown 12 = .ok (.goto 7, 3) := by decide +kernel
theorem dX3_howManyKnown_15 : decode cX3_howManyKnown 15 = .ok (.aload_n 0, 1) := by decide +kernel
theorem dX3_howManyKnown_16 : decode cX3_howManyKnown 16 = .ok (.getfield 9, 3) := by decide +kernel
theorem dX3_howManyKnown_19 : decode cX3_howManyKnown 19 = .ok (.ireturn, 1) := by decide +kernel
theorem dX3_findStruck_0 : decode cX3_findStruck 0 = .ok (.aload_n 0, 1) := by decide +kernel
theorem dX3_findStruck_1 : decode cX3_findStruck 1 = .ok (.invokevirtual 35, 3) := by decide +kernel
theorem dX3_findStruck_4 : decode cX3_findStruck 4 = .ok (.istore_n 1, 1) := by decide +kernel
theorem dX3_findStruck_5 : decode cX3_findStruck 5 = .ok (.iconst 0, 1) := by decide +kernel
theorem dX3_findStruck_6 : decode cX3_findStruck 6 = .ok (.istore_n 2, 1) := by decide +kernel
theorem dX3_findStruck_7 : decode cX3_findStruck 7 = .ok (.iload_n 2, 1) := by decide +kernel
theorem dX3_findStruck_8 : decode cX3_findStruck 8 = .ok (.iload_n 1, 1) := by decide +kernel
theorem dX3_findStruck_9 : decode cX3_findStruck 9 = .ok (.if_icmp .ge 16, 3) := by decide +kernel
theorem dX3_findStruck_12 : decode cX3_findStruck 12 = .ok (.aload_n 0, 1) := by decide +kernel
theorem dX3_findStruck_13 : decode cX3_findStruck 13 = .ok (.getfield 28, 3) := by decide +kernel
theorem dX3_findStruck_16 : decode cX3_findStruck 16 = .ok (.iload_n 2, 1) := by decide +kernel
theorem dX3_findStruck_17 : decode cX3_findStruck 17 = .ok (.iconst 0, 1) := by decide +kernel
theorem dX3_findStruck_18 : decode cX3_findStruck 18 = .ok (.bastore, 1) := by decide +kernel
theorem dX3_findStruck_19 : decode cX3_findStruck 19 = .ok (.iinc 2 1, 3) := by decide +kernel
theorem dX3_findStruck_22 : decode cX3_findStruck 22 = .ok (.goto (-15), 3) := by decide +kernel
theorem dX3_findStruck_25 : decode cX3_findStruck 25 = .ok (.iload_n 1, 1) := by decide +kernel
theorem dX3_findStruck_26 : decode cX3_findStruck 26 = .ok (.iconst 1, 1) := by decide +kernel
theorem dX3_findStruck_27 : decode cX3_findStruck 27 = .ok (.isub, 1) := by decide +kernel
theorem dX3_findStruck_28 : decode cX3_findStruck 28 = .ok (.istore_n 2, 1) := by decide +kernel
theorem dX3_findStruck_29 : decode cX3_findStruck 29 = .ok (.iload_n 2, 1) := by decide +kernel
theorem dX3_findStruck_30 : decode cX3_findStruck 30 = .ok (.ifCond .lt 40, 3) := by decide +kernel
theorem dX3_findStruck_33 : decode cX3_findStruck 33 = .ok (.aload_n 0, 1) := by decide +kernel
theorem dX3_findStruck_34 : decode cX3_findStruck 34 = .ok (.getfield 28, 3) := by decide +kernel
theorem dX3_findStruck_37 : decode cX3_findStruck 37 = .ok (.iload_n 2, 1) := by decide +kernel
theorem dX3_findStruck_38 : decode cX3_findStruck 38 = .ok (.baload, 1) := by decide +kernel
theorem dX3_findStruck_39 : decode cX3_findStruck 39 = .ok (.ifCond .ne 25, 3) := by decide +kernel
theorem dX3_findStruck_42 : decode cX3_findStruck 42 = .ok (.aload_n 0, 1) := by decide +kernel
theorem dX3_findStruck_43 : decode cX3_findStruck 43 = .ok (.getfield 25, 3) := by decide +kernel
theorem dX3_findStruck_46 : decode cX3_findStruck 46 = .ok (.iload_n 2, 1) := by decide +kernel
theorem dX3_findStruck_47 : decode cX3_findStruck 47 = .ok (.iaload, 1) := by decide +kernel
theorem dX3_findStruck_48 : decode cX3_findStruck 48 = .ok (.iconst (-1), 1) := by decide +kernel
theorem dX3_findStruck_49 : decode cX3_findStruck 49 = .ok (.if_icmp .eq 15, 3) := by decide +kernel
theorem dX3_findStruck_52 : decode cX3_findStruck 52 = .ok (.aload_n 0, 1) := by decide +kernel
theorem dX3_findStruck_53 : decode cX3_findStruck 53 = .ok (.getfield 28, 3) := by decide +kernel
theorem dX3_findStruck_56 : decode cX3_findStruck 56 = .ok (.aload_n 0, 1) := by decide +kernel
theorem dX3_findStruck_57 : decode cX3_findStruck 57 = .ok (.getfield 25, 3) := by decide +kernel
theorem dX3_findStruck_60 : decode cX3_findStruck 60 = .ok (.iload_n 2, 1) := by decide +kernel
theorem dX3_findStruck_61 : decode cX3_findStruck 61 = .ok (.iaload, 1) := by decide +kernel
theorem dX3_findStruck_62 : decode cX3_findStruck 62 = .ok (.iconst 1, 1) := by decide +kernel
theorem dX3_findStruck_63 : decode cX3_findStruck 63 = .ok (.bastore, 1) := by decide +kernel
theorem dX3_findStruck_64 : decode cX3_findStruck 64 = .ok (.iinc 2 (-1), 3) := by decide +kernel
theorem dX3_findStruck_67 : decode cX3_findStruck 67 = .ok (.goto (-38), 3) := by decide +kernel
theorem dX3_findStruck_70 : decode cX3_findStruck 70 = .ok (.return_, 1) := by decide +kernel
theorem dX3_isKnownSeat_0 : decode cX3_isKnownSeat 0 = .ok (.aload_n 0, 1) := by decide +kernel
theorem dX3_isKnownSeat_1 : decode cX3_isKnownSeat 1 = .ok (.getfield 28, 3) := by decide +kernel
theorem dX3_isKnownSeat_4 : decode cX3_isKnownSeat 4 = .ok (.iload_n 1, 1) := by decide +kernel
theorem dX3_isKnownSeat_5 : decode cX3_isKnownSeat 5 = .ok (.baload, 1) := by decide +kernel
theorem dX3_isKnownSeat_6 : decode cX3_isKnownSeat 6 = .ok (.ifCond .ne 17, 3) := by decide +kernel
theorem dX3_isKnownSeat_9 : decode cX3_isKnownSeat 9 = .ok (.aload_n 0, 1) := by decide +kernel
theorem dX3_isKnownSeat_10 : decode cX3_isKnownSeat 10 = .ok (.getfield 25, 3) := by decide +kernel
theorem dX3_isKnownSeat_13 : decode cX3_isKnownSeat 13 = .ok (.iload_n 1, 1) := by decide +kernel
theorem dX3_isKnownSeat_14 : decode cX3_isKnownSeat 14 = .ok (.iaload, 1) := by decide +kernel
theorem dX3_isKnownSeat_15 : decode cX3_isKnownSeat 15 = .ok (.iconst (-1), 1) := by decide +kernel
theorem dX3_isKnownSeat_16 : decode cX3_isKnownSeat 16 = .ok (.if_icmp .ne 7, 3) := by decide +kernel
theorem dX3_isKnownSeat_19 : decode cX3_isKnownSeat 19 = .ok (.iconst 1, 1) := by decide +kernel
theorem dX3_isKnownSeat_20 : decode cX3_isKnownSeat 20 = .ok (.goto 4, 3) := by decide +kernel
theorem dX3_isKnownSeat_23 : decode cX3_isKnownSeat 23 = .ok (.iconst 0, 1) := by decide +kernel
theorem dX3_isKnownSeat_24 : decode cX3_isKnownSeat 24 = .ok (.ireturn, 1) := by decide +kernel
theorem dX4_begin_0 : decode cX4_begin 0 = .ok (.aload_n 0, 1) := by decide +kernel
theorem dX4_begin_1 : decode cX4_begin 1 = .ok (.iconst 0, 1) := by decide +kernel
theorem dX4_begin_2 : decode cX4_begin 2 = .ok (.putfield 30, 3) := by decide +kernel
theorem dX4_begin_5 : decode cX4_begin 5 = .ok (.aload_n 0, 1) := by decide +kernel
theorem dX4_begin_6 : decode cX4_begin 6 = .ok (.aload_n 1, 1) := by decide +kernel
theorem dX4_begin_7 : decode cX4_begin 7 = .ok (.getfield 34, 3) := by decide +kernel
theorem dX4_begin_10 : decode cX4_begin 10 = .ok (.putfield 39, 3) := by decide +kernel
theorem dX4_begin_13 : decode cX4_begin 13 = .ok (.aload_n 0, 1) := by decide +kernel
theorem dX4_begin_14 : decode cX4_begin 14 = .ok (.aload_n 1, 1) := by decide +kernel
theorem dX4_begin_15 : decode cX4_begin 15 = .ok (.getfield 40, 3) := by decide +kernel
theorem dX4_begin_18 : decode cX4_begin 18 = .ok (.putfield 43, 3) := by decide +kernel
theorem dX4_begin_21 : decode cX4_begin 21 = .ok (.aload_n 0, 1) := by decide +kernel
theorem dX4_begin_22 : decode cX4_begin 22 = .ok (.iconst 0, 1) := by decide +kernel
theorem dX4_begin_23 : decode cX4_begin 23 = .ok (.putfield 46, 3) := by decide +kernel
theorem dX4_begin_26 : decode cX4_begin 26 = .ok (.aload_n 0, 1) := by decide +kernel
theorem dX4_begin_27 : decode cX4_begin 27 = .ok (.iconst 0, 1) := by decide +kernel
theorem dX4_begin_28 : decode cX4_begin 28 = .ok (.putfield 49, 3) := by decide +kernel
theorem dX4_begin_31 : decode cX4_begin 31 = .ok (.iconst 0, 1) := by decide +kernel
theorem dX4_begin_32 : decode cX4_begin 32 = .ok (.istore_n 2, 1) := by decide +kernel
theorem dX4_begin_33 : decode cX4_begin 33 = .ok (.iload_n 2, 1) := by decide +kernel
theorem dX4_begin_34 : decode cX4_begin 34 = .ok (.iconst 5, 1) := by decide +kernel
theorem dX4_begin_35 : decode cX4_begin 35 = .ok (.if_icmp .ge 52, 3) := by decide +kernel
theorem dX4_begin_38 : decode cX4_begin 38 = .ok (.aload_n 0, 1) := by decide +kernel
theorem dX4_begin_39 : decode cX4_begin 39 = .ok (.getfield 9, 3) := by decide +kernel
theorem dX4_begin_42 : decode cX4_begin 42 = .ok (.iload_n 2, 1) := by decide +kernel
theorem dX4_begin_43 : decode cX4_begin 43 = .ok (.aload_n 1, 1) := by decide +kernel
theorem dX4_begin_44 : decode cX4_begin 44 = .ok (.getfield 52, 3) := by decide +kernel
theorem dX4_begin_47 : decode cX4_begin 47 = .ok (.getfield 56, 3) := by decide +kernel
theorem dX4_begin_50 : decode cX4_begin 50 = .ok (.iload_n 2, 1) := by decide +kernel
theorem dX4_begin_51 : decode cX4_begin 51 = .ok (.iaload, 1) := by decide +kernel
theorem dX4_begin_52 : decode cX4_begin 52 = .ok (.iastore, 1) := by decide +kernel
theorem dX4_begin_53 : decode cX4_begin 53 = .ok (.aload_n 0, 1) := by decide +kernel
theorem dX4_begin_54 : decode cX4_begin 54 = .ok (.getfield 15, 3) := by decide +kernel
theorem dX4_begin_57 : decode cX4_begin 57 = .ok (.iload_n 2, 1) := by decide +kernel
theorem dX4_begin_58 : decode cX4_begin 58 = .ok (.iconst 0, 1) := by decide +kernel
theorem dX4_begin_59 : decode cX4_begin 59 = .ok (.iastore, 1) := by decide +kernel
theorem dX4_begin_60 : decode cX4_begin 60 = .ok (.aload_n 0, 1) := by decide +kernel
theorem dX4_begin_61 : decode cX4_begin 61 = .ok (.getfield 18, 3) := by decide +kernel
theorem dX4_begin_64 : decode cX4_begin 64 = .ok (.iload_n 2, 1) := by decide +kernel
theorem dX4_begin_65 : decode cX4_begin 65 = .ok (.iconst 0, 1) := by decide +kernel
theorem dX4_begin_66 : decode cX4_begin 66 = .ok (.iastore, 1) := by decide +kernel
theorem dX4_begin_67 : decode cX4_begin 67 = .ok (.aload_n 0, 1) := by decide +kernel
theorem dX4_begin_68 : decode cX4_begin 68 = .ok (.getfield 21, 3) := by decide +kernel
theorem dX4_begin_71 : decode cX4_begin 71 = .ok (.iload_n 2, 1) := by decide +kernel
theorem dX4_begin_72 : decode cX4_begin 72 = .ok (.iconst 0, 1) := by decide +kernel
theorem dX4_begin_73 : decode cX4_begin 73 = .ok (.iastore, 1) := by decide +kernel
theorem dX4_begin_74 : decode cX4_begin 74 = .ok (.aload_n 0, 1) := by decide +kernel
theorem dX4_begin_75 : decode cX4_begin 75 = .ok (.getfield 24, 3) := by decide +kernel
theorem dX4_begin_78 : decode cX4_begin 78 = .ok (.iload_n 2, 1) := by decide +kernel
theorem dX4_begin_79 : decode cX4_begin 79 = .ok (.iconst 0, 1) := by decide +kernel
theorem dX4_begin_80 : decode cX4_begin 80 = .ok (.iastore, 1) := by decide +kernel
theorem dX4_begin_81 : decode cX4_begin 81 = .ok (.iinc 2 1, 3) := by decide +kernel
theorem dX4_begin_84 : decode cX4_begin 84 = .ok (.goto (-51), 3) := by decide +kernel
theorem dX4_begin_87 : decode cX4_begin 87 = .ok (.iconst 0, 1) := by decide +kernel
theorem dX4_begin_88 : decode cX4_begin 88 = .ok (.istore_n 2, 1) := by decide +kernel
theorem dX4_begin_89 : decode cX4_begin 89 = .ok (.iload_n 2, 1) := by decide +kernel
theorem dX4_begin_90 : decode cX4_begin 90 = .ok (.bipush 28, 2) := by decide +kernel
theorem dX4_begin_92 : decode cX4_begin 92 = .ok (.if_icmp .ge 17, 3) := by decide +kernel
theorem dX4_begin_95 : decode cX4_begin 95 = .ok (.aload_n 0, 1) := by decide +kernel
theorem dX4_begin_96 : decode cX4_begin 96 = .ok (.getfield 27, 3) := by decide +kernel
theorem dX4_begin_99 : decode cX4_begin 99 = .ok (.iload_n 2, 1) := by decide +kernel
theorem dX4_begin_100 : decode cX4_begin 100 = .ok (.bipush (-2), 2) := by decide +kernel
theorem dX4_begin_102 : decode cX4_begin 102 = .ok (.iastore, 1) := by decide +kernel
theorem dX4_begin_103 : decode cX4_begin 103 = .ok (.iinc 2 1, 3) := by decide +kernel
theorem dX4_begin_106 : decode cX4_begin 106 = .ok (.goto (-17), 3) := by decide +kernel
theorem dX4_begin_109 : decode cX4_begin 109 = .ok (.return_, 1) := by decide +kernel
theorem dX4_isIn_0 : decode cX4_isIn 0 = .ok (.aload_n 0, 1) := by decide +kernel
theorem dX4_isIn_1 : decode cX4_isIn 1 = .ok (.getfield 21, 3) := by decide +kernel
theorem dX4_isIn_4 : decode cX4_isIn 4 = .ok (.iload_n 1, 1) := by decide +kernel
theorem dX4_isIn_5 : decode cX4_isIn 5 = .ok (.iaload, 1) := by decide +kernel
theorem dX4_isIn_6 : decode cX4_isIn 6 = .ok (.iload_n 2, 1) := by decide +kernel
theorem dX4_isIn_7 : decode cX4_isIn 7 = .ok (.if_icmp .gt 7, 3) := by decide +kernel
theorem dX4_isIn_10 : decode cX4_isIn 10 = .ok (.iconst 1, 1) := by decide +kernel
theorem dX4_isIn_11 : decode cX4_isIn 11 = .ok (.goto 4, 3) := by decide +kernel
theorem dX4_isIn_14 : decode cX4_isIn 14 = .ok (.iconst 0, 1) := by decide +kernel
theorem dX4_isIn_15 : decode cX4_isIn 15 = .ok (.ireturn, 1) := by decide +kernel
theorem dX4_beginMinute_0 : decode cX4_beginMinute 0 = .ok (.aload_n 0, 1) := by decide +kernel
theorem dX4_beginMinute_1 : decode cX4_beginMinute 1 = .ok (.dup, 1) := by decide +kernel
theorem dX4_beginMinute_2 : decode cX4_beginMinute 2 = .ok (.getfield 30, 3) := by decide +kernel
theorem dX4_beginMinute_5 : decode cX4_beginMinute 5 = .ok (.iconst 1, 1) := by decide +kernel
theorem dX4_beginMinute_6 : decode cX4_beginMinute 6 = .ok (.iadd, 1) := by decide +kernel
theorem dX4_beginMinute_7 : decode cX4_beginMinute 7 = .ok (.putfield 30, 3) := by decide +kernel
theorem dX4_beginMinute_10 : decode cX4_beginMinute 10 = .ok (.iconst 0, 1) := by decide +kernel
theorem dX4_beginMinute_11 : decode cX4_beginMinute 11 = .ok (.istore_n 2, 1) := by decide +kernel
theorem dX4_beginMinute_12 : decode cX4_beginMinute 12 = .ok (.iload_n 2, 1) := by decide +kernel
theorem dX4_beginMinute_13 : decode cX4_beginMinute 13 = .ok (.iload_n 1, 1) := by decide +kernel
theorem dX4_beginMinute_14 : decode cX4_beginMinute 14 = .ok (.if_icmp .ge 35, 3) := by decide +kernel
theorem dX4_beginMinute_17 : decode cX4_beginMinute 17 = .ok (.aload_n 0, 1) := by decide +kernel
theorem dX4_beginMinute_18 : decode cX4_beginMinute 18 = .ok (.iload_n 2, 1) := by decide +kernel
theorem dX4_beginMinute_19 : decode cX4_beginMinute 19 = .ok (.aload_n 0, 1) := by decide +kernel
theorem dX4_beginMinute_20 : decode cX4_beginMinute 20 = .ok (.getfield 30, 3) := by decide +kernel
theorem dX4_beginMinute_23 : decode cX4_beginMinute 23 = .ok (.invokevirtual 72, 3) := by decide +kernel
theorem dX4_beginMinute_26 : decode cX4_beginMinute 26 = .ok (.ifCond .eq 10, 3) := by decide +kernel
theorem dX4_beginMinute_29 : decode cX4_beginMinute 29 = .ok (.aload_n 0, 1) := by decide +kernel
theorem dX4_beginMinute_30 : decode cX4_beginMinute 30 = .ok (.getfield 21, 3) := by decide +kernel
theorem dX4_beginMinute_33 : decode cX4_beginMinute 33 = .ok (.iload_n 2, 1) := by decide +kernel
theorem dX4_beginMinute_34 : decode cX4_beginMinute 34 = .ok (.iconst 0, 1) := by decide +kernel
theorem dX4_beginMinute_35 : decode cX4_beginMinute 35 = .ok (.iastore, 1) := by decide +kernel
theorem dX4_beginMinute_36 : decode cX4_beginMinute 36 = .ok (.aload_n 0, 1) := by decide +kernel
theorem dX4_beginMinute_37 : decode cX4_beginMinute 37 = .ok (.getfield 24, 3) := by decide +kernel
theorem dX4_beginMinute_40 : decode cX4_beginMinute 40 = .ok (.iload_n 2, 1) := by decide +kernel
theorem dX4_beginMinute_41 : decode cX4_beginMinute 41 = .ok (.iconst 0, 1) := by decide +kernel
theorem dX4_beginMinute_42 : decode cX4_beginMinute 42 = .ok (.iastore, 1) := by decide +kernel
theorem dX4_beginMinute_43 : decode cX4_beginMinute 43 = .ok (.iinc 2 1, 3) := by decide +kernel
theorem dX4_beginMinute_46 : decode cX4_beginMinute 46 = .ok (.goto (-34), 3) := by decide +kernel
theorem dX4_beginMinute_49 : decode cX4_beginMinute 49 = .ok (.return_, 1) := by decide +kernel
theorem dX4_drawHundredth_0 : decode cX4_drawHundredth 0 = .ok (.aload_n 0, 1) := by decide +kernel
theorem dX4_drawHundredth_1 : decode cX4_drawHundredth 1 = .ok (.aload_n 0, 1) := by decide +kernel
theorem dX4_drawHundredth_2 : decode cX4_drawHundredth 2 = .ok (.getfield 43, 3) := by decide +kernel
theorem dX4_drawHundredth_5 : decode cX4_drawHundredth 5 = .ok (.i2l, 1) := by decide +kernel
theorem dX4_drawHundredth_6 : decode cX4_drawHundredth 6 = .ok (.ldc2_w 76, 3) := by decide +kernel
theorem dX4_drawHundredth_9 : decode cX4_drawHundredth 9 = .ok (.lmul, 1) := by decide +kernel
theorem dX4_drawHundredth_10 : decode cX4_drawHundredth 10 = .ok (.ldc2_w 78, 3) := by decide +kernel
theorem dX4_drawHundredth_13 : decode cX4_drawHundredth 13 = .ok (.ladd, 1) := by decide +kernel
theorem dX4_drawHundredth_14 : decode cX4_drawHundredth 14 = .ok (.ldc2_w 80, 3) := by decide +kernel
theorem dX4_drawHundredth_17 : decode cX4_drawHundredth 17 = .ok (.land, 1) := by decide +kernel
theorem dX4_drawHundredth_18 : decode cX4_drawHundredth 18 = .ok (.l2i, 1) := by decide +kernel
theorem dX4_drawHundredth_19 : decode cX4_drawHundredth 19 = .ok (.putfield 43, 3) := by decide +kernel
theorem dX4_drawHundredth_22 : decode cX4_drawHundredth 22 = .ok (.aload_n 0, 1) := by decide +kernel
theorem dX4_drawHundredth_23 : decode cX4_drawHundredth 23 = .ok (.getfield 43, 3) := by decide +kernel
theorem dX4_drawHundredth_26 : decode cX4_drawHundredth 26 = .ok (.bipush 16, 2) := by decide +kernel
theorem dX4_drawHundredth_28 : decode cX4_drawHundredth 28 = .ok (.ishr, 1) := by decide +kernel
theorem dX4_drawHundredth_29 : decode cX4_drawHundredth 29 = .ok (.bipush 100, 2) := by decide +kernel
theorem dX4_drawHundredth_31 : decode cX4_drawHundredth 31 = .ok (.irem, 1) := by decide +kernel
theorem dX4_drawHundredth_32 : decode cX4_drawHundredth 32 = .ok (.ireturn, 1) := by decide +kernel
theorem dX4_hadInSum_0 : decode cX4_hadInSum 0 = .ok (.iconst 0, 1) := by decide +kernel
theorem dX4_hadInSum_1 : decode cX4_hadInSum 1 = .ok (.istore_n 2, 1) := by decide +kernel
theorem dX4_hadInSum_2 : decode cX4_hadInSum 2 = .ok (.iconst 0, 1) := by decide +kernel
theorem dX4_hadInSum_3 : decode cX4_hadInSum 3 = .ok (.istore_n 3, 1) := by decide +kernel
theorem dX4_hadInSum_4 : decode cX4_hadInSum 4 = .ok (.iload_n 3, 1) := by decide +kernel
theorem dX4_hadInSum_5 : decode cX4_hadInSum 5 = .ok (.iload_n 1, 1) := by decide +kernel
theorem dX4_hadInSum_6 : decode cX4_hadInSum 6 = .ok (.if_icmp .ge 18, 3) := by decide +kernel
theorem dX4_hadInSum_9 : decode cX4_hadInSum 9 = .ok (.iload_n 2, 1) := by decide +kernel
theorem dX4_hadInSum_10 : decode cX4_hadInSum 10 = .ok (.aload_n 0, 1) := by decide +kernel
theorem dX4_hadInSum_11 : decode cX4_hadInSum 11 = .ok (.getfield 15, 3) := by decide +kernel
theorem dX4_hadInSum_14 : decode cX4_hadInSum 14 = .ok (.iload_n 3, 1) := by decide +kernel
theorem dX4_hadInSum_15 : decode cX4_hadInSum 15 = .ok (.iaload, 1) := by decide +kernel
theorem dX4_hadInSum_16 : decode cX4_hadInSum 16 = .ok (.iadd, 1) := by decide +kernel
theorem dX4_hadInSum_17 : decode cX4_hadInSum 17 = .ok (.istore_n 2, 1) := by decide +kernel
theorem dX4_hadInSum_18 : decode cX4_hadInSum 18 = .ok (.iinc 3 1, 3) := by decide +kernel
theorem dX4_hadInSum_21 : decode cX4_hadInSum 21 = .ok (.goto (-17), 3) := by decide +kernel
theorem dX4_hadInSum_24 : decode cX4_hadInSum 24 = .ok (.iload_n 2, 1) := by decide +kernel
theorem dX4_hadInSum_25 : decode cX4_hadInSum 25 = .ok (.ireturn, 1) := by decide +kernel
theorem dX4_leaveOut_0 : decode cX4_leaveOut 0 = .ok (.aload_n 0, 1) := by decide +kernel
theorem dX4_leaveOut_1 : decode cX4_leaveOut 1 = .ok (.getfield 21, 3) := by decide +kernel
theorem dX4_leaveOut_4 : decode cX4_leaveOut 4 = .ok (.iload_n 1, 1) := by decide +kernel
theorem dX4_leaveOut_5 : decode cX4_leaveOut 5 = .ok (.ldc 71, 2) := by decide +kernel
theorem dX4_leaveOut_7 : decode cX4_leaveOut 7 = .ok (.iastore, 1) := by decide +kernel
theorem dX4_leaveOut_8 : decode cX4_leaveOut 8 = .ok (.return_, 1) := by decide +kernel
theorem dX4_seatAll_0 : decode cX4_seatAll 0 = .ok (.iconst 0, 1) := by decide +kernel
theorem dX4_seatAll_1 : decode cX4_seatAll 1 = .ok (.istore_n 2, 1) := by decide +kernel
theorem dX4_seatAll_2 : decode cX4_seatAll 2 = .ok (.iload_n 2, 1) := by decide +kernel
theorem dX4_seatAll_3 : decode cX4_seatAll 3 = .ok (.iconst 5, 1) := by decide +kernel
theorem dX4_seatAll_4 : decode cX4_seatAll 4 = .ok (.if_icmp .ge 16, 3) := by decide +kernel
theorem dX4_seatAll_7 : decode cX4_seatAll 7 = .ok (.aload_n 0, 1) := by decide +kernel
theorem dX4_seatAll_8 : decode cX4_seatAll 8 = .ok (.getfield 9, 3) := by decide +kernel
theorem dX4_seatAll_11 : decode cX4_seatAll 11 = .ok (.iload_n 2, 1) := by decide +kernel
theorem dX4_seatAll_12 : decode cX4_seatAll 12 = .ok (.iload_n 1, 1) := by decide +kernel
theorem dX4_seatAll_13 : decode cX4_seatAll 13 = .ok (.iastore, 1) := by decide +kernel
theorem dX4_seatAll_14 : decode cX4_seatAll 14 = .ok (.iinc 2 1, 3) := by decide +kernel
theorem dX4_seatAll_17 : decode cX4_seatAll 17 = .ok (.goto (-15), 3) := by decide +kernel
theorem dX4_seatAll_20 : decode cX4_seatAll 20 = .ok (.return_, 1) := by decide +kernel
theorem dX4_takeAll_0 : decode cX4_takeAll 0 = .ok (.aload_n 0, 1) := by decide +kernel
theorem dX4_takeAll_1 : decode cX4_takeAll 1 = .ok (.aload_n 1, 1) := by decide +kernel
theorem dX4_takeAll_2 : decode cX4_takeAll 2 = .ok (.getfield 30, 3) := by decide +kernel
theorem dX4_takeAll_5 : decode cX4_takeAll 5 = .ok (.putfield 30, 3) := by decide +kernel
theorem dX4_takeAll_8 : decode cX4_takeAll 8 = .ok (.aload_n 0, 1) := by decide +kernel
theorem dX4_takeAll_9 : decode cX4_takeAll 9 = .ok (.aload_n 1, 1) := by decide +kernel
theorem dX4_takeAll_10 : decode cX4_takeAll 10 = .ok (.getfield 39, 3) := by decide +kernel
theorem dX4_takeAll_13 : decode cX4_takeAll 13 = .ok (.putfield 39, 3) := by decide +kernel
theorem dX4_takeAll_16 : decode cX4_takeAll 16 = .ok (.aload_n 0, 1) := by decide +kernel
theorem dX4_takeAll_17 : decode cX4_takeAll 17 = .ok (.aload_n 1, 1) := by decide +kernel
theorem dX4_takeAll_18 : decode cX4_takeAll 18 = .ok (.getfield 43, 3) := by decide +kernel
theorem dX4_takeAll_21 : decode cX4_takeAll 21 = .ok (.putfield 43, 3) := by decide +kernel
theorem dX4_takeAll_24 : decode cX4_takeAll 24 = .ok (.aload_n 0, 1) := by decide +kernel
theorem dX4_takeAll_25 : decode cX4_takeAll 25 = .ok (.aload_n 1, 1) := by decide +kernel
theorem dX4_takeAll_26 : decode cX4_takeAll 26 = .ok (.getfield 46, 3) := by decide +kernel
theorem dX4_takeAll_29 : decode cX4_takeAll 29 = .ok (.putfield 46, 3) := by decide +kernel
theorem dX4_takeAll_32 : decode cX4_takeAll 32 = .ok (.aload_n 0, 1) := by decide +kernel
theorem dX4_takeAll_33 : decode cX4_takeAll 33 = .ok (.aload_n 1, 1) := by decide +kernel
theorem dX4_takeAll_34 : decode cX4_takeAll 34 = .ok (.getfield 49, 3) := by decide +kernel
theorem dX4_takeAll_37 : decode cX4_takeAll 37 = .ok (.putfield 49, 3) := by decide +kernel
theorem dX4_takeAll_40 : decode cX4_takeAll 40 = .ok (.aload_n 1, 1) := by decide +kernel
theorem dX4_takeAll_41 : decode cX4_takeAll 41 = .ok (.getfield 9, 3) := by decide +kernel
theorem dX4_takeAll_44 : decode cX4_takeAll 44 = .ok (.iconst 0, 1) := by decide +kernel
theorem dX4_takeAll_45 : decode cX4_takeAll 45 = .ok (.aload_n 0, 1) := by decide +kernel
theorem dX4_takeAll_46 : decode cX4_takeAll 46 = .ok (.getfield 9, 3) := by decide +kernel
theorem dX4_takeAll_49 : decode cX4_takeAll 49 = .ok (.iconst 0, 1) := by decide +kernel
theorem dX4_takeAll_50 : decode cX4_takeAll 50 = .ok (.iconst 5, 1) := by decide +kernel
theorem dX4_takeAll_51 : decode cX4_takeAll 51 = .ok (.invokestatic 59, 3) := by decide +kernel
theorem dX4_takeAll_54 : decode cX4_takeAll 54 = .ok (.aload_n 1, 1) := by decide +kernel
theorem dX4_takeAll_55 : decode cX4_takeAll 55 = .ok (.getfield 15, 3) := by decide +kernel
theorem dX4_takeAll_58 : decode cX4_takeAll 58 = .ok (.iconst 0, 1) := by decide +kernel
theorem dX4_takeAll_59 : decode cX4_takeAll 59 = .ok (.aload_n 0, 1) := by decide +kernel
theorem dX4_takeAll_60 : decode cX4_takeAll 60 = .ok (.getfield 15, 3) := by decide +kernel
theorem dX4_takeAll_63 : decode cX4_takeAll 63 = .ok (.iconst 0, 1) := by decide +kernel
theorem dX4_takeAll_64 : decode cX4_takeAll 64 = .ok (.iconst 5, 1) := by decide +kernel
theorem dX4_takeAll_65 : decode cX4_takeAll 65 = .ok (.invokestatic 59, 3) := by decide +kernel
theorem dX4_takeAll_68 : decode cX4_takeAll 68 = .ok (.aload_n 1, 1) := by decide +kernel
theorem dX4_takeAll_69 : decode cX4_takeAll 69 = .ok (.getfield 18, 3) := by decide +kernel
theorem dX4_takeAll_72 : decode cX4_takeAll 72 = .ok (.iconst 0, 1) := by decide +kernel
theorem dX4_takeAll_73 : decode cX4_takeAll 73 = .ok (.aload_n 0, 1) := by decide +kernel
theorem dX4_takeAll_74 : decode cX4_takeAll 74 = .ok (.getfield 18, 3) := by decide +kernel
theorem dX4_takeAll_77 : decode cX4_takeAll 77 = .ok (.iconst 0, 1) := by decide +kernel
theorem dX4_takeAll_78 : decode cX4_takeAll 78 = .ok (.iconst 5, 1) := by decide +kernel
theorem dX4_takeAll_79 : decode cX4_takeAll 79 = .ok (.invokestatic 59, 3) := by decide +kernel
theorem dX4_takeAll_82 : decode cX4_takeAll 82 = .ok (.aload_n 1, 1) := by decide +kernel
theorem dX4_takeAll_83 : decode cX4_takeAll 83 = .ok (.getfield 21, 3) := by decide +kernel
theorem dX4_takeAll_86 : decode cX4_takeAll 86 = .ok (.iconst 0, 1) := by decide +kernel
theorem dX4_takeAll_87 : decode cX4_takeAll 87 = .ok (.aload_n 0, 1) := by decide +kernel
theorem dX4_takeAll_88 : decode cX4_takeAll 88 = .ok (.getfield 21, 3) := by decide +kernel
theorem dX4_takeAll_91 : decode cX4_takeAll 91 = .ok (.iconst 0, 1) := by decide +kernel
theorem dX4_takeAll_92 : decode cX4_takeAll 92 = .ok (.iconst 5, 1) := by decide +kernel
theorem dX4_takeAll_93 : decode cX4_takeAll 93 = .ok (.invokestatic 59, 3) := by decide +kernel
theorem dX4_takeAll_96 : decode cX4_takeAll 96 = .ok (.aload_n 1, 1) := by decide +kernel
theorem dX4_takeAll_97 : decode cX4_takeAll 97 = .ok (.getfield 24, 3) := by decide +kernel
theorem dX4_takeAll_100 : decode cX4_takeAll 100 = .ok (.iconst 0, 1) := by decide +kernel
theorem dX4_takeAll_101 : decode cX4_takeAll 101 = .ok (.aload_n 0, 1) := by decide +kernel
theorem dX4_takeAll_102 : decode cX4_takeAll 102 = .ok (.getfield 24, 3) := by decide +kernel
theorem dX4_takeAll_105 : decode cX4_takeAll 105 = .ok (.iconst 0, 1) := by decide +kernel
theorem dX4_takeAll_106 : decode cX4_takeAll 106 = .ok (.iconst 5, 1) := by decide +kernel
theorem dX4_takeAll_107 : decode cX4_takeAll 107 = .ok (.invokestatic 59, 3) := by decide +kernel
theorem dX4_takeAll_110 : decode cX4_takeAll 110 = .ok (.aload_n 1, 1) := by decide +kernel
theorem dX4_takeAll_111 : decode cX4_takeAll 111 = .ok (.getfield 27, 3) := by decide +kernel
theorem dX4_takeAll_114 : decode cX4_takeAll 114 = .ok (.iconst 0, 1) := by decide +kernel
theorem dX4_takeAll_115 : decode cX4_takeAll 115 = .ok (.aload_n 0, 1) := by decide +kernel
theorem dX4_takeAll_116 : decode cX4_takeAll 116 = .ok (.getfield 27, 3) := by decide +kernel
theorem dX4_takeAll_119 : decode cX4_takeAll 119 = .ok (.iconst 0, 1) := by decide +kernel
theorem dX4_takeAll_120 : decode cX4_takeAll 120 = .ok (.bipush 28, 2) := by decide +kernel
theorem dX4_takeAll_122 : decode cX4_takeAll 122 = .ok (.invokestatic 59, 3) := by decide +kernel
theorem dX4_takeAll_125 : decode cX4_takeAll 125 = .ok (.return_, 1) := by decide +kernel
theorem dX4_takeForRun_0 : decode cX4_takeForRun 0 = .ok (.aload_n 0, 1) := by decide +kernel
theorem dX4_takeForRun_1 : decode cX4_takeForRun 1 = .ok (.aload_n 1, 1) := by decide +kernel
theorem dX4_takeForRun_2 : decode cX4_takeForRun 2 = .ok (.invokevirtual 65, 3) := by decide +kernel
theorem dX4_takeForRun_5 : decode cX4_takeForRun 5 = .ok (.aload_n 0, 1) := by decide +kernel
theorem dX4_takeForRun_6 : decode cX4_takeForRun 6 = .ok (.iload_n 2, 1) := by decide +kernel
theorem dX4_takeForRun_7 : decode cX4_takeForRun 7 = .ok (.putfield 39, 3) := by decide +kernel
theorem dX4_takeForRun_10 : decode cX4_takeForRun 10 = .ok (.aload_n 0, 1) := by decide +kernel
theorem dX4_takeForRun_11 : decode cX4_takeForRun 11 = .ok (.iload_n 3, 1) := by decide +kernel
theorem dX4_takeForRun_12 : decode cX4_takeForRun 12 = .ok (.putfield 43, 3) := by decide +kernel
theorem dX4_takeForRun_15 : decode cX4_takeForRun 15 = .ok (.aload_n 0, 1) := by decide +kernel
theorem dX4_takeForRun_16 : decode cX4_takeForRun 16 = .ok (.iconst 0, 1) := by decide +kernel
theorem dX4_takeForRun_17 : decode cX4_takeForRun 17 = .ok (.putfield 46, 3) := by decide +kernel
theorem dX4_takeForRun_20 : decode cX4_takeForRun 20 = .ok (.aload_n 0, 1) := by decide +kernel
theorem dX4_takeForRun_21 : decode cX4_takeForRun 21 = .ok (.iconst 0, 1) := by decide +kernel
theorem dX4_takeForRun_22 : decode cX4_takeForRun 22 = .ok (.putfield 49, 3) := by decide +kernel
theorem dX4_takeForRun_25 : decode cX4_takeForRun 25 = .ok (.return_, 1) := by decide +kernel
theorem dX4_unlike_0 : decode cX4_unlike 0 = .ok (.iload_n 1, 1) := by decide +kernel
theorem dX4_unlike_1 : decode cX4_unlike 1 = .ok (.iconst 1, 1) := by decide +kernel
theorem dX4_unlike_2 : decode cX4_unlike 2 = .ok (.if_icmp .ge 5, 3) := by decide +kernel
theorem dX4_unlike_5 : decode cX4_unlike 5 = .ok (.iconst 0, 1) := by decide +kernel
theorem dX4_unlike_6 : decode cX4_unlike 6 = .ok (.ireturn, 1) := by decide +kernel
theorem dX4_unlike_7 : decode cX4_unlike 7 = .ok (.aload_n 0, 1) := by decide +kernel
theorem dX4_unlike_8 : decode cX4_unlike 8 = .ok (.getfield 15, 3) := by decide +kernel
theorem dX4_unlike_11 : decode cX4_unlike 11 = .ok (.iconst 0, 1) := by decide +kernel
theorem dX4_unlike_12 : decode cX4_unlike 12 = .ok (.iaload, 1) := by decide +kernel
theorem dX4_unlike_13 : decode cX4_unlike 13 = .ok (.istore_n 2, 1) := by decide +kernel
theorem dX4_unlike_14 : decode cX4_unlike 14 = .ok (.aload_n 0, 1) := by decide +kernel
theorem dX4_unlike_15 : decode cX4_unlike 15 = .ok (.getfield 15, 3) := by decide +kernel
theorem dX4_unlike_18 : decode cX4_unlike 18 = .ok (.iconst 0, 1) := by decide +kernel
theorem dX4_unlike_19 : decode cX4_unlike 19 = .ok (.iaload, 1) := by decide +kernel
theorem dX4_unlike_20 : decode cX4_unlike 20 = .ok (.istore_n 3, 1) := by decide +kernel
theorem dX4_unlike_21 : decode cX4_unlike 21 = .ok (.iconst 1, 1) := by decide +kernel
theorem dX4_unlike_22 : decode cX4_unlike 22 = .ok (.istore 4, 2) := by decide +kernel
theorem dX4_unlike_24 : decode cX4_unlike 24 = .ok (.iload 4, 2) := by decide +kernel
theorem dX4_unlike_26 : decode cX4_unlike 26 = .ok (.iload_n 1, 1) := by decide +kernel
theorem dX4_unlike_27 : decode cX4_unlike 27 = .ok (.if_icmp .ge 33, 3) := by decide +kernel
theorem dX4_unlike_30 : decode cX4_unlike 30 = .ok (.iload_n 2, 1) := by decide +kernel
theorem dX4_unlike_31 : decode cX4_unlike 31 = .ok (.aload_n 0, 1) := by decide +kernel
theorem dX4_unlike_32 : decode cX4_unlike 32 = .ok (.getfield 15, 3) := by decide +kernel
theorem dX4_unlike_35 : decode cX4_unlike 35 = .ok (.iload 4, 2) := by decide +kernel
theorem dX4_unlike_37 : decode cX4_unlike 37 = .ok (.iaload, 1) := by decide +kernel
theorem dX4_unlike_38 : decode cX4_unlike 38 = .ok (.invokestatic 82, 3) := by decide +kernel
theorem dX4_unlike_41 : decode cX4_unlike 41 = .ok (.istore_n 2, 1) := by decide +kernel
theorem dX4_unlike_42 : decode cX4_unlike 42 = .ok (.iload_n 3, 1) := by decide +kernel
theorem dX4_unlike_43 : decode cX4_unlike 43 = .ok (.aload_n 0, 1) := by decide +kernel
theorem dX4_unlike_44 : decode cX4_unlike 44 = .ok (.getfield 15, 3) := by decide +kernel
theorem dX4_unlike_47 : decode cX4_unlike 47 = .ok (.iload 4, 2) := by decide +kernel
theorem dX4_unlike_49 : decode cX4_unlike 49 = .ok (.iaload, 1) := by decide +kernel
theorem dX4_unlike_50 : decode cX4_unlike 50 = .ok (.invokestatic 88, 3) := by decide +kernel
theorem dX4_unlike_53 : decode cX4_unlike 53 = .ok (.istore_n 3, 1) := by decide +kernel
theorem dX4_unlike_54 : decode cX4_unlike 54 = .ok (.iinc 4 1, 3) := by decide +kernel
theorem dX4_unlike_57 : decode cX4_unlike 57 = .ok (.goto (-33), 3) := by decide +kernel
theorem dX4_unlike_60 : decode cX4_unlike 60 = .ok (.iload_n 2, 1) := by decide +kernel
theorem dX4_unlike_61 : decode cX4_unlike 61 = .ok (.iload_n 3, 1) := by decide +kernel
theorem dX4_unlike_62 : decode cX4_unlike 62 = .ok (.isub, 1) := by decide +kernel
theorem dX4_unlike_63 : decode cX4_unlike 63 = .ok (.ireturn, 1) := by decide +kernel
theorem dX5_refuse_0 : decode cX5_refuse 0 = .ok (.aload_n 0, 1) := by decide +kernel
theorem dX5_refuse_1 : decode cX5_refuse 1 = .ok (.iload_n 1, 1) := by decide +kernel
theorem dX5_refuse_2 : decode cX5_refuse 2 = .ok (.putfield 35, 3) := by decide +kernel
theorem dX5_refuse_5 : decode cX5_refuse 5 = .ok (.aload_n 0, 1) := by decide +kernel
theorem dX5_refuse_6 : decode cX5_refuse 6 = .ok (.aload_n 0, 1) := by decide +kernel
theorem dX5_refuse_7 : decode cX5_refuse 7 = .ok (.getfield 18, 3) := by decide +kernel
theorem dX5_refuse_10 : decode cX5_refuse 10 = .ok (.getfield 62, 3) := by decide +kernel
theorem dX5_refuse_13 : decode cX5_refuse 13 = .ok (.putfield 26, 3) := by decide +kernel
theorem dX5_refuse_16 : decode cX5_refuse 16 = .ok (.iconst 0, 1) := by decide +kernel
theorem dX5_refuse_17 : decode cX5_refuse 17 = .ok (.ireturn, 1) := by decide +kernel
theorem dX5_countKnot_0 : decode cX5_countKnot 0 = .ok (.aload_n 0, 1) := by decide +kernel
theorem dX5_countKnot_1 : decode cX5_countKnot 1 = .ok (.getfield 9, 3) := by decide +kernel
theorem dX5_countKnot_4 : decode cX5_countKnot 4 = .ok (.getfield 229, 3) := by decide +kernel
theorem dX5_countKnot_7 : decode cX5_countKnot 7 = .ok (.bipush 64, 2) := by decide +kernel
theorem dX5_countKnot_9 : decode cX5_countKnot 9 = .ok (.if_icmp .lt 9, 3) := by decide +kernel
theorem dX5_countKnot_12 : decode cX5_countKnot 12 = .ok (.aload_n 0, 1) := by decide +kernel
theorem dX5_countKnot_13 : decode cX5_countKnot 13 = .ok (.iconst 2, 1) := by decide +kernel
theorem dX5_countKnot_14 : decode cX5_countKnot 14 = .ok (.invokevirtual 89, 3) := by decide +kernel
theorem dX5_countKnot_17 : decode cX5_countKnot 17 = .ok (.ireturn, 1) := by decide +kernel
theorem dX5_countKnot_18 : decode cX5_countKnot 18 = .ok (.aload_n 0, 1) := by decide +kernel
theorem dX5_countKnot_19 : decode cX5_countKnot 19 = .ok (.getfield 9, 3) := by decide +kernel
theorem dX5_countKnot_22 : decode cX5_countKnot 22 = .ok (.dup, 1) := by decide +kernel
theorem dX5_countKnot_23 : decode cX5_countKnot 23 = .ok (.getfield 229, 3) := by decide +kernel
theorem dX5_countKnot_26 : decode cX5_countKnot 26 = .ok (.iconst 1, 1) := by decide +kernel
theorem dX5_countKnot_27 : decode cX5_countKnot 27 = .ok (.iadd, 1) := by decide +kernel
theorem dX5_countKnot_28 : decode cX5_countKnot 28 = .ok (.putfield 229, 3) := by decide +kernel
theorem dX5_countKnot_31 : decode cX5_countKnot 31 = .ok (.iconst 1, 1) := by decide +kernel
theorem dX5_countKnot_32 : decode cX5_countKnot 32 = .ok (.ireturn, 1) := by decide +kernel
theorem dX7_isLetter_0 : decode cX7_isLetter 0 = .ok (.iload_n 0, 1) := by decide +kernel
theorem dX7_isLetter_1 : decode cX7_isLetter 1 = .ok (.bipush 97, 2) := by decide +kernel
theorem dX7_isLetter_3 : decode cX7_isLetter 3 = .ok (.if_icmp .lt 13, 3) := by decide +kernel
theorem dX7_isLetter_6 : decode cX7_isLetter 6 = .ok (.iload_n 0, 1) := by decide +kernel
theorem dX7_isLetter_7 : decode cX7_isLetter 7 = .ok (.bipush 122, 2) := by decide +kernel
theorem dX7_isLetter_9 : decode cX7_isLetter 9 = .ok (.if_icmp .gt 7, 3) := by decide +kernel
theorem dX7_isLetter_12 : decode cX7_isLetter 12 = .ok (.iconst 1, 1) := by decide +kernel
theorem dX7_isLetter_13 : decode cX7_isLetter 13 = .ok (.goto 4, 3) := by decide +kernel
theorem dX7_isLetter_16 : decode cX7_isLetter 16 = .ok (.iconst 0, 1) := by decide +kernel
theorem dX7_isLetter_17 : decode cX7_isLetter 17 = .ok (.ireturn, 1) := by decide +kernel
theorem dX7_letterBits_0 : decode cX7_letterBits 0 = .ok (.iload_n 0, 1) := by decide +kernel
theorem dX7_letterBits_1 : decode cX7_letterBits 1 = .ok (.bipush 97, 2) := by decide +kernel
theorem dX7_letterBits_3 : decode cX7_letterBits 3 = .ok (.isub, 1) := by decide +kernel
theorem dX7_letterBits_4 : decode cX7_letterBits 4 = .ok (.iconst 1, 1) := by decide +kernel
theorem dX7_letterBits_5 : decode cX7_letterBits 5 = .ok (.iadd, 1) := by decide +kernel
theorem dX7_letterBits_6 : decode cX7_letterBits 6 = .ok (.bipush 25, 2) := by decide +kernel
theorem dX7_letterBits_8 : decode cX7_letterBits 8 = .ok (.iconst 5, 1) := by decide +kernel
theorem dX7_letterBits_9 : decode cX7_letterBits 9 = .ok (.iload_n 1, 1) := by decide +kernel
theorem dX7_letterBits_10 : decode cX7_letterBits 10 = .ok (.imul, 1) := by decide +kernel
theorem dX7_letterBits_11 : decode cX7_letterBits 11 = .ok (.isub, 1) := by decide +kernel
theorem dX7_letterBits_12 : decode cX7_letterBits 12 = .ok (.ishl, 1) := by decide +kernel
theorem dX7_letterBits_13 : decode cX7_letterBits 13 = .ok (.ireturn, 1) := by decide +kernel
theorem dX5_isFirst_0 : decode cX5_isFirst 0 = .ok (.iconst 1, 1) := by decide +kernel
theorem dX5_isFirst_1 : decode cX5_isFirst 1 = .ok (.iload_n 1, 1) := by decide +kernel
theorem dX5_isFirst_2 : decode cX5_isFirst 2 = .ok (.ishl, 1) := by decide +kernel
theorem dX5_isFirst_3 : decode cX5_isFirst 3 = .ok (.istore_n 2, 1) := by decide +kernel
theorem dX5_isFirst_4 : decode cX5_isFirst 4 = .ok (.aload_n 0, 1) := by decide +kernel
theorem dX5_isFirst_5 : decode cX5_isFirst 5 = .ok (.getfield 38, 3) := by decide +kernel
theorem dX5_isFirst_8 : decode cX5_isFirst 8 = .ok (.iload_n 2, 1) := by decide +kernel
theorem dX5_isFirst_9 : decode cX5_isFirst 9 = .ok (.iand, 1) := by decide +kernel
theorem dX5_isFirst_10 : decode cX5_isFirst 10 = .ok (.ifCond .eq 9, 3) := by decide +kernel
theorem dX5_isFirst_13 : decode cX5_isFirst 13 = .ok (.aload_n 0, 1) := by decide +kernel
theorem dX5_isFirst_14 : decode cX5_isFirst 14 = .ok (.iconst 3, 1) := by decide +kernel
theorem dX5_isFirst_15 : decode cX5_isFirst 15 = .ok (.invokevirtual 89, 3) := by decide +kernel
theorem dX5_isFirst_18 : decode cX5_isFirst 18 = .ok (.ireturn, 1) := by decide +kernel
theorem dX5_isFirst_19 : decode cX5_isFirst 19 = .ok (.aload_n 0, 1) := by decide +kernel
theorem dX5_isFirst_20 : decode cX5_isFirst 20 = .ok (.dup, 1) := by decide +kernel
theorem dX5_isFirst_21 : decode cX5_isFirst 21 = .ok (.getfield 38, 3) := by decide +kernel
theorem dX5_isFirst_24 : decode cX5_isFirst 24 = .ok (.iload_n 2, 1) := by decide +kernel
theorem dX5_isFirst_25 : decode cX5_isFirst 25 = .ok (.ior, 1) := by decide +kernel
theorem dX5_isFirst_26 : decode cX5_isFirst 26 = .ok (.putfield 38, 3) := by decide +kernel
theorem dX5_isFirst_29 : decode cX5_isFirst 29 = .ok (.iconst 1, 1) := by decide +kernel
theorem dX5_isFirst_30 : decode cX5_isFirst 30 = .ok (.ireturn, 1) := by decide +kernel
theorem dX5_letWait_0 : decode cX5_letWait 0 = .ok (.aload_n 0, 1) := by decide +kernel
theorem dX5_letWait_1 : decode cX5_letWait 1 = .ok (.getfield 185, 3) := by decide +kernel
theorem dX5_letWait_4 : decode cX5_letWait 4 = .ok (.aload_n 0, 1) := by decide +kernel
theorem dX5_letWait_5 : decode cX5_letWait 5 = .ok (.getfield 22, 3) := by decide +kernel
theorem dX5_letWait_8 : decode cX5_letWait 8 = .ok (.arraylength, 1) := by decide +kernel
theorem dX5_letWait_9 : decode cX5_letWait 9 = .ok (.if_icmp .lt 9, 3) := by decide +kernel
theorem dX5_letWait_12 : decode cX5_letWait 12 = .ok (.aload_n 0, 1) := by decide +kernel
theorem dX5_letWait_13 : decode cX5_letWait 13 = .ok (.iconst 2, 1) := by decide +kernel
theorem dX5_letWait_14 : decode cX5_letWait 14 = .ok (.invokevirtual 89, 3) := by decide +kernel
theorem dX5_letWait_17 : decode cX5_letWait 17 = .ok (.ireturn, 1) := by decide +kernel
theorem dX5_letWait_18 : decode cX5_letWait 18 = .ok (.aload_n 0, 1) := by decide +kernel
theorem dX5_letWait_19 : decode cX5_letWait 19 = .ok (.getfield 22, 3) := by decide +kernel
theorem dX5_letWait_22 : decode cX5_letWait 22 = .ok (.aload_n 0, 1) := by decide +kernel
theorem dX5_letWait_23 : decode cX5_letWait 23 = .ok (.getfield 185, 3) := by decide +kernel
theorem dX5_letWait_26 : decode cX5_letWait 26 = .ok (.iload_n 1, 1) := by decide +kernel
theorem dX5_letWait_27 : decode cX5_letWait 27 = .ok (.iastore, 1) := by decide +kernel
theorem dX5_letWait_28 : decode cX5_letWait 28 = .ok (.aload_n 0, 1) := by decide +kernel
theorem dX5_letWait_29 : decode cX5_letWait 29 = .ok (.dup, 1) := by decide +kernel
theorem dX5_letWait_30 : decode cX5_letWait 30 = .ok (.getfield 185, 3) := by decide +kernel
theorem dX5_letWait_33 : decode cX5_letWait 33 = .ok (.iconst 1, 1) := by decide +kernel
theorem dX5_letWait_34 : decode cX5_letWait 34 = .ok (.iadd, 1) := by decide +kernel
theorem dX5_letWait_35 : decode cX5_letWait 35 = .ok (.putfield 185, 3) := by decide +kernel
theorem dX5_letWait_38 : decode cX5_letWait 38 = .ok (.iconst 1, 1) := by decide +kernel
theorem dX5_letWait_39 : decode cX5_letWait 39 = .ok (.ireturn, 1) := by decide +kernel
theorem dX7_skipBlanks_0 : decode cX7_skipBlanks 0 = .ok (.aload_n 0, 1) := by decide +kernel
theorem dX7_skipBlanks_1 : decode cX7_skipBlanks 1 = .ok (.getfield 44, 3) := by decide +kernel
theorem dX7_skipBlanks_4 : decode cX7_skipBlanks 4 = .ok (.aload_n 0, 1) := by decide +kernel
theorem dX7_skipBlanks_5 : decode cX7_skipBlanks 5 = .ok (.getfield 40, 3) := by decide +kernel
theorem dX7_skipBlanks_8 : decode cX7_skipBlanks 8 = .ok (.if_icmp .ge 45, 3) := by decide +kernel
theorem dX7_skipBlanks_11 : decode cX7_skipBlanks 11 = .ok (.aload_n 0, 1) := by decide +kernel
theorem dX7_skipBlanks_12 : decode cX7_skipBlanks 12 = .ok (.getfield 15, 3) := by decide +kernel
theorem dX7_skipBlanks_15 : decode cX7_skipBlanks 15 = .ok (.aload_n 0, 1) := by decide +kernel
theorem dX7_skipBlanks_16 : decode cX7_skipBlanks 16 = .ok (.getfield 44, 3) := by decide +kernel
theorem dX7_skipBlanks_19 : decode cX7_skipBlanks 19 = .ok (.baload, 1) := by decide +kernel
theorem dX7_skipBlanks_20 : decode cX7_skipBlanks 20 = .ok (.bipush 10, 2) := by decide +kernel
theorem dX7_skipBlanks_22 : decode cX7_skipBlanks 22 = .ok (.if_icmp .eq 18, 3) := by decide +kernel
theorem dX7_skipBlanks_25 : decode cX7_skipBlanks 25 = .ok (.aload_n 0, 1) := by decide +kernel
theorem dX7_skipBlanks_26 : decode cX7_skipBlanks 26 = .ok (.getfield 15, 3) := by decide +kernel
theorem dX7_skipBlanks_29 : decode cX7_skipBlanks 29 = .ok (.aload_n 0, 1) := by decide +kernel
theorem dX7_skipBlanks_30 : decode cX7_skipBlanks 30 = .ok (.getfield 44, 3) := by decide +kernel
theorem dX7_skipBlanks_33 : decode cX7_skipBlanks 33 = .ok (.baload, 1) := by decide +kernel
theorem dX7_skipBlanks_34 : decode cX7_skipBlanks 34 = .ok (.bipush 32, 2) := by decide +kernel
theorem dX7_skipBlanks_36 : decode cX7_skipBlanks 36 = .ok (.if_icmp .eq 4, 3) := by decide +kernel
theorem dX7_skipBlanks_39 : decode cX7_skipBlanks 39 = .ok (.return_, 1) := by decide +kernel
theorem dX7_skipBlanks_40 : decode cX7_skipBlanks 40 = .ok (.aload_n 0, 1) := by decide +kernel
theorem dX7_skipBlanks_41 : decode cX7_skipBlanks 41 = .ok (.dup, 1) := by decide +kernel
theorem dX7_skipBlanks_42 : decode cX7_skipBlanks 42 = .ok (.getfield 44, 3) := by decide +kernel
theorem dX7_skipBlanks_45 : decode cX7_skipBlanks 45 = .ok (.iconst 1, 1) := by decide +kernel
theorem dX7_skipBlanks_46 : decode cX7_skipBlanks 46 = .ok (.iadd, 1) := by decide +kernel
theorem dX7_skipBlanks_47 : decode cX7_skipBlanks 47 = .ok (.putfield 44, 3) := by decide +kernel
theorem dX7_skipBlanks_50 : decode cX7_skipBlanks 50 = .ok (.goto (-50), 3) := by decide +kernel
theorem dX7_skipBlanks_53 : decode cX7_skipBlanks 53 = .ok (.return_, 1) := by decide +kernel
