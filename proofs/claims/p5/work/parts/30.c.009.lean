theorem zd_dX12_init_874 : dq cX12_init [(874, .putfield 69, 3), (877, .aload_n 0, 1), (878, .sipush 128, 3), (881, .newarray .int, 2), (883, .putfield 72, 3), (886, .aload_n 0, 1), (887, .bipush 96, 2), (889, .newarray .int, 2), (891, .putfield 75, 3), (894, .aload_n 0, 1), (895, .bipush 96, 2), (897, .newarray .int, 2), (899, .putfield 78, 3), (902, .aload_n 0, 1), (903, .bipush 6, 2), (905, .newarray .long, 2), (907, .putfield 81, 3), (910, .aload_n 0, 1), (911, .bipush 64, 2), (913, .newarray .long, 2), (915, .putfield 85, 3)] = true := by decide +kernel
theorem dX12_init_874 : decode cX12_init 874 = .ok (.putfield 69, 3) := dq_at zd_dX12_init_874 0 rfl
theorem dX12_init_877 : decode cX12_init 877 = .ok (.aload_n 0, 1) := dq_at zd_dX12_init_874 1 rfl
theorem dX12_init_878 : decode cX12_init 878 = .ok (.sipush 128, 3) := dq_at zd_dX12_init_874 2 rfl
theorem dX12_init_881 : decode cX12_init 881 = .ok (.newarray .int, 2) := dq_at zd_dX12_init_874 3 rfl
theorem dX12_init_883 : decode cX12_init 883 = .ok (.putfield 72, 3) := dq_at zd_dX12_init_874 4 rfl
theorem dX12_init_886 : decode cX12_init 886 = .ok (.aload_n 0, 1) := dq_at zd_dX12_init_874 5 rfl
theorem dX12_init_887 : decode cX12_init 887 = .ok (.bipush 96, 2) := dq_at zd_dX12_init_874 6 rfl
theorem dX12_init_889 : decode cX12_init 889 = .ok (.newarray .int, 2) := dq_at zd_dX12_init_874 7 rfl
theorem dX12_init_891 : decode cX12_init 891 = .ok (.putfield 75, 3) := dq_at zd_dX12_init_874 8 rfl
theorem dX12_init_894 : decode cX12_init 894 = .ok (.aload_n 0, 1) := dq_at zd_dX12_init_874 9 rfl
theorem dX12_init_895 : decode cX12_init 895 = .ok (.bipush 96, 2) := dq_at zd_dX12_init_874 10 rfl
theorem dX12_init_897 : decode cX12_init 897 = .ok (.newarray .int, 2) := dq_at zd_dX12_init_874 11 rfl
theorem dX12_init_899 : decode cX12_init 899 = .ok (.putfield 78, 3) := dq_at zd_dX12_init_874 12 rfl
theorem dX12_init_902 : decode cX12_init 902 = .ok (.aload_n 0, 1) := dq_at zd_dX12_init_874 13 rfl
theorem dX12_init_903 : decode cX12_init 903 = .ok (.bipush 6, 2) := dq_at zd_dX12_init_874 14 rfl
theorem dX12_init_905 : decode cX12_init 905 = .ok (.newarray .long, 2) := dq_at zd_dX12_init_874 15 rfl
theorem dX12_init_907 : decode cX12_init 907 = .ok (.putfield 81, 3) := dq_at zd_dX12_init_874 16 rfl
theorem dX12_init_910 : decode cX12_init 910 = .ok (.aload_n 0, 1) := dq_at zd_dX12_init_874 17 rfl
theorem dX12_init_911 : decode cX12_init 911 = .ok (.bipush 64, 2) := dq_at zd_dX12_init_874 18 rfl
theorem dX12_init_913 : decode cX12_init 913 = .ok (.newarray .long, 2) := dq_at zd_dX12_init_874 19 rfl
theorem dX12_init_915 : decode cX12_init 915 = .ok (.putfield 85, 3) := dq_at zd_dX12_init_874 20 rfl
theorem zd_dX12_init_918 : dq cX12_init [(918, .aload_n 0, 1), (919, .bipush 10, 2), (921, .newarray .int, 2), (923, .putfield 88, 3), (926, .aload_n 0, 1), (927, .bipush 10, 2), (929, .newarray .int, 2), (931, .putfield 91, 3), (934, .aload_n 0, 1), (935, .bipush 10, 2), (937, .newarray .int, 2), (939, .putfield 94, 3), (942, .aload_n 0, 1), (943, .bipush 10, 2), (945, .newarray .int, 2), (947, .putfield 97, 3), (950, .aload_n 0, 1), (951, .iconst 5, 1), (952, .newarray .int, 2), (954, .putfield 100, 3), (957, .aload_n 0, 1)] = true := by decide +kernel
theorem dX12_init_918 : decode cX12_init 918 = .ok (.aload_n 0, 1) := dq_at zd_dX12_init_918 0 rfl
theorem dX12_init_919 : decode cX12_init 919 = .ok (.bipush 10, 2) := dq_at zd_dX12_init_918 1 rfl
theorem dX12_init_921 : decode cX12_init 921 = .ok (.newarray .int, 2) := dq_at zd_dX12_init_918 2 rfl
theorem dX12_init_923 : decode cX12_init 923 = .ok (.putfield 88, 3) := dq_at zd_dX12_init_918 3 rfl
theorem dX12_init_926 : decode cX12_init 926 = .ok (.aload_n 0, 1) := dq_at zd_dX12_init_918 4 rfl
theorem dX12_init_927 : decode cX12_init 927 = .ok (.bipush 10, 2) := dq_at zd_dX12_init_918 5 rfl
theorem dX12_init_929 : decode cX12_init 929 = .ok (.newarray .int, 2) := dq_at zd_dX12_init_918 6 rfl
theorem dX12_init_931 : decode cX12_init 931 = .ok (.putfield 91, 3) := dq_at zd_dX12_init_918 7 rfl
theorem dX12_init_934 : decode cX12_init 934 = .ok (.aload_n 0, 1) := dq_at zd_dX12_init_918 8 rfl
theorem dX12_init_935 : decode cX12_init 935 = .ok (.bipush 10, 2) := dq_at zd_dX12_init_918 9 rfl
theorem dX12_init_937 : decode cX12_init 937 = .ok (.newarray .int, 2) := dq_at zd_dX12_init_918 10 rfl
theorem dX12_init_939 : decode cX12_init 939 = .ok (.putfield 94, 3) := dq_at zd_dX12_init_918 11 rfl
theorem dX12_init_942 : decode cX12_init 942 = .ok (.aload_n 0, 1) := dq_at zd_dX12_init_918 12 rfl
theorem dX12_init_943 : decode cX12_init 943 = .ok (.bipush 10, 2) := dq_at zd_dX12_init_918 13 rfl
theorem dX12_init_945 : decode cX12_init 945 = .ok (.newarray .int, 2) := dq_at zd_dX12_init_918 14 rfl
theorem dX12_init_947 : decode cX12_init 947 = .ok (.putfield 97, 3) := dq_at zd_dX12_init_918 15 rfl
theorem dX12_init_950 : decode cX12_init 950 = .ok (.aload_n 0, 1) := dq_at zd_dX12_init_918 16 rfl
theorem dX12_init_951 : decode cX12_init 951 = .ok (.iconst 5, 1) := dq_at zd_dX12_init_918 17 rfl
theorem dX12_init_952 : decode cX12_init 952 = .ok (.newarray .int, 2) := dq_at zd_dX12_init_918 18 rfl
theorem dX12_init_954 : decode cX12_init 954 = .ok (.putfield 100, 3) := dq_at zd_dX12_init_918 19 rfl
theorem dX12_init_957 : decode cX12_init 957 = .ok (.aload_n 0, 1) := dq_at zd_dX12_init_918 20 rfl
theorem zd_dX12_init_958 : dq cX12_init [(958, .bipush 56, 2), (960, .newarray .int, 2), (962, .putfield 103, 3), (965, .aload_n 0, 1), (966, .iconst 2, 1), (967, .newarray .int, 2), (969, .putfield 106, 3), (972, .aload_n 0, 1), (973, .iconst 2, 1), (974, .newarray .int, 2), (976, .putfield 109, 3), (979, .aload_n 0, 1), (980, .iconst 2, 1), (981, .newarray .int, 2), (983, .putfield 112, 3), (986, .aload_n 0, 1), (987, .iconst (-1), 1), (988, .putfield 115, 3), (991, .aload_n 0, 1), (992, .iconst 5, 1), (993, .newarray .int, 2)] = true := by decide +kernel
theorem dX12_init_958 : decode cX12_init 958 = .ok (.bipush 56, 2) := dq_at zd_dX12_init_958 0 rfl
theorem dX12_init_960 : decode cX12_init 960 = .ok (.newarray .int, 2) := dq_at zd_dX12_init_958 1 rfl
theorem dX12_init_962 : decode cX12_init 962 = .ok (.putfield 103, 3) := dq_at zd_dX12_init_958 2 rfl
theorem dX12_init_965 : decode cX12_init 965 = .ok (.aload_n 0, 1) := dq_at zd_dX12_init_958 3 rfl
theorem dX12_init_966 : decode cX12_init 966 = .ok (.iconst 2, 1) := dq_at zd_dX12_init_958 4 rfl
theorem dX12_init_967 : decode cX12_init 967 = .ok (.newarray .int, 2) := dq_at zd_dX12_init_958 5 rfl
theorem dX12_init_969 : decode cX12_init 969 = .ok (.putfield 106, 3) := dq_at zd_dX12_init_958 6 rfl
theorem dX12_init_972 : decode cX12_init 972 = .ok (.aload_n 0, 1) := dq_at zd_dX12_init_958 7 rfl
theorem dX12_init_973 : decode cX12_init 973 = .ok (.iconst 2, 1) := dq_at zd_dX12_init_958 8 rfl
theorem dX12_init_974 : decode cX12_init 974 = .ok (.newarray .int, 2) := dq_at zd_dX12_init_958 9 rfl
theorem dX12_init_976 : decode cX12_init 976 = .ok (.putfield 109, 3) := dq_at zd_dX12_init_958 10 rfl
theorem dX12_init_979 : decode cX12_init 979 = .ok (.aload_n 0, 1) := dq_at zd_dX12_init_958 11 rfl
theorem dX12_init_980 : decode cX12_init 980 = .ok (.iconst 2, 1) := dq_at zd_dX12_init_958 12 rfl
theorem dX12_init_981 : decode cX12_init 981 = .ok (.newarray .int, 2) := dq_at zd_dX12_init_958 13 rfl
theorem dX12_init_983 : decode cX12_init 983 = .ok (.putfield 112, 3) := dq_at zd_dX12_init_958 14 rfl
theorem dX12_init_986 : decode cX12_init 986 = .ok (.aload_n 0, 1) := dq_at zd_dX12_init_958 15 rfl
theorem dX12_init_987 : decode cX12_init 987 = .ok (.iconst (-1), 1) := dq_at zd_dX12_init_958 16 rfl
theorem dX12_init_988 : decode cX12_init 988 = .ok (.putfield 115, 3) := dq_at zd_dX12_init_958 17 rfl
theorem dX12_init_991 : decode cX12_init 991 = .ok (.aload_n 0, 1) := dq_at zd_dX12_init_958 18 rfl
theorem dX12_init_992 : decode cX12_init 992 = .ok (.iconst 5, 1) := dq_at zd_dX12_init_958 19 rfl
theorem dX12_init_993 : decode cX12_init 993 = .ok (.newarray .int, 2) := dq_at zd_dX12_init_958 20 rfl
theorem zd_dX12_init_995 : dq cX12_init [(995, .putfield 118, 3), (998, .aload_n 0, 1), (999, .bipush 25, 2), (1001, .newarray .int, 2), (1003, .putfield 121, 3), (1006, .aload_n 0, 1), (1007, .bipush 25, 2), (1009, .newarray .int, 2), (1011, .putfield 124, 3), (1014, .aload_n 0, 1), (1015, .bipush 29, 2), (1017, .newarray .int, 2), (1019, .putfield 127, 3), (1022, .aload_n 0, 1), (1023, .bipush 28, 2), (1025, .newarray .int, 2), (1027, .putfield 130, 3), (1030, .aload_n 0, 1), (1031, .iconst (-1), 1), (1032, .putfield 133, 3), (1035, .aload_n 0, 1)] = true := by decide +kernel
theorem dX12_init_995 : decode cX12_init 995 = .ok (.putfield 118, 3) := dq_at zd_dX12_init_995 0 rfl
theorem dX12_init_998 : decode cX12_init 998 = .ok (.aload_n 0, 1) := dq_at zd_dX12_init_995 1 rfl
theorem dX12_init_999 : decode cX12_init 999 = .ok (.bipush 25, 2) := dq_at zd_dX12_init_995 2 rfl
theorem dX12_init_1001 : decode cX12_init 1001 = .ok (.newarray .int, 2) := dq_at zd_dX12_init_995 3 rfl
theorem dX12_init_1003 : decode cX12_init 1003 = .ok (.putfield 121, 3) := dq_at zd_dX12_init_995 4 rfl
theorem dX12_init_1006 : decode cX12_init 1006 = .ok (.aload_n 0, 1) := dq_at zd_dX12_init_995 5 rfl
theorem dX12_init_1007 : decode cX12_init 1007 = .ok (.bipush 25, 2) := dq_at zd_dX12_init_995 6 rfl
theorem dX12_init_1009 : decode cX12_init 1009 = .ok (.newarray .int, 2) := dq_at zd_dX12_init_995 7 rfl
theorem dX12_init_1011 : decode cX12_init 1011 = .ok (.putfield 124, 3) := dq_at zd_dX12_init_995 8 rfl
theorem dX12_init_1014 : decode cX12_init 1014 = .ok (.aload_n 0, 1) := dq_at zd_dX12_init_995 9 rfl
theorem dX12_init_1015 : decode cX12_init 1015 = .ok (.bipush 29, 2) := dq_at zd_dX12_init_995 10 rfl
theorem dX12_init_1017 : decode cX12_init 1017 = .ok (.newarray .int, 2) := dq_at zd_dX12_init_995 11 rfl
theorem dX12_init_1019 : decode cX12_init 1019 = .ok (.putfield 127, 3) := dq_at zd_dX12_init_995 12 rfl
theorem dX12_init_1022 : decode cX12_init 1022 = .ok (.aload_n 0, 1) := dq_at zd_dX12_init_995 13 rfl
theorem dX12_init_1023 : decode cX12_init 1023 = .ok (.bipush 28, 2) := dq_at zd_dX12_init_995 14 rfl
theorem dX12_init_1025 : decode cX12_init 1025 = .ok (.newarray .int, 2) := dq_at zd_dX12_init_995 15 rfl
theorem dX12_init_1027 : decode cX12_init 1027 = .ok (.putfield 130, 3) := dq_at zd_dX12_init_995 16 rfl
theorem dX12_init_1030 : decode cX12_init 1030 = .ok (.aload_n 0, 1) := dq_at zd_dX12_init_995 17 rfl
theorem dX12_init_1031 : decode cX12_init 1031 = .ok (.iconst (-1), 1) := dq_at zd_dX12_init_995 18 rfl
theorem dX12_init_1032 : decode cX12_init 1032 = .ok (.putfield 133, 3) := dq_at zd_dX12_init_995 19 rfl
theorem dX12_init_1035 : decode cX12_init 1035 = .ok (.aload_n 0, 1) := dq_at zd_dX12_init_995 20 rfl
theorem zd_dX12_init_1036 : dq cX12_init [(1036, .bipush 72, 2), (1038, .newarray .int, 2), (1040, .putfield 136, 3), (1043, .aload_n 0, 1), (1044, .bipush 24, 2), (1046, .newarray .boolean, 2), (1048, .putfield 139, 3), (1051, .aload_n 0, 1), (1052, .sipush 220, 3), (1055, .newarray .int, 2), (1057, .putfield 142, 3), (1060, .aload_n 0, 1), (1061, .bipush 53, 2), (1063, .newarray .int, 2), (1065, .putfield 145, 3), (1068, .aload_n 0, 1), (1069, .invokevirtual 148, 3), (1072, .aload_n 0, 1), (1073, .invokevirtual 151, 3), (1076, .return_, 1)] = true := by decide +kernel
theorem dX12_init_1036 : decode cX12_init 1036 = .ok (.bipush 72, 2) := dq_at zd_dX12_init_1036 0 rfl
theorem dX12_init_1038 : decode cX12_init 1038 = .ok (.newarray .int, 2) := dq_at zd_dX12_init_1036 1 rfl
theorem dX12_init_1040 : decode cX12_init 1040 = .ok (.putfield 136, 3) := dq_at zd_dX12_init_1036 2 rfl
theorem dX12_init_1043 : decode cX12_init 1043 = .ok (.aload_n 0, 1) := dq_at zd_dX12_init_1036 3 rfl
theorem dX12_init_1044 : decode cX12_init 1044 = .ok (.bipush 24, 2) := dq_at zd_dX12_init_1036 4 rfl
theorem dX12_init_1046 : decode cX12_init 1046 = .ok (.newarray .boolean, 2) := dq_at zd_dX12_init_1036 5 rfl
theorem dX12_init_1048 : decode cX12_init 1048 = .ok (.putfield 139, 3) := dq_at zd_dX12_init_1036 6 rfl
theorem dX12_init_1051 : decode cX12_init 1051 = .ok (.aload_n 0, 1) := dq_at zd_dX12_init_1036 7 rfl
theorem dX12_init_1052 : decode cX12_init 1052 = .ok (.sipush 220, 3) := dq_at zd_dX12_init_1036 8 rfl
theorem dX12_init_1055 : decode cX12_init 1055 = .ok (.newarray .int, 2) := dq_at zd_dX12_init_1036 9 rfl
theorem dX12_init_1057 : decode cX12_init 1057 = .ok (.putfield 142, 3) := dq_at zd_dX12_init_1036 10 rfl
theorem dX12_init_1060 : decode cX12_init 1060 = .ok (.aload_n 0, 1) := dq_at zd_dX12_init_1036 11 rfl
theorem dX12_init_1061 : decode cX12_init 1061 = .ok (.bipush 53, 2) := dq_at zd_dX12_init_1036 12 rfl
theorem dX12_init_1063 : decode cX12_init 1063 = .ok (.newarray .int, 2) := dq_at zd_dX12_init_1036 13 rfl
theorem dX12_init_1065 : decode cX12_init 1065 = .ok (.putfield 145, 3) := dq_at zd_dX12_init_1036 14 rfl
theorem dX12_init_1068 : decode cX12_init 1068 = .ok (.aload_n 0, 1) := dq_at zd_dX12_init_1036 15 rfl
theorem dX12_init_1069 : decode cX12_init 1069 = .ok (.invokevirtual 148, 3) := dq_at zd_dX12_init_1036 16 rfl
theorem dX12_init_1072 : decode cX12_init 1072 = .ok (.aload_n 0, 1) := dq_at zd_dX12_init_1036 17 rfl
theorem dX12_init_1073 : decode cX12_init 1073 = .ok (.invokevirtual 151, 3) := dq_at zd_dX12_init_1036 18 rfl
theorem dX12_init_1076 : decode cX12_init 1076 = .ok (.return_, 1) := dq_at zd_dX12_init_1036 19 rfl
section
variable {p : Program} {l : Launch} {e : Env} {s : State} {m : MethodId} {args : Array Value} {below : List Frame} {meth : Method} {c : Code} {D : va_G} {cy : Nat → ClassId} {b : Nat} {A : Nat → Prop} {fl : Bool}
def vX12_init : List Cond := .code yX12_init cX12_init 1 none :: TB
theorem lp12_init_7 : PlF vX12_init RX12 7 12 0 (.array .int) := ⟨RX12, TX12, 87, tyX12, rfl, by decide, (fun w h9 => List.mem_cons_of_mem _ (wC_wsX120 w h9)), (List.mem_cons_of_mem _ wT_9_21), tyX12_ok, nmX12, rfl, rfl, rfl⟩
theorem lp12_init_13 : PlF vX12_init RX12 13 12 3 (.array .int) := ⟨RX12, TX12, 87, tyX12, rfl, by decide, (fun w h9 => List.mem_cons_of_mem _ (wC_wsX120 w h9)), (List.mem_cons_of_mem _ wT_9_22), tyX12_ok, nmX12, rfl, rfl, rfl⟩
theorem lp12_init_16 : Pl vX12_init RX12 16 12 5 .int := ⟨RX12, TX12, 87, tyX12, rfl, by decide, (fun w h9 => List.mem_cons_of_mem _ (wC_wsX120 w h9)), (List.mem_cons_of_mem _ wT_9_23), tyX12_ok, nmX12, rfl, rfl⟩
theorem lp12_init_20 : PlF vX12_init RX12 20 12 25 (.array .boolean) := ⟨RX12, TX12, 87, tyX12, rfl, by decide, (fun w h9 => List.mem_cons_of_mem _ (wC_wsX120 w h9)), (List.mem_cons_of_mem _ wT_10_0), tyX12_ok, nmX12, rfl, rfl, rfl⟩
theorem lp12_init_24 : PlF vX12_init RX12 24 12 26 (.array .int) := ⟨RX12, TX12, 87, tyX12, rfl, by decide, (fun w h9 => List.mem_cons_of_mem _ (wC_wsX120 w h9)), (List.mem_cons_of_mem _ wT_10_1), tyX12_ok, nmX12, rfl, rfl, rfl⟩
theorem lp12_init_27 : PlF vX12_init RX12 27 12 27 (.array .int) := ⟨RX12, TX12, 87, tyX12, rfl, by decide, (fun w h9 => List.mem_cons_of_mem _ (wC_wsX120 w h9)), (List.mem_cons_of_mem _ wT_10_2), tyX12_ok, nmX12, rfl, rfl, rfl⟩
theorem lp12_init_30 : PlF vX12_init RX12 30 12 28 (.array .int) := ⟨RX12, TX12, 87, tyX12, rfl, by decide, (fun w h9 => List.mem_cons_of_mem _ (wC_wsX120 w h9)), (List.mem_cons_of_mem _ wT_10_3), tyX12_ok, nmX12, rfl, rfl, rfl⟩
theorem lp12_init_33 : PlF vX12_init RX12 33 12 29 (.array .int) := ⟨RX12, TX12, 87, tyX12, rfl, by decide, (fun w h9 => List.mem_cons_of_mem _ (wC_wsX120 w h9)), (List.mem_cons_of_mem _ wT_10_4), tyX12_ok, nmX12, rfl, rfl, rfl⟩
theorem lp12_init_36 : PlF vX12_init RX12 36 12 30 (.array .int) := ⟨RX12, TX12, 87, tyX12, rfl, by decide, (fun w h9 => List.mem_cons_of_mem _ (wC_wsX120 w h9)), (List.mem_cons_of_mem _ wT_10_5), tyX12_ok, nmX12, rfl, rfl, rfl⟩
theorem lp12_init_39 : PlF vX12_init RX12 39 12 31 (.array .int) := ⟨RX12, TX12, 87, tyX12, rfl, by decide, (fun w h9 => List.mem_cons_of_mem _ (wC_wsX120 w h9)), (List.mem_cons_of_mem _ wT_10_6), tyX12_ok, nmX12, rfl, rfl, rfl⟩
theorem lp12_init_42 : PlF vX12_init RX12 42 12 32 (.array .int) := ⟨RX12, TX12, 87, tyX12, rfl, by decide, (fun w h9 => List.mem_cons_of_mem _ (wC_wsX120 w h9)), (List.mem_cons_of_mem _ wT_10_7), tyX12_ok, nmX12, rfl, rfl, rfl⟩
theorem lp12_init_45 : PlF vX12_init RX12 45 12 33 (.array .int) := ⟨RX12, TX12, 87, tyX12, rfl, by decide, (fun w h9 => List.mem_cons_of_mem _ (wC_wsX120 w h9)), (List.mem_cons_of_mem _ wT_10_8), tyX12_ok, nmX12, rfl, rfl, rfl⟩
theorem lp12_init_48 : PlF vX12_init RX12 48 12 34 (.array .int) := ⟨RX12, TX12, 87, tyX12, rfl, by decide, (fun w h9 => List.mem_cons_of_mem _ (wC_wsX120 w h9)), (List.mem_cons_of_mem _ wT_10_9), tyX12_ok, nmX12, rfl, rfl, rfl⟩
theorem lp12_init_51 : PlF vX12_init RX12 51 12 35 (.array .int) := ⟨RX12, TX12, 87, tyX12, rfl, by decide, (fun w h9 => List.mem_cons_of_mem _ (wC_wsX120 w h9)), (List.mem_cons_of_mem _ wT_10_10), tyX12_ok, nmX12, rfl, rfl, rfl⟩
theorem lp12_init_54 : PlF vX12_init RX12 54 12 36 (.array .int) := ⟨RX12, TX12, 87, tyX12, rfl, by decide, (fun w h9 => List.mem_cons_of_mem _ (wC_wsX120 w h9)), (List.mem_cons_of_mem _ wT_10_11), tyX12_ok, nmX12, rfl, rfl, rfl⟩
theorem lp12_init_57 : PlF vX12_init RX12 57 12 37 (.array .boolean) := ⟨RX12, TX12, 87, tyX12, rfl, by decide, (fun w h9 => List.mem_cons_of_mem _ (wC_wsX120 w h9)), (List.mem_cons_of_mem _ wT_10_12), tyX12_ok, nmX12, rfl, rfl, rfl⟩
theorem lp12_init_60 : PlF vX12_init RX12 60 12 38 (.array .int) := ⟨RX12, TX12, 87, tyX12, rfl, by decide, (fun w h9 => List.mem_cons_of_mem _ (wC_wsX120 w h9)), (List.mem_cons_of_mem _ wT_10_13), tyX12_ok, nmX12, rfl, rfl, rfl⟩
theorem lp12_init_63 : PlF vX12_init RX12 63 12 39 (.array .int) := ⟨RX12, TX12, 87, tyX12, rfl, by decide, (fun w h9 => List.mem_cons_of_mem _ (wC_wsX120 w h9)), (List.mem_cons_of_mem _ wT_10_14), tyX12_ok, nmX12, rfl, rfl, rfl⟩
theorem lp12_init_66 : PlF vX12_init RX12 66 12 40 (.array .int) := ⟨RX12, TX12, 87, tyX12, rfl, by decide, (fun w h9 => List.mem_cons_of_mem _ (wC_wsX120 w h9)), (List.mem_cons_of_mem _ wT_10_15), tyX12_ok, nmX12, rfl, rfl, rfl⟩
theorem lp12_init_69 : PlF vX12_init RX12 69 12 41 (.array .int) := ⟨RX12, TX12, 87, tyX12, rfl, by decide, (fun w h9 => List.mem_cons_of_mem _ (wC_wsX120 w h9)), (List.mem_cons_of_mem _ wT_10_16), tyX12_ok, nmX12, rfl, rfl, rfl⟩
theorem lp12_init_72 : PlF vX12_init RX12 72 12 42 (.array .int) := ⟨RX12, TX12, 87, tyX12, rfl, by decide, (fun w h9 => List.mem_cons_of_mem _ (wC_wsX120 w h9)), (List.mem_cons_of_mem _ wT_10_17), tyX12_ok, nmX12, rfl, rfl, rfl⟩
theorem lp12_init_75 : PlF vX12_init RX12 75 12 44 (.array .int) := ⟨RX12, TX12, 87, tyX12, rfl, by decide, (fun w h9 => List.mem_cons_of_mem _ (wC_wsX120 w h9)), (List.mem_cons_of_mem _ wT_10_18), tyX12_ok, nmX12, rfl, rfl, rfl⟩
theorem lp12_init_78 : PlF vX12_init RX12 78 12 45 (.array .int) := ⟨RX12, TX12, 87, tyX12, rfl, by decide, (fun w h9 => List.mem_cons_of_mem _ (wC_wsX120 w h9)), (List.mem_cons_of_mem _ wT_10_19), tyX12_ok, nmX12, rfl, rfl, rfl⟩
theorem lp12_init_81 : PlF vX12_init RX12 81 12 52 (.array .long) := ⟨RX12, TX12, 87, tyX12, rfl, by decide, (fun w h9 => List.mem_cons_of_mem _ (wC_wsX120 w h9)), (List.mem_cons_of_mem _ wT_10_20), tyX12_ok, nmX12, rfl, rfl, rfl⟩
theorem lp12_init_85 : PlF vX12_init RX12 85 12 53 (.array .long) := ⟨RX12, TX12, 87, tyX12, rfl, by decide, (fun w h9 => List.mem_cons_of_mem _ (wC_wsX120 w h9)), (List.mem_cons_of_mem _ wT_10_21), tyX12_ok, nmX12, rfl, rfl, rfl⟩
theorem lp12_init_88 : PlF vX12_init RX12 88 12 55 (.array .int) := ⟨RX12, TX12, 87, tyX12, rfl, by decide, (fun w h9 => List.mem_cons_of_mem _ (wC_wsX120 w h9)), (List.mem_cons_of_mem _ wT_10_22), tyX12_ok, nmX12, rfl, rfl, rfl⟩
theorem lp12_init_91 : PlF vX12_init RX12 91 12 56 (.array .int) := ⟨RX12, TX12, 87, tyX12, rfl, by decide, (fun w h9 => List.mem_cons_of_mem _ (wC_wsX120 w h9)), (List.mem_cons_of_mem _ wT_10_23), tyX12_ok, nmX12, rfl, rfl, rfl⟩
theorem lp12_init_94 : PlF vX12_init RX12 94 12 57 (.array .int) := ⟨RX12, TX12, 87, tyX12, rfl, by decide, (fun w h9 => List.mem_cons_of_mem _ (wC_wsX120 w h9)), (List.mem_cons_of_mem _ wT_11_0), tyX12_ok, nmX12, rfl, rfl, rfl⟩
theorem lp12_init_97 : PlF vX12_init RX12 97 12 58 (.array .int) := ⟨RX12, TX12, 87, tyX12, rfl, by decide, (fun w h9 => List.mem_cons_of_mem _ (wC_wsX120 w h9)), (List.mem_cons_of_mem _ wT_11_1), tyX12_ok, nmX12, rfl, rfl, rfl⟩
theorem lp12_init_100 : PlF vX12_init RX12 100 12 59 (.array .int) := ⟨RX12, TX12, 87, tyX12, rfl, by decide, (fun w h9 => List.mem_cons_of_mem _ (wC_wsX120 w h9)), (List.mem_cons_of_mem _ wT_11_2), tyX12_ok, nmX12, rfl, rfl, rfl⟩
theorem lp12_init_103 : PlF vX12_init RX12 103 12 60 (.array .int) := ⟨RX12, TX12, 87, tyX12, rfl, by decide, (fun w h9 => List.mem_cons_of_mem _ (wC_wsX120 w h9)), (List.mem_cons_of_mem _ wT_11_3), tyX12_ok, nmX12, rfl, rfl, rfl⟩
theorem lp12_init_106 : PlF vX12_init RX12 106 12 61 (.array .int) := ⟨RX12, TX12, 87, tyX12, rfl, by decide, (fun w h9 => List.mem_cons_of_mem _ (wC_wsX120 w h9)), (List.mem_cons_of_mem _ wT_11_4), tyX12_ok, nmX12, rfl, rfl, rfl⟩
theorem lp12_init_109 : PlF vX12_init RX12 109 12 62 (.array .int) := ⟨RX12, TX12, 87, tyX12, rfl, by decide, (fun w h9 => List.mem_cons_of_mem _ (wC_wsX120 w h9)), (List.mem_cons_of_mem _ wT_11_5), tyX12_ok, nmX12, rfl, rfl, rfl⟩
theorem lp12_init_112 : PlF vX12_init RX12 112 12 63 (.array .int) := ⟨RX12, TX12, 87, tyX12, rfl, by decide, (fun w h9 => List.mem_cons_of_mem _ (wC_wsX120 w h9)), (List.mem_cons_of_mem _ wT_11_6), tyX12_ok, nmX12, rfl, rfl, rfl⟩
theorem lp12_init_115 : Pl vX12_init RX12 115 12 66 .int := ⟨RX12, TX12, 87, tyX12, rfl, by decide, (fun w h9 => List.mem_cons_of_mem _ (wC_wsX120 w h9)), (List.mem_cons_of_mem _ wT_11_7), tyX12_ok, nmX12, rfl, rfl⟩
theorem lp12_init_118 : PlF vX12_init RX12 118 12 68 (.array .int) := ⟨RX12, TX12, 87, tyX12, rfl, by decide, (fun w h9 => List.mem_cons_of_mem _ (wC_wsX120 w h9)), (List.mem_cons_of_mem _ wT_11_8), tyX12_ok, nmX12, rfl, rfl, rfl⟩
theorem lp12_init_121 : PlF vX12_init RX12 121 12 70 (.array .int) := ⟨RX12, TX12, 87, tyX12, rfl, by decide, (fun w h9 => List.mem_cons_of_mem _ (wC_wsX120 w h9)), (List.mem_cons_of_mem _ wT_11_9), tyX12_ok, nmX12, rfl, rfl, rfl⟩
theorem lp12_init_124 : PlF vX12_init RX12 124 12 71 (.array .int) := ⟨RX12, TX12, 87, tyX12, rfl, by decide, (fun w h9 => List.mem_cons_of_mem _ (wC_wsX120 w h9)), (List.mem_cons_of_mem _ wT_11_10), tyX12_ok, nmX12, rfl, rfl, rfl⟩
theorem lp12_init_127 : PlF vX12_init RX12 127 12 72 (.array .int) := ⟨RX12, TX12, 87, tyX12, rfl, by decide, (fun w h9 => List.mem_cons_of_mem _ (wC_wsX120 w h9)), (List.mem_cons_of_mem _ wT_11_11), tyX12_ok, nmX12, rfl, rfl, rfl⟩
theorem lp12_init_130 : PlF vX12_init RX12 130 12 73 (.array .int) := ⟨RX12, TX12, 87, tyX12, rfl, by decide, (fun w h9 => List.mem_cons_of_mem _ (wC_wsX120 w h9)), (List.mem_cons_of_mem _ wT_11_12), tyX12_ok, nmX12, rfl, rfl, rfl⟩
theorem lp12_init_133 : Pl vX12_init RX12 133 12 75 .int := ⟨RX12, TX12, 87, tyX12, rfl, by decide, (fun w h9 => List.mem_cons_of_mem _ (wC_wsX120 w h9)), (List.mem_cons_of_mem _ wT_11_13), tyX12_ok, nmX12, rfl, rfl⟩
theorem lp12_init_136 : PlF vX12_init RX12 136 12 76 (.array .int) := ⟨RX12, TX12, 87, tyX12, rfl, by decide, (fun w h9 => List.mem_cons_of_mem _ (wC_wsX120 w h9)), (List.mem_cons_of_mem _ wT_11_14), tyX12_ok, nmX12, rfl, rfl, rfl⟩
theorem lp12_init_139 : PlF vX12_init RX12 139 12 77 (.array .boolean) := ⟨RX12, TX12, 87, tyX12, rfl, by decide, (fun w h9 => List.mem_cons_of_mem _ (wC_wsX120 w h9)), (List.mem_cons_of_mem _ wT_11_15), tyX12_ok, nmX12, rfl, rfl, rfl⟩
theorem lp12_init_142 : PlF vX12_init RX12 142 12 79 (.array .int) := ⟨RX12, TX12, 87, tyX12, rfl, by decide, (fun w h9 => List.mem_cons_of_mem _ (wC_wsX120 w h9)), (List.mem_cons_of_mem _ wT_11_16), tyX12_ok, nmX12, rfl, rfl, rfl⟩
theorem lp12_init_145 : PlF vX12_init RX12 145 12 81 (.array .int) := ⟨RX12, TX12, 87, tyX12, rfl, by decide, (fun w h9 => List.mem_cons_of_mem _ (wC_wsX120 w h9)), (List.mem_cons_of_mem _ wT_11_17), tyX12_ok, nmX12, rfl, rfl, rfl⟩
theorem gX12_init_X12_plain : GoodIn vX12_init (wsV RX12 148 RX12 yX12_plain vX12_plain) := gV_of wT_11_18 wT_11_19 wT_11_20 wT_1_5 wT_11_21
theorem gX12_init_X12_keepText : GoodIn vX12_init (wsV RX12 151 RX12 yX12_keepText vX12_keepText) := gV_of wT_12_6 wT_12_7 wT_12_8 wT_1_5 wT_12_9
end
