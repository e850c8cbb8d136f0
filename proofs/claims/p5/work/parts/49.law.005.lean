theorem zd_dL_law_886 : dq cL_law [(886, .aload_n 2, 1), (887, .aload_n 0, 1), (888, .iload 4, 2), (890, .iconst 1, 1), (891, .iadd, 1), (892, .iaload, 1), (893, .aload_n 0, 1), (894, .iload 4, 2), (896, .iconst 2, 1), (897, .iadd, 1), (898, .iaload, 1), (899, .invokevirtual 103, 3), (902, .pop, 1), (903, .goto 623, 3), (906, .aload_n 1, 1), (907, .aload_n 0, 1), (908, .iload 4, 2), (910, .iconst 1, 1), (911, .iadd, 1), (912, .iaload, 1), (913, .invokevirtual 104, 3)] = true := by decide +kernel
theorem dL_law_886 : decode cL_law 886 = .ok (.aload_n 2, 1) := dq_at zd_dL_law_886 0 rfl
theorem dL_law_887 : decode cL_law 887 = .ok (.aload_n 0, 1) := dq_at zd_dL_law_886 1 rfl
theorem dL_law_888 : decode cL_law 888 = .ok (.iload 4, 2) := dq_at zd_dL_law_886 2 rfl
theorem dL_law_890 : decode cL_law 890 = .ok (.iconst 1, 1) := dq_at zd_dL_law_886 3 rfl
theorem dL_law_891 : decode cL_law 891 = .ok (.iadd, 1) := dq_at zd_dL_law_886 4 rfl
theorem dL_law_892 : decode cL_law 892 = .ok (.iaload, 1) := dq_at zd_dL_law_886 5 rfl
theorem dL_law_893 : decode cL_law 893 = .ok (.aload_n 0, 1) := dq_at zd_dL_law_886 6 rfl
theorem dL_law_894 : decode cL_law 894 = .ok (.iload 4, 2) := dq_at zd_dL_law_886 7 rfl
theorem dL_law_896 : decode cL_law 896 = .ok (.iconst 2, 1) := dq_at zd_dL_law_886 8 rfl
theorem dL_law_897 : decode cL_law 897 = .ok (.iadd, 1) := dq_at zd_dL_law_886 9 rfl
theorem dL_law_898 : decode cL_law 898 = .ok (.iaload, 1) := dq_at zd_dL_law_886 10 rfl
theorem dL_law_899 : decode cL_law 899 = .ok (.invokevirtual 103, 3) := dq_at zd_dL_law_886 11 rfl
theorem dL_law_902 : decode cL_law 902 = .ok (.pop, 1) := dq_at zd_dL_law_886 12 rfl
theorem dL_law_903 : decode cL_law 903 = .ok (.goto 623, 3) := dq_at zd_dL_law_886 13 rfl
theorem dL_law_906 : decode cL_law 906 = .ok (.aload_n 1, 1) := dq_at zd_dL_law_886 14 rfl
theorem dL_law_907 : decode cL_law 907 = .ok (.aload_n 0, 1) := dq_at zd_dL_law_886 15 rfl
theorem dL_law_908 : decode cL_law 908 = .ok (.iload 4, 2) := dq_at zd_dL_law_886 16 rfl
theorem dL_law_910 : decode cL_law 910 = .ok (.iconst 1, 1) := dq_at zd_dL_law_886 17 rfl
theorem dL_law_911 : decode cL_law 911 = .ok (.iadd, 1) := dq_at zd_dL_law_886 18 rfl
theorem dL_law_912 : decode cL_law 912 = .ok (.iaload, 1) := dq_at zd_dL_law_886 19 rfl
theorem dL_law_913 : decode cL_law 913 = .ok (.invokevirtual 104, 3) := dq_at zd_dL_law_886 20 rfl
theorem zd_dL_law_916 : dq cL_law [(916, .pop, 1), (917, .aload_n 2, 1), (918, .aload_n 0, 1), (919, .iload 4, 2), (921, .iconst 1, 1), (922, .iadd, 1), (923, .iaload, 1), (924, .invokevirtual 107, 3), (927, .pop, 1), (928, .goto 598, 3), (931, .aload_n 1, 1), (932, .aload_n 0, 1), (933, .iload 4, 2), (935, .iconst 1, 1), (936, .iadd, 1), (937, .iaload, 1), (938, .aload_n 0, 1), (939, .iload 4, 2), (941, .iconst 2, 1), (942, .iadd, 1), (943, .iaload, 1)] = true := by decide +kernel
theorem dL_law_916 : decode cL_law 916 = .ok (.pop, 1) := dq_at zd_dL_law_916 0 rfl
theorem dL_law_917 : decode cL_law 917 = .ok (.aload_n 2, 1) := dq_at zd_dL_law_916 1 rfl
theorem dL_law_918 : decode cL_law 918 = .ok (.aload_n 0, 1) := dq_at zd_dL_law_916 2 rfl
theorem dL_law_919 : decode cL_law 919 = .ok (.iload 4, 2) := dq_at zd_dL_law_916 3 rfl
theorem dL_law_921 : decode cL_law 921 = .ok (.iconst 1, 1) := dq_at zd_dL_law_916 4 rfl
theorem dL_law_922 : decode cL_law 922 = .ok (.iadd, 1) := dq_at zd_dL_law_916 5 rfl
theorem dL_law_923 : decode cL_law 923 = .ok (.iaload, 1) := dq_at zd_dL_law_916 6 rfl
theorem dL_law_924 : decode cL_law 924 = .ok (.invokevirtual 107, 3) := dq_at zd_dL_law_916 7 rfl
theorem dL_law_927 : decode cL_law 927 = .ok (.pop, 1) := dq_at zd_dL_law_916 8 rfl
theorem dL_law_928 : decode cL_law 928 = .ok (.goto 598, 3) := dq_at zd_dL_law_916 9 rfl
theorem dL_law_931 : decode cL_law 931 = .ok (.aload_n 1, 1) := dq_at zd_dL_law_916 10 rfl
theorem dL_law_932 : decode cL_law 932 = .ok (.aload_n 0, 1) := dq_at zd_dL_law_916 11 rfl
theorem dL_law_933 : decode cL_law 933 = .ok (.iload 4, 2) := dq_at zd_dL_law_916 12 rfl
theorem dL_law_935 : decode cL_law 935 = .ok (.iconst 1, 1) := dq_at zd_dL_law_916 13 rfl
theorem dL_law_936 : decode cL_law 936 = .ok (.iadd, 1) := dq_at zd_dL_law_916 14 rfl
theorem dL_law_937 : decode cL_law 937 = .ok (.iaload, 1) := dq_at zd_dL_law_916 15 rfl
theorem dL_law_938 : decode cL_law 938 = .ok (.aload_n 0, 1) := dq_at zd_dL_law_916 16 rfl
theorem dL_law_939 : decode cL_law 939 = .ok (.iload 4, 2) := dq_at zd_dL_law_916 17 rfl
theorem dL_law_941 : decode cL_law 941 = .ok (.iconst 2, 1) := dq_at zd_dL_law_916 18 rfl
theorem dL_law_942 : decode cL_law 942 = .ok (.iadd, 1) := dq_at zd_dL_law_916 19 rfl
theorem dL_law_943 : decode cL_law 943 = .ok (.iaload, 1) := dq_at zd_dL_law_916 20 rfl
theorem zd_dL_law_944 : dq cL_law [(944, .invokevirtual 108, 3), (947, .pop, 1), (948, .aload_n 2, 1), (949, .aload_n 0, 1), (950, .iload 4, 2), (952, .iconst 1, 1), (953, .iadd, 1), (954, .iaload, 1), (955, .aload_n 0, 1), (956, .iload 4, 2), (958, .iconst 2, 1), (959, .iadd, 1), (960, .iaload, 1), (961, .invokevirtual 111, 3), (964, .pop, 1), (965, .goto 561, 3), (968, .aload_n 1, 1), (969, .aload_n 0, 1), (970, .iload 4, 2), (972, .iconst 1, 1), (973, .iadd, 1)] = true := by decide +kernel
theorem dL_law_944 : decode cL_law 944 = .ok (.invokevirtual 108, 3) := dq_at zd_dL_law_944 0 rfl
theorem dL_law_947 : decode cL_law 947 = .ok (.pop, 1) := dq_at zd_dL_law_944 1 rfl
theorem dL_law_948 : decode cL_law 948 = .ok (.aload_n 2, 1) := dq_at zd_dL_law_944 2 rfl
theorem dL_law_949 : decode cL_law 949 = .ok (.aload_n 0, 1) := dq_at zd_dL_law_944 3 rfl
theorem dL_law_950 : decode cL_law 950 = .ok (.iload 4, 2) := dq_at zd_dL_law_944 4 rfl
theorem dL_law_952 : decode cL_law 952 = .ok (.iconst 1, 1) := dq_at zd_dL_law_944 5 rfl
theorem dL_law_953 : decode cL_law 953 = .ok (.iadd, 1) := dq_at zd_dL_law_944 6 rfl
theorem dL_law_954 : decode cL_law 954 = .ok (.iaload, 1) := dq_at zd_dL_law_944 7 rfl
theorem dL_law_955 : decode cL_law 955 = .ok (.aload_n 0, 1) := dq_at zd_dL_law_944 8 rfl
theorem dL_law_956 : decode cL_law 956 = .ok (.iload 4, 2) := dq_at zd_dL_law_944 9 rfl
theorem dL_law_958 : decode cL_law 958 = .ok (.iconst 2, 1) := dq_at zd_dL_law_944 10 rfl
theorem dL_law_959 : decode cL_law 959 = .ok (.iadd, 1) := dq_at zd_dL_law_944 11 rfl
theorem dL_law_960 : decode cL_law 960 = .ok (.iaload, 1) := dq_at zd_dL_law_944 12 rfl
theorem dL_law_961 : decode cL_law 961 = .ok (.invokevirtual 111, 3) := dq_at zd_dL_law_944 13 rfl
theorem dL_law_964 : decode cL_law 964 = .ok (.pop, 1) := dq_at zd_dL_law_944 14 rfl
theorem dL_law_965 : decode cL_law 965 = .ok (.goto 561, 3) := dq_at zd_dL_law_944 15 rfl
theorem dL_law_968 : decode cL_law 968 = .ok (.aload_n 1, 1) := dq_at zd_dL_law_944 16 rfl
theorem dL_law_969 : decode cL_law 969 = .ok (.aload_n 0, 1) := dq_at zd_dL_law_944 17 rfl
theorem dL_law_970 : decode cL_law 970 = .ok (.iload 4, 2) := dq_at zd_dL_law_944 18 rfl
theorem dL_law_972 : decode cL_law 972 = .ok (.iconst 1, 1) := dq_at zd_dL_law_944 19 rfl
theorem dL_law_973 : decode cL_law 973 = .ok (.iadd, 1) := dq_at zd_dL_law_944 20 rfl
theorem zd_dL_law_974 : dq cL_law [(974, .iaload, 1), (975, .aload_n 0, 1), (976, .iload 4, 2), (978, .iconst 2, 1), (979, .iadd, 1), (980, .iaload, 1), (981, .aload_n 0, 1), (982, .iload 4, 2), (984, .iconst 3, 1), (985, .iadd, 1), (986, .iaload, 1), (987, .invokevirtual 112, 3), (990, .pop, 1), (991, .aload_n 2, 1), (992, .aload_n 0, 1), (993, .iload 4, 2), (995, .iconst 1, 1), (996, .iadd, 1), (997, .iaload, 1), (998, .aload_n 0, 1), (999, .iload 4, 2)] = true := by decide +kernel
theorem dL_law_974 : decode cL_law 974 = .ok (.iaload, 1) := dq_at zd_dL_law_974 0 rfl
theorem dL_law_975 : decode cL_law 975 = .ok (.aload_n 0, 1) := dq_at zd_dL_law_974 1 rfl
theorem dL_law_976 : decode cL_law 976 = .ok (.iload 4, 2) := dq_at zd_dL_law_974 2 rfl
theorem dL_law_978 : decode cL_law 978 = .ok (.iconst 2, 1) := dq_at zd_dL_law_974 3 rfl
theorem dL_law_979 : decode cL_law 979 = .ok (.iadd, 1) := dq_at zd_dL_law_974 4 rfl
theorem dL_law_980 : decode cL_law 980 = .ok (.iaload, 1) := dq_at zd_dL_law_974 5 rfl
theorem dL_law_981 : decode cL_law 981 = .ok (.aload_n 0, 1) := dq_at zd_dL_law_974 6 rfl
theorem dL_law_982 : decode cL_law 982 = .ok (.iload 4, 2) := dq_at zd_dL_law_974 7 rfl
theorem dL_law_984 : decode cL_law 984 = .ok (.iconst 3, 1) := dq_at zd_dL_law_974 8 rfl
theorem dL_law_985 : decode cL_law 985 = .ok (.iadd, 1) := dq_at zd_dL_law_974 9 rfl
theorem dL_law_986 : decode cL_law 986 = .ok (.iaload, 1) := dq_at zd_dL_law_974 10 rfl
theorem dL_law_987 : decode cL_law 987 = .ok (.invokevirtual 112, 3) := dq_at zd_dL_law_974 11 rfl
theorem dL_law_990 : decode cL_law 990 = .ok (.pop, 1) := dq_at zd_dL_law_974 12 rfl
theorem dL_law_991 : decode cL_law 991 = .ok (.aload_n 2, 1) := dq_at zd_dL_law_974 13 rfl
theorem dL_law_992 : decode cL_law 992 = .ok (.aload_n 0, 1) := dq_at zd_dL_law_974 14 rfl
theorem dL_law_993 : decode cL_law 993 = .ok (.iload 4, 2) := dq_at zd_dL_law_974 15 rfl
theorem dL_law_995 : decode cL_law 995 = .ok (.iconst 1, 1) := dq_at zd_dL_law_974 16 rfl
theorem dL_law_996 : decode cL_law 996 = .ok (.iadd, 1) := dq_at zd_dL_law_974 17 rfl
theorem dL_law_997 : decode cL_law 997 = .ok (.iaload, 1) := dq_at zd_dL_law_974 18 rfl
theorem dL_law_998 : decode cL_law 998 = .ok (.aload_n 0, 1) := dq_at zd_dL_law_974 19 rfl
theorem dL_law_999 : decode cL_law 999 = .ok (.iload 4, 2) := dq_at zd_dL_law_974 20 rfl
theorem zd_dL_law_1001 : dq cL_law [(1001, .iconst 2, 1), (1002, .iadd, 1), (1003, .iaload, 1), (1004, .aload_n 0, 1), (1005, .iload 4, 2), (1007, .iconst 3, 1), (1008, .iadd, 1), (1009, .iaload, 1), (1010, .invokevirtual 115, 3), (1013, .pop, 1), (1014, .goto 512, 3), (1017, .aload_n 1, 1), (1018, .aload_n 0, 1), (1019, .iload 4, 2), (1021, .iconst 1, 1), (1022, .iadd, 1), (1023, .iaload, 1), (1024, .aload_n 0, 1), (1025, .iload 4, 2), (1027, .iconst 2, 1), (1028, .iadd, 1)] = true := by decide +kernel
theorem dL_law_1001 : decode cL_law 1001 = .ok (.iconst 2, 1) := dq_at zd_dL_law_1001 0 rfl
theorem dL_law_1002 : decode cL_law 1002 = .ok (.iadd, 1) := dq_at zd_dL_law_1001 1 rfl
theorem dL_law_1003 : decode cL_law 1003 = .ok (.iaload, 1) := dq_at zd_dL_law_1001 2 rfl
theorem dL_law_1004 : decode cL_law 1004 = .ok (.aload_n 0, 1) := dq_at zd_dL_law_1001 3 rfl
theorem dL_law_1005 : decode cL_law 1005 = .ok (.iload 4, 2) := dq_at zd_dL_law_1001 4 rfl
theorem dL_law_1007 : decode cL_law 1007 = .ok (.iconst 3, 1) := dq_at zd_dL_law_1001 5 rfl
theorem dL_law_1008 : decode cL_law 1008 = .ok (.iadd, 1) := dq_at zd_dL_law_1001 6 rfl
theorem dL_law_1009 : decode cL_law 1009 = .ok (.iaload, 1) := dq_at zd_dL_law_1001 7 rfl
theorem dL_law_1010 : decode cL_law 1010 = .ok (.invokevirtual 115, 3) := dq_at zd_dL_law_1001 8 rfl
theorem dL_law_1013 : decode cL_law 1013 = .ok (.pop, 1) := dq_at zd_dL_law_1001 9 rfl
theorem dL_law_1014 : decode cL_law 1014 = .ok (.goto 512, 3) := dq_at zd_dL_law_1001 10 rfl
theorem dL_law_1017 : decode cL_law 1017 = .ok (.aload_n 1, 1) := dq_at zd_dL_law_1001 11 rfl
theorem dL_law_1018 : decode cL_law 1018 = .ok (.aload_n 0, 1) := dq_at zd_dL_law_1001 12 rfl
theorem dL_law_1019 : decode cL_law 1019 = .ok (.iload 4, 2) := dq_at zd_dL_law_1001 13 rfl
theorem dL_law_1021 : decode cL_law 1021 = .ok (.iconst 1, 1) := dq_at zd_dL_law_1001 14 rfl
theorem dL_law_1022 : decode cL_law 1022 = .ok (.iadd, 1) := dq_at zd_dL_law_1001 15 rfl
theorem dL_law_1023 : decode cL_law 1023 = .ok (.iaload, 1) := dq_at zd_dL_law_1001 16 rfl
theorem dL_law_1024 : decode cL_law 1024 = .ok (.aload_n 0, 1) := dq_at zd_dL_law_1001 17 rfl
theorem dL_law_1025 : decode cL_law 1025 = .ok (.iload 4, 2) := dq_at zd_dL_law_1001 18 rfl
theorem dL_law_1027 : decode cL_law 1027 = .ok (.iconst 2, 1) := dq_at zd_dL_law_1001 19 rfl
theorem dL_law_1028 : decode cL_law 1028 = .ok (.iadd, 1) := dq_at zd_dL_law_1001 20 rfl
theorem zd_dL_law_1029 : dq cL_law [(1029, .iaload, 1), (1030, .aload_n 0, 1), (1031, .iload 4, 2), (1033, .iconst 3, 1), (1034, .iadd, 1), (1035, .iaload, 1), (1036, .invokevirtual 116, 3), (1039, .pop, 1), (1040, .aload_n 2, 1), (1041, .aload_n 0, 1), (1042, .iload 4, 2), (1044, .iconst 1, 1), (1045, .iadd, 1), (1046, .iaload, 1), (1047, .aload_n 0, 1), (1048, .iload 4, 2)] = true := by decide +kernel
theorem dL_law_1029 : decode cL_law 1029 = .ok (.iaload, 1) := dq_at zd_dL_law_1029 0 rfl
theorem dL_law_1030 : decode cL_law 1030 = .ok (.aload_n 0, 1) := dq_at zd_dL_law_1029 1 rfl
theorem dL_law_1031 : decode cL_law 1031 = .ok (.iload 4, 2) := dq_at zd_dL_law_1029 2 rfl
theorem dL_law_1033 : decode cL_law 1033 = .ok (.iconst 3, 1) := dq_at zd_dL_law_1029 3 rfl
theorem dL_law_1034 : decode cL_law 1034 = .ok (.iadd, 1) := dq_at zd_dL_law_1029 4 rfl
theorem dL_law_1035 : decode cL_law 1035 = .ok (.iaload, 1) := dq_at zd_dL_law_1029 5 rfl
theorem dL_law_1036 : decode cL_law 1036 = .ok (.invokevirtual 116, 3) := dq_at zd_dL_law_1029 6 rfl
theorem dL_law_1039 : decode cL_law 1039 = .ok (.pop, 1) := dq_at zd_dL_law_1029 7 rfl
theorem dL_law_1040 : decode cL_law 1040 = .ok (.aload_n 2, 1) := dq_at zd_dL_law_1029 8 rfl
theorem dL_law_1041 : decode cL_law 1041 = .ok (.aload_n 0, 1) := dq_at zd_dL_law_1029 9 rfl
theorem dL_law_1042 : decode cL_law 1042 = .ok (.iload 4, 2) := dq_at zd_dL_law_1029 10 rfl
theorem dL_law_1044 : decode cL_law 1044 = .ok (.iconst 1, 1) := dq_at zd_dL_law_1029 11 rfl
theorem dL_law_1045 : decode cL_law 1045 = .ok (.iadd, 1) := dq_at zd_dL_law_1029 12 rfl
theorem dL_law_1046 : decode cL_law 1046 = .ok (.iaload, 1) := dq_at zd_dL_law_1029 13 rfl
theorem dL_law_1047 : decode cL_law 1047 = .ok (.aload_n 0, 1) := dq_at zd_dL_law_1029 14 rfl
theorem dL_law_1048 : decode cL_law 1048 = .ok (.iload 4, 2) := dq_at zd_dL_law_1029 15 rfl
