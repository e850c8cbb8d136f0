theorem dL_law_886 : decode cL_law 886 = .ok (.aload_n 2, 1) := zd_dL_law_874.1.2.2.1.1
theorem dL_law_887 : decode cL_law 887 = .ok (.aload_n 0, 1) := zd_dL_law_874.1.2.2.1.2
theorem dL_law_888 : decode cL_law 888 = .ok (.iload 4, 2) := zd_dL_law_874.1.2.2.2
theorem dL_law_890 : decode cL_law 890 = .ok (.iconst 1, 1) := zd_dL_law_874.2.1.1.1.1
theorem dL_law_891 : decode cL_law 891 = .ok (.iadd, 1) := zd_dL_law_874.2.1.1.1.2
theorem dL_law_892 : decode cL_law 892 = .ok (.iaload, 1) := zd_dL_law_874.2.1.1.2
theorem dL_law_893 : decode cL_law 893 = .ok (.aload_n 0, 1) := zd_dL_law_874.2.1.2.1.1
theorem dL_law_894 : decode cL_law 894 = .ok (.iload 4, 2) := zd_dL_law_874.2.1.2.1.2
theorem dL_law_896 : decode cL_law 896 = .ok (.iconst 2, 1) := zd_dL_law_874.2.1.2.2
theorem dL_law_897 : decode cL_law 897 = .ok (.iadd, 1) := zd_dL_law_874.2.2.1.1.1
theorem dL_law_898 : decode cL_law 898 = .ok (.iaload, 1) := zd_dL_law_874.2.2.1.1.2
theorem dL_law_899 : decode cL_law 899 = .ok (.invokevirtual 103, 3) := zd_dL_law_874.2.2.1.2
theorem dL_law_902 : decode cL_law 902 = .ok (.pop, 1) := zd_dL_law_874.2.2.2.1.1
theorem dL_law_903 : decode cL_law 903 = .ok (.goto 623, 3) := zd_dL_law_874.2.2.2.1.2
theorem dL_law_906 : decode cL_law 906 = .ok (.aload_n 1, 1) := zd_dL_law_874.2.2.2.2
theorem zd_dL_law_907 : ((((((decode cL_law 907 = .ok (.aload_n 0, 1)) ∧ (decode cL_law 908 = .ok (.iload 4, 2))) ∧ (decode cL_law 910 = .ok (.iconst 1, 1))) ∧ (((decode cL_law 911 = .ok (.iadd, 1)) ∧ (decode cL_law 912 = .ok (.iaload, 1))) ∧ (decode cL_law 913 = .ok (.invokevirtual 104, 3)))) ∧ ((((decode cL_law 916 = .ok (.pop, 1)) ∧ (decode cL_law 917 = .ok (.aload_n 2, 1))) ∧ (decode cL_law 918 = .ok (.aload_n 0, 1))) ∧ (((decode cL_law 919 = .ok (.iload 4, 2)) ∧ (decode cL_law 921 = .ok (.iconst 1, 1))) ∧ (decode cL_law 922 = .ok (.iadd, 1))))) ∧ (((((decode cL_law 923 = .ok (.iaload, 1)) ∧ (decode cL_law 924 = .ok (.invokevirtual 107, 3))) ∧ (decode cL_law 927 = .ok (.pop, 1))) ∧ (((decode cL_law 928 = .ok (.goto 598, 3)) ∧ (decode cL_law 931 = .ok (.aload_n 1, 1))) ∧ (decode cL_law 932 = .ok (.aload_n 0, 1)))) ∧ ((((decode cL_law 933 = .ok (.iload 4, 2)) ∧ (decode cL_law 935 = .ok (.iconst 1, 1))) ∧ (decode cL_law 936 = .ok (.iadd, 1))) ∧ (((decode cL_law 937 = .ok (.iaload, 1)) ∧ (decode cL_law 938 = .ok (.aload_n 0, 1))) ∧ (decode cL_law 939 = .ok (.iload 4, 2)))))) := by decide +kernel
theorem dL_law_907 : decode cL_law 907 = .ok (.aload_n 0, 1) := zd_dL_law_907.1.1.1.1.1
theorem dL_law_908 : decode cL_law 908 = .ok (.iload 4, 2) := zd_dL_law_907.1.1.1.1.2
theorem dL_law_910 : decode cL_law 910 = .ok (.iconst 1, 1) := zd_dL_law_907.1.1.1.2
theorem dL_law_911 : decode cL_law 911 = .ok (.iadd, 1) := zd_dL_law_907.1.1.2.1.1
theorem dL_law_912 : decode cL_law 912 = .ok (.iaload, 1) := zd_dL_law_907.1.1.2.1.2
theorem dL_law_913 : decode cL_law 913 = .ok (.invokevirtual 104, 3) := zd_dL_law_907.1.1.2.2
theorem dL_law_916 : decode cL_law 916 = .ok (.pop, 1) := zd_dL_law_907.1.2.1.1.1
theorem dL_law_917 : decode cL_law 917 = .ok (.aload_n 2, 1) := zd_dL_law_907.1.2.1.1.2
theorem dL_law_918 : decode cL_law 918 = .ok (.aload_n 0, 1) := zd_dL_law_907.1.2.1.2
theorem dL_law_919 : decode cL_law 919 = .ok (.iload 4, 2) := zd_dL_law_907.1.2.2.1.1
theorem dL_law_921 : decode cL_law 921 = .ok (.iconst 1, 1) := zd_dL_law_907.1.2.2.1.2
theorem dL_law_922 : decode cL_law 922 = .ok (.iadd, 1) := zd_dL_law_907.1.2.2.2
theorem dL_law_923 : decode cL_law 923 = .ok (.iaload, 1) := zd_dL_law_907.2.1.1.1.1
theorem dL_law_924 : decode cL_law 924 = .ok (.invokevirtual 107, 3) := zd_dL_law_907.2.1.1.1.2
theorem dL_law_927 : decode cL_law 927 = .ok (.pop, 1) := zd_dL_law_907.2.1.1.2
theorem dL_law_928 : decode cL_law 928 = .ok (.goto 598, 3) := zd_dL_law_907.2.1.2.1.1
theorem dL_law_931 : decode cL_law 931 = .ok (.aload_n 1, 1) := zd_dL_law_907.2.1.2.1.2
theorem dL_law_932 : decode cL_law 932 = .ok (.aload_n 0, 1) := zd_dL_law_907.2.1.2.2
theorem dL_law_933 : decode cL_law 933 = .ok (.iload 4, 2) := zd_dL_law_907.2.2.1.1.1
theorem dL_law_935 : decode cL_law 935 = .ok (.iconst 1, 1) := zd_dL_law_907.2.2.1.1.2
theorem dL_law_936 : decode cL_law 936 = .ok (.iadd, 1) := zd_dL_law_907.2.2.1.2
theorem dL_law_937 : decode cL_law 937 = .ok (.iaload, 1) := zd_dL_law_907.2.2.2.1.1
theorem dL_law_938 : decode cL_law 938 = .ok (.aload_n 0, 1) := zd_dL_law_907.2.2.2.1.2
theorem dL_law_939 : decode cL_law 939 = .ok (.iload 4, 2) := zd_dL_law_907.2.2.2.2
theorem zd_dL_law_941 : ((((((decode cL_law 941 = .ok (.iconst 2, 1)) ∧ (decode cL_law 942 = .ok (.iadd, 1))) ∧ (decode cL_law 943 = .ok (.iaload, 1))) ∧ (((decode cL_law 944 = .ok (.invokevirtual 108, 3)) ∧ (decode cL_law 947 = .ok (.pop, 1))) ∧ (decode cL_law 948 = .ok (.aload_n 2, 1)))) ∧ ((((decode cL_law 949 = .ok (.aload_n 0, 1)) ∧ (decode cL_law 950 = .ok (.iload 4, 2))) ∧ (decode cL_law 952 = .ok (.iconst 1, 1))) ∧ (((decode cL_law 953 = .ok (.iadd, 1)) ∧ (decode cL_law 954 = .ok (.iaload, 1))) ∧ (decode cL_law 955 = .ok (.aload_n 0, 1))))) ∧ (((((decode cL_law 956 = .ok (.iload 4, 2)) ∧ (decode cL_law 958 = .ok (.iconst 2, 1))) ∧ (decode cL_law 959 = .ok (.iadd, 1))) ∧ (((decode cL_law 960 = .ok (.iaload, 1)) ∧ (decode cL_law 961 = .ok (.invokevirtual 111, 3))) ∧ (decode cL_law 964 = .ok (.pop, 1)))) ∧ ((((decode cL_law 965 = .ok (.goto 561, 3)) ∧ (decode cL_law 968 = .ok (.aload_n 1, 1))) ∧ (decode cL_law 969 = .ok (.aload_n 0, 1))) ∧ (((decode cL_law 970 = .ok (.iload 4, 2)) ∧ (decode cL_law 972 = .ok (.iconst 1, 1))) ∧ (decode cL_law 973 = .ok (.iadd, 1)))))) := by decide +kernel
theorem dL_law_941 : decode cL_law 941 = .ok (.iconst 2, 1) := zd_dL_law_941.1.1.1.1.1
theorem dL_law_942 : decode cL_law 942 = .ok (.iadd, 1) := zd_dL_law_941.1.1.1.1.2
theorem dL_law_943 : decode cL_law 943 = .ok (.iaload, 1) := zd_dL_law_941.1.1.1.2
theorem dL_law_944 : decode cL_law 944 = .ok (.invokevirtual 108, 3) := zd_dL_law_941.1.1.2.1.1
theorem dL_law_947 : decode cL_law 947 = .ok (.pop, 1) := zd_dL_law_941.1.1.2.1.2
theorem dL_law_948 : decode cL_law 948 = .ok (.aload_n 2, 1) := zd_dL_law_941.1.1.2.2
theorem dL_law_949 : decode cL_law 949 = .ok (.aload_n 0, 1) := zd_dL_law_941.1.2.1.1.1
theorem dL_law_950 : decode cL_law 950 = .ok (.iload 4, 2) := zd_dL_law_941.1.2.1.1.2
theorem dL_law_952 : decode cL_law 952 = .ok (.iconst 1, 1) := zd_dL_law_941.1.2.1.2
theorem dL_law_953 : decode cL_law 953 = .ok (.iadd, 1) := zd_dL_law_941.1.2.2.1.1
theorem dL_law_954 : decode cL_law 954 = .ok (.iaload, 1) := zd_dL_law_941.1.2.2.1.2
theorem dL_law_955 : decode cL_law 955 = .ok (.aload_n 0, 1) := zd_dL_law_941.1.2.2.2
theorem dL_law_956 : decode cL_law 956 = .ok (.iload 4, 2) := zd_dL_law_941.2.1.1.1.1
theorem dL_law_958 : decode cL_law 958 = .ok (.iconst 2, 1) := zd_dL_law_941.2.1.1.1.2
theorem dL_law_959 : decode cL_law 959 = .ok (.iadd, 1) := zd_dL_law_941.2.1.1.2
theorem dL_law_960 : decode cL_law 960 = .ok (.iaload, 1) := zd_dL_law_941.2.1.2.1.1
theorem dL_law_961 : decode cL_law 961 = .ok (.invokevirtual 111, 3) := zd_dL_law_941.2.1.2.1.2
theorem dL_law_964 : decode cL_law 964 = .ok (.pop, 1) := zd_dL_law_941.2.1.2.2
theorem dL_law_965 : decode cL_law 965 = .ok (.goto 561, 3) := zd_dL_law_941.2.2.1.1.1
theorem dL_law_968 : decode cL_law 968 = .ok (.aload_n 1, 1) := zd_dL_law_941.2.2.1.1.2
theorem dL_law_969 : decode cL_law 969 = .ok (.aload_n 0, 1) := zd_dL_law_941.2.2.1.2
theorem dL_law_970 : decode cL_law 970 = .ok (.iload 4, 2) := zd_dL_law_941.2.2.2.1.1
theorem dL_law_972 : decode cL_law 972 = .ok (.iconst 1, 1) := zd_dL_law_941.2.2.2.1.2
theorem dL_law_973 : decode cL_law 973 = .ok (.iadd, 1) := zd_dL_law_941.2.2.2.2
theorem zd_dL_law_974 : ((((((decode cL_law 974 = .ok (.iaload, 1)) ∧ (decode cL_law 975 = .ok (.aload_n 0, 1))) ∧ (decode cL_law 976 = .ok (.iload 4, 2))) ∧ (((decode cL_law 978 = .ok (.iconst 2, 1)) ∧ (decode cL_law 979 = .ok (.iadd, 1))) ∧ (decode cL_law 980 = .ok (.iaload, 1)))) ∧ ((((decode cL_law 981 = .ok (.aload_n 0, 1)) ∧ (decode cL_law 982 = .ok (.iload 4, 2))) ∧ (decode cL_law 984 = .ok (.iconst 3, 1))) ∧ (((decode cL_law 985 = .ok (.iadd, 1)) ∧ (decode cL_law 986 = .ok (.iaload, 1))) ∧ (decode cL_law 987 = .ok (.invokevirtual 112, 3))))) ∧ (((((decode cL_law 990 = .ok (.pop, 1)) ∧ (decode cL_law 991 = .ok (.aload_n 2, 1))) ∧ (decode cL_law 992 = .ok (.aload_n 0, 1))) ∧ (((decode cL_law 993 = .ok (.iload 4, 2)) ∧ (decode cL_law 995 = .ok (.iconst 1, 1))) ∧ (decode cL_law 996 = .ok (.iadd, 1)))) ∧ ((((decode cL_law 997 = .ok (.iaload, 1)) ∧ (decode cL_law 998 = .ok (.aload_n 0, 1))) ∧ (decode cL_law 999 = .ok (.iload 4, 2))) ∧ (((decode cL_law 1001 = .ok (.iconst 2, 1)) ∧ (decode cL_law 1002 = .ok (.iadd, 1))) ∧ (decode cL_law 1003 = .ok (.iaload, 1)))))) := by decide +kernel
theorem dL_law_974 : decode cL_law 974 = .ok (.iaload, 1) := zd_dL_law_974.1.1.1.1.1
theorem dL_law_975 : decode cL_law 975 = .ok (.aload_n 0, 1) := zd_dL_law_974.1.1.1.1.2
theorem dL_law_976 : decode cL_law 976 = .ok (.iload 4, 2) := zd_dL_law_974.1.1.1.2
theorem dL_law_978 : decode cL_law 978 = .ok (.iconst 2, 1) := zd_dL_law_974.1.1.2.1.1
theorem dL_law_979 : decode cL_law 979 = .ok (.iadd, 1) := zd_dL_law_974.1.1.2.1.2
theorem dL_law_980 : decode cL_law 980 = .ok (.iaload, 1) := zd_dL_law_974.1.1.2.2
theorem dL_law_981 : decode cL_law 981 = .ok (.aload_n 0, 1) := zd_dL_law_974.1.2.1.1.1
theorem dL_law_982 : decode cL_law 982 = .ok (.iload 4, 2) := zd_dL_law_974.1.2.1.1.2
theorem dL_law_984 : decode cL_law 984 = .ok (.iconst 3, 1) := zd_dL_law_974.1.2.1.2
theorem dL_law_985 : decode cL_law 985 = .ok (.iadd, 1) := zd_dL_law_974.1.2.2.1.1
theorem dL_law_986 : decode cL_law 986 = .ok (.iaload, 1) := zd_dL_law_974.1.2.2.1.2
theorem dL_law_987 : decode cL_law 987 = .ok (.invokevirtual 112, 3) := zd_dL_law_974.1.2.2.2
theorem dL_law_990 : decode cL_law 990 = .ok (.pop, 1) := zd_dL_law_974.2.1.1.1.1
theorem dL_law_991 : decode cL_law 991 = .ok (.aload_n 2, 1) := zd_dL_law_974.2.1.1.1.2
theorem dL_law_992 : decode cL_law 992 = .ok (.aload_n 0, 1) := zd_dL_law_974.2.1.1.2
theorem dL_law_993 : decode cL_law 993 = .ok (.iload 4, 2) := zd_dL_law_974.2.1.2.1.1
theorem dL_law_995 : decode cL_law 995 = .ok (.iconst 1, 1) := zd_dL_law_974.2.1.2.1.2
theorem dL_law_996 : decode cL_law 996 = .ok (.iadd, 1) := zd_dL_law_974.2.1.2.2
theorem dL_law_997 : decode cL_law 997 = .ok (.iaload, 1) := zd_dL_law_974.2.2.1.1.1
theorem dL_law_998 : decode cL_law 998 = .ok (.aload_n 0, 1) := zd_dL_law_974.2.2.1.1.2
theorem dL_law_999 : decode cL_law 999 = .ok (.iload 4, 2) := zd_dL_law_974.2.2.1.2
theorem dL_law_1001 : decode cL_law 1001 = .ok (.iconst 2, 1) := zd_dL_law_974.2.2.2.1.1
theorem dL_law_1002 : decode cL_law 1002 = .ok (.iadd, 1) := zd_dL_law_974.2.2.2.1.2
theorem dL_law_1003 : decode cL_law 1003 = .ok (.iaload, 1) := zd_dL_law_974.2.2.2.2
theorem zd_dL_law_1004 : ((((((decode cL_law 1004 = .ok (.aload_n 0, 1)) ∧ (decode cL_law 1005 = .ok (.iload 4, 2))) ∧ (decode cL_law 1007 = .ok (.iconst 3, 1))) ∧ (((decode cL_law 1008 = .ok (.iadd, 1)) ∧ (decode cL_law 1009 = .ok (.iaload, 1))) ∧ (decode cL_law 1010 = .ok (.invokevirtual 115, 3)))) ∧ ((((decode cL_law 1013 = .ok (.pop, 1)) ∧ (decode cL_law 1014 = .ok (.goto 512, 3))) ∧ (decode cL_law 1017 = .ok (.aload_n 1, 1))) ∧ (((decode cL_law 1018 = .ok (.aload_n 0, 1)) ∧ (decode cL_law 1019 = .ok (.iload 4, 2))) ∧ (decode cL_law 1021 = .ok (.iconst 1, 1))))) ∧ (((((decode cL_law 1022 = .ok (.iadd, 1)) ∧ (decode cL_law 1023 = .ok (.iaload, 1))) ∧ (decode cL_law 1024 = .ok (.aload_n 0, 1))) ∧ (((decode cL_law 1025 = .ok (.iload 4, 2)) ∧ (decode cL_law 1027 = .ok (.iconst 2, 1))) ∧ (decode cL_law 1028 = .ok (.iadd, 1)))) ∧ ((((decode cL_law 1029 = .ok (.iaload, 1)) ∧ (decode cL_law 1030 = .ok (.aload_n 0, 1))) ∧ (decode cL_law 1031 = .ok (.iload 4, 2))) ∧ (((decode cL_law 1033 = .ok (.iconst 3, 1)) ∧ (decode cL_law 1034 = .ok (.iadd, 1))) ∧ (decode cL_law 1035 = .ok (.iaload, 1)))))) := by decide +kernel
theorem dL_law_1004 : decode cL_law 1004 = .ok (.aload_n 0, 1) := zd_dL_law_1004.1.1.1.1.1
theorem dL_law_1005 : decode cL_law 1005 = .ok (.iload 4, 2) := zd_dL_law_1004.1.1.1.1.2
theorem dL_law_1007 : decode cL_law 1007 = .ok (.iconst 3, 1) := zd_dL_law_1004.1.1.1.2
theorem dL_law_1008 : decode cL_law 1008 = .ok (.iadd, 1) := zd_dL_law_1004.1.1.2.1.1
theorem dL_law_1009 : decode cL_law 1009 = .ok (.iaload, 1) := zd_dL_law_1004.1.1.2.1.2
theorem dL_law_1010 : decode cL_law 1010 = .ok (.invokevirtual 115, 3) := zd_dL_law_1004.1.1.2.2
theorem dL_law_1013 : decode cL_law 1013 = .ok (.pop, 1) := zd_dL_law_1004.1.2.1.1.1
theorem dL_law_1014 : decode cL_law 1014 = .ok (.goto 512, 3) := zd_dL_law_1004.1.2.1.1.2
theorem dL_law_1017 : decode cL_law 1017 = .ok (.aload_n 1, 1) := zd_dL_law_1004.1.2.1.2
theorem dL_law_1018 : decode cL_law 1018 = .ok (.aload_n 0, 1) := zd_dL_law_1004.1.2.2.1.1
theorem dL_law_1019 : decode cL_law 1019 = .ok (.iload 4, 2) := zd_dL_law_1004.1.2.2.1.2
theorem dL_law_1021 : decode cL_law 1021 = .ok (.iconst 1, 1) := zd_dL_law_1004.1.2.2.2
theorem dL_law_1022 : decode cL_law 1022 = .ok (.iadd, 1) := zd_dL_law_1004.2.1.1.1.1
theorem dL_law_1023 : decode cL_law 1023 = .ok (.iaload, 1) := zd_dL_law_1004.2.1.1.1.2
theorem dL_law_1024 : decode cL_law 1024 = .ok (.aload_n 0, 1) := zd_dL_law_1004.2.1.1.2
theorem dL_law_1025 : decode cL_law 1025 = .ok (.iload 4, 2) := zd_dL_law_1004.2.1.2.1.1
theorem dL_law_1027 : decode cL_law 1027 = .ok (.iconst 2, 1) := zd_dL_law_1004.2.1.2.1.2
theorem dL_law_1028 : decode cL_law 1028 = .ok (.iadd, 1) := zd_dL_law_1004.2.1.2.2
theorem dL_law_1029 : decode cL_law 1029 = .ok (.iaload, 1) := zd_dL_law_1004.2.2.1.1.1
theorem dL_law_1030 : decode cL_law 1030 = .ok (.aload_n 0, 1) := zd_dL_law_1004.2.2.1.1.2
theorem dL_law_1031 : decode cL_law 1031 = .ok (.iload 4, 2) := zd_dL_law_1004.2.2.1.2
theorem dL_law_1033 : decode cL_law 1033 = .ok (.iconst 3, 1) := zd_dL_law_1004.2.2.2.1.1
theorem dL_law_1034 : decode cL_law 1034 = .ok (.iadd, 1) := zd_dL_law_1004.2.2.2.1.2
theorem dL_law_1035 : decode cL_law 1035 = .ok (.iaload, 1) := zd_dL_law_1004.2.2.2.2
theorem zd_dL_law_1036 : ((((((decode cL_law 1036 = .ok (.invokevirtual 116, 3)) ∧ (decode cL_law 1039 = .ok (.pop, 1))) ∧ (decode cL_law 1040 = .ok (.aload_n 2, 1))) ∧ (((decode cL_law 1041 = .ok (.aload_n 0, 1)) ∧ (decode cL_law 1042 = .ok (.iload 4, 2))) ∧ (decode cL_law 1044 = .ok (.iconst 1, 1)))) ∧ ((((decode cL_law 1045 = .ok (.iadd, 1)) ∧ (decode cL_law 1046 = .ok (.iaload, 1))) ∧ (decode cL_law 1047 = .ok (.aload_n 0, 1))) ∧ (((decode cL_law 1048 = .ok (.iload 4, 2)) ∧ (decode cL_law 1050 = .ok (.iconst 2, 1))) ∧ (decode cL_law 1051 = .ok (.iadd, 1))))) ∧ (((((decode cL_law 1052 = .ok (.iaload, 1)) ∧ (decode cL_law 1053 = .ok (.aload_n 0, 1))) ∧ (decode cL_law 1054 = .ok (.iload 4, 2))) ∧ (((decode cL_law 1056 = .ok (.iconst 3, 1)) ∧ (decode cL_law 1057 = .ok (.iadd, 1))) ∧ (decode cL_law 1058 = .ok (.iaload, 1)))) ∧ ((((decode cL_law 1059 = .ok (.invokevirtual 119, 3)) ∧ (decode cL_law 1062 = .ok (.pop, 1))) ∧ (decode cL_law 1063 = .ok (.goto 463, 3))) ∧ (((decode cL_law 1066 = .ok (.aload_n 1, 1)) ∧ (decode cL_law 1067 = .ok (.aload_n 0, 1))) ∧ (decode cL_law 1068 = .ok (.iload 4, 2)))))) := by decide +kernel
theorem dL_law_1036 : decode cL_law 1036 = .ok (.invokevirtual 116, 3) := zd_dL_law_1036.1.1.1.1.1
theorem dL_law_1039 : decode cL_law 1039 = .ok (.pop, 1) := zd_dL_law_1036.1.1.1.1.2
theorem dL_law_1040 : decode cL_law 1040 = .ok (.aload_n 2, 1) := zd_dL_law_1036.1.1.1.2
theorem dL_law_1041 : decode cL_law 1041 = .ok (.aload_n 0, 1) := zd_dL_law_1036.1.1.2.1.1
theorem dL_law_1042 : decode cL_law 1042 = .ok (.iload 4, 2) := zd_dL_law_1036.1.1.2.1.2
theorem dL_law_1044 : decode cL_law 1044 = .ok (.iconst 1, 1) := zd_dL_law_1036.1.1.2.2
theorem dL_law_1045 : decode cL_law 1045 = .ok (.iadd, 1) := zd_dL_law_1036.1.2.1.1.1
theorem dL_law_1046 : decode cL_law 1046 = .ok (.iaload, 1) := zd_dL_law_1036.1.2.1.1.2
theorem dL_law_1047 : decode cL_law 1047 = .ok (.aload_n 0, 1) := zd_dL_law_1036.1.2.1.2
theorem dL_law_1048 : decode cL_law 1048 = .ok (.iload 4, 2) := zd_dL_law_1036.1.2.2.1.1
