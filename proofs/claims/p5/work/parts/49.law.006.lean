theorem zd_dL_law_1050 : dq cL_law [(1050, .iconst 2, 1), (1051, .iadd, 1), (1052, .iaload, 1), (1053, .aload_n 0, 1), (1054, .iload 4, 2), (1056, .iconst 3, 1), (1057, .iadd, 1), (1058, .iaload, 1), (1059, .invokevirtual 119, 3), (1062, .pop, 1), (1063, .goto 463, 3), (1066, .aload_n 1, 1), (1067, .aload_n 0, 1), (1068, .iload 4, 2), (1070, .iconst 1, 1), (1071, .iadd, 1), (1072, .iaload, 1), (1073, .aload_n 0, 1), (1074, .iload 4, 2), (1076, .iconst 2, 1), (1077, .iadd, 1), (1078, .iaload, 1), (1079, .aload_n 0, 1), (1080, .iload 4, 2)] = true := by decide +kernel
theorem dL_law_1050 : decode cL_law 1050 = .ok (.iconst 2, 1) := dq_at zd_dL_law_1050 0 rfl
theorem dL_law_1051 : decode cL_law 1051 = .ok (.iadd, 1) := dq_at zd_dL_law_1050 1 rfl
theorem dL_law_1052 : decode cL_law 1052 = .ok (.iaload, 1) := dq_at zd_dL_law_1050 2 rfl
theorem dL_law_1053 : decode cL_law 1053 = .ok (.aload_n 0, 1) := dq_at zd_dL_law_1050 3 rfl
theorem dL_law_1054 : decode cL_law 1054 = .ok (.iload 4, 2) := dq_at zd_dL_law_1050 4 rfl
theorem dL_law_1056 : decode cL_law 1056 = .ok (.iconst 3, 1) := dq_at zd_dL_law_1050 5 rfl
theorem dL_law_1057 : decode cL_law 1057 = .ok (.iadd, 1) := dq_at zd_dL_law_1050 6 rfl
theorem dL_law_1058 : decode cL_law 1058 = .ok (.iaload, 1) := dq_at zd_dL_law_1050 7 rfl
theorem dL_law_1059 : decode cL_law 1059 = .ok (.invokevirtual 119, 3) := dq_at zd_dL_law_1050 8 rfl
theorem dL_law_1062 : decode cL_law 1062 = .ok (.pop, 1) := dq_at zd_dL_law_1050 9 rfl
theorem dL_law_1063 : decode cL_law 1063 = .ok (.goto 463, 3) := dq_at zd_dL_law_1050 10 rfl
theorem dL_law_1066 : decode cL_law 1066 = .ok (.aload_n 1, 1) := dq_at zd_dL_law_1050 11 rfl
theorem dL_law_1067 : decode cL_law 1067 = .ok (.aload_n 0, 1) := dq_at zd_dL_law_1050 12 rfl
theorem dL_law_1068 : decode cL_law 1068 = .ok (.iload 4, 2) := dq_at zd_dL_law_1050 13 rfl
theorem dL_law_1070 : decode cL_law 1070 = .ok (.iconst 1, 1) := dq_at zd_dL_law_1050 14 rfl
theorem dL_law_1071 : decode cL_law 1071 = .ok (.iadd, 1) := dq_at zd_dL_law_1050 15 rfl
theorem dL_law_1072 : decode cL_law 1072 = .ok (.iaload, 1) := dq_at zd_dL_law_1050 16 rfl
theorem dL_law_1073 : decode cL_law 1073 = .ok (.aload_n 0, 1) := dq_at zd_dL_law_1050 17 rfl
theorem dL_law_1074 : decode cL_law 1074 = .ok (.iload 4, 2) := dq_at zd_dL_law_1050 18 rfl
theorem dL_law_1076 : decode cL_law 1076 = .ok (.iconst 2, 1) := dq_at zd_dL_law_1050 19 rfl
theorem dL_law_1077 : decode cL_law 1077 = .ok (.iadd, 1) := dq_at zd_dL_law_1050 20 rfl
theorem dL_law_1078 : decode cL_law 1078 = .ok (.iaload, 1) := dq_at zd_dL_law_1050 21 rfl
theorem dL_law_1079 : decode cL_law 1079 = .ok (.aload_n 0, 1) := dq_at zd_dL_law_1050 22 rfl
theorem dL_law_1080 : decode cL_law 1080 = .ok (.iload 4, 2) := dq_at zd_dL_law_1050 23 rfl
theorem zd_dL_law_1082 : dq cL_law [(1082, .iconst 3, 1), (1083, .iadd, 1), (1084, .iaload, 1), (1085, .invokevirtual 120, 3), (1088, .pop, 1), (1089, .aload_n 2, 1), (1090, .aload_n 0, 1), (1091, .iload 4, 2), (1093, .iconst 1, 1), (1094, .iadd, 1), (1095, .iaload, 1), (1096, .aload_n 0, 1), (1097, .iload 4, 2), (1099, .iconst 2, 1), (1100, .iadd, 1), (1101, .iaload, 1), (1102, .aload_n 0, 1), (1103, .iload 4, 2), (1105, .iconst 3, 1), (1106, .iadd, 1), (1107, .iaload, 1), (1108, .invokevirtual 123, 3), (1111, .pop, 1), (1112, .goto 414, 3)] = true := by decide +kernel
theorem dL_law_1082 : decode cL_law 1082 = .ok (.iconst 3, 1) := dq_at zd_dL_law_1082 0 rfl
theorem dL_law_1083 : decode cL_law 1083 = .ok (.iadd, 1) := dq_at zd_dL_law_1082 1 rfl
theorem dL_law_1084 : decode cL_law 1084 = .ok (.iaload, 1) := dq_at zd_dL_law_1082 2 rfl
theorem dL_law_1085 : decode cL_law 1085 = .ok (.invokevirtual 120, 3) := dq_at zd_dL_law_1082 3 rfl
theorem dL_law_1088 : decode cL_law 1088 = .ok (.pop, 1) := dq_at zd_dL_law_1082 4 rfl
theorem dL_law_1089 : decode cL_law 1089 = .ok (.aload_n 2, 1) := dq_at zd_dL_law_1082 5 rfl
theorem dL_law_1090 : decode cL_law 1090 = .ok (.aload_n 0, 1) := dq_at zd_dL_law_1082 6 rfl
theorem dL_law_1091 : decode cL_law 1091 = .ok (.iload 4, 2) := dq_at zd_dL_law_1082 7 rfl
theorem dL_law_1093 : decode cL_law 1093 = .ok (.iconst 1, 1) := dq_at zd_dL_law_1082 8 rfl
theorem dL_law_1094 : decode cL_law 1094 = .ok (.iadd, 1) := dq_at zd_dL_law_1082 9 rfl
theorem dL_law_1095 : decode cL_law 1095 = .ok (.iaload, 1) := dq_at zd_dL_law_1082 10 rfl
theorem dL_law_1096 : decode cL_law 1096 = .ok (.aload_n 0, 1) := dq_at zd_dL_law_1082 11 rfl
theorem dL_law_1097 : decode cL_law 1097 = .ok (.iload 4, 2) := dq_at zd_dL_law_1082 12 rfl
theorem dL_law_1099 : decode cL_law 1099 = .ok (.iconst 2, 1) := dq_at zd_dL_law_1082 13 rfl
theorem dL_law_1100 : decode cL_law 1100 = .ok (.iadd, 1) := dq_at zd_dL_law_1082 14 rfl
theorem dL_law_1101 : decode cL_law 1101 = .ok (.iaload, 1) := dq_at zd_dL_law_1082 15 rfl
theorem dL_law_1102 : decode cL_law 1102 = .ok (.aload_n 0, 1) := dq_at zd_dL_law_1082 16 rfl
theorem dL_law_1103 : decode cL_law 1103 = .ok (.iload 4, 2) := dq_at zd_dL_law_1082 17 rfl
theorem dL_law_1105 : decode cL_law 1105 = .ok (.iconst 3, 1) := dq_at zd_dL_law_1082 18 rfl
theorem dL_law_1106 : decode cL_law 1106 = .ok (.iadd, 1) := dq_at zd_dL_law_1082 19 rfl
theorem dL_law_1107 : decode cL_law 1107 = .ok (.iaload, 1) := dq_at zd_dL_law_1082 20 rfl
theorem dL_law_1108 : decode cL_law 1108 = .ok (.invokevirtual 123, 3) := dq_at zd_dL_law_1082 21 rfl
theorem dL_law_1111 : decode cL_law 1111 = .ok (.pop, 1) := dq_at zd_dL_law_1082 22 rfl
theorem dL_law_1112 : decode cL_law 1112 = .ok (.goto 414, 3) := dq_at zd_dL_law_1082 23 rfl
theorem zd_dL_law_1115 : dq cL_law [(1115, .aload_n 1, 1), (1116, .aload_n 0, 1), (1117, .iload 4, 2), (1119, .iconst 1, 1), (1120, .iadd, 1), (1121, .iaload, 1), (1122, .invokevirtual 124, 3), (1125, .pop, 1), (1126, .aload_n 2, 1), (1127, .aload_n 0, 1), (1128, .iload 4, 2), (1130, .iconst 1, 1), (1131, .iadd, 1), (1132, .iaload, 1), (1133, .invokevirtual 127, 3), (1136, .pop, 1), (1137, .goto 389, 3), (1140, .aload_n 1, 1), (1141, .aload_n 0, 1), (1142, .iload 4, 2), (1144, .iconst 1, 1), (1145, .iadd, 1), (1146, .iaload, 1), (1147, .invokevirtual 128, 3)] = true := by decide +kernel
theorem dL_law_1115 : decode cL_law 1115 = .ok (.aload_n 1, 1) := dq_at zd_dL_law_1115 0 rfl
theorem dL_law_1116 : decode cL_law 1116 = .ok (.aload_n 0, 1) := dq_at zd_dL_law_1115 1 rfl
theorem dL_law_1117 : decode cL_law 1117 = .ok (.iload 4, 2) := dq_at zd_dL_law_1115 2 rfl
theorem dL_law_1119 : decode cL_law 1119 = .ok (.iconst 1, 1) := dq_at zd_dL_law_1115 3 rfl
theorem dL_law_1120 : decode cL_law 1120 = .ok (.iadd, 1) := dq_at zd_dL_law_1115 4 rfl
theorem dL_law_1121 : decode cL_law 1121 = .ok (.iaload, 1) := dq_at zd_dL_law_1115 5 rfl
theorem dL_law_1122 : decode cL_law 1122 = .ok (.invokevirtual 124, 3) := dq_at zd_dL_law_1115 6 rfl
theorem dL_law_1125 : decode cL_law 1125 = .ok (.pop, 1) := dq_at zd_dL_law_1115 7 rfl
theorem dL_law_1126 : decode cL_law 1126 = .ok (.aload_n 2, 1) := dq_at zd_dL_law_1115 8 rfl
theorem dL_law_1127 : decode cL_law 1127 = .ok (.aload_n 0, 1) := dq_at zd_dL_law_1115 9 rfl
theorem dL_law_1128 : decode cL_law 1128 = .ok (.iload 4, 2) := dq_at zd_dL_law_1115 10 rfl
theorem dL_law_1130 : decode cL_law 1130 = .ok (.iconst 1, 1) := dq_at zd_dL_law_1115 11 rfl
theorem dL_law_1131 : decode cL_law 1131 = .ok (.iadd, 1) := dq_at zd_dL_law_1115 12 rfl
theorem dL_law_1132 : decode cL_law 1132 = .ok (.iaload, 1) := dq_at zd_dL_law_1115 13 rfl
theorem dL_law_1133 : decode cL_law 1133 = .ok (.invokevirtual 127, 3) := dq_at zd_dL_law_1115 14 rfl
theorem dL_law_1136 : decode cL_law 1136 = .ok (.pop, 1) := dq_at zd_dL_law_1115 15 rfl
theorem dL_law_1137 : decode cL_law 1137 = .ok (.goto 389, 3) := dq_at zd_dL_law_1115 16 rfl
theorem dL_law_1140 : decode cL_law 1140 = .ok (.aload_n 1, 1) := dq_at zd_dL_law_1115 17 rfl
theorem dL_law_1141 : decode cL_law 1141 = .ok (.aload_n 0, 1) := dq_at zd_dL_law_1115 18 rfl
theorem dL_law_1142 : decode cL_law 1142 = .ok (.iload 4, 2) := dq_at zd_dL_law_1115 19 rfl
theorem dL_law_1144 : decode cL_law 1144 = .ok (.iconst 1, 1) := dq_at zd_dL_law_1115 20 rfl
theorem dL_law_1145 : decode cL_law 1145 = .ok (.iadd, 1) := dq_at zd_dL_law_1115 21 rfl
theorem dL_law_1146 : decode cL_law 1146 = .ok (.iaload, 1) := dq_at zd_dL_law_1115 22 rfl
theorem dL_law_1147 : decode cL_law 1147 = .ok (.invokevirtual 128, 3) := dq_at zd_dL_law_1115 23 rfl
theorem zd_dL_law_1150 : dq cL_law [(1150, .pop, 1), (1151, .aload_n 2, 1), (1152, .aload_n 0, 1), (1153, .iload 4, 2), (1155, .iconst 1, 1), (1156, .iadd, 1), (1157, .iaload, 1), (1158, .invokevirtual 131, 3), (1161, .pop, 1), (1162, .goto 364, 3), (1165, .aload_n 1, 1), (1166, .invokevirtual 132, 3), (1169, .pop, 1), (1170, .aload_n 2, 1), (1171, .invokevirtual 136, 3), (1174, .pop, 1), (1175, .goto 351, 3), (1178, .aload_n 1, 1), (1179, .aload_n 0, 1), (1180, .iload 4, 2), (1182, .iconst 1, 1), (1183, .iadd, 1), (1184, .iaload, 1), (1185, .aload_n 0, 1)] = true := by decide +kernel
theorem dL_law_1150 : decode cL_law 1150 = .ok (.pop, 1) := dq_at zd_dL_law_1150 0 rfl
theorem dL_law_1151 : decode cL_law 1151 = .ok (.aload_n 2, 1) := dq_at zd_dL_law_1150 1 rfl
theorem dL_law_1152 : decode cL_law 1152 = .ok (.aload_n 0, 1) := dq_at zd_dL_law_1150 2 rfl
theorem dL_law_1153 : decode cL_law 1153 = .ok (.iload 4, 2) := dq_at zd_dL_law_1150 3 rfl
theorem dL_law_1155 : decode cL_law 1155 = .ok (.iconst 1, 1) := dq_at zd_dL_law_1150 4 rfl
theorem dL_law_1156 : decode cL_law 1156 = .ok (.iadd, 1) := dq_at zd_dL_law_1150 5 rfl
theorem dL_law_1157 : decode cL_law 1157 = .ok (.iaload, 1) := dq_at zd_dL_law_1150 6 rfl
theorem dL_law_1158 : decode cL_law 1158 = .ok (.invokevirtual 131, 3) := dq_at zd_dL_law_1150 7 rfl
theorem dL_law_1161 : decode cL_law 1161 = .ok (.pop, 1) := dq_at zd_dL_law_1150 8 rfl
theorem dL_law_1162 : decode cL_law 1162 = .ok (.goto 364, 3) := dq_at zd_dL_law_1150 9 rfl
theorem dL_law_1165 : decode cL_law 1165 = .ok (.aload_n 1, 1) := dq_at zd_dL_law_1150 10 rfl
theorem dL_law_1166 : decode cL_law 1166 = .ok (.invokevirtual 132, 3) := dq_at zd_dL_law_1150 11 rfl
theorem dL_law_1169 : decode cL_law 1169 = .ok (.pop, 1) := dq_at zd_dL_law_1150 12 rfl
theorem dL_law_1170 : decode cL_law 1170 = .ok (.aload_n 2, 1) := dq_at zd_dL_law_1150 13 rfl
theorem dL_law_1171 : decode cL_law 1171 = .ok (.invokevirtual 136, 3) := dq_at zd_dL_law_1150 14 rfl
theorem dL_law_1174 : decode cL_law 1174 = .ok (.pop, 1) := dq_at zd_dL_law_1150 15 rfl
theorem dL_law_1175 : decode cL_law 1175 = .ok (.goto 351, 3) := dq_at zd_dL_law_1150 16 rfl
theorem dL_law_1178 : decode cL_law 1178 = .ok (.aload_n 1, 1) := dq_at zd_dL_law_1150 17 rfl
theorem dL_law_1179 : decode cL_law 1179 = .ok (.aload_n 0, 1) := dq_at zd_dL_law_1150 18 rfl
theorem dL_law_1180 : decode cL_law 1180 = .ok (.iload 4, 2) := dq_at zd_dL_law_1150 19 rfl
theorem dL_law_1182 : decode cL_law 1182 = .ok (.iconst 1, 1) := dq_at zd_dL_law_1150 20 rfl
theorem dL_law_1183 : decode cL_law 1183 = .ok (.iadd, 1) := dq_at zd_dL_law_1150 21 rfl
theorem dL_law_1184 : decode cL_law 1184 = .ok (.iaload, 1) := dq_at zd_dL_law_1150 22 rfl
theorem dL_law_1185 : decode cL_law 1185 = .ok (.aload_n 0, 1) := dq_at zd_dL_law_1150 23 rfl
theorem zd_dL_law_1186 : dq cL_law [(1186, .iload 4, 2), (1188, .iconst 2, 1), (1189, .iadd, 1), (1190, .iaload, 1), (1191, .invokevirtual 137, 3), (1194, .pop, 1), (1195, .aload_n 2, 1), (1196, .aload_n 0, 1), (1197, .iload 4, 2), (1199, .iconst 1, 1), (1200, .iadd, 1), (1201, .iaload, 1), (1202, .aload_n 0, 1), (1203, .iload 4, 2), (1205, .iconst 2, 1), (1206, .iadd, 1), (1207, .iaload, 1), (1208, .invokevirtual 140, 3), (1211, .pop, 1), (1212, .goto 314, 3), (1215, .aload_n 1, 1)] = true := by decide +kernel
theorem dL_law_1186 : decode cL_law 1186 = .ok (.iload 4, 2) := dq_at zd_dL_law_1186 0 rfl
theorem dL_law_1188 : decode cL_law 1188 = .ok (.iconst 2, 1) := dq_at zd_dL_law_1186 1 rfl
theorem dL_law_1189 : decode cL_law 1189 = .ok (.iadd, 1) := dq_at zd_dL_law_1186 2 rfl
theorem dL_law_1190 : decode cL_law 1190 = .ok (.iaload, 1) := dq_at zd_dL_law_1186 3 rfl
theorem dL_law_1191 : decode cL_law 1191 = .ok (.invokevirtual 137, 3) := dq_at zd_dL_law_1186 4 rfl
theorem dL_law_1194 : decode cL_law 1194 = .ok (.pop, 1) := dq_at zd_dL_law_1186 5 rfl
theorem dL_law_1195 : decode cL_law 1195 = .ok (.aload_n 2, 1) := dq_at zd_dL_law_1186 6 rfl
theorem dL_law_1196 : decode cL_law 1196 = .ok (.aload_n 0, 1) := dq_at zd_dL_law_1186 7 rfl
theorem dL_law_1197 : decode cL_law 1197 = .ok (.iload 4, 2) := dq_at zd_dL_law_1186 8 rfl
theorem dL_law_1199 : decode cL_law 1199 = .ok (.iconst 1, 1) := dq_at zd_dL_law_1186 9 rfl
theorem dL_law_1200 : decode cL_law 1200 = .ok (.iadd, 1) := dq_at zd_dL_law_1186 10 rfl
theorem dL_law_1201 : decode cL_law 1201 = .ok (.iaload, 1) := dq_at zd_dL_law_1186 11 rfl
theorem dL_law_1202 : decode cL_law 1202 = .ok (.aload_n 0, 1) := dq_at zd_dL_law_1186 12 rfl
theorem dL_law_1203 : decode cL_law 1203 = .ok (.iload 4, 2) := dq_at zd_dL_law_1186 13 rfl
theorem dL_law_1205 : decode cL_law 1205 = .ok (.iconst 2, 1) := dq_at zd_dL_law_1186 14 rfl
theorem dL_law_1206 : decode cL_law 1206 = .ok (.iadd, 1) := dq_at zd_dL_law_1186 15 rfl
theorem dL_law_1207 : decode cL_law 1207 = .ok (.iaload, 1) := dq_at zd_dL_law_1186 16 rfl
theorem dL_law_1208 : decode cL_law 1208 = .ok (.invokevirtual 140, 3) := dq_at zd_dL_law_1186 17 rfl
theorem dL_law_1211 : decode cL_law 1211 = .ok (.pop, 1) := dq_at zd_dL_law_1186 18 rfl
theorem dL_law_1212 : decode cL_law 1212 = .ok (.goto 314, 3) := dq_at zd_dL_law_1186 19 rfl
theorem dL_law_1215 : decode cL_law 1215 = .ok (.aload_n 1, 1) := dq_at zd_dL_law_1186 20 rfl
