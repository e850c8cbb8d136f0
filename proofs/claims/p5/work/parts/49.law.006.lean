theorem dL_law_1050 : decode cL_law 1050 = .ok (.iconst 2, 1) := zd_dL_law_1036.1.2.2.1.2
theorem dL_law_1051 : decode cL_law 1051 = .ok (.iadd, 1) := zd_dL_law_1036.1.2.2.2
theorem dL_law_1052 : decode cL_law 1052 = .ok (.iaload, 1) := zd_dL_law_1036.2.1.1.1.1
theorem dL_law_1053 : decode cL_law 1053 = .ok (.aload_n 0, 1) := zd_dL_law_1036.2.1.1.1.2
theorem dL_law_1054 : decode cL_law 1054 = .ok (.iload 4, 2) := zd_dL_law_1036.2.1.1.2
theorem dL_law_1056 : decode cL_law 1056 = .ok (.iconst 3, 1) := zd_dL_law_1036.2.1.2.1.1
theorem dL_law_1057 : decode cL_law 1057 = .ok (.iadd, 1) := zd_dL_law_1036.2.1.2.1.2
theorem dL_law_1058 : decode cL_law 1058 = .ok (.iaload, 1) := zd_dL_law_1036.2.1.2.2
theorem dL_law_1059 : decode cL_law 1059 = .ok (.invokevirtual 119, 3) := zd_dL_law_1036.2.2.1.1.1
theorem dL_law_1062 : decode cL_law 1062 = .ok (.pop, 1) := zd_dL_law_1036.2.2.1.1.2
theorem dL_law_1063 : decode cL_law 1063 = .ok (.goto 463, 3) := zd_dL_law_1036.2.2.1.2
theorem dL_law_1066 : decode cL_law 1066 = .ok (.aload_n 1, 1) := zd_dL_law_1036.2.2.2.1.1
theorem dL_law_1067 : decode cL_law 1067 = .ok (.aload_n 0, 1) := zd_dL_law_1036.2.2.2.1.2
theorem dL_law_1068 : decode cL_law 1068 = .ok (.iload 4, 2) := zd_dL_law_1036.2.2.2.2
theorem zd_dL_law_1070 : ((((((decode cL_law 1070 = .ok (.iconst 1, 1)) ∧ (decode cL_law 1071 = .ok (.iadd, 1))) ∧ (decode cL_law 1072 = .ok (.iaload, 1))) ∧ (((decode cL_law 1073 = .ok (.aload_n 0, 1)) ∧ (decode cL_law 1074 = .ok (.iload 4, 2))) ∧ (decode cL_law 1076 = .ok (.iconst 2, 1)))) ∧ ((((decode cL_law 1077 = .ok (.iadd, 1)) ∧ (decode cL_law 1078 = .ok (.iaload, 1))) ∧ (decode cL_law 1079 = .ok (.aload_n 0, 1))) ∧ (((decode cL_law 1080 = .ok (.iload 4, 2)) ∧ (decode cL_law 1082 = .ok (.iconst 3, 1))) ∧ (decode cL_law 1083 = .ok (.iadd, 1))))) ∧ (((((decode cL_law 1084 = .ok (.iaload, 1)) ∧ (decode cL_law 1085 = .ok (.invokevirtual 120, 3))) ∧ (decode cL_law 1088 = .ok (.pop, 1))) ∧ (((decode cL_law 1089 = .ok (.aload_n 2, 1)) ∧ (decode cL_law 1090 = .ok (.aload_n 0, 1))) ∧ (decode cL_law 1091 = .ok (.iload 4, 2)))) ∧ ((((decode cL_law 1093 = .ok (.iconst 1, 1)) ∧ (decode cL_law 1094 = .ok (.iadd, 1))) ∧ (decode cL_law 1095 = .ok (.iaload, 1))) ∧ (((decode cL_law 1096 = .ok (.aload_n 0, 1)) ∧ (decode cL_law 1097 = .ok (.iload 4, 2))) ∧ (decode cL_law 1099 = .ok (.iconst 2, 1)))))) := by decide +kernel
theorem dL_law_1070 : decode cL_law 1070 = .ok (.iconst 1, 1) := zd_dL_law_1070.1.1.1.1.1
theorem dL_law_1071 : decode cL_law 1071 = .ok (.iadd, 1) := zd_dL_law_1070.1.1.1.1.2
theorem dL_law_1072 : decode cL_law 1072 = .ok (.iaload, 1) := zd_dL_law_1070.1.1.1.2
theorem dL_law_1073 : decode cL_law 1073 = .ok (.aload_n 0, 1) := zd_dL_law_1070.1.1.2.1.1
theorem dL_law_1074 : decode cL_law 1074 = .ok (.iload 4, 2) := zd_dL_law_1070.1.1.2.1.2
theorem dL_law_1076 : decode cL_law 1076 = .ok (.iconst 2, 1) := zd_dL_law_1070.1.1.2.2
theorem dL_law_1077 : decode cL_law 1077 = .ok (.iadd, 1) := zd_dL_law_1070.1.2.1.1.1
theorem dL_law_1078 : decode cL_law 1078 = .ok (.iaload, 1) := zd_dL_law_1070.1.2.1.1.2
theorem dL_law_1079 : decode cL_law 1079 = .ok (.aload_n 0, 1) := zd_dL_law_1070.1.2.1.2
theorem dL_law_1080 : decode cL_law 1080 = .ok (.iload 4, 2) := zd_dL_law_1070.1.2.2.1.1
theorem dL_law_1082 : decode cL_law 1082 = .ok (.iconst 3, 1) := zd_dL_law_1070.1.2.2.1.2
theorem dL_law_1083 : decode cL_law 1083 = .ok (.iadd, 1) := zd_dL_law_1070.1.2.2.2
theorem dL_law_1084 : decode cL_law 1084 = .ok (.iaload, 1) := zd_dL_law_1070.2.1.1.1.1
theorem dL_law_1085 : decode cL_law 1085 = .ok (.invokevirtual 120, 3) := zd_dL_law_1070.2.1.1.1.2
theorem dL_law_1088 : decode cL_law 1088 = .ok (.pop, 1) := zd_dL_law_1070.2.1.1.2
theorem dL_law_1089 : decode cL_law 1089 = .ok (.aload_n 2, 1) := zd_dL_law_1070.2.1.2.1.1
theorem dL_law_1090 : decode cL_law 1090 = .ok (.aload_n 0, 1) := zd_dL_law_1070.2.1.2.1.2
theorem dL_law_1091 : decode cL_law 1091 = .ok (.iload 4, 2) := zd_dL_law_1070.2.1.2.2
theorem dL_law_1093 : decode cL_law 1093 = .ok (.iconst 1, 1) := zd_dL_law_1070.2.2.1.1.1
theorem dL_law_1094 : decode cL_law 1094 = .ok (.iadd, 1) := zd_dL_law_1070.2.2.1.1.2
theorem dL_law_1095 : decode cL_law 1095 = .ok (.iaload, 1) := zd_dL_law_1070.2.2.1.2
theorem dL_law_1096 : decode cL_law 1096 = .ok (.aload_n 0, 1) := zd_dL_law_1070.2.2.2.1.1
theorem dL_law_1097 : decode cL_law 1097 = .ok (.iload 4, 2) := zd_dL_law_1070.2.2.2.1.2
theorem dL_law_1099 : decode cL_law 1099 = .ok (.iconst 2, 1) := zd_dL_law_1070.2.2.2.2
theorem zd_dL_law_1100 : ((((((decode cL_law 1100 = .ok (.iadd, 1)) ∧ (decode cL_law 1101 = .ok (.iaload, 1))) ∧ (decode cL_law 1102 = .ok (.aload_n 0, 1))) ∧ (((decode cL_law 1103 = .ok (.iload 4, 2)) ∧ (decode cL_law 1105 = .ok (.iconst 3, 1))) ∧ (decode cL_law 1106 = .ok (.iadd, 1)))) ∧ ((((decode cL_law 1107 = .ok (.iaload, 1)) ∧ (decode cL_law 1108 = .ok (.invokevirtual 123, 3))) ∧ (decode cL_law 1111 = .ok (.pop, 1))) ∧ (((decode cL_law 1112 = .ok (.goto 414, 3)) ∧ (decode cL_law 1115 = .ok (.aload_n 1, 1))) ∧ (decode cL_law 1116 = .ok (.aload_n 0, 1))))) ∧ (((((decode cL_law 1117 = .ok (.iload 4, 2)) ∧ (decode cL_law 1119 = .ok (.iconst 1, 1))) ∧ (decode cL_law 1120 = .ok (.iadd, 1))) ∧ (((decode cL_law 1121 = .ok (.iaload, 1)) ∧ (decode cL_law 1122 = .ok (.invokevirtual 124, 3))) ∧ (decode cL_law 1125 = .ok (.pop, 1)))) ∧ ((((decode cL_law 1126 = .ok (.aload_n 2, 1)) ∧ (decode cL_law 1127 = .ok (.aload_n 0, 1))) ∧ (decode cL_law 1128 = .ok (.iload 4, 2))) ∧ (((decode cL_law 1130 = .ok (.iconst 1, 1)) ∧ (decode cL_law 1131 = .ok (.iadd, 1))) ∧ (decode cL_law 1132 = .ok (.iaload, 1)))))) := by decide +kernel
theorem dL_law_1100 : decode cL_law 1100 = .ok (.iadd, 1) := zd_dL_law_1100.1.1.1.1.1
theorem dL_law_1101 : decode cL_law 1101 = .ok (.iaload, 1) := zd_dL_law_1100.1.1.1.1.2
theorem dL_law_1102 : decode cL_law 1102 = .ok (.aload_n 0, 1) := zd_dL_law_1100.1.1.1.2
theorem dL_law_1103 : decode cL_law 1103 = .ok (.iload 4, 2) := zd_dL_law_1100.1.1.2.1.1
theorem dL_law_1105 : decode cL_law 1105 = .ok (.iconst 3, 1) := zd_dL_law_1100.1.1.2.1.2
theorem dL_law_1106 : decode cL_law 1106 = .ok (.iadd, 1) := zd_dL_law_1100.1.1.2.2
theorem dL_law_1107 : decode cL_law 1107 = .ok (.iaload, 1) := zd_dL_law_1100.1.2.1.1.1
theorem dL_law_1108 : decode cL_law 1108 = .ok (.invokevirtual 123, 3) := zd_dL_law_1100.1.2.1.1.2
theorem dL_law_1111 : decode cL_law 1111 = .ok (.pop, 1) := zd_dL_law_1100.1.2.1.2
theorem dL_law_1112 : decode cL_law 1112 = .ok (.goto 414, 3) := zd_dL_law_1100.1.2.2.1.1
theorem dL_law_1115 : decode cL_law 1115 = .ok (.aload_n 1, 1) := zd_dL_law_1100.1.2.2.1.2
theorem dL_law_1116 : decode cL_law 1116 = .ok (.aload_n 0, 1) := zd_dL_law_1100.1.2.2.2
theorem dL_law_1117 : decode cL_law 1117 = .ok (.iload 4, 2) := zd_dL_law_1100.2.1.1.1.1
theorem dL_law_1119 : decode cL_law 1119 = .ok (.iconst 1, 1) := zd_dL_law_1100.2.1.1.1.2
theorem dL_law_1120 : decode cL_law 1120 = .ok (.iadd, 1) := zd_dL_law_1100.2.1.1.2
theorem dL_law_1121 : decode cL_law 1121 = .ok (.iaload, 1) := zd_dL_law_1100.2.1.2.1.1
theorem dL_law_1122 : decode cL_law 1122 = .ok (.invokevirtual 124, 3) := zd_dL_law_1100.2.1.2.1.2
theorem dL_law_1125 : decode cL_law 1125 = .ok (.pop, 1) := zd_dL_law_1100.2.1.2.2
theorem dL_law_1126 : decode cL_law 1126 = .ok (.aload_n 2, 1) := zd_dL_law_1100.2.2.1.1.1
theorem dL_law_1127 : decode cL_law 1127 = .ok (.aload_n 0, 1) := zd_dL_law_1100.2.2.1.1.2
theorem dL_law_1128 : decode cL_law 1128 = .ok (.iload 4, 2) := zd_dL_law_1100.2.2.1.2
theorem dL_law_1130 : decode cL_law 1130 = .ok (.iconst 1, 1) := zd_dL_law_1100.2.2.2.1.1
theorem dL_law_1131 : decode cL_law 1131 = .ok (.iadd, 1) := zd_dL_law_1100.2.2.2.1.2
theorem dL_law_1132 : decode cL_law 1132 = .ok (.iaload, 1) := zd_dL_law_1100.2.2.2.2
theorem zd_dL_law_1133 : ((((((decode cL_law 1133 = .ok (.invokevirtual 127, 3)) ∧ (decode cL_law 1136 = .ok (.pop, 1))) ∧ (decode cL_law 1137 = .ok (.goto 389, 3))) ∧ (((decode cL_law 1140 = .ok (.aload_n 1, 1)) ∧ (decode cL_law 1141 = .ok (.aload_n 0, 1))) ∧ (decode cL_law 1142 = .ok (.iload 4, 2)))) ∧ ((((decode cL_law 1144 = .ok (.iconst 1, 1)) ∧ (decode cL_law 1145 = .ok (.iadd, 1))) ∧ (decode cL_law 1146 = .ok (.iaload, 1))) ∧ (((decode cL_law 1147 = .ok (.invokevirtual 128, 3)) ∧ (decode cL_law 1150 = .ok (.pop, 1))) ∧ (decode cL_law 1151 = .ok (.aload_n 2, 1))))) ∧ (((((decode cL_law 1152 = .ok (.aload_n 0, 1)) ∧ (decode cL_law 1153 = .ok (.iload 4, 2))) ∧ (decode cL_law 1155 = .ok (.iconst 1, 1))) ∧ (((decode cL_law 1156 = .ok (.iadd, 1)) ∧ (decode cL_law 1157 = .ok (.iaload, 1))) ∧ (decode cL_law 1158 = .ok (.invokevirtual 131, 3)))) ∧ ((((decode cL_law 1161 = .ok (.pop, 1)) ∧ (decode cL_law 1162 = .ok (.goto 364, 3))) ∧ (decode cL_law 1165 = .ok (.aload_n 1, 1))) ∧ (((decode cL_law 1166 = .ok (.invokevirtual 132, 3)) ∧ (decode cL_law 1169 = .ok (.pop, 1))) ∧ (decode cL_law 1170 = .ok (.aload_n 2, 1)))))) := by decide +kernel
theorem dL_law_1133 : decode cL_law 1133 = .ok (.invokevirtual 127, 3) := zd_dL_law_1133.1.1.1.1.1
theorem dL_law_1136 : decode cL_law 1136 = .ok (.pop, 1) := zd_dL_law_1133.1.1.1.1.2
theorem dL_law_1137 : decode cL_law 1137 = .ok (.goto 389, 3) := zd_dL_law_1133.1.1.1.2
theorem dL_law_1140 : decode cL_law 1140 = .ok (.aload_n 1, 1) := zd_dL_law_1133.1.1.2.1.1
theorem dL_law_1141 : decode cL_law 1141 = .ok (.aload_n 0, 1) := zd_dL_law_1133.1.1.2.1.2
theorem dL_law_1142 : decode cL_law 1142 = .ok (.iload 4, 2) := zd_dL_law_1133.1.1.2.2
theorem dL_law_1144 : decode cL_law 1144 = .ok (.iconst 1, 1) := zd_dL_law_1133.1.2.1.1.1
theorem dL_law_1145 : decode cL_law 1145 = .ok (.iadd, 1) := zd_dL_law_1133.1.2.1.1.2
theorem dL_law_1146 : decode cL_law 1146 = .ok (.iaload, 1) := zd_dL_law_1133.1.2.1.2
theorem dL_law_1147 : decode cL_law 1147 = .ok (.invokevirtual 128, 3) := zd_dL_law_1133.1.2.2.1.1
theorem dL_law_1150 : decode cL_law 1150 = .ok (.pop, 1) := zd_dL_law_1133.1.2.2.1.2
theorem dL_law_1151 : decode cL_law 1151 = .ok (.aload_n 2, 1) := zd_dL_law_1133.1.2.2.2
theorem dL_law_1152 : decode cL_law 1152 = .ok (.aload_n 0, 1) := zd_dL_law_1133.2.1.1.1.1
theorem dL_law_1153 : decode cL_law 1153 = .ok (.iload 4, 2) := zd_dL_law_1133.2.1.1.1.2
theorem dL_law_1155 : decode cL_law 1155 = .ok (.iconst 1, 1) := zd_dL_law_1133.2.1.1.2
theorem dL_law_1156 : decode cL_law 1156 = .ok (.iadd, 1) := zd_dL_law_1133.2.1.2.1.1
theorem dL_law_1157 : decode cL_law 1157 = .ok (.iaload, 1) := zd_dL_law_1133.2.1.2.1.2
theorem dL_law_1158 : decode cL_law 1158 = .ok (.invokevirtual 131, 3) := zd_dL_law_1133.2.1.2.2
theorem dL_law_1161 : decode cL_law 1161 = .ok (.pop, 1) := zd_dL_law_1133.2.2.1.1.1
theorem dL_law_1162 : decode cL_law 1162 = .ok (.goto 364, 3) := zd_dL_law_1133.2.2.1.1.2
theorem dL_law_1165 : decode cL_law 1165 = .ok (.aload_n 1, 1) := zd_dL_law_1133.2.2.1.2
theorem dL_law_1166 : decode cL_law 1166 = .ok (.invokevirtual 132, 3) := zd_dL_law_1133.2.2.2.1.1
theorem dL_law_1169 : decode cL_law 1169 = .ok (.pop, 1) := zd_dL_law_1133.2.2.2.1.2
theorem dL_law_1170 : decode cL_law 1170 = .ok (.aload_n 2, 1) := zd_dL_law_1133.2.2.2.2
theorem zd_dL_law_1171 : ((((((decode cL_law 1171 = .ok (.invokevirtual 136, 3)) ∧ (decode cL_law 1174 = .ok (.pop, 1))) ∧ (decode cL_law 1175 = .ok (.goto 351, 3))) ∧ (((decode cL_law 1178 = .ok (.aload_n 1, 1)) ∧ (decode cL_law 1179 = .ok (.aload_n 0, 1))) ∧ (decode cL_law 1180 = .ok (.iload 4, 2)))) ∧ ((((decode cL_law 1182 = .ok (.iconst 1, 1)) ∧ (decode cL_law 1183 = .ok (.iadd, 1))) ∧ (decode cL_law 1184 = .ok (.iaload, 1))) ∧ (((decode cL_law 1185 = .ok (.aload_n 0, 1)) ∧ (decode cL_law 1186 = .ok (.iload 4, 2))) ∧ (decode cL_law 1188 = .ok (.iconst 2, 1))))) ∧ (((((decode cL_law 1189 = .ok (.iadd, 1)) ∧ (decode cL_law 1190 = .ok (.iaload, 1))) ∧ (decode cL_law 1191 = .ok (.invokevirtual 137, 3))) ∧ (((decode cL_law 1194 = .ok (.pop, 1)) ∧ (decode cL_law 1195 = .ok (.aload_n 2, 1))) ∧ (decode cL_law 1196 = .ok (.aload_n 0, 1)))) ∧ ((((decode cL_law 1197 = .ok (.iload 4, 2)) ∧ (decode cL_law 1199 = .ok (.iconst 1, 1))) ∧ (decode cL_law 1200 = .ok (.iadd, 1))) ∧ (((decode cL_law 1201 = .ok (.iaload, 1)) ∧ (decode cL_law 1202 = .ok (.aload_n 0, 1))) ∧ (decode cL_law 1203 = .ok (.iload 4, 2)))))) := by decide +kernel
theorem dL_law_1171 : decode cL_law 1171 = .ok (.invokevirtual 136, 3) := zd_dL_law_1171.1.1.1.1.1
theorem dL_law_1174 : decode cL_law 1174 = .ok (.pop, 1) := zd_dL_law_1171.1.1.1.1.2
theorem dL_law_1175 : decode cL_law 1175 = .ok (.goto 351, 3) := zd_dL_law_1171.1.1.1.2
theorem dL_law_1178 : decode cL_law 1178 = .ok (.aload_n 1, 1) := zd_dL_law_1171.1.1.2.1.1
theorem dL_law_1179 : decode cL_law 1179 = .ok (.aload_n 0, 1) := zd_dL_law_1171.1.1.2.1.2
theorem dL_law_1180 : decode cL_law 1180 = .ok (.iload 4, 2) := zd_dL_law_1171.1.1.2.2
theorem dL_law_1182 : decode cL_law 1182 = .ok (.iconst 1, 1) := zd_dL_law_1171.1.2.1.1.1
theorem dL_law_1183 : decode cL_law 1183 = .ok (.iadd, 1) := zd_dL_law_1171.1.2.1.1.2
theorem dL_law_1184 : decode cL_law 1184 = .ok (.iaload, 1) := zd_dL_law_1171.1.2.1.2
theorem dL_law_1185 : decode cL_law 1185 = .ok (.aload_n 0, 1) := zd_dL_law_1171.1.2.2.1.1
theorem dL_law_1186 : decode cL_law 1186 = .ok (.iload 4, 2) := zd_dL_law_1171.1.2.2.1.2
theorem dL_law_1188 : decode cL_law 1188 = .ok (.iconst 2, 1) := zd_dL_law_1171.1.2.2.2
theorem dL_law_1189 : decode cL_law 1189 = .ok (.iadd, 1) := zd_dL_law_1171.2.1.1.1.1
theorem dL_law_1190 : decode cL_law 1190 = .ok (.iaload, 1) := zd_dL_law_1171.2.1.1.1.2
theorem dL_law_1191 : decode cL_law 1191 = .ok (.invokevirtual 137, 3) := zd_dL_law_1171.2.1.1.2
theorem dL_law_1194 : decode cL_law 1194 = .ok (.pop, 1) := zd_dL_law_1171.2.1.2.1.1
theorem dL_law_1195 : decode cL_law 1195 = .ok (.aload_n 2, 1) := zd_dL_law_1171.2.1.2.1.2
theorem dL_law_1196 : decode cL_law 1196 = .ok (.aload_n 0, 1) := zd_dL_law_1171.2.1.2.2
theorem dL_law_1197 : decode cL_law 1197 = .ok (.iload 4, 2) := zd_dL_law_1171.2.2.1.1.1
theorem dL_law_1199 : decode cL_law 1199 = .ok (.iconst 1, 1) := zd_dL_law_1171.2.2.1.1.2
theorem dL_law_1200 : decode cL_law 1200 = .ok (.iadd, 1) := zd_dL_law_1171.2.2.1.2
theorem dL_law_1201 : decode cL_law 1201 = .ok (.iaload, 1) := zd_dL_law_1171.2.2.2.1.1
theorem dL_law_1202 : decode cL_law 1202 = .ok (.aload_n 0, 1) := zd_dL_law_1171.2.2.2.1.2
theorem dL_law_1203 : decode cL_law 1203 = .ok (.iload 4, 2) := zd_dL_law_1171.2.2.2.2
theorem zd_dL_law_1205 : ((((((decode cL_law 1205 = .ok (.iconst 2, 1)) ∧ (decode cL_law 1206 = .ok (.iadd, 1))) ∧ (decode cL_law 1207 = .ok (.iaload, 1))) ∧ (((decode cL_law 1208 = .ok (.invokevirtual 140, 3)) ∧ (decode cL_law 1211 = .ok (.pop, 1))) ∧ (decode cL_law 1212 = .ok (.goto 314, 3)))) ∧ ((((decode cL_law 1215 = .ok (.aload_n 1, 1)) ∧ (decode cL_law 1216 = .ok (.aload_n 0, 1))) ∧ (decode cL_law 1217 = .ok (.iload 4, 2))) ∧ (((decode cL_law 1219 = .ok (.iconst 1, 1)) ∧ (decode cL_law 1220 = .ok (.iadd, 1))) ∧ (decode cL_law 1221 = .ok (.iaload, 1))))) ∧ (((((decode cL_law 1222 = .ok (.invokevirtual 141, 3)) ∧ (decode cL_law 1225 = .ok (.pop, 1))) ∧ (decode cL_law 1226 = .ok (.aload_n 2, 1))) ∧ (((decode cL_law 1227 = .ok (.aload_n 0, 1)) ∧ (decode cL_law 1228 = .ok (.iload 4, 2))) ∧ (decode cL_law 1230 = .ok (.iconst 1, 1)))) ∧ ((((decode cL_law 1231 = .ok (.iadd, 1)) ∧ (decode cL_law 1232 = .ok (.iaload, 1))) ∧ (decode cL_law 1233 = .ok (.invokevirtual 144, 3))) ∧ (((decode cL_law 1236 = .ok (.pop, 1)) ∧ (decode cL_law 1237 = .ok (.goto 289, 3))) ∧ (decode cL_law 1240 = .ok (.aload_n 1, 1)))))) := by decide +kernel
theorem dL_law_1205 : decode cL_law 1205 = .ok (.iconst 2, 1) := zd_dL_law_1205.1.1.1.1.1
theorem dL_law_1206 : decode cL_law 1206 = .ok (.iadd, 1) := zd_dL_law_1205.1.1.1.1.2
theorem dL_law_1207 : decode cL_law 1207 = .ok (.iaload, 1) := zd_dL_law_1205.1.1.1.2
theorem dL_law_1208 : decode cL_law 1208 = .ok (.invokevirtual 140, 3) := zd_dL_law_1205.1.1.2.1.1
theorem dL_law_1211 : decode cL_law 1211 = .ok (.pop, 1) := zd_dL_law_1205.1.1.2.1.2
theorem dL_law_1212 : decode cL_law 1212 = .ok (.goto 314, 3) := zd_dL_law_1205.1.1.2.2
theorem dL_law_1215 : decode cL_law 1215 = .ok (.aload_n 1, 1) := zd_dL_law_1205.1.2.1.1.1
